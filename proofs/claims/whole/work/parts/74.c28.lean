/-- nothing has changed but the State d, which the place k of P names -/
def Grs (base P k : Nat) (op : Option Nat) (Y : MY) (I : MI) (L : ML) (Y' : MY) (I' : MI) (L' : ML) (d : Nat) : Prop :=
  (Y'.2.2 P k = some d ∧ SLy base Y' d) ∧ ((op = some d ∧ Y' = Y) ∨ (op = none ∧ d = base + Y.1 ∧ Y'.1 = Y.1 + 206)) ∧ (∀ y, y < base + Y.1 → (y < d ∨ d + 206 ≤ y) → Y'.2.1 y = Y.2.1 y ∧ (y ≠ P → Y'.2.2 y = Y.2.2 y) ∧ I' y = I y ∧ L' y = L y) ∧ (∀ j, j ≠ k → Y'.2.2 P j = Y.2.2 P j)
theorem Grw.s' {base F c : Nat} {cp : Option Nat} {Y Y' : MY} {I I' : MI} {L L' : ML} (h : Grw base F cp Y I L Y' I' L' c) : Grs base F 2 cp Y I L Y' I' L' c := h
theorem cI_two {I : MI} {B : Nat} {X X' : Sa} : cI (cI I B X) B X' = cI I B X' := by
  funext y k
  unfold cI mI
  by_cases h : B ≤ y ∧ y < B + 206
  · rw [if_pos h, if_pos h]
  · rw [if_neg h, if_neg h, if_neg h]
theorem cL_two {L : ML} {B : Nat} {X X' : Sa} : cL (cL L B X) B X' = cL L B X' := by
  funext y k
  unfold cL mL
  by_cases h : B ≤ y ∧ y < B + 206
  · rw [if_pos h, if_pos h]
  · rw [if_neg h, if_neg h, if_neg h]
set_option maxHeartbeats 4000000 in
set_option maxRecDepth 20000 in
theorem k_svA {l : Launch} {G : Gd} {base : Nat} {Y : MY} {I : MI} {L : ML} {F B S : Nat} {X a : Sa} {N T s : Int} (hs0 : -2147483648 ≤ s ∧ s < 2147483648) (hI : Inv N T a) (hR : Rl true a X) (hN : NowOK a) (hPc : PcOK a) (hF : FLn base Y F B) (hS : SLy base Y B) (hFs : Y.2.2 F 1 = some S) (hSl : Is base Y S (.inr (7, 2))) (hFB : F < B) (hBS : B + 206 ≤ S) {d0 : Nat} (hop : Y.2.2 S s.toNat = some d0) (hSd : SLy base Y d0) (hSd2 : S < d0) : Ct l yX5_save cX5_save 2 (some .int) { frames := 11, cells := 206, slots := 2279, locals := 430 } G base [.ref F, .int (iI s)] Y (cI I B X) (cL L B X) (fun v Y' I' L' => (¬ (0 ≤ s ∧ s ≤ 1) ∧ v = some (.int (iI (-2))) ∧ Y' = Y ∧ I' = cI I B X ∧ L' = cL L B X) ∨ ((0 ≤ s ∧ s ≤ 1) ∧ v = some (.int (iI (a 0))) ∧ ∃ d X2, Rl true a X2 ∧ Grs base S s.toNat (some d0) Y (cI I B X) (cL L B X) Y' I' L' d ∧ I' = cI I' B X ∧ L' = cL L' B X ∧ I' = cI I' d X2 ∧ L' = cL L' d X2)) := by
  refine Ct.of (own := RX5) (lo := [(0, .ref F), (1, .int (iI s))]) (by decide) rfl (Nat.le_of_ble_eq_true rfl) rfl ?_
  intro zp ze zs zm zargs zbl zmt zc C hr hlk hnm
  refine r_iload_n C 1 dX5_save_0 rfl rfl ?_
  refine n_if_lt (tgt := 9) C dX5_save_1 (by decide) hs0 (fun c1 => ?_) (fun c1 => ?_)
  · refine r_bipush (v := iI (-2)) C dX5_save_9 (by decide) ?_
    refine r_iret C hr hlk dX5_save_11 (Nat.zero_le _) (Nat.zero_le _) ?_
    exact Or.inl ⟨by omega, rfl, rfl, rfl, rfl⟩
  refine r_iload_n C 1 dX5_save_4 rfl rfl ?_
  refine r_iconst (v := iI 2) C dX5_save_5 rfl ?_
  refine n_icmp_lt (tgt := 12) C dX5_save_6 (by decide) hs0 ⟨by decide, by decide⟩ (fun c6 => ?_) (fun c6 => ?_)
  rotate_left
  · refine r_bipush (v := iI (-2)) C dX5_save_9 (by decide) ?_
    refine r_iret C hr hlk dX5_save_11 (Nat.zero_le _) (Nat.zero_le _) ?_
    exact Or.inl ⟨by omega, rfl, rfl, rfl, rfl⟩
  obtain ⟨j, hj⟩ := Int.eq_ofNat_of_zero_le (show 0 ≤ s by omega)
  have hsj : s.toNat = j := by omega
  have hIx : Ix (iI s) j 2 := ⟨congrArg iI hj, by omega, by decide⟩
  rw [hsj]
  rw [hsj] at hop
  refine r_aload_n C 0 dX5_save_12 rfl rfl ?_
  refine r_getR C fl_X5_16 rfl dX5_save_13 hF.1 hFs ?_
  refine r_iload_n C 1 dX5_save_16 rfl rfl ?_
  refine r_aald C (by decide) (by decide) j dX5_save_17 hSl hIx hop ?_
  refine r_ifnonnull (tgt := 34) C dX5_save_18 (by decide) ?_
  refine r_eqI (mk_I (L := cL L B X) (B := d0)) ?_
  refine r_eqL (mk_L (I := cI I B X) (B := d0)) ?_
  refine r_aload_n C 0 dX5_save_34 rfl rfl ?_
  refine r_getR C fl_X5_16 rfl dX5_save_35 hF.1 hFs ?_
  refine r_iload_n C 1 dX5_save_38 rfl rfl ?_
  refine r_aald C (by decide) (by decide) j dX5_save_39 hSl hIx hop ?_
  refine r_aload_n C 0 dX5_save_40 rfl rfl ?_
  refine r_getR C fl_X5_10 rfl dX5_save_41 hF.1 hF.2 ?_
  refine cV1_EV C (k_X4_copyFrom (B := d0) (D := B) hSd hS (Or.inr (by omega)) hI hR hN hPc) cw_X5_289 (rm_ok rfl rfl (Nat.zero_le _) (Nat.zero_le _)) (Nat.le_of_ble_eq_true rfl) hSd.1.1 dX5_save_44 (fun I44 L44 h44 => ?_)
  obtain ⟨X2, hR2, eI44, eL44⟩ := h44
  have jB : I44 = cI I44 B X := by
    rw [eI44]
    exact cI_same (I := cI I B X) (by exact cI_idem) (fun y y1 y2 => cI_out (by omega))
  have kB : L44 = cL L44 B X := by
    rw [eL44]
    exact cL_same (L := cL L B X) (by exact cL_idem) (fun y y1 y2 => cL_out (by omega))
  have jc : I44 = cI I44 d0 X2 := by rw [eI44]; exact cI_idem
  have kc : L44 = cL L44 d0 X2 := by rw [eL44]; exact cL_idem
  refine r_aload_n C 0 dX5_save_47 rfl rfl ?_
  refine r_getR C fl_X5_10 rfl dX5_save_48 hF.1 hF.2 ?_
  refine r_eqI jB ?_
  refine r_eqL kB ?_
  refine c_getI C (v := a 0) 0 0 rfl (by decide) (lnS (by decide)) rfl fl_X5_146 rfl dX5_save_51 hS.1.1 (hR.n 0 (by decide) (by decide)) ?_
  refine r_eqI jB.symm ?_
  refine r_eqL kB.symm ?_
  refine r_iret C hr hlk dX5_save_54 (Nat.zero_le _) (Nat.zero_le _) ?_
  refine Or.inr ⟨by omega, rfl, d0, X2, hR2, ⟨⟨hop, hSd⟩, Or.inl ⟨rfl, rfl⟩, fun y y1 y2 => ⟨rfl, fun _ => rfl, by rw [eI44]; exact cI_out y2, by rw [eL44]; exact cL_out y2⟩, fun _ _ => rfl⟩, jB, kB, jc, kc⟩
set_option maxHeartbeats 4000000 in
set_option maxRecDepth 20000 in
theorem k_svB {l : Launch} {G : Gd} {base : Nat} {Y : MY} {I : MI} {L : ML} {F B S : Nat} {X a : Sa} {N T s : Int} (hs0 : -2147483648 ≤ s ∧ s < 2147483648) (hI : Inv N T a) (hR : Rl true a X) (hN : NowOK a) (hPc : PcOK a) (hF : FLn base Y F B) (hS : SLy base Y B) (hFs : Y.2.2 F 1 = some S) (hSl : Is base Y S (.inr (7, 2))) (hFB : F < B) (hBS : B + 206 ≤ S) (hop : Y.2.2 S s.toNat = none) : Ct l yX5_save cX5_save 2 (some .int) { frames := 11, cells := 206, slots := 2279, locals := 430 } G base [.ref F, .int (iI s)] Y (cI I B X) (cL L B X) (fun v Y' I' L' => (¬ (0 ≤ s ∧ s ≤ 1) ∧ v = some (.int (iI (-2))) ∧ Y' = Y ∧ I' = cI I B X ∧ L' = cL L B X) ∨ ((0 ≤ s ∧ s ≤ 1) ∧ v = some (.int (iI (a 0))) ∧ ∃ d X2, Rl true a X2 ∧ Grs base S s.toNat (none) Y (cI I B X) (cL L B X) Y' I' L' d ∧ I' = cI I' B X ∧ L' = cL L' B X ∧ I' = cI I' d X2 ∧ L' = cL L' d X2)) := by
  refine Ct.of (own := RX5) (lo := [(0, .ref F), (1, .int (iI s))]) (by decide) rfl (Nat.le_of_ble_eq_true rfl) rfl ?_
  intro zp ze zs zm zargs zbl zmt zc C hr hlk hnm
  refine r_iload_n C 1 dX5_save_0 rfl rfl ?_
  refine n_if_lt (tgt := 9) C dX5_save_1 (by decide) hs0 (fun c1 => ?_) (fun c1 => ?_)
  · refine r_bipush (v := iI (-2)) C dX5_save_9 (by decide) ?_
    refine r_iret C hr hlk dX5_save_11 (Nat.zero_le _) (Nat.zero_le _) ?_
    exact Or.inl ⟨by omega, rfl, rfl, rfl, rfl⟩
  refine r_iload_n C 1 dX5_save_4 rfl rfl ?_
  refine r_iconst (v := iI 2) C dX5_save_5 rfl ?_
  refine n_icmp_lt (tgt := 12) C dX5_save_6 (by decide) hs0 ⟨by decide, by decide⟩ (fun c6 => ?_) (fun c6 => ?_)
  rotate_left
  · refine r_bipush (v := iI (-2)) C dX5_save_9 (by decide) ?_
    refine r_iret C hr hlk dX5_save_11 (Nat.zero_le _) (Nat.zero_le _) ?_
    exact Or.inl ⟨by omega, rfl, rfl, rfl, rfl⟩
  obtain ⟨j, hj⟩ := Int.eq_ofNat_of_zero_le (show 0 ≤ s by omega)
  have hsj : s.toNat = j := by omega
  have hIx : Ix (iI s) j 2 := ⟨congrArg iI hj, by omega, by decide⟩
  rw [hsj]
  rw [hsj] at hop
  have hBt := hS.top
  have hFt := hF.1.1
  have hSt := hSl.1
  refine r_aload_n C 0 dX5_save_12 rfl rfl ?_
  refine r_getR C fl_X5_16 rfl dX5_save_13 hF.1 hFs ?_
  refine r_iload_n C 1 dX5_save_16 rfl rfl ?_
  refine r_aaldN C (by decide) (by decide) j dX5_save_17 hSl hIx hop ?_
  refine r_ifnonnullN C dX5_save_18 ?_
  refine r_aload_n C 0 dX5_save_21 rfl rfl ?_
  refine r_getR C fl_X5_16 rfl dX5_save_22 hF.1 hFs ?_
  refine r_iload_n C 1 dX5_save_25 rfl rfl ?_
  refine m_new C ck4 wc_X5_7 wi_X4 wn_X4 df4 (Nat.le_of_ble_eq_true rfl) (Nat.le_of_ble_eq_true rfl) dX5_save_26 (fun c Y8 I8 L8 n8 eI8 eL8 => ?_)
  have hc := n8.1
  have hcs : Is base Y8 c (.inl 4) := n8.is
  refine r_dup C dX5_save_29 rfl ?_
  refine cI0_G C (k_X4_init hcs (by rw [n8.2.1]; omega) (by rw [eI8, up1_s]) (by rw [eL8, up1_s])) cw_X5_9 ⟨⟨by decide, by decide⟩, (Nat.le_of_ble_eq_true rfl), (Nat.le_of_ble_eq_true rfl)⟩ (Nat.le_of_ble_eq_true rfl) dX5_save_30 (fun v12 Y12 I12 L12 h12 => ?_)
  obtain ⟨rfl, hSc, hn12, hs12, -⟩ := h12
  have hF12 : Is base Y12 F (.inl 5) := hs12.is (by omega) (n8.keep hF.1) (by omega)
  have hS12 : Is base Y12 S (.inr (7, 2)) := hs12.is (by omega) (n8.keep hSl) (by omega)
  refine m_aast (t := 7) (ci := 4) C (by decide) (by decide) rfl j dX5_save_33 hS12 hSc.1.1 hIx (fun Y15 p15 => ?_)
  have hY1 : Y15.1 = Y.1 + 206 := by rw [p15.n, hn12, n8.2.1]
  have hall : ∀ y, y < c → Y15.2.1 y = Y.2.1 y ∧ (y ≠ S → Y15.2.2 y = Y.2.2 y) ∧ I12 y = cI I B X y ∧ L12 y = cL L B X y := fun y hy => by
    have g := hs12 y hy
    refine ⟨by rw [p15.kn, g.1, n8.kn (by omega)], fun hyF => by rw [p15.rn hyF, g.2.1, n8.rn (by omega)], by rw [g.2.2.1, eI8, up1_n (by omega)], by rw [g.2.2.2, eL8, up1_n (by omega)]⟩
  have hSB : SLy base Y15 B := SLy.mono (fun y y1 y2 => ⟨(hall y (by omega)).1, (hall y (by omega)).2.1 (by omega)⟩) (by omega) hS
  have hF5 : Is base Y15 F (.inl 5) := p15.keep hF12
  have hSl5 : Is base Y15 S (.inr (7, 2)) := p15.keep hS12
  have hrd : Y15.2.2 S j = some c := p15.at
  have hk2 : ∀ k, k ≠ j → Y15.2.2 S k = Y.2.2 S k := fun k hk => by rw [p15.nk hk, (hs12 S (by omega)).2.1, n8.rn (by omega)]
  have hr0 : Y15.2.2 F 0 = some B := by rw [(hall F (by omega)).2.1 (by omega)]; exact hF.2
  have hrS : Y15.2.2 F 1 = some S := by rw [(hall F (by omega)).2.1 (by omega)]; exact hFs
  replace hSc : SLy base Y15 c := SLy.mono (fun y y1 y2 => ⟨by rw [p15.kn], p15.rn (by omega)⟩) (by rw [p15.n]; exact Nat.le_refl _) hSc
  have eIB : I12 = cI I12 B X := cI_same (I := cI I B X) cI_idem (fun y y1 y2 => (hall y (by omega)).2.2.1)
  have eLB : L12 = cL L12 B X := cL_same (L := cL L B X) cL_idem (fun y y1 y2 => (hall y (by omega)).2.2.2)
  refine r_eqI eIB ?_
  refine r_eqL eLB ?_
  refine r_eqI (mk_I (L := cL L12 B X) (B := c)) ?_
  refine r_eqL (mk_L (I := cI I12 B X) (B := c)) ?_
  refine r_aload_n C 0 dX5_save_34 rfl rfl ?_
  refine r_getR C fl_X5_16 rfl dX5_save_35 hF5 hrS ?_
  refine r_iload_n C 1 dX5_save_38 rfl rfl ?_
  refine r_aald C (by decide) (by decide) j dX5_save_39 hSl5 hIx hrd ?_
  refine r_aload_n C 0 dX5_save_40 rfl rfl ?_
  refine r_getR C fl_X5_10 rfl dX5_save_41 hF5 hr0 ?_
  refine cV1_EV C (k_X4_copyFrom (B := c) (D := B) hSc hSB (Or.inr (by omega)) hI hR hN hPc) cw_X5_289 (rm_ok rfl rfl (Nat.le_of_ble_eq_true rfl) (Nat.le_of_ble_eq_true rfl)) (Nat.le_of_ble_eq_true rfl) hSc.1.1 dX5_save_44 (fun I44 L44 h44 => ?_)
  obtain ⟨X2, hR2, eI44, eL44⟩ := h44
  have jB : I44 = cI I44 B X := by
    rw [eI44]
    exact cI_same (I := cI I12 B X) (by exact cI_idem) (fun y y1 y2 => cI_out (by omega))
  have kB : L44 = cL L44 B X := by
    rw [eL44]
    exact cL_same (L := cL L12 B X) (by exact cL_idem) (fun y y1 y2 => cL_out (by omega))
  have jc : I44 = cI I44 c X2 := by rw [eI44]; exact cI_idem
  have kc : L44 = cL L44 c X2 := by rw [eL44]; exact cL_idem
  refine r_aload_n C 0 dX5_save_47 rfl rfl ?_
  refine r_getR C fl_X5_10 rfl dX5_save_48 hF5 hr0 ?_
  refine r_eqI jB ?_
  refine r_eqL kB ?_
  refine c_getI C (v := a 0) 0 0 rfl (by decide) (lnS (by decide)) rfl fl_X5_146 rfl dX5_save_51 hSB.1.1 (hR.n 0 (by decide) (by decide)) ?_
  refine r_eqI jB.symm ?_
  refine r_eqL kB.symm ?_
  refine r_iret C hr hlk dX5_save_54 (Nat.le_of_ble_eq_true rfl) (Nat.le_of_ble_eq_true rfl) ?_
  refine Or.inr ⟨by omega, rfl, c, X2, hR2, ⟨⟨hrd, hSc⟩, Or.inr ⟨rfl, hc, hY1⟩, fun y y1 y2 => ⟨(hall y (by omega)).1, (hall y (by omega)).2.1, by rw [eI44, cI_out y2, ← eIB]; exact (hall y (by omega)).2.2.1, by rw [eL44, cL_out y2, ← eLB]; exact (hall y (by omega)).2.2.2⟩, hk2⟩, jB, kB, jc, kc⟩
set_option maxHeartbeats 4000000 in
set_option maxRecDepth 20000 in
theorem k_rsB {l : Launch} {G : Gd} {base : Nat} {Y : MY} {I : MI} {L : ML} {F B S : Nat} {X : Sa} {s : Int} (hs0 : -2147483648 ≤ s ∧ s < 2147483648) (hF : FLn base Y F B) (hS : SLy base Y B) (hFs : Y.2.2 F 1 = some S) (hSl : Is base Y S (.inr (7, 2))) (hFB : F < B) (hBS : B + 206 ≤ S) (hop : (0 ≤ s ∧ s ≤ 1) → Y.2.2 S s.toNat = none) : Ct l yX5_restore cX5_restore 2 (some .int) (rmz 11 430) G base [.ref F, .int (iI s)] Y (cI I B X) (cL L B X) (fun v Y' I' L' => Y' = Y ∧ I' = cI I B X ∧ L' = cL L B X ∧ ((¬ (0 ≤ s ∧ s ≤ 1) ∧ v = some (.int (iI (-2)))) ∨ ((0 ≤ s ∧ s ≤ 1) ∧ v = some (.int (iI (-5)))))) := by
  refine Ct.of (own := RX5) (lo := [(0, .ref F), (1, .int (iI s))]) (by decide) rfl (Nat.le_of_ble_eq_true rfl) rfl ?_
  intro zp ze zs zm zargs zbl zmt zc C hr hlk hnm
  refine r_iload_n C 1 dX5_restore_0 rfl rfl ?_
  refine n_if_lt (tgt := 9) C dX5_restore_1 (by decide) hs0 (fun c1 => ?_) (fun c1 => ?_)
  · refine r_bipush (v := iI (-2)) C dX5_restore_9 (by decide) ?_
    refine r_iret C hr hlk dX5_restore_11 (Nat.zero_le _) (Nat.zero_le _) ?_
    exact ⟨rfl, rfl, rfl, Or.inl ⟨by omega, rfl⟩⟩
  refine r_iload_n C 1 dX5_restore_4 rfl rfl ?_
  refine r_iconst (v := iI 2) C dX5_restore_5 rfl ?_
  refine n_icmp_lt (tgt := 12) C dX5_restore_6 (by decide) hs0 ⟨by decide, by decide⟩ (fun c6 => ?_) (fun c6 => ?_)
  rotate_left
  · refine r_bipush (v := iI (-2)) C dX5_restore_9 (by decide) ?_
    refine r_iret C hr hlk dX5_restore_11 (Nat.zero_le _) (Nat.zero_le _) ?_
    exact ⟨rfl, rfl, rfl, Or.inl ⟨by omega, rfl⟩⟩
  obtain ⟨j, hj⟩ := Int.eq_ofNat_of_zero_le (show 0 ≤ s by omega)
  have hsj : s.toNat = j := by omega
  have hIx : Ix (iI s) j 2 := ⟨congrArg iI hj, by omega, by decide⟩
  have hop2 := hop (by omega)
  rw [hsj] at hop2
  refine r_aload_n C 0 dX5_restore_12 rfl rfl ?_
  refine r_getR C fl_X5_16 rfl dX5_restore_13 hF.1 hFs ?_
  refine r_iload_n C 1 dX5_restore_16 rfl rfl ?_
  refine r_aaldN C (by decide) (by decide) j dX5_restore_17 hSl hIx hop2 ?_
  refine r_ifnonnullN C dX5_restore_18 ?_
  refine r_bipush (v := iI (-5)) C dX5_restore_21 (by decide) ?_
  refine r_iret C hr hlk dX5_restore_23 (Nat.zero_le _) (Nat.zero_le _) ?_
  exact ⟨rfl, rfl, rfl, Or.inr ⟨by omega, rfl⟩⟩
set_option maxHeartbeats 4000000 in
set_option maxRecDepth 20000 in
theorem k_rsA {l : Launch} {G : Gd} {base : Nat} {Y : MY} {I : MI} {L : ML} {F B S : Nat} {X : Sa} {s : Int} (hs0 : -2147483648 ≤ s ∧ s < 2147483648) (hF : FLn base Y F B) (hS : SLy base Y B) (hFs : Y.2.2 F 1 = some S) (hSl : Is base Y S (.inr (7, 2))) (hFB : F < B) (hBS : B + 206 ≤ S) {d0 : Nat} {W b : Sa} {N T : Int} (hsv : 0 ≤ s ∧ s ≤ 1) (hop : Y.2.2 S s.toNat = some d0) (hSd : SLy base Y d0) (hSd2 : S < d0) (hI : Inv N T b) (hR : Rl true b W) (hN : NowOK b) (hPc : PcOK b) (jd : cI I B X = cI (cI I B X) d0 W) (kd : cL L B X = cL (cL L B X) d0 W) : Ct l yX5_restore cX5_restore 2 (some .int) (rmz 11 430) G base [.ref F, .int (iI s)] Y (cI I B X) (cL L B X) (fun v Y' I' L' => Y' = Y ∧ v = some (.int (iI (b 0))) ∧ ∃ X', Rl true b X' ∧ I' = cI I B X' ∧ L' = cL L B X') := by
  refine Ct.of (own := RX5) (lo := [(0, .ref F), (1, .int (iI s))]) (by decide) rfl (Nat.le_of_ble_eq_true rfl) rfl ?_
  intro zp ze zs zm zargs zbl zmt zc C hr hlk hnm
  refine r_iload_n C 1 dX5_restore_0 rfl rfl ?_
  refine n_if_lt (tgt := 9) C dX5_restore_1 (by decide) hs0 (fun c1 => ?_) (fun c1 => ?_)
  · refine r_bipush (v := iI (-2)) C dX5_restore_9 (by decide) ?_
    refine r_iret C hr hlk dX5_restore_11 (Nat.zero_le _) (Nat.zero_le _) ?_
    exfalso; omega
  refine r_iload_n C 1 dX5_restore_4 rfl rfl ?_
  refine r_iconst (v := iI 2) C dX5_restore_5 rfl ?_
  refine n_icmp_lt (tgt := 12) C dX5_restore_6 (by decide) hs0 ⟨by decide, by decide⟩ (fun c6 => ?_) (fun c6 => ?_)
  rotate_left
  · refine r_bipush (v := iI (-2)) C dX5_restore_9 (by decide) ?_
    refine r_iret C hr hlk dX5_restore_11 (Nat.zero_le _) (Nat.zero_le _) ?_
    exfalso; omega
  obtain ⟨j, hj⟩ := Int.eq_ofNat_of_zero_le (show 0 ≤ s by omega)
  have hsj : s.toNat = j := by omega
  have hIx : Ix (iI s) j 2 := ⟨congrArg iI hj, by omega, by decide⟩
  rw [hsj] at hop
  refine r_aload_n C 0 dX5_restore_12 rfl rfl ?_
  refine r_getR C fl_X5_16 rfl dX5_restore_13 hF.1 hFs ?_
  refine r_iload_n C 1 dX5_restore_16 rfl rfl ?_
  refine r_aald C (by decide) (by decide) j dX5_restore_17 hSl hIx hop ?_
  refine r_ifnonnull (tgt := 24) C dX5_restore_18 (by decide) ?_
  refine r_aload_n C 0 dX5_restore_24 rfl rfl ?_
  refine r_getR C fl_X5_10 rfl dX5_restore_25 hF.1 hF.2 ?_
  refine r_aload_n C 0 dX5_restore_28 rfl rfl ?_
  refine r_getR C fl_X5_16 rfl dX5_restore_29 hF.1 hFs ?_
  refine r_iload_n C 1 dX5_restore_32 rfl rfl ?_
  refine r_aald C (by decide) (by decide) j dX5_restore_33 hSl hIx hop ?_
  have eI : cI I B X = cI (cI (cI I B X) d0 W) B X := by rw [← jd]; exact cI_idem
  have eL : cL L B X = cL (cL (cL L B X) d0 W) B X := by rw [← kd]; exact cL_idem
  refine r_eqI eI ?_
  refine r_eqL eL ?_
  refine cV1_EV C (k_X4_copyFrom (B := B) (D := d0) hS hSd (Or.inl (by omega)) hI hR hN hPc) cw_X5_289 (rm_ok rfl rfl (Nat.zero_le _) (Nat.zero_le _)) (Nat.le_of_ble_eq_true rfl) hS.1.1 dX5_restore_34 (fun I34 L34 h34 => ?_)
  obtain ⟨X2, hR2, eI34, eL34⟩ := h34
  rw [← jd, cI_two] at eI34
  rw [← kd, cL_two] at eL34
  refine r_eqI eI34 ?_
  refine r_eqL eL34 ?_
  refine r_aload_n C 0 dX5_restore_37 rfl rfl ?_
  refine r_getR C fl_X5_10 rfl dX5_restore_38 hF.1 hF.2 ?_
  refine c_getI C (v := b 0) 0 0 rfl (by decide) (lnS (by decide)) rfl fl_X5_146 rfl dX5_restore_41 hS.1.1 (hR2.n 0 (by decide) (by decide)) ?_
  refine r_iret C hr hlk dX5_restore_44 (Nat.zero_le _) (Nat.zero_le _) ?_
  exact ⟨rfl, rfl, X2, hR2, rfl, rfl⟩
