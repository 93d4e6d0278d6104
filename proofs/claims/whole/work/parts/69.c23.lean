/-- what a copy costs -/
def cst (cp : Option Nat) : Nat := match cp with
  | none => 206
  | some _ => 0
def sst (cp : Option Nat) : Nat := match cp with
  | none => 2279
  | some _ => 0
/-- the copy that a FairLink has, or none -/
def Cpy (base : Nat) (Y : MY) (F B : Nat) (cp : Option Nat) : Prop := Y.2.2 F 2 = cp ∧ F < B ∧ ∀ c, cp = some c → SLy base Y c ∧ B + 206 ≤ c
/-- nothing has changed but the copy c -/
def Grw (base : Nat) (F : Nat) (cp : Option Nat) (Y : MY) (I : MI) (L : ML) (Y' : MY) (I' : MI) (L' : ML) (c : Nat) : Prop :=
  (Y'.2.2 F 2 = some c ∧ SLy base Y' c) ∧ ((cp = some c ∧ Y' = Y) ∨ (cp = none ∧ c = base + Y.1 ∧ Y'.1 = Y.1 + 206)) ∧ (∀ y, y < base + Y.1 → (y < c ∨ c + 206 ≤ y) → Y'.2.1 y = Y.2.1 y ∧ (y ≠ F → Y'.2.2 y = Y.2.2 y) ∧ I' y = I y ∧ L' y = L y) ∧ (∀ k, k ≠ 2 → Y'.2.2 F k = Y.2.2 F k)
theorem Grw.le {base F c : Nat} {cp : Option Nat} {Y Y' : MY} {I I' : MI} {L L' : ML} (h : Grw base F cp Y I L Y' I' L' c) : Y.1 ≤ Y'.1 := by
  rcases h.2.1 with ⟨-, e⟩ | ⟨-, -, e⟩
  · rw [e]; exact Nat.le_refl _
  · omega
theorem Grw.gt {base F B c : Nat} {cp : Option Nat} {Y Y' : MY} {I I' : MI} {L L' : ML} (h : Grw base F cp Y I L Y' I' L' c) (hc : Cpy base Y F B cp) (hS : SLy base Y B) : B + 206 ≤ c := by
  rcases h.2.1 with ⟨e, -⟩ | ⟨-, e, -⟩
  · exact (hc.2.2 c e).2
  · have := hS.top
    omega
theorem Grw.s {base F B c : Nat} {cp : Option Nat} {Y Y' : MY} {I I' : MI} {L L' : ML} (h : Grw base F cp Y I L Y' I' L' c) (hc : Cpy base Y F B cp) (hS : SLy base Y B) : SLy base Y' B := by
  have h1 := h.gt hc hS
  have h2 := hS.top
  refine SLy.mono (fun y y1 y2 => ?_) h.le hS
  have g := h.2.2.1 y (by omega) (by omega)
  have := hc.2.1
  exact ⟨g.1, g.2.1 (by omega)⟩
theorem Grw.f {base F B c : Nat} {cp : Option Nat} {Y Y' : MY} {I I' : MI} {L L' : ML} (h : Grw base F cp Y I L Y' I' L' c) (hc : Cpy base Y F B cp) (hS : SLy base Y B) (hF : FLn base Y F B) : FLn base Y' F B := by
  have h1 := h.gt hc hS
  have h2 := hF.1.1
  have h3 := h.le
  have h4 := hc.2.1
  refine ⟨⟨⟨h2.1, by omega⟩, ?_⟩, ?_⟩
  · rw [(h.2.2.1 F (by omega) (by omega)).1]; exact hF.1.2
  · rw [h.2.2.2 0 (by decide)]; exact hF.2
theorem Grw.c {base F B c : Nat} {cp : Option Nat} {Y Y' : MY} {I I' : MI} {L L' : ML} (h : Grw base F cp Y I L Y' I' L' c) (hc : Cpy base Y F B cp) (hS : SLy base Y B) : Cpy base Y' F B (some c) := ⟨h.1.1, hc.2.1, fun d hd => by
  have e := Option.some.inj hd
  subst e
  exact ⟨h.1.2, h.gt hc hS⟩⟩
/-- the copy is used again -/
theorem Grw.on {base F c : Nat} {cp : Option Nat} {Y Y' : MY} {I I' I2 : MI} {L L' L2 : ML} (h : Grw base F cp Y I L Y' I' L' c) (e : ∀ y, (y < c ∨ c + 206 ≤ y) → I2 y = I' y ∧ L2 y = L' y) : Grw base F cp Y I L Y' I2 L2 c := ⟨h.1, h.2.1, fun y y1 y2 => by
  have g := h.2.2.1 y y1 y2
  exact ⟨g.1, g.2.1, (e y y2).1.trans g.2.2.1, (e y y2).2.trans g.2.2.2⟩, h.2.2.2⟩
theorem Grw.tr {base F c d : Nat} {cp : Option Nat} {Y Y' Y2 : MY} {I I' I2 : MI} {L L' L2 : ML} (h : Grw base F cp Y I L Y' I' L' c) (h2 : Grw base F (some c) Y' I' L' Y2 I2 L2 d) : Y2 = Y' ∧ d = c ∧ Grw base F cp Y I L Y2 I2 L2 c := by
  rcases h2.2.1 with ⟨e, e2⟩ | ⟨e, -⟩
  · have e3 := Option.some.inj e
    subst e3; subst e2
    have hl := h.le
    refine ⟨rfl, rfl, h.1, h.2.1, fun y y1 y2 => ?_, h.2.2.2⟩
    have g := h.2.2.1 y y1 y2
    have g2 := h2.2.2.1 y (by omega) y2
    exact ⟨g.1, g.2.1, g2.2.2.1.trans g.2.2.1, g2.2.2.2.trans g.2.2.2⟩
  · exact absurd e (by simp)
theorem cI_idem {I : MI} {B : Nat} {X : Sa} : cI I B X = cI (cI I B X) B X := by
  funext y k
  unfold cI mI
  by_cases h : B ≤ y ∧ y < B + 206
  · rw [if_pos h, if_pos h]
  · rw [if_neg h, if_neg h]
theorem cL_idem {L : ML} {B : Nat} {X : Sa} : cL L B X = cL (cL L B X) B X := by
  funext y k
  unfold cL mL
  by_cases h : B ≤ y ∧ y < B + 206
  · rw [if_pos h, if_pos h]
  · rw [if_neg h, if_neg h]
set_option maxHeartbeats 4000000 in
set_option maxRecDepth 20000 in
theorem k_fcA {l : Launch} {G : Gd} {base : Nat} {Y : MY} {I : MI} {L : ML} {F B : Nat} {X a : Sa} {N T : Int} {c0 : Nat} (hI : Inv N T a) (hR : Rl true a X) (hN : NowOK a) (hPc : PcOK a) (hF : FLn base Y F B) (hS : SLy base Y B) (hC : Cpy base Y F B (some c0)) : Ct l yX5_freshCopy cX5_freshCopy 1 (some (.object "FairLink$State")) { frames := 6, cells := cst (some c0), slots := sst (some c0), locals := 300 } G base [.ref F] Y (cI I B X) (cL L B X) (fun v Y' I' L' => ∃ c X2, v = some (.ref c) ∧ Rl true a X2 ∧ Grw base F (some c0) Y (cI I B X) (cL L B X) Y' I' L' c ∧ I' = cI I' B X ∧ L' = cL L' B X ∧ I' = cI I' c X2 ∧ L' = cL L' c X2) := by
  refine Ct.of (own := RX5) (lo := [(0, .ref F)]) (by decide) rfl (Nat.le_of_ble_eq_true rfl) rfl ?_
  intro zp ze zs zm zargs zbl zmt zc C hr hlk hnm
  obtain ⟨hr2, hFB, hcc⟩ := hC
  obtain ⟨hSc, hBc⟩ := hcc c0 rfl
  refine r_aload_n C 0 dX5_freshCopy_0 rfl rfl ?_
  refine r_getR C fl_X5_20 rfl dX5_freshCopy_1 hF.1 hr2 ?_
  refine r_ifnonnull (tgt := 18) C dX5_freshCopy_4 (by decide) ?_
  refine r_eqI (mk_I (L := cL L B X) (B := c0)) ?_
  refine r_eqL (mk_L (I := cI I B X) (B := c0)) ?_
  refine r_aload_n C 0 dX5_freshCopy_18 rfl rfl ?_
  refine r_getR C fl_X5_20 rfl dX5_freshCopy_19 hF.1 hr2 ?_
  refine r_aload_n C 0 dX5_freshCopy_22 rfl rfl ?_
  refine r_getR C fl_X5_10 rfl dX5_freshCopy_23 hF.1 hF.2 ?_
  refine cV1_EV C (k_X4_copyFrom (B := c0) (D := B) hSc hS (Or.inr hBc) hI hR hN hPc) cw_X5_289 (rm_ok rfl rfl (Nat.zero_le _) (Nat.zero_le _)) (Nat.le_of_ble_eq_true rfl) hSc.1.1 dX5_freshCopy_26 (fun I26 L26 h26 => ?_)
  obtain ⟨X2, hR2, eI26, eL26⟩ := h26
  refine r_aload_n C 0 dX5_freshCopy_29 rfl rfl ?_
  refine r_getR C fl_X5_20 rfl dX5_freshCopy_30 hF.1 hr2 ?_
  refine r_aret C hr hlk dX5_freshCopy_33 (Nat.zero_le _) (Nat.zero_le _) ?_
  refine ⟨c0, X2, rfl, hR2, ⟨⟨hr2, hSc⟩, Or.inl ⟨rfl, rfl⟩, fun y y1 y2 => ⟨rfl, fun _ => rfl, by rw [eI26]; exact cI_out y2, by rw [eL26]; exact cL_out y2⟩, fun _ _ => rfl⟩, ?_, ?_, ?_, ?_⟩
  · rw [eI26]
    exact cI_same (I := cI I B X) (by exact cI_idem) (fun y y1 y2 => cI_out (by omega))
  · rw [eL26]
    exact cL_same (L := cL L B X) (by exact cL_idem) (fun y y1 y2 => cL_out (by omega))
  · rw [eI26]; exact cI_idem
  · rw [eL26]; exact cL_idem
set_option maxHeartbeats 4000000 in
set_option maxRecDepth 20000 in
theorem k_fcB {l : Launch} {G : Gd} {base : Nat} {Y : MY} {I : MI} {L : ML} {F B : Nat} {X a : Sa} {N T : Int}  (hI : Inv N T a) (hR : Rl true a X) (hN : NowOK a) (hPc : PcOK a) (hF : FLn base Y F B) (hS : SLy base Y B) (hC : Cpy base Y F B none) : Ct l yX5_freshCopy cX5_freshCopy 1 (some (.object "FairLink$State")) { frames := 6, cells := cst none, slots := sst none, locals := 300 } G base [.ref F] Y (cI I B X) (cL L B X) (fun v Y' I' L' => ∃ c X2, v = some (.ref c) ∧ Rl true a X2 ∧ Grw base F none Y (cI I B X) (cL L B X) Y' I' L' c ∧ I' = cI I' B X ∧ L' = cL L' B X ∧ I' = cI I' c X2 ∧ L' = cL L' c X2) := by
  refine Ct.of (own := RX5) (lo := [(0, .ref F)]) (by decide) rfl (Nat.le_of_ble_eq_true rfl) rfl ?_
  intro zp ze zs zm zargs zbl zmt zc C hr hlk hnm
  obtain ⟨hr2, hFB, hcc⟩ := hC
  have hBt := hS.top
  have hFt := hF.1.1
  refine r_aload_n C 0 dX5_freshCopy_0 rfl rfl ?_
  refine r_getN C fl_X5_20 rfl dX5_freshCopy_1 hF.1 hr2 ?_
  refine r_ifnonnullN C dX5_freshCopy_4 ?_
  refine r_aload_n C 0 dX5_freshCopy_7 rfl rfl ?_
  refine m_new C ck4 wc_X5_7 wi_X4 wn_X4 df4 (Nat.le_of_ble_eq_true rfl) (Nat.le_of_ble_eq_true rfl) dX5_freshCopy_8 (fun c Y8 I8 L8 n8 eI8 eL8 => ?_)
  have hc := n8.1
  have hcs : Is base Y8 c (.inl 4) := n8.is
  refine r_dup C dX5_freshCopy_11 rfl ?_
  refine cI0_G C (k_X4_init hcs (by rw [n8.2.1]; omega) (by rw [eI8, up1_s]) (by rw [eL8, up1_s])) cw_X5_9 ⟨⟨by decide, by decide⟩, (Nat.le_of_ble_eq_true rfl), (Nat.le_of_ble_eq_true rfl)⟩ (Nat.le_of_ble_eq_true rfl) dX5_freshCopy_12 (fun v12 Y12 I12 L12 h12 => ?_)
  obtain ⟨rfl, hSc, hn12, hs12, -⟩ := h12
  have hF12 : Is base Y12 F (.inl 5) := hs12.is (by omega) (n8.keep hF.1) (by omega)
  refine m_putR C fl_X5_20 rfl dX5_freshCopy_15 hF12 (fun Y15 p15 => ?_)
  have hY1 : Y15.1 = Y.1 + 206 := by rw [p15.n, hn12, n8.2.1]
  have hall : ∀ y, y < c → Y15.2.1 y = Y.2.1 y ∧ (y ≠ F → Y15.2.2 y = Y.2.2 y) ∧ I12 y = cI I B X y ∧ L12 y = cL L B X y := fun y hy => by
    have g := hs12 y hy
    refine ⟨by rw [p15.kn, g.1, n8.kn (by omega)], fun hyF => by rw [p15.rn hyF, g.2.1, n8.rn (by omega)], by rw [g.2.2.1, eI8, up1_n (by omega)], by rw [g.2.2.2, eL8, up1_n (by omega)]⟩
  have hSB : SLy base Y15 B := SLy.mono (fun y y1 y2 => ⟨(hall y (by omega)).1, (hall y (by omega)).2.1 (by omega)⟩) (by omega) hS
  have hF5 : Is base Y15 F (.inl 5) := p15.keep hF12
  have hr2b : Y15.2.2 F 2 = some c := p15.at
  have hk2 : ∀ k, k ≠ 2 → Y15.2.2 F k = Y.2.2 F k := fun k hk => by rw [p15.nk hk, (hs12 F (by omega)).2.1, n8.rn (by omega)]
  have hr0 : Y15.2.2 F 0 = some B := by rw [hk2 0 (by decide)]; exact hF.2
  replace hSc : SLy base Y15 c := SLy.mono (fun y y1 y2 => ⟨by rw [p15.kn], p15.rn (by omega)⟩) (by rw [p15.n]; exact Nat.le_refl _) hSc
  have eIB : I12 = cI I12 B X := cI_same (I := cI I B X) cI_idem (fun y y1 y2 => (hall y (by omega)).2.2.1)
  have eLB : L12 = cL L12 B X := cL_same (L := cL L B X) cL_idem (fun y y1 y2 => (hall y (by omega)).2.2.2)
  refine r_eqI eIB ?_
  refine r_eqL eLB ?_
  refine r_eqI (mk_I (L := cL L12 B X) (B := c)) ?_
  refine r_eqL (mk_L (I := cI I12 B X) (B := c)) ?_
  refine r_aload_n C 0 dX5_freshCopy_18 rfl rfl ?_
  refine r_getR C fl_X5_20 rfl dX5_freshCopy_19 hF5 hr2b ?_
  refine r_aload_n C 0 dX5_freshCopy_22 rfl rfl ?_
  refine r_getR C fl_X5_10 rfl dX5_freshCopy_23 hF5 hr0 ?_
  refine cV1_EV C (k_X4_copyFrom (B := c) (D := B) hSc hSB (Or.inr (by omega)) hI hR hN hPc) cw_X5_289 (rm_ok rfl rfl (Nat.le_of_ble_eq_true rfl) (Nat.le_of_ble_eq_true rfl)) (Nat.le_of_ble_eq_true rfl) hSc.1.1 dX5_freshCopy_26 (fun I26 L26 h26 => ?_)
  obtain ⟨X2, hR2, eI26, eL26⟩ := h26
  refine r_aload_n C 0 dX5_freshCopy_29 rfl rfl ?_
  refine r_getR C fl_X5_20 rfl dX5_freshCopy_30 hF5 hr2b ?_
  refine r_aret C hr hlk dX5_freshCopy_33 (Nat.le_of_ble_eq_true rfl) (Nat.le_of_ble_eq_true rfl) ?_
  refine ⟨c, X2, rfl, hR2, ⟨⟨hr2b, hSc⟩, Or.inr ⟨rfl, hc, hY1⟩, fun y y1 y2 => ⟨(hall y (by omega)).1, (hall y (by omega)).2.1, by rw [eI26, cI_out y2, ← eIB]; exact (hall y (by omega)).2.2.1, by rw [eL26, cL_out y2, ← eLB]; exact (hall y (by omega)).2.2.2⟩, hk2⟩, ?_, ?_, ?_, ?_⟩
  · rw [eI26]
    exact cI_same (I := cI I12 B X) cI_idem (fun y y1 y2 => cI_out (by omega))
  · rw [eL26]
    exact cL_same (L := cL L12 B X) cL_idem (fun y y1 y2 => cL_out (by omega))
  · rw [eI26]; exact cI_idem
  · rw [eL26]; exact cL_idem
theorem k_X5_freshCopy {l : Launch} {G : Gd} {base : Nat} {Y : MY} {I : MI} {L : ML} {F B : Nat} {X a : Sa} {N T : Int} (cp : Option Nat) (hI : Inv N T a) (hR : Rl true a X) (hN : NowOK a) (hPc : PcOK a) (hF : FLn base Y F B) (hS : SLy base Y B) (hC : Cpy base Y F B cp) : Ct l yX5_freshCopy cX5_freshCopy 1 (some (.object "FairLink$State")) { frames := 6, cells := cst cp, slots := sst cp, locals := 300 } G base [.ref F] Y (cI I B X) (cL L B X) (fun v Y' I' L' => ∃ c X2, v = some (.ref c) ∧ Rl true a X2 ∧ Grw base F cp Y (cI I B X) (cL L B X) Y' I' L' c ∧ I' = cI I' B X ∧ L' = cL L' B X ∧ I' = cI I' c X2 ∧ L' = cL L' c X2) := by
  cases cp with
  | none => exact k_fcB hI hR hN hPc hF hS hC
  | some c => exact k_fcA hI hR hN hPc hF hS hC
