theorem cst_le {cp : Option Nat} : 0 + cst cp ≤ 206 := by
  cases cp with
  | none => exact Nat.le_refl 206
  | some c => exact Nat.zero_le _
theorem sst_le {cp : Option Nat} : 0 + sst cp ≤ 2279 := by
  cases cp with
  | none => exact Nat.le_refl 2279
  | some c => exact Nat.zero_le _
theorem lwK_s {a : Sa} {f p t n w : Nat} : lwK a f p t (n + 1) w = if 0 ≤ ttK p t (up1 a (17 + 18 * f + 0) w) 0 then (w : Int) else lwK a f p t n (w + 1) := rfl
theorem ttK_6 : ∀ (p n : Nat) (a : Sa) (j : Nat), ttK p n a j = -6 ∨ 0 ≤ ttK p n a j
  | p, 0, a, j => by
    unfold ttK
    split <;> omega
  | p, n + 1, a, j => by
    unfold ttK
    split
    · omega
    · exact ttK_6 p n (tick a) (j + 1)
theorem ttK_le : ∀ (p n : Nat) (a : Sa) (j : Nat), j + n ≤ 1000 → ttK p n a j ≤ 1000
  | p, 0, a, j, h => by
    show (if _ then _ else _) ≤ _
    split <;> omega
  | p, n + 1, a, j, h => by
    show (if _ then _ else _) ≤ _
    split
    · omega
    · exact ttK_le p n (tick a) (j + 1) (by omega)
theorem cI_at2 {I : MI} {c y : Nat} {X X' : Sa} (h : y < c ∨ c + 206 ≤ y) : cI I c X y = cI I c X' y := by rw [cI_out h, cI_out h]
set_option maxHeartbeats 4000000 in
set_option maxRecDepth 20000 in
theorem k_X5_forecast {l : Launch} {G : Gd} {base : Nat} {Y : MY} {I : MI} {L : ML} {B : Nat} {X : Sa} {a : Sa} {N T : Int} {F : Nat} {cp : Option Nat} {p t : Int} (hS : SLy base Y B) (hI : Inv N T a) (hR : Rl true a X) (hF : FLn base Y F B) (hN : NowOK a) (hLg : LagOK a) (hPc : PcOK a) (hTT : T ≤ 1000000) (hC : Cpy base Y F B cp) (hp0 : -2147483648 ≤ p ∧ p < 2147483648) (ht0 : -2147483648 ≤ t ∧ t < 2147483648) : Ct l yX5_forecast cX5_forecast 3 (some .int) { frames := 11, cells := 206, slots := 2279, locals := 430 } G base [.ref F, .int (iI p), .int (iI t)] Y (cI I B X) (cL L B X) (fun v Y' I' L' => v = some (.int (iI (aFc a p t))) ∧ ((Y' = Y ∧ I' = cI I B X ∧ L' = cL L B X) ∨ ∃ c, Grw base F cp Y (cI I B X) (cL L B X) Y' I' L' c)) := by
  refine Ct.of (own := RX5) (lo := [(0, .ref F), (1, .int (iI p)), (2, .int (iI t))]) (by decide) rfl (Nat.le_of_ble_eq_true rfl) rfl ?_
  intro zp ze zs zm zargs zbl zmt zc C hr hlk hnm
  have hT := hI.1
  unfold TopOK at hT
  have hcc : 0 + cst cp ≤ 206 := cst_le
  have hss : 0 + sst cp ≤ 2279 := sst_le
  refine r_aload_n C 0 dX5_forecast_0 rfl rfl ?_
  refine r_getR C fl_X5_10 rfl dX5_forecast_1 hF.1 hF.2 ?_
  refine r_iload_n C 1 dX5_forecast_4 rfl rfl ?_
  refine cV1_PI C (k_X4_knowsPacket hS (by omega) (show 0 ≤ X 7 ∧ X 7 ≤ 400000 by rw [show X 7 = (a 7) from (hR.n 7 (by decide) (by decide))]; omega)) cw_X5_62 (rm_ok rfl rfl (Nat.zero_le _) (Nat.zero_le _)) (Nat.le_of_ble_eq_true rfl) hS.1.1 dX5_forecast_5 ?_
  refine n_eqi (y := (b2 (0 ≤ p ∧ p < (a 7) ∧ (a 7) - 120 ≤ p))) (by rw [show X 7 = (a 7) from (hR.n 7 (by decide) (by decide))]) ?_
  refine n_if_ne (tgt := 13) C dX5_forecast_8 (by decide) b2_i (fun c8 => ?_) (fun c8 => ?_)
  · rw [b2_eq0, Classical.not_not] at c8
    obtain ⟨pn, hpn⟩ := Int.eq_ofNat_of_zero_le (show 0 ≤ p by omega)
    have hk : old a ≤ pn ∧ (pn : Int) < a 7 := by unfold old; omega
    have hP := hI.2.2.1 pn hk.1 hk.2
    unfold PkOK at hP
    have hpn2 : p.toNat = pn := by omega
    refine r_iload_n C 2 dX5_forecast_13 rfl rfl ?_
    refine r_iconst (v := iI 1) C dX5_forecast_14 rfl ?_
    refine n_icmp_lt (tgt := 25) C dX5_forecast_15 (by decide) (by constructor <;> omega) ⟨by decide, by decide⟩ (fun c15 => ?_) (fun c15 => ?_)
    · refine r_bipush (v := iI (-2)) C dX5_forecast_25 (by decide) ?_
      refine r_iret C hr hlk dX5_forecast_27 (Nat.zero_le _) (Nat.zero_le _) ?_
      exact ⟨congrArg (fun z => some (Value.int (iI z))) (by unfold aFc; rw [if_neg (by omega), if_pos (by omega)]), Or.inl ⟨rfl, rfl, rfl⟩⟩
    · refine r_iload_n C 2 dX5_forecast_18 rfl rfl ?_
      refine r_sipush (v := iI 2000) C dX5_forecast_19 (by decide) ?_
      refine n_icmp_le (tgt := 28) C dX5_forecast_22 (by decide) (by constructor <;> omega) ⟨by decide, by decide⟩ (fun c22 => ?_) (fun c22 => ?_)
      · obtain ⟨tn, htn⟩ := Int.eq_ofNat_of_zero_le (show 0 ≤ t by omega)
        refine r_aload_n C 0 dX5_forecast_28 rfl rfl ?_
        refine r_getR C fl_X5_10 rfl dX5_forecast_29 hF.1 hF.2 ?_
        refine r_iload_n C 1 dX5_forecast_32 rfl rfl ?_
        refine cV1_PA C (k_X4_packetAt pn hS (by omega) (by omega)) cw_X5_65 (rm_ok rfl rfl (Nat.zero_le _) (Nat.zero_le _)) (Nat.le_of_ble_eq_true rfl) hS.1.1 dX5_forecast_33 ?_
        refine c_getI C (v := (a (125 + 11 * (pn % 120) + 4))) (22 + (pn % 120)) ((125 + 11 * (pn % 120) + 4)) rfl (oP m120) (lnP m120 (by decide)) (ky_P m120 4) fl_X5_69 rfl dX5_forecast_36 (hS.2.2.2.1 (pn % 120) m120).1 (hR.p hk (by decide)) ?_
        refine r_iconst (v := iI 3) C dX5_forecast_39 rfl ?_
        refine n_icmp_ne (tgt := 45) C dX5_forecast_40 (by decide) (by constructor <;> omega) ⟨by decide, by decide⟩ (fun c40 => ?_) (fun c40 => ?_)
        · refine r_aload_n C 0 dX5_forecast_45 rfl rfl ?_
          refine cV0_G C (k_X5_freshCopy cp hI hR hN hPc hF hS hC) cw_X5_270 ⟨⟨Nat.le_of_ble_eq_true rfl, Nat.le_of_ble_eq_true rfl⟩, (by show 0 + cst cp ≤ _; exact cst_le), (by show 0 + sst cp ≤ _; exact sst_le)⟩ (Nat.le_of_ble_eq_true rfl) hF.1 dX5_forecast_46 (fun v46 Y46 I46 L46 h46 => ?_)
          obtain ⟨c, X2, rfl, hR2, hG, jB, kB, jc, kc⟩ := h46
          have hSc := hG.1.2
          have hBc := hG.gt hC hS
          have hF_ := hG.f hC hS hF
          have hC_ := hG.c hC hS
          have hS_ := hG.s hC hS
          have hF := hF_
          have hS := hS_
          have hC := hC_
          refine r_iload_n C 1 dX5_forecast_49 rfl rfl ?_
          refine r_iload_n C 2 dX5_forecast_50 rfl rfl ?_
          refine r_eqI jc ?_
          refine r_eqL kc ?_
          refine cV2_EI C (k_X4_ticksUntilDelivery pn tn hSc hI hR2.ff (by omega) (by omega) hN (by omega) hk c40) cw_X5_274 (rm_ok rfl rfl hcc hss) (Nat.le_of_ble_eq_true rfl) hSc.1.1 dX5_forecast_51 (fun r51 I51 L51 h51 => ?_)
          obtain ⟨h51r, X51, h51I, h51L⟩ := h51
          subst h51I
          subst h51L
          refine r_iret C hr hlk dX5_forecast_54 hcc hss ?_
          refine ⟨congrArg (fun z => some (Value.int (iI z))) (by rw [h51r]; unfold aFc; rw [if_neg (by omega), if_neg (by omega), hpn2, show t.toNat = tn by omega]), Or.inr ⟨c, hG.on (fun y hy => ⟨?_, ?_⟩)⟩⟩
          · rw [cI_out hy]
          · rw [cL_out hy]
        · refine r_iconst (v := iI 0) C dX5_forecast_43 rfl ?_
          refine r_iret C hr hlk dX5_forecast_44 (Nat.zero_le _) (Nat.zero_le _) ?_
          exact ⟨congrArg (fun z => some (Value.int (iI z))) (by unfold aFc; rw [if_neg (by omega), if_neg (by omega), hpn2, ttK_3 (by omega)]; rfl), Or.inl ⟨rfl, rfl, rfl⟩⟩
      · refine r_bipush (v := iI (-2)) C dX5_forecast_25 (by decide) ?_
        refine r_iret C hr hlk dX5_forecast_27 (Nat.zero_le _) (Nat.zero_le _) ?_
        exact ⟨congrArg (fun z => some (Value.int (iI z))) (by unfold aFc; rw [if_neg (by omega), if_pos (by omega)]), Or.inl ⟨rfl, rfl, rfl⟩⟩
  · refine r_iconst (v := iI (-1)) C dX5_forecast_11 rfl ?_
    refine r_iret C hr hlk dX5_forecast_12 (Nat.zero_le _) (Nat.zero_le _) ?_
    rw [b2_eq0] at c8
    exact ⟨congrArg (fun z => some (Value.int (iI z))) (by unfold aFc; rw [if_pos c8]), Or.inl ⟨rfl, rfl, rfl⟩⟩
set_option maxHeartbeats 4000000 in
set_option maxRecDepth 20000 in
theorem k_X5_leastWeight {l : Launch} {G : Gd} {base : Nat} {Y : MY} {I : MI} {L : ML} {B : Nat} {X : Sa} {a : Sa} {N T : Int} {F : Nat} {cp : Option Nat} {p t : Int} (hS : SLy base Y B) (hI : Inv N T a) (hR : Rl true a X) (hF : FLn base Y F B) (hN : NowOK a) (hLg : LagOK a) (hPc : PcOK a) (hTT : T ≤ 1000000) (hC : Cpy base Y F B cp) (hp0 : -2147483648 ≤ p ∧ p < 2147483648) (ht0 : -2147483648 ≤ t ∧ t < 2147483648) : Ct l yX5_leastWeight cX5_leastWeight 6 (some .int) { frames := 11, cells := 206, slots := 2279, locals := 430 } G base [.ref F, .int (iI p), .int (iI t)] Y (cI I B X) (cL L B X) (fun v Y' I' L' => v = some (.int (iI (aLw a p t))) ∧ ((Y' = Y ∧ I' = cI I B X ∧ L' = cL L B X) ∨ ∃ c, Grw base F cp Y (cI I B X) (cL L B X) Y' I' L' c)) := by
  refine Ct.of (own := RX5) (lo := [(0, .ref F), (1, .int (iI p)), (2, .int (iI t))]) (by decide) rfl (Nat.le_of_ble_eq_true rfl) rfl ?_
  intro zp ze zs zm zargs zbl zmt zc C hr hlk hnm
  have hT := hI.1
  unfold TopOK at hT
  refine r_aload_n C 0 dX5_leastWeight_0 rfl rfl ?_
  refine r_getR C fl_X5_10 rfl dX5_leastWeight_1 hF.1 hF.2 ?_
  refine r_iload_n C 1 dX5_leastWeight_4 rfl rfl ?_
  refine cV1_PI C (k_X4_knowsPacket hS (by omega) (show 0 ≤ X 7 ∧ X 7 ≤ 400000 by rw [show X 7 = (a 7) from (hR.n 7 (by decide) (by decide))]; omega)) cw_X5_62 (rm_ok rfl rfl (Nat.zero_le _) (Nat.zero_le _)) (Nat.le_of_ble_eq_true rfl) hS.1.1 dX5_leastWeight_5 ?_
  refine n_eqi (y := (b2 (0 ≤ p ∧ p < (a 7) ∧ (a 7) - 120 ≤ p))) (by rw [show X 7 = (a 7) from (hR.n 7 (by decide) (by decide))]) ?_
  refine n_if_ne (tgt := 13) C dX5_leastWeight_8 (by decide) b2_i (fun c8 => ?_) (fun c8 => ?_)
  · rw [b2_eq0, Classical.not_not] at c8
    obtain ⟨pn, hpn⟩ := Int.eq_ofNat_of_zero_le (show 0 ≤ p by omega)
    have hk : old a ≤ pn ∧ (pn : Int) < a 7 := by unfold old; omega
    have hP := hI.2.2.1 pn hk.1 hk.2
    unfold PkOK at hP
    have hpn2 : p.toNat = pn := by omega
    obtain ⟨fn, hfa⟩ := Int.eq_ofNat_of_zero_le (show 0 ≤ a (125 + 11 * (pn % 120) + 0) by omega)
    have hfl : flP a pn = fn := flP_of hfa
    have hfn2 : (fn : Int) < a 2 := by omega
    have hfn6 : fn < 6 := by omega
    have hF2 := (hI.2.1 fn hfn2).1
    unfold FlowOK at hF2
    refine r_iload_n C 2 dX5_leastWeight_13 rfl rfl ?_
    refine r_iconst (v := iI 1) C dX5_leastWeight_14 rfl ?_
    refine n_icmp_lt (tgt := 25) C dX5_leastWeight_15 (by decide) (by constructor <;> omega) ⟨by decide, by decide⟩ (fun c15 => ?_) (fun c15 => ?_)
    · refine r_bipush (v := iI (-2)) C dX5_leastWeight_25 (by decide) ?_
      refine r_iret C hr hlk dX5_leastWeight_27 (Nat.zero_le _) (Nat.zero_le _) ?_
      exact ⟨congrArg (fun z => some (Value.int (iI z))) (by unfold aLw; rw [if_neg (by omega), if_pos (by omega)]), Or.inl ⟨rfl, rfl, rfl⟩⟩
    · refine r_iload_n C 2 dX5_leastWeight_18 rfl rfl ?_
      refine r_sipush (v := iI 1000) C dX5_leastWeight_19 (by decide) ?_
      refine n_icmp_le (tgt := 28) C dX5_leastWeight_22 (by decide) (by constructor <;> omega) ⟨by decide, by decide⟩ (fun c22 => ?_) (fun c22 => ?_)
      · obtain ⟨tn, htn⟩ := Int.eq_ofNat_of_zero_le (show 0 ≤ t by omega)
        refine r_aload_n C 0 dX5_leastWeight_28 rfl rfl ?_
        refine r_getR C fl_X5_10 rfl dX5_leastWeight_29 hF.1 hF.2 ?_
        refine r_iload_n C 1 dX5_leastWeight_32 rfl rfl ?_
        refine cV1_PA C (k_X4_packetAt pn hS (by omega) (by omega)) cw_X5_65 (rm_ok rfl rfl (Nat.zero_le _) (Nat.zero_le _)) (Nat.le_of_ble_eq_true rfl) hS.1.1 dX5_leastWeight_33 ?_
        refine r_astore_n (lo' := [(3, .ref (B + (22 + (pn % 120)))), (0, .ref F), (1, .int (iI p)), (2, .int (iI t))]) C dX5_leastWeight_36 rfl (by decide) rfl ?_
        refine r_aload_n C 0 dX5_leastWeight_37 rfl rfl ?_
        refine cV0_PI C (k_X1_isQueued (pn % 120) hS m120 (show 0 ≤ X (125 + 11 * (pn % 120) + 4) ∧ X (125 + 11 * (pn % 120) + 4) ≤ 4 by rw [show X (125 + 11 * (pn % 120) + 4) = (a (125 + 11 * (pn % 120) + 4)) from (hR.p hk (by decide))]; omega)) cw_X5_105 (rm_ok rfl rfl (Nat.zero_le _) (Nat.zero_le _)) (Nat.le_of_ble_eq_true rfl) (hS.2.2.2.1 (pn % 120) m120).1 dX5_leastWeight_38 ?_
        refine n_eqi (y := (b2 ((a (125 + 11 * (pn % 120) + 4)) ≤ 1))) (by rw [show X (125 + 11 * (pn % 120) + 4) = (a (125 + 11 * (pn % 120) + 4)) from (hR.p hk (by decide))]) ?_
        refine n_if_ne (tgt := 47) C dX5_leastWeight_41 (by decide) b2_i (fun c41 => ?_) (fun c41 => ?_)
        · rw [b2_eq0, Classical.not_not] at c41
          have hstart : lwK a fn pn tn 16 1 = aLw a p t := by
            unfold aLw
            rw [if_neg (by omega), if_neg (by omega), hpn2, if_neg (by omega), hfl, show t.toNat = tn by omega]
          refine r_iconst (v := iI 1) C dX5_leastWeight_47 rfl ?_
          refine r_istore (lo' := [(4, .int (iI 1)), (3, .ref (B + (22 + (pn % 120)))), (0, .ref F), (1, .int (iI p)), (2, .int (iI t))]) C dX5_leastWeight_48 (by decide) rfl ?_
          have lp50 : ∀ (k : Nat) (x4 : Int) (wn : Nat) (cpv : Option Nat) (Y1 : MY) (I1 : MI) (L1 : ML) (cs : Nat) (ss : Nat) (hx4 : x4 = wn) (hwn : 1 ≤ wn ∧ wn ≤ 17) (hst : (Y1 = Y ∧ I1 = cI I B X ∧ L1 = cL L B X ∧ cpv = cp) ∨ ∃ c, cpv = some c ∧ Grw base F cp Y (cI I B X) (cL L B X) Y1 I1 L1 c) (hF : FLn base Y1 F B) (hS : SLy base Y1 B) (hC : Cpy base Y1 F B cpv) (eB : I1 = cI I1 B X) (eLB : L1 = cL L1 B X) (hcs : cs + cst cpv ≤ 206) (hsl : ss + sst cpv ≤ 2279) (he : lwK a fn pn tn (17 - wn) wn = aLw a p t), 17 - wn = k → Bd zp l ze { frames := 11, cells := 206, slots := 2279, locals := 430 } zs zm zargs zbl zmt zc 6 G base (fun v Y' I' L' => v = some (.int (iI (aLw a p t))) ∧ ((Y' = Y ∧ I' = cI I B X ∧ L' = cL L B X) ∨ ∃ c, Grw base F cp Y (cI I B X) (cL L B X) Y' I' L' c)) 50 [(4, .int (iI x4)), (3, .ref (B + (22 + (pn % 120)))), (0, .ref F), (1, .int (iI p)), (2, .int (iI t))] [] Y1 I1 L1 cs ss := by
            intro k
            induction k using Nat.strongRecOn with
            | _ k ih50 =>
            intro x4 wn cpv Y1 I1 L1 cs ss hx4 hwn hst hF hS hC eB eLB hcs hsl he hk50
            have hcc : cs ≤ 206 := by omega
            have hss : ss ≤ 2279 := by omega
            refine r_iload C 0 dX5_leastWeight_50 rfl ?_
            refine r_bipush (v := iI 16) C dX5_leastWeight_52 (by decide) ?_
            refine n_icmp_gt (tgt := 101) C dX5_leastWeight_54 (by decide) (by constructor <;> omega) ⟨by decide, by decide⟩ (fun c54 => ?_) (fun c54 => ?_)
            · refine r_bipush (v := iI (-6)) C dX5_leastWeight_101 (by decide) ?_
              refine r_iret C hr hlk dX5_leastWeight_103 hcc hss ?_
              have hfin : aLw a p t = -6 := by
                rw [← he, show 17 - wn = 0 by omega]
                rfl
              refine ⟨congrArg (fun z => some (Value.int (iI z))) hfin.symm, ?_⟩
              rcases hst with ⟨h1, h2, h3, h4⟩ | ⟨d, h1, h2⟩
              · exact Or.inl ⟨h1, h2, h3⟩
              · exact Or.inr ⟨d, h2⟩
            · refine r_aload_n C 2 dX5_leastWeight_57 rfl rfl ?_
              refine r_eqI eB ?_
              refine r_eqL eLB ?_
              refine cV0_G C (k_X5_freshCopy cpv hI hR hN hPc hF hS hC) cw_X5_270 ⟨⟨Nat.le_of_ble_eq_true rfl, Nat.le_of_ble_eq_true rfl⟩, (by show cs + cst cpv ≤ 206; omega), (by show ss + sst cpv ≤ 2279; omega)⟩ (Nat.le_of_ble_eq_true rfl) hF.1 dX5_leastWeight_58 (fun v58 Y58 I58 L58 h58 => ?_)
              obtain ⟨c, X2, rfl, hR2, hG, jB, kB, jc, kc⟩ := h58
              have hSc := hG.1.2
              have hBc := hG.gt hC hS
              have hF_ := hG.f hC hS hF
              have hC_ := hG.c hC hS
              have hS_ := hG.s hC hS
              have hF := hF_
              have hS := hS_
              have hC := hC_
              refine r_astore (lo' := [(5, .ref c), (4, .int (iI x4)), (3, .ref (B + (22 + (pn % 120)))), (0, .ref F), (1, .int (iI p)), (2, .int (iI t))]) C dX5_leastWeight_61 (by decide) rfl ?_
              refine r_aload C 0 dX5_leastWeight_63 rfl ?_
              refine r_getR C fl_X5_42 rfl dX5_leastWeight_65 hSc.1.1 hSc.2.1.2.1 ?_
              refine r_aload_n C 2 dX5_leastWeight_68 rfl rfl ?_
              refine r_eqI jB ?_
              refine r_eqL kB ?_
              refine c_getI C (v := (a (125 + 11 * (pn % 120) + 0))) (22 + (pn % 120)) ((125 + 11 * (pn % 120) + 0)) rfl (oP m120) (lnP m120 (by decide)) (ky_P m120 0) fl_X5_77 rfl dX5_leastWeight_69 (hS.2.2.2.1 (pn % 120) m120).1 (hR.p hk (by decide)) ?_
              refine r_eqI jB.symm ?_
              refine r_eqL kB.symm ?_
              refine r_aald C (by decide) (by decide) fn dX5_leastWeight_72 hSc.1.2.2.1 ⟨congrArg iI (by omega), (by omega), by decide⟩ (hSc.2.2.1 fn hfn6).2.2.2.1 ?_
              refine r_getR C fl_X5_46 rfl dX5_leastWeight_73 (hSc.2.2.1 fn hfn6).1 (hSc.2.2.1 fn hfn6).2.2.2.2.1 ?_
              refine r_iconst (v := iI 0) C dX5_leastWeight_76 rfl ?_
              refine r_iload C 1 dX5_leastWeight_77 rfl ?_
              refine r_eqI jc ?_
              refine r_eqL kc ?_
              refine c_iast C (4 + 3 * fn) 0 ((17 + 18 * fn + 0)) rfl (oG hfn6) (lnG1 hfn6) (ky_G hfn6 (by omega)) dX5_leastWeight_79 (hSc.2.2.1 fn hfn6).2.1 ⟨rfl, by decide, by decide⟩ (fun a79 ea79 => ?_)
              have hRw : Rl true (up1 a (17 + 18 * fn + 0) wn) a79 := by
                rw [ea79, hx4]
                exact hR2.upF hfn6 (by decide) _
              have hOw : OK N T (up1 a (17 + 18 * fn + 0) wn) := set_OK ⟨hI, hN, hLg⟩ hfn2 (k := 0) (v := (wn : Int)) (Or.inl ⟨rfl, by omega, by omega⟩)
              have hkw : old (up1 a (17 + 18 * fn + 0) wn) ≤ pn ∧ (pn : Int) < (up1 a (17 + 18 * fn + 0) wn) 7 := by rw [old_eq (up1_n (by omega)), up1_n (by omega)]; exact hk
              refine r_aload C 0 dX5_leastWeight_80 rfl ?_
              refine r_iload_n C 4 dX5_leastWeight_82 rfl rfl ?_
              refine r_iload_n C 5 dX5_leastWeight_83 rfl rfl ?_
              refine cV2_EI C (k_X4_ticksUntilDelivery pn tn hSc hOw.1 hRw.ff (by omega) (by omega) hOw.2.1 (by omega) hkw (by rw [up1_n (by omega)]; omega)) cw_X5_274 (rm_ok rfl rfl (by show cs + cst cpv ≤ 206; omega) (by show ss + sst cpv ≤ 2279; omega)) (Nat.le_of_ble_eq_true rfl) hSc.1.1 dX5_leastWeight_84 (fun r84 I84 L84 h84 => ?_)
              obtain ⟨h84r, X84, h84I, h84L⟩ := h84
              subst h84I
              subst h84L
              have htb := ttK_6 pn tn (up1 a (17 + 18 * fn + 0) wn) 0
              have htle : ttK pn tn (up1 a (17 + 18 * fn + 0) wn) 0 ≤ 1000 := ttK_le pn tn (up1 a (17 + 18 * fn + 0) wn) 0 (by omega)
              have hGo : Grw base F cpv Y1 (cI I1 B X) (cL L1 B X) Y58 (cI I58 c X84) (cL L58 c X84) c := hG.on (fun y hy => ⟨cI_out hy, cL_out hy⟩)
              have hGt : Grw base F cp Y (cI I B X) (cL L B X) Y58 (cI I58 c X84) (cL L58 c X84) c := by
                rcases hst with ⟨h1, h2, h3, h4⟩ | ⟨d, h1, h2⟩
                · rw [← eB, ← eLB, h1, h2, h3, h4] at hGo
                  exact hGo
                · rw [← eB, ← eLB, h1] at hGo
                  obtain ⟨-, e5, h6⟩ := h2.tr hGo
                  rw [← e5] at h6
                  exact h6
              refine r_bipush (v := iI (-6)) C dX5_leastWeight_87 (by decide) ?_
              refine n_icmp_eq (tgt := 95) C dX5_leastWeight_89 (by decide) (by constructor <;> omega) ⟨by decide, by decide⟩ (fun c89 => ?_) (fun c89 => ?_)
              · obtain ⟨J95, eJ95⟩ : ∃ J, J = cI I58 c X84 := ⟨_, rfl⟩
                obtain ⟨K95, eK95⟩ : ∃ K, K = cL L58 c X84 := ⟨_, rfl⟩
                have jB95 : J95 = cI J95 B X := by rw [eJ95]; exact cI_same jB (fun y y1 y2 => cI_out (by omega))
                have kB95 : K95 = cL K95 B X := by rw [eK95]; exact cL_same kB (fun y y1 y2 => cL_out (by omega))
                have jc95 : J95 = cI J95 c X84 := by rw [eJ95]; exact cI_idem
                have kc95 : K95 = cL K95 c X84 := by rw [eK95]; exact cL_idem
                refine r_eqI eJ95.symm ?_
                refine r_eqL eK95.symm ?_
                refine n_iinc (lo' := [(4, .int (iI (x4 + 1))), (5, .ref c), (3, .ref (B + (22 + (pn % 120)))), (0, .ref F), (1, .int (iI p)), (2, .int (iI t))]) C 1 dX5_leastWeight_95 rfl rfl (by decide) rfl ?_
                refine r_goto (tgt := 50) C dX5_leastWeight_98 (by decide) ?_
                refine r_lo [0, 2, 3, 4, 5] rfl ?_
                exact ih50 _ (by first | omega | (rw [← hk50]; omega)) ((x4 + 1)) (wn + 1) ((some c)) Y58 J95 K95 ((cs + cst cpv)) ((ss + sst cpv)) (by omega) (by omega) (Or.inr ⟨c, rfl, by rw [eJ95, eK95]; exact hGt⟩) hF hS hC jB95 kB95 (by show cs + cst cpv + 0 ≤ 206; omega) (by show ss + sst cpv + 0 ≤ 2279; omega) (by rw [show 17 - wn = (17 - (wn + 1)) + 1 by omega, lwK_s, if_neg (by omega)] at he; exact he) rfl
              · refine r_iload C 1 dX5_leastWeight_92 rfl ?_
                refine r_iret C hr hlk dX5_leastWeight_94 (by show cs + cst cpv ≤ 206; omega) (by show ss + sst cpv ≤ 2279; omega) ?_
                refine ⟨congrArg (fun z => some (Value.int (iI z))) ?_, Or.inr ⟨c, hGt⟩⟩
                rw [show 17 - wn = (17 - (wn + 1)) + 1 by omega, lwK_s, if_pos (by omega)] at he
                rw [← he]
                exact hx4
          exact lp50 _ 1 1 cp Y ((cI I B X)) ((cL L B X)) 0 0 rfl (by omega) (Or.inl ⟨rfl, rfl, rfl, rfl⟩) hF hS hC cI_idem cL_idem cst_le sst_le hstart rfl
        · refine r_bipush (v := iI (-5)) C dX5_leastWeight_44 (by decide) ?_
          refine r_iret C hr hlk dX5_leastWeight_46 (Nat.zero_le _) (Nat.zero_le _) ?_
          rw [b2_eq0] at c41
          exact ⟨congrArg (fun z => some (Value.int (iI z))) (by unfold aLw; rw [if_neg (by omega), if_neg (by omega), hpn2, if_pos c41]), Or.inl ⟨rfl, rfl, rfl⟩⟩
      · refine r_bipush (v := iI (-2)) C dX5_leastWeight_25 (by decide) ?_
        refine r_iret C hr hlk dX5_leastWeight_27 (Nat.zero_le _) (Nat.zero_le _) ?_
        exact ⟨congrArg (fun z => some (Value.int (iI z))) (by unfold aLw; rw [if_neg (by omega), if_pos (by omega)]), Or.inl ⟨rfl, rfl, rfl⟩⟩
  · refine r_iconst (v := iI (-1)) C dX5_leastWeight_11 rfl ?_
    refine r_iret C hr hlk dX5_leastWeight_12 (Nat.zero_le _) (Nat.zero_le _) ?_
    rw [b2_eq0] at c8
    exact ⟨congrArg (fun z => some (Value.int (iI z))) (by unfold aLw; rw [if_pos c8]), Or.inl ⟨rfl, rfl, rfl⟩⟩
