set_option maxHeartbeats 4000000 in
set_option maxRecDepth 20000 in
theorem k_X5_advance {l : Launch} {G : Gd} {base : Nat} {Y : MY} {I : MI} {L : ML} {B : Nat} {X : Sa} {a : Sa} {N T : Int} {F : Nat} {t : Int} (hS : SLy base Y B) (hI : Inv N T a) (hR : Rl true a X) (hF : FLn base Y F B) (hN : NowOK a) (hLg : LagOK a) (hTT : T ≤ 1000000) (ht0 : -2147483648 ≤ t ∧ t < 2147483648) : Ct l yX5_advance cX5_advance 3 (some .int) (rmz 6 134) G base [.ref F, .int (iI t)] Y (cI I B X) (cL L B X) (EI Y (fun r I' L' => ∃ a' X', (AdvR a t r a') ∧ Rl true a' X' ∧ I' = cI I B X' ∧ L' = cL L B X')) := by
  refine Ct.of (own := RX5) (lo := [(0, .ref F), (1, .int (iI t))]) (by decide) rfl (Nat.le_of_ble_eq_true rfl) rfl ?_
  intro zp ze zs zm zargs zbl zmt zc C hr hlk hnm
  have hT := hI.1
  unfold TopOK at hT
  refine r_iload_n C 1 dX5_advance_0 rfl rfl ?_
  refine r_iconst (v := iI 1) C dX5_advance_1 rfl ?_
  refine n_icmp_lt (tgt := 12) C dX5_advance_2 (by decide) (by constructor <;> omega) ⟨by decide, by decide⟩ (fun c2 => ?_) (fun c2 => ?_)
  · refine r_bipush (v := iI (-2)) C dX5_advance_12 (by decide) ?_
    refine r_iret C hr hlk dX5_advance_14 (Nat.zero_le _) (Nat.zero_le _) ?_
    exact ⟨_, rfl, rfl, a, X, Or.inl ⟨by omega, rfl, rfl⟩, hR, rfl, rfl⟩
  · refine r_iload_n C 1 dX5_advance_5 rfl rfl ?_
    refine r_sipush (v := iI 2000) C dX5_advance_6 (by decide) ?_
    refine n_icmp_le (tgt := 15) C dX5_advance_9 (by decide) (by constructor <;> omega) ⟨by decide, by decide⟩ (fun c9 => ?_) (fun c9 => ?_)
    · refine r_aload_n C 0 dX5_advance_15 rfl rfl ?_
      refine r_getR C fl_X5_10 rfl dX5_advance_16 hF.1 hF.2 ?_
      refine c_getI C (v := (a 0)) 0 0 rfl (by decide) (lnS (by decide)) rfl fl_X5_146 rfl dX5_advance_19 hS.1.1 (hR.n 0 (by decide) (by decide)) ?_
      refine r_iload_n C 1 dX5_advance_22 rfl rfl ?_
      refine n_iadd C dX5_advance_23 ?_
      refine n_ldc (v := 1000000) C lc_X5_149 (by decide) dX5_advance_24 ?_
      refine n_icmp_le (tgt := 32) C dX5_advance_26 (by decide) (by constructor <;> omega) ⟨by decide, by decide⟩ (fun c26 => ?_) (fun c26 => ?_)
      · obtain ⟨tn, htn⟩ := Int.eq_ofNat_of_zero_le (show 0 ≤ t by omega)
        refine r_iconst (v := iI 0) C dX5_advance_32 rfl ?_
        refine r_istore_n (lo' := [(2, .int (iI 0)), (0, .ref F), (1, .int (iI t))]) C dX5_advance_33 rfl (by decide) rfl ?_
        have lp34 : ∀ (k : Nat) (x2 : Int) (i : Nat) (X1 : Sa) (hx2 : x2 = i) (hi : i ≤ tn) (hR1 : Rl true (tkN a i) X1), tn - i = k → Bd zp l ze (rmz 6 134) zs zm zargs zbl zmt zc 3 G base (EI Y (fun r I' L' => ∃ a' X', (AdvR a t r a') ∧ Rl true a' X' ∧ I' = cI I B X' ∧ L' = cL L B X')) 34 [(2, .int (iI x2)), (0, .ref F), (1, .int (iI t))] [] Y (cI I B X1) (cL L B X1) 0 0 := by
          intro k
          induction k using Nat.strongRecOn with
          | _ k ih34 =>
          intro x2 i X1 hx2 hi hR1 hk34
          have hk := tkN_ok hI hN hLg i (by omega)
          have hTk := hk.1.1
          unfold TopOK at hTk
          refine r_iload_n C 0 dX5_advance_34 rfl rfl ?_
          refine r_iload_n C 2 dX5_advance_35 rfl rfl ?_
          refine n_icmp_ge (tgt := 52) C dX5_advance_36 (by decide) (by constructor <;> omega) (by constructor <;> omega) (fun c36 => ?_) (fun c36 => ?_)
          · refine r_aload_n C 1 dX5_advance_52 rfl rfl ?_
            refine r_getR C fl_X5_10 rfl dX5_advance_53 hF.1 hF.2 ?_
            refine c_getI C (v := ((tkN a i) 0)) 0 0 rfl (by decide) (lnS (by decide)) rfl fl_X5_146 rfl dX5_advance_56 hS.1.1 (hR1.n 0 (by decide) (by decide)) ?_
            refine r_iret C hr hlk dX5_advance_59 (Nat.zero_le _) (Nat.zero_le _) ?_
            have e : i = tn := by omega
            subst e
            exact ⟨_, rfl, rfl, _, X1, Or.inr (Or.inr ⟨by omega, by omega, by rw [hk.2.2.2.1]; omega, by rw [show t.toNat = i by omega]⟩), hR1, rfl, rfl⟩
          · refine r_aload_n C 1 dX5_advance_39 rfl rfl ?_
            refine r_getR C fl_X5_10 rfl dX5_advance_40 hF.1 hF.2 ?_
            refine cV0_EV C (k_X4_makeTick hS hk.1 hR1 hk.2.1 hk.2.2.1 (by omega)) cw_X5_150 (rm_ok rfl rfl (Nat.zero_le _) (Nat.zero_le _)) (Nat.le_of_ble_eq_true rfl) hS.1.1 dX5_advance_43 (fun I43 L43 h43 => ?_)
            obtain ⟨a43, h43R, h43z, h43I, h43L⟩ := h43
            subst h43I
            subst h43L
            refine n_iinc (lo' := [(2, .int (iI (x2 + 1))), (0, .ref F), (1, .int (iI t))]) C 0 dX5_advance_46 rfl rfl (by decide) rfl ?_
            refine r_goto (tgt := 34) C dX5_advance_49 (by decide) ?_
            exact ih34 _ (by first | omega | (rw [← hk34]; omega)) ((x2 + 1)) (i + 1) a43 (by omega) (by omega) h43R rfl
        exact lp34 _ 0 0 X rfl (Nat.zero_le _) hR rfl
      · refine r_bipush (v := iI (-5)) C dX5_advance_29 (by decide) ?_
        refine r_iret C hr hlk dX5_advance_31 (Nat.zero_le _) (Nat.zero_le _) ?_
        exact ⟨_, rfl, rfl, a, X, Or.inr (Or.inl ⟨by omega, by omega, rfl, rfl⟩), hR, rfl, rfl⟩
    · refine r_bipush (v := iI (-2)) C dX5_advance_12 (by decide) ?_
      refine r_iret C hr hlk dX5_advance_14 (Nat.zero_le _) (Nat.zero_le _) ?_
      exact ⟨_, rfl, rfl, a, X, Or.inl ⟨by omega, rfl, rfl⟩, hR, rfl, rfl⟩
set_option maxHeartbeats 4000000 in
set_option maxRecDepth 20000 in
theorem k_X5_awaitDelivery {l : Launch} {G : Gd} {base : Nat} {Y : MY} {I : MI} {L : ML} {B : Nat} {X : Sa} {a : Sa} {N T : Int} {F : Nat} {t : Int} (hS : SLy base Y B) (hI : Inv N T a) (hR : Rl true a X) (hF : FLn base Y F B) (hN : NowOK a) (hLg : LagOK a) (hTT : T ≤ 1000000) (ht0 : -2147483648 ≤ t ∧ t < 2147483648) : Ct l yX5_awaitDelivery cX5_awaitDelivery 3 (some .int) (rmz 6 134) G base [.ref F, .int (iI t)] Y (cI I B X) (cL L B X) (EI Y (fun r I' L' => ∃ a' X', (AwdR a t r a') ∧ Rl true a' X' ∧ I' = cI I B X' ∧ L' = cL L B X')) := by
  refine Ct.of (own := RX5) (lo := [(0, .ref F), (1, .int (iI t))]) (by decide) rfl (Nat.le_of_ble_eq_true rfl) rfl ?_
  intro zp ze zs zm zargs zbl zmt zc C hr hlk hnm
  have hT := hI.1
  unfold TopOK at hT
  refine r_iload_n C 1 dX5_awaitDelivery_0 rfl rfl ?_
  refine r_iconst (v := iI 1) C dX5_awaitDelivery_1 rfl ?_
  refine n_icmp_lt (tgt := 12) C dX5_awaitDelivery_2 (by decide) (by constructor <;> omega) ⟨by decide, by decide⟩ (fun c2 => ?_) (fun c2 => ?_)
  · refine r_bipush (v := iI (-2)) C dX5_awaitDelivery_12 (by decide) ?_
    refine r_iret C hr hlk dX5_awaitDelivery_14 (Nat.zero_le _) (Nat.zero_le _) ?_
    exact ⟨_, rfl, rfl, a, X, Or.inl ⟨by omega, rfl, rfl⟩, hR, rfl, rfl⟩
  · refine r_iload_n C 1 dX5_awaitDelivery_5 rfl rfl ?_
    refine r_sipush (v := iI 2000) C dX5_awaitDelivery_6 (by decide) ?_
    refine n_icmp_le (tgt := 15) C dX5_awaitDelivery_9 (by decide) (by constructor <;> omega) ⟨by decide, by decide⟩ (fun c9 => ?_) (fun c9 => ?_)
    · refine r_aload_n C 0 dX5_awaitDelivery_15 rfl rfl ?_
      refine r_getR C fl_X5_10 rfl dX5_awaitDelivery_16 hF.1 hF.2 ?_
      refine c_getI C (v := (a 0)) 0 0 rfl (by decide) (lnS (by decide)) rfl fl_X5_146 rfl dX5_awaitDelivery_19 hS.1.1 (hR.n 0 (by decide) (by decide)) ?_
      refine r_iload_n C 1 dX5_awaitDelivery_22 rfl rfl ?_
      refine n_iadd C dX5_awaitDelivery_23 ?_
      refine n_ldc (v := 1000000) C lc_X5_149 (by decide) dX5_awaitDelivery_24 ?_
      refine n_icmp_le (tgt := 32) C dX5_awaitDelivery_26 (by decide) (by constructor <;> omega) ⟨by decide, by decide⟩ (fun c26 => ?_) (fun c26 => ?_)
      · obtain ⟨tn, htn⟩ := Int.eq_ofNat_of_zero_le (show 0 ≤ t by omega)
        refine r_iconst (v := iI 0) C dX5_awaitDelivery_32 rfl ?_
        refine r_istore_n (lo' := [(2, .int (iI 0)), (0, .ref F), (1, .int (iI t))]) C dX5_awaitDelivery_33 rfl (by decide) rfl ?_
        have lp34 : ∀ (k : Nat) (x2 : Int) (i : Nat) (a1 : Sa) (X1 : Sa) (hx2 : x2 = i) (hi : i ≤ tn) (hO : OK N (T + i) a1) (hR1 : Rl true a1 X1) (heZ : awZ (tn - i) a1 (-6) = awZ tn a (-6)) (heR : awR (tn - i) a1 (-6) = awR tn a (-6)), tn - i = k → Bd zp l ze (rmz 6 134) zs zm zargs zbl zmt zc 3 G base (EI Y (fun r I' L' => ∃ a' X', (AwdR a t r a') ∧ Rl true a' X' ∧ I' = cI I B X' ∧ L' = cL L B X')) 34 [(2, .int (iI x2)), (0, .ref F), (1, .int (iI t))] [] Y (cI I B X1) (cL L B X1) 0 0 := by
          intro k
          induction k using Nat.strongRecOn with
          | _ k ih34 =>
          intro x2 i a1 X1 hx2 hi hO hR1 heZ heR hk34
          refine r_iload_n C 0 dX5_awaitDelivery_34 rfl rfl ?_
          refine r_iload_n C 2 dX5_awaitDelivery_35 rfl rfl ?_
          refine n_icmp_ge (tgt := 72) C dX5_awaitDelivery_36 (by decide) (by constructor <;> omega) (by constructor <;> omega) (fun c36 => ?_) (fun c36 => ?_)
          · refine r_bipush (v := iI (-6)) C dX5_awaitDelivery_72 (by decide) ?_
            refine r_iret C hr hlk dX5_awaitDelivery_74 (Nat.zero_le _) (Nat.zero_le _) ?_
            rw [show tn - i = 0 by omega] at heZ heR
            exact ⟨_, rfl, rfl, _, X1, Or.inr (Or.inr ⟨by omega, by omega, by rw [show t.toNat = tn by omega]; exact heZ, by rw [show t.toNat = tn by omega]; exact heR⟩), hR1, rfl, rfl⟩
          · have hk := tick_ok hO.1 hO.2.1 (by omega)
            have hz := tkz_6 hO.1 hO.2.1 (by omega)
            have hs : tn - i = (tn - (i + 1)) + 1 := by omega
            refine r_aload_n C 1 dX5_awaitDelivery_39 rfl rfl ?_
            refine r_getR C fl_X5_10 rfl dX5_awaitDelivery_40 hF.1 hF.2 ?_
            refine cV0_EV C (k_X4_makeTick hS hO.1 hR1 hO.2.1 hO.2.2 (by omega)) cw_X5_150 (rm_ok rfl rfl (Nat.zero_le _) (Nat.zero_le _)) (Nat.le_of_ble_eq_true rfl) hS.1.1 dX5_awaitDelivery_43 (fun I43 L43 h43 => ?_)
            obtain ⟨a43, h43R, h43z, h43I, h43L⟩ := h43
            subst h43I
            subst h43L
            refine r_aload_n C 1 dX5_awaitDelivery_46 rfl rfl ?_
            refine r_getR C fl_X5_10 rfl dX5_awaitDelivery_47 hF.1 hF.2 ?_
            refine c_getI C (v := (tkz a1)) 0 8356 rfl (by decide) (lnS (by decide)) rfl fl_X5_153 rfl dX5_awaitDelivery_50 hS.1.1 h43z ?_
            refine r_bipush (v := iI (-6)) C dX5_awaitDelivery_53 (by decide) ?_
            refine n_icmp_eq (tgt := 66) C dX5_awaitDelivery_55 (by decide) (by constructor <;> omega) ⟨by decide, by decide⟩ (fun c55 => ?_) (fun c55 => ?_)
            · have hz6 : tkz a1 = -6 := by omega
              refine n_iinc (lo' := [(2, .int (iI (x2 + 1))), (0, .ref F), (1, .int (iI t))]) C 0 dX5_awaitDelivery_66 rfl rfl (by decide) rfl ?_
              refine r_goto (tgt := 34) C dX5_awaitDelivery_69 (by decide) ?_
              exact ih34 _ (by first | omega | (rw [← hk34]; omega)) ((x2 + 1)) (i + 1) ((tick a1)) a43 (by omega) (by omega) (by rw [show T + ((i + 1 : Nat) : Int) = T + i + 1 by omega]; exact ⟨hk.1, hk.2.1, hk.2.2.1⟩) h43R (by rw [hs, awZ_s, if_pos (by decide), hz6] at heZ; exact heZ) (by rw [hs, awR_s, if_pos (by decide), hz6] at heR; exact heR) rfl
            · refine r_aload_n C 1 dX5_awaitDelivery_58 rfl rfl ?_
              refine r_getR C fl_X5_10 rfl dX5_awaitDelivery_59 hF.1 hF.2 ?_
              refine c_getI C (v := (tkz a1)) 0 8356 rfl (by decide) (lnS (by decide)) rfl fl_X5_153 rfl dX5_awaitDelivery_62 hS.1.1 h43z ?_
              refine r_iret C hr hlk dX5_awaitDelivery_65 (Nat.zero_le _) (Nat.zero_le _) ?_
              have hp := awZ_p (a := tick a1) (n := tn - (i + 1)) (z := tkz a1) (by omega)
              rw [hs, awZ_s, if_pos (by decide), hp.1] at heZ
              rw [hs, awR_s, if_pos (by decide), hp.2] at heR
              exact ⟨_, rfl, rfl, _, a43, Or.inr (Or.inr ⟨by omega, by omega, by rw [show t.toNat = tn by omega]; exact heZ, by rw [show t.toNat = tn by omega]; exact heR⟩), h43R, rfl, rfl⟩
        exact lp34 _ 0 0 a X rfl (Nat.zero_le _) (by rw [show T + ((0 : Nat) : Int) = T by omega]; exact ⟨hI, hN, hLg⟩) hR rfl rfl rfl
      · refine r_bipush (v := iI (-5)) C dX5_awaitDelivery_29 (by decide) ?_
        refine r_iret C hr hlk dX5_awaitDelivery_31 (Nat.zero_le _) (Nat.zero_le _) ?_
        exact ⟨_, rfl, rfl, a, X, Or.inr (Or.inl ⟨by omega, by omega, rfl, rfl⟩), hR, rfl, rfl⟩
    · refine r_bipush (v := iI (-2)) C dX5_awaitDelivery_12 (by decide) ?_
      refine r_iret C hr hlk dX5_awaitDelivery_14 (Nat.zero_le _) (Nat.zero_le _) ?_
      exact ⟨_, rfl, rfl, a, X, Or.inl ⟨by omega, rfl, rfl⟩, hR, rfl, rfl⟩
set_option maxHeartbeats 4000000 in
set_option maxRecDepth 20000 in
theorem k_X5_flow {l : Launch} {G : Gd} {base : Nat} {Y : MY} {I : MI} {L : ML} {B : Nat} {X : Sa} {a : Sa} {N T : Int} {F : Nat} {f w : Int} (hS : SLy base Y B) (hI : Inv N T a) (hR : Rl true a X) (hF : FLn base Y F B) (hf0 : -2147483648 ≤ f ∧ f < 2147483648) (hw0 : -2147483648 ≤ w ∧ w < 2147483648) : Ct l yX5_flow cX5_flow 4 (some .int) (rmz 3 66) G base [.ref F, .int (iI f), .int (iI w)] Y (cI I B X) (cL L B X) (PI (aFlo a f w) Y (cI I B X) (cL L B X)) := by
  refine Ct.of (own := RX5) (lo := [(0, .ref F), (1, .int (iI f)), (2, .int (iI w))]) (by decide) rfl (Nat.le_of_ble_eq_true rfl) rfl ?_
  intro zp ze zs zm zargs zbl zmt zc C hr hlk hnm
  have hT := hI.1
  unfold TopOK at hT
  refine r_aload_n C 0 dX5_flow_0 rfl rfl ?_
  refine r_getR C fl_X5_10 rfl dX5_flow_1 hF.1 hF.2 ?_
  refine r_iload_n C 1 dX5_flow_4 rfl rfl ?_
  refine cV1_PI C (k_X4_hasFlow hS (by omega) (show 0 ≤ X 2 ∧ X 2 ≤ 6 by rw [show X 2 = (a 2) from (hR.n 2 (by decide) (by decide))]; omega)) cw_X5_31 (rm_ok rfl rfl (Nat.zero_le _) (Nat.zero_le _)) (Nat.le_of_ble_eq_true rfl) hS.1.1 dX5_flow_5 ?_
  refine n_eqi (y := (b2 (0 ≤ f ∧ f < (a 2)))) (by rw [show X 2 = (a 2) from (hR.n 2 (by decide) (by decide))]) ?_
  refine n_if_ne (tgt := 13) C dX5_flow_8 (by decide) b2_i (fun c8 => ?_) (fun c8 => ?_)
  · rw [b2_eq0, Classical.not_not] at c8
    obtain ⟨fn, hfn⟩ := Int.eq_ofNat_of_zero_le (show 0 ≤ f by omega)
    have hfn2 : (fn : Int) < a 2 := by omega
    have hfn6 : fn < 6 := by omega
    have hF2 := (hI.2.1 fn hfn2).1
    unfold FlowOK at hF2
    have hfn3 : f.toNat = fn := by omega
    refine r_aload_n C 0 dX5_flow_13 rfl rfl ?_
    refine r_getR C fl_X5_10 rfl dX5_flow_14 hF.1 hF.2 ?_
    refine r_getR C fl_X5_42 rfl dX5_flow_17 hS.1.1 hS.2.1.2.1 ?_
    refine r_iload_n C 1 dX5_flow_20 rfl rfl ?_
    refine r_aald C (by decide) (by decide) fn dX5_flow_21 hS.1.2.2.1 ⟨congrArg iI (by omega), (by omega), by decide⟩ (hS.2.2.1 fn hfn6).2.2.2.1 ?_
    refine r_astore_n (lo' := [(3, .ref (B + (3 + 3 * fn))), (0, .ref F), (1, .int (iI f)), (2, .int (iI w))]) C dX5_flow_22 rfl (by decide) rfl ?_
    refine r_iload_n C 3 dX5_flow_23 rfl rfl ?_
    refine n_if_lt (tgt := 39) C dX5_flow_24 (by decide) (by constructor <;> omega) (fun c24 => ?_) (fun c24 => ?_)
    · refine r_iload_n C 3 dX5_flow_39 rfl rfl ?_
      rcases sw_split (x := w) (lw := 5) (n := 10) (by constructor <;> omega) with c40 | ⟨j40, c40, q40⟩
      · refine r_tableOut (tgt := 150) C dX5_flow_40 (by first | exact c40 | exact c40.imp id id) (by decide) ?_
        have k40 := c40
        rw [iI_toInt (by omega) (by omega)] at k40
        refine r_bipush (v := iI (-2)) C dX5_flow_150 (by decide) ?_
        refine r_iret C hr hlk dX5_flow_152 (Nat.zero_le _) (Nat.zero_le _) ?_
        exact ⟨congrArg (fun z => some (Value.int (iI z))) (by unfold aFlo; rw [if_neg (by omega), if_pos (by omega)]), rfl, rfl, rfl⟩
      · match j40, c40, q40 with
        | 0, c40, q40 =>
          refine n_eqi (y := 5) q40 ?_
          refine r_tableIn (tgt := 96) C dX5_flow_40 (by decide) (by decide) (off := 56) (by decide) (by decide) ?_
          refine r_aload_n C 0 dX5_flow_96 rfl rfl ?_
          refine c_getI C (v := (a (17 + 18 * fn + 17))) (3 + 3 * fn) ((17 + 18 * fn + 17)) rfl (oF hfn6) (lnF hfn6 (by decide)) (ky_F hfn6 2) fl_X5_84 rfl dX5_flow_97 (hS.2.2.1 fn hfn6).1 (hR.f hfn2 (fk_y (by decide) (by decide))) ?_
          refine r_iret C hr hlk dX5_flow_100 (Nat.zero_le _) (Nat.zero_le _) ?_
          exact ⟨congrArg (fun z => some (Value.int (iI z))) (by
              unfold aFlo
              rw [if_neg (by omega), if_neg (by omega), hfn3, show w.toNat = 5 by omega]
              rfl), rfl, rfl, rfl⟩
        | 1, c40, q40 =>
          refine n_eqi (y := 6) q40 ?_
          refine r_tableIn (tgt := 101) C dX5_flow_40 (by decide) (by decide) (off := 61) (by decide) (by decide) ?_
          refine r_aload_n C 0 dX5_flow_101 rfl rfl ?_
          refine cV0_PI C (k_X0_head fn hS hfn6 (show 0 ≤ X (17 + 18 * fn + 17) ∧ X (17 + 18 * fn + 17) ≤ 20 by rw [show X (17 + 18 * fn + 17) = (a (17 + 18 * fn + 17)) from (hR.f hfn2 (fk_y (by decide) (by decide)))]; omega)) cw_X5_156 (rm_ok rfl rfl (Nat.zero_le _) (Nat.zero_le _)) (Nat.le_of_ble_eq_true rfl) (hS.2.2.1 fn hfn6).1 dX5_flow_102 ?_
          refine n_eqi (y := (hdF a fn)) (hd_R hI hR hfn2) ?_
          refine r_iret C hr hlk dX5_flow_105 (Nat.zero_le _) (Nat.zero_le _) ?_
          exact ⟨congrArg (fun z => some (Value.int (iI z))) (by
              unfold aFlo
              rw [if_neg (by omega), if_neg (by omega), hfn3, show w.toNat = 6 by omega]
              rfl), rfl, rfl, rfl⟩
        | 2, c40, q40 =>
          refine n_eqi (y := 7) q40 ?_
          refine r_tableIn (tgt := 106) C dX5_flow_40 (by decide) (by decide) (off := 66) (by decide) (by decide) ?_
          refine r_aload_n C 1 dX5_flow_106 rfl rfl ?_
          refine r_getR C fl_X5_10 rfl dX5_flow_107 hF.1 hF.2 ?_
          refine r_aload_n C 0 dX5_flow_110 rfl rfl ?_
          refine cV1_PI C (k_X4_unsentLength fn hS hI hR hfn2 hfn6) cw_X5_159 (rm_ok rfl rfl (Nat.zero_le _) (Nat.zero_le _)) (Nat.le_of_ble_eq_true rfl) hS.1.1 dX5_flow_111 ?_
          refine r_iret C hr hlk dX5_flow_114 (Nat.zero_le _) (Nat.zero_le _) ?_
          exact ⟨congrArg (fun z => some (Value.int (iI z))) (by
              unfold aFlo
              rw [if_neg (by omega), if_neg (by omega), hfn3, show w.toNat = 7 by omega]
              rfl), rfl, rfl, rfl⟩
        | 3, c40, q40 =>
          refine n_eqi (y := 8) q40 ?_
          refine r_tableIn (tgt := 115) C dX5_flow_40 (by decide) (by decide) (off := 75) (by decide) (by decide) ?_
          refine r_aload_n C 0 dX5_flow_115 rfl rfl ?_
          refine c_getI C (v := (a (17 + 18 * fn + 6))) (3 + 3 * fn) ((17 + 18 * fn + 6)) rfl (oF hfn6) (lnF hfn6 (by decide)) (ky_F hfn6 3) fl_X5_163 rfl dX5_flow_116 (hS.2.2.1 fn hfn6).1 (hR.f hfn2 (fk_y (by decide) (by decide))) ?_
          refine r_iret C hr hlk dX5_flow_119 (Nat.zero_le _) (Nat.zero_le _) ?_
          exact ⟨congrArg (fun z => some (Value.int (iI z))) (by
              unfold aFlo
              rw [if_neg (by omega), if_neg (by omega), hfn3, show w.toNat = 8 by omega]
              rfl), rfl, rfl, rfl⟩
        | 4, c40, q40 =>
          refine n_eqi (y := 9) q40 ?_
          refine r_tableIn (tgt := 120) C dX5_flow_40 (by decide) (by decide) (off := 80) (by decide) (by decide) ?_
          refine r_aload_n C 0 dX5_flow_120 rfl rfl ?_
          refine c_getI C (v := (a (17 + 18 * fn + 7))) (3 + 3 * fn) ((17 + 18 * fn + 7)) rfl (oF hfn6) (lnF hfn6 (by decide)) (ky_F hfn6 4) fl_X5_164 rfl dX5_flow_121 (hS.2.2.1 fn hfn6).1 (hR.f hfn2 (fk_y (by decide) (by decide))) ?_
          refine r_iret C hr hlk dX5_flow_124 (Nat.zero_le _) (Nat.zero_le _) ?_
          exact ⟨congrArg (fun z => some (Value.int (iI z))) (by
              unfold aFlo
              rw [if_neg (by omega), if_neg (by omega), hfn3, show w.toNat = 9 by omega]
              rfl), rfl, rfl, rfl⟩
        | 5, c40, q40 =>
          refine n_eqi (y := 10) q40 ?_
          refine r_tableIn (tgt := 125) C dX5_flow_40 (by decide) (by decide) (off := 85) (by decide) (by decide) ?_
          refine r_aload_n C 0 dX5_flow_125 rfl rfl ?_
          refine c_getI C (v := (a (17 + 18 * fn + 8))) (3 + 3 * fn) ((17 + 18 * fn + 8)) rfl (oF hfn6) (lnF hfn6 (by decide)) (ky_F hfn6 5) fl_X5_167 rfl dX5_flow_126 (hS.2.2.1 fn hfn6).1 (hR.f hfn2 (fk_y (by decide) (by decide))) ?_
          refine r_iret C hr hlk dX5_flow_129 (Nat.zero_le _) (Nat.zero_le _) ?_
          exact ⟨congrArg (fun z => some (Value.int (iI z))) (by
              unfold aFlo
              rw [if_neg (by omega), if_neg (by omega), hfn3, show w.toNat = 10 by omega]
              rfl), rfl, rfl, rfl⟩
        | 6, c40, q40 =>
          refine n_eqi (y := 11) q40 ?_
          refine r_tableIn (tgt := 130) C dX5_flow_40 (by decide) (by decide) (off := 90) (by decide) (by decide) ?_
          refine r_aload_n C 0 dX5_flow_130 rfl rfl ?_
          refine c_getI C (v := (a (17 + 18 * fn + 5))) (3 + 3 * fn) ((17 + 18 * fn + 5)) rfl (oF hfn6) (lnF hfn6 (by decide)) (ky_F hfn6 6) fl_X5_170 rfl dX5_flow_131 (hS.2.2.1 fn hfn6).1 (hR.f hfn2 (fk_t (by decide))) ?_
          refine r_iret C hr hlk dX5_flow_134 (Nat.zero_le _) (Nat.zero_le _) ?_
          exact ⟨congrArg (fun z => some (Value.int (iI z))) (by
              unfold aFlo
              rw [if_neg (by omega), if_neg (by omega), hfn3, show w.toNat = 11 by omega]
              rfl), rfl, rfl, rfl⟩
        | 7, c40, q40 =>
          refine n_eqi (y := 12) q40 ?_
          refine r_tableIn (tgt := 135) C dX5_flow_40 (by decide) (by decide) (off := 95) (by decide) (by decide) ?_
          refine r_aload_n C 0 dX5_flow_135 rfl rfl ?_
          refine c_getI C (v := (a (17 + 18 * fn + 9))) (3 + 3 * fn) ((17 + 18 * fn + 9)) rfl (oF hfn6) (lnF hfn6 (by decide)) (ky_F hfn6 7) fl_X5_173 rfl dX5_flow_136 (hS.2.2.1 fn hfn6).1 (hR.f hfn2 (fk_y (by decide) (by decide))) ?_
          refine r_iret C hr hlk dX5_flow_139 (Nat.zero_le _) (Nat.zero_le _) ?_
          exact ⟨congrArg (fun z => some (Value.int (iI z))) (by
              unfold aFlo
              rw [if_neg (by omega), if_neg (by omega), hfn3, show w.toNat = 12 by omega]
              rfl), rfl, rfl, rfl⟩
        | 8, c40, q40 =>
          refine n_eqi (y := 13) q40 ?_
          refine r_tableIn (tgt := 140) C dX5_flow_40 (by decide) (by decide) (off := 100) (by decide) (by decide) ?_
          refine r_aload_n C 0 dX5_flow_140 rfl rfl ?_
          refine c_getI C (v := (a (17 + 18 * fn + 10))) (3 + 3 * fn) ((17 + 18 * fn + 10)) rfl (oF hfn6) (lnF hfn6 (by decide)) (ky_F hfn6 8) fl_X5_176 rfl dX5_flow_141 (hS.2.2.1 fn hfn6).1 (hR.f hfn2 (fk_y (by decide) (by decide))) ?_
          refine r_iret C hr hlk dX5_flow_144 (Nat.zero_le _) (Nat.zero_le _) ?_
          exact ⟨congrArg (fun z => some (Value.int (iI z))) (by
              unfold aFlo
              rw [if_neg (by omega), if_neg (by omega), hfn3, show w.toNat = 13 by omega]
              rfl), rfl, rfl, rfl⟩
        | 9, c40, q40 =>
          refine n_eqi (y := 14) q40 ?_
          refine r_tableIn (tgt := 145) C dX5_flow_40 (by decide) (by decide) (off := 105) (by decide) (by decide) ?_
          refine r_aload_n C 0 dX5_flow_145 rfl rfl ?_
          refine c_getI C (v := (a (17 + 18 * fn + 11))) (3 + 3 * fn) ((17 + 18 * fn + 11)) rfl (oF hfn6) (lnF hfn6 (by decide)) (ky_F hfn6 9) fl_X5_179 rfl dX5_flow_146 (hS.2.2.1 fn hfn6).1 (hR.f hfn2 (fk_y (by decide) (by decide))) ?_
          refine r_iret C hr hlk dX5_flow_149 (Nat.zero_le _) (Nat.zero_le _) ?_
          exact ⟨congrArg (fun z => some (Value.int (iI z))) (by
              unfold aFlo
              rw [if_neg (by omega), if_neg (by omega), hfn3, show w.toNat = 14 by omega]
              rfl), rfl, rfl, rfl⟩
        | j + 10, c40, q40 => exact absurd c40 (by omega)
    · refine r_iload_n C 3 dX5_flow_27 rfl rfl ?_
      refine r_iconst (v := iI 4) C dX5_flow_28 rfl ?_
      refine n_icmp_gt (tgt := 39) C dX5_flow_29 (by decide) (by constructor <;> omega) ⟨by decide, by decide⟩ (fun c29 => ?_) (fun c29 => ?_)
      · refine r_iload_n C 3 dX5_flow_39 rfl rfl ?_
        rcases sw_split (x := w) (lw := 5) (n := 10) (by constructor <;> omega) with c40 | ⟨j40, c40, q40⟩
        · refine r_tableOut (tgt := 150) C dX5_flow_40 (by first | exact c40 | exact c40.imp id id) (by decide) ?_
          have k40 := c40
          rw [iI_toInt (by omega) (by omega)] at k40
          refine r_bipush (v := iI (-2)) C dX5_flow_150 (by decide) ?_
          refine r_iret C hr hlk dX5_flow_152 (Nat.zero_le _) (Nat.zero_le _) ?_
          exact ⟨congrArg (fun z => some (Value.int (iI z))) (by unfold aFlo; rw [if_neg (by omega), if_pos (by omega)]), rfl, rfl, rfl⟩
        · match j40, c40, q40 with
          | 0, c40, q40 =>
            refine n_eqi (y := 5) q40 ?_
            refine r_tableIn (tgt := 96) C dX5_flow_40 (by decide) (by decide) (off := 56) (by decide) (by decide) ?_
            refine r_aload_n C 0 dX5_flow_96 rfl rfl ?_
            refine c_getI C (v := (a (17 + 18 * fn + 17))) (3 + 3 * fn) ((17 + 18 * fn + 17)) rfl (oF hfn6) (lnF hfn6 (by decide)) (ky_F hfn6 2) fl_X5_84 rfl dX5_flow_97 (hS.2.2.1 fn hfn6).1 (hR.f hfn2 (fk_y (by decide) (by decide))) ?_
            refine r_iret C hr hlk dX5_flow_100 (Nat.zero_le _) (Nat.zero_le _) ?_
            exact ⟨congrArg (fun z => some (Value.int (iI z))) (by
                unfold aFlo
                rw [if_neg (by omega), if_neg (by omega), hfn3, show w.toNat = 5 by omega]
                rfl), rfl, rfl, rfl⟩
          | 1, c40, q40 =>
            refine n_eqi (y := 6) q40 ?_
            refine r_tableIn (tgt := 101) C dX5_flow_40 (by decide) (by decide) (off := 61) (by decide) (by decide) ?_
            refine r_aload_n C 0 dX5_flow_101 rfl rfl ?_
            refine cV0_PI C (k_X0_head fn hS hfn6 (show 0 ≤ X (17 + 18 * fn + 17) ∧ X (17 + 18 * fn + 17) ≤ 20 by rw [show X (17 + 18 * fn + 17) = (a (17 + 18 * fn + 17)) from (hR.f hfn2 (fk_y (by decide) (by decide)))]; omega)) cw_X5_156 (rm_ok rfl rfl (Nat.zero_le _) (Nat.zero_le _)) (Nat.le_of_ble_eq_true rfl) (hS.2.2.1 fn hfn6).1 dX5_flow_102 ?_
            refine n_eqi (y := (hdF a fn)) (hd_R hI hR hfn2) ?_
            refine r_iret C hr hlk dX5_flow_105 (Nat.zero_le _) (Nat.zero_le _) ?_
            exact ⟨congrArg (fun z => some (Value.int (iI z))) (by
                unfold aFlo
                rw [if_neg (by omega), if_neg (by omega), hfn3, show w.toNat = 6 by omega]
                rfl), rfl, rfl, rfl⟩
          | 2, c40, q40 =>
            refine n_eqi (y := 7) q40 ?_
            refine r_tableIn (tgt := 106) C dX5_flow_40 (by decide) (by decide) (off := 66) (by decide) (by decide) ?_
            refine r_aload_n C 1 dX5_flow_106 rfl rfl ?_
            refine r_getR C fl_X5_10 rfl dX5_flow_107 hF.1 hF.2 ?_
            refine r_aload_n C 0 dX5_flow_110 rfl rfl ?_
            refine cV1_PI C (k_X4_unsentLength fn hS hI hR hfn2 hfn6) cw_X5_159 (rm_ok rfl rfl (Nat.zero_le _) (Nat.zero_le _)) (Nat.le_of_ble_eq_true rfl) hS.1.1 dX5_flow_111 ?_
            refine r_iret C hr hlk dX5_flow_114 (Nat.zero_le _) (Nat.zero_le _) ?_
            exact ⟨congrArg (fun z => some (Value.int (iI z))) (by
                unfold aFlo
                rw [if_neg (by omega), if_neg (by omega), hfn3, show w.toNat = 7 by omega]
                rfl), rfl, rfl, rfl⟩
          | 3, c40, q40 =>
            refine n_eqi (y := 8) q40 ?_
            refine r_tableIn (tgt := 115) C dX5_flow_40 (by decide) (by decide) (off := 75) (by decide) (by decide) ?_
            refine r_aload_n C 0 dX5_flow_115 rfl rfl ?_
            refine c_getI C (v := (a (17 + 18 * fn + 6))) (3 + 3 * fn) ((17 + 18 * fn + 6)) rfl (oF hfn6) (lnF hfn6 (by decide)) (ky_F hfn6 3) fl_X5_163 rfl dX5_flow_116 (hS.2.2.1 fn hfn6).1 (hR.f hfn2 (fk_y (by decide) (by decide))) ?_
            refine r_iret C hr hlk dX5_flow_119 (Nat.zero_le _) (Nat.zero_le _) ?_
            exact ⟨congrArg (fun z => some (Value.int (iI z))) (by
                unfold aFlo
                rw [if_neg (by omega), if_neg (by omega), hfn3, show w.toNat = 8 by omega]
                rfl), rfl, rfl, rfl⟩
          | 4, c40, q40 =>
            refine n_eqi (y := 9) q40 ?_
            refine r_tableIn (tgt := 120) C dX5_flow_40 (by decide) (by decide) (off := 80) (by decide) (by decide) ?_
            refine r_aload_n C 0 dX5_flow_120 rfl rfl ?_
            refine c_getI C (v := (a (17 + 18 * fn + 7))) (3 + 3 * fn) ((17 + 18 * fn + 7)) rfl (oF hfn6) (lnF hfn6 (by decide)) (ky_F hfn6 4) fl_X5_164 rfl dX5_flow_121 (hS.2.2.1 fn hfn6).1 (hR.f hfn2 (fk_y (by decide) (by decide))) ?_
            refine r_iret C hr hlk dX5_flow_124 (Nat.zero_le _) (Nat.zero_le _) ?_
            exact ⟨congrArg (fun z => some (Value.int (iI z))) (by
                unfold aFlo
                rw [if_neg (by omega), if_neg (by omega), hfn3, show w.toNat = 9 by omega]
                rfl), rfl, rfl, rfl⟩
          | 5, c40, q40 =>
            refine n_eqi (y := 10) q40 ?_
            refine r_tableIn (tgt := 125) C dX5_flow_40 (by decide) (by decide) (off := 85) (by decide) (by decide) ?_
            refine r_aload_n C 0 dX5_flow_125 rfl rfl ?_
            refine c_getI C (v := (a (17 + 18 * fn + 8))) (3 + 3 * fn) ((17 + 18 * fn + 8)) rfl (oF hfn6) (lnF hfn6 (by decide)) (ky_F hfn6 5) fl_X5_167 rfl dX5_flow_126 (hS.2.2.1 fn hfn6).1 (hR.f hfn2 (fk_y (by decide) (by decide))) ?_
            refine r_iret C hr hlk dX5_flow_129 (Nat.zero_le _) (Nat.zero_le _) ?_
            exact ⟨congrArg (fun z => some (Value.int (iI z))) (by
                unfold aFlo
                rw [if_neg (by omega), if_neg (by omega), hfn3, show w.toNat = 10 by omega]
                rfl), rfl, rfl, rfl⟩
          | 6, c40, q40 =>
            refine n_eqi (y := 11) q40 ?_
            refine r_tableIn (tgt := 130) C dX5_flow_40 (by decide) (by decide) (off := 90) (by decide) (by decide) ?_
            refine r_aload_n C 0 dX5_flow_130 rfl rfl ?_
            refine c_getI C (v := (a (17 + 18 * fn + 5))) (3 + 3 * fn) ((17 + 18 * fn + 5)) rfl (oF hfn6) (lnF hfn6 (by decide)) (ky_F hfn6 6) fl_X5_170 rfl dX5_flow_131 (hS.2.2.1 fn hfn6).1 (hR.f hfn2 (fk_t (by decide))) ?_
            refine r_iret C hr hlk dX5_flow_134 (Nat.zero_le _) (Nat.zero_le _) ?_
            exact ⟨congrArg (fun z => some (Value.int (iI z))) (by
                unfold aFlo
                rw [if_neg (by omega), if_neg (by omega), hfn3, show w.toNat = 11 by omega]
                rfl), rfl, rfl, rfl⟩
          | 7, c40, q40 =>
            refine n_eqi (y := 12) q40 ?_
            refine r_tableIn (tgt := 135) C dX5_flow_40 (by decide) (by decide) (off := 95) (by decide) (by decide) ?_
            refine r_aload_n C 0 dX5_flow_135 rfl rfl ?_
            refine c_getI C (v := (a (17 + 18 * fn + 9))) (3 + 3 * fn) ((17 + 18 * fn + 9)) rfl (oF hfn6) (lnF hfn6 (by decide)) (ky_F hfn6 7) fl_X5_173 rfl dX5_flow_136 (hS.2.2.1 fn hfn6).1 (hR.f hfn2 (fk_y (by decide) (by decide))) ?_
            refine r_iret C hr hlk dX5_flow_139 (Nat.zero_le _) (Nat.zero_le _) ?_
            exact ⟨congrArg (fun z => some (Value.int (iI z))) (by
                unfold aFlo
                rw [if_neg (by omega), if_neg (by omega), hfn3, show w.toNat = 12 by omega]
                rfl), rfl, rfl, rfl⟩
          | 8, c40, q40 =>
            refine n_eqi (y := 13) q40 ?_
            refine r_tableIn (tgt := 140) C dX5_flow_40 (by decide) (by decide) (off := 100) (by decide) (by decide) ?_
            refine r_aload_n C 0 dX5_flow_140 rfl rfl ?_
            refine c_getI C (v := (a (17 + 18 * fn + 10))) (3 + 3 * fn) ((17 + 18 * fn + 10)) rfl (oF hfn6) (lnF hfn6 (by decide)) (ky_F hfn6 8) fl_X5_176 rfl dX5_flow_141 (hS.2.2.1 fn hfn6).1 (hR.f hfn2 (fk_y (by decide) (by decide))) ?_
            refine r_iret C hr hlk dX5_flow_144 (Nat.zero_le _) (Nat.zero_le _) ?_
            exact ⟨congrArg (fun z => some (Value.int (iI z))) (by
                unfold aFlo
                rw [if_neg (by omega), if_neg (by omega), hfn3, show w.toNat = 13 by omega]
                rfl), rfl, rfl, rfl⟩
          | 9, c40, q40 =>
            refine n_eqi (y := 14) q40 ?_
            refine r_tableIn (tgt := 145) C dX5_flow_40 (by decide) (by decide) (off := 105) (by decide) (by decide) ?_
            refine r_aload_n C 0 dX5_flow_145 rfl rfl ?_
            refine c_getI C (v := (a (17 + 18 * fn + 11))) (3 + 3 * fn) ((17 + 18 * fn + 11)) rfl (oF hfn6) (lnF hfn6 (by decide)) (ky_F hfn6 9) fl_X5_179 rfl dX5_flow_146 (hS.2.2.1 fn hfn6).1 (hR.f hfn2 (fk_y (by decide) (by decide))) ?_
            refine r_iret C hr hlk dX5_flow_149 (Nat.zero_le _) (Nat.zero_le _) ?_
            exact ⟨congrArg (fun z => some (Value.int (iI z))) (by
                unfold aFlo
                rw [if_neg (by omega), if_neg (by omega), hfn3, show w.toNat = 14 by omega]
                rfl), rfl, rfl, rfl⟩
          | j + 10, c40, q40 => exact absurd c40 (by omega)
      · obtain ⟨wn, hwn⟩ := Int.eq_ofNat_of_zero_le (show 0 ≤ w by omega)
        refine r_aload_n C 0 dX5_flow_32 rfl rfl ?_
        refine r_getR C fl_X5_46 rfl dX5_flow_33 (hS.2.2.1 fn hfn6).1 (hS.2.2.1 fn hfn6).2.2.2.2.1 ?_
        refine r_iload_n C 3 dX5_flow_36 rfl rfl ?_
        refine c_iald C (v := (a (17 + 18 * fn + wn))) (4 + 3 * fn) wn ((17 + 18 * fn + wn)) rfl (oG hfn6) (lnG1 hfn6) (ky_G hfn6 (by omega)) dX5_flow_37 (hS.2.2.1 fn hfn6).2.1 ⟨congrArg iI (by omega), (by omega), by decide⟩ (hR.f hfn2 (fk_y (by omega) (by omega))) ?_
        refine r_iret C hr hlk dX5_flow_38 (Nat.zero_le _) (Nat.zero_le _) ?_
        exact ⟨congrArg (fun z => some (Value.int (iI z))) (by
            unfold aFlo
            rw [if_neg (by omega), if_neg (by omega), hfn3]
            unfold floV
            rw [if_pos (by omega), show w.toNat = wn by omega]), rfl, rfl, rfl⟩
  · refine r_iconst (v := iI (-1)) C dX5_flow_11 rfl ?_
    refine r_iret C hr hlk dX5_flow_12 (Nat.zero_le _) (Nat.zero_le _) ?_
    rw [b2_eq0] at c8
    exact ⟨congrArg (fun z => some (Value.int (iI z))) (by unfold aFlo; rw [if_pos c8]), rfl, rfl, rfl⟩
set_option maxHeartbeats 4000000 in
set_option maxRecDepth 20000 in
theorem k_X5_amount {l : Launch} {G : Gd} {base : Nat} {Y : MY} {I : MI} {L : ML} {B : Nat} {X : Sa} {a : Sa} {N T : Int} {F : Nat} {f w : Int} (hS : SLy base Y B) (hI : Inv N T a) (hR : Rl true a X) (hF : FLn base Y F B) (hf0 : -2147483648 ≤ f ∧ f < 2147483648) (hw0 : -2147483648 ≤ w ∧ w < 2147483648) : Ct l yX5_amount cX5_amount 4 (some .long) (rmz 3 65) G base [.ref F, .int (iI f), .int (iI w)] Y (cI I B X) (cL L B X) (PL (aAmt a f w) Y (cI I B X) (cL L B X)) := by
  refine Ct.of (own := RX5) (lo := [(0, .ref F), (1, .int (iI f)), (2, .int (iI w))]) (by decide) rfl (Nat.le_of_ble_eq_true rfl) rfl ?_
  intro zp ze zs zm zargs zbl zmt zc C hr hlk hnm
  have hT := hI.1
  unfold TopOK at hT
  refine r_aload_n C 0 dX5_amount_0 rfl rfl ?_
  refine r_getR C fl_X5_10 rfl dX5_amount_1 hF.1 hF.2 ?_
  refine r_iload_n C 1 dX5_amount_4 rfl rfl ?_
  refine cV1_PI C (k_X4_hasFlow hS (by omega) (show 0 ≤ X 2 ∧ X 2 ≤ 6 by rw [show X 2 = (a 2) from (hR.n 2 (by decide) (by decide))]; omega)) cw_X5_31 (rm_ok rfl rfl (Nat.zero_le _) (Nat.zero_le _)) (Nat.le_of_ble_eq_true rfl) hS.1.1 dX5_amount_5 ?_
  refine n_eqi (y := (b2 (0 ≤ f ∧ f < (a 2)))) (by rw [show X 2 = (a 2) from (hR.n 2 (by decide) (by decide))]) ?_
  refine n_if_ne (tgt := 15) C dX5_amount_8 (by decide) b2_i (fun c8 => ?_) (fun c8 => ?_)
  · rw [b2_eq0, Classical.not_not] at c8
    obtain ⟨fn, hfn⟩ := Int.eq_ofNat_of_zero_le (show 0 ≤ f by omega)
    have hfn2 : (fn : Int) < a 2 := by omega
    have hfn6 : fn < 6 := by omega
    have hF2 := (hI.2.1 fn hfn2).1
    unfold FlowOK at hF2
    have hfn3 : f.toNat = fn := by omega
    have htg := tag_b hI hfn2
    refine r_aload_n C 0 dX5_amount_15 rfl rfl ?_
    refine r_getR C fl_X5_10 rfl dX5_amount_16 hF.1 hF.2 ?_
    refine r_getR C fl_X5_42 rfl dX5_amount_19 hS.1.1 hS.2.1.2.1 ?_
    refine r_iload_n C 1 dX5_amount_22 rfl rfl ?_
    refine r_aald C (by decide) (by decide) fn dX5_amount_23 hS.1.2.2.1 ⟨congrArg iI (by omega), (by omega), by decide⟩ (hS.2.2.1 fn hfn6).2.2.2.1 ?_
    refine r_astore_n (lo' := [(3, .ref (B + (3 + 3 * fn))), (0, .ref F), (1, .int (iI f)), (2, .int (iI w))]) C dX5_amount_24 rfl (by decide) rfl ?_
    refine r_iload_n C 3 dX5_amount_25 rfl rfl ?_
    rcases sw_split (x := w) (lw := 0) (n := 8) (by constructor <;> omega) with c26 | ⟨j26, c26, q26⟩
    · refine r_tableOut (tgt := 132) C dX5_amount_26 (by first | exact c26 | exact c26.imp id id) (by decide) ?_
      have k26 := c26
      rw [iI_toInt (by omega) (by omega)] at k26
      refine n_ldc2 (v := (-1000000000000000002)) C lc_X5_214 (by decide) dX5_amount_132 ?_
      refine r_lret C hr hlk dX5_amount_135 (Nat.zero_le _) (Nat.zero_le _) ?_
      exact ⟨congrArg (fun z => some (Value.long (lI z))) (by unfold aAmt; rw [if_neg (by omega), if_pos (by omega)]), rfl, rfl, rfl⟩
    · match j26, c26, q26 with
      | 0, c26, q26 =>
        refine n_eqi (y := 0) q26 ?_
        refine r_tableIn (tgt := 72) C dX5_amount_26 (by decide) (by decide) (off := 46) (by decide) (by decide) ?_
        refine r_aload_n C 0 dX5_amount_72 rfl rfl ?_
        refine c_getL C (v := (a (17 + 18 * fn + 12))) (3 + 3 * fn) ((17 + 18 * fn + 12)) rfl (oF hfn6) (lnFy hfn6 (by decide)) (ky_F hfn6 10) fl_X5_182 rfl dX5_amount_73 (hS.2.2.1 fn hfn6).1 (hR.f hfn2 (fk_t (by decide))) ?_
        refine r_lret C hr hlk dX5_amount_76 (Nat.zero_le _) (Nat.zero_le _) ?_
        exact ⟨congrArg (fun z => some (Value.long (lI z))) (by
            unfold aAmt
            rw [if_neg (by omega), if_neg (by omega), hfn3, show w.toNat = 0 by omega]
            rfl), rfl, rfl, rfl⟩
      | 1, c26, q26 =>
        refine n_eqi (y := 1) q26 ?_
        refine r_tableIn (tgt := 77) C dX5_amount_26 (by decide) (by decide) (off := 51) (by decide) (by decide) ?_
        refine r_aload_n C 1 dX5_amount_77 rfl rfl ?_
        refine r_getR C fl_X5_10 rfl dX5_amount_78 hF.1 hF.2 ?_
        refine r_aload_n C 0 dX5_amount_81 rfl rfl ?_
        refine cV1_PL C (k_X4_tagOrFinish fn hS hI hR hfn2 hfn6 (Or.inl rfl)) cw_X5_185 (rm_ok rfl rfl (Nat.zero_le _) (Nat.zero_le _)) (Nat.le_of_ble_eq_true rfl) hS.1.1 dX5_amount_82 ?_
        refine r_lret C hr hlk dX5_amount_85 (Nat.zero_le _) (Nat.zero_le _) ?_
        exact ⟨congrArg (fun z => some (Value.long (lI z))) (by
            unfold aAmt
            rw [if_neg (by omega), if_neg (by omega), hfn3, show w.toNat = 1 by omega]
            rfl), rfl, rfl, rfl⟩
      | 2, c26, q26 =>
        refine n_eqi (y := 2) q26 ?_
        refine r_tableIn (tgt := 86) C dX5_amount_26 (by decide) (by decide) (off := 60) (by decide) (by decide) ?_
        refine r_lconst (v := lI 0) C dX5_amount_86 (by decide) ?_
        refine r_aload_n C 1 dX5_amount_87 rfl rfl ?_
        refine r_getR C fl_X5_10 rfl dX5_amount_88 hF.1 hF.2 ?_
        refine r_aload_n C 0 dX5_amount_91 rfl rfl ?_
        refine cV1_PL C (k_X4_tagOrFinish fn hS hI hR hfn2 hfn6 (Or.inl rfl)) cw_X5_185 (rm_ok rfl rfl (Nat.zero_le _) (Nat.zero_le _)) (Nat.le_of_ble_eq_true rfl) hS.1.1 dX5_amount_92 ?_
        refine r_aload_n C 1 dX5_amount_95 rfl rfl ?_
        refine r_getR C fl_X5_10 rfl dX5_amount_96 hF.1 hF.2 ?_
        refine c_getL C (v := (a 1)) 0 1 rfl (by decide) lnSy rfl fl_X5_189 rfl dX5_amount_99 hS.1.1 (hR.n 1 (by decide) (by decide)) ?_
        refine n_lsub C dX5_amount_102 ?_
        refine cS2_PL C (k_J9_max_f86c9 ⟨by decide, by decide⟩ (by constructor <;> omega)) cw_X5_192 (rm_ok rfl rfl (Nat.zero_le _) (Nat.zero_le _)) (Nat.le_of_ble_eq_true rfl) dX5_amount_103 ?_
        refine n_topl (fun y103 ey103 => ?_)
        have ky103 : (0 < ((tag a fn) - (a 1)) ∧ y103 = ((tag a fn) - (a 1))) ∨ (((tag a fn) - (a 1)) ≤ 0 ∧ y103 = 0) := by rw [ey103]; split <;> omega
        refine r_lret C hr hlk dX5_amount_106 (Nat.zero_le _) (Nat.zero_le _) ?_
        exact ⟨congrArg (fun z => some (Value.long (lI z))) (by
            unfold aAmt
            rw [if_neg (by omega), if_neg (by omega), hfn3, show w.toNat = 2 by omega]
            show _ = if 0 < tag a fn - a 1 then tag a fn - a 1 else 0
            split <;> omega), rfl, rfl, rfl⟩
      | 3, c26, q26 =>
        refine n_eqi (y := 3) q26 ?_
        refine r_tableIn (tgt := 107) C dX5_amount_26 (by decide) (by decide) (off := 81) (by decide) (by decide) ?_
        refine r_aload_n C 0 dX5_amount_107 rfl rfl ?_
        refine c_getL C (v := (a (17 + 18 * fn + 13))) (3 + 3 * fn) ((17 + 18 * fn + 13)) rfl (oF hfn6) (lnFy hfn6 (by decide)) (ky_F hfn6 11) fl_X5_198 rfl dX5_amount_108 (hS.2.2.1 fn hfn6).1 (hR.f hfn2 (fk_t (by decide))) ?_
        refine r_lret C hr hlk dX5_amount_111 (Nat.zero_le _) (Nat.zero_le _) ?_
        exact ⟨congrArg (fun z => some (Value.long (lI z))) (by
            unfold aAmt
            rw [if_neg (by omega), if_neg (by omega), hfn3, show w.toNat = 3 by omega]
            rfl), rfl, rfl, rfl⟩
      | 4, c26, q26 =>
        refine n_eqi (y := 4) q26 ?_
        refine r_tableIn (tgt := 112) C dX5_amount_26 (by decide) (by decide) (off := 86) (by decide) (by decide) ?_
        refine r_aload_n C 0 dX5_amount_112 rfl rfl ?_
        refine c_getL C (v := (a (17 + 18 * fn + 14))) (3 + 3 * fn) ((17 + 18 * fn + 14)) rfl (oF hfn6) (lnFy hfn6 (by decide)) (ky_F hfn6 12) fl_X5_201 rfl dX5_amount_113 (hS.2.2.1 fn hfn6).1 (hR.f hfn2 (fk_t (by decide))) ?_
        refine r_lret C hr hlk dX5_amount_116 (Nat.zero_le _) (Nat.zero_le _) ?_
        exact ⟨congrArg (fun z => some (Value.long (lI z))) (by
            unfold aAmt
            rw [if_neg (by omega), if_neg (by omega), hfn3, show w.toNat = 4 by omega]
            rfl), rfl, rfl, rfl⟩
      | 5, c26, q26 =>
        refine n_eqi (y := 5) q26 ?_
        refine r_tableIn (tgt := 117) C dX5_amount_26 (by decide) (by decide) (off := 91) (by decide) (by decide) ?_
        refine r_aload_n C 0 dX5_amount_117 rfl rfl ?_
        refine c_getL C (v := (a (17 + 18 * fn + 15))) (3 + 3 * fn) ((17 + 18 * fn + 15)) rfl (oF hfn6) (lnFy hfn6 (by decide)) (ky_F hfn6 13) fl_X5_204 rfl dX5_amount_118 (hS.2.2.1 fn hfn6).1 (hR.f hfn2 (fk_t (by decide))) ?_
        refine r_lret C hr hlk dX5_amount_121 (Nat.zero_le _) (Nat.zero_le _) ?_
        exact ⟨congrArg (fun z => some (Value.long (lI z))) (by
            unfold aAmt
            rw [if_neg (by omega), if_neg (by omega), hfn3, show w.toNat = 5 by omega]
            rfl), rfl, rfl, rfl⟩
      | 6, c26, q26 =>
        refine n_eqi (y := 6) q26 ?_
        refine r_tableIn (tgt := 122) C dX5_amount_26 (by decide) (by decide) (off := 96) (by decide) (by decide) ?_
        refine r_aload_n C 0 dX5_amount_122 rfl rfl ?_
        refine cV0_PL C (k_X0_lag fn hS hfn6 (show 0 ≤ X (17 + 18 * fn + 6) ∧ X (17 + 18 * fn + 6) ≤ 2000000 by rw [show X (17 + 18 * fn + 6) = (a (17 + 18 * fn + 6)) from (hR.f hfn2 (fk_y (by decide) (by decide)))]; omega)) cw_X5_207 (rm_ok rfl rfl (Nat.zero_le _) (Nat.zero_le _)) (Nat.le_of_ble_eq_true rfl) (hS.2.2.1 fn hfn6).1 dX5_amount_123 ?_
        refine n_eql (y := ((a (17 + 18 * fn + 15)) - 720720 * (a (17 + 18 * fn + 6)))) (by rw [show X (17 + 18 * fn + 15) = (a (17 + 18 * fn + 15)) from (hR.f hfn2 (fk_t (by decide))), show X (17 + 18 * fn + 6) = (a (17 + 18 * fn + 6)) from (hR.f hfn2 (fk_y (by decide) (by decide)))]) ?_
        refine r_lret C hr hlk dX5_amount_126 (Nat.zero_le _) (Nat.zero_le _) ?_
        exact ⟨congrArg (fun z => some (Value.long (lI z))) (by
            unfold aAmt
            rw [if_neg (by omega), if_neg (by omega), hfn3, show w.toNat = 6 by omega]
            rfl), rfl, rfl, rfl⟩
      | 7, c26, q26 =>
        refine n_eqi (y := 7) q26 ?_
        refine r_tableIn (tgt := 127) C dX5_amount_26 (by decide) (by decide) (off := 101) (by decide) (by decide) ?_
        refine r_aload_n C 0 dX5_amount_127 rfl rfl ?_
        refine c_getL C (v := (a (17 + 18 * fn + 16))) (3 + 3 * fn) ((17 + 18 * fn + 16)) rfl (oF hfn6) (lnFy hfn6 (by decide)) (ky_F hfn6 14) fl_X5_211 rfl dX5_amount_128 (hS.2.2.1 fn hfn6).1 (hR.f hfn2 (fk_t (by decide))) ?_
        refine r_lret C hr hlk dX5_amount_131 (Nat.zero_le _) (Nat.zero_le _) ?_
        exact ⟨congrArg (fun z => some (Value.long (lI z))) (by
            unfold aAmt
            rw [if_neg (by omega), if_neg (by omega), hfn3, show w.toNat = 7 by omega]
            rfl), rfl, rfl, rfl⟩
      | j + 8, c26, q26 => exact absurd c26 (by omega)
  · refine n_ldc2 (v := (-1000000000000000001)) C lc_X5_113 (by decide) dX5_amount_11 ?_
    refine r_lret C hr hlk dX5_amount_14 (Nat.zero_le _) (Nat.zero_le _) ?_
    rw [b2_eq0] at c8
    exact ⟨congrArg (fun z => some (Value.long (lI z))) (by unfold aAmt; rw [if_pos c8]), rfl, rfl, rfl⟩
set_option maxHeartbeats 4000000 in
set_option maxRecDepth 20000 in
theorem k_X5_virtualTime {l : Launch} {G : Gd} {base : Nat} {Y : MY} {I : MI} {L : ML} {B : Nat} {X : Sa} {a : Sa} {N T : Int} {F : Nat}  (hS : SLy base Y B) (hI : Inv N T a) (hR : Rl true a X) (hF : FLn base Y F B)  : Ct l yX5_virtualTime cX5_virtualTime 1 (some .long) (rmz 0 0) G base [.ref F] Y (cI I B X) (cL L B X) (PL (a 1) Y (cI I B X) (cL L B X)) := by
  refine Ct.of (own := RX5) (lo := [(0, .ref F)]) (by decide) rfl (Nat.le_of_ble_eq_true rfl) rfl ?_
  intro zp ze zs zm zargs zbl zmt zc C hr hlk hnm
  refine r_aload_n C 0 dX5_virtualTime_0 rfl rfl ?_
  refine r_getR C fl_X5_10 rfl dX5_virtualTime_1 hF.1 hF.2 ?_
  refine c_getL C (v := (a 1)) 0 1 rfl (by decide) lnSy rfl fl_X5_189 rfl dX5_virtualTime_4 hS.1.1 (hR.n 1 (by decide) (by decide)) ?_
  refine r_lret C hr hlk dX5_virtualTime_7 (Nat.zero_le _) (Nat.zero_le _) ?_
  exact ⟨congrArg (fun z => some (Value.long (lI z))) (rfl), rfl, rfl, rfl⟩
set_option maxHeartbeats 4000000 in
set_option maxRecDepth 20000 in
theorem k_X5_link {l : Launch} {G : Gd} {base : Nat} {Y : MY} {I : MI} {L : ML} {B : Nat} {X : Sa} {a : Sa} {N T : Int} {F : Nat} {w : Int} (hS : SLy base Y B) (hI : Inv N T a) (hR : Rl true a X) (hF : FLn base Y F B) (hN : NowOK a) (hw0 : -2147483648 ≤ w ∧ w < 2147483648) : Ct l yX5_link cX5_link 2 (some .int) (rmz 5 112) G base [.ref F, .int (iI w)] Y (cI I B X) (cL L B X) (PI (aLnk a w) Y (cI I B X) (cL L B X)) := by
  refine Ct.of (own := RX5) (lo := [(0, .ref F), (1, .int (iI w))]) (by decide) rfl (Nat.le_of_ble_eq_true rfl) rfl ?_
  intro zp ze zs zm zargs zbl zmt zc C hr hlk hnm
  have hT := hI.1
  unfold TopOK at hT
  have h11 : a 11 = 0 ∨ a 11 = 1 := by
    rcases hN.2 with h | ⟨p, g1, g2, g3, g4, g5, g6, g7, g8, g9, g10⟩
    · exact Or.inl h.2.2.2
    · exact g9
  refine r_iload_n C 1 dX5_link_0 rfl rfl ?_
  refine r_iconst (v := iI 1) C dX5_link_1 rfl ?_
  refine n_icmp_lt (tgt := 22) C dX5_link_2 (by decide) (by constructor <;> omega) ⟨by decide, by decide⟩ (fun c2 => ?_) (fun c2 => ?_)
  · refine r_iload_n C 1 dX5_link_22 rfl rfl ?_
    rcases sw_split (x := w) (lw := 0) (n := 17) (by constructor <;> omega) with c23 | ⟨j23, c23, q23⟩
    · refine r_tableOut (tgt := 246) C dX5_link_23 (by first | exact c23 | exact c23.imp id id) (by decide) ?_
      have k23 := c23
      rw [iI_toInt (by omega) (by omega)] at k23
      refine r_bipush (v := iI (-2)) C dX5_link_246 (by decide) ?_
      refine r_iret C hr hlk dX5_link_248 (Nat.zero_le _) (Nat.zero_le _) ?_
      exact ⟨congrArg (fun z => some (Value.int (iI z))) (by unfold aLnk; rw [if_neg (by omega), if_neg (by omega), if_neg (by omega), if_neg (by omega), if_neg (by omega), if_neg (by omega), if_neg (by omega), if_neg (by omega), if_neg (by omega), if_neg (by omega), if_neg (by omega), if_neg (by omega), if_neg (by omega), if_neg (by omega)]), rfl, rfl, rfl⟩
    · match j23, c23, q23 with
      | 0, c23, q23 =>
        refine n_eqi (y := 0) q23 ?_
        refine r_tableIn (tgt := 104) C dX5_link_23 (by decide) (by decide) (off := 81) (by decide) (by decide) ?_
        refine r_aload_n C 0 dX5_link_104 rfl rfl ?_
        refine r_getR C fl_X5_10 rfl dX5_link_105 hF.1 hF.2 ?_
        refine c_getI C (v := (a 0)) 0 0 rfl (by decide) (lnS (by decide)) rfl fl_X5_146 rfl dX5_link_108 hS.1.1 (hR.n 0 (by decide) (by decide)) ?_
        refine r_iret C hr hlk dX5_link_111 (Nat.zero_le _) (Nat.zero_le _) ?_
        exact ⟨congrArg (fun z => some (Value.int (iI z))) (by subst q23; rfl), rfl, rfl, rfl⟩
      | 1, c23, q23 =>
        refine n_eqi (y := 1) q23 ?_
        refine r_tableIn (tgt := 246) C dX5_link_23 (by decide) (by decide) (off := 223) (by decide) (by decide) ?_
        refine r_bipush (v := iI (-2)) C dX5_link_246 (by decide) ?_
        refine r_iret C hr hlk dX5_link_248 (Nat.zero_le _) (Nat.zero_le _) ?_
        exfalso; omega
      | 2, c23, q23 =>
        refine n_eqi (y := 2) q23 ?_
        refine r_tableIn (tgt := 246) C dX5_link_23 (by decide) (by decide) (off := 223) (by decide) (by decide) ?_
        refine r_bipush (v := iI (-2)) C dX5_link_246 (by decide) ?_
        refine r_iret C hr hlk dX5_link_248 (Nat.zero_le _) (Nat.zero_le _) ?_
        exfalso; omega
      | 3, c23, q23 =>
        refine n_eqi (y := 3) q23 ?_
        refine r_tableIn (tgt := 246) C dX5_link_23 (by decide) (by decide) (off := 223) (by decide) (by decide) ?_
        refine r_bipush (v := iI (-2)) C dX5_link_246 (by decide) ?_
        refine r_iret C hr hlk dX5_link_248 (Nat.zero_le _) (Nat.zero_le _) ?_
        exfalso; omega
      | 4, c23, q23 =>
        refine n_eqi (y := 4) q23 ?_
        refine r_tableIn (tgt := 246) C dX5_link_23 (by decide) (by decide) (off := 223) (by decide) (by decide) ?_
        refine r_bipush (v := iI (-2)) C dX5_link_246 (by decide) ?_
        refine r_iret C hr hlk dX5_link_248 (Nat.zero_le _) (Nat.zero_le _) ?_
        exfalso; omega
      | 5, c23, q23 =>
        refine n_eqi (y := 5) q23 ?_
        refine r_tableIn (tgt := 112) C dX5_link_23 (by decide) (by decide) (off := 89) (by decide) (by decide) ?_
        refine r_aload_n C 0 dX5_link_112 rfl rfl ?_
        refine r_getR C fl_X5_10 rfl dX5_link_113 hF.1 hF.2 ?_
        refine c_getI C (v := (a 2)) 0 2 rfl (by decide) (lnS (by decide)) rfl fl_X5_23 rfl dX5_link_116 hS.1.1 (hR.n 2 (by decide) (by decide)) ?_
        refine r_iret C hr hlk dX5_link_119 (Nat.zero_le _) (Nat.zero_le _) ?_
        exact ⟨congrArg (fun z => some (Value.int (iI z))) (by subst q23; rfl), rfl, rfl, rfl⟩
      | 6, c23, q23 =>
        refine n_eqi (y := 6) q23 ?_
        refine r_tableIn (tgt := 120) C dX5_link_23 (by decide) (by decide) (off := 97) (by decide) (by decide) ?_
        refine r_aload_n C 0 dX5_link_120 rfl rfl ?_
        refine r_getR C fl_X5_10 rfl dX5_link_121 hF.1 hF.2 ?_
        refine c_getI C (v := (a 7)) 0 7 rfl (by decide) (lnS (by decide)) rfl fl_X5_216 rfl dX5_link_124 hS.1.1 (hR.n 7 (by decide) (by decide)) ?_
        refine r_iret C hr hlk dX5_link_127 (Nat.zero_le _) (Nat.zero_le _) ?_
        exact ⟨congrArg (fun z => some (Value.int (iI z))) (by subst q23; rfl), rfl, rfl, rfl⟩
      | 7, c23, q23 =>
        refine n_eqi (y := 7) q23 ?_
        refine r_tableIn (tgt := 128) C dX5_link_23 (by decide) (by decide) (off := 105) (by decide) (by decide) ?_
        refine r_aload_n C 0 dX5_link_128 rfl rfl ?_
        refine r_getR C fl_X5_10 rfl dX5_link_129 hF.1 hF.2 ?_
        refine r_getR C fl_X5_219 rfl dX5_link_132 hS.1.1 hS.2.1.2.2.2.2.1 ?_
        refine c_getI C (v := (a 8)) 203 8 rfl (by decide) ln203 rfl fl_X5_223 rfl dX5_link_135 hS.1.2.2.2.2.2.1 (hR.n 8 (by decide) (by decide)) ?_
        refine r_iret C hr hlk dX5_link_138 (Nat.zero_le _) (Nat.zero_le _) ?_
        exact ⟨congrArg (fun z => some (Value.int (iI z))) (by subst q23; rfl), rfl, rfl, rfl⟩
      | 8, c23, q23 =>
        refine n_eqi (y := 8) q23 ?_
        refine r_tableIn (tgt := 139) C dX5_link_23 (by decide) (by decide) (off := 116) (by decide) (by decide) ?_
        refine r_aload_n C 0 dX5_link_139 rfl rfl ?_
        refine r_getR C fl_X5_10 rfl dX5_link_140 hF.1 hF.2 ?_
        refine r_getR C fl_X5_219 rfl dX5_link_143 hS.1.1 hS.2.1.2.2.2.2.1 ?_
        refine c_getI C (v := (a 9)) 203 9 rfl (by decide) ln203 rfl fl_X5_228 rfl dX5_link_146 hS.1.2.2.2.2.2.1 (hR.n 9 (by decide) (by decide)) ?_
        refine r_iret C hr hlk dX5_link_149 (Nat.zero_le _) (Nat.zero_le _) ?_
        exact ⟨congrArg (fun z => some (Value.int (iI z))) (by subst q23; rfl), rfl, rfl, rfl⟩
      | 9, c23, q23 =>
        refine n_eqi (y := 9) q23 ?_
        refine r_tableIn (tgt := 150) C dX5_link_23 (by decide) (by decide) (off := 127) (by decide) (by decide) ?_
        refine r_aload_n C 0 dX5_link_150 rfl rfl ?_
        refine r_getR C fl_X5_10 rfl dX5_link_151 hF.1 hF.2 ?_
        refine r_getR C fl_X5_219 rfl dX5_link_154 hS.1.1 hS.2.1.2.2.2.2.1 ?_
        refine c_getI C (v := (a 10)) 203 10 rfl (by decide) ln203 rfl fl_X5_229 rfl dX5_link_157 hS.1.2.2.2.2.2.1 (hR.n 10 (by decide) (by decide)) ?_
        refine r_iret C hr hlk dX5_link_160 (Nat.zero_le _) (Nat.zero_le _) ?_
        exact ⟨congrArg (fun z => some (Value.int (iI z))) (by subst q23; rfl), rfl, rfl, rfl⟩
      | 10, c23, q23 =>
        refine n_eqi (y := 10) q23 ?_
        refine r_tableIn (tgt := 161) C dX5_link_23 (by decide) (by decide) (off := 138) (by decide) (by decide) ?_
        refine r_aload_n C 0 dX5_link_161 rfl rfl ?_
        refine r_getR C fl_X5_10 rfl dX5_link_162 hF.1 hF.2 ?_
        refine r_getR C fl_X5_219 rfl dX5_link_165 hS.1.1 hS.2.1.2.2.2.2.1 ?_
        refine c_getI C (v := (a 11)) 203 11 rfl (by decide) ln203 rfl fl_X5_232 rfl dX5_link_168 hS.1.2.2.2.2.2.1 (hR.n 11 (by decide) (by decide)) ?_
        refine n_if_eq (tgt := 178) C dX5_link_171 (by decide) (by constructor <;> omega) (fun c171 => ?_) (fun c171 => ?_)
        · refine r_iconst (v := iI 0) C dX5_link_178 rfl ?_
          refine r_iret C hr hlk dX5_link_179 (Nat.zero_le _) (Nat.zero_le _) ?_
          exact ⟨congrArg (fun z => some (Value.int (iI z))) (by subst q23; show _ = a 11; omega), rfl, rfl, rfl⟩
        · refine r_iconst (v := iI 1) C dX5_link_174 rfl ?_
          refine r_goto (tgt := 179) C dX5_link_175 (by decide) ?_
          refine r_iret C hr hlk dX5_link_179 (Nat.zero_le _) (Nat.zero_le _) ?_
          exact ⟨congrArg (fun z => some (Value.int (iI z))) (by subst q23; show _ = a 11; omega), rfl, rfl, rfl⟩
      | 11, c23, q23 =>
        refine n_eqi (y := 11) q23 ?_
        refine r_tableIn (tgt := 180) C dX5_link_23 (by decide) (by decide) (off := 157) (by decide) (by decide) ?_
        refine r_aload_n C 0 dX5_link_180 rfl rfl ?_
        refine r_getR C fl_X5_10 rfl dX5_link_181 hF.1 hF.2 ?_
        refine r_getR C fl_X5_123 rfl dX5_link_184 hS.1.1 hS.2.1.2.2.2.2.2.1 ?_
        refine c_getI C (v := (a 1825)) 204 1825 rfl (by decide) ln204 rfl fl_X5_127 rfl dX5_link_187 hS.1.2.2.2.2.2.2.1 (hR.t 1825 (by decide) (by decide)) ?_
        refine r_iret C hr hlk dX5_link_190 (Nat.zero_le _) (Nat.zero_le _) ?_
        exact ⟨congrArg (fun z => some (Value.int (iI z))) (by subst q23; rfl), rfl, rfl, rfl⟩
      | 12, c23, q23 =>
        refine n_eqi (y := 12) q23 ?_
        refine r_tableIn (tgt := 191) C dX5_link_23 (by decide) (by decide) (off := 168) (by decide) (by decide) ?_
        refine r_aload_n C 0 dX5_link_191 rfl rfl ?_
        refine r_getR C fl_X5_10 rfl dX5_link_192 hF.1 hF.2 ?_
        refine c_getI C (v := (a 13)) 0 13 rfl (by decide) (lnS (by decide)) rfl fl_X5_236 rfl dX5_link_195 hS.1.1 (hR.n 13 (by decide) (by decide)) ?_
        refine r_iret C hr hlk dX5_link_198 (Nat.zero_le _) (Nat.zero_le _) ?_
        exact ⟨congrArg (fun z => some (Value.int (iI z))) (by subst q23; rfl), rfl, rfl, rfl⟩
      | 13, c23, q23 =>
        refine n_eqi (y := 13) q23 ?_
        refine r_tableIn (tgt := 199) C dX5_link_23 (by decide) (by decide) (off := 176) (by decide) (by decide) ?_
        refine r_aload_n C 0 dX5_link_199 rfl rfl ?_
        refine r_getR C fl_X5_10 rfl dX5_link_200 hF.1 hF.2 ?_
        refine c_getI C (v := (a 14)) 0 14 rfl (by decide) (lnS (by decide)) rfl fl_X5_239 rfl dX5_link_203 hS.1.1 (hR.n 14 (by decide) (by decide)) ?_
        refine r_iret C hr hlk dX5_link_206 (Nat.zero_le _) (Nat.zero_le _) ?_
        exact ⟨congrArg (fun z => some (Value.int (iI z))) (by subst q23; rfl), rfl, rfl, rfl⟩
      | 14, c23, q23 =>
        refine n_eqi (y := 14) q23 ?_
        refine r_tableIn (tgt := 207) C dX5_link_23 (by decide) (by decide) (off := 184) (by decide) (by decide) ?_
        refine r_aload_n C 0 dX5_link_207 rfl rfl ?_
        refine r_getR C fl_X5_10 rfl dX5_link_208 hF.1 hF.2 ?_
        refine cV0_PI C (k_X4_nextFlow hS hI hR) cw_X5_242 (rm_ok rfl rfl (Nat.zero_le _) (Nat.zero_le _)) (Nat.le_of_ble_eq_true rfl) hS.1.1 dX5_link_211 ?_
        refine r_iret C hr hlk dX5_link_214 (Nat.zero_le _) (Nat.zero_le _) ?_
        exact ⟨congrArg (fun z => some (Value.int (iI z))) (by subst q23; rfl), rfl, rfl, rfl⟩
      | 15, c23, q23 =>
        refine n_eqi (y := 15) q23 ?_
        refine r_tableIn (tgt := 215) C dX5_link_23 (by decide) (by decide) (off := 192) (by decide) (by decide) ?_
        refine r_aload_n C 0 dX5_link_215 rfl rfl ?_
        refine r_getR C fl_X5_10 rfl dX5_link_216 hF.1 hF.2 ?_
        refine c_getI C (v := (a 15)) 0 15 rfl (by decide) (lnS (by decide)) rfl fl_X5_245 rfl dX5_link_219 hS.1.1 (hR.n 15 (by decide) (by decide)) ?_
        refine r_iret C hr hlk dX5_link_222 (Nat.zero_le _) (Nat.zero_le _) ?_
        exact ⟨congrArg (fun z => some (Value.int (iI z))) (by subst q23; rfl), rfl, rfl, rfl⟩
      | 16, c23, q23 =>
        refine n_eqi (y := 16) q23 ?_
        refine r_tableIn (tgt := 223) C dX5_link_23 (by decide) (by decide) (off := 200) (by decide) (by decide) ?_
        refine r_aload_n C 0 dX5_link_223 rfl rfl ?_
        refine r_getR C fl_X5_10 rfl dX5_link_224 hF.1 hF.2 ?_
        refine c_getI C (v := (a 7)) 0 7 rfl (by decide) (lnS (by decide)) rfl fl_X5_216 rfl dX5_link_227 hS.1.1 (hR.n 7 (by decide) (by decide)) ?_
        refine n_if_ne (tgt := 238) C dX5_link_230 (by decide) (by constructor <;> omega) (fun c230 => ?_) (fun c230 => ?_)
        · refine r_aload_n C 0 dX5_link_238 rfl rfl ?_
          refine r_getR C fl_X5_10 rfl dX5_link_239 hF.1 hF.2 ?_
          refine cV0_PI C (k_X4_oldestPacket hS (show 0 ≤ X 7 ∧ X 7 ≤ 400000 by rw [show X 7 = (a 7) from (hR.n 7 (by decide) (by decide))]; omega)) cw_X5_248 (rm_ok rfl rfl (Nat.zero_le _) (Nat.zero_le _)) (Nat.le_of_ble_eq_true rfl) hS.1.1 dX5_link_242 ?_
          refine n_eqi (y := (old a : Int)) (by rw [old_eq (show X 7 = a 7 from (hR.n 7 (by decide) (by decide)))]) ?_
          refine r_iret C hr hlk dX5_link_245 (Nat.zero_le _) (Nat.zero_le _) ?_
          exact ⟨congrArg (fun z => some (Value.int (iI z))) (by subst q23; show _ = if 0 < a 7 then (old a : Int) else -6; split <;> omega), rfl, rfl, rfl⟩
        · refine r_bipush (v := iI (-6)) C dX5_link_233 (by decide) ?_
          refine r_goto (tgt := 245) C dX5_link_235 (by decide) ?_
          refine r_iret C hr hlk dX5_link_245 (Nat.zero_le _) (Nat.zero_le _) ?_
          exact ⟨congrArg (fun z => some (Value.int (iI z))) (by subst q23; show _ = if 0 < a 7 then (old a : Int) else -6; split <;> omega), rfl, rfl, rfl⟩
      | j + 17, c23, q23 => exact absurd c23 (by omega)
  · refine r_iload_n C 1 dX5_link_5 rfl rfl ?_
    refine r_iconst (v := iI 4) C dX5_link_6 rfl ?_
    refine n_icmp_gt (tgt := 22) C dX5_link_7 (by decide) (by constructor <;> omega) ⟨by decide, by decide⟩ (fun c7 => ?_) (fun c7 => ?_)
    · refine r_iload_n C 1 dX5_link_22 rfl rfl ?_
      rcases sw_split (x := w) (lw := 0) (n := 17) (by constructor <;> omega) with c23 | ⟨j23, c23, q23⟩
      · refine r_tableOut (tgt := 246) C dX5_link_23 (by first | exact c23 | exact c23.imp id id) (by decide) ?_
        have k23 := c23
        rw [iI_toInt (by omega) (by omega)] at k23
        refine r_bipush (v := iI (-2)) C dX5_link_246 (by decide) ?_
        refine r_iret C hr hlk dX5_link_248 (Nat.zero_le _) (Nat.zero_le _) ?_
        exact ⟨congrArg (fun z => some (Value.int (iI z))) (by unfold aLnk; rw [if_neg (by omega), if_neg (by omega), if_neg (by omega), if_neg (by omega), if_neg (by omega), if_neg (by omega), if_neg (by omega), if_neg (by omega), if_neg (by omega), if_neg (by omega), if_neg (by omega), if_neg (by omega), if_neg (by omega), if_neg (by omega)]), rfl, rfl, rfl⟩
      · match j23, c23, q23 with
        | 0, c23, q23 =>
          refine n_eqi (y := 0) q23 ?_
          refine r_tableIn (tgt := 104) C dX5_link_23 (by decide) (by decide) (off := 81) (by decide) (by decide) ?_
          refine r_aload_n C 0 dX5_link_104 rfl rfl ?_
          refine r_getR C fl_X5_10 rfl dX5_link_105 hF.1 hF.2 ?_
          refine c_getI C (v := (a 0)) 0 0 rfl (by decide) (lnS (by decide)) rfl fl_X5_146 rfl dX5_link_108 hS.1.1 (hR.n 0 (by decide) (by decide)) ?_
          refine r_iret C hr hlk dX5_link_111 (Nat.zero_le _) (Nat.zero_le _) ?_
          exact ⟨congrArg (fun z => some (Value.int (iI z))) (by subst q23; rfl), rfl, rfl, rfl⟩
        | 1, c23, q23 =>
          refine n_eqi (y := 1) q23 ?_
          refine r_tableIn (tgt := 246) C dX5_link_23 (by decide) (by decide) (off := 223) (by decide) (by decide) ?_
          refine r_bipush (v := iI (-2)) C dX5_link_246 (by decide) ?_
          refine r_iret C hr hlk dX5_link_248 (Nat.zero_le _) (Nat.zero_le _) ?_
          exfalso; omega
        | 2, c23, q23 =>
          refine n_eqi (y := 2) q23 ?_
          refine r_tableIn (tgt := 246) C dX5_link_23 (by decide) (by decide) (off := 223) (by decide) (by decide) ?_
          refine r_bipush (v := iI (-2)) C dX5_link_246 (by decide) ?_
          refine r_iret C hr hlk dX5_link_248 (Nat.zero_le _) (Nat.zero_le _) ?_
          exfalso; omega
        | 3, c23, q23 =>
          refine n_eqi (y := 3) q23 ?_
          refine r_tableIn (tgt := 246) C dX5_link_23 (by decide) (by decide) (off := 223) (by decide) (by decide) ?_
          refine r_bipush (v := iI (-2)) C dX5_link_246 (by decide) ?_
          refine r_iret C hr hlk dX5_link_248 (Nat.zero_le _) (Nat.zero_le _) ?_
          exfalso; omega
        | 4, c23, q23 =>
          refine n_eqi (y := 4) q23 ?_
          refine r_tableIn (tgt := 246) C dX5_link_23 (by decide) (by decide) (off := 223) (by decide) (by decide) ?_
          refine r_bipush (v := iI (-2)) C dX5_link_246 (by decide) ?_
          refine r_iret C hr hlk dX5_link_248 (Nat.zero_le _) (Nat.zero_le _) ?_
          exfalso; omega
        | 5, c23, q23 =>
          refine n_eqi (y := 5) q23 ?_
          refine r_tableIn (tgt := 112) C dX5_link_23 (by decide) (by decide) (off := 89) (by decide) (by decide) ?_
          refine r_aload_n C 0 dX5_link_112 rfl rfl ?_
          refine r_getR C fl_X5_10 rfl dX5_link_113 hF.1 hF.2 ?_
          refine c_getI C (v := (a 2)) 0 2 rfl (by decide) (lnS (by decide)) rfl fl_X5_23 rfl dX5_link_116 hS.1.1 (hR.n 2 (by decide) (by decide)) ?_
          refine r_iret C hr hlk dX5_link_119 (Nat.zero_le _) (Nat.zero_le _) ?_
          exact ⟨congrArg (fun z => some (Value.int (iI z))) (by subst q23; rfl), rfl, rfl, rfl⟩
        | 6, c23, q23 =>
          refine n_eqi (y := 6) q23 ?_
          refine r_tableIn (tgt := 120) C dX5_link_23 (by decide) (by decide) (off := 97) (by decide) (by decide) ?_
          refine r_aload_n C 0 dX5_link_120 rfl rfl ?_
          refine r_getR C fl_X5_10 rfl dX5_link_121 hF.1 hF.2 ?_
          refine c_getI C (v := (a 7)) 0 7 rfl (by decide) (lnS (by decide)) rfl fl_X5_216 rfl dX5_link_124 hS.1.1 (hR.n 7 (by decide) (by decide)) ?_
          refine r_iret C hr hlk dX5_link_127 (Nat.zero_le _) (Nat.zero_le _) ?_
          exact ⟨congrArg (fun z => some (Value.int (iI z))) (by subst q23; rfl), rfl, rfl, rfl⟩
        | 7, c23, q23 =>
          refine n_eqi (y := 7) q23 ?_
          refine r_tableIn (tgt := 128) C dX5_link_23 (by decide) (by decide) (off := 105) (by decide) (by decide) ?_
          refine r_aload_n C 0 dX5_link_128 rfl rfl ?_
          refine r_getR C fl_X5_10 rfl dX5_link_129 hF.1 hF.2 ?_
          refine r_getR C fl_X5_219 rfl dX5_link_132 hS.1.1 hS.2.1.2.2.2.2.1 ?_
          refine c_getI C (v := (a 8)) 203 8 rfl (by decide) ln203 rfl fl_X5_223 rfl dX5_link_135 hS.1.2.2.2.2.2.1 (hR.n 8 (by decide) (by decide)) ?_
          refine r_iret C hr hlk dX5_link_138 (Nat.zero_le _) (Nat.zero_le _) ?_
          exact ⟨congrArg (fun z => some (Value.int (iI z))) (by subst q23; rfl), rfl, rfl, rfl⟩
        | 8, c23, q23 =>
          refine n_eqi (y := 8) q23 ?_
          refine r_tableIn (tgt := 139) C dX5_link_23 (by decide) (by decide) (off := 116) (by decide) (by decide) ?_
          refine r_aload_n C 0 dX5_link_139 rfl rfl ?_
          refine r_getR C fl_X5_10 rfl dX5_link_140 hF.1 hF.2 ?_
          refine r_getR C fl_X5_219 rfl dX5_link_143 hS.1.1 hS.2.1.2.2.2.2.1 ?_
          refine c_getI C (v := (a 9)) 203 9 rfl (by decide) ln203 rfl fl_X5_228 rfl dX5_link_146 hS.1.2.2.2.2.2.1 (hR.n 9 (by decide) (by decide)) ?_
          refine r_iret C hr hlk dX5_link_149 (Nat.zero_le _) (Nat.zero_le _) ?_
          exact ⟨congrArg (fun z => some (Value.int (iI z))) (by subst q23; rfl), rfl, rfl, rfl⟩
        | 9, c23, q23 =>
          refine n_eqi (y := 9) q23 ?_
          refine r_tableIn (tgt := 150) C dX5_link_23 (by decide) (by decide) (off := 127) (by decide) (by decide) ?_
          refine r_aload_n C 0 dX5_link_150 rfl rfl ?_
          refine r_getR C fl_X5_10 rfl dX5_link_151 hF.1 hF.2 ?_
          refine r_getR C fl_X5_219 rfl dX5_link_154 hS.1.1 hS.2.1.2.2.2.2.1 ?_
          refine c_getI C (v := (a 10)) 203 10 rfl (by decide) ln203 rfl fl_X5_229 rfl dX5_link_157 hS.1.2.2.2.2.2.1 (hR.n 10 (by decide) (by decide)) ?_
          refine r_iret C hr hlk dX5_link_160 (Nat.zero_le _) (Nat.zero_le _) ?_
          exact ⟨congrArg (fun z => some (Value.int (iI z))) (by subst q23; rfl), rfl, rfl, rfl⟩
        | 10, c23, q23 =>
          refine n_eqi (y := 10) q23 ?_
          refine r_tableIn (tgt := 161) C dX5_link_23 (by decide) (by decide) (off := 138) (by decide) (by decide) ?_
          refine r_aload_n C 0 dX5_link_161 rfl rfl ?_
          refine r_getR C fl_X5_10 rfl dX5_link_162 hF.1 hF.2 ?_
          refine r_getR C fl_X5_219 rfl dX5_link_165 hS.1.1 hS.2.1.2.2.2.2.1 ?_
          refine c_getI C (v := (a 11)) 203 11 rfl (by decide) ln203 rfl fl_X5_232 rfl dX5_link_168 hS.1.2.2.2.2.2.1 (hR.n 11 (by decide) (by decide)) ?_
          refine n_if_eq (tgt := 178) C dX5_link_171 (by decide) (by constructor <;> omega) (fun c171 => ?_) (fun c171 => ?_)
          · refine r_iconst (v := iI 0) C dX5_link_178 rfl ?_
            refine r_iret C hr hlk dX5_link_179 (Nat.zero_le _) (Nat.zero_le _) ?_
            exact ⟨congrArg (fun z => some (Value.int (iI z))) (by subst q23; show _ = a 11; omega), rfl, rfl, rfl⟩
          · refine r_iconst (v := iI 1) C dX5_link_174 rfl ?_
            refine r_goto (tgt := 179) C dX5_link_175 (by decide) ?_
            refine r_iret C hr hlk dX5_link_179 (Nat.zero_le _) (Nat.zero_le _) ?_
            exact ⟨congrArg (fun z => some (Value.int (iI z))) (by subst q23; show _ = a 11; omega), rfl, rfl, rfl⟩
        | 11, c23, q23 =>
          refine n_eqi (y := 11) q23 ?_
          refine r_tableIn (tgt := 180) C dX5_link_23 (by decide) (by decide) (off := 157) (by decide) (by decide) ?_
          refine r_aload_n C 0 dX5_link_180 rfl rfl ?_
          refine r_getR C fl_X5_10 rfl dX5_link_181 hF.1 hF.2 ?_
          refine r_getR C fl_X5_123 rfl dX5_link_184 hS.1.1 hS.2.1.2.2.2.2.2.1 ?_
          refine c_getI C (v := (a 1825)) 204 1825 rfl (by decide) ln204 rfl fl_X5_127 rfl dX5_link_187 hS.1.2.2.2.2.2.2.1 (hR.t 1825 (by decide) (by decide)) ?_
          refine r_iret C hr hlk dX5_link_190 (Nat.zero_le _) (Nat.zero_le _) ?_
          exact ⟨congrArg (fun z => some (Value.int (iI z))) (by subst q23; rfl), rfl, rfl, rfl⟩
        | 12, c23, q23 =>
          refine n_eqi (y := 12) q23 ?_
          refine r_tableIn (tgt := 191) C dX5_link_23 (by decide) (by decide) (off := 168) (by decide) (by decide) ?_
          refine r_aload_n C 0 dX5_link_191 rfl rfl ?_
          refine r_getR C fl_X5_10 rfl dX5_link_192 hF.1 hF.2 ?_
          refine c_getI C (v := (a 13)) 0 13 rfl (by decide) (lnS (by decide)) rfl fl_X5_236 rfl dX5_link_195 hS.1.1 (hR.n 13 (by decide) (by decide)) ?_
          refine r_iret C hr hlk dX5_link_198 (Nat.zero_le _) (Nat.zero_le _) ?_
          exact ⟨congrArg (fun z => some (Value.int (iI z))) (by subst q23; rfl), rfl, rfl, rfl⟩
        | 13, c23, q23 =>
          refine n_eqi (y := 13) q23 ?_
          refine r_tableIn (tgt := 199) C dX5_link_23 (by decide) (by decide) (off := 176) (by decide) (by decide) ?_
          refine r_aload_n C 0 dX5_link_199 rfl rfl ?_
          refine r_getR C fl_X5_10 rfl dX5_link_200 hF.1 hF.2 ?_
          refine c_getI C (v := (a 14)) 0 14 rfl (by decide) (lnS (by decide)) rfl fl_X5_239 rfl dX5_link_203 hS.1.1 (hR.n 14 (by decide) (by decide)) ?_
          refine r_iret C hr hlk dX5_link_206 (Nat.zero_le _) (Nat.zero_le _) ?_
          exact ⟨congrArg (fun z => some (Value.int (iI z))) (by subst q23; rfl), rfl, rfl, rfl⟩
        | 14, c23, q23 =>
          refine n_eqi (y := 14) q23 ?_
          refine r_tableIn (tgt := 207) C dX5_link_23 (by decide) (by decide) (off := 184) (by decide) (by decide) ?_
          refine r_aload_n C 0 dX5_link_207 rfl rfl ?_
          refine r_getR C fl_X5_10 rfl dX5_link_208 hF.1 hF.2 ?_
          refine cV0_PI C (k_X4_nextFlow hS hI hR) cw_X5_242 (rm_ok rfl rfl (Nat.zero_le _) (Nat.zero_le _)) (Nat.le_of_ble_eq_true rfl) hS.1.1 dX5_link_211 ?_
          refine r_iret C hr hlk dX5_link_214 (Nat.zero_le _) (Nat.zero_le _) ?_
          exact ⟨congrArg (fun z => some (Value.int (iI z))) (by subst q23; rfl), rfl, rfl, rfl⟩
        | 15, c23, q23 =>
          refine n_eqi (y := 15) q23 ?_
          refine r_tableIn (tgt := 215) C dX5_link_23 (by decide) (by decide) (off := 192) (by decide) (by decide) ?_
          refine r_aload_n C 0 dX5_link_215 rfl rfl ?_
          refine r_getR C fl_X5_10 rfl dX5_link_216 hF.1 hF.2 ?_
          refine c_getI C (v := (a 15)) 0 15 rfl (by decide) (lnS (by decide)) rfl fl_X5_245 rfl dX5_link_219 hS.1.1 (hR.n 15 (by decide) (by decide)) ?_
          refine r_iret C hr hlk dX5_link_222 (Nat.zero_le _) (Nat.zero_le _) ?_
          exact ⟨congrArg (fun z => some (Value.int (iI z))) (by subst q23; rfl), rfl, rfl, rfl⟩
        | 16, c23, q23 =>
          refine n_eqi (y := 16) q23 ?_
          refine r_tableIn (tgt := 223) C dX5_link_23 (by decide) (by decide) (off := 200) (by decide) (by decide) ?_
          refine r_aload_n C 0 dX5_link_223 rfl rfl ?_
          refine r_getR C fl_X5_10 rfl dX5_link_224 hF.1 hF.2 ?_
          refine c_getI C (v := (a 7)) 0 7 rfl (by decide) (lnS (by decide)) rfl fl_X5_216 rfl dX5_link_227 hS.1.1 (hR.n 7 (by decide) (by decide)) ?_
          refine n_if_ne (tgt := 238) C dX5_link_230 (by decide) (by constructor <;> omega) (fun c230 => ?_) (fun c230 => ?_)
          · refine r_aload_n C 0 dX5_link_238 rfl rfl ?_
            refine r_getR C fl_X5_10 rfl dX5_link_239 hF.1 hF.2 ?_
            refine cV0_PI C (k_X4_oldestPacket hS (show 0 ≤ X 7 ∧ X 7 ≤ 400000 by rw [show X 7 = (a 7) from (hR.n 7 (by decide) (by decide))]; omega)) cw_X5_248 (rm_ok rfl rfl (Nat.zero_le _) (Nat.zero_le _)) (Nat.le_of_ble_eq_true rfl) hS.1.1 dX5_link_242 ?_
            refine n_eqi (y := (old a : Int)) (by rw [old_eq (show X 7 = a 7 from (hR.n 7 (by decide) (by decide)))]) ?_
            refine r_iret C hr hlk dX5_link_245 (Nat.zero_le _) (Nat.zero_le _) ?_
            exact ⟨congrArg (fun z => some (Value.int (iI z))) (by subst q23; show _ = if 0 < a 7 then (old a : Int) else -6; split <;> omega), rfl, rfl, rfl⟩
          · refine r_bipush (v := iI (-6)) C dX5_link_233 (by decide) ?_
            refine r_goto (tgt := 245) C dX5_link_235 (by decide) ?_
            refine r_iret C hr hlk dX5_link_245 (Nat.zero_le _) (Nat.zero_le _) ?_
            exact ⟨congrArg (fun z => some (Value.int (iI z))) (by subst q23; show _ = if 0 < a 7 then (old a : Int) else -6; split <;> omega), rfl, rfl, rfl⟩
        | j + 17, c23, q23 => exact absurd c23 (by omega)
    · obtain ⟨wn, hwn⟩ := Int.eq_ofNat_of_zero_le (show 0 ≤ w - 1 by omega)
      refine r_aload_n C 0 dX5_link_10 rfl rfl ?_
      refine r_getR C fl_X5_10 rfl dX5_link_11 hF.1 hF.2 ?_
      refine r_getR C fl_X5_54 rfl dX5_link_14 hS.1.1 hS.2.1.1 ?_
      refine r_iload_n C 1 dX5_link_17 rfl rfl ?_
      refine r_iconst (v := iI 1) C dX5_link_18 rfl ?_
      refine n_isub C dX5_link_19 ?_
      refine c_iald C (v := (a (3 + wn))) 1 wn ((3 + wn)) rfl (by decide) ln1 (ky_1 (by omega)) dX5_link_20 hS.1.2.1 ⟨congrArg iI (by omega), (by omega), by decide⟩ (hR.n _ (by omega) (by omega)) ?_
      refine r_iret C hr hlk dX5_link_21 (Nat.zero_le _) (Nat.zero_le _) ?_
      exact ⟨congrArg (fun z => some (Value.int (iI z))) (by unfold aLnk; rw [if_neg (by omega), if_pos (by omega), show 3 + w.toNat - 1 = 3 + wn by omega]), rfl, rfl, rfl⟩
set_option maxHeartbeats 4000000 in
set_option maxRecDepth 20000 in
theorem k_X5_piece {l : Launch} {G : Gd} {base : Nat} {Y : MY} {I : MI} {L : ML} {B : Nat} {X : Sa} {a : Sa} {N T : Int} {F : Nat} {p w : Int} (hS : SLy base Y B) (hI : Inv N T a) (hR : Rl true a X) (hF : FLn base Y F B) (hPc : PcOK a) (hp0 : -2147483648 ≤ p ∧ p < 2147483648) (hw0 : -2147483648 ≤ w ∧ w < 2147483648) : Ct l yX5_piece cX5_piece 4 (some .int) (rmz 3 62) G base [.ref F, .int (iI p), .int (iI w)] Y (cI I B X) (cL L B X) (PI (aPce a p w) Y (cI I B X) (cL L B X)) := by
  refine Ct.of (own := RX5) (lo := [(0, .ref F), (1, .int (iI p)), (2, .int (iI w))]) (by decide) rfl (Nat.le_of_ble_eq_true rfl) rfl ?_
  intro zp ze zs zm zargs zbl zmt zc C hr hlk hnm
  have hT := hI.1
  unfold TopOK at hT
  refine r_iload_n C 2 dX5_piece_0 rfl rfl ?_
  refine n_if_lt (tgt := 9) C dX5_piece_1 (by decide) (by constructor <;> omega) (fun c1 => ?_) (fun c1 => ?_)
  · refine r_bipush (v := iI (-2)) C dX5_piece_9 (by decide) ?_
    refine r_iret C hr hlk dX5_piece_11 (Nat.zero_le _) (Nat.zero_le _) ?_
    exact ⟨congrArg (fun z => some (Value.int (iI z))) (by unfold aPce; rw [if_pos (by omega)]), rfl, rfl, rfl⟩
  · refine r_iload_n C 2 dX5_piece_4 rfl rfl ?_
    refine r_iconst (v := iI 4) C dX5_piece_5 rfl ?_
    refine n_icmp_le (tgt := 12) C dX5_piece_6 (by decide) (by constructor <;> omega) ⟨by decide, by decide⟩ (fun c6 => ?_) (fun c6 => ?_)
    · refine r_aload_n C 0 dX5_piece_12 rfl rfl ?_
      refine r_getR C fl_X5_10 rfl dX5_piece_13 hF.1 hF.2 ?_
      refine r_iload_n C 1 dX5_piece_16 rfl rfl ?_
      refine cV1_PI C (k_X4_knowsPiece hS (by omega) (show 0 ≤ X 15 ∧ X 15 ≤ 1002000 by rw [show X 15 = (a 15) from (hR.n 15 (by decide) (by decide))]; omega)) cw_X5_251 (rm_ok rfl rfl (Nat.zero_le _) (Nat.zero_le _)) (Nat.le_of_ble_eq_true rfl) hS.1.1 dX5_piece_17 ?_
      refine n_eqi (y := (b2 (0 ≤ p ∧ p < (a 15) ∧ (a 15) - 60 ≤ p))) (by rw [show X 15 = (a 15) from (hR.n 15 (by decide) (by decide))]) ?_
      refine n_if_ne (tgt := 26) C dX5_piece_20 (by decide) b2_i (fun c20 => ?_) (fun c20 => ?_)
      · rw [b2_eq0, Classical.not_not] at c20
        obtain ⟨pn, hpn⟩ := Int.eq_ofNat_of_zero_le (show 0 ≤ p by omega)
        have hp1 : a 15 - 60 ≤ pn := by omega
        have hp2 : (pn : Int) < a 15 := by omega
        have hpc := hPc pn hp1 hp2
        refine r_aload_n C 0 dX5_piece_26 rfl rfl ?_
        refine r_getR C fl_X5_10 rfl dX5_piece_27 hF.1 hF.2 ?_
        refine r_iload_n C 1 dX5_piece_30 rfl rfl ?_
        refine cV1_PA C (k_X4_pieceAt pn hS (by omega) (by omega)) cw_X5_254 (rm_ok rfl rfl (Nat.zero_le _) (Nat.zero_le _)) (Nat.le_of_ble_eq_true rfl) hS.1.1 dX5_piece_31 ?_
        refine r_astore_n (lo' := [(3, .ref (B + (143 + (pn % 60)))), (0, .ref F), (1, .int (iI p)), (2, .int (iI w))]) C dX5_piece_34 rfl (by decide) rfl ?_
        refine r_iload_n C 3 dX5_piece_35 rfl rfl ?_
        rcases sw_split (x := w) (lw := 0) (n := 4) (by constructor <;> omega) with c36 | ⟨j36, c36, q36⟩
        · refine r_tableOut (tgt := 88) C dX5_piece_36 (by first | exact c36 | exact c36.imp id id) (by decide) ?_
          have k36 := c36
          rw [iI_toInt (by omega) (by omega)] at k36
          refine r_aload_n C 0 dX5_piece_88 rfl rfl ?_
          refine c_getI C (v := (a (1445 + 5 * (pn % 60) + 4))) (143 + (pn % 60)) ((1445 + 5 * (pn % 60) + 4)) rfl (oR m60) (lnR m60) (ky_R m60 6) fl_X5_232 rfl dX5_piece_89 (hS.2.2.2.2 (pn % 60) m60).1 (hR.r hp1 hp2 (by decide)) ?_
          refine n_if_eq (tgt := 99) C dX5_piece_92 (by decide) (by constructor <;> omega) (fun c92 => ?_) (fun c92 => ?_)
          · refine r_iconst (v := iI 0) C dX5_piece_99 rfl ?_
            refine r_iret C hr hlk dX5_piece_100 (Nat.zero_le _) (Nat.zero_le _) ?_
            exact ⟨congrArg (fun z => some (Value.int (iI z))) (by unfold aPce; rw [if_neg (by omega), if_neg (by omega), show p.toNat = pn by omega, show w.toNat = 4 by omega]; omega), rfl, rfl, rfl⟩
          · refine r_iconst (v := iI 1) C dX5_piece_95 rfl ?_
            refine r_goto (tgt := 100) C dX5_piece_96 (by decide) ?_
            refine r_iret C hr hlk dX5_piece_100 (Nat.zero_le _) (Nat.zero_le _) ?_
            exact ⟨congrArg (fun z => some (Value.int (iI z))) (by unfold aPce; rw [if_neg (by omega), if_neg (by omega), show p.toNat = pn by omega, show w.toNat = 4 by omega]; omega), rfl, rfl, rfl⟩
        · match j36, c36, q36 with
          | 0, c36, q36 =>
            refine n_eqi (y := 0) q36 ?_
            refine r_tableIn (tgt := 68) C dX5_piece_36 (by decide) (by decide) (off := 32) (by decide) (by decide) ?_
            refine r_aload_n C 0 dX5_piece_68 rfl rfl ?_
            refine c_getI C (v := (a (1445 + 5 * (pn % 60) + 0))) (143 + (pn % 60)) ((1445 + 5 * (pn % 60) + 0)) rfl (oR m60) (lnR m60) (ky_R m60 0) fl_X5_223 rfl dX5_piece_69 (hS.2.2.2.2 (pn % 60) m60).1 (hR.r hp1 hp2 (by decide)) ?_
            refine r_iret C hr hlk dX5_piece_72 (Nat.zero_le _) (Nat.zero_le _) ?_
            exact ⟨congrArg (fun z => some (Value.int (iI z))) (by unfold aPce; rw [if_neg (by omega), if_neg (by omega), show p.toNat = pn by omega, show w.toNat = 0 by omega]), rfl, rfl, rfl⟩
          | 1, c36, q36 =>
            refine n_eqi (y := 1) q36 ?_
            refine r_tableIn (tgt := 73) C dX5_piece_36 (by decide) (by decide) (off := 37) (by decide) (by decide) ?_
            refine r_aload_n C 0 dX5_piece_73 rfl rfl ?_
            refine c_getI C (v := (a (1445 + 5 * (pn % 60) + 1))) (143 + (pn % 60)) ((1445 + 5 * (pn % 60) + 1)) rfl (oR m60) (lnR m60) (ky_R m60 1) fl_X5_258 rfl dX5_piece_74 (hS.2.2.2.2 (pn % 60) m60).1 (hR.r hp1 hp2 (by decide)) ?_
            refine r_iret C hr hlk dX5_piece_77 (Nat.zero_le _) (Nat.zero_le _) ?_
            exact ⟨congrArg (fun z => some (Value.int (iI z))) (by unfold aPce; rw [if_neg (by omega), if_neg (by omega), show p.toNat = pn by omega, show w.toNat = 1 by omega]), rfl, rfl, rfl⟩
          | 2, c36, q36 =>
            refine n_eqi (y := 2) q36 ?_
            refine r_tableIn (tgt := 78) C dX5_piece_36 (by decide) (by decide) (off := 42) (by decide) (by decide) ?_
            refine r_aload_n C 0 dX5_piece_78 rfl rfl ?_
            refine c_getI C (v := (a (1445 + 5 * (pn % 60) + 2))) (143 + (pn % 60)) ((1445 + 5 * (pn % 60) + 2)) rfl (oR m60) (lnR m60) (ky_R m60 2) fl_X5_228 rfl dX5_piece_79 (hS.2.2.2.2 (pn % 60) m60).1 (hR.r hp1 hp2 (by decide)) ?_
            refine r_iret C hr hlk dX5_piece_82 (Nat.zero_le _) (Nat.zero_le _) ?_
            exact ⟨congrArg (fun z => some (Value.int (iI z))) (by unfold aPce; rw [if_neg (by omega), if_neg (by omega), show p.toNat = pn by omega, show w.toNat = 2 by omega]), rfl, rfl, rfl⟩
          | 3, c36, q36 =>
            refine n_eqi (y := 3) q36 ?_
            refine r_tableIn (tgt := 83) C dX5_piece_36 (by decide) (by decide) (off := 47) (by decide) (by decide) ?_
            refine r_aload_n C 0 dX5_piece_83 rfl rfl ?_
            refine c_getI C (v := (a (1445 + 5 * (pn % 60) + 3))) (143 + (pn % 60)) ((1445 + 5 * (pn % 60) + 3)) rfl (oR m60) (lnR m60) (ky_R m60 5) fl_X5_259 rfl dX5_piece_84 (hS.2.2.2.2 (pn % 60) m60).1 (hR.r hp1 hp2 (by decide)) ?_
            refine r_iret C hr hlk dX5_piece_87 (Nat.zero_le _) (Nat.zero_le _) ?_
            exact ⟨congrArg (fun z => some (Value.int (iI z))) (by unfold aPce; rw [if_neg (by omega), if_neg (by omega), show p.toNat = pn by omega, show w.toNat = 3 by omega]), rfl, rfl, rfl⟩
          | j + 4, c36, q36 => exact absurd c36 (by omega)
      · refine r_bipush (v := iI (-6)) C dX5_piece_23 (by decide) ?_
        refine r_iret C hr hlk dX5_piece_25 (Nat.zero_le _) (Nat.zero_le _) ?_
        rw [b2_eq0] at c20
        exact ⟨congrArg (fun z => some (Value.int (iI z))) (by unfold aPce; rw [if_neg (by omega), if_pos c20]), rfl, rfl, rfl⟩
    · refine r_bipush (v := iI (-2)) C dX5_piece_9 (by decide) ?_
      refine r_iret C hr hlk dX5_piece_11 (Nat.zero_le _) (Nat.zero_le _) ?_
      exact ⟨congrArg (fun z => some (Value.int (iI z))) (by unfold aPce; rw [if_pos (by omega)]), rfl, rfl, rfl⟩
set_option maxHeartbeats 4000000 in
set_option maxRecDepth 20000 in
theorem k_X5_apart {l : Launch} {G : Gd} {base : Nat} {Y : MY} {I : MI} {L : ML} {B : Nat} {X : Sa} {a : Sa} {N T : Int} {F : Nat} {f g : Int} (hS : SLy base Y B) (hI : Inv N T a) (hR : Rl true a X) (hF : FLn base Y F B) (hf0 : -2147483648 ≤ f ∧ f < 2147483648) (hg0 : -2147483648 ≤ g ∧ g < 2147483648) : Ct l yX5_apart cX5_apart 5 (some .long) (rmz 1 22) G base [.ref F, .int (iI f), .int (iI g)] Y (cI I B X) (cL L B X) (PL (aApt a f g) Y (cI I B X) (cL L B X)) := by
  refine Ct.of (own := RX5) (lo := [(0, .ref F), (1, .int (iI f)), (2, .int (iI g))]) (by decide) rfl (Nat.le_of_ble_eq_true rfl) rfl ?_
  intro zp ze zs zm zargs zbl zmt zc C hr hlk hnm
  have hT := hI.1
  unfold TopOK at hT
  refine r_aload_n C 0 dX5_apart_0 rfl rfl ?_
  refine r_getR C fl_X5_10 rfl dX5_apart_1 hF.1 hF.2 ?_
  refine r_iload_n C 1 dX5_apart_4 rfl rfl ?_
  refine cV1_PI C (k_X4_hasFlow hS (by omega) (show 0 ≤ X 2 ∧ X 2 ≤ 6 by rw [show X 2 = (a 2) from (hR.n 2 (by decide) (by decide))]; omega)) cw_X5_31 (rm_ok rfl rfl (Nat.zero_le _) (Nat.zero_le _)) (Nat.le_of_ble_eq_true rfl) hS.1.1 dX5_apart_5 ?_
  refine n_eqi (y := (b2 (0 ≤ f ∧ f < (a 2)))) (by rw [show X 2 = (a 2) from (hR.n 2 (by decide) (by decide))]) ?_
  refine n_if_eq (tgt := 22) C dX5_apart_8 (by decide) b2_i (fun c8 => ?_) (fun c8 => ?_)
  · refine n_ldc2 (v := (-1000000000000000001)) C lc_X5_113 (by decide) dX5_apart_22 ?_
    refine r_lret C hr hlk dX5_apart_25 (Nat.zero_le _) (Nat.zero_le _) ?_
    simp only [b2_eq0] at c8
    exact ⟨congrArg (fun z => some (Value.long (lI z))) (by unfold aApt; rw [if_pos (by omega)]), rfl, rfl, rfl⟩
  · refine r_aload_n C 0 dX5_apart_11 rfl rfl ?_
    refine r_getR C fl_X5_10 rfl dX5_apart_12 hF.1 hF.2 ?_
    refine r_iload_n C 2 dX5_apart_15 rfl rfl ?_
    refine cV1_PI C (k_X4_hasFlow hS (by omega) (show 0 ≤ X 2 ∧ X 2 ≤ 6 by rw [show X 2 = (a 2) from (hR.n 2 (by decide) (by decide))]; omega)) cw_X5_31 (rm_ok rfl rfl (Nat.zero_le _) (Nat.zero_le _)) (Nat.le_of_ble_eq_true rfl) hS.1.1 dX5_apart_16 ?_
    refine n_eqi (y := (b2 (0 ≤ g ∧ g < (a 2)))) (by rw [show X 2 = (a 2) from (hR.n 2 (by decide) (by decide))]) ?_
    refine n_if_ne (tgt := 26) C dX5_apart_19 (by decide) b2_i (fun c19 => ?_) (fun c19 => ?_)
    · simp only [b2_eq0, Classical.not_not] at c8 c19
      obtain ⟨fn, hfn⟩ := Int.eq_ofNat_of_zero_le (show 0 ≤ f by omega)
      have hfn2 : (fn : Int) < a 2 := by omega
      have hfn6 : fn < 6 := by omega
      have hF2 := (hI.2.1 fn hfn2).1
      unfold FlowOK at hF2
      have hfn3 : f.toNat = fn := by omega
      obtain ⟨gn, hgn⟩ := Int.eq_ofNat_of_zero_le (show 0 ≤ g by omega)
      have hgn2 : (gn : Int) < a 2 := by omega
      have hgn6 : gn < 6 := by omega
      have hG2 := (hI.2.1 gn hgn2).1
      unfold FlowOK at hG2
      have hgn3 : g.toNat = gn := by omega
      have hs1 : 0 ≤ a (17 + 18 * fn + 6) * 720720 / a (17 + 18 * fn + 0) ∧ a (17 + 18 * fn + 6) * 720720 / a (17 + 18 * fn + 0) ≤ 1000000000000 := ⟨Int.ediv_nonneg (by omega) (by omega), Int.le_trans (Int.ediv_le_self _ (by omega)) (by omega)⟩
      have hs2 : 0 ≤ a (17 + 18 * gn + 6) * 720720 / a (17 + 18 * gn + 0) ∧ a (17 + 18 * gn + 6) * 720720 / a (17 + 18 * gn + 0) ≤ 1000000000000 := ⟨Int.ediv_nonneg (by omega) (by omega), Int.le_trans (Int.ediv_le_self _ (by omega)) (by omega)⟩
      refine r_aload_n C 0 dX5_apart_26 rfl rfl ?_
      refine r_getR C fl_X5_10 rfl dX5_apart_27 hF.1 hF.2 ?_
      refine r_getR C fl_X5_42 rfl dX5_apart_30 hS.1.1 hS.2.1.2.1 ?_
      refine r_iload_n C 1 dX5_apart_33 rfl rfl ?_
      refine r_aald C (by decide) (by decide) fn dX5_apart_34 hS.1.2.2.1 ⟨congrArg iI (by omega), (by omega), by decide⟩ (hS.2.2.1 fn hfn6).2.2.2.1 ?_
      refine r_astore_n (lo' := [(3, .ref (B + (3 + 3 * fn))), (0, .ref F), (1, .int (iI f)), (2, .int (iI g))]) C dX5_apart_35 rfl (by decide) rfl ?_
      refine r_aload_n C 1 dX5_apart_36 rfl rfl ?_
      refine r_getR C fl_X5_10 rfl dX5_apart_37 hF.1 hF.2 ?_
      refine r_getR C fl_X5_42 rfl dX5_apart_40 hS.1.1 hS.2.1.2.1 ?_
      refine r_iload_n C 3 dX5_apart_43 rfl rfl ?_
      refine r_aald C (by decide) (by decide) gn dX5_apart_44 hS.1.2.2.1 ⟨congrArg iI (by omega), (by omega), by decide⟩ (hS.2.2.1 gn hgn6).2.2.2.1 ?_
      refine r_astore (lo' := [(4, .ref (B + (3 + 3 * gn))), (3, .ref (B + (3 + 3 * fn))), (0, .ref F), (1, .int (iI f)), (2, .int (iI g))]) C dX5_apart_45 (by decide) rfl ?_
      refine r_aload_n C 1 dX5_apart_47 rfl rfl ?_
      refine r_aload_n C 1 dX5_apart_48 rfl rfl ?_
      refine c_getI C (v := (a (17 + 18 * fn + 6))) (3 + 3 * fn) ((17 + 18 * fn + 6)) rfl (oF hfn6) (lnF hfn6 (by decide)) (ky_F hfn6 3) fl_X5_163 rfl dX5_apart_49 (hS.2.2.1 fn hfn6).1 (hR.f hfn2 (fk_y (by decide) (by decide))) ?_
      refine cV1_PL C (k_X0_share fn hS hfn6 (by omega) (show 1 ≤ X (17 + 18 * fn + 0) ∧ X (17 + 18 * fn + 0) ≤ 16 by rw [show X (17 + 18 * fn + 0) = (a (17 + 18 * fn + 0)) from (hR.f hfn2 (fk_y (by decide) (by decide)))]; omega)) cw_X5_262 (rm_ok rfl rfl (Nat.zero_le _) (Nat.zero_le _)) (Nat.le_of_ble_eq_true rfl) (hS.2.2.1 fn hfn6).1 dX5_apart_52 ?_
      refine n_eql (y := ((a (17 + 18 * fn + 6)) * 720720 / (a (17 + 18 * fn + 0)))) (by rw [show X (17 + 18 * fn + 0) = (a (17 + 18 * fn + 0)) from (hR.f hfn2 (fk_y (by decide) (by decide)))]) ?_
      refine r_aload C 0 dX5_apart_55 rfl ?_
      refine r_aload C 0 dX5_apart_57 rfl ?_
      refine c_getI C (v := (a (17 + 18 * gn + 6))) (3 + 3 * gn) ((17 + 18 * gn + 6)) rfl (oF hgn6) (lnF hgn6 (by decide)) (ky_F hgn6 3) fl_X5_163 rfl dX5_apart_59 (hS.2.2.1 gn hgn6).1 (hR.f hgn2 (fk_y (by decide) (by decide))) ?_
      refine cV1_PL C (k_X0_share gn hS hgn6 (by omega) (show 1 ≤ X (17 + 18 * gn + 0) ∧ X (17 + 18 * gn + 0) ≤ 16 by rw [show X (17 + 18 * gn + 0) = (a (17 + 18 * gn + 0)) from (hR.f hgn2 (fk_y (by decide) (by decide)))]; omega)) cw_X5_262 (rm_ok rfl rfl (Nat.zero_le _) (Nat.zero_le _)) (Nat.le_of_ble_eq_true rfl) (hS.2.2.1 gn hgn6).1 dX5_apart_62 ?_
      refine n_eql (y := ((a (17 + 18 * gn + 6)) * 720720 / (a (17 + 18 * gn + 0)))) (by rw [show X (17 + 18 * gn + 0) = (a (17 + 18 * gn + 0)) from (hR.f hgn2 (fk_y (by decide) (by decide)))]) ?_
      refine n_lsub C dX5_apart_65 ?_
      refine cS1_PL C (k_J9_abs_067f4 (by constructor <;> omega)) cw_X5_266 (rm_ok rfl rfl (Nat.zero_le _) (Nat.zero_le _)) (Nat.le_of_ble_eq_true rfl) dX5_apart_66 ?_
      refine r_lret C hr hlk dX5_apart_69 (Nat.zero_le _) (Nat.zero_le _) ?_
      exact ⟨congrArg (fun z => some (Value.long (lI z))) (by unfold aApt; rw [hfn3, hgn3, if_neg (show ¬ ¬ ((0 ≤ f ∧ f < a 2) ∧ (0 ≤ g ∧ g < a 2)) by omega)]), rfl, rfl, rfl⟩
    · refine n_ldc2 (v := (-1000000000000000001)) C lc_X5_113 (by decide) dX5_apart_22 ?_
      refine r_lret C hr hlk dX5_apart_25 (Nat.zero_le _) (Nat.zero_le _) ?_
      simp only [b2_eq0] at c8 c19
      exact ⟨congrArg (fun z => some (Value.long (lI z))) (by unfold aApt; rw [if_pos (by omega)]), rfl, rfl, rfl⟩
set_option maxHeartbeats 4000000 in
set_option maxRecDepth 20000 in
theorem k_X5_areSplits {l : Launch} {G : Gd} {base : Nat} {Y : MY} {I : MI} {L : ML} {u e n : Int} (hu0 : -2147483648 ≤ u ∧ u < 2147483648) (he0 : -2147483648 ≤ e ∧ e < 2147483648) (hn0 : -2147483648 ≤ n ∧ n < 2147483648) : Ct l yX5_areSplits cX5_areSplits 3 (some .boolean) (rmz 0 0) G base [.int (iI u), .int (iI e), .int (iI n)] Y I L (PI (b2 ((0 ≤ u ∧ u ≤ 1000) ∧ (1 ≤ e ∧ e ≤ 500) ∧ (1 ≤ n ∧ n ≤ 6) ∧ u + e * (n - 1) ≤ 1000)) Y I L) := by
  refine Ct.of (own := RX5) (lo := [(0, .int (iI u)), (1, .int (iI e)), (2, .int (iI n))]) (by decide) rfl (Nat.le_of_ble_eq_true rfl) rfl ?_
  intro zp ze zs zm zargs zbl zmt zc C hr hlk hnm
  refine r_iload_n C 0 dX5_areSplits_0 rfl rfl ?_
  refine n_if_lt (tgt := 23) C dX5_areSplits_1 (by decide) (by constructor <;> omega) (fun c1 => ?_) (fun c1 => ?_)
  · refine r_iconst (v := iI 0) C dX5_areSplits_23 rfl ?_
    refine r_zret C hr hlk (by decide) dX5_areSplits_24 (Nat.zero_le _) (Nat.zero_le _) ?_
    exact ⟨congrArg (fun z => some (Value.int (iI z))) (by first | (rw [b2_1 (by omega)]; done) | (rw [b2_0 (by omega)]; done)), rfl, rfl, rfl⟩
  · refine r_iload_n C 0 dX5_areSplits_4 rfl rfl ?_
    refine r_sipush (v := iI 1000) C dX5_areSplits_5 (by decide) ?_
    refine n_icmp_gt (tgt := 23) C dX5_areSplits_8 (by decide) (by constructor <;> omega) ⟨by decide, by decide⟩ (fun c8 => ?_) (fun c8 => ?_)
    · refine r_iconst (v := iI 0) C dX5_areSplits_23 rfl ?_
      refine r_zret C hr hlk (by decide) dX5_areSplits_24 (Nat.zero_le _) (Nat.zero_le _) ?_
      exact ⟨congrArg (fun z => some (Value.int (iI z))) (by first | (rw [b2_1 (by omega)]; done) | (rw [b2_0 (by omega)]; done)), rfl, rfl, rfl⟩
    · refine r_iload_n C 1 dX5_areSplits_11 rfl rfl ?_
      refine r_iconst (v := iI 1) C dX5_areSplits_12 rfl ?_
      refine n_icmp_lt (tgt := 23) C dX5_areSplits_13 (by decide) (by constructor <;> omega) ⟨by decide, by decide⟩ (fun c13 => ?_) (fun c13 => ?_)
      · refine r_iconst (v := iI 0) C dX5_areSplits_23 rfl ?_
        refine r_zret C hr hlk (by decide) dX5_areSplits_24 (Nat.zero_le _) (Nat.zero_le _) ?_
        exact ⟨congrArg (fun z => some (Value.int (iI z))) (by first | (rw [b2_1 (by omega)]; done) | (rw [b2_0 (by omega)]; done)), rfl, rfl, rfl⟩
      · refine r_iload_n C 1 dX5_areSplits_16 rfl rfl ?_
        refine r_sipush (v := iI 500) C dX5_areSplits_17 (by decide) ?_
        refine n_icmp_le (tgt := 25) C dX5_areSplits_20 (by decide) (by constructor <;> omega) ⟨by decide, by decide⟩ (fun c20 => ?_) (fun c20 => ?_)
        · refine r_iload_n C 2 dX5_areSplits_25 rfl rfl ?_
          refine r_iconst (v := iI 1) C dX5_areSplits_26 rfl ?_
          refine n_icmp_lt (tgt := 36) C dX5_areSplits_27 (by decide) (by constructor <;> omega) ⟨by decide, by decide⟩ (fun c27 => ?_) (fun c27 => ?_)
          · refine r_iconst (v := iI 0) C dX5_areSplits_36 rfl ?_
            refine r_zret C hr hlk (by decide) dX5_areSplits_37 (Nat.zero_le _) (Nat.zero_le _) ?_
            exact ⟨congrArg (fun z => some (Value.int (iI z))) (by first | (rw [b2_1 (by omega)]; done) | (rw [b2_0 (by omega)]; done)), rfl, rfl, rfl⟩
          · refine r_iload_n C 2 dX5_areSplits_30 rfl rfl ?_
            refine r_bipush (v := iI 6) C dX5_areSplits_31 (by decide) ?_
            refine n_icmp_le (tgt := 38) C dX5_areSplits_33 (by decide) (by constructor <;> omega) ⟨by decide, by decide⟩ (fun c33 => ?_) (fun c33 => ?_)
            · have hmul : 0 ≤ e * (n - 1) ∧ e * (n - 1) ≤ 500 * 5 := ⟨Int.mul_nonneg (by omega) (by omega), Int.mul_le_mul (by omega) (by omega) (by omega) (by omega)⟩
              refine r_iload_n C 0 dX5_areSplits_38 rfl rfl ?_
              refine r_iload_n C 1 dX5_areSplits_39 rfl rfl ?_
              refine r_iload_n C 2 dX5_areSplits_40 rfl rfl ?_
              refine r_iconst (v := iI 1) C dX5_areSplits_41 rfl ?_
              refine n_isub C dX5_areSplits_42 ?_
              refine n_imul C dX5_areSplits_43 ?_
              refine n_iadd C dX5_areSplits_44 ?_
              refine r_sipush (v := iI 1000) C dX5_areSplits_45 (by decide) ?_
              refine n_icmp_gt (tgt := 55) C dX5_areSplits_48 (by decide) (by constructor <;> omega) ⟨by decide, by decide⟩ (fun c48 => ?_) (fun c48 => ?_)
              · refine r_iconst (v := iI 0) C dX5_areSplits_55 rfl ?_
                refine r_zret C hr hlk (by decide) dX5_areSplits_56 (Nat.zero_le _) (Nat.zero_le _) ?_
                exact ⟨congrArg (fun z => some (Value.int (iI z))) (by first | (rw [b2_1 (by omega)]; done) | (rw [b2_0 (by omega)]; done)), rfl, rfl, rfl⟩
              · refine r_iconst (v := iI 1) C dX5_areSplits_51 rfl ?_
                refine r_goto (tgt := 56) C dX5_areSplits_52 (by decide) ?_
                refine r_zret C hr hlk (by decide) dX5_areSplits_56 (Nat.zero_le _) (Nat.zero_le _) ?_
                exact ⟨congrArg (fun z => some (Value.int (iI z))) (by first | (rw [b2_1 (by omega)]; done) | (rw [b2_0 (by omega)]; done)), rfl, rfl, rfl⟩
            · refine r_iconst (v := iI 0) C dX5_areSplits_36 rfl ?_
              refine r_zret C hr hlk (by decide) dX5_areSplits_37 (Nat.zero_le _) (Nat.zero_le _) ?_
              exact ⟨congrArg (fun z => some (Value.int (iI z))) (by first | (rw [b2_1 (by omega)]; done) | (rw [b2_0 (by omega)]; done)), rfl, rfl, rfl⟩
        · refine r_iconst (v := iI 0) C dX5_areSplits_23 rfl ?_
          refine r_zret C hr hlk (by decide) dX5_areSplits_24 (Nat.zero_le _) (Nat.zero_le _) ?_
          exact ⟨congrArg (fun z => some (Value.int (iI z))) (by first | (rw [b2_1 (by omega)]; done) | (rw [b2_0 (by omega)]; done)), rfl, rfl, rfl⟩
