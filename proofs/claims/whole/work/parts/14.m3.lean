set_option maxHeartbeats 4000000 in
set_option maxRecDepth 20000 in
theorem k_X6_restTicks {l : Launch} {G : Gd} {base : Nat} {Y : MY} {I : MI} {L : ML} {M : Nat} {a : Sa} {N T : Int} (hI : Inv N T a) {pi : Int} (p : Nat) (hM : MLy base Y M) (hp : pi = p) (hk : old a ≤ p ∧ (p : Int) < a 7) : Ct l yX6_restTicks cX6_restTicks 6 (some .long) (rmz 2 43) G base [.ref M, .int (iI pi)] Y I (rL L (M + 1) a) (PL (rstT a (flP a p) p) Y I (rL L (M + 1) a)) := by
  refine Ct.of (own := RX6) (lo := [(0, .ref M), (1, .int (iI pi))]) (by decide) rfl (Nat.le_of_ble_eq_true rfl) rfl ?_
  intro zp ze zs zm zargs zbl zmt zc C hr hlk hnm
  have hT := hI.1
  unfold TopOK at hT
  have hP := hI.2.2.1 p hk.1 hk.2
  unfold PkOK at hP
  obtain ⟨f, hfa⟩ := Int.eq_ofNat_of_zero_le (show 0 ≤ a (125 + 11 * (p % 120) + 0) by omega)
  have hfl : flP a p = f := by unfold flP; omega
  have hF := (hI.2.1 f (by omega)).1
  unfold FlowOK at hF
  refine r_aload_n C 0 dX6_restTicks_0 rfl rfl ?_
  refine r_iload_n C 1 dX6_restTicks_1 rfl rfl ?_
  refine r_iconst (v := iI 1) C dX6_restTicks_2 rfl ?_
  refine cV2_PL C (k_X6_of p 1 hM (by omega) (by omega) (by omega)) cw_X6_49 (rm_ok rfl rfl (Nat.zero_le _) (Nat.zero_le _)) (Nat.le_of_ble_eq_true rfl) hM.1.1 dX6_restTicks_3 ?_
  refine r_aload_n C 0 dX6_restTicks_6 rfl rfl ?_
  refine r_iload_n C 1 dX6_restTicks_7 rfl rfl ?_
  refine r_iconst (v := iI 5) C dX6_restTicks_8 rfl ?_
  refine cV2_PL C (k_X6_of p 5 hM (by omega) (by omega) (by omega)) cw_X6_49 (rm_ok rfl rfl (Nat.zero_le _) (Nat.zero_le _)) (Nat.le_of_ble_eq_true rfl) hM.1.1 dX6_restTicks_9 ?_
  refine n_lsub C dX6_restTicks_12 ?_
  refine n_topl (fun x13 ex13 => ?_)
  refine r_lstore_n (lo' := [(2, .long (lI x13)), (0, .ref M), (1, .int (iI pi))]) C dX6_restTicks_13 rfl (by decide) rfl ?_
  refine r_aload_n C 1 dX6_restTicks_14 rfl rfl ?_
  refine r_aload_n C 1 dX6_restTicks_15 rfl rfl ?_
  refine r_iload_n C 2 dX6_restTicks_16 rfl rfl ?_
  refine r_iconst (v := iI 0) C dX6_restTicks_17 rfl ?_
  refine cV2_PL C (k_X6_of p 0 hM (by omega) (by omega) (by omega)) cw_X6_49 (rm_ok rfl rfl (Nat.zero_le _) (Nat.zero_le _)) (Nat.le_of_ble_eq_true rfl) hM.1.1 dX6_restTicks_18 ?_
  refine n_l2i C dX6_restTicks_21 ?_
  refine r_iconst (v := iI 2) C dX6_restTicks_22 rfl ?_
  refine cV2_PL C (k_X6_ofFlow f 2 hM (by omega) (by omega) (by omega)) cw_X6_53 (rm_ok rfl rfl (Nat.zero_le _) (Nat.zero_le _)) (Nat.le_of_ble_eq_true rfl) hM.1.1 dX6_restTicks_23 ?_
  refine n_topl (fun x26 ex26 => ?_)
  refine r_lstore (lo' := [(4, .long (lI x26)), (2, .long (lI x13)), (0, .ref M), (1, .int (iI pi))]) C dX6_restTicks_26 (by decide) rfl ?_
  refine r_lload C 0 dX6_restTicks_28 rfl ?_
  refine r_lconst (v := lI 0) C dX6_restTicks_30 (by decide) ?_
  refine n_lcmp_eq (tgt := 42) C dX6_restTicks_31 dX6_restTicks_32 rfl rfl (by decide) (by constructor <;> omega) ⟨by decide, by decide⟩ (fun c31 => ?_) (fun c31 => ?_)
  · refine r_aload_n C 2 dX6_restTicks_42 rfl rfl ?_
    refine r_getR C fl_X6_7 rfl dX6_restTicks_43 hM.1.1 hM.2.1 ?_
    refine r_iconst (v := iI 3) C dX6_restTicks_46 rfl ?_
    refine a_lald C (v := (a 3)) 3 dX6_restTicks_47 hM.1.2.1 ⟨rfl, by decide, by decide⟩ rfl ?_
    refine r_lload_n C 1 dX6_restTicks_48 rfl rfl ?_
    refine n_ladd C dX6_restTicks_49 ?_
    refine r_goto (tgt := 71) C dX6_restTicks_50 (by decide) ?_
    refine r_lret C hr hlk dX6_restTicks_71 (Nat.zero_le _) (Nat.zero_le _) ?_
    exact ⟨congrArg (fun z => some (Value.long (lI z))) (by unfold rstT; rw [hfl]; first | (rw [if_pos (by omega)]; subst_vars; rfl) | (rw [if_neg (by omega)]; subst_vars; rfl)), rfl, rfl, rfl⟩
  · refine r_lload_n C 1 dX6_restTicks_35 rfl rfl ?_
    refine r_lload C 0 dX6_restTicks_36 rfl ?_
    refine n_lcmp_gt (tgt := 53) C dX6_restTicks_38 dX6_restTicks_39 rfl rfl (by decide) (by constructor <;> omega) (by constructor <;> omega) (fun c38 => ?_) (fun c38 => ?_)
    · refine r_lload_n C 1 dX6_restTicks_53 rfl rfl ?_
      refine r_aload_n C 2 dX6_restTicks_54 rfl rfl ?_
      refine r_getR C fl_X6_7 rfl dX6_restTicks_55 hM.1.1 hM.2.1 ?_
      refine r_iconst (v := iI 3) C dX6_restTicks_58 rfl ?_
      refine a_lald C (v := (a 3)) 3 dX6_restTicks_59 hM.1.2.1 ⟨rfl, by decide, by decide⟩ rfl ?_
      refine r_lload_n C 1 dX6_restTicks_60 rfl rfl ?_
      refine r_lload C 0 dX6_restTicks_61 rfl ?_
      refine n_ladd C dX6_restTicks_63 ?_
      refine r_lconst (v := lI 1) C dX6_restTicks_64 (by decide) ?_
      refine n_lsub C dX6_restTicks_65 ?_
      refine r_lload C 0 dX6_restTicks_66 rfl ?_
      refine n_ldiv C dX6_restTicks_68 (by omega) (by omega) ?_
      refine n_lmul C dX6_restTicks_69 ?_
      refine n_ladd C dX6_restTicks_70 ?_
      refine r_lret C hr hlk dX6_restTicks_71 (Nat.zero_le _) (Nat.zero_le _) ?_
      exact ⟨congrArg (fun z => some (Value.long (lI z))) (by unfold rstT; rw [hfl]; first | (rw [if_pos (by omega)]; subst_vars; rfl) | (rw [if_neg (by omega)]; subst_vars; rfl)), rfl, rfl, rfl⟩
    · refine r_aload_n C 2 dX6_restTicks_42 rfl rfl ?_
      refine r_getR C fl_X6_7 rfl dX6_restTicks_43 hM.1.1 hM.2.1 ?_
      refine r_iconst (v := iI 3) C dX6_restTicks_46 rfl ?_
      refine a_lald C (v := (a 3)) 3 dX6_restTicks_47 hM.1.2.1 ⟨rfl, by decide, by decide⟩ rfl ?_
      refine r_lload_n C 1 dX6_restTicks_48 rfl rfl ?_
      refine n_ladd C dX6_restTicks_49 ?_
      refine r_goto (tgt := 71) C dX6_restTicks_50 (by decide) ?_
      refine r_lret C hr hlk dX6_restTicks_71 (Nat.zero_le _) (Nat.zero_le _) ?_
      exact ⟨congrArg (fun z => some (Value.long (lI z))) (by unfold rstT; rw [hfl]; first | (rw [if_pos (by omega)]; subst_vars; rfl) | (rw [if_neg (by omega)]; subst_vars; rfl)), rfl, rfl, rfl⟩
set_option maxHeartbeats 4000000 in
set_option maxRecDepth 20000 in
theorem k_X6_isUrgent {l : Launch} {G : Gd} {base : Nat} {Y : MY} {I : MI} {L : ML} {M : Nat} {a : Sa} {N T : Int} (hI : Inv N T a) {pi : Int} (p : Nat) (hM : MLy base Y M) (hp : pi = p) (hk : old a ≤ p ∧ (p : Int) < a 7) : Ct l yX6_isUrgent cX6_isUrgent 2 (some .boolean) (rmz 3 68) G base [.ref M, .int (iI pi)] Y I (rL L (M + 1) a) (PI (urg a p) Y I (rL L (M + 1) a)) := by
  refine Ct.of (own := RX6) (lo := [(0, .ref M), (1, .int (iI pi))]) (by decide) rfl (Nat.le_of_ble_eq_true rfl) rfl ?_
  intro zp ze zs zm zargs zbl zmt zc C hr hlk hnm
  have hT := hI.1
  unfold TopOK at hT
  have hP := hI.2.2.1 p hk.1 hk.2
  unfold PkOK at hP
  have hR := rst_b hI hk.1 hk.2
  refine r_aload_n C 0 dX6_isUrgent_0 rfl rfl ?_
  refine r_getR C fl_X6_7 rfl dX6_isUrgent_1 hM.1.1 hM.2.1 ?_
  refine r_bipush (v := iI 6) C dX6_isUrgent_4 (by decide) ?_
  refine a_lald C (v := (a 6)) 6 dX6_isUrgent_6 hM.1.2.1 ⟨rfl, by decide, by decide⟩ rfl ?_
  refine r_lconst (v := lI 1) C dX6_isUrgent_7 (by decide) ?_
  refine n_lcmp_ne (tgt := 58) C dX6_isUrgent_8 dX6_isUrgent_9 rfl rfl (by decide) (by constructor <;> omega) ⟨by decide, by decide⟩ (fun c8 => ?_) (fun c8 => ?_)
  · refine r_iconst (v := iI 0) C dX6_isUrgent_58 rfl ?_
    refine r_zret C hr hlk (by decide) dX6_isUrgent_59 (Nat.zero_le _) (Nat.zero_le _) ?_
    exact ⟨congrArg (fun z => some (Value.int (iI z))) (by unfold urg; first | (rw [b2_1 (by omega)]; done) | (rw [b2_0 (by omega)]; done)), rfl, rfl, rfl⟩
  · refine r_aload_n C 0 dX6_isUrgent_12 rfl rfl ?_
    refine r_iload_n C 1 dX6_isUrgent_13 rfl rfl ?_
    refine r_iconst (v := iI 3) C dX6_isUrgent_14 rfl ?_
    refine cV2_PL C (k_X6_of p 3 hM (by omega) (by omega) (by omega)) cw_X6_49 (rm_ok rfl rfl (Nat.zero_le _) (Nat.zero_le _)) (Nat.le_of_ble_eq_true rfl) hM.1.1 dX6_isUrgent_15 ?_
    refine n_ldc2 (v := (-6)) C lc_X6_34 (by decide) dX6_isUrgent_18 ?_
    refine n_lcmp_eq (tgt := 58) C dX6_isUrgent_21 dX6_isUrgent_22 rfl rfl (by decide) (by constructor <;> omega) ⟨by decide, by decide⟩ (fun c21 => ?_) (fun c21 => ?_)
    · refine r_iconst (v := iI 0) C dX6_isUrgent_58 rfl ?_
      refine r_zret C hr hlk (by decide) dX6_isUrgent_59 (Nat.zero_le _) (Nat.zero_le _) ?_
      exact ⟨congrArg (fun z => some (Value.int (iI z))) (by unfold urg; first | (rw [b2_1 (by omega)]; done) | (rw [b2_0 (by omega)]; done)), rfl, rfl, rfl⟩
    · refine r_aload_n C 0 dX6_isUrgent_25 rfl rfl ?_
      refine r_getR C fl_X6_7 rfl dX6_isUrgent_26 hM.1.1 hM.2.1 ?_
      refine r_iconst (v := iI 0) C dX6_isUrgent_29 rfl ?_
      refine a_lald C (v := (a 0)) 0 dX6_isUrgent_30 hM.1.2.1 ⟨rfl, by decide, by decide⟩ rfl ?_
      refine r_aload_n C 0 dX6_isUrgent_31 rfl rfl ?_
      refine r_iload_n C 1 dX6_isUrgent_32 rfl rfl ?_
      refine cV1_PL C (k_X6_restTicks hI p hM (by omega) (by omega)) cw_X6_99 (rm_ok rfl rfl (Nat.zero_le _) (Nat.zero_le _)) (Nat.le_of_ble_eq_true rfl) hM.1.1 dX6_isUrgent_33 ?_
      refine n_ladd C dX6_isUrgent_36 ?_
      refine r_aload_n C 0 dX6_isUrgent_37 rfl rfl ?_
      refine r_getR C fl_X6_7 rfl dX6_isUrgent_38 hM.1.1 hM.2.1 ?_
      refine r_iconst (v := iI 5) C dX6_isUrgent_41 rfl ?_
      refine a_lald C (v := (a 5)) 5 dX6_isUrgent_42 hM.1.2.1 ⟨rfl, by decide, by decide⟩ rfl ?_
      refine n_ladd C dX6_isUrgent_43 ?_
      refine r_aload_n C 0 dX6_isUrgent_44 rfl rfl ?_
      refine r_iload_n C 1 dX6_isUrgent_45 rfl rfl ?_
      refine r_iconst (v := iI 3) C dX6_isUrgent_46 rfl ?_
      refine cV2_PL C (k_X6_of p 3 hM (by omega) (by omega) (by omega)) cw_X6_49 (rm_ok rfl rfl (Nat.zero_le _) (Nat.zero_le _)) (Nat.le_of_ble_eq_true rfl) hM.1.1 dX6_isUrgent_47 ?_
      refine n_lcmp_lt (tgt := 58) C dX6_isUrgent_50 dX6_isUrgent_51 rfl rfl (by decide) (by constructor <;> omega) (by constructor <;> omega) (fun c50 => ?_) (fun c50 => ?_)
      · refine r_iconst (v := iI 0) C dX6_isUrgent_58 rfl ?_
        refine r_zret C hr hlk (by decide) dX6_isUrgent_59 (Nat.zero_le _) (Nat.zero_le _) ?_
        exact ⟨congrArg (fun z => some (Value.int (iI z))) (by unfold urg; first | (rw [b2_1 (by omega)]; done) | (rw [b2_0 (by omega)]; done)), rfl, rfl, rfl⟩
      · refine r_iconst (v := iI 1) C dX6_isUrgent_54 rfl ?_
        refine r_goto (tgt := 59) C dX6_isUrgent_55 (by decide) ?_
        refine r_zret C hr hlk (by decide) dX6_isUrgent_59 (Nat.zero_le _) (Nat.zero_le _) ?_
        exact ⟨congrArg (fun z => some (Value.int (iI z))) (by unfold urg; first | (rw [b2_1 (by omega)]; done) | (rw [b2_0 (by omega)]; done)), rfl, rfl, rfl⟩
set_option maxHeartbeats 4000000 in
set_option maxRecDepth 20000 in
theorem k_X6_deliver {l : Launch} {G : Gd} {base : Nat} {Y : MY} {I : MI} {L : ML} {M : Nat} {a : Sa} {b : Nat → Nat → Int} {pi : Int} (p f : Nat) (hM : MLy base Y M) (hp : pi = p) (hp2 : p ≤ 400000) (hf : a (125 + 11 * (p % 120) + 0) = f) (hf6 : f < 6) (h0 : 0 ≤ a 0 ∧ a 0 ≤ 1002000) (h2 : 0 ≤ a (125 + 11 * (p % 120) + 2) ∧ a (125 + 11 * (p % 120) + 2) ≤ 1002000) (h3 : -6 ≤ a (125 + 11 * (p % 120) + 3) ∧ a (125 + 11 * (p % 120) + 3) ≤ 2000000) (h9 : 0 ≤ a (17 + 18 * f + 9) ∧ a (17 + 18 * f + 9) ≤ 1002000) (hb : -6 ≤ b 0 8 ∧ b 0 8 ≤ 400000) : Ct l yX6_deliver cX6_deliver 5 (none) (rmz 2 43) G base [.ref M, .int (iI pi)] Y (mI I M 7 b) (rL L (M + 1) a) (EV Y (fun I' L' => I' = mI I M 7 (up2 b 0 8 (fdN (b 0 8) p)) ∧ L' = rL L (M + 1) (dlP a f p))) := by
  refine Ct.of (own := RX6) (lo := [(0, .ref M), (1, .int (iI pi))]) (by decide) rfl (Nat.le_of_ble_eq_true rfl) rfl ?_
  intro zp ze zs zm zargs zbl zmt zc C hr hlk hnm
  refine r_aload_n C 0 dX6_deliver_0 rfl rfl ?_
  refine r_iload_n C 1 dX6_deliver_1 rfl rfl ?_
  refine r_iconst (v := iI 0) C dX6_deliver_2 rfl ?_
  refine cV2_PL C (k_X6_of p 0 hM (by omega) (by omega) (by omega)) cw_X6_49 (rm_ok rfl rfl (Nat.zero_le _) (Nat.zero_le _)) (Nat.le_of_ble_eq_true rfl) hM.1.1 dX6_deliver_3 ?_
  refine n_l2i C dX6_deliver_6 ?_
  refine n_topi (fun x7 ex7 => ?_)
  refine r_istore_n (lo' := [(2, .int (iI x7)), (0, .ref M), (1, .int (iI pi))]) C dX6_deliver_7 rfl (by decide) rfl ?_
  refine r_aload_n C 1 dX6_deliver_8 rfl rfl ?_
  refine r_getR C fl_X6_7 rfl dX6_deliver_9 hM.1.1 hM.2.1 ?_
  refine r_iconst (v := iI 0) C dX6_deliver_12 rfl ?_
  refine a_lald C (v := (a 0)) 0 dX6_deliver_13 hM.1.2.1 ⟨rfl, by decide, by decide⟩ rfl ?_
  refine r_aload_n C 1 dX6_deliver_14 rfl rfl ?_
  refine r_iload_n C 2 dX6_deliver_15 rfl rfl ?_
  refine r_iconst (v := iI 2) C dX6_deliver_16 rfl ?_
  refine cV2_PL C (k_X6_of p 2 hM (by omega) (by omega) (by omega)) cw_X6_49 (rm_ok rfl rfl (Nat.zero_le _) (Nat.zero_le _)) (Nat.le_of_ble_eq_true rfl) hM.1.1 dX6_deliver_17 ?_
  refine n_lsub C dX6_deliver_20 ?_
  refine n_topl (fun x21 ex21 => ?_)
  refine r_lstore_n (lo' := [(3, .long (lI x21)), (2, .int (iI x7)), (0, .ref M), (1, .int (iI pi))]) C dX6_deliver_21 rfl (by decide) rfl ?_
  refine r_aload_n C 2 dX6_deliver_22 rfl rfl ?_
  refine r_getR C fl_X6_7 rfl dX6_deliver_23 hM.1.1 hM.2.1 ?_
  refine r_iload_n C 3 dX6_deliver_26 rfl rfl ?_
  refine r_iconst (v := iI 4) C dX6_deliver_27 rfl ?_
  refine cS2_PI C (k_X6_packetAt p 4 (by omega) (by omega) (by omega)) cw_X6_46 (rm_ok rfl rfl (Nat.zero_le _) (Nat.zero_le _)) (Nat.le_of_ble_eq_true rfl) dX6_deliver_28 ?_
  refine n_ldc2 (v := 3) C lc_X6_152 (by decide) dX6_deliver_31 ?_
  refine a_last C ((125 + 11 * (p % 120) + 4)) dX6_deliver_34 hM.1.2.1 ⟨congrArg iI (by omega), (by omega), by decide⟩ (fun a34 ea34 => ?_)
  refine r_aload_n C 2 dX6_deliver_35 rfl rfl ?_
  refine r_getR C fl_X6_7 rfl dX6_deliver_36 hM.1.1 hM.2.1 ?_
  refine r_iload_n C 3 dX6_deliver_39 rfl rfl ?_
  refine r_bipush (v := iI 8) C dX6_deliver_40 (by decide) ?_
  refine cS2_PI C (k_X6_packetAt p 8 (by omega) (by omega) (by omega)) cw_X6_46 (rm_ok rfl rfl (Nat.zero_le _) (Nat.zero_le _)) (Nat.le_of_ble_eq_true rfl) dX6_deliver_42 ?_
  refine r_aload_n C 2 dX6_deliver_45 rfl rfl ?_
  refine r_getR C fl_X6_7 rfl dX6_deliver_46 hM.1.1 hM.2.1 ?_
  refine r_iconst (v := iI 0) C dX6_deliver_49 rfl ?_
  refine a_lald C (v := (a 0)) 0 dX6_deliver_50 hM.1.2.1 ⟨rfl, by decide, by decide⟩ (by rw [ea34, up1_n (by omega)]) ?_
  refine a_last C ((125 + 11 * (p % 120) + 8)) dX6_deliver_51 hM.1.2.1 ⟨congrArg iI (by omega), (by omega), by decide⟩ (fun a51 ea51 => ?_)
  refine r_aload_n C 2 dX6_deliver_52 rfl rfl ?_
  refine r_getR C fl_X6_7 rfl dX6_deliver_53 hM.1.1 hM.2.1 ?_
  refine r_iload_n C 1 dX6_deliver_56 rfl rfl ?_
  refine r_bipush (v := iI 7) C dX6_deliver_57 (by decide) ?_
  refine cS2_PI C (k_X6_flowAt ) cw_X6_40 (rm_ok rfl rfl (Nat.zero_le _) (Nat.zero_le _)) (Nat.le_of_ble_eq_true rfl) dX6_deliver_59 ?_
  refine r_dup2 C dX6_deliver_62 rfl rfl ?_
  refine a_lald C (v := (a (17 + 18 * f + 7))) ((17 + 18 * f + 7)) dX6_deliver_63 hM.1.2.1 ⟨congrArg iI (by omega), (by omega), by decide⟩ (by rw [ea51, up1_n (by omega), ea34, up1_n (by omega)]) ?_
  refine r_lconst (v := lI 1) C dX6_deliver_64 (by decide) ?_
  refine n_ladd C dX6_deliver_65 ?_
  refine a_last C ((17 + 18 * f + 7)) dX6_deliver_66 hM.1.2.1 ⟨congrArg iI (by omega), (by omega), by decide⟩ (fun a66 ea66 => ?_)
  refine r_aload_n C 2 dX6_deliver_67 rfl rfl ?_
  refine r_getR C fl_X6_7 rfl dX6_deliver_68 hM.1.1 hM.2.1 ?_
  refine r_iload_n C 1 dX6_deliver_71 rfl rfl ?_
  refine r_bipush (v := iI 8) C dX6_deliver_72 (by decide) ?_
  refine cS2_PI C (k_X6_flowAt ) cw_X6_40 (rm_ok rfl rfl (Nat.zero_le _) (Nat.zero_le _)) (Nat.le_of_ble_eq_true rfl) dX6_deliver_74 ?_
  refine r_dup2 C dX6_deliver_77 rfl rfl ?_
  refine a_lald C (v := (a (17 + 18 * f + 8))) ((17 + 18 * f + 8)) dX6_deliver_78 hM.1.2.1 ⟨congrArg iI (by omega), (by omega), by decide⟩ (by rw [ea66, up1_n (by omega), ea51, up1_n (by omega), ea34, up1_n (by omega)]) ?_
  have jn113 : ∀ x113 : Int, ((a (125 + 11 * (p % 120) + 3)) = (-6) ∧ x113 = 0) ∨ (¬ (a (125 + 11 * (p % 120) + 3)) = (-6) ∧ (a 0) ≤ (a (125 + 11 * (p % 120) + 3)) ∧ x113 = 0) ∨ (¬ (a (125 + 11 * (p % 120) + 3)) = (-6) ∧ (a (125 + 11 * (p % 120) + 3)) < (a 0) ∧ x113 = 1) → Bd zp l ze (rmz 2 43) zs zm zargs zbl zmt zc 5 G base (EV Y (fun I' L' => I' = mI I M 7 (up2 b 0 8 (fdN (b 0 8) p)) ∧ L' = rL L (M + 1) (dlP a f p))) 113 [(3, .long (lI x21)), (2, .int (iI x7)), (0, .ref M), (1, .int (iI pi))] [.long (lI x113), .long (lI (a (17 + 18 * f + 8))), .int (iI (17 + 18 * x7 + 8)), .ref (M + 1)] Y (mI I M 7 b) (rL L (M + 1) a66) 0 0 := by
    intro x113 hx113
    refine n_ladd C dX6_deliver_113 ?_
    refine a_last C ((17 + 18 * f + 8)) dX6_deliver_114 hM.1.2.1 ⟨congrArg iI (by omega), (by omega), by decide⟩ (fun a114 ea114 => ?_)
    refine r_aload_n C 2 dX6_deliver_115 rfl rfl ?_
    refine r_getR C fl_X6_7 rfl dX6_deliver_116 hM.1.1 hM.2.1 ?_
    refine r_iload_n C 1 dX6_deliver_119 rfl rfl ?_
    refine r_bipush (v := iI 9) C dX6_deliver_120 (by decide) ?_
    refine cS2_PI C (k_X6_flowAt ) cw_X6_40 (rm_ok rfl rfl (Nat.zero_le _) (Nat.zero_le _)) (Nat.le_of_ble_eq_true rfl) dX6_deliver_122 ?_
    have jn148 : ∀ x148 : Int, (x21 ≤ (a (17 + 18 * f + 9)) ∧ x148 = (a (17 + 18 * f + 9))) ∨ ((a (17 + 18 * f + 9)) < x21 ∧ x148 = x21) → Bd zp l ze (rmz 2 43) zs zm zargs zbl zmt zc 5 G base (EV Y (fun I' L' => I' = mI I M 7 (up2 b 0 8 (fdN (b 0 8) p)) ∧ L' = rL L (M + 1) (dlP a f p))) 148 [(3, .long (lI x21)), (2, .int (iI x7)), (0, .ref M), (1, .int (iI pi))] [.long (lI x148), .int (iI (17 + 18 * x7 + 9)), .ref (M + 1)] Y (mI I M 7 b) (rL L (M + 1) a114) 0 0 := by
      intro x148 hx148
      refine a_last C ((17 + 18 * f + 9)) dX6_deliver_148 hM.1.2.1 ⟨congrArg iI (by omega), (by omega), by decide⟩ (fun a148 ea148 => ?_)
      refine r_aload_n C 2 dX6_deliver_149 rfl rfl ?_
      refine r_getR C fl_X6_7 rfl dX6_deliver_150 hM.1.1 hM.2.1 ?_
      refine r_iload_n C 1 dX6_deliver_153 rfl rfl ?_
      refine r_bipush (v := iI 10) C dX6_deliver_154 (by decide) ?_
      refine cS2_PI C (k_X6_flowAt ) cw_X6_40 (rm_ok rfl rfl (Nat.zero_le _) (Nat.zero_le _)) (Nat.le_of_ble_eq_true rfl) dX6_deliver_156 ?_
      refine r_dup2 C dX6_deliver_159 rfl rfl ?_
      refine a_lald C (v := (a (17 + 18 * f + 10))) ((17 + 18 * f + 10)) dX6_deliver_160 hM.1.2.1 ⟨congrArg iI (by omega), (by omega), by decide⟩ (by rw [ea148, up1_n (by omega), ea114, up1_n (by omega), ea66, up1_n (by omega), ea51, up1_n (by omega), ea34, up1_n (by omega)]) ?_
      refine r_lload_n C 0 dX6_deliver_161 rfl rfl ?_
      refine n_ladd C dX6_deliver_162 ?_
      refine a_last C ((17 + 18 * f + 10)) dX6_deliver_163 hM.1.2.1 ⟨congrArg iI (by omega), (by omega), by decide⟩ (fun a163 ea163 => ?_)
      refine r_aload_n C 2 dX6_deliver_164 rfl rfl ?_
      have jn188 : ∀ x188 : Int, ((b 0 8) < 0 ∧ x188 = pi) ∨ (0 ≤ (b 0 8) ∧ (b 0 8) ≤ pi ∧ x188 = (b 0 8)) ∨ (0 ≤ (b 0 8) ∧ pi < (b 0 8) ∧ x188 = pi) → Bd zp l ze (rmz 2 43) zs zm zargs zbl zmt zc 5 G base (EV Y (fun I' L' => I' = mI I M 7 (up2 b 0 8 (fdN (b 0 8) p)) ∧ L' = rL L (M + 1) (dlP a f p))) 188 [(3, .long (lI x21)), (2, .int (iI x7)), (0, .ref M), (1, .int (iI pi))] [.int (iI x188), .ref M] Y (mI I M 7 b) (rL L (M + 1) a163) 0 0 := by
        intro x188 hx188
        refine g_putI C (o := 0) rfl (by decide) fl_X6_154 rfl dX6_deliver_188 hM.1.1 (fun b188 eb188 => ?_)
        refine r_vret C hr hlk dX6_deliver_191 (Nat.zero_le _) (Nat.zero_le _) ?_
        have e1 : x113 = if ¬ a (125 + 11 * (p % 120) + 3) = -6 ∧ a (125 + 11 * (p % 120) + 3) < a 0 then 1 else 0 := by
          split <;> omega
        have e2 : x148 = if a (17 + 18 * f + 9) < a 0 - a (125 + 11 * (p % 120) + 2) then a 0 - a (125 + 11 * (p % 120) + 2) else a (17 + 18 * f + 9) := by
          split <;> omega
        have e3 : x188 = fdN (b 0 8) p := by
          unfold fdN
          split <;> omega
        subst ea163
        subst ea148
        subst ea114
        subst ea66
        subst ea51
        subst ea34
        subst eb188
        subst e1
        subst e2
        subst e3
        subst ex21
        exact ⟨rfl, rfl, rfl, rfl⟩
      refine r_aload_n C 2 dX6_deliver_165 rfl rfl ?_
      refine g_getI C (o := 0) (v := (b 0 8)) rfl (by decide) fl_X6_154 rfl dX6_deliver_166 hM.1.1 rfl ?_
      refine n_if_lt (tgt := 180) C dX6_deliver_169 (by decide) (by constructor <;> omega) (fun c169 => ?_) (fun c169 => ?_)
      · refine r_iload_n C 3 dX6_deliver_180 rfl rfl ?_
        refine r_goto (tgt := 188) C dX6_deliver_181 (by decide) ?_
        exact jn188 _ (Or.inl ⟨c169, rfl⟩)
      · refine r_iload_n C 3 dX6_deliver_172 rfl rfl ?_
        refine r_aload_n C 2 dX6_deliver_173 rfl rfl ?_
        refine g_getI C (o := 0) (v := (b 0 8)) rfl (by decide) fl_X6_154 rfl dX6_deliver_174 hM.1.1 rfl ?_
        refine n_icmp_ge (tgt := 184) C dX6_deliver_177 (by decide) (by constructor <;> omega) (by constructor <;> omega) (fun c177 => ?_) (fun c177 => ?_)
        · refine r_aload_n C 2 dX6_deliver_184 rfl rfl ?_
          refine g_getI C (o := 0) (v := (b 0 8)) rfl (by decide) fl_X6_154 rfl dX6_deliver_185 hM.1.1 rfl ?_
          exact jn188 _ (Or.inr (Or.inl ⟨c169, c177, rfl⟩))
        · refine r_iload_n C 3 dX6_deliver_180 rfl rfl ?_
          refine r_goto (tgt := 188) C dX6_deliver_181 (by decide) ?_
          exact jn188 _ (Or.inr (Or.inr (⟨c169, c177, rfl⟩)))
    refine r_lload_n C 0 dX6_deliver_125 rfl rfl ?_
    refine r_aload_n C 2 dX6_deliver_126 rfl rfl ?_
    refine r_iload_n C 1 dX6_deliver_127 rfl rfl ?_
    refine r_bipush (v := iI 9) C dX6_deliver_128 (by decide) ?_
    refine cV2_PL C (k_X6_ofFlow f 9 hM (by omega) (by omega) (by omega)) cw_X6_53 (rm_ok rfl rfl (Nat.zero_le _) (Nat.zero_le _)) (Nat.le_of_ble_eq_true rfl) hM.1.1 dX6_deliver_130 ?_
    refine n_eql (y := (a (17 + 18 * f + 9))) (by rw [ea114, up1_n (by omega), ea66, up1_n (by omega), ea51, up1_n (by omega), ea34, up1_n (by omega)]) ?_
    refine n_lcmp_le (tgt := 141) C dX6_deliver_133 dX6_deliver_134 rfl rfl (by decide) (by constructor <;> omega) (by constructor <;> omega) (fun c133 => ?_) (fun c133 => ?_)
    · refine r_aload_n C 2 dX6_deliver_141 rfl rfl ?_
      refine r_iload_n C 1 dX6_deliver_142 rfl rfl ?_
      refine r_bipush (v := iI 9) C dX6_deliver_143 (by decide) ?_
      refine cV2_PL C (k_X6_ofFlow f 9 hM (by omega) (by omega) (by omega)) cw_X6_53 (rm_ok rfl rfl (Nat.zero_le _) (Nat.zero_le _)) (Nat.le_of_ble_eq_true rfl) hM.1.1 dX6_deliver_145 ?_
      refine n_eql (y := (a (17 + 18 * f + 9))) (by rw [ea114, up1_n (by omega), ea66, up1_n (by omega), ea51, up1_n (by omega), ea34, up1_n (by omega)]) ?_
      exact jn148 _ (Or.inl ⟨c133, rfl⟩)
    · refine r_lload_n C 0 dX6_deliver_137 rfl rfl ?_
      refine r_goto (tgt := 148) C dX6_deliver_138 (by decide) ?_
      exact jn148 _ (Or.inr (⟨c133, rfl⟩))
  refine r_aload_n C 2 dX6_deliver_79 rfl rfl ?_
  refine r_iload_n C 3 dX6_deliver_80 rfl rfl ?_
  refine r_iconst (v := iI 3) C dX6_deliver_81 rfl ?_
  refine cV2_PL C (k_X6_of p 3 hM (by omega) (by omega) (by omega)) cw_X6_49 (rm_ok rfl rfl (Nat.zero_le _) (Nat.zero_le _)) (Nat.le_of_ble_eq_true rfl) hM.1.1 dX6_deliver_82 ?_
  refine n_eql (y := (a (125 + 11 * (p % 120) + 3))) (by rw [ea66, up1_n (by omega), ea51, up1_n (by omega), ea34, up1_n (by omega)]) ?_
  refine n_ldc2 (v := (-6)) C lc_X6_34 (by decide) dX6_deliver_85 ?_
  refine n_lcmp_eq (tgt := 112) C dX6_deliver_88 dX6_deliver_89 rfl rfl (by decide) (by constructor <;> omega) ⟨by decide, by decide⟩ (fun c88 => ?_) (fun c88 => ?_)
  · refine r_lconst (v := lI 0) C dX6_deliver_112 (by decide) ?_
    exact jn113 _ (Or.inl ⟨c88, rfl⟩)
  · refine r_aload_n C 2 dX6_deliver_92 rfl rfl ?_
    refine r_getR C fl_X6_7 rfl dX6_deliver_93 hM.1.1 hM.2.1 ?_
    refine r_iconst (v := iI 0) C dX6_deliver_96 rfl ?_
    refine a_lald C (v := (a 0)) 0 dX6_deliver_97 hM.1.2.1 ⟨rfl, by decide, by decide⟩ (by rw [ea66, up1_n (by omega), ea51, up1_n (by omega), ea34, up1_n (by omega)]) ?_
    refine r_aload_n C 2 dX6_deliver_98 rfl rfl ?_
    refine r_iload_n C 3 dX6_deliver_99 rfl rfl ?_
    refine r_iconst (v := iI 3) C dX6_deliver_100 rfl ?_
    refine cV2_PL C (k_X6_of p 3 hM (by omega) (by omega) (by omega)) cw_X6_49 (rm_ok rfl rfl (Nat.zero_le _) (Nat.zero_le _)) (Nat.le_of_ble_eq_true rfl) hM.1.1 dX6_deliver_101 ?_
    refine n_eql (y := (a (125 + 11 * (p % 120) + 3))) (by rw [ea66, up1_n (by omega), ea51, up1_n (by omega), ea34, up1_n (by omega)]) ?_
    refine n_lcmp_le (tgt := 112) C dX6_deliver_104 dX6_deliver_105 rfl rfl (by decide) (by constructor <;> omega) (by constructor <;> omega) (fun c104 => ?_) (fun c104 => ?_)
    · refine r_lconst (v := lI 0) C dX6_deliver_112 (by decide) ?_
      exact jn113 _ (Or.inr (Or.inl ⟨c88, c104, rfl⟩))
    · refine r_lconst (v := lI 1) C dX6_deliver_108 (by decide) ?_
      refine r_goto (tgt := 113) C dX6_deliver_109 (by decide) ?_
      exact jn113 _ (Or.inr (Or.inr (⟨c88, c104, rfl⟩)))
set_option maxHeartbeats 4000000 in
set_option maxRecDepth 20000 in
theorem k_X6_notePiece {l : Launch} {G : Gd} {base : Nat} {Y : MY} {I : MI} {L : ML} {M : Nat} {a : Sa} {pi : Int} (p r : Nat) (hM : MLy base Y M) (hp : pi = p) (hp2 : p ≤ 400000) (hr : a 15 = r) (hr2 : r ≤ 1002000) : Ct l yX6_notePiece cX6_notePiece 3 (none) (rmz 2 43) G base [.ref M, .int (iI pi)] Y I (rL L (M + 1) a) (EV Y (fun I' L' => I' = I ∧ L' = rL L (M + 1) (npA a p r))) := by
  refine Ct.of (own := RX6) (lo := [(0, .ref M), (1, .int (iI pi))]) (by decide) rfl (Nat.le_of_ble_eq_true rfl) rfl ?_
  intro zp ze zs zm zargs zbl zmt zc C hr hlk hnm
  refine r_sipush (v := iI 1445) C dX6_notePiece_0 (by decide) ?_
  refine r_iconst (v := iI 5) C dX6_notePiece_3 rfl ?_
  refine r_aload_n C 0 dX6_notePiece_4 rfl rfl ?_
  refine r_getR C fl_X6_7 rfl dX6_notePiece_5 hM.1.1 hM.2.1 ?_
  refine r_bipush (v := iI 15) C dX6_notePiece_8 (by decide) ?_
  refine a_lald C (v := (a 15)) 15 dX6_notePiece_10 hM.1.2.1 ⟨rfl, by decide, by decide⟩ rfl ?_
  refine n_ldc2 (v := 60) C lc_X6_157 (by decide) dX6_notePiece_11 ?_
  refine n_lrem C dX6_notePiece_14 (by omega) (by omega) ?_
  refine n_l2i C dX6_notePiece_15 ?_
  refine n_imul C dX6_notePiece_16 ?_
  refine n_iadd C dX6_notePiece_17 ?_
  refine n_topi (fun x18 ex18 => ?_)
  refine r_istore_n (lo' := [(2, .int (iI x18)), (0, .ref M), (1, .int (iI pi))]) C dX6_notePiece_18 rfl (by decide) rfl ?_
  refine r_aload_n C 1 dX6_notePiece_19 rfl rfl ?_
  refine r_getR C fl_X6_7 rfl dX6_notePiece_20 hM.1.1 hM.2.1 ?_
  refine r_iload_n C 0 dX6_notePiece_23 rfl rfl ?_
  refine r_iload_n C 2 dX6_notePiece_24 rfl rfl ?_
  refine n_i2l C dX6_notePiece_25 (by constructor <;> omega) ?_
  refine a_last C ((1445 + 5 * (r % 60))) dX6_notePiece_26 hM.1.2.1 ⟨congrArg iI (by omega), (by omega), by decide⟩ (fun a26 ea26 => ?_)
  refine r_aload_n C 1 dX6_notePiece_27 rfl rfl ?_
  refine r_getR C fl_X6_7 rfl dX6_notePiece_28 hM.1.1 hM.2.1 ?_
  refine r_iload_n C 0 dX6_notePiece_31 rfl rfl ?_
  refine r_iconst (v := iI 1) C dX6_notePiece_32 rfl ?_
  refine n_iadd C dX6_notePiece_33 ?_
  refine r_aload_n C 1 dX6_notePiece_34 rfl rfl ?_
  refine r_iload_n C 2 dX6_notePiece_35 rfl rfl ?_
  refine r_iconst (v := iI 0) C dX6_notePiece_36 rfl ?_
  refine cV2_PL C (k_X6_of p 0 hM (by omega) (by omega) (by omega)) cw_X6_49 (rm_ok rfl rfl (Nat.zero_le _) (Nat.zero_le _)) (Nat.le_of_ble_eq_true rfl) hM.1.1 dX6_notePiece_37 ?_
  refine n_eql (y := (a (125 + 11 * (p % 120) + 0))) (by rw [ea26, up1_n (by omega)]) ?_
  refine a_last C (((1445 + 5 * (r % 60)) + 1)) dX6_notePiece_40 hM.1.2.1 ⟨congrArg iI (by omega), (by omega), by decide⟩ (fun a40 ea40 => ?_)
  refine r_aload_n C 1 dX6_notePiece_41 rfl rfl ?_
  refine r_getR C fl_X6_7 rfl dX6_notePiece_42 hM.1.1 hM.2.1 ?_
  refine r_iload_n C 0 dX6_notePiece_45 rfl rfl ?_
  refine r_iconst (v := iI 2) C dX6_notePiece_46 rfl ?_
  refine n_iadd C dX6_notePiece_47 ?_
  refine r_aload_n C 1 dX6_notePiece_48 rfl rfl ?_
  refine r_getR C fl_X6_7 rfl dX6_notePiece_49 hM.1.1 hM.2.1 ?_
  refine r_bipush (v := iI 9) C dX6_notePiece_52 (by decide) ?_
  refine a_lald C (v := (a 9)) 9 dX6_notePiece_54 hM.1.2.1 ⟨rfl, by decide, by decide⟩ (by rw [ea40, up1_n (by omega), ea26, up1_n (by omega)]) ?_
  refine a_last C (((1445 + 5 * (r % 60)) + 2)) dX6_notePiece_55 hM.1.2.1 ⟨congrArg iI (by omega), (by omega), by decide⟩ (fun a55 ea55 => ?_)
  refine r_aload_n C 1 dX6_notePiece_56 rfl rfl ?_
  refine r_getR C fl_X6_7 rfl dX6_notePiece_57 hM.1.1 hM.2.1 ?_
  refine r_iload_n C 0 dX6_notePiece_60 rfl rfl ?_
  refine r_iconst (v := iI 3) C dX6_notePiece_61 rfl ?_
  refine n_iadd C dX6_notePiece_62 ?_
  refine r_aload_n C 1 dX6_notePiece_63 rfl rfl ?_
  refine r_getR C fl_X6_7 rfl dX6_notePiece_64 hM.1.1 hM.2.1 ?_
  refine r_iconst (v := iI 0) C dX6_notePiece_67 rfl ?_
  refine a_lald C (v := (a 0)) 0 dX6_notePiece_68 hM.1.2.1 ⟨rfl, by decide, by decide⟩ (by rw [ea55, up1_n (by omega), ea40, up1_n (by omega), ea26, up1_n (by omega)]) ?_
  refine a_last C (((1445 + 5 * (r % 60)) + 3)) dX6_notePiece_69 hM.1.2.1 ⟨congrArg iI (by omega), (by omega), by decide⟩ (fun a69 ea69 => ?_)
  refine r_aload_n C 1 dX6_notePiece_70 rfl rfl ?_
  refine r_getR C fl_X6_7 rfl dX6_notePiece_71 hM.1.1 hM.2.1 ?_
  refine r_iload_n C 0 dX6_notePiece_74 rfl rfl ?_
  refine r_iconst (v := iI 4) C dX6_notePiece_75 rfl ?_
  refine n_iadd C dX6_notePiece_76 ?_
  refine r_aload_n C 1 dX6_notePiece_77 rfl rfl ?_
  refine r_getR C fl_X6_7 rfl dX6_notePiece_78 hM.1.1 hM.2.1 ?_
  refine r_bipush (v := iI 11) C dX6_notePiece_81 (by decide) ?_
  refine a_lald C (v := (a 11)) 11 dX6_notePiece_83 hM.1.2.1 ⟨rfl, by decide, by decide⟩ (by rw [ea69, up1_n (by omega), ea55, up1_n (by omega), ea40, up1_n (by omega), ea26, up1_n (by omega)]) ?_
  refine a_last C (((1445 + 5 * (r % 60)) + 4)) dX6_notePiece_84 hM.1.2.1 ⟨congrArg iI (by omega), (by omega), by decide⟩ (fun a84 ea84 => ?_)
  refine r_aload_n C 1 dX6_notePiece_85 rfl rfl ?_
  refine r_getR C fl_X6_7 rfl dX6_notePiece_86 hM.1.1 hM.2.1 ?_
  refine r_bipush (v := iI 15) C dX6_notePiece_89 (by decide) ?_
  refine r_dup2 C dX6_notePiece_91 rfl rfl ?_
  refine a_lald C (v := (a 15)) 15 dX6_notePiece_92 hM.1.2.1 ⟨rfl, by decide, by decide⟩ (by rw [ea84, up1_n (by omega), ea69, up1_n (by omega), ea55, up1_n (by omega), ea40, up1_n (by omega), ea26, up1_n (by omega)]) ?_
  refine r_lconst (v := lI 1) C dX6_notePiece_93 (by decide) ?_
  refine n_ladd C dX6_notePiece_94 ?_
  refine a_last C 15 dX6_notePiece_95 hM.1.2.1 ⟨rfl, by decide, by decide⟩ (fun a95 ea95 => ?_)
  refine r_aload_n C 1 dX6_notePiece_96 rfl rfl ?_
  refine r_getR C fl_X6_7 rfl dX6_notePiece_97 hM.1.1 hM.2.1 ?_
  refine r_bipush (v := iI 14) C dX6_notePiece_100 (by decide) ?_
  refine r_dup2 C dX6_notePiece_102 rfl rfl ?_
  refine a_lald C (v := (a 14)) 14 dX6_notePiece_103 hM.1.2.1 ⟨rfl, by decide, by decide⟩ (by rw [ea95, up1_n (by omega), ea84, up1_n (by omega), ea69, up1_n (by omega), ea55, up1_n (by omega), ea40, up1_n (by omega), ea26, up1_n (by omega)]) ?_
  refine r_aload_n C 1 dX6_notePiece_104 rfl rfl ?_
  refine r_getR C fl_X6_7 rfl dX6_notePiece_105 hM.1.1 hM.2.1 ?_
  refine r_bipush (v := iI 12) C dX6_notePiece_108 (by decide) ?_
  refine a_lald C (v := (a 12)) 12 dX6_notePiece_110 hM.1.2.1 ⟨rfl, by decide, by decide⟩ (by rw [ea95, up1_n (by omega), ea84, up1_n (by omega), ea69, up1_n (by omega), ea55, up1_n (by omega), ea40, up1_n (by omega), ea26, up1_n (by omega)]) ?_
  refine n_ladd C dX6_notePiece_111 ?_
  refine a_last C 14 dX6_notePiece_112 hM.1.2.1 ⟨rfl, by decide, by decide⟩ (fun a112 ea112 => ?_)
  refine r_vret C hr hlk dX6_notePiece_113 (Nat.zero_le _) (Nat.zero_le _) ?_
  subst ea112
  subst ea95
  subst ea84
  subst ea69
  subst ea55
  subst ea40
  subst ea26
  subst hp
  exact ⟨rfl, rfl, rfl, rfl⟩
