set_option maxHeartbeats 4000000 in
set_option maxRecDepth 20000 in
theorem k_X0_head {l : Launch} {G : Gd} {base : Nat} {Y : MY} {I : MI} {L : ML} {B : Nat} {X : Sa} (f : Nat) (hS : SLy base Y B) (hf : f < 6) (h17 : 0 ≤ X (17 + 18 * f + 17) ∧ X (17 + 18 * f + 17) ≤ 20) : Ct l yX0_head cX0_head 1 (some .int) (rmz 0 0) G base [.ref (B + (3 + 3 * f))] Y (cI I B X) (cL L B X) (PI (if X (17 + 18 * f + 17) = 0 then -6 else X (2000 + 20 * f + 0)) Y (cI I B X) (cL L B X)) := by
  refine Ct.of (own := RX0) (lo := [(0, .ref (B + (3 + 3 * f)))]) (by decide) rfl (Nat.le_of_ble_eq_true rfl) rfl ?_
  intro zp ze zs zm zargs zbl zmt zc C hr hlk hnm
  refine r_aload_n C 0 dX0_head_0 rfl rfl ?_
  refine c_getI C (v := (X (17 + 18 * f + 17))) (3 + 3 * f) ((17 + 18 * f + 17)) rfl (by omega) (by unfold lng; omega) (ky_F hf 2) fl_X0_31 rfl dX0_head_1 (hS.2.2.1 f hf).1 rfl ?_
  refine n_if_ne (tgt := 12) C dX0_head_4 (by decide) (by constructor <;> omega) (fun c4 => ?_) (fun c4 => ?_)
  · refine r_aload_n C 0 dX0_head_12 rfl rfl ?_
    refine r_getR C fl_X0_18 rfl dX0_head_13 (hS.2.2.1 f hf).1 (hS.2.2.1 f hf).2.2.2.2.2 ?_
    refine r_iconst (v := iI 0) C dX0_head_16 rfl ?_
    refine c_iald C (v := (X (2000 + 20 * f + 0))) (5 + 3 * f) 0 ((2000 + 20 * f + 0)) rfl (by omega) (by unfold lng; omega) (ky_Q hf (by omega)) dX0_head_17 (hS.2.2.1 f hf).2.2.1 ⟨rfl, by decide, by decide⟩ rfl ?_
    refine r_iret C hr hlk dX0_head_18 (Nat.zero_le _) (Nat.zero_le _) ?_
    exact ⟨congrArg (fun z => some (Value.int (iI z))) (by first | (rw [if_pos (by omega)]; done) | (rw [if_neg (by omega)]; done)), rfl, rfl, rfl⟩
  · refine r_bipush (v := iI (-6)) C dX0_head_7 (by decide) ?_
    refine r_goto (tgt := 18) C dX0_head_9 (by decide) ?_
    refine r_iret C hr hlk dX0_head_18 (Nat.zero_le _) (Nat.zero_le _) ?_
    exact ⟨congrArg (fun z => some (Value.int (iI z))) (by first | (rw [if_pos (by omega)]; done) | (rw [if_neg (by omega)]; done)), rfl, rfl, rfl⟩
set_option maxHeartbeats 4000000 in
set_option maxRecDepth 20000 in
theorem k_X0_lag {l : Launch} {G : Gd} {base : Nat} {Y : MY} {I : MI} {L : ML} {B : Nat} {X : Sa} (f : Nat) (hS : SLy base Y B) (hf : f < 6) (h6 : 0 ≤ X (17 + 18 * f + 6) ∧ X (17 + 18 * f + 6) ≤ 2000000) : Ct l yX0_lag cX0_lag 1 (some .long) (rmz 0 0) G base [.ref (B + (3 + 3 * f))] Y (cI I B X) (cL L B X) (PL (X (17 + 18 * f + 15) - 720720 * X (17 + 18 * f + 6)) Y (cI I B X) (cL L B X)) := by
  refine Ct.of (own := RX0) (lo := [(0, .ref (B + (3 + 3 * f)))]) (by decide) rfl (Nat.le_of_ble_eq_true rfl) rfl ?_
  intro zp ze zs zm zargs zbl zmt zc C hr hlk hnm
  refine r_aload_n C 0 dX0_lag_0 rfl rfl ?_
  refine c_getL C (v := (X (17 + 18 * f + 15))) (3 + 3 * f) ((17 + 18 * f + 15)) rfl (by omega) (by unfold lng; omega) (ky_F hf 13) fl_X0_66 rfl dX0_lag_1 (hS.2.2.1 f hf).1 rfl ?_
  refine n_ldc2 (v := 720720) C lc_X0_72 (by decide) dX0_lag_4 ?_
  refine r_aload_n C 0 dX0_lag_7 rfl rfl ?_
  refine c_getI C (v := (X (17 + 18 * f + 6))) (3 + 3 * f) ((17 + 18 * f + 6)) rfl (by omega) (by unfold lng; omega) (ky_F hf 3) fl_X0_35 rfl dX0_lag_8 (hS.2.2.1 f hf).1 rfl ?_
  refine n_i2l C dX0_lag_11 (by constructor <;> omega) ?_
  refine n_lmul C dX0_lag_12 ?_
  refine n_lsub C dX0_lag_13 ?_
  refine r_lret C hr hlk dX0_lag_14 (Nat.zero_le _) (Nat.zero_le _) ?_
  exact ⟨congrArg (fun z => some (Value.long (lI z))) (rfl), rfl, rfl, rfl⟩
set_option maxHeartbeats 4000000 in
set_option maxRecDepth 20000 in
theorem k_X0_share {l : Launch} {G : Gd} {base : Nat} {Y : MY} {I : MI} {L : ML} {B : Nat} {X : Sa} (f : Nat) {n : Int} (hS : SLy base Y B) (hf : f < 6) (hn : 0 ≤ n ∧ n ≤ 2000000) (h0 : 1 ≤ X (17 + 18 * f + 0) ∧ X (17 + 18 * f + 0) ≤ 16) : Ct l yX0_share cX0_share 3 (some .long) (rmz 0 0) G base [.ref (B + (3 + 3 * f)), .int (iI n)] Y (cI I B X) (cL L B X) (PL (n * 720720 / X (17 + 18 * f + 0)) Y (cI I B X) (cL L B X)) := by
  refine Ct.of (own := RX0) (lo := [(0, .ref (B + (3 + 3 * f))), (1, .int (iI n))]) (by decide) rfl (Nat.le_of_ble_eq_true rfl) rfl ?_
  intro zp ze zs zm zargs zbl zmt zc C hr hlk hnm
  refine r_aload_n C 0 dX0_share_0 rfl rfl ?_
  refine r_getR C fl_X0_13 rfl dX0_share_1 (hS.2.2.1 f hf).1 (hS.2.2.1 f hf).2.2.2.2.1 ?_
  refine r_iconst (v := iI 0) C dX0_share_4 rfl ?_
  refine c_iald C (v := (X (17 + 18 * f + 0))) (4 + 3 * f) 0 ((17 + 18 * f + 0)) rfl (by omega) (by unfold lng; omega) (ky_G hf (by omega)) dX0_share_5 (hS.2.2.1 f hf).2.1 ⟨rfl, by decide, by decide⟩ rfl ?_
  refine n_topi (fun x6 ex6 => ?_)
  refine r_istore_n (lo' := [(2, .int (iI x6)), (0, .ref (B + (3 + 3 * f))), (1, .int (iI n))]) C dX0_share_6 rfl (by decide) rfl ?_
  refine r_iload_n C 0 dX0_share_7 rfl rfl ?_
  refine r_iconst (v := iI 1) C dX0_share_8 rfl ?_
  refine n_icmp_ge (tgt := 16) C dX0_share_9 (by decide) (by constructor <;> omega) ⟨by decide, by decide⟩ (fun c9 => ?_) (fun c9 => ?_)
  · refine r_iload_n C 2 dX0_share_16 rfl rfl ?_
    refine n_i2l C dX0_share_17 (by constructor <;> omega) ?_
    refine n_ldc2 (v := 720720) C lc_X0_72 (by decide) dX0_share_18 ?_
    refine n_lmul C dX0_share_21 ?_
    refine r_iload_n C 0 dX0_share_22 rfl rfl ?_
    refine n_i2l C dX0_share_23 (by constructor <;> omega) ?_
    refine n_ldiv C dX0_share_24 (by omega) (by omega) ?_
    refine r_lret C hr hlk dX0_share_25 (Nat.zero_le _) (Nat.zero_le _) ?_
    exact ⟨congrArg (fun z => some (Value.long (lI z))) (by rw [ex6]), rfl, rfl, rfl⟩
  · exfalso; omega
set_option maxHeartbeats 4000000 in
set_option maxRecDepth 20000 in
theorem k_X0_joinQueue {l : Launch} {G : Gd} {base : Nat} {Y : MY} {I : MI} {L : ML} {B : Nat} {X : Sa} (f qn : Nat) {p : Int} (hS : SLy base Y B) (hf : f < 6) (h17 : X (17 + 18 * f + 17) = qn) (hq : qn < 20) : Ct l yX0_joinQueue cX0_joinQueue 2 (none) (rmz 0 0) G base [.ref (B + (3 + 3 * f)), .int (iI p)] Y (cI I B X) (cL L B X) (EV Y (fun I' L' => I' = cI I B (up1 (up1 X (2000 + 20 * f + qn) p) (17 + 18 * f + 17) (qn + 1)) ∧ L' = cL L B (up1 (up1 X (2000 + 20 * f + qn) p) (17 + 18 * f + 17) (qn + 1)))) := by
  refine Ct.of (own := RX0) (lo := [(0, .ref (B + (3 + 3 * f))), (1, .int (iI p))]) (by decide) rfl (Nat.le_of_ble_eq_true rfl) rfl ?_
  intro zp ze zs zm zargs zbl zmt zc C hr hlk hnm
  refine r_aload_n C 0 dX0_joinQueue_0 rfl rfl ?_
  refine c_getI C (v := (X (17 + 18 * f + 17))) (3 + 3 * f) ((17 + 18 * f + 17)) rfl (by omega) (by unfold lng; omega) (ky_F hf 2) fl_X0_31 rfl dX0_joinQueue_1 (hS.2.2.1 f hf).1 rfl ?_
  refine r_aload_n C 0 dX0_joinQueue_4 rfl rfl ?_
  refine r_getR C fl_X0_18 rfl dX0_joinQueue_5 (hS.2.2.1 f hf).1 (hS.2.2.1 f hf).2.2.2.2.2 ?_
  refine r_alen C (by decide) dX0_joinQueue_8 (hS.2.2.1 f hf).2.2.1 ?_
  refine n_icmp_ge (tgt := 32) C dX0_joinQueue_9 (by decide) (by constructor <;> omega) ⟨by decide, by decide⟩ (fun c9 => ?_) (fun c9 => ?_)
  · exfalso; omega
  · refine r_aload_n C 0 dX0_joinQueue_12 rfl rfl ?_
    refine r_getR C fl_X0_18 rfl dX0_joinQueue_13 (hS.2.2.1 f hf).1 (hS.2.2.1 f hf).2.2.2.2.2 ?_
    refine r_aload_n C 0 dX0_joinQueue_16 rfl rfl ?_
    refine c_getI C (v := (X (17 + 18 * f + 17))) (3 + 3 * f) ((17 + 18 * f + 17)) rfl (by omega) (by unfold lng; omega) (ky_F hf 2) fl_X0_31 rfl dX0_joinQueue_17 (hS.2.2.1 f hf).1 rfl ?_
    refine r_iload_n C 1 dX0_joinQueue_20 rfl rfl ?_
    refine c_iast C (5 + 3 * f) qn ((2000 + 20 * f + qn)) rfl (by omega) (by unfold lng; omega) (ky_Q hf (by omega)) dX0_joinQueue_21 (hS.2.2.1 f hf).2.2.1 ⟨congrArg iI (by omega), (by omega), by decide⟩ (fun a21 ea21 => ?_)
    refine r_aload_n C 0 dX0_joinQueue_22 rfl rfl ?_
    refine r_dup C dX0_joinQueue_23 rfl ?_
    refine c_getI C (v := (X (17 + 18 * f + 17))) (3 + 3 * f) ((17 + 18 * f + 17)) rfl (by omega) (by unfold lng; omega) (ky_F hf 2) fl_X0_31 rfl dX0_joinQueue_24 (hS.2.2.1 f hf).1 (by rw [ea21, up1_n (by omega)]) ?_
    refine r_iconst (v := iI 1) C dX0_joinQueue_27 rfl ?_
    refine n_iadd C dX0_joinQueue_28 ?_
    refine c_putI C (3 + 3 * f) ((17 + 18 * f + 17)) rfl (by omega) (by unfold lng; omega) (ky_F hf 2) fl_X0_31 rfl dX0_joinQueue_29 (hS.2.2.1 f hf).1 (fun a29 ea29 => ?_)
    refine r_vret C hr hlk dX0_joinQueue_32 (Nat.zero_le _) (Nat.zero_le _) ?_
    have eX : a29 = up1 (up1 X (2000 + 20 * f + qn) p) (17 + 18 * f + 17) (qn + 1) := by rw [ea29, ea21, h17]
    exact ⟨rfl, rfl, by rw [eX], by rw [eX]⟩
