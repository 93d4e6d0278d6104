/-- a packet begins at the place j -/
def pBg (X : Sa) (j : Nat) (f n t d s : Int) : Sa := (up1 (up1 (up1 (up1 (up1 (up1 (up1 (up1 (up1 (up1 (up1 X (125 + 11 * j + 0) f) (125 + 11 * j + 1) n) (125 + 11 * j + 2) t) (125 + 11 * j + 3) d) (125 + 11 * j + 4) 0) (125 + 11 * j + 5) 0) (125 + 11 * j + 6) 0) (125 + 11 * j + 7) 0) (125 + 11 * j + 10) (-6)) (125 + 11 * j + 8) (-6)) (125 + 11 * j + 9) s)
set_option maxHeartbeats 4000000 in
set_option maxRecDepth 20000 in
theorem k_X1_unsent {l : Launch} {G : Gd} {base : Nat} {Y : MY} {I : MI} {L : ML} {B : Nat} {X : Sa} (j : Nat) (hS : SLy base Y B) (hj : j < 120) : Ct l yX1_unsent cX1_unsent 1 (some .int) (rmz 0 0) G base [.ref (B + (22 + j))] Y (cI I B X) (cL L B X) (PI (X (125 + 11 * j + 1) - X (125 + 11 * j + 5)) Y (cI I B X) (cL L B X)) := by
  refine Ct.of (own := RX1) (lo := [(0, .ref (B + (22 + j)))]) (by decide) rfl (Nat.le_of_ble_eq_true rfl) rfl ?_
  intro zp ze zs zm zargs zbl zmt zc C hr hlk hnm
  refine r_aload_n C 0 dX1_unsent_0 rfl rfl ?_
  refine c_getI C (v := (X (125 + 11 * j + 1))) (22 + j) ((125 + 11 * j + 1)) rfl (by omega) (by unfold lng; omega) (ky_P hj 1) fl_X1_15 rfl dX1_unsent_1 (hS.2.2.2.1 j hj).1 rfl ?_
  refine r_aload_n C 0 dX1_unsent_4 rfl rfl ?_
  refine c_getI C (v := (X (125 + 11 * j + 5))) (22 + j) ((125 + 11 * j + 5)) rfl (by omega) (by unfold lng; omega) (ky_P hj 5) fl_X1_27 rfl dX1_unsent_5 (hS.2.2.2.1 j hj).1 rfl ?_
  refine n_isub C dX1_unsent_8 ?_
  refine r_iret C hr hlk dX1_unsent_9 (Nat.zero_le _) (Nat.zero_le _) ?_
  exact ⟨congrArg (fun z => some (Value.int (iI z))) (rfl), rfl, rfl, rfl⟩
set_option maxHeartbeats 4000000 in
set_option maxRecDepth 20000 in
theorem k_X1_delay {l : Launch} {G : Gd} {base : Nat} {Y : MY} {I : MI} {L : ML} {B : Nat} {X : Sa} (j : Nat) (hS : SLy base Y B) (hj : j < 120) : Ct l yX1_delay cX1_delay 1 (some .int) (rmz 0 0) G base [.ref (B + (22 + j))] Y (cI I B X) (cL L B X) (PI (X (125 + 11 * j + 8) - X (125 + 11 * j + 2)) Y (cI I B X) (cL L B X)) := by
  refine Ct.of (own := RX1) (lo := [(0, .ref (B + (22 + j)))]) (by decide) rfl (Nat.le_of_ble_eq_true rfl) rfl ?_
  intro zp ze zs zm zargs zbl zmt zc C hr hlk hnm
  refine r_aload_n C 0 dX1_delay_0 rfl rfl ?_
  refine c_getI C (v := (X (125 + 11 * j + 8))) (22 + j) ((125 + 11 * j + 8)) rfl (by omega) (by unfold lng; omega) (ky_P hj 9) fl_X1_39 rfl dX1_delay_1 (hS.2.2.2.1 j hj).1 rfl ?_
  refine r_aload_n C 0 dX1_delay_4 rfl rfl ?_
  refine c_getI C (v := (X (125 + 11 * j + 2))) (22 + j) ((125 + 11 * j + 2)) rfl (by omega) (by unfold lng; omega) (ky_P hj 2) fl_X1_18 rfl dX1_delay_5 (hS.2.2.2.1 j hj).1 rfl ?_
  refine n_isub C dX1_delay_8 ?_
  refine r_iret C hr hlk dX1_delay_9 (Nat.zero_le _) (Nat.zero_le _) ?_
  exact ⟨congrArg (fun z => some (Value.int (iI z))) (rfl), rfl, rfl, rfl⟩
set_option maxHeartbeats 4000000 in
set_option maxRecDepth 20000 in
theorem k_X1_isQueued {l : Launch} {G : Gd} {base : Nat} {Y : MY} {I : MI} {L : ML} {B : Nat} {X : Sa} (j : Nat) (hS : SLy base Y B) (hj : j < 120) (hc : 0 ≤ X (125 + 11 * j + 4) ∧ X (125 + 11 * j + 4) ≤ 4) : Ct l yX1_isQueued cX1_isQueued 1 (some .boolean) (rmz 0 0) G base [.ref (B + (22 + j))] Y (cI I B X) (cL L B X) (PI (b2 (X (125 + 11 * j + 4) ≤ 1)) Y (cI I B X) (cL L B X)) := by
  refine Ct.of (own := RX1) (lo := [(0, .ref (B + (22 + j)))]) (by decide) rfl (Nat.le_of_ble_eq_true rfl) rfl ?_
  intro zp ze zs zm zargs zbl zmt zc C hr hlk hnm
  refine r_aload_n C 0 dX1_isQueued_0 rfl rfl ?_
  refine c_getI C (v := (X (125 + 11 * j + 4))) (22 + j) ((125 + 11 * j + 4)) rfl (by omega) (by unfold lng; omega) (ky_P hj 4) fl_X1_24 rfl dX1_isQueued_1 (hS.2.2.2.1 j hj).1 rfl ?_
  refine n_if_eq (tgt := 15) C dX1_isQueued_4 (by decide) (by constructor <;> omega) (fun c4 => ?_) (fun c4 => ?_)
  · refine r_iconst (v := iI 1) C dX1_isQueued_15 rfl ?_
    refine r_goto (tgt := 20) C dX1_isQueued_16 (by decide) ?_
    refine r_zret C hr hlk (by decide) dX1_isQueued_20 (Nat.zero_le _) (Nat.zero_le _) ?_
    exact ⟨congrArg (fun z => some (Value.int (iI z))) (by first | (rw [b2_1 (by omega)]; done) | (rw [b2_0 (by omega)]; done)), rfl, rfl, rfl⟩
  · refine r_aload_n C 0 dX1_isQueued_7 rfl rfl ?_
    refine c_getI C (v := (X (125 + 11 * j + 4))) (22 + j) ((125 + 11 * j + 4)) rfl (by omega) (by unfold lng; omega) (ky_P hj 4) fl_X1_24 rfl dX1_isQueued_8 (hS.2.2.2.1 j hj).1 rfl ?_
    refine r_iconst (v := iI 1) C dX1_isQueued_11 rfl ?_
    refine n_icmp_ne (tgt := 19) C dX1_isQueued_12 (by decide) (by constructor <;> omega) ⟨by decide, by decide⟩ (fun c12 => ?_) (fun c12 => ?_)
    · refine r_iconst (v := iI 0) C dX1_isQueued_19 rfl ?_
      refine r_zret C hr hlk (by decide) dX1_isQueued_20 (Nat.zero_le _) (Nat.zero_le _) ?_
      exact ⟨congrArg (fun z => some (Value.int (iI z))) (by first | (rw [b2_1 (by omega)]; done) | (rw [b2_0 (by omega)]; done)), rfl, rfl, rfl⟩
    · refine r_iconst (v := iI 1) C dX1_isQueued_15 rfl ?_
      refine r_goto (tgt := 20) C dX1_isQueued_16 (by decide) ?_
      refine r_zret C hr hlk (by decide) dX1_isQueued_20 (Nat.zero_le _) (Nat.zero_le _) ?_
      exact ⟨congrArg (fun z => some (Value.int (iI z))) (by first | (rw [b2_1 (by omega)]; done) | (rw [b2_0 (by omega)]; done)), rfl, rfl, rfl⟩
set_option maxHeartbeats 4000000 in
set_option maxRecDepth 20000 in
theorem k_X1_isLate {l : Launch} {G : Gd} {base : Nat} {Y : MY} {I : MI} {L : ML} {B : Nat} {X : Sa} (j : Nat) (hS : SLy base Y B) (hj : j < 120) (h3 : -6 ≤ X (125 + 11 * j + 3) ∧ X (125 + 11 * j + 3) ≤ 2000000) (h8 : -6 ≤ X (125 + 11 * j + 8) ∧ X (125 + 11 * j + 8) ≤ 2000000) : Ct l yX1_isLate cX1_isLate 1 (some .boolean) (rmz 0 0) G base [.ref (B + (22 + j))] Y (cI I B X) (cL L B X) (PI (b2 (¬ X (125 + 11 * j + 3) = -6 ∧ X (125 + 11 * j + 3) < X (125 + 11 * j + 8))) Y (cI I B X) (cL L B X)) := by
  refine Ct.of (own := RX1) (lo := [(0, .ref (B + (22 + j)))]) (by decide) rfl (Nat.le_of_ble_eq_true rfl) rfl ?_
  intro zp ze zs zm zargs zbl zmt zc C hr hlk hnm
  refine r_aload_n C 0 dX1_isLate_0 rfl rfl ?_
  refine c_getI C (v := (X (125 + 11 * j + 3))) (22 + j) ((125 + 11 * j + 3)) rfl (by omega) (by unfold lng; omega) (ky_P hj 3) fl_X1_21 rfl dX1_isLate_1 (hS.2.2.2.1 j hj).1 rfl ?_
  refine r_bipush (v := iI (-6)) C dX1_isLate_4 (by decide) ?_
  refine n_icmp_eq (tgt := 24) C dX1_isLate_6 (by decide) (by constructor <;> omega) ⟨by decide, by decide⟩ (fun c6 => ?_) (fun c6 => ?_)
  · refine r_iconst (v := iI 0) C dX1_isLate_24 rfl ?_
    refine r_zret C hr hlk (by decide) dX1_isLate_25 (Nat.zero_le _) (Nat.zero_le _) ?_
    exact ⟨congrArg (fun z => some (Value.int (iI z))) (by first | (rw [b2_1 (by omega)]; done) | (rw [b2_0 (by omega)]; done)), rfl, rfl, rfl⟩
  · refine r_aload_n C 0 dX1_isLate_9 rfl rfl ?_
    refine c_getI C (v := (X (125 + 11 * j + 8))) (22 + j) ((125 + 11 * j + 8)) rfl (by omega) (by unfold lng; omega) (ky_P hj 9) fl_X1_39 rfl dX1_isLate_10 (hS.2.2.2.1 j hj).1 rfl ?_
    refine r_aload_n C 0 dX1_isLate_13 rfl rfl ?_
    refine c_getI C (v := (X (125 + 11 * j + 3))) (22 + j) ((125 + 11 * j + 3)) rfl (by omega) (by unfold lng; omega) (ky_P hj 3) fl_X1_21 rfl dX1_isLate_14 (hS.2.2.2.1 j hj).1 rfl ?_
    refine n_icmp_le (tgt := 24) C dX1_isLate_17 (by decide) (by constructor <;> omega) (by constructor <;> omega) (fun c17 => ?_) (fun c17 => ?_)
    · refine r_iconst (v := iI 0) C dX1_isLate_24 rfl ?_
      refine r_zret C hr hlk (by decide) dX1_isLate_25 (Nat.zero_le _) (Nat.zero_le _) ?_
      exact ⟨congrArg (fun z => some (Value.int (iI z))) (by first | (rw [b2_1 (by omega)]; done) | (rw [b2_0 (by omega)]; done)), rfl, rfl, rfl⟩
    · refine r_iconst (v := iI 1) C dX1_isLate_20 rfl ?_
      refine r_goto (tgt := 25) C dX1_isLate_21 (by decide) ?_
      refine r_zret C hr hlk (by decide) dX1_isLate_25 (Nat.zero_le _) (Nat.zero_le _) ?_
      exact ⟨congrArg (fun z => some (Value.int (iI z))) (by first | (rw [b2_1 (by omega)]; done) | (rw [b2_0 (by omega)]; done)), rfl, rfl, rfl⟩
set_option maxHeartbeats 4000000 in
set_option maxRecDepth 20000 in
theorem k_X1_begin {l : Launch} {G : Gd} {base : Nat} {Y : MY} {I : MI} {L : ML} {B : Nat} {X : Sa} (j : Nat) {f n t d s : Int} (hS : SLy base Y B) (hj : j < 120) : Ct l yX1_begin cX1_begin 7 (none) (rmz 0 0) G base [.ref (B + (22 + j)), .int (iI f), .int (iI n), .int (iI t), .int (iI d), .long (lI s)] Y (cI I B X) (cL L B X) (EV Y (fun I' L' => I' = cI I B (pBg X j f n t d s) ∧ L' = cL L B (pBg X j f n t d s))) := by
  refine Ct.of (own := RX1) (lo := [(0, .ref (B + (22 + j))), (1, .int (iI f)), (2, .int (iI n)), (3, .int (iI t)), (4, .int (iI d)), (5, .long (lI s))]) (by decide) rfl (Nat.le_of_ble_eq_true rfl) rfl ?_
  intro zp ze zs zm zargs zbl zmt zc C hr hlk hnm
  refine r_aload_n C 0 dX1_begin_0 rfl rfl ?_
  refine r_iload_n C 1 dX1_begin_1 rfl rfl ?_
  refine c_putI C (22 + j) ((125 + 11 * j + 0)) rfl (by omega) (by unfold lng; omega) (ky_P hj 0) fl_X1_9 rfl dX1_begin_2 (hS.2.2.2.1 j hj).1 (fun a2 ea2 => ?_)
  refine r_aload_n C 0 dX1_begin_5 rfl rfl ?_
  refine r_iload_n C 2 dX1_begin_6 rfl rfl ?_
  refine c_putI C (22 + j) ((125 + 11 * j + 1)) rfl (by omega) (by unfold lng; omega) (ky_P hj 1) fl_X1_15 rfl dX1_begin_7 (hS.2.2.2.1 j hj).1 (fun a7 ea7 => ?_)
  refine r_aload_n C 0 dX1_begin_10 rfl rfl ?_
  refine r_iload_n C 3 dX1_begin_11 rfl rfl ?_
  refine c_putI C (22 + j) ((125 + 11 * j + 2)) rfl (by omega) (by unfold lng; omega) (ky_P hj 2) fl_X1_18 rfl dX1_begin_12 (hS.2.2.2.1 j hj).1 (fun a12 ea12 => ?_)
  refine r_aload_n C 0 dX1_begin_15 rfl rfl ?_
  refine r_iload C 4 dX1_begin_16 rfl ?_
  refine c_putI C (22 + j) ((125 + 11 * j + 3)) rfl (by omega) (by unfold lng; omega) (ky_P hj 3) fl_X1_21 rfl dX1_begin_18 (hS.2.2.2.1 j hj).1 (fun a18 ea18 => ?_)
  refine r_aload_n C 0 dX1_begin_21 rfl rfl ?_
  refine r_iconst (v := iI 0) C dX1_begin_22 rfl ?_
  refine c_putI C (22 + j) ((125 + 11 * j + 4)) rfl (by omega) (by unfold lng; omega) (ky_P hj 4) fl_X1_24 rfl dX1_begin_23 (hS.2.2.2.1 j hj).1 (fun a23 ea23 => ?_)
  refine r_aload_n C 0 dX1_begin_26 rfl rfl ?_
  refine r_iconst (v := iI 0) C dX1_begin_27 rfl ?_
  refine c_putI C (22 + j) ((125 + 11 * j + 5)) rfl (by omega) (by unfold lng; omega) (ky_P hj 5) fl_X1_27 rfl dX1_begin_28 (hS.2.2.2.1 j hj).1 (fun a28 ea28 => ?_)
  refine r_aload_n C 0 dX1_begin_31 rfl rfl ?_
  refine r_iconst (v := iI 0) C dX1_begin_32 rfl ?_
  refine c_putI C (22 + j) ((125 + 11 * j + 6)) rfl (by omega) (by unfold lng; omega) (ky_P hj 6) fl_X1_30 rfl dX1_begin_33 (hS.2.2.2.1 j hj).1 (fun a33 ea33 => ?_)
  refine r_aload_n C 0 dX1_begin_36 rfl rfl ?_
  refine r_iconst (v := iI 0) C dX1_begin_37 rfl ?_
  refine c_putI C (22 + j) ((125 + 11 * j + 7)) rfl (by omega) (by unfold lng; omega) (ky_P hj 7) fl_X1_33 rfl dX1_begin_38 (hS.2.2.2.1 j hj).1 (fun a38 ea38 => ?_)
  refine r_aload_n C 0 dX1_begin_41 rfl rfl ?_
  refine r_bipush (v := iI (-6)) C dX1_begin_42 (by decide) ?_
  refine c_putI C (22 + j) ((125 + 11 * j + 10)) rfl (by omega) (by unfold lng; omega) (ky_P hj 8) fl_X1_36 rfl dX1_begin_44 (hS.2.2.2.1 j hj).1 (fun a44 ea44 => ?_)
  refine r_aload_n C 0 dX1_begin_47 rfl rfl ?_
  refine r_bipush (v := iI (-6)) C dX1_begin_48 (by decide) ?_
  refine c_putI C (22 + j) ((125 + 11 * j + 8)) rfl (by omega) (by unfold lng; omega) (ky_P hj 9) fl_X1_39 rfl dX1_begin_50 (hS.2.2.2.1 j hj).1 (fun a50 ea50 => ?_)
  refine r_aload_n C 0 dX1_begin_53 rfl rfl ?_
  refine r_lload C 5 dX1_begin_54 rfl ?_
  refine c_putL C (22 + j) ((125 + 11 * j + 9)) rfl (by omega) (by unfold lng; omega) (ky_P hj 10) fl_X1_42 rfl dX1_begin_56 (hS.2.2.2.1 j hj).1 (fun a56 ea56 => ?_)
  refine r_vret C hr hlk dX1_begin_59 (Nat.zero_le _) (Nat.zero_le _) ?_
  subst ea56
  subst ea50
  subst ea44
  subst ea38
  subst ea33
  subst ea28
  subst ea23
  subst ea18
  subst ea12
  subst ea7
  subst ea2
  exact ⟨rfl, rfl, rfl, rfl⟩
