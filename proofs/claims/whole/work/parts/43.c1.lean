set_option maxHeartbeats 4000000 in
set_option maxRecDepth 20000 in
theorem k_X1_unsent {l : Launch} {G : Gd} {base : Nat} {Y : MY} {I : MI} {L : ML} {B : Nat} {X : Sa} (j : Nat) (hS : SLy base Y B) (hj : j < 120) : Ct l yX1_unsent cX1_unsent 1 (some .int) (rmz 0 0) G base [.ref (B + (22 + j))] Y (cI I B X) (cL L B X) (PI (X (125 + 11 * j + 1) - X (125 + 11 * j + 5)) Y (cI I B X) (cL L B X)) := by
  refine Ct.of (own := RX1) (lo := [(0, .ref (B + (22 + j)))]) (by decide) rfl (Nat.le_of_ble_eq_true rfl) rfl ?_
  intro zp ze zs zm zargs zbl zmt zc C hr hlk hnm
  refine r_aload_n C 0 dX1_unsent_0 rfl rfl ?_
  refine c_getI C (v := (X (125 + 11 * j + 1))) (22 + j) ((125 + 11 * j + 1)) rfl (by omega) (by unfold lng; omega) (ky_P hj 1) fl_X1_15 rfl dX1_unsent_1 (hS.2.2.2.1 j hj).1 rfl ?_
  refine r_aload_n C 0 dX1_unsent_4 rfl rfl ?_
  refine c_getI C (v := (X (125 + 11 * j + 5))) (22 + j) ((125 + 11 * j + 5)) rfl (by omega) (by unfold lng; omega) (ky_P hj 5) fl_X1_27 rfl dX1_unsent_5 (hS.2.2.2.1 j hj).1 rfl ?_
  refine n_isub C dX1_unsent_8 ?_
  refine r_iret C hr hlk dX1_unsent_9 (Nat.zero_le _) (Nat.zero_le _) ?_
  exact ⟨congrArg (fun z => some (Value.int (iI z))) (rfl), rfl, rfl, rfl⟩
set_option maxHeartbeats 4000000 in
set_option maxRecDepth 20000 in
theorem k_X1_delay {l : Launch} {G : Gd} {base : Nat} {Y : MY} {I : MI} {L : ML} {B : Nat} {X : Sa} (j : Nat) (hS : SLy base Y B) (hj : j < 120) : Ct l yX1_delay cX1_delay 1 (some .int) (rmz 0 0) G base [.ref (B + (22 + j))] Y (cI I B X) (cL L B X) (PI (X (125 + 11 * j + 8) - X (125 + 11 * j + 2)) Y (cI I B X) (cL L B X)) := by
  refine Ct.of (own := RX1) (lo := [(0, .ref (B + (22 + j)))]) (by decide) rfl (Nat.le_of_ble_eq_true rfl) rfl ?_
  intro zp ze zs zm zargs zbl zmt zc C hr hlk hnm
  refine r_aload_n C 0 dX1_delay_0 rfl rfl ?_
  refine c_getI C (v := (X (125 + 11 * j + 8))) (22 + j) ((125 + 11 * j + 8)) rfl (by omega) (by unfold lng; omega) (ky_P hj 9) fl_X1_39 rfl dX1_delay_1 (hS.2.2.2.1 j hj).1 rfl ?_
  refine r_aload_n C 0 dX1_delay_4 rfl rfl ?_
  refine c_getI C (v := (X (125 + 11 * j + 2))) (22 + j) ((125 + 11 * j + 2)) rfl (by omega) (by unfold lng; omega) (ky_P hj 2) fl_X1_18 rfl dX1_delay_5 (hS.2.2.2.1 j hj).1 rfl ?_
  refine n_isub C dX1_delay_8 ?_
  refine r_iret C hr hlk dX1_delay_9 (Nat.zero_le _) (Nat.zero_le _) ?_
  exact ⟨congrArg (fun z => some (Value.int (iI z))) (rfl), rfl, rfl, rfl⟩
