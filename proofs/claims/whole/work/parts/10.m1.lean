set_option maxHeartbeats 4000000 in
set_option maxRecDepth 20000 in
theorem k_X6_in {l : Launch} {G : Gd} {base : Nat} {Y : MY} {I : MI} {L : ML} {v lw hg : Int} (hv : i64 v) (hlw : i64 lw) (hhg : i64 hg) : Ct l yX6_in cX6_in 6 (some .boolean) (rmz 0 0) G base [.long (lI v), .long (lI lw), .long (lI hg)] Y I L (PI (b2 (lw ≤ v ∧ v ≤ hg)) Y I L) := by
  refine Ct.of (own := RX6) (lo := [(0, .long (lI v)), (2, .long (lI lw)), (4, .long (lI hg))]) (by decide) rfl (Nat.le_of_ble_eq_true rfl) rfl ?_
  intro p e s m args below meth c C hr hlk hnm
  refine r_lload_n C 0 dX6_in_0 rfl rfl ?_
  refine r_lload_n C 1 dX6_in_1 rfl rfl ?_
  refine n_lcmp_lt (tgt := 17) C dX6_in_2 dX6_in_3 rfl rfl (by decide) hv hlw (fun c2 => ?_) (fun c2 => ?_)
  · refine r_iconst (v := iI 0) C dX6_in_17 rfl ?_
    refine r_zret C hr hlk (by decide) dX6_in_18 (Nat.zero_le _) (Nat.zero_le _) ?_
    exact ⟨congrArg (fun z => some (Value.int (iI z))) (by unfold b2; split <;> omega), rfl, rfl, rfl⟩
  · refine r_lload_n C 0 dX6_in_6 rfl rfl ?_
    refine r_lload C 2 dX6_in_7 rfl ?_
    refine n_lcmp_gt (tgt := 17) C dX6_in_9 dX6_in_10 rfl rfl (by decide) hv hhg (fun c9 => ?_) (fun c9 => ?_)
    · refine r_iconst (v := iI 0) C dX6_in_17 rfl ?_
      refine r_zret C hr hlk (by decide) dX6_in_18 (Nat.zero_le _) (Nat.zero_le _) ?_
      exact ⟨congrArg (fun z => some (Value.int (iI z))) (by unfold b2; split <;> omega), rfl, rfl, rfl⟩
    · refine r_iconst (v := iI 1) C dX6_in_13 rfl ?_
      refine r_goto (tgt := 18) C dX6_in_14 (by decide) ?_
      refine r_zret C hr hlk (by decide) dX6_in_18 (Nat.zero_le _) (Nat.zero_le _) ?_
      exact ⟨congrArg (fun z => some (Value.int (iI z))) (by unfold b2; split <;> omega), rfl, rfl, rfl⟩
set_option maxHeartbeats 4000000 in
set_option maxRecDepth 20000 in
theorem k_X6_flowAt {l : Launch} {G : Gd} {base : Nat} {Y : MY} {I : MI} {L : ML} {f w : Int}  : Ct l yX6_flowAt cX6_flowAt 2 (some .int) (rmz 0 0) G base [.int (iI f), .int (iI w)] Y I L (PI (17 + 18 * f + w) Y I L) := by
  refine Ct.of (own := RX6) (lo := [(0, .int (iI f)), (1, .int (iI w))]) (by decide) rfl (Nat.le_of_ble_eq_true rfl) rfl ?_
  intro p e s m args below meth c C hr hlk hnm
  refine r_bipush (v := iI 17) C dX6_flowAt_0 (by decide) ?_
  refine r_bipush (v := iI 18) C dX6_flowAt_2 (by decide) ?_
  refine r_iload_n C 0 dX6_flowAt_4 rfl rfl ?_
  refine n_imul C dX6_flowAt_5 ?_
  refine n_iadd C dX6_flowAt_6 ?_
  refine r_iload_n C 1 dX6_flowAt_7 rfl rfl ?_
  refine n_iadd C dX6_flowAt_8 ?_
  refine r_iret C hr hlk dX6_flowAt_9 (Nat.zero_le _) (Nat.zero_le _) ?_
  exact ⟨congrArg (fun z => some (Value.int (iI z))) (rfl), rfl, rfl, rfl⟩
set_option maxHeartbeats 4000000 in
set_option maxRecDepth 20000 in
theorem k_X6_ofFlow {l : Launch} {G : Gd} {base : Nat} {Y : MY} {I : MI} {L : ML} {M : Nat} {a : Sa} {fi wi : Int} (f w : Nat) (hM : MLy base Y M) (hf : fi = f) (hw : wi = w) (hb : 17 + 18 * f + w < 1826) : Ct l yX6_ofFlow cX6_ofFlow 3 (some .long) (rmz 1 21) G base [.ref M, .int (iI fi), .int (iI wi)] Y I (rL L (M + 1) a) (PL (a (17 + 18 * f + w)) Y I (rL L (M + 1) a)) := by
  refine Ct.of (own := RX6) (lo := [(0, .ref M), (1, .int (iI fi)), (2, .int (iI wi))]) (by decide) rfl (Nat.le_of_ble_eq_true rfl) rfl ?_
  intro p e s m args below meth c C hr hlk hnm
  refine r_aload_n C 0 dX6_ofFlow_0 rfl rfl ?_
  refine r_getR C fl_X6_7 rfl dX6_ofFlow_1 hM.1.1 hM.2.1 ?_
  refine r_iload_n C 1 dX6_ofFlow_4 rfl rfl ?_
  refine r_iload_n C 2 dX6_ofFlow_5 rfl rfl ?_
  refine cS2_PI C (k_X6_flowAt ) cw_X6_40 (rm_ok rfl rfl (Nat.zero_le _) (Nat.zero_le _)) (Nat.le_of_ble_eq_true rfl) dX6_ofFlow_6 ?_
  refine a_lald C (v := (a (17 + 18 * f + w))) ((17 + 18 * f + w)) dX6_ofFlow_9 hM.1.2.1 ⟨congrArg iI (by omega), (by omega), by decide⟩ rfl ?_
  refine r_lret C hr hlk dX6_ofFlow_10 (Nat.zero_le _) (Nat.zero_le _) ?_
  exact ⟨congrArg (fun z => some (Value.long (lI z))) (rfl), rfl, rfl, rfl⟩
set_option maxHeartbeats 4000000 in
set_option maxRecDepth 20000 in
theorem k_X6_isFlow {l : Launch} {G : Gd} {base : Nat} {Y : MY} {I : MI} {L : ML} {M : Nat} {a : Sa} {f : Int} (hM : MLy base Y M) (hf : i32 f) (h2 : 0 ≤ a 2 ∧ a 2 ≤ 6) : Ct l yX6_isFlow cX6_isFlow 2 (some .boolean) (rmz 1 25) G base [.ref M, .int (iI f)] Y I (rL L (M + 1) a) (PI (b2 (0 ≤ f ∧ f ≤ a 2 - 1)) Y I (rL L (M + 1) a)) := by
  refine Ct.of (own := RX6) (lo := [(0, .ref M), (1, .int (iI f))]) (by decide) rfl (Nat.le_of_ble_eq_true rfl) rfl ?_
  intro p e s m args below meth c C hr hlk hnm
  refine r_iload_n C 1 dX6_isFlow_0 rfl rfl ?_
  refine n_i2l C dX6_isFlow_1 hf ?_
  refine r_lconst (v := lI 0) C dX6_isFlow_2 (by decide) ?_
  refine r_aload_n C 0 dX6_isFlow_3 rfl rfl ?_
  refine r_getR C fl_X6_7 rfl dX6_isFlow_4 hM.1.1 hM.2.1 ?_
  refine r_iconst (v := iI 2) C dX6_isFlow_7 rfl ?_
  refine a_lald C (v := (a 2)) 2 dX6_isFlow_8 hM.1.2.1 ⟨rfl, by decide, by decide⟩ rfl ?_
  refine r_lconst (v := lI 1) C dX6_isFlow_9 (by decide) ?_
  refine n_lsub C dX6_isFlow_10 ?_
  refine cS3_PI C (k_X6_in hf ⟨by decide, by decide⟩ (by constructor <;> omega)) cw_X6_36 (rm_ok rfl rfl (Nat.zero_le _) (Nat.zero_le _)) (Nat.le_of_ble_eq_true rfl) dX6_isFlow_11 ?_
  refine r_zret C hr hlk (by decide) dX6_isFlow_14 (Nat.zero_le _) (Nat.zero_le _) ?_
  exact ⟨congrArg (fun z => some (Value.int (iI z))) (rfl), rfl, rfl, rfl⟩
set_option maxHeartbeats 4000000 in
set_option maxRecDepth 20000 in
theorem k_X6_packetAt {l : Launch} {G : Gd} {base : Nat} {Y : MY} {I : MI} {L : ML} {pi wi : Int} (p w : Nat) (hp : pi = p) (hw : wi = w) (hb : p < 2147483648) : Ct l yX6_packetAt cX6_packetAt 2 (some .int) (rmz 0 0) G base [.int (iI pi), .int (iI wi)] Y I L (PI ((125 + 11 * (p % 120) + w : Nat) : Int) Y I L) := by
  refine Ct.of (own := RX6) (lo := [(0, .int (iI pi)), (1, .int (iI wi))]) (by decide) rfl (Nat.le_of_ble_eq_true rfl) rfl ?_
  intro p e s m args below meth c C hr hlk hnm
  refine r_bipush (v := iI 125) C dX6_packetAt_0 (by decide) ?_
  refine r_bipush (v := iI 11) C dX6_packetAt_2 (by decide) ?_
  refine r_iload_n C 0 dX6_packetAt_4 rfl rfl ?_
  refine r_bipush (v := iI 120) C dX6_packetAt_5 (by decide) ?_
  refine n_irem C dX6_packetAt_7 (by omega) (by omega) ?_
  refine n_imul C dX6_packetAt_8 ?_
  refine n_iadd C dX6_packetAt_9 ?_
  refine r_iload_n C 1 dX6_packetAt_10 rfl rfl ?_
  refine n_iadd C dX6_packetAt_11 ?_
  refine r_iret C hr hlk dX6_packetAt_12 (Nat.zero_le _) (Nat.zero_le _) ?_
  exact ⟨congrArg (fun z => some (Value.int (iI z))) (by omega), rfl, rfl, rfl⟩
set_option maxHeartbeats 4000000 in
set_option maxRecDepth 20000 in
theorem k_X6_oldest {l : Launch} {G : Gd} {base : Nat} {Y : MY} {I : MI} {L : ML} {M : Nat} {a : Sa} (hM : MLy base Y M) (h7 : 0 ≤ a 7 ∧ a 7 ≤ 2000000) : Ct l yX6_oldest cX6_oldest 1 (some .int) (rmz 0 0) G base [.ref M] Y I (rL L (M + 1) a) (PI ((old a : Nat) : Int) Y I (rL L (M + 1) a)) := by
  refine Ct.of (own := RX6) (lo := [(0, .ref M)]) (by decide) rfl (Nat.le_of_ble_eq_true rfl) rfl ?_
  intro p e s m args below meth c C hr hlk hnm
  refine r_aload_n C 0 dX6_oldest_0 rfl rfl ?_
  refine r_getR C fl_X6_7 rfl dX6_oldest_1 hM.1.1 hM.2.1 ?_
  refine r_bipush (v := iI 7) C dX6_oldest_4 (by decide) ?_
  refine a_lald C (v := (a 7)) 7 dX6_oldest_6 hM.1.2.1 ⟨rfl, by decide, by decide⟩ rfl ?_
  refine n_ldc2 (v := 120) C lc_X6_44 (by decide) dX6_oldest_7 ?_
  refine n_lcmp_le (tgt := 28) C dX6_oldest_10 dX6_oldest_11 rfl rfl (by decide) (by constructor <;> omega) ⟨by decide, by decide⟩ (fun c10 => ?_) (fun c10 => ?_)
  · refine r_lconst (v := lI 0) C dX6_oldest_28 (by decide) ?_
    refine n_l2i C dX6_oldest_29 ?_
    refine r_iret C hr hlk dX6_oldest_30 (Nat.zero_le _) (Nat.zero_le _) ?_
    exact ⟨congrArg (fun z => some (Value.int (iI z))) (by unfold old; omega), rfl, rfl, rfl⟩
  · refine r_aload_n C 0 dX6_oldest_14 rfl rfl ?_
    refine r_getR C fl_X6_7 rfl dX6_oldest_15 hM.1.1 hM.2.1 ?_
    refine r_bipush (v := iI 7) C dX6_oldest_18 (by decide) ?_
    refine a_lald C (v := (a 7)) 7 dX6_oldest_20 hM.1.2.1 ⟨rfl, by decide, by decide⟩ rfl ?_
    refine n_ldc2 (v := 120) C lc_X6_44 (by decide) dX6_oldest_21 ?_
    refine n_lsub C dX6_oldest_24 ?_
    refine r_goto (tgt := 29) C dX6_oldest_25 (by decide) ?_
    refine n_l2i C dX6_oldest_29 ?_
    refine r_iret C hr hlk dX6_oldest_30 (Nat.zero_le _) (Nat.zero_le _) ?_
    exact ⟨congrArg (fun z => some (Value.int (iI z))) (by unfold old; omega), rfl, rfl, rfl⟩
