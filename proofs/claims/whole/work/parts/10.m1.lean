set_option maxHeartbeats 4000000 in
set_option maxRecDepth 20000 in
theorem k_X6_in {l : Launch} {G : Gd} {base : Nat} {Y : MY} {I : MI} {L : ML} {v lw hg : Int} (hv : i64 v) (hlw : i64 lw) (hhg : i64 hg) : Ct l yX6_in cX6_in 6 (some .boolean) (rmz 0 0) G base [.long (lI v), .long (lI lw), .long (lI hg)] Y I L (PI (b2 (lw ≤ v ∧ v ≤ hg)) Y I L) := by
  refine Ct.of (own := RX6) (lo := [(0, .long (lI v)), (2, .long (lI lw)), (4, .long (lI hg))]) (by decide) rfl (Nat.le_of_ble_eq_true rfl) rfl ?_
  intro zp ze zs zm zargs zbl zmt zc C hr hlk hnm
  refine r_lload_n C 0 dX6_in_0 rfl rfl ?_
  refine r_lload_n C 1 dX6_in_1 rfl rfl ?_
  refine n_lcmp_lt (tgt := 17) C dX6_in_2 dX6_in_3 rfl rfl (by decide) hv hlw (fun c2 => ?_) (fun c2 => ?_)
  · refine r_iconst (v := iI 0) C dX6_in_17 rfl ?_
    refine r_zret C hr hlk (by decide) dX6_in_18 (Nat.zero_le _) (Nat.zero_le _) ?_
    exact ⟨congrArg (fun z => some (Value.int (iI z))) (by unfold b2; split <;> omega), rfl, rfl, rfl⟩
  · refine r_lload_n C 0 dX6_in_6 rfl rfl ?_
    refine r_lload C 2 dX6_in_7 rfl ?_
    refine n_lcmp_gt (tgt := 17) C dX6_in_9 dX6_in_10 rfl rfl (by decide) hv hhg (fun c9 => ?_) (fun c9 => ?_)
    · refine r_iconst (v := iI 0) C dX6_in_17 rfl ?_
      refine r_zret C hr hlk (by decide) dX6_in_18 (Nat.zero_le _) (Nat.zero_le _) ?_
      exact ⟨congrArg (fun z => some (Value.int (iI z))) (by unfold b2; split <;> omega), rfl, rfl, rfl⟩
    · refine r_iconst (v := iI 1) C dX6_in_13 rfl ?_
      refine r_goto (tgt := 18) C dX6_in_14 (by decide) ?_
      refine r_zret C hr hlk (by decide) dX6_in_18 (Nat.zero_le _) (Nat.zero_le _) ?_
      exact ⟨congrArg (fun z => some (Value.int (iI z))) (by unfold b2; split <;> omega), rfl, rfl, rfl⟩
set_option maxHeartbeats 4000000 in
set_option maxRecDepth 20000 in
theorem k_X6_flowAt {l : Launch} {G : Gd} {base : Nat} {Y : MY} {I : MI} {L : ML} {f w : Int}  : Ct l yX6_flowAt cX6_flowAt 2 (some .int) (rmz 0 0) G base [.int (iI f), .int (iI w)] Y I L (PI (17 + 18 * f + w) Y I L) := by
  refine Ct.of (own := RX6) (lo := [(0, .int (iI f)), (1, .int (iI w))]) (by decide) rfl (Nat.le_of_ble_eq_true rfl) rfl ?_
  intro zp ze zs zm zargs zbl zmt zc C hr hlk hnm
  refine r_bipush (v := iI 17) C dX6_flowAt_0 (by decide) ?_
  refine r_bipush (v := iI 18) C dX6_flowAt_2 (by decide) ?_
  refine r_iload_n C 0 dX6_flowAt_4 rfl rfl ?_
  refine n_imul C dX6_flowAt_5 ?_
  refine n_iadd C dX6_flowAt_6 ?_
  refine r_iload_n C 1 dX6_flowAt_7 rfl rfl ?_
  refine n_iadd C dX6_flowAt_8 ?_
  refine r_iret C hr hlk dX6_flowAt_9 (Nat.zero_le _) (Nat.zero_le _) ?_
  exact ⟨congrArg (fun z => some (Value.int (iI z))) (rfl), rfl, rfl, rfl⟩
set_option maxHeartbeats 4000000 in
set_option maxRecDepth 20000 in
theorem k_X6_ofFlow {l : Launch} {G : Gd} {base : Nat} {Y : MY} {I : MI} {L : ML} {M : Nat} {a : Sa} {fi wi : Int} (f w : Nat) (hM : MLy base Y M) (hf : fi = f) (hw : wi = w) (hb : 17 + 18 * f + w < 1826) : Ct l yX6_ofFlow cX6_ofFlow 3 (some .long) (rmz 1 21) G base [.ref M, .int (iI fi), .int (iI wi)] Y I (rL L (M + 1) a) (PL (a (17 + 18 * f + w)) Y I (rL L (M + 1) a)) := by
  refine Ct.of (own := RX6) (lo := [(0, .ref M), (1, .int (iI fi)), (2, .int (iI wi))]) (by decide) rfl (Nat.le_of_ble_eq_true rfl) rfl ?_
  intro zp ze zs zm zargs zbl zmt zc C hr hlk hnm
  refine r_aload_n C 0 dX6_ofFlow_0 rfl rfl ?_
  refine r_getR C fl_X6_7 rfl dX6_ofFlow_1 hM.1.1 hM.2.1 ?_
  refine r_iload_n C 1 dX6_ofFlow_4 rfl rfl ?_
  refine r_iload_n C 2 dX6_ofFlow_5 rfl rfl ?_
  refine cS2_PI C (k_X6_flowAt ) cw_X6_40 (rm_ok rfl rfl (Nat.zero_le _) (Nat.zero_le _)) (Nat.le_of_ble_eq_true rfl) dX6_ofFlow_6 ?_
  refine a_lald C (v := (a (17 + 18 * f + w))) ((17 + 18 * f + w)) dX6_ofFlow_9 hM.1.2.1 ⟨congrArg iI (by omega), (by omega), by decide⟩ rfl ?_
  refine r_lret C hr hlk dX6_ofFlow_10 (Nat.zero_le _) (Nat.zero_le _) ?_
  exact ⟨congrArg (fun z => some (Value.long (lI z))) (rfl), rfl, rfl, rfl⟩
set_option maxHeartbeats 4000000 in
set_option maxRecDepth 20000 in
theorem k_X6_isFlow {l : Launch} {G : Gd} {base : Nat} {Y : MY} {I : MI} {L : ML} {M : Nat} {a : Sa} {f : Int} (hM : MLy base Y M) (hf : -2147483648 ≤ f ∧ f < 2147483648) (h2 : 0 ≤ a 2 ∧ a 2 ≤ 6) : Ct l yX6_isFlow cX6_isFlow 2 (some .boolean) (rmz 1 25) G base [.ref M, .int (iI f)] Y I (rL L (M + 1) a) (PI (b2 (0 ≤ f ∧ f ≤ a 2 - 1)) Y I (rL L (M + 1) a)) := by
  refine Ct.of (own := RX6) (lo := [(0, .ref M), (1, .int (iI f))]) (by decide) rfl (Nat.le_of_ble_eq_true rfl) rfl ?_
  intro zp ze zs zm zargs zbl zmt zc C hr hlk hnm
  refine r_iload_n C 1 dX6_isFlow_0 rfl rfl ?_
  refine n_i2l C dX6_isFlow_1 (by constructor <;> omega) ?_
  refine r_lconst (v := lI 0) C dX6_isFlow_2 (by decide) ?_
  refine r_aload_n C 0 dX6_isFlow_3 rfl rfl ?_
  refine r_getR C fl_X6_7 rfl dX6_isFlow_4 hM.1.1 hM.2.1 ?_
  refine r_iconst (v := iI 2) C dX6_isFlow_7 rfl ?_
  refine a_lald C (v := (a 2)) 2 dX6_isFlow_8 hM.1.2.1 ⟨rfl, by decide, by decide⟩ rfl ?_
  refine r_lconst (v := lI 1) C dX6_isFlow_9 (by decide) ?_
  refine n_lsub C dX6_isFlow_10 ?_
  refine cS3_PI C (k_X6_in (by constructor <;> omega) ⟨by decide, by decide⟩ (by constructor <;> omega)) cw_X6_36 (rm_ok rfl rfl (Nat.zero_le _) (Nat.zero_le _)) (Nat.le_of_ble_eq_true rfl) dX6_isFlow_11 ?_
  refine r_zret C hr hlk b2_z dX6_isFlow_14 (Nat.zero_le _) (Nat.zero_le _) ?_
  exact ⟨congrArg (fun z => some (Value.int (iI z))) (rfl), rfl, rfl, rfl⟩
set_option maxHeartbeats 4000000 in
set_option maxRecDepth 20000 in
theorem k_X6_isKnown {l : Launch} {G : Gd} {base : Nat} {Y : MY} {I : MI} {L : ML} {M : Nat} {a : Sa} {p : Int} (hM : MLy base Y M) (hp : -2147483648 ≤ p ∧ p < 2147483648) (h7 : 0 ≤ a 7 ∧ a 7 ≤ 400000) : Ct l yX6_isKnown cX6_isKnown 2 (some .boolean) (rmz 1 25) G base [.ref M, .int (iI p)] Y I (rL L (M + 1) a) (PI (b2 (0 ≤ p ∧ p < a 7 ∧ a 7 - 120 ≤ p)) Y I (rL L (M + 1) a)) := by
  refine Ct.of (own := RX6) (lo := [(0, .ref M), (1, .int (iI p))]) (by decide) rfl (Nat.le_of_ble_eq_true rfl) rfl ?_
  intro zp ze zs zm zargs zbl zmt zc C hr hlk hnm
  refine r_iload_n C 1 dX6_isKnown_0 rfl rfl ?_
  refine n_i2l C dX6_isKnown_1 (by constructor <;> omega) ?_
  refine r_lconst (v := lI 0) C dX6_isKnown_2 (by decide) ?_
  refine r_aload_n C 0 dX6_isKnown_3 rfl rfl ?_
  refine r_getR C fl_X6_7 rfl dX6_isKnown_4 hM.1.1 hM.2.1 ?_
  refine r_bipush (v := iI 7) C dX6_isKnown_7 (by decide) ?_
  refine a_lald C (v := (a 7)) 7 dX6_isKnown_9 hM.1.2.1 ⟨rfl, by decide, by decide⟩ rfl ?_
  refine r_lconst (v := lI 1) C dX6_isKnown_10 (by decide) ?_
  refine n_lsub C dX6_isKnown_11 ?_
  refine cS3_PI C (k_X6_in (by constructor <;> omega) ⟨by decide, by decide⟩ (by constructor <;> omega)) cw_X6_36 (rm_ok rfl rfl (Nat.zero_le _) (Nat.zero_le _)) (Nat.le_of_ble_eq_true rfl) dX6_isKnown_12 ?_
  refine n_if_eq (tgt := 39) C dX6_isKnown_15 (by decide) b2_i (fun c15 => ?_) (fun c15 => ?_)
  · refine r_iconst (v := iI 0) C dX6_isKnown_39 rfl ?_
    refine r_zret C hr hlk (by decide) dX6_isKnown_40 (Nat.zero_le _) (Nat.zero_le _) ?_
    exact ⟨congrArg (fun z => some (Value.int (iI z))) (by first | (rw [b2_1 (by omega)]; done) | (rw [b2_0 (by omega)]; done) | (rw [b2_eq0] at c15; rw [b2_0 (by omega)]) | (rw [b2_eq0, Classical.not_not] at c15; first | rw [b2_1 (by omega)] | rw [b2_0 (by omega)])), rfl, rfl, rfl⟩
  · refine r_iload_n C 1 dX6_isKnown_18 rfl rfl ?_
    refine n_i2l C dX6_isKnown_19 (by constructor <;> omega) ?_
    refine r_aload_n C 0 dX6_isKnown_20 rfl rfl ?_
    refine r_getR C fl_X6_7 rfl dX6_isKnown_21 hM.1.1 hM.2.1 ?_
    refine r_bipush (v := iI 7) C dX6_isKnown_24 (by decide) ?_
    refine a_lald C (v := (a 7)) 7 dX6_isKnown_26 hM.1.2.1 ⟨rfl, by decide, by decide⟩ rfl ?_
    refine n_ldc2 (v := 120) C lc_X6_44 (by decide) dX6_isKnown_27 ?_
    refine n_lsub C dX6_isKnown_30 ?_
    refine n_lcmp_lt (tgt := 39) C dX6_isKnown_31 dX6_isKnown_32 rfl rfl (by decide) (by constructor <;> omega) (by constructor <;> omega) (fun c31 => ?_) (fun c31 => ?_)
    · refine r_iconst (v := iI 0) C dX6_isKnown_39 rfl ?_
      refine r_zret C hr hlk (by decide) dX6_isKnown_40 (Nat.zero_le _) (Nat.zero_le _) ?_
      exact ⟨congrArg (fun z => some (Value.int (iI z))) (by first | (rw [b2_1 (by omega)]; done) | (rw [b2_0 (by omega)]; done) | (rw [b2_eq0] at c15; rw [b2_0 (by omega)]) | (rw [b2_eq0, Classical.not_not] at c15; first | rw [b2_1 (by omega)] | rw [b2_0 (by omega)])), rfl, rfl, rfl⟩
    · refine r_iconst (v := iI 1) C dX6_isKnown_35 rfl ?_
      refine r_goto (tgt := 40) C dX6_isKnown_36 (by decide) ?_
      refine r_zret C hr hlk (by decide) dX6_isKnown_40 (Nat.zero_le _) (Nat.zero_le _) ?_
      exact ⟨congrArg (fun z => some (Value.int (iI z))) (by first | (rw [b2_1 (by omega)]; done) | (rw [b2_0 (by omega)]; done) | (rw [b2_eq0] at c15; rw [b2_0 (by omega)]) | (rw [b2_eq0, Classical.not_not] at c15; first | rw [b2_1 (by omega)] | rw [b2_0 (by omega)])), rfl, rfl, rfl⟩
set_option maxHeartbeats 4000000 in
set_option maxRecDepth 20000 in
theorem k_X6_packetAt {l : Launch} {G : Gd} {base : Nat} {Y : MY} {I : MI} {L : ML} {pi wi : Int} (p w : Nat) (hp : pi = p) (hw : wi = w) (hb : p < 2147483648) : Ct l yX6_packetAt cX6_packetAt 2 (some .int) (rmz 0 0) G base [.int (iI pi), .int (iI wi)] Y I L (PI ((125 + 11 * (p % 120) + w : Nat) : Int) Y I L) := by
  refine Ct.of (own := RX6) (lo := [(0, .int (iI pi)), (1, .int (iI wi))]) (by decide) rfl (Nat.le_of_ble_eq_true rfl) rfl ?_
  intro zp ze zs zm zargs zbl zmt zc C hr hlk hnm
  refine r_bipush (v := iI 125) C dX6_packetAt_0 (by decide) ?_
  refine r_bipush (v := iI 11) C dX6_packetAt_2 (by decide) ?_
  refine r_iload_n C 0 dX6_packetAt_4 rfl rfl ?_
  refine r_bipush (v := iI 120) C dX6_packetAt_5 (by decide) ?_
  refine n_irem C dX6_packetAt_7 (by omega) (by omega) ?_
  refine n_imul C dX6_packetAt_8 ?_
  refine n_iadd C dX6_packetAt_9 ?_
  refine r_iload_n C 1 dX6_packetAt_10 rfl rfl ?_
  refine n_iadd C dX6_packetAt_11 ?_
  refine r_iret C hr hlk dX6_packetAt_12 (Nat.zero_le _) (Nat.zero_le _) ?_
  exact ⟨congrArg (fun z => some (Value.int (iI z))) (by omega), rfl, rfl, rfl⟩
set_option maxHeartbeats 4000000 in
set_option maxRecDepth 20000 in
theorem k_X6_of {l : Launch} {G : Gd} {base : Nat} {Y : MY} {I : MI} {L : ML} {M : Nat} {a : Sa} {pi wi : Int} (p w : Nat) (hM : MLy base Y M) (hp : pi = p) (hw : wi = w) (hb : p < 2147483648 ∧ w ≤ 10) : Ct l yX6_of cX6_of 3 (some .long) (rmz 1 21) G base [.ref M, .int (iI pi), .int (iI wi)] Y I (rL L (M + 1) a) (PL (a (125 + 11 * (p % 120) + w)) Y I (rL L (M + 1) a)) := by
  refine Ct.of (own := RX6) (lo := [(0, .ref M), (1, .int (iI pi)), (2, .int (iI wi))]) (by decide) rfl (Nat.le_of_ble_eq_true rfl) rfl ?_
  intro zp ze zs zm zargs zbl zmt zc C hr hlk hnm
  refine r_aload_n C 0 dX6_of_0 rfl rfl ?_
  refine r_getR C fl_X6_7 rfl dX6_of_1 hM.1.1 hM.2.1 ?_
  refine r_iload_n C 1 dX6_of_4 rfl rfl ?_
  refine r_iload_n C 2 dX6_of_5 rfl rfl ?_
  refine cS2_PI C (k_X6_packetAt p w (by omega) (by omega) (by omega)) cw_X6_46 (rm_ok rfl rfl (Nat.zero_le _) (Nat.zero_le _)) (Nat.le_of_ble_eq_true rfl) dX6_of_6 ?_
  refine a_lald C (v := (a (125 + 11 * (p % 120) + w))) ((125 + 11 * (p % 120) + w)) dX6_of_9 hM.1.2.1 ⟨congrArg iI (by omega), (by omega), by decide⟩ rfl ?_
  refine r_lret C hr hlk dX6_of_10 (Nat.zero_le _) (Nat.zero_le _) ?_
  exact ⟨congrArg (fun z => some (Value.long (lI z))) (rfl), rfl, rfl, rfl⟩
set_option maxHeartbeats 4000000 in
set_option maxRecDepth 20000 in
theorem k_X6_oldest {l : Launch} {G : Gd} {base : Nat} {Y : MY} {I : MI} {L : ML} {M : Nat} {a : Sa}  (hM : MLy base Y M) (h7 : 0 ≤ a 7 ∧ a 7 ≤ 400000) : Ct l yX6_oldest cX6_oldest 1 (some .int) (rmz 0 0) G base [.ref M] Y I (rL L (M + 1) a) (PI ((old a : Nat) : Int) Y I (rL L (M + 1) a)) := by
  refine Ct.of (own := RX6) (lo := [(0, .ref M)]) (by decide) rfl (Nat.le_of_ble_eq_true rfl) rfl ?_
  intro zp ze zs zm zargs zbl zmt zc C hr hlk hnm
  refine r_aload_n C 0 dX6_oldest_0 rfl rfl ?_
  refine r_getR C fl_X6_7 rfl dX6_oldest_1 hM.1.1 hM.2.1 ?_
  refine r_bipush (v := iI 7) C dX6_oldest_4 (by decide) ?_
  refine a_lald C (v := (a 7)) 7 dX6_oldest_6 hM.1.2.1 ⟨rfl, by decide, by decide⟩ rfl ?_
  refine n_ldc2 (v := 120) C lc_X6_44 (by decide) dX6_oldest_7 ?_
  refine n_lcmp_le (tgt := 28) C dX6_oldest_10 dX6_oldest_11 rfl rfl (by decide) (by constructor <;> omega) ⟨by decide, by decide⟩ (fun c10 => ?_) (fun c10 => ?_)
  · refine r_lconst (v := lI 0) C dX6_oldest_28 (by decide) ?_
    refine n_l2i C dX6_oldest_29 ?_
    refine r_iret C hr hlk dX6_oldest_30 (Nat.zero_le _) (Nat.zero_le _) ?_
    exact ⟨congrArg (fun z => some (Value.int (iI z))) (by unfold old; omega), rfl, rfl, rfl⟩
  · refine r_aload_n C 0 dX6_oldest_14 rfl rfl ?_
    refine r_getR C fl_X6_7 rfl dX6_oldest_15 hM.1.1 hM.2.1 ?_
    refine r_bipush (v := iI 7) C dX6_oldest_18 (by decide) ?_
    refine a_lald C (v := (a 7)) 7 dX6_oldest_20 hM.1.2.1 ⟨rfl, by decide, by decide⟩ rfl ?_
    refine n_ldc2 (v := 120) C lc_X6_44 (by decide) dX6_oldest_21 ?_
    refine n_lsub C dX6_oldest_24 ?_
    refine r_goto (tgt := 29) C dX6_oldest_25 (by decide) ?_
    refine n_l2i C dX6_oldest_29 ?_
    refine r_iret C hr hlk dX6_oldest_30 (Nat.zero_le _) (Nat.zero_le _) ?_
    exact ⟨congrArg (fun z => some (Value.int (iI z))) (by unfold old; omega), rfl, rfl, rfl⟩
set_option maxHeartbeats 4000000 in
set_option maxRecDepth 20000 in
theorem k_X6_isQueued {l : Launch} {G : Gd} {base : Nat} {Y : MY} {I : MI} {L : ML} {M : Nat} {a : Sa} {pi : Int} (p : Nat) (hM : MLy base Y M) (hp : pi = p) (hb : p < 2147483648) (hs : 0 ≤ a (125 + 11 * (p % 120) + 4) ∧ a (125 + 11 * (p % 120) + 4) ≤ 4) : Ct l yX6_isQueued cX6_isQueued 2 (some .boolean) (rmz 2 43) G base [.ref M, .int (iI pi)] Y I (rL L (M + 1) a) (PI (b2 (a (125 + 11 * (p % 120) + 4) ≤ 1)) Y I (rL L (M + 1) a)) := by
  refine Ct.of (own := RX6) (lo := [(0, .ref M), (1, .int (iI pi))]) (by decide) rfl (Nat.le_of_ble_eq_true rfl) rfl ?_
  intro zp ze zs zm zargs zbl zmt zc C hr hlk hnm
  refine r_aload_n C 0 dX6_isQueued_0 rfl rfl ?_
  refine r_iload_n C 1 dX6_isQueued_1 rfl rfl ?_
  refine r_iconst (v := iI 4) C dX6_isQueued_2 rfl ?_
  refine cV2_PL C (k_X6_of p 4 hM (by omega) (by omega) (by omega)) cw_X6_49 (rm_ok rfl rfl (Nat.zero_le _) (Nat.zero_le _)) (Nat.le_of_ble_eq_true rfl) hM.1.1 dX6_isQueued_3 ?_
  refine r_lconst (v := lI 1) C dX6_isQueued_6 (by decide) ?_
  refine n_lcmp_gt (tgt := 15) C dX6_isQueued_7 dX6_isQueued_8 rfl rfl (by decide) (by constructor <;> omega) ⟨by decide, by decide⟩ (fun c7 => ?_) (fun c7 => ?_)
  · refine r_iconst (v := iI 0) C dX6_isQueued_15 rfl ?_
    refine r_zret C hr hlk (by decide) dX6_isQueued_16 (Nat.zero_le _) (Nat.zero_le _) ?_
    exact ⟨congrArg (fun z => some (Value.int (iI z))) (by unfold b2; split <;> omega), rfl, rfl, rfl⟩
  · refine r_iconst (v := iI 1) C dX6_isQueued_11 rfl ?_
    refine r_goto (tgt := 16) C dX6_isQueued_12 (by decide) ?_
    refine r_zret C hr hlk (by decide) dX6_isQueued_16 (Nat.zero_le _) (Nat.zero_le _) ?_
    exact ⟨congrArg (fun z => some (Value.int (iI z))) (by unfold b2; split <;> omega), rfl, rfl, rfl⟩
set_option maxHeartbeats 4000000 in
set_option maxRecDepth 20000 in
theorem k_X6_headOf {l : Launch} {G : Gd} {base : Nat} {Y : MY} {I : MI} {L : ML} {M : Nat} {a : Sa} {N T : Int} (hI : Inv N T a) {fi : Int} (f : Nat) (hM : MLy base Y M) (hf : fi = f) (hf2 : (f : Int) < a 2) : Ct l yX6_headOf cX6_headOf 3 (some .int) (rmz 3 64) G base [.ref M, .int (iI fi)] Y I (rL L (M + 1) a) (PI (hdF a f) Y I (rL L (M + 1) a)) := by
  refine Ct.of (own := RX6) (lo := [(0, .ref M), (1, .int (iI fi))]) (by decide) rfl (Nat.le_of_ble_eq_true rfl) rfl ?_
  intro zp ze zs zm zargs zbl zmt zc C hr hlk hnm
  have hT := hI.1
  unfold TopOK at hT
  have hF := (hI.2.1 f hf2).1
  unfold FlowOK at hF
  refine r_aload_n C 0 dX6_headOf_0 rfl rfl ?_
  refine r_iload_n C 1 dX6_headOf_1 rfl rfl ?_
  refine r_bipush (v := iI 17) C dX6_headOf_2 (by decide) ?_
  refine cV2_PL C (k_X6_ofFlow f 17 hM (by omega) (by omega) (by omega)) cw_X6_53 (rm_ok rfl rfl (Nat.zero_le _) (Nat.zero_le _)) (Nat.le_of_ble_eq_true rfl) hM.1.1 dX6_headOf_4 ?_
  refine r_lconst (v := lI 0) C dX6_headOf_7 (by decide) ?_
  refine n_lcmp_ne (tgt := 15) C dX6_headOf_8 dX6_headOf_9 rfl rfl (by decide) (by constructor <;> omega) ⟨by decide, by decide⟩ (fun c8 => ?_) (fun c8 => ?_)
  · refine r_aload_n C 0 dX6_headOf_15 rfl rfl ?_
    refine cV0_PI C (k_X6_oldest hM (by omega)) cw_X6_56 (rm_ok rfl rfl (Nat.zero_le _) (Nat.zero_le _)) (Nat.le_of_ble_eq_true rfl) hM.1.1 dX6_headOf_16 ?_
    refine n_topi (fun x19 ex19 => ?_)
    refine r_istore_n (lo' := [(2, .int (iI x19)), (0, .ref M), (1, .int (iI fi))]) C dX6_headOf_19 rfl (by decide) rfl ?_
    have lp20 : ∀ (k : Nat) (x2 : Int) (q : Nat) (n : Nat) (hx2 : x2 = q) (hq : old a ≤ q ∧ q + n = old a + 120) (hg : ∃ r : Nat, q ≤ r ∧ r < q + n ∧ (r : Int) < a 7 ∧ a (125 + 11 * (r % 120) + 0) = f ∧ a (125 + 11 * (r % 120) + 4) ≤ 1) (he : hdN a f n q = hdN a f 120 (old a)), n = k → Bd zp l ze (rmz 3 64) zs zm zargs zbl zmt zc 3 G base (PI (hdF a f) Y I (rL L (M + 1) a)) 20 [(2, .int (iI x2)), (0, .ref M), (1, .int (iI fi))] [] Y I (rL L (M + 1) a) 0 0 := by
      intro k
      induction k using Nat.strongRecOn with
      | _ k ih =>
      intro x2 q n hx2 hq hg he hk
      obtain ⟨r, hr1, hr2, hr3, hr4, hr5⟩ := hg
      have ho : old a = (a 7 - 120).toNat := rfl
      have hPq := hI.2.2.1 q hq.1 (by omega)
      unfold PkOK at hPq
      obtain ⟨n, rfl⟩ : ∃ n2, n = n2 + 1 := ⟨n - 1, by omega⟩
      rw [hdN_s a f n q] at he
      refine r_aload_n C 1 dX6_headOf_20 rfl rfl ?_
      refine r_iload_n C 0 dX6_headOf_21 rfl rfl ?_
      refine r_iconst (v := iI 0) C dX6_headOf_22 rfl ?_
      refine cV2_PL C (k_X6_of q 0 hM (by omega) (by omega) (by omega)) cw_X6_49 (rm_ok rfl rfl (Nat.zero_le _) (Nat.zero_le _)) (Nat.le_of_ble_eq_true rfl) hM.1.1 dX6_headOf_23 ?_
      refine r_iload_n C 2 dX6_headOf_26 rfl rfl ?_
      refine n_i2l C dX6_headOf_27 (by constructor <;> omega) ?_
      refine n_lcmp_ne (tgt := 40) C dX6_headOf_28 dX6_headOf_29 rfl rfl (by decide) (by constructor <;> omega) (by constructor <;> omega) (fun c28 => ?_) (fun c28 => ?_)
      · have hne : ¬ (a (125 + 11 * (q % 120) + 0) = f ∧ a (125 + 11 * (q % 120) + 4) ≤ 1) := by
          first | (intro z; omega) | (rw [b2_eq0] at c37; intro z; omega)
        rw [if_neg hne] at he
        have hqr : q ≠ r := fun z => hne (z ▸ ⟨hr4, hr5⟩)
        have hgn : ∃ r : Nat, q + 1 ≤ r ∧ r < q + 1 + n ∧ (r : Int) < a 7 ∧ a (125 + 11 * (r % 120) + 0) = f ∧ a (125 + 11 * (r % 120) + 4) ≤ 1 := ⟨r, by omega, by omega, hr3, hr4, hr5⟩
        have hen : hdN a f n (q + 1) = hdN a f 120 (old a) := he
        refine n_iinc (lo' := [(2, .int (iI (x2 + 1))), (0, .ref M), (1, .int (iI fi))]) C 0 dX6_headOf_40 rfl rfl (by decide) rfl ?_
        refine r_goto (tgt := 20) C dX6_headOf_43 (by decide) ?_
        exact ih _ (by first | omega | (rw [← hk]; omega)) ((x2 + 1)) (q + 1) n (by omega) (by omega) (by exact hgn) (by exact hen) rfl
      · refine r_aload_n C 1 dX6_headOf_32 rfl rfl ?_
        refine r_iload_n C 0 dX6_headOf_33 rfl rfl ?_
        refine cV1_PI C (k_X6_isQueued q hM (by omega) (by omega) (by omega)) cw_X6_60 (rm_ok rfl rfl (Nat.zero_le _) (Nat.zero_le _)) (Nat.le_of_ble_eq_true rfl) hM.1.1 dX6_headOf_34 ?_
        refine n_if_ne (tgt := 46) C dX6_headOf_37 (by decide) b2_i (fun c37 => ?_) (fun c37 => ?_)
        · refine r_iload_n C 0 dX6_headOf_46 rfl rfl ?_
          refine r_iret C hr hlk dX6_headOf_47 (Nat.zero_le _) (Nat.zero_le _) ?_
          rw [b2_eq0, Classical.not_not] at c37
          rw [if_pos ⟨by omega, c37⟩] at he
          exact ⟨congrArg (fun z => some (Value.int (iI z))) (by unfold hdF; rw [if_neg c8, ← he]; omega), rfl, rfl, rfl⟩
        · have hne : ¬ (a (125 + 11 * (q % 120) + 0) = f ∧ a (125 + 11 * (q % 120) + 4) ≤ 1) := by
            first | (intro z; omega) | (rw [b2_eq0] at c37; intro z; omega)
          rw [if_neg hne] at he
          have hqr : q ≠ r := fun z => hne (z ▸ ⟨hr4, hr5⟩)
          have hgn : ∃ r : Nat, q + 1 ≤ r ∧ r < q + 1 + n ∧ (r : Int) < a 7 ∧ a (125 + 11 * (r % 120) + 0) = f ∧ a (125 + 11 * (r % 120) + 4) ≤ 1 := ⟨r, by omega, by omega, hr3, hr4, hr5⟩
          have hen : hdN a f n (q + 1) = hdN a f 120 (old a) := he
          refine n_iinc (lo' := [(2, .int (iI (x2 + 1))), (0, .ref M), (1, .int (iI fi))]) C 0 dX6_headOf_40 rfl rfl (by decide) rfl ?_
          refine r_goto (tgt := 20) C dX6_headOf_43 (by decide) ?_
          exact ih _ (by first | omega | (rw [← hk]; omega)) ((x2 + 1)) (q + 1) n (by omega) (by omega) (by exact hgn) (by exact hen) rfl
    exact lp20 _ x19 (old a) 120 (by omega) (by omega) (by obtain ⟨r, h1, h2, h3, h4, h5⟩ := hd_ex hI hf2 c8; exact ⟨r, h1, h3, h2, h4, h5⟩) rfl rfl
  · refine r_bipush (v := iI (-6)) C dX6_headOf_12 (by decide) ?_
    refine r_iret C hr hlk dX6_headOf_14 (Nat.zero_le _) (Nat.zero_le _) ?_
    exact ⟨congrArg (fun z => some (Value.int (iI z))) (by unfold hdF; rw [if_pos c8]), rfl, rfl, rfl⟩
