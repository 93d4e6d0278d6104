set_option maxHeartbeats 4000000 in
set_option maxRecDepth 20000 in
theorem k_X6_hasRoom {l : Launch} {G : Gd} {base : Nat} {Y : MY} {I : MI} {L : ML} {M : Nat} {a : Sa} {N T : Int} (hI : Inv N T a) {fi : Int} (f : Nat) (hM : MLy base Y M) (hf : fi = f) (hf2 : (f : Int) < a 2) : Ct l yX6_hasRoom cX6_hasRoom 4 (some .boolean) (rmz 2 43) G base [.ref M, .int (iI fi)] Y I (rL L (M + 1) a) (PI (hasR a f) Y I (rL L (M + 1) a)) := by
  refine Ct.of (own := RX6) (lo := [(0, .ref M), (1, .int (iI fi))]) (by decide) rfl (Nat.le_of_ble_eq_true rfl) rfl ?_
  intro zp ze zs zm zargs zbl zmt zc C hr hlk hnm
  have hT := hI.1
  unfold TopOK at hT
  have hF := (hI.2.1 f hf2).1
  unfold FlowOK at hF
  have ho : old a = (a 7 - 120).toNat := rfl
  refine r_aload_n C 0 dX6_hasRoom_0 rfl rfl ?_
  refine r_getR C fl_X6_7 rfl dX6_hasRoom_1 hM.1.1 hM.2.1 ?_
  refine r_bipush (v := iI 7) C dX6_hasRoom_4 (by decide) ?_
  refine a_lald C (v := (a 7)) 7 dX6_hasRoom_6 hM.1.2.1 ⟨rfl, by decide, by decide⟩ rfl ?_
  refine n_l2i C dX6_hasRoom_7 ?_
  refine r_bipush (v := iI 120) C dX6_hasRoom_8 (by decide) ?_
  refine n_isub C dX6_hasRoom_10 ?_
  refine n_topi (fun x11 ex11 => ?_)
  refine r_istore_n (lo' := [(2, .int (iI x11)), (0, .ref M), (1, .int (iI fi))]) C dX6_hasRoom_11 rfl (by decide) rfl ?_
  have jn34 : ∀ x34 : Int, (x11 < 0 ∧ x34 = 0) ∨ (0 ≤ x11 ∧ 2 < (a (125 + 11 * ((old a) % 120) + 4)) ∧ x34 = 0) ∨ (0 ≤ x11 ∧ (a (125 + 11 * ((old a) % 120) + 4)) ≤ 2 ∧ x34 = 1) → Bd zp l ze (rmz 2 43) zs zm zargs zbl zmt zc 4 G base (PI (hasR a f) Y I (rL L (M + 1) a)) 34 [(2, .int (iI x11)), (0, .ref M), (1, .int (iI fi))] [.int (iI x34)] Y I (rL L (M + 1) a) 0 0 := by
    intro x34 hx34
    refine r_istore_n (lo' := [(3, .int (iI x34)), (2, .int (iI x11)), (0, .ref M), (1, .int (iI fi))]) C dX6_hasRoom_34 rfl (by decide) rfl ?_
    refine r_aload_n C 2 dX6_hasRoom_35 rfl rfl ?_
    refine r_iload_n C 3 dX6_hasRoom_36 rfl rfl ?_
    refine r_bipush (v := iI 17) C dX6_hasRoom_37 (by decide) ?_
    refine cV2_PL C (k_X6_ofFlow f 17 hM (by omega) (by omega) (by omega)) cw_X6_53 (rm_ok rfl rfl (Nat.zero_le _) (Nat.zero_le _)) (Nat.le_of_ble_eq_true rfl) hM.1.1 dX6_hasRoom_39 ?_
    refine r_aload_n C 2 dX6_hasRoom_42 rfl rfl ?_
    refine r_iload_n C 3 dX6_hasRoom_43 rfl rfl ?_
    refine r_iconst (v := iI 1) C dX6_hasRoom_44 rfl ?_
    refine cV2_PL C (k_X6_ofFlow f 1 hM (by omega) (by omega) (by omega)) cw_X6_53 (rm_ok rfl rfl (Nat.zero_le _) (Nat.zero_le _)) (Nat.le_of_ble_eq_true rfl) hM.1.1 dX6_hasRoom_45 ?_
    refine n_lcmp_ge (tgt := 60) C dX6_hasRoom_48 dX6_hasRoom_49 rfl rfl (by decide) (by constructor <;> omega) (by constructor <;> omega) (fun c48 => ?_) (fun c48 => ?_)
    · refine r_iconst (v := iI 0) C dX6_hasRoom_60 rfl ?_
      refine r_zret C hr hlk (by decide) dX6_hasRoom_61 (Nat.zero_le _) (Nat.zero_le _) ?_
      exact ⟨congrArg (fun z => some (Value.int (iI z))) (by unfold hasR; first | (rw [b2_1 (by omega)]; done) | (rw [b2_0 (by omega)]; done)), rfl, rfl, rfl⟩
    · refine r_iload_n C 0 dX6_hasRoom_52 rfl rfl ?_
      refine n_if_ne (tgt := 60) C dX6_hasRoom_53 (by decide) (by constructor <;> omega) (fun c53 => ?_) (fun c53 => ?_)
      · refine r_iconst (v := iI 0) C dX6_hasRoom_60 rfl ?_
        refine r_zret C hr hlk (by decide) dX6_hasRoom_61 (Nat.zero_le _) (Nat.zero_le _) ?_
        exact ⟨congrArg (fun z => some (Value.int (iI z))) (by unfold hasR; first | (rw [b2_1 (by omega)]; done) | (rw [b2_0 (by omega)]; done)), rfl, rfl, rfl⟩
      · refine r_iconst (v := iI 1) C dX6_hasRoom_56 rfl ?_
        refine r_goto (tgt := 61) C dX6_hasRoom_57 (by decide) ?_
        refine r_zret C hr hlk (by decide) dX6_hasRoom_61 (Nat.zero_le _) (Nat.zero_le _) ?_
        exact ⟨congrArg (fun z => some (Value.int (iI z))) (by unfold hasR; first | (rw [b2_1 (by omega)]; done) | (rw [b2_0 (by omega)]; done)), rfl, rfl, rfl⟩
  refine r_iload_n C 0 dX6_hasRoom_12 rfl rfl ?_
  refine n_if_lt (tgt := 33) C dX6_hasRoom_13 (by decide) (by constructor <;> omega) (fun c13 => ?_) (fun c13 => ?_)
  · refine r_iconst (v := iI 0) C dX6_hasRoom_33 rfl ?_
    exact jn34 _ (Or.inl ⟨c13, rfl⟩)
  · have hP := hI.2.2.1 (old a) (Nat.le_refl _) (by omega)
    unfold PkOK at hP
    refine r_aload_n C 1 dX6_hasRoom_16 rfl rfl ?_
    refine r_iload_n C 0 dX6_hasRoom_17 rfl rfl ?_
    refine r_iconst (v := iI 4) C dX6_hasRoom_18 rfl ?_
    refine cV2_PL C (k_X6_of ((old a)) 4 hM (by omega) (by omega) (by omega)) cw_X6_49 (rm_ok rfl rfl (Nat.zero_le _) (Nat.zero_le _)) (Nat.le_of_ble_eq_true rfl) hM.1.1 dX6_hasRoom_19 ?_
    refine n_ldc2 (v := 2) C lc_X6_30 (by decide) dX6_hasRoom_22 ?_
    refine n_lcmp_gt (tgt := 33) C dX6_hasRoom_25 dX6_hasRoom_26 rfl rfl (by decide) (by constructor <;> omega) ⟨by decide, by decide⟩ (fun c25 => ?_) (fun c25 => ?_)
    · refine r_iconst (v := iI 0) C dX6_hasRoom_33 rfl ?_
      exact jn34 _ (Or.inr (Or.inl ⟨c13, c25, rfl⟩))
    · refine r_iconst (v := iI 1) C dX6_hasRoom_29 rfl ?_
      refine r_goto (tgt := 34) C dX6_hasRoom_30 (by decide) ?_
      exact jn34 _ (Or.inr (Or.inr (⟨c13, c25, rfl⟩)))
set_option maxHeartbeats 4000000 in
set_option maxRecDepth 20000 in
theorem k_X6_take {l : Launch} {G : Gd} {base : Nat} {Y : MY} {I : MI} {L : ML} {M : Nat} {a : Sa} {N T : Int} (hI : Inv N T a) {fi n d : Int} (f : Nat) (hM : MLy base Y M) (hf : fi = f) (hf2 : (f : Int) < a 2) (hn : 1 ≤ n ∧ n ≤ 2000) (hd : 0 ≤ d ∧ d ≤ 9999) : Ct l yX6_take cX6_take 7 (some .int) (rmz 2 43) G base [.ref M, .int (iI fi), .int (iI n), .int (iI d)] Y I (rL L (M + 1) a) (EI Y (fun r I' L' => r = a 7 ∧ I' = I ∧ L' = rL L (M + 1) (take a f n d))) := by
  refine Ct.of (own := RX6) (lo := [(0, .ref M), (1, .int (iI fi)), (2, .int (iI n)), (3, .int (iI d))]) (by decide) rfl (Nat.le_of_ble_eq_true rfl) rfl ?_
  intro zp ze zs zm zargs zbl zmt zc C hr hlk hnm
  have hT := hI.1
  unfold TopOK at hT
  have hF := (hI.2.1 f hf2).1
  unfold FlowOK at hF
  obtain ⟨p, hp⟩ := Int.eq_ofNat_of_zero_le (show 0 ≤ a 7 by omega)
  refine r_aload_n C 0 dX6_take_0 rfl rfl ?_
  refine r_getR C fl_X6_7 rfl dX6_take_1 hM.1.1 hM.2.1 ?_
  refine r_bipush (v := iI 7) C dX6_take_4 (by decide) ?_
  refine a_lald C (v := (a 7)) 7 dX6_take_6 hM.1.2.1 ⟨rfl, by decide, by decide⟩ rfl ?_
  refine n_l2i C dX6_take_7 ?_
  refine n_topi (fun x8 ex8 => ?_)
  refine r_istore (lo' := [(4, .int (iI x8)), (0, .ref M), (1, .int (iI fi)), (2, .int (iI n)), (3, .int (iI d))]) C dX6_take_8 (by decide) rfl ?_
  have jn43 : ∀ x43 : Int, ((a 1) ≤ (a (17 + 18 * f + 12)) ∧ x43 = (a (17 + 18 * f + 12))) ∨ ((a (17 + 18 * f + 12)) < (a 1) ∧ x43 = (a 1)) → Bd zp l ze (rmz 2 43) zs zm zargs zbl zmt zc 7 G base (EI Y (fun r I' L' => r = a 7 ∧ I' = I ∧ L' = rL L (M + 1) (take a f n d))) 43 [(4, .int (iI x8)), (0, .ref M), (1, .int (iI fi)), (2, .int (iI n)), (3, .int (iI d))] [.long (lI x43)] Y I (rL L (M + 1) a) 0 0 := by
    intro x43 hx43
    have hs : x43 = tkS a f := by
      unfold tkS
      split <;> omega
    refine r_lstore (lo' := [(5, .long (lI x43)), (4, .int (iI x8)), (0, .ref M), (1, .int (iI fi)), (2, .int (iI n)), (3, .int (iI d))]) C dX6_take_43 (by decide) rfl ?_
    refine r_aload_n C 2 dX6_take_45 rfl rfl ?_
    refine r_getR C fl_X6_7 rfl dX6_take_46 hM.1.1 hM.2.1 ?_
    refine r_iload C 1 dX6_take_49 rfl ?_
    refine r_iconst (v := iI 0) C dX6_take_51 rfl ?_
    refine cS2_PI C (k_X6_packetAt p 0 (by omega) (by omega) (by omega)) cw_X6_46 (rm_ok rfl rfl (Nat.zero_le _) (Nat.zero_le _)) (Nat.le_of_ble_eq_true rfl) dX6_take_52 ?_
    refine r_iload_n C 3 dX6_take_55 rfl rfl ?_
    refine n_i2l C dX6_take_56 (by constructor <;> omega) ?_
    refine a_last C ((125 + 11 * (p % 120) + 0)) dX6_take_57 hM.1.2.1 ⟨congrArg iI (by omega), (by omega), by decide⟩ (fun a57 ea57 => ?_)
    refine r_aload_n C 2 dX6_take_58 rfl rfl ?_
    refine r_getR C fl_X6_7 rfl dX6_take_59 hM.1.1 hM.2.1 ?_
    refine r_iload C 1 dX6_take_62 rfl ?_
    refine r_iconst (v := iI 1) C dX6_take_64 rfl ?_
    refine cS2_PI C (k_X6_packetAt p 1 (by omega) (by omega) (by omega)) cw_X6_46 (rm_ok rfl rfl (Nat.zero_le _) (Nat.zero_le _)) (Nat.le_of_ble_eq_true rfl) dX6_take_65 ?_
    refine r_iload_n C 4 dX6_take_68 rfl rfl ?_
    refine n_i2l C dX6_take_69 (by constructor <;> omega) ?_
    refine a_last C ((125 + 11 * (p % 120) + 1)) dX6_take_70 hM.1.2.1 ⟨congrArg iI (by omega), (by omega), by decide⟩ (fun a70 ea70 => ?_)
    refine r_aload_n C 2 dX6_take_71 rfl rfl ?_
    refine r_getR C fl_X6_7 rfl dX6_take_72 hM.1.1 hM.2.1 ?_
    refine r_iload C 1 dX6_take_75 rfl ?_
    refine r_iconst (v := iI 2) C dX6_take_77 rfl ?_
    refine cS2_PI C (k_X6_packetAt p 2 (by omega) (by omega) (by omega)) cw_X6_46 (rm_ok rfl rfl (Nat.zero_le _) (Nat.zero_le _)) (Nat.le_of_ble_eq_true rfl) dX6_take_78 ?_
    refine r_aload_n C 2 dX6_take_81 rfl rfl ?_
    refine r_getR C fl_X6_7 rfl dX6_take_82 hM.1.1 hM.2.1 ?_
    refine r_iconst (v := iI 0) C dX6_take_85 rfl ?_
    refine a_lald C (v := (a 0)) 0 dX6_take_86 hM.1.2.1 ⟨rfl, by decide, by decide⟩ (by rw [ea70, up1_n (by omega), ea57, up1_n (by omega)]) ?_
    refine a_last C ((125 + 11 * (p % 120) + 2)) dX6_take_87 hM.1.2.1 ⟨congrArg iI (by omega), (by omega), by decide⟩ (fun a87 ea87 => ?_)
    refine r_aload_n C 2 dX6_take_88 rfl rfl ?_
    refine r_getR C fl_X6_7 rfl dX6_take_89 hM.1.1 hM.2.1 ?_
    refine r_iload C 1 dX6_take_92 rfl ?_
    refine r_iconst (v := iI 3) C dX6_take_94 rfl ?_
    refine cS2_PI C (k_X6_packetAt p 3 (by omega) (by omega) (by omega)) cw_X6_46 (rm_ok rfl rfl (Nat.zero_le _) (Nat.zero_le _)) (Nat.le_of_ble_eq_true rfl) dX6_take_95 ?_
    have jn117 : ∀ x117 : Int, (¬ d = 0 ∧ x117 = ((a 0) + d)) ∨ (d = 0 ∧ x117 = (-6)) → Bd zp l ze (rmz 2 43) zs zm zargs zbl zmt zc 7 G base (EI Y (fun r I' L' => r = a 7 ∧ I' = I ∧ L' = rL L (M + 1) (take a f n d))) 117 [(5, .long (lI x43)), (4, .int (iI x8)), (0, .ref M), (1, .int (iI fi)), (2, .int (iI n)), (3, .int (iI d))] [.long (lI x117), .int (iI ((125 + 11 * (p % 120) + 3 : Nat) : Int)), .ref (M + 1)] Y I (rL L (M + 1) a87) 0 0 := by
      intro x117 hx117
      refine a_last C ((125 + 11 * (p % 120) + 3)) dX6_take_117 hM.1.2.1 ⟨congrArg iI (by omega), (by omega), by decide⟩ (fun a117 ea117 => ?_)
      refine r_aload_n C 2 dX6_take_118 rfl rfl ?_
      refine r_getR C fl_X6_7 rfl dX6_take_119 hM.1.1 hM.2.1 ?_
      refine r_iload C 1 dX6_take_122 rfl ?_
      refine r_iconst (v := iI 4) C dX6_take_124 rfl ?_
      refine cS2_PI C (k_X6_packetAt p 4 (by omega) (by omega) (by omega)) cw_X6_46 (rm_ok rfl rfl (Nat.zero_le _) (Nat.zero_le _)) (Nat.le_of_ble_eq_true rfl) dX6_take_125 ?_
      refine r_lconst (v := lI 0) C dX6_take_128 (by decide) ?_
      refine a_last C ((125 + 11 * (p % 120) + 4)) dX6_take_129 hM.1.2.1 ⟨congrArg iI (by omega), (by omega), by decide⟩ (fun a129 ea129 => ?_)
      refine r_aload_n C 2 dX6_take_130 rfl rfl ?_
      refine r_getR C fl_X6_7 rfl dX6_take_131 hM.1.1 hM.2.1 ?_
      refine r_iload C 1 dX6_take_134 rfl ?_
      refine r_iconst (v := iI 5) C dX6_take_136 rfl ?_
      refine cS2_PI C (k_X6_packetAt p 5 (by omega) (by omega) (by omega)) cw_X6_46 (rm_ok rfl rfl (Nat.zero_le _) (Nat.zero_le _)) (Nat.le_of_ble_eq_true rfl) dX6_take_137 ?_
      refine r_lconst (v := lI 0) C dX6_take_140 (by decide) ?_
      refine a_last C ((125 + 11 * (p % 120) + 5)) dX6_take_141 hM.1.2.1 ⟨congrArg iI (by omega), (by omega), by decide⟩ (fun a141 ea141 => ?_)
      refine r_aload_n C 2 dX6_take_142 rfl rfl ?_
      refine r_getR C fl_X6_7 rfl dX6_take_143 hM.1.1 hM.2.1 ?_
      refine r_iload C 1 dX6_take_146 rfl ?_
      refine r_bipush (v := iI 6) C dX6_take_148 (by decide) ?_
      refine cS2_PI C (k_X6_packetAt p 6 (by omega) (by omega) (by omega)) cw_X6_46 (rm_ok rfl rfl (Nat.zero_le _) (Nat.zero_le _)) (Nat.le_of_ble_eq_true rfl) dX6_take_150 ?_
      refine r_lconst (v := lI 0) C dX6_take_153 (by decide) ?_
      refine a_last C ((125 + 11 * (p % 120) + 6)) dX6_take_154 hM.1.2.1 ⟨congrArg iI (by omega), (by omega), by decide⟩ (fun a154 ea154 => ?_)
      refine r_aload_n C 2 dX6_take_155 rfl rfl ?_
      refine r_getR C fl_X6_7 rfl dX6_take_156 hM.1.1 hM.2.1 ?_
      refine r_iload C 1 dX6_take_159 rfl ?_
      refine r_bipush (v := iI 7) C dX6_take_161 (by decide) ?_
      refine cS2_PI C (k_X6_packetAt p 7 (by omega) (by omega) (by omega)) cw_X6_46 (rm_ok rfl rfl (Nat.zero_le _) (Nat.zero_le _)) (Nat.le_of_ble_eq_true rfl) dX6_take_163 ?_
      refine r_lconst (v := lI 0) C dX6_take_166 (by decide) ?_
      refine a_last C ((125 + 11 * (p % 120) + 7)) dX6_take_167 hM.1.2.1 ⟨congrArg iI (by omega), (by omega), by decide⟩ (fun a167 ea167 => ?_)
      refine r_aload_n C 2 dX6_take_168 rfl rfl ?_
      refine r_getR C fl_X6_7 rfl dX6_take_169 hM.1.1 hM.2.1 ?_
      refine r_iload C 1 dX6_take_172 rfl ?_
      refine r_bipush (v := iI 8) C dX6_take_174 (by decide) ?_
      refine cS2_PI C (k_X6_packetAt p 8 (by omega) (by omega) (by omega)) cw_X6_46 (rm_ok rfl rfl (Nat.zero_le _) (Nat.zero_le _)) (Nat.le_of_ble_eq_true rfl) dX6_take_176 ?_
      refine n_ldc2 (v := (-6)) C lc_X6_34 (by decide) dX6_take_179 ?_
      refine a_last C ((125 + 11 * (p % 120) + 8)) dX6_take_182 hM.1.2.1 ⟨congrArg iI (by omega), (by omega), by decide⟩ (fun a182 ea182 => ?_)
      refine r_aload_n C 2 dX6_take_183 rfl rfl ?_
      refine r_getR C fl_X6_7 rfl dX6_take_184 hM.1.1 hM.2.1 ?_
      refine r_iload C 1 dX6_take_187 rfl ?_
      refine r_bipush (v := iI 9) C dX6_take_189 (by decide) ?_
      refine cS2_PI C (k_X6_packetAt p 9 (by omega) (by omega) (by omega)) cw_X6_46 (rm_ok rfl rfl (Nat.zero_le _) (Nat.zero_le _)) (Nat.le_of_ble_eq_true rfl) dX6_take_191 ?_
      refine r_lload C 0 dX6_take_194 rfl ?_
      refine a_last C ((125 + 11 * (p % 120) + 9)) dX6_take_196 hM.1.2.1 ⟨congrArg iI (by omega), (by omega), by decide⟩ (fun a196 ea196 => ?_)
      refine r_aload_n C 2 dX6_take_197 rfl rfl ?_
      refine r_getR C fl_X6_7 rfl dX6_take_198 hM.1.1 hM.2.1 ?_
      refine r_iload C 1 dX6_take_201 rfl ?_
      refine r_bipush (v := iI 10) C dX6_take_203 (by decide) ?_
      refine cS2_PI C (k_X6_packetAt p 10 (by omega) (by omega) (by omega)) cw_X6_46 (rm_ok rfl rfl (Nat.zero_le _) (Nat.zero_le _)) (Nat.le_of_ble_eq_true rfl) dX6_take_205 ?_
      refine r_lconst (v := lI 0) C dX6_take_208 (by decide) ?_
      refine a_last C ((125 + 11 * (p % 120) + 10)) dX6_take_209 hM.1.2.1 ⟨congrArg iI (by omega), (by omega), by decide⟩ (fun a209 ea209 => ?_)
      refine r_aload_n C 2 dX6_take_210 rfl rfl ?_
      refine r_getR C fl_X6_7 rfl dX6_take_211 hM.1.1 hM.2.1 ?_
      refine r_iload_n C 3 dX6_take_214 rfl rfl ?_
      refine r_bipush (v := iI 12) C dX6_take_215 (by decide) ?_
      refine cS2_PI C (k_X6_flowAt ) cw_X6_40 (rm_ok rfl rfl (Nat.zero_le _) (Nat.zero_le _)) (Nat.le_of_ble_eq_true rfl) dX6_take_217 ?_
      refine r_lload C 0 dX6_take_220 rfl ?_
      refine r_iload_n C 4 dX6_take_222 rfl rfl ?_
      refine n_i2l C dX6_take_223 (by constructor <;> omega) ?_
      refine n_ldc2 (v := 720720) C lc_X6_81 (by decide) dX6_take_224 ?_
      refine n_lmul C dX6_take_227 ?_
      refine r_aload_n C 2 dX6_take_228 rfl rfl ?_
      refine r_iload_n C 3 dX6_take_229 rfl rfl ?_
      refine r_iconst (v := iI 0) C dX6_take_230 rfl ?_
      refine cV2_PL C (k_X6_ofFlow f 0 hM (by omega) (by omega) (by omega)) cw_X6_53 (rm_ok rfl rfl (Nat.zero_le _) (Nat.zero_le _)) (Nat.le_of_ble_eq_true rfl) hM.1.1 dX6_take_231 ?_
      refine n_eql (y := (a (17 + 18 * f + 0))) (by rw [ea209, up1_n (by omega), ea196, up1_n (by omega), ea182, up1_n (by omega), ea167, up1_n (by omega), ea154, up1_n (by omega), ea141, up1_n (by omega), ea129, up1_n (by omega), ea117, up1_n (by omega), ea87, up1_n (by omega), ea70, up1_n (by omega), ea57, up1_n (by omega)]) ?_
      refine n_ldiv C dX6_take_234 (by omega) (by omega) ?_
      refine n_ladd C dX6_take_235 ?_
      refine a_last C ((17 + 18 * f + 12)) dX6_take_236 hM.1.2.1 ⟨congrArg iI (by omega), (by omega), by decide⟩ (fun a236 ea236 => ?_)
      refine r_aload_n C 2 dX6_take_237 rfl rfl ?_
      refine r_getR C fl_X6_7 rfl dX6_take_238 hM.1.1 hM.2.1 ?_
      refine r_iload_n C 3 dX6_take_241 rfl rfl ?_
      refine r_bipush (v := iI 14) C dX6_take_242 (by decide) ?_
      refine cS2_PI C (k_X6_flowAt ) cw_X6_40 (rm_ok rfl rfl (Nat.zero_le _) (Nat.zero_le _)) (Nat.le_of_ble_eq_true rfl) dX6_take_244 ?_
      refine r_dup2 C dX6_take_247 rfl rfl ?_
      refine a_lald C (v := (a (17 + 18 * f + 14))) ((17 + 18 * f + 14)) dX6_take_248 hM.1.2.1 ⟨congrArg iI (by omega), (by omega), by decide⟩ (by rw [ea236, up1_n (by omega), ea209, up1_n (by omega), ea196, up1_n (by omega), ea182, up1_n (by omega), ea167, up1_n (by omega), ea154, up1_n (by omega), ea141, up1_n (by omega), ea129, up1_n (by omega), ea117, up1_n (by omega), ea87, up1_n (by omega), ea70, up1_n (by omega), ea57, up1_n (by omega)]) ?_
      refine r_iload_n C 4 dX6_take_249 rfl rfl ?_
      refine n_i2l C dX6_take_250 (by constructor <;> omega) ?_
      refine n_ldc2 (v := 720720) C lc_X6_81 (by decide) dX6_take_251 ?_
      refine n_lmul C dX6_take_254 ?_
      refine n_ladd C dX6_take_255 ?_
      refine a_last C ((17 + 18 * f + 14)) dX6_take_256 hM.1.2.1 ⟨congrArg iI (by omega), (by omega), by decide⟩ (fun a256 ea256 => ?_)
      refine r_aload_n C 2 dX6_take_257 rfl rfl ?_
      refine r_getR C fl_X6_7 rfl dX6_take_258 hM.1.1 hM.2.1 ?_
      refine r_iload_n C 3 dX6_take_261 rfl rfl ?_
      refine r_bipush (v := iI 17) C dX6_take_262 (by decide) ?_
      refine cS2_PI C (k_X6_flowAt ) cw_X6_40 (rm_ok rfl rfl (Nat.zero_le _) (Nat.zero_le _)) (Nat.le_of_ble_eq_true rfl) dX6_take_264 ?_
      refine r_dup2 C dX6_take_267 rfl rfl ?_
      refine a_lald C (v := (a (17 + 18 * f + 17))) ((17 + 18 * f + 17)) dX6_take_268 hM.1.2.1 ⟨congrArg iI (by omega), (by omega), by decide⟩ (by rw [ea256, up1_n (by omega), ea236, up1_n (by omega), ea209, up1_n (by omega), ea196, up1_n (by omega), ea182, up1_n (by omega), ea167, up1_n (by omega), ea154, up1_n (by omega), ea141, up1_n (by omega), ea129, up1_n (by omega), ea117, up1_n (by omega), ea87, up1_n (by omega), ea70, up1_n (by omega), ea57, up1_n (by omega)]) ?_
      refine r_lconst (v := lI 1) C dX6_take_269 (by decide) ?_
      refine n_ladd C dX6_take_270 ?_
      refine a_last C ((17 + 18 * f + 17)) dX6_take_271 hM.1.2.1 ⟨congrArg iI (by omega), (by omega), by decide⟩ (fun a271 ea271 => ?_)
      refine r_aload_n C 2 dX6_take_272 rfl rfl ?_
      refine r_getR C fl_X6_7 rfl dX6_take_273 hM.1.1 hM.2.1 ?_
      refine r_iload_n C 3 dX6_take_276 rfl rfl ?_
      refine r_bipush (v := iI 11) C dX6_take_277 (by decide) ?_
      refine cS2_PI C (k_X6_flowAt ) cw_X6_40 (rm_ok rfl rfl (Nat.zero_le _) (Nat.zero_le _)) (Nat.le_of_ble_eq_true rfl) dX6_take_279 ?_
      refine r_dup2 C dX6_take_282 rfl rfl ?_
      refine a_lald C (v := (a (17 + 18 * f + 11))) ((17 + 18 * f + 11)) dX6_take_283 hM.1.2.1 ⟨congrArg iI (by omega), (by omega), by decide⟩ (by rw [ea271, up1_n (by omega), ea256, up1_n (by omega), ea236, up1_n (by omega), ea209, up1_n (by omega), ea196, up1_n (by omega), ea182, up1_n (by omega), ea167, up1_n (by omega), ea154, up1_n (by omega), ea141, up1_n (by omega), ea129, up1_n (by omega), ea117, up1_n (by omega), ea87, up1_n (by omega), ea70, up1_n (by omega), ea57, up1_n (by omega)]) ?_
      refine r_lconst (v := lI 1) C dX6_take_284 (by decide) ?_
      refine n_ladd C dX6_take_285 ?_
      refine a_last C ((17 + 18 * f + 11)) dX6_take_286 hM.1.2.1 ⟨congrArg iI (by omega), (by omega), by decide⟩ (fun a286 ea286 => ?_)
      refine r_aload_n C 2 dX6_take_287 rfl rfl ?_
      refine r_getR C fl_X6_7 rfl dX6_take_288 hM.1.1 hM.2.1 ?_
      refine r_bipush (v := iI 7) C dX6_take_291 (by decide) ?_
      refine r_dup2 C dX6_take_293 rfl rfl ?_
      refine a_lald C (v := (a 7)) 7 dX6_take_294 hM.1.2.1 ⟨rfl, by decide, by decide⟩ (by rw [ea286, up1_n (by omega), ea271, up1_n (by omega), ea256, up1_n (by omega), ea236, up1_n (by omega), ea209, up1_n (by omega), ea196, up1_n (by omega), ea182, up1_n (by omega), ea167, up1_n (by omega), ea154, up1_n (by omega), ea141, up1_n (by omega), ea129, up1_n (by omega), ea117, up1_n (by omega), ea87, up1_n (by omega), ea70, up1_n (by omega), ea57, up1_n (by omega)]) ?_
      refine r_lconst (v := lI 1) C dX6_take_295 (by decide) ?_
      refine n_ladd C dX6_take_296 ?_
      refine a_last C 7 dX6_take_297 hM.1.2.1 ⟨rfl, by decide, by decide⟩ (fun a297 ea297 => ?_)
      refine r_iload C 1 dX6_take_298 rfl ?_
      refine r_iret C hr hlk dX6_take_300 (Nat.zero_le _) (Nat.zero_le _) ?_
      have hd2 : x117 = if d = 0 then -6 else a 0 + d := by
        split <;> omega
      subst ea297
      subst ea286
      subst ea271
      subst ea256
      subst ea236
      subst ea209
      subst ea196
      subst ea182
      subst ea167
      subst ea154
      subst ea141
      subst ea129
      subst ea117
      subst ea87
      subst ea70
      subst ea57
      refine ⟨_, rfl, rfl, ex8, rfl, ?_⟩
      unfold take
      rw [show (a 7).toNat = p by omega]
      subst hd2
      subst hs
      subst hf
      rfl
    refine r_iload_n C 5 dX6_take_98 rfl rfl ?_
    refine n_if_ne (tgt := 108) C dX6_take_99 (by decide) (by constructor <;> omega) (fun c99 => ?_) (fun c99 => ?_)
    · refine r_aload_n C 2 dX6_take_108 rfl rfl ?_
      refine r_getR C fl_X6_7 rfl dX6_take_109 hM.1.1 hM.2.1 ?_
      refine r_iconst (v := iI 0) C dX6_take_112 rfl ?_
      refine a_lald C (v := (a 0)) 0 dX6_take_113 hM.1.2.1 ⟨rfl, by decide, by decide⟩ (by rw [ea87, up1_n (by omega), ea70, up1_n (by omega), ea57, up1_n (by omega)]) ?_
      refine r_iload_n C 5 dX6_take_114 rfl rfl ?_
      refine n_i2l C dX6_take_115 (by constructor <;> omega) ?_
      refine n_ladd C dX6_take_116 ?_
      exact jn117 _ (Or.inl ⟨c99, rfl⟩)
    · refine n_ldc2 (v := (-6)) C lc_X6_34 (by decide) dX6_take_102 ?_
      refine r_goto (tgt := 117) C dX6_take_105 (by decide) ?_
      exact jn117 _ (Or.inr (⟨c99, rfl⟩))
  refine r_aload_n C 1 dX6_take_10 rfl rfl ?_
  refine r_getR C fl_X6_7 rfl dX6_take_11 hM.1.1 hM.2.1 ?_
  refine r_iconst (v := iI 1) C dX6_take_14 rfl ?_
  refine a_lald C (v := (a 1)) 1 dX6_take_15 hM.1.2.1 ⟨rfl, by decide, by decide⟩ rfl ?_
  refine r_aload_n C 1 dX6_take_16 rfl rfl ?_
  refine r_iload_n C 2 dX6_take_17 rfl rfl ?_
  refine r_bipush (v := iI 12) C dX6_take_18 (by decide) ?_
  refine cV2_PL C (k_X6_ofFlow f 12 hM (by omega) (by omega) (by omega)) cw_X6_53 (rm_ok rfl rfl (Nat.zero_le _) (Nat.zero_le _)) (Nat.le_of_ble_eq_true rfl) hM.1.1 dX6_take_20 ?_
  refine n_lcmp_le (tgt := 36) C dX6_take_23 dX6_take_24 rfl rfl (by decide) (by constructor <;> omega) (by constructor <;> omega) (fun c23 => ?_) (fun c23 => ?_)
  · refine r_aload_n C 1 dX6_take_36 rfl rfl ?_
    refine r_iload_n C 2 dX6_take_37 rfl rfl ?_
    refine r_bipush (v := iI 12) C dX6_take_38 (by decide) ?_
    refine cV2_PL C (k_X6_ofFlow f 12 hM (by omega) (by omega) (by omega)) cw_X6_53 (rm_ok rfl rfl (Nat.zero_le _) (Nat.zero_le _)) (Nat.le_of_ble_eq_true rfl) hM.1.1 dX6_take_40 ?_
    exact jn43 _ (Or.inl ⟨c23, rfl⟩)
  · refine r_aload_n C 1 dX6_take_27 rfl rfl ?_
    refine r_getR C fl_X6_7 rfl dX6_take_28 hM.1.1 hM.2.1 ?_
    refine r_iconst (v := iI 1) C dX6_take_31 rfl ?_
    refine a_lald C (v := (a 1)) 1 dX6_take_32 hM.1.2.1 ⟨rfl, by decide, by decide⟩ rfl ?_
    refine r_goto (tgt := 43) C dX6_take_33 (by decide) ?_
    exact jn43 _ (Or.inr (⟨c23, rfl⟩))
set_option maxHeartbeats 4000000 in
set_option maxRecDepth 20000 in
theorem k_X6_addFlow {l : Launch} {G : Gd} {base : Nat} {Y : MY} {I : MI} {L : ML} {M : Nat} {a : Sa} {N T : Int} (hI : Inv N T a) {w : Int} (hM : MLy base Y M) (hw : -2147483648 ≤ w ∧ w < 2147483648) : Ct l yX6_addFlow cX6_addFlow 4 (some .int) (rmz 1 25) G base [.ref M, .int (iI w)] Y I (rL L (M + 1) a) (EI Y (fun r I' L' => I' = I ∧ ((¬ (1 ≤ w ∧ w ≤ 16) ∧ r = -2 ∧ L' = rL L (M + 1) a) ∨ ((1 ≤ w ∧ w ≤ 16) ∧ a 2 = 6 ∧ r = -4 ∧ L' = rL L (M + 1) a) ∨ ((1 ≤ w ∧ w ≤ 16) ∧ a 2 < 6 ∧ r = a 2 ∧ L' = rL L (M + 1) (addF a (a 2).toNat w))))) := by
  refine Ct.of (own := RX6) (lo := [(0, .ref M), (1, .int (iI w))]) (by decide) rfl (Nat.le_of_ble_eq_true rfl) rfl ?_
  intro zp ze zs zm zargs zbl zmt zc C hr hlk hnm
  have hT := hI.1
  unfold TopOK at hT
  obtain ⟨f, hfa⟩ := Int.eq_ofNat_of_zero_le (show 0 ≤ a 2 by omega)
  refine r_iload_n C 1 dX6_addFlow_0 rfl rfl ?_
  refine n_i2l C dX6_addFlow_1 (by constructor <;> omega) ?_
  refine r_lconst (v := lI 1) C dX6_addFlow_2 (by decide) ?_
  refine n_ldc2 (v := 16) C lc_X6_64 (by decide) dX6_addFlow_3 ?_
  refine cS3_PI C (k_X6_in (by constructor <;> omega) ⟨by decide, by decide⟩ ⟨by decide, by decide⟩) cw_X6_36 (rm_ok rfl rfl (Nat.zero_le _) (Nat.zero_le _)) (Nat.le_of_ble_eq_true rfl) dX6_addFlow_6 ?_
  refine n_if_ne (tgt := 15) C dX6_addFlow_9 (by decide) b2_i (fun c9 => ?_) (fun c9 => ?_)
  · refine r_aload_n C 0 dX6_addFlow_15 rfl rfl ?_
    refine r_getR C fl_X6_7 rfl dX6_addFlow_16 hM.1.1 hM.2.1 ?_
    refine r_iconst (v := iI 2) C dX6_addFlow_19 rfl ?_
    refine a_lald C (v := (a 2)) 2 dX6_addFlow_20 hM.1.2.1 ⟨rfl, by decide, by decide⟩ rfl ?_
    refine n_ldc2 (v := 6) C lc_X6_66 (by decide) dX6_addFlow_21 ?_
    refine n_lcmp_ne (tgt := 31) C dX6_addFlow_24 dX6_addFlow_25 rfl rfl (by decide) (by constructor <;> omega) ⟨by decide, by decide⟩ (fun c24 => ?_) (fun c24 => ?_)
    · refine r_aload_n C 0 dX6_addFlow_31 rfl rfl ?_
      refine r_getR C fl_X6_7 rfl dX6_addFlow_32 hM.1.1 hM.2.1 ?_
      refine r_iconst (v := iI 2) C dX6_addFlow_35 rfl ?_
      refine a_lald C (v := (a 2)) 2 dX6_addFlow_36 hM.1.2.1 ⟨rfl, by decide, by decide⟩ rfl ?_
      refine n_l2i C dX6_addFlow_37 ?_
      refine n_topi (fun x38 ex38 => ?_)
      refine r_istore_n (lo' := [(2, .int (iI x38)), (0, .ref M), (1, .int (iI w))]) C dX6_addFlow_38 rfl (by decide) rfl ?_
      refine r_iconst (v := iI 0) C dX6_addFlow_39 rfl ?_
      refine r_istore_n (lo' := [(3, .int (iI 0)), (2, .int (iI x38)), (0, .ref M), (1, .int (iI w))]) C dX6_addFlow_40 rfl (by decide) rfl ?_
      have lp41 : ∀ (k : Nat) (x3 : Int) (i : Nat) (a1 : Sa) (hx3 : x3 = i) (hi : i ≤ 18) (ha1 : a1 = zeF a f i), 18 - i = k → Bd zp l ze (rmz 1 25) zs zm zargs zbl zmt zc 4 G base (EI Y (fun r I' L' => I' = I ∧ ((¬ (1 ≤ w ∧ w ≤ 16) ∧ r = -2 ∧ L' = rL L (M + 1) a) ∨ ((1 ≤ w ∧ w ≤ 16) ∧ a 2 = 6 ∧ r = -4 ∧ L' = rL L (M + 1) a) ∨ ((1 ≤ w ∧ w ≤ 16) ∧ a 2 < 6 ∧ r = a 2 ∧ L' = rL L (M + 1) (addF a (a 2).toNat w))))) 41 [(3, .int (iI x3)), (2, .int (iI x38)), (0, .ref M), (1, .int (iI w))] [] Y I (rL L (M + 1) a1) 0 0 := by
        intro k
        induction k using Nat.strongRecOn with
        | _ k ih =>
        intro x3 i a1 hx3 hi ha1 hk
        refine r_iload_n C 0 dX6_addFlow_41 rfl rfl ?_
        refine r_bipush (v := iI 18) C dX6_addFlow_42 (by decide) ?_
        refine n_icmp_ge (tgt := 64) C dX6_addFlow_44 (by decide) (by constructor <;> omega) ⟨by decide, by decide⟩ (fun c44 => ?_) (fun c44 => ?_)
        · have hi18 : i = 18 := by omega
          subst hi18
          refine r_aload_n C 2 dX6_addFlow_64 rfl rfl ?_
          refine r_getR C fl_X6_7 rfl dX6_addFlow_65 hM.1.1 hM.2.1 ?_
          refine r_iload_n C 1 dX6_addFlow_68 rfl rfl ?_
          refine r_iconst (v := iI 0) C dX6_addFlow_69 rfl ?_
          refine cS2_PI C (k_X6_flowAt ) cw_X6_40 (rm_ok rfl rfl (Nat.zero_le _) (Nat.zero_le _)) (Nat.le_of_ble_eq_true rfl) dX6_addFlow_70 ?_
          refine r_iload_n C 3 dX6_addFlow_73 rfl rfl ?_
          refine n_i2l C dX6_addFlow_74 (by constructor <;> omega) ?_
          refine a_last C ((17 + 18 * f + 0)) dX6_addFlow_75 hM.1.2.1 ⟨congrArg iI (by omega), (by omega), by decide⟩ (fun a75 ea75 => ?_)
          refine r_aload_n C 2 dX6_addFlow_76 rfl rfl ?_
          refine r_getR C fl_X6_7 rfl dX6_addFlow_77 hM.1.1 hM.2.1 ?_
          refine r_iload_n C 1 dX6_addFlow_80 rfl rfl ?_
          refine r_iconst (v := iI 1) C dX6_addFlow_81 rfl ?_
          refine cS2_PI C (k_X6_flowAt ) cw_X6_40 (rm_ok rfl rfl (Nat.zero_le _) (Nat.zero_le _)) (Nat.le_of_ble_eq_true rfl) dX6_addFlow_82 ?_
          refine n_ldc2 (v := 20) C lc_X6_68 (by decide) dX6_addFlow_85 ?_
          refine a_last C ((17 + 18 * f + 1)) dX6_addFlow_88 hM.1.2.1 ⟨congrArg iI (by omega), (by omega), by decide⟩ (fun a88 ea88 => ?_)
          refine r_aload_n C 2 dX6_addFlow_89 rfl rfl ?_
          refine r_getR C fl_X6_7 rfl dX6_addFlow_90 hM.1.1 hM.2.1 ?_
          refine r_iload_n C 1 dX6_addFlow_93 rfl rfl ?_
          refine r_iconst (v := iI 4) C dX6_addFlow_94 rfl ?_
          refine cS2_PI C (k_X6_flowAt ) cw_X6_40 (rm_ok rfl rfl (Nat.zero_le _) (Nat.zero_le _)) (Nat.le_of_ble_eq_true rfl) dX6_addFlow_95 ?_
          refine n_ldc2 (v := 2) C lc_X6_30 (by decide) dX6_addFlow_98 ?_
          refine a_last C ((17 + 18 * f + 4)) dX6_addFlow_101 hM.1.2.1 ⟨congrArg iI (by omega), (by omega), by decide⟩ (fun a101 ea101 => ?_)
          refine r_aload_n C 2 dX6_addFlow_102 rfl rfl ?_
          refine r_getR C fl_X6_7 rfl dX6_addFlow_103 hM.1.1 hM.2.1 ?_
          refine r_iconst (v := iI 2) C dX6_addFlow_106 rfl ?_
          refine r_dup2 C dX6_addFlow_107 rfl rfl ?_
          refine a_lald C (v := (a1 2)) 2 dX6_addFlow_108 hM.1.2.1 ⟨rfl, by decide, by decide⟩ (by rw [ea101, up1_n (by omega), ea88, up1_n (by omega), ea75, up1_n (by omega)]) ?_
          refine r_lconst (v := lI 1) C dX6_addFlow_109 (by decide) ?_
          refine n_ladd C dX6_addFlow_110 ?_
          refine a_last C 2 dX6_addFlow_111 hM.1.2.1 ⟨rfl, by decide, by decide⟩ (fun a111 ea111 => ?_)
          refine r_iload_n C 1 dX6_addFlow_112 rfl rfl ?_
          refine r_iret C hr hlk dX6_addFlow_113 (Nat.zero_le _) (Nat.zero_le _) ?_
          rw [b2_eq0, Classical.not_not] at c9
          have h2 : a1 2 = a 2 := by rw [ha1]; exact zeF_n 18 (by omega)
          subst ea111
          subst ea101
          subst ea88
          subst ea75
          refine ⟨_, rfl, rfl, rfl, Or.inr (Or.inr ⟨c9, by omega, by omega, ?_⟩)⟩
          unfold addF
          rw [show (a 2).toNat = f by omega, h2, ← ha1]
        · refine r_aload_n C 2 dX6_addFlow_47 rfl rfl ?_
          refine r_getR C fl_X6_7 rfl dX6_addFlow_48 hM.1.1 hM.2.1 ?_
          refine r_iload_n C 1 dX6_addFlow_51 rfl rfl ?_
          refine r_iload_n C 0 dX6_addFlow_52 rfl rfl ?_
          refine cS2_PI C (k_X6_flowAt ) cw_X6_40 (rm_ok rfl rfl (Nat.zero_le _) (Nat.zero_le _)) (Nat.le_of_ble_eq_true rfl) dX6_addFlow_53 ?_
          refine r_lconst (v := lI 0) C dX6_addFlow_56 (by decide) ?_
          refine a_last C ((17 + 18 * f + i)) dX6_addFlow_57 hM.1.2.1 ⟨congrArg iI (by omega), (by omega), by decide⟩ (fun a57 ea57 => ?_)
          refine n_iinc (lo' := [(3, .int (iI (x3 + 1))), (2, .int (iI x38)), (0, .ref M), (1, .int (iI w))]) C 0 dX6_addFlow_58 rfl rfl (by decide) rfl ?_
          refine r_goto (tgt := 41) C dX6_addFlow_61 (by decide) ?_
          exact ih _ (by first | omega | (rw [← hk]; omega)) ((x3 + 1)) (i + 1) a57 (by omega) (by omega) (by rw [ea57, ha1]; rfl) rfl
      exact lp41 _ 0 0 a rfl (by omega) rfl rfl
    · refine r_bipush (v := iI (-4)) C dX6_addFlow_28 (by decide) ?_
      refine r_iret C hr hlk dX6_addFlow_30 (Nat.zero_le _) (Nat.zero_le _) ?_
      rw [b2_eq0, Classical.not_not] at c9
      exact ⟨_, rfl, rfl, rfl, Or.inr (Or.inl ⟨c9, c24, rfl, rfl⟩)⟩
  · refine r_bipush (v := iI (-2)) C dX6_addFlow_12 (by decide) ?_
    refine r_iret C hr hlk dX6_addFlow_14 (Nat.zero_le _) (Nat.zero_le _) ?_
    rw [b2_eq0] at c9
    exact ⟨_, rfl, rfl, rfl, Or.inl ⟨c9, rfl, rfl⟩⟩
set_option maxHeartbeats 4000000 in
set_option maxRecDepth 20000 in
theorem k_X6_isSetting {l : Launch} {G : Gd} {base : Nat} {Y : MY} {I : MI} {L : ML} {k v : Int} (hk : -2147483648 ≤ k ∧ k < 2147483648) (hv : -2147483648 ≤ v ∧ v < 2147483648) : Ct l yX6_isSetting cX6_isSetting 2 (some .boolean) (rmz 1 25) G base [.int (iI k), .int (iI v)] Y I L (PI (setB k v) Y I L) := by
  refine Ct.of (own := RX6) (lo := [(0, .int (iI k)), (1, .int (iI v))]) (by decide) rfl (Nat.le_of_ble_eq_true rfl) rfl ?_
  intro zp ze zs zm zargs zbl zmt zc C hr hlk hnm
  refine r_iload_n C 0 dX6_isSetting_0 rfl rfl ?_
  rcases sw_split (x := k) (lw := 0) (n := 4) (by constructor <;> omega) with c1 | ⟨j1, c1, q1⟩
  · refine r_tableOut (tgt := 62) C dX6_isSetting_1 (by first | exact c1 | exact c1.imp id id) (by decide) ?_
    have k1 := c1
    rw [iI_toInt (by omega) (by omega)] at k1
    refine r_iload_n C 0 dX6_isSetting_62 rfl rfl ?_
    refine r_iconst (v := iI 4) C dX6_isSetting_63 rfl ?_
    refine n_icmp_ne (tgt := 83) C dX6_isSetting_64 (by decide) (by constructor <;> omega) ⟨by decide, by decide⟩ (fun c64 => ?_) (fun c64 => ?_)
    · refine r_iconst (v := iI 0) C dX6_isSetting_83 rfl ?_
      refine r_zret C hr hlk (by decide) dX6_isSetting_84 (Nat.zero_le _) (Nat.zero_le _) ?_
      exact ⟨congrArg (fun z => some (Value.int (iI z))) (by
          by_cases hc : setOK k v
          · have e := setB_1 hc
            unfold setOK at hc
            first | (rw [e]; done) | (rw [e, b2_1 (by omega)]; done) | (exfalso; rw [b2_eq0] at c76; omega) | (exfalso; omega)
          · have e := setB_0 hc
            unfold setOK at hc
            first | (rw [e]; done) | (rw [e, b2_0 (by omega)]; done) | (exfalso; rw [b2_eq0, Classical.not_not] at c76; omega) | (exfalso; omega)), rfl, rfl, rfl⟩
    · refine r_iload_n C 1 dX6_isSetting_67 rfl rfl ?_
      refine n_i2l C dX6_isSetting_68 (by constructor <;> omega) ?_
      refine r_lconst (v := lI 0) C dX6_isSetting_69 (by decide) ?_
      refine n_ldc2 (v := 2) C lc_X6_30 (by decide) dX6_isSetting_70 ?_
      refine cS3_PI C (k_X6_in (by constructor <;> omega) ⟨by decide, by decide⟩ ⟨by decide, by decide⟩) cw_X6_36 (rm_ok rfl rfl (Nat.zero_le _) (Nat.zero_le _)) (Nat.le_of_ble_eq_true rfl) dX6_isSetting_73 ?_
      refine n_if_eq (tgt := 83) C dX6_isSetting_76 (by decide) b2_i (fun c76 => ?_) (fun c76 => ?_)
      · refine r_iconst (v := iI 0) C dX6_isSetting_83 rfl ?_
        refine r_zret C hr hlk (by decide) dX6_isSetting_84 (Nat.zero_le _) (Nat.zero_le _) ?_
        exact ⟨congrArg (fun z => some (Value.int (iI z))) (by
            by_cases hc : setOK k v
            · have e := setB_1 hc
              unfold setOK at hc
              first | (rw [e]; done) | (rw [e, b2_1 (by omega)]; done) | (exfalso; rw [b2_eq0] at c76; omega) | (exfalso; omega)
            · have e := setB_0 hc
              unfold setOK at hc
              first | (rw [e]; done) | (rw [e, b2_0 (by omega)]; done) | (exfalso; rw [b2_eq0, Classical.not_not] at c76; omega) | (exfalso; omega)), rfl, rfl, rfl⟩
      · refine r_iconst (v := iI 1) C dX6_isSetting_79 rfl ?_
        refine r_goto (tgt := 84) C dX6_isSetting_80 (by decide) ?_
        refine r_zret C hr hlk (by decide) dX6_isSetting_84 (Nat.zero_le _) (Nat.zero_le _) ?_
        exact ⟨congrArg (fun z => some (Value.int (iI z))) (by
            by_cases hc : setOK k v
            · have e := setB_1 hc
              unfold setOK at hc
              first | (rw [e]; done) | (rw [e, b2_1 (by omega)]; done) | (exfalso; rw [b2_eq0] at c76; omega) | (exfalso; omega)
            · have e := setB_0 hc
              unfold setOK at hc
              first | (rw [e]; done) | (rw [e, b2_0 (by omega)]; done) | (exfalso; rw [b2_eq0, Classical.not_not] at c76; omega) | (exfalso; omega)), rfl, rfl, rfl⟩
  · match j1, c1, q1 with
    | 0, c1, q1 =>
      refine n_eqi (y := 0) q1 ?_
      refine r_tableIn (tgt := 32) C dX6_isSetting_1 (by decide) (by decide) (off := 31) (by decide) (by decide) ?_
      refine r_iload_n C 1 dX6_isSetting_32 rfl rfl ?_
      refine n_i2l C dX6_isSetting_33 (by constructor <;> omega) ?_
      refine r_lconst (v := lI 1) C dX6_isSetting_34 (by decide) ?_
      refine n_ldc2 (v := 16) C lc_X6_64 (by decide) dX6_isSetting_35 ?_
      refine cS3_PI C (k_X6_in (by constructor <;> omega) ⟨by decide, by decide⟩ ⟨by decide, by decide⟩) cw_X6_36 (rm_ok rfl rfl (Nat.zero_le _) (Nat.zero_le _)) (Nat.le_of_ble_eq_true rfl) dX6_isSetting_38 ?_
      refine r_zret C hr hlk b2_z dX6_isSetting_41 (Nat.zero_le _) (Nat.zero_le _) ?_
      exact ⟨congrArg (fun z => some (Value.int (iI z))) (by
          by_cases hc : setOK k v
          · have e := setB_1 hc
            unfold setOK at hc
            first | (rw [e]; done) | (rw [e, b2_1 (by omega)]; done) | (exfalso; rw [b2_eq0] at c76; omega) | (exfalso; omega)
          · have e := setB_0 hc
            unfold setOK at hc
            first | (rw [e]; done) | (rw [e, b2_0 (by omega)]; done) | (exfalso; rw [b2_eq0, Classical.not_not] at c76; omega) | (exfalso; omega)), rfl, rfl, rfl⟩
    | 1, c1, q1 =>
      refine n_eqi (y := 1) q1 ?_
      refine r_tableIn (tgt := 42) C dX6_isSetting_1 (by decide) (by decide) (off := 41) (by decide) (by decide) ?_
      refine r_iload_n C 1 dX6_isSetting_42 rfl rfl ?_
      refine n_i2l C dX6_isSetting_43 (by constructor <;> omega) ?_
      refine r_lconst (v := lI 1) C dX6_isSetting_44 (by decide) ?_
      refine n_ldc2 (v := 20) C lc_X6_68 (by decide) dX6_isSetting_45 ?_
      refine cS3_PI C (k_X6_in (by constructor <;> omega) ⟨by decide, by decide⟩ ⟨by decide, by decide⟩) cw_X6_36 (rm_ok rfl rfl (Nat.zero_le _) (Nat.zero_le _)) (Nat.le_of_ble_eq_true rfl) dX6_isSetting_48 ?_
      refine r_zret C hr hlk b2_z dX6_isSetting_51 (Nat.zero_le _) (Nat.zero_le _) ?_
      exact ⟨congrArg (fun z => some (Value.int (iI z))) (by
          by_cases hc : setOK k v
          · have e := setB_1 hc
            unfold setOK at hc
            first | (rw [e]; done) | (rw [e, b2_1 (by omega)]; done) | (exfalso; rw [b2_eq0] at c76; omega) | (exfalso; omega)
          · have e := setB_0 hc
            unfold setOK at hc
            first | (rw [e]; done) | (rw [e, b2_0 (by omega)]; done) | (exfalso; rw [b2_eq0, Classical.not_not] at c76; omega) | (exfalso; omega)), rfl, rfl, rfl⟩
    | 2, c1, q1 =>
      refine n_eqi (y := 2) q1 ?_
      refine r_tableIn (tgt := 52) C dX6_isSetting_1 (by decide) (by decide) (off := 51) (by decide) (by decide) ?_
      refine r_iload_n C 1 dX6_isSetting_52 rfl rfl ?_
      refine n_i2l C dX6_isSetting_53 (by constructor <;> omega) ?_
      refine r_lconst (v := lI 0) C dX6_isSetting_54 (by decide) ?_
      refine n_ldc2 (v := 1000) C lc_X6_70 (by decide) dX6_isSetting_55 ?_
      refine cS3_PI C (k_X6_in (by constructor <;> omega) ⟨by decide, by decide⟩ ⟨by decide, by decide⟩) cw_X6_36 (rm_ok rfl rfl (Nat.zero_le _) (Nat.zero_le _)) (Nat.le_of_ble_eq_true rfl) dX6_isSetting_58 ?_
      refine r_zret C hr hlk b2_z dX6_isSetting_61 (Nat.zero_le _) (Nat.zero_le _) ?_
      exact ⟨congrArg (fun z => some (Value.int (iI z))) (by
          by_cases hc : setOK k v
          · have e := setB_1 hc
            unfold setOK at hc
            first | (rw [e]; done) | (rw [e, b2_1 (by omega)]; done) | (exfalso; rw [b2_eq0] at c76; omega) | (exfalso; omega)
          · have e := setB_0 hc
            unfold setOK at hc
            first | (rw [e]; done) | (rw [e, b2_0 (by omega)]; done) | (exfalso; rw [b2_eq0, Classical.not_not] at c76; omega) | (exfalso; omega)), rfl, rfl, rfl⟩
    | 3, c1, q1 =>
      refine n_eqi (y := 3) q1 ?_
      refine r_tableIn (tgt := 52) C dX6_isSetting_1 (by decide) (by decide) (off := 51) (by decide) (by decide) ?_
      refine r_iload_n C 1 dX6_isSetting_52 rfl rfl ?_
      refine n_i2l C dX6_isSetting_53 (by constructor <;> omega) ?_
      refine r_lconst (v := lI 0) C dX6_isSetting_54 (by decide) ?_
      refine n_ldc2 (v := 1000) C lc_X6_70 (by decide) dX6_isSetting_55 ?_
      refine cS3_PI C (k_X6_in (by constructor <;> omega) ⟨by decide, by decide⟩ ⟨by decide, by decide⟩) cw_X6_36 (rm_ok rfl rfl (Nat.zero_le _) (Nat.zero_le _)) (Nat.le_of_ble_eq_true rfl) dX6_isSetting_58 ?_
      refine r_zret C hr hlk b2_z dX6_isSetting_61 (Nat.zero_le _) (Nat.zero_le _) ?_
      exact ⟨congrArg (fun z => some (Value.int (iI z))) (by
          by_cases hc : setOK k v
          · have e := setB_1 hc
            unfold setOK at hc
            first | (rw [e]; done) | (rw [e, b2_1 (by omega)]; done) | (exfalso; rw [b2_eq0] at c76; omega) | (exfalso; omega)
          · have e := setB_0 hc
            unfold setOK at hc
            first | (rw [e]; done) | (rw [e, b2_0 (by omega)]; done) | (exfalso; rw [b2_eq0, Classical.not_not] at c76; omega) | (exfalso; omega)), rfl, rfl, rfl⟩
    | j + 4, c1, q1 => exact absurd c1 (by omega)
set_option maxHeartbeats 4000000 in
set_option maxRecDepth 20000 in
theorem k_X6_set {l : Launch} {G : Gd} {base : Nat} {Y : MY} {I : MI} {L : ML} {M : Nat} {a : Sa} {N T : Int} (hI : Inv N T a) {f k v : Int} (hM : MLy base Y M) (hf0 : -2147483648 ≤ f ∧ f < 2147483648) (hk0 : -2147483648 ≤ k ∧ k < 2147483648) (hv0 : -2147483648 ≤ v ∧ v < 2147483648) : Ct l yX6_set cX6_set 5 (some .int) (rmz 2 46) G base [.ref M, .int (iI f), .int (iI k), .int (iI v)] Y I (rL L (M + 1) a) (EI Y (fun r I' L' => I' = I ∧ ((¬ (0 ≤ f ∧ f < a 2) ∧ r = -1 ∧ L' = rL L (M + 1) a) ∨ ((0 ≤ f ∧ f < a 2) ∧ ¬ setOK k v ∧ r = -2 ∧ L' = rL L (M + 1) a) ∨ ((0 ≤ f ∧ f < a 2) ∧ setOK k v ∧ r = a (17 + 18 * f.toNat + k.toNat) ∧ L' = rL L (M + 1) (up1 a (17 + 18 * f.toNat + k.toNat) v))))) := by
  refine Ct.of (own := RX6) (lo := [(0, .ref M), (1, .int (iI f)), (2, .int (iI k)), (3, .int (iI v))]) (by decide) rfl (Nat.le_of_ble_eq_true rfl) rfl ?_
  intro zp ze zs zm zargs zbl zmt zc C hr hlk hnm
  have hT := hI.1
  unfold TopOK at hT
  refine r_aload_n C 0 dX6_set_0 rfl rfl ?_
  refine r_iload_n C 1 dX6_set_1 rfl rfl ?_
  refine cV1_PI C (k_X6_isFlow hM (by omega) (by omega)) cw_X6_72 (rm_ok rfl rfl (Nat.zero_le _) (Nat.zero_le _)) (Nat.le_of_ble_eq_true rfl) hM.1.1 dX6_set_2 ?_
  refine n_if_ne (tgt := 10) C dX6_set_5 (by decide) b2_i (fun c5 => ?_) (fun c5 => ?_)
  · refine r_iload_n C 2 dX6_set_10 rfl rfl ?_
    refine r_iload_n C 3 dX6_set_11 rfl rfl ?_
    refine cS2_PI C (k_X6_isSetting (by omega) (by omega)) cw_X6_75 (rm_ok rfl rfl (Nat.zero_le _) (Nat.zero_le _)) (Nat.le_of_ble_eq_true rfl) dX6_set_12 ?_
    refine n_if_ne (tgt := 21) C dX6_set_15 (by decide) setB_i (fun c15 => ?_) (fun c15 => ?_)
    · rw [b2_eq0, Classical.not_not] at c5
      rw [setB_eq0, Classical.not_not] at c15
      have hs := c15
      unfold setOK at hs
      obtain ⟨fn, hfn⟩ := Int.eq_ofNat_of_zero_le (show 0 ≤ f by omega)
      obtain ⟨kn, hkn⟩ := Int.eq_ofNat_of_zero_le (show 0 ≤ k by omega)
      refine r_aload_n C 0 dX6_set_21 rfl rfl ?_
      refine r_iload_n C 1 dX6_set_22 rfl rfl ?_
      refine r_iload_n C 2 dX6_set_23 rfl rfl ?_
      refine cV2_PL C (k_X6_ofFlow fn kn hM (by omega) (by omega) (by omega)) cw_X6_53 (rm_ok rfl rfl (Nat.zero_le _) (Nat.zero_le _)) (Nat.le_of_ble_eq_true rfl) hM.1.1 dX6_set_24 ?_
      refine n_l2i C dX6_set_27 ?_
      refine n_topi (fun x28 ex28 => ?_)
      refine r_istore (lo' := [(4, .int (iI x28)), (0, .ref M), (1, .int (iI f)), (2, .int (iI k)), (3, .int (iI v))]) C dX6_set_28 (by decide) rfl ?_
      refine r_aload_n C 1 dX6_set_30 rfl rfl ?_
      refine r_getR C fl_X6_7 rfl dX6_set_31 hM.1.1 hM.2.1 ?_
      refine r_iload_n C 2 dX6_set_34 rfl rfl ?_
      refine r_iload_n C 3 dX6_set_35 rfl rfl ?_
      refine cS2_PI C (k_X6_flowAt ) cw_X6_40 (rm_ok rfl rfl (Nat.zero_le _) (Nat.zero_le _)) (Nat.le_of_ble_eq_true rfl) dX6_set_36 ?_
      refine r_iload_n C 4 dX6_set_39 rfl rfl ?_
      refine n_i2l C dX6_set_40 (by constructor <;> omega) ?_
      refine a_last C ((17 + 18 * fn + kn)) dX6_set_41 hM.1.2.1 ⟨congrArg iI (by omega), (by omega), by decide⟩ (fun a41 ea41 => ?_)
      refine r_iload C 0 dX6_set_42 rfl ?_
      refine r_iret C hr hlk dX6_set_44 (Nat.zero_le _) (Nat.zero_le _) ?_
      subst ea41
      refine ⟨_, rfl, rfl, rfl, Or.inr (Or.inr ⟨by omega, c15, ?_, ?_⟩)⟩
      · rw [ex28, show f.toNat = fn by omega, show k.toNat = kn by omega]
      · rw [show f.toNat = fn by omega, show k.toNat = kn by omega]
    · refine r_bipush (v := iI (-2)) C dX6_set_18 (by decide) ?_
      refine r_iret C hr hlk dX6_set_20 (Nat.zero_le _) (Nat.zero_le _) ?_
      rw [b2_eq0, Classical.not_not] at c5
      rw [setB_eq0] at c15
      exact ⟨_, rfl, rfl, rfl, Or.inr (Or.inl ⟨by omega, c15, rfl, rfl⟩)⟩
  · refine r_iconst (v := iI (-1)) C dX6_set_8 rfl ?_
    refine r_iret C hr hlk dX6_set_9 (Nat.zero_le _) (Nat.zero_le _) ?_
    rw [b2_eq0] at c5
    exact ⟨_, rfl, rfl, rfl, Or.inl ⟨by omega, rfl, rfl⟩⟩
set_option maxHeartbeats 4000000 in
set_option maxRecDepth 20000 in
theorem k_X6_rule {l : Launch} {G : Gd} {base : Nat} {Y : MY} {I : MI} {L : ML} {M : Nat} {a : Sa} {N T : Int} (hI : Inv N T a) {k v : Int} (hM : MLy base Y M) (hk0 : -2147483648 ≤ k ∧ k < 2147483648) (hv0 : -2147483648 ≤ v ∧ v < 2147483648) : Ct l yX6_rule cX6_rule 5 (some .int) (rmz 1 25) G base [.ref M, .int (iI k), .int (iI v)] Y I (rL L (M + 1) a) (EI Y (fun r I' L' => I' = I ∧ ((¬ rulOK k v ∧ r = -2 ∧ L' = rL L (M + 1) a) ∨ (rulOK k v ∧ r = a (3 + k.toNat) ∧ L' = rL L (M + 1) (up1 a (3 + k.toNat) v))))) := by
  refine Ct.of (own := RX6) (lo := [(0, .ref M), (1, .int (iI k)), (2, .int (iI v))]) (by decide) rfl (Nat.le_of_ble_eq_true rfl) rfl ?_
  intro zp ze zs zm zargs zbl zmt zc C hr hlk hnm
  have hT := hI.1
  unfold TopOK at hT
  have jn59 : ∀ x59 : Int, (¬ k = 3 ∧ ¬ k = 2 ∧ (b2 (0 ≤ k ∧ k ≤ 1)) = 0 ∧ x59 = 0) ∨ (¬ k = 3 ∧ ¬ k = 2 ∧ ¬ (b2 (0 ≤ k ∧ k ≤ 1)) = 0 ∧ (b2 (0 ≤ v ∧ v ≤ 50)) = 0 ∧ x59 = 0) ∨ (¬ k = 3 ∧ ¬ k = 2 ∧ ¬ (b2 (0 ≤ k ∧ k ≤ 1)) = 0 ∧ ¬ (b2 (0 ≤ v ∧ v ≤ 50)) = 0 ∧ x59 = 1) ∨ (¬ k = 3 ∧ k = 2 ∧ x59 = (b2 (0 ≤ v ∧ v ≤ 1000))) ∨ (k = 3 ∧ x59 = (b2 (0 ≤ v ∧ v ≤ 1))) → Bd zp l ze (rmz 1 25) zs zm zargs zbl zmt zc 5 G base (EI Y (fun r I' L' => I' = I ∧ ((¬ rulOK k v ∧ r = -2 ∧ L' = rL L (M + 1) a) ∨ (rulOK k v ∧ r = a (3 + k.toNat) ∧ L' = rL L (M + 1) (up1 a (3 + k.toNat) v))))) 59 [(0, .ref M), (1, .int (iI k)), (2, .int (iI v))] [.int (iI x59)] Y I (rL L (M + 1) a) 0 0 := by
    intro x59 hx59
    have hg : (x59 = 1 ∧ rulOK k v) ∨ (x59 = 0 ∧ ¬ rulOK k v) := by
      unfold rulOK
      rcases hx59 with h | h | h | h | h
      all_goals
        simp only [b2_eq0, b2] at h
        first | omega | (split at h <;> omega)
    refine r_istore_n (lo' := [(3, .int (iI x59)), (0, .ref M), (1, .int (iI k)), (2, .int (iI v))]) C dX6_rule_59 rfl (by decide) rfl ?_
    refine r_iload_n C 0 dX6_rule_60 rfl rfl ?_
    refine n_if_ne (tgt := 67) C dX6_rule_61 (by decide) (by rcases hg with h | h <;> constructor <;> omega) (fun c61 => ?_) (fun c61 => ?_)
    · have hy : rulOK k v := by
        rcases hg with h | h
        · exact h.2
        · omega
      have hy2 := hy
      unfold rulOK at hy2
      obtain ⟨kn, hkn⟩ := Int.eq_ofNat_of_zero_le (show 0 ≤ k by omega)
      refine r_aload_n C 1 dX6_rule_67 rfl rfl ?_
      refine r_getR C fl_X6_7 rfl dX6_rule_68 hM.1.1 hM.2.1 ?_
      refine r_iconst (v := iI 3) C dX6_rule_71 rfl ?_
      refine r_iload_n C 2 dX6_rule_72 rfl rfl ?_
      refine n_iadd C dX6_rule_73 ?_
      refine a_lald C (v := (a (3 + kn))) ((3 + kn)) dX6_rule_74 hM.1.2.1 ⟨congrArg iI (by omega), (by omega), by decide⟩ rfl ?_
      refine n_l2i C dX6_rule_75 ?_
      refine n_topi (fun x76 ex76 => ?_)
      refine r_istore (lo' := [(4, .int (iI x76)), (3, .int (iI x59)), (0, .ref M), (1, .int (iI k)), (2, .int (iI v))]) C dX6_rule_76 (by decide) rfl ?_
      refine r_aload_n C 2 dX6_rule_78 rfl rfl ?_
      refine r_getR C fl_X6_7 rfl dX6_rule_79 hM.1.1 hM.2.1 ?_
      refine r_iconst (v := iI 3) C dX6_rule_82 rfl ?_
      refine r_iload_n C 3 dX6_rule_83 rfl rfl ?_
      refine n_iadd C dX6_rule_84 ?_
      refine r_iload_n C 4 dX6_rule_85 rfl rfl ?_
      refine n_i2l C dX6_rule_86 (by constructor <;> omega) ?_
      refine a_last C ((3 + kn)) dX6_rule_87 hM.1.2.1 ⟨congrArg iI (by omega), (by omega), by decide⟩ (fun a87 ea87 => ?_)
      refine r_iload C 0 dX6_rule_88 rfl ?_
      refine r_iret C hr hlk dX6_rule_90 (Nat.zero_le _) (Nat.zero_le _) ?_
      subst ea87
      refine ⟨_, rfl, rfl, rfl, Or.inr ⟨hy, ?_, ?_⟩⟩
      · rw [ex76, show k.toNat = kn by omega]
      · rw [show k.toNat = kn by omega]
    · refine r_bipush (v := iI (-2)) C dX6_rule_64 (by decide) ?_
      refine r_iret C hr hlk dX6_rule_66 (Nat.zero_le _) (Nat.zero_le _) ?_
      have hn : ¬ rulOK k v := by
        rcases hg with h | h
        · omega
        · exact h.2
      exact ⟨_, rfl, rfl, rfl, Or.inl ⟨hn, rfl, rfl⟩⟩
  refine r_iload_n C 1 dX6_rule_0 rfl rfl ?_
  refine r_iconst (v := iI 3) C dX6_rule_1 rfl ?_
  refine n_icmp_ne (tgt := 15) C dX6_rule_2 (by decide) (by constructor <;> omega) ⟨by decide, by decide⟩ (fun c2 => ?_) (fun c2 => ?_)
  · refine r_iload_n C 1 dX6_rule_15 rfl rfl ?_
    refine r_iconst (v := iI 2) C dX6_rule_16 rfl ?_
    refine n_icmp_ne (tgt := 32) C dX6_rule_17 (by decide) (by constructor <;> omega) ⟨by decide, by decide⟩ (fun c17 => ?_) (fun c17 => ?_)
    · refine r_iload_n C 1 dX6_rule_32 rfl rfl ?_
      refine n_i2l C dX6_rule_33 (by constructor <;> omega) ?_
      refine r_lconst (v := lI 0) C dX6_rule_34 (by decide) ?_
      refine r_lconst (v := lI 1) C dX6_rule_35 (by decide) ?_
      refine cS3_PI C (k_X6_in (by constructor <;> omega) ⟨by decide, by decide⟩ ⟨by decide, by decide⟩) cw_X6_36 (rm_ok rfl rfl (Nat.zero_le _) (Nat.zero_le _)) (Nat.le_of_ble_eq_true rfl) dX6_rule_36 ?_
      refine n_if_eq (tgt := 58) C dX6_rule_39 (by decide) b2_i (fun c39 => ?_) (fun c39 => ?_)
      · refine r_iconst (v := iI 0) C dX6_rule_58 rfl ?_
        exact jn59 _ (Or.inl ⟨c2, c17, c39, rfl⟩)
      · refine r_iload_n C 2 dX6_rule_42 rfl rfl ?_
        refine n_i2l C dX6_rule_43 (by constructor <;> omega) ?_
        refine r_lconst (v := lI 0) C dX6_rule_44 (by decide) ?_
        refine n_ldc2 (v := 50) C lc_X6_79 (by decide) dX6_rule_45 ?_
        refine cS3_PI C (k_X6_in (by constructor <;> omega) ⟨by decide, by decide⟩ ⟨by decide, by decide⟩) cw_X6_36 (rm_ok rfl rfl (Nat.zero_le _) (Nat.zero_le _)) (Nat.le_of_ble_eq_true rfl) dX6_rule_48 ?_
        refine n_if_eq (tgt := 58) C dX6_rule_51 (by decide) b2_i (fun c51 => ?_) (fun c51 => ?_)
        · refine r_iconst (v := iI 0) C dX6_rule_58 rfl ?_
          exact jn59 _ (Or.inr (Or.inl ⟨c2, c17, c39, c51, rfl⟩))
        · refine r_iconst (v := iI 1) C dX6_rule_54 rfl ?_
          refine r_goto (tgt := 59) C dX6_rule_55 (by decide) ?_
          exact jn59 _ (Or.inr (Or.inr (Or.inl ⟨c2, c17, c39, c51, rfl⟩)))
    · refine r_iload_n C 2 dX6_rule_20 rfl rfl ?_
      refine n_i2l C dX6_rule_21 (by constructor <;> omega) ?_
      refine r_lconst (v := lI 0) C dX6_rule_22 (by decide) ?_
      refine n_ldc2 (v := 1000) C lc_X6_70 (by decide) dX6_rule_23 ?_
      refine cS3_PI C (k_X6_in (by constructor <;> omega) ⟨by decide, by decide⟩ ⟨by decide, by decide⟩) cw_X6_36 (rm_ok rfl rfl (Nat.zero_le _) (Nat.zero_le _)) (Nat.le_of_ble_eq_true rfl) dX6_rule_26 ?_
      refine r_goto (tgt := 59) C dX6_rule_29 (by decide) ?_
      exact jn59 _ (Or.inr (Or.inr (Or.inr (Or.inl ⟨c2, c17, rfl⟩))))
  · refine r_iload_n C 2 dX6_rule_5 rfl rfl ?_
    refine n_i2l C dX6_rule_6 (by constructor <;> omega) ?_
    refine r_lconst (v := lI 0) C dX6_rule_7 (by decide) ?_
    refine r_lconst (v := lI 1) C dX6_rule_8 (by decide) ?_
    refine cS3_PI C (k_X6_in (by constructor <;> omega) ⟨by decide, by decide⟩ ⟨by decide, by decide⟩) cw_X6_36 (rm_ok rfl rfl (Nat.zero_le _) (Nat.zero_le _)) (Nat.le_of_ble_eq_true rfl) dX6_rule_9 ?_
    refine r_goto (tgt := 59) C dX6_rule_12 (by decide) ?_
    exact jn59 _ (Or.inr (Or.inr (Or.inr (Or.inr (⟨c2, rfl⟩)))))
