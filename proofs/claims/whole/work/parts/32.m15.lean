theorem ch_lt {a : Sa} {N T : Int} (hI : Inv N T a) {p : Nat} (h : 1 ≤ ch a p) : p < 80 := by
  by_cases h2 : p < 80
  · exact h2
  · rw [ch_end hI (by omega)] at h; omega
theorem nmb_s {a : Sa} {m : Int} (hm : 9 ≤ m) (p : Nat) (h : (nmb a m p).2.2 = 0) : p + 1 ≤ (nmb a m p).1 ∧ 1 ≤ (nmb a m p).2.1 := by
  by_cases hd : 49 ≤ ch a p ∧ ch a p ≤ 57
  · have e : nmb a m p = nmG a m 80 (p + 1) (10 * 0 + ch a p - 48) := by
      unfold nmb
      rw [if_pos hd]
      show (if 48 ≤ ch a p ∧ ch a p ≤ 57 then (if m < 10 * 0 + ch a p - 48 then (p, (0 : Int), (1 : Int)) else nmG a m 80 (p + 1) (10 * 0 + ch a p - 48)) else _) = _
      rw [if_pos (by omega), if_neg (by omega)]
    rw [e]
    have h2 := nmG_b (a := a) (m := m) 80 (p + 1) (10 * 0 + ch a p - 48) (by omega) (by omega)
    omega
  · unfold nmb at h
    rw [if_neg hd] at h
    exact absurd h (by simp)
theorem av1_b {a : Sa} {N T : Int} (hI : Inv N T a) {p : Nat} (hL : 97 ≤ ch a p ∧ ch a p ≤ 102) : (p + 1 ≤ (av1 a p).1 ∧ (av1 a p).1 ≤ 80) ∧ (0 ≤ (av1 a p).2.1 ∧ (av1 a p).2.1 ≤ 2000) ∧ ((av1 a p).2.2 = 0 ∨ (av1 a p).2.2 = 1) ∧ ((av1 a p).2.2 = 0 → p + 2 ≤ (av1 a p).1 ∧ 1 ≤ (av1 a p).2.1) := by
  have hp := ch_lt hI (p := p) (by omega)
  have h := nmb_b hI (m := 2000) (by decide) (p + 1) (by omega)
  have h2 := nmb_s (a := a) (m := 2000) (by decide) (p + 1)
  unfold av1
  exact ⟨h.1, h.2.1, h.2.2, fun z => by have := h2 z; omega⟩
theorem av2_b {a : Sa} {N T : Int} (hI : Inv N T a) {p : Nat} (hL : 97 ≤ ch a p ∧ ch a p ≤ 102) : ((av1 a p).1 ≤ (av2 a p).1 ∧ (av2 a p).1 ≤ 80) ∧ (0 ≤ (av2 a p).2.1 ∧ (av2 a p).2.1 ≤ 9999) ∧ ((av2 a p).2.2 = 0 ∨ (av2 a p).2.2 = 1) ∧ ((av2 a p).2.2 = 0 → (av1 a p).2.2 = 0) := by
  have h1 := av1_b hI hL
  unfold av2
  split
  · rename_i hc
    have hp := ch_lt hI (p := (av1 a p).1) (by omega)
    have h := nmb_b hI (m := 9999) (by decide) ((av1 a p).1 + 1) (by omega)
    exact ⟨⟨by omega, h.1.2⟩, h.2.1, h.2.2, fun _ => hc.1⟩
  · exact ⟨⟨Nat.le_refl _, h1.1.2⟩, ⟨by simp, by simp⟩, h1.2.2.1, fun z => z⟩
theorem av3_b {a : Sa} {N T : Int} (hI : Inv N T a) {p : Nat} (hL : 97 ≤ ch a p ∧ ch a p ≤ 102) : ((av2 a p).1 ≤ (av3 a p).1 ∧ (av3 a p).1 ≤ 80) ∧ (0 ≤ (av3 a p).2.1 ∧ (av3 a p).2.1 ≤ 9) ∧ ((av3 a p).2.2 = 0 ∨ (av3 a p).2.2 = 1) ∧ ((av3 a p).2.2 = 0 → (av2 a p).2.2 = 0) := by
  have h1 := av2_b hI hL
  unfold av3
  split
  · rename_i hc
    have hp := ch_lt hI (p := (av2 a p).1) (by omega)
    have h := nmb_b hI (m := 9) (by decide) ((av2 a p).1 + 1) (by omega)
    exact ⟨⟨by omega, h.1.2⟩, h.2.1, h.2.2, fun _ => hc.1⟩
  · exact ⟨⟨Nat.le_refl _, h1.1.2⟩, ⟨by simp, by simp⟩, h1.2.2.1, fun z => z⟩
/-- the arrival at p, as it lies at place i of what was read -/
def Arr (a : Sa) (r : Nat → Int) (i p : Nat) : Prop := r (4 * i) = ch a p - 97 ∧ r (4 * i + 1) = (av1 a p).2.1 ∧ r (4 * i + 2) = (av2 a p).2.1 ∧ r (4 * i + 3) = (av3 a p).2.1
set_option maxHeartbeats 4000000 in
set_option maxRecDepth 20000 in
theorem k_X6_readArrival {l : Launch} {G : Gd} {base : Nat} {Y : MY} {I : MI} {L : ML} {M : Nat} {a : Sa} {N T : Int} (hI : Inv N T a) {b : Nat → Nat → Int} (pl rn : Nat) (hM : MLy base Y M) (h4 : b 0 4 = pl) (h7 : b 0 7 = rn) (hpl : pl ≤ 80) (hrn : rn ≤ 39) : Ct l yX6_readArrival cX6_readArrival 2 (none) (rmz 2 47) G base [.ref M] Y (mI I M 7 b) (rL L (M + 1) a) (EV Y (fun I' L' => L' = rL L (M + 1) a ∧ ∃ b', I' = mI I M 7 b' ∧ b' 0 4 = arP a pl ∧ b' 0 5 = arW a pl ∧ b' 4 = b 4 ∧ (∀ i, i < 4 * rn → b' 5 i = b 5 i) ∧ (arW a pl = 0 → b' 0 7 = rn + 1 ∧ Arr a (b' 5) rn pl))) := by
  refine Ct.of (own := RX6) (lo := [(0, .ref M)]) (by decide) rfl (Nat.le_of_ble_eq_true rfl) rfl ?_
  intro zp ze zs zm zargs zbl zmt zc C hr hlk hnm
  have hT := hI.1
  unfold TopOK at hT
  have hpd := hI.2.2.2.2.1
  have hcb := ch_b hI pl
  refine r_iconst (v := iI 4) C dX6_readArrival_0 rfl ?_
  refine r_aload_n C 0 dX6_readArrival_1 rfl rfl ?_
  refine g_getI C (o := 0) (v := (b 0 7)) rfl (by decide) fl_X6_135 rfl dX6_readArrival_2 hM.1.1 rfl ?_
  refine n_imul C dX6_readArrival_5 ?_
  refine n_topi (fun x6 ex6 => ?_)
  refine r_istore_n (lo' := [(1, .int (iI x6)), (0, .ref M)]) C dX6_readArrival_6 rfl (by decide) rfl ?_
  refine r_aload_n C 1 dX6_readArrival_7 rfl rfl ?_
  refine r_getR C fl_X6_23 rfl dX6_readArrival_8 hM.1.1 hM.2.2.2.2.2.1 ?_
  refine r_iload_n C 0 dX6_readArrival_11 rfl rfl ?_
  refine r_aload_n C 1 dX6_readArrival_12 rfl rfl ?_
  refine cV0_PI C (k_X6_next hI pl hM (by omega) (by omega)) cw_X6_122 (rm_ok rfl rfl (Nat.zero_le _) (Nat.zero_le _)) (Nat.le_of_ble_eq_true rfl) hM.1.1 dX6_readArrival_13 ?_
  refine r_bipush (v := iI 97) C dX6_readArrival_16 (by decide) ?_
  refine n_isub C dX6_readArrival_18 ?_
  refine g_iast C (5) ((4 * rn)) rfl (by decide) dX6_readArrival_19 hM.1.2.2.2.2.2.1 ⟨congrArg iI (by omega), (by omega), by decide⟩ (fun b19 eb19 => ?_)
  refine r_aload_n C 1 dX6_readArrival_20 rfl rfl ?_
  refine r_getR C fl_X6_23 rfl dX6_readArrival_21 hM.1.1 hM.2.2.2.2.2.1 ?_
  refine r_iload_n C 0 dX6_readArrival_24 rfl rfl ?_
  refine r_iconst (v := iI 2) C dX6_readArrival_25 rfl ?_
  refine n_iadd C dX6_readArrival_26 ?_
  refine r_iconst (v := iI 0) C dX6_readArrival_27 rfl ?_
  refine g_iast C (5) (((4 * rn) + 2)) rfl (by decide) dX6_readArrival_28 hM.1.2.2.2.2.2.1 ⟨congrArg iI (by omega), (by omega), by decide⟩ (fun b28 eb28 => ?_)
  refine r_aload_n C 1 dX6_readArrival_29 rfl rfl ?_
  refine r_getR C fl_X6_23 rfl dX6_readArrival_30 hM.1.1 hM.2.2.2.2.2.1 ?_
  refine r_iload_n C 0 dX6_readArrival_33 rfl rfl ?_
  refine r_iconst (v := iI 3) C dX6_readArrival_34 rfl ?_
  refine n_iadd C dX6_readArrival_35 ?_
  refine r_iconst (v := iI 1) C dX6_readArrival_36 rfl ?_
  refine g_iast C (5) (((4 * rn) + 3)) rfl (by decide) dX6_readArrival_37 hM.1.2.2.2.2.2.1 ⟨congrArg iI (by omega), (by omega), by decide⟩ (fun b37 eb37 => ?_)
  refine r_aload_n C 1 dX6_readArrival_38 rfl rfl ?_
  refine r_aload_n C 1 dX6_readArrival_39 rfl rfl ?_
  refine cV0_PI C (k_X6_next hI pl hM (by have q0 : b37 0 4 = (b 0 4) := (by rw [eb37, up2_na (by omega), eb28, up2_na (by omega), eb19, up2_na (by omega)]); omega) (by omega)) cw_X6_122 (rm_ok rfl rfl (Nat.zero_le _) (Nat.zero_le _)) (Nat.le_of_ble_eq_true rfl) hM.1.1 dX6_readArrival_40 ?_
  refine n_i2l C dX6_readArrival_43 (by constructor <;> omega) ?_
  refine n_ldc2 (v := 97) C lc_X6_138 (by decide) dX6_readArrival_44 ?_
  refine n_ldc2 (v := 102) C lc_X6_140 (by decide) dX6_readArrival_47 ?_
  refine cS3_PI C (k_X6_in (by constructor <;> omega) ⟨by decide, by decide⟩ ⟨by decide, by decide⟩) cw_X6_36 (rm_ok rfl rfl (Nat.zero_le _) (Nat.zero_le _)) (Nat.le_of_ble_eq_true rfl) dX6_readArrival_50 ?_
  refine n_if_ne (tgt := 60) C dX6_readArrival_53 (by decide) b2_i (fun c53 => ?_) (fun c53 => ?_)
  · refine r_iconst (v := iI 0) C dX6_readArrival_60 rfl ?_
    refine g_putZ C (o := 0) rfl (by decide) fl_X6_129 rfl dX6_readArrival_61 hM.1.1 (by decide) (fun b61 eb61 => ?_)
    refine r_aload_n C 1 dX6_readArrival_64 rfl rfl ?_
    refine g_getI C (o := 0) (v := 0) rfl (by decide) fl_X6_129 rfl dX6_readArrival_65 hM.1.1 (by rw [eb61, up2_s]) ?_
    refine n_if_eq (tgt := 72) C dX6_readArrival_68 (by decide) ⟨by decide, by decide⟩ (fun c68 => ?_) (fun c68 => ?_)
    · rw [b2_eq0, Classical.not_not] at c53
      have hB1 := av1_b hI c53
      have hB2 := av2_b hI c53
      have hB3 := av3_b hI c53
      have hl80 := ch_lt hI (p := pl) (by omega)
      unfold av1 at hB1
      refine r_aload_n C 1 dX6_readArrival_72 rfl rfl ?_
      refine r_dup C dX6_readArrival_73 rfl ?_
      refine g_getI C (o := 0) (v := (b 0 4)) rfl (by decide) fl_X6_118 rfl dX6_readArrival_74 hM.1.1 (by rw [eb61, up2_nk (by omega), eb37, up2_na (by omega), eb28, up2_na (by omega), eb19, up2_na (by omega)]) ?_
      refine r_iconst (v := iI 1) C dX6_readArrival_77 rfl ?_
      refine n_iadd C dX6_readArrival_78 ?_
      refine g_putI C (o := 0) rfl (by decide) fl_X6_118 rfl dX6_readArrival_79 hM.1.1 (fun b79 eb79 => ?_)
      refine r_aload_n C 1 dX6_readArrival_82 rfl rfl ?_
      refine r_getR C fl_X6_23 rfl dX6_readArrival_83 hM.1.1 hM.2.2.2.2.2.1 ?_
      refine r_iload_n C 0 dX6_readArrival_86 rfl rfl ?_
      refine r_iconst (v := iI 1) C dX6_readArrival_87 rfl ?_
      refine n_iadd C dX6_readArrival_88 ?_
      refine r_aload_n C 1 dX6_readArrival_89 rfl rfl ?_
      refine r_sipush (v := iI 2000) C dX6_readArrival_90 (by decide) ?_
      refine cV1_EI C (k_X6_readNumber hI ((pl + 1)) hM (by have q0 : b79 0 4 = ((b 0 4) + 1) := (by rw [eb79, up2_s]); omega) (by have q0 : b79 0 5 = 0 := (by rw [eb79, up2_nk (by omega), eb61, up2_s]); omega) (by omega) (by omega)) cw_X6_142 (rm_ok rfl rfl (Nat.zero_le _) (Nat.zero_le _)) (Nat.le_of_ble_eq_true rfl) hM.1.1 dX6_readArrival_93 (fun r93 I93 L93 h93 => ?_)
      obtain ⟨h93r, h93I, h93L⟩ := h93
      subst h93r
      obtain ⟨b93x, eb93x⟩ : ∃ z, z = up2 b79 0 4 ((nmb a 2000 ((pl + 1))).1 : Int) := ⟨_, rfl⟩
      obtain ⟨b93, eb93⟩ : ∃ z, z = up2 b93x 0 5 (nmb a 2000 ((pl + 1))).2.2 := ⟨_, rfl⟩
      rw [← eb93x, ← eb93] at h93I
      subst h93I
      subst h93L
      refine g_iast C (5) (((4 * rn) + 1)) rfl (by decide) dX6_readArrival_96 hM.1.2.2.2.2.2.1 ⟨congrArg iI (by omega), (by omega), by decide⟩ (fun b96 eb96 => ?_)
      have hcb1 := ch_b hI (nmb a 2000 (pl + 1)).1
      have h64 : 64 = ch a (nmb a 2000 (pl + 1)).1 → (nmb a 2000 (pl + 1)).1 < 80 := fun z => ch_lt hI (by omega)
      have jn138 : ∀ (b1 : Nat → Nat → Int) (g4 : b1 0 4 = (av2 a pl).1) (g5 : b1 0 5 = (av2 a pl).2.2) (g7 : b1 0 7 = rn) (g44 : b1 4 = b 4) (glo : ∀ i, i < 4 * rn → b1 5 i = b 5 i) (ga : b1 5 (4 * rn) = ch a pl - 97) (gb : b1 5 ((4 * rn) + 1) = (av1 a pl).2.1) (gc : b1 5 ((4 * rn) + 2) = (av2 a pl).2.1) (gd : b1 5 ((4 * rn) + 3) = 1), Bd zp l ze (rmz 2 47) zs zm zargs zbl zmt zc 2 G base (EV Y (fun I' L' => L' = rL L (M + 1) a ∧ ∃ b', I' = mI I M 7 b' ∧ b' 0 4 = arP a pl ∧ b' 0 5 = arW a pl ∧ b' 4 = b 4 ∧ (∀ i, i < 4 * rn → b' 5 i = b 5 i) ∧ (arW a pl = 0 → b' 0 7 = rn + 1 ∧ Arr a (b' 5) rn pl))) 138 [(1, .int (iI x6)), (0, .ref M)] [] Y (mI I M 7 b1) (rL L (M + 1) a) 0 0 := by
        intro b1 g4 g5 g7 g44 glo ga gb gc gd
        have hcb2 := ch_b hI (av2 a pl).1
        have h42 : 42 = ch a (av2 a pl).1 → (av2 a pl).1 < 80 := fun z => ch_lt hI (by omega)
        have jn178 : ∀ (b2v : Nat → Nat → Int) (g4 : b2v 0 4 = (av3 a pl).1) (g5 : b2v 0 5 = (av3 a pl).2.2) (g7 : b2v 0 7 = rn) (g44 : b2v 4 = b 4) (glo : ∀ i, i < 4 * rn → b2v 5 i = b 5 i) (ga : b2v 5 (4 * rn) = ch a pl - 97) (gb : b2v 5 ((4 * rn) + 1) = (av1 a pl).2.1) (gc : b2v 5 ((4 * rn) + 2) = (av2 a pl).2.1) (gd : b2v 5 ((4 * rn) + 3) = (av3 a pl).2.1), Bd zp l ze (rmz 2 47) zs zm zargs zbl zmt zc 2 G base (EV Y (fun I' L' => L' = rL L (M + 1) a ∧ ∃ b', I' = mI I M 7 b' ∧ b' 0 4 = arP a pl ∧ b' 0 5 = arW a pl ∧ b' 4 = b 4 ∧ (∀ i, i < 4 * rn → b' 5 i = b 5 i) ∧ (arW a pl = 0 → b' 0 7 = rn + 1 ∧ Arr a (b' 5) rn pl))) 178 [(1, .int (iI x6)), (0, .ref M)] [] Y (mI I M 7 b2v) (rL L (M + 1) a) 0 0 := by
          intro b2v g4 g5 g7 g44 glo ga gb gc gd
          refine r_aload_n C 1 dX6_readArrival_178 rfl rfl ?_
          refine r_dup C dX6_readArrival_179 rfl ?_
          refine g_getI C (o := 0) (v := (b2v 0 7)) rfl (by decide) fl_X6_135 rfl dX6_readArrival_180 hM.1.1 rfl ?_
          refine r_iconst (v := iI 1) C dX6_readArrival_183 rfl ?_
          refine n_iadd C dX6_readArrival_184 ?_
          refine g_putI C (o := 0) rfl (by decide) fl_X6_135 rfl dX6_readArrival_185 hM.1.1 (fun b185 eb185 => ?_)
          refine r_vret C hr hlk dX6_readArrival_188 (Nat.zero_le _) (Nat.zero_le _) ?_
          refine ⟨rfl, rfl, rfl, b185, rfl, ?_, ?_, ?_, ?_, fun _ => ⟨?_, ?_, ?_, ?_, ?_⟩⟩
          · unfold arP; rw [if_pos c53, eb185, up2_nk (by decide)]; exact g4
          · unfold arW; rw [if_pos c53, eb185, up2_nk (by decide)]; exact g5
          · rw [eb185, up2_rown (by decide)]; exact g44
          · intro i hi; rw [eb185, up2_na (by decide)]; exact glo i hi
          · rw [eb185, up2_s]; omega
          · rw [eb185, up2_na (by decide)]; exact ga
          · rw [eb185, up2_na (by decide)]; exact gb
          · rw [eb185, up2_na (by decide)]; exact gc
          · rw [eb185, up2_na (by decide)]; exact gd
        refine r_aload_n C 1 dX6_readArrival_138 rfl rfl ?_
        refine g_getI C (o := 0) (v := (b1 0 5)) rfl (by decide) fl_X6_129 rfl dX6_readArrival_139 hM.1.1 rfl ?_
        refine n_if_ne (tgt := 178) C dX6_readArrival_142 (by decide) (by constructor <;> omega) (fun c142 => ?_) (fun c142 => ?_)
        · exact jn178 b1 (by
              have hv : av3 a pl = ((av2 a pl).1, 1, (av2 a pl).2.2) := by
                unfold av3
                exact if_neg (fun z => c142 (by omega))
              have q0 : b1 0 4 = (b1 0 4) := rfl
              rw [hv]; exact g4) (by
              have hv : av3 a pl = ((av2 a pl).1, 1, (av2 a pl).2.2) := by
                unfold av3
                exact if_neg (fun z => c142 (by omega))
              have q0 : b1 0 5 = (b1 0 5) := rfl
              rw [hv]; exact g5) (by have q0 : b1 0 7 = (b1 0 7) := rfl; omega) g44 (fun i hi => glo i hi) (by have q0 : b1 5 (4 * rn) = (b1 5 ((4 * rn))) := rfl; rw [q0]; exact ga) (by have q0 : b1 5 ((4 * rn) + 1) = (b1 5 (((4 * rn) + 1))) := rfl; rw [q0]; exact gb) (by have q0 : b1 5 ((4 * rn) + 2) = (b1 5 (((4 * rn) + 2))) := rfl; rw [q0]; exact gc) (by
              have hv : av3 a pl = ((av2 a pl).1, 1, (av2 a pl).2.2) := by
                unfold av3
                exact if_neg (fun z => c142 (by omega))
              have q0 : b1 5 ((4 * rn) + 3) = (b1 5 (((4 * rn) + 3))) := rfl
              rw [hv]; exact gd)
        · refine r_aload_n C 1 dX6_readArrival_145 rfl rfl ?_
          refine cV0_PI C (k_X6_next hI ((av2 a pl).1) hM (by omega) (by omega)) cw_X6_122 (rm_ok rfl rfl (Nat.zero_le _) (Nat.zero_le _)) (Nat.le_of_ble_eq_true rfl) hM.1.1 dX6_readArrival_146 ?_
          refine r_bipush (v := iI 42) C dX6_readArrival_149 (by decide) ?_
          refine n_icmp_ne (tgt := 178) C dX6_readArrival_151 (by decide) (by constructor <;> omega) ⟨by decide, by decide⟩ (fun c151 => ?_) (fun c151 => ?_)
          · exact jn178 b1 (by
                have hv : av3 a pl = ((av2 a pl).1, 1, (av2 a pl).2.2) := by
                  unfold av3
                  exact if_neg (fun z => c151 z.2)
                have q0 : b1 0 4 = (b1 0 4) := rfl
                rw [hv]; exact g4) (by
                have hv : av3 a pl = ((av2 a pl).1, 1, (av2 a pl).2.2) := by
                  unfold av3
                  exact if_neg (fun z => c151 z.2)
                have q0 : b1 0 5 = (b1 0 5) := rfl
                rw [hv]; exact g5) (by have q0 : b1 0 7 = (b1 0 7) := rfl; omega) g44 (fun i hi => glo i hi) (by have q0 : b1 5 (4 * rn) = (b1 5 ((4 * rn))) := rfl; rw [q0]; exact ga) (by have q0 : b1 5 ((4 * rn) + 1) = (b1 5 (((4 * rn) + 1))) := rfl; rw [q0]; exact gb) (by have q0 : b1 5 ((4 * rn) + 2) = (b1 5 (((4 * rn) + 2))) := rfl; rw [q0]; exact gc) (by
                have hv : av3 a pl = ((av2 a pl).1, 1, (av2 a pl).2.2) := by
                  unfold av3
                  exact if_neg (fun z => c151 z.2)
                have q0 : b1 5 ((4 * rn) + 3) = (b1 5 (((4 * rn) + 3))) := rfl
                rw [hv]; exact gd)
          · have h42b := h42 (by omega)
            refine r_aload_n C 1 dX6_readArrival_154 rfl rfl ?_
            refine r_dup C dX6_readArrival_155 rfl ?_
            refine g_getI C (o := 0) (v := (b1 0 4)) rfl (by decide) fl_X6_118 rfl dX6_readArrival_156 hM.1.1 rfl ?_
            refine r_iconst (v := iI 1) C dX6_readArrival_159 rfl ?_
            refine n_iadd C dX6_readArrival_160 ?_
            refine g_putI C (o := 0) rfl (by decide) fl_X6_118 rfl dX6_readArrival_161 hM.1.1 (fun b161 eb161 => ?_)
            refine r_aload_n C 1 dX6_readArrival_164 rfl rfl ?_
            refine r_getR C fl_X6_23 rfl dX6_readArrival_165 hM.1.1 hM.2.2.2.2.2.1 ?_
            refine r_iload_n C 0 dX6_readArrival_168 rfl rfl ?_
            refine r_iconst (v := iI 3) C dX6_readArrival_169 rfl ?_
            refine n_iadd C dX6_readArrival_170 ?_
            refine r_aload_n C 1 dX6_readArrival_171 rfl rfl ?_
            refine r_bipush (v := iI 9) C dX6_readArrival_172 (by decide) ?_
            refine cV1_EI C (k_X6_readNumber hI (((av2 a pl).1 + 1)) hM (by have q0 : b161 0 4 = ((b1 0 4) + 1) := (by rw [eb161, up2_s]); omega) (by have q0 : b161 0 5 = (b1 0 5) := (by rw [eb161, up2_nk (by omega)]); omega) (by omega) (by omega)) cw_X6_142 (rm_ok rfl rfl (Nat.zero_le _) (Nat.zero_le _)) (Nat.le_of_ble_eq_true rfl) hM.1.1 dX6_readArrival_174 (fun r174 I174 L174 h174 => ?_)
            obtain ⟨h174r, h174I, h174L⟩ := h174
            subst h174r
            obtain ⟨b174x, eb174x⟩ : ∃ z, z = up2 b161 0 4 ((nmb a 9 (((av2 a pl).1 + 1))).1 : Int) := ⟨_, rfl⟩
            obtain ⟨b174, eb174⟩ : ∃ z, z = up2 b174x 0 5 (nmb a 9 (((av2 a pl).1 + 1))).2.2 := ⟨_, rfl⟩
            rw [← eb174x, ← eb174] at h174I
            subst h174I
            subst h174L
            refine g_iast C (5) (((4 * rn) + 3)) rfl (by decide) dX6_readArrival_177 hM.1.2.2.2.2.2.1 ⟨congrArg iI (by omega), (by omega), by decide⟩ (fun b177 eb177 => ?_)
            exact jn178 b177 (by
                have hv : av3 a pl = nmb a 9 ((av2 a pl).1 + 1) := by
                  unfold av3
                  exact if_pos ⟨by omega, c151⟩
                have q0 : b177 0 4 = ((nmb a 9 (((av2 a pl).1 + 1))).1 : Int) := (by rw [eb177, up2_na (by omega), eb174, up2_nk (by omega), eb174x, up2_s])
                rw [q0, hv]) (by
                have hv : av3 a pl = nmb a 9 ((av2 a pl).1 + 1) := by
                  unfold av3
                  exact if_pos ⟨by omega, c151⟩
                have q0 : b177 0 5 = (nmb a 9 (((av2 a pl).1 + 1))).2.2 := (by rw [eb177, up2_na (by omega), eb174, up2_s])
                rw [q0, hv]) (by have q0 : b177 0 7 = (b1 0 7) := (by rw [eb177, up2_na (by omega), eb174, up2_nk (by omega), eb174x, up2_nk (by omega), eb161, up2_nk (by omega)]); omega) (by rw [eb177, up2_rown (by decide), eb174, up2_rown (by decide), eb174x, up2_rown (by decide), eb161, up2_rown (by decide)]; exact g44) (fun i hi => by rw [eb177, up2_nk (by omega), eb174, up2_na (by decide), eb174x, up2_na (by decide), eb161, up2_na (by decide)]; exact glo i hi) (by have q0 : b177 5 (4 * rn) = (b1 5 ((4 * rn))) := (by rw [eb177, up2_nk (by omega), eb174, up2_na (by omega), eb174x, up2_na (by omega), eb161, up2_na (by omega)]); rw [q0]; exact ga) (by have q0 : b177 5 ((4 * rn) + 1) = (b1 5 (((4 * rn) + 1))) := (by rw [eb177, up2_nk (by omega), eb174, up2_na (by omega), eb174x, up2_na (by omega), eb161, up2_na (by omega)]); rw [q0]; exact gb) (by have q0 : b177 5 ((4 * rn) + 2) = (b1 5 (((4 * rn) + 2))) := (by rw [eb177, up2_nk (by omega), eb174, up2_na (by omega), eb174x, up2_na (by omega), eb161, up2_na (by omega)]); rw [q0]; exact gc) (by
                have hv : av3 a pl = nmb a 9 ((av2 a pl).1 + 1) := by
                  unfold av3
                  exact if_pos ⟨by omega, c151⟩
                have q0 : b177 5 ((4 * rn) + 3) = (nmb a 9 (((av2 a pl).1 + 1))).2.1 := (by rw [eb177, up2_s])
                rw [q0, hv])
      refine r_aload_n C 1 dX6_readArrival_97 rfl rfl ?_
      refine g_getI C (o := 0) (v := (nmb a 2000 ((pl + 1))).2.2) rfl (by decide) fl_X6_129 rfl dX6_readArrival_98 hM.1.1 (by rw [eb96, up2_na (by omega), eb93, up2_s]) ?_
      refine n_if_ne (tgt := 138) C dX6_readArrival_101 (by decide) (by constructor <;> omega) (fun c101 => ?_) (fun c101 => ?_)
      · exact jn138 b96 (by
            have hv : av2 a pl = ((av1 a pl).1, 0, (av1 a pl).2.2) := by
              unfold av2
              exact if_neg (fun z => c101 z.1)
            have q0 : b96 0 4 = ((nmb a 2000 ((pl + 1))).1 : Int) := (by rw [eb96, up2_na (by omega), eb93, up2_nk (by omega), eb93x, up2_s])
            first | (rw [q0, hv]; done) | (rw [q0, hv]; rfl)) (by
            have hv : av2 a pl = ((av1 a pl).1, 0, (av1 a pl).2.2) := by
              unfold av2
              exact if_neg (fun z => c101 z.1)
            have q0 : b96 0 5 = (nmb a 2000 ((pl + 1))).2.2 := (by rw [eb96, up2_na (by omega), eb93, up2_s])
            first | (rw [q0, hv]; done) | (rw [q0, hv]; rfl)) (by have q0 : b96 0 7 = (b 0 7) := (by rw [eb96, up2_na (by omega), eb93, up2_nk (by omega), eb93x, up2_nk (by omega), eb79, up2_nk (by omega), eb61, up2_nk (by omega), eb37, up2_na (by omega), eb28, up2_na (by omega), eb19, up2_na (by omega)]); omega) (by rw [eb96, up2_rown (by decide), eb93, up2_rown (by decide), eb93x, up2_rown (by decide), eb79, up2_rown (by decide), eb61, up2_rown (by decide), eb37, up2_rown (by decide), eb28, up2_rown (by decide), eb19, up2_rown (by decide)]) (fun i hi => by rw [eb96, up2_nk (by omega), eb93, up2_na (by decide), eb93x, up2_na (by decide), eb79, up2_na (by decide), eb61, up2_na (by decide), eb37, up2_nk (by omega), eb28, up2_nk (by omega), eb19, up2_nk (by omega)]) (by have q0 : b96 5 (4 * rn) = ((ch a pl) - 97) := (by rw [eb96, up2_nk (by omega), eb93, up2_na (by omega), eb93x, up2_na (by omega), eb79, up2_na (by omega), eb61, up2_na (by omega), eb37, up2_nk (by omega), eb28, up2_nk (by omega), eb19, up2_s]); rw [q0]) (by have q0 : b96 5 ((4 * rn) + 1) = (nmb a 2000 ((pl + 1))).2.1 := (by rw [eb96, up2_s]); rw [q0]; rfl) (by
            have hv : av2 a pl = ((av1 a pl).1, 0, (av1 a pl).2.2) := by
              unfold av2
              exact if_neg (fun z => c101 z.1)
            have q0 : b96 5 ((4 * rn) + 2) = 0 := (by rw [eb96, up2_nk (by omega), eb93, up2_na (by omega), eb93x, up2_na (by omega), eb79, up2_na (by omega), eb61, up2_na (by omega), eb37, up2_nk (by omega), eb28, up2_s])
            first | (rw [q0, hv]; done) | (rw [q0, hv]; rfl)) (by have q0 : b96 5 ((4 * rn) + 3) = 1 := (by rw [eb96, up2_nk (by omega), eb93, up2_na (by omega), eb93x, up2_na (by omega), eb79, up2_na (by omega), eb61, up2_na (by omega), eb37, up2_s]); rw [q0])
      · refine r_aload_n C 1 dX6_readArrival_104 rfl rfl ?_
        refine cV0_PI C (k_X6_next hI ((nmb a 2000 ((pl + 1))).1) hM (by have q0 : b96 0 4 = ((nmb a 2000 ((pl + 1))).1 : Int) := (by rw [eb96, up2_na (by omega), eb93, up2_nk (by omega), eb93x, up2_s]); omega) (by omega)) cw_X6_122 (rm_ok rfl rfl (Nat.zero_le _) (Nat.zero_le _)) (Nat.le_of_ble_eq_true rfl) hM.1.1 dX6_readArrival_105 ?_
        refine r_bipush (v := iI 64) C dX6_readArrival_108 (by decide) ?_
        refine n_icmp_ne (tgt := 138) C dX6_readArrival_110 (by decide) (by constructor <;> omega) ⟨by decide, by decide⟩ (fun c110 => ?_) (fun c110 => ?_)
        · exact jn138 b96 (by
              have hv : av2 a pl = ((av1 a pl).1, 0, (av1 a pl).2.2) := by
                unfold av2
                exact if_neg (fun z => c110 z.2)
              have q0 : b96 0 4 = ((nmb a 2000 ((pl + 1))).1 : Int) := (by rw [eb96, up2_na (by omega), eb93, up2_nk (by omega), eb93x, up2_s])
              first | (rw [q0, hv]; done) | (rw [q0, hv]; rfl)) (by
              have hv : av2 a pl = ((av1 a pl).1, 0, (av1 a pl).2.2) := by
                unfold av2
                exact if_neg (fun z => c110 z.2)
              have q0 : b96 0 5 = (nmb a 2000 ((pl + 1))).2.2 := (by rw [eb96, up2_na (by omega), eb93, up2_s])
              first | (rw [q0, hv]; done) | (rw [q0, hv]; rfl)) (by have q0 : b96 0 7 = (b 0 7) := (by rw [eb96, up2_na (by omega), eb93, up2_nk (by omega), eb93x, up2_nk (by omega), eb79, up2_nk (by omega), eb61, up2_nk (by omega), eb37, up2_na (by omega), eb28, up2_na (by omega), eb19, up2_na (by omega)]); omega) (by rw [eb96, up2_rown (by decide), eb93, up2_rown (by decide), eb93x, up2_rown (by decide), eb79, up2_rown (by decide), eb61, up2_rown (by decide), eb37, up2_rown (by decide), eb28, up2_rown (by decide), eb19, up2_rown (by decide)]) (fun i hi => by rw [eb96, up2_nk (by omega), eb93, up2_na (by decide), eb93x, up2_na (by decide), eb79, up2_na (by decide), eb61, up2_na (by decide), eb37, up2_nk (by omega), eb28, up2_nk (by omega), eb19, up2_nk (by omega)]) (by have q0 : b96 5 (4 * rn) = ((ch a pl) - 97) := (by rw [eb96, up2_nk (by omega), eb93, up2_na (by omega), eb93x, up2_na (by omega), eb79, up2_na (by omega), eb61, up2_na (by omega), eb37, up2_nk (by omega), eb28, up2_nk (by omega), eb19, up2_s]); rw [q0]) (by have q0 : b96 5 ((4 * rn) + 1) = (nmb a 2000 ((pl + 1))).2.1 := (by rw [eb96, up2_s]); rw [q0]; rfl) (by
              have hv : av2 a pl = ((av1 a pl).1, 0, (av1 a pl).2.2) := by
                unfold av2
                exact if_neg (fun z => c110 z.2)
              have q0 : b96 5 ((4 * rn) + 2) = 0 := (by rw [eb96, up2_nk (by omega), eb93, up2_na (by omega), eb93x, up2_na (by omega), eb79, up2_na (by omega), eb61, up2_na (by omega), eb37, up2_nk (by omega), eb28, up2_s])
              first | (rw [q0, hv]; done) | (rw [q0, hv]; rfl)) (by have q0 : b96 5 ((4 * rn) + 3) = 1 := (by rw [eb96, up2_nk (by omega), eb93, up2_na (by omega), eb93x, up2_na (by omega), eb79, up2_na (by omega), eb61, up2_na (by omega), eb37, up2_s]); rw [q0])
        · have h64b := h64 (by omega)
          refine r_aload_n C 1 dX6_readArrival_113 rfl rfl ?_
          refine r_dup C dX6_readArrival_114 rfl ?_
          refine g_getI C (o := 0) (v := ((nmb a 2000 ((pl + 1))).1 : Int)) rfl (by decide) fl_X6_118 rfl dX6_readArrival_115 hM.1.1 (by rw [eb96, up2_na (by omega), eb93, up2_nk (by omega), eb93x, up2_s]) ?_
          refine r_iconst (v := iI 1) C dX6_readArrival_118 rfl ?_
          refine n_iadd C dX6_readArrival_119 ?_
          refine g_putI C (o := 0) rfl (by decide) fl_X6_118 rfl dX6_readArrival_120 hM.1.1 (fun b120 eb120 => ?_)
          refine r_aload_n C 1 dX6_readArrival_123 rfl rfl ?_
          refine r_getR C fl_X6_23 rfl dX6_readArrival_124 hM.1.1 hM.2.2.2.2.2.1 ?_
          refine r_iload_n C 0 dX6_readArrival_127 rfl rfl ?_
          refine r_iconst (v := iI 2) C dX6_readArrival_128 rfl ?_
          refine n_iadd C dX6_readArrival_129 ?_
          refine r_aload_n C 1 dX6_readArrival_130 rfl rfl ?_
          refine r_sipush (v := iI 9999) C dX6_readArrival_131 (by decide) ?_
          refine cV1_EI C (k_X6_readNumber hI (((nmb a 2000 ((pl + 1))).1 + 1)) hM (by have q0 : b120 0 4 = (((nmb a 2000 ((pl + 1))).1 : Int) + 1) := (by rw [eb120, up2_s]); omega) (by have q0 : b120 0 5 = (nmb a 2000 ((pl + 1))).2.2 := (by rw [eb120, up2_nk (by omega), eb96, up2_na (by omega), eb93, up2_s]); omega) (by omega) (by omega)) cw_X6_142 (rm_ok rfl rfl (Nat.zero_le _) (Nat.zero_le _)) (Nat.le_of_ble_eq_true rfl) hM.1.1 dX6_readArrival_134 (fun r134 I134 L134 h134 => ?_)
          obtain ⟨h134r, h134I, h134L⟩ := h134
          subst h134r
          obtain ⟨b134x, eb134x⟩ : ∃ z, z = up2 b120 0 4 ((nmb a 9999 (((nmb a 2000 ((pl + 1))).1 + 1))).1 : Int) := ⟨_, rfl⟩
          obtain ⟨b134, eb134⟩ : ∃ z, z = up2 b134x 0 5 (nmb a 9999 (((nmb a 2000 ((pl + 1))).1 + 1))).2.2 := ⟨_, rfl⟩
          rw [← eb134x, ← eb134] at h134I
          subst h134I
          subst h134L
          refine g_iast C (5) (((4 * rn) + 2)) rfl (by decide) dX6_readArrival_137 hM.1.2.2.2.2.2.1 ⟨congrArg iI (by omega), (by omega), by decide⟩ (fun b137 eb137 => ?_)
          exact jn138 b137 (by
              have hv : av2 a pl = nmb a 9999 ((nmb a 2000 (pl + 1)).1 + 1) := by
                unfold av2
                exact if_pos ⟨c101, c110⟩
              have q0 : b137 0 4 = ((nmb a 9999 (((nmb a 2000 ((pl + 1))).1 + 1))).1 : Int) := (by rw [eb137, up2_na (by omega), eb134, up2_nk (by omega), eb134x, up2_s])
              first | (rw [q0, hv]; done) | (rw [q0, hv]; rfl)) (by
              have hv : av2 a pl = nmb a 9999 ((nmb a 2000 (pl + 1)).1 + 1) := by
                unfold av2
                exact if_pos ⟨c101, c110⟩
              have q0 : b137 0 5 = (nmb a 9999 (((nmb a 2000 ((pl + 1))).1 + 1))).2.2 := (by rw [eb137, up2_na (by omega), eb134, up2_s])
              first | (rw [q0, hv]; done) | (rw [q0, hv]; rfl)) (by have q0 : b137 0 7 = (b 0 7) := (by rw [eb137, up2_na (by omega), eb134, up2_nk (by omega), eb134x, up2_nk (by omega), eb120, up2_nk (by omega), eb96, up2_na (by omega), eb93, up2_nk (by omega), eb93x, up2_nk (by omega), eb79, up2_nk (by omega), eb61, up2_nk (by omega), eb37, up2_na (by omega), eb28, up2_na (by omega), eb19, up2_na (by omega)]); omega) (by rw [eb137, up2_rown (by decide), eb134, up2_rown (by decide), eb134x, up2_rown (by decide), eb120, up2_rown (by decide), eb96, up2_rown (by decide), eb93, up2_rown (by decide), eb93x, up2_rown (by decide), eb79, up2_rown (by decide), eb61, up2_rown (by decide), eb37, up2_rown (by decide), eb28, up2_rown (by decide), eb19, up2_rown (by decide)]) (fun i hi => by rw [eb137, up2_nk (by omega), eb134, up2_na (by decide), eb134x, up2_na (by decide), eb120, up2_na (by decide), eb96, up2_nk (by omega), eb93, up2_na (by decide), eb93x, up2_na (by decide), eb79, up2_na (by decide), eb61, up2_na (by decide), eb37, up2_nk (by omega), eb28, up2_nk (by omega), eb19, up2_nk (by omega)]) (by have q0 : b137 5 (4 * rn) = ((ch a pl) - 97) := (by rw [eb137, up2_nk (by omega), eb134, up2_na (by omega), eb134x, up2_na (by omega), eb120, up2_na (by omega), eb96, up2_nk (by omega), eb93, up2_na (by omega), eb93x, up2_na (by omega), eb79, up2_na (by omega), eb61, up2_na (by omega), eb37, up2_nk (by omega), eb28, up2_nk (by omega), eb19, up2_s]); rw [q0]) (by have q0 : b137 5 ((4 * rn) + 1) = (nmb a 2000 ((pl + 1))).2.1 := (by rw [eb137, up2_nk (by omega), eb134, up2_na (by omega), eb134x, up2_na (by omega), eb120, up2_na (by omega), eb96, up2_s]); rw [q0]; rfl) (by
              have hv : av2 a pl = nmb a 9999 ((nmb a 2000 (pl + 1)).1 + 1) := by
                unfold av2
                exact if_pos ⟨c101, c110⟩
              have q0 : b137 5 ((4 * rn) + 2) = (nmb a 9999 (((nmb a 2000 ((pl + 1))).1 + 1))).2.1 := (by rw [eb137, up2_s])
              first | (rw [q0, hv]; done) | (rw [q0, hv]; rfl)) (by have q0 : b137 5 ((4 * rn) + 3) = 1 := (by rw [eb137, up2_nk (by omega), eb134, up2_na (by omega), eb134x, up2_na (by omega), eb120, up2_na (by omega), eb96, up2_nk (by omega), eb93, up2_na (by omega), eb93x, up2_na (by omega), eb79, up2_na (by omega), eb61, up2_na (by omega), eb37, up2_s]); rw [q0])
    · exfalso; omega
  · refine r_iconst (v := iI 1) C dX6_readArrival_56 rfl ?_
    refine r_goto (tgt := 61) C dX6_readArrival_57 (by decide) ?_
    refine g_putZ C (o := 0) rfl (by decide) fl_X6_129 rfl dX6_readArrival_61 hM.1.1 (by decide) (fun b61 eb61 => ?_)
    refine r_aload_n C 1 dX6_readArrival_64 rfl rfl ?_
    refine g_getI C (o := 0) (v := 1) rfl (by decide) fl_X6_129 rfl dX6_readArrival_65 hM.1.1 (by rw [eb61, up2_s]) ?_
    refine n_if_eq (tgt := 72) C dX6_readArrival_68 (by decide) ⟨by decide, by decide⟩ (fun c68 => ?_) (fun c68 => ?_)
    · exfalso; omega
    · refine r_vret C hr hlk dX6_readArrival_71 (Nat.zero_le _) (Nat.zero_le _) ?_
      rw [b2_eq0] at c53
      refine ⟨rfl, rfl, rfl, b61, rfl, ?_, ?_, ?_, ?_, ?_⟩
      · have q0 : b61 0 4 = (b 0 4) := (by rw [eb61, up2_nk (by omega), eb37, up2_na (by omega), eb28, up2_na (by omega), eb19, up2_na (by omega)])
        unfold arP; rw [if_neg c53, q0]; exact h4
      · have q0 : b61 0 5 = 1 := (by rw [eb61, up2_s])
        unfold arW; rw [if_neg c53]; exact q0
      · exact (by rw [eb61, up2_rown (by decide), eb37, up2_rown (by decide), eb28, up2_rown (by decide), eb19, up2_rown (by decide)])
      · exact (fun i hi => by rw [eb61, up2_na (by decide), eb37, up2_nk (by omega), eb28, up2_nk (by omega), eb19, up2_nk (by omega)])
      · intro z; unfold arW at z; rw [if_neg c53] at z; exact absurd z (by decide)
