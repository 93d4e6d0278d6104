set_option maxHeartbeats 4000000 in
set_option maxRecDepth 20000 in
theorem k_X6_bestSplit {l : Launch} {G : Gd} {base : Nat} {Y : MY} {I : MI} {L : ML} {M : Nat} {a q : Sa} {N T : Int} (hI : Inv N T a) {b : Nat → Nat → Int} {f u e n t : Int} (hM : MLy base Y M) (hN : NowOK a) (hLg : LagOK a) (hTT : T ≤ 1000000) (hf0 : -2147483648 ≤ f ∧ f < 2147483648) (hu0 : -2147483648 ≤ u ∧ u < 2147483648) (he0 : -2147483648 ≤ e ∧ e < 2147483648) (hn0 : -2147483648 ≤ n ∧ n < 2147483648) (ht0 : -2147483648 ≤ t ∧ t < 2147483648) : Ct l yX6_bestSplit cX6_bestSplit 13 (some .int) (rmz 8 183) G base [.ref M, .int (iI f), .int (iI u), .int (iI e), .int (iI n), .int (iI t)] Y (mI I M 7 b) (rL (rL L (M + 2) q) (M + 1) a) (EI Y (fun r I' L' => MB I M b I' ∧ r = aBs a f u e n t ∧ ∃ q', L' = rL (rL L (M + 2) q') (M + 1) a)) := by
  refine Ct.of (own := RX6) (lo := [(0, .ref M), (1, .int (iI f)), (2, .int (iI u)), (3, .int (iI e)), (4, .int (iI n)), (5, .int (iI t))]) (by decide) rfl (Nat.le_of_ble_eq_true rfl) rfl ?_
  intro zp ze zs zm zargs zbl zmt zc C hr hlk hnm
  have hT := hI.1
  unfold TopOK at hT
  refine r_aload_n C 0 dX6_bestSplit_0 rfl rfl ?_
  refine r_iload_n C 1 dX6_bestSplit_1 rfl rfl ?_
  refine cV1_PI C (k_X6_isFlow hM (by omega) (by omega)) cw_X6_72 (rm_ok rfl rfl (Nat.zero_le _) (Nat.zero_le _)) (Nat.le_of_ble_eq_true rfl) hM.1.1 dX6_bestSplit_2 ?_
  refine n_if_ne (tgt := 10) C dX6_bestSplit_5 (by decide) b2_i (fun c5 => ?_) (fun c5 => ?_)
  · rw [b2_eq0, Classical.not_not] at c5
    obtain ⟨fn, hfn⟩ := Int.eq_ofNat_of_zero_le (show 0 ≤ f by omega)
    have hfn2 : f.toNat = fn := by omega
    have jn65 : ∀ x65 : Int, ((b2 (0 ≤ u ∧ u ≤ 1000)) = 0 ∧ x65 = 0) ∨ (¬ (b2 (0 ≤ u ∧ u ≤ 1000)) = 0 ∧ (b2 (1 ≤ e ∧ e ≤ 500)) = 0 ∧ x65 = 0) ∨ (¬ (b2 (0 ≤ u ∧ u ≤ 1000)) = 0 ∧ ¬ (b2 (1 ≤ e ∧ e ≤ 500)) = 0 ∧ (b2 (1 ≤ n ∧ n ≤ 6)) = 0 ∧ x65 = 0) ∨ (¬ (b2 (0 ≤ u ∧ u ≤ 1000)) = 0 ∧ ¬ (b2 (1 ≤ e ∧ e ≤ 500)) = 0 ∧ ¬ (b2 (1 ≤ n ∧ n ≤ 6)) = 0 ∧ (b2 (1 ≤ t ∧ t ≤ 1000)) = 0 ∧ x65 = 0) ∨ (¬ (b2 (0 ≤ u ∧ u ≤ 1000)) = 0 ∧ ¬ (b2 (1 ≤ e ∧ e ≤ 500)) = 0 ∧ ¬ (b2 (1 ≤ n ∧ n ≤ 6)) = 0 ∧ ¬ (b2 (1 ≤ t ∧ t ≤ 1000)) = 0 ∧ x65 = 1) → Bd zp l ze (rmz 8 183) zs zm zargs zbl zmt zc 13 G base (EI Y (fun r I' L' => MB I M b I' ∧ r = aBs a f u e n t ∧ ∃ q', L' = rL (rL L (M + 2) q') (M + 1) a)) 65 [(0, .ref M), (1, .int (iI f)), (2, .int (iI u)), (3, .int (iI e)), (4, .int (iI n)), (5, .int (iI t))] [.int (iI x65)] Y (mI I M 7 b) (rL (rL L (M + 2) q) (M + 1) a) 0 0 := by
      intro x65 hx65
      simp only [b2_eq0, Classical.not_not] at hx65
      have hg : (x65 = 1 ∧ ((0 ≤ u ∧ u ≤ 1000) ∧ (1 ≤ e ∧ e ≤ 500) ∧ (1 ≤ n ∧ n ≤ 6) ∧ (1 ≤ t ∧ t ≤ 1000))) ∨ (x65 = 0 ∧ ¬ ((0 ≤ u ∧ u ≤ 1000) ∧ (1 ≤ e ∧ e ≤ 500) ∧ (1 ≤ n ∧ n ≤ 6) ∧ (1 ≤ t ∧ t ≤ 1000))) := by omega
      clear hx65
      refine r_istore (lo' := [(6, .int (iI x65)), (0, .ref M), (1, .int (iI f)), (2, .int (iI u)), (3, .int (iI e)), (4, .int (iI n)), (5, .int (iI t))]) C dX6_bestSplit_65 (by decide) rfl ?_
      refine r_iload C 0 dX6_bestSplit_67 rfl ?_
      refine n_if_eq (tgt := 86) C dX6_bestSplit_69 (by decide) (by constructor <;> omega) (fun c69 => ?_) (fun c69 => ?_)
      · refine r_bipush (v := iI (-2)) C dX6_bestSplit_86 (by decide) ?_
        refine r_iret C hr hlk dX6_bestSplit_88 (Nat.zero_le _) (Nat.zero_le _) ?_
        exact ⟨_, rfl, rfl, MB.self, by unfold aBs; rw [if_neg (by omega), if_pos (by omega)], _, rfl⟩
      · have hg1 : (0 ≤ u ∧ u ≤ 1000) ∧ (1 ≤ e ∧ e ≤ 500) ∧ (1 ≤ n ∧ n ≤ 6) ∧ (1 ≤ t ∧ t ≤ 1000) := by omega
        clear hg
        have hpr : 0 ≤ e * (n - 1) ∧ e * (n - 1) ≤ 500 * 5 := ⟨Int.mul_nonneg (by omega) (by omega), Int.mul_le_mul (by omega) (by omega) (by omega) (by omega)⟩
        refine r_iload_n C 3 dX6_bestSplit_72 rfl rfl ?_
        refine r_iload_n C 4 dX6_bestSplit_73 rfl rfl ?_
        refine r_iload C 5 dX6_bestSplit_74 rfl ?_
        refine r_iconst (v := iI 1) C dX6_bestSplit_76 rfl ?_
        refine n_isub C dX6_bestSplit_77 ?_
        refine n_imul C dX6_bestSplit_78 ?_
        refine n_iadd C dX6_bestSplit_79 ?_
        refine r_sipush (v := iI 1000) C dX6_bestSplit_80 (by decide) ?_
        refine n_icmp_le (tgt := 89) C dX6_bestSplit_83 (by decide) (by constructor <;> omega) ⟨by decide, by decide⟩ (fun c83 => ?_) (fun c83 => ?_)
        · obtain ⟨tn, htn⟩ := Int.eq_ofNat_of_zero_le (show 0 ≤ t by omega)
          obtain ⟨nn, hnn⟩ := Int.eq_ofNat_of_zero_le (show 0 ≤ n by omega)
          refine r_aload_n C 1 dX6_bestSplit_89 rfl rfl ?_
          refine cV0_EI C (k_X6_markQueued hI hM) cw_X6_221 (rm_ok rfl rfl (Nat.zero_le _) (Nat.zero_le _)) (Nat.le_of_ble_eq_true rfl) hM.1.1 dX6_bestSplit_90 (fun r90 I90 L90 h90 => ?_)
          obtain ⟨h90r, h90L, b90, h90I, hb4_90, hm_90⟩ := h90
          subst h90I
          subst h90L
          have hqb := qcN_b (a := a) ((a 7).toNat - old a) (old a)
          have hq90 : r90 = qct a := h90r
          have hqd : qct a = qcN a ((a 7).toNat - old a) (old a) := rfl
          refine n_if_ne (tgt := 99) C dX6_bestSplit_93 (by decide) (by constructor <;> omega) (fun c93 => ?_) (fun c93 => ?_)
          · refine r_aload_n C 1 dX6_bestSplit_99 rfl rfl ?_
            refine cV0_EV C (k_X6_putAside hM) cw_X6_208 (rm_ok rfl rfl (Nat.zero_le _) (Nat.zero_le _)) (Nat.le_of_ble_eq_true rfl) hM.1.1 dX6_bestSplit_100 (fun I100 L100 h100 => ?_)
            obtain ⟨h100I, h100L⟩ := h100
            subst h100I
            subst h100L
            have hfin : bsO a fn u e tn nn 0 u (-1) = aBs a f u e n t := by
              unfold aBs
              rw [if_neg (by omega), if_neg (by omega), if_neg (by omega), hfn2, show t.toNat = tn by omega, show n.toNat = nn by omega]
            refine r_iload_n C 3 dX6_bestSplit_103 rfl rfl ?_
            refine r_istore (lo' := [(7, .int (iI u)), (6, .int (iI x65)), (0, .ref M), (1, .int (iI f)), (2, .int (iI u)), (3, .int (iI e)), (4, .int (iI n)), (5, .int (iI t))]) C dX6_bestSplit_104 (by decide) rfl ?_
            refine n_ldc2 (v := (-1)) C lc_X6_224 (by decide) dX6_bestSplit_106 ?_
            refine r_lstore (lo' := [(8, .long (lI (-1))), (7, .int (iI u)), (6, .int (iI x65)), (0, .ref M), (1, .int (iI f)), (2, .int (iI u)), (3, .int (iI e)), (4, .int (iI n)), (5, .int (iI t))]) C dX6_bestSplit_109 (by decide) rfl ?_
            refine r_iconst (v := iI 0) C dX6_bestSplit_111 rfl ?_
            refine r_istore (lo' := [(10, .int (iI 0)), (8, .long (lI (-1))), (7, .int (iI u)), (6, .int (iI x65)), (0, .ref M), (1, .int (iI f)), (2, .int (iI u)), (3, .int (iI e)), (4, .int (iI n)), (5, .int (iI t))]) C dX6_bestSplit_112 (by decide) rfl ?_
            have lp114 : ∀ (k : Nat) (x7 : Int) (x8 : Int) (x10 : Int) (i : Nat) (b1 : Nat → Nat → Int) (hx10 : x10 = i) (hi : i ≤ nn) (hb1 : b1 4 = b 4) (hm1 : ∀ p : Nat, old a ≤ p → (p : Int) < a 7 → b1 6 (p % 120) = b2 (a (125 + 11 * (p % 120) + 4) ≤ 1)) (hs : bsO a fn u e tn (nn - i) i x7 x8 = aBs a f u e n t) (hx7 : 0 ≤ x7 ∧ x7 ≤ 1000) (hx8 : -1 ≤ x8 ∧ x8 ≤ 1000000000), nn - i = k → Bd zp l ze (rmz 8 183) zs zm zargs zbl zmt zc 13 G base (EI Y (fun r I' L' => MB I M b I' ∧ r = aBs a f u e n t ∧ ∃ q', L' = rL (rL L (M + 2) q') (M + 1) a)) 114 [(10, .int (iI x10)), (8, .long (lI x8)), (7, .int (iI x7)), (6, .int (iI x65)), (0, .ref M), (1, .int (iI f)), (2, .int (iI u)), (3, .int (iI e)), (4, .int (iI n)), (5, .int (iI t))] [] Y (mI I M 7 b1) (rL (rL L (M + 2) a) (M + 1) a) 0 0 := by
              intro k
              induction k using Nat.strongRecOn with
              | _ k ih114 =>
              intro x7 x8 x10 i b1 hx10 hi hb1 hm1 hs hx7 hx8 hk114
              refine r_iload C 0 dX6_bestSplit_114 rfl ?_
              refine r_iload C 8 dX6_bestSplit_116 rfl ?_
              refine n_icmp_ge (tgt := 201) C dX6_bestSplit_118 (by decide) (by constructor <;> omega) (by constructor <;> omega) (fun c118 => ?_) (fun c118 => ?_)
              · refine r_iload C 2 dX6_bestSplit_201 rfl ?_
                refine r_iret C hr hlk dX6_bestSplit_203 (Nat.zero_le _) (Nat.zero_le _) ?_
                exact ⟨_, rfl, rfl, ⟨b1, rfl, hb1⟩, by rw [← hs, show nn - i = 0 by omega]; rfl, _, rfl⟩
              · have hpr2 : 0 ≤ e * x10 ∧ e * x10 ≤ e * (n - 1) := ⟨Int.mul_nonneg (by omega) (by omega), Int.mul_le_mul_of_nonneg_left (by omega) (by omega)⟩
                have hs2 : (if x8 < 0 ∨ bsW a fn (u + e * i) tn < x8 then bsO a fn u e tn (nn - (i + 1)) (i + 1) (u + e * i) (bsW a fn (u + e * i) tn) else bsO a fn u e tn (nn - (i + 1)) (i + 1) x7 x8) = aBs a f u e n t := by
                  rw [← hs, show nn - i = (nn - (i + 1)) + 1 by omega]
                  rfl
                refine r_aload_n C 4 dX6_bestSplit_121 rfl rfl ?_
                refine r_getR C fl_X6_7 rfl dX6_bestSplit_122 hM.1.1 hM.2.1 ?_
                refine r_iload_n C 5 dX6_bestSplit_125 rfl rfl ?_
                refine r_iconst (v := iI 2) C dX6_bestSplit_126 rfl ?_
                refine cS2_PI C (k_X6_flowAt ) cw_X6_40 (rm_ok rfl rfl (Nat.zero_le _) (Nat.zero_le _)) (Nat.le_of_ble_eq_true rfl) dX6_bestSplit_127 ?_
                refine r_iload_n C 6 dX6_bestSplit_130 rfl rfl ?_
                refine r_iload_n C 7 dX6_bestSplit_131 rfl rfl ?_
                refine r_iload C 0 dX6_bestSplit_132 rfl ?_
                refine n_imul C dX6_bestSplit_134 ?_
                refine n_iadd C dX6_bestSplit_135 ?_
                refine n_i2l C dX6_bestSplit_136 (by constructor <;> omega) ?_
                refine a_last C ((17 + 18 * fn + 2)) dX6_bestSplit_137 hM.1.2.1 ⟨congrArg iI (by omega), (by omega), by decide⟩ (fun a137 ea137 => ?_)
                have hI137 : Inv N T a137 := by
                  rw [ea137]
                  exact Inv_set hI (by omega) (Or.inr (Or.inr (Or.inl ⟨rfl, by omega, by omega⟩)))
                have hN137 : NowOK a137 := by
                  rw [ea137]
                  exact Now_set (by omega) (by omega) hN
                have hL137 : LagOK a137 := by
                  rw [ea137]
                  exact Lag_set (by omega) (by omega) (by omega) hLg
                have h1377 : a137 7 = a 7 := by rw [ea137]; exact up1_n (by omega)
                refine r_iconst (v := iI 0) C dX6_bestSplit_138 rfl ?_
                refine r_istore (lo' := [(11, .int (iI 0)), (10, .int (iI x10)), (8, .long (lI x8)), (7, .int (iI x7)), (6, .int (iI x65)), (0, .ref M), (1, .int (iI f)), (2, .int (iI u)), (3, .int (iI e)), (4, .int (iI n)), (5, .int (iI t))]) C dX6_bestSplit_139 (by decide) rfl ?_
                have lp141 : ∀ (k : Nat) (x11 : Int) (j : Nat) (a1 : Sa) (b2v : Nat → Nat → Int) (hx11 : x11 = j) (hj : j ≤ tn) (ha1 : a1 = tkN a137 j) (hb2 : b2v 4 = b1 4) (hb26 : b2v 6 = b1 6), tn - j = k → Bd zp l ze (rmz 8 183) zs zm zargs zbl zmt zc 13 G base (EI Y (fun r I' L' => MB I M b I' ∧ r = aBs a f u e n t ∧ ∃ q', L' = rL (rL L (M + 2) q') (M + 1) a)) 141 [(11, .int (iI x11)), (10, .int (iI x10)), (8, .long (lI x8)), (7, .int (iI x7)), (6, .int (iI x65)), (0, .ref M), (1, .int (iI f)), (2, .int (iI u)), (3, .int (iI e)), (4, .int (iI n)), (5, .int (iI t))] [] Y (mI I M 7 b2v) (rL (rL L (M + 2) a) (M + 1) a1) 0 0 := by
                  intro k
                  induction k using Nat.strongRecOn with
                  | _ k ih141 =>
                  intro x11 j a1 b2v hx11 hj ha1 hb2 hb26 hk141
                  have hk1 := tkN_ok hI137 hN137 hL137 j (by omega)
                  rw [← ha1] at hk1
                  refine r_iload C 0 dX6_bestSplit_141 rfl ?_
                  refine r_iload C 10 dX6_bestSplit_143 rfl ?_
                  refine n_icmp_ge (tgt := 158) C dX6_bestSplit_145 (by decide) (by constructor <;> omega) (by constructor <;> omega) (fun c145 => ?_) (fun c145 => ?_)
                  · have hk7 : a1 7 = a 7 := by rw [hk1.2.2.2.2.2, h1377]
                    have hjt : j = tn := by omega
                    have hm2 : ∀ p : Nat, old a1 ≤ p → (p : Int) < a1 7 → b2v 6 (p % 120) = b2 (a (125 + 11 * (p % 120) + 4) ≤ 1) := by
                      intro p h1 h2
                      rw [hb26]
                      exact hm1 p (by rw [← old_eq hk7]; exact h1) (by rw [← hk7]; exact h2)
                    have hbw : wst a a1 = bsW a fn (u + e * i) tn := by
                      unfold bsW
                      rw [ha1, ea137, hjt, hx10]
                    have hwb : 0 ≤ wst a a1 ∧ wst a a1 ≤ 1000000000 := by
                      have hT1 := hk1.1.1
                      unfold TopOK at hT1
                      have ho : old a1 = (a1 7 - 120).toNat := rfl
                      unfold wst
                      rw [← old_eq hk7, ← hk7]
                      exact wsO_b hk1.1 _ _ _ (Nat.le_refl _) (by omega) (by omega)
                    refine r_aload_n C 5 dX6_bestSplit_158 rfl rfl ?_
                    refine cV0_PL C (k_X6_worstOfMarked hk1.1 a hM hk7 hm2) cw_X6_226 (rm_ok rfl rfl (Nat.zero_le _) (Nat.zero_le _)) (Nat.le_of_ble_eq_true rfl) hM.1.1 dX6_bestSplit_159 ?_
                    refine n_topl (fun y162 ey162 => ?_)
                    refine r_lstore (lo' := [(11, .long (lI y162)), (10, .int (iI x10)), (8, .long (lI x8)), (7, .int (iI x7)), (6, .int (iI x65)), (0, .ref M), (1, .int (iI f)), (2, .int (iI u)), (3, .int (iI e)), (4, .int (iI n)), (5, .int (iI t))]) C dX6_bestSplit_162 (by decide) rfl ?_
                    refine r_aload_n C 5 dX6_bestSplit_164 rfl rfl ?_
                    refine cV0_EV C (k_X6_putBack hM) cw_X6_214 (rm_ok rfl rfl (Nat.zero_le _) (Nat.zero_le _)) (Nat.le_of_ble_eq_true rfl) hM.1.1 dX6_bestSplit_165 (fun I165 L165 h165 => ?_)
                    obtain ⟨h165I, h165L⟩ := h165
                    subst h165I
                    subst h165L
                    have hy : y162 = bsW a fn (u + e * i) tn := by rw [ey162, hbw]
                    refine r_lload C 2 dX6_bestSplit_168 rfl ?_
                    refine r_lconst (v := lI 0) C dX6_bestSplit_170 (by decide) ?_
                    refine n_lcmp_lt (tgt := 183) C dX6_bestSplit_171 dX6_bestSplit_172 rfl rfl (by decide) (by constructor <;> omega) ⟨by decide, by decide⟩ (fun c171 => ?_) (fun c171 => ?_)
                    · refine r_lload C 0 dX6_bestSplit_183 rfl ?_
                      refine r_lstore (lo' := [(8, .long (lI y162)), (11, .long (lI y162)), (10, .int (iI x10)), (7, .int (iI x7)), (6, .int (iI x65)), (0, .ref M), (1, .int (iI f)), (2, .int (iI u)), (3, .int (iI e)), (4, .int (iI n)), (5, .int (iI t))]) C dX6_bestSplit_185 (by decide) rfl ?_
                      refine r_iload_n C 7 dX6_bestSplit_187 rfl rfl ?_
                      refine r_iload_n C 8 dX6_bestSplit_188 rfl rfl ?_
                      refine r_iload C 2 dX6_bestSplit_189 rfl ?_
                      refine n_imul C dX6_bestSplit_191 ?_
                      refine n_iadd C dX6_bestSplit_192 ?_
                      refine n_topi (fun x193 ex193 => ?_)
                      refine r_istore (lo' := [(7, .int (iI x193)), (8, .long (lI y162)), (11, .long (lI y162)), (10, .int (iI x10)), (6, .int (iI x65)), (0, .ref M), (1, .int (iI f)), (2, .int (iI u)), (3, .int (iI e)), (4, .int (iI n)), (5, .int (iI t))]) C dX6_bestSplit_193 (by decide) rfl ?_
                      refine n_iinc (lo' := [(10, .int (iI (x10 + 1))), (7, .int (iI x193)), (8, .long (lI y162)), (11, .long (lI y162)), (6, .int (iI x65)), (0, .ref M), (1, .int (iI f)), (2, .int (iI u)), (3, .int (iI e)), (4, .int (iI n)), (5, .int (iI t))]) C 3 dX6_bestSplit_195 rfl rfl (by decide) rfl ?_
                      refine r_goto (tgt := 114) C dX6_bestSplit_198 (by decide) ?_
                      refine r_lo [0, 2, 1, 4, 5, 6, 7, 8, 9, 10] rfl ?_
                      exact ih114 _ (by first | omega | (rw [← hk114]; omega)) x193 y162 ((x10 + 1)) (i + 1) b2v (by omega) (by omega) (by rw [hb2, hb1]) (by intro p h1 h2; rw [hb26]; exact hm1 p h1 h2) (by rw [← hs2, if_pos (by omega), ex193, hx10, hy]) (by omega) (by omega) rfl
                    · refine r_lload C 0 dX6_bestSplit_175 rfl ?_
                      refine r_lload C 2 dX6_bestSplit_177 rfl ?_
                      refine n_lcmp_ge (tgt := 195) C dX6_bestSplit_179 dX6_bestSplit_180 rfl rfl (by decide) (by constructor <;> omega) (by constructor <;> omega) (fun c179 => ?_) (fun c179 => ?_)
                      · refine n_iinc (lo' := [(10, .int (iI (x10 + 1))), (11, .long (lI y162)), (8, .long (lI x8)), (7, .int (iI x7)), (6, .int (iI x65)), (0, .ref M), (1, .int (iI f)), (2, .int (iI u)), (3, .int (iI e)), (4, .int (iI n)), (5, .int (iI t))]) C 1 dX6_bestSplit_195 rfl rfl (by decide) rfl ?_
                        refine r_goto (tgt := 114) C dX6_bestSplit_198 (by decide) ?_
                        refine r_lo [0, 2, 3, 4, 5, 6, 7, 8, 9, 10] rfl ?_
                        exact ih114 _ (by first | omega | (rw [← hk114]; omega)) x7 x8 ((x10 + 1)) (i + 1) b2v (by omega) (by omega) (by rw [hb2, hb1]) (by intro p h1 h2; rw [hb26]; exact hm1 p h1 h2) (by rw [← hs2, if_neg (by omega)]) hx7 hx8 rfl
                      · refine r_lload C 0 dX6_bestSplit_183 rfl ?_
                        refine r_lstore (lo' := [(8, .long (lI y162)), (11, .long (lI y162)), (10, .int (iI x10)), (7, .int (iI x7)), (6, .int (iI x65)), (0, .ref M), (1, .int (iI f)), (2, .int (iI u)), (3, .int (iI e)), (4, .int (iI n)), (5, .int (iI t))]) C dX6_bestSplit_185 (by decide) rfl ?_
                        refine r_iload_n C 7 dX6_bestSplit_187 rfl rfl ?_
                        refine r_iload_n C 8 dX6_bestSplit_188 rfl rfl ?_
                        refine r_iload C 2 dX6_bestSplit_189 rfl ?_
                        refine n_imul C dX6_bestSplit_191 ?_
                        refine n_iadd C dX6_bestSplit_192 ?_
                        refine n_topi (fun x193 ex193 => ?_)
                        refine r_istore (lo' := [(7, .int (iI x193)), (8, .long (lI y162)), (11, .long (lI y162)), (10, .int (iI x10)), (6, .int (iI x65)), (0, .ref M), (1, .int (iI f)), (2, .int (iI u)), (3, .int (iI e)), (4, .int (iI n)), (5, .int (iI t))]) C dX6_bestSplit_193 (by decide) rfl ?_
                        refine n_iinc (lo' := [(10, .int (iI (x10 + 1))), (7, .int (iI x193)), (8, .long (lI y162)), (11, .long (lI y162)), (6, .int (iI x65)), (0, .ref M), (1, .int (iI f)), (2, .int (iI u)), (3, .int (iI e)), (4, .int (iI n)), (5, .int (iI t))]) C 3 dX6_bestSplit_195 rfl rfl (by decide) rfl ?_
                        refine r_goto (tgt := 114) C dX6_bestSplit_198 (by decide) ?_
                        refine r_lo [0, 2, 1, 4, 5, 6, 7, 8, 9, 10] rfl ?_
                        exact ih114 _ (by first | omega | (rw [← hk114]; omega)) x193 y162 ((x10 + 1)) (i + 1) b2v (by omega) (by omega) (by rw [hb2, hb1]) (by intro p h1 h2; rw [hb26]; exact hm1 p h1 h2) (by rw [← hs2, if_pos (by omega), ex193, hx10, hy]) (by omega) (by omega) rfl
                  · refine r_aload_n C 5 dX6_bestSplit_148 rfl rfl ?_
                    refine cV0_EV C (k_X6_tick hk1.1 hM hk1.2.1 (by omega)) cw_X6_198 (rm_ok rfl rfl (Nat.zero_le _) (Nat.zero_le _)) (Nat.le_of_ble_eq_true rfl) hM.1.1 dX6_bestSplit_149 (fun I149 L149 h149 => ?_)
                    obtain ⟨⟨v149, h149I⟩, h149L⟩ := h149
                    obtain ⟨a149, ea149⟩ : ∃ z, z = tick a1 := ⟨_, rfl⟩
                    obtain ⟨b149, eb149⟩ : ∃ z, z = up2 (up2 b2v 0 8 (tkz a1)) 0 9 v149 := ⟨_, rfl⟩
                    have hb8_149 : b149 0 8 = tkz a1 := by rw [eb149, up2_nk (by decide), up2_s]
                    have hb4_149 : b149 4 = b2v 4 := by rw [eb149, up2_rown (by decide), up2_rown (by decide)]
                    have hb6_149 : b149 6 = b2v 6 := by rw [eb149, up2_rown (by decide), up2_rown (by decide)]
                    rw [← ea149] at h149L
                    rw [← eb149] at h149I
                    subst h149I
                    subst h149L
                    refine n_iinc (lo' := [(11, .int (iI (x11 + 1))), (10, .int (iI x10)), (8, .long (lI x8)), (7, .int (iI x7)), (6, .int (iI x65)), (0, .ref M), (1, .int (iI f)), (2, .int (iI u)), (3, .int (iI e)), (4, .int (iI n)), (5, .int (iI t))]) C 0 dX6_bestSplit_152 rfl rfl (by decide) rfl ?_
                    refine r_goto (tgt := 141) C dX6_bestSplit_155 (by decide) ?_
                    exact ih141 _ (by first | omega | (rw [← hk141]; omega)) ((x11 + 1)) (j + 1) a149 b149 (by omega) (by omega) (by rw [ea149, ha1]; rfl) (by rw [hb4_149, hb2]) (by rw [hb6_149, hb26]) rfl
                exact lp141 _ 0 0 a137 b1 rfl (by omega) rfl rfl rfl rfl
            exact lp114 _ u ((-1)) 0 0 b90 rfl (by omega) hb4_90 hm_90 hfin (by omega) (by omega) rfl
          · refine r_bipush (v := iI (-5)) C dX6_bestSplit_96 (by decide) ?_
            refine r_iret C hr hlk dX6_bestSplit_98 (Nat.zero_le _) (Nat.zero_le _) ?_
            exact ⟨_, rfl, rfl, ⟨b90, rfl, hb4_90⟩, by unfold aBs; rw [if_neg (by omega), if_neg (by omega), if_pos (by omega)], _, rfl⟩
        · refine r_bipush (v := iI (-2)) C dX6_bestSplit_86 (by decide) ?_
          refine r_iret C hr hlk dX6_bestSplit_88 (Nat.zero_le _) (Nat.zero_le _) ?_
          exact ⟨_, rfl, rfl, MB.self, by unfold aBs; rw [if_neg (by omega), if_pos (by omega)], _, rfl⟩
    refine r_iload_n C 2 dX6_bestSplit_10 rfl rfl ?_
    refine n_i2l C dX6_bestSplit_11 (by constructor <;> omega) ?_
    refine r_lconst (v := lI 0) C dX6_bestSplit_12 (by decide) ?_
    refine n_ldc2 (v := 1000) C lc_X6_70 (by decide) dX6_bestSplit_13 ?_
    refine cS3_PI C (k_X6_in (by constructor <;> omega) ⟨by decide, by decide⟩ ⟨by decide, by decide⟩) cw_X6_36 (rm_ok rfl rfl (Nat.zero_le _) (Nat.zero_le _)) (Nat.le_of_ble_eq_true rfl) dX6_bestSplit_16 ?_
    refine n_if_eq (tgt := 64) C dX6_bestSplit_19 (by decide) b2_i (fun c19 => ?_) (fun c19 => ?_)
    · refine r_iconst (v := iI 0) C dX6_bestSplit_64 rfl ?_
      exact jn65 _ (Or.inl ⟨c19, rfl⟩)
    · refine r_iload_n C 3 dX6_bestSplit_22 rfl rfl ?_
      refine n_i2l C dX6_bestSplit_23 (by constructor <;> omega) ?_
      refine r_lconst (v := lI 1) C dX6_bestSplit_24 (by decide) ?_
      refine n_ldc2 (v := 500) C lc_X6_219 (by decide) dX6_bestSplit_25 ?_
      refine cS3_PI C (k_X6_in (by constructor <;> omega) ⟨by decide, by decide⟩ ⟨by decide, by decide⟩) cw_X6_36 (rm_ok rfl rfl (Nat.zero_le _) (Nat.zero_le _)) (Nat.le_of_ble_eq_true rfl) dX6_bestSplit_28 ?_
      refine n_if_eq (tgt := 64) C dX6_bestSplit_31 (by decide) b2_i (fun c31 => ?_) (fun c31 => ?_)
      · refine r_iconst (v := iI 0) C dX6_bestSplit_64 rfl ?_
        exact jn65 _ (Or.inr (Or.inl ⟨c19, c31, rfl⟩))
      · refine r_iload C 4 dX6_bestSplit_34 rfl ?_
        refine n_i2l C dX6_bestSplit_36 (by constructor <;> omega) ?_
        refine r_lconst (v := lI 1) C dX6_bestSplit_37 (by decide) ?_
        refine n_ldc2 (v := 6) C lc_X6_66 (by decide) dX6_bestSplit_38 ?_
        refine cS3_PI C (k_X6_in (by constructor <;> omega) ⟨by decide, by decide⟩ ⟨by decide, by decide⟩) cw_X6_36 (rm_ok rfl rfl (Nat.zero_le _) (Nat.zero_le _)) (Nat.le_of_ble_eq_true rfl) dX6_bestSplit_41 ?_
        refine n_if_eq (tgt := 64) C dX6_bestSplit_44 (by decide) b2_i (fun c44 => ?_) (fun c44 => ?_)
        · refine r_iconst (v := iI 0) C dX6_bestSplit_64 rfl ?_
          exact jn65 _ (Or.inr (Or.inr (Or.inl ⟨c19, c31, c44, rfl⟩)))
        · refine r_iload C 5 dX6_bestSplit_47 rfl ?_
          refine n_i2l C dX6_bestSplit_49 (by constructor <;> omega) ?_
          refine r_lconst (v := lI 1) C dX6_bestSplit_50 (by decide) ?_
          refine n_ldc2 (v := 1000) C lc_X6_70 (by decide) dX6_bestSplit_51 ?_
          refine cS3_PI C (k_X6_in (by constructor <;> omega) ⟨by decide, by decide⟩ ⟨by decide, by decide⟩) cw_X6_36 (rm_ok rfl rfl (Nat.zero_le _) (Nat.zero_le _)) (Nat.le_of_ble_eq_true rfl) dX6_bestSplit_54 ?_
          refine n_if_eq (tgt := 64) C dX6_bestSplit_57 (by decide) b2_i (fun c57 => ?_) (fun c57 => ?_)
          · refine r_iconst (v := iI 0) C dX6_bestSplit_64 rfl ?_
            exact jn65 _ (Or.inr (Or.inr (Or.inr (Or.inl ⟨c19, c31, c44, c57, rfl⟩))))
          · refine r_iconst (v := iI 1) C dX6_bestSplit_60 rfl ?_
            refine r_goto (tgt := 65) C dX6_bestSplit_61 (by decide) ?_
            exact jn65 _ (Or.inr (Or.inr (Or.inr (Or.inr (⟨c19, c31, c44, c57, rfl⟩)))))
  · refine r_iconst (v := iI (-1)) C dX6_bestSplit_8 rfl ?_
    refine r_iret C hr hlk dX6_bestSplit_9 (Nat.zero_le _) (Nat.zero_le _) ?_
    rw [b2_eq0] at c5
    exact ⟨_, rfl, rfl, MB.self, by unfold aBs; rw [if_pos (by omega)], _, rfl⟩
