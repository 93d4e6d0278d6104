theorem ar_le {a : Sa} {N T : Int} (hI : Inv N T a) {p : Nat} (hp : p ≤ 80) : p ≤ arP a p ∧ arP a p ≤ 80 ∧ (arW a p = 0 ∨ arW a p = 1) := by
  unfold arP arW
  by_cases h : 97 ≤ ch a p ∧ ch a p ≤ 102
  · rw [if_pos h, if_pos h]
    have h1 := av1_b hI h
    have h2 := av2_b hI h
    have h3 := av3_b hI h
    exact ⟨by omega, by omega, h3.2.2.1⟩
  · rw [if_neg h, if_neg h]
    exact ⟨Nat.le_refl _, hp, Or.inr rfl⟩
theorem ar_ok {a : Sa} {N T : Int} (hI : Inv N T a) {p : Nat} (hw : arW a p = 0) : (97 ≤ ch a p ∧ ch a p ≤ 102) ∧ (p + 2 ≤ arP a p ∧ arP a p ≤ 80) ∧ (1 ≤ (av1 a p).2.1 ∧ (av1 a p).2.1 ≤ 2000) ∧ (0 ≤ (av2 a p).2.1 ∧ (av2 a p).2.1 ≤ 9999) ∧ (0 ≤ (av3 a p).2.1 ∧ (av3 a p).2.1 ≤ 9) := by
  by_cases h : 97 ≤ ch a p ∧ ch a p ≤ 102
  · unfold arW at hw
    rw [if_pos h] at hw
    unfold arP
    rw [if_pos h]
    have h1 := av1_b hI h
    have h2 := av2_b hI h
    have h3 := av3_b hI h
    have h4 := h1.2.2.2 (h2.2.2.2 (h3.2.2.2 hw))
    exact ⟨h, ⟨by omega, by omega⟩, ⟨h4.2, h1.2.1.2⟩, h2.2.1, h3.2.1⟩
  · unfold arW at hw
    rw [if_neg h] at hw
    exact absurd hw (by decide)
/-- where the i-th arrival begins -/
def psq (a : Sa) : Nat → Nat
  | 0 => 0
  | i + 1 => arP a (psq a i) + 1
/-- another arrival follows the i-th -/
def goes (a : Sa) (i : Nat) : Prop := arW a (psq a i) = 0 ∧ ch a (arP a (psq a i)) = 44
noncomputable def nst (a : Sa) : Nat → Nat → Nat
  | 0, i => i
  | k + 1, i => @ite _ (goes a i) (Classical.propDecidable _) (nst a k (i + 1)) i
/-- the arrival at which reading stops -/
noncomputable def nsA (a : Sa) : Nat := nst a 30 0
noncomputable def aFlt (a : Sa) : Int := if arW a (psq a (nsA a)) = 0 ∧ a 1825 ≤ arP a (psq a (nsA a)) then -6 else arP a (psq a (nsA a))
theorem nst_y {a : Sa} {k i : Nat} (h : goes a i) : nst a (k + 1) i = nst a k (i + 1) := by
  show @ite _ (goes a i) (Classical.propDecidable _) _ _ = _
  rw [@if_pos _ (Classical.propDecidable _) h]
theorem nst_n {a : Sa} {k i : Nat} (h : ¬ goes a i) : nst a (k + 1) i = i := by
  show @ite _ (goes a i) (Classical.propDecidable _) _ _ = _
  rw [@if_neg _ (Classical.propDecidable _) h]
theorem psq_b {a : Sa} {N T : Int} (hI : Inv N T a) : ∀ i, (∀ j, j < i → goes a j) → 3 * i ≤ psq a i ∧ psq a i ≤ 80
  | 0, _ => ⟨by simp, Nat.zero_le _⟩
  | i + 1, h => by
    have h1 := psq_b hI i (fun j hj => h j (by omega))
    have h2 := h i (by omega)
    have h3 := ar_ok hI h2.1
    have h4 := ch_lt hI (p := arP a (psq a i)) (by rw [h2.2]; decide)
    show 3 * (i + 1) ≤ arP a (psq a i) + 1 ∧ arP a (psq a i) + 1 ≤ 80
    omega
theorem nst_ok {a : Sa} : ∀ k i, (∀ j, j < i → goes a j) → (∀ j, j < nst a k i → goes a j) ∧ i ≤ nst a k i
  | 0, i, h => ⟨h, Nat.le_refl _⟩
  | k + 1, i, h => by
    by_cases hg : goes a i
    · rw [nst_y hg]
      have h2 := nst_ok (a := a) k (i + 1) (fun j hj => by
        by_cases e : j = i
        · rw [e]; exact hg
        · exact h j (by omega))
      exact ⟨h2.1, by omega⟩
    · rw [nst_n hg]
      exact ⟨h, Nat.le_refl _⟩
theorem nsA_ok {a : Sa} {N T : Int} (hI : Inv N T a) : (∀ j, j < nsA a → goes a j) ∧ nsA a ≤ 26 ∧ 3 * nsA a ≤ psq a (nsA a) ∧ psq a (nsA a) ≤ 80 := by
  have h1 := (nst_ok (a := a) 30 0 (fun j hj => absurd hj (by omega))).1
  have h2 := psq_b hI (nsA a) h1
  exact ⟨h1, by omega, h2⟩
theorem flt_ok {a : Sa} {N T : Int} (hI : Inv N T a) (h : aFlt a = -6) : ∀ i, i ≤ nsA a → arW a (psq a i) = 0 := by
  intro i hi
  by_cases e : i < nsA a
  · exact ((nsA_ok hI).1 i e).1
  · have e2 : i = nsA a := by omega
    subst e2
    unfold aFlt at h
    split at h
    · rename_i hc
      exact hc.1
    · omega
set_option maxHeartbeats 4000000 in
set_option maxRecDepth 20000 in
theorem k_X6_fault {l : Launch} {G : Gd} {base : Nat} {Y : MY} {I : MI} {L : ML} {M : Nat} {a : Sa} {N T : Int} (hI : Inv N T a) {b : Nat → Nat → Int}  (hM : MLy base Y M)  : Ct l yX6_fault cX6_fault 2 (some .int) (rmz 3 68) G base [.ref M] Y (mI I M 7 b) (rL L (M + 1) a) (EI Y (fun r I' L' => r = aFlt a ∧ L' = rL L (M + 1) a ∧ ∃ b', I' = mI I M 7 b' ∧ b' 4 = b 4 ∧ (aFlt a = -6 → b' 0 7 = nsA a + 1 ∧ ∀ j, j < nsA a + 1 → Arr a (b' 5) j (psq a j)))) := by
  refine Ct.of (own := RX6) (lo := [(0, .ref M)]) (by decide) rfl (Nat.le_of_ble_eq_true rfl) rfl ?_
  intro zp ze zs zm zargs zbl zmt zc C hr hlk hnm
  have hT := hI.1
  unfold TopOK at hT
  have hpd := hI.2.2.2.2.1
  refine r_aload_n C 0 dX6_fault_0 rfl rfl ?_
  refine r_iconst (v := iI 0) C dX6_fault_1 rfl ?_
  refine g_putI C (o := 0) rfl (by decide) fl_X6_118 rfl dX6_fault_2 hM.1.1 (fun b2 eb2 => ?_)
  refine r_aload_n C 0 dX6_fault_5 rfl rfl ?_
  refine r_iconst (v := iI 0) C dX6_fault_6 rfl ?_
  refine g_putI C (o := 0) rfl (by decide) fl_X6_135 rfl dX6_fault_7 hM.1.1 (fun b7 eb7 => ?_)
  refine r_aload_n C 0 dX6_fault_10 rfl rfl ?_
  refine r_iconst (v := iI 0) C dX6_fault_11 rfl ?_
  refine g_putZ C (o := 0) rfl (by decide) fl_X6_129 rfl dX6_fault_12 hM.1.1 (by decide) (fun b12 eb12 => ?_)
  refine r_iconst (v := iI 1) C dX6_fault_15 rfl ?_
  refine r_istore_n (lo' := [(1, .int (iI 1)), (0, .ref M)]) C dX6_fault_16 rfl (by decide) rfl ?_
  have lp17 : ∀ (k : Nat) (x1 : Int) (i : Nat) (b1 : Nat → Nat → Int) (hb1 : b1 4 = b 4) (he : (x1 = 1 ∧ b1 0 4 = psq a i ∧ b1 0 7 = i ∧ (∀ j, j < i → goes a j) ∧ nst a (30 - i) i = nsA a ∧ (∀ j, j < i → Arr a (b1 5) j (psq a j))) ∨ (x1 = 0 ∧ i = nsA a ∧ b1 0 4 = arP a (psq a i) ∧ b1 0 5 = arW a (psq a i) ∧ (arW a (psq a i) = 0 → b1 0 7 = i + 1 ∧ ∀ j, j < i + 1 → Arr a (b1 5) j (psq a j)))), 2 * (30 - i) + x1.toNat = k → Bd zp l ze (rmz 3 68) zs zm zargs zbl zmt zc 2 G base (EI Y (fun r I' L' => r = aFlt a ∧ L' = rL L (M + 1) a ∧ ∃ b', I' = mI I M 7 b' ∧ b' 4 = b 4 ∧ (aFlt a = -6 → b' 0 7 = nsA a + 1 ∧ ∀ j, j < nsA a + 1 → Arr a (b' 5) j (psq a j)))) 17 [(1, .int (iI x1)), (0, .ref M)] [] Y (mI I M 7 b1) (rL L (M + 1) a) 0 0 := by
    intro k
    induction k using Nat.strongRecOn with
    | _ k ih17 =>
    intro x1 i b1 hb1 he hk17
    have hx1 : x1 = 0 ∨ x1 = 1 := by
      rcases he with h | h
      · exact Or.inr h.1
      · exact Or.inl h.1
    refine r_iload_n C 0 dX6_fault_17 rfl rfl ?_
    refine n_if_eq (tgt := 68) C dX6_fault_18 (by decide) (by constructor <;> omega) (fun c18 => ?_) (fun c18 => ?_)
    · obtain ⟨_, hin, h14, h15, hst⟩ := he.resolve_left (fun h => by omega)
      have hpb := nsA_ok hI
      rw [← hin] at hpb
      have hal := ar_le hI hpb.2.2.2
      refine r_aload_n C 1 dX6_fault_68 rfl rfl ?_
      refine g_getI C (o := 0) (v := (b1 0 5)) rfl (by decide) fl_X6_129 rfl dX6_fault_69 hM.1.1 rfl ?_
      refine n_if_ne (tgt := 92) C dX6_fault_72 (by decide) (by constructor <;> omega) (fun c72 => ?_) (fun c72 => ?_)
      · refine r_aload_n C 1 dX6_fault_92 rfl rfl ?_
        refine g_getI C (o := 0) (v := (b1 0 4)) rfl (by decide) fl_X6_118 rfl dX6_fault_93 hM.1.1 rfl ?_
        refine r_goto (tgt := 101) C dX6_fault_96 (by decide) ?_
        refine r_iret C hr hlk dX6_fault_101 (Nat.zero_le _) (Nat.zero_le _) ?_
        have hF : aFlt a = arP a (psq a i) := by
          unfold aFlt
          rw [← hin, if_neg (by omega)]
        exact ⟨_, rfl, rfl, (h14.trans hF.symm), rfl, b1, rfl, hb1, fun hz => by omega⟩
      · refine r_aload_n C 1 dX6_fault_75 rfl rfl ?_
        refine g_getI C (o := 0) (v := (b1 0 4)) rfl (by decide) fl_X6_118 rfl dX6_fault_76 hM.1.1 rfl ?_
        refine n_i2l C dX6_fault_79 (by constructor <;> omega) ?_
        refine r_aload_n C 1 dX6_fault_80 rfl rfl ?_
        refine r_getR C fl_X6_7 rfl dX6_fault_81 hM.1.1 hM.2.1 ?_
        refine r_sipush (v := iI 1825) C dX6_fault_84 (by decide) ?_
        refine a_lald C (v := (a 1825)) 1825 dX6_fault_87 hM.1.2.1 ⟨rfl, by decide, by decide⟩ rfl ?_
        refine n_lcmp_ge (tgt := 99) C dX6_fault_88 dX6_fault_89 rfl rfl (by decide) (by constructor <;> omega) (by constructor <;> omega) (fun c88 => ?_) (fun c88 => ?_)
        · refine r_bipush (v := iI (-6)) C dX6_fault_99 (by decide) ?_
          refine r_iret C hr hlk dX6_fault_101 (Nat.zero_le _) (Nat.zero_le _) ?_
          have hF : aFlt a = -6 := by
            unfold aFlt
            rw [← hin, if_pos ⟨by omega, by omega⟩]
          exact ⟨_, rfl, rfl, hF.symm, rfl, b1, rfl, hb1, fun _ => by rw [← hin]; exact hst (by omega)⟩
        · refine r_aload_n C 1 dX6_fault_92 rfl rfl ?_
          refine g_getI C (o := 0) (v := (b1 0 4)) rfl (by decide) fl_X6_118 rfl dX6_fault_93 hM.1.1 rfl ?_
          refine r_goto (tgt := 101) C dX6_fault_96 (by decide) ?_
          refine r_iret C hr hlk dX6_fault_101 (Nat.zero_le _) (Nat.zero_le _) ?_
          have hF : aFlt a = arP a (psq a i) := by
            unfold aFlt
            rw [← hin, if_neg (by omega)]
          exact ⟨_, rfl, rfl, (h14.trans hF.symm), rfl, b1, rfl, hb1, fun hz => by omega⟩
    · obtain ⟨_, h14, h17, hgj, hn, hst⟩ := he.resolve_right (fun h => c18 h.1)
      have hpb := psq_b hI i hgj
      have hal := ar_le hI hpb.2
      have hgs : goes a i → ∀ j, j < i + 1 → goes a j := by
        intro hg j hj
        by_cases e : j = i
        · rw [e]; exact hg
        · exact hgj j (by omega)
      refine r_aload_n C 1 dX6_fault_21 rfl rfl ?_
      refine cV0_EV C (k_X6_readArrival hI ((psq a i)) i hM (by omega) (by omega) (by omega) (by omega)) cw_X6_146 (rm_ok rfl rfl (Nat.zero_le _) (Nat.zero_le _)) (Nat.le_of_ble_eq_true rfl) hM.1.1 dX6_fault_22 (fun I22 L22 h22 => ?_)
      obtain ⟨h22L, b22, h22I, r4_22, r5_22, r44_22, rlo_22, rar_22⟩ := h22
      subst h22I
      subst h22L
      have hst2 : arW a (psq a i) = 0 → ∀ j, j < i + 1 → Arr a (b22 5) j (psq a j) := by
        intro hz j hj
        by_cases e : j = i
        · rw [e]; exact (rar_22 hz).2
        · have h := hst j (by omega)
          unfold Arr at h ⊢
          rw [rlo_22 _ (by omega), rlo_22 _ (by omega), rlo_22 _ (by omega), rlo_22 _ (by omega)]
          exact h
      have hcb := ch_b hI (arP a (psq a i))
      have jn46 : ∀ x46 : Int, (¬ (b22 0 5) = 0 ∧ x46 = 0) ∨ ((b22 0 5) = 0 ∧ ¬ (ch a ((arP a ((psq a i))))) = 44 ∧ x46 = 0) ∨ ((b22 0 5) = 0 ∧ (ch a ((arP a ((psq a i))))) = 44 ∧ x46 = 1) → Bd zp l ze (rmz 3 68) zs zm zargs zbl zmt zc 2 G base (EI Y (fun r I' L' => r = aFlt a ∧ L' = rL L (M + 1) a ∧ ∃ b', I' = mI I M 7 b' ∧ b' 4 = b 4 ∧ (aFlt a = -6 → b' 0 7 = nsA a + 1 ∧ ∀ j, j < nsA a + 1 → Arr a (b' 5) j (psq a j)))) 46 [(1, .int (iI x1)), (0, .ref M)] [.int (iI x46)] Y (mI I M 7 b22) (rL L (M + 1) a) 0 0 := by
        intro x46 hx46
        have hgo : (x46 = 1 ∧ goes a i) ∨ (x46 = 0 ∧ ¬ goes a i) := by
          unfold goes
          omega
        refine r_istore_n (lo' := [(1, .int (iI x46)), (0, .ref M)]) C dX6_fault_46 rfl (by decide) rfl ?_
        refine r_aload_n C 1 dX6_fault_47 rfl rfl ?_
        refine r_dup C dX6_fault_48 rfl ?_
        refine g_getI C (o := 0) (v := (b22 0 4)) rfl (by decide) fl_X6_118 rfl dX6_fault_49 hM.1.1 rfl ?_
        refine r_iload_n C 0 dX6_fault_52 rfl rfl ?_
        refine n_if_eq (tgt := 60) C dX6_fault_53 (by decide) (by constructor <;> omega) (fun c53 => ?_) (fun c53 => ?_)
        · have hgo := (hgo.resolve_left (fun h => by omega)).2
          refine r_iconst (v := iI 0) C dX6_fault_60 rfl ?_
          refine n_iadd C dX6_fault_61 ?_
          refine g_putI C (o := 0) rfl (by decide) fl_X6_118 rfl dX6_fault_62 hM.1.1 (fun b62 eb62 => ?_)
          refine r_goto (tgt := 17) C dX6_fault_65 (by decide) ?_
          exact ih17 _ (by first | omega | (rw [← hk17]; omega)) x46 i b62 (by rw [eb62, up2_rown (by decide), r44_22, hb1]) (Or.inr ⟨by omega, (by rw [← hn, show 30 - i = 29 - i + 1 by omega, nst_n hgo]), (by rw [eb62, up2_s, r4_22]; omega), (by rw [eb62, up2_nk (by decide)]; exact r5_22), fun hz => ⟨(by rw [eb62, up2_nk (by decide)]; exact (rar_22 hz).1), (by intro j hj; rw [eb62, up2_rown (by decide)]; exact hst2 hz j hj)⟩⟩) rfl
        · have hgo := (hgo.resolve_right (fun h => c53 h.1)).2
          refine r_iconst (v := iI 1) C dX6_fault_56 rfl ?_
          refine r_goto (tgt := 61) C dX6_fault_57 (by decide) ?_
          refine n_iadd C dX6_fault_61 ?_
          refine g_putI C (o := 0) rfl (by decide) fl_X6_118 rfl dX6_fault_62 hM.1.1 (fun b62 eb62 => ?_)
          refine r_goto (tgt := 17) C dX6_fault_65 (by decide) ?_
          exact ih17 _ (by first | omega | (rw [← hk17]; omega)) x46 (i + 1) b62 (by rw [eb62, up2_rown (by decide), r44_22, hb1]) (Or.inl ⟨by omega, (by rw [eb62, up2_s, r4_22]; show (arP a (psq a i) : Int) + 1 = ((arP a (psq a i) + 1 : Nat) : Int); omega), (by rw [eb62, up2_nk (by decide), (rar_22 hgo.1).1]; omega), hgs hgo, (by rw [← nst_y hgo, ← hn, show 30 - i = 30 - (i + 1) + 1 by omega]), (by intro j hj; rw [eb62, up2_rown (by decide)]; exact hst2 hgo.1 j hj)⟩) rfl
      refine r_aload_n C 1 dX6_fault_25 rfl rfl ?_
      refine g_getI C (o := 0) (v := (b22 0 5)) rfl (by decide) fl_X6_129 rfl dX6_fault_26 hM.1.1 rfl ?_
      refine n_if_ne (tgt := 45) C dX6_fault_29 (by decide) (by constructor <;> omega) (fun c29 => ?_) (fun c29 => ?_)
      · refine r_iconst (v := iI 0) C dX6_fault_45 rfl ?_
        exact jn46 _ (Or.inl ⟨c29, rfl⟩)
      · refine r_aload_n C 1 dX6_fault_32 rfl rfl ?_
        refine cV0_PI C (k_X6_next hI ((arP a ((psq a i)))) hM (by omega) (by omega)) cw_X6_122 (rm_ok rfl rfl (Nat.zero_le _) (Nat.zero_le _)) (Nat.le_of_ble_eq_true rfl) hM.1.1 dX6_fault_33 ?_
        refine r_bipush (v := iI 44) C dX6_fault_36 (by decide) ?_
        refine n_icmp_ne (tgt := 45) C dX6_fault_38 (by decide) (by constructor <;> omega) ⟨by decide, by decide⟩ (fun c38 => ?_) (fun c38 => ?_)
        · refine r_iconst (v := iI 0) C dX6_fault_45 rfl ?_
          exact jn46 _ (Or.inr (Or.inl ⟨c29, c38, rfl⟩))
        · refine r_iconst (v := iI 1) C dX6_fault_41 rfl ?_
          refine r_goto (tgt := 46) C dX6_fault_42 (by decide) ?_
          exact jn46 _ (Or.inr (Or.inr (⟨c29, c38, rfl⟩)))
  exact lp17 _ 1 0 b12 (by rw [eb12, up2_rown (by decide), eb7, up2_rown (by decide), eb2, up2_rown (by decide)]) (Or.inl ⟨rfl, (by have q0 : b12 0 4 = 0 := (by rw [eb12, up2_nk (by omega), eb7, up2_nk (by omega), eb2, up2_s]); rw [q0]; rfl), (by have q0 : b12 0 7 = 0 := (by rw [eb12, up2_nk (by omega), eb7, up2_s]); rw [q0]; rfl), fun j hj => absurd hj (by omega), rfl, fun j hj => absurd hj (by omega)⟩) rfl
