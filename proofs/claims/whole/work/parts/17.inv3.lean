theorem Inv_fl {a a' : Sa} {N T : Int} {f : Nat} (hI : Inv N T a) (hf6 : f < 6) (e : ∀ k, (k < 17 + 18 * f ∨ 17 + 18 * f + 18 ≤ k) → a' k = a k) (h17 : a' (17 + 18 * f + 17) = a (17 + 18 * f + 17)) (hF : (f : Int) < a 2 → FlowOK a' f) : Inv N T a' := by
  have h7 : a' 7 = a 7 := e 7 (by omega)
  have h0 : a' 0 = a 0 := e 0 (by omega)
  have h2 : a' 2 = a 2 := e 2 (by omega)
  refine ⟨?_, ?_, ?_, ?_, ?_, ?_⟩
  · have hT := hI.1
    unfold TopOK at hT ⊢
    rw [h0, h2, h7, e 1 (by omega), e 3 (by omega), e 4 (by omega), e 5 (by omega), e 6 (by omega), e 15 (by omega)]
    exact hT
  · intro g hg
    rw [h2] at hg
    have hFg := hI.2.1 g hg
    have hq : Qs a' g = Qs a g := Qs_cong h7 (fun q _ => isQ_eq (e _ (by omega)) (e _ (by omega)))
    by_cases hgf : g = f
    · subst hgf
      exact ⟨hF hg, by rw [h17, hq]; exact hFg.2⟩
    · refine ⟨hFg.1.up (fun j _ _ _ _ _ _ => e _ (by omega)) (by omega) (by omega), ?_⟩
      rw [e _ (by omega), hq]
      exact hFg.2
  · intro p h1 h3
    rw [old_eq h7] at h1
    rw [h7] at h3
    exact (hI.2.2.1 p h1 h3).up (fun j _ _ => e _ (by omega)) (by omega) (by omega)
  · rw [e 16 (by omega), Ss_cong h7 (fun q _ => isS_eq (e _ (by omega)))]
    exact hI.2.2.2.1
  · rw [e 1825 (by omega)]
    exact hI.2.2.2.2.1
  · intro i hi
    rw [e _ (by omega)]
    exact hI.2.2.2.2.2 i hi
theorem pd1_n {a : Sa} {f p k : Nat} (h : ¬ k = 14 ∧ ¬ k = 15 ∧ (k < 1445 ∨ 1745 ≤ k) ∧ ¬ k = 125 + 11 * (p % 120) + 5 ∧ ¬ k = 125 + 11 * (p % 120) + 6 ∧ ¬ k = 125 + 11 * (p % 120) + 7 ∧ ¬ k = 125 + 11 * (p % 120) + 10 ∧ ¬ k = 17 + 18 * f + 6 ∧ ¬ k = 8 ∧ ¬ k = 9 ∧ ¬ k = 10 ∧ ¬ k = 11) : pd1 a f p k = a k := by
  unfold pd1
  rw [up1_n (by omega), up1_n (by omega), up1_n (by omega), up1_n (by omega), up1_n (by omega), up1_n (by omega), up1_n (by omega), up1_n (by omega), up1_n (by omega), ntp_n (by omega)]
theorem pd1_p5 {a : Sa} {f p : Nat} (hf : f < 6) : pd1 a f p (125 + 11 * (p % 120) + 5) = a (125 + 11 * (p % 120) + 5) + a 9 := by
  unfold pd1
  rw [up1_n (by omega), up1_n (by omega), up1_n (by omega), up1_n (by omega), up1_n (by omega), up1_n (by omega), up1_n (by omega), up1_n (by omega), up1_s]
theorem pd1_p6 {a : Sa} {f p : Nat} (hf : f < 6) : pd1 a f p (125 + 11 * (p % 120) + 6) = a (125 + 11 * (p % 120) + 6) + 1 := by
  unfold pd1
  rw [up1_n (by omega), up1_n (by omega), up1_n (by omega), up1_n (by omega), up1_n (by omega), up1_n (by omega), up1_n (by omega), up1_s]
theorem pd1_p10 {a : Sa} {f p : Nat} (hf : f < 6) : pd1 a f p (125 + 11 * (p % 120) + 10) = a 0 := by
  unfold pd1
  rw [up1_n (by omega), up1_n (by omega), up1_n (by omega), up1_n (by omega), up1_n (by omega), up1_s]
theorem pd1_f6 {a : Sa} {f p : Nat} (hf : f < 6) : pd1 a f p (17 + 18 * f + 6) = a (17 + 18 * f + 6) + a 9 := by
  unfold pd1
  rw [up1_n (by omega), up1_n (by omega), up1_n (by omega), up1_n (by omega), up1_s]
theorem pd1_8 {a : Sa} {f p : Nat} (hf : f < 6) : pd1 a f p 8 = -6 := by
  unfold pd1
  rw [up1_n (by omega), up1_n (by omega), up1_n (by omega), up1_s]
theorem pd1_9 {a : Sa} {f p : Nat} (hf : f < 6) : pd1 a f p 9 = 0 := by
  unfold pd1
  rw [up1_n (by omega), up1_n (by omega), up1_s]
theorem pd1_10 {a : Sa} {f p : Nat} (hf : f < 6) : pd1 a f p 10 = 0 := by
  unfold pd1
  rw [up1_n (by omega), up1_s]
theorem pd1_11 {a : Sa} {f p : Nat} (hf : f < 6) : pd1 a f p 11 = 0 := by
  unfold pd1
  rw [up1_s]
theorem pd1_15 {a : Sa} {f p : Nat} (hf : f < 6) : pd1 a f p 15 = a 15 + 1 := by
  unfold pd1 ntp npA
  rw [up1_n (by omega), up1_n (by omega), up1_n (by omega), up1_n (by omega), up1_n (by omega), up1_n (by omega), up1_n (by omega), up1_n (by omega), up1_n (by omega), up1_n (by omega), up1_s]
theorem Inv_pdA {a : Sa} {N T : Int} {p f : Nat} (hI : Inv N T a) (hk : old a ≤ p ∧ (p : Int) < a 7) (hf : a (125 + 11 * (p % 120) + 0) = f) (h4 : a (125 + 11 * (p % 120) + 4) = 1) (h9 : 1 ≤ a 9) (hle : a (125 + 11 * (p % 120) + 5) + a 9 ≤ a (125 + 11 * (p % 120) + 1)) (hsn : a (17 + 18 * f + 6) + a 9 ≤ a 0) (h15 : a 15 + 1 ≤ a 0) (hlt : a (125 + 11 * (p % 120) + 5) + a 9 < a (125 + 11 * (p % 120) + 1)) : Inv N T (up1 (pd1 a f p) (125 + 11 * (p % 120) + 4) 0) := by
  have hT' := hI.1
  unfold TopOK at hT'
  have hP' := hI.2.2.1 p hk.1 hk.2
  unfold PkOK at hP'
  have hf6 : f < 6 := by omega
  have hF' := hI.2.1 f (by omega)
  have hF2 := hF'.1
  unfold FlowOK at hF2
  generalize hr : up1 (pd1 a f p) (125 + 11 * (p % 120) + 4) 0 = z
  have en : ∀ k, ¬ k = 14 ∧ ¬ k = 15 ∧ (k < 1445 ∨ 1745 ≤ k) ∧ ¬ k = 125 + 11 * (p % 120) + 5 ∧ ¬ k = 125 + 11 * (p % 120) + 6 ∧ ¬ k = 125 + 11 * (p % 120) + 7 ∧ ¬ k = 125 + 11 * (p % 120) + 10 ∧ ¬ k = 17 + 18 * f + 6 ∧ ¬ k = 8 ∧ ¬ k = 9 ∧ ¬ k = 10 ∧ ¬ k = 11 ∧ ¬ k = 125 + 11 * (p % 120) + 4 → z k = a k := by
    intro k hk2
    rw [← hr, up1_n (by omega), pd1_n (by omega)]
  have e4 : z (125 + 11 * (p % 120) + 4) = 0 := by rw [← hr, up1_s]
  have e5 : z (125 + 11 * (p % 120) + 5) = a (125 + 11 * (p % 120) + 5) + a 9 := by rw [← hr, up1_n (by omega), pd1_p5 hf6]
  have e6 : z (125 + 11 * (p % 120) + 6) = a (125 + 11 * (p % 120) + 6) + 1 := by rw [← hr, up1_n (by omega), pd1_p6 hf6]
  have e10 : z (125 + 11 * (p % 120) + 10) = a 0 := by rw [← hr, up1_n (by omega), pd1_p10 hf6]
  have ef6 : z (17 + 18 * f + 6) = a (17 + 18 * f + 6) + a 9 := by rw [← hr, up1_n (by omega), pd1_f6 hf6]
  have e15 : z 15 = a 15 + 1 := by rw [← hr, up1_n (by omega), pd1_15 hf6]
  have e17 : z (17 + 18 * f + 17) = a (17 + 18 * f + 17) := by exact en _ (by omega)
  have e16 : z 16 = a 16 := by exact en _ (by omega)
  clear hr
  have h7 : z 7 = a 7 := en 7 (by omega)
  have h0 : z 0 = a 0 := en 0 (by omega)
  have h2 : z 2 = a 2 := en 2 (by omega)
  have hpm : p ∈ knw a := (knw_m (by omega)).mpr hk
  refine ⟨?_, ?_, ?_, ?_, ?_, ?_⟩
  · unfold TopOK
    rw [h0, h2, h7, e15, en 1 (by omega), en 3 (by omega), en 4 (by omega), en 5 (by omega), en 6 (by omega)]
    omega
  · intro g hg
    rw [h2] at hg
    have hFg := hI.2.1 g hg
    by_cases hgf : g = f
    · subst hgf
      refine ⟨?_, ?_⟩
      · unfold FlowOK
        rw [h0, h7, en (k := 17 + 18 * g + 0) (by omega), en (k := 17 + 18 * g + 1) (by omega), en (k := 17 + 18 * g + 2) (by omega), en (k := 17 + 18 * g + 3) (by omega), en (k := 17 + 18 * g + 4) (by omega), en (k := 17 + 18 * g + 5) (by omega), ef6, en (k := 17 + 18 * g + 9) (by omega), en (k := 17 + 18 * g + 12) (by omega), en (k := 17 + 18 * g + 14) (by omega), en (k := 17 + 18 * g + 15) (by omega), en (k := 17 + 18 * g + 16) (by omega), e17]
        omega
      · rw [e17]
        rw [hFg.2, Qs_cong h7]
        intro q hq
        have hq2 := (knw_m (by omega)).mp hq
        by_cases hqp : q = p
        · subst hqp
          unfold isQ
          rw [en (125 + 11 * (q % 120) + 0) (by omega), e4, h4, decide_eq_true ⟨hf, by omega⟩, decide_eq_true ⟨hf, by omega⟩]
        · have := win_ne hk hq2 (fun z => hqp z.symm)
          exact isQ_eq (en _ (by omega)) (en _ (by omega))
    · refine ⟨hFg.1.up (fun j _ _ _ _ _ _ => en _ (by omega)) (by omega) (by omega), ?_⟩
      rw [en _ (by omega), hFg.2, Qs_cong h7]
      intro q hq
      have hq2 := (knw_m (by omega)).mp hq
      by_cases hqp : q = p
      · subst hqp
        unfold isQ
        rw [en (125 + 11 * (q % 120) + 0) (by omega), hf]
        rw [decide_eq_false (fun z => by omega), decide_eq_false (fun z => by omega)]
      · have := win_ne hk hq2 (fun z => hqp z.symm)
        exact isQ_eq (en _ (by omega)) (en _ (by omega))
  · intro q h1 h3
    rw [old_eq h7] at h1
    rw [h7] at h3
    by_cases hqp : q = p
    · subst hqp
      unfold PkOK
      rw [h0, h2, en (k := 125 + 11 * (q % 120) + 0) (by omega), en (k := 125 + 11 * (q % 120) + 1) (by omega), en (k := 125 + 11 * (q % 120) + 2) (by omega), en (k := 125 + 11 * (q % 120) + 3) (by omega), e4, e5, e6, en (k := 125 + 11 * (q % 120) + 8) (by omega), en (k := 125 + 11 * (q % 120) + 9) (by omega), e10]
      omega
    · have := win_ne hk ⟨h1, h3⟩ (fun z => hqp z.symm)
      exact (hI.2.2.1 q h1 h3).up (fun j _ _ => en _ (by omega)) (by omega) (by omega)
  · rw [e16, Ss_cong h7, hI.2.2.2.1]
    intro q hq
    have hq2 := (knw_m (by omega)).mp hq
    by_cases hqp : q = p
    · subst hqp
      rw [isS_f (by omega), isS_f (by omega)]
    · have := win_ne hk hq2 (fun z => hqp z.symm)
      exact isS_eq (en _ (by omega))
  · rw [en 1825 (by omega)]
    exact hI.2.2.2.2.1
  · intro i hi
    rw [en _ (by omega)]
    exact hI.2.2.2.2.2 i hi
theorem Inv_pdB {a : Sa} {N T : Int} {p f : Nat} (hI : Inv N T a) (hk : old a ≤ p ∧ (p : Int) < a 7) (hf : a (125 + 11 * (p % 120) + 0) = f) (h4 : a (125 + 11 * (p % 120) + 4) = 1) (h9 : 1 ≤ a 9) (hle : a (125 + 11 * (p % 120) + 5) + a 9 ≤ a (125 + 11 * (p % 120) + 1)) (hsn : a (17 + 18 * f + 6) + a 9 ≤ a 0) (h15 : a 15 + 1 ≤ a 0)  : Inv N T (up1 (up1 (up1 (pd1 a f p) (17 + 18 * f + 17) (a (17 + 18 * f + 17) - 1)) (125 + 11 * (p % 120) + 4) 2) 16 (a 16 + 1)) := by
  have hT' := hI.1
  unfold TopOK at hT'
  have hP' := hI.2.2.1 p hk.1 hk.2
  unfold PkOK at hP'
  have hf6 : f < 6 := by omega
  have hF' := hI.2.1 f (by omega)
  have hF2 := hF'.1
  unfold FlowOK at hF2
  generalize hr : up1 (up1 (up1 (pd1 a f p) (17 + 18 * f + 17) (a (17 + 18 * f + 17) - 1)) (125 + 11 * (p % 120) + 4) 2) 16 (a 16 + 1) = z
  have en : ∀ k, ¬ k = 14 ∧ ¬ k = 15 ∧ (k < 1445 ∨ 1745 ≤ k) ∧ ¬ k = 125 + 11 * (p % 120) + 5 ∧ ¬ k = 125 + 11 * (p % 120) + 6 ∧ ¬ k = 125 + 11 * (p % 120) + 7 ∧ ¬ k = 125 + 11 * (p % 120) + 10 ∧ ¬ k = 17 + 18 * f + 6 ∧ ¬ k = 8 ∧ ¬ k = 9 ∧ ¬ k = 10 ∧ ¬ k = 11 ∧ ¬ k = 16 ∧ ¬ k = 125 + 11 * (p % 120) + 4 ∧ ¬ k = 17 + 18 * f + 17 → z k = a k := by
    intro k hk2
    rw [← hr, up1_n (by omega), up1_n (by omega), up1_n (by omega), pd1_n (by omega)]
  have e4 : z (125 + 11 * (p % 120) + 4) = 2 := by rw [← hr, up1_n (by omega), up1_s]
  have e5 : z (125 + 11 * (p % 120) + 5) = a (125 + 11 * (p % 120) + 5) + a 9 := by rw [← hr, up1_n (by omega), up1_n (by omega), up1_n (by omega), pd1_p5 hf6]
  have e6 : z (125 + 11 * (p % 120) + 6) = a (125 + 11 * (p % 120) + 6) + 1 := by rw [← hr, up1_n (by omega), up1_n (by omega), up1_n (by omega), pd1_p6 hf6]
  have e10 : z (125 + 11 * (p % 120) + 10) = a 0 := by rw [← hr, up1_n (by omega), up1_n (by omega), up1_n (by omega), pd1_p10 hf6]
  have ef6 : z (17 + 18 * f + 6) = a (17 + 18 * f + 6) + a 9 := by rw [← hr, up1_n (by omega), up1_n (by omega), up1_n (by omega), pd1_f6 hf6]
  have e15 : z 15 = a 15 + 1 := by rw [← hr, up1_n (by omega), up1_n (by omega), up1_n (by omega), pd1_15 hf6]
  have e17 : z (17 + 18 * f + 17) = a (17 + 18 * f + 17) - 1 := by rw [← hr, up1_n (by omega), up1_n (by omega), up1_s]
  have e16 : z 16 = a 16 + 1 := by rw [← hr, up1_s]
  clear hr
  have h7 : z 7 = a 7 := en 7 (by omega)
  have h0 : z 0 = a 0 := en 0 (by omega)
  have h2 : z 2 = a 2 := en 2 (by omega)
  have hpm : p ∈ knw a := (knw_m (by omega)).mpr hk
  refine ⟨?_, ?_, ?_, ?_, ?_, ?_⟩
  · unfold TopOK
    rw [h0, h2, h7, e15, en 1 (by omega), en 3 (by omega), en 4 (by omega), en 5 (by omega), en 6 (by omega)]
    omega
  · intro g hg
    rw [h2] at hg
    have hFg := hI.2.1 g hg
    by_cases hgf : g = f
    · subst hgf
      refine ⟨?_, ?_⟩
      · unfold FlowOK
        rw [h0, h7, en (k := 17 + 18 * g + 0) (by omega), en (k := 17 + 18 * g + 1) (by omega), en (k := 17 + 18 * g + 2) (by omega), en (k := 17 + 18 * g + 3) (by omega), en (k := 17 + 18 * g + 4) (by omega), en (k := 17 + 18 * g + 5) (by omega), ef6, en (k := 17 + 18 * g + 9) (by omega), en (k := 17 + 18 * g + 12) (by omega), en (k := 17 + 18 * g + 14) (by omega), en (k := 17 + 18 * g + 15) (by omega), en (k := 17 + 18 * g + 16) (by omega), e17]
        have hq1 : 1 ≤ a (17 + 18 * g + 17) := by
          have hm : p ∈ Qs a g := Qs_mem.mpr ⟨⟨hk.1, by omega⟩, hf, by omega⟩
          have := List.length_pos_of_mem hm
          omega
        omega
      · rw [e17]
        have h1 : Qs z g = (Qs a g).filter (fun q => decide (q ≠ p)) := by
          unfold Qs
          rw [knw_eq h7]
          apply flt_off
          · exact isQ_f (by rw [e4]; omega)
          · intro q hq hqp
            have hq2 := (knw_m (by omega)).mp hq
            have := win_ne hk hq2 (fun z => hqp z.symm)
            exact isQ_eq (en _ (by omega)) (en _ (by omega))
        have hm : p ∈ Qs a g := Qs_mem.mpr ⟨⟨hk.1, by omega⟩, hf, by omega⟩
        have h3 := len_off ((knw_nd a).filter (isQ a g)) hm
        have h5 : (((Qs a g).filter (fun q => decide (q ≠ p))).length + 1 : Nat) = (Qs a g).length := h3
        have h6 := hFg.2
        rw [h1]
        omega
    · refine ⟨hFg.1.up (fun j _ _ _ _ _ _ => en _ (by omega)) (by omega) (by omega), ?_⟩
      rw [en _ (by omega), hFg.2, Qs_cong h7]
      intro q hq
      have hq2 := (knw_m (by omega)).mp hq
      by_cases hqp : q = p
      · subst hqp
        unfold isQ
        rw [en (125 + 11 * (q % 120) + 0) (by omega), hf]
        rw [decide_eq_false (fun z => by omega), decide_eq_false (fun z => by omega)]
      · have := win_ne hk hq2 (fun z => hqp z.symm)
        exact isQ_eq (en _ (by omega)) (en _ (by omega))
  · intro q h1 h3
    rw [old_eq h7] at h1
    rw [h7] at h3
    by_cases hqp : q = p
    · subst hqp
      unfold PkOK
      rw [h0, h2, en (k := 125 + 11 * (q % 120) + 0) (by omega), en (k := 125 + 11 * (q % 120) + 1) (by omega), en (k := 125 + 11 * (q % 120) + 2) (by omega), en (k := 125 + 11 * (q % 120) + 3) (by omega), e4, e5, e6, en (k := 125 + 11 * (q % 120) + 8) (by omega), en (k := 125 + 11 * (q % 120) + 9) (by omega), e10]
      omega
    · have := win_ne hk ⟨h1, h3⟩ (fun z => hqp z.symm)
      exact (hI.2.2.1 q h1 h3).up (fun j _ _ => en _ (by omega)) (by omega) (by omega)
  · rw [e16, knw_eq h7]
    have h1 : (knw a).filter (isS a) = ((knw a).filter (isS z)).filter (fun q => decide (q ≠ p)) := by
      apply flt_off
      · exact isS_f (by omega)
      · intro q hq hqp
        have hq2 := (knw_m (by omega)).mp hq
        have := win_ne hk hq2 (fun z => hqp z.symm)
        exact (isS_eq (en _ (by omega))).symm
    have h3 := len_off ((knw_nd a).filter (isS z)) (List.mem_filter.mpr ⟨hpm, isS_t e4⟩)
    have h5 := hI.2.2.2.1
    rw [h1] at h5
    omega
  · rw [en 1825 (by omega)]
    exact hI.2.2.2.2.1
  · intro i hi
    rw [en _ (by omega)]
    exact hI.2.2.2.2.2 i hi
