theorem FlowOK.up {a a' : Sa} {f : Nat} (h : FlowOK a f) (e : ∀ k, k < 18 → k ≠ 7 → k ≠ 8 → k ≠ 10 → k ≠ 11 → k ≠ 13 → a' (17 + 18 * f + k) = a (17 + 18 * f + k)) (h0 : a 0 ≤ a' 0) (h7 : a 7 ≤ a' 7) : FlowOK a' f := by
  unfold FlowOK at h ⊢
  rw [e 0 (by decide) (by decide) (by decide) (by decide) (by decide) (by decide), e 1 (by decide) (by decide) (by decide) (by decide) (by decide) (by decide), e 2 (by decide) (by decide) (by decide) (by decide) (by decide) (by decide), e 3 (by decide) (by decide) (by decide) (by decide) (by decide) (by decide), e 4 (by decide) (by decide) (by decide) (by decide) (by decide) (by decide), e 5 (by decide) (by decide) (by decide) (by decide) (by decide) (by decide), e 6 (by decide) (by decide) (by decide) (by decide) (by decide) (by decide), e 9 (by decide) (by decide) (by decide) (by decide) (by decide) (by decide), e 12 (by decide) (by decide) (by decide) (by decide) (by decide) (by decide), e 14 (by decide) (by decide) (by decide) (by decide) (by decide) (by decide), e 15 (by decide) (by decide) (by decide) (by decide) (by decide) (by decide), e 16 (by decide) (by decide) (by decide) (by decide) (by decide) (by decide), e 17 (by decide) (by decide) (by decide) (by decide) (by decide) (by decide)]
  omega
theorem PkOK.up {a a' : Sa} {p : Nat} (h : PkOK a p) (e : ∀ k, k < 11 → k ≠ 7 → a' (125 + 11 * (p % 120) + k) = a (125 + 11 * (p % 120) + k)) (h0 : a 0 ≤ a' 0) (h2 : a 2 ≤ a' 2) : PkOK a' p := by
  unfold PkOK at h ⊢
  rw [e 0 (by decide) (by decide), e 1 (by decide) (by decide), e 2 (by decide) (by decide), e 3 (by decide) (by decide), e 4 (by decide) (by decide), e 5 (by decide) (by decide), e 6 (by decide) (by decide), e 8 (by decide) (by decide), e 9 (by decide) (by decide), e 10 (by decide) (by decide)]
  omega
/-- two packets of the window lie in different places -/
theorem win_ne {a : Sa} {p q : Nat} (hp : old a ≤ p ∧ (p : Int) < a 7) (hq : old a ≤ q ∧ (q : Int) < a 7) (h : p ≠ q) : p % 120 ≠ q % 120 := by
  have ho : old a = (a 7 - 120).toNat := rfl
  omega
theorem old_eq {a a' : Sa} (h : a' 7 = a 7) : old a' = old a := by unfold old; rw [h]
theorem knw_eq {a a' : Sa} (h : a' 7 = a 7) : knw a' = knw a := by unfold knw; rw [old_eq h, h]
theorem knw_m {a : Sa} {p : Nat} (h7 : 0 ≤ a 7) : p ∈ knw a ↔ old a ≤ p ∧ (p : Int) < a 7 := by
  rw [knw_mem]
  constructor
  · rintro ⟨h1, h2⟩; exact ⟨h1, by omega⟩
  · rintro ⟨h1, h2⟩; exact ⟨h1, by omega⟩
theorem knw_nd (a : Sa) : (knw a).Nodup := List.nodup_range'
theorem Qs_cong {a a' : Sa} {f : Nat} (h7 : a' 7 = a 7) (h : ∀ q, q ∈ knw a → isQ a' f q = isQ a f q) : Qs a' f = Qs a f := by
  unfold Qs
  rw [knw_eq h7]
  exact List.filter_congr h
theorem Ss_cong {a a' : Sa} (h7 : a' 7 = a 7) (h : ∀ q, q ∈ knw a → isS a' q = isS a q) : (knw a').filter (isS a') = (knw a).filter (isS a) := by
  rw [knw_eq h7]
  exact List.filter_congr h
/-- one packet less holds -/
theorem flt_off {l : List Nat} {P P' : Nat → Bool} {p : Nat} (hP' : P' p = false) (ho : ∀ q, q ∈ l → q ≠ p → P' q = P q) : l.filter P' = (l.filter P).filter (fun q => decide (q ≠ p)) := by
  rw [List.filter_filter]
  apply List.filter_congr
  intro q hq
  by_cases h : q = p
  · subst h; rw [hP']; simp
  · rw [ho q hq h]; simp [h]
theorem len_off {l : List Nat} (hnd : l.Nodup) {p : Nat} (hp : p ∈ l) : (l.filter (fun q => decide (q ≠ p))).length + 1 = l.length := by
  induction l with
  | nil => cases hp
  | cons x t ih =>
    have hx := List.nodup_cons.mp hnd
    by_cases h : x = p
    · subst h
      have e : t.filter (fun q => decide (q ≠ x)) = t := by
        apply List.filter_eq_self.mpr
        intro q hq
        have : q ≠ x := fun z => hx.1 (z ▸ hq)
        simp [this]
      rw [List.filter_cons_of_neg (by simp), e]
      rfl
    · have hpt : p ∈ t := by
        rcases List.mem_cons.mp hp with z | z
        · exact absurd z.symm h
        · exact z
      rw [List.filter_cons_of_pos (by simp [h])]
      have := ih hx.2 hpt
      simp only [List.length_cons]
      omega
theorem isQ_eq {a a' : Sa} {f q : Nat} (h0 : a' (125 + 11 * (q % 120) + 0) = a (125 + 11 * (q % 120) + 0)) (h4 : a' (125 + 11 * (q % 120) + 4) = a (125 + 11 * (q % 120) + 4)) : isQ a' f q = isQ a f q := by unfold isQ; rw [h0, h4]
theorem isS_eq {a a' : Sa} {q : Nat} (h4 : a' (125 + 11 * (q % 120) + 4) = a (125 + 11 * (q % 120) + 4)) : isS a' q = isS a q := by unfold isS; rw [h4]
theorem isQ_f {a : Sa} {f q : Nat} (h : ¬ a (125 + 11 * (q % 120) + 4) ≤ 1) : isQ a f q = false := by unfold isQ; rw [decide_eq_false_iff_not]; exact fun z => h z.2
theorem isS_f {a : Sa} {q : Nat} (h : ¬ a (125 + 11 * (q % 120) + 4) = 2) : isS a q = false := by unfold isS; rw [decide_eq_false_iff_not]; exact h
theorem isS_t {a : Sa} {q : Nat} (h : a (125 + 11 * (q % 120) + 4) = 2) : isS a q = true := by unfold isS; rw [decide_eq_true_iff]; exact h
/-- where a delivery changes the row -/
theorem dlP_n {a : Sa} {f p k : Nat} (h : ¬ k = 125 + 11 * (p % 120) + 4 ∧ ¬ k = 125 + 11 * (p % 120) + 8 ∧ ¬ k = 17 + 18 * f + 7 ∧ ¬ k = 17 + 18 * f + 8 ∧ ¬ k = 17 + 18 * f + 9 ∧ ¬ k = 17 + 18 * f + 10) : dlP a f p k = a k := by
  unfold dlP
  rw [up1_n (by omega), up1_n (by omega), up1_n (by omega), up1_n (by omega), up1_n (by omega), up1_n (by omega)]
theorem dlP_4 {a : Sa} {f p : Nat} (hf : f < 6) : dlP a f p (125 + 11 * (p % 120) + 4) = 3 := by
  unfold dlP
  rw [up1_n (by omega), up1_n (by omega), up1_n (by omega), up1_n (by omega), up1_n (by omega), up1_s]
theorem dlP_8 {a : Sa} {f p : Nat} (hf : f < 6) : dlP a f p (125 + 11 * (p % 120) + 8) = a 0 := by
  unfold dlP
  rw [up1_n (by omega), up1_n (by omega), up1_n (by omega), up1_n (by omega), up1_s]
theorem dlP_9 {a : Sa} {f p : Nat} (hf : f < 6) : dlP a f p (17 + 18 * f + 9) = if a (17 + 18 * f + 9) < a 0 - a (125 + 11 * (p % 120) + 2) then a 0 - a (125 + 11 * (p % 120) + 2) else a (17 + 18 * f + 9) := by
  unfold dlP
  rw [up1_n (by omega), up1_s]
/-- a packet that is in no queue is delivered: what holds goes on, but for the count of SENT ones -/
theorem Inv_dl {a : Sa} {N T : Int} {p f : Nat} (hI : Inv N T a) (hk : old a ≤ p ∧ (p : Int) < a 7) (hf : a (125 + 11 * (p % 120) + 0) = f) (hs : ¬ a (125 + 11 * (p % 120) + 4) ≤ 1) :
    TopOK N T (dlP a f p) ∧ (∀ g : Nat, (g : Int) < dlP a f p 2 → FlowOK (dlP a f p) g ∧ dlP a f p (17 + 18 * g + 17) = (Qs (dlP a f p) g).length) ∧ (∀ q : Nat, old (dlP a f p) ≤ q → (q : Int) < dlP a f p 7 → PkOK (dlP a f p) q) ∧ (∀ i : Nat, i < 80 → 0 ≤ dlP a f p (1745 + i) ∧ dlP a f p (1745 + i) ≤ 126) := by
  have hT := hI.1
  have hP := hI.2.2.1 p hk.1 hk.2
  have hT' := hT
  have hP' := hP
  unfold TopOK at hT'
  unfold PkOK at hP'
  have hf6 : f < 6 := by omega
  have e0 : dlP a f p 0 = a 0 := dlP_n (by omega)
  have e2 : dlP a f p 2 = a 2 := dlP_n (by omega)
  have e7 : dlP a f p 7 = a 7 := dlP_n (by omega)
  refine ⟨?_, ?_, ?_, ?_⟩
  · unfold TopOK
    rw [e0, e2, e7, dlP_n (k := 1) (by omega), dlP_n (k := 3) (by omega), dlP_n (k := 4) (by omega), dlP_n (k := 5) (by omega), dlP_n (k := 6) (by omega), dlP_n (k := 15) (by omega)]
    exact hT
  · intro g hg
    rw [e2] at hg
    have hFg := hI.2.1 g hg
    refine ⟨?_, ?_⟩
    · by_cases hgf : g = f
      · subst hgf
        have hF := hFg.1
        unfold FlowOK at hF ⊢
        rw [e0, e7, dlP_9 hf6, dlP_n (k := 17 + 18 * g + 0) (by omega), dlP_n (k := 17 + 18 * g + 1) (by omega), dlP_n (k := 17 + 18 * g + 2) (by omega), dlP_n (k := 17 + 18 * g + 3) (by omega), dlP_n (k := 17 + 18 * g + 4) (by omega), dlP_n (k := 17 + 18 * g + 5) (by omega), dlP_n (k := 17 + 18 * g + 6) (by omega), dlP_n (k := 17 + 18 * g + 12) (by omega), dlP_n (k := 17 + 18 * g + 14) (by omega), dlP_n (k := 17 + 18 * g + 15) (by omega), dlP_n (k := 17 + 18 * g + 16) (by omega), dlP_n (k := 17 + 18 * g + 17) (by omega)]
        have hw : 0 ≤ (if a (17 + 18 * g + 9) < a 0 - a (125 + 11 * (p % 120) + 2) then a 0 - a (125 + 11 * (p % 120) + 2) else a (17 + 18 * g + 9)) ∧ (if a (17 + 18 * g + 9) < a 0 - a (125 + 11 * (p % 120) + 2) then a 0 - a (125 + 11 * (p % 120) + 2) else a (17 + 18 * g + 9)) ≤ a 0 := by
          split <;> omega
        omega
      · exact hFg.1.up (fun k h1 h2 h3 h4 h5 h6 => dlP_n (by omega)) (by omega) (by omega)
    · rw [dlP_n (by omega), hFg.2, Qs_cong e7]
      intro q hq
      have hq2 := (knw_m (by omega)).mp hq
      by_cases hqp : q = p
      · subst hqp
        rw [isQ_f hs, isQ_f (by rw [dlP_4 hf6]; omega)]
      · have := win_ne hk hq2 (fun z => hqp z.symm)
        exact isQ_eq (dlP_n (by omega)) (dlP_n (by omega))
  · intro q h1 h2
    rw [old_eq e7] at h1
    rw [e7] at h2
    have hPq := hI.2.2.1 q h1 h2
    by_cases hqp : q = p
    · subst hqp
      unfold PkOK at hPq ⊢
      rw [e0, e2, dlP_4 hf6, dlP_8 hf6, dlP_n (k := 125 + 11 * (q % 120) + 0) (by omega), dlP_n (k := 125 + 11 * (q % 120) + 1) (by omega), dlP_n (k := 125 + 11 * (q % 120) + 2) (by omega), dlP_n (k := 125 + 11 * (q % 120) + 3) (by omega), dlP_n (k := 125 + 11 * (q % 120) + 5) (by omega), dlP_n (k := 125 + 11 * (q % 120) + 6) (by omega), dlP_n (k := 125 + 11 * (q % 120) + 9) (by omega), dlP_n (k := 125 + 11 * (q % 120) + 10) (by omega)]
      omega
    · have := win_ne hk ⟨h1, h2⟩ (fun z => hqp z.symm)
      exact hPq.up (fun k h3 h4 => dlP_n (by omega)) (by omega) (by omega)
  · intro i hi
    rw [dlP_n (by omega)]
    exact hI.2.2.2.2.2 i hi
