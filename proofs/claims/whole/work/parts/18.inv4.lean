theorem dlP_o4 {a : Sa} {f p : Nat} {v : Int} (hf : f < 6) : dlP (up1 a (125 + 11 * (p % 120) + 4) v) f p = dlP a f p := by
  have e : ∀ k, k ≠ 125 + 11 * (p % 120) + 4 → up1 a (125 + 11 * (p % 120) + 4) v k = a k := fun k hk => up1_n hk
  unfold dlP
  rw [e 0 (by omega), e (125 + 11 * (p % 120) + 2) (by omega), e (125 + 11 * (p % 120) + 3) (by omega), e (17 + 18 * f + 7) (by omega), e (17 + 18 * f + 8) (by omega), e (17 + 18 * f + 9) (by omega), e (17 + 18 * f + 10) (by omega), up1_u]
theorem flP_up {a : Sa} {p k : Nat} {v : Int} (h : k ≠ 125 + 11 * (p % 120) + 0) : flP (up1 a k v) p = flP a p := by
  unfold flP
  rw [up1_n (fun z => h z.symm)]
theorem flP_of {a : Sa} {p f : Nat} (h : a (125 + 11 * (p % 120) + 0) = f) : flP a p = f := by unfold flP; omega
theorem pdC_eq {a : Sa} {p f : Nat} (hf6 : f < 6) (hf : a (125 + 11 * (p % 120) + 0) = f) : dlv (up1 (pd1 a f p) (17 + 18 * f + 17) (a (17 + 18 * f + 17) - 1)) p = jn1 (up1 (up1 (up1 (pd1 a f p) (17 + 18 * f + 17) (a (17 + 18 * f + 17) - 1)) (125 + 11 * (p % 120) + 4) 2) 16 (a 16 + 1)) p := by
  have h0 : pd1 a f p (125 + 11 * (p % 120) + 0) = f := by rw [pd1_n (by omega)]; exact hf
  unfold jn1
  rw [up1_s, up1_u, show a 16 + 1 - 1 = a 16 by omega]
  have e : up1 (up1 (up1 (pd1 a f p) (17 + 18 * f + 17) (a (17 + 18 * f + 17) - 1)) (125 + 11 * (p % 120) + 4) 2) 16 (a 16) = up1 (up1 (pd1 a f p) (17 + 18 * f + 17) (a (17 + 18 * f + 17) - 1)) (125 + 11 * (p % 120) + 4) 2 := by
    have h := up1_id (up1 (up1 (pd1 a f p) (17 + 18 * f + 17) (a (17 + 18 * f + 17) - 1)) (125 + 11 * (p % 120) + 4) 2) 16
    rw [up1_n (show 16 ≠ 125 + 11 * (p % 120) + 4 by omega), up1_n (show 16 ≠ 17 + 18 * f + 17 by omega), pd1_n (show _ by omega)] at h
    exact h
  rw [e]
  unfold dlv
  rw [flP_up (k := 125 + 11 * (p % 120) + 4) (by omega), flP_up (k := 17 + 18 * f + 17) (by omega), flP_of h0, dlP_o4 hf6]
theorem Inv_pdF {a : Sa} {N T : Int} {p f : Nat} (hI : Inv N T a) (hk : old a ≤ p ∧ (p : Int) < a 7) (hf : a (125 + 11 * (p % 120) + 0) = f) (h4 : a (125 + 11 * (p % 120) + 4) = 1) (h9 : 1 ≤ a 9) (hle : a (125 + 11 * (p % 120) + 5) + a 9 ≤ a (125 + 11 * (p % 120) + 1)) (hsn : a (17 + 18 * f + 6) + a 9 ≤ a 0) (h15 : a 15 + 1 ≤ a 0) : Inv N T (pdF a f p) := by
  have hT' := hI.1
  unfold TopOK at hT'
  have hP' := hI.2.2.1 p hk.1 hk.2
  unfold PkOK at hP'
  have hf6 : f < 6 := by omega
  unfold pdF
  split
  · exact Inv_pdA hI hk hf h4 h9 hle hsn h15 (by assumption)
  · have hB := Inv_pdB hI hk hf h4 h9 hle hsn h15
    split
    · exact hB
    · rw [pdC_eq hf6 hf]
      refine Inv_jn hB ?_ ?_
      · rw [old_eq (a := a) (by rw [up1_n (by omega), up1_n (by omega), up1_n (by omega), pd1_n (by omega)]), up1_n (by omega), up1_n (by omega), up1_n (by omega), pd1_n (by omega)]
        exact hk
      · rw [up1_n (by omega), up1_s]
theorem pdF_n {a : Sa} {f p k : Nat} (hf6 : f < 6) (hf : a (125 + 11 * (p % 120) + 0) = f) (h : ¬ k = 14 ∧ ¬ k = 15 ∧ ¬ k = 16 ∧ (k < 1445 ∨ 1745 ≤ k) ∧ ¬ k = 8 ∧ ¬ k = 9 ∧ ¬ k = 10 ∧ ¬ k = 11 ∧ (k < 125 + 11 * (p % 120) + 4 ∨ 125 + 11 * (p % 120) + 10 < k ∨ k = 125 + 11 * (p % 120) + 9) ∧ (k < 17 + 18 * f + 6 ∨ 17 + 18 * f + 17 < k ∨ (17 + 18 * f + 11 ≤ k ∧ k < 17 + 18 * f + 17))) : pdF a f p k = a k := by
  have h0 : pd1 a f p (125 + 11 * (p % 120) + 0) = f := by rw [pd1_n (by omega)]; exact hf
  unfold pdF
  split
  · rw [up1_n (by omega), pd1_n (by omega)]
  · split
    · rw [up1_n (by omega), up1_n (by omega), up1_n (by omega), pd1_n (by omega)]
    · unfold dlv
      rw [flP_up (k := 17 + 18 * f + 17) (by omega), flP_of h0, dlP_n (by omega), up1_n (by omega), pd1_n (by omega)]
theorem pdF_l {a : Sa} {f p k : Nat} (hf6 : f < 6) (hf : a (125 + 11 * (p % 120) + 0) = f) (h : k = 8 ∨ k = 9 ∨ k = 10 ∨ k = 11 ∨ k = 17 + 18 * f + 6) : pdF a f p k = pd1 a f p k := by
  have h0 : pd1 a f p (125 + 11 * (p % 120) + 0) = f := by rw [pd1_n (by omega)]; exact hf
  unfold pdF
  split
  · rw [up1_n (by omega)]
  · split
    · rw [up1_n (by omega), up1_n (by omega), up1_n (by omega)]
    · unfold dlv
      rw [flP_up (k := 17 + 18 * f + 17) (by omega), flP_of h0, dlP_n (by omega), up1_n (by omega)]
theorem Now_pdF {a : Sa} {f p : Nat} (hf6 : f < 6) (hf : a (125 + 11 * (p % 120) + 0) = f) (h12 : 0 ≤ a 12 ∧ a 12 ≤ 50) : NowOK (pdF a f p) := by
  refine ⟨?_, Or.inl ⟨?_, ?_, ?_, ?_⟩⟩
  · rw [pdF_n hf6 hf (by omega)]; exact h12
  · rw [pdF_l hf6 hf (by omega), pd1_8 hf6]
  · rw [pdF_l hf6 hf (by omega), pd1_9 hf6]
  · rw [pdF_l hf6 hf (by omega), pd1_10 hf6]
  · rw [pdF_l hf6 hf (by omega), pd1_11 hf6]
theorem Lag_pdF {a : Sa} {f p : Nat} (hf6 : f < 6) (hf : a (125 + 11 * (p % 120) + 0) = f) (h9 : 0 ≤ a 9) (h2 : a 2 ≤ 6) (h : LagOK a) : LagOK (pdF a f p) := by
  intro g hg
  rw [pdF_n hf6 hf (by omega)] at hg
  rw [pdF_n (k := 17 + 18 * g + 15) hf6 hf (by omega), pdF_n (k := 17 + 18 * g + 16) hf6 hf (by omega)]
  have h1 := h g hg
  by_cases hgf : g = f
  · subst hgf
    rw [pdF_l hf6 hf (by omega), pd1_f6 hf6]
    omega
  · rw [pdF_n (k := 17 + 18 * g + 6) hf6 hf (by omega)]
    exact h1
theorem jn1_n {a : Sa} {p k : Nat} (hf : flP a p < 6) (h : ¬ k = 16 ∧ ¬ k = 125 + 11 * (p % 120) + 4 ∧ ¬ k = 125 + 11 * (p % 120) + 8 ∧ ¬ k = 17 + 18 * flP a p + 7 ∧ ¬ k = 17 + 18 * flP a p + 8 ∧ ¬ k = 17 + 18 * flP a p + 9 ∧ ¬ k = 17 + 18 * flP a p + 10) : jn1 a p k = a k := by
  unfold jn1 dlv
  rw [flP_16, dlP_n (by omega), up1_n (by omega)]
/-- an index that the scan of the SENT packets never changes -/
def jnK (k : Nat) : Prop := ¬ k = 16 ∧ ((k < 125 ∧ ∀ g, g < 6 → ¬ k = 17 + 18 * g + 7 ∧ ¬ k = 17 + 18 * g + 8 ∧ ¬ k = 17 + 18 * g + 9 ∧ ¬ k = 17 + 18 * g + 10) ∨ 1445 ≤ k)
theorem jnS_k {a : Sa} {p k : Nat} (hf : flP a p < 6) (h : jnK k) : jnS a p k = a k := by
  unfold jnS
  by_cases hc : jnC a p
  · rw [@if_pos _ (Classical.propDecidable _) hc]
    obtain ⟨h1, h2 | h2⟩ := h
    · have := h2.2 _ hf
      exact jn1_n hf (by omega)
    · exact jn1_n hf (by omega)
  · rw [@if_neg _ (Classical.propDecidable _) hc]
theorem jn_fl {a : Sa} {N T : Int} (hI : Inv N T a) {p : Nat} (hk : old a ≤ p ∧ (p : Int) < a 7) : flP a p < 6 := by
  have hT' := hI.1
  unfold TopOK at hT'
  have hP' := hI.2.2.1 p hk.1 hk.2
  unfold PkOK at hP'
  unfold flP
  omega
theorem jk7 : jnK 7 := ⟨by omega, Or.inl ⟨by omega, fun g hg => by omega⟩⟩
theorem Inv_jnS {a : Sa} {N T : Int} (hI : Inv N T a) {p : Nat} (hk : old a ≤ p ∧ (p : Int) < a 7) : Inv N T (jnS a p) := by
  unfold jnS
  by_cases hc : jnC a p
  · rw [@if_pos _ (Classical.propDecidable _) hc]
    exact Inv_jn hI hk hc.1
  · rw [@if_neg _ (Classical.propDecidable _) hc]
    exact hI
theorem Inv_jnA {a : Sa} {N T : Int} : ∀ n p, Inv N T a → old a ≤ p → ((p + n : Nat) : Int) ≤ a 7 → Inv N T (jnA a n p) ∧ ∀ k, jnK k → jnA a n p k = a k := by
  intro n
  induction n generalizing a with
  | zero => intro p hI _ _; exact ⟨hI, fun _ _ => rfl⟩
  | succ n ih =>
    intro p hI h1 h2
    have hk : old a ≤ p ∧ (p : Int) < a 7 := ⟨h1, by omega⟩
    have h7 : jnS a p 7 = a 7 := jnS_k (jn_fl hI hk) jk7
    have := ih (p + 1) (Inv_jnS hI hk) (by rw [old_eq h7]; omega) (by rw [h7]; omega)
    refine ⟨this.1, fun k hk2 => ?_⟩
    show jnA (jnS a p) n (p + 1) k = a k
    rw [this.2 k hk2]
    exact jnS_k (jn_fl hI hk) hk2
theorem Inv_jal {a : Sa} {N T : Int} (hI : Inv N T a) : Inv N T (jal a) ∧ ∀ k, jnK k → jal a k = a k := by
  have hT' := hI.1
  unfold TopOK at hT'
  have ho : old a = (a 7 - 120).toNat := rfl
  exact Inv_jnA _ _ hI (Nat.le_refl _) (by omega)
theorem idl_n {a : Sa} {f k : Nat} (h : ¬ k = 17 + 18 * f + 5 ∧ ¬ k = 17 + 18 * f + 12 ∧ ¬ k = 17 + 18 * f + 13) : idl a f k = a k := by
  unfold idl
  by_cases hc : idE a f
  · rw [@if_pos _ (Classical.propDecidable _) hc]
    split
    · rw [up1_n (by omega), up1_n (by omega), up1_n (by omega), up1_n (by omega)]
    · rw [up1_n (by omega), up1_n (by omega)]
  · rw [@if_neg _ (Classical.propDecidable _) hc, up1_n (by omega)]
theorem idl_v {a : Sa} {f : Nat} {B : Int} (h5 : 0 ≤ a (17 + 18 * f + 5) ∧ a (17 + 18 * f + 5) + 1 ≤ a 0) (h12 : 0 ≤ a (17 + 18 * f + 12) ∧ a (17 + 18 * f + 12) ≤ B) (h1 : 0 ≤ a 1 ∧ a 1 ≤ B) : (0 ≤ idl a f (17 + 18 * f + 5) ∧ idl a f (17 + 18 * f + 5) ≤ a 0) ∧ (0 ≤ idl a f (17 + 18 * f + 12) ∧ idl a f (17 + 18 * f + 12) ≤ B) := by
  have hv : 0 ≤ idV a f ∧ idV a f ≤ a 0 := by unfold idV; split <;> omega
  unfold idl
  by_cases hc : idE a f
  · rw [@if_pos _ (Classical.propDecidable _) hc]
    split
    · rw [up1_n (j := 17 + 18 * f + 5) (by omega), up1_n (j := 17 + 18 * f + 5) (by omega), up1_s, up1_n (j := 17 + 18 * f + 12) (by omega), up1_s]
      have hk : 0 ≤ idK a f ∧ idK a f ≤ a (17 + 18 * f + 12) - a 1 := by
        unfold idK
        split <;> omega
      omega
    · rw [up1_s, up1_n (by omega), up1_n (by omega)]
      omega
  · rw [@if_neg _ (Classical.propDecidable _) hc, up1_s, up1_n (by omega)]
    omega
theorem Inv_idl {a : Sa} {N T : Int} {f : Nat} (hI : Inv N T a) (hf : (f : Int) < a 2) (h5 : a (17 + 18 * f + 5) + 1 ≤ a 0) : Inv N T (idl a f) := by
  have hT' := hI.1
  unfold TopOK at hT'
  refine Inv_fl (f := f) hI (by omega) (fun k hk => idl_n (by omega)) (idl_n (by omega)) (fun _ => ?_)
  have hF := (hI.2.1 f hf).1
  unfold FlowOK at hF ⊢
  have hv := idl_v (a := a) (f := f) (B := 1441440000 * a 7) (by omega) (by omega) (by omega)
  rw [idl_n (k := 0) (by omega), idl_n (k := 7) (by omega), idl_n (k := 17 + 18 * f + 0) (by omega), idl_n (k := 17 + 18 * f + 1) (by omega), idl_n (k := 17 + 18 * f + 2) (by omega), idl_n (k := 17 + 18 * f + 3) (by omega), idl_n (k := 17 + 18 * f + 4) (by omega), idl_n (k := 17 + 18 * f + 6) (by omega), idl_n (k := 17 + 18 * f + 9) (by omega), idl_n (k := 17 + 18 * f + 14) (by omega), idl_n (k := 17 + 18 * f + 15) (by omega), idl_n (k := 17 + 18 * f + 16) (by omega), idl_n (k := 17 + 18 * f + 17) (by omega)]
  omega
theorem idA_n {a : Sa} {k : Nat} : ∀ n, (∀ g, g < n → ¬ k = 17 + 18 * g + 5 ∧ ¬ k = 17 + 18 * g + 12 ∧ ¬ k = 17 + 18 * g + 13) → idA a n k = a k
  | 0, _ => rfl
  | n + 1, h => by
    unfold idA
    rw [idl_n (h n (by omega))]
    exact idA_n n (fun g hg => h g (by omega))
theorem Inv_idA {a : Sa} {N T : Int} (hI : Inv N T a) (h5 : ∀ f : Nat, (f : Int) < a 2 → a (17 + 18 * f + 5) + 1 ≤ a 0) : ∀ n : Nat, (n : Int) ≤ a 2 → Inv N T (idA a n)
  | 0, _ => hI
  | n + 1, h => by
    have h2 : idA a n 2 = a 2 := idA_n n (fun g _ => by omega)
    have h0 : idA a n 0 = a 0 := idA_n n (fun g _ => by omega)
    refine Inv_idl (Inv_idA hI h5 n (by omega)) (by rw [h2]; omega) ?_
    rw [h0, idA_n n (fun g hg => by omega)]
    exact h5 n (by omega)
