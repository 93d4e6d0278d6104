theorem flP_16 {a : Sa} {p : Nat} {v : Int} : flP (up1 a 16 v) p = flP a p := by
  unfold flP
  rw [up1_n (by omega)]
theorem Inv_up {a : Sa} {N T : Int} {k : Nat} {v : Int} (hI : Inv N T a) (hk : k = 8 ∨ k = 9 ∨ k = 10 ∨ k = 11 ∨ k = 12 ∨ k = 13 ∨ k = 14 ∨ (1445 ≤ k ∧ k < 1745)) : Inv N T (up1 a k v) := by
  have h7 : up1 a k v 7 = a 7 := up1_n (by omega)
  have h0 : up1 a k v 0 = a 0 := up1_n (by omega)
  have h2 : up1 a k v 2 = a 2 := up1_n (by omega)
  have hT' := hI.1
  unfold TopOK at hT'
  refine ⟨?_, ?_, ?_, ?_, ?_, ?_⟩
  · have hT := hI.1
    unfold TopOK at hT ⊢
    rw [h0, h2, h7, up1_n (show 1 ≠ k by omega), up1_n (show 3 ≠ k by omega), up1_n (show 4 ≠ k by omega), up1_n (show 5 ≠ k by omega), up1_n (show 6 ≠ k by omega), up1_n (show 15 ≠ k by omega)]
    exact hT
  · intro f hf
    rw [h2] at hf
    have hF := hI.2.1 f hf
    refine ⟨hF.1.up (fun j _ _ _ _ _ _ => up1_n (by omega)) (by omega) (by omega), ?_⟩
    rw [up1_n (by omega), hF.2, Qs_cong h7]
    intro q _
    exact isQ_eq (up1_n (by omega)) (up1_n (by omega))
  · intro p h1 h3
    rw [old_eq h7] at h1
    rw [h7] at h3
    exact (hI.2.2.1 p h1 h3).up (fun j _ _ => up1_n (by omega)) (by omega) (by omega)
  · rw [up1_n (by omega), Ss_cong h7, hI.2.2.2.1]
    intro q _
    exact isS_eq (up1_n (by omega))
  · rw [up1_n (by omega)]
    exact hI.2.2.2.2.1
  · intro i hi
    rw [up1_n (by omega)]
    exact hI.2.2.2.2.2 i hi
/-- the same but for the count of SENT packets -/
theorem Inv_ex {a : Sa} {N T : Int} (h : ∃ v, Inv N T (up1 a 16 v)) (hc : a 16 = ((knw a).filter (isS a)).length) : Inv N T a := by
  obtain ⟨v, hI⟩ := h
  have e : ∀ k, k ≠ 16 → up1 a 16 v k = a k := fun k hk => up1_n hk
  have h7 : a 7 = up1 a 16 v 7 := (e 7 (by omega)).symm
  have h0 : a 0 = up1 a 16 v 0 := (e 0 (by omega)).symm
  have h2 : a 2 = up1 a 16 v 2 := (e 2 (by omega)).symm
  refine ⟨?_, ?_, ?_, hc, ?_, ?_⟩
  · have hT := hI.1
    unfold TopOK at hT ⊢
    rw [e 0 (by omega), e 1 (by omega), e 2 (by omega), e 3 (by omega), e 4 (by omega), e 5 (by omega), e 6 (by omega), e 7 (by omega), e 15 (by omega)] at hT
    exact hT
  · intro f hf
    rw [h2] at hf
    have hF := hI.2.1 f hf
    refine ⟨hF.1.up (fun j _ _ _ _ _ _ => (e _ (by omega)).symm) (by omega) (by omega), ?_⟩
    rw [← e (17 + 18 * f + 17) (by omega), hF.2, ← Qs_cong h7]
    intro q _
    exact isQ_eq (e _ (by omega)).symm (e _ (by omega)).symm
  · intro p h1 h3
    rw [old_eq h7] at h1
    rw [h7] at h3
    exact (hI.2.2.1 p h1 h3).up (fun j _ _ => (e _ (by omega)).symm) (by omega) (by omega)
  · rw [← e 1825 (by omega)]
    exact hI.2.2.2.2.1
  · intro i hi
    rw [← e _ (by omega)]
    exact hI.2.2.2.2.2 i hi
theorem up1_c {α : Type} {g : Nat → α} {i j : Nat} {v w : α} (h : i ≠ j) : up1 (up1 g i v) j w = up1 (up1 g j w) i v := by
  funext k
  by_cases h1 : k = j
  · subst h1
    rw [up1_s, up1_n (fun z => h z.symm), up1_s]
  · rw [up1_n h1]
    by_cases h2 : k = i
    · subst h2; rw [up1_s, up1_s]
    · rw [up1_n h2, up1_n h2, up1_n h1]
theorem up1_u {α : Type} {g : Nat → α} {i : Nat} {v w : α} : up1 (up1 g i v) i w = up1 g i w := by
  funext k
  by_cases h1 : k = i
  · subst h1; rw [up1_s, up1_s]
  · rw [up1_n h1, up1_n h1, up1_n h1]
theorem dlP_16 {a : Sa} {f p : Nat} {v : Int} (hf : f < 6) : dlP (up1 a 16 v) f p = up1 (dlP a f p) 16 v := by
  have e : ∀ k, k ≠ 16 → up1 a 16 v k = a k := fun k hk => up1_n hk
  unfold dlP
  rw [e 0 (by omega), e (125 + 11 * (p % 120) + 2) (by omega), e (125 + 11 * (p % 120) + 3) (by omega), e (17 + 18 * f + 7) (by omega), e (17 + 18 * f + 8) (by omega), e (17 + 18 * f + 9) (by omega), e (17 + 18 * f + 10) (by omega)]
  rw [up1_c (i := 16) (j := 125 + 11 * (p % 120) + 4) (by omega), up1_c (i := 16) (j := 125 + 11 * (p % 120) + 8) (by omega), up1_c (i := 16) (j := 17 + 18 * f + 7) (by omega), up1_c (i := 16) (j := 17 + 18 * f + 8) (by omega), up1_c (i := 16) (j := 17 + 18 * f + 9) (by omega), up1_c (i := 16) (j := 17 + 18 * f + 10) (by omega)]
theorem Inv_jn {a : Sa} {N T : Int} {p : Nat} (hI : Inv N T a) (hk : old a ≤ p ∧ (p : Int) < a 7) (hs : a (125 + 11 * (p % 120) + 4) = 2) : Inv N T (jn1 a p) := by
  have hT' := hI.1
  unfold TopOK at hT'
  have hP' := hI.2.2.1 p hk.1 hk.2
  unfold PkOK at hP'
  obtain ⟨f, hf⟩ := Int.eq_ofNat_of_zero_le (show 0 ≤ a (125 + 11 * (p % 120) + 0) by omega)
  have hf6 : f < 6 := by omega
  have hfl : flP a p = f := by unfold flP; omega
  have hD := Inv_dl hI hk hf (by omega)
  have e : jn1 a p = up1 (dlP a f p) 16 (a 16 - 1) := by
    unfold jn1 dlv
    rw [flP_16, hfl, dlP_16 hf6]
  rw [e]
  have e7 : dlP a f p 7 = a 7 := dlP_n (by omega)
  have h7 : up1 (dlP a f p) 16 (a 16 - 1) 7 = dlP a f p 7 := up1_n (by omega)
  have h2 : up1 (dlP a f p) 16 (a 16 - 1) 2 = dlP a f p 2 := up1_n (by omega)
  have h0 : up1 (dlP a f p) 16 (a 16 - 1) 0 = dlP a f p 0 := up1_n (by omega)
  refine ⟨?_, ?_, ?_, ?_, ?_, ?_⟩
  · have hT := hD.1
    unfold TopOK at hT ⊢
    rw [h0, h2, h7, up1_n (show 1 ≠ 16 by omega), up1_n (show 3 ≠ 16 by omega), up1_n (show 4 ≠ 16 by omega), up1_n (show 5 ≠ 16 by omega), up1_n (show 6 ≠ 16 by omega), up1_n (show 15 ≠ 16 by omega)]
    exact hT
  · intro g hg
    rw [h2] at hg
    have hF := hD.2.1 g hg
    refine ⟨hF.1.up (fun j _ _ _ _ _ _ => up1_n (by omega)) (by omega) (by omega), ?_⟩
    rw [up1_n (by omega), hF.2, Qs_cong h7]
    intro q _
    exact isQ_eq (up1_n (by omega)) (up1_n (by omega))
  · intro q h1 h3
    rw [old_eq h7] at h1
    rw [h7] at h3
    exact (hD.2.2.1 q h1 h3).up (fun j _ _ => up1_n (by omega)) (by omega) (by omega)
  · rw [up1_s, Ss_cong h7 (fun q _ => isS_eq (up1_n (by omega))), knw_eq e7]
    have hpm : p ∈ knw a := (knw_m (by omega)).mpr hk
    have h1 : (knw a).filter (isS (dlP a f p)) = ((knw a).filter (isS a)).filter (fun q => decide (q ≠ p)) := by
      apply flt_off
      · exact isS_f (by rw [dlP_4 hf6]; omega)
      · intro q hq hqp
        have hq2 := (knw_m (by omega)).mp hq
        have := win_ne hk hq2 (fun z => hqp z.symm)
        exact isS_eq (dlP_n (by omega))
    have h2 := len_off ((knw_nd a).filter (isS a)) (List.mem_filter.mpr ⟨hpm, isS_t hs⟩)
    have h3 := hI.2.2.2.1
    rw [h1]
    omega
  · rw [up1_n (by omega), dlP_n (by omega)]
    exact hI.2.2.2.2.1
  · intro i hi
    rw [up1_n (by omega)]
    exact hD.2.2.2 i hi
/-- without a packet that is SENT the scan changes nothing -/
theorem jnA_no {a : Sa} : ∀ n p, (∀ q, p ≤ q → q < p + n → ¬ a (125 + 11 * (q % 120) + 4) = 2) → jnA a n p = a
  | 0, _, _ => rfl
  | n + 1, p, h => by
    have h1 : jnS a p = a := @if_neg _ (Classical.propDecidable _) (fun z => h p (Nat.le_refl _) (by omega) z.1) _ _ _
    unfold jnA
    rw [h1]
    exact jnA_no n (p + 1) (fun q h2 h3 => h q (by omega) (by omega))
theorem jnF_no {a : Sa} {z : Int} : ∀ n p, (∀ q, p ≤ q → q < p + n → ¬ a (125 + 11 * (q % 120) + 4) = 2) → jnF z a n p = z
  | 0, _, _ => rfl
  | n + 1, p, h => by
    have h1 : jnS a p = a := @if_neg _ (Classical.propDecidable _) (fun z => h p (Nat.le_refl _) (by omega) z.1) _ _ _
    have h2 : jnZ z a p = z := @if_neg _ (Classical.propDecidable _) (fun z => h p (Nat.le_refl _) (by omega) z.1) _ _ _
    unfold jnF
    rw [h1, h2]
    exact jnF_no n (p + 1) (fun q h2 h3 => h q (by omega) (by omega))
theorem no_sent {a : Sa} {N T : Int} (hI : Inv N T a) (h : a 16 ≤ 0) {q : Nat} (hk : old a ≤ q ∧ (q : Int) < a 7) : ¬ a (125 + 11 * (q % 120) + 4) = 2 := by
  intro hs
  have hT' := hI.1
  unfold TopOK at hT'
  have hm : q ∈ (knw a).filter (isS a) := List.mem_filter.mpr ⟨(knw_m (by omega)).mpr hk, isS_t hs⟩
  have h1 := hI.2.2.2.1
  have h2 := List.length_pos_of_mem hm
  omega
