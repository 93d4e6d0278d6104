/-- a greatest delay as the class tells it -/
def gdv (z : Int) : Int := if 1000000000 ≤ z then 2147483647 else z
theorem wsO_s {a c : Sa} {n p : Nat} {z : Int} : wsO a c (n + 1) p z = wsO a c n (p + 1) (if a (125 + 11 * (p % 120) + 4) ≤ 1 then (if z < dly c p then dly c p else z) else z) := rfl
theorem wsO_ge {a c : Sa} : ∀ (n p : Nat) (z : Int), z ≤ wsO a c n p z
  | 0, _, z => Int.le_refl _
  | n + 1, p, z => by
    rw [wsO_s]
    refine Int.le_trans ?_ (wsO_ge n (p + 1) _)
    split
    · split <;> omega
    · omega
/-- a delay is small, or the number that stands for none -/
theorem wsO_u {a c : Sa} {N T : Int} (hI : Inv N T c) (h7 : a 7 = c 7) : ∀ (n p : Nat) (z : Int), old c ≤ p → ((p + n : Nat) : Int) ≤ c 7 → (z = 1000000000 ∨ (0 ≤ z ∧ z ≤ 1002006)) → wsO a c n p z = 1000000000 ∨ (0 ≤ wsO a c n p z ∧ wsO a c n p z ≤ 1002006)
  | 0, _, z, _, _, h => h
  | n + 1, p, z, hp, hn, h => by
    rw [wsO_s]
    refine wsO_u hI h7 n (p + 1) _ (by omega) (by omega) ?_
    have hT := hI.1
    unfold TopOK at hT
    have hP := hI.2.2.1 p hp (by omega)
    unfold PkOK at hP
    split
    · have hd : dly c p = 1000000000 ∨ (-1002006 ≤ dly c p ∧ dly c p ≤ 1002006) := by
        unfold dly
        split <;> omega
      split <;> omega
    · exact h
theorem bsW_b {a : Sa} {N T : Int} (hI : Inv N T a) (hN : NowOK a) (hL : LagOK a) {fn tn : Nat} {v : Int} (hf : (fn : Int) < a 2) (hv : 0 ≤ v ∧ v ≤ 1000) (hT : T + tn ≤ 1002000) : (bsW a fn v tn) = 1000000000 ∨ (0 ≤ (bsW a fn v tn) ∧ (bsW a fn v tn) ≤ 1002006) := by
  have hO : OK N T (up1 a (17 + 18 * fn + 2) v) := set_OK ⟨hI, hN, hL⟩ hf (k := 2) (v := v) (Or.inr (Or.inr (Or.inl ⟨rfl, hv.1, hv.2⟩)))
  have hk := tkN_ok hO.1 hO.2.1 hO.2.2 tn hT
  have e7 : (tkN (up1 a (17 + 18 * fn + 2) v) tn) 7 = a 7 := hk.2.2.2.2.2.trans (up1_n (by omega))
  have h7 := hI.1
  unfold TopOK at h7
  unfold bsW wst
  refine wsO_u hk.1 e7.symm _ _ _ ?_ ?_ (Or.inr (by decide))
  · rw [old_eq e7]; exact Nat.le_refl _
  · rw [e7]
    have : old a ≤ (a 7).toNat := by unfold old; omega
    omega
/-- no queue holds a packet -/
theorem qcN_z {a : Sa} : ∀ n p, qcN a n p = 0 → ∀ q, p ≤ q → q < p + n → ¬ a (125 + 11 * (q % 120) + 4) ≤ 1
  | 0, p, _, q, h1, h2 => absurd h2 (by omega)
  | n + 1, p, h, q, h1, h2 => by
    have hb : qcN a (n + 1) p = b2 (a (125 + 11 * (p % 120) + 4) ≤ 1) + qcN a n (p + 1) := rfl
    have hn := qcN_b (a := a) n (p + 1)
    by_cases e : q = p
    · subst e
      intro hq
      rw [hb, b2_1 hq] at h
      omega
    · have h0 : qcN a n (p + 1) = 0 := by
        have := b2_i (c := a (125 + 11 * (p % 120) + 4) ≤ 1)
        have h5 : 0 ≤ b2 (a (125 + 11 * (p % 120) + 4) ≤ 1) := by unfold b2; split <;> decide
        omega
      exact qcN_z n (p + 1) h0 q (by omega) (by omega)
theorem qcN_p {a : Sa} : ∀ n p, (∀ q, p ≤ q → q < p + n → ¬ a (125 + 11 * (q % 120) + 4) ≤ 1) → qcN a n p = 0
  | 0, p, _ => rfl
  | n + 1, p, h => by
    have hb : qcN a (n + 1) p = b2 (a (125 + 11 * (p % 120) + 4) ≤ 1) + qcN a n (p + 1) := rfl
    rw [hb, b2_0 (h p (Nat.le_refl _) (by omega)), qcN_p n (p + 1) (fun q h1 h2 => h q (by omega) (by omega))]
    rfl
theorem qct_0 {a : Sa} {N T : Int} (hI : Inv N T a) : qct a = 0 ↔ ∀ f : Nat, f < (a 2).toNat → a (17 + 18 * f + 17) ≤ 0 := by
  have hT := hI.1
  unfold TopOK at hT
  have ho : old a ≤ (a 7).toNat := by unfold old; omega
  constructor
  · intro h f hf
    have hl := (hI.2.1 f (by omega)).2
    by_cases hz : (Qs a f).length = 0
    · omega
    · obtain ⟨q, hq⟩ : ∃ q, (Qs a f)[0]? = some q := ⟨_, List.getElem?_eq_getElem (by omega)⟩
      have hm := Qs_mem.mp (List.mem_of_getElem? hq)
      exact absurd hm.2.2 (qcN_z _ _ h q hm.1.1 (by omega))
  · intro h
    refine qcN_p _ _ (fun q h1 h2 hq => ?_)
    have hP := hI.2.2.1 q h1 (by omega)
    unfold PkOK at hP
    obtain ⟨f, hf⟩ := Int.eq_ofNat_of_zero_le (show 0 ≤ a (125 + 11 * (q % 120) + 0) by omega)
    have hm : q ∈ Qs a f := Qs_mem.mpr ⟨⟨h1, by omega⟩, hf, hq⟩
    have h3 := h f (by omega)
    have h4 := (hI.2.1 f (by omega)).2
    have h5 : ¬ (Qs a f).length = 0 := fun h => by
      rw [List.eq_nil_of_length_eq_zero h] at hm
      exact absurd hm (by simp)
    omega
