def tkS (a : Sa) (f : Nat) : Int := if a (17 + 18 * f + 12) < a 1 then a 1 else a (17 + 18 * f + 12)
def tkA (a : Sa) (f p : Nat) (n d : Int) : Sa := (up1 (up1 (up1 (up1 (up1 (up1 (up1 (up1 (up1 (up1 (up1 (up1 (up1 (up1 (up1 (up1 a (125 + 11 * (p % 120) + 0) f) (125 + 11 * (p % 120) + 1) n) (125 + 11 * (p % 120) + 2) (a 0)) (125 + 11 * (p % 120) + 3) (if d = 0 then -6 else a 0 + d)) (125 + 11 * (p % 120) + 4) 0) (125 + 11 * (p % 120) + 5) 0) (125 + 11 * (p % 120) + 6) 0) (125 + 11 * (p % 120) + 7) 0) (125 + 11 * (p % 120) + 8) (-6)) (125 + 11 * (p % 120) + 9) (tkS a f)) (125 + 11 * (p % 120) + 10) 0) (17 + 18 * f + 12) (tkS a f + n * 720720 / a (17 + 18 * f + 0))) (17 + 18 * f + 14) (a (17 + 18 * f + 14) + n * 720720)) (17 + 18 * f + 17) (a (17 + 18 * f + 17) + 1)) (17 + 18 * f + 11) (a (17 + 18 * f + 11) + 1)) 7 (a 7 + 1))
/-- a packet of length n, with the deadline d from now, comes to flow f -/
def take (a : Sa) (f : Nat) (n d : Int) : Sa := tkA a f (a 7).toNat n d
def hasR (a : Sa) (f : Nat) : Int := b2 (a (17 + 18 * f + 17) < a (17 + 18 * f + 1) ∧ ¬ (120 ≤ a 7 ∧ a (125 + 11 * (old a % 120) + 4) ≤ 2))
def setOK (k v : Int) : Prop := (k = 0 ∧ 1 ≤ v ∧ v ≤ 16) ∨ (k = 1 ∧ 1 ≤ v ∧ v ≤ 20) ∨ (k = 2 ∧ 0 ≤ v ∧ v ≤ 1000) ∨ (k = 3 ∧ 0 ≤ v ∧ v ≤ 1000) ∨ (k = 4 ∧ 0 ≤ v ∧ v ≤ 2)
noncomputable def setB (k v : Int) : Int := @ite _ (setOK k v) (Classical.propDecidable _) 1 0
theorem setB_1 {k v : Int} (h : setOK k v) : setB k v = 1 := @if_pos _ (Classical.propDecidable _) h _ _ _
theorem setB_0 {k v : Int} (h : ¬ setOK k v) : setB k v = 0 := @if_neg _ (Classical.propDecidable _) h _ _ _
theorem setB_z {k v : Int} : iI (setB k v) = 0 ∨ iI (setB k v) = 1 := by
  by_cases h : setOK k v
  · rw [setB_1 h]; exact Or.inr rfl
  · rw [setB_0 h]; exact Or.inl rfl
theorem setB_i {k v : Int} : -2147483648 ≤ setB k v ∧ setB k v < 2147483648 := by
  by_cases h : setOK k v
  · rw [setB_1 h]; omega
  · rw [setB_0 h]; omega
theorem setB_eq0 {k v : Int} : setB k v = 0 ↔ ¬ setOK k v := by
  by_cases h : setOK k v
  · rw [setB_1 h]; constructor
    · intro z; omega
    · intro z; exact absurd h z
  · rw [setB_0 h]; exact ⟨fun _ => h, fun _ => rfl⟩
def rulOK (k v : Int) : Prop := (k = 0 ∧ 0 ≤ v ∧ v ≤ 50) ∨ (k = 1 ∧ 0 ≤ v ∧ v ≤ 50) ∨ (k = 2 ∧ 0 ≤ v ∧ v ≤ 1000) ∨ (k = 3 ∧ 0 ≤ v ∧ v ≤ 1)
/-- the ticks that the rest of a packet takes -/
def rstT (a : Sa) (f p : Nat) : Int := if a (17 + 18 * f + 2) = 0 ∨ a (125 + 11 * (p % 120) + 1) - a (125 + 11 * (p % 120) + 5) ≤ a (17 + 18 * f + 2) then a 3 + (a (125 + 11 * (p % 120) + 1) - a (125 + 11 * (p % 120) + 5)) else (a (125 + 11 * (p % 120) + 1) - a (125 + 11 * (p % 120) + 5)) + a 3 * (((a (125 + 11 * (p % 120) + 1) - a (125 + 11 * (p % 120) + 5)) + a (17 + 18 * f + 2) - 1) / a (17 + 18 * f + 2))
def flP (a : Sa) (p : Nat) : Nat := (a (125 + 11 * (p % 120) + 0)).toNat
def urg (a : Sa) (p : Nat) : Int := b2 (a 6 = 1 ∧ ¬ a (125 + 11 * (p % 120) + 3) = -6 ∧ a (125 + 11 * (p % 120) + 3) ≤ a 0 + rstT a (flP a p) p + a 5)
theorem rst_b {a : Sa} {N T : Int} (hI : Inv N T a) {p : Nat} (h1 : old a ≤ p) (h2 : (p : Int) < a 7) : 0 ≤ rstT a (flP a p) p ∧ rstT a (flP a p) p ≤ 200000 := by
  have hT := hI.1
  unfold TopOK at hT
  have hP := hI.2.2.1 p h1 h2
  unfold PkOK at hP
  have hf : ((flP a p : Nat) : Int) < a 2 := by unfold flP; omega
  have hF := (hI.2.1 _ hf).1
  unfold FlowOK at hF
  unfold rstT
  have hr : 0 ≤ a (125 + 11 * (p % 120) + 1) - a (125 + 11 * (p % 120) + 5) ∧ a (125 + 11 * (p % 120) + 1) - a (125 + 11 * (p % 120) + 5) ≤ 2000 := by omega
  have hs1 : 0 ≤ a (17 + 18 * flP a p + 2) ∧ a (17 + 18 * flP a p + 2) ≤ 1000 := by omega
  have h30 : 0 ≤ a 3 ∧ a 3 ≤ 50 := by omega
  clear hT hP hf hF
  generalize a (125 + 11 * (p % 120) + 1) - a (125 + 11 * (p % 120) + 5) = r at hr ⊢
  generalize a (17 + 18 * flP a p + 2) = s at hs1 ⊢
  split
  · omega
  · have hs0 : 0 < s := by omega
    have hq : 0 ≤ (r + s - 1) / s ∧ (r + s - 1) / s ≤ 3000 := by
      constructor
      · exact Int.ediv_nonneg (by omega) (by omega)
      · have := Int.ediv_le_self s (show 0 ≤ r + s - 1 by omega)
        omega
    have h3 : 0 ≤ a 3 * ((r + s - 1) / s) := Int.mul_nonneg (by omega) hq.1
    have h4 : a 3 * ((r + s - 1) / s) ≤ 50 * 3000 := Int.mul_le_mul (by omega) hq.2 hq.1 (by omega)
    omega
def zeF (a : Sa) (f : Nat) : Nat → Sa
  | 0 => a
  | n + 1 => up1 (zeF a f n) (17 + 18 * f + n) 0
def addF (a : Sa) (f : Nat) (w : Int) : Sa := (up1 (up1 (up1 (up1 (zeF a f 18) (17 + 18 * f + 0) w) (17 + 18 * f + 1) 20) (17 + 18 * f + 4) 2) 2 (a 2 + 1))
theorem zeF_n {a : Sa} {f : Nat} {k : Nat} : ∀ n, (k < 17 + 18 * f ∨ 17 + 18 * f + n ≤ k) → zeF a f n k = a k
  | 0, _ => rfl
  | n + 1, h => by
    unfold zeF
    rw [up1_n (by omega)]
    exact zeF_n n (by omega)
theorem zeF_z {a : Sa} {f : Nat} {k : Nat} : ∀ n, k < n → zeF a f n (17 + 18 * f + k) = 0
  | 0, h => absurd h (by omega)
  | n + 1, h => by
    unfold zeF
    by_cases e : k = n
    · subst e; rw [up1_s]
    · rw [up1_n (by omega)]; exact zeF_z n (by omega)
def canc (a : Sa) (p : Nat) : Sa := up1 (up1 a (125 + 11 * (p % 120) + 4) 4) (17 + 18 * flP a p + 17) (a (17 + 18 * flP a p + 17) - 1)
