theorem jk_ev (o k : Nat) : jk o k % 2 = 0 := by unfold jk; omega
theorem ev_S (k : Nat) : kS k < 3000 ∨ kS k % 2 = 0 := by
  by_cases h : kS k = jk 0 k
  · rw [h]; exact Or.inr (jk_ev _ _)
  · left
    unfold kS at h ⊢
    repeat' split
    all_goals first | omega | (exfalso; simp_all)
theorem ev_C (k : Nat) : kC k < 3000 ∨ kC k % 2 = 0 := by
  unfold kC
  repeat' split
  all_goals first | (left; omega) | exact Or.inr (jk_ev _ _)
theorem ev_R {j : Nat} (hj : j < 60) (k : Nat) : kR j k < 3000 ∨ kR j k % 2 = 0 := by
  unfold kR
  repeat' split
  all_goals first | (left; omega) | exact Or.inr (jk_ev _ _)
theorem ev_P {j : Nat} (hj : j < 120) (k : Nat) : kP j k < 3000 ∨ kP j k % 2 = 0 := by
  unfold kP
  repeat' split
  all_goals first | (left; omega) | exact Or.inr (jk_ev _ _)
theorem ev_F {f : Nat} (hf : f < 6) (k : Nat) : kF f k < 3000 ∨ kF f k % 2 = 0 := by
  by_cases h : k < 15
  · match k, h with
    | 0, _ => exact Or.inr (jk_ev _ _)
    | 1, _ => exact Or.inr (jk_ev _ _)
    | 2, _ => exact Or.inl (by show 17 + 18 * f + 17 < 3000; omega)
    | 3, _ => exact Or.inl (by show 17 + 18 * f + 6 < 3000; omega)
    | 4, _ => exact Or.inl (by show 17 + 18 * f + 7 < 3000; omega)
    | 5, _ => exact Or.inl (by show 17 + 18 * f + 8 < 3000; omega)
    | 6, _ => exact Or.inl (by show 17 + 18 * f + 5 < 3000; omega)
    | 7, _ => exact Or.inl (by show 17 + 18 * f + 9 < 3000; omega)
    | 8, _ => exact Or.inl (by show 17 + 18 * f + 10 < 3000; omega)
    | 9, _ => exact Or.inl (by show 17 + 18 * f + 11 < 3000; omega)
    | 10, _ => exact Or.inl (by show 17 + 18 * f + 12 < 3000; omega)
    | 11, _ => exact Or.inl (by show 17 + 18 * f + 13 < 3000; omega)
    | 12, _ => exact Or.inl (by show 17 + 18 * f + 14 < 3000; omega)
    | 13, _ => exact Or.inl (by show 17 + 18 * f + 15 < 3000; omega)
    | 14, _ => exact Or.inl (by show 17 + 18 * f + 16 < 3000; omega)
  · unfold kF
    rw [if_neg (by omega), if_neg (by omega), if_neg (by omega), if_neg (by omega), if_neg (by omega), if_neg (by omega), if_neg (by omega), if_neg (by omega), if_neg (by omega), if_neg (by omega), if_neg (by omega), if_neg (by omega), if_neg (by omega)]
    exact Or.inr (jk_ev _ _)
theorem key_ev {o : Nat} (ho : o < 206) (k : Nat) : key o k < 3000 ∨ key o k % 2 = 0 := by
  unfold key
  split
  · exact ev_S k
  split
  · split
    · left; omega
    · exact Or.inr (jk_ev _ _)
  split
  · exact Or.inr (jk_ev _ _)
  split
  · split
    · exact ev_F (by omega) k
    split
    · split
      · left; omega
      · exact Or.inr (jk_ev _ _)
    · split
      · left; omega
      · exact Or.inr (jk_ev _ _)
  split
  · exact Or.inr (jk_ev _ _)
  split
  · exact ev_P (by omega) k
  split
  · exact Or.inr (jk_ev _ _)
  split
  · exact ev_R (by omega) k
  split
  · exact ev_C k
  split
  · split
    · left; omega
    · exact Or.inr (jk_ev _ _)
  · split
    · left; omega
    · exact Or.inr (jk_ev _ _)
theorem key_j2 {o : Nat} (ho : o < 206) (k o' k' : Nat) : jk2 o' k' ≠ key o k := by
  have h := key_ev ho k
  have h2 : jk2 o' k' = 3001 + 2 * (206 * k' + o') := rfl
  omega
/-- the fields that are longs -/
def lng (o k : Nat) : Prop := (o = 0 ∧ k = 14) ∨ (3 ≤ o ∧ o < 21 ∧ o % 3 = 0 ∧ 10 ≤ k ∧ k ≤ 14) ∨ (22 ≤ o ∧ o < 142 ∧ k = 10)
noncomputable def bI (X : Sa) (o k : Nat) : Int := @ite _ (lng o k) (Classical.propDecidable _) (X (jk2 o k)) (X (key o k))
noncomputable def dL (X : Sa) (o k : Nat) : Int := @ite _ (lng o k) (Classical.propDecidable _) (X (key o k)) (X (jk2 o k))
theorem bI_n {X : Sa} {o k : Nat} (h : ¬ lng o k) : bI X o k = X (key o k) := @if_neg _ (Classical.propDecidable _) h _ _ _
theorem bI_y {X : Sa} {o k : Nat} (h : lng o k) : bI X o k = X (jk2 o k) := @if_pos _ (Classical.propDecidable _) h _ _ _
theorem dL_y {X : Sa} {o k : Nat} (h : lng o k) : dL X o k = X (key o k) := @if_pos _ (Classical.propDecidable _) h _ _ _
theorem dL_n {X : Sa} {o k : Nat} (h : ¬ lng o k) : dL X o k = X (jk2 o k) := @if_neg _ (Classical.propDecidable _) h _ _ _
/-- the ints and the longs of the State at B, whose numbers are the row X -/
noncomputable def cI (I : MI) (B : Nat) (X : Sa) : MI := mI I B 206 (bI X)
noncomputable def cL (L : ML) (B : Nat) (X : Sa) : ML := mL L B 206 (dL X)
theorem mI_ex {I : MI} {B n : Nat} {b b' : Nat → Nat → Int} (h : ∀ o, o < n → ∀ k, b o k = b' o k) : mI I B n b = mI I B n b' := by
  funext x k
  unfold mI
  split
  · dsimp only
    rw [h (x - B) (by omega) k]
  · rfl
theorem mL_ex {L : ML} {B n : Nat} {b b' : Nat → Nat → Int} (h : ∀ o, o < n → ∀ k, b o k = b' o k) : mL L B n b = mL L B n b' := by
  funext x k
  unfold mL
  split
  · dsimp only
    rw [h (x - B) (by omega) k]
  · rfl
theorem cI_up {I : MI} {B o k : Nat} {X : Sa} {v : Int} (ho : o < 206) (hl : ¬ lng o k) : mI I B 206 (up2 (bI X) o k v) = cI I B (up1 X (key o k) v) := by
  unfold cI
  refine mI_ex (fun o' ho' k' => ?_)
  by_cases e : o' = o ∧ k' = k
  · obtain ⟨rfl, rfl⟩ := e
    rw [up2_s, bI_n hl, up1_s]
  · have h1 : up2 (bI X) o k v o' k' = bI X o' k' := by
      by_cases e1 : o' = o
      · exact up2_nk (fun z => e ⟨e1, z⟩)
      · exact up2_na e1
    rw [h1]
    by_cases hl' : lng o' k'
    · rw [bI_y hl', bI_y hl', up1_n (key_j2 ho k o' k')]
    · rw [bI_n hl', bI_n hl', up1_n (key_ne ho' ho e)]
theorem cL_up {L : ML} {B o k : Nat} {X : Sa} {v : Int} (ho : o < 206) (hl : lng o k) : mL L B 206 (up2 (dL X) o k v) = cL L B (up1 X (key o k) v) := by
  unfold cL
  refine mL_ex (fun o' ho' k' => ?_)
  by_cases e : o' = o ∧ k' = k
  · obtain ⟨rfl, rfl⟩ := e
    rw [up2_s, dL_y hl, up1_s]
  · have h1 : up2 (dL X) o k v o' k' = dL X o' k' := by
      by_cases e1 : o' = o
      · exact up2_nk (fun z => e ⟨e1, z⟩)
      · exact up2_na e1
    rw [h1]
    by_cases hl' : lng o' k'
    · rw [dL_y hl', dL_y hl', up1_n (key_ne ho' ho e)]
    · rw [dL_n hl', dL_n hl', up1_n (key_j2 ho k o' k')]
theorem cI_o {I : MI} {B o k : Nat} {X : Sa} {v : Int} (ho : o < 206) (hl : lng o k) : cI I B (up1 X (key o k) v) = cI I B X := by
  unfold cI
  refine mI_ex (fun o' ho' k' => ?_)
  by_cases hl' : lng o' k'
  · rw [bI_y hl', bI_y hl', up1_n (key_j2 ho k o' k')]
  · rw [bI_n hl', bI_n hl', up1_n (key_ne ho' ho (fun e => hl' (by rw [e.1, e.2]; exact hl)))]
theorem cL_o {L : ML} {B o k : Nat} {X : Sa} {v : Int} (ho : o < 206) (hl : ¬ lng o k) : cL L B (up1 X (key o k) v) = cL L B X := by
  unfold cL
  refine mL_ex (fun o' ho' k' => ?_)
  by_cases hl' : lng o' k'
  · rw [dL_y hl', dL_y hl', up1_n (key_ne ho' ho (fun e => hl (by rw [← e.1, ← e.2]; exact hl')))]
  · rw [dL_n hl', dL_n hl', up1_n (key_j2 ho k o' k')]
