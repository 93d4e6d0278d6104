/-- a key of its own for a cell that the reference has not -/
def jk (o k : Nat) : Nat := 3000 + 2 * (206 * k + o)
def jk2 (o k : Nat) : Nat := 3001 + 2 * (206 * k + o)
def kS (k : Nat) : Nat := if k = 6 then 0 else if k = 7 then 2 else if k = 8 then 7 else if k = 9 then 15 else if k = 10 then 13 else if k = 11 then 14 else if k = 12 then 16 else if k = 14 then 1 else jk 0 k
def kF (f k : Nat) : Nat := if k = 2 then 17 + 18 * f + 17 else if k = 3 then 17 + 18 * f + 6 else if k = 4 then 17 + 18 * f + 7 else if k = 5 then 17 + 18 * f + 8 else if k = 6 then 17 + 18 * f + 5 else if k = 7 then 17 + 18 * f + 9 else if k = 8 then 17 + 18 * f + 10 else if k = 9 then 17 + 18 * f + 11 else if k = 10 then 17 + 18 * f + 12 else if k = 11 then 17 + 18 * f + 13 else if k = 12 then 17 + 18 * f + 14 else if k = 13 then 17 + 18 * f + 15 else if k = 14 then 17 + 18 * f + 16 else jk (3 + 3 * f) k
def kP (j k : Nat) : Nat := if k < 8 then 125 + 11 * j + k else if k = 8 then 125 + 11 * j + 10 else if k = 9 then 125 + 11 * j + 8 else if k = 10 then 125 + 11 * j + 9 else jk (22 + j) k
def kR (j k : Nat) : Nat := if k = 0 then 1445 + 5 * j + 0 else if k = 1 then 1445 + 5 * j + 1 else if k = 2 then 1445 + 5 * j + 2 else if k = 5 then 1445 + 5 * j + 3 else if k = 6 then 1445 + 5 * j + 4 else jk (143 + j) k
def kC (k : Nat) : Nat := if k = 0 then 8 else if k = 2 then 9 else if k = 3 then 12 else if k = 4 then 10 else if k = 6 then 11 else jk 203 k
/-- the key of the field or place k of the cell o of a State -/
def key (o k : Nat) : Nat :=
  if o = 0 then kS k else if o = 1 then (if k < 4 then 3 + k else jk 1 k) else if o = 2 then jk 2 k
  else if o < 21 then (if o % 3 = 0 then kF ((o - 3) / 3) k else if o % 3 = 1 then (if k < 5 then 17 + 18 * ((o - 3) / 3) + k else jk o k) else (if k < 20 then 2000 + 20 * ((o - 3) / 3) + k else jk o k))
  else if o = 21 then jk 21 k else if o < 142 then kP (o - 22) k else if o = 142 then jk 142 k else if o < 203 then kR (o - 143) k
  else if o = 203 then kC k else if o = 204 then (if k = 1 then 1825 else jk 204 k) else if k < 80 then 1745 + k else jk o k
def yS (q : Nat) : Nat × Nat := if q = 0 then (0, 6) else if q = 2 then (0, 7) else if q = 7 then (0, 8) else if q = 15 then (0, 9) else if q = 13 then (0, 10) else if q = 14 then (0, 11) else if q = 16 then (0, 12) else if q = 1 then (0, 14) else if q = 8 then (203, 0) else if q = 9 then (203, 2) else if q = 12 then (203, 3) else if q = 10 then (203, 4) else if q = 11 then (203, 6) else (1, q - 3)
def yF (f r : Nat) : Nat × Nat := if r = 17 then (3 + 3 * f, 2) else if r = 6 then (3 + 3 * f, 3) else if r = 7 then (3 + 3 * f, 4) else if r = 8 then (3 + 3 * f, 5) else if r = 5 then (3 + 3 * f, 6) else if r = 9 then (3 + 3 * f, 7) else if r = 10 then (3 + 3 * f, 8) else if r = 11 then (3 + 3 * f, 9) else if r = 12 then (3 + 3 * f, 10) else if r = 13 then (3 + 3 * f, 11) else if r = 14 then (3 + 3 * f, 12) else if r = 15 then (3 + 3 * f, 13) else if r = 16 then (3 + 3 * f, 14) else (4 + 3 * f, r)
def yR (j r : Nat) : Nat × Nat := (143 + j, if r = 3 then 5 else if r = 4 then 6 else r)
def yP (j r : Nat) : Nat × Nat := (22 + j, if r = 10 then 8 else if r = 8 then 9 else if r = 9 then 10 else r)
/-- the cell of a key -/
def yek (q : Nat) : Nat × Nat :=
  if q < 17 then yS q else if q < 125 then yF ((q - 17) / 18) ((q - 17) % 18) else if q < 1445 then yP ((q - 125) / 11) ((q - 125) % 11) else if q < 1745 then yR ((q - 1445) / 5) ((q - 1445) % 5)
  else if q < 1825 then (205, q - 1745) else if q = 1825 then (204, 1) else if q < 3000 then (5 + 3 * ((q - 2000) / 20), (q - 2000) % 20) else (((q - 3000) / 2) % 206, ((q - 3000) / 2) / 206)
theorem y_jk {o k : Nat} (h : o < 206) : yek (jk o k) = (o, k) := by
  unfold yek jk
  rw [if_neg (by omega), if_neg (by omega), if_neg (by omega), if_neg (by omega), if_neg (by omega), if_neg (by omega), if_neg (by omega)]
  exact Prod.ext (by show _ = o; omega) (by show _ = k; omega)
theorem y_S {q : Nat} (h : q < 17) : yek q = yS q := if_pos h
theorem y_F {f r : Nat} (hf : f < 6) (hr : r < 18) : yek (17 + 18 * f + r) = yF f r := by
  unfold yek
  rw [if_neg (by omega), if_pos (by omega), show (17 + 18 * f + r - 17) / 18 = f by omega, show (17 + 18 * f + r - 17) % 18 = r by omega]
theorem y_P {j r : Nat} (hf : j < 120) (hr : r < 11) : yek (125 + 11 * j + r) = yP j r := by
  unfold yek
  rw [if_neg (by omega), if_neg (by omega), if_pos (by omega), show (125 + 11 * j + r - 125) / 11 = j by omega, show (125 + 11 * j + r - 125) % 11 = r by omega]
theorem y_R {j r : Nat} (hf : j < 60) (hr : r < 5) : yek (1445 + 5 * j + r) = yR j r := by
  unfold yek
  rw [if_neg (by omega), if_neg (by omega), if_neg (by omega), if_pos (by omega), show (1445 + 5 * j + r - 1445) / 5 = j by omega, show (1445 + 5 * j + r - 1445) % 5 = r by omega]
theorem y_Q {f i : Nat} (hf : f < 6) (hi : i < 20) : yek (2000 + 20 * f + i) = (5 + 3 * f, i) := by
  unfold yek
  rw [if_neg (by omega), if_neg (by omega), if_neg (by omega), if_neg (by omega), if_neg (by omega), if_neg (by omega), if_pos (by omega), show (2000 + 20 * f + i - 2000) / 20 = f by omega, show (2000 + 20 * f + i - 2000) % 20 = i by omega]
theorem yk_S (k : Nat) : yek (kS k) = (0, k) := by
  unfold kS
  repeat' split
  all_goals first | exact y_jk (by decide) | (subst k; rfl)
theorem yk_C (k : Nat) : yek (kC k) = (203, k) := by
  unfold kC
  repeat' split
  all_goals first | exact y_jk (by decide) | (subst k; rfl)
theorem yk_F {f : Nat} (hf : f < 6) (k : Nat) : yek (kF f k) = (3 + 3 * f, k) := by
  by_cases h2 : k = 2
  · subst h2
    show yek (17 + 18 * f + 17) = _
    rw [y_F hf (by decide)]
    rfl
  by_cases h3 : k = 3
  · subst h3
    show yek (17 + 18 * f + 6) = _
    rw [y_F hf (by decide)]
    rfl
  by_cases h4 : k = 4
  · subst h4
    show yek (17 + 18 * f + 7) = _
    rw [y_F hf (by decide)]
    rfl
  by_cases h5 : k = 5
  · subst h5
    show yek (17 + 18 * f + 8) = _
    rw [y_F hf (by decide)]
    rfl
  by_cases h6 : k = 6
  · subst h6
    show yek (17 + 18 * f + 5) = _
    rw [y_F hf (by decide)]
    rfl
  by_cases h7 : k = 7
  · subst h7
    show yek (17 + 18 * f + 9) = _
    rw [y_F hf (by decide)]
    rfl
  by_cases h8 : k = 8
  · subst h8
    show yek (17 + 18 * f + 10) = _
    rw [y_F hf (by decide)]
    rfl
  by_cases h9 : k = 9
  · subst h9
    show yek (17 + 18 * f + 11) = _
    rw [y_F hf (by decide)]
    rfl
  by_cases h10 : k = 10
  · subst h10
    show yek (17 + 18 * f + 12) = _
    rw [y_F hf (by decide)]
    rfl
  by_cases h11 : k = 11
  · subst h11
    show yek (17 + 18 * f + 13) = _
    rw [y_F hf (by decide)]
    rfl
  by_cases h12 : k = 12
  · subst h12
    show yek (17 + 18 * f + 14) = _
    rw [y_F hf (by decide)]
    rfl
  by_cases h13 : k = 13
  · subst h13
    show yek (17 + 18 * f + 15) = _
    rw [y_F hf (by decide)]
    rfl
  by_cases h14 : k = 14
  · subst h14
    show yek (17 + 18 * f + 16) = _
    rw [y_F hf (by decide)]
    rfl
  unfold kF
  rw [if_neg h2, if_neg h3, if_neg h4, if_neg h5, if_neg h6, if_neg h7, if_neg h8, if_neg h9, if_neg h10, if_neg h11, if_neg h12, if_neg h13, if_neg h14]
  exact y_jk (by omega)
theorem yk_R {j : Nat} (hj : j < 60) (k : Nat) : yek (kR j k) = (143 + j, k) := by
  unfold kR
  repeat' split
  all_goals first | exact y_jk (by omega) | (subst k; rw [y_R hj (by decide)]; rfl)
theorem yk_P {j : Nat} (hj : j < 120) (k : Nat) : yek (kP j k) = (22 + j, k) := by
  unfold kP
  split
  · rw [y_P hj (by omega)]
    unfold yP
    rw [if_neg (by omega), if_neg (by omega), if_neg (by omega)]
  · repeat' split
    all_goals first | exact y_jk (by omega) | (subst k; rw [y_P hj (by decide)]; rfl)
theorem yek_key {o : Nat} (ho : o < 206) (k : Nat) : yek (key o k) = (o, k) := by
  unfold key
  split
  · rename_i h; subst h; exact yk_S k
  split
  · rename_i h; subst h
    split
    · rename_i h4
      match k, h4 with
      | 0, _ => rfl
      | 1, _ => rfl
      | 2, _ => rfl
      | 3, _ => rfl
    · exact y_jk (by decide)
  split
  · rename_i h; subst h; exact y_jk (by decide)
  split
  · rename_i h0 h1 h2 h3
    obtain ⟨f, hf⟩ : ∃ f, (o - 3) / 3 = f := ⟨_, rfl⟩
    rw [hf]
    split
    · rw [yk_F (by omega), show 3 + 3 * f = o by omega]
    split
    · split
      · rename_i h5
        rw [y_F (by omega) (by omega), show o = 4 + 3 * f by omega]
        match k, h5 with
        | 0, _ => rfl
        | 1, _ => rfl
        | 2, _ => rfl
        | 3, _ => rfl
        | 4, _ => rfl
      · exact y_jk (by omega)
    · split
      · rename_i h5
        rw [y_Q (by omega) h5, show 5 + 3 * f = o by omega]
      · exact y_jk (by omega)
  split
  · rename_i h; subst h; exact y_jk (by decide)
  split
  · rw [yk_P (by omega), show 22 + (o - 22) = o by omega]
  split
  · rename_i h; subst h; exact y_jk (by decide)
  split
  · rw [yk_R (by omega), show 143 + (o - 143) = o by omega]
  split
  · rename_i h; subst h; exact yk_C k
  split
  · rename_i h; subst h
    split
    · rename_i h; subst h; rfl
    · exact y_jk (by decide)
  · split
    · rename_i h8
      have e : yek (1745 + k) = (205, k) := by
        unfold yek
        rw [if_neg (by omega), if_neg (by omega), if_neg (by omega), if_neg (by omega), if_pos (by omega), show 1745 + k - 1745 = k by omega]
      rw [e, show (205 : Nat) = o by omega]
    · exact y_jk (by omega)
theorem key_ne {o o' k k' : Nat} (h : o < 206) (h' : o' < 206) (hne : ¬ (o = o' ∧ k = k')) : key o k ≠ key o' k' := by
  intro e
  have h1 := yek_key h k
  rw [e, yek_key h' k'] at h1
  exact hne ⟨(Prod.mk.inj h1).1.symm, (Prod.mk.inj h1).2.symm⟩
