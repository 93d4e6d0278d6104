theorem fsW_b {a : Sa} (h : ∀ f : Nat, (f : Int) < a 2 → 1 ≤ a (17 + 18 * f + 0) ∧ a (17 + 18 * f + 0) ≤ 16) : ∀ n : Nat, (n : Int) ≤ a 2 → 0 ≤ fsW a n ∧ fsW a n ≤ 16 * n
  | 0, _ => by unfold fsW; omega
  | n + 1, hn => by
    have h1 := fsW_b h n (by omega)
    have h2 := h n (by omega)
    unfold fsW
    split <;> omega
theorem fsW_w {a : Sa} (h : ∀ f : Nat, (f : Int) < a 2 → 1 ≤ a (17 + 18 * f + 0) ∧ a (17 + 18 * f + 0) ≤ 16) : ∀ n : Nat, (n : Int) ≤ a 2 → ∀ f, f < n → 0 < a (17 + 18 * f + 14) → a (17 + 18 * f + 0) ≤ fsW a n
  | 0, _, f, hf, _ => absurd hf (by omega)
  | n + 1, hn, f, hf, h0 => by
    have h1 := fsW_b h n (by omega)
    have h2 := h n (by omega)
    unfold fsW
    by_cases e : f = n
    · subst e
      rw [if_pos h0]
      omega
    · have := fsW_w h n (by omega) f (by omega) h0
      split <;> omega
theorem flQ_b {a : Sa} {f : Nat} {w : Int} (hw : 1 ≤ a (17 + 18 * f + 0)) (hw2 : a (17 + 18 * f + 0) ≤ w) (h14 : 0 < a (17 + 18 * f + 14)) : 0 ≤ flQ a f w ∧ flQ a f w ≤ 720720 ∧ flQ a f w ≤ a (17 + 18 * f + 14) := by
  have h1 : 0 ≤ 720720 * a (17 + 18 * f + 0) / w := Int.ediv_nonneg (by omega) (by omega)
  have h2 : 720720 * a (17 + 18 * f + 0) / w ≤ 720720 := by
    apply Int.ediv_le_of_le_mul (by omega)
    have := Int.mul_le_mul_of_nonneg_left hw2 (show (0 : Int) ≤ 720720 by omega)
    omega
  unfold flQ
  split <;> omega
theorem fl1_n {a : Sa} {f k : Nat} {w : Int} (h : ¬ k = 17 + 18 * f + 14 ∧ ¬ k = 17 + 18 * f + 15) : fl1 a f w k = a k := by
  unfold fl1
  split
  · rw [up1_n (by omega), up1_n (by omega)]
  · rfl
theorem fl1_14 {a : Sa} {f : Nat} {w : Int} : fl1 a f w (17 + 18 * f + 14) = if 0 < a (17 + 18 * f + 14) then a (17 + 18 * f + 14) - flQ a f w else a (17 + 18 * f + 14) := by
  unfold fl1
  split
  · rw [up1_n (by omega), up1_s]
  · rfl
theorem fl1_15 {a : Sa} {f : Nat} {w : Int} : fl1 a f w (17 + 18 * f + 15) = if 0 < a (17 + 18 * f + 14) then a (17 + 18 * f + 15) + flQ a f w else a (17 + 18 * f + 15) := by
  unfold fl1
  split
  · rw [up1_s]
  · rfl
theorem Inv_fl1 {a : Sa} {N T w : Int} {f : Nat} (hI : Inv N T a) (hf : (f : Int) < a 2) (hw : 0 < a (17 + 18 * f + 14) → a (17 + 18 * f + 0) ≤ w) (h15 : a (17 + 18 * f + 15) + 720720 ≤ 720720 * a 0) : Inv N T (fl1 a f w) := by
  have hT' := hI.1
  unfold TopOK at hT'
  refine Inv_fl (f := f) hI (by omega) (fun k hk => fl1_n (by omega)) (fl1_n (by omega)) (fun _ => ?_)
  have hF := (hI.2.1 f hf).1
  unfold FlowOK at hF ⊢
  rw [fl1_14, fl1_15, fl1_n (k := 0) (by omega), fl1_n (k := 7) (by omega), fl1_n (k := 17 + 18 * f + 0) (by omega), fl1_n (k := 17 + 18 * f + 1) (by omega), fl1_n (k := 17 + 18 * f + 2) (by omega), fl1_n (k := 17 + 18 * f + 3) (by omega), fl1_n (k := 17 + 18 * f + 4) (by omega), fl1_n (k := 17 + 18 * f + 5) (by omega), fl1_n (k := 17 + 18 * f + 6) (by omega), fl1_n (k := 17 + 18 * f + 9) (by omega), fl1_n (k := 17 + 18 * f + 12) (by omega), fl1_n (k := 17 + 18 * f + 16) (by omega), fl1_n (k := 17 + 18 * f + 17) (by omega)]
  by_cases h : 0 < a (17 + 18 * f + 14)
  · have hb := flQ_b (a := a) (f := f) (w := w) (by omega) (hw h) h
    rw [if_pos h, if_pos h]
    omega
  · rw [if_neg h, if_neg h]
    omega
theorem flA_n {a : Sa} {k : Nat} {w : Int} : ∀ n, (∀ g, g < n → ¬ k = 17 + 18 * g + 14 ∧ ¬ k = 17 + 18 * g + 15) → flA a w n k = a k
  | 0, _ => rfl
  | n + 1, h => by
    unfold flA
    rw [fl1_n (h n (by omega))]
    exact flA_n n (fun g hg => h g (by omega))
theorem Inv_flA {a : Sa} {N T w : Int} (hI : Inv N T a) (hw : ∀ f : Nat, (f : Int) < a 2 → 0 < a (17 + 18 * f + 14) → a (17 + 18 * f + 0) ≤ w) (h15 : ∀ f : Nat, (f : Int) < a 2 → a (17 + 18 * f + 15) + 720720 ≤ 720720 * a 0) : ∀ n : Nat, (n : Int) ≤ a 2 → Inv N T (flA a w n)
  | 0, _ => hI
  | n + 1, h => by
    have h2 : flA a w n 2 = a 2 := flA_n n (fun g _ => by omega)
    have h0 : flA a w n 0 = a 0 := flA_n n (fun g _ => by omega)
    refine Inv_fl1 (Inv_flA hI hw h15 n (by omega)) (by rw [h2]; omega) ?_ ?_
    · rw [flA_n n (fun g hg => by omega), flA_n n (fun g hg => by omega)]
      exact hw n (by omega)
    · rw [h0, flA_n n (fun g hg => by omega)]
      exact h15 n (by omega)
theorem wts {a : Sa} {N T : Int} (hI : Inv N T a) : ∀ f : Nat, (f : Int) < a 2 → 1 ≤ a (17 + 18 * f + 0) ∧ a (17 + 18 * f + 0) ≤ 16 := fun f hf => ((hI.2.1 f hf).1).1
theorem Inv_flo {a : Sa} {N T : Int} (hI : Inv N T a) (h15 : ∀ f : Nat, (f : Int) < a 2 → a (17 + 18 * f + 15) + 720720 ≤ 720720 * a 0) : Inv N T (flo a) := by
  have hT' := hI.1
  unfold TopOK at hT'
  exact Inv_flA hI (fun f hf h => fsW_w (wts hI) _ (by omega) f (by omega) h) h15 _ (by omega)
theorem flo_n {a : Sa} {k : Nat} (h2 : a 2 ≤ 6) (h : ∀ g, g < 6 → ¬ k = 17 + 18 * g + 14 ∧ ¬ k = 17 + 18 * g + 15) : flo a k = a k := flA_n _ (fun g hg => h g (by omega))
theorem Inv_lg1 {a : Sa} {N T : Int} {f : Nat} (hI : Inv N T a) (hf : (f : Int) < a 2) : Inv N T (lg1 a f) := by
  have hT' := hI.1
  unfold TopOK at hT'
  unfold lg1
  refine Inv_fl (f := f) hI (by omega) (fun k hk => up1_n (by omega)) (up1_n (by omega)) (fun _ => ?_)
  have hF := (hI.2.1 f hf).1
  unfold FlowOK at hF ⊢
  have hl : lag a f = a (17 + 18 * f + 15) - 720720 * a (17 + 18 * f + 6) := rfl
  rw [up1_s, up1_n (j := 0) (by omega), up1_n (j := 7) (by omega), up1_n (j := 17 + 18 * f + 0) (by omega), up1_n (j := 17 + 18 * f + 1) (by omega), up1_n (j := 17 + 18 * f + 2) (by omega), up1_n (j := 17 + 18 * f + 3) (by omega), up1_n (j := 17 + 18 * f + 4) (by omega), up1_n (j := 17 + 18 * f + 5) (by omega), up1_n (j := 17 + 18 * f + 6) (by omega), up1_n (j := 17 + 18 * f + 9) (by omega), up1_n (j := 17 + 18 * f + 12) (by omega), up1_n (j := 17 + 18 * f + 14) (by omega), up1_n (j := 17 + 18 * f + 15) (by omega), up1_n (j := 17 + 18 * f + 17) (by omega)]
  have : 0 ≤ (if a (17 + 18 * f + 16) < lag a f then lag a f else a (17 + 18 * f + 16)) ∧ (if a (17 + 18 * f + 16) < lag a f then lag a f else a (17 + 18 * f + 16)) ≤ 720720 * a 0 := by
    split <;> omega
  omega
theorem lgA_n {a : Sa} {k : Nat} : ∀ n, (∀ g, g < n → ¬ k = 17 + 18 * g + 16) → lgA a n k = a k
  | 0, _ => rfl
  | n + 1, h => by
    unfold lgA lg1
    rw [up1_n (h n (by omega))]
    exact lgA_n n (fun g hg => h g (by omega))
theorem Inv_lgA {a : Sa} {N T : Int} (hI : Inv N T a) : ∀ n : Nat, (n : Int) ≤ a 2 → Inv N T (lgA a n)
  | 0, _ => hI
  | n + 1, h => by
    have h2 : lgA a n 2 = a 2 := lgA_n n (fun g _ => by omega)
    exact Inv_lg1 (Inv_lgA hI n (by omega)) (by rw [h2]; omega)
theorem lgA_16 {a : Sa} : ∀ n f, f < n → lgA a n (17 + 18 * f + 16) = if a (17 + 18 * f + 16) < lag a f then lag a f else a (17 + 18 * f + 16)
  | 0, f, h => absurd h (by omega)
  | n + 1, f, h => by
    unfold lgA lg1
    by_cases e : f = n
    · subst e
      rw [up1_s]
      unfold lag
      rw [lgA_n f (fun g hg => by omega), lgA_n f (fun g hg => by omega), lgA_n f (fun g hg => by omega)]
    · rw [up1_n (by omega)]
      exact lgA_16 n f (by omega)
theorem Lag_lgA {a : Sa} (h2 : 0 ≤ a 2) : LagOK (lgA a (a 2).toNat) := by
  intro f hf
  rw [lgA_n _ (fun g hg => by omega)] at hf
  rw [lgA_16 _ f (by omega), lgA_n (k := 17 + 18 * f + 15) _ (fun g hg => by omega), lgA_n (k := 17 + 18 * f + 6) _ (fun g hg => by omega)]
  unfold lag
  split <;> omega
/-- what a head is -/
theorem hd_ok {a : Sa} {N T : Int} (hI : Inv N T a) {f : Nat} (hf : (f : Int) < a 2) : (a (17 + 18 * f + 17) = 0 ∧ hdF a f = -6) ∨ (¬ a (17 + 18 * f + 17) = 0 ∧ ∃ p : Nat, hdF a f = p ∧ (old a ≤ p ∧ (p : Int) < a 7) ∧ a (125 + 11 * (p % 120) + 0) = f ∧ a (125 + 11 * (p % 120) + 4) ≤ 1) := by
  by_cases h : a (17 + 18 * f + 17) = 0
  · exact Or.inl ⟨h, if_pos h⟩
  · refine Or.inr ⟨h, hdN a f 120 (old a), if_neg h, ?_⟩
    obtain ⟨q, h1, h2, h3, h4, h5⟩ := hd_ex hI hf h
    have := hdN_spec a f 120 (old a) q h1 h3 ⟨h4, h5⟩
    exact ⟨⟨this.2.1, by omega⟩, this.2.2⟩
theorem hd_neg {a : Sa} {N T : Int} (hI : Inv N T a) {f : Nat} (hf : (f : Int) < a 2) : hdF a f < 0 ↔ a (17 + 18 * f + 17) = 0 := by
  rcases hd_ok hI hf with ⟨h1, h2⟩ | ⟨h1, p, h2, -⟩
  · rw [h2]; constructor
    · intro _; exact h1
    · intro _; omega
  · rw [h2]; constructor
    · intro h; omega
    · intro h; exact absurd h h1
theorem tag_b {a : Sa} {N T : Int} (hI : Inv N T a) {f : Nat} (hf : (f : Int) < a 2) : 0 ≤ tag a f ∧ tag a f ≤ 1441440000 * a 7 := by
  have hT' := hI.1
  unfold TopOK at hT'
  have hF := (hI.2.1 f hf).1
  unfold FlowOK at hF
  unfold tag
  rcases hd_ok hI hf with ⟨h1, h2⟩ | ⟨h1, p, h2, h3, h4, h5⟩
  · rw [if_pos (by omega)]; omega
  · rw [if_neg (by omega), h2]
    have hP := hI.2.2.1 p h3.1 h3.2
    unfold PkOK at hP
    rw [show ((p : Nat) : Int).toNat = p from rfl]
    have hd1 : 0 ≤ a (125 + 11 * (p % 120) + 5) * 720720 / a (17 + 18 * f + 0) := Int.ediv_nonneg (by omega) (by omega)
    have hd2 : a (125 + 11 * (p % 120) + 5) * 720720 / a (17 + 18 * f + 0) ≤ a (125 + 11 * (p % 120) + 5) * 720720 := Int.ediv_le_self _ (by omega)
    omega
theorem nxL_ok {a : Sa} {N T : Int} (hI : Inv N T a) : ∀ n : Nat, (n : Int) ≤ a 2 → (nxL a n = -6 ∧ ∀ g, g < n → hdF a g < 0) ∨ ∃ f : Nat, nxL a n = f ∧ f < n ∧ ¬ hdF a f < 0
  | 0, _ => Or.inl ⟨rfl, fun g hg => absurd hg (by omega)⟩
  | n + 1, hn => by
    unfold nxL
    split
    · rename_i h
      exact Or.inr ⟨n, rfl, by omega, h.1⟩
    · rename_i h
      rcases nxL_ok hI n (by omega) with ⟨h1, h2⟩ | ⟨f, h1, h2, h3⟩
      · refine Or.inl ⟨h1, fun g hg => ?_⟩
        by_cases e : g = n
        · subst e
          by_cases h4 : hdF a g < 0
          · exact h4
          · exact absurd ⟨h4, Or.inl (by omega)⟩ h
        · exact h2 g (by omega)
      · exact Or.inr ⟨f, h1, by omega, h3⟩
theorem nxU_ok {a : Sa} : ∀ n : Nat, nxU a n = -6 ∨ ∃ f : Nat, nxU a n = f ∧ f < n ∧ ¬ hdF a f < 0 ∧ urg a (hdF a f).toNat = 1
  | 0 => Or.inl rfl
  | n + 1 => by
    unfold nxU
    split
    · rename_i h
      exact Or.inr ⟨n, rfl, by omega, h.1, h.2.1⟩
    · rcases nxU_ok n with h1 | ⟨f, h1, h2, h3⟩
      · exact Or.inl h1
      · exact Or.inr ⟨f, h1, by omega, h3⟩
theorem nxt_ok {a : Sa} {N T : Int} (hI : Inv N T a) : (nxt a = -6 ∧ (∀ g : Nat, (g : Int) < a 2 → hdF a g < 0) ∧ nxU a (a 2).toNat < 0) ∨ ∃ f : Nat, nxt a = f ∧ (f : Int) < a 2 ∧ ¬ hdF a f < 0 := by
  have hT' := hI.1
  unfold TopOK at hT'
  unfold nxt
  rcases nxU_ok (a := a) (a 2).toNat with h | ⟨f, h1, h2, h3, h4⟩
  · rw [if_pos (by omega)]
    rcases nxL_ok hI (a 2).toNat (by omega) with ⟨h5, h6⟩ | ⟨f, h5, h6, h7⟩
    · exact Or.inl ⟨h5, fun g hg => h6 g (by omega), by omega⟩
    · exact Or.inr ⟨f, h5, by omega, h7⟩
  · rw [if_neg (by omega)]
    exact Or.inr ⟨f, h1, by omega, h3⟩
