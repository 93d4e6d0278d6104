theorem idX_eq {X : Sa} {f : Nat} {v : Int} (hv : X 1 = v) : idX X f v = idl X f := by
  unfold idX idl
  by_cases hE : idE X f
  · rw [@if_pos _ (Classical.propDecidable _) hE, @if_pos _ (Classical.propDecidable _) hE]
    unfold fgX
    have e12 : up1 (up1 X (17 + 18 * f + 5) (idV X f)) (17 + 18 * f + 5) 0 (17 + 18 * f + 12) = X (17 + 18 * f + 12) := by rw [up1_n (by omega), up1_n (by omega)]
    have e13 : up1 (up1 X (17 + 18 * f + 5) (idV X f)) (17 + 18 * f + 5) 0 (17 + 18 * f + 13) = X (17 + 18 * f + 13) := by rw [up1_n (by omega), up1_n (by omega)]
    have eK : idK' (up1 (up1 X (17 + 18 * f + 5) (idV X f)) (17 + 18 * f + 5) 0) f v = idK X f := by
      unfold idK' idK
      rw [e12, up1_n (by omega), up1_n (by omega), hv]
    rw [e12, e13, eK, hv]
    by_cases hl : v < X (17 + 18 * f + 12)
    · rw [if_pos hl, if_pos (by omega), show X (17 + 18 * f + 13) + (X (17 + 18 * f + 12) - (v + idK X f)) = X (17 + 18 * f + 13) + (X (17 + 18 * f + 12) - v - idK X f) by omega]
      exact up1_c (by omega)
    · rw [if_neg hl, if_neg (by omega)]
  · rw [@if_neg _ (Classical.propDecidable _) hE, @if_neg _ (Classical.propDecidable _) hE]
theorem Rl.idl1 {a X : Sa} (h : Rl true a X) {f : Nat} (hf : (f : Int) < a 2) (hf6 : f < 6) : Rl true (idl a f) (idl X f) := by
  have e : ∀ k, k < 18 → X (17 + 18 * f + k) = a (17 + 18 * f + k) := fun k hk => h.f hf (fk_t hk)
  have e1 : X 1 = a 1 := h.n 1 (by decide) (by decide)
  have eV : idV X f = idV a f := by unfold idV; rw [e 17 (by decide), e 5 (by decide)]
  have eE : idE X f ↔ idE a f := by unfold idE; rw [e 3 (by decide), e 4 (by decide), eV]
  have eK : idK X f = idK a f := by unfold idK; rw [e 4 (by decide), e 12 (by decide), e1]
  unfold idl
  by_cases hE : idE a f
  · rw [@if_pos _ (Classical.propDecidable _) hE, @if_pos _ (Classical.propDecidable _) (eE.mpr hE), eV, eK, e 12 (by decide), e 13 (by decide), e1]
    split
    · exact (((h.upF hf6 (by decide) _).upF hf6 (by decide) _).upF hf6 (by decide) _).upF hf6 (by decide) _
    · exact (h.upF hf6 (by decide) _).upF hf6 (by decide) _
  · rw [@if_neg _ (Classical.propDecidable _) hE, @if_neg _ (Classical.propDecidable _) (fun z => hE (eE.mp z)), eV]
    exact h.upF hf6 (by decide) _
theorem idl_LD {X : Sa} {f : Nat} (hf : f < 6) : idl X f 8356 = X 8356 := idl_n (by omega)
/-- a flow's fluid and lag -/
def lf1 (a : Sa) (f : Nat) (w : Int) : Sa := lg1 (fl1 a f w) f
def lfA (a : Sa) (w : Int) : Nat → Sa
  | 0 => a
  | n + 1 => lf1 (lfA a w n) n w
theorem lf1_n {a : Sa} {f k : Nat} {w : Int} (h : k < 17 + 18 * f + 14 ∨ 17 + 18 * f + 16 < k) : lf1 a f w k = a k := by
  unfold lf1 lg1
  rw [up1_n (by omega), fl1_n (by omega)]
theorem lsX_eq {X : Sa} {f : Nat} {w : Int} (h : 0 < X (17 + 18 * f + 14)) : lsX X f w = lf1 X f w := by
  unfold lsX lf1 lg1 lag
  rw [fl1_15, if_pos h, fl1_n (k := (17 + 18 * f + 16)) (by omega), fl1_n (k := (17 + 18 * f + 6)) (by omega)]
  unfold fl1
  rw [if_pos h]
theorem lf1_no {a : Sa} {f : Nat} {w : Int} (h : ¬ 0 < a (17 + 18 * f + 14)) (hl : a (17 + 18 * f + 15) - 720720 * a (17 + 18 * f + 6) ≤ a (17 + 18 * f + 16)) : lf1 a f w = a := by
  unfold lf1 fl1
  rw [if_neg h]
  unfold lg1 lag
  rw [if_neg (by omega)]
  exact up1_self rfl
theorem Rl.lfs {a X : Sa} (h : Rl true a X) {f : Nat} (hf : (f : Int) < a 2) (hf6 : f < 6) (w : Int) (hp : 0 < a (17 + 18 * f + 14)) : Rl true (lf1 a f w) (lf1 X f w) := by
  have e : ∀ k, k < 18 → X (17 + 18 * f + k) = a (17 + 18 * f + k) := fun k hk => h.f hf (fk_t hk)
  rw [← lsX_eq hp, ← lsX_eq (by rw [e 14 (by decide)]; exact hp)]
  have eQ : flQ X f w = flQ a f w := by unfold flQ; rw [e 0 (by decide), e 14 (by decide)]
  unfold lsX
  rw [eQ, e 14 (by decide), e 15 (by decide), e 16 (by decide), e 6 (by decide)]
  exact ((h.upF hf6 (by decide) _).upF hf6 (by decide) _).upF hf6 (by decide) _
theorem lfA_n {a : Sa} {k : Nat} {w : Int} : ∀ n, (∀ g, g < n → k < 17 + 18 * g + 14 ∨ 17 + 18 * g + 16 < k) → lfA a w n k = a k
  | 0, _ => rfl
  | n + 1, h => by
    show lf1 (lfA a w n) n w k = a k
    rw [lf1_n (h n (by omega))]
    exact lfA_n n (fun g hg => h g (by omega))
theorem lfA_k {a : Sa} {k : Nat} {w : Int} : ∀ n, (∀ g, g < n → ¬ k = 17 + 18 * g + 16) → lfA a w n k = flA a w n k
  | 0, _ => rfl
  | n + 1, h => by
    show lf1 (lfA a w n) n w k = fl1 (flA a w n) n w k
    have hh : ∀ j, (∀ g, g < n → ¬ j = 17 + 18 * g + 16) → lfA a w n j = flA a w n j := fun j hj => lfA_k n hj
    unfold lf1 lg1
    rw [up1_n (h n (by omega))]
    unfold fl1
    rw [hh (17 + 18 * n + 14) (fun g hg => by omega), hh (17 + 18 * n + 15) (fun g hg => by omega)]
    have hQ : flQ (lfA a w n) n w = flQ (flA a w n) n w := by
      unfold flQ
      rw [hh (17 + 18 * n + 14) (fun g hg => by omega), hh (17 + 18 * n + 0) (fun g hg => by omega)]
    rw [hQ]
    have hk := hh k (fun g hg => h g (by omega))
    split
    · exact up1_cj (up1_cj hk)
    · exact hk
theorem flA_g {a : Sa} {w : Int} {n g j : Nat} (hg : g < n) : flA a w (n + 1) (17 + 18 * g + j) = flA a w n (17 + 18 * g + j) ∨ 14 ≤ j := by
  by_cases h : 14 ≤ j
  · exact Or.inr h
  · left
    show fl1 (flA a w n) n w _ = _
    exact fl1_n (by omega)
theorem lfA_16 {a : Sa} {w : Int} : ∀ n g, g < n → lfA a w n (17 + 18 * g + 16) = if a (17 + 18 * g + 16) < lag (flA a w n) g then lag (flA a w n) g else a (17 + 18 * g + 16)
  | 0, g, h => absurd h (by omega)
  | n + 1, g, h => by
    show lf1 (lfA a w n) n w (17 + 18 * g + 16) = _
    by_cases e : g = n
    · subst e
      have hlg : lag (fl1 (lfA a w g) g w) g = lag (flA a w (g + 1)) g := by
        unfold lag
        have h1 := lfA_k (a := a) (w := w) (k := (17 + 18 * g + 15)) (g + 1) (fun z hz => by omega)
        have h2 := lfA_k (a := a) (w := w) (k := (17 + 18 * g + 6)) (g + 1) (fun z hz => by omega)
        rw [← h1, ← h2]
        show _ = lf1 (lfA a w g) g w _ - 720720 * lf1 (lfA a w g) g w _
        unfold lf1 lg1
        rw [up1_n (by omega), up1_n (by omega)]
      unfold lf1 lg1
      rw [up1_s, hlg, fl1_n (by omega), lfA_n g (fun z hz => by omega)]
    · have hlg : lag (flA a w (n + 1)) g = lag (flA a w n) g := by
        unfold lag
        rw [show flA a w (n + 1) (17 + 18 * g + 15) = flA a w n (17 + 18 * g + 15) from fl1_n (by omega), show flA a w (n + 1) (17 + 18 * g + 6) = flA a w n (17 + 18 * g + 6) from fl1_n (by omega)]
      rw [hlg, lf1_n (by omega)]
      exact lfA_16 n g (by omega)
theorem lfA_eq {a : Sa} {w : Int} (n : Nat) : lfA a w n = lgA (flA a w n) n := by
  funext k
  by_cases h : ∃ g, g < n ∧ k = (17 + 18 * g + 16)
  · obtain ⟨g, hg, rfl⟩ := h
    rw [lfA_16 n g hg, lgA_16 n g hg, flA_n n (fun z hz => by omega)]
  · have h2 : ∀ g, g < n → ¬ k = (17 + 18 * g + 16) := fun g hg e => h ⟨g, hg, e⟩
    rw [lfA_k n h2, lgA_n n h2]
theorem fsW_0 {a : Sa} (h : ∀ f : Nat, (f : Int) < a 2 → 1 ≤ a (17 + 18 * f + 0) ∧ a (17 + 18 * f + 0) ≤ 16) {n : Nat} (hn : (n : Int) ≤ a 2) (h0 : fsW a n = 0) : ∀ g, g < n → ¬ 0 < a (17 + 18 * g + 14) := by
  intro g hg hp
  have h1 := fsW_w h n hn g hg hp
  have h2 := h g (by omega)
  omega
theorem lfA_no {a : Sa} {w : Int} (hL : LagOK a) : ∀ n : Nat, (n : Int) ≤ a 2 → (∀ g, g < n → ¬ 0 < a (17 + 18 * g + 14)) → lfA a w n = a
  | 0, _, _ => rfl
  | n + 1, hn, h => by
    show lf1 (lfA a w n) n w = a
    rw [lfA_no hL n (by omega) (fun g hg => h g (by omega))]
    exact lf1_no (h n (by omega)) (hL n (by omega))
/-- the reference's row alone takes idle ticks, fluid and lags: a forecast does not see it -/
theorem Rl.idf {a X : Sa} (h : Rl false a X) {f : Nat} (hf6 : f < 6) : Rl false (idl a f) X := by
  unfold idl
  by_cases hE : idE a f
  · rw [@if_pos _ (Classical.propDecidable _) hE]
    split
    · exact (((h.lf hf6 (by decide) (by unfold fk; decide) _).lf hf6 (by decide) (by unfold fk; decide) _).lf hf6 (by decide) (by unfold fk; decide) _).lf hf6 (by decide) (by unfold fk; decide) _
    · exact (h.lf hf6 (by decide) (by unfold fk; decide) _).lf hf6 (by decide) (by unfold fk; decide) _
  · rw [@if_neg _ (Classical.propDecidable _) hE]
    exact h.lf hf6 (by decide) (by unfold fk; decide) _
theorem Rl.idAf {a X : Sa} (h : Rl false a X) : ∀ n, n ≤ 6 → Rl false (idA a n) X
  | 0, _ => h
  | n + 1, hn => (Rl.idAf h n (by omega)).idf (by omega)
theorem Rl.fl1f {a X : Sa} (h : Rl false a X) {f : Nat} (hf6 : f < 6) (w : Int) : Rl false (fl1 a f w) X := by
  unfold fl1
  split
  · exact (h.lf hf6 (by decide) (by unfold fk; decide) _).lf hf6 (by decide) (by unfold fk; decide) _
  · exact h
theorem Rl.flAf {a X : Sa} (h : Rl false a X) (w : Int) : ∀ n, n ≤ 6 → Rl false (flA a w n) X
  | 0, _ => h
  | n + 1, hn => (Rl.flAf h w n (by omega)).fl1f (by omega) w
theorem Rl.lgAf {a X : Sa} (h : Rl false a X) : ∀ n, n ≤ 6 → Rl false (lgA a n) X
  | 0, _ => h
  | n + 1, hn => (Rl.lgAf h n (by omega)).lf (by omega) (by decide) (by unfold fk; decide) _
theorem Rl.lgAb {a X : Sa} : ∀ n, n ≤ 6 → Rl false (lgA a n) X → Rl false a X
  | 0, _, h => h
  | n + 1, hn, h => by
    refine Rl.lgAb n (by omega) ?_
    have h2 := Rl.lf (f := n) (k := 16) h (by omega) (by decide) (by unfold fk; decide) (lgA a n (17 + 18 * n + 16))
    have e : up1 (lgA a (n + 1)) (17 + 18 * n + 16) (lgA a n (17 + 18 * n + 16)) = lgA a n := by
      show up1 (lg1 (lgA a n) n) _ _ = _
      unfold lg1
      rw [up1_u]
      exact up1_self rfl
    rw [e] at h2
    exact h2
/-- what a forecast compares, and the flows' numbers: all is compared -/
theorem Rl.full {a X : Sa} (h : Rl false a X) (e : ∀ f : Nat, (f : Int) < a 2 → ∀ k, k < 18 → X (17 + 18 * f + k) = a (17 + 18 * f + k)) : Rl true a X := ⟨h.1, fun f hf k hk => e f hf k hk.1, h.2.2⟩
