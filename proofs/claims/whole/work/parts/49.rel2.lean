theorem rcX_n {X : Sa} {r k : Nat} (h : ¬ k = 8 ∧ ¬ k = 9 ∧ ¬ k = 10 ∧ ¬ k = 11 ∧ ¬ k = 12 ∧ ¬ k = 14 ∧ ¬ k = 15 ∧ k < 3000) (h2 : k < 1445 + 5 * (r % 60) ∨ 1445 + 5 * (r % 60) + 5 ≤ k) : rcX X r k = X k := by
  unfold rcX
  rw [clX_n (by omega), up1_n (by omega), cpX_n (by omega) h2, up1_n (by omega), up1_n (by omega)]
theorem rcX_r {X : Sa} {r k : Nat} (hk : k < 5) : rcX X r (1445 + 5 * (r % 60) + k) = if k = 0 then X 8 else if k = 1 then X 3818 else if k = 2 then X 9 else if k = 3 then X 0 else X 11 := by
  have hm : r % 60 < 60 := Nat.mod_lt _ (by decide)
  unfold rcX
  rw [clX_n (by omega), up1_n (by omega)]
  unfold cpX jk
  match k, hk with
  | 0, _ =>
    rw [if_pos rfl, up1_n (by omega), up1_n (by omega), up1_n (by omega), up1_n (by omega), up1_n (by omega), up1_n (by omega), up1_s, up1_n (by omega), up1_n (by omega)]
  | 1, _ =>
    rw [if_neg (by omega), if_pos rfl, up1_n (by omega), up1_n (by omega), up1_n (by omega), up1_n (by omega), up1_n (by omega), up1_s, up1_n (by omega), up1_n (by omega)]
  | 2, _ =>
    rw [if_neg (by omega), if_neg (by omega), if_pos rfl, up1_n (by omega), up1_n (by omega), up1_n (by omega), up1_n (by omega), up1_s, up1_n (by omega), up1_n (by omega)]
  | 3, _ =>
    rw [if_neg (by omega), if_neg (by omega), if_neg (by omega), if_pos rfl, up1_n (by omega), up1_s, up1_s]
  | 4, _ =>
    rw [if_neg (by omega), if_neg (by omega), if_neg (by omega), if_neg (by omega), up1_s, up1_n (by omega), up1_n (by omega)]
theorem npA_r {a : Sa} {p r k : Nat} (hk : k < 5) : npA a p r (1445 + 5 * (r % 60) + k) = if k = 0 then (p : Int) else if k = 1 then a (125 + 11 * (p % 120) + 0) else if k = 2 then a 9 else if k = 3 then a 0 else a 11 := by
  unfold npA
  match k, hk with
  | 0, _ => rw [if_pos rfl, up1_n (by omega), up1_n (by omega), up1_n (by omega), up1_n (by omega), up1_n (by omega), up1_n (by omega), Nat.add_zero, up1_s]
  | 1, _ => rw [if_neg (by omega), if_pos rfl, up1_n (by omega), up1_n (by omega), up1_n (by omega), up1_n (by omega), up1_n (by omega), up1_s]
  | 2, _ => rw [if_neg (by omega), if_neg (by omega), if_pos rfl, up1_n (by omega), up1_n (by omega), up1_n (by omega), up1_n (by omega), up1_s]
  | 3, _ => rw [if_neg (by omega), if_neg (by omega), if_neg (by omega), if_pos rfl, up1_n (by omega), up1_n (by omega), up1_n (by omega), up1_s]
  | 4, _ => rw [if_neg (by omega), if_neg (by omega), if_neg (by omega), if_neg (by omega), up1_n (by omega), up1_n (by omega), up1_s]
theorem npA_n {a : Sa} {p r k : Nat} (h : ¬ k = 14 ∧ ¬ k = 15 ∧ (k < 1445 + 5 * (r % 60) ∨ 1445 + 5 * (r % 60) + 5 ≤ k)) : npA a p r k = a k := by
  unfold npA
  rw [up1_n (by omega), up1_n (by omega), up1_n (by omega), up1_n (by omega), up1_n (by omega), up1_n (by omega), up1_n (by omega)]
/-- the piece is noted on both sides -/
theorem Rl.rc {m : Bool} {a X : Sa} {p r : Nat} (h : Rl m a X) (h8 : a 8 = p) (hr : a 15 = r) (h6 : a 2 ≤ 6) (h20 : ∀ f : Nat, (f : Int) < a 2 → (Qs a f).length ≤ 20) : Rl m (up1 (up1 (up1 (up1 (npA a p r) 8 (-6)) 9 0) 10 0) 11 0) (rcX X r) := by
  have hm : r % 60 < 60 := Nat.mod_lt _ (by decide)
  have eA : ∀ k, (¬ k = 8 ∧ ¬ k = 9 ∧ ¬ k = 10 ∧ ¬ k = 11 ∧ ¬ k = 14 ∧ ¬ k = 15 ∧ (k < 1445 + 5 * (r % 60) ∨ 1445 + 5 * (r % 60) + 5 ≤ k)) → (up1 (up1 (up1 (up1 (npA a p r) 8 (-6)) 9 0) 10 0) 11 0) k = a k := by
    intro k hk
    rw [up1_n (by omega), up1_n (by omega), up1_n (by omega), up1_n (by omega), npA_n (by omega)]
  have g2 : (up1 (up1 (up1 (up1 (npA a p r) 8 (-6)) 9 0) 10 0) 11 0) 2 = a 2 := eA 2 (by omega)
  have g7 : (up1 (up1 (up1 (up1 (npA a p r) 8 (-6)) 9 0) 10 0) 11 0) 7 = a 7 := eA 7 (by omega)
  have g8 : (up1 (up1 (up1 (up1 (npA a p r) 8 (-6)) 9 0) 10 0) 11 0) 8 = -6 := by rw [up1_n (by omega), up1_n (by omega), up1_n (by omega), up1_s]
  have g9 : (up1 (up1 (up1 (up1 (npA a p r) 8 (-6)) 9 0) 10 0) 11 0) 9 = 0 := by rw [up1_n (by omega), up1_n (by omega), up1_s]
  have g10 : (up1 (up1 (up1 (up1 (npA a p r) 8 (-6)) 9 0) 10 0) 11 0) 10 = 0 := by rw [up1_n (by omega), up1_s]
  have g11 : (up1 (up1 (up1 (up1 (npA a p r) 8 (-6)) 9 0) 10 0) 11 0) 11 = 0 := by rw [up1_s]
  have g15 : (up1 (up1 (up1 (up1 (npA a p r) 8 (-6)) 9 0) 10 0) 11 0) 15 = a 15 + 1 := by
    rw [up1_n (by omega), up1_n (by omega), up1_n (by omega), up1_n (by omega)]
    unfold npA
    rw [up1_n (by omega), up1_s]
  have g14 : (up1 (up1 (up1 (up1 (npA a p r) 8 (-6)) 9 0) 10 0) 11 0) 14 = a 14 + a 12 := by
    rw [up1_n (by omega), up1_n (by omega), up1_n (by omega), up1_n (by omega)]
    unfold npA
    rw [up1_s]
  have hc := h.c h8
  have x8 : rcX X r 8 = -6 := by unfold rcX clX; rw [up1_n (by omega), up1_n (by omega), up1_n (by omega), up1_n (by omega), up1_n (by omega), up1_n (by omega), up1_s]
  have x9 : rcX X r 9 = 0 := by unfold rcX clX; rw [up1_n (by omega), up1_n (by omega), up1_n (by omega), up1_n (by omega), up1_s]
  have x10 : rcX X r 10 = 0 := by unfold rcX clX; rw [up1_n (by omega), up1_n (by omega), up1_s]
  have x11 : rcX X r 11 = 0 := by unfold rcX clX; rw [up1_s]
  have x15 : rcX X r 15 = X 15 + 1 := by unfold rcX; rw [clX_n (by omega), up1_s]
  have x14 : rcX X r 14 = X 14 + X 12 := by unfold rcX; rw [clX_n (by omega), up1_n (by omega), cpX_n (by omega) (by omega), up1_n (by omega), up1_s]
  refine ⟨fun k k1 k2 => ?_, fun f hf k hk => ?_, fun q p1 p2 => ?_, fun q r1 r2 k hk => ?_, fun k k1 k2 => ?_, fun f hf i q hi => ?_, fun q hp8 => ?_⟩
  · by_cases e8 : k = 8
    · rw [e8, x8, g8]
    by_cases e9 : k = 9
    · rw [e9, x9, g9]
    by_cases e10 : k = 10
    · rw [e10, x10, g10]
    by_cases e11 : k = 11
    · rw [e11, x11, g11]
    by_cases e14 : k = 14
    · rw [e14, x14, g14, h.n 14 (by decide) (by decide), hc.1]
    by_cases e15 : k = 15
    · rw [e15, x15, g15, h.n 15 (by decide) (by decide)]
    rw [rcX_n (by omega) (by omega), eA k (by omega)]
    exact h.n k k1 k2
  · rw [g2] at hf
    have := hk.1
    rw [rcX_n (by omega) (by omega), eA _ (by omega)]
    exact h.f hf hk
  · rw [old_eq g7] at p1
    rw [g7] at p2
    have hq : q % 120 < 120 := Nat.mod_lt _ (by decide)
    refine ⟨fun k hk => ?_, fun z => ?_⟩
    · rw [rcX_n (by omega) (by omega), eA _ (by omega)]
      exact h.p ⟨p1, p2⟩ hk
    · rw [eA _ (by omega)] at z
      rw [rcX_n (by omega) (by omega), eA _ (by omega)]
      exact h.p10 ⟨p1, p2⟩ z
  · rw [g15] at r1 r2
    by_cases e : q = r
    · subst e
      rw [up1_n (by omega), up1_n (by omega), up1_n (by omega), up1_n (by omega), rcX_r hk, npA_r hk, h.n 8 (by decide) (by decide), h.n 9 (by decide) (by decide), h.n 0 (by decide) (by decide), h.n 11 (by decide) (by decide), hc.2, h8]
    · have hne : q % 60 ≠ r % 60 := by omega
      have hq : q % 60 < 60 := Nat.mod_lt _ (by decide)
      rw [rcX_n (by omega) (by omega), eA _ (by omega)]
      exact h.r (by omega) (by omega) hk
  · rw [rcX_n (by omega) (by omega), eA _ (by omega)]
    exact h.t k k1 k2
  · rw [g2] at hf
    rw [Qs_cong g7 (fun q _ => isQ_eq (eA _ (by omega)) (eA _ (by omega)))] at hi
    have h1 := h20 f hf
    have h2 := (List.getElem?_eq_some_iff.mp hi).1
    rw [rcX_n (by omega) (by omega)]
    exact h.q hf hi
  · rw [g8] at hp8
    exact absurd hp8 (by omega)
/-- a delivery on both sides, once the condition is 3 -/
theorem Rl.dl {m : Bool} {b X : Sa} {p f : Nat} (h : Rl m (up1 b (125 + 11 * (p % 120) + 4) 3) (up1 X (125 + 11 * (p % 120) + 4) 3)) (hf : f < 6) (e0 : X 0 = b 0) (e2 : X (125 + 11 * (p % 120) + 2) = b (125 + 11 * (p % 120) + 2)) (e3 : X (125 + 11 * (p % 120) + 3) = b (125 + 11 * (p % 120) + 3)) (e7 : X (17 + 18 * f + 7) = b (17 + 18 * f + 7)) (e8 : X (17 + 18 * f + 8) = b (17 + 18 * f + 8)) (e9 : X (17 + 18 * f + 9) = b (17 + 18 * f + 9)) (e10 : X (17 + 18 * f + 10) = b (17 + 18 * f + 10)) : Rl m (dlP b f p) (dlP X f p) := by
  unfold dlP
  rw [e0, e2, e3, e7, e8, e9, e10]
  exact ((((h.upP (by decide) _).upF hf (by decide) _).upF hf (by decide) _).upF hf (by decide) _).upF hf (by decide) _
theorem dlP_LD {X : Sa} {f p : Nat} (hf : f < 6) : dlP X f p 8356 = X 8356 := dlP_n (by omega)
