/-- the numbers of a flow that are compared; in a forecast (m = false) some are not -/
def fk (m : Bool) (k : Nat) : Prop := k < 18 ∧ (m = true ∨ (k ≠ 5 ∧ (k < 12 ∨ k = 17)))
/-- the class's row X says what the reference's row a says, as far as it is known -/
def Rl (m : Bool) (a X : Sa) : Prop :=
  (∀ k, k < 17 → k ≠ 12 → X k = a k)
  ∧ (∀ f : Nat, (f : Int) < a 2 → ∀ k, fk m k → X (17 + 18 * f + k) = a (17 + 18 * f + k))
  ∧ (∀ p : Nat, old a ≤ p → (p : Int) < a 7 → (∀ k, k < 10 → X (125 + 11 * (p % 120) + k) = a (125 + 11 * (p % 120) + k)) ∧ (a (125 + 11 * (p % 120) + 4) = 2 → X (125 + 11 * (p % 120) + 10) = a (125 + 11 * (p % 120) + 10)))
  ∧ (∀ r : Nat, a 15 - 60 ≤ r → (r : Int) < a 15 → ∀ k, k < 5 → X (1445 + 5 * (r % 60) + k) = a (1445 + 5 * (r % 60) + k))
  ∧ (∀ k, 1745 ≤ k → k ≤ 1825 → X k = a k)
  ∧ (∀ f : Nat, (f : Int) < a 2 → ∀ i q : Nat, (Qs a f)[i]? = some q → X (2000 + 20 * f + i) = q)
  ∧ (∀ p : Nat, a 8 = p → X 12 = a 12 ∧ X 3818 = a (125 + 11 * (p % 120) + 0))
theorem Rl.n {m : Bool} {a X : Sa} (h : Rl m a X) (k : Nat) (h1 : k < 17) (h2 : k ≠ 12) : X k = a k := h.1 k h1 h2
theorem Rl.f {m : Bool} {a X : Sa} (h : Rl m a X) {f : Nat} (hf : (f : Int) < a 2) {k : Nat} (hk : fk m k) : X (17 + 18 * f + k) = a (17 + 18 * f + k) := h.2.1 f hf k hk
theorem Rl.p {m : Bool} {a X : Sa} (h : Rl m a X) {p : Nat} (hp : old a ≤ p ∧ (p : Int) < a 7) {k : Nat} (hk : k < 10) : X (125 + 11 * (p % 120) + k) = a (125 + 11 * (p % 120) + k) := (h.2.2.1 p hp.1 hp.2).1 k hk
theorem Rl.p10 {m : Bool} {a X : Sa} (h : Rl m a X) {p : Nat} (hp : old a ≤ p ∧ (p : Int) < a 7) (h4 : a (125 + 11 * (p % 120) + 4) = 2) : X (125 + 11 * (p % 120) + 10) = a (125 + 11 * (p % 120) + 10) := (h.2.2.1 p hp.1 hp.2).2 h4
theorem Rl.r {m : Bool} {a X : Sa} (h : Rl m a X) {r : Nat} (h1 : a 15 - 60 ≤ r) (h2 : (r : Int) < a 15) {k : Nat} (hk : k < 5) : X (1445 + 5 * (r % 60) + k) = a (1445 + 5 * (r % 60) + k) := h.2.2.2.1 r h1 h2 k hk
theorem Rl.t {m : Bool} {a X : Sa} (h : Rl m a X) (k : Nat) (h1 : 1745 ≤ k) (h2 : k ≤ 1825) : X k = a k := h.2.2.2.2.1 k h1 h2
theorem Rl.q {m : Bool} {a X : Sa} (h : Rl m a X) {f : Nat} (hf : (f : Int) < a 2) {i q : Nat} (hi : (Qs a f)[i]? = some q) : X (2000 + 20 * f + i) = q := h.2.2.2.2.2.1 f hf i q hi
theorem Rl.c {m : Bool} {a X : Sa} (h : Rl m a X) {p : Nat} (h8 : a 8 = p) : X 12 = a 12 ∧ X 3818 = a (125 + 11 * (p % 120) + 0) := h.2.2.2.2.2.2 p h8
theorem fk_y {m : Bool} {k : Nat} (h : k < 18) (h2 : k ≠ 5 ∧ (k < 12 ∨ k = 17)) : fk m k := ⟨h, Or.inr h2⟩
theorem fk_t {k : Nat} (h : k < 18) : fk true k := ⟨h, Or.inl rfl⟩
/-- a full comparison is one of a forecast too -/
theorem Rl.fc {m : Bool} {a X : Sa} (h : Rl true a X) : Rl m a X := ⟨h.1, fun f hf k hk => h.2.1 f hf k (fk_t hk.1), h.2.2⟩
theorem Rl.ff {m : Bool} {a X : Sa} (h : Rl m a X) : Rl false a X := ⟨h.1, fun f hf k hk => h.2.1 f hf k ⟨hk.1, by rcases hk.2 with h | h; exact absurd h (by decide); exact Or.inr h⟩, h.2.2⟩
/-- both rows change alike, at a key on which nothing else hangs -/
theorem Rl.up {m : Bool} {a X : Sa} (h : Rl m a X) {k : Nat} (v : Int) (hk : k ≠ 2 ∧ k ≠ 7 ∧ k ≠ 8 ∧ k ≠ 15 ∧ k < 1826) (hp : ∀ q, q < 120 → k ≠ 125 + 11 * q + 0 ∧ k ≠ 125 + 11 * q + 4) : Rl m (up1 a k v) (up1 X k v) := by
  have h2 : up1 a k v 2 = a 2 := up1_n (by omega)
  have h7 : up1 a k v 7 = a 7 := up1_n (by omega)
  have h8 : up1 a k v 8 = a 8 := up1_n (by omega)
  have h15 : up1 a k v 15 = a 15 := up1_n (by omega)
  have e0 : ∀ p : Nat, up1 a k v (125 + 11 * (p % 120) + 0) = a (125 + 11 * (p % 120) + 0) := fun p => up1_n (Ne.symm (hp (p % 120) (Nat.mod_lt _ (by decide))).1)
  have e4 : ∀ p : Nat, up1 a k v (125 + 11 * (p % 120) + 4) = a (125 + 11 * (p % 120) + 4) := fun p => up1_n (Ne.symm (hp (p % 120) (Nat.mod_lt _ (by decide))).2)
  have ee : ∀ j, (X j = a j) → up1 X k v j = up1 a k v j := by
    intro j hj
    by_cases e : j = k
    · subst e; rw [up1_s, up1_s]
    · rw [up1_n e, up1_n e, hj]
  refine ⟨fun j j1 j2 => ee j (h.1 j j1 j2), fun f hf j hj => ee _ (h.2.1 f (by rw [h2] at hf; exact hf) j hj), fun p p1 p2 => ?_, fun r r1 r2 j hj => ee _ (h.2.2.2.1 r (by rw [h15] at r1; exact r1) (by rw [h15] at r2; exact r2) j hj), fun j j1 j2 => ee j (h.2.2.2.2.1 j j1 j2), fun f hf i q hq => ?_, fun p hp8 => ?_⟩
  · rw [old_eq h7] at p1
    rw [h7] at p2
    refine ⟨fun j hj => ee _ ((h.2.2.1 p p1 p2).1 j hj), fun z => ?_⟩
    rw [e4] at z
    exact ee _ ((h.2.2.1 p p1 p2).2 z)
  · rw [h2] at hf
    rw [Qs_cong h7 (fun q _ => isQ_eq (e0 q) (e4 q))] at hq
    rw [up1_n (by omega)]
    exact h.2.2.2.2.2.1 f hf i q hq
  · rw [h8] at hp8
    have hc := h.2.2.2.2.2.2 p hp8
    exact ⟨ee _ hc.1, by rw [up1_n (by omega), e0]; exact hc.2⟩
theorem Rl.upN {m : Bool} {a X : Sa} (h : Rl m a X) (k : Nat) (v : Int) (hk : k < 17) (h2 : k ≠ 2 ∧ k ≠ 7 ∧ k ≠ 8 ∧ k ≠ 15) : Rl m (up1 a k v) (up1 X k v) := h.up v (by omega) (fun q _ => by omega)
theorem Rl.upF {m : Bool} {a X : Sa} (h : Rl m a X) {f : Nat} (hf : f < 6) {k : Nat} (hk : k < 18) (v : Int) : Rl m (up1 a (17 + 18 * f + k) v) (up1 X (17 + 18 * f + k) v) := h.up v (by omega) (fun q _ => by omega)
theorem Rl.upP {m : Bool} {a X : Sa} (h : Rl m a X) {p : Nat} {k : Nat} (hk : k < 11 ∧ k ≠ 0 ∧ k ≠ 4) (v : Int) : Rl m (up1 a (125 + 11 * (p % 120) + k) v) (up1 X (125 + 11 * (p % 120) + k) v) := h.up v (by omega) (fun q _ => by omega)
theorem Rl.upT {m : Bool} {a X : Sa} (h : Rl m a X) (k : Nat) (hk : 1745 ≤ k ∧ k ≤ 1825) (v : Int) : Rl m (up1 a k v) (up1 X k v) := h.up v (by omega) (fun q _ => by omega)
/-- the row of the class alone changes, where nothing is compared -/
theorem Rl.rt {m : Bool} {a X : Sa} (h : Rl m a X) (k : Nat) (v : Int) (hk : 2200 ≤ k ∧ k ≠ 3818) (h6 : a 2 ≤ 6) (h20 : ∀ f : Nat, (f : Int) < a 2 → (Qs a f).length ≤ 20) : Rl m a (up1 X k v) := by
  have e : ∀ j, j ≠ k → up1 X k v j = X j := fun j hj => up1_n hj
  refine ⟨fun j j1 j2 => by rw [e _ (by omega)]; exact h.1 j j1 j2, fun f hf j hj => ?_, fun p p1 p2 => ⟨fun j hj => by rw [e _ (by omega)]; exact (h.2.2.1 p p1 p2).1 j hj, fun z => by rw [e _ (by omega)]; exact (h.2.2.1 p p1 p2).2 z⟩, fun r r1 r2 j hj => by rw [e _ (by omega)]; exact h.2.2.2.1 r r1 r2 j hj, fun j j1 j2 => by rw [e _ (by omega)]; exact h.2.2.2.2.1 j j1 j2, fun f hf i q hq => ?_, fun p hp => ?_⟩
  · have := hj.1
    rw [e _ (by omega)]; exact h.2.1 f hf j hj
  · have h1 := h20 f hf
    have h2 := (List.getElem?_eq_some_iff.mp hq).1
    rw [e _ (by omega)]
    exact h.2.2.2.2.2.1 f hf i q hq
  · rw [e _ (by omega), e _ (by omega)]
    exact h.2.2.2.2.2.2 p hp
theorem Inv.q20 {a : Sa} {N T : Int} (hI : Inv N T a) : ∀ f : Nat, (f : Int) < a 2 → (Qs a f).length ≤ 20 := by
  intro f hf
  have h1 := (hI.2.1 f hf).2
  have h2 := (hI.2.1 f hf).1
  unfold FlowOK at h2
  omega
theorem Inv.f6 {a : Sa} {N T : Int} (hI : Inv N T a) {f : Nat} (hf : (f : Int) < a 2) : f < 6 := by
  have h := hI.1
  unfold TopOK at h
  omega
/-- the row of the reference alone changes, at a number of a flow that a forecast does not compare -/
theorem Rl.lf {a X : Sa} (h : Rl false a X) {f k : Nat} (hf : f < 6) (hk : k < 18) (hn : ¬ fk false k) (v : Int) : Rl false (up1 a (17 + 18 * f + k) v) X := by
  have h2 : up1 a (17 + 18 * f + k) v 2 = a 2 := up1_n (by omega)
  have h7 : up1 a (17 + 18 * f + k) v 7 = a 7 := up1_n (by omega)
  have h8 : up1 a (17 + 18 * f + k) v 8 = a 8 := up1_n (by omega)
  have h15 : up1 a (17 + 18 * f + k) v 15 = a 15 := up1_n (by omega)
  have ep : ∀ p j : Nat, up1 a (17 + 18 * f + k) v (125 + 11 * (p % 120) + j) = a (125 + 11 * (p % 120) + j) := fun p j => up1_n (by omega)
  refine ⟨fun j j1 j2 => by rw [up1_n (by omega)]; exact h.1 j j1 j2, fun g hg j hj => ?_, fun p p1 p2 => ?_, fun r r1 r2 j hj => by rw [up1_n (by omega)]; exact h.2.2.2.1 r (by rw [h15] at r1; exact r1) (by rw [h15] at r2; exact r2) j hj, fun j j1 j2 => by rw [up1_n (by omega)]; exact h.2.2.2.2.1 j j1 j2, fun g hg i q hq => ?_, fun p hp8 => ?_⟩
  · rw [h2] at hg
    have hj2 := hj.1
    by_cases e : g = f ∧ j = k
    · exact absurd (e.2 ▸ hj) hn
    · rw [up1_n (by omega)]
      exact h.2.1 g hg j hj
  · rw [old_eq h7] at p1
    rw [h7] at p2
    exact ⟨fun j hj => by rw [ep]; exact (h.2.2.1 p p1 p2).1 j hj, fun z => by rw [ep] at z; rw [ep]; exact (h.2.2.1 p p1 p2).2 z⟩
  · rw [h2] at hg
    rw [Qs_cong h7 (fun q _ => isQ_eq (ep q 0) (ep q 4))] at hq
    exact h.2.2.2.2.2.1 g hg i q hq
  · rw [h8] at hp8
    rw [up1_n (by omega), ep]
    exact h.2.2.2.2.2.2 p hp8
/-- a packet's condition changes, and it stays in its queue or out of it -/
theorem Rl.up4 {m : Bool} {a X : Sa} (h : Rl m a X) {p : Nat} {v : Int} (h70 : 0 ≤ a 7) (hk : old a ≤ p ∧ (p : Int) < a 7) (hq : v ≤ 1 ↔ a (125 + 11 * (p % 120) + 4) ≤ 1) (h10 : v = 2 → X (125 + 11 * (p % 120) + 10) = a (125 + 11 * (p % 120) + 10)) : Rl m (up1 a (125 + 11 * (p % 120) + 4) v) (up1 X (125 + 11 * (p % 120) + 4) v) := by
  have h2 : up1 a (125 + 11 * (p % 120) + 4) v 2 = a 2 := up1_n (by omega)
  have h7 : up1 a (125 + 11 * (p % 120) + 4) v 7 = a 7 := up1_n (by omega)
  have h8 : up1 a (125 + 11 * (p % 120) + 4) v 8 = a 8 := up1_n (by omega)
  have h15 : up1 a (125 + 11 * (p % 120) + 4) v 15 = a 15 := up1_n (by omega)
  have ee : ∀ j, (X j = a j) → up1 X (125 + 11 * (p % 120) + 4) v j = up1 a (125 + 11 * (p % 120) + 4) v j := by
    intro j hj
    by_cases e : j = 125 + 11 * (p % 120) + 4
    · subst e; rw [up1_s, up1_s]
    · rw [up1_n e, up1_n e, hj]
  refine ⟨fun j j1 j2 => ee j (h.1 j j1 j2), fun f hf j hj => ee _ (h.2.1 f (by rw [h2] at hf; exact hf) j hj), fun q p1 p2 => ?_, fun r r1 r2 j hj => ee _ (h.2.2.2.1 r (by rw [h15] at r1; exact r1) (by rw [h15] at r2; exact r2) j hj), fun j j1 j2 => ee j (h.2.2.2.2.1 j j1 j2), fun f hf i q hi => ?_, fun q hp8 => ?_⟩
  · rw [old_eq h7] at p1
    rw [h7] at p2
    refine ⟨fun j hj => ee _ ((h.2.2.1 q p1 p2).1 j hj), fun z => ?_⟩
    by_cases e : q % 120 = p % 120
    · rw [e] at z ⊢
      rw [up1_s] at z
      exact ee _ (h10 z)
    · rw [up1_n (by omega)] at z
      exact ee _ ((h.2.2.1 q p1 p2).2 z)
  · rw [h2] at hf
    have hQ : Qs (up1 a (125 + 11 * (p % 120) + 4) v) f = Qs a f := by
      refine Qs_cong h7 (fun q _ => ?_)
      by_cases e : q % 120 = p % 120
      · unfold isQ
        rw [e, up1_s, up1_n (by omega)]
        exact decide_eq_decide.mpr ⟨fun z => ⟨z.1, hq.mp z.2⟩, fun z => ⟨z.1, hq.mpr z.2⟩⟩
      · exact isQ_eq (up1_n (by omega)) (up1_n (by omega))
    rw [hQ] at hi
    have h1 : X (2000 + 20 * f + i) = q := h.2.2.2.2.2.1 f hf i q hi
    rw [up1_n (by omega)]
    exact h1
  · rw [h8] at hp8
    have hc := h.2.2.2.2.2.2 q hp8
    rw [up1_n (by omega), up1_n (by omega), up1_n (by omega), up1_n (by omega)]
    exact hc
/-- packet p is out of the queue of flow f, and nothing else has changed in the class's row but the number of the queue -/
def Lvq (X X' : Sa) (f : Nat) (l : List Nat) (p : Nat) : Prop := (∀ k, (k < 2000 + 20 * f ∨ 2000 + 20 * f + 20 ≤ k) → k ≠ 17 + 18 * f + 17 → X' k = X k) ∧ X' (17 + 18 * f + 17) = (l.filter (fun q => decide (q ≠ p))).length ∧ ∀ i q : Nat, (l.filter (fun q => decide (q ≠ p)))[i]? = some q → X' (2000 + 20 * f + i) = q
theorem Qs_off {a a' : Sa} {p f g : Nat} (h7 : a' 7 = a 7) (h70 : 0 ≤ a 7) (hk : old a ≤ p ∧ (p : Int) < a 7) (hf : a (125 + 11 * (p % 120) + 0) = f) (hv : ¬ a' (125 + 11 * (p % 120) + 4) ≤ 1) (e : ∀ q, old a ≤ q → (q : Int) < a 7 → q ≠ p → a' (125 + 11 * (q % 120) + 0) = a (125 + 11 * (q % 120) + 0) ∧ a' (125 + 11 * (q % 120) + 4) = a (125 + 11 * (q % 120) + 4)) : Qs a' g = if g = f then (Qs a g).filter (fun q => decide (q ≠ p)) else Qs a g := by
  have hflt : Qs a' g = (Qs a g).filter (fun q => decide (q ≠ p)) := by
    unfold Qs
    rw [knw_eq h7]
    refine flt_off (isQ_f hv) (fun q hq hne => ?_)
    have hm := (knw_m h70).mp hq
    have h2 := e q hm.1 hm.2 hne
    exact isQ_eq h2.1 h2.2
  by_cases hg : g = f
  · rw [if_pos hg]; exact hflt
  · rw [if_neg hg, hflt]
    refine List.filter_eq_self.mpr (fun q hq => ?_)
    rw [decide_eq_true_iff]
    intro z
    subst z
    have := (Qs_mem.mp hq).2.1
    omega
/-- packet p leaves its queue: its condition becomes v, the number of the queue falls -/
theorem Rl.lv {m : Bool} {a X X1 : Sa} (h : Rl m a X) {p f : Nat} {v : Int} (h70 : 0 ≤ a 7) (h2 : a 2 ≤ 6) (hk : old a ≤ p ∧ (p : Int) < a 7) (hf : a (125 + 11 * (p % 120) + 0) = f) (hf2 : (f : Int) < a 2) (h4 : a (125 + 11 * (p % 120) + 4) ≤ 1) (h17 : a (17 + 18 * f + 17) = (Qs a f).length) (hL : ∀ g : Nat, (g : Int) < a 2 → (Qs a g).length ≤ 20) (hv : 1 < v) (h10 : v = 2 → X (125 + 11 * (p % 120) + 10) = a (125 + 11 * (p % 120) + 10)) (hX : Lvq X X1 f (Qs a f) p) : Rl m (up1 (up1 a (17 + 18 * f + 17) (a (17 + 18 * f + 17) - 1)) (125 + 11 * (p % 120) + 4) v) (up1 X1 (125 + 11 * (p % 120) + 4) v) := by
  obtain ⟨x1, x2, x3⟩ := hX
  have hl : (((Qs a f).filter (fun q => decide (q ≠ p))).length : Int) = a (17 + 18 * f + 17) - 1 := by
    have := len_off (l := Qs a f) (List.Pairwise.filter _ (knw_nd a)) (p := p) (Qs_mem.mpr ⟨⟨hk.1, by omega⟩, hf, h4⟩)
    omega
  have f6 : f < 6 := by omega
  have g2 : up1 (up1 a (17 + 18 * f + 17) (a (17 + 18 * f + 17) - 1)) (125 + 11 * (p % 120) + 4) v 2 = a 2 := by rw [up1_n (by omega), up1_n (by omega)]
  have g7 : up1 (up1 a (17 + 18 * f + 17) (a (17 + 18 * f + 17) - 1)) (125 + 11 * (p % 120) + 4) v 7 = a 7 := by rw [up1_n (by omega), up1_n (by omega)]
  have g8 : up1 (up1 a (17 + 18 * f + 17) (a (17 + 18 * f + 17) - 1)) (125 + 11 * (p % 120) + 4) v 8 = a 8 := by rw [up1_n (by omega), up1_n (by omega)]
  have g15 : up1 (up1 a (17 + 18 * f + 17) (a (17 + 18 * f + 17) - 1)) (125 + 11 * (p % 120) + 4) v 15 = a 15 := by rw [up1_n (by omega), up1_n (by omega)]
  have ee : ∀ j, j < 1826 → (X j = a j) → up1 X1 (125 + 11 * (p % 120) + 4) v j = up1 (up1 a (17 + 18 * f + 17) (a (17 + 18 * f + 17) - 1)) (125 + 11 * (p % 120) + 4) v j := by
    intro j hj he
    by_cases e : j = 125 + 11 * (p % 120) + 4
    · subst e; rw [up1_s, up1_s]
    · rw [up1_n e, up1_n e]
      by_cases e2 : j = 17 + 18 * f + 17
      · subst e2; rw [up1_s, x2, hl]
      · rw [up1_n e2, x1 j (by omega) e2, he]
  refine ⟨fun j j1 j2 => ee j (by omega) (h.1 j j1 j2), fun g hg j hj => ?_, fun q p1 p2 => ?_, fun r r1 r2 j hj => ee _ (by omega) (h.2.2.2.1 r (by rw [g15] at r1; exact r1) (by rw [g15] at r2; exact r2) j hj), fun j j1 j2 => ee j (by omega) (h.2.2.2.2.1 j j1 j2), fun g hg i q hi => ?_, fun q hp8 => ?_⟩
  · rw [g2] at hg
    have := hj.1
    exact ee _ (by omega) (h.2.1 g hg j hj)
  · rw [old_eq g7] at p1
    rw [g7] at p2
    refine ⟨fun j hj => ee _ (by omega) ((h.2.2.1 q p1 p2).1 j hj), fun z => ?_⟩
    by_cases e : q % 120 = p % 120
    · rw [e] at z ⊢
      rw [up1_s] at z
      exact ee _ (by omega) (h10 z)
    · rw [up1_n (by omega), up1_n (by omega)] at z
      exact ee _ (by omega) ((h.2.2.1 q p1 p2).2 z)
  · rw [g2] at hg
    rw [Qs_off g7 h70 hk hf (by rw [up1_s]; omega) (fun q q1 q2 hne => by
      have := win_ne (a := a) ⟨q1, q2⟩ hk hne
      rw [up1_n (by omega), up1_n (by omega), up1_n (by omega), up1_n (by omega)]
      exact ⟨rfl, rfl⟩) (g := g)] at hi
    rw [up1_n (by omega)]
    by_cases e : g = f
    · rw [if_pos e] at hi
      subst e
      exact x3 i q hi
    · rw [if_neg e] at hi
      have hLg := hL g hg
      have hil := (List.getElem?_eq_some_iff.mp hi).1
      rw [x1 _ (by omega) (by omega)]
      exact h.2.2.2.2.2.1 g hg i q hi
  · rw [g8] at hp8
    have hc := h.2.2.2.2.2.2 q hp8
    rw [up1_n (by omega), up1_n (by omega), up1_n (by omega), up1_n (by omega), up1_n (by omega), up1_n (by omega), x1 _ (by omega) (by omega), x1 _ (by omega) (by omega)]
    exact hc
