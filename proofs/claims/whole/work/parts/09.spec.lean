abbrev Sa : Type := Nat → Int
/-- one row of longs at x -/
def rL (L : ML) (x : Nat) (a : Sa) : ML := up1 L x (fun k => lI (a k))
theorem rL_at {L : ML} {x k : Nat} {a : Sa} : rL L x a x k = lI (a k) := by unfold rL; rw [up1_s]
theorem rL_out {L : ML} {x y : Nat} {a : Sa} (h : y ≠ x) : rL L x a y = L y := by unfold rL; rw [up1_n h]
theorem rL_up {L : ML} {x k : Nat} {a : Sa} {v : Int} : up2 (rL L x a) x k (lI v) = rL L x (up1 a k v) := by
  funext y j
  by_cases hy : y = x
  · subst hy
    rw [rL_at, up2_row]
    by_cases hj : j = k
    · subst hj; rw [up1_s, up1_s]
    · rw [up1_n hj, up1_n hj, rL_at]
  · rw [up2_rown hy, rL_out hy, rL_out hy]
theorem rL_self {L : ML} {x : Nat} {a : Sa} (h : ∀ k, L x k = lI (a k)) : rL L x a = L := by
  funext y j
  by_cases hy : y = x
  · subst hy; rw [rL_at, h]
  · rw [rL_out hy]
theorem rL_twice {L : ML} {x : Nat} {a a' : Sa} : rL (rL L x a) x a' = rL L x a' := by
  funext y j
  by_cases hy : y = x
  · subst hy; rw [rL_at, rL_at]
  · rw [rL_out hy, rL_out hy, rL_out hy]
section ROW
variable {p : Program} {l : Launch} {e : Env} {R : Room} {s : State} {m : MethodId} {args : Array Value} {below : List Frame} {meth : Method} {c : Code} {cc : ByteArray} {nL : Nat} {own : String} {G : Gd} {base : Nat} {Q : State → Prop} {pc : Nat} {lo lo' : List (Nat × Value)} {st : List Value} {Y : MY} {I : MI} {L : ML} {cells slots : Nat}
theorem a_lald (C : Cx p s m args c cc nL own G base) {x N : Nat} {z : Int32} {v : Int} {a : Sa} (i : Nat) (hd : decode cc pc = .ok (.laload, 1)) (hA : Is base Y x (.inr (1, N))) (hi : Ix z i N) (hv : a i = v) (kk : Rn p l e R s m args below meth c nL G base Q (pc + 1) lo (.long (lI v) :: st) Y I (rL L x a) cells slots) : Rn p l e R s m args below meth c nL G base Q pc lo (.int z :: .ref x :: st) Y I (rL L x a) cells slots := by
  subst hv
  exact r_lald C i hd hA hi (by rw [rL_at]; exact kk)
theorem a_last (C : Cx p s m args c cc nL own G base) {x N : Nat} {z : Int32} {v : Int} {a : Sa} (i : Nat) (hd : decode cc pc = .ok (.lastore, 1)) (hA : Is base Y x (.inr (1, N))) (hi : Ix z i N) (kk : ∀ a', a' = up1 a i v → Rn p l e R s m args below meth c nL G base Q (pc + 1) lo st Y I (rL L x a') cells slots) : Rn p l e R s m args below meth c nL G base Q pc lo (.long (lI v) :: .int z :: .ref x :: st) Y I (rL L x a) cells slots := r_last C i hd hA hi (fun L' e => by rw [e, rL_up]; exact kk _ rfl)
end ROW
theorem sw_split {x lw : Int} {n : Nat} (h : i32 x) : ((iI x).toInt < lw ∨ lw + n - 1 < (iI x).toInt) ∨ ∃ j : Nat, j < n ∧ x = lw + j := by
  rw [iI_toInt h.1 h.2]
  by_cases h1 : x < lw
  · exact Or.inl (Or.inl h1)
  · by_cases h2 : lw + n - 1 < x
    · exact Or.inl (Or.inr h2)
    · exact Or.inr ⟨(x - lw).toNat, by omega, by omega⟩
/-- the reference: an object and six arrays behind it -/
def MLy (base : Nat) (Y : MY) (M : Nat) : Prop := (Is base Y M (.inl 6) ∧ Is base Y (M + 1) (.inr (1, 1826)) ∧ Is base Y (M + 2) (.inr (1, 1826)) ∧ Is base Y (M + 3) (.inr (1, 3652)) ∧ Is base Y (M + 4) (.inr (2, 2)) ∧ Is base Y (M + 5) (.inr (0, 160)) ∧ Is base Y (M + 6) (.inr (2, 120))) ∧ Y.2.2 M 0 = some (M + 1) ∧ Y.2.2 M 1 = some (M + 2) ∧ Y.2.2 M 2 = some (M + 3) ∧ Y.2.2 M 3 = some (M + 4) ∧ Y.2.2 M 6 = some (M + 5) ∧ Y.2.2 M 10 = some (M + 6)
abbrev b2 (c : Prop) [Decidable c] : Int := if c then 1 else 0
def old (a : Sa) : Nat := (a 7 - 120).toNat
/-- the first packet from p on, within n, that waits in the queue of f -/
def hdN (a : Sa) (f : Nat) : Nat → Nat → Nat
  | 0, p => p
  | n + 1, p => if a (125 + 11 * (p % 120) + 0) = f ∧ a (125 + 11 * (p % 120) + 4) ≤ 1 then p else hdN a f n (p + 1)
def hdF (a : Sa) (f : Nat) : Int := if a (17 + 18 * f + 17) = 0 then -6 else (hdN a f 120 (old a) : Nat)
theorem b2_z {c : Prop} [Decidable c] : iI (b2 c) = 0 ∨ iI (b2 c) = 1 := by
  unfold b2
  split
  · exact Or.inr rfl
  · exact Or.inl rfl
theorem b2_1 {c : Prop} [Decidable c] (h : c) : b2 c = 1 := if_pos h
theorem b2_0 {c : Prop} [Decidable c] (h : ¬ c) : b2 c = 0 := if_neg h
theorem b2_i {c : Prop} [Decidable c] : -2147483648 ≤ b2 c ∧ b2 c < 2147483648 := by
  unfold b2
  split <;> omega
theorem b2_eq0 {c : Prop} [Decidable c] : b2 c = 0 ↔ ¬ c := by
  unfold b2
  split
  · constructor
    · intro h; omega
    · intro h; contradiction
  · constructor
    · intro _; assumption
    · intro _; rfl
theorem hdN_s (a : Sa) (f n p : Nat) : hdN a f (n + 1) p = if a (125 + 11 * (p % 120) + 0) = f ∧ a (125 + 11 * (p % 120) + 4) ≤ 1 then p else hdN a f n (p + 1) := rfl
theorem hdN_spec (a : Sa) (f : Nat) : ∀ (n p q : Nat), p ≤ q → q < p + n → (a (125 + 11 * (q % 120) + 0) = f ∧ a (125 + 11 * (q % 120) + 4) ≤ 1) → hdN a f n p ≤ q ∧ p ≤ hdN a f n p ∧ (a (125 + 11 * (hdN a f n p % 120) + 0) = f ∧ a (125 + 11 * (hdN a f n p % 120) + 4) ≤ 1)
  | 0, p, q, h1, h2, _ => absurd h2 (by omega)
  | n + 1, p, q, h1, h2, h3 => by
    unfold hdN
    by_cases h : a (125 + 11 * (p % 120) + 0) = f ∧ a (125 + 11 * (p % 120) + 4) ≤ 1
    · rw [if_pos h]
      exact ⟨h1, Nat.le_refl _, h⟩
    · rw [if_neg h]
      have hpq : p ≠ q := fun e => h (e ▸ h3)
      have := hdN_spec a f n (p + 1) q (by omega) (by omega) h3
      exact ⟨this.1, by omega, this.2.2⟩
/-- the bounds of the link's own numbers -/
def TopOK (N T : Int) (a : Sa) : Prop := (0 ≤ a 0 ∧ a 0 ≤ T ∧ T ≤ 1002000) ∧ (0 ≤ a 1 ∧ a 1 ≤ 1441440000 * a 7) ∧ (0 ≤ a 2 ∧ a 2 ≤ 6) ∧ (0 ≤ a 3 ∧ a 3 ≤ 50) ∧ (0 ≤ a 4 ∧ a 4 ≤ 50) ∧ (0 ≤ a 5 ∧ a 5 ≤ 1000) ∧ (0 ≤ a 6 ∧ a 6 ≤ 1) ∧ (0 ≤ a 7 ∧ a 7 ≤ N ∧ N ≤ 400000) ∧ (0 ≤ a 15 ∧ a 15 ≤ a 0)
def FlowOK (a : Sa) (f : Nat) : Prop := (1 ≤ a (17 + 18 * f + 0) ∧ a (17 + 18 * f + 0) ≤ 16) ∧ (1 ≤ a (17 + 18 * f + 1) ∧ a (17 + 18 * f + 1) ≤ 20) ∧ (0 ≤ a (17 + 18 * f + 2) ∧ a (17 + 18 * f + 2) ≤ 1000) ∧ (0 ≤ a (17 + 18 * f + 3) ∧ a (17 + 18 * f + 3) ≤ 1000) ∧ (0 ≤ a (17 + 18 * f + 4) ∧ a (17 + 18 * f + 4) ≤ 2) ∧ (0 ≤ a (17 + 18 * f + 5) ∧ a (17 + 18 * f + 5) ≤ a 0) ∧ (0 ≤ a (17 + 18 * f + 6) ∧ a (17 + 18 * f + 6) ≤ a 0) ∧ (0 ≤ a (17 + 18 * f + 9) ∧ a (17 + 18 * f + 9) ≤ a 0) ∧ (0 ≤ a (17 + 18 * f + 12) ∧ a (17 + 18 * f + 12) ≤ 1441440000 * a 7) ∧ (0 ≤ a (17 + 18 * f + 14) ∧ a (17 + 18 * f + 14) ≤ 1441440000 * a 7) ∧ (0 ≤ a (17 + 18 * f + 15) ∧ a (17 + 18 * f + 15) ≤ 720720 * a 0) ∧ (0 ≤ a (17 + 18 * f + 16) ∧ a (17 + 18 * f + 16) ≤ 720720 * a 0) ∧ (0 ≤ a (17 + 18 * f + 17) ∧ a (17 + 18 * f + 17) ≤ 20)
def PkOK (a : Sa) (p : Nat) : Prop := (0 ≤ a (125 + 11 * (p % 120) + 0) ∧ a (125 + 11 * (p % 120) + 0) < a 2) ∧ (1 ≤ a (125 + 11 * (p % 120) + 1) ∧ a (125 + 11 * (p % 120) + 1) ≤ 2000) ∧ (0 ≤ a (125 + 11 * (p % 120) + 2) ∧ a (125 + 11 * (p % 120) + 2) ≤ a 0) ∧ (-6 ≤ a (125 + 11 * (p % 120) + 3) ∧ a (125 + 11 * (p % 120) + 3) ≤ a 0 + 9999) ∧ (0 ≤ a (125 + 11 * (p % 120) + 4) ∧ a (125 + 11 * (p % 120) + 4) ≤ 4) ∧ (0 ≤ a (125 + 11 * (p % 120) + 5) ∧ a (125 + 11 * (p % 120) + 5) ≤ a (125 + 11 * (p % 120) + 1)) ∧ (a (125 + 11 * (p % 120) + 4) ≤ 1 → a (125 + 11 * (p % 120) + 5) < a (125 + 11 * (p % 120) + 1)) ∧ (0 ≤ a (125 + 11 * (p % 120) + 6) ∧ a (125 + 11 * (p % 120) + 6) ≤ a (125 + 11 * (p % 120) + 5)) ∧ (-6 ≤ a (125 + 11 * (p % 120) + 8) ∧ a (125 + 11 * (p % 120) + 8) ≤ a 0) ∧ (0 ≤ a (125 + 11 * (p % 120) + 9) ∧ a (125 + 11 * (p % 120) + 9) ≤ 1441440000 * p) ∧ (0 ≤ a (125 + 11 * (p % 120) + 10) ∧ a (125 + 11 * (p % 120) + 10) ≤ a 0)
/-- the packet of which a piece is being sent -/
def NowOK (a : Sa) : Prop := (0 ≤ a 12 ∧ a 12 ≤ 50) ∧ ((a 8 = -6 ∧ a 9 = 0 ∧ a 10 = 0 ∧ a 11 = 0) ∨ ∃ p : Nat, a 8 = p ∧ old a ≤ p ∧ (p : Int) < a 7 ∧ a (125 + 11 * (p % 120) + 4) = 1 ∧ 1 ≤ a 9 ∧ a (125 + 11 * (p % 120) + 5) + a 9 ≤ a (125 + 11 * (p % 120) + 1) ∧ 1 ≤ a 10 ∧ a 10 ≤ 2050 ∧ (a 11 = 0 ∨ a 11 = 1) ∧ ∃ f : Nat, a (125 + 11 * (p % 120) + 0) = f ∧ a (17 + 18 * f + 6) + a 9 ≤ a 0 + a 10)
def knw (a : Sa) : List Nat := List.range' (old a) ((a 7).toNat - old a)
def isQ (a : Sa) (f p : Nat) : Bool := decide (a (125 + 11 * (p % 120) + 0) = f ∧ a (125 + 11 * (p % 120) + 4) ≤ 1)
def Qs (a : Sa) (f : Nat) : List Nat := (knw a).filter (isQ a f)
def isS (a : Sa) (p : Nat) : Bool := decide (a (125 + 11 * (p % 120) + 4) = 2)
def Inv (N T : Int) (a : Sa) : Prop := TopOK N T a ∧ (∀ f : Nat, (f : Int) < a 2 → FlowOK a f ∧ a (17 + 18 * f + 17) = (Qs a f).length) ∧ (∀ p : Nat, old a ≤ p → (p : Int) < a 7 → PkOK a p) ∧ a 16 = ((knw a).filter (isS a)).length ∧ (0 ≤ a 1825 ∧ a 1825 ≤ 80) ∧ (∀ i : Nat, i < 80 → 0 ≤ a (1745 + i) ∧ a (1745 + i) ≤ 126)
/-- the lag of no flow is above the greatest that was noted -/
def LagOK (a : Sa) : Prop := ∀ f : Nat, (f : Int) < a 2 → a (17 + 18 * f + 15) - 720720 * a (17 + 18 * f + 6) ≤ a (17 + 18 * f + 16)
theorem knw_mem {a : Sa} {p : Nat} : p ∈ knw a ↔ old a ≤ p ∧ p < (a 7).toNat := by
  unfold knw
  rw [List.mem_range']
  constructor
  · rintro ⟨i, hi, rfl⟩; omega
  · rintro ⟨h1, h2⟩; exact ⟨p - old a, by omega, by omega⟩
theorem Qs_mem {a : Sa} {f p : Nat} : p ∈ Qs a f ↔ (old a ≤ p ∧ p < (a 7).toNat) ∧ (a (125 + 11 * (p % 120) + 0) = f ∧ a (125 + 11 * (p % 120) + 4) ≤ 1) := by
  unfold Qs
  rw [List.mem_filter, knw_mem]
  unfold isQ
  rw [decide_eq_true_iff]
/-- a queue that is not empty has a first packet -/
theorem hd_ex {a : Sa} {N T : Int} (hI : Inv N T a) {f : Nat} (hf : (f : Int) < a 2) (hq : ¬ a (17 + 18 * f + 17) = 0) : ∃ q : Nat, old a ≤ q ∧ (q : Int) < a 7 ∧ q < old a + 120 ∧ a (125 + 11 * (q % 120) + 0) = f ∧ a (125 + 11 * (q % 120) + 4) ≤ 1 := by
  have h := (hI.2.1 f hf).2
  have hne : Qs a f ≠ [] := by
    intro e
    rw [e] at h
    exact hq h
  obtain ⟨q, hq2⟩ := List.exists_mem_of_ne_nil _ hne
  have hm := Qs_mem.mp hq2
  have h7 := hI.1
  unfold TopOK at h7
  have ho : old a = (a 7 - 120).toNat := rfl
  exact ⟨q, hm.1.1, by omega, by omega, hm.2.1, hm.2.2⟩
