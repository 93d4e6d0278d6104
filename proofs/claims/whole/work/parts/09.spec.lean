abbrev Sa : Type := Nat → Int
/-- one row of longs at x -/
def rL (L : ML) (x : Nat) (a : Sa) : ML := up1 L x (fun k => lI (a k))
theorem rL_at {L : ML} {x k : Nat} {a : Sa} : rL L x a x k = lI (a k) := by unfold rL; rw [up1_s]
theorem rL_out {L : ML} {x y : Nat} {a : Sa} (h : y ≠ x) : rL L x a y = L y := by unfold rL; rw [up1_n h]
theorem rL_up {L : ML} {x k : Nat} {a : Sa} {v : Int} : up2 (rL L x a) x k (lI v) = rL L x (up1 a k v) := by
  funext y j
  by_cases hy : y = x
  · subst hy
    rw [rL_at, up2_row]
    by_cases hj : j = k
    · subst hj; rw [up1_s, up1_s]
    · rw [up1_n hj, up1_n hj, rL_at]
  · rw [up2_rown hy, rL_out hy, rL_out hy]
theorem rL_self {L : ML} {x : Nat} {a : Sa} (h : ∀ k, L x k = lI (a k)) : rL L x a = L := by
  funext y j
  by_cases hy : y = x
  · subst hy; rw [rL_at, h]
  · rw [rL_out hy]
theorem rL_twice {L : ML} {x : Nat} {a a' : Sa} : rL (rL L x a) x a' = rL L x a' := by
  funext y j
  by_cases hy : y = x
  · subst hy; rw [rL_at, rL_at]
  · rw [rL_out hy, rL_out hy, rL_out hy]
section ROW
variable {p : Program} {l : Launch} {e : Env} {R : Room} {s : State} {m : MethodId} {args : Array Value} {below : List Frame} {meth : Method} {c : Code} {cc : ByteArray} {nL : Nat} {own : String} {G : Gd} {base : Nat} {Q : State → Prop} {pc : Nat} {lo lo' : List (Nat × Value)} {st : List Value} {Y : MY} {I : MI} {L : ML} {cells slots : Nat}
theorem a_lald (C : Cx p s m args c cc nL own G base) {x N : Nat} {z : Int32} {v : Int} {a : Sa} (i : Nat) (hd : decode cc pc = .ok (.laload, 1)) (hA : Is base Y x (.inr (1, N))) (hi : Ix z i N) (hv : a i = v) (kk : Rn p l e R s m args below meth c nL G base Q (pc + 1) lo (.long (lI v) :: st) Y I (rL L x a) cells slots) : Rn p l e R s m args below meth c nL G base Q pc lo (.int z :: .ref x :: st) Y I (rL L x a) cells slots := by
  subst hv
  exact r_lald C i hd hA hi (by rw [rL_at]; exact kk)
theorem a_last (C : Cx p s m args c cc nL own G base) {x N : Nat} {z : Int32} {v : Int} {a : Sa} (i : Nat) (hd : decode cc pc = .ok (.lastore, 1)) (hA : Is base Y x (.inr (1, N))) (hi : Ix z i N) (kk : ∀ a', a' = up1 a i v → Rn p l e R s m args below meth c nL G base Q (pc + 1) lo st Y I (rL L x a') cells slots) : Rn p l e R s m args below meth c nL G base Q pc lo (.long (lI v) :: .int z :: .ref x :: st) Y I (rL L x a) cells slots := r_last C i hd hA hi (fun L' e => by rw [e, rL_up]; exact kk _ rfl)
end ROW
theorem sw_split {x lw : Int} {n : Nat} (h : i32 x) : ((iI x).toInt < lw ∨ lw + n - 1 < (iI x).toInt) ∨ ∃ j : Nat, j < n ∧ x = lw + j := by
  rw [iI_toInt h.1 h.2]
  by_cases h1 : x < lw
  · exact Or.inl (Or.inl h1)
  · by_cases h2 : lw + n - 1 < x
    · exact Or.inl (Or.inr h2)
    · exact Or.inr ⟨(x - lw).toNat, by omega, by omega⟩
/-- the reference: an object and six arrays behind it -/
def MLy (base : Nat) (Y : MY) (M : Nat) : Prop := (Is base Y M (.inl 6) ∧ Is base Y (M + 1) (.inr (1, 1826)) ∧ Is base Y (M + 2) (.inr (1, 1826)) ∧ Is base Y (M + 3) (.inr (1, 3652)) ∧ Is base Y (M + 4) (.inr (2, 2)) ∧ Is base Y (M + 5) (.inr (0, 160)) ∧ Is base Y (M + 6) (.inr (2, 120))) ∧ Y.2.2 M 0 = some (M + 1) ∧ Y.2.2 M 1 = some (M + 2) ∧ Y.2.2 M 2 = some (M + 3) ∧ Y.2.2 M 3 = some (M + 4) ∧ Y.2.2 M 6 = some (M + 5) ∧ Y.2.2 M 10 = some (M + 6)
abbrev b2 (c : Prop) [Decidable c] : Int := if c then 1 else 0
def old (a : Sa) : Nat := (a 7 - 120).toNat
/-- the first packet from p on, within n, that waits in the queue of f -/
def hdN (a : Sa) (f : Nat) : Nat → Nat → Nat
  | 0, p => p
  | n + 1, p => if a (125 + 11 * (p % 120) + 0) = f ∧ a (125 + 11 * (p % 120) + 4) ≤ 1 then p else hdN a f n (p + 1)
def hdF (a : Sa) (f : Nat) : Int := if a (17 + 18 * f + 17) = 0 then -6 else (hdN a f 120 (old a) : Nat)
