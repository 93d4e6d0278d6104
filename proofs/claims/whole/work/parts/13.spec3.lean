def dlP (a : Sa) (f p : Nat) : Sa := (up1 (up1 (up1 (up1 (up1 (up1 a (125 + 11 * (p % 120) + 4) 3) (125 + 11 * (p % 120) + 8) (a 0)) (17 + 18 * f + 7) (a (17 + 18 * f + 7) + 1)) (17 + 18 * f + 8) (a (17 + 18 * f + 8) + (if ¬ a (125 + 11 * (p % 120) + 3) = -6 ∧ a (125 + 11 * (p % 120) + 3) < a 0 then 1 else 0))) (17 + 18 * f + 9) (if a (17 + 18 * f + 9) < a 0 - a (125 + 11 * (p % 120) + 2) then a 0 - a (125 + 11 * (p % 120) + 2) else a (17 + 18 * f + 9))) (17 + 18 * f + 10) (a (17 + 18 * f + 10) + (a 0 - a (125 + 11 * (p % 120) + 2))))
/-- packet p is delivered now -/
def dlv (a : Sa) (p : Nat) : Sa := dlP a (flP a p) p
def fdN (z : Int) (p : Nat) : Int := if z < 0 ∨ (p : Int) < z then p else z
def npA (a : Sa) (p r : Nat) : Sa := (up1 (up1 (up1 (up1 (up1 (up1 (up1 a (1445 + 5 * (r % 60)) p) (1445 + 5 * (r % 60) + 1) (a (125 + 11 * (p % 120) + 0))) (1445 + 5 * (r % 60) + 2) (a 9)) (1445 + 5 * (r % 60) + 3) (a 0)) (1445 + 5 * (r % 60) + 4) (a 11)) 15 (a 15 + 1)) 14 (a 14 + a 12))
/-- the piece that was being sent of p is noted -/
def ntp (a : Sa) (p : Nat) : Sa := npA a p (a 15).toNat
theorem ntp_n {a : Sa} {p k : Nat} (h : ¬ k = 14 ∧ ¬ k = 15 ∧ (k < 1445 ∨ 1745 ≤ k)) : ntp a p k = a k := by
  unfold ntp npA
  rw [up1_n (by omega), up1_n (by omega), up1_n (by omega), up1_n (by omega), up1_n (by omega), up1_n (by omega), up1_n (by omega)]
/-- the piece of p has been sent -/
def pd1 (a : Sa) (f p : Nat) : Sa := (up1 (up1 (up1 (up1 (up1 (up1 (up1 (up1 (up1 (ntp a p) (125 + 11 * (p % 120) + 5) (a (125 + 11 * (p % 120) + 5) + a 9)) (125 + 11 * (p % 120) + 6) (a (125 + 11 * (p % 120) + 6) + 1)) (125 + 11 * (p % 120) + 7) (a (125 + 11 * (p % 120) + 7) + a 11)) (125 + 11 * (p % 120) + 10) (a 0)) (17 + 18 * f + 6) (a (17 + 18 * f + 6) + a 9)) 8 (-6)) 9 0) 10 0) 11 0)
def pdF (a : Sa) (f p : Nat) : Sa := if a (125 + 11 * (p % 120) + 5) + a 9 < a (125 + 11 * (p % 120) + 1) then up1 (pd1 a f p) (125 + 11 * (p % 120) + 4) 0 else if 1 < a (125 + 11 * (p % 120) + 6) + 1 ∧ 0 < a 4 then up1 (up1 (up1 (pd1 a f p) (17 + 18 * f + 17) (a (17 + 18 * f + 17) - 1)) (125 + 11 * (p % 120) + 4) 2) 16 (a 16 + 1) else dlv (up1 (pd1 a f p) (17 + 18 * f + 17) (a (17 + 18 * f + 17) - 1)) p
def pdn (a : Sa) : Sa := pdF a (flP a (a 8).toNat) (a 8).toNat
/-- whether the piece that is done was the last of its packet, and the packet is delivered at once -/
def pdD (a : Sa) (p : Nat) : Prop := ¬ (a (125 + 11 * (p % 120) + 5) + a 9 < a (125 + 11 * (p % 120) + 1)) ∧ ¬ (1 < a (125 + 11 * (p % 120) + 6) + 1 ∧ 0 < a 4)
def jnC (a : Sa) (p : Nat) : Prop := a (125 + 11 * (p % 120) + 4) = 2 ∧ a 4 ≤ a 0 - a (125 + 11 * (p % 120) + 10)
def jn1 (a : Sa) (p : Nat) : Sa := dlv (up1 a 16 (a 16 - 1)) p
noncomputable def jnS (a : Sa) (p : Nat) : Sa := @ite _ (jnC a p) (Classical.propDecidable _) (jn1 a p) a
noncomputable def jnZ (z : Int) (a : Sa) (p : Nat) : Int := @ite _ (jnC a p) (Classical.propDecidable _) (fdN z p) z
/-- n packets from p on: those that are SENT and due are delivered -/
noncomputable def jnA (a : Sa) : Nat → Nat → Sa
  | 0, _ => a
  | n + 1, p => jnA (jnS a p) n (p + 1)
noncomputable def jnF (z : Int) (a : Sa) : Nat → Nat → Int
  | 0, _ => z
  | n + 1, p => jnF (jnZ z a p) (jnS a p) n (p + 1)
noncomputable def jal (a : Sa) : Sa := jnA a ((a 7).toNat - old a) (old a)
noncomputable def jaz (z : Int) (a : Sa) : Int := jnF z a ((a 7).toNat - old a) (old a)
def idV (a : Sa) (f : Nat) : Int := if a (17 + 18 * f + 17) = 0 then a (17 + 18 * f + 5) + 1 else 0
def idE (a : Sa) (f : Nat) : Prop := 0 < a (17 + 18 * f + 3) ∧ 0 < a (17 + 18 * f + 4) ∧ a (17 + 18 * f + 3) ≤ idV a f
def idK (a : Sa) (f : Nat) : Int := if a (17 + 18 * f + 4) = 1 then (a (17 + 18 * f + 12) - a 1) / 2 else 0
noncomputable def idl (a : Sa) (f : Nat) : Sa := @ite _ (idE a f) (Classical.propDecidable _) (if 0 < a (17 + 18 * f + 12) - a 1 then up1 (up1 (up1 (up1 a (17 + 18 * f + 5) (idV a f)) (17 + 18 * f + 5) 0) (17 + 18 * f + 12) (a 1 + idK a f)) (17 + 18 * f + 13) (a (17 + 18 * f + 13) + (a (17 + 18 * f + 12) - a 1 - idK a f)) else up1 (up1 a (17 + 18 * f + 5) (idV a f)) (17 + 18 * f + 5) 0) (up1 a (17 + 18 * f + 5) (idV a f))
noncomputable def idA (a : Sa) : Nat → Sa
  | 0 => a
  | n + 1 => idl (idA a n) n
def fsW (a : Sa) : Nat → Int
  | 0 => 0
  | f + 1 => fsW a f + (if 0 < a (17 + 18 * f + 14) then a (17 + 18 * f + 0) else 0)
def flQ (a : Sa) (f : Nat) (w : Int) : Int := if 720720 * a (17 + 18 * f + 0) / w < a (17 + 18 * f + 14) then 720720 * a (17 + 18 * f + 0) / w else a (17 + 18 * f + 14)
def fl1 (a : Sa) (f : Nat) (w : Int) : Sa := if 0 < a (17 + 18 * f + 14) then up1 (up1 a (17 + 18 * f + 14) (a (17 + 18 * f + 14) - flQ a f w)) (17 + 18 * f + 15) (a (17 + 18 * f + 15) + flQ a f w) else a
def flA (a : Sa) (w : Int) : Nat → Sa
  | 0 => a
  | n + 1 => fl1 (flA a w n) n w
def flo (a : Sa) : Sa := flA a (fsW a (a 2).toNat) (a 2).toNat
def tag (a : Sa) (f : Nat) : Int := if hdF a f < 0 then a (17 + 18 * f + 12) else a (125 + 11 * ((hdF a f).toNat % 120) + 9) + a (125 + 11 * ((hdF a f).toNat % 120) + 5) * 720720 / a (17 + 18 * f + 0)
def lag (a : Sa) (f : Nat) : Int := a (17 + 18 * f + 15) - 720720 * a (17 + 18 * f + 6)
def lg1 (a : Sa) (f : Nat) : Sa := up1 a (17 + 18 * f + 16) (if a (17 + 18 * f + 16) < lag a f then lag a f else a (17 + 18 * f + 16))
def lgA (a : Sa) : Nat → Sa
  | 0 => a
  | n + 1 => lg1 (lgA a n) n
/-- the urgent flow with the earliest deadline among the first n -/
def nxU (a : Sa) : Nat → Int
  | 0 => -6
  | f + 1 => if ¬ hdF a f < 0 ∧ urg a (hdF a f).toNat = 1 ∧ (nxU a f < 0 ∨ a (125 + 11 * ((hdF a f).toNat % 120) + 3) < a (125 + 11 * ((hdF a (nxU a f).toNat).toNat % 120) + 3)) then (f : Int) else nxU a f
/-- the flow with the least tag among the first n -/
def nxL (a : Sa) : Nat → Int
  | 0 => -6
  | f + 1 => if ¬ hdF a f < 0 ∧ (nxL a f < 0 ∨ tag a f < tag a (nxL a f).toNat) then (f : Int) else nxL a f
def nxt (a : Sa) : Int := if nxU a (a 2).toNat < 0 then nxL a (a 2).toNat else nxU a (a 2).toNat
def bgV (a : Sa) : Int := if nxU a (a 2).toNat < 0 then (if a 1 < tag a (nxt a).toNat then tag a (nxt a).toNat else a 1) else a 1
def bgN (a : Sa) (f p : Nat) : Int := if 0 < a (17 + 18 * f + 2) ∧ a (17 + 18 * f + 2) < a (125 + 11 * (p % 120) + 1) - a (125 + 11 * (p % 120) + 5) then a (17 + 18 * f + 2) else a (125 + 11 * (p % 120) + 1) - a (125 + 11 * (p % 120) + 5)
def bgA (a : Sa) (f p : Nat) : Sa := (up1 (up1 (up1 (up1 (up1 (up1 (if nxU a (a 2).toNat < 0 then up1 a 1 (bgV a) else a) 8 p) 9 (bgN a f p)) 10 (a 3 + bgN a f p)) 11 (if nxU a (a 2).toNat < 0 then 0 else 1)) 12 (a 3)) (125 + 11 * (p % 120) + 4) 1)
/-- the next piece begins -/
def bgn (a : Sa) : Sa := if nxt a < 0 then a else bgA a (nxt a).toNat (hdF a (nxt a).toNat).toNat
def tk0 (a : Sa) : Sa := up1 a 0 (a 0 + 1)
def tk1 (a : Sa) : Sa := if a 8 < 0 then tk0 a else if a 10 - 1 = 0 then pdn (up1 (up1 (tk0 a) 13 (a 13 + 1)) 10 (a 10 - 1)) else up1 (up1 (tk0 a) 13 (a 13 + 1)) 10 (a 10 - 1)
