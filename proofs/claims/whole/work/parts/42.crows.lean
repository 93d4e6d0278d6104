section CROWS
variable {p : Program} {l : Launch} {e : Env} {R : Room} {s : State} {m : MethodId} {args : Array Value} {below : List Frame} {meth : Method} {c : Code} {cc : ByteArray} {nL : Nat} {own : String} {G : Gd} {base : Nat} {Q : State → Prop} {pc : Nat} {lo lo' : List (Nat × Value)} {st : List Value} {Y : MY} {I : MI} {L : ML} {cells slots : Nat} {B : Nat} {X : Sa}
theorem c_getI (C : Cx p s m args c cc nL own G base) {idx ci k x : Nat} {v : Int} {fin : Bool} (o q : Nat) (hx : x = B + o) (ho : o < 206) (hl : ¬ lng o k) (hq : key o k = q) (hF : FL own idx ci k fin) (ht : tc ci k = 0) (hd : decode cc pc = .ok (.getfield idx, 3)) (hA : Is base Y x (.inl ci)) (hv : X q = v) (kk : Rn p l e R s m args below meth c nL G base Q ((pc + 3)) lo ((.int (iI v) :: st)) Y ((cI I B X)) ((cL L B X)) cells slots) : Rn p l e R s m args below meth c nL G base Q pc lo ((.ref x :: st)) Y ((cI I B X)) ((cL L B X)) cells slots := g_getI C o hx ho hF ht hd hA (by rw [bI_n hl, hq]; exact hv) kk
theorem c_getL (C : Cx p s m args c cc nL own G base) {idx ci k x : Nat} {v : Int} {fin : Bool} (o q : Nat) (hx : x = B + o) (ho : o < 206) (hl : lng o k) (hq : key o k = q) (hF : FL own idx ci k fin) (ht : tc ci k = 1) (hd : decode cc pc = .ok (.getfield idx, 3)) (hA : Is base Y x (.inl ci)) (hv : X q = v) (kk : Rn p l e R s m args below meth c nL G base Q ((pc + 3)) lo ((.long (lI v) :: st)) Y ((cI I B X)) ((cL L B X)) cells slots) : Rn p l e R s m args below meth c nL G base Q pc lo ((.ref x :: st)) Y ((cI I B X)) ((cL L B X)) cells slots := g_getL C o hx ho hF ht hd hA (by rw [dL_y hl, hq]; exact hv) kk
theorem c_putI (C : Cx p s m args c cc nL own G base) {idx ci k x : Nat} {v : Int} (o q : Nat) (hx : x = B + o) (ho : o < 206) (hl : ¬ lng o k) (hq : key o k = q) (hF : FL own idx ci k false) (ht : tyf ci k = .int) (hd : decode cc pc = .ok (.putfield idx, 3)) (hA : Is base Y x (.inl ci)) (kk : ∀ X', X' = up1 X q v → Rn p l e R s m args below meth c nL G base Q ((pc + 3)) lo st Y ((cI I B X')) ((cL L B X')) cells slots) : Rn p l e R s m args below meth c nL G base Q pc lo ((.int (iI v) :: .ref x :: st)) Y ((cI I B X)) ((cL L B X)) cells slots := g_putI C o hx ho hF ht hd hA (fun b' e => by
  subst e; subst hq
  rw [cI_up ho hl, ← cL_o (L := L) (B := B) (X := X) (v := v) ho hl]
  exact kk _ rfl)
theorem c_putZ (C : Cx p s m args c cc nL own G base) {idx ci k x : Nat} {v : Int} (o q : Nat) (hx : x = B + o) (ho : o < 206) (hl : ¬ lng o k) (hq : key o k = q) (hF : FL own idx ci k false) (ht : tyf ci k = .boolean) (hd : decode cc pc = .ok (.putfield idx, 3)) (hA : Is base Y x (.inl ci)) (hz : v = 0 ∨ v = 1) (kk : ∀ X', X' = up1 X q v → Rn p l e R s m args below meth c nL G base Q ((pc + 3)) lo st Y ((cI I B X')) ((cL L B X')) cells slots) : Rn p l e R s m args below meth c nL G base Q pc lo ((.int (iI v) :: .ref x :: st)) Y ((cI I B X)) ((cL L B X)) cells slots := g_putZ C o hx ho hF ht hd hA hz (fun b' e => by
  subst e; subst hq
  rw [cI_up ho hl, ← cL_o (L := L) (B := B) (X := X) (v := v) ho hl]
  exact kk _ rfl)
theorem c_putL (C : Cx p s m args c cc nL own G base) {idx ci k x : Nat} {v : Int} (o q : Nat) (hx : x = B + o) (ho : o < 206) (hl : lng o k) (hq : key o k = q) (hF : FL own idx ci k false) (ht : tyf ci k = .long) (hd : decode cc pc = .ok (.putfield idx, 3)) (hA : Is base Y x (.inl ci)) (kk : ∀ X', X' = up1 X q v → Rn p l e R s m args below meth c nL G base Q ((pc + 3)) lo st Y ((cI I B X')) ((cL L B X')) cells slots) : Rn p l e R s m args below meth c nL G base Q pc lo ((.long (lI v) :: .ref x :: st)) Y ((cI I B X)) ((cL L B X)) cells slots := g_putL C o hx ho hF ht hd hA (fun b' e => by
  subst e; subst hq
  rw [cL_up ho hl, ← cI_o (I := I) (B := B) (X := X) (v := v) ho hl]
  exact kk _ rfl)
theorem c_iald (C : Cx p s m args c cc nL own G base) {x N : Nat} {z : Int32} {v : Int} (o i q : Nat) (hx : x = B + o) (ho : o < 206) (hl : ¬ lng o i) (hq : key o i = q) (hd : decode cc pc = .ok (.iaload, 1)) (hA : Is base Y x (.inr (0, N))) (hi : Ix z i N) (hv : X q = v) (kk : Rn p l e R s m args below meth c nL G base Q ((pc + 1)) lo ((.int (iI v) :: st)) Y ((cI I B X)) ((cL L B X)) cells slots) : Rn p l e R s m args below meth c nL G base Q pc lo ((.int z :: .ref x :: st)) Y ((cI I B X)) ((cL L B X)) cells slots := g_iald C o i hx ho hd hA hi (by rw [bI_n hl, hq]; exact hv) kk
theorem c_cald (C : Cx p s m args c cc nL own G base) {x N : Nat} {z : Int32} {v : Int} (o i q : Nat) (hx : x = B + o) (ho : o < 206) (hl : ¬ lng o i) (hq : key o i = q) (hd : decode cc pc = .ok (.caload, 1)) (hA : Is base Y x (.inr (3, N))) (hi : Ix z i N) (hv : X q = v) (kk : Rn p l e R s m args below meth c nL G base Q ((pc + 1)) lo ((.int (iI v) :: st)) Y ((cI I B X)) ((cL L B X)) cells slots) : Rn p l e R s m args below meth c nL G base Q pc lo ((.int z :: .ref x :: st)) Y ((cI I B X)) ((cL L B X)) cells slots := g_cald C o i hx ho hd hA hi (by rw [bI_n hl, hq]; exact hv) kk
theorem c_iast (C : Cx p s m args c cc nL own G base) {x N : Nat} {z : Int32} {v : Int} (o i q : Nat) (hx : x = B + o) (ho : o < 206) (hl : ¬ lng o i) (hq : key o i = q) (hd : decode cc pc = .ok (.iastore, 1)) (hA : Is base Y x (.inr (0, N))) (hi : Ix z i N)  (kk : ∀ X', X' = up1 X q v → Rn p l e R s m args below meth c nL G base Q ((pc + 1)) lo st Y ((cI I B X')) ((cL L B X')) cells slots) : Rn p l e R s m args below meth c nL G base Q pc lo ((.int (iI v) :: .int z :: .ref x :: st)) Y ((cI I B X)) ((cL L B X)) cells slots := g_iast C o i hx ho hd hA hi (fun b' e => by
  subst e; subst hq
  rw [cI_up ho hl, ← cL_o (L := L) (B := B) (X := X) (v := v) ho hl]
  exact kk _ rfl)
theorem c_cast (C : Cx p s m args c cc nL own G base) {x N : Nat} {z : Int32} {v : Int} (o i q : Nat) (hx : x = B + o) (ho : o < 206) (hl : ¬ lng o i) (hq : key o i = q) (hd : decode cc pc = .ok (.castore, 1)) (hA : Is base Y x (.inr (3, N))) (hi : Ix z i N) (hz : 0 ≤ v ∧ v < 65536) (kk : ∀ X', X' = up1 X q v → Rn p l e R s m args below meth c nL G base Q ((pc + 1)) lo st Y ((cI I B X')) ((cL L B X')) cells slots) : Rn p l e R s m args below meth c nL G base Q pc lo ((.int (iI v) :: .int z :: .ref x :: st)) Y ((cI I B X)) ((cL L B X)) cells slots := g_cast C o i hx ho hd hA hi hz (fun b' e => by
  subst e; subst hq
  rw [cI_up ho hl, ← cL_o (L := L) (B := B) (X := X) (v := v) ho hl]
  exact kk _ rfl)
end CROWS
theorem ky_F {f : Nat} (hf : f < 6) (k : Nat) : key (3 + 3 * f) k = kF f k := by
  unfold key
  rw [if_neg (by omega), if_neg (by omega), if_neg (by omega), if_pos (by omega), if_pos (by omega), show (3 + 3 * f - 3) / 3 = f by omega]
theorem ky_G {f : Nat} (hf : f < 6) {k : Nat} (hk : k < 5) : key (4 + 3 * f) k = 17 + 18 * f + k := by
  unfold key
  rw [if_neg (by omega), if_neg (by omega), if_neg (by omega), if_pos (by omega), if_neg (by omega), if_pos (by omega), if_pos hk, show (4 + 3 * f - 3) / 3 = f by omega]
theorem ky_Q {f : Nat} (hf : f < 6) {k : Nat} (hk : k < 20) : key (5 + 3 * f) k = 2000 + 20 * f + k := by
  unfold key
  rw [if_neg (by omega), if_neg (by omega), if_neg (by omega), if_pos (by omega), if_neg (by omega), if_neg (by omega), if_pos hk, show (5 + 3 * f - 3) / 3 = f by omega]
theorem ky_P {j : Nat} (hj : j < 120) (k : Nat) : key (22 + j) k = kP j k := by
  unfold key
  rw [if_neg (by omega), if_neg (by omega), if_neg (by omega), if_neg (by omega), if_neg (by omega), if_pos (by omega), show 22 + j - 22 = j by omega]
theorem ky_R {j : Nat} (hj : j < 60) (k : Nat) : key (143 + j) k = kR j k := by
  unfold key
  rw [if_neg (by omega), if_neg (by omega), if_neg (by omega), if_neg (by omega), if_neg (by omega), if_neg (by omega), if_neg (by omega), if_pos (by omega), show 143 + j - 143 = j by omega]
theorem ky_T {k : Nat} (hk : k < 80) : key 205 k = 1745 + k := by
  unfold key
  rw [if_neg (by omega), if_neg (by omega), if_neg (by omega), if_neg (by omega), if_neg (by omega), if_neg (by omega), if_neg (by omega), if_neg (by omega), if_neg (by omega), if_neg (by omega), if_pos hk]
theorem ky_1 {k : Nat} (hk : k < 4) : key 1 k = 3 + k := by
  unfold key
  rw [if_neg (by omega), if_pos rfl, if_pos hk]
/-- the layout of a State at B -/
def SLy (base : Nat) (Y : MY) (B : Nat) : Prop :=
  (Is base Y B (.inl 4) ∧ Is base Y (B + 1) (.inr (0, 4)) ∧ Is base Y (B + 2) (.inr (4, 6)) ∧ Is base Y (B + 21) (.inr (5, 120)) ∧ Is base Y (B + 142) (.inr (6, 60)) ∧ Is base Y (B + 203) (.inl 3) ∧ Is base Y (B + 204) (.inl 2) ∧ Is base Y (B + 205) (.inr (3, 80)))
  ∧ (Y.2.2 B 0 = some (B + 1) ∧ Y.2.2 B 1 = some (B + 2) ∧ Y.2.2 B 2 = some (B + 21) ∧ Y.2.2 B 3 = some (B + 142) ∧ Y.2.2 B 4 = some (B + 203) ∧ Y.2.2 B 5 = some (B + 204) ∧ Y.2.2 (B + 204) 0 = some (B + 205))
  ∧ (∀ f, f < 6 → Is base Y (B + (3 + 3 * f)) (.inl 0) ∧ Is base Y (B + (4 + 3 * f)) (.inr (0, 5)) ∧ Is base Y (B + (5 + 3 * f)) (.inr (0, 20)) ∧ Y.2.2 (B + 2) f = some (B + (3 + 3 * f)) ∧ Y.2.2 (B + (3 + 3 * f)) 0 = some (B + (4 + 3 * f)) ∧ Y.2.2 (B + (3 + 3 * f)) 1 = some (B + (5 + 3 * f)))
  ∧ (∀ j, j < 120 → Is base Y (B + (22 + j)) (.inl 1) ∧ Y.2.2 (B + 21) j = some (B + (22 + j)))
  ∧ (∀ j, j < 60 → Is base Y (B + (143 + j)) (.inl 3) ∧ Y.2.2 (B + 142) j = some (B + (143 + j)))
