def iI (z : Int) : Int32 := Int32.ofInt z
def lI (z : Int) : Int64 := Int64.ofInt z
theorem iI_toInt {z : Int} (h1 : -2147483648 ≤ z) (h2 : z < 2147483648) : (iI z).toInt = z := by
  unfold iI
  rw [Int32.toInt_ofInt, show Int32.size = 4294967296 from rfl]
  exact Int.bmod_eq_of_le (by omega) (by omega)
theorem lI_toInt {z : Int} (h1 : -9223372036854775808 ≤ z) (h2 : z < 9223372036854775808) : (lI z).toInt = z := by
  unfold lI
  rw [Int64.toInt_ofInt, show Int64.size = 18446744073709551616 from rfl]
  exact Int.bmod_eq_of_le (by omega) (by omega)
theorem iI_nat {n : Nat} (h : n < 2147483648) : (iI n).toNatClampNeg = n := by
  unfold Int32.toNatClampNeg
  rw [iI_toInt (by omega) (by omega)]
  rfl
/-- x is the index i, within n -/
def Ix (x : Int32) (i n : Nat) : Prop := x = iI i ∧ i < n ∧ n < 2147483648
theorem Ix.nat {x : Int32} {i n : Nat} (h : Ix x i n) : x.toNatClampNeg = i := by
  obtain ⟨rfl, h1, h2⟩ := h
  exact iI_nat (by omega)
theorem Ix.in {x : Int32} {i n : Nat} (h : Ix x i n) : vp_in x n := by
  have h3 := h.nat
  obtain ⟨rfl, h1, h2⟩ := h
  intro q
  rcases q with q | q
  · rw [Int32.lt_iff_toInt_lt, iI_toInt (by omega) (by omega)] at q
    have : (0 : Int32).toInt = 0 := rfl
    omega
  · omega
theorem atys_at (G : Gd) {t : Nat} (h : t < 8) : (atys G)[t]? = some (G.2.1 t, aty t) := by
  rw [List.getElem?_map, List.getElem?_range h]; rfl
def CK (ci : Nat) (C : String) (T : u_T) (N : Nat) : Prop := vwCl[ci]? = some (C, T, N) ∧ N = nfl ci ∧ (∀ w ∈ u_ws C T N, w ∈ tW) ∧ (∀ k, k < N → parseFieldDescriptor (T k).2.2.1 = some (tyf ci k)) ∧ (∀ a, a < N → ∀ b, b < N → a ≠ b → (T a).2.1 ≠ (T b).2.1)
/-- the pool entry idx of own is the field k of the class ci; fin: it is final -/
def FL (own : String) (idx ci k : Nat) (fin : Bool) : Prop := ∃ (C : String) (T : u_T) (N : Nat), CK ci C T N ∧ k < N ∧ Cond.fieldLink own idx (T k).1 (T k).2.1 (T k).2.2.1 ∈ tW ∧ (T k).2.2.2 = fin ∧ (T k).1 = C
theorem hc.kept {G : Gd} {d : Kd} {a : Nat} {i : Nat → Int32} {l : Nat → Int64} {r : Nat → Option Nat} {H H1 : Heap} (h : hc G d a i l r H) (hq : H1[a]? = H[a]?) : hc G d a i l r H1 := by
  cases d with
  | inl ci =>
    obtain ⟨q, h1, h2⟩ := h
    exact ⟨q, h1, h2.kept hq⟩
  | inr x => exact hq.trans h
theorem hc.lt {G : Gd} {d : Kd} {a : Nat} {i : Nat → Int32} {l : Nat → Int64} {r : Nat → Option Nat} {H : Heap} (h : hc G d a i l r H) : a < H.size := by
  cases d with
  | inl ci =>
    obtain ⟨q, h1, cell, h2, -⟩ := h
    exact (Array.getElem?_eq_some_iff.mp h2).1
  | inr x => exact (Array.getElem?_eq_some_iff.mp h).1
/-- a cell is changed -/
theorem HP.set {G : Gd} {base : Nat} {Y : MY} {I : MI} {L : ML} {H H1 : Heap} {a : Nat} {d : Kd} (h : HP G base Y I L H) (ha : Is base Y a d) (i : Nat → Int32) (l : Nat → Int64) (r : Nat → Option Nat) (hn : hc G d a i l r H1) (z : H1.size = H.size) (o : ∀ q : Nat, q ≠ a → H1[q]? = H[q]?) : HP G base (Y.1, Y.2.1, up1 Y.2.2 a r) (up1 I a i) (up1 L a l) H1 := by
  refine ⟨z.trans h.1, fun b d' hb => ?_⟩
  by_cases hba : b = a
  · subst hba
    have e : d' = d := hb.2.symm.trans ha.2
    subst e
    rw [up1_s, up1_s]
    show hc G d' b i l (up1 Y.2.2 b r b) H1
    rw [up1_s]
    exact hn
  · rw [up1_n hba, up1_n hba]
    show hc G d' b (I b) (L b) (up1 Y.2.2 a r b) H1
    rw [up1_n hba]
    exact (h.2 b d' hb).kept (o b hba)
theorem up1_id {α : Type} (f : Nat → α) (a : Nat) : up1 f a (f a) = f := by
  funext b
  by_cases h : b = a
  · subst h; rw [up1_s]
  · rw [up1_n h]
theorem HP.setI {G : Gd} {base : Nat} {Y : MY} {I : MI} {L : ML} {H H1 : Heap} {a : Nat} {d : Kd} (h : HP G base Y I L H) (ha : Is base Y a d) (i : Nat → Int32) (hn : hc G d a i (L a) (Y.2.2 a) H1) (z : H1.size = H.size) (o : ∀ q : Nat, q ≠ a → H1[q]? = H[q]?) : HP G base Y (up1 I a i) L H1 := by
  have := h.set ha i (L a) (Y.2.2 a) hn z o
  rw [up1_id, up1_id] at this
  exact this
theorem HP.setL {G : Gd} {base : Nat} {Y : MY} {I : MI} {L : ML} {H H1 : Heap} {a : Nat} {d : Kd} (h : HP G base Y I L H) (ha : Is base Y a d) (l : Nat → Int64) (hn : hc G d a (I a) l (Y.2.2 a) H1) (z : H1.size = H.size) (o : ∀ q : Nat, q ≠ a → H1[q]? = H[q]?) : HP G base Y I (up1 L a l) H1 := by
  have := h.set ha (I a) l (Y.2.2 a) hn z o
  rw [up1_id, up1_id] at this
  exact this
theorem HP.setR {G : Gd} {base : Nat} {Y : MY} {I : MI} {L : ML} {H H1 : Heap} {a : Nat} {d : Kd} (h : HP G base Y I L H) (ha : Is base Y a d) (r : Nat → Option Nat) (hn : hc G d a (I a) (L a) r H1) (z : H1.size = H.size) (o : ∀ q : Nat, q ≠ a → H1[q]? = H[q]?) : HP G base (Y.1, Y.2.1, up1 Y.2.2 a r) I L H1 := by
  have := h.set ha (I a) (L a) r hn z o
  rw [up1_id, up1_id] at this
  exact this
/-- a cell is made -/
theorem HP.new {G : Gd} {base : Nat} {Y : MY} {I : MI} {L : ML} {H H1 : Heap} (h : HP G base Y I L H) (d : Kd) (i : Nat → Int32) (l : Nat → Int64) (r : Nat → Option Nat) (hn : hc G d H.size i l r H1) (z : H1.size = H.size + 1) (o : ∀ q : Nat, q < H.size → H1[q]? = H[q]?) : HP G base (Y.1 + 1, up1 Y.2.1 (base + Y.1) d, up1 Y.2.2 (base + Y.1) r) (up1 I (base + Y.1) i) (up1 L (base + Y.1) l) H1 := by
  have hz := h.1
  rw [hz] at hn z o
  refine ⟨by rw [z]; rfl, fun b d' hb => ?_⟩
  by_cases hba : b = base + Y.1
  · subst hba
    have e : up1 Y.2.1 (base + Y.1) d (base + Y.1) = d' := hb.2
    rw [up1_s] at e
    subst e
    rw [up1_s, up1_s]
    show hc G d (base + Y.1) i l (up1 Y.2.2 (base + Y.1) r (base + Y.1)) H1
    rw [up1_s]
    exact hn
  · have hb1 : base ≤ b ∧ b < base + (Y.1 + 1) := hb.1
    have e : up1 Y.2.1 (base + Y.1) d b = d' := hb.2
    rw [up1_n hba] at e
    rw [up1_n hba, up1_n hba]
    show hc G d' b (I b) (L b) (up1 Y.2.2 (base + Y.1) r b) H1
    rw [up1_n hba]
    exact (h.2 b d' ⟨⟨hb1.1, by omega⟩, e⟩).kept (o b (by omega))
theorem Sput {base : Nat} {s : State} {Y : MY} {a : Nat} {d : Kd} {H H1 : Heap} {locs : List Loc} {k : Nat} (h : va_S (Ab base) s.heap H locs) (ha : Is base Y a d) (z : H1.size = H.size) (o : ∀ q : Nat, q ≠ a → H1[q]? = H[q]?) : va_S (Ab base) s.heap H1 (locs ++ [⟨a, k⟩]) := h.put z o ha.1.1
theorem Snew {base : Nat} {s : State} {H H1 : Heap} {locs : List Loc} (h : va_S (Ab base) s.heap H locs) (z : H1.size = H.size + 1) (o : ∀ q : Nat, q < H.size → H1[q]? = H[q]?) : va_S (Ab base) s.heap H1 locs :=
  ⟨Nat.le_trans h.1 (by omega), fun x h1 h2 => (o x (Nat.lt_of_lt_of_le h1 h.1)).trans (h.2.1 x h1 h2), h.2.2⟩
section MEM
variable {p : Program} {l : Launch} {e : Env} {R : Room} {s : State} {m : MethodId} {args : Array Value} {below : List Frame} {meth : Method} {c : Code} {cc : ByteArray} {nL : Nat} {own : String} {G : Gd} {base : Nat} {Q : State → Prop} {pc : Nat} {lo lo' : List (Nat × Value)} {st : List Value} {Y : MY} {I : MI} {L : ML} {cells slots : Nat}
theorem r_getI (C : Cx p s m args c cc nL own G base) {idx ci k a : Nat} {fin : Bool} (hF : FL own idx ci k fin) (ht : tc ci k = 0) (hd : decode cc pc = .ok (.getfield idx, 3)) (hA : Is base Y a (.inl ci))  (kk : Rn p l e R s m args below meth c nL G base Q (pc + 3) lo (.int (I a k) :: st) Y I L cells slots) : Rn p l e R s m args below meth c nL G base Q pc lo (.ref a :: st) Y I L cells slots := by
  intro ls H locs hl hP hS
  obtain ⟨hx, hb, hml, hown, hts, hK, hbs, hST⟩ := C
  obtain ⟨C', T, N, ⟨h1, h2, h3, h4, h5⟩, hk, hlk, hfin, -⟩ := hF
  obtain ⟨q, hq, cell, q1, q2, q3, q4⟩ := hP.2 a _ hA
  have hr : q = (C', T, N) := Option.some.inj (hq.symm.trans h1)
  subst hr
  obtain ⟨hS', hfc, kC, hkC, hkind⟩ := hK.1 ci _ h1
  obtain ⟨cf, kf, fi, f, hi, hsl⟩ := hS' k hk
  refine W.getf hx hb hown (hts _ hlk) hi (u_facts hfc hkC (u_lays hts h3 hk) hi).1 q1 (by rw [q3]; exact fun h => by cases h) (v := .int (I a k)) ?_ rfl rfl hd (kk ls H locs hl hP hS)
  rw [hsl, q4 k hk]
  dsimp only
  rw [ht]
  rfl
theorem r_getL (C : Cx p s m args c cc nL own G base) {idx ci k a : Nat} {fin : Bool} (hF : FL own idx ci k fin) (ht : tc ci k = 1) (hd : decode cc pc = .ok (.getfield idx, 3)) (hA : Is base Y a (.inl ci))  (kk : Rn p l e R s m args below meth c nL G base Q (pc + 3) lo (.long (L a k) :: st) Y I L cells slots) : Rn p l e R s m args below meth c nL G base Q pc lo (.ref a :: st) Y I L cells slots := by
  intro ls H locs hl hP hS
  obtain ⟨hx, hb, hml, hown, hts, hK, hbs, hST⟩ := C
  obtain ⟨C', T, N, ⟨h1, h2, h3, h4, h5⟩, hk, hlk, hfin, -⟩ := hF
  obtain ⟨q, hq, cell, q1, q2, q3, q4⟩ := hP.2 a _ hA
  have hr : q = (C', T, N) := Option.some.inj (hq.symm.trans h1)
  subst hr
  obtain ⟨hS', hfc, kC, hkC, hkind⟩ := hK.1 ci _ h1
  obtain ⟨cf, kf, fi, f, hi, hsl⟩ := hS' k hk
  refine W.getf hx hb hown (hts _ hlk) hi (u_facts hfc hkC (u_lays hts h3 hk) hi).1 q1 (by rw [q3]; exact fun h => by cases h) (v := .long (L a k)) ?_ rfl rfl hd (kk ls H locs hl hP hS)
  rw [hsl, q4 k hk]
  dsimp only
  rw [ht]
  rfl
theorem r_getR (C : Cx p s m args c cc nL own G base) {idx ci k a : Nat} {fin : Bool} (hF : FL own idx ci k fin) (ht : tc ci k = 2) (hd : decode cc pc = .ok (.getfield idx, 3)) (hA : Is base Y a (.inl ci)) {x : Nat} (hr : Y.2.2 a k = some x) (kk : Rn p l e R s m args below meth c nL G base Q (pc + 3) lo (.ref x :: st) Y I L cells slots) : Rn p l e R s m args below meth c nL G base Q pc lo (.ref a :: st) Y I L cells slots := by
  intro ls H locs hl hP hS
  obtain ⟨hx, hb, hml, hown, hts, hK, hbs, hST⟩ := C
  obtain ⟨C', T, N, ⟨h1, h2, h3, h4, h5⟩, hk, hlk, hfin, -⟩ := hF
  obtain ⟨q, hq, cell, q1, q2, q3, q4⟩ := hP.2 a _ hA
  have hr : q = (C', T, N) := Option.some.inj (hq.symm.trans h1)
  subst hr
  obtain ⟨hS', hfc, kC, hkC, hkind⟩ := hK.1 ci _ h1
  obtain ⟨cf, kf, fi, f, hi, hsl⟩ := hS' k hk
  refine W.getf hx hb hown (hts _ hlk) hi (u_facts hfc hkC (u_lays hts h3 hk) hi).1 q1 (by rw [q3]; exact fun h => by cases h) (v := .ref x) ?_ rfl rfl hd (kk ls H locs hl hP hS)
  rw [hsl, q4 k hk]
  dsimp only
  rw [ht, hr]
  rfl
theorem r_getN (C : Cx p s m args c cc nL own G base) {idx ci k a : Nat} {fin : Bool} (hF : FL own idx ci k fin) (ht : tc ci k = 2) (hd : decode cc pc = .ok (.getfield idx, 3)) (hA : Is base Y a (.inl ci)) (hr : Y.2.2 a k = none) (kk : Rn p l e R s m args below meth c nL G base Q (pc + 3) lo (.null :: st) Y I L cells slots) : Rn p l e R s m args below meth c nL G base Q pc lo (.ref a :: st) Y I L cells slots := by
  intro ls H locs hl hP hS
  obtain ⟨hx, hb, hml, hown, hts, hK, hbs, hST⟩ := C
  obtain ⟨C', T, N, ⟨h1, h2, h3, h4, h5⟩, hk, hlk, hfin, -⟩ := hF
  obtain ⟨q, hq, cell, q1, q2, q3, q4⟩ := hP.2 a _ hA
  have hr : q = (C', T, N) := Option.some.inj (hq.symm.trans h1)
  subst hr
  obtain ⟨hS', hfc, kC, hkC, hkind⟩ := hK.1 ci _ h1
  obtain ⟨cf, kf, fi, f, hi, hsl⟩ := hS' k hk
  refine W.getf hx hb hown (hts _ hlk) hi (u_facts hfc hkC (u_lays hts h3 hk) hi).1 q1 (by rw [q3]; exact fun h => by cases h) (v := .null) ?_ rfl rfl hd (kk ls H locs hl hP hS)
  rw [hsl, q4 k hk]
  dsimp only
  rw [ht, hr]
  rfl
theorem r_putI (C : Cx p s m args c cc nL own G base) {idx ci k a : Nat} {x : Int32} (hF : FL own idx ci k false) (ht : tyf ci k = .int) (hd : decode cc pc = .ok (.putfield idx, 3)) (hA : Is base Y a (.inl ci))   (kk : ∀ I', I' = up2 I a k x → Rn p l e R s m args below meth c nL G base Q (pc + 3) lo st Y I' L cells slots) : Rn p l e R s m args below meth c nL G base Q pc lo (.int x :: .ref a :: st) Y I L cells slots := by
  intro ls H locs hl hP hS
  obtain ⟨hx, hb, hml, hown, hts, hK, hbs, hST⟩ := C
  obtain ⟨C', T, N, ⟨h1, h2, h3, h4, h5⟩, hk, hlk, hfin, hTC⟩ := hF
  have hap := va_apart (own := own) hts h3 (tyf ci) h4 h5 hK h1
  obtain ⟨q, hq, cell, q1, q2, q3, q4⟩ := hP.2 a _ hA
  have hr : q = (C', T, N) := Option.some.inj (hq.symm.trans h1)
  subst hr
  obtain ⟨hS', hfc, kC, hkC, hkind⟩ := hK.1 ci _ h1
  obtain ⟨cf, kf, fi, f, hi, hsl⟩ := hS' k hk
  have hlay := hts _ (h3 _ (u_in_lay hk))
  unfold u_lay at hlay
  rw [if_neg (by rw [hfin]; decide)] at hlay
  have hst := (u_facts hfc hkC (u_lays hts h3 hk) hi).1
  have htc : tc ci k = 0 := by unfold tc; rw [ht]; rfl
  have hn : narrow (tyf ci k) (.int x) = .int x := by rw [ht]; rfl
  have hfit : fits (tyf ci k) (.int x) = true := by rw [ht]; rfl
  have h6 := u_store hfc hkC hkind hlay hi (h4 k hk) hn hfit
  refine W.putK hx hb (f := f) ⟨hown, hts _ hlk, ⟨_, _, _, hi⟩, hst⟩ (by rw [q2]; exact h6) q1 q3 (by rw [hsl]; exact k2_hasslot (q4 k hk)) rfl rfl hd fun H' e1 e2 e3 => ?_
  rw [hsl] at e1 ⊢
  refine kk _ rfl ls H' _ hl (HP.setI hP hA (up1 (I a) k x) ⟨_, h1, t_OB.to (V := updV (fun k => fv (tc ci k) (I a k) (L a k) (Y.2.2 a k)) k (.int x)) ⟨_, e1, q2, q3, t_set q4 hap hk _⟩ (fun j _ => ?_)⟩ e2 e3) (Sput hS hA e2 e3)
  by_cases hj : j = k
  · subst hj
    simp only [updV, if_pos, up1_s, htc]
    rfl
  · simp only [updV, if_neg hj, up1_n hj]
theorem r_putZ (C : Cx p s m args c cc nL own G base) {idx ci k a : Nat} {x : Int32} (hF : FL own idx ci k false) (ht : tyf ci k = .boolean) (hd : decode cc pc = .ok (.putfield idx, 3)) (hA : Is base Y a (.inl ci)) (hz : x = 0 ∨ x = 1)  (kk : ∀ I', I' = up2 I a k x → Rn p l e R s m args below meth c nL G base Q (pc + 3) lo st Y I' L cells slots) : Rn p l e R s m args below meth c nL G base Q pc lo (.int x :: .ref a :: st) Y I L cells slots := by
  intro ls H locs hl hP hS
  obtain ⟨hx, hb, hml, hown, hts, hK, hbs, hST⟩ := C
  obtain ⟨C', T, N, ⟨h1, h2, h3, h4, h5⟩, hk, hlk, hfin, hTC⟩ := hF
  have hap := va_apart (own := own) hts h3 (tyf ci) h4 h5 hK h1
  obtain ⟨q, hq, cell, q1, q2, q3, q4⟩ := hP.2 a _ hA
  have hr : q = (C', T, N) := Option.some.inj (hq.symm.trans h1)
  subst hr
  obtain ⟨hS', hfc, kC, hkC, hkind⟩ := hK.1 ci _ h1
  obtain ⟨cf, kf, fi, f, hi, hsl⟩ := hS' k hk
  have hlay := hts _ (h3 _ (u_in_lay hk))
  unfold u_lay at hlay
  rw [if_neg (by rw [hfin]; decide)] at hlay
  have hst := (u_facts hfc hkC (u_lays hts h3 hk) hi).1
  have htc : tc ci k = 0 := by unfold tc; rw [ht]; rfl
  have hn : narrow (tyf ci k) (.int x) = .int x := by rw [ht]; rcases hz with rfl | rfl <;> rfl
  have hfit : fits (tyf ci k) (.int x) = true := by rw [ht]; rcases hz with rfl | rfl <;> rfl
  have h6 := u_store hfc hkC hkind hlay hi (h4 k hk) hn hfit
  refine W.putK hx hb (f := f) ⟨hown, hts _ hlk, ⟨_, _, _, hi⟩, hst⟩ (by rw [q2]; exact h6) q1 q3 (by rw [hsl]; exact k2_hasslot (q4 k hk)) rfl rfl hd fun H' e1 e2 e3 => ?_
  rw [hsl] at e1 ⊢
  refine kk _ rfl ls H' _ hl (HP.setI hP hA (up1 (I a) k x) ⟨_, h1, t_OB.to (V := updV (fun k => fv (tc ci k) (I a k) (L a k) (Y.2.2 a k)) k (.int x)) ⟨_, e1, q2, q3, t_set q4 hap hk _⟩ (fun j _ => ?_)⟩ e2 e3) (Sput hS hA e2 e3)
  by_cases hj : j = k
  · subst hj
    simp only [updV, if_pos, up1_s, htc]
    rfl
  · simp only [updV, if_neg hj, up1_n hj]
theorem r_putL (C : Cx p s m args c cc nL own G base) {idx ci k a : Nat} {x : Int64} (hF : FL own idx ci k false) (ht : tyf ci k = .long) (hd : decode cc pc = .ok (.putfield idx, 3)) (hA : Is base Y a (.inl ci))   (kk : ∀ L', L' = up2 L a k x → Rn p l e R s m args below meth c nL G base Q (pc + 3) lo st Y I L' cells slots) : Rn p l e R s m args below meth c nL G base Q pc lo (.long x :: .ref a :: st) Y I L cells slots := by
  intro ls H locs hl hP hS
  obtain ⟨hx, hb, hml, hown, hts, hK, hbs, hST⟩ := C
  obtain ⟨C', T, N, ⟨h1, h2, h3, h4, h5⟩, hk, hlk, hfin, hTC⟩ := hF
  have hap := va_apart (own := own) hts h3 (tyf ci) h4 h5 hK h1
  obtain ⟨q, hq, cell, q1, q2, q3, q4⟩ := hP.2 a _ hA
  have hr : q = (C', T, N) := Option.some.inj (hq.symm.trans h1)
  subst hr
  obtain ⟨hS', hfc, kC, hkC, hkind⟩ := hK.1 ci _ h1
  obtain ⟨cf, kf, fi, f, hi, hsl⟩ := hS' k hk
  have hlay := hts _ (h3 _ (u_in_lay hk))
  unfold u_lay at hlay
  rw [if_neg (by rw [hfin]; decide)] at hlay
  have hst := (u_facts hfc hkC (u_lays hts h3 hk) hi).1
  have htc : tc ci k = 1 := by unfold tc; rw [ht]; rfl
  have hn : narrow (tyf ci k) (.long x) = .long x := by rw [ht]; rfl
  have hfit : fits (tyf ci k) (.long x) = true := by rw [ht]; rfl
  have h6 := u_store hfc hkC hkind hlay hi (h4 k hk) hn hfit
  refine W.putK hx hb (f := f) ⟨hown, hts _ hlk, ⟨_, _, _, hi⟩, hst⟩ (by rw [q2]; exact h6) q1 q3 (by rw [hsl]; exact k2_hasslot (q4 k hk)) rfl rfl hd fun H' e1 e2 e3 => ?_
  rw [hsl] at e1 ⊢
  refine kk _ rfl ls H' _ hl (HP.setL hP hA (up1 (L a) k x) ⟨_, h1, t_OB.to (V := updV (fun k => fv (tc ci k) (I a k) (L a k) (Y.2.2 a k)) k (.long x)) ⟨_, e1, q2, q3, t_set q4 hap hk _⟩ (fun j _ => ?_)⟩ e2 e3) (Sput hS hA e2 e3)
  by_cases hj : j = k
  · subst hj
    simp only [updV, if_pos, up1_s, htc]
    rfl
  · simp only [updV, if_neg hj, up1_n hj]
theorem r_putR (C : Cx p s m args c cc nL own G base) {idx ci k a : Nat} {x : Nat} (hF : FL own idx ci k false) (ht : tc ci k = 2) (hd : decode cc pc = .ok (.putfield idx, 3)) (hA : Is base Y a (.inl ci))   (kk :  Rn p l e R s m args below meth c nL G base Q (pc + 3) lo st (Y.1, Y.2.1, up2 Y.2.2 a k (some x)) I L cells slots) : Rn p l e R s m args below meth c nL G base Q pc lo (.ref x :: .ref a :: st) Y I L cells slots := by
  intro ls H locs hl hP hS
  obtain ⟨hx, hb, hml, hown, hts, hK, hbs, hST⟩ := C
  obtain ⟨C', T, N, ⟨h1, h2, h3, h4, h5⟩, hk, hlk, hfin, hTC⟩ := hF
  have hap := va_apart (own := own) hts h3 (tyf ci) h4 h5 hK h1
  obtain ⟨q, hq, cell, q1, q2, q3, q4⟩ := hP.2 a _ hA
  have hr : q = (C', T, N) := Option.some.inj (hq.symm.trans h1)
  subst hr
  obtain ⟨hS', hfc, kC, hkC, hkind⟩ := hK.1 ci _ h1
  obtain ⟨cf, kf, fi, f, hi, hsl⟩ := hS' k hk
  have hlay := hts _ (h3 _ (u_in_lay hk))
  unfold u_lay at hlay
  rw [if_neg (by rw [hfin]; decide)] at hlay
  have hst := (u_facts hfc hkC (u_lays hts h3 hk) hi).1
  have htc : tc ci k = 2 := by exact ht
  have hn : narrow (tyf ci k) (.ref x) = .ref x := by cases h : tyf ci k <;> rfl
  have hfit : fits (tyf ci k) (.ref x) = true := by
    unfold tc at ht
    cases h : tyf ci k <;> rw [h] at ht <;> first | rfl | cases ht
  have h6 := u_store hfc hkC hkind hlay hi (h4 k hk) hn hfit
  refine W.putK hx hb (f := f) ⟨hown, hts _ hlk, ⟨_, _, _, hi⟩, hst⟩ (by rw [q2]; exact h6) q1 q3 (by rw [hsl]; exact k2_hasslot (q4 k hk)) rfl rfl hd fun H' e1 e2 e3 => ?_
  rw [hsl] at e1 ⊢
  refine kk ls H' _ hl (HP.setR hP hA (up1 (Y.2.2 a) k (some x)) ⟨_, h1, t_OB.to (V := updV (fun k => fv (tc ci k) (I a k) (L a k) (Y.2.2 a k)) k (.ref x)) ⟨_, e1, q2, q3, t_set q4 hap hk _⟩ (fun j _ => ?_)⟩ e2 e3) (Sput hS hA e2 e3)
  by_cases hj : j = k
  · subst hj
    simp only [updV, if_pos, up1_s, htc]
    rfl
  · simp only [updV, if_neg hj, up1_n hj]
theorem r_putRF (C : Cx p s m args c cc nL own G base) {idx ci k a : Nat} {x : Nat} (hF : FL own idx ci k true) (ht : tc ci k = 2) (hd : decode cc pc = .ok (.putfield idx, 3)) (hA : Is base Y a (.inl ci))  (hin : meth.name = "<init>") (hoc : (vwCl[ci]?).map (fun q => q.1) = some own) (kk :  Rn p l e R s m args below meth c nL G base Q (pc + 3) lo st (Y.1, Y.2.1, up2 Y.2.2 a k (some x)) I L cells slots) : Rn p l e R s m args below meth c nL G base Q pc lo (.ref x :: .ref a :: st) Y I L cells slots := by
  intro ls H locs hl hP hS
  obtain ⟨hx, hb, hml, hown, hts, hK, hbs, hST⟩ := C
  obtain ⟨C', T, N, ⟨h1, h2, h3, h4, h5⟩, hk, hlk, hfin, hTC⟩ := hF
  have hap := va_apart (own := own) hts h3 (tyf ci) h4 h5 hK h1
  obtain ⟨q, hq, cell, q1, q2, q3, q4⟩ := hP.2 a _ hA
  have hr : q = (C', T, N) := Option.some.inj (hq.symm.trans h1)
  subst hr
  obtain ⟨hS', hfc, kC, hkC, hkind⟩ := hK.1 ci _ h1
  obtain ⟨cf, kf, fi, f, hi, hsl⟩ := hS' k hk
  have hlay := hts _ (h3 _ (u_in_lay hk))
  unfold u_lay at hlay
  rw [if_pos hfin] at hlay
  have hst := (u_facts hfc hkC (u_lays hts h3 hk) hi).1
  have htc : tc ci k = 2 := by exact ht
  have hn : narrow (tyf ci k) (.ref x) = .ref x := by cases h : tyf ci k <;> rfl
  have hfit : fits (tyf ci k) (.ref x) = true := by
    unfold tc at ht
    cases h : tyf ci k <;> rw [h] at ht <;> first | rfl | cases ht
  have hcf : m.cls = cf := by
    obtain ⟨_, _, c', _, _, _, -, -, hf', -, -, -, hown2, -⟩ := Cond.laysFinal_spec hlay
    have e1 : c' = cf := by have := hi.symm.trans hf'; simp at this; exact this.1.symm
    rw [h1] at hoc
    have e2 : C' = own := Option.some.inj hoc
    rw [hTC, e2] at hown2
    rw [← e1]; exact Option.some.inj (hown.symm.trans hown2)
  have h6 := u_fits hfc hkC hkind (Or.inr hlay) hi (h4 k hk) hn hfit
  refine W.putFinK hx hb hown (hts _ hlk) hi hst hcf hin (by rw [q2]; exact h6) q1 q3 (by rw [hsl]; exact k2_hasslot (q4 k hk)) rfl rfl hd fun H' e1 e2 e3 => ?_
  rw [hsl] at e1 ⊢
  refine kk ls H' _ hl (HP.setR hP hA (up1 (Y.2.2 a) k (some x)) ⟨_, h1, t_OB.to (V := updV (fun k => fv (tc ci k) (I a k) (L a k) (Y.2.2 a k)) k (.ref x)) ⟨_, e1, q2, q3, t_set q4 hap hk _⟩ (fun j _ => ?_)⟩ e2 e3) (Sput hS hA e2 e3)
  by_cases hj : j = k
  · subst hj
    simp only [updV, if_pos, up1_s, htc]
    rfl
  · simp only [updV, if_neg hj, up1_n hj]
theorem r_iald (C : Cx p s m args c cc nL own G base) {a n : Nat} {x : Int32} (i : Nat) (hd : decode cc pc = .ok (.iaload, 1)) (hA : Is base Y a (.inr (0, n))) (hi : Ix x i n)  (kk : Rn p l e R s m args below meth c nL G base Q (pc + 1) lo (.int (I a i) :: st) Y I L cells slots) : Rn p l e R s m args below meth c nL G base Q pc lo (.int x :: .ref a :: st) Y I L cells slots := by
  intro ls H locs hl hP hS
  obtain ⟨hx, hb, hml, hown, hts, hK, hbs, hST⟩ := C
  have q1 : H[a]? = some (arrV (G.2.1 0) n (fun j => fv (ftc (aty 0)) (I a j) (L a j) (Y.2.2 a j))) := hP.2 a _ hA
  have hin := hi.in
  have hnn := hi.nat
  refine W.iald hx hb q1 ((hK.2 0 _ (atys_at G (by decide))).1 n _) (fun q => by cases q) (by rw [arrV_size]; exact hin) (v := .int (I a i)) ?_ rfl rfl hd (kk ls H locs hl hP hS)
  rw [hnn, arrV_read _ _ hi.2.1]
  rfl
theorem r_lald (C : Cx p s m args c cc nL own G base) {a n : Nat} {x : Int32} (i : Nat) (hd : decode cc pc = .ok (.laload, 1)) (hA : Is base Y a (.inr (1, n))) (hi : Ix x i n)  (kk : Rn p l e R s m args below meth c nL G base Q (pc + 1) lo (.long (L a i) :: st) Y I L cells slots) : Rn p l e R s m args below meth c nL G base Q pc lo (.int x :: .ref a :: st) Y I L cells slots := by
  intro ls H locs hl hP hS
  obtain ⟨hx, hb, hml, hown, hts, hK, hbs, hST⟩ := C
  have q1 : H[a]? = some (arrV (G.2.1 1) n (fun j => fv (ftc (aty 1)) (I a j) (L a j) (Y.2.2 a j))) := hP.2 a _ hA
  have hin := hi.in
  have hnn := hi.nat
  refine W.lald hx hb q1 ((hK.2 1 _ (atys_at G (by decide))).1 n _) (fun q => by cases q) (by rw [arrV_size]; exact hin) (v := .long (L a i)) ?_ rfl rfl hd (kk ls H locs hl hP hS)
  rw [hnn, arrV_read _ _ hi.2.1]
  rfl
theorem r_zald (C : Cx p s m args c cc nL own G base) {a n : Nat} {x : Int32} (i : Nat) (hd : decode cc pc = .ok (.baload, 1)) (hA : Is base Y a (.inr (2, n))) (hi : Ix x i n)  (kk : Rn p l e R s m args below meth c nL G base Q (pc + 1) lo (.int (I a i) :: st) Y I L cells slots) : Rn p l e R s m args below meth c nL G base Q pc lo (.int x :: .ref a :: st) Y I L cells slots := by
  intro ls H locs hl hP hS
  obtain ⟨hx, hb, hml, hown, hts, hK, hbs, hST⟩ := C
  have q1 : H[a]? = some (arrV (G.2.1 2) n (fun j => fv (ftc (aty 2)) (I a j) (L a j) (Y.2.2 a j))) := hP.2 a _ hA
  have hin := hi.in
  have hnn := hi.nat
  refine W.zald hx hb q1 ((hK.2 2 _ (atys_at G (by decide))).1 n _) (fun q => by cases q) (by rw [arrV_size]; exact hin) (v := .int (I a i)) ?_ rfl rfl hd (kk ls H locs hl hP hS)
  rw [hnn, arrV_read _ _ hi.2.1]
  rfl
theorem r_cald (C : Cx p s m args c cc nL own G base) {a n : Nat} {x : Int32} (i : Nat) (hd : decode cc pc = .ok (.caload, 1)) (hA : Is base Y a (.inr (3, n))) (hi : Ix x i n)  (kk : Rn p l e R s m args below meth c nL G base Q (pc + 1) lo (.int (I a i) :: st) Y I L cells slots) : Rn p l e R s m args below meth c nL G base Q pc lo (.int x :: .ref a :: st) Y I L cells slots := by
  intro ls H locs hl hP hS
  obtain ⟨hx, hb, hml, hown, hts, hK, hbs, hST⟩ := C
  have q1 : H[a]? = some (arrV (G.2.1 3) n (fun j => fv (ftc (aty 3)) (I a j) (L a j) (Y.2.2 a j))) := hP.2 a _ hA
  have hin := hi.in
  have hnn := hi.nat
  refine W.cald hx hb q1 ((hK.2 3 _ (atys_at G (by decide))).1 n _) (fun q => by cases q) (by rw [arrV_size]; exact hin) (v := .int (I a i)) ?_ rfl rfl hd (kk ls H locs hl hP hS)
  rw [hnn, arrV_read _ _ hi.2.1]
  rfl
theorem r_aald (C : Cx p s m args c cc nL own G base) {a n : Nat} {x : Int32} {t : Nat} (ht8 : t < 8) (htr : 4 ≤ t) (i : Nat) (hd : decode cc pc = .ok (.aaload, 1)) (hA : Is base Y a (.inr (t, n))) (hi : Ix x i n) {y : Nat} (hr : Y.2.2 a i = some y) (kk : Rn p l e R s m args below meth c nL G base Q (pc + 1) lo (.ref y :: st) Y I L cells slots) : Rn p l e R s m args below meth c nL G base Q pc lo (.int x :: .ref a :: st) Y I L cells slots := by
  intro ls H locs hl hP hS
  obtain ⟨hx, hb, hml, hown, hts, hK, hbs, hST⟩ := C
  have q1 : H[a]? = some (arrV (G.2.1 t) n (fun j => fv (ftc (aty t)) (I a j) (L a j) (Y.2.2 a j))) := hP.2 a _ hA
  have hin := hi.in
  have hnn := hi.nat
  have hft : ftc (aty t) = 2 := by
    match t, ht8, htr with
    | 4, _, _ => rfl
    | 5, _, _ => rfl
    | 6, _, _ => rfl
    | 7, _, _ => rfl
  have hrf : (aty t).isReference = true := by
    match t, ht8, htr with
    | 4, _, _ => rfl
    | 5, _, _ => rfl
    | 6, _, _ => rfl
    | 7, _, _ => rfl
  refine W.aald hx hb q1 ((hK.2 t _ (atys_at G ht8)).1 n _) hrf (fun q => by cases q) (by rw [arrV_size]; exact hin) (v := .ref y) ?_ rfl rfl hd (kk ls H locs hl hP hS)
  rw [hnn, arrV_read _ _ hi.2.1]
  rw [hft, hr]; rfl
theorem r_aaldN (C : Cx p s m args c cc nL own G base) {a n : Nat} {x : Int32} {t : Nat} (ht8 : t < 8) (htr : 4 ≤ t) (i : Nat) (hd : decode cc pc = .ok (.aaload, 1)) (hA : Is base Y a (.inr (t, n))) (hi : Ix x i n) (hr : Y.2.2 a i = none) (kk : Rn p l e R s m args below meth c nL G base Q (pc + 1) lo (.null :: st) Y I L cells slots) : Rn p l e R s m args below meth c nL G base Q pc lo (.int x :: .ref a :: st) Y I L cells slots := by
  intro ls H locs hl hP hS
  obtain ⟨hx, hb, hml, hown, hts, hK, hbs, hST⟩ := C
  have q1 : H[a]? = some (arrV (G.2.1 t) n (fun j => fv (ftc (aty t)) (I a j) (L a j) (Y.2.2 a j))) := hP.2 a _ hA
  have hin := hi.in
  have hnn := hi.nat
  have hft : ftc (aty t) = 2 := by
    match t, ht8, htr with
    | 4, _, _ => rfl
    | 5, _, _ => rfl
    | 6, _, _ => rfl
    | 7, _, _ => rfl
  have hrf : (aty t).isReference = true := by
    match t, ht8, htr with
    | 4, _, _ => rfl
    | 5, _, _ => rfl
    | 6, _, _ => rfl
    | 7, _, _ => rfl
  refine W.aald hx hb q1 ((hK.2 t _ (atys_at G ht8)).1 n _) hrf (fun q => by cases q) (by rw [arrV_size]; exact hin) (v := .null) ?_ rfl rfl hd (kk ls H locs hl hP hS)
  rw [hnn, arrV_read _ _ hi.2.1]
  rw [hft, hr]; rfl
theorem r_iast (C : Cx p s m args c cc nL own G base) {a n : Nat} {x : Int32} {v : Int32} (i : Nat) (hd : decode cc pc = .ok (.iastore, 1)) (hA : Is base Y a (.inr (0, n))) (hi : Ix x i n)  (kk : ∀ I', I' = up2 I a i v → Rn p l e R s m args below meth c nL G base Q (pc + 1) lo st Y I' L cells slots) : Rn p l e R s m args below meth c nL G base Q pc lo (.int v :: .int x :: .ref a :: st) Y I L cells slots := by
  intro ls H locs hl hP hS
  obtain ⟨hx, hb, hml, hown, hts, hK, hbs, hST⟩ := C
  have q1 : H[a]? = some (arrV (G.2.1 0) n (fun j => fv (ftc (aty 0)) (I a j) (L a j) (Y.2.2 a j))) := hP.2 a _ hA
  have hin := hi.in
  have hnn := hi.nat
  refine W.iast hx hb q1 ((hK.2 0 _ (atys_at G (by decide))).1 n _) (fun q => by cases q) (by rw [arrV_size]; exact hin) rfl rfl hd fun H' e1 e2 e3 => ?_
  rw [hnn] at e1 ⊢
  refine kk _ rfl ls H' _ hl (HP.setI hP hA (up1 (I a) i v) ?_ e2 e3) (Sput hS hA e2 e3)
  show H'[a]? = some _
  rw [e1, arrV_store]
  congr 2
  funext j
  by_cases hj : j = i
  · subst hj
    simp only [updV, if_pos, up1_s]
    rfl
  · simp only [updV, if_neg hj, up1_n hj]
theorem r_last (C : Cx p s m args c cc nL own G base) {a n : Nat} {x : Int32} {v : Int64} (i : Nat) (hd : decode cc pc = .ok (.lastore, 1)) (hA : Is base Y a (.inr (1, n))) (hi : Ix x i n)  (kk : ∀ L', L' = up2 L a i v → Rn p l e R s m args below meth c nL G base Q (pc + 1) lo st Y I L' cells slots) : Rn p l e R s m args below meth c nL G base Q pc lo (.long v :: .int x :: .ref a :: st) Y I L cells slots := by
  intro ls H locs hl hP hS
  obtain ⟨hx, hb, hml, hown, hts, hK, hbs, hST⟩ := C
  have q1 : H[a]? = some (arrV (G.2.1 1) n (fun j => fv (ftc (aty 1)) (I a j) (L a j) (Y.2.2 a j))) := hP.2 a _ hA
  have hin := hi.in
  have hnn := hi.nat
  refine W.last hx hb q1 ((hK.2 1 _ (atys_at G (by decide))).1 n _) (fun q => by cases q) (by rw [arrV_size]; exact hin) rfl rfl hd fun H' e1 e2 e3 => ?_
  rw [hnn] at e1 ⊢
  refine kk _ rfl ls H' _ hl (HP.setL hP hA (up1 (L a) i v) ?_ e2 e3) (Sput hS hA e2 e3)
  show H'[a]? = some _
  rw [e1, arrV_store]
  congr 2
  funext j
  by_cases hj : j = i
  · subst hj
    simp only [updV, if_pos, up1_s]
    rfl
  · simp only [updV, if_neg hj, up1_n hj]
theorem r_zast (C : Cx p s m args c cc nL own G base) {a n : Nat} {x : Int32} {v : Int32} (i : Nat) (hd : decode cc pc = .ok (.bastore, 1)) (hA : Is base Y a (.inr (2, n))) (hi : Ix x i n) (hz : v = 0 ∨ v = 1) (kk : ∀ I', I' = up2 I a i v → Rn p l e R s m args below meth c nL G base Q (pc + 1) lo st Y I' L cells slots) : Rn p l e R s m args below meth c nL G base Q pc lo (.int v :: .int x :: .ref a :: st) Y I L cells slots := by
  intro ls H locs hl hP hS
  obtain ⟨hx, hb, hml, hown, hts, hK, hbs, hST⟩ := C
  have q1 : H[a]? = some (arrV (G.2.1 2) n (fun j => fv (ftc (aty 2)) (I a j) (L a j) (Y.2.2 a j))) := hP.2 a _ hA
  have hin := hi.in
  have hnn := hi.nat
  refine W.zast hx hb q1 ((hK.2 2 _ (atys_at G (by decide))).1 n _) (fun q => by cases q) (by rw [arrV_size]; exact hin) rfl rfl hd fun H' e1 e2 e3 => ?_
  rw [hnn] at e1 ⊢
  refine kk _ rfl ls H' _ hl (HP.setI hP hA (up1 (I a) i v) ?_ e2 e3) (Sput hS hA e2 e3)
  show H'[a]? = some _
  rw [e1, arrV_store]
  rw [show narrow .boolean (.int v) = .int v by rcases hz with rfl | rfl <;> rfl]
  congr 2
  funext j
  by_cases hj : j = i
  · subst hj
    simp only [updV, if_pos, up1_s]
    rfl
  · simp only [updV, if_neg hj, up1_n hj]
theorem r_cast (C : Cx p s m args c cc nL own G base) {a n : Nat} {x : Int32} {v : Int32} (i : Nat) (hd : decode cc pc = .ok (.castore, 1)) (hA : Is base Y a (.inr (3, n))) (hi : Ix x i n) (hz : narrow .char (.int v) = .int v) (kk : ∀ I', I' = up2 I a i v → Rn p l e R s m args below meth c nL G base Q (pc + 1) lo st Y I' L cells slots) : Rn p l e R s m args below meth c nL G base Q pc lo (.int v :: .int x :: .ref a :: st) Y I L cells slots := by
  intro ls H locs hl hP hS
  obtain ⟨hx, hb, hml, hown, hts, hK, hbs, hST⟩ := C
  have q1 : H[a]? = some (arrV (G.2.1 3) n (fun j => fv (ftc (aty 3)) (I a j) (L a j) (Y.2.2 a j))) := hP.2 a _ hA
  have hin := hi.in
  have hnn := hi.nat
  refine W.cast hx hb q1 ((hK.2 3 _ (atys_at G (by decide))).1 n _) (fun q => by cases q) (by rw [arrV_size]; exact hin) rfl rfl hd fun H' e1 e2 e3 => ?_
  rw [hnn] at e1 ⊢
  refine kk _ rfl ls H' _ hl (HP.setI hP hA (up1 (I a) i v) ?_ e2 e3) (Sput hS hA e2 e3)
  show H'[a]? = some _
  rw [e1, arrV_store]
  rw [hz]
  congr 2
  funext j
  by_cases hj : j = i
  · subst hj
    simp only [updV, if_pos, up1_s]
    rfl
  · simp only [updV, if_neg hj, up1_n hj]
theorem r_aast (C : Cx p s m args c cc nL own G base) {a n b t ci : Nat} {x : Int32} (ht8 : t < 8) (htr : 4 ≤ t) (htc : (vwCl[ci]?).map (fun q => FieldType.object q.1) = some (aty t)) (i : Nat) (hd : decode cc pc = .ok (.aastore, 1)) (hA : Is base Y a (.inr (t, n))) (hB : Is base Y b (.inl ci)) (hi : Ix x i n) (kk : Rn p l e R s m args below meth c nL G base Q (pc + 1) lo st (Y.1, Y.2.1, up2 Y.2.2 a i (some b)) I L cells slots) : Rn p l e R s m args below meth c nL G base Q pc lo (.ref b :: .int x :: .ref a :: st) Y I L cells slots := by
  intro ls H locs hl hP hS
  obtain ⟨hx, hb, hml, hown, hts, hK, hbs, hST⟩ := C
  have hft : ftc (aty t) = 2 := by
    match t, ht8, htr with
    | 4, _, _ => rfl
    | 5, _, _ => rfl
    | 6, _, _ => rfl
    | 7, _, _ => rfl
  have hrf : (aty t).isReference = true := by
    match t, ht8, htr with
    | 4, _, _ => rfl
    | 5, _, _ => rfl
    | 6, _, _ => rfl
    | 7, _, _ => rfl
  have q1 : H[a]? = some (arrV (G.2.1 t) n (fun j => fv (ftc (aty t)) (I a j) (L a j) (Y.2.2 a j))) := hP.2 a _ hA
  have hin := hi.in
  have hnn := hi.nat
  have h0 : ¬ x < 0 := fun q => hin (Or.inl q)
  obtain ⟨q, hq, cell, g1, g2, g3, -⟩ := hP.2 b _ hB
  rw [hq] at htc
  have hat : aty t = .object q.1 := (Option.some.inj htc).symm
  have hcls := (hK.1 ci q hq).2
  have h2 := (hK.2 t _ (atys_at G ht8)).2
  dsimp only at h2
  rw [hat] at h2
  obtain ⟨kA, comp, k1, k2, k3, -⟩ := h2
  have hcomp : comp = G.1.1 ci := Option.some.inj (k3.symm.trans hcls.1)
  subst hcomp
  obtain ⟨kC, hkC, -⟩ := hcls.2
  refine W.aast hx hb q1 (fun q h => by cases h) (fun h => by cases h) k1 k2 rfl hkC ⟨h0, by rw [arrV_size, hnn]; exact hi.2.1⟩ g1 (fun q h => by rw [g3] at h; cases h) (by rw [g2]; exact hkC) (by rw [g2]; exact va_assign hcls) rfl rfl hd fun H' e1 e2 e3 => ?_
  rw [hnn] at e1 ⊢
  refine kk ls H' _ hl (HP.setR hP hA (up1 (Y.2.2 a) i (some b)) ?_ e2 e3) (Sput hS hA e2 e3)
  show H'[a]? = some _
  rw [e1, arrV_store]
  congr 2
  funext j
  by_cases hj : j = i
  · subst hj
    simp only [updV, if_pos, up1_s, hft]
    rfl
  · simp only [updV, if_neg hj, up1_n hj]
theorem r_alen (C : Cx p s m args c cc nL own G base) {a n t : Nat} (ht8 : t < 8) (hd : decode cc pc = .ok (.arraylength, 1)) (hA : Is base Y a (.inr (t, n))) (kk : Rn p l e R s m args below meth c nL G base Q (pc + 1) lo (.int (iI n) :: st) Y I L cells slots) : Rn p l e R s m args below meth c nL G base Q pc lo (.ref a :: st) Y I L cells slots := by
  intro ls H locs hl hP hS
  obtain ⟨hx, hb, hml, hown, hts, hK, hbs, hST⟩ := C
  have q1 : H[a]? = some (arrV (G.2.1 t) n (fun j => fv (ftc (aty t)) (I a j) (L a j) (Y.2.2 a j))) := hP.2 a _ hA
  refine W.alen hx hb q1 ((hK.2 t _ (atys_at G ht8)).1 n _) (n := iI n) ?_ rfl rfl hd (kk ls H locs hl hP hS)
  rw [arrV_size]
  exact (Int32.ofInt_eq_ofNat).symm
theorem r_new (C : Cx p s m args c cc nL own G base) {idx ci N : Nat} {D : String} {T : u_T} (hk : CK ci D T N) (hw1 : Cond.classLink own idx D ∈ tW) (hw2 : Cond.instantiable D N ∈ tW) (hw3 : Cond.initialized D ∈ tW) (hdf : ∀ k, k < N → defaultValue (tyf ci k) = fv (tc ci k) 0 0 none) (hcell : cells + 1 ≤ R.cells) (hslot : slots + N ≤ R.slots) (hd : decode cc pc = .ok (.new idx, 3)) (kk : ∀ a, a = base + Y.1 → Rn p l e R s m args below meth c nL G base Q (pc + 3) lo (.ref a :: st) (Y.1 + 1, up1 Y.2.1 a (.inl ci), up1 Y.2.2 a (fun _ => none)) (up1 I a (fun _ => 0)) (up1 L a (fun _ => 0)) (cells + 1) (slots + N)) : Rn p l e R s m args below meth c nL G base Q pc lo st Y I L cells slots := by
  intro ls H locs hl hP hS
  obtain ⟨hx, hb, hml, hown, hts, hK, hbs, hST⟩ := C
  obtain ⟨h1, h2, h3, h4, h5⟩ := hk
  have hKn := hK.1 ci _ h1
  refine W.newcK hx hb hown (hts _ hw1) (hts _ hw2) (hts _ hw3) rfl hd hcell hslot hKn.2.1 rfl fun H1 kC hkC e1 z1 o1 => ?_
  rw [show H.size = base + Y.1 from hP.1]
  refine kk _ rfl ls H1 locs hl (hP.new _ _ _ _ ?_ z1 o1) (Snew hS z1 o1)
  refine ⟨_, h1, (u_born (tyf ci) hts h3 hKn hkC e1 h4).to (fun k hk => hdf k hk)⟩
theorem r_newa (C : Cx p s m args c cc nL own G base) {t n : Nat} {x : Int32} {aty0 : ArrayType} (ht8 : t < 4) (hty : newarray.typeOf aty0 = aty t) (hw : Cond.arrayClass (aty t) ∈ tW) (hn : x = iI n) (hn2 : n ≤ 10000) (hcell : cells + 1 ≤ R.cells) (hslot : slots + n ≤ R.slots) (hd : decode cc pc = .ok (.newarray aty0, 2)) (kk : ∀ a, a = base + Y.1 → Rn p l e R s m args below meth c nL G base Q (pc + 2) lo (.ref a :: st) (Y.1 + 1, up1 Y.2.1 a (.inr (t, n)), up1 Y.2.2 a (fun _ => none)) (up1 I a (fun _ => 0)) (up1 L a (fun _ => 0)) (cells + 1) (slots + n)) : Rn p l e R s m args below meth c nL G base Q pc lo (.int x :: st) Y I L cells slots := by
  intro ls H locs hl hP hS
  obtain ⟨hx, hb, hml, hown, hts, hK, hbs, hST⟩ := C
  have hnn : x.toNatClampNeg = n := by rw [hn]; exact iI_nat (by omega)
  have h0 : ¬ x < 0 := by
    intro q
    rw [hn, Int32.lt_iff_toInt_lt, iI_toInt (by omega) (by omega)] at q
    have : (0 : Int32).toInt = 0 := rfl
    omega
  have hcb : n * componentBytes (newarray.typeOf aty0) ≤ 536870912 := by
    have h8 : componentBytes (newarray.typeOf aty0) ≤ 8 := by cases aty0 <;> decide
    calc n * componentBytes (newarray.typeOf aty0) ≤ 10000 * 8 := Nat.mul_le_mul hn2 h8
      _ ≤ 536870912 := by decide
  refine va_newaK hx hb (by rw [hty]; exact hts _ hw) rfl hd rfl h0 hnn hcb hcell hslot rfl fun H1 cA e1 z1 o1 hAr hNm => ?_
  rw [show H.size = base + Y.1 from hP.1]
  have h2 := (hK.2 t _ (atys_at G (by omega : t < 8))).2
  have hcA : cA = G.2.1 t := by
    dsimp only at h2
    rw [hty] at hNm
    match t, ht8 with
    | 0, _ => exact Option.some.inj (hNm.symm.trans h2)
    | 1, _ => exact Option.some.inj (hNm.symm.trans h2)
    | 2, _ => exact Option.some.inj (hNm.symm.trans h2)
    | 3, _ => exact Option.some.inj (hNm.symm.trans h2)
  subst hcA
  refine kk _ rfl ls H1 locs hl (hP.new _ _ _ _ ?_ z1 o1) (Snew hS z1 o1)
  show H1[H.size]? = some _
  rw [e1, hty]
  match t, ht8 with
  | 0, _ => rfl
  | 1, _ => rfl
  | 2, _ => rfl
  | 3, _ => rfl
theorem r_anew (C : Cx p s m args c cc nL own G base) {t n idx : Nat} {x : Int32} {D : String} (ht8 : t < 8) (htr : 4 ≤ t) (hty : aty t = .object D) (hDn : D ∈ ncl) (hw : Cond.classLink own idx D ∈ tW) (hn : x = iI n) (hn2 : n ≤ 10000) (hcell : cells + 1 ≤ R.cells) (hslot : slots + n ≤ R.slots) (hd : decode cc pc = .ok (.anewarray idx, 3)) (kk : ∀ a, a = base + Y.1 → Rn p l e R s m args below meth c nL G base Q (pc + 3) lo (.ref a :: st) (Y.1 + 1, up1 Y.2.1 a (.inr (t, n)), up1 Y.2.2 a (fun _ => none)) (up1 I a (fun _ => 0)) (up1 L a (fun _ => 0)) (cells + 1) (slots + n)) : Rn p l e R s m args below meth c nL G base Q pc lo (.int x :: st) Y I L cells slots := by
  intro ls H locs hl hP hS
  obtain ⟨hx, hb, hml, hown, hts, hK, hbs, hST⟩ := C
  have hft : ftc (aty t) = 2 := by
    match t, ht8, htr with
    | 4, _, _ => rfl
    | 5, _, _ => rfl
    | 6, _, _ => rfl
    | 7, _, _ => rfl
  have hrf : (aty t).isReference = true := by
    match t, ht8, htr with
    | 4, _, _ => rfl
    | 5, _, _ => rfl
    | 6, _, _ => rfl
    | 7, _, _ => rfl
  have hnn : x.toNatClampNeg = n := by rw [hn]; exact iI_nat (by omega)
  have h0 : ¬ x < 0 := by
    intro q
    rw [hn, Int32.lt_iff_toInt_lt, iI_toInt (by omega) (by omega)] at q
    have : (0 : Int32).toInt = 0 := rfl
    omega
  refine W.anew hx hb hown (hts _ hw) (va_AO.use (hST.2.1 D hDn)) rfl hd rfl h0 (by rw [hnn]; omega) hcell (by rw [hnn]; exact hslot) fun cA kA comp f1 f2 f3 f4 => ?_
  rw [hnn]
  generalize hH1 : H.push ({ cls := cA, slots := Array.replicate n .null, vm := .none } : Cell) = H1
  have z1 : H1.size = H.size + 1 := by rw [← hH1, Array.size_push]
  have e1 : H1[H.size]? = some (arrV cA n (fun _ => .null)) := by rw [← hH1, Array.getElem?_push_size, ← arrV_new]
  have o1 : ∀ q : Nat, q < H.size → H1[q]? = H[q]? := fun q hq => by rw [← hH1, Array.getElem?_push, if_neg (Nat.ne_of_lt hq)]
  have h2 := (hK.2 t _ (atys_at G ht8)).2
  dsimp only at h2
  rw [hty] at h2
  obtain ⟨kA', comp', k1, k2, k3, k4⟩ := h2
  have hcA : cA = G.2.1 t := Option.some.inj (f1.symm.trans k4)
  subst hcA
  rw [show H.size = base + Y.1 from hP.1]
  refine kk _ rfl ls H1 locs hl (hP.new _ _ _ _ ?_ z1 o1) (Snew hS z1 o1)
  show H1[H.size]? = some _
  rw [e1, hft]
  rfl
end MEM
