/-- a cell of kind d was made at a -/
def NW (base : Nat) (Y : MY) (d : Kd) (Y' : MY) (a : Nat) : Prop := a = base + Y.1 ∧ Y'.1 = Y.1 + 1 ∧ Y'.2.1 = up1 Y.2.1 a d ∧ Y'.2.2 = up1 Y.2.2 a (fun _ => none)
theorem NW.is {base : Nat} {Y Y' : MY} {d : Kd} {a : Nat} (h : NW base Y d Y' a) : Is base Y' a d := by
  obtain ⟨h1, h2, h3, h4⟩ := h
  refine ⟨⟨by omega, by omega⟩, ?_⟩
  rw [h3, up1_s]
theorem NW.keep {base : Nat} {Y Y' : MY} {d d' : Kd} {a x : Nat} (h : NW base Y d Y' a) (hx : Is base Y x d') : Is base Y' x d' := by
  obtain ⟨h1, h2, h3, h4⟩ := h
  obtain ⟨⟨g1, g2⟩, g3⟩ := hx
  refine ⟨⟨g1, by omega⟩, ?_⟩
  rw [h3, up1_n (by omega)]
  exact g3
theorem NW.rn {base : Nat} {Y Y' : MY} {d : Kd} {a x : Nat} (h : NW base Y d Y' a) (hx : x ≠ a) : Y'.2.2 x = Y.2.2 x := by rw [h.2.2.2, up1_n hx]
theorem NW.kn {base : Nat} {Y Y' : MY} {d : Kd} {a x : Nat} (h : NW base Y d Y' a) (hx : x ≠ a) : Y'.2.1 x = Y.2.1 x := by rw [h.2.2.1, up1_n hx]
/-- the reference k of a is set -/
def PR (Y : MY) (a k x : Nat) (Y' : MY) : Prop := Y' = (Y.1, Y.2.1, up2 Y.2.2 a k (some x))
theorem PR.keep {base : Nat} {Y Y' : MY} {d : Kd} {a k x z : Nat} (h : PR Y a k x Y') (hz : Is base Y z d) : Is base Y' z d := by subst h; exact hz
theorem PR.at {Y Y' : MY} {a k x : Nat} (h : PR Y a k x Y') : Y'.2.2 a k = some x := by subst h; exact up2_s
theorem PR.nk {Y Y' : MY} {a k x j : Nat} (h : PR Y a k x Y') (hj : j ≠ k) : Y'.2.2 a j = Y.2.2 a j := by subst h; exact up2_nk hj
theorem PR.rn {Y Y' : MY} {a k x z : Nat} (h : PR Y a k x Y') (hz : z ≠ a) : Y'.2.2 z = Y.2.2 z := by subst h; exact up2_rown hz
theorem PR.kn {Y Y' : MY} {a k x : Nat} (h : PR Y a k x Y') : Y'.2.1 = Y.2.1 := by subst h; rfl
theorem PR.n {Y Y' : MY} {a k x : Nat} (h : PR Y a k x Y') : Y'.1 = Y.1 := by subst h; rfl
section MK
variable {p : Program} {l : Launch} {e : Env} {R : Room} {s : State} {m : MethodId} {args : Array Value} {below : List Frame} {meth : Method} {c : Code} {cc : ByteArray} {nL : Nat} {own : String} {G : Gd} {base : Nat} {Q : State → Prop} {pc : Nat} {lo lo' : List (Nat × Value)} {st : List Value} {Y : MY} {I : MI} {L : ML} {cells slots : Nat}
theorem m_newa (C : Cx p s m args c cc nL own G base) {t n : Nat} {x : Int32} {aty0 : ArrayType} (ht8 : t < 4) (hty : newarray.typeOf aty0 = aty t) (hw : Cond.arrayClass (aty t) ∈ tW) (hn : x = iI n) (hn2 : n ≤ 10000) (hcell : cells + 1 ≤ R.cells) (hslot : slots + n ≤ R.slots) (hd : decode cc pc = .ok (.newarray aty0, 2)) (kk : ∀ a Y' I' L', NW base Y (.inr (t, n)) Y' a → I' = up1 I a (fun _ => 0) → L' = up1 L a (fun _ => 0) → Rn p l e R s m args below meth c nL G base Q ((pc + 2)) lo ((.ref a :: st)) Y' I' L' ((cells + 1)) ((slots + n))) : Rn p l e R s m args below meth c nL G base Q pc lo ((.int x :: st)) Y I L cells slots :=
  r_newa C ht8 hty hw hn hn2 hcell hslot hd (fun a ha => kk a _ _ _ ⟨ha, rfl, rfl, rfl⟩ rfl rfl)
theorem m_anew (C : Cx p s m args c cc nL own G base) {t n idx : Nat} {x : Int32} {D : String} (ht8 : t < 8) (htr : 4 ≤ t) (hty : aty t = .object D) (hDn : D ∈ ncl) (hw : Cond.classLink own idx D ∈ tW) (hn : x = iI n) (hn2 : n ≤ 10000) (hcell : cells + 1 ≤ R.cells) (hslot : slots + n ≤ R.slots) (hd : decode cc pc = .ok (.anewarray idx, 3)) (kk : ∀ a Y' I' L', NW base Y (.inr (t, n)) Y' a → I' = up1 I a (fun _ => 0) → L' = up1 L a (fun _ => 0) → Rn p l e R s m args below meth c nL G base Q ((pc + 3)) lo ((.ref a :: st)) Y' I' L' ((cells + 1)) ((slots + n))) : Rn p l e R s m args below meth c nL G base Q pc lo ((.int x :: st)) Y I L cells slots :=
  r_anew C ht8 htr hty hDn hw hn hn2 hcell hslot hd (fun a ha => kk a _ _ _ ⟨ha, rfl, rfl, rfl⟩ rfl rfl)
theorem m_new (C : Cx p s m args c cc nL own G base) {idx ci N : Nat} {D : String} {T : u_T} (hk : CK ci D T N) (hw1 : Cond.classLink own idx D ∈ tW) (hw2 : Cond.instantiable D N ∈ tW) (hw3 : Cond.initialized D ∈ tW) (hdf : ∀ k, k < N → defaultValue (tyf ci k) = fv (tc ci k) 0 0 none) (hcell : cells + 1 ≤ R.cells) (hslot : slots + N ≤ R.slots) (hd : decode cc pc = .ok (.new idx, 3)) (kk : ∀ a Y' I' L', NW base Y (.inl ci) Y' a → I' = up1 I a (fun _ => 0) → L' = up1 L a (fun _ => 0) → Rn p l e R s m args below meth c nL G base Q ((pc + 3)) lo ((.ref a :: st)) Y' I' L' ((cells + 1)) ((slots + N))) : Rn p l e R s m args below meth c nL G base Q pc lo st Y I L cells slots :=
  r_new C hk hw1 hw2 hw3 hdf hcell hslot hd (fun a ha => kk a _ _ _ ⟨ha, rfl, rfl, rfl⟩ rfl rfl)
theorem m_putRF (C : Cx p s m args c cc nL own G base) {idx ci k a : Nat} {x : Nat} (hF : FL own idx ci k true) (ht : tc ci k = 2) (hd : decode cc pc = .ok (.putfield idx, 3)) (hA : Is base Y a (.inl ci)) (hin : meth.name = "<init>") (hoc : (vwCl[ci]?).map (fun q => q.1) = some own) (kk : ∀ Y', PR Y a k x Y' → Rn p l e R s m args below meth c nL G base Q ((pc + 3)) lo st Y' I L cells slots) : Rn p l e R s m args below meth c nL G base Q pc lo ((.ref x :: .ref a :: st)) Y I L cells slots := r_putRF C hF ht hd hA hin hoc (kk _ rfl)
theorem m_putR (C : Cx p s m args c cc nL own G base) {idx ci k a : Nat} {x : Nat} (hF : FL own idx ci k false) (ht : tc ci k = 2) (hd : decode cc pc = .ok (.putfield idx, 3)) (hA : Is base Y a (.inl ci)) (kk : ∀ Y', PR Y a k x Y' → Rn p l e R s m args below meth c nL G base Q ((pc + 3)) lo st Y' I L cells slots) : Rn p l e R s m args below meth c nL G base Q pc lo ((.ref x :: .ref a :: st)) Y I L cells slots := r_putR C hF ht hd hA (kk _ rfl)
theorem r_eqL {L2 : ML} (h : L = L2) (kk : Rn p l e R s m args below meth c nL G base Q pc lo st Y I L2 cells slots) : Rn p l e R s m args below meth c nL G base Q pc lo st Y I L cells slots := by subst h; exact kk
theorem r_eqI {I2 : MI} (h : I = I2) (kk : Rn p l e R s m args below meth c nL G base Q pc lo st Y I2 L cells slots) : Rn p l e R s m args below meth c nL G base Q pc lo st Y I L cells slots := by subst h; exact kk
end MK
/-- the reference's row at its beginning -/
def ini : Sa := up1 (up1 (up1 (up1 (up1 (fun _ => 0) 3 2) 4 1) 5 10) 6 1) 8 (-6)
set_option maxHeartbeats 4000000 in
set_option maxRecDepth 20000 in
theorem k_X6_init {l : Launch} {G : Gd} {base : Nat} {Y : MY} {I : MI} {L : ML} {M : Nat} (h0 : Is base Y M (.inl 6)) (hY : base + Y.1 = M + 1) : Ct l yX6_init cX6_init 1 none { frames := 1, cells := 6, slots := 7586, locals := 40 } G base [.ref M] Y I L (fun v Y' I' L' => v = none ∧ MLy base Y' M ∧ Y'.1 = Y.1 + 6 ∧ (∀ x, x < M → Y'.2.1 x = Y.2.1 x ∧ Y'.2.2 x = Y.2.2 x ∧ I' x = I x ∧ L' x = L x) ∧ (∀ k, I' (M + 4) k = 0) ∧ ∃ L0, L' = rL L0 (M + 1) ini) := by
  refine Ct.of (own := RX6) (lo := [(0, .ref M)]) (by decide) rfl (Nat.le_of_ble_eq_true rfl) rfl ?_
  intro zp ze zs zm zargs zbl zmt zc C hr hlk hnm
  refine r_aload_n C 0 dX6_init_0 rfl rfl ?_
  refine r_oinit C wo_X6_1 dX6_init_1 (Nat.le_of_ble_eq_true rfl) (Nat.le_of_ble_eq_true rfl) ?_
  refine r_aload_n C 0 dX6_init_4 rfl rfl ?_
  refine r_sipush (v := iI 1826) C dX6_init_5 (by decide) ?_
  refine m_newa (t := 1) (n := 1826) C (by decide) rfl wa_1 rfl (by decide) (Nat.le_of_ble_eq_true rfl) (Nat.le_of_ble_eq_true rfl) dX6_init_8 (fun x1 Z1 I1 L1 n1 eI1 eL1 => ?_)
  have g1 : Is base Z1 M (.inl 6) := n1.keep h0
  refine m_putRF C fl_X6_7 rfl dX6_init_10 g1 (hnm.trans rfl) rfl (fun Y1 p1 => ?_)
  have h1 : Is base Y1 M (.inl 6) := p1.keep g1
  have y1 : base + Y1.1 = M + 2 := by rw [p1.n, n1.2.1]; omega
  have e1 : x1 = M + 1 := by have := n1.1; omega
  have c1_1 : Is base Y1 (M + 1) (.inr (1, 1826)) := by rw [← e1]; exact p1.keep n1.is
  have f1_1 : Y1.2.2 M 0 = some (M + 1) := by rw [p1.at, e1]
  refine r_aload_n C 0 dX6_init_13 rfl rfl ?_
  refine r_sipush (v := iI 1826) C dX6_init_14 (by decide) ?_
  refine m_newa (t := 1) (n := 1826) C (by decide) rfl wa_1 rfl (by decide) (Nat.le_of_ble_eq_true rfl) (Nat.le_of_ble_eq_true rfl) dX6_init_17 (fun x2 Z2 I2 L2 n2 eI2 eL2 => ?_)
  have g2 : Is base Z2 M (.inl 6) := n2.keep h1
  refine m_putRF C fl_X6_13 rfl dX6_init_19 g2 (hnm.trans rfl) rfl (fun Y2 p2 => ?_)
  have h2 : Is base Y2 M (.inl 6) := p2.keep g2
  have y2 : base + Y2.1 = M + 3 := by rw [p2.n, n2.2.1]; omega
  have e2 : x2 = M + 2 := by have := n2.1; omega
  have c1_2 : Is base Y2 (M + 1) (.inr (1, 1826)) := p2.keep (n2.keep c1_1)
  have c2_2 : Is base Y2 (M + 2) (.inr (1, 1826)) := by rw [← e2]; exact p2.keep n2.is
  have f1_2 : Y2.2.2 M 0 = some (M + 1) := by rw [p2.nk (by decide), n2.rn (by omega)]; exact f1_1
  have f2_2 : Y2.2.2 M 1 = some (M + 2) := by rw [p2.at, e2]
  refine r_aload_n C 0 dX6_init_22 rfl rfl ?_
  refine r_sipush (v := iI 3652) C dX6_init_23 (by decide) ?_
  refine m_newa (t := 1) (n := 3652) C (by decide) rfl wa_1 rfl (by decide) (Nat.le_of_ble_eq_true rfl) (Nat.le_of_ble_eq_true rfl) dX6_init_26 (fun x3 Z3 I3 L3 n3 eI3 eL3 => ?_)
  have g3 : Is base Z3 M (.inl 6) := n3.keep h2
  refine m_putRF C fl_X6_16 rfl dX6_init_28 g3 (hnm.trans rfl) rfl (fun Y3 p3 => ?_)
  have h3 : Is base Y3 M (.inl 6) := p3.keep g3
  have y3 : base + Y3.1 = M + 4 := by rw [p3.n, n3.2.1]; omega
  have e3 : x3 = M + 3 := by have := n3.1; omega
  have c1_3 : Is base Y3 (M + 1) (.inr (1, 1826)) := p3.keep (n3.keep c1_2)
  have c2_3 : Is base Y3 (M + 2) (.inr (1, 1826)) := p3.keep (n3.keep c2_2)
  have c3_3 : Is base Y3 (M + 3) (.inr (1, 3652)) := by rw [← e3]; exact p3.keep n3.is
  have f1_3 : Y3.2.2 M 0 = some (M + 1) := by rw [p3.nk (by decide), n3.rn (by omega)]; exact f1_2
  have f2_3 : Y3.2.2 M 1 = some (M + 2) := by rw [p3.nk (by decide), n3.rn (by omega)]; exact f2_2
  have f3_3 : Y3.2.2 M 2 = some (M + 3) := by rw [p3.at, e3]
  refine r_aload_n C 0 dX6_init_31 rfl rfl ?_
  refine r_iconst (v := iI 2) C dX6_init_32 rfl ?_
  refine m_newa (t := 2) (n := 2) C (by decide) rfl wa_2 rfl (by decide) (Nat.le_of_ble_eq_true rfl) (Nat.le_of_ble_eq_true rfl) dX6_init_33 (fun x4 Z4 I4 L4 n4 eI4 eL4 => ?_)
  have g4 : Is base Z4 M (.inl 6) := n4.keep h3
  refine m_putRF C fl_X6_19 rfl dX6_init_35 g4 (hnm.trans rfl) rfl (fun Y4 p4 => ?_)
  have h4 : Is base Y4 M (.inl 6) := p4.keep g4
  have y4 : base + Y4.1 = M + 5 := by rw [p4.n, n4.2.1]; omega
  have e4 : x4 = M + 4 := by have := n4.1; omega
  have c1_4 : Is base Y4 (M + 1) (.inr (1, 1826)) := p4.keep (n4.keep c1_3)
  have c2_4 : Is base Y4 (M + 2) (.inr (1, 1826)) := p4.keep (n4.keep c2_3)
  have c3_4 : Is base Y4 (M + 3) (.inr (1, 3652)) := p4.keep (n4.keep c3_3)
  have c4_4 : Is base Y4 (M + 4) (.inr (2, 2)) := by rw [← e4]; exact p4.keep n4.is
  have f1_4 : Y4.2.2 M 0 = some (M + 1) := by rw [p4.nk (by decide), n4.rn (by omega)]; exact f1_3
  have f2_4 : Y4.2.2 M 1 = some (M + 2) := by rw [p4.nk (by decide), n4.rn (by omega)]; exact f2_3
  have f3_4 : Y4.2.2 M 2 = some (M + 3) := by rw [p4.nk (by decide), n4.rn (by omega)]; exact f3_3
  have f4_4 : Y4.2.2 M 3 = some (M + 4) := by rw [p4.at, e4]
  refine r_aload_n C 0 dX6_init_38 rfl rfl ?_
  refine r_sipush (v := iI 160) C dX6_init_39 (by decide) ?_
  refine m_newa (t := 0) (n := 160) C (by decide) rfl wa_0 rfl (by decide) (Nat.le_of_ble_eq_true rfl) (Nat.le_of_ble_eq_true rfl) dX6_init_42 (fun x5 Z5 I5 L5 n5 eI5 eL5 => ?_)
  have g5 : Is base Z5 M (.inl 6) := n5.keep h4
  refine m_putRF C fl_X6_23 rfl dX6_init_44 g5 (hnm.trans rfl) rfl (fun Y5 p5 => ?_)
  have h5 : Is base Y5 M (.inl 6) := p5.keep g5
  have y5 : base + Y5.1 = M + 6 := by rw [p5.n, n5.2.1]; omega
  have e5 : x5 = M + 5 := by have := n5.1; omega
  have c1_5 : Is base Y5 (M + 1) (.inr (1, 1826)) := p5.keep (n5.keep c1_4)
  have c2_5 : Is base Y5 (M + 2) (.inr (1, 1826)) := p5.keep (n5.keep c2_4)
  have c3_5 : Is base Y5 (M + 3) (.inr (1, 3652)) := p5.keep (n5.keep c3_4)
  have c4_5 : Is base Y5 (M + 4) (.inr (2, 2)) := p5.keep (n5.keep c4_4)
  have c5_5 : Is base Y5 (M + 5) (.inr (0, 160)) := by rw [← e5]; exact p5.keep n5.is
  have f1_5 : Y5.2.2 M 0 = some (M + 1) := by rw [p5.nk (by decide), n5.rn (by omega)]; exact f1_4
  have f2_5 : Y5.2.2 M 1 = some (M + 2) := by rw [p5.nk (by decide), n5.rn (by omega)]; exact f2_4
  have f3_5 : Y5.2.2 M 2 = some (M + 3) := by rw [p5.nk (by decide), n5.rn (by omega)]; exact f3_4
  have f4_5 : Y5.2.2 M 3 = some (M + 4) := by rw [p5.nk (by decide), n5.rn (by omega)]; exact f4_4
  have f5_5 : Y5.2.2 M 6 = some (M + 5) := by rw [p5.at, e5]
  refine r_aload_n C 0 dX6_init_47 rfl rfl ?_
  refine r_bipush (v := iI 120) C dX6_init_48 (by decide) ?_
  refine m_newa (t := 2) (n := 120) C (by decide) rfl wa_2 rfl (by decide) (Nat.le_of_ble_eq_true rfl) (Nat.le_of_ble_eq_true rfl) dX6_init_50 (fun x6 Z6 I6 L6 n6 eI6 eL6 => ?_)
  have g6 : Is base Z6 M (.inl 6) := n6.keep h5
  refine m_putRF C fl_X6_27 rfl dX6_init_52 g6 (hnm.trans rfl) rfl (fun Y6 p6 => ?_)
  have h6 : Is base Y6 M (.inl 6) := p6.keep g6
  have y6 : base + Y6.1 = M + 7 := by rw [p6.n, n6.2.1]; omega
  have e6 : x6 = M + 6 := by have := n6.1; omega
  have c1_6 : Is base Y6 (M + 1) (.inr (1, 1826)) := p6.keep (n6.keep c1_5)
  have c2_6 : Is base Y6 (M + 2) (.inr (1, 1826)) := p6.keep (n6.keep c2_5)
  have c3_6 : Is base Y6 (M + 3) (.inr (1, 3652)) := p6.keep (n6.keep c3_5)
  have c4_6 : Is base Y6 (M + 4) (.inr (2, 2)) := p6.keep (n6.keep c4_5)
  have c5_6 : Is base Y6 (M + 5) (.inr (0, 160)) := p6.keep (n6.keep c5_5)
  have c6_6 : Is base Y6 (M + 6) (.inr (2, 120)) := by rw [← e6]; exact p6.keep n6.is
  have f1_6 : Y6.2.2 M 0 = some (M + 1) := by rw [p6.nk (by decide), n6.rn (by omega)]; exact f1_5
  have f2_6 : Y6.2.2 M 1 = some (M + 2) := by rw [p6.nk (by decide), n6.rn (by omega)]; exact f2_5
  have f3_6 : Y6.2.2 M 2 = some (M + 3) := by rw [p6.nk (by decide), n6.rn (by omega)]; exact f3_5
  have f4_6 : Y6.2.2 M 3 = some (M + 4) := by rw [p6.nk (by decide), n6.rn (by omega)]; exact f4_5
  have f5_6 : Y6.2.2 M 6 = some (M + 5) := by rw [p6.nk (by decide), n6.rn (by omega)]; exact f5_5
  have f6_6 : Y6.2.2 M 10 = some (M + 6) := by rw [p6.at, e6]
  have hL1 : ∀ k, L6 (M + 1) k = lI ((fun _ => 0 : Sa) k) := by
    intro k
    rw [eL6, up1_n (by omega), eL5, up1_n (by omega), eL4, up1_n (by omega), eL3, up1_n (by omega), eL2, up1_n (by omega), eL1, e1, up1_s]
    rfl
  refine r_eqL (rL_self hL1).symm ?_
  refine r_aload_n C 0 dX6_init_55 rfl rfl ?_
  refine r_getR C fl_X6_7 rfl dX6_init_56 h6 f1_6 ?_
  refine r_iconst (v := iI 3) C dX6_init_59 rfl ?_
  refine n_ldc2 (v := 2) C lc_X6_30 (by decide) dX6_init_60 ?_
  refine a_last C 3 dX6_init_63 c1_6 ⟨rfl, by decide, by decide⟩ (fun a1 ea1 => ?_)
  refine r_aload_n C 0 dX6_init_64 rfl rfl ?_
  refine r_getR C fl_X6_7 rfl dX6_init_65 h6 f1_6 ?_
  refine r_iconst (v := iI 4) C dX6_init_68 rfl ?_
  refine r_lconst (v := lI 1) C dX6_init_69 (by decide) ?_
  refine a_last C 4 dX6_init_70 c1_6 ⟨rfl, by decide, by decide⟩ (fun a2 ea2 => ?_)
  refine r_aload_n C 0 dX6_init_71 rfl rfl ?_
  refine r_getR C fl_X6_7 rfl dX6_init_72 h6 f1_6 ?_
  refine r_iconst (v := iI 5) C dX6_init_75 rfl ?_
  refine n_ldc2 (v := 10) C lc_X6_32 (by decide) dX6_init_76 ?_
  refine a_last C 5 dX6_init_79 c1_6 ⟨rfl, by decide, by decide⟩ (fun a3 ea3 => ?_)
  refine r_aload_n C 0 dX6_init_80 rfl rfl ?_
  refine r_getR C fl_X6_7 rfl dX6_init_81 h6 f1_6 ?_
  refine r_bipush (v := iI 6) C dX6_init_84 (by decide) ?_
  refine r_lconst (v := lI 1) C dX6_init_86 (by decide) ?_
  refine a_last C 6 dX6_init_87 c1_6 ⟨rfl, by decide, by decide⟩ (fun a4 ea4 => ?_)
  refine r_aload_n C 0 dX6_init_88 rfl rfl ?_
  refine r_getR C fl_X6_7 rfl dX6_init_89 h6 f1_6 ?_
  refine r_bipush (v := iI 8) C dX6_init_92 (by decide) ?_
  refine n_ldc2 (v := (-6)) C lc_X6_34 (by decide) dX6_init_94 ?_
  refine a_last C 8 dX6_init_97 c1_6 ⟨rfl, by decide, by decide⟩ (fun a5 ea5 => ?_)
  refine r_vret C hr hlk dX6_init_98 (Nat.le_of_ble_eq_true rfl) (Nat.le_of_ble_eq_true rfl) ?_
  refine ⟨rfl, ⟨⟨h6, c1_6, c2_6, c3_6, c4_6, c5_6, c6_6⟩, f1_6, f2_6, f3_6, f4_6, f5_6, f6_6⟩, by omega, ?_, ?_, L6, ?_⟩
  · intro x hx
    refine ⟨?_, ?_, ?_, ?_⟩
    · rw [p6.kn, n6.kn (by omega), p5.kn, n5.kn (by omega), p4.kn, n4.kn (by omega), p3.kn, n3.kn (by omega), p2.kn, n2.kn (by omega), p1.kn, n1.kn (by omega)]
    · rw [p6.rn (by omega), n6.rn (by omega), p5.rn (by omega), n5.rn (by omega), p4.rn (by omega), n4.rn (by omega), p3.rn (by omega), n3.rn (by omega), p2.rn (by omega), n2.rn (by omega), p1.rn (by omega), n1.rn (by omega)]
    · rw [eI6, up1_n (by omega), eI5, up1_n (by omega), eI4, up1_n (by omega), eI3, up1_n (by omega), eI2, up1_n (by omega), eI1, up1_n (by omega)]
    · rw [rL_out (by omega), eL6, up1_n (by omega), eL5, up1_n (by omega), eL4, up1_n (by omega), eL3, up1_n (by omega), eL2, up1_n (by omega), eL1, up1_n (by omega)]
  · intro k
    rw [eI6, up1_n (by omega), eI5, up1_n (by omega), eI4, e4, up1_s]
  · rw [ea5, ea4, ea3, ea2, ea1]
    rfl
