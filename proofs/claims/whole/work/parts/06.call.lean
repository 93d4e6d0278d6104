theorem ST.same {G : Gd} {base : Nat} {s t : State} {H : Heap} (h : ST G base s H) (e : s.vm = t.vm) : ST G base t H := by
  have hv : s.vm.Alike t.vm := e ▸ Vm.Alike.refl s.vm
  exact ⟨fun j hj => ⟨(h.1 j hj).1.moved hv, (h.1 j hj).2.moved hv⟩, fun C hC => (h.2.1 C hC).moved hv, va_Nw.same rfl e h.2.2.1, va_Nw.same rfl e h.2.2.2.1, va_Nw.same rfl e h.2.2.2.2⟩
/-- a state of the machine that holds the memory -/
def Wd (G : Gd) (base : Nat) (Y : MY) (I : MI) (L : ML) (U : State) : Prop := KN G U ∧ HP G base Y I L U.heap ∧ ST G base U U.heap
def Qct (G : Gd) (base : Nat) (F : Option Value → MY → MI → ML → Prop) : Array Value → State → Outcome → State → Prop := fun _ st oc t => (∃ v Y I L, oc = .returned v ∧ F v Y I L ∧ Wd G base Y I L t) ∧ va_F (Ab base) st t
/-- the contract of a method: from these arguments and this memory it returns with F -/
def Ct (l : Launch) (y : MethodName) (cc : ByteArray) (nL : Nat) (ret : Option FieldType) (rm : Room) (G : Gd) (base : Nat) (av : List Value) (Y : MY) (I : MI) (L : ML) (F : Option Value → MY → MI → ML → Prop) : Prop :=
  Met l y (.code y cc nL ret :: tW) rm (va_Pc av (fun U => Wd G base Y I L U)) (Qct G base F) rm.cells rm.slots (Ab base)
/-- what is proved of a body -/
abbrev Bd (p : Program) (l : Launch) (e : Env) (rm : Room) (s : State) (m : MethodId) (args : Array Value) (below : List Frame) (meth : Method) (c : Code) (nL : Nat) (G : Gd) (base : Nat) (F : Option Value → MY → MI → ML → Prop) (pc : Nat) (lo : List (Nat × Value)) (st : List Value) (Y : MY) (I : MI) (L : ML) (cells slots : Nat) : Prop :=
  Rn p l e rm s m args below meth c nL G base (MQ below (Qct G base F) args s rm.cells rm.slots (Ab base)) pc lo st Y I L cells slots
theorem tW_self {y : MethodName} {cc : ByteArray} {nL : Nat} {ret : Option FieldType} (h : Cond.code y cc nL ret ∈ tW) : GoodIn tW (.code y cc nL ret :: tW) := by
  intro w hw
  have h2 : w ∈ tW := by
    rcases List.mem_cons.mp hw with rfl | h3
    · exact h
    · exact h3
  exact ⟨h2, good_of_word (List.mem_filter.mp h2).2⟩
theorem Ct.of {l : Launch} {y : MethodName} {cc : ByteArray} {nL : Nat} {ret : Option FieldType} {rm : Room} {G : Gd} {base : Nat} {av : List Value} {Y : MY} {I : MI} {L : ML} {F : Option Value → MY → MI → ML → Prop} {lo : List (Nat × Value)} {own : String}
    (hy : plainName y.cls = true) (hown : y.cls = own) (hlen : (lg_sl av).length ≤ nL) (hlo : lv_args 0 av = lo)
    (body : ∀ (p : Program) (e : Env) (s : State) (m : MethodId) (args : Array Value) (below : List Frame) (meth : Method) (c : Code), Cx p s m args c cc nL own G base → meth.sig.returnType = ret → meth.locks = false → meth.name = y.name → Bd p l e rm s m args below meth c nL G base F 0 lo [] Y I L 0 0) : Ct l y cc nL ret rm G base av Y I L F := by
  refine Met.ofW (cc := cc) (maxL := nL) (ret := ret) hy rfl ?_
  intro p e s m args below meth c s₁ B hml hv
  obtain ⟨rfl, hK, hP, hST⟩ := hv
  subst hown
  have hts0 := atoms_spec (ws := .code y cc nL ret :: tW) B.pre
  have C : Cx p s m av.toArray c cc nL y.cls G base := ⟨B.exec, B.bytes, hml, findClass_of_methodNamed B.named, fun w h => hts0 w (List.mem_cons_of_mem _ h), hK, by rw [hP.1]; omega, hST⟩
  have hl := lv_entry av (n := nL) hlen
  rw [lg_entry_eq]
  rw [hlo] at hl
  exact body p e s m _ below meth c C B.returns B.notSynchronized (name_of_methodNamed B.named B.method).1 _ s.heap [] hl hP va_S.rf
section RET
variable {p : Program} {l : Launch} {e : Env} {R : Room} {s : State} {m : MethodId} {args : Array Value} {below : List Frame} {meth : Method} {c : Code} {cc : ByteArray} {nL : Nat} {own : String} {G : Gd} {base : Nat} {Q : State → Prop} {pc : Nat} {lo lo' : List (Nat × Value)} {st : List Value} {Y : MY} {I : MI} {L : ML} {cells slots : Nat} {F : Option Value → MY → MI → ML → Prop}
theorem endWd (C : Cx p s m args c cc nL own G base) {H : Heap} {locs : List Loc} (hP : HP G base Y I L H) (hS : va_S (Ab base) s.heap H locs) {t : State} (ht : t.heap = H) (hW : s.WarmedH t.vm) : Wd G base Y I L t := by
  obtain ⟨hx, hb, hml, hown, hts, hK, hbs, hST⟩ := C
  refine ⟨va_K.moved hW.alike hK, by rw [ht]; exact hP, ?_⟩
  rw [ht]
  exact (hST.kept hS.2.1).moved hW
theorem r_iret (C : Cx p s m args c cc nL own G base) {v : Int32} (hr : meth.sig.returnType = some .int) (hlk : meth.locks = false)  (hd : decode cc pc = .ok (.ireturn, 1)) (hc : cells ≤ R.cells) (hs : slots ≤ R.slots) (hF : F (some (.int v)) Y I L) : Bd p l e R s m args below meth c nL G base F pc lo [.int v] Y I L cells slots := by
  intro ls H locs hl hP hS
  refine W.widen hc hs (W.iret C.1 C.2.1 hr  (fun t ht hW => ⟨⟨_, Y, I, L, rfl, hF, endWd C hP hS ht hW⟩, hS.F ht⟩) hS.2.2 hd hlk)
theorem r_zret (C : Cx p s m args c cc nL own G base) {v : Int32} (hr : meth.sig.returnType = some .boolean) (hlk : meth.locks = false) (hz : v = 0 ∨ v = 1) (hd : decode cc pc = .ok (.ireturn, 1)) (hc : cells ≤ R.cells) (hs : slots ≤ R.slots) (hF : F (some (.int v)) Y I L) : Bd p l e R s m args below meth c nL G base F pc lo [.int v] Y I L cells slots := by
  intro ls H locs hl hP hS
  refine W.widen hc hs (W.zret C.1 C.2.1 hr (by rcases hz with rfl | rfl <;> rfl) (fun t ht hW => ⟨⟨_, Y, I, L, rfl, hF, endWd C hP hS ht hW⟩, hS.F ht⟩) hS.2.2 hd hlk)
theorem r_lret (C : Cx p s m args c cc nL own G base) {v : Int64} (hr : meth.sig.returnType = some .long) (hlk : meth.locks = false)  (hd : decode cc pc = .ok (.lreturn, 1)) (hc : cells ≤ R.cells) (hs : slots ≤ R.slots) (hF : F (some (.long v)) Y I L) : Bd p l e R s m args below meth c nL G base F pc lo [.long v] Y I L cells slots := by
  intro ls H locs hl hP hS
  refine W.widen hc hs (W.lret C.1 C.2.1 hr  (fun t ht hW => ⟨⟨_, Y, I, L, rfl, hF, endWd C hP hS ht hW⟩, hS.F ht⟩) hS.2.2 hd hlk)
theorem r_vret (C : Cx p s m args c cc nL own G base)  (hr : meth.sig.returnType = none) (hlk : meth.locks = false)  (hd : decode cc pc = .ok (.return_, 1)) (hc : cells ≤ R.cells) (hs : slots ≤ R.slots) (hF : F (none) Y I L) : Bd p l e R s m args below meth c nL G base F pc lo [] Y I L cells slots := by
  intro ls H locs hl hP hS
  refine W.widen hc hs (W.vret C.1 C.2.1 hr  (fun t ht hW => ⟨⟨_, Y, I, L, rfl, hF, endWd C hP hS ht hW⟩, hS.F ht⟩) hS.2.2 hd hlk)
theorem r_aret (C : Cx p s m args c cc nL own G base) {a : Nat} {D : String} (hr : meth.sig.returnType = some (.object D)) (hlk : meth.locks = false)  (hd : decode cc pc = .ok (.areturn, 1)) (hc : cells ≤ R.cells) (hs : slots ≤ R.slots) (hF : F (some (.ref a)) Y I L) : Bd p l e R s m args below meth c nL G base F pc lo [.ref a] Y I L cells slots := by
  intro ls H locs hl hP hS
  refine W.widen hc hs (W.aret C.1 C.2.1 hr (Or.inl ⟨_, rfl⟩) (Or.inr ⟨_, rfl⟩) (fun t ht hW => ⟨⟨_, Y, I, L, rfl, hF, endWd C hP hS ht hW⟩, hS.F ht⟩) hS.2.2 hd hlk)
end RET
abbrev nMV (y : MethodName) : Prop := y.cls ≠ "java/lang/invoke/MethodHandle" ∧ y.cls ≠ "java/lang/invoke/VarHandle"
/-- the words of a call -/
def CB (own : String) (idx : Nat) (y : MethodName) (cc : ByteArray) (nL : Nat) (ret : Option FieldType) (n : Nat) : Prop :=
  Cond.methodLink own idx y ∈ tW ∧ Cond.code y cc nL ret ∈ tW ∧ Cond.initialized y.cls ∈ tW ∧ nMV y ∧ (parseMethodDescriptor y.desc).map (fun d => d.parameters.length) = some n
def CV (own : String) (idx ci : Nat) (y : MethodName) (cc : ByteArray) (nL : Nat) (ret : Option FieldType) (n : Nat) : Prop := CB own idx y cc nL ret n ∧ Cond.instanceMethod y ∈ tW ∧ Cond.selects y.cls y y ∈ tW ∧ (vwCl[ci]?).map (fun q => q.1) = some y.cls
def CS (own : String) (idx : Nat) (y : MethodName) (cc : ByteArray) (nL : Nat) (ret : Option FieldType) (n : Nat) : Prop := CB own idx y cc nL ret n ∧ Cond.static y ∈ tW
def CI (own : String) (idx : Nat) (y : MethodName) (cc : ByteArray) (nL : Nat) (n : Nat) : Prop := CB own idx y cc nL none n ∧ y.name = "<init>" ∧ Cond.instanceMethod y ∈ tW
/-- the room of a call: of the caller R, with what it has used, of the callee rm -/
def RM (R rm : Room) (nL cells slots : Nat) : Prop := (rm.frames + 1 ≤ R.frames ∧ 8 + (nL + 11) + rm.locals ≤ R.locals) ∧ cells + rm.cells ≤ R.cells ∧ slots + rm.slots ≤ R.slots
section CALL
variable {p : Program} {l : Launch} {e : Env} {R : Room} {s : State} {m : MethodId} {args : Array Value} {below : List Frame} {meth : Method} {c : Code} {cc : ByteArray} {nL : Nat} {own : String} {G : Gd} {base : Nat} {Q : State → Prop} {pc : Nat} {lo lo' : List (Nat × Value)} {st : List Value} {Y : MY} {I : MI} {L : ML} {cells slots : Nat} {F : Option Value → MY → MI → ML → Prop}
variable {y : MethodName} {bytes : ByteArray} {mL idx ci b n : Nat} {ret : Option FieldType} {rm : Room} {As rest : List Value}
theorem cb_of (C : Cx p s m args c cc nL own G base) (h : CB own idx y bytes mL ret n) (hR : RM R rm mL cells slots) : CallB R s args own idx y bytes mL ret (.code y bytes mL ret :: tW) rm rm.cells rm.slots n := by
  obtain ⟨hx, hb, hml, hown, hts, hK, hbs, hST⟩ := C
  obtain ⟨h1, h2, h3, h4, h5⟩ := h
  exact callB_of n hts (tW_self h2) rfl rfl rfl (hts _ h3) (hts _ h1) ⟨h4.1, h4.2, h5⟩ hR.1
theorem blind (av : List Value) : FrameBlind (va_Pc av (fun U => Wd G base Y I L U)) := by
  intro a U g mk q
  obtain ⟨q0, qK, qP, qS⟩ := q
  exact ⟨q0, va_K.moved (u := U) (U := U.calling g mk a) (Vm.Alike.refl U.vm) qK, qP, qS.same rfl⟩
theorem preU (C : Cx p s m args c cc nL own G base) {H : Heap} {locs : List Loc} (hP : HP G base Y I L H) (hS : va_S (Ab base) s.heap H locs) (av : List Value) : ∀ U : State, U.heap = H → s.WarmedH U.vm → va_Pc av (fun U => Wd G base Y I L U) av.toArray U :=
  fun _ hU hW => ⟨rfl, endWd C hP hS hU hW⟩
theorem r_on {H : Heap} {locs : List Loc} {ls : Array Slot} {st0 : List Value} {a : Array Value} (hl : lv_has ls nL lo) (hS : va_S (Ab base) s.heap H locs)
    (hr : va_Run p l e R s m args below meth c H locs cells slots rm.cells rm.slots (F0 m pc ls st0) rest (Qct G base F a) (Ab base)) (kk : ∀ v Y' I' L', F v Y' I' L' → Rn p l e R s m args below meth c nL G base Q (pc + 3) lo (v.toList ++ rest) Y' I' L' (cells + rm.cells) (slots + rm.slots)) : W p l e R s m args below meth c H locs cells slots Q (F0 m pc ls st0) := by
  intro T hT X
  obtain ⟨v, st₀, t, T', L2, h0, X', hL, e1, e2, ⟨⟨v', Y', I', L', hv, hF, hK', hP', hST'⟩, hz, hk⟩, sT⟩ := hr T hT X
  cases hv
  rw [h0] at hz hk
  rw [← e1] at hz hk hP'
  obtain ⟨t2, a1, b1⟩ := kk v Y' I' L' hF ls T'.heap (locs ++ L2) hl hP'
    ⟨Nat.le_trans hS.1 hz, fun q h1 h2 => by rw [hk q (Nat.lt_of_lt_of_le h1 hS.1) h2]; exact hS.2.1 q h1 h2, fun q hq => by
      rcases List.mem_append.mp hq with h | h
      · exact hS.2.2 q h
      · exact hL q h⟩ T' rfl X'
  exact ⟨t2, sT t2 a1, b1⟩
theorem r_runV (C : Cx p s m args c cc nL own G base) (hM : Ct l y bytes mL ret rm G base (.ref b :: As) Y I L F) (hB : CV own idx ci y bytes mL ret As.length) (hR : RM R rm mL cells slots) (hst : (rest.map fun v => v.category).sum ≤ 8) (hA : Is base Y b (.inl ci)) (hd : decode cc pc = .ok (.invokevirtual idx, 3)) (kk : ∀ v Y' I' L', F v Y' I' L' → Rn p l e R s m args below meth c nL G base Q (pc + 3) lo (v.toList ++ rest) Y' I' L' (cells + rm.cells) (slots + rm.slots)) : Rn p l e R s m args below meth c nL G base Q pc lo (As.reverse ++ .ref b :: rest) Y I L cells slots := by
  intro ls H locs hl hP hS
  obtain ⟨q, hq, cell, g1, g2, g3, -⟩ := hP.2 b _ hA
  have hqn : q.1 = y.cls := by have := hB.2.2.2; rw [hq] at this; exact Option.some.inj this
  exact r_on hl hS (va_runV (As := As) (rest := rest) ⟨C.1, C.2.1, C.2.2.1, C.2.2.2.1, C.2.2.2.2.1⟩ hM ⟨cb_of C hB.1 hR, C.2.2.2.2.1 _ hB.2.1, C.2.2.2.2.1 _ hB.2.2.1⟩ ⟨blind _, ⟨cell, g1, by rw [g3]; rfl, by rw [g2, ← hqn]; exact (C.2.2.2.2.2.1.1 ci q hq).2.1⟩, preU C hP hS (.ref b :: As)⟩ rfl rfl hl.1 rfl (lv_room hst) hd hR.2) kk
theorem r_runS (C : Cx p s m args c cc nL own G base) (hM : Ct l y bytes mL ret rm G base As Y I L F) (hB : CS own idx y bytes mL ret As.length) (hR : RM R rm mL cells slots) (hst : (rest.map fun v => v.category).sum ≤ 8) (hd : decode cc pc = .ok (.invokestatic idx, 3)) (kk : ∀ v Y' I' L', F v Y' I' L' → Rn p l e R s m args below meth c nL G base Q (pc + 3) lo (v.toList ++ rest) Y' I' L' (cells + rm.cells) (slots + rm.slots)) : Rn p l e R s m args below meth c nL G base Q pc lo (As.reverse ++ rest) Y I L cells slots := by
  intro ls H locs hl hP hS
  exact r_on hl hS (va_runS (As := As) (rest := rest) ⟨C.1, C.2.1, C.2.2.1, C.2.2.2.1, C.2.2.2.2.1⟩ hM ⟨cb_of C hB.1 hR, C.2.2.2.2.1 _ hB.2⟩ ⟨blind _, preU C hP hS As⟩ rfl rfl hl.1 rfl (lv_room hst) hd hR.2) kk
theorem r_runI (C : Cx p s m args c cc nL own G base) (hM : Ct l y bytes mL none rm G base (.ref b :: As) Y I L F) (hB : CI own idx y bytes mL As.length) (hR : RM R rm mL cells slots) (hst : (rest.map fun v => v.category).sum ≤ 8) (hd : decode cc pc = .ok (.invokespecial idx, 3)) (kk : ∀ v Y' I' L', F v Y' I' L' → Rn p l e R s m args below meth c nL G base Q (pc + 3) lo (v.toList ++ rest) Y' I' L' (cells + rm.cells) (slots + rm.slots)) : Rn p l e R s m args below meth c nL G base Q pc lo (As.reverse ++ .ref b :: rest) Y I L cells slots := by
  intro ls H locs hl hP hS
  exact r_on hl hS (va_runI (As := As) (rest := rest) ⟨C.1, C.2.1, C.2.2.1, C.2.2.2.1, C.2.2.2.2.1⟩ hM ⟨cb_of C hB.1 hR, hB.2.1, C.2.2.2.2.1 _ hB.2.2⟩ ⟨blind _, preU C hP hS (.ref b :: As)⟩ rfl rfl hl.1 rfl (lv_room hst) hd hR.2) kk
end CALL
