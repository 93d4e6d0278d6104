def R_law : String := "FairLinkLaw"
def lw_P (b : Addr) (xs : List Int32) (args : Array Value) (s : State) : Prop := args = #[.ref b] ∧ s.IntsAt b xs ∧ xs.length ≤ 3072 ∧ (Jvm.Cond.and given_1 narrow_1).before args s = true
def lw_Q (_ : Array Value) (s : State) (o : Outcome) (t : State) : Prop := o = .returned (some (.int 1)) ∧ Framed s o t [] 600000 7302250
def lw_Z (below : List Frame) (a : Array Value) (s : State) : State → Prop := fun t => ∃ o, t.status = .running ∧ Ended t below o ∧ lw_Q a s o t
/-- the law's own end, with 1 on the stack, nothing written that was there before, its room as the claim has it -/
theorem lw_ret {p : Program} {l : Launch} {e : Env} {s : State} {m : MethodId} {below : List Frame} {meth : Method} {c : Code} {b : Nat} (hx : p.tables.exec = Jvm.exec) (hb : c.code = code) (hr : meth.sig.returnType = ret) (hlocks : meth.locks = false) {pc : Nat} {H : Heap} {ls : Array Slot} (hdg : decode code pc = .ok (.ireturn, 1)) : W p l e room_1 s m #[Value.ref b] below meth c H [] 600000 7302250 (lw_Z below #[Value.ref b] s) (F0 m pc ls [.int 1]) := by
  intro T hT X
  obtain ⟨fs, hret, hrun, hended, hW, hframe⟩ := X.leave (v := some (.int 1)) (hlocks := hlocks) (fun h => by rw [hr] at h; cases h)
  have hmeth' : T.vm.method? m = some meth := X.method'
  refine ⟨T.setFrames fs, ?_, .returned (some (.int 1)), hrun, hended, rfl, ⟨_, rfl⟩, hW, hframe⟩
  jvm_step X.here [X.here.top, hx, hb, hdg, hmeth', hr, ret, narrow_b1]
  (try refine ⟨rfl, ?_⟩); (try refine ⟨rfl, ?_⟩)
  first | (intro acts; rw [hret _ acts rfl rfl rfl]) | rw [hret _ _ rfl rfl rfl]
  exact Steps.refl _
/-- what holds at the law's entry: the machine, the code, the tables' words (any of lw_tbl by 'hts w (by decide +kernel)'), the script of L ints xs at the cell b, what the Statement gives of the start (any of its parts by flat_of_before) -/
def lw_At (p : Program) (s : State) (m : MethodId) (meth : Method) (c : Code) (b L : Nat) (xs : Nat → Int32) : Prop :=
  p.tables.exec = Jvm.exec ∧ c.code = code ∧ meth.sig.returnType = ret ∧ c.maxLocals = 4 ∧ s.vm.findClass R_law = some m.cls ∧ (∀ w ∈ lw_tbl, w.before #[Value.ref b] s = true) ∧ va_X b L xs s s.heap ∧ b < s.heap.size ∧ meth.locks = false ∧ (Jvm.Cond.and given_1 narrow_1).before #[Value.ref b] s = true
theorem and31 (x : Int32) : 0 ≤ (x &&& 31).toInt ∧ (x &&& 31).toInt ≤ 31 := by
  have h1 : (x &&& 31).toBitVec.toNat ≤ 31 := by
    rw [Int32.toBitVec_and, BitVec.toNat_and]
    exact Nat.and_le_right
  have h2 : (x &&& 31).toInt = ((x &&& 31).toBitVec.toNat : Int) := by
    show (x &&& 31).toBitVec.toInt = _
    exact BitVec.toInt_eq_toNat_of_lt (by omega)
  omega
set_option maxHeartbeats 4000000 in
set_option maxRecDepth 20000 in
theorem law_loop {p : Program} {l : Launch} {e : Env} {s : State} {m : MethodId} {below : List Frame} {meth : Method} {c : Code} {G : Gd} {base b Ls : Nat} {xs : Nat → Int32} (C : Cx p s m #[Value.ref b] c cL_law 4 RL G base) (hbs : s.heap.size ≤ base) (hr : meth.sig.returnType = ret) (hlk : meth.locks = false) (hX : va_X b Ls xs s s.heap) (hbl : b < s.heap.size) (hLs : Ls ≤ 3072) {F B S M : Nat} (hg : Geo base F B S M) :
    ∀ (k n : Nat) (x3 : Int) (Y : MY) (I : MI) (L : ML) (a : Sa) (cells slots : Nat), Ls - 6 * n = k → x3 = 6 * (n : Int) → 6 * n ≤ Ls → LI base F B S M (243 * (n : Int)) Y I L a → cells ≤ 215 + 206 * n → slots ≤ 10000 + 2279 * n → Rn p l e room_1 s m #[Value.ref b] below meth c 4 G base (lw_Z below #[Value.ref b] s) 18 [(3, .int (iI x3)), (2, .ref M), (1, .ref F), (0, .ref b)] [] Y I L cells slots := by
  have hbb : b < base := by omega
  intro k
  induction k using Nat.strongRecOn with
  | _ k ih =>
  intro n x3 Y I L a cells slots hk hx3 h6 h hcc hss
  refine r_iload_n C 0 dL_law_18 rfl rfl ?_
  refine r_aload_n C 3 dL_law_19 rfl rfl ?_
  refine r_slen C hX hbl hbb dL_law_20 ?_
  refine r_bipush (v := iI 6) C dL_law_21 (by decide) ?_
  refine n_isub C dL_law_23 ?_
  refine n_icmp_gt (tgt := 856) C dL_law_24 (by decide) (by constructor <;> omega) (by constructor <;> omega) (fun c24 => ?_) (fun c24 => ?_)
  · refine r_iconst (v := 1) C dL_law_856 (by decide) ?_
    intro ls H locs hl hP hS
    refine va_forget (fun q hq => Nat.le_trans hbs (hS.2.2 q hq)) ?_
    refine W.widen (k := 600000) (n := 7302250) (by omega) (by omega) ?_
    exact lw_ret C.1 C.2.1 hr hlk dL_law_857
  · have hn : 6 * n + 6 ≤ Ls := by omega
    have hN : 243 * (n : Int) + 243 ≤ 400000 := by omega
    have hc : cells + 206 ≤ 600000 := by omega
    have hs : slots + 2279 ≤ 7302250 := by omega
    have kk : ∀ Y' I' L' a', LI base F B S M (243 * (n : Int) + 243) Y' I' L' a' → Rn p l e room_1 s m #[Value.ref b] below meth c 4 G base (lw_Z below #[Value.ref b] s) 850 [(3, .int (iI x3)), (2, .ref M), (1, .ref F), (0, .ref b)] [] Y' I' L' (cells + 206) (slots + 2279) := by
      intro Y' I' L' a' hL'
      refine n_iinc (v := x3 + 6) (lo' := [(3, .int (iI (x3 + 6))), (2, .ref M), (1, .ref F), (0, .ref b)]) C 0 dL_law_850 rfl rfl (by decide) rfl ?_
      refine r_goto (tgt := 18) C dL_law_853 (by decide) ?_
      exact ih (Ls - 6 * (n + 1)) (by omega) (n + 1) (x3 + 6) Y' I' L' a' _ _ rfl (by omega) (by omega) (by rw [show 243 * ((n + 1 : Nat) : Int) = 243 * (n : Int) + 243 by omega]; exact hL') (by omega) (by omega)
    refine r_aload_n C 3 dL_law_27 rfl rfl ?_
    refine r_iload_n C 0 dL_law_28 rfl rfl ?_
    refine r_sld C hX hbl hbb hLs (6 * n) (congrArg iI (by omega)) (by omega) dL_law_29 ?_
    refine r_bipush (v := 31) C dL_law_30 (by decide) ?_
    refine r_iand C dL_law_32 ?_
    refine r_topi (fun y ey => ?_)
    have hy : 0 ≤ y.toInt ∧ y.toInt ≤ 31 := by rw [ey]; exact and31 _
    rcases (show y.toInt = 0 ∨ y.toInt = 1 ∨ y.toInt = 2 ∨ y.toInt = 3 ∨ y.toInt = 4 ∨ y.toInt = 5 ∨ y.toInt = 6 ∨ y.toInt = 7 ∨ y.toInt = 8 ∨ y.toInt = 9 ∨ y.toInt = 10 ∨ y.toInt = 11 ∨ y.toInt = 12 ∨ y.toInt = 13 ∨ y.toInt = 14 ∨ y.toInt = 15 ∨ y.toInt = 16 ∨ y.toInt = 17 ∨ y.toInt = 18 ∨ y.toInt = 19 ∨ y.toInt = 20 ∨ y.toInt = 21 ∨ y.toInt = 22 ∨ y.toInt = 23 ∨ 23 < y.toInt by omega) with z0 | z1 | z2 | z3 | z4 | z5 | z6 | z7 | z8 | z9 | z10 | z11 | z12 | z13 | z14 | z15 | z16 | z17 | z18 | z19 | z20 | z21 | z22 | z23 | z24
    · exact r_tableIn (off := 111) (tgt := 144) C dL_law_33 (by omega) (by omega) (by rw [z0]; rfl) (by decide) (lc_addFlow C hX hbl hbb hLs hx3 hn hg h hN hc hs kk)
    · exact r_tableIn (off := 134) (tgt := 167) C dL_law_33 (by omega) (by omega) (by rw [z1]; rfl) (by decide) (lc_set C hX hbl hbb hLs hx3 hn hg h hN hc hs kk)
    · exact r_tableIn (off := 177) (tgt := 210) C dL_law_33 (by omega) (by omega) (by rw [z2]; rfl) (by decide) (lc_rule C hX hbl hbb hLs hx3 hn hg h hN hc hs kk)
    · exact r_tableIn (off := 210) (tgt := 243) C dL_law_33 (by omega) (by omega) (by rw [z3]; rfl) (by decide) (lc_offer C hX hbl hbb hLs hx3 hn hg h hN hc hs kk)
    · exact r_tableIn (off := 253) (tgt := 286) C dL_law_33 (by omega) (by omega) (by rw [z4]; rfl) (by decide) (lc_cancel C hX hbl hbb hLs hx3 hn hg h hN hc hs kk)
    · exact r_tableIn (off := 276) (tgt := 309) C dL_law_33 (by omega) (by omega) (by rw [z5]; rfl) (by decide) (lc_packet C hX hbl hbb hLs hx3 hn hg h hN hc hs kk)
    · exact r_tableIn (off := 309) (tgt := 342) C dL_law_33 (by omega) (by omega) (by rw [z6]; rfl) (by decide) (lc_start C hX hbl hbb hLs hx3 hn hg h hN hc hs kk)
    · exact r_tableIn (off := 333) (tgt := 366) C dL_law_33 (by omega) (by omega) (by rw [z7]; rfl) (by decide) (lc_put C hX hbl hbb hLs hx3 hn hg h hN hc hs kk)
    · exact r_tableIn (off := 386) (tgt := 419) C dL_law_33 (by omega) (by omega) (by rw [z8]; rfl) (by decide) (lc_wipe C hX hbl hbb hLs hx3 hn hg h hN hc hs kk)
    · exact r_tableIn (off := 399) (tgt := 432) C dL_law_33 (by omega) (by omega) (by rw [z9]; rfl) (by decide) (lc_fault C hX hbl hbb hLs hx3 hn hg h hN hc hs kk)
    · exact r_tableIn (off := 412) (tgt := 445) C dL_law_33 (by omega) (by omega) (by rw [z10]; rfl) (by decide) (lc_load C hX hbl hbb hLs hx3 hn hg h hN hc hs kk)
    · exact r_tableIn (off := 425) (tgt := 458) C dL_law_33 (by omega) (by omega) (by rw [z11]; rfl) (by decide) (lc_advance C hX hbl hbb hLs hx3 hn hg h hN hc hs kk)
    · exact r_tableIn (off := 448) (tgt := 481) C dL_law_33 (by omega) (by omega) (by rw [z12]; rfl) (by decide) (lc_awaitDelivery C hX hbl hbb hLs hx3 hn hg h hN hc hs kk)
    · exact r_tableIn (off := 471) (tgt := 504) C dL_law_33 (by omega) (by omega) (by rw [z13]; rfl) (by decide) (lc_flow C hX hbl hbb hLs hx3 hn hg h hN hc hs kk)
    · exact r_tableIn (off := 504) (tgt := 537) C dL_law_33 (by omega) (by omega) (by rw [z14]; rfl) (by decide) (lc_amount C hX hbl hbb hLs hx3 hn hg h hN hc hs kk)
    · exact r_tableIn (off := 538) (tgt := 571) C dL_law_33 (by omega) (by omega) (by rw [z15]; rfl) (by decide) (lc_virtualTime C hX hbl hbb hLs hx3 hn hg h hN hc hs kk)
    · exact r_tableIn (off := 552) (tgt := 585) C dL_law_33 (by omega) (by omega) (by rw [z16]; rfl) (by decide) (lc_link C hX hbl hbb hLs hx3 hn hg h hN hc hs kk)
    · exact r_tableIn (off := 575) (tgt := 608) C dL_law_33 (by omega) (by omega) (by rw [z17]; rfl) (by decide) (lc_piece C hX hbl hbb hLs hx3 hn hg h hN hc hs kk)
    · exact r_tableIn (off := 608) (tgt := 641) C dL_law_33 (by omega) (by omega) (by rw [z18]; rfl) (by decide) (lc_apart C hX hbl hbb hLs hx3 hn hg h hN hc hs kk)
    · exact r_tableIn (off := 642) (tgt := 675) C dL_law_33 (by omega) (by omega) (by rw [z19]; rfl) (by decide) (lc_forecast C hX hbl hbb hLs hx3 hn hg h hN hc hs kk)
    · exact r_tableIn (off := 675) (tgt := 708) C dL_law_33 (by omega) (by omega) (by rw [z20]; rfl) (by decide) (lc_leastWeight C hX hbl hbb hLs hx3 hn hg h hN hc hs kk)
    · exact r_tableIn (off := 708) (tgt := 741) C dL_law_33 (by omega) (by omega) (by rw [z21]; rfl) (by decide) (lc_bestSplit C hX hbl hbb hLs hx3 hn hg h hN hc hs kk)
    · exact r_tableIn (off := 771) (tgt := 804) C dL_law_33 (by omega) (by omega) (by rw [z22]; rfl) (by decide) (lc_save C hX hbl hbb hLs hx3 hn hg h hN hc hs kk)
    · exact r_tableIn (off := 794) (tgt := 827) C dL_law_33 (by omega) (by omega) (by rw [z23]; rfl) (by decide) (lc_restore C hX hbl hbb hLs hx3 hn hg h hN hc hs kk)
    · exact r_tableOut (tgt := 850) C dL_law_33 (Or.inr (by omega)) (by decide) (r_wide (Nat.le_add_right _ _) (Nat.le_add_right _ _) (kk _ _ _ _ (h.up hg (by omega) hN)))
set_option maxHeartbeats 4000000 in
set_option maxRecDepth 20000 in
theorem law_known {s : State} {b : Nat} (hts : ∀ w ∈ lw_tbl, w.before #[Value.ref b] s = true) (hgv : (Jvm.Cond.and given_1 narrow_1).before #[Value.ref b] s = true) : ∃ G : Gd, KN G s ∧ ST G s.heap.size s s.heap := by
  have htW : ∀ w ∈ tW, w.before #[Value.ref b] s = true := fun w h => hts w (List.mem_filter.mp h).1
  have hg := flat_of_before _ hgv
  have hA : ∀ a : Nat, a < s.heap.size → ¬ Ab s.heap.size a := fun a h => Nat.not_le.mpr h
  have hexC : ∀ k, k < 7 → ∃ ci : ClassId × (Nat → Nat), ∀ q, vwCl[k]? = some q → u_Kn s q.1 q.2.1 q.2.2 ci.1 ci.2 := by
    intro k hk
    match k, hk with
    | 0, _ =>
      obtain ⟨c, i, hk⟩ := u_known htW ck0.2.2.1 (htW _ wi_X0)
      exact ⟨(c, i), fun q hq => by cases hq; exact hk⟩
    | 1, _ =>
      obtain ⟨c, i, hk⟩ := u_known htW ck1.2.2.1 (htW _ wi_X1)
      exact ⟨(c, i), fun q hq => by cases hq; exact hk⟩
    | 2, _ =>
      obtain ⟨c, i, hk⟩ := u_known htW ck2.2.2.1 (htW _ wi_X2)
      exact ⟨(c, i), fun q hq => by cases hq; exact hk⟩
    | 3, _ =>
      obtain ⟨c, i, hk⟩ := u_known htW ck3.2.2.1 (htW _ wi_X3)
      exact ⟨(c, i), fun q hq => by cases hq; exact hk⟩
    | 4, _ =>
      obtain ⟨c, i, hk⟩ := u_known htW ck4.2.2.1 (htW _ wi_X4)
      exact ⟨(c, i), fun q hq => by cases hq; exact hk⟩
    | 5, _ =>
      obtain ⟨c, i, hk⟩ := u_known htW ck5.2.2.1 (htW _ wi_X5)
      exact ⟨(c, i), fun q hq => by cases hq; exact hk⟩
    | 6, _ =>
      obtain ⟨c, i, hk⟩ := u_known htW ck6.2.2.1 (htW _ wi_X6)
      exact ⟨(c, i), fun q hq => by cases hq; exact hk⟩
  have hexA : ∀ t, t < 8 → ∃ cA : ClassId, ArrOfT s cA (aty t) ∧ va_RA s cA (aty t) := by
    intro t ht
    match t, ht with
    | 0, _ =>
      obtain ⟨c, k, comp, h1, h2, h3⟩ := Cond.arrayClass_spec (htW _ wa_0)
      refine ⟨c, ?_⟩
      show ArrOfT s c .int ∧ va_RA s c .int
      exact ⟨fun n z => ⟨fun k h => (by cases h), k, h2, comp, h3⟩, h1⟩
    | 1, _ =>
      obtain ⟨c, k, comp, h1, h2, h3⟩ := Cond.arrayClass_spec (htW _ wa_1)
      refine ⟨c, ?_⟩
      show ArrOfT s c .long ∧ va_RA s c .long
      exact ⟨fun n z => ⟨fun k h => (by cases h), k, h2, comp, h3⟩, h1⟩
    | 2, _ =>
      obtain ⟨c, k, comp, h1, h2, h3⟩ := Cond.arrayClass_spec (htW _ wa_2)
      refine ⟨c, ?_⟩
      show ArrOfT s c .boolean ∧ va_RA s c .boolean
      exact ⟨fun n z => ⟨fun k h => (by cases h), k, h2, comp, h3⟩, h1⟩
    | 3, _ =>
      obtain ⟨c, k, comp, h1, h2, h3⟩ := Cond.arrayClass_spec (htW _ wa_3)
      refine ⟨c, ?_⟩
      show ArrOfT s c .char ∧ va_RA s c .char
      exact ⟨fun n z => ⟨fun k h => (by cases h), k, h2, comp, h3⟩, h1⟩
    | 4, _ =>
      obtain ⟨comp, c, k, h1, -, h2, h3, h4⟩ := Cond.arrayOver_spec (hts (.arrayOver (.object "FairLink$Flow")) (List.mem_of_getElem? (i := 80) (by decide +kernel)))
      refine ⟨c, ?_⟩
      show ArrOfT s c (.object "FairLink$Flow") ∧ va_RA s c (.object "FairLink$Flow")
      exact ⟨fun n z => ⟨fun k h => (by cases h), k, h2, comp, h3⟩, k, comp, h2, h3, h1, h4⟩
    | 5, _ =>
      obtain ⟨comp, c, k, h1, -, h2, h3, h4⟩ := Cond.arrayOver_spec (hts (.arrayOver (.object "FairLink$Packet")) (List.mem_of_getElem? (i := 162) (by decide +kernel)))
      refine ⟨c, ?_⟩
      show ArrOfT s c (.object "FairLink$Packet") ∧ va_RA s c (.object "FairLink$Packet")
      exact ⟨fun n z => ⟨fun k h => (by cases h), k, h2, comp, h3⟩, k, comp, h2, h3, h1, h4⟩
    | 6, _ =>
      obtain ⟨comp, c, k, h1, -, h2, h3, h4⟩ := Cond.arrayOver_spec (hts (.arrayOver (.object "FairLink$Piece")) (List.mem_of_getElem? (i := 222) (by decide +kernel)))
      refine ⟨c, ?_⟩
      show ArrOfT s c (.object "FairLink$Piece") ∧ va_RA s c (.object "FairLink$Piece")
      exact ⟨fun n z => ⟨fun k h => (by cases h), k, h2, comp, h3⟩, k, comp, h2, h3, h1, h4⟩
    | 7, _ =>
      obtain ⟨comp, c, k, h1, -, h2, h3, h4⟩ := Cond.arrayOver_spec (hts (.arrayOver (.object "FairLink$State")) (List.mem_of_getElem? (i := 359) (by decide +kernel)))
      refine ⟨c, ?_⟩
      show ArrOfT s c (.object "FairLink$State") ∧ va_RA s c (.object "FairLink$State")
      exact ⟨fun n z => ⟨fun k h => (by cases h), k, h2, comp, h3⟩, k, comp, h2, h3, h1, h4⟩
  have hr0 : (Cond.arrayOf (Term.static "FairLink" "FLOW_LEAST" "[I") .int).before #[Value.ref b] s = true := hg _ (by decide +kernel)
  have hl0 : (Cond.eq (.length (Term.static "FairLink" "FLOW_LEAST" "[I")) (.int 5)).before #[Value.ref b] s = true := hg _ (by decide +kernel)
  have he0_0 : (Cond.eq (.elem (Term.static "FairLink" "FLOW_LEAST" "[I") (.int 0)) (.int 1)).before #[Value.ref b] s = true := hg _ (by decide +kernel)
  have he0_1 : (Cond.eq (.elem (Term.static "FairLink" "FLOW_LEAST" "[I") (.int 1)) (.int 1)).before #[Value.ref b] s = true := hg _ (by decide +kernel)
  have he0_2 : (Cond.eq (.elem (Term.static "FairLink" "FLOW_LEAST" "[I") (.int 2)) (.int 0)).before #[Value.ref b] s = true := hg _ (by decide +kernel)
  have he0_3 : (Cond.eq (.elem (Term.static "FairLink" "FLOW_LEAST" "[I") (.int 3)) (.int 0)).before #[Value.ref b] s = true := hg _ (by decide +kernel)
  have he0_4 : (Cond.eq (.elem (Term.static "FairLink" "FLOW_LEAST" "[I") (.int 4)) (.int 0)).before #[Value.ref b] s = true := hg _ (by decide +kernel)
  obtain ⟨t0, et0, hT0⟩ := va_Tof (tm := (Term.static "FairLink" "FLOW_LEAST" "[I")) (ty := .int) (N := 5) (f := fun k => .int ((scl 0).getD k 0)) (A := Ab s.heap.size) (by decide) hr0 (va_eqt hl0) (fun j hj => by
    rcases (show j = 0 ∨ j = 1 ∨ j = 2 ∨ j = 3 ∨ j = 4 by omega) with rfl | rfl | rfl | rfl | rfl
    · exact va_eqt he0_0
    · exact va_eqt he0_1
    · exact va_eqt he0_2
    · exact va_eqt he0_3
    · exact va_eqt he0_4) hA
  have hZ0 := va_Zref (hts (.laysStatic "FairLink" "FLOW_LEAST" "[I") (List.mem_of_getElem? (i := 388) (by decide +kernel))) (hts (.initialized "FairLink") (List.mem_of_getElem? (i := 51) (by decide +kernel))) et0 hA
  have hr1 : (Cond.arrayOf (Term.static "FairLink" "FLOW_GREATEST" "[I") .int).before #[Value.ref b] s = true := hg _ (by decide +kernel)
  have hl1 : (Cond.eq (.length (Term.static "FairLink" "FLOW_GREATEST" "[I")) (.int 5)).before #[Value.ref b] s = true := hg _ (by decide +kernel)
  have he1_0 : (Cond.eq (.elem (Term.static "FairLink" "FLOW_GREATEST" "[I") (.int 0)) (.int 16)).before #[Value.ref b] s = true := hg _ (by decide +kernel)
  have he1_1 : (Cond.eq (.elem (Term.static "FairLink" "FLOW_GREATEST" "[I") (.int 1)) (.int 20)).before #[Value.ref b] s = true := hg _ (by decide +kernel)
  have he1_2 : (Cond.eq (.elem (Term.static "FairLink" "FLOW_GREATEST" "[I") (.int 2)) (.int 1000)).before #[Value.ref b] s = true := hg _ (by decide +kernel)
  have he1_3 : (Cond.eq (.elem (Term.static "FairLink" "FLOW_GREATEST" "[I") (.int 3)) (.int 1000)).before #[Value.ref b] s = true := hg _ (by decide +kernel)
  have he1_4 : (Cond.eq (.elem (Term.static "FairLink" "FLOW_GREATEST" "[I") (.int 4)) (.int 2)).before #[Value.ref b] s = true := hg _ (by decide +kernel)
  obtain ⟨t1, et1, hT1⟩ := va_Tof (tm := (Term.static "FairLink" "FLOW_GREATEST" "[I")) (ty := .int) (N := 5) (f := fun k => .int ((scl 1).getD k 0)) (A := Ab s.heap.size) (by decide) hr1 (va_eqt hl1) (fun j hj => by
    rcases (show j = 0 ∨ j = 1 ∨ j = 2 ∨ j = 3 ∨ j = 4 by omega) with rfl | rfl | rfl | rfl | rfl
    · exact va_eqt he1_0
    · exact va_eqt he1_1
    · exact va_eqt he1_2
    · exact va_eqt he1_3
    · exact va_eqt he1_4) hA
  have hZ1 := va_Zref (hts (.laysStatic "FairLink" "FLOW_GREATEST" "[I") (List.mem_of_getElem? (i := 390) (by decide +kernel))) (hts (.initialized "FairLink") (List.mem_of_getElem? (i := 51) (by decide +kernel))) et1 hA
  have hr2 : (Cond.arrayOf (Term.static "FairLink" "FLOW_FIRST" "[I") .int).before #[Value.ref b] s = true := hg _ (by decide +kernel)
  have hl2 : (Cond.eq (.length (Term.static "FairLink" "FLOW_FIRST" "[I")) (.int 5)).before #[Value.ref b] s = true := hg _ (by decide +kernel)
  have he2_0 : (Cond.eq (.elem (Term.static "FairLink" "FLOW_FIRST" "[I") (.int 0)) (.int 1)).before #[Value.ref b] s = true := hg _ (by decide +kernel)
  have he2_1 : (Cond.eq (.elem (Term.static "FairLink" "FLOW_FIRST" "[I") (.int 1)) (.int 20)).before #[Value.ref b] s = true := hg _ (by decide +kernel)
  have he2_2 : (Cond.eq (.elem (Term.static "FairLink" "FLOW_FIRST" "[I") (.int 2)) (.int 0)).before #[Value.ref b] s = true := hg _ (by decide +kernel)
  have he2_3 : (Cond.eq (.elem (Term.static "FairLink" "FLOW_FIRST" "[I") (.int 3)) (.int 0)).before #[Value.ref b] s = true := hg _ (by decide +kernel)
  have he2_4 : (Cond.eq (.elem (Term.static "FairLink" "FLOW_FIRST" "[I") (.int 4)) (.int 2)).before #[Value.ref b] s = true := hg _ (by decide +kernel)
  obtain ⟨t2, et2, hT2⟩ := va_Tof (tm := (Term.static "FairLink" "FLOW_FIRST" "[I")) (ty := .int) (N := 5) (f := fun k => .int ((scl 2).getD k 0)) (A := Ab s.heap.size) (by decide) hr2 (va_eqt hl2) (fun j hj => by
    rcases (show j = 0 ∨ j = 1 ∨ j = 2 ∨ j = 3 ∨ j = 4 by omega) with rfl | rfl | rfl | rfl | rfl
    · exact va_eqt he2_0
    · exact va_eqt he2_1
    · exact va_eqt he2_2
    · exact va_eqt he2_3
    · exact va_eqt he2_4) hA
  have hZ2 := va_Zref (hts (.laysStatic "FairLink" "FLOW_FIRST" "[I") (List.mem_of_getElem? (i := 87) (by decide +kernel))) (hts (.initialized "FairLink") (List.mem_of_getElem? (i := 51) (by decide +kernel))) et2 hA
  have hr3 : (Cond.arrayOf (Term.static "FairLink" "LINK_GREATEST" "[I") .int).before #[Value.ref b] s = true := hg _ (by decide +kernel)
  have hl3 : (Cond.eq (.length (Term.static "FairLink" "LINK_GREATEST" "[I")) (.int 4)).before #[Value.ref b] s = true := hg _ (by decide +kernel)
  have he3_0 : (Cond.eq (.elem (Term.static "FairLink" "LINK_GREATEST" "[I") (.int 0)) (.int 50)).before #[Value.ref b] s = true := hg _ (by decide +kernel)
  have he3_1 : (Cond.eq (.elem (Term.static "FairLink" "LINK_GREATEST" "[I") (.int 1)) (.int 50)).before #[Value.ref b] s = true := hg _ (by decide +kernel)
  have he3_2 : (Cond.eq (.elem (Term.static "FairLink" "LINK_GREATEST" "[I") (.int 2)) (.int 1000)).before #[Value.ref b] s = true := hg _ (by decide +kernel)
  have he3_3 : (Cond.eq (.elem (Term.static "FairLink" "LINK_GREATEST" "[I") (.int 3)) (.int 1)).before #[Value.ref b] s = true := hg _ (by decide +kernel)
  obtain ⟨t3, et3, hT3⟩ := va_Tof (tm := (Term.static "FairLink" "LINK_GREATEST" "[I")) (ty := .int) (N := 4) (f := fun k => .int ((scl 3).getD k 0)) (A := Ab s.heap.size) (by decide) hr3 (va_eqt hl3) (fun j hj => by
    rcases (show j = 0 ∨ j = 1 ∨ j = 2 ∨ j = 3 by omega) with rfl | rfl | rfl | rfl
    · exact va_eqt he3_0
    · exact va_eqt he3_1
    · exact va_eqt he3_2
    · exact va_eqt he3_3) hA
  have hZ3 := va_Zref (hts (.laysStatic "FairLink" "LINK_GREATEST" "[I") (List.mem_of_getElem? (i := 396) (by decide +kernel))) (hts (.initialized "FairLink") (List.mem_of_getElem? (i := 51) (by decide +kernel))) et3 hA
  have hr4 : (Cond.arrayOf (Term.static "FairLink" "LINK_FIRST" "[I") .int).before #[Value.ref b] s = true := hg _ (by decide +kernel)
  have hl4 : (Cond.eq (.length (Term.static "FairLink" "LINK_FIRST" "[I")) (.int 4)).before #[Value.ref b] s = true := hg _ (by decide +kernel)
  have he4_0 : (Cond.eq (.elem (Term.static "FairLink" "LINK_FIRST" "[I") (.int 0)) (.int 2)).before #[Value.ref b] s = true := hg _ (by decide +kernel)
  have he4_1 : (Cond.eq (.elem (Term.static "FairLink" "LINK_FIRST" "[I") (.int 1)) (.int 1)).before #[Value.ref b] s = true := hg _ (by decide +kernel)
  have he4_2 : (Cond.eq (.elem (Term.static "FairLink" "LINK_FIRST" "[I") (.int 2)) (.int 10)).before #[Value.ref b] s = true := hg _ (by decide +kernel)
  have he4_3 : (Cond.eq (.elem (Term.static "FairLink" "LINK_FIRST" "[I") (.int 3)) (.int 1)).before #[Value.ref b] s = true := hg _ (by decide +kernel)
  obtain ⟨t4, et4, hT4⟩ := va_Tof (tm := (Term.static "FairLink" "LINK_FIRST" "[I")) (ty := .int) (N := 4) (f := fun k => .int ((scl 4).getD k 0)) (A := Ab s.heap.size) (by decide) hr4 (va_eqt hl4) (fun j hj => by
    rcases (show j = 0 ∨ j = 1 ∨ j = 2 ∨ j = 3 by omega) with rfl | rfl | rfl | rfl
    · exact va_eqt he4_0
    · exact va_eqt he4_1
    · exact va_eqt he4_2
    · exact va_eqt he4_3) hA
  have hZ4 := va_Zref (hts (.laysStatic "FairLink" "LINK_FIRST" "[I") (List.mem_of_getElem? (i := 75) (by decide +kernel))) (hts (.initialized "FairLink") (List.mem_of_getElem? (i := 51) (by decide +kernel))) et4 hA
  obtain ⟨cc, hcc⟩ : ∃ cc : Nat → ClassId × (Nat → Nat), ∀ k, k < 7 → ∀ q, vwCl[k]? = some q → u_Kn s q.1 q.2.1 q.2.2 (cc k).1 (cc k).2 :=
    ⟨fun k => if h : k < 7 then (hexC k h).choose else (hexC 0 (by decide)).choose, fun k h => by simp only [dif_pos h]; exact (hexC k h).choose_spec⟩
  obtain ⟨ca, hca⟩ : ∃ ca : Nat → ClassId, ∀ t, t < 8 → ArrOfT s (ca t) (aty t) ∧ va_RA s (ca t) (aty t) :=
    ⟨fun k => if h : k < 8 then (hexA k h).choose else (hexA 0 (by decide)).choose, fun k h => by simp only [dif_pos h]; exact (hexA k h).choose_spec⟩
  refine ⟨((fun k => (cc k).1, fun k => (cc k).2), ca, fun j => match j with | 0 => t0 | 1 => t1 | 2 => t2 | 3 => t3 | _ => t4), ⟨fun k q hq => ?_, fun k q hq => ?_⟩, fun j hj => ?_, fun C hC => ?_, ?_, ?_, ?_⟩
  · exact hcc k (List.getElem?_eq_some_iff.mp hq).1 q hq
  · have hk : k < 8 := by
      have := (List.getElem?_eq_some_iff.mp hq).1
      rw [List.length_map, List.length_range] at this
      exact this
    rw [List.getElem?_map, List.getElem?_range hk] at hq
    have e := Option.some.inj hq
    rw [← e]
    exact hca k hk
  · match j, hj with
    | 0, _ => exact ⟨hZ0, hT0⟩
    | 1, _ => exact ⟨hZ1, hT1⟩
    | 2, _ => exact ⟨hZ2, hT2⟩
    | 3, _ => exact ⟨hZ3, hT3⟩
    | 4, _ => exact ⟨hZ4, hT4⟩
  · rcases List.mem_cons.mp hC with rfl | hC
    · exact va_AO.of (hts (.arrayOver (.object "FairLink$Flow")) (List.mem_of_getElem? (i := 80) (by decide +kernel)))
    rcases List.mem_cons.mp hC with rfl | hC
    · exact va_AO.of (hts (.arrayOver (.object "FairLink$Packet")) (List.mem_of_getElem? (i := 162) (by decide +kernel)))
    rcases List.mem_cons.mp hC with rfl | hC
    · exact va_AO.of (hts (.arrayOver (.object "FairLink$Piece")) (List.mem_of_getElem? (i := 222) (by decide +kernel)))
    rcases List.mem_cons.mp hC with rfl | hC
    · exact va_AO.of (hts (.arrayOver (.object "FairLink$State")) (List.mem_of_getElem? (i := 359) (by decide +kernel)))
    exact absurd hC List.not_mem_nil
  · exact va_Nw.of rfl (hts _ (List.mem_of_getElem? (i := 86) (by decide +kernel)))
  · exact va_Nw.of rfl (hts _ (List.mem_of_getElem? (i := 74) (by decide +kernel)))
  · exact va_Nw.of rfl (hts _ (List.mem_of_getElem? (i := 164) (by decide +kernel)))
