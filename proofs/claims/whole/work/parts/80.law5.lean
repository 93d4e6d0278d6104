set_option maxHeartbeats 4000000 in
set_option maxRecDepth 20000 in
theorem whole_start {p : Program} {e : Env} {s : State} {m : MethodId} {below : List Frame} {meth : Method} {c : Code} (l : Launch) (hflags : l.flags = flags0) {b L : Nat} {xs : Nat → Int32} (hL : L ≤ 3072) (C0 : lw_At p s m meth c b L xs) : W p l e room_1 s m #[Value.ref b] below meth c s.heap [] 0 0 (lw_Z below #[Value.ref b] s) (entryFrame m ([Value.ref b] : List Value).toArray 4) := by
  obtain ⟨hx, hb, hr, hml, hown, hts, hX, hbl, hlocks, hgv⟩ := id C0
  obtain ⟨G, hK, hST⟩ := law_known hts hgv
  have C : Cx p s m #[Value.ref b] c cL_law 4 RL G s.heap.size := ⟨hx, hb, hml, hown, fun w h => hts w (List.mem_filter.mp h).1, hK, Nat.le_refl _, hST⟩
  have hl := lv_entry ([.ref b]) (n := 4) (Nat.le_of_ble_eq_true rfl)
  rw [lg_entry_eq]
  have key : Rn p l e room_1 s m #[Value.ref b] below meth c 4 G s.heap.size (lw_Z below #[Value.ref b] s) 0 [(0, .ref b)] [] (0, (fun _ => .inl 0), (fun _ _ => none)) (fun _ _ => 0) (fun _ _ => 0) 0 0 := by
    refine m_new C ck5 wc_L_7 wi_X5 wn_X5 df5 (Nat.le_of_ble_eq_true rfl) (Nat.le_of_ble_eq_true rfl) dL_law_0 (fun F Y1 I1 L1 n1 eI1 eL1 => ?_)
    have hF0 : F = s.heap.size := n1.1
    have hY1 : Y1.1 = 1 := n1.2.1
    refine r_dup C dL_law_3 rfl ?_
    refine cI0_G C (k_X5_init n1.is (by omega) (by rw [n1.2.2.2, up1_s])) cw_L_9 ⟨⟨(Nat.le_of_ble_eq_true rfl), (Nat.le_of_ble_eq_true rfl)⟩, (Nat.le_of_ble_eq_true rfl), (Nat.le_of_ble_eq_true rfl)⟩ (Nat.le_of_ble_eq_true rfl) dL_law_4 (fun v4 Y4 I4 L4 h4 => ?_)
    obtain ⟨rfl, hn4, hs4, hF4, hr0, hr1, hr2, hS4, hSl4, hno4, X, eI4, eL4, hR4⟩ := h4
    refine r_astore_n (lo' := [(1, .ref F), (0, .ref b)]) C dL_law_7 rfl (by decide) rfl ?_
    refine m_new C ck6 wc_L_10 wi_X6 wn_X6 df6 (Nat.le_of_ble_eq_true rfl) (Nat.le_of_ble_eq_true rfl) dL_law_8 (fun M Y8 I8 L8 n8 eI8 eL8 => ?_)
    have hM0 : M = F + 208 := by have := n8.1; omega
    have hY8 : Y8.1 = 209 := by have := n8.2.1; omega
    refine r_dup C dL_law_11 rfl ?_
    refine cI0_G C (k_X6_init n8.is (by omega)) cw_L_12 ⟨⟨(Nat.le_of_ble_eq_true rfl), (Nat.le_of_ble_eq_true rfl)⟩, (Nat.le_of_ble_eq_true rfl), (Nat.le_of_ble_eq_true rfl)⟩ (Nat.le_of_ble_eq_true rfl) dL_law_12 (fun v12 Y12 I12 L12 h12 => ?_)
    obtain ⟨rfl, hM12, hn12, hs12, hz12, L0, eL12⟩ := h12
    refine r_astore_n (lo' := [(2, .ref M), (1, .ref F), (0, .ref b)]) C dL_law_15 rfl (by decide) rfl ?_
    refine r_iconst (v := iI 0) C dL_law_16 rfl ?_
    refine r_istore_n (lo' := [(3, .int (iI 0)), (2, .ref M), (1, .ref F), (0, .ref b)]) C dL_law_17 rfl (by decide) rfl ?_
    have hall : ∀ y, y < M → Y12.2.1 y = Y4.2.1 y ∧ Y12.2.2 y = Y4.2.2 y ∧ I12 y = I4 y ∧ L12 y = L4 y := fun y hy => by
      have g := hs12 y hy
      refine ⟨by rw [g.1, n8.kn (by omega)], by rw [g.2.1, n8.rn (by omega)], by rw [g.2.2.1, eI8, up1_n (by omega)], by rw [g.2.2.2, eL8, up1_n (by omega)]⟩
    have hg : Geo s.heap.size F (F + 1) (F + 207) M := ⟨by omega, by omega, by omega, by omega⟩
    refine r_wide (k := 215) (n := 10000) (Nat.le_of_ble_eq_true rfl) (Nat.le_of_ble_eq_true rfl) ?_
    refine law_loop C (Nat.le_refl _) hr hlocks hX hbl hL hg L 0 0 Y12 I12 L12 ini 215 10000 (by omega) rfl (Nat.zero_le _) ?_ (Nat.le_of_ble_eq_true rfl) (Nat.le_of_ble_eq_true rfl)
    rw [show 243 * ((0 : Nat) : Int) = 0 by omega]
    have hF5 : FLn s.heap.size Y12 F (F + 1) := ⟨⟨⟨by omega, by omega⟩, by rw [(hall F (by omega)).1]; exact hF4.2⟩, by rw [(hall F (by omega)).2.1]; exact hr0⟩
    have hrS : ∀ k, Y12.2.2 (F + 207) k = none := fun k => by rw [(hall (F + 207) (by omega)).2.1]; exact hno4 k
    have hrF : Y12.2.2 F 2 = none := by rw [(hall F (by omega)).2.1]; exact hr2
    refine ⟨⟨hF5, SLy.mono (fun y y1 y2 => ⟨(hall y (by omega)).1, (hall y (by omega)).2.1⟩) (by omega) hS4, by rw [(hall F (by omega)).2.1]; exact hr1, ⟨⟨by omega, by omega⟩, by rw [(hall (F + 207) (by omega)).1]; exact hSl4.2⟩, hM12⟩, ⟨⟨X, cI_same eI4 (fun y y1 y2 => (hall y (by omega)).2.2.1), cL_same eL4 (fun y y1 y2 => (hall y (by omega)).2.2.2), hR4⟩, fun k => by rw [eL12, rL_at], OK_T ini_ok (by decide) (by decide), Pc_ini⟩, fun c hc => ?_, fun j hj => Or.inl ⟨hrS j, ?_⟩, fun c d j hc _ _ => ?_, fun c d hc _ => ?_, fun j _ => hrS j⟩
    · rw [hrF] at hc; cases hc
    · rw [hz12 j]; rfl
    · rw [hrF] at hc; cases hc
    · rw [hrS] at hc; cases hc
  exact key _ s.heap [] hl ⟨rfl, fun a d h => absurd h.1 (fun z => by have := z.2; have := z.1; dsimp only at *; omega)⟩ va_S.rf
set_option maxHeartbeats 4000000 in
theorem lw_walk (l : Launch) (hflags : l.flags = flags0) (b : Addr) (xs : List Int32) : MetFree l x (headSpec (Jvm.Cond.code x code maxLocals ret :: tables_1) room_1) (lw_P b xs) (fun _ _ _ _ _ => True) lw_Q := by
  refine MetFree.of_bodyS (code := code) (maxLocals := maxLocals) (ret := ret) (by decide) ?_ ?_
  · intro args s m h hn
    obtain ⟨meth, c, h1, h2, h3, h4, h5, h6, -, -⟩ := Cond.code_spec hn (atoms_spec (ws := Jvm.Cond.code x code maxLocals ret :: tables_1) h _ List.mem_cons_self)
    exact ⟨meth, c, h1, h2, h3, h4, h5, h6⟩
  · intro p e s m args below meth c s₁ B hml0 hP _
    obtain ⟨rfl, hx, hbd, hgv⟩ := hP
    obtain ⟨scr, harrAt, hlist, hof, hsmall⟩ := hx
    obtain ⟨hcb, hkn, -, -⟩ := State.arrayAt?_spec harrAt
    have hown : s.vm.findClass R_law = some m.cls := findClass_of_methodNamed B.named
    have hts0 : ∀ c ∈ (Jvm.Cond.code x code maxLocals ret :: tables_1), c.before #[Value.ref b] s = true := atoms_spec (ws := Jvm.Cond.code x code maxLocals ret :: tables_1) B.pre
    have hts : ∀ w ∈ lw_tbl, w.before #[Value.ref b] s = true := k2_hts_sels lw_privs (fun w hw => hts0 w (List.mem_cons_of_mem _ hw)) lw_privs_ok
    have hml : c.maxLocals = 4 := B.maxLocals_eq (hts0 _ List.mem_cons_self)
    have X₀ : Stand p l e room_1 s m #[Value.ref b] below meth c s₁ [] 0 0 := Stand.of_body B
    have hh0 : s₁.heap = s.heap := by rw [B.state]; rfl
    have hsz : scr.slots.size = xs.length := by rw [← Array.length_toList, hlist, List.length_map]
    have hval : ∀ j : Nat, j < xs.length → scr.slots[j]? = some (.int (xs.getD j 0)) := fun j hj => by
      rw [← Array.getElem?_toList, hlist]
      simp [hj]
    have hbl : b < s.heap.size := (Array.getElem?_eq_some_iff.mp hcb).1
    have hX : va_X b xs.length (fun j => xs.getD j 0) s s.heap := ⟨scr, hcb, hof, hkn, hsz, hval⟩
    have K : W p l e room_1 s m #[Value.ref b] below meth c s₁.heap [] 0 0 (lw_Z below #[Value.ref b] s) (entryFrame m ([Value.ref b] : List Value).toArray 4) := by
      rw [hh0]
      exact whole_start l hflags hbd ⟨B.exec, B.bytes, B.returns, hml, hown, hts, hX, hbl, B.notSynchronized, hgv⟩
    obtain ⟨t, a1, o, b1, b2, b3⟩ := K s₁ rfl X₀
    exact ⟨t, o, a1, b1, b2, b3⟩
theorem lw_pre_spec {args : Array Value} {s : State} (h : (Jvm.Cond.and given_1 narrow_1).before args s = true) (hr : rest_1_c.before args s = true) : ∃ (b : Addr) (xs : List Int32), lw_P b xs args s := by
  have hs := flat_of_before _ h
  have hq := flat_of_before _ hr
  have hc : (Cond.count 1).before args s = true := hs _ (by decide +kernel)
  have harr : (Cond.arrayOf (.arg 0) .int).before args s = true := hs _ (by decide +kernel)
  have hle : (Cond.le (.length (.arg 0)) (.int 3072)).before args s = true := hs _ (by decide +kernel)
  have hlen : (Cond.isInt (.length (.arg 0))).before args s = true := hq _ (by decide +kernel)
  have hall : (Cond.all (.arg 0) (.isInt (.elem (.arg 0) (.index 0)))).before args s = true := hq _ (by decide +kernel)
  obtain ⟨b, xs, hb, hx⟩ := State.ints_of_pre rfl harr hlen hall
  have hsm : xs.length < 2 ^ 31 := hx.choose_spec.2.2.2
  have hev : (Term.length (.arg 0)).eval args s none [] s = some (.int xs.length.toInt32) := hx.length_eval hb
  have hv := Cond.le_ints hev (show (Term.int 3072).eval args s none [] s = some (.int 3072) from rfl)
  have hd : xs.length.toInt32 ≤ 3072 := by
    simpa [Cond.before, Cond.holds, hv] using hle
  have hN : xs.length ≤ 3072 := (Int32.ofNat_le_ofNat hsm (by decide)).mp (show Int32.ofNat xs.length ≤ Int32.ofNat 3072 from hd)
  exact ⟨b, xs, Cond.one_arg hc (show args[0]? = some (.ref b) from hb), hx, hN, h⟩
theorem lw_comes (l : Launch) (hflags : l.flags = flags0) : Comes l x (Jvm.Cond.code x code maxLocals ret :: tables_1) room_1 (fun tb e args s => Calls_1 tb e args s ∧ rest_1 tb e args s ∧ Pre_1 tb e args s)
    (fun _ _ args s o t => lw_Q args s o t) := by
  intro p e ha hc hk s m args below hf hfit hheap happ hpre
  obtain ⟨b, xs, hP⟩ := lw_pre_spec hpre.2.2 hpre.2.1
  obtain ⟨k, o, h1, h2, h3, hQ⟩ := lw_walk l hflags b xs p e ha hc hk s m args below hf ((Spec.applies_iff_loose hf).mp happ).1 hP trivial
  exact ⟨k, o, h1, h2, h3, hQ⟩
theorem lw_frame {s t : State} {o : Outcome} {args : Array Value} (h : Framed s o t [] 600000 7302250) :
    Framed s o t (fieldLocs frame_1_writes args s ++ arrayLocs frame_1_arrays args s ++ staticLocs frame_1_statics s) 600000 7302250 := h
theorem lw_limb (L : Cond) (hL : ∀ (args : Array Value) (s t : State), L.after args s (.returned (some (.int 1))) t = true) :
    ArmFor flags0 classFile x code maxLocals ret World_1 tables_1 room_1 Calls_1 rest_1 Pre_1
      (fun tb e a s o t => postC L tb e a s o t ∧ Framed s o t (fieldLocs frame_1_writes a s ++ arrayLocs frame_1_arrays a s ++ staticLocs frame_1_statics s) 600000 7302250) := by
  intro l hflags _ _ p e ha hc hk s m args below hf hfit hheap happ hpre
  obtain ⟨k, o, h1, h2, h3, rfl, hF⟩ := lw_comes l hflags p e ha hc hk s m args below hf hfit hheap happ hpre
  exact ⟨k, _, h1, h2, h3, hL args s _, lw_frame hF⟩
theorem i_vc : Claimed_1_1 ∧ Claimed_1_2 := ⟨lw_limb limb_1_1 (fun args s t => by simp [limb_1_1, Cond.after, Cond.holds, Cond.value]), lw_limb limb_1_2 (fun args s t => Cond.after_iff.mpr (by
  first | (rw [show limb_1_2 = Cond.eq .result (.int 1) from rfl, Cond.eq_ints (x := 1) (y := 1) rfl rfl]; simp; done) | (simp [limb_1_2, Cond.value, Term.eval]; done)))⟩
