theorem wk_c : Cond.code yX1_init cX1_init 1 none ∈ tW := tW_in 166 (by decide +kernel) rfl
theorem wk_i : Cond.instanceMethod yX1_init ∈ tW := tW_in 165 (by decide +kernel) rfl
section ALC
variable {p : Program} {l : Launch} {e : Env} {R : Room} {s : State} {m : MethodId} {args : Array Value} {below : List Frame} {meth : Method} {c : Code} {cc : ByteArray} {nL : Nat} {own : String} {G : Gd} {base : Nat} {Q : State → Prop} {pc : Nat} {lo lo' : List (Nat × Value)} {st : List Value} {Y : MY} {I : MI} {L : ML} {cells slots : Nat}
theorem r_putNul (C : Cx p s m args c cc nL own G base) {idx ci k a : Nat} (hF : FL own idx ci k false) (ht : tc ci k = 2) (hd : decode cc pc = .ok (.putfield idx, 3)) (hA : Is base Y a (.inl ci))   (kk :  Rn p l e R s m args below meth c nL G base Q (pc + 3) lo st (Y.1, Y.2.1, up2 Y.2.2 a k none) I L cells slots) : Rn p l e R s m args below meth c nL G base Q pc lo (.null :: .ref a :: st) Y I L cells slots := by
  intro ls H locs hl hP hS
  obtain ⟨hx, hb, hml, hown, hts, hK, hbs, hST⟩ := C
  obtain ⟨C', T, N, ⟨h1, h2, h3, h4, h5⟩, hk, hlk, hfin, hTC⟩ := hF
  have hap := va_apart (own := own) hts h3 (tyf ci) h4 h5 hK h1
  obtain ⟨q, hq, cell, q1, q2, q3, q4⟩ := hP.2 a _ hA
  have hr : q = (C', T, N) := Option.some.inj (hq.symm.trans h1)
  subst hr
  obtain ⟨hS', hfc, kC, hkC, hkind⟩ := hK.1 ci _ h1
  obtain ⟨cf, kf, fi, f, hi, hsl⟩ := hS' k hk
  have hlay := hts _ (h3 _ (u_in_lay hk))
  unfold u_lay at hlay
  rw [if_neg (by rw [hfin]; decide)] at hlay
  have hst := (u_facts hfc hkC (u_lays hts h3 hk) hi).1
  have htc : tc ci k = 2 := by exact ht
  have hn : narrow (tyf ci k) (.null) = .null := by cases h : tyf ci k <;> rfl
  have hfit : fits (tyf ci k) (.null) = true := by
    unfold tc at ht
    cases h : tyf ci k <;> rw [h] at ht <;> first | rfl | cases ht
  have h6 := u_store hfc hkC hkind hlay hi (h4 k hk) hn hfit
  refine W.putK hx hb (f := f) ⟨hown, hts _ hlk, ⟨_, _, _, hi⟩, hst⟩ (by rw [q2]; exact h6) q1 q3 (by rw [hsl]; exact k2_hasslot (q4 k hk)) rfl rfl hd fun H' e1 e2 e3 => ?_
  rw [hsl] at e1 ⊢
  refine kk ls H' _ hl (HP.setR hP hA (up1 (Y.2.2 a) k none) ⟨_, h1, t_OB.to (V := updV (fun k => fv (tc ci k) (I a k) (L a k) (Y.2.2 a k)) k (.null)) ⟨_, e1, q2, q3, t_set q4 hap hk _⟩ (fun j _ => ?_)⟩ e2 e3) (Sput hS hA e2 e3)
  by_cases hj : j = k
  · subst hj
    simp only [updV, if_pos, up1_s, htc]
    rfl
  · simp only [updV, if_neg hj, up1_n hj]
theorem r_runIN (C : Cx p s m args c cc nL own G base) {y : MethodName} {bytes : ByteArray} {mL idx b : Nat} {host : String} {rm : Room} {As rest : List Value} {F : Option Value → MY → MI → ML → Prop} (hM : Ct l y bytes mL none rm G base (.ref b :: As) Y I L F) (hc : Cond.code y bytes mL none ∈ tW) (hi : Cond.initialized y.cls ∈ tW) (hmv : nMV y) (hpn : (parseMethodDescriptor y.desc).map (fun d => d.parameters.length) = some As.length) (hnm : y.name = "<init>") (hin : Cond.instanceMethod y ∈ tW) (hlk : va_Nw (.methodLinkNest own idx y host) s) (hR : RM R rm mL cells slots) (hst : (rest.map fun v => v.category).sum ≤ 8) (hd : decode cc pc = .ok (.invokespecial idx, 3)) (kk : ∀ v Y' I' L', F v Y' I' L' → Rn p l e R s m args below meth c nL G base Q ((pc + 3)) lo ((v.toList ++ rest)) Y' I' L' ((cells + rm.cells)) ((slots + rm.slots))) : Rn p l e R s m args below meth c nL G base Q pc lo ((As.reverse ++ .ref b :: rest)) Y I L cells slots := by
  intro ls H locs hl hP hS
  exact r_on hl hS (va_runIN (As := As) (rest := rest) ⟨C.1, C.2.1, C.2.2.1, C.2.2.2.1, C.2.2.2.2.1⟩ hM ⟨va_cnB As.length C.2.2.2.2.1 (tW_self hc) rfl rfl rfl hlk (C.2.2.2.2.1 _ hi) ⟨hmv.1, hmv.2, hpn⟩ hR.1, hnm, C.2.2.2.2.1 _ hin⟩ ⟨blind _, preU C hP hS (.ref b :: As)⟩ rfl rfl hl.1 rfl (lv_room hst) hd hR.2) kk
theorem r_eqC {c' s' : Nat} (hc : cells = c') (hs : slots = s') (kk : Rn p l e R s m args below meth c nL G base Q pc lo st Y I L c' s') : Rn p l e R s m args below meth c nL G base Q pc lo st Y I L cells slots := by subst hc; subst hs; exact kk
theorem m_aast (C : Cx p s m args c cc nL own G base) {a n b t ci : Nat} {x : Int32} (ht8 : t < 8) (htr : 4 ≤ t) (htc : (vwCl[ci]?).map (fun q => FieldType.object q.1) = some (aty t)) (i : Nat) (hd : decode cc pc = .ok (.aastore, 1)) (hA : Is base Y a (.inr (t, n))) (hB : Is base Y b (.inl ci)) (hi : Ix x i n) (kk : ∀ Y', PR Y a i b Y' → Rn p l e R s m args below meth c nL G base Q ((pc + 1)) lo st Y' I L cells slots) : Rn p l e R s m args below meth c nL G base Q pc lo ((.ref b :: .int x :: .ref a :: st)) Y I L cells slots := r_aast C ht8 htr htc i hd hA hB hi (kk _ rfl)
end ALC
/-- all below b is as it was -/
def Sm (b : Nat) (Y : MY) (I : MI) (L : ML) (Y' : MY) (I' : MI) (L' : ML) : Prop := ∀ y, y < b → Y'.2.1 y = Y.2.1 y ∧ Y'.2.2 y = Y.2.2 y ∧ I' y = I y ∧ L' y = L y
theorem Sm.rf {b : Nat} {Y : MY} {I : MI} {L : ML} : Sm b Y I L Y I L := fun _ _ => ⟨rfl, rfl, rfl, rfl⟩
theorem Sm.tr {b b' : Nat} {Y Y1 Y2 : MY} {I I1 I2 : MI} {L L1 L2 : ML} (h1 : Sm b Y I L Y1 I1 L1) (h2 : Sm b' Y1 I1 L1 Y2 I2 L2) (hb : b ≤ b') : Sm b Y I L Y2 I2 L2 := fun y hy => by
  have g1 := h1 y hy
  have g2 := h2 y (by omega)
  exact ⟨g2.1.trans g1.1, g2.2.1.trans g1.2.1, g2.2.2.1.trans g1.2.2.1, g2.2.2.2.trans g1.2.2.2⟩
theorem Sm.nw {base : Nat} {Y Y' : MY} {I I' : MI} {L L' : ML} {d : Kd} {x : Nat} (n : NW base Y d Y' x) (eI : I' = up1 I x (fun _ => 0)) (eL : L' = up1 L x (fun _ => 0)) : Sm x Y I L Y' I' L' := fun y hy => ⟨n.kn (by omega), n.rn (by omega), by rw [eI, up1_n (by omega)], by rw [eL, up1_n (by omega)]⟩
theorem Sm.pr {b a k x : Nat} {Y Y' : MY} {I : MI} {L : ML} (p : PR Y a k x Y') (h : b ≤ a) : Sm b Y I L Y' I L := fun y hy => ⟨by rw [p.kn], p.rn (by omega), rfl, rfl⟩
theorem Sm.i {b a : Nat} {Y : MY} {I : MI} {L : ML} {g : Nat → Int32} (h : b ≤ a) : Sm b Y I L Y (up1 I a g) L := fun y hy => ⟨rfl, rfl, up1_n (by omega), rfl⟩
theorem Sm.is {base b y : Nat} {Y Y' : MY} {I I' : MI} {L L' : ML} {d : Kd} (h : Sm b Y I L Y' I' L') (hn : Y.1 ≤ Y'.1) (hi : Is base Y y d) (hy : y < b) : Is base Y' y d := ⟨⟨hi.1.1, by have := hi.1.2; omega⟩, by rw [(h y hy).1]; exact hi.2⟩
theorem Sm.r {b y k : Nat} {Y Y' : MY} {I I' : MI} {L L' : ML} {z : Option Nat} (h : Sm b Y I L Y' I' L') (hi : Y.2.2 y k = z) (hy : y < b) : Y'.2.2 y k = z := by rw [(h y hy).2.1]; exact hi
theorem Sm.ii {b y : Nat} {Y Y' : MY} {I I' : MI} {L L' : ML} {g : Nat → Int32} (h : Sm b Y I L Y' I' L') (hi : I y = g) (hy : y < b) : I' y = g := (h y hy).2.2.1.trans hi
theorem Sm.l {b y : Nat} {Y Y' : MY} {I I' : MI} {L L' : ML} {g : Nat → Int64} (h : Sm b Y I L Y' I' L') (hi : L y = g) (hy : y < b) : L' y = g := (h y hy).2.2.2.trans hi
set_option maxHeartbeats 4000000 in
set_option maxRecDepth 20000 in
theorem k_X3_clear0 {l : Launch} {G : Gd} {base : Nat} {Y : MY} {I : MI} {L : ML} {x : Nat} (hx : Is base Y x (.inl 3)) : Ct l yX3_clear cX3_clear 1 (none) (rmz 0 0) G base [.ref x] Y I L (EV Y (fun I' L' => L' = L ∧ (∀ y, y ≠ x → I' y = I y) ∧ I' x 0 = iI (-6) ∧ I' x 2 = iI 0 ∧ I' x 4 = iI 0 ∧ I' x 6 = iI 0)) := by
  refine Ct.of (own := RX3) (lo := [(0, .ref x)]) (by decide) rfl (Nat.le_of_ble_eq_true rfl) rfl ?_
  intro zp ze zs zm zargs zbl zmt zc C hr hlk hnm
  refine r_aload_n C 0 dX3_clear_0 rfl rfl ?_
  refine r_bipush (v := iI (-6)) C dX3_clear_1 (by decide) ?_
  refine r_putI C fl_X3_14 rfl dX3_clear_3 hx (fun I3 eI3 => ?_)
  refine r_aload_n C 0 dX3_clear_6 rfl rfl ?_
  refine r_bipush (v := iI (-6)) C dX3_clear_7 (by decide) ?_
  refine r_putI C fl_X3_18 rfl dX3_clear_9 hx (fun I9 eI9 => ?_)
  refine r_aload_n C 0 dX3_clear_12 rfl rfl ?_
  refine r_iconst (v := iI 0) C dX3_clear_13 rfl ?_
  refine r_putI C fl_X3_21 rfl dX3_clear_14 hx (fun I14 eI14 => ?_)
  refine r_aload_n C 0 dX3_clear_17 rfl rfl ?_
  refine r_iconst (v := iI 0) C dX3_clear_18 rfl ?_
  refine r_putI C fl_X3_24 rfl dX3_clear_19 hx (fun I19 eI19 => ?_)
  refine r_aload_n C 0 dX3_clear_22 rfl rfl ?_
  refine r_iconst (v := iI 0) C dX3_clear_23 rfl ?_
  refine r_putI C fl_X3_27 rfl dX3_clear_24 hx (fun I24 eI24 => ?_)
  refine r_aload_n C 0 dX3_clear_27 rfl rfl ?_
  refine r_bipush (v := iI (-6)) C dX3_clear_28 (by decide) ?_
  refine r_putI C fl_X3_30 rfl dX3_clear_30 hx (fun I30 eI30 => ?_)
  refine r_aload_n C 0 dX3_clear_33 rfl rfl ?_
  refine r_iconst (v := iI 0) C dX3_clear_34 rfl ?_
  refine r_putZ C fl_X3_33 rfl dX3_clear_35 hx (by decide) (fun I35 eI35 => ?_)
  refine r_vret C hr hlk dX3_clear_38 (Nat.zero_le _) (Nat.zero_le _) ?_
  refine ⟨rfl, rfl, rfl, fun y hy => ?_, (by rw [eI35, up2_nk (by decide), eI30, up2_nk (by decide), eI24, up2_nk (by decide), eI19, up2_nk (by decide), eI14, up2_nk (by decide), eI9, up2_nk (by decide), eI3, up2_s]), (by rw [eI35, up2_nk (by decide), eI30, up2_nk (by decide), eI24, up2_nk (by decide), eI19, up2_nk (by decide), eI14, up2_s]), (by rw [eI35, up2_nk (by decide), eI30, up2_nk (by decide), eI24, up2_s]), (by rw [eI35, up2_s])⟩
  rw [eI35, up2_rown hy, eI30, up2_rown hy, eI24, up2_rown hy, eI19, up2_rown hy, eI14, up2_rown hy, eI9, up2_rown hy, eI3, up2_rown hy]
set_option maxHeartbeats 4000000 in
set_option maxRecDepth 20000 in
theorem k_X0_begin0 {l : Launch} {G : Gd} {base : Nat} {Y : MY} {I : MI} {L : ML} {x q : Nat} {w : Int} (hx : Is base Y x (.inl 0)) (hq : Is base Y q (.inr (0, 5))) (hxq : Y.2.2 x 0 = some q) : Ct l yX0_begin cX0_begin 2 (none) (rmz 1 40) G base [.ref x, .int (iI w)] Y I L (EV Y (fun I' L' => (∀ y, y ≠ x → y ≠ q → I' y = I y) ∧ (∀ y, y ≠ x → L' y = L y))) := by
  refine Ct.of (own := RX0) (lo := [(0, .ref x), (1, .int (iI w))]) (by decide) rfl (Nat.le_of_ble_eq_true rfl) rfl ?_
  intro zp ze zs zm zargs zbl zmt zc C hr hlk hnm
  refine r_getsN C (j := 2) (by decide) (fun U h => h.2.2.1) dX0_begin_0 ?_
  refine r_iconst (v := iI 0) C dX0_begin_3 rfl ?_
  refine r_aload_n C 0 dX0_begin_4 rfl rfl ?_
  refine r_getR C fl_X0_13 rfl dX0_begin_5 hx hxq ?_
  refine r_iconst (v := iI 0) C dX0_begin_8 rfl ?_
  refine r_aload_n C 0 dX0_begin_9 rfl rfl ?_
  refine r_getR C fl_X0_13 rfl dX0_begin_10 hx hxq ?_
  refine r_alen C (by decide) dX0_begin_13 hq ?_
  refine r_copyT C (j := 2) (by decide) rfl wy_X0_25 dX0_begin_14 hq (Nat.le_of_ble_eq_true rfl) (Nat.le_of_ble_eq_true rfl) (fun I14 eI14 => ?_)
  refine r_aload_n C 0 dX0_begin_17 rfl rfl ?_
  refine r_getR C fl_X0_13 rfl dX0_begin_18 hx hxq ?_
  refine r_iconst (v := iI 0) C dX0_begin_21 rfl ?_
  refine r_iload_n C 1 dX0_begin_22 rfl rfl ?_
  refine r_iast C 0 dX0_begin_23 hq ⟨rfl, by decide, by decide⟩ (fun I23 eI23 => ?_)
  refine r_aload_n C 0 dX0_begin_24 rfl rfl ?_
  refine r_iconst (v := iI 0) C dX0_begin_25 rfl ?_
  refine r_putI C fl_X0_31 rfl dX0_begin_26 hx (fun I26 eI26 => ?_)
  refine r_aload_n C 0 dX0_begin_29 rfl rfl ?_
  refine r_iconst (v := iI 0) C dX0_begin_30 rfl ?_
  refine r_putI C fl_X0_35 rfl dX0_begin_31 hx (fun I31 eI31 => ?_)
  refine r_aload_n C 0 dX0_begin_34 rfl rfl ?_
  refine r_iconst (v := iI 0) C dX0_begin_35 rfl ?_
  refine r_putI C fl_X0_38 rfl dX0_begin_36 hx (fun I36 eI36 => ?_)
  refine r_aload_n C 0 dX0_begin_39 rfl rfl ?_
  refine r_iconst (v := iI 0) C dX0_begin_40 rfl ?_
  refine r_putI C fl_X0_41 rfl dX0_begin_41 hx (fun I41 eI41 => ?_)
  refine r_aload_n C 0 dX0_begin_44 rfl rfl ?_
  refine r_iconst (v := iI 0) C dX0_begin_45 rfl ?_
  refine r_putI C fl_X0_44 rfl dX0_begin_46 hx (fun I46 eI46 => ?_)
  refine r_aload_n C 0 dX0_begin_49 rfl rfl ?_
  refine r_iconst (v := iI 0) C dX0_begin_50 rfl ?_
  refine r_putI C fl_X0_47 rfl dX0_begin_51 hx (fun I51 eI51 => ?_)
  refine r_aload_n C 0 dX0_begin_54 rfl rfl ?_
  refine r_iconst (v := iI 0) C dX0_begin_55 rfl ?_
  refine r_putI C fl_X0_50 rfl dX0_begin_56 hx (fun I56 eI56 => ?_)
  refine r_aload_n C 0 dX0_begin_59 rfl rfl ?_
  refine r_iconst (v := iI 0) C dX0_begin_60 rfl ?_
  refine r_putI C fl_X0_53 rfl dX0_begin_61 hx (fun I61 eI61 => ?_)
  refine r_aload_n C 0 dX0_begin_64 rfl rfl ?_
  refine r_lconst (v := lI 0) C dX0_begin_65 (by decide) ?_
  refine r_putL C fl_X0_56 rfl dX0_begin_66 hx (fun L66 eL66 => ?_)
  refine r_aload_n C 0 dX0_begin_69 rfl rfl ?_
  refine r_lconst (v := lI 0) C dX0_begin_70 (by decide) ?_
  refine r_putL C fl_X0_60 rfl dX0_begin_71 hx (fun L71 eL71 => ?_)
  refine r_aload_n C 0 dX0_begin_74 rfl rfl ?_
  refine r_lconst (v := lI 0) C dX0_begin_75 (by decide) ?_
  refine r_putL C fl_X0_63 rfl dX0_begin_76 hx (fun L76 eL76 => ?_)
  refine r_aload_n C 0 dX0_begin_79 rfl rfl ?_
  refine r_lconst (v := lI 0) C dX0_begin_80 (by decide) ?_
  refine r_putL C fl_X0_66 rfl dX0_begin_81 hx (fun L81 eL81 => ?_)
  refine r_aload_n C 0 dX0_begin_84 rfl rfl ?_
  refine r_lconst (v := lI 0) C dX0_begin_85 (by decide) ?_
  refine r_putL C fl_X0_69 rfl dX0_begin_86 hx (fun L86 eL86 => ?_)
  refine r_vret C hr hlk dX0_begin_89 (Nat.zero_le _) (Nat.zero_le _) ?_
  refine ⟨rfl, rfl, fun y hy hy2 => ?_, fun y hy => ?_⟩
  · rw [eI61, up2_rown hy, eI56, up2_rown hy, eI51, up2_rown hy, eI46, up2_rown hy, eI41, up2_rown hy, eI36, up2_rown hy, eI31, up2_rown hy, eI26, up2_rown hy, eI23, up2_rown hy2, eI14, up1_n hy2]
  · rw [eL86, up2_rown hy, eL81, up2_rown hy, eL76, up2_rown hy, eL71, up2_rown hy, eL66, up2_rown hy]
set_option maxHeartbeats 4000000 in
set_option maxRecDepth 20000 in
theorem k_X1_init {l : Launch} {G : Gd} {base : Nat} {Y : MY} {I : MI} {L : ML} {x : Nat}  : Ct l yX1_init cX1_init 1 none (rmz 1 40) G base [.ref x] Y I L (EV Y (fun I' L' => I' = I ∧ L' = L)) := by
  refine Ct.of (own := RX1) (lo := [(0, .ref x)]) (by decide) rfl (Nat.le_of_ble_eq_true rfl) rfl ?_
  intro zp ze zs zm zargs zbl zmt zc C hr hlk hnm
  refine r_aload_n C 0 dX1_init_0 rfl rfl ?_
  refine r_oinit C wo_X1_3 dX1_init_1 (Nat.le_of_ble_eq_true rfl) (Nat.le_of_ble_eq_true rfl) ?_
  refine r_vret C hr hlk dX1_init_4 (Nat.zero_le _) (Nat.zero_le _) ?_
  exact ⟨rfl, rfl, rfl, rfl⟩
set_option maxHeartbeats 4000000 in
set_option maxRecDepth 20000 in
theorem k_X3_init {l : Launch} {G : Gd} {base : Nat} {Y : MY} {I : MI} {L : ML} {x : Nat} (hx : Is base Y x (.inl 3)) : Ct l yX3_init cX3_init 1 none (rmz 1 40) G base [.ref x] Y I L (EV Y (fun I' L' => L' = L ∧ (∀ y, y ≠ x → I' y = I y) ∧ I' x 0 = iI (-6) ∧ I' x 2 = iI 0 ∧ I' x 4 = iI 0 ∧ I' x 6 = iI 0)) := by
  refine Ct.of (own := RX3) (lo := [(0, .ref x)]) (by decide) rfl (Nat.le_of_ble_eq_true rfl) rfl ?_
  intro zp ze zs zm zargs zbl zmt zc C hr hlk hnm
  refine r_aload_n C 0 dX3_init_0 rfl rfl ?_
  refine r_oinit C wo_X3_3 dX3_init_1 (Nat.le_of_ble_eq_true rfl) (Nat.le_of_ble_eq_true rfl) ?_
  refine r_aload_n C 0 dX3_init_4 rfl rfl ?_
  refine cV0_EV C (k_X3_clear0 hx) cw_X3_9 (rm_ok rfl rfl (Nat.zero_le _) (Nat.zero_le _)) (Nat.le_of_ble_eq_true rfl) hx dX3_init_5 (fun I5 L5 h5 => ?_)
  refine r_vret C hr hlk dX3_init_8 (Nat.zero_le _) (Nat.zero_le _) ?_
  exact ⟨rfl, rfl, h5⟩
set_option maxHeartbeats 4000000 in
set_option maxRecDepth 20000 in
theorem k_X2_init {l : Launch} {G : Gd} {base : Nat} {Y : MY} {I : MI} {L : ML} {x : Nat} (hx : Is base Y x (.inl 2)) (hY : base + Y.1 = x + 1) : Ct l yX2_init cX2_init 1 none { frames := 1, cells := 1, slots := 80, locals := 40 } G base [.ref x] Y I L (fun v Y' I' L' => v = none ∧ Y'.1 = Y.1 + 1 ∧ Sm x Y I L Y' I' L' ∧ Is base Y' x (.inl 2) ∧ Is base Y' (x + 1) (.inr (3, 80)) ∧ Y'.2.2 x 0 = some (x + 1) ∧ I' x = I x ∧ I' (x + 1) = fun _ => 0) := by
  refine Ct.of (own := RX2) (lo := [(0, .ref x)]) (by decide) rfl (Nat.le_of_ble_eq_true rfl) rfl ?_
  intro zp ze zs zm zargs zbl zmt zc C hr hlk hnm
  have hsm : Sm x Y I L Y I L := Sm.rf
  have hi0 : I x = I x := rfl
  refine r_aload_n C 0 dX2_init_0 rfl rfl ?_
  refine r_oinit C wo_X2_3 dX2_init_1 (Nat.le_of_ble_eq_true rfl) (Nat.le_of_ble_eq_true rfl) ?_
  refine r_aload_n C 0 dX2_init_4 rfl rfl ?_
  refine r_bipush (v := iI 80) C dX2_init_5 (by decide) ?_
  refine m_newa (t := 3) (n := 80) C (by decide) rfl wa_3 rfl (by decide) (Nat.le_of_ble_eq_true rfl) (Nat.le_of_ble_eq_true rfl) dX2_init_7 (fun x7 Y7 I7 L7 n7 eI7 eL7 => ?_)
  have ex7 : x7 = x + 1 := by have := n7.1; omega
  subst ex7
  replace hx : Is base Y7 (x) (.inl 2) := (n7.keep hx)
  replace hY : base + Y7.1 = x + 1 + 1 := (by rw [n7.2.1]; omega)
  replace hsm : Sm x Y I L Y7 I7 L7 := (hsm.tr (Sm.nw n7 eI7 eL7) (by omega))
  replace hi0 : I7 (x) = I x := (by rw [eI7, up1_n (by omega)] <;> exact hi0)
  have hz7 : I7 (x + 1) = fun _ => 0 := by rw [eI7, up1_s]
  have hl7 : L7 (x + 1) = fun _ => 0 := by rw [eL7, up1_s]
  have hr7 : ∀ k, Y7.2.2 (x + 1) k = none := fun k => by rw [n7.2.2.2, up1_s]
  have ht : Is base Y7 (x + 1) (.inr (3, 80)) := n7.is
  refine m_putRF C fl_X2_9 rfl dX2_init_9 hx (hnm.trans rfl) rfl (fun Y9 p9 => ?_)
  replace hx : Is base Y9 (x) (.inl 2) := (p9.keep hx)
  replace hY : base + Y9.1 = x + 1 + 1 := (by rw [p9.n]; exact hY)
  replace hsm : Sm x Y I L Y9 I7 L7 := (hsm.tr (Sm.pr p9 (by omega)) (Nat.le_refl _))
  replace hi0 : I7 (x) = I x := hi0
  replace ht : Is base Y9 (x + 1) (.inr (3, 80)) := (p9.keep ht)
  replace hz7 : I7 (x + 1) = fun _ => 0 := hz7
  refine r_vret C hr hlk dX2_init_12 (Nat.le_of_ble_eq_true rfl) (Nat.le_of_ble_eq_true rfl) ?_
  exact ⟨rfl, by rw [p9.n, n7.2.1], hsm, hx, ht, p9.at, hi0, hz7⟩
set_option maxHeartbeats 4000000 in
set_option maxRecDepth 20000 in
theorem k_X0_init {l : Launch} {G : Gd} {base : Nat} {Y : MY} {I : MI} {L : ML} {x : Nat} (hx : Is base Y x (.inl 0)) (hY : base + Y.1 = x + 1) : Ct l yX0_init cX0_init 1 none { frames := 2, cells := 2, slots := 25, locals := 100 } G base [.ref x] Y I L (fun v Y' I' L' => v = none ∧ Y'.1 = Y.1 + 2 ∧ Sm x Y I L Y' I' L' ∧ Is base Y' x (.inl 0) ∧ Is base Y' (x + 1) (.inr (0, 5)) ∧ Is base Y' (x + 2) (.inr (0, 20)) ∧ Y'.2.2 x 0 = some (x + 1) ∧ Y'.2.2 x 1 = some (x + 2)) := by
  refine Ct.of (own := RX0) (lo := [(0, .ref x)]) (by decide) rfl (Nat.le_of_ble_eq_true rfl) rfl ?_
  intro zp ze zs zm zargs zbl zmt zc C hr hlk hnm
  have hsm : Sm x Y I L Y I L := Sm.rf
  refine r_aload_n C 0 dX0_init_0 rfl rfl ?_
  refine r_oinit C wo_X0_3 dX0_init_1 (Nat.le_of_ble_eq_true rfl) (Nat.le_of_ble_eq_true rfl) ?_
  refine r_aload_n C 0 dX0_init_4 rfl rfl ?_
  refine r_getsN C (j := 2) (by decide) (fun U h => h.2.2.1) dX0_init_5 ?_
  refine r_tlen (v := iI 5) C (j := 2) (by decide) rfl dX0_init_8 ?_
  refine m_newa (t := 0) (n := 5) C (by decide) rfl wa_0 rfl (by decide) (Nat.le_of_ble_eq_true rfl) (Nat.le_of_ble_eq_true rfl) dX0_init_9 (fun x9 Y9 I9 L9 n9 eI9 eL9 => ?_)
  have ex9 : x9 = x + 1 := by have := n9.1; omega
  subst ex9
  replace hx : Is base Y9 (x) (.inl 0) := (n9.keep hx)
  replace hY : base + Y9.1 = x + 1 + 1 := (by rw [n9.2.1]; omega)
  replace hsm : Sm x Y I L Y9 I9 L9 := (hsm.tr (Sm.nw n9 eI9 eL9) (by omega))
  have hz9 : I9 (x + 1) = fun _ => 0 := by rw [eI9, up1_s]
  have hl9 : L9 (x + 1) = fun _ => 0 := by rw [eL9, up1_s]
  have hr9 : ∀ k, Y9.2.2 (x + 1) k = none := fun k => by rw [n9.2.2.2, up1_s]
  have hs5 : Is base Y9 (x + 1) (.inr (0, 5)) := n9.is
  refine m_putRF C fl_X0_13 rfl dX0_init_11 hx (hnm.trans rfl) rfl (fun Y11 p11 => ?_)
  replace hx : Is base Y11 (x) (.inl 0) := (p11.keep hx)
  replace hY : base + Y11.1 = x + 1 + 1 := (by rw [p11.n]; exact hY)
  replace hsm : Sm x Y I L Y11 I9 L9 := (hsm.tr (Sm.pr p11 (by omega)) (Nat.le_refl _))
  replace hs5 : Is base Y11 (x + 1) (.inr (0, 5)) := (p11.keep hs5)
  have hr0 : Y11.2.2 x 0 = some (x + 1) := p11.at
  refine r_aload_n C 0 dX0_init_14 rfl rfl ?_
  refine r_bipush (v := iI 20) C dX0_init_15 (by decide) ?_
  refine m_newa (t := 0) (n := 20) C (by decide) rfl wa_0 rfl (by decide) (Nat.le_of_ble_eq_true rfl) (Nat.le_of_ble_eq_true rfl) dX0_init_17 (fun x17 Y17 I17 L17 n17 eI17 eL17 => ?_)
  have ex17 : x17 = x + 2 := by have := n17.1; omega
  subst ex17
  replace hx : Is base Y17 (x) (.inl 0) := (n17.keep hx)
  replace hY : base + Y17.1 = x + 2 + 1 := (by rw [n17.2.1]; omega)
  replace hsm : Sm x Y I L Y17 I17 L17 := (hsm.tr (Sm.nw n17 eI17 eL17) (by omega))
  replace hs5 : Is base Y17 (x + 1) (.inr (0, 5)) := (n17.keep hs5)
  replace hr0 : Y17.2.2 (x) 0 = some (x + 1) := (by rw [n17.rn (by omega)]; exact hr0)
  have hz17 : I17 (x + 2) = fun _ => 0 := by rw [eI17, up1_s]
  have hl17 : L17 (x + 2) = fun _ => 0 := by rw [eL17, up1_s]
  have hr17 : ∀ k, Y17.2.2 (x + 2) k = none := fun k => by rw [n17.2.2.2, up1_s]
  have hs20 : Is base Y17 (x + 2) (.inr (0, 20)) := n17.is
  refine m_putRF C fl_X0_18 rfl dX0_init_19 hx (hnm.trans rfl) rfl (fun Y19 p19 => ?_)
  replace hx : Is base Y19 (x) (.inl 0) := (p19.keep hx)
  replace hY : base + Y19.1 = x + 2 + 1 := (by rw [p19.n]; exact hY)
  replace hsm : Sm x Y I L Y19 I17 L17 := (hsm.tr (Sm.pr p19 (by omega)) (Nat.le_refl _))
  replace hs5 : Is base Y19 (x + 1) (.inr (0, 5)) := (p19.keep hs5)
  replace hr0 : Y19.2.2 (x) 0 = some (x + 1) := (by rw [p19.nk (by omega)]; exact hr0)
  replace hs20 : Is base Y19 (x + 2) (.inr (0, 20)) := (p19.keep hs20)
  have hr1 : Y19.2.2 x 1 = some (x + 2) := p19.at
  refine r_aload_n C 0 dX0_init_22 rfl rfl ?_
  refine r_getsN C (j := 2) (by decide) (fun U h => h.2.2.1) dX0_init_23 ?_
  refine r_iconst (v := iI 0) C dX0_init_26 rfl ?_
  refine r_tld (v := iI 1) C (j := 2) (by decide) 0 ⟨rfl, by decide, by decide⟩ (by decide) dX0_init_27 ?_
  refine cV1_EV C (k_X0_begin0 hx hs5 hr0) cw_X0_21 (rm_ok rfl rfl (Nat.le_of_ble_eq_true rfl) (Nat.le_of_ble_eq_true rfl)) (Nat.le_of_ble_eq_true rfl) hx dX0_init_28 (fun I28 L28 h28 => ?_)
  refine r_vret C hr hlk dX0_init_31 (Nat.le_of_ble_eq_true rfl) (Nat.le_of_ble_eq_true rfl) ?_
  refine ⟨rfl, by rw [p19.n, n17.2.1, p11.n, n9.2.1], fun y hy => ?_, hx, hs5, hs20, hr0, hr1⟩
  have g := hsm y hy
  exact ⟨g.1, g.2.1, (h28.1 y (by omega) (by omega)).trans g.2.2.1, (h28.2 y (by omega)).trans g.2.2.2⟩
