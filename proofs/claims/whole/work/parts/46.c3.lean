theorem Ct.ofF {l : Launch} {y : MethodName} {cc : ByteArray} {nL : Nat} {ret : Option FieldType} {rm : Room} {G : Gd} {base : Nat} {av : List Value} {Y : MY} {I : MI} {L : ML} {F : Option Value → MY → MI → ML → Prop} {lo : List (Nat × Value)} {own : String}
    (hy : plainFor y = true) (hown : y.cls = own) (hlen : (lg_sl av).length ≤ nL) (hlo : lv_args 0 av = lo)
    (body : ∀ (p : Program) (e : Env) (s : State) (m : MethodId) (args : Array Value) (below : List Frame) (meth : Method) (c : Code), Cx p s m args c cc nL own G base → meth.sig.returnType = ret → meth.locks = false → meth.name = y.name → Bd p l e rm s m args below meth c nL G base F 0 lo [] Y I L 0 0) : Ct l y cc nL ret rm G base av Y I L F := by
  unfold Ct Met
  refine MetFree.of_bodySF (code := cc) (maxLocals := nL) (ret := ret) hy ?_ ?_
  · intro args s m h hn
    obtain ⟨meth, c, h1, h2, h3, h4, h5, h6, -, -⟩ := Cond.code_spec hn (atoms_spec (ws := .code y cc nL ret :: tW) h _ List.mem_cons_self)
    exact ⟨meth, c, h1, h2, h3, h4, h5, h6⟩
  · intro p e s m args below meth c s₁ B hml hv _
    have hh0 : s₁.heap = s.heap := by rw [B.state]; rfl
    obtain ⟨rfl, hK, hP, hST⟩ := hv
    subst hown
    have hts0 := atoms_spec (ws := .code y cc nL ret :: tW) B.pre
    have C : Cx p s m av.toArray c cc nL y.cls G base := ⟨B.exec, B.bytes, hml, findClass_of_methodNamed B.named, fun w h => hts0 w (List.mem_cons_of_mem _ h), hK, by rw [hP.1]; omega, hST⟩
    have hl := lv_entry av (n := nL) hlen
    rw [hlo] at hl
    have hbd := body p e s m _ below meth c C B.returns B.notSynchronized (name_of_methodNamed B.named B.method).1 _ s.heap [] hl hP va_S.rf
    rw [← lg_entry_eq] at hbd
    obtain ⟨t, a1, o, b1, b2, b3⟩ := hbd s₁ hh0 (Stand.of_body B)
    exact ⟨t, o, a1, b1, b2, ⟨b3.1, b3.2⟩⟩
theorem m120 {p : Nat} : p % 120 < 120 := Nat.mod_lt _ (by decide)
theorem m60 {p : Nat} : p % 60 < 60 := Nat.mod_lt _ (by decide)
theorem oP {j : Nat} (h : j < 120) : 22 + j < 206 := by omega
theorem oR {j : Nat} (h : j < 60) : 143 + j < 206 := by omega
theorem oF {f : Nat} (h : f < 6) : 3 + 3 * f < 206 := by omega
theorem oG {f : Nat} (h : f < 6) : 4 + 3 * f < 206 := by omega
theorem oQ {f : Nat} (h : f < 6) : 5 + 3 * f < 206 := by omega
theorem lnP {j k : Nat} (h : j < 120) (hk : k ≠ 10) : ¬ lng (22 + j) k := by unfold lng; omega
theorem lnPy {j : Nat} (h : j < 120) : lng (22 + j) 10 := by unfold lng; omega
theorem lnF {f k : Nat} (h : f < 6) (hk : k < 10) : ¬ lng (3 + 3 * f) k := by unfold lng; omega
theorem lnFy {f k : Nat} (h : f < 6) (hk : 10 ≤ k ∧ k ≤ 14) : lng (3 + 3 * f) k := by unfold lng; omega
theorem lnG1 {f k : Nat} (h : f < 6) : ¬ lng (4 + 3 * f) k := by unfold lng; omega
theorem lnQ1 {f k : Nat} (h : f < 6) : ¬ lng (5 + 3 * f) k := by unfold lng; omega
theorem lnR {j k : Nat} (h : j < 60) : ¬ lng (143 + j) k := by unfold lng; omega
theorem lnS {k : Nat} (hk : k ≠ 14) : ¬ lng 0 k := by unfold lng; omega
theorem lnSy : lng 0 14 := by unfold lng; omega
theorem ln1 {k : Nat} : ¬ lng 1 k := by unfold lng; omega
theorem ln203 {k : Nat} : ¬ lng 203 k := by unfold lng; omega
theorem ln204 {k : Nat} : ¬ lng 204 k := by unfold lng; omega
theorem ln205 {k : Nat} : ¬ lng 205 k := by unfold lng; omega
theorem xor_nn {x y : Int} (hx : 0 ≤ x ∧ x < 2147483648) (hy : 0 ≤ y ∧ y < 2147483648) : (0 : Int32) ≤ iI x ^^^ iI y := by
  rw [Int32.le_iff_toInt_le]
  have e : (iI x ^^^ iI y).toInt = ((iI x).toBitVec ^^^ (iI y).toBitVec).toInt := rfl
  have h1 : (iI x).toBitVec.msb = false := by
    rw [BitVec.msb_eq_toInt]
    show decide ((iI x).toInt < 0) = false
    rw [iI_toInt (by omega) (by omega), decide_eq_false_iff_not]
    omega
  have h2 : (iI y).toBitVec.msb = false := by
    rw [BitVec.msb_eq_toInt]
    show decide ((iI y).toInt < 0) = false
    rw [iI_toInt (by omega) (by omega), decide_eq_false_iff_not]
    omega
  rw [e, BitVec.toInt_eq_msb_cond, BitVec.msb_xor, h1, h2]
  show (0 : Int) ≤ _
  simp
set_option maxHeartbeats 4000000 in
set_option maxRecDepth 20000 in
theorem k_J9_max_7cf53 {l : Launch} {G : Gd} {base : Nat} {Y : MY} {I : MI} {L : ML} {x y : Int} (hx : i32 x) (hy : i32 y) : Ct l yJ9_max_7cf53 cJ9_max_7cf53 2 (some .int) (rmz 0 0) G base [.int (iI x), .int (iI y)] Y I L (PI (if x < y then y else x) Y I L) := by
  refine Ct.ofF (own := RJ9) (lo := [(0, .int (iI x)), (1, .int (iI y))]) (by decide +kernel) rfl (Nat.le_of_ble_eq_true rfl) rfl ?_
  intro zp ze zs zm zargs zbl zmt zc C hr hlk hnm
  refine r_iload_n C 0 dJ9_max_7cf53_0 rfl rfl ?_
  refine r_iload_n C 1 dJ9_max_7cf53_1 rfl rfl ?_
  refine n_icmp_lt (tgt := 9) C dJ9_max_7cf53_2 (by decide) hx hy (fun c2 => ?_) (fun c2 => ?_)
  · refine r_iload_n C 1 dJ9_max_7cf53_9 rfl rfl ?_
    refine r_iret C hr hlk dJ9_max_7cf53_10 (Nat.zero_le _) (Nat.zero_le _) ?_
    exact ⟨congrArg (fun z => some (Value.int (iI z))) (by split <;> omega), rfl, rfl, rfl⟩
  · refine r_iload_n C 0 dJ9_max_7cf53_5 rfl rfl ?_
    refine r_goto (tgt := 10) C dJ9_max_7cf53_6 (by decide) ?_
    refine r_iret C hr hlk dJ9_max_7cf53_10 (Nat.zero_le _) (Nat.zero_le _) ?_
    exact ⟨congrArg (fun z => some (Value.int (iI z))) (by split <;> omega), rfl, rfl, rfl⟩
set_option maxHeartbeats 4000000 in
set_option maxRecDepth 20000 in
theorem k_J9_max_f86c9 {l : Launch} {G : Gd} {base : Nat} {Y : MY} {I : MI} {L : ML} {x y : Int} (hx : i64 x) (hy : i64 y) : Ct l yJ9_max_f86c9 cJ9_max_f86c9 4 (some .long) (rmz 0 0) G base [.long (lI x), .long (lI y)] Y I L (PL (if x < y then y else x) Y I L) := by
  refine Ct.ofF (own := RJ9) (lo := [(0, .long (lI x)), (2, .long (lI y))]) (by decide +kernel) rfl (Nat.le_of_ble_eq_true rfl) rfl ?_
  intro zp ze zs zm zargs zbl zmt zc C hr hlk hnm
  refine r_lload_n C 0 dJ9_max_f86c9_0 rfl rfl ?_
  refine r_lload_n C 1 dJ9_max_f86c9_1 rfl rfl ?_
  refine n_lcmp_lt (tgt := 10) C dJ9_max_f86c9_2 dJ9_max_f86c9_3 rfl rfl (by decide) hx hy (fun c2 => ?_) (fun c2 => ?_)
  · refine r_lload_n C 1 dJ9_max_f86c9_10 rfl rfl ?_
    refine r_lret C hr hlk dJ9_max_f86c9_11 (Nat.zero_le _) (Nat.zero_le _) ?_
    exact ⟨congrArg (fun z => some (Value.long (lI z))) (by split <;> omega), rfl, rfl, rfl⟩
  · refine r_lload_n C 0 dJ9_max_f86c9_6 rfl rfl ?_
    refine r_goto (tgt := 11) C dJ9_max_f86c9_7 (by decide) ?_
    refine r_lret C hr hlk dJ9_max_f86c9_11 (Nat.zero_le _) (Nat.zero_le _) ?_
    exact ⟨congrArg (fun z => some (Value.long (lI z))) (by split <;> omega), rfl, rfl, rfl⟩
set_option maxHeartbeats 4000000 in
set_option maxRecDepth 20000 in
theorem k_J9_min_7cf53 {l : Launch} {G : Gd} {base : Nat} {Y : MY} {I : MI} {L : ML} {x y : Int} (hx : i32 x) (hy : i32 y) : Ct l yJ9_min_7cf53 cJ9_min_7cf53 2 (some .int) (rmz 0 0) G base [.int (iI x), .int (iI y)] Y I L (PI (if x < y then x else y) Y I L) := by
  refine Ct.ofF (own := RJ9) (lo := [(0, .int (iI x)), (1, .int (iI y))]) (by decide +kernel) rfl (Nat.le_of_ble_eq_true rfl) rfl ?_
  intro zp ze zs zm zargs zbl zmt zc C hr hlk hnm
  refine r_iload_n C 0 dJ9_min_7cf53_0 rfl rfl ?_
  refine r_iload_n C 1 dJ9_min_7cf53_1 rfl rfl ?_
  refine n_icmp_gt (tgt := 9) C dJ9_min_7cf53_2 (by decide) hx hy (fun c2 => ?_) (fun c2 => ?_)
  · refine r_iload_n C 1 dJ9_min_7cf53_9 rfl rfl ?_
    refine r_iret C hr hlk dJ9_min_7cf53_10 (Nat.zero_le _) (Nat.zero_le _) ?_
    exact ⟨congrArg (fun z => some (Value.int (iI z))) (by split <;> omega), rfl, rfl, rfl⟩
  · refine r_iload_n C 0 dJ9_min_7cf53_5 rfl rfl ?_
    refine r_goto (tgt := 10) C dJ9_min_7cf53_6 (by decide) ?_
    refine r_iret C hr hlk dJ9_min_7cf53_10 (Nat.zero_le _) (Nat.zero_le _) ?_
    exact ⟨congrArg (fun z => some (Value.int (iI z))) (by split <;> omega), rfl, rfl, rfl⟩
set_option maxHeartbeats 4000000 in
set_option maxRecDepth 20000 in
theorem k_J9_min_f86c9 {l : Launch} {G : Gd} {base : Nat} {Y : MY} {I : MI} {L : ML} {x y : Int} (hx : i64 x) (hy : i64 y) : Ct l yJ9_min_f86c9 cJ9_min_f86c9 4 (some .long) (rmz 0 0) G base [.long (lI x), .long (lI y)] Y I L (PL (if x < y then x else y) Y I L) := by
  refine Ct.ofF (own := RJ9) (lo := [(0, .long (lI x)), (2, .long (lI y))]) (by decide +kernel) rfl (Nat.le_of_ble_eq_true rfl) rfl ?_
  intro zp ze zs zm zargs zbl zmt zc C hr hlk hnm
  refine r_lload_n C 0 dJ9_min_f86c9_0 rfl rfl ?_
  refine r_lload_n C 1 dJ9_min_f86c9_1 rfl rfl ?_
  refine n_lcmp_gt (tgt := 10) C dJ9_min_f86c9_2 dJ9_min_f86c9_3 rfl rfl (by decide) hx hy (fun c2 => ?_) (fun c2 => ?_)
  · refine r_lload_n C 1 dJ9_min_f86c9_10 rfl rfl ?_
    refine r_lret C hr hlk dJ9_min_f86c9_11 (Nat.zero_le _) (Nat.zero_le _) ?_
    exact ⟨congrArg (fun z => some (Value.long (lI z))) (by split <;> omega), rfl, rfl, rfl⟩
  · refine r_lload_n C 0 dJ9_min_f86c9_6 rfl rfl ?_
    refine r_goto (tgt := 11) C dJ9_min_f86c9_7 (by decide) ?_
    refine r_lret C hr hlk dJ9_min_f86c9_11 (Nat.zero_le _) (Nat.zero_le _) ?_
    exact ⟨congrArg (fun z => some (Value.long (lI z))) (by split <;> omega), rfl, rfl, rfl⟩
set_option maxHeartbeats 4000000 in
set_option maxRecDepth 20000 in
theorem k_J9_abs_067f4 {l : Launch} {G : Gd} {base : Nat} {Y : MY} {I : MI} {L : ML} {x : Int} (hx : i64 x) : Ct l yJ9_abs_067f4 cJ9_abs_067f4 2 (some .long) (rmz 0 0) G base [.long (lI x)] Y I L (PL (if x < 0 then -x else x) Y I L) := by
  refine Ct.ofF (own := RJ9) (lo := [(0, .long (lI x))]) (by decide +kernel) rfl (Nat.le_of_ble_eq_true rfl) rfl ?_
  intro zp ze zs zm zargs zbl zmt zc C hr hlk hnm
  refine r_lload_n C 0 dJ9_abs_067f4_0 rfl rfl ?_
  refine r_lconst (v := lI 0) C dJ9_abs_067f4_1 (by decide) ?_
  refine n_lcmp_ge (tgt := 11) C dJ9_abs_067f4_2 dJ9_abs_067f4_3 rfl rfl (by decide) hx ⟨by decide, by decide⟩ (fun c2 => ?_) (fun c2 => ?_)
  · refine r_lload_n C 0 dJ9_abs_067f4_11 rfl rfl ?_
    refine r_lret C hr hlk dJ9_abs_067f4_12 (Nat.zero_le _) (Nat.zero_le _) ?_
    exact ⟨congrArg (fun z => some (Value.long (lI z))) (by split <;> omega), rfl, rfl, rfl⟩
  · refine r_lload_n C 0 dJ9_abs_067f4_6 rfl rfl ?_
    refine n_lneg C dJ9_abs_067f4_7 ?_
    refine r_goto (tgt := 12) C dJ9_abs_067f4_8 (by decide) ?_
    refine r_lret C hr hlk dJ9_abs_067f4_12 (Nat.zero_le _) (Nat.zero_le _) ?_
    exact ⟨congrArg (fun z => some (Value.long (lI z))) (by split <;> omega), rfl, rfl, rfl⟩
set_option maxHeartbeats 4000000 in
set_option maxRecDepth 20000 in
theorem k_J9_floorMod_7cf53 {l : Launch} {G : Gd} {base : Nat} {Y : MY} {I : MI} {L : ML} {x y : Int} (hx : 0 ≤ x ∧ x < 2147483648) (hy : 0 < y ∧ y < 2147483648) : Ct l yJ9_floorMod_7cf53 cJ9_floorMod_7cf53 3 (some .int) (rmz 0 0) G base [.int (iI x), .int (iI y)] Y I L (PI (x % y) Y I L) := by
  refine Ct.ofF (own := RJ9) (lo := [(0, .int (iI x)), (1, .int (iI y))]) (by decide +kernel) rfl (Nat.le_of_ble_eq_true rfl) rfl ?_
  intro zp ze zs zm zargs zbl zmt zc C hr hlk hnm
  refine r_iload_n C 0 dJ9_floorMod_7cf53_0 rfl rfl ?_
  refine r_iload_n C 1 dJ9_floorMod_7cf53_1 rfl rfl ?_
  refine n_irem C dJ9_floorMod_7cf53_2 (by omega) (by omega) ?_
  refine r_istore_n (lo' := [(2, .int (iI (x % y))), (0, .int (iI x)), (1, .int (iI y))]) C dJ9_floorMod_7cf53_3 rfl (by decide) rfl ?_
  refine r_iload_n C 1 dJ9_floorMod_7cf53_4 rfl rfl ?_
  refine r_iload_n C 2 dJ9_floorMod_7cf53_5 rfl rfl ?_
  refine r_ixor C dJ9_floorMod_7cf53_6 ?_
  refine r_if_ge (tgt := 18) C dJ9_floorMod_7cf53_7 (by decide) (fun c7 => ?_) (fun c7 => ?_)
  · refine r_iload_n C 0 dJ9_floorMod_7cf53_18 rfl rfl ?_
    refine r_iret C hr hlk dJ9_floorMod_7cf53_19 (Nat.zero_le _) (Nat.zero_le _) ?_
    exact ⟨congrArg (fun z => some (Value.int (iI z))) (by first | exact ex3 | rfl), rfl, rfl, rfl⟩
  · exact absurd (xor_nn hx ⟨by omega, hy.2⟩) c7
set_option maxHeartbeats 4000000 in
set_option maxRecDepth 20000 in
theorem k_X4_hasFlow {l : Launch} {G : Gd} {base : Nat} {Y : MY} {I : MI} {L : ML} {B : Nat} {X : Sa} {f : Int} (hS : SLy base Y B) (hf : -2147483648 ≤ f ∧ f < 2147483648) (h2 : 0 ≤ X 2 ∧ X 2 ≤ 6) : Ct l yX4_hasFlow cX4_hasFlow 2 (some .boolean) (rmz 0 0) G base [.ref B, .int (iI f)] Y (cI I B X) (cL L B X) (PI (b2 (0 ≤ f ∧ f < X 2)) Y (cI I B X) (cL L B X)) := by
  refine Ct.of (own := RX4) (lo := [(0, .ref B), (1, .int (iI f))]) (by decide) rfl (Nat.le_of_ble_eq_true rfl) rfl ?_
  intro zp ze zs zm zargs zbl zmt zc C hr hlk hnm
  refine r_iload_n C 1 dX4_hasFlow_0 rfl rfl ?_
  refine n_if_lt (tgt := 16) C dX4_hasFlow_1 (by decide) (by constructor <;> omega) (fun c1 => ?_) (fun c1 => ?_)
  · refine r_iconst (v := iI 0) C dX4_hasFlow_16 rfl ?_
    refine r_zret C hr hlk (by decide) dX4_hasFlow_17 (Nat.zero_le _) (Nat.zero_le _) ?_
    exact ⟨congrArg (fun z => some (Value.int (iI z))) (by first | (rw [b2_1 (by omega)]; done) | (rw [b2_0 (by omega)]; done)), rfl, rfl, rfl⟩
  · refine r_iload_n C 1 dX4_hasFlow_4 rfl rfl ?_
    refine r_aload_n C 0 dX4_hasFlow_5 rfl rfl ?_
    refine c_getI C (v := (X 2)) 0 2 rfl (by decide) (lnS (by decide)) rfl fl_X4_60 rfl dX4_hasFlow_6 hS.1.1 rfl ?_
    refine n_icmp_ge (tgt := 16) C dX4_hasFlow_9 (by decide) (by constructor <;> omega) (by constructor <;> omega) (fun c9 => ?_) (fun c9 => ?_)
    · refine r_iconst (v := iI 0) C dX4_hasFlow_16 rfl ?_
      refine r_zret C hr hlk (by decide) dX4_hasFlow_17 (Nat.zero_le _) (Nat.zero_le _) ?_
      exact ⟨congrArg (fun z => some (Value.int (iI z))) (by first | (rw [b2_1 (by omega)]; done) | (rw [b2_0 (by omega)]; done)), rfl, rfl, rfl⟩
    · refine r_iconst (v := iI 1) C dX4_hasFlow_12 rfl ?_
      refine r_goto (tgt := 17) C dX4_hasFlow_13 (by decide) ?_
      refine r_zret C hr hlk (by decide) dX4_hasFlow_17 (Nat.zero_le _) (Nat.zero_le _) ?_
      exact ⟨congrArg (fun z => some (Value.int (iI z))) (by first | (rw [b2_1 (by omega)]; done) | (rw [b2_0 (by omega)]; done)), rfl, rfl, rfl⟩
set_option maxHeartbeats 4000000 in
set_option maxRecDepth 20000 in
theorem k_X4_oldestPacket {l : Launch} {G : Gd} {base : Nat} {Y : MY} {I : MI} {L : ML} {B : Nat} {X : Sa}  (hS : SLy base Y B) (h7 : 0 ≤ X 7 ∧ X 7 ≤ 400000) : Ct l yX4_oldestPacket cX4_oldestPacket 1 (some .int) (rmz 1 21) G base [.ref B] Y (cI I B X) (cL L B X) (PI ((old X : Nat) : Int) Y (cI I B X) (cL L B X)) := by
  refine Ct.of (own := RX4) (lo := [(0, .ref B)]) (by decide) rfl (Nat.le_of_ble_eq_true rfl) rfl ?_
  intro zp ze zs zm zargs zbl zmt zc C hr hlk hnm
  refine r_iconst (v := iI 0) C dX4_oldestPacket_0 rfl ?_
  refine r_aload_n C 0 dX4_oldestPacket_1 rfl rfl ?_
  refine c_getI C (v := (X 7)) 0 7 rfl (by decide) (lnS (by decide)) rfl fl_X4_63 rfl dX4_oldestPacket_2 hS.1.1 rfl ?_
  refine r_bipush (v := iI 120) C dX4_oldestPacket_5 (by decide) ?_
  refine n_isub C dX4_oldestPacket_7 ?_
  refine cS2_PI C (k_J9_max_7cf53 ⟨by decide, by decide⟩ (by constructor <;> omega)) cw_X4_66 (rm_ok rfl rfl (Nat.zero_le _) (Nat.zero_le _)) (Nat.le_of_ble_eq_true rfl) dX4_oldestPacket_8 ?_
  refine n_topi (fun y8 ey8 => ?_)
  have ky8 : (0 < ((X 7) - 120) ∧ y8 = ((X 7) - 120)) ∨ (((X 7) - 120) ≤ 0 ∧ y8 = 0) := by rw [ey8]; split <;> omega
  refine r_iret C hr hlk dX4_oldestPacket_11 (Nat.zero_le _) (Nat.zero_le _) ?_
  exact ⟨congrArg (fun z => some (Value.int (iI z))) (by unfold old; omega), rfl, rfl, rfl⟩
set_option maxHeartbeats 4000000 in
set_option maxRecDepth 20000 in
theorem k_X4_oldestPiece {l : Launch} {G : Gd} {base : Nat} {Y : MY} {I : MI} {L : ML} {B : Nat} {X : Sa}  (hS : SLy base Y B) (h7 : 0 ≤ X 15 ∧ X 15 ≤ 1002000) : Ct l yX4_oldestPiece cX4_oldestPiece 1 (some .int) (rmz 1 21) G base [.ref B] Y (cI I B X) (cL L B X) (PI (((X 15 - 60).toNat : Nat) : Int) Y (cI I B X) (cL L B X)) := by
  refine Ct.of (own := RX4) (lo := [(0, .ref B)]) (by decide) rfl (Nat.le_of_ble_eq_true rfl) rfl ?_
  intro zp ze zs zm zargs zbl zmt zc C hr hlk hnm
  refine r_iconst (v := iI 0) C dX4_oldestPiece_0 rfl ?_
  refine r_aload_n C 0 dX4_oldestPiece_1 rfl rfl ?_
  refine c_getI C (v := (X 15)) 0 15 rfl (by decide) (lnS (by decide)) rfl fl_X4_79 rfl dX4_oldestPiece_2 hS.1.1 rfl ?_
  refine r_bipush (v := iI 60) C dX4_oldestPiece_5 (by decide) ?_
  refine n_isub C dX4_oldestPiece_7 ?_
  refine cS2_PI C (k_J9_max_7cf53 ⟨by decide, by decide⟩ (by constructor <;> omega)) cw_X4_66 (rm_ok rfl rfl (Nat.zero_le _) (Nat.zero_le _)) (Nat.le_of_ble_eq_true rfl) dX4_oldestPiece_8 ?_
  refine n_topi (fun y8 ey8 => ?_)
  have ky8 : (0 < ((X 15) - 60) ∧ y8 = ((X 15) - 60)) ∨ (((X 15) - 60) ≤ 0 ∧ y8 = 0) := by rw [ey8]; split <;> omega
  refine r_iret C hr hlk dX4_oldestPiece_11 (Nat.zero_le _) (Nat.zero_le _) ?_
  exact ⟨congrArg (fun z => some (Value.int (iI z))) (by omega), rfl, rfl, rfl⟩
set_option maxHeartbeats 4000000 in
set_option maxRecDepth 20000 in
theorem k_X4_knowsPacket {l : Launch} {G : Gd} {base : Nat} {Y : MY} {I : MI} {L : ML} {B : Nat} {X : Sa} {p : Int} (hS : SLy base Y B) (hp : -2147483648 ≤ p ∧ p < 2147483648) (h7 : 0 ≤ X 7 ∧ X 7 ≤ 400000) : Ct l yX4_knowsPacket cX4_knowsPacket 2 (some .boolean) (rmz 2 41) G base [.ref B, .int (iI p)] Y (cI I B X) (cL L B X) (PI (b2 (0 ≤ p ∧ p < X 7 ∧ X 7 - 120 ≤ p)) Y (cI I B X) (cL L B X)) := by
  refine Ct.of (own := RX4) (lo := [(0, .ref B), (1, .int (iI p))]) (by decide) rfl (Nat.le_of_ble_eq_true rfl) rfl ?_
  intro zp ze zs zm zargs zbl zmt zc C hr hlk hnm
  have ho : old X = (X 7 - 120).toNat := rfl
  refine r_iload_n C 1 dX4_knowsPacket_0 rfl rfl ?_
  refine r_aload_n C 0 dX4_knowsPacket_1 rfl rfl ?_
  refine cV0_PI C (k_X4_oldestPacket hS (by omega)) cw_X4_72 (rm_ok rfl rfl (Nat.zero_le _) (Nat.zero_le _)) (Nat.le_of_ble_eq_true rfl) hS.1.1 dX4_knowsPacket_2 ?_
  refine n_icmp_lt (tgt := 20) C dX4_knowsPacket_5 (by decide) (by constructor <;> omega) (by constructor <;> omega) (fun c5 => ?_) (fun c5 => ?_)
  · refine r_iconst (v := iI 0) C dX4_knowsPacket_20 rfl ?_
    refine r_zret C hr hlk (by decide) dX4_knowsPacket_21 (Nat.zero_le _) (Nat.zero_le _) ?_
    exact ⟨congrArg (fun z => some (Value.int (iI z))) (by first | (rw [b2_1 (by omega)]; done) | (rw [b2_0 (by omega)]; done)), rfl, rfl, rfl⟩
  · refine r_iload_n C 1 dX4_knowsPacket_8 rfl rfl ?_
    refine r_aload_n C 0 dX4_knowsPacket_9 rfl rfl ?_
    refine c_getI C (v := (X 7)) 0 7 rfl (by decide) (lnS (by decide)) rfl fl_X4_63 rfl dX4_knowsPacket_10 hS.1.1 rfl ?_
    refine n_icmp_ge (tgt := 20) C dX4_knowsPacket_13 (by decide) (by constructor <;> omega) (by constructor <;> omega) (fun c13 => ?_) (fun c13 => ?_)
    · refine r_iconst (v := iI 0) C dX4_knowsPacket_20 rfl ?_
      refine r_zret C hr hlk (by decide) dX4_knowsPacket_21 (Nat.zero_le _) (Nat.zero_le _) ?_
      exact ⟨congrArg (fun z => some (Value.int (iI z))) (by first | (rw [b2_1 (by omega)]; done) | (rw [b2_0 (by omega)]; done)), rfl, rfl, rfl⟩
    · refine r_iconst (v := iI 1) C dX4_knowsPacket_16 rfl ?_
      refine r_goto (tgt := 21) C dX4_knowsPacket_17 (by decide) ?_
      refine r_zret C hr hlk (by decide) dX4_knowsPacket_21 (Nat.zero_le _) (Nat.zero_le _) ?_
      exact ⟨congrArg (fun z => some (Value.int (iI z))) (by first | (rw [b2_1 (by omega)]; done) | (rw [b2_0 (by omega)]; done)), rfl, rfl, rfl⟩
set_option maxHeartbeats 4000000 in
set_option maxRecDepth 20000 in
theorem k_X4_knowsPiece {l : Launch} {G : Gd} {base : Nat} {Y : MY} {I : MI} {L : ML} {B : Nat} {X : Sa} {p : Int} (hS : SLy base Y B) (hp : -2147483648 ≤ p ∧ p < 2147483648) (h7 : 0 ≤ X 15 ∧ X 15 ≤ 1002000) : Ct l yX4_knowsPiece cX4_knowsPiece 2 (some .boolean) (rmz 2 41) G base [.ref B, .int (iI p)] Y (cI I B X) (cL L B X) (PI (b2 (0 ≤ p ∧ p < X 15 ∧ X 15 - 60 ≤ p)) Y (cI I B X) (cL L B X)) := by
  refine Ct.of (own := RX4) (lo := [(0, .ref B), (1, .int (iI p))]) (by decide) rfl (Nat.le_of_ble_eq_true rfl) rfl ?_
  intro zp ze zs zm zargs zbl zmt zc C hr hlk hnm
  refine r_iload_n C 1 dX4_knowsPiece_0 rfl rfl ?_
  refine r_aload_n C 0 dX4_knowsPiece_1 rfl rfl ?_
  refine cV0_PI C (k_X4_oldestPiece hS (by omega)) cw_X4_82 (rm_ok rfl rfl (Nat.zero_le _) (Nat.zero_le _)) (Nat.le_of_ble_eq_true rfl) hS.1.1 dX4_knowsPiece_2 ?_
  refine n_icmp_lt (tgt := 20) C dX4_knowsPiece_5 (by decide) (by constructor <;> omega) (by constructor <;> omega) (fun c5 => ?_) (fun c5 => ?_)
  · refine r_iconst (v := iI 0) C dX4_knowsPiece_20 rfl ?_
    refine r_zret C hr hlk (by decide) dX4_knowsPiece_21 (Nat.zero_le _) (Nat.zero_le _) ?_
    exact ⟨congrArg (fun z => some (Value.int (iI z))) (by first | (rw [b2_1 (by omega)]; done) | (rw [b2_0 (by omega)]; done)), rfl, rfl, rfl⟩
  · refine r_iload_n C 1 dX4_knowsPiece_8 rfl rfl ?_
    refine r_aload_n C 0 dX4_knowsPiece_9 rfl rfl ?_
    refine c_getI C (v := (X 15)) 0 15 rfl (by decide) (lnS (by decide)) rfl fl_X4_79 rfl dX4_knowsPiece_10 hS.1.1 rfl ?_
    refine n_icmp_ge (tgt := 20) C dX4_knowsPiece_13 (by decide) (by constructor <;> omega) (by constructor <;> omega) (fun c13 => ?_) (fun c13 => ?_)
    · refine r_iconst (v := iI 0) C dX4_knowsPiece_20 rfl ?_
      refine r_zret C hr hlk (by decide) dX4_knowsPiece_21 (Nat.zero_le _) (Nat.zero_le _) ?_
      exact ⟨congrArg (fun z => some (Value.int (iI z))) (by first | (rw [b2_1 (by omega)]; done) | (rw [b2_0 (by omega)]; done)), rfl, rfl, rfl⟩
    · refine r_iconst (v := iI 1) C dX4_knowsPiece_16 rfl ?_
      refine r_goto (tgt := 21) C dX4_knowsPiece_17 (by decide) ?_
      refine r_zret C hr hlk (by decide) dX4_knowsPiece_21 (Nat.zero_le _) (Nat.zero_le _) ?_
      exact ⟨congrArg (fun z => some (Value.int (iI z))) (by first | (rw [b2_1 (by omega)]; done) | (rw [b2_0 (by omega)]; done)), rfl, rfl, rfl⟩
set_option maxHeartbeats 4000000 in
set_option maxRecDepth 20000 in
theorem k_X4_packetAt {l : Launch} {G : Gd} {base : Nat} {Y : MY} {I : MI} {L : ML} {B : Nat} {X : Sa} {pi : Int} (p : Nat) (hS : SLy base Y B) (hp : pi = p) (hb : p < 2147483648) : Ct l yX4_packetAt cX4_packetAt 2 (some (.object "FairLink$Packet")) (rmz 1 22) G base [.ref B, .int (iI pi)] Y (cI I B X) (cL L B X) (PA (B + (22 + p % 120)) Y (cI I B X) (cL L B X)) := by
  refine Ct.of (own := RX4) (lo := [(0, .ref B), (1, .int (iI pi))]) (by decide) rfl (Nat.le_of_ble_eq_true rfl) rfl ?_
  intro zp ze zs zm zargs zbl zmt zc C hr hlk hnm
  refine r_aload_n C 0 dX4_packetAt_0 rfl rfl ?_
  refine r_getR C fl_X4_33 rfl dX4_packetAt_1 hS.1.1 hS.2.1.2.2.1 ?_
  refine r_iload_n C 1 dX4_packetAt_4 rfl rfl ?_
  refine r_bipush (v := iI 120) C dX4_packetAt_5 (by decide) ?_
  refine cS2_PI C (k_J9_floorMod_7cf53 (by omega) (by omega)) cw_X4_76 (rm_ok rfl rfl (Nat.zero_le _) (Nat.zero_le _)) (Nat.le_of_ble_eq_true rfl) dX4_packetAt_7 ?_
  refine r_aald C (by decide) (by decide) ((p % 120)) dX4_packetAt_10 hS.1.2.2.2.1 ⟨congrArg iI (by omega), (by omega), by decide⟩ (hS.2.2.2.1 (p % 120) m120).2 ?_
  refine r_aret C hr hlk dX4_packetAt_11 (Nat.zero_le _) (Nat.zero_le _) ?_
  exact ⟨rfl, rfl, rfl, rfl⟩
set_option maxHeartbeats 4000000 in
set_option maxRecDepth 20000 in
theorem k_X4_pieceAt {l : Launch} {G : Gd} {base : Nat} {Y : MY} {I : MI} {L : ML} {B : Nat} {X : Sa} {pi : Int} (p : Nat) (hS : SLy base Y B) (hp : pi = p) (hb : p < 2147483648) : Ct l yX4_pieceAt cX4_pieceAt 2 (some (.object "FairLink$Piece")) (rmz 1 22) G base [.ref B, .int (iI pi)] Y (cI I B X) (cL L B X) (PA (B + (143 + p % 60)) Y (cI I B X) (cL L B X)) := by
  refine Ct.of (own := RX4) (lo := [(0, .ref B), (1, .int (iI pi))]) (by decide) rfl (Nat.le_of_ble_eq_true rfl) rfl ?_
  intro zp ze zs zm zargs zbl zmt zc C hr hlk hnm
  refine r_aload_n C 0 dX4_pieceAt_0 rfl rfl ?_
  refine r_getR C fl_X4_40 rfl dX4_pieceAt_1 hS.1.1 hS.2.1.2.2.2.1 ?_
  refine r_iload_n C 1 dX4_pieceAt_4 rfl rfl ?_
  refine r_bipush (v := iI 60) C dX4_pieceAt_5 (by decide) ?_
  refine cS2_PI C (k_J9_floorMod_7cf53 (by omega) (by omega)) cw_X4_76 (rm_ok rfl rfl (Nat.zero_le _) (Nat.zero_le _)) (Nat.le_of_ble_eq_true rfl) dX4_pieceAt_7 ?_
  refine r_aald C (by decide) (by decide) ((p % 60)) dX4_pieceAt_10 hS.1.2.2.2.2.1 ⟨congrArg iI (by omega), (by omega), by decide⟩ (hS.2.2.2.2 (p % 60) m60).2 ?_
  refine r_aret C hr hlk dX4_pieceAt_11 (Nat.zero_le _) (Nat.zero_le _) ?_
  exact ⟨rfl, rfl, rfl, rfl⟩
