theorem wo_i : Cond.instanceMethod Lib.objectInit ∈ tW := tW_in 66 (by decide +kernel) rfl
theorem wo_c : Cond.code Lib.objectInit ⟨#[0xb1]⟩ 1 none ∈ tW := tW_in 67 (by decide +kernel) rfl
theorem wo_X5_1 : Cond.methodLink RX5 1 Lib.objectInit ∈ tW := tW_in 65 (by decide +kernel) rfl
theorem wo_X4_3 : Cond.methodLink RX4 3 Lib.objectInit ∈ tW := tW_in 73 (by decide +kernel) rfl
theorem wy_X4_18 : Cond.methodLink RX4 18 arraycopyName ∈ tW := tW_in 76 (by decide +kernel) rfl
theorem wo_X0_3 : Cond.methodLink RX0 3 Lib.objectInit ∈ tW := tW_in 85 (by decide +kernel) rfl
theorem wy_X0_25 : Cond.methodLink RX0 25 arraycopyName ∈ tW := tW_in 92 (by decide +kernel) rfl
theorem wo_X1_3 : Cond.methodLink RX1 3 Lib.objectInit ∈ tW := tW_in 167 (by decide +kernel) rfl
theorem wo_X3_3 : Cond.methodLink RX3 3 Lib.objectInit ∈ tW := tW_in 227 (by decide +kernel) rfl
theorem wo_X2_3 : Cond.methodLink RX2 3 Lib.objectInit ∈ tW := tW_in 272 (by decide +kernel) rfl
theorem wy_X2_48 : Cond.methodLink RX2 48 arraycopyName ∈ tW := tW_in 721 (by decide +kernel) rfl
theorem wo_X6_1 : Cond.methodLink RX6 1 Lib.objectInit ∈ tW := tW_in 766 (by decide +kernel) rfl
theorem wy_s : Cond.static arraycopyName ∈ tW := tW_in 77 (by decide +kernel) rfl
theorem wy_n : Cond.native arraycopyName ∈ tW := tW_in 78 (by decide +kernel) rfl
theorem wy_i : Cond.initialized "java/lang/System" ∈ tW := tW_in 53 (by decide +kernel) rfl
section ROWS
variable {p : Program} {l : Launch} {e : Env} {R : Room} {s : State} {m : MethodId} {args : Array Value} {below : List Frame} {meth : Method} {c : Code} {cc : ByteArray} {nL : Nat} {own : String} {G : Gd} {base : Nat} {Q : State → Prop} {pc : Nat} {lo lo' : List (Nat × Value)} {st : List Value} {Y : MY} {I : MI} {L : ML} {cells slots : Nat}
theorem r_oinit (C : Cx p s m args c cc nL own G base) {idx a : Nat} (hw : Cond.methodLink own idx Lib.objectInit ∈ tW) (hd : decode cc pc = .ok (.invokespecial idx, 3)) (hf : 1 ≤ R.frames) (hlc : (st.map fun v => v.category).sum + 12 ≤ R.locals) (kk : Rn p l e R s m args below meth c nL G base Q ((pc + 3)) lo st Y I L cells slots) : Rn p l e R s m args below meth c nL G base Q pc lo ((.ref a :: st)) Y I L cells slots := by
  intro ls H locs hl hP hS
  obtain ⟨hx, hb, hml, hown, hts, hK, hbs, hST⟩ := C
  exact W.objInit hx hb hown (hts _ hw) (hts _ wo_i) (hts _ wo_c) rfl (by rw [hml]; exact hl.1) rfl hd hf (by show 2 * 0 + _ + _ ≤ _; omega) (kk ls H locs hl hP hS)
theorem r_gets (C : Cx p s m args c cc nL own G base) {idx j : Nat} (hj : j < 5) (hw : Cond.fieldLink own idx "FairLink" (snm j) "[I" ∈ tW) (hd : decode cc pc = .ok (.getstatic idx, 3)) (kk : Rn p l e R s m args below meth c nL G base Q ((pc + 3)) lo ((.ref (G.2.2 j) :: st)) Y I L cells slots) : Rn p l e R s m args below meth c nL G base Q pc lo st Y I L cells slots := by
  intro ls H locs hl hP hS
  obtain ⟨hx, hb, hml, hown, hts, hK, hbs, hST⟩ := C
  exact va_gets hx hb (hST.1 j hj).1 hS hown (hts _ hw) (fun x h => h) hd (kk ls H locs hl hP hS)
theorem r_getsN (C : Cx p s m args c cc nL own G base) {idx j : Nat} (hj : j < 5) (hw : ∀ U, ST G base U U.heap → va_Nw (.fieldLinkNest own idx "FairLink" (snm j) "[I" RX5) U) (hd : decode cc pc = .ok (.getstatic idx, 3)) (kk : Rn p l e R s m args below meth c nL G base Q ((pc + 3)) lo ((.ref (G.2.2 j) :: st)) Y I L cells slots) : Rn p l e R s m args below meth c nL G base Q pc lo st Y I L cells slots := by
  intro ls H locs hl hP hS
  obtain ⟨hx, hb, hml, hown, hts, hK, hbs, hST⟩ := C
  exact va_getsN hx hb (hST.1 j hj).1 hS hown (va_Nw.use rfl (hw s hST)) (fun x h => h) hd (kk ls H locs hl hP hS)
theorem r_tld (C : Cx p s m args c cc nL own G base) {j : Nat} {x : Int32} (hj : j < 5) (i : Nat) {v : Int32} (hi : Ix x i (scl j).length) (hv : (scl j).getD i 0 = v) (hd : decode cc pc = .ok (.iaload, 1)) (kk : Rn p l e R s m args below meth c nL G base Q ((pc + 1)) lo ((.int v :: st)) Y I L cells slots) : Rn p l e R s m args below meth c nL G base Q pc lo ((.int x :: .ref (G.2.2 j) :: st)) Y I L cells slots := by
  intro ls H locs hl hP hS
  obtain ⟨hx, hb, hml, hown, hts, hK, hbs, hST⟩ := C
  exact va_ti hx hb (hST.1 j hj).2 hS hi.in (by rw [hi.nat, hv]) hd (kk ls H locs hl hP hS)
theorem r_tlen (C : Cx p s m args c cc nL own G base) {j : Nat} {v : Int32} (hj : j < 5) (hv : Int32.ofNat (scl j).length = v) (hd : decode cc pc = .ok (.arraylength, 1)) (kk : Rn p l e R s m args below meth c nL G base Q ((pc + 1)) lo ((.int v :: st)) Y I L cells slots) : Rn p l e R s m args below meth c nL G base Q pc lo ((.ref (G.2.2 j) :: st)) Y I L cells slots := by
  intro ls H locs hl hP hS
  obtain ⟨hx, hb, hml, hown, hts, hK, hbs, hST⟩ := C
  exact va_tlen hx hb (hST.1 j hj).2 hS hv hd (kk ls H locs hl hP hS)
theorem r_cpy (C : Cx p s m args c cc nL own G base) {idx a a0 n t : Nat} {f : Nat → Int32} (ht8 : t < 8) (hft : ftc (aty t) = 0) (hprim : refKind (aty t) = false) (hw : Cond.methodLink own idx arraycopyName ∈ tW) (hd : decode cc pc = .ok (.invokestatic idx, 3)) (hn : n < 2147483648) (hA : Is base Y a (.inr (t, n)))
    (hsrc : ∀ (H : Heap) (locs : List Loc), HP G base Y I L H → va_S (Ab base) s.heap H locs → ∃ (cs : Cell) (k0 : Class) (cm : ClassId), H[a0]? = some cs ∧ (∀ k, cs.vm ≠ .statics k) ∧ cs.vm ≠ .unknown ∧ s.vm.classes[cs.cls]? = some k0 ∧ k0.kind = .array cm (aty t) ∧ n ≤ cs.slots.size ∧ ∀ j, j < n → cs.slots[j]? = some (.int (f j)))
    (hfit : ∀ i, i < n → fits (aty t) (.int (f i)) = true) (hfr : 1 ≤ R.frames) (hlc : (st.map fun v => v.category).sum + (nativeFrameWords "java/lang/System" "arraycopy" 5 + 11) ≤ R.locals) (kk : ∀ I', I' = up1 I a f → Rn p l e R s m args below meth c nL G base Q ((pc + 3)) lo st Y I' L cells slots) : Rn p l e R s m args below meth c nL G base Q pc lo ((.int (iI n) :: .int (iI 0) :: .ref a :: .int (iI 0) :: .ref a0 :: st)) Y I L cells slots := by
  intro ls H locs hl hP hS
  obtain ⟨hx, hb, hml, hown, hts, hK, hbs, hST⟩ := C
  obtain ⟨cs, k0, cm, hc0, s1, s2, hk0, hkk0, s3, s4⟩ := hsrc H locs hP hS
  have q1 : H[a]? = some (arrV (G.2.1 t) n (fun j => fv (ftc (aty t)) (I a j) (L a j) (Y.2.2 a j))) := hP.2 a _ hA
  rw [hft] at q1
  have hc1 : H[a]? = some (arrV (G.2.1 t) n (fun j => .int (I a j))) := q1
  obtain ⟨-, k1, hk1, cm1, hkk1⟩ := (hK.2 t _ (atys_at G ht8)).1 n (fun j => .int (I a j))
  have n0 : (iI n).toNatClampNeg = n := iI_nat hn
  have z0 : (iI 0).toNatClampNeg = 0 := iI_nat (n := 0) (by decide)
  have nI1 : (iI n).toInt = n := iI_toInt (by omega) (by omega)
  have zI1 : (iI 0).toInt = 0 := iI_toInt (by decide) (by decide)
  have zn : ¬ iI 0 < 0 := by decide
  have nn : ¬ iI n < 0 := by
    intro q
    rw [Int32.lt_iff_toInt_lt, nI1] at q
    have : (0 : Int32).toInt = 0 := rfl
    omega
  intro T hT X
  obtain ⟨vm', X', step⟩ := X.arraycopy hx hown (hts _ hw) (hts _ wy_n) (hts _ wy_s) (hts _ wy_i) (src := a0) (dst := a) (cs := cs) (cd := arrV (G.2.1 t) n (fun j => .int (I a j))) (srcPos := iI 0) (destPos := iI 0) (n := iI n) (by rw [hT]; exact hc0) (by rw [hT]; exact hc1)
    s1 (fun _ h => by cases h) s2 (fun h => by cases h) hk0 hk1 hkk0 hkk1 (by simp [hprim]) zn zn nn
    (by rw [zI1, nI1]; omega)
    (by rw [zI1, nI1, arrV_size]; omega)
    (fun vm₁ _ i hi => by
      rw [n0] at hi
      have e : cs.slots.getD ((iI 0).toNatClampNeg + i) .null = .int (f i) := by
        rw [Array.getD_eq_getD_getElem?, z0, Nat.zero_add, s4 i hi]
        rfl
      rw [e]
      exact ⟨hfit i hi, trivial⟩)
    (g := F0 m pc ls (.int (iI n) :: .int (iI 0) :: .ref a :: .int (iI 0) :: .ref a0 :: st)) rfl (by rw [hml]; exact hl.1) (rest := st) rfl (by rw [hb]; exact hd) hfr (by show 2 * 0 + _ + _ ≤ _; omega)
  have e1 : copied cs (arrV (G.2.1 t) n (fun j => .int (I a j))) (iI 0) (iI 0) (iI n) = arrV (G.2.1 t) n (fun j => .int (f j)) := by
    have h := va_copiedX (fun z : Int32 => Value.int z) cs (G.2.1 t) (n0 := n) (n1 := n) (sp := 0) (dp := 0) (n := n) f (I a) s4 (by omega)
    unfold copied
    rw [n0, z0, h]
    refine arrV_cong (fun j hj => ?_)
    unfold va_cpy
    rw [if_pos (by omega), show 0 + (j - 0) = j by omega]
  rw [e1] at X' step
  have hlt : a < H.size := (Array.getElem?_eq_some_iff.mp hc1).1
  have hheap : ((T.setVm vm').setCell a (arrV (G.2.1 t) n (fun j => .int (f j)))).heap = H.setIfInBounds a (arrV (G.2.1 t) n (fun j => .int (f j))) := by rw [← hT]; rfl
  have oq : ∀ q : Nat, q ≠ a → (H.setIfInBounds a (arrV (G.2.1 t) n (fun j => .int (f j))))[q]? = H[q]? := fun q hq => by simp [Array.getElem?_setIfInBounds, Ne.symm hq]
  have hsz : (H.setIfInBounds a (arrV (G.2.1 t) n (fun j => .int (f j)))).size = H.size := by simp
  have hnew : hc G (.inr (t, n)) a f (L a) (Y.2.2 a) (H.setIfInBounds a (arrV (G.2.1 t) n (fun j => .int (f j)))) := by
    show _ = some (arrV (G.2.1 t) n (fun j => fv (ftc (aty t)) (f j) (L a j) (Y.2.2 a j)))
    rw [hft]
    show (H.setIfInBounds a _)[a]? = some (arrV (G.2.1 t) n (fun j => .int (f j)))
    simp [Array.getElem?_setIfInBounds, hlt]
  obtain ⟨t2, a1, b1⟩ := kk _ rfl ls _ _ hl (HP.setI hP hA f hnew hsz oq) ⟨by rw [hsz]; exact hS.1, fun q g1 g2 => by
      rw [oq q (fun e => g2 (by rw [e]; exact hA.1.1))]
      exact hS.2.1 q g1 g2, fun q hq => by
      rcases List.mem_append.mp hq with h | h
      · exact hS.2.2 q h
      · obtain ⟨z, -, hz⟩ := List.mem_map.mp h
        rw [← hz]
        exact hA.1.1⟩ _ hheap X'
  exact ⟨t2, step t2 a1, b1⟩
theorem r_copy (C : Cx p s m args c cc nL own G base) {idx a a0 n t : Nat} (ht8 : t < 8) (hft : ftc (aty t) = 0) (hprim : refKind (aty t) = false) (hw : Cond.methodLink own idx arraycopyName ∈ tW) (hd : decode cc pc = .ok (.invokestatic idx, 3)) (hn : n < 2147483648) (hA0 : Is base Y a0 (.inr (t, n))) (hA : Is base Y a (.inr (t, n))) (hfit : ∀ i, i < n → fits (aty t) (.int (I a0 i)) = true) (hfr : 1 ≤ R.frames) (hlc : (st.map fun v => v.category).sum + (nativeFrameWords "java/lang/System" "arraycopy" 5 + 11) ≤ R.locals) (kk : ∀ I', I' = up1 I a (I a0) → Rn p l e R s m args below meth c nL G base Q ((pc + 3)) lo st Y I' L cells slots) : Rn p l e R s m args below meth c nL G base Q pc lo ((.int (iI n) :: .int (iI 0) :: .ref a :: .int (iI 0) :: .ref a0 :: st)) Y I L cells slots := by
  refine r_cpy C ht8 hft hprim hw hd hn hA (fun H locs hP hS => ?_) hfit hfr hlc kk
  have q1 : H[a0]? = some (arrV (G.2.1 t) n (fun j => fv (ftc (aty t)) (I a0 j) (L a0 j) (Y.2.2 a0 j))) := hP.2 a0 _ hA0
  rw [hft] at q1
  obtain ⟨-, k1, hk1, cm1, hkk1⟩ := (C.2.2.2.2.2.1.2 t _ (atys_at G ht8)).1 n (fun j => .int (I a0 j))
  exact ⟨_, k1, cm1, q1, (fun _ h => by cases h), (fun h => by cases h), hk1, hkk1, Nat.le_of_eq (arrV_size _ _ _).symm, fun j hj => arrV_read _ _ hj⟩
theorem r_copyT (C : Cx p s m args c cc nL own G base) {idx a j n : Nat} (hj : j < 5) (hn : (scl j).length = n) (hw : Cond.methodLink own idx arraycopyName ∈ tW) (hd : decode cc pc = .ok (.invokestatic idx, 3)) (hA : Is base Y a (.inr (0, n))) (hfr : 1 ≤ R.frames) (hlc : (st.map fun v => v.category).sum + (nativeFrameWords "java/lang/System" "arraycopy" 5 + 11) ≤ R.locals) (kk : ∀ I', I' = up1 I a (fun k => (scl j).getD k 0) → Rn p l e R s m args below meth c nL G base Q ((pc + 3)) lo st Y I' L cells slots) : Rn p l e R s m args below meth c nL G base Q pc lo ((.int (iI n) :: .int (iI 0) :: .ref a :: .int (iI 0) :: .ref (G.2.2 j) :: st)) Y I L cells slots := by
  have hn6 : n < 2147483648 := by
    subst hn
    match j, hj with
    | 0, _ => decide
    | 1, _ => decide
    | 2, _ => decide
    | 3, _ => decide
    | 4, _ => decide
  refine r_cpy C (by decide) rfl rfl hw hd hn6 hA (fun H locs hP hS => ?_) (fun i hi => rfl) hfr hlc kk
  subst hn
  obtain ⟨scr, hs1, ⟨hs2, k0, hk0, cm0, hkk0⟩, hs3, hs4, hs5, hs6, hs7⟩ := (C.2.2.2.2.2.2.2.1 j hj).2
  have hc0 : H[G.2.2 j]? = some scr := by rw [hS.2.1 _ (Array.getElem?_eq_some_iff.mp hs1).1 hs7]; exact hs1
  exact ⟨scr, k0, cm0, hc0, hs2, hs3, hk0, hkk0, hs4, hs6⟩
end ROWS
