/-- what was alike stays alike -/
def Mo (W X X' : Sa) : Prop := ∀ k, X k = W k → X' k = W k
theorem Mo.rf {W X : Sa} : Mo W X X := fun _ h => h
theorem Mo.tr {W X X1 X2 : Sa} (h1 : Mo W X X1) (h2 : Mo W X1 X2) : Mo W X X2 := fun k h => h2 k (h1 k h)
theorem mo_up {W X : Sa} {k : Nat} : Mo W X (up1 X k (W k)) := by
  intro j h
  by_cases e : j = k
  · subst e; rw [up1_s]
  · rw [up1_n e]; exact h
theorem mo_C {W X : Sa} {o : Nat} : Mo W X (upC X o (fun k => W (key o k))) := by
  intro j h
  unfold upC
  split
  · rename_i hh
    show W (key o (yek j).2) = W j
    rw [hh.2]
  · exact h
theorem cI_2 {I : MI} {D B o k : Nat} {W X : Sa} (hDB : B + 206 ≤ D ∨ D + 206 ≤ B) (ho : o < 206) (hl : ¬ lng o k) : cI (cI I D W) B X (D + o) k = iI (W (key o k)) := by
  unfold cI
  rw [mI_out (x := D + o) (by omega), mI_at ho, bI_n hl]
theorem cL_2 {L : ML} {D B o k : Nat} {W X : Sa} (hDB : B + 206 ≤ D ∨ D + 206 ≤ B) (ho : o < 206) (hl : lng o k) : cL (cL L D W) B X (D + o) k = lI (W (key o k)) := by
  unfold cL
  rw [mL_out (x := D + o) (by omega), mL_at ho, dL_y hl]
theorem cI_sw {I : MI} {D B : Nat} {W X : Sa} (hDB : B + 206 ≤ D ∨ D + 206 ≤ B) : cI (cI I D W) B X = cI (cI I B X) D W := by
  funext x k
  unfold cI mI
  by_cases h1 : B ≤ x ∧ x < B + 206
  · rw [if_pos h1, if_neg (by omega), if_pos h1]
  · rw [if_neg h1]
    by_cases h2 : D ≤ x ∧ x < D + 206
    · rw [if_pos h2, if_pos h2]
    · rw [if_neg h2, if_neg h2, if_neg h1]
theorem cL_sw {L : ML} {D B : Nat} {W X : Sa} (hDB : B + 206 ≤ D ∨ D + 206 ≤ B) : cL (cL L D W) B X = cL (cL L B X) D W := by
  funext x k
  unfold cL mL
  by_cases h1 : B ≤ x ∧ x < B + 206
  · rw [if_pos h1, if_neg (by omega), if_pos h1]
  · rw [if_neg h1]
    by_cases h2 : D ≤ x ∧ x < D + 206
    · rw [if_pos h2, if_pos h2]
    · rw [if_neg h2, if_neg h2, if_neg h1]
theorem fits_c {v : Int} (h : 0 ≤ v ∧ v < 65536) : fits .char (.int (iI v)) = true := by
  show (decide ((0 : Int32) ≤ iI v) && decide (iI v ≤ 65535)) = true
  rw [Bool.and_eq_true, decide_eq_true_iff, decide_eq_true_iff]
  exact ⟨(iI_le ⟨by decide, by decide⟩ ⟨by omega, by omega⟩).mpr h.1, (iI_le (a := v) (b := 65535) ⟨by omega, by omega⟩ ⟨by decide, by decide⟩).mpr (by omega)⟩
section CP2
variable {p : Program} {l : Launch} {e : Env} {R : Room} {s : State} {m : MethodId} {args : Array Value} {below : List Frame} {meth : Method} {c : Code} {cc : ByteArray} {nL : Nat} {own : String} {G : Gd} {base : Nat} {Q : State → Prop} {pc : Nat} {lo lo' : List (Nat × Value)} {st : List Value} {Y : MY} {I : MI} {L : ML} {cells slots : Nat} {B D : Nat} {X W : Sa}
theorem c2_getI (C : Cx p s m args c cc nL own G base) {idx ci k x : Nat} {v : Int} {fin : Bool} (hDB : B + 206 ≤ D ∨ D + 206 ≤ B) (o q : Nat) (hx : x = D + o) (ho : o < 206) (hl : ¬ lng o k) (hq : key o k = q) (hF : FL own idx ci k fin) (ht : tc ci k = 0) (hd : decode cc pc = .ok (.getfield idx, 3)) (hA : Is base Y x (.inl ci)) (hv : W q = v) (kk : Rn p l e R s m args below meth c nL G base Q ((pc + 3)) lo ((.int (iI v) :: st)) Y ((cI (cI I D W) B X)) ((cL (cL L D W) B X)) cells slots) : Rn p l e R s m args below meth c nL G base Q pc lo ((.ref x :: st)) Y ((cI (cI I D W) B X)) ((cL (cL L D W) B X)) cells slots := r_getI C hF ht hd hA (by rw [hx, cI_2 hDB ho hl, hq, hv]; exact kk)
theorem c2_getL (C : Cx p s m args c cc nL own G base) {idx ci k x : Nat} {v : Int} {fin : Bool} (hDB : B + 206 ≤ D ∨ D + 206 ≤ B) (o q : Nat) (hx : x = D + o) (ho : o < 206) (hl : lng o k) (hq : key o k = q) (hF : FL own idx ci k fin) (ht : tc ci k = 1) (hd : decode cc pc = .ok (.getfield idx, 3)) (hA : Is base Y x (.inl ci)) (hv : W q = v) (kk : Rn p l e R s m args below meth c nL G base Q ((pc + 3)) lo ((.long (lI v) :: st)) Y ((cI (cI I D W) B X)) ((cL (cL L D W) B X)) cells slots) : Rn p l e R s m args below meth c nL G base Q pc lo ((.ref x :: st)) Y ((cI (cI I D W) B X)) ((cL (cL L D W) B X)) cells slots := r_getL C hF ht hd hA (by rw [hx, cL_2 hDB ho hl, hq, hv]; exact kk)
theorem c2_copy (C : Cx p s m args c cc nL own G base) {idx x y n t : Nat} (hDB : B + 206 ≤ D ∨ D + 206 ≤ B) (o : Nat) (hx : x = B + o) (hy : y = D + o) (ho : o < 206) (hl : ∀ k, ¬ lng o k) (ht8 : t < 8) (hft : ftc (aty t) = 0) (hprim : refKind (aty t) = false) (hw : Cond.methodLink own idx arraycopyName ∈ tW) (hd : decode cc pc = .ok (.invokestatic idx, 3)) (hn : n < 2147483648) (hA0 : Is base Y y (.inr (t, n))) (hA : Is base Y x (.inr (t, n))) (hfit : ∀ i, i < n → fits (aty t) (.int (iI (W (key o i)))) = true) (hfr : 1 ≤ R.frames) (hlc : (st.map fun v => v.category).sum + (nativeFrameWords "java/lang/System" "arraycopy" 5 + 11) ≤ R.locals) (kk : ∀ X', X' = upC X o (fun k => W (key o k)) → Rn p l e R s m args below meth c nL G base Q ((pc + 3)) lo st Y ((cI (cI I D W) B X')) ((cL (cL L D W) B X')) cells slots) : Rn p l e R s m args below meth c nL G base Q pc lo ((.int (iI n) :: .int (iI 0) :: .ref x :: .int (iI 0) :: .ref y :: st)) Y ((cI (cI I D W) B X)) ((cL (cL L D W) B X)) cells slots := by
  refine r_copy C ht8 hft hprim hw hd hn hA0 hA (fun i hi => by rw [hy, cI_2 hDB ho (hl i)]; exact hfit i hi) hfr hlc (fun I' e => ?_)
  have e2 : cI (cI I D W) B X y = fun k => iI (W (key o k)) := by
    funext k
    rw [hy, cI_2 hDB ho (hl k)]
  rw [e, hx, e2, cI_C ho hl, ← cL_C (L := cL L D W) (B := B) (X := X) (g := fun k => W (key o k)) ho hl]
  exact kk _ rfl
end CP2
set_option maxHeartbeats 4000000 in
set_option maxRecDepth 20000 in
theorem k_X1_copyFrom {l : Launch} {G : Gd} {base : Nat} {Y : MY} {I : MI} {L : ML} {B D : Nat} {X W : Sa} (j : Nat) (hS : SLy base Y B) (hS2 : SLy base Y D) (hDB : B + 206 ≤ D ∨ D + 206 ≤ B) (hj : j < 120) : Ct l yX1_copyFrom cX1_copyFrom 2 (none) (rmz 0 0) G base [.ref (B + (22 + j)), .ref (D + (22 + j))] Y (cI (cI I D W) B X) (cL (cL L D W) B X) (EV Y (fun I' L' => ∃ X', Mo W X X' ∧ (∀ k, k < 11 → X' (125 + 11 * j + k) = W (125 + 11 * j + k)) ∧ I' = cI (cI I D W) B X' ∧ L' = cL (cL L D W) B X')) := by
  refine Ct.of (own := RX1) (lo := [(0, .ref (B + (22 + j))), (1, .ref (D + (22 + j)))]) (by decide) rfl (Nat.le_of_ble_eq_true rfl) rfl ?_
  intro zp ze zs zm zargs zbl zmt zc C hr hlk hnm
  refine r_aload_n C 0 dX1_copyFrom_0 rfl rfl ?_
  refine r_aload_n C 1 dX1_copyFrom_1 rfl rfl ?_
  refine c2_getI C (v := (W (125 + 11 * j + 0))) hDB (22 + j) ((125 + 11 * j + 0)) rfl (oP hj) (lnP hj (by decide)) (ky_P hj 0) fl_X1_9 rfl dX1_copyFrom_2 (hS2.2.2.2.1 j hj).1 rfl ?_
  refine c_putI C (22 + j) ((125 + 11 * j + 0)) rfl (oP hj) (lnP hj (by decide)) (ky_P hj 0) fl_X1_9 rfl dX1_copyFrom_5 (hS.2.2.2.1 j hj).1 (fun a5 ea5 => ?_)
  refine r_aload_n C 0 dX1_copyFrom_8 rfl rfl ?_
  refine r_aload_n C 1 dX1_copyFrom_9 rfl rfl ?_
  refine c2_getI C (v := (W (125 + 11 * j + 1))) hDB (22 + j) ((125 + 11 * j + 1)) rfl (oP hj) (lnP hj (by decide)) (ky_P hj 1) fl_X1_15 rfl dX1_copyFrom_10 (hS2.2.2.2.1 j hj).1 rfl ?_
  refine c_putI C (22 + j) ((125 + 11 * j + 1)) rfl (oP hj) (lnP hj (by decide)) (ky_P hj 1) fl_X1_15 rfl dX1_copyFrom_13 (hS.2.2.2.1 j hj).1 (fun a13 ea13 => ?_)
  refine r_aload_n C 0 dX1_copyFrom_16 rfl rfl ?_
  refine r_aload_n C 1 dX1_copyFrom_17 rfl rfl ?_
  refine c2_getI C (v := (W (125 + 11 * j + 2))) hDB (22 + j) ((125 + 11 * j + 2)) rfl (oP hj) (lnP hj (by decide)) (ky_P hj 2) fl_X1_18 rfl dX1_copyFrom_18 (hS2.2.2.2.1 j hj).1 rfl ?_
  refine c_putI C (22 + j) ((125 + 11 * j + 2)) rfl (oP hj) (lnP hj (by decide)) (ky_P hj 2) fl_X1_18 rfl dX1_copyFrom_21 (hS.2.2.2.1 j hj).1 (fun a21 ea21 => ?_)
  refine r_aload_n C 0 dX1_copyFrom_24 rfl rfl ?_
  refine r_aload_n C 1 dX1_copyFrom_25 rfl rfl ?_
  refine c2_getI C (v := (W (125 + 11 * j + 3))) hDB (22 + j) ((125 + 11 * j + 3)) rfl (oP hj) (lnP hj (by decide)) (ky_P hj 3) fl_X1_21 rfl dX1_copyFrom_26 (hS2.2.2.2.1 j hj).1 rfl ?_
  refine c_putI C (22 + j) ((125 + 11 * j + 3)) rfl (oP hj) (lnP hj (by decide)) (ky_P hj 3) fl_X1_21 rfl dX1_copyFrom_29 (hS.2.2.2.1 j hj).1 (fun a29 ea29 => ?_)
  refine r_aload_n C 0 dX1_copyFrom_32 rfl rfl ?_
  refine r_aload_n C 1 dX1_copyFrom_33 rfl rfl ?_
  refine c2_getI C (v := (W (125 + 11 * j + 4))) hDB (22 + j) ((125 + 11 * j + 4)) rfl (oP hj) (lnP hj (by decide)) (ky_P hj 4) fl_X1_24 rfl dX1_copyFrom_34 (hS2.2.2.2.1 j hj).1 rfl ?_
  refine c_putI C (22 + j) ((125 + 11 * j + 4)) rfl (oP hj) (lnP hj (by decide)) (ky_P hj 4) fl_X1_24 rfl dX1_copyFrom_37 (hS.2.2.2.1 j hj).1 (fun a37 ea37 => ?_)
  refine r_aload_n C 0 dX1_copyFrom_40 rfl rfl ?_
  refine r_aload_n C 1 dX1_copyFrom_41 rfl rfl ?_
  refine c2_getI C (v := (W (125 + 11 * j + 5))) hDB (22 + j) ((125 + 11 * j + 5)) rfl (oP hj) (lnP hj (by decide)) (ky_P hj 5) fl_X1_27 rfl dX1_copyFrom_42 (hS2.2.2.2.1 j hj).1 rfl ?_
  refine c_putI C (22 + j) ((125 + 11 * j + 5)) rfl (oP hj) (lnP hj (by decide)) (ky_P hj 5) fl_X1_27 rfl dX1_copyFrom_45 (hS.2.2.2.1 j hj).1 (fun a45 ea45 => ?_)
  refine r_aload_n C 0 dX1_copyFrom_48 rfl rfl ?_
  refine r_aload_n C 1 dX1_copyFrom_49 rfl rfl ?_
  refine c2_getI C (v := (W (125 + 11 * j + 6))) hDB (22 + j) ((125 + 11 * j + 6)) rfl (oP hj) (lnP hj (by decide)) (ky_P hj 6) fl_X1_30 rfl dX1_copyFrom_50 (hS2.2.2.2.1 j hj).1 rfl ?_
  refine c_putI C (22 + j) ((125 + 11 * j + 6)) rfl (oP hj) (lnP hj (by decide)) (ky_P hj 6) fl_X1_30 rfl dX1_copyFrom_53 (hS.2.2.2.1 j hj).1 (fun a53 ea53 => ?_)
  refine r_aload_n C 0 dX1_copyFrom_56 rfl rfl ?_
  refine r_aload_n C 1 dX1_copyFrom_57 rfl rfl ?_
  refine c2_getI C (v := (W (125 + 11 * j + 7))) hDB (22 + j) ((125 + 11 * j + 7)) rfl (oP hj) (lnP hj (by decide)) (ky_P hj 7) fl_X1_33 rfl dX1_copyFrom_58 (hS2.2.2.2.1 j hj).1 rfl ?_
  refine c_putI C (22 + j) ((125 + 11 * j + 7)) rfl (oP hj) (lnP hj (by decide)) (ky_P hj 7) fl_X1_33 rfl dX1_copyFrom_61 (hS.2.2.2.1 j hj).1 (fun a61 ea61 => ?_)
  refine r_aload_n C 0 dX1_copyFrom_64 rfl rfl ?_
  refine r_aload_n C 1 dX1_copyFrom_65 rfl rfl ?_
  refine c2_getI C (v := (W (125 + 11 * j + 10))) hDB (22 + j) ((125 + 11 * j + 10)) rfl (oP hj) (lnP hj (by decide)) (ky_P hj 8) fl_X1_36 rfl dX1_copyFrom_66 (hS2.2.2.2.1 j hj).1 rfl ?_
  refine c_putI C (22 + j) ((125 + 11 * j + 10)) rfl (oP hj) (lnP hj (by decide)) (ky_P hj 8) fl_X1_36 rfl dX1_copyFrom_69 (hS.2.2.2.1 j hj).1 (fun a69 ea69 => ?_)
  refine r_aload_n C 0 dX1_copyFrom_72 rfl rfl ?_
  refine r_aload_n C 1 dX1_copyFrom_73 rfl rfl ?_
  refine c2_getI C (v := (W (125 + 11 * j + 8))) hDB (22 + j) ((125 + 11 * j + 8)) rfl (oP hj) (lnP hj (by decide)) (ky_P hj 9) fl_X1_39 rfl dX1_copyFrom_74 (hS2.2.2.2.1 j hj).1 rfl ?_
  refine c_putI C (22 + j) ((125 + 11 * j + 8)) rfl (oP hj) (lnP hj (by decide)) (ky_P hj 9) fl_X1_39 rfl dX1_copyFrom_77 (hS.2.2.2.1 j hj).1 (fun a77 ea77 => ?_)
  refine r_aload_n C 0 dX1_copyFrom_80 rfl rfl ?_
  refine r_aload_n C 1 dX1_copyFrom_81 rfl rfl ?_
  refine c2_getL C (v := (W (125 + 11 * j + 9))) hDB (22 + j) ((125 + 11 * j + 9)) rfl (oP hj) (lnPy hj) (ky_P hj 10) fl_X1_42 rfl dX1_copyFrom_82 (hS2.2.2.2.1 j hj).1 rfl ?_
  refine c_putL C (22 + j) ((125 + 11 * j + 9)) rfl (oP hj) (lnPy hj) (ky_P hj 10) fl_X1_42 rfl dX1_copyFrom_85 (hS.2.2.2.1 j hj).1 (fun a85 ea85 => ?_)
  refine r_vret C hr hlk dX1_copyFrom_88 (Nat.zero_le _) (Nat.zero_le _) ?_
  have m0 : Mo W X a5 := by rw [ea5]; exact mo_up
  have m1 : Mo W a5 a13 := by rw [ea13]; exact mo_up
  have m2 : Mo W a13 a21 := by rw [ea21]; exact mo_up
  have m3 : Mo W a21 a29 := by rw [ea29]; exact mo_up
  have m4 : Mo W a29 a37 := by rw [ea37]; exact mo_up
  have m5 : Mo W a37 a45 := by rw [ea45]; exact mo_up
  have m6 : Mo W a45 a53 := by rw [ea53]; exact mo_up
  have m7 : Mo W a53 a61 := by rw [ea61]; exact mo_up
  have m8 : Mo W a61 a69 := by rw [ea69]; exact mo_up
  have m9 : Mo W a69 a77 := by rw [ea77]; exact mo_up
  have m10 : Mo W a77 a85 := by rw [ea85]; exact mo_up
  have mm : Mo W X a85 := Mo.tr m0 (Mo.tr m1 (Mo.tr m2 (Mo.tr m3 (Mo.tr m4 (Mo.tr m5 (Mo.tr m6 (Mo.tr m7 (Mo.tr m8 (Mo.tr m9 (m10))))))))))
  refine ⟨rfl, rfl, a85, mm, ?_, rfl, rfl⟩
  intro k hk
  match k, hk with
  | 0, _ => exact (m10 _ (m9 _ (m8 _ (m7 _ (m6 _ (m5 _ (m4 _ (m3 _ (m2 _ (m1 _ (show a5 (125 + 11 * j + 0) = W (125 + 11 * j + 0) by rw [ea5, up1_s])))))))))))
  | 1, _ => exact (m10 _ (m9 _ (m8 _ (m7 _ (m6 _ (m5 _ (m4 _ (m3 _ (m2 _ (show a13 (125 + 11 * j + 1) = W (125 + 11 * j + 1) by rw [ea13, up1_s]))))))))))
  | 2, _ => exact (m10 _ (m9 _ (m8 _ (m7 _ (m6 _ (m5 _ (m4 _ (m3 _ (show a21 (125 + 11 * j + 2) = W (125 + 11 * j + 2) by rw [ea21, up1_s])))))))))
  | 3, _ => exact (m10 _ (m9 _ (m8 _ (m7 _ (m6 _ (m5 _ (m4 _ (show a29 (125 + 11 * j + 3) = W (125 + 11 * j + 3) by rw [ea29, up1_s]))))))))
  | 4, _ => exact (m10 _ (m9 _ (m8 _ (m7 _ (m6 _ (m5 _ (show a37 (125 + 11 * j + 4) = W (125 + 11 * j + 4) by rw [ea37, up1_s])))))))
  | 5, _ => exact (m10 _ (m9 _ (m8 _ (m7 _ (m6 _ (show a45 (125 + 11 * j + 5) = W (125 + 11 * j + 5) by rw [ea45, up1_s]))))))
  | 6, _ => exact (m10 _ (m9 _ (m8 _ (m7 _ (show a53 (125 + 11 * j + 6) = W (125 + 11 * j + 6) by rw [ea53, up1_s])))))
  | 7, _ => exact (m10 _ (m9 _ (m8 _ (show a61 (125 + 11 * j + 7) = W (125 + 11 * j + 7) by rw [ea61, up1_s]))))
  | 8, _ => exact (m10 _ (show a77 (125 + 11 * j + 8) = W (125 + 11 * j + 8) by rw [ea77, up1_s]))
  | 9, _ => exact (show a85 (125 + 11 * j + 9) = W (125 + 11 * j + 9) by rw [ea85, up1_s])
  | 10, _ => exact (m10 _ (m9 _ (show a69 (125 + 11 * j + 10) = W (125 + 11 * j + 10) by rw [ea69, up1_s])))
set_option maxHeartbeats 4000000 in
set_option maxRecDepth 20000 in
theorem k_X3_copyFrom2 {l : Launch} {G : Gd} {base : Nat} {Y : MY} {I : MI} {L : ML} {B D : Nat} {X W : Sa} (j : Nat) (hS : SLy base Y B) (hS2 : SLy base Y D) (hDB : B + 206 ≤ D ∨ D + 206 ≤ B) (hj : j < 60) (h4 : W (1445 + 5 * j + 4) = 0 ∨ W (1445 + 5 * j + 4) = 1) : Ct l yX3_copyFrom cX3_copyFrom 2 (none) (rmz 0 0) G base [.ref (B + (143 + j)), .ref (D + (143 + j))] Y (cI (cI I D W) B X) (cL (cL L D W) B X) (EV Y (fun I' L' => ∃ X', Mo W X X' ∧ (∀ k, k < 5 → X' (1445 + 5 * j + k) = W (1445 + 5 * j + k)) ∧ I' = cI (cI I D W) B X' ∧ L' = cL (cL L D W) B X')) := by
  refine Ct.of (own := RX3) (lo := [(0, .ref (B + (143 + j))), (1, .ref (D + (143 + j)))]) (by decide) rfl (Nat.le_of_ble_eq_true rfl) rfl ?_
  intro zp ze zs zm zargs zbl zmt zc C hr hlk hnm
  refine r_aload_n C 0 dX3_copyFrom_0 rfl rfl ?_
  refine r_aload_n C 1 dX3_copyFrom_1 rfl rfl ?_
  refine c2_getI C (v := (W (1445 + 5 * j + 0))) hDB (143 + j) ((1445 + 5 * j + 0)) rfl (oR hj) (lnR hj) (ky_R hj 0) fl_X3_14 rfl dX3_copyFrom_2 (hS2.2.2.2.2 j hj).1 rfl ?_
  refine c_putI C (143 + j) ((1445 + 5 * j + 0)) rfl (oR hj) (lnR hj) (ky_R hj 0) fl_X3_14 rfl dX3_copyFrom_5 (hS.2.2.2.2 j hj).1 (fun a5 ea5 => ?_)
  refine r_aload_n C 0 dX3_copyFrom_8 rfl rfl ?_
  refine r_aload_n C 1 dX3_copyFrom_9 rfl rfl ?_
  refine c2_getI C (v := (W (1445 + 5 * j + 1))) hDB (143 + j) ((1445 + 5 * j + 1)) rfl (oR hj) (lnR hj) (ky_R hj 1) fl_X3_18 rfl dX3_copyFrom_10 (hS2.2.2.2.2 j hj).1 rfl ?_
  refine c_putI C (143 + j) ((1445 + 5 * j + 1)) rfl (oR hj) (lnR hj) (ky_R hj 1) fl_X3_18 rfl dX3_copyFrom_13 (hS.2.2.2.2 j hj).1 (fun a13 ea13 => ?_)
  refine r_aload_n C 0 dX3_copyFrom_16 rfl rfl ?_
  refine r_aload_n C 1 dX3_copyFrom_17 rfl rfl ?_
  refine c2_getI C (v := (W (1445 + 5 * j + 2))) hDB (143 + j) ((1445 + 5 * j + 2)) rfl (oR hj) (lnR hj) (ky_R hj 2) fl_X3_21 rfl dX3_copyFrom_18 (hS2.2.2.2.2 j hj).1 rfl ?_
  refine c_putI C (143 + j) ((1445 + 5 * j + 2)) rfl (oR hj) (lnR hj) (ky_R hj 2) fl_X3_21 rfl dX3_copyFrom_21 (hS.2.2.2.2 j hj).1 (fun a21 ea21 => ?_)
  refine r_aload_n C 0 dX3_copyFrom_24 rfl rfl ?_
  refine r_aload_n C 1 dX3_copyFrom_25 rfl rfl ?_
  refine c2_getI C (v := (W (jk (143 + j) 3))) hDB (143 + j) ((jk (143 + j) 3)) rfl (oR hj) (lnR hj) (ky_R hj 3) fl_X3_24 rfl dX3_copyFrom_26 (hS2.2.2.2.2 j hj).1 rfl ?_
  refine c_putI C (143 + j) ((jk (143 + j) 3)) rfl (oR hj) (lnR hj) (ky_R hj 3) fl_X3_24 rfl dX3_copyFrom_29 (hS.2.2.2.2 j hj).1 (fun a29 ea29 => ?_)
  refine r_aload_n C 0 dX3_copyFrom_32 rfl rfl ?_
  refine r_aload_n C 1 dX3_copyFrom_33 rfl rfl ?_
  refine c2_getI C (v := (W (jk (143 + j) 4))) hDB (143 + j) ((jk (143 + j) 4)) rfl (oR hj) (lnR hj) (ky_R hj 4) fl_X3_27 rfl dX3_copyFrom_34 (hS2.2.2.2.2 j hj).1 rfl ?_
  refine c_putI C (143 + j) ((jk (143 + j) 4)) rfl (oR hj) (lnR hj) (ky_R hj 4) fl_X3_27 rfl dX3_copyFrom_37 (hS.2.2.2.2 j hj).1 (fun a37 ea37 => ?_)
  refine r_aload_n C 0 dX3_copyFrom_40 rfl rfl ?_
  refine r_aload_n C 1 dX3_copyFrom_41 rfl rfl ?_
  refine c2_getI C (v := (W (1445 + 5 * j + 3))) hDB (143 + j) ((1445 + 5 * j + 3)) rfl (oR hj) (lnR hj) (ky_R hj 5) fl_X3_30 rfl dX3_copyFrom_42 (hS2.2.2.2.2 j hj).1 rfl ?_
  refine c_putI C (143 + j) ((1445 + 5 * j + 3)) rfl (oR hj) (lnR hj) (ky_R hj 5) fl_X3_30 rfl dX3_copyFrom_45 (hS.2.2.2.2 j hj).1 (fun a45 ea45 => ?_)
  refine r_aload_n C 0 dX3_copyFrom_48 rfl rfl ?_
  refine r_aload_n C 1 dX3_copyFrom_49 rfl rfl ?_
  refine c2_getI C (v := (W (1445 + 5 * j + 4))) hDB (143 + j) ((1445 + 5 * j + 4)) rfl (oR hj) (lnR hj) (ky_R hj 6) fl_X3_33 rfl dX3_copyFrom_50 (hS2.2.2.2.2 j hj).1 rfl ?_
  refine c_putZ C (143 + j) ((1445 + 5 * j + 4)) rfl (oR hj) (lnR hj) (ky_R hj 6) fl_X3_33 rfl dX3_copyFrom_53 (hS.2.2.2.2 j hj).1 h4 (fun a53 ea53 => ?_)
  refine r_vret C hr hlk dX3_copyFrom_56 (Nat.zero_le _) (Nat.zero_le _) ?_
  have m0 : Mo W X a5 := by rw [ea5]; exact mo_up
  have m1 : Mo W a5 a13 := by rw [ea13]; exact mo_up
  have m2 : Mo W a13 a21 := by rw [ea21]; exact mo_up
  have m3 : Mo W a21 a29 := by rw [ea29]; exact mo_up
  have m4 : Mo W a29 a37 := by rw [ea37]; exact mo_up
  have m5 : Mo W a37 a45 := by rw [ea45]; exact mo_up
  have m6 : Mo W a45 a53 := by rw [ea53]; exact mo_up
  have mm : Mo W X a53 := Mo.tr m0 (Mo.tr m1 (Mo.tr m2 (Mo.tr m3 (Mo.tr m4 (Mo.tr m5 (m6))))))
  refine ⟨rfl, rfl, a53, mm, ?_, rfl, rfl⟩
  intro k hk
  match k, hk with
  | 0, _ => exact (m6 _ (m5 _ (m4 _ (m3 _ (m2 _ (m1 _ (show a5 (1445 + 5 * j + 0) = W (1445 + 5 * j + 0) by rw [ea5, up1_s])))))))
  | 1, _ => exact (m6 _ (m5 _ (m4 _ (m3 _ (m2 _ (show a13 (1445 + 5 * j + 1) = W (1445 + 5 * j + 1) by rw [ea13, up1_s]))))))
  | 2, _ => exact (m6 _ (m5 _ (m4 _ (m3 _ (show a21 (1445 + 5 * j + 2) = W (1445 + 5 * j + 2) by rw [ea21, up1_s])))))
  | 3, _ => exact (m6 _ (show a45 (1445 + 5 * j + 3) = W (1445 + 5 * j + 3) by rw [ea45, up1_s]))
  | 4, _ => exact (show a53 (1445 + 5 * j + 4) = W (1445 + 5 * j + 4) by rw [ea53, up1_s])
set_option maxHeartbeats 4000000 in
set_option maxRecDepth 20000 in
theorem k_X3_copyFrom3 {l : Launch} {G : Gd} {base : Nat} {Y : MY} {I : MI} {L : ML} {B D : Nat} {X W : Sa}  (hS : SLy base Y B) (hS2 : SLy base Y D) (hDB : B + 206 ≤ D ∨ D + 206 ≤ B) (h4 : W 11 = 0 ∨ W 11 = 1) : Ct l yX3_copyFrom cX3_copyFrom 2 (none) (rmz 0 0) G base [.ref (B + 203), .ref (D + 203)] Y (cI (cI I D W) B X) (cL (cL L D W) B X) (EV Y (fun I' L' => ∃ X', Mo W X X' ∧ (X' 8 = W 8 ∧ X' 9 = W 9 ∧ X' 10 = W 10 ∧ X' 11 = W 11 ∧ X' 12 = W 12 ∧ X' 3818 = W 3818) ∧ I' = cI (cI I D W) B X' ∧ L' = cL (cL L D W) B X')) := by
  refine Ct.of (own := RX3) (lo := [(0, .ref (B + 203)), (1, .ref (D + 203))]) (by decide) rfl (Nat.le_of_ble_eq_true rfl) rfl ?_
  intro zp ze zs zm zargs zbl zmt zc C hr hlk hnm
  refine r_aload_n C 0 dX3_copyFrom_0 rfl rfl ?_
  refine r_aload_n C 1 dX3_copyFrom_1 rfl rfl ?_
  refine c2_getI C (v := (W 8)) hDB 203 8 rfl (by decide) ln203 rfl fl_X3_14 rfl dX3_copyFrom_2 hS2.1.2.2.2.2.2.1 rfl ?_
  refine c_putI C 203 8 rfl (by decide) ln203 rfl fl_X3_14 rfl dX3_copyFrom_5 hS.1.2.2.2.2.2.1 (fun a5 ea5 => ?_)
  refine r_aload_n C 0 dX3_copyFrom_8 rfl rfl ?_
  refine r_aload_n C 1 dX3_copyFrom_9 rfl rfl ?_
  refine c2_getI C (v := (W 3818)) hDB 203 3818 rfl (by decide) ln203 rfl fl_X3_18 rfl dX3_copyFrom_10 hS2.1.2.2.2.2.2.1 rfl ?_
  refine c_putI C 203 3818 rfl (by decide) ln203 rfl fl_X3_18 rfl dX3_copyFrom_13 hS.1.2.2.2.2.2.1 (fun a13 ea13 => ?_)
  refine r_aload_n C 0 dX3_copyFrom_16 rfl rfl ?_
  refine r_aload_n C 1 dX3_copyFrom_17 rfl rfl ?_
  refine c2_getI C (v := (W 9)) hDB 203 9 rfl (by decide) ln203 rfl fl_X3_21 rfl dX3_copyFrom_18 hS2.1.2.2.2.2.2.1 rfl ?_
  refine c_putI C 203 9 rfl (by decide) ln203 rfl fl_X3_21 rfl dX3_copyFrom_21 hS.1.2.2.2.2.2.1 (fun a21 ea21 => ?_)
  refine r_aload_n C 0 dX3_copyFrom_24 rfl rfl ?_
  refine r_aload_n C 1 dX3_copyFrom_25 rfl rfl ?_
  refine c2_getI C (v := (W 12)) hDB 203 12 rfl (by decide) ln203 rfl fl_X3_24 rfl dX3_copyFrom_26 hS2.1.2.2.2.2.2.1 rfl ?_
  refine c_putI C 203 12 rfl (by decide) ln203 rfl fl_X3_24 rfl dX3_copyFrom_29 hS.1.2.2.2.2.2.1 (fun a29 ea29 => ?_)
  refine r_aload_n C 0 dX3_copyFrom_32 rfl rfl ?_
  refine r_aload_n C 1 dX3_copyFrom_33 rfl rfl ?_
  refine c2_getI C (v := (W 10)) hDB 203 10 rfl (by decide) ln203 rfl fl_X3_27 rfl dX3_copyFrom_34 hS2.1.2.2.2.2.2.1 rfl ?_
  refine c_putI C 203 10 rfl (by decide) ln203 rfl fl_X3_27 rfl dX3_copyFrom_37 hS.1.2.2.2.2.2.1 (fun a37 ea37 => ?_)
  refine r_aload_n C 0 dX3_copyFrom_40 rfl rfl ?_
  refine r_aload_n C 1 dX3_copyFrom_41 rfl rfl ?_
  refine c2_getI C (v := (W 5466)) hDB 203 5466 rfl (by decide) ln203 rfl fl_X3_30 rfl dX3_copyFrom_42 hS2.1.2.2.2.2.2.1 rfl ?_
  refine c_putI C 203 5466 rfl (by decide) ln203 rfl fl_X3_30 rfl dX3_copyFrom_45 hS.1.2.2.2.2.2.1 (fun a45 ea45 => ?_)
  refine r_aload_n C 0 dX3_copyFrom_48 rfl rfl ?_
  refine r_aload_n C 1 dX3_copyFrom_49 rfl rfl ?_
  refine c2_getI C (v := (W 11)) hDB 203 11 rfl (by decide) ln203 rfl fl_X3_33 rfl dX3_copyFrom_50 hS2.1.2.2.2.2.2.1 rfl ?_
  refine c_putZ C 203 11 rfl (by decide) ln203 rfl fl_X3_33 rfl dX3_copyFrom_53 hS.1.2.2.2.2.2.1 h4 (fun a53 ea53 => ?_)
  refine r_vret C hr hlk dX3_copyFrom_56 (Nat.zero_le _) (Nat.zero_le _) ?_
  have m0 : Mo W X a5 := by rw [ea5]; exact mo_up
  have m1 : Mo W a5 a13 := by rw [ea13]; exact mo_up
  have m2 : Mo W a13 a21 := by rw [ea21]; exact mo_up
  have m3 : Mo W a21 a29 := by rw [ea29]; exact mo_up
  have m4 : Mo W a29 a37 := by rw [ea37]; exact mo_up
  have m5 : Mo W a37 a45 := by rw [ea45]; exact mo_up
  have m6 : Mo W a45 a53 := by rw [ea53]; exact mo_up
  have mm : Mo W X a53 := Mo.tr m0 (Mo.tr m1 (Mo.tr m2 (Mo.tr m3 (Mo.tr m4 (Mo.tr m5 (m6))))))
  refine ⟨rfl, rfl, a53, mm, ?_, rfl, rfl⟩
  exact ⟨(m6 _ (m5 _ (m4 _ (m3 _ (m2 _ (m1 _ (show a5 8 = W 8 by rw [ea5, up1_s]))))))), (m6 _ (m5 _ (m4 _ (m3 _ (show a21 9 = W 9 by rw [ea21, up1_s]))))), (m6 _ (m5 _ (show a37 10 = W 10 by rw [ea37, up1_s]))), (show a53 11 = W 11 by rw [ea53, up1_s]), (m6 _ (m5 _ (m4 _ (show a29 12 = W 12 by rw [ea29, up1_s])))), (m6 _ (m5 _ (m4 _ (m3 _ (m2 _ (show a13 3818 = W 3818 by rw [ea13, up1_s]))))))⟩
set_option maxHeartbeats 4000000 in
set_option maxRecDepth 20000 in
theorem k_X0_copyFrom {l : Launch} {G : Gd} {base : Nat} {Y : MY} {I : MI} {L : ML} {B D : Nat} {X W : Sa} (f : Nat) (hS : SLy base Y B) (hS2 : SLy base Y D) (hDB : B + 206 ≤ D ∨ D + 206 ≤ B) (hf : f < 6) : Ct l yX0_copyFrom cX0_copyFrom 2 (none) (rmz 1 40) G base [.ref (B + (3 + 3 * f)), .ref (D + (3 + 3 * f))] Y (cI (cI I D W) B X) (cL (cL L D W) B X) (EV Y (fun I' L' => ∃ X', Mo W X X' ∧ ((∀ k, k < 18 → X' (17 + 18 * f + k) = W (17 + 18 * f + k)) ∧ ∀ i, i < 20 → X' (2000 + 20 * f + i) = W (2000 + 20 * f + i)) ∧ I' = cI (cI I D W) B X' ∧ L' = cL (cL L D W) B X')) := by
  refine Ct.of (own := RX0) (lo := [(0, .ref (B + (3 + 3 * f))), (1, .ref (D + (3 + 3 * f)))]) (by decide) rfl (Nat.le_of_ble_eq_true rfl) rfl ?_
  intro zp ze zs zm zargs zbl zmt zc C hr hlk hnm
  refine r_aload_n C 1 dX0_copyFrom_0 rfl rfl ?_
  refine r_getR C fl_X0_13 rfl dX0_copyFrom_1 (hS2.2.2.1 f hf).1 (hS2.2.2.1 f hf).2.2.2.2.1 ?_
  refine r_iconst (v := iI 0) C dX0_copyFrom_4 rfl ?_
  refine r_aload_n C 0 dX0_copyFrom_5 rfl rfl ?_
  refine r_getR C fl_X0_13 rfl dX0_copyFrom_6 (hS.2.2.1 f hf).1 (hS.2.2.1 f hf).2.2.2.2.1 ?_
  refine r_iconst (v := iI 0) C dX0_copyFrom_9 rfl ?_
  refine r_aload_n C 0 dX0_copyFrom_10 rfl rfl ?_
  refine r_getR C fl_X0_13 rfl dX0_copyFrom_11 (hS.2.2.1 f hf).1 (hS.2.2.1 f hf).2.2.2.2.1 ?_
  refine r_alen C (by decide) dX0_copyFrom_14 (hS.2.2.1 f hf).2.1 ?_
  refine c2_copy C (n := 5) (t := 0) hDB (4 + 3 * f) rfl rfl (oG hf) (fun k => lnG1 hf) (by decide) rfl rfl wy_X0_25 dX0_copyFrom_15 (by decide) (hS2.2.2.1 f hf).2.1 (hS.2.2.1 f hf).2.1 (fun _ _ => rfl) (Nat.le_of_ble_eq_true rfl) (Nat.le_of_ble_eq_true rfl) (fun a15 ea15 => ?_)
  refine r_aload_n C 1 dX0_copyFrom_18 rfl rfl ?_
  refine r_getR C fl_X0_18 rfl dX0_copyFrom_19 (hS2.2.2.1 f hf).1 (hS2.2.2.1 f hf).2.2.2.2.2 ?_
  refine r_iconst (v := iI 0) C dX0_copyFrom_22 rfl ?_
  refine r_aload_n C 0 dX0_copyFrom_23 rfl rfl ?_
  refine r_getR C fl_X0_18 rfl dX0_copyFrom_24 (hS.2.2.1 f hf).1 (hS.2.2.1 f hf).2.2.2.2.2 ?_
  refine r_iconst (v := iI 0) C dX0_copyFrom_27 rfl ?_
  refine r_aload_n C 0 dX0_copyFrom_28 rfl rfl ?_
  refine r_getR C fl_X0_18 rfl dX0_copyFrom_29 (hS.2.2.1 f hf).1 (hS.2.2.1 f hf).2.2.2.2.2 ?_
  refine r_alen C (by decide) dX0_copyFrom_32 (hS.2.2.1 f hf).2.2.1 ?_
  refine c2_copy C (n := 20) (t := 0) hDB (5 + 3 * f) rfl rfl (oQ hf) (fun k => lnQ1 hf) (by decide) rfl rfl wy_X0_25 dX0_copyFrom_33 (by decide) (hS2.2.2.1 f hf).2.2.1 (hS.2.2.1 f hf).2.2.1 (fun _ _ => rfl) (Nat.le_of_ble_eq_true rfl) (Nat.le_of_ble_eq_true rfl) (fun a33 ea33 => ?_)
  refine r_aload_n C 0 dX0_copyFrom_36 rfl rfl ?_
  refine r_aload_n C 1 dX0_copyFrom_37 rfl rfl ?_
  refine c2_getI C (v := (W (17 + 18 * f + 17))) hDB (3 + 3 * f) ((17 + 18 * f + 17)) rfl (oF hf) (lnF hf (by decide)) (ky_F hf 2) fl_X0_31 rfl dX0_copyFrom_38 (hS2.2.2.1 f hf).1 rfl ?_
  refine c_putI C (3 + 3 * f) ((17 + 18 * f + 17)) rfl (oF hf) (lnF hf (by decide)) (ky_F hf 2) fl_X0_31 rfl dX0_copyFrom_41 (hS.2.2.1 f hf).1 (fun a41 ea41 => ?_)
  refine r_aload_n C 0 dX0_copyFrom_44 rfl rfl ?_
  refine r_aload_n C 1 dX0_copyFrom_45 rfl rfl ?_
  refine c2_getI C (v := (W (17 + 18 * f + 6))) hDB (3 + 3 * f) ((17 + 18 * f + 6)) rfl (oF hf) (lnF hf (by decide)) (ky_F hf 3) fl_X0_35 rfl dX0_copyFrom_46 (hS2.2.2.1 f hf).1 rfl ?_
  refine c_putI C (3 + 3 * f) ((17 + 18 * f + 6)) rfl (oF hf) (lnF hf (by decide)) (ky_F hf 3) fl_X0_35 rfl dX0_copyFrom_49 (hS.2.2.1 f hf).1 (fun a49 ea49 => ?_)
  refine r_aload_n C 0 dX0_copyFrom_52 rfl rfl ?_
  refine r_aload_n C 1 dX0_copyFrom_53 rfl rfl ?_
  refine c2_getI C (v := (W (17 + 18 * f + 7))) hDB (3 + 3 * f) ((17 + 18 * f + 7)) rfl (oF hf) (lnF hf (by decide)) (ky_F hf 4) fl_X0_38 rfl dX0_copyFrom_54 (hS2.2.2.1 f hf).1 rfl ?_
  refine c_putI C (3 + 3 * f) ((17 + 18 * f + 7)) rfl (oF hf) (lnF hf (by decide)) (ky_F hf 4) fl_X0_38 rfl dX0_copyFrom_57 (hS.2.2.1 f hf).1 (fun a57 ea57 => ?_)
  refine r_aload_n C 0 dX0_copyFrom_60 rfl rfl ?_
  refine r_aload_n C 1 dX0_copyFrom_61 rfl rfl ?_
  refine c2_getI C (v := (W (17 + 18 * f + 8))) hDB (3 + 3 * f) ((17 + 18 * f + 8)) rfl (oF hf) (lnF hf (by decide)) (ky_F hf 5) fl_X0_41 rfl dX0_copyFrom_62 (hS2.2.2.1 f hf).1 rfl ?_
  refine c_putI C (3 + 3 * f) ((17 + 18 * f + 8)) rfl (oF hf) (lnF hf (by decide)) (ky_F hf 5) fl_X0_41 rfl dX0_copyFrom_65 (hS.2.2.1 f hf).1 (fun a65 ea65 => ?_)
  refine r_aload_n C 0 dX0_copyFrom_68 rfl rfl ?_
  refine r_aload_n C 1 dX0_copyFrom_69 rfl rfl ?_
  refine c2_getI C (v := (W (17 + 18 * f + 5))) hDB (3 + 3 * f) ((17 + 18 * f + 5)) rfl (oF hf) (lnF hf (by decide)) (ky_F hf 6) fl_X0_44 rfl dX0_copyFrom_70 (hS2.2.2.1 f hf).1 rfl ?_
  refine c_putI C (3 + 3 * f) ((17 + 18 * f + 5)) rfl (oF hf) (lnF hf (by decide)) (ky_F hf 6) fl_X0_44 rfl dX0_copyFrom_73 (hS.2.2.1 f hf).1 (fun a73 ea73 => ?_)
  refine r_aload_n C 0 dX0_copyFrom_76 rfl rfl ?_
  refine r_aload_n C 1 dX0_copyFrom_77 rfl rfl ?_
  refine c2_getI C (v := (W (17 + 18 * f + 9))) hDB (3 + 3 * f) ((17 + 18 * f + 9)) rfl (oF hf) (lnF hf (by decide)) (ky_F hf 7) fl_X0_47 rfl dX0_copyFrom_78 (hS2.2.2.1 f hf).1 rfl ?_
  refine c_putI C (3 + 3 * f) ((17 + 18 * f + 9)) rfl (oF hf) (lnF hf (by decide)) (ky_F hf 7) fl_X0_47 rfl dX0_copyFrom_81 (hS.2.2.1 f hf).1 (fun a81 ea81 => ?_)
  refine r_aload_n C 0 dX0_copyFrom_84 rfl rfl ?_
  refine r_aload_n C 1 dX0_copyFrom_85 rfl rfl ?_
  refine c2_getI C (v := (W (17 + 18 * f + 10))) hDB (3 + 3 * f) ((17 + 18 * f + 10)) rfl (oF hf) (lnF hf (by decide)) (ky_F hf 8) fl_X0_50 rfl dX0_copyFrom_86 (hS2.2.2.1 f hf).1 rfl ?_
  refine c_putI C (3 + 3 * f) ((17 + 18 * f + 10)) rfl (oF hf) (lnF hf (by decide)) (ky_F hf 8) fl_X0_50 rfl dX0_copyFrom_89 (hS.2.2.1 f hf).1 (fun a89 ea89 => ?_)
  refine r_aload_n C 0 dX0_copyFrom_92 rfl rfl ?_
  refine r_aload_n C 1 dX0_copyFrom_93 rfl rfl ?_
  refine c2_getI C (v := (W (17 + 18 * f + 11))) hDB (3 + 3 * f) ((17 + 18 * f + 11)) rfl (oF hf) (lnF hf (by decide)) (ky_F hf 9) fl_X0_53 rfl dX0_copyFrom_94 (hS2.2.2.1 f hf).1 rfl ?_
  refine c_putI C (3 + 3 * f) ((17 + 18 * f + 11)) rfl (oF hf) (lnF hf (by decide)) (ky_F hf 9) fl_X0_53 rfl dX0_copyFrom_97 (hS.2.2.1 f hf).1 (fun a97 ea97 => ?_)
  refine r_aload_n C 0 dX0_copyFrom_100 rfl rfl ?_
  refine r_aload_n C 1 dX0_copyFrom_101 rfl rfl ?_
  refine c2_getL C (v := (W (17 + 18 * f + 12))) hDB (3 + 3 * f) ((17 + 18 * f + 12)) rfl (oF hf) (lnFy hf (by decide)) (ky_F hf 10) fl_X0_56 rfl dX0_copyFrom_102 (hS2.2.2.1 f hf).1 rfl ?_
  refine c_putL C (3 + 3 * f) ((17 + 18 * f + 12)) rfl (oF hf) (lnFy hf (by decide)) (ky_F hf 10) fl_X0_56 rfl dX0_copyFrom_105 (hS.2.2.1 f hf).1 (fun a105 ea105 => ?_)
  refine r_aload_n C 0 dX0_copyFrom_108 rfl rfl ?_
  refine r_aload_n C 1 dX0_copyFrom_109 rfl rfl ?_
  refine c2_getL C (v := (W (17 + 18 * f + 13))) hDB (3 + 3 * f) ((17 + 18 * f + 13)) rfl (oF hf) (lnFy hf (by decide)) (ky_F hf 11) fl_X0_60 rfl dX0_copyFrom_110 (hS2.2.2.1 f hf).1 rfl ?_
  refine c_putL C (3 + 3 * f) ((17 + 18 * f + 13)) rfl (oF hf) (lnFy hf (by decide)) (ky_F hf 11) fl_X0_60 rfl dX0_copyFrom_113 (hS.2.2.1 f hf).1 (fun a113 ea113 => ?_)
  refine r_aload_n C 0 dX0_copyFrom_116 rfl rfl ?_
  refine r_aload_n C 1 dX0_copyFrom_117 rfl rfl ?_
  refine c2_getL C (v := (W (17 + 18 * f + 14))) hDB (3 + 3 * f) ((17 + 18 * f + 14)) rfl (oF hf) (lnFy hf (by decide)) (ky_F hf 12) fl_X0_63 rfl dX0_copyFrom_118 (hS2.2.2.1 f hf).1 rfl ?_
  refine c_putL C (3 + 3 * f) ((17 + 18 * f + 14)) rfl (oF hf) (lnFy hf (by decide)) (ky_F hf 12) fl_X0_63 rfl dX0_copyFrom_121 (hS.2.2.1 f hf).1 (fun a121 ea121 => ?_)
  refine r_aload_n C 0 dX0_copyFrom_124 rfl rfl ?_
  refine r_aload_n C 1 dX0_copyFrom_125 rfl rfl ?_
  refine c2_getL C (v := (W (17 + 18 * f + 15))) hDB (3 + 3 * f) ((17 + 18 * f + 15)) rfl (oF hf) (lnFy hf (by decide)) (ky_F hf 13) fl_X0_66 rfl dX0_copyFrom_126 (hS2.2.2.1 f hf).1 rfl ?_
  refine c_putL C (3 + 3 * f) ((17 + 18 * f + 15)) rfl (oF hf) (lnFy hf (by decide)) (ky_F hf 13) fl_X0_66 rfl dX0_copyFrom_129 (hS.2.2.1 f hf).1 (fun a129 ea129 => ?_)
  refine r_aload_n C 0 dX0_copyFrom_132 rfl rfl ?_
  refine r_aload_n C 1 dX0_copyFrom_133 rfl rfl ?_
  refine c2_getL C (v := (W (17 + 18 * f + 16))) hDB (3 + 3 * f) ((17 + 18 * f + 16)) rfl (oF hf) (lnFy hf (by decide)) (ky_F hf 14) fl_X0_69 rfl dX0_copyFrom_134 (hS2.2.2.1 f hf).1 rfl ?_
  refine c_putL C (3 + 3 * f) ((17 + 18 * f + 16)) rfl (oF hf) (lnFy hf (by decide)) (ky_F hf 14) fl_X0_69 rfl dX0_copyFrom_137 (hS.2.2.1 f hf).1 (fun a137 ea137 => ?_)
  refine r_vret C hr hlk dX0_copyFrom_140 (Nat.zero_le _) (Nat.zero_le _) ?_
  have m0 : Mo W X a15 := by rw [ea15]; exact mo_C
  have m1 : Mo W a15 a33 := by rw [ea33]; exact mo_C
  have m2 : Mo W a33 a41 := by rw [ea41]; exact mo_up
  have m3 : Mo W a41 a49 := by rw [ea49]; exact mo_up
  have m4 : Mo W a49 a57 := by rw [ea57]; exact mo_up
  have m5 : Mo W a57 a65 := by rw [ea65]; exact mo_up
  have m6 : Mo W a65 a73 := by rw [ea73]; exact mo_up
  have m7 : Mo W a73 a81 := by rw [ea81]; exact mo_up
  have m8 : Mo W a81 a89 := by rw [ea89]; exact mo_up
  have m9 : Mo W a89 a97 := by rw [ea97]; exact mo_up
  have m10 : Mo W a97 a105 := by rw [ea105]; exact mo_up
  have m11 : Mo W a105 a113 := by rw [ea113]; exact mo_up
  have m12 : Mo W a113 a121 := by rw [ea121]; exact mo_up
  have m13 : Mo W a121 a129 := by rw [ea129]; exact mo_up
  have m14 : Mo W a129 a137 := by rw [ea137]; exact mo_up
  have mm : Mo W X a137 := Mo.tr m0 (Mo.tr m1 (Mo.tr m2 (Mo.tr m3 (Mo.tr m4 (Mo.tr m5 (Mo.tr m6 (Mo.tr m7 (Mo.tr m8 (Mo.tr m9 (Mo.tr m10 (Mo.tr m11 (Mo.tr m12 (Mo.tr m13 (m14))))))))))))))
  refine ⟨rfl, rfl, a137, mm, ?_, rfl, rfl⟩
  refine ⟨?_, ?_⟩
  · intro k hk
    match k, hk with
    | 0, _ => exact (m14 _ (m13 _ (m12 _ (m11 _ (m10 _ (m9 _ (m8 _ (m7 _ (m6 _ (m5 _ (m4 _ (m3 _ (m2 _ (m1 _ (show a15 (17 + 18 * f + 0) = W (17 + 18 * f + 0) by rw [ea15, ← ky_G hf (show 0 < 5 by decide)]; exact upC_s (oG hf))))))))))))))))
    | 1, _ => exact (m14 _ (m13 _ (m12 _ (m11 _ (m10 _ (m9 _ (m8 _ (m7 _ (m6 _ (m5 _ (m4 _ (m3 _ (m2 _ (m1 _ (show a15 (17 + 18 * f + 1) = W (17 + 18 * f + 1) by rw [ea15, ← ky_G hf (show 1 < 5 by decide)]; exact upC_s (oG hf))))))))))))))))
    | 2, _ => exact (m14 _ (m13 _ (m12 _ (m11 _ (m10 _ (m9 _ (m8 _ (m7 _ (m6 _ (m5 _ (m4 _ (m3 _ (m2 _ (m1 _ (show a15 (17 + 18 * f + 2) = W (17 + 18 * f + 2) by rw [ea15, ← ky_G hf (show 2 < 5 by decide)]; exact upC_s (oG hf))))))))))))))))
    | 3, _ => exact (m14 _ (m13 _ (m12 _ (m11 _ (m10 _ (m9 _ (m8 _ (m7 _ (m6 _ (m5 _ (m4 _ (m3 _ (m2 _ (m1 _ (show a15 (17 + 18 * f + 3) = W (17 + 18 * f + 3) by rw [ea15, ← ky_G hf (show 3 < 5 by decide)]; exact upC_s (oG hf))))))))))))))))
    | 4, _ => exact (m14 _ (m13 _ (m12 _ (m11 _ (m10 _ (m9 _ (m8 _ (m7 _ (m6 _ (m5 _ (m4 _ (m3 _ (m2 _ (m1 _ (show a15 (17 + 18 * f + 4) = W (17 + 18 * f + 4) by rw [ea15, ← ky_G hf (show 4 < 5 by decide)]; exact upC_s (oG hf))))))))))))))))
    | 5, _ => exact (m14 _ (m13 _ (m12 _ (m11 _ (m10 _ (m9 _ (m8 _ (m7 _ (show a73 (17 + 18 * f + 5) = W (17 + 18 * f + 5) by rw [ea73, up1_s])))))))))
    | 6, _ => exact (m14 _ (m13 _ (m12 _ (m11 _ (m10 _ (m9 _ (m8 _ (m7 _ (m6 _ (m5 _ (m4 _ (show a49 (17 + 18 * f + 6) = W (17 + 18 * f + 6) by rw [ea49, up1_s]))))))))))))
    | 7, _ => exact (m14 _ (m13 _ (m12 _ (m11 _ (m10 _ (m9 _ (m8 _ (m7 _ (m6 _ (m5 _ (show a57 (17 + 18 * f + 7) = W (17 + 18 * f + 7) by rw [ea57, up1_s])))))))))))
    | 8, _ => exact (m14 _ (m13 _ (m12 _ (m11 _ (m10 _ (m9 _ (m8 _ (m7 _ (m6 _ (show a65 (17 + 18 * f + 8) = W (17 + 18 * f + 8) by rw [ea65, up1_s]))))))))))
    | 9, _ => exact (m14 _ (m13 _ (m12 _ (m11 _ (m10 _ (m9 _ (m8 _ (show a81 (17 + 18 * f + 9) = W (17 + 18 * f + 9) by rw [ea81, up1_s]))))))))
    | 10, _ => exact (m14 _ (m13 _ (m12 _ (m11 _ (m10 _ (m9 _ (show a89 (17 + 18 * f + 10) = W (17 + 18 * f + 10) by rw [ea89, up1_s])))))))
    | 11, _ => exact (m14 _ (m13 _ (m12 _ (m11 _ (m10 _ (show a97 (17 + 18 * f + 11) = W (17 + 18 * f + 11) by rw [ea97, up1_s]))))))
    | 12, _ => exact (m14 _ (m13 _ (m12 _ (m11 _ (show a105 (17 + 18 * f + 12) = W (17 + 18 * f + 12) by rw [ea105, up1_s])))))
    | 13, _ => exact (m14 _ (m13 _ (m12 _ (show a113 (17 + 18 * f + 13) = W (17 + 18 * f + 13) by rw [ea113, up1_s]))))
    | 14, _ => exact (m14 _ (m13 _ (show a121 (17 + 18 * f + 14) = W (17 + 18 * f + 14) by rw [ea121, up1_s])))
    | 15, _ => exact (m14 _ (show a129 (17 + 18 * f + 15) = W (17 + 18 * f + 15) by rw [ea129, up1_s]))
    | 16, _ => exact (show a137 (17 + 18 * f + 16) = W (17 + 18 * f + 16) by rw [ea137, up1_s])
    | 17, _ => exact (m14 _ (m13 _ (m12 _ (m11 _ (m10 _ (m9 _ (m8 _ (m7 _ (m6 _ (m5 _ (m4 _ (m3 _ (show a41 (17 + 18 * f + 17) = W (17 + 18 * f + 17) by rw [ea41, up1_s])))))))))))))
    | k + 18, h => exact absurd h (by omega)
  · intro i hi
    exact (m14 _ (m13 _ (m12 _ (m11 _ (m10 _ (m9 _ (m8 _ (m7 _ (m6 _ (m5 _ (m4 _ (m3 _ (m2 _ (show a33 (2000 + 20 * f + i) = W (2000 + 20 * f + i) by rw [ea33, ← ky_Q hf hi]; exact upC_s (oQ hf)))))))))))))))
set_option maxHeartbeats 4000000 in
set_option maxRecDepth 20000 in
theorem k_X2_copyFrom {l : Launch} {G : Gd} {base : Nat} {Y : MY} {I : MI} {L : ML} {B D : Nat} {X W : Sa}  (hS : SLy base Y B) (hS2 : SLy base Y D) (hDB : B + 206 ≤ D ∨ D + 206 ≤ B) (ht : ∀ i, i < 80 → 0 ≤ W (1745 + i) ∧ W (1745 + i) < 65536) : Ct l yX2_copyFrom cX2_copyFrom 2 (none) (rmz 1 40) G base [.ref (B + 204), .ref (D + 204)] Y (cI (cI I D W) B X) (cL (cL L D W) B X) (EV Y (fun I' L' => ∃ X', Mo W X X' ∧ (∀ k, 1745 ≤ k → k ≤ 1825 → X' k = W k) ∧ I' = cI (cI I D W) B X' ∧ L' = cL (cL L D W) B X')) := by
  refine Ct.of (own := RX2) (lo := [(0, .ref (B + 204)), (1, .ref (D + 204))]) (by decide) rfl (Nat.le_of_ble_eq_true rfl) rfl ?_
  intro zp ze zs zm zargs zbl zmt zc C hr hlk hnm
  refine r_aload_n C 1 dX2_copyFrom_0 rfl rfl ?_
  refine r_getR C fl_X2_9 rfl dX2_copyFrom_1 hS2.1.2.2.2.2.2.2.1 hS2.2.1.2.2.2.2.2.2 ?_
  refine r_iconst (v := iI 0) C dX2_copyFrom_4 rfl ?_
  refine r_aload_n C 0 dX2_copyFrom_5 rfl rfl ?_
  refine r_getR C fl_X2_9 rfl dX2_copyFrom_6 hS.1.2.2.2.2.2.2.1 hS.2.1.2.2.2.2.2.2 ?_
  refine r_iconst (v := iI 0) C dX2_copyFrom_9 rfl ?_
  refine r_aload_n C 0 dX2_copyFrom_10 rfl rfl ?_
  refine r_getR C fl_X2_9 rfl dX2_copyFrom_11 hS.1.2.2.2.2.2.2.1 hS.2.1.2.2.2.2.2.2 ?_
  refine r_alen C (by decide) dX2_copyFrom_14 hS.1.2.2.2.2.2.2.2 ?_
  refine c2_copy C (n := 80) (t := 3) hDB 205 rfl rfl (by decide) (fun k => ln205) (by decide) rfl rfl wy_X2_48 dX2_copyFrom_15 (by decide) hS2.1.2.2.2.2.2.2.2 hS.1.2.2.2.2.2.2.2 (fun i hi => by rw [ky_T hi]; exact fits_c (ht i hi)) (Nat.le_of_ble_eq_true rfl) (Nat.le_of_ble_eq_true rfl) (fun a15 ea15 => ?_)
  refine r_aload_n C 0 dX2_copyFrom_18 rfl rfl ?_
  refine r_aload_n C 1 dX2_copyFrom_19 rfl rfl ?_
  refine c2_getI C (v := (W 1825)) hDB 204 1825 rfl (by decide) ln204 rfl fl_X2_15 rfl dX2_copyFrom_20 hS2.1.2.2.2.2.2.2.1 rfl ?_
  refine c_putI C 204 1825 rfl (by decide) ln204 rfl fl_X2_15 rfl dX2_copyFrom_23 hS.1.2.2.2.2.2.2.1 (fun a23 ea23 => ?_)
  refine r_vret C hr hlk dX2_copyFrom_26 (Nat.zero_le _) (Nat.zero_le _) ?_
  have m0 : Mo W X a15 := by rw [ea15]; exact mo_C
  have m1 : Mo W a15 a23 := by rw [ea23]; exact mo_up
  have mm : Mo W X a23 := Mo.tr m0 (m1)
  refine ⟨rfl, rfl, a23, mm, ?_, rfl, rfl⟩
  intro k k1 k2
  by_cases e : k = 1825
  · rw [e]
    exact (show a23 1825 = W 1825 by rw [ea23, up1_s])
  · obtain ⟨i, hi, rfl⟩ : ∃ i, i < 80 ∧ k = 1745 + i := ⟨k - 1745, by omega, by omega⟩
    exact (m1 _ (show a15 (1745 + i) = W (1745 + i) by rw [ea15, ← ky_T hi]; exact upC_s (by decide)))
