section CPY
variable {p : Program} {l : Launch} {e : Env} {R : Room} {s : State} {m : MethodId} {args : Array Value} {below : List Frame} {meth : Method} {c : Code} {cc : ByteArray} {nL : Nat} {own : String} {G : Gd} {base : Nat} {Q : State → Prop} {pc : Nat} {lo lo' : List (Nat × Value)} {st : List Value} {Y : MY} {I : MI} {L : ML} {cells slots : Nat} {B : Nat} {X : Sa}
theorem c_copyT (C : Cx p s m args c cc nL own G base) {idx x j n : Nat} (o : Nat) (hx : x = B + o) (ho : o < 206) (hl : ∀ k, ¬ lng o k) (hj : j < 5) (hn : (scl j).length = n) (hw : Cond.methodLink own idx arraycopyName ∈ tW) (hd : decode cc pc = .ok (.invokestatic idx, 3)) (hA : Is base Y x (.inr (0, n))) (hfr : 1 ≤ R.frames) (hlc : (st.map fun v => v.category).sum + (nativeFrameWords "java/lang/System" "arraycopy" 5 + 11) ≤ R.locals) (kk : ∀ X', X' = upC X o (fun k => ((scl j).getD k 0).toInt) → Rn p l e R s m args below meth c nL G base Q ((pc + 3)) lo st Y ((cI I B X')) ((cL L B X')) cells slots) : Rn p l e R s m args below meth c nL G base Q pc lo ((.int (iI n) :: .int (iI 0) :: .ref x :: .int (iI 0) :: .ref (G.2.2 j) :: st)) Y ((cI I B X)) ((cL L B X)) cells slots := by
  refine r_copyT C hj hn hw hd hA hfr hlc (fun I' e => ?_)
  have e2 : (fun k => (scl j).getD k 0) = fun k => iI (((scl j).getD k 0).toInt) := by
    funext k
    exact iI_of _
  rw [e, hx, e2, cI_C ho hl, ← cL_C (L := L) (B := B) (X := X) (g := fun k => ((scl j).getD k 0).toInt) ho hl]
  exact kk _ rfl
end CPY
theorem ws_35 : Cond.fieldLink RX5 35 "FairLink" (snm 0) "[I" ∈ tW := tW_in 387 (by decide +kernel) rfl
theorem ws_39 : Cond.fieldLink RX5 39 "FairLink" (snm 1) "[I" ∈ tW := tW_in 389 (by decide +kernel) rfl
theorem ws_51 : Cond.fieldLink RX5 51 "FairLink" (snm 3) "[I" ∈ tW := tW_in 395 (by decide +kernel) rfl
def bgF (X : Sa) (f : Nat) (w : Int) : Sa := (up1 (up1 (up1 (up1 (up1 (up1 (up1 (up1 (up1 (up1 (up1 (up1 (up1 (up1 (upC X (4 + 3 * f) (fun k => ((scl 2).getD k 0).toInt)) (17 + 18 * f + 0) w) (17 + 18 * f + 17) 0) (17 + 18 * f + 6) 0) (17 + 18 * f + 7) 0) (17 + 18 * f + 8) 0) (17 + 18 * f + 5) 0) (17 + 18 * f + 9) 0) (17 + 18 * f + 10) 0) (17 + 18 * f + 11) 0) (17 + 18 * f + 12) 0) (17 + 18 * f + 13) 0) (17 + 18 * f + 14) 0) (17 + 18 * f + 15) 0) (17 + 18 * f + 16) 0)
set_option maxHeartbeats 4000000 in
set_option maxRecDepth 20000 in
theorem k_X4_accept {l : Launch} {G : Gd} {base : Nat} {Y : MY} {I : MI} {L : ML} {B : Nat} {X : Sa} {a : Sa} {N T : Int} {fi n d : Int} (f : Nat) (hS : SLy base Y B) (hI : Inv N T a) (hR : Rl true a X) (hf : fi = f) (hf2 : (f : Int) < a 2) (hN : NowOK a) (hr1 : hasR a f = 1) (hn : 1 ≤ n ∧ n ≤ 2000) (hd : 0 ≤ d ∧ d ≤ 9999) : Ct l yX4_accept cX4_accept 8 (some .int) (rmz 2 43) G base [.ref B, .int (iI fi), .int (iI n), .int (iI d)] Y (cI I B X) (cL L B X) (EI Y (fun r I' L' => r = a 7 ∧ ∃ X', Rl true (take a f n d) X' ∧ (∀ k, 3000 ≤ k → X' k = X k) ∧ I' = cI I B X' ∧ L' = cL L B X')) := by
  refine Ct.of (own := RX4) (lo := [(0, .ref B), (1, .int (iI fi)), (2, .int (iI n)), (3, .int (iI d))]) (by decide) rfl (Nat.le_of_ble_eq_true rfl) rfl ?_
  intro zp ze zs zm zargs zbl zmt zc C hr hlk hnm
  have hT := hI.1
  unfold TopOK at hT
  have hf6 : f < 6 := by omega
  have hF := (hI.2.1 f hf2).1
  unfold FlowOK at hF
  obtain ⟨p, hp⟩ := Int.eq_ofNat_of_zero_le (show 0 ≤ a 7 by omega)
  obtain ⟨qn, hq17⟩ := Int.eq_ofNat_of_zero_le (show 0 ≤ a (17 + 18 * f + 17) by omega)
  have hra := hasR_1 hr1
  refine r_aload_n C 0 dX4_accept_0 rfl rfl ?_
  refine c_getI C (v := (a 7)) 0 7 rfl (by decide) (lnS (by decide)) rfl fl_X4_63 rfl dX4_accept_1 hS.1.1 (hR.n 7 (by decide) (by decide)) ?_
  refine n_topi (fun x4 ex4 => ?_)
  refine r_istore (lo' := [(4, .int (iI x4)), (0, .ref B), (1, .int (iI fi)), (2, .int (iI n)), (3, .int (iI d))]) C dX4_accept_4 (by decide) rfl ?_
  refine r_aload_n C 1 dX4_accept_6 rfl rfl ?_
  refine r_getR C fl_X4_26 rfl dX4_accept_7 hS.1.1 hS.2.1.2.1 ?_
  refine r_iload_n C 2 dX4_accept_10 rfl rfl ?_
  refine r_aald C (by decide) (by decide) f dX4_accept_11 hS.1.2.2.1 ⟨congrArg iI (by omega), (by omega), by decide⟩ (hS.2.2.1 f (by omega)).2.2.2.1 ?_
  refine r_astore (lo' := [(5, .ref (B + (3 + 3 * f))), (4, .int (iI x4)), (0, .ref B), (1, .int (iI fi)), (2, .int (iI n)), (3, .int (iI d))]) C dX4_accept_12 (by decide) rfl ?_
  refine r_aload_n C 2 dX4_accept_14 rfl rfl ?_
  refine c_getL C (v := (a 1)) 0 1 rfl (by decide) lnSy rfl fl_X4_123 rfl dX4_accept_15 hS.1.1 (hR.n 1 (by decide) (by decide)) ?_
  refine r_aload C 0 dX4_accept_18 rfl ?_
  refine c_getL C (v := (a (17 + 18 * f + 12))) (3 + 3 * f) ((17 + 18 * f + 12)) rfl (oF (by omega)) (lnFy (by omega) (by decide)) (ky_F (by omega) 10) fl_X4_98 rfl dX4_accept_20 (hS.2.2.1 f (by omega)).1 (hR.f hf2 (fk_t (by decide))) ?_
  refine cS2_PL C (k_J9_max_f86c9 (by constructor <;> omega) (by constructor <;> omega)) cw_X4_126 (rm_ok rfl rfl (Nat.zero_le _) (Nat.zero_le _)) (Nat.le_of_ble_eq_true rfl) dX4_accept_23 ?_
  refine n_topl (fun y23 ey23 => ?_)
  have ky23 : ((a 1) < (a (17 + 18 * f + 12)) ∧ y23 = (a (17 + 18 * f + 12))) ∨ ((a (17 + 18 * f + 12)) ≤ (a 1) ∧ y23 = (a 1)) := by rw [ey23]; split <;> omega
  have hs : y23 = tkS a f := by
    unfold tkS
    split <;> omega
  refine r_lstore (lo' := [(6, .long (lI y23)), (5, .ref (B + (3 + 3 * f))), (4, .int (iI x4)), (0, .ref B), (1, .int (iI fi)), (2, .int (iI n)), (3, .int (iI d))]) C dX4_accept_26 (by decide) rfl ?_
  refine r_aload_n C 3 dX4_accept_28 rfl rfl ?_
  refine r_iload C 2 dX4_accept_29 rfl ?_
  refine cV1_PA C (k_X4_packetAt p hS (by omega) (by omega)) cw_X4_91 (rm_ok rfl rfl (Nat.zero_le _) (Nat.zero_le _)) (Nat.le_of_ble_eq_true rfl) hS.1.1 dX4_accept_31 ?_
  refine r_iload_n C 4 dX4_accept_34 rfl rfl ?_
  refine r_iload_n C 5 dX4_accept_35 rfl rfl ?_
  refine r_aload_n C 3 dX4_accept_36 rfl rfl ?_
  refine c_getI C (v := (a 0)) 0 0 rfl (by decide) (lnS (by decide)) rfl fl_X4_129 rfl dX4_accept_37 hS.1.1 (hR.n 0 (by decide) (by decide)) ?_
  have jn55 : ∀ x55 : Int, (¬ d = 0 ∧ x55 = ((a 0) + d)) ∨ (d = 0 ∧ x55 = (-6)) → Bd zp l ze (rmz 2 43) zs zm zargs zbl zmt zc 8 G base (EI Y (fun r I' L' => r = a 7 ∧ ∃ X', Rl true (take a f n d) X' ∧ (∀ k, 3000 ≤ k → X' k = X k) ∧ I' = cI I B X' ∧ L' = cL L B X')) 55 [(6, .long (lI y23)), (5, .ref (B + (3 + 3 * f))), (4, .int (iI x4)), (0, .ref B), (1, .int (iI fi)), (2, .int (iI n)), (3, .int (iI d))] [.int (iI x55), .int (iI (a 0)), .int (iI n), .int (iI fi), .ref (B + (22 + (p % 120)))] Y (cI I B X) (cL L B X) 0 0 := by
    intro x55 hx55
    refine r_lload C 0 dX4_accept_55 rfl ?_
    have hdv : x55 = if d = 0 then -6 else a 0 + d := by
      split <;> omega
    refine cV5_EV C (k_X1_begin (p % 120) hS m120) cw_X4_132 (rm_ok rfl rfl (Nat.zero_le _) (Nat.zero_le _)) (Nat.le_of_ble_eq_true rfl) (hS.2.2.2.1 (p % 120) m120).1 dX4_accept_57 (fun I57 L57 h57 => ?_)
    obtain ⟨h57I, h57L⟩ := h57
    obtain ⟨a57, ea57⟩ : ∃ z, z = pBg X (p % 120) fi n ((a 0)) x55 y23 := ⟨_, rfl⟩
    rw [← ea57] at h57I h57L
    subst h57I
    subst h57L
    refine r_aload C 1 dX4_accept_60 rfl ?_
    refine r_lload C 0 dX4_accept_62 rfl ?_
    refine r_aload C 1 dX4_accept_64 rfl ?_
    refine r_iload_n C 5 dX4_accept_66 rfl rfl ?_
    refine cV1_PL C (k_X0_share f hS hf6 (by omega) (show 1 ≤ a57 (17 + 18 * f + 0) ∧ a57 (17 + 18 * f + 0) ≤ 16 by rw [show a57 (17 + 18 * f + 0) = (a (17 + 18 * f + 0)) from (by rw [ea57, pBg_n (by omega)]; exact (hR.f hf2 (fk_y (by decide) (by decide))))]; omega)) cw_X4_111 (rm_ok rfl rfl (Nat.zero_le _) (Nat.zero_le _)) (Nat.le_of_ble_eq_true rfl) (hS.2.2.1 f (by omega)).1 dX4_accept_67 ?_
    refine n_eql (y := (n * 720720 / (a (17 + 18 * f + 0)))) (by rw [show a57 (17 + 18 * f + 0) = (a (17 + 18 * f + 0)) from (by rw [ea57, pBg_n (by omega)]; exact (hR.f hf2 (fk_y (by decide) (by decide))))]) ?_
    refine n_ladd C dX4_accept_70 ?_
    refine c_putL C (3 + 3 * f) ((17 + 18 * f + 12)) rfl (oF (by omega)) (lnFy (by omega) (by decide)) (ky_F (by omega) 10) fl_X4_98 rfl dX4_accept_71 (hS.2.2.1 f (by omega)).1 (fun a71 ea71 => ?_)
    refine r_aload C 1 dX4_accept_74 rfl ?_
    refine r_dup C dX4_accept_76 rfl ?_
    refine c_getL C (v := (a (17 + 18 * f + 14))) (3 + 3 * f) ((17 + 18 * f + 14)) rfl (oF (by omega)) (lnFy (by omega) (by decide)) (ky_F (by omega) 12) fl_X4_135 rfl dX4_accept_77 (hS.2.2.1 f (by omega)).1 (by rw [ea71, up1_n (xSS (by decide)), ea57, pBg_n (by omega)]; exact (hR.f hf2 (fk_t (by decide)))) ?_
    refine r_iload_n C 5 dX4_accept_80 rfl rfl ?_
    refine n_i2l C dX4_accept_81 (by constructor <;> omega) ?_
    refine n_ldc2 (v := 720720) C lc_X4_138 (by decide) dX4_accept_82 ?_
    refine n_lmul C dX4_accept_85 ?_
    refine n_ladd C dX4_accept_86 ?_
    refine c_putL C (3 + 3 * f) ((17 + 18 * f + 14)) rfl (oF (by omega)) (lnFy (by omega) (by decide)) (ky_F (by omega) 12) fl_X4_135 rfl dX4_accept_87 (hS.2.2.1 f (by omega)).1 (fun a87 ea87 => ?_)
    refine r_aload C 1 dX4_accept_90 rfl ?_
    refine r_dup C dX4_accept_92 rfl ?_
    refine c_getI C (v := (a (17 + 18 * f + 11))) (3 + 3 * f) ((17 + 18 * f + 11)) rfl (oF (by omega)) (lnF (by omega) (by decide)) (ky_F (by omega) 9) fl_X4_140 rfl dX4_accept_93 (hS.2.2.1 f (by omega)).1 (by rw [ea87, up1_n (xSS (by decide)), ea71, up1_n (xSS (by decide)), ea57, pBg_n (by omega)]; exact (hR.f hf2 (fk_y (by decide) (by decide)))) ?_
    refine r_iconst (v := iI 1) C dX4_accept_96 rfl ?_
    refine n_iadd C dX4_accept_97 ?_
    refine c_putI C (3 + 3 * f) ((17 + 18 * f + 11)) rfl (oF (by omega)) (lnF (by omega) (by decide)) (ky_F (by omega) 9) fl_X4_140 rfl dX4_accept_98 (hS.2.2.1 f (by omega)).1 (fun a98 ea98 => ?_)
    refine r_aload C 1 dX4_accept_101 rfl ?_
    refine r_iload C 2 dX4_accept_103 rfl ?_
    refine cV1_EV C (k_X0_joinQueue f qn hS hf6 (show a98 (17 + 18 * f + 17) = (qn : Int) by rw [show a98 (17 + 18 * f + 17) = (a (17 + 18 * f + 17)) from (by rw [ea98, up1_n (xSS (by decide)), ea87, up1_n (xSS (by decide)), ea71, up1_n (xSS (by decide)), ea57, pBg_n (by omega)]; exact (hR.f hf2 (fk_y (by decide) (by decide))))]; exact hq17) (by omega)) cw_X4_143 (rm_ok rfl rfl (Nat.zero_le _) (Nat.zero_le _)) (Nat.le_of_ble_eq_true rfl) (hS.2.2.1 f (by omega)).1 dX4_accept_105 (fun I105 L105 h105 => ?_)
    obtain ⟨h105I, h105L⟩ := h105
    obtain ⟨a105, ea105⟩ : ∃ z, z = jqX a98 f qn x4 := ⟨_, rfl⟩
    replace h105I : I105 = cI I B a105 := by rw [ea105]; exact h105I
    replace h105L : L105 = cL L B a105 := by rw [ea105]; exact h105L
    subst h105I
    subst h105L
    refine r_aload_n C 3 dX4_accept_108 rfl rfl ?_
    refine r_dup C dX4_accept_109 rfl ?_
    refine c_getI C (v := (a 7)) 0 7 rfl (by decide) (lnS (by decide)) rfl fl_X4_63 rfl dX4_accept_110 hS.1.1 (by rw [ea105, jqX_n (by omega), ea98, up1_n (xNF (by decide)), ea87, up1_n (xNF (by decide)), ea71, up1_n (xNF (by decide)), ea57, pBg_n (by omega)]; exact (hR.n 7 (by decide) (by decide))) ?_
    refine r_iconst (v := iI 1) C dX4_accept_113 rfl ?_
    refine n_iadd C dX4_accept_114 ?_
    refine c_putI C 0 7 rfl (by decide) (lnS (by decide)) rfl fl_X4_63 rfl dX4_accept_115 hS.1.1 (fun a115 ea115 => ?_)
    refine r_iload C 2 dX4_accept_118 rfl ?_
    refine r_iret C hr hlk dX4_accept_120 (Nat.zero_le _) (Nat.zero_le _) ?_
    have e : a115 = tkX X f p qn n (a 0) x55 (tkS a f) (a (17 + 18 * f + 14) + n * 720720) (a (17 + 18 * f + 11) + 1) (tkS a f + n * 720720 / a (17 + 18 * f + 0)) := by
      unfold tkX
      rw [ea115, ea105, ea98, ea87, ea71, ea57, hs, hf, ex4, hp]
    refine ⟨_, rfl, rfl, ex4, a115, ?_, fun k hk => ?_, rfl, rfl⟩
    · rw [e]
      exact Rl.tk hI hN hR hp hf2 hr1 hq17 (by omega) hdv
    · rw [e]
      exact tkX_n (by omega) (by omega)
  refine r_iload_n C 6 dX4_accept_40 rfl rfl ?_
  refine n_if_ne (tgt := 49) C dX4_accept_41 (by decide) (by constructor <;> omega) (fun c41 => ?_) (fun c41 => ?_)
  · refine r_aload_n C 3 dX4_accept_49 rfl rfl ?_
    refine c_getI C (v := (a 0)) 0 0 rfl (by decide) (lnS (by decide)) rfl fl_X4_129 rfl dX4_accept_50 hS.1.1 (hR.n 0 (by decide) (by decide)) ?_
    refine r_iload_n C 6 dX4_accept_53 rfl rfl ?_
    refine n_iadd C dX4_accept_54 ?_
    exact jn55 _ (Or.inl ⟨c41, rfl⟩)
  · refine r_bipush (v := iI (-6)) C dX4_accept_44 (by decide) ?_
    refine r_goto (tgt := 55) C dX4_accept_46 (by decide) ?_
    exact jn55 _ (Or.inr (⟨c41, rfl⟩))
set_option maxHeartbeats 4000000 in
set_option maxRecDepth 20000 in
theorem k_X0_begin {l : Launch} {G : Gd} {base : Nat} {Y : MY} {I : MI} {L : ML} {B : Nat} {X : Sa} (f : Nat) {w : Int} (hS : SLy base Y B) (hf : f < 6) : Ct l yX0_begin cX0_begin 2 (none) (rmz 1 40) G base [.ref (B + (3 + 3 * f)), .int (iI w)] Y (cI I B X) (cL L B X) (EV Y (fun I' L' => I' = cI I B (bgF X f w) ∧ L' = cL L B (bgF X f w))) := by
  refine Ct.of (own := RX0) (lo := [(0, .ref (B + (3 + 3 * f))), (1, .int (iI w))]) (by decide) rfl (Nat.le_of_ble_eq_true rfl) rfl ?_
  intro zp ze zs zm zargs zbl zmt zc C hr hlk hnm
  refine r_getsN C (j := 2) (by decide) (fun U h => h.2.2.1) dX0_begin_0 ?_
  refine r_iconst (v := iI 0) C dX0_begin_3 rfl ?_
  refine r_aload_n C 0 dX0_begin_4 rfl rfl ?_
  refine r_getR C fl_X0_13 rfl dX0_begin_5 (hS.2.2.1 f hf).1 (hS.2.2.1 f hf).2.2.2.2.1 ?_
  refine r_iconst (v := iI 0) C dX0_begin_8 rfl ?_
  refine r_aload_n C 0 dX0_begin_9 rfl rfl ?_
  refine r_getR C fl_X0_13 rfl dX0_begin_10 (hS.2.2.1 f hf).1 (hS.2.2.1 f hf).2.2.2.2.1 ?_
  refine r_alen C (by decide) dX0_begin_13 (hS.2.2.1 f hf).2.1 ?_
  refine c_copyT C (n := 5) (4 + 3 * f) rfl (oG hf) (fun k => lnG1 hf) (j := 2) (by decide) rfl wy_X0_25 dX0_begin_14 (hS.2.2.1 f hf).2.1 (Nat.le_of_ble_eq_true rfl) (Nat.le_of_ble_eq_true rfl) (fun a14 ea14 => ?_)
  refine r_aload_n C 0 dX0_begin_17 rfl rfl ?_
  refine r_getR C fl_X0_13 rfl dX0_begin_18 (hS.2.2.1 f hf).1 (hS.2.2.1 f hf).2.2.2.2.1 ?_
  refine r_iconst (v := iI 0) C dX0_begin_21 rfl ?_
  refine r_iload_n C 1 dX0_begin_22 rfl rfl ?_
  refine c_iast C (4 + 3 * f) 0 ((17 + 18 * f + 0)) rfl (oG hf) (lnG1 hf) (ky_G hf (by omega)) dX0_begin_23 (hS.2.2.1 f hf).2.1 ⟨rfl, by decide, by decide⟩ (fun a23 ea23 => ?_)
  refine r_aload_n C 0 dX0_begin_24 rfl rfl ?_
  refine r_iconst (v := iI 0) C dX0_begin_25 rfl ?_
  refine c_putI C (3 + 3 * f) ((17 + 18 * f + 17)) rfl (oF hf) (lnF hf (by decide)) (ky_F hf 2) fl_X0_31 rfl dX0_begin_26 (hS.2.2.1 f hf).1 (fun a26 ea26 => ?_)
  refine r_aload_n C 0 dX0_begin_29 rfl rfl ?_
  refine r_iconst (v := iI 0) C dX0_begin_30 rfl ?_
  refine c_putI C (3 + 3 * f) ((17 + 18 * f + 6)) rfl (oF hf) (lnF hf (by decide)) (ky_F hf 3) fl_X0_35 rfl dX0_begin_31 (hS.2.2.1 f hf).1 (fun a31 ea31 => ?_)
  refine r_aload_n C 0 dX0_begin_34 rfl rfl ?_
  refine r_iconst (v := iI 0) C dX0_begin_35 rfl ?_
  refine c_putI C (3 + 3 * f) ((17 + 18 * f + 7)) rfl (oF hf) (lnF hf (by decide)) (ky_F hf 4) fl_X0_38 rfl dX0_begin_36 (hS.2.2.1 f hf).1 (fun a36 ea36 => ?_)
  refine r_aload_n C 0 dX0_begin_39 rfl rfl ?_
  refine r_iconst (v := iI 0) C dX0_begin_40 rfl ?_
  refine c_putI C (3 + 3 * f) ((17 + 18 * f + 8)) rfl (oF hf) (lnF hf (by decide)) (ky_F hf 5) fl_X0_41 rfl dX0_begin_41 (hS.2.2.1 f hf).1 (fun a41 ea41 => ?_)
  refine r_aload_n C 0 dX0_begin_44 rfl rfl ?_
  refine r_iconst (v := iI 0) C dX0_begin_45 rfl ?_
  refine c_putI C (3 + 3 * f) ((17 + 18 * f + 5)) rfl (oF hf) (lnF hf (by decide)) (ky_F hf 6) fl_X0_44 rfl dX0_begin_46 (hS.2.2.1 f hf).1 (fun a46 ea46 => ?_)
  refine r_aload_n C 0 dX0_begin_49 rfl rfl ?_
  refine r_iconst (v := iI 0) C dX0_begin_50 rfl ?_
  refine c_putI C (3 + 3 * f) ((17 + 18 * f + 9)) rfl (oF hf) (lnF hf (by decide)) (ky_F hf 7) fl_X0_47 rfl dX0_begin_51 (hS.2.2.1 f hf).1 (fun a51 ea51 => ?_)
  refine r_aload_n C 0 dX0_begin_54 rfl rfl ?_
  refine r_iconst (v := iI 0) C dX0_begin_55 rfl ?_
  refine c_putI C (3 + 3 * f) ((17 + 18 * f + 10)) rfl (oF hf) (lnF hf (by decide)) (ky_F hf 8) fl_X0_50 rfl dX0_begin_56 (hS.2.2.1 f hf).1 (fun a56 ea56 => ?_)
  refine r_aload_n C 0 dX0_begin_59 rfl rfl ?_
  refine r_iconst (v := iI 0) C dX0_begin_60 rfl ?_
  refine c_putI C (3 + 3 * f) ((17 + 18 * f + 11)) rfl (oF hf) (lnF hf (by decide)) (ky_F hf 9) fl_X0_53 rfl dX0_begin_61 (hS.2.2.1 f hf).1 (fun a61 ea61 => ?_)
  refine r_aload_n C 0 dX0_begin_64 rfl rfl ?_
  refine r_lconst (v := lI 0) C dX0_begin_65 (by decide) ?_
  refine c_putL C (3 + 3 * f) ((17 + 18 * f + 12)) rfl (oF hf) (lnFy hf (by decide)) (ky_F hf 10) fl_X0_56 rfl dX0_begin_66 (hS.2.2.1 f hf).1 (fun a66 ea66 => ?_)
  refine r_aload_n C 0 dX0_begin_69 rfl rfl ?_
  refine r_lconst (v := lI 0) C dX0_begin_70 (by decide) ?_
  refine c_putL C (3 + 3 * f) ((17 + 18 * f + 13)) rfl (oF hf) (lnFy hf (by decide)) (ky_F hf 11) fl_X0_60 rfl dX0_begin_71 (hS.2.2.1 f hf).1 (fun a71 ea71 => ?_)
  refine r_aload_n C 0 dX0_begin_74 rfl rfl ?_
  refine r_lconst (v := lI 0) C dX0_begin_75 (by decide) ?_
  refine c_putL C (3 + 3 * f) ((17 + 18 * f + 14)) rfl (oF hf) (lnFy hf (by decide)) (ky_F hf 12) fl_X0_63 rfl dX0_begin_76 (hS.2.2.1 f hf).1 (fun a76 ea76 => ?_)
  refine r_aload_n C 0 dX0_begin_79 rfl rfl ?_
  refine r_lconst (v := lI 0) C dX0_begin_80 (by decide) ?_
  refine c_putL C (3 + 3 * f) ((17 + 18 * f + 15)) rfl (oF hf) (lnFy hf (by decide)) (ky_F hf 13) fl_X0_66 rfl dX0_begin_81 (hS.2.2.1 f hf).1 (fun a81 ea81 => ?_)
  refine r_aload_n C 0 dX0_begin_84 rfl rfl ?_
  refine r_lconst (v := lI 0) C dX0_begin_85 (by decide) ?_
  refine c_putL C (3 + 3 * f) ((17 + 18 * f + 16)) rfl (oF hf) (lnFy hf (by decide)) (ky_F hf 14) fl_X0_69 rfl dX0_begin_86 (hS.2.2.1 f hf).1 (fun a86 ea86 => ?_)
  refine r_vret C hr hlk dX0_begin_89 (Nat.zero_le _) (Nat.zero_le _) ?_
  have eX : a86 = bgF X f w := by
    unfold bgF
    rw [ea86, ea81, ea76, ea71, ea66, ea61, ea56, ea51, ea46, ea41, ea36, ea31, ea26, ea23, ea14]
  exact ⟨rfl, rfl, congrArg (cI I B) eX, congrArg (cL L B) eX⟩
