set_option maxHeartbeats 4000000 in
set_option maxRecDepth 20000 in
theorem k_X5_greatestDelayWith {l : Launch} {G : Gd} {base : Nat} {Y : MY} {I : MI} {L : ML} {B : Nat} {X : Sa} {a : Sa} {N T : Int} {F : Nat} {cp : Option Nat} {f v t : Int} (fn tn : Nat) (hS : SLy base Y B) (hI : Inv N T a) (hR : Rl true a X) (hF : FLn base Y F B) (hN : NowOK a) (hLg : LagOK a) (hPc : PcOK a) (hTT : T ≤ 1000000) (hC : Cpy base Y F B cp) (hfn : f = fn) (htn : t = tn) (hfn2 : (fn : Int) < a 2) (hv : 0 ≤ v ∧ v ≤ 1000) (ht : 1 ≤ t ∧ t ≤ 1000) : Ct l yX5_greatestDelayWith cX5_greatestDelayWith 8 (some .int) { frames := 10, cells := cst cp, slots := sst cp, locals := 400 } G base [.ref F, .int (iI f), .int (iI v), .int (iI t)] Y (cI I B X) (cL L B X) (fun v_ Y' I' L' => v_ = some (.int (iI (gdv (bsW a fn v tn)))) ∧ (∃ c, Grw base F cp Y (cI I B X) (cL L B X) Y' I' L' c) ∧ I' = cI I' B X ∧ L' = cL L' B X) := by
  refine Ct.of (own := RX5) (lo := [(0, .ref F), (1, .int (iI f)), (2, .int (iI v)), (3, .int (iI t))]) (by decide) rfl (Nat.le_of_ble_eq_true rfl) rfl ?_
  intro zp ze zs zm zargs zbl zmt zc C hr hlk hnm
  have hT := hI.1
  unfold TopOK at hT
  have hfn6 : fn < 6 := by omega
  have ho : old a = (a 7 - 120).toNat := rfl
  have hcc : 0 + cst cp ≤ cst cp := by omega
  have hss : 0 + sst cp ≤ sst cp := by omega
  have hOv : OK N T (up1 a (17 + 18 * fn + 2) v) := set_OK ⟨hI, hN, hLg⟩ hfn2 (k := 2) (v := v) (Or.inr (Or.inr (Or.inl ⟨rfl, hv.1, hv.2⟩)))
  refine r_aload_n C 0 dX5_greatestDelayWith_0 rfl rfl ?_
  refine cV0_G C (k_X5_freshCopy cp hI hR hN hPc hF hS hC) cw_X5_270 ⟨⟨Nat.le_of_ble_eq_true rfl, Nat.le_of_ble_eq_true rfl⟩, (by show 0 + cst cp ≤ cst cp; omega), (by show 0 + sst cp ≤ sst cp; omega)⟩ (Nat.le_of_ble_eq_true rfl) hF.1 dX5_greatestDelayWith_1 (fun v1 Y1 I1 L1 h1 => ?_)
  obtain ⟨c, X2, rfl, hR2, hG, jB, kB, jc, kc⟩ := h1
  have hSc := hG.1.2
  have hBc := hG.gt hC hS
  have hF_ := hG.f hC hS hF
  have hC_ := hG.c hC hS
  have hS_ := hG.s hC hS
  have hF := hF_
  have hS := hS_
  have hC := hC_
  refine r_astore (lo' := [(4, .ref c), (0, .ref F), (1, .int (iI f)), (2, .int (iI v)), (3, .int (iI t))]) C dX5_greatestDelayWith_4 (by decide) rfl ?_
  refine r_aload C 0 dX5_greatestDelayWith_6 rfl ?_
  refine r_getR C fl_X5_42 rfl dX5_greatestDelayWith_8 hSc.1.1 hSc.2.1.2.1 ?_
  refine r_iload_n C 2 dX5_greatestDelayWith_11 rfl rfl ?_
  refine r_aald C (by decide) (by decide) fn dX5_greatestDelayWith_12 hSc.1.2.2.1 ⟨congrArg iI (by omega), (by omega), by decide⟩ (hSc.2.2.1 fn hfn6).2.2.2.1 ?_
  refine r_getR C fl_X5_46 rfl dX5_greatestDelayWith_13 (hSc.2.2.1 fn hfn6).1 (hSc.2.2.1 fn hfn6).2.2.2.2.1 ?_
  refine r_iconst (v := iI 2) C dX5_greatestDelayWith_16 rfl ?_
  refine r_iload_n C 3 dX5_greatestDelayWith_17 rfl rfl ?_
  refine r_eqI jc ?_
  refine r_eqL kc ?_
  refine c_iast C (4 + 3 * fn) 2 ((17 + 18 * fn + 2)) rfl (oG hfn6) (lnG1 hfn6) (ky_G hfn6 (by omega)) dX5_greatestDelayWith_18 (hSc.2.2.1 fn hfn6).2.1 ⟨rfl, by decide, by decide⟩ (fun a18 ea18 => ?_)
  have hRv : Rl true (up1 a (17 + 18 * fn + 2) v) a18 := by
    rw [ea18]
    exact hR2.upF hfn6 (by decide) _
  refine r_iconst (v := iI 0) C dX5_greatestDelayWith_19 rfl ?_
  refine r_istore (lo' := [(5, .int (iI 0)), (4, .ref c), (0, .ref F), (1, .int (iI f)), (2, .int (iI v)), (3, .int (iI t))]) C dX5_greatestDelayWith_20 (by decide) rfl ?_
  have lp22 : ∀ (k : Nat) (x5 : Int) (i : Nat) (X3 : Sa) (hx5 : x5 = i) (hi : i ≤ tn) (hR3 : Rl false (tkN (up1 a (17 + 18 * fn + 2) v) i) X3), tn - i = k → Bd zp l ze { frames := 10, cells := cst cp, slots := sst cp, locals := 400 } zs zm zargs zbl zmt zc 8 G base (fun v_ Y' I' L' => v_ = some (.int (iI (gdv (bsW a fn v tn)))) ∧ (∃ c, Grw base F cp Y (cI I B X) (cL L B X) Y' I' L' c) ∧ I' = cI I' B X ∧ L' = cL L' B X) 22 [(5, .int (iI x5)), (4, .ref c), (0, .ref F), (1, .int (iI f)), (2, .int (iI v)), (3, .int (iI t))] [] Y1 (cI I1 c X3) (cL L1 c X3) (0 + cst cp) (0 + sst cp) := by
    intro k
    induction k using Nat.strongRecOn with
    | _ k ih22 =>
    intro x5 i X3 hx5 hi hR3 hk22
    have hk5 := tkN_ok hOv.1 hOv.2.1 hOv.2.2 i (by omega)
    refine r_iload C 0 dX5_greatestDelayWith_22 rfl ?_
    refine r_iload_n C 5 dX5_greatestDelayWith_24 rfl rfl ?_
    refine n_icmp_ge (tgt := 39) C dX5_greatestDelayWith_25 (by decide) (by constructor <;> omega) (by constructor <;> omega) (fun c25 => ?_) (fun c25 => ?_)
    · have hie : tn = i := by omega
      subst hie
      obtain ⟨J39, eJ39⟩ : ∃ J, J = cI I1 c X3 := ⟨_, rfl⟩
      obtain ⟨K39, eK39⟩ : ∃ K, K = cL L1 c X3 := ⟨_, rfl⟩
      have jB39 : J39 = cI J39 B X := by rw [eJ39]; exact cI_same jB (fun y y1 y2 => cI_out (by omega))
      have kB39 : K39 = cL K39 B X := by rw [eK39]; exact cL_same kB (fun y y1 y2 => cL_out (by omega))
      have jc39 : J39 = cI J39 c X3 := by rw [eJ39]; exact cI_idem
      have kc39 : K39 = cL K39 c X3 := by rw [eK39]; exact cL_idem
      refine r_eqI eJ39.symm ?_
      refine r_eqL eK39.symm ?_
      have e7 : (tkN (up1 a (17 + 18 * fn + 2) v) tn) 7 = a 7 := hk5.2.2.2.2.2.trans (up1_n (by omega))
      have hTk := hk5.1.1
      unfold TopOK at hTk
      refine r_iconst (v := iI 0) C dX5_greatestDelayWith_39 rfl ?_
      refine r_istore (lo' := [(5, .int (iI 0)), (4, .ref c), (0, .ref F), (1, .int (iI f)), (2, .int (iI v)), (3, .int (iI t))]) C dX5_greatestDelayWith_40 (by decide) rfl ?_
      refine r_aload_n C 2 dX5_greatestDelayWith_42 rfl rfl ?_
      refine r_getR C fl_X5_10 rfl dX5_greatestDelayWith_43 hF.1 hF.2 ?_
      refine r_eqI jB39 ?_
      refine r_eqL kB39 ?_
      refine cV0_PI C (k_X4_oldestPacket hS (show 0 ≤ X 7 ∧ X 7 ≤ 400000 by rw [show X 7 = (a 7) from (hR.n 7 (by decide) (by decide))]; omega)) cw_X5_248 (rm_ok rfl rfl hcc hss) (Nat.le_of_ble_eq_true rfl) hS.1.1 dX5_greatestDelayWith_46 ?_
      refine n_eqi (y := (old a : Int)) (by rw [old_eq (show X 7 = a 7 from (hR.n 7 (by decide) (by decide)))]) ?_
      refine r_eqI jB39.symm ?_
      refine r_eqL kB39.symm ?_
      refine n_topi (fun x49 ex49 => ?_)
      refine r_istore (lo' := [(6, .int (iI x49)), (5, .int (iI 0)), (4, .ref c), (0, .ref F), (1, .int (iI f)), (2, .int (iI v)), (3, .int (iI t))]) C dX5_greatestDelayWith_49 (by decide) rfl ?_
      have lp51 : ∀ (k : Nat) (x5 : Int) (x6 : Int) (p : Nat) (hx6 : x6 = p) (hp : old a ≤ p ∧ p ≤ (a 7).toNat) (hx5 : 0 ≤ x5 ∧ x5 ≤ 1002006) (he : wsO a (tkN (up1 a (17 + 18 * fn + 2) v) tn) ((a 7).toNat - p) p x5 = (bsW a fn v tn)), (a 7).toNat - p = k → Bd zp l ze { frames := 10, cells := cst cp, slots := sst cp, locals := 400 } zs zm zargs zbl zmt zc 8 G base (fun v_ Y' I' L' => v_ = some (.int (iI (gdv (bsW a fn v tn)))) ∧ (∃ c, Grw base F cp Y (cI I B X) (cL L B X) Y' I' L' c) ∧ I' = cI I' B X ∧ L' = cL L' B X) 51 [(6, .int (iI x6)), (5, .int (iI x5)), (4, .ref c), (0, .ref F), (1, .int (iI f)), (2, .int (iI v)), (3, .int (iI t))] [] Y1 J39 K39 (0 + cst cp) (0 + sst cp) := by
        intro k
        induction k using Nat.strongRecOn with
        | _ k ih51 =>
        intro x5 x6 p hx6 hp hx5 he hk51
        refine r_iload C 0 dX5_greatestDelayWith_51 rfl ?_
        refine r_aload_n C 3 dX5_greatestDelayWith_53 rfl rfl ?_
        refine r_getR C fl_X5_10 rfl dX5_greatestDelayWith_54 hF.1 hF.2 ?_
        refine r_eqI jB39 ?_
        refine r_eqL kB39 ?_
        refine c_getI C (v := (a 7)) 0 7 rfl (by decide) (lnS (by decide)) rfl fl_X5_216 rfl dX5_greatestDelayWith_57 hS.1.1 (hR.n 7 (by decide) (by decide)) ?_
        refine r_eqI jB39.symm ?_
        refine r_eqL kB39.symm ?_
        refine n_icmp_ge (tgt := 118) C dX5_greatestDelayWith_60 (by decide) (by constructor <;> omega) (by constructor <;> omega) (fun c60 => ?_) (fun c60 => ?_)
        · refine r_iload C 1 dX5_greatestDelayWith_118 rfl ?_
          refine r_iret C hr hlk dX5_greatestDelayWith_120 hcc hss ?_
          rw [show (a 7).toNat - p = 0 by omega] at he
          have he2 : x5 = (bsW a fn v tn) := he
          refine ⟨congrArg (fun z => some (Value.int (iI z))) (by unfold gdv; rw [← he2, if_neg (by omega)]), ⟨c, ?_⟩, jB39, kB39⟩
          rw [eJ39, eK39]
          exact hG.on (fun y hy => ⟨cI_out hy, cL_out hy⟩)
        · have hkp : old a ≤ p ∧ (p : Int) < a 7 := ⟨hp.1, by omega⟩
          have hkc : old (tkN (up1 a (17 + 18 * fn + 2) v) tn) ≤ p ∧ (p : Int) < (tkN (up1 a (17 + 18 * fn + 2) v) tn) 7 := by rw [old_eq e7, e7]; exact hkp
          have hP := hI.2.2.1 p hkp.1 hkp.2
          unfold PkOK at hP
          have hQ := hk5.1.2.2.1 p hkc.1 hkc.2
          unfold PkOK at hQ
          refine r_aload_n C 3 dX5_greatestDelayWith_63 rfl rfl ?_
          refine r_getR C fl_X5_10 rfl dX5_greatestDelayWith_64 hF.1 hF.2 ?_
          refine r_iload C 0 dX5_greatestDelayWith_67 rfl ?_
          refine r_eqI jB39 ?_
          refine r_eqL kB39 ?_
          refine cV1_PA C (k_X4_packetAt p hS (by omega) (by omega)) cw_X5_65 (rm_ok rfl rfl hcc hss) (Nat.le_of_ble_eq_true rfl) hS.1.1 dX5_greatestDelayWith_69 ?_
          refine r_eqI jB39.symm ?_
          refine r_eqL kB39.symm ?_
          refine r_eqI jB39 ?_
          refine r_eqL kB39 ?_
          refine cV0_PI C (k_X1_isQueued (p % 120) hS m120 (show 0 ≤ X (125 + 11 * (p % 120) + 4) ∧ X (125 + 11 * (p % 120) + 4) ≤ 4 by rw [show X (125 + 11 * (p % 120) + 4) = (a (125 + 11 * (p % 120) + 4)) from (hR.p hkp (by decide))]; omega)) cw_X5_105 (rm_ok rfl rfl hcc hss) (Nat.le_of_ble_eq_true rfl) (hS.2.2.2.1 (p % 120) m120).1 dX5_greatestDelayWith_72 ?_
          refine n_eqi (y := (b2 ((a (125 + 11 * (p % 120) + 4)) ≤ 1))) (by rw [show X (125 + 11 * (p % 120) + 4) = (a (125 + 11 * (p % 120) + 4)) from (hR.p hkp (by decide))]) ?_
          refine r_eqI jB39.symm ?_
          refine r_eqL kB39.symm ?_
          refine n_if_eq (tgt := 112) C dX5_greatestDelayWith_75 (by decide) b2_i (fun c75 => ?_) (fun c75 => ?_)
          · rw [b2_eq0] at c75
            refine n_iinc (lo' := [(6, .int (iI (x6 + 1))), (5, .int (iI x5)), (4, .ref c), (0, .ref F), (1, .int (iI f)), (2, .int (iI v)), (3, .int (iI t))]) C 0 dX5_greatestDelayWith_112 rfl rfl (by decide) rfl ?_
            refine r_goto (tgt := 51) C dX5_greatestDelayWith_115 (by decide) ?_
            exact ih51 _ (by first | omega | (rw [← hk51]; omega)) x5 ((x6 + 1)) (p + 1) (by omega) (by omega) hx5 (by rw [show (a 7).toNat - p = ((a 7).toNat - (p + 1)) + 1 by omega, wsO_s, if_neg c75] at he; exact he) rfl
          · rw [b2_eq0, Classical.not_not] at c75
            refine r_aload C 2 dX5_greatestDelayWith_78 rfl ?_
            refine r_iload C 0 dX5_greatestDelayWith_80 rfl ?_
            refine r_eqI jc39 ?_
            refine r_eqL kc39 ?_
            refine cV1_PA C (k_X4_packetAt p hSc (by omega) (by omega)) cw_X5_65 (rm_ok rfl rfl hcc hss) (Nat.le_of_ble_eq_true rfl) hSc.1.1 dX5_greatestDelayWith_82 ?_
            refine r_eqI jc39.symm ?_
            refine r_eqL kc39.symm ?_
            refine r_astore (lo' := [(7, .ref (c + (22 + (p % 120)))), (6, .int (iI x6)), (5, .int (iI x5)), (4, .ref c), (0, .ref F), (1, .int (iI f)), (2, .int (iI v)), (3, .int (iI t))]) C dX5_greatestDelayWith_85 (by decide) rfl ?_
            refine r_aload C 0 dX5_greatestDelayWith_87 rfl ?_
            refine r_eqI jc39 ?_
            refine r_eqL kc39 ?_
            refine c_getI C (v := ((tkN (up1 a (17 + 18 * fn + 2) v) tn) (125 + 11 * (p % 120) + 4))) (22 + (p % 120)) ((125 + 11 * (p % 120) + 4)) rfl (oP m120) (lnP m120 (by decide)) (ky_P m120 4) fl_X5_69 rfl dX5_greatestDelayWith_89 (hSc.2.2.2.1 (p % 120) m120).1 (hR3.p hkc (by decide)) ?_
            refine r_eqI jc39.symm ?_
            refine r_eqL kc39.symm ?_
            refine r_iconst (v := iI 3) C dX5_greatestDelayWith_92 rfl ?_
            refine n_icmp_eq (tgt := 100) C dX5_greatestDelayWith_93 (by decide) (by constructor <;> omega) ⟨by decide, by decide⟩ (fun c93 => ?_) (fun c93 => ?_)
            · have hdl : dly (tkN (up1 a (17 + 18 * fn + 2) v) tn) p = (tkN (up1 a (17 + 18 * fn + 2) v) tn) (125 + 11 * (p % 120) + 8) - (tkN (up1 a (17 + 18 * fn + 2) v) tn) (125 + 11 * (p % 120) + 2) := by
                unfold dly
                rw [if_pos c93]
              refine r_iload C 2 dX5_greatestDelayWith_100 rfl ?_
              refine r_aload C 0 dX5_greatestDelayWith_102 rfl ?_
              refine r_eqI jc39 ?_
              refine r_eqL kc39 ?_
              refine cV0_PI C (k_X1_delay (p % 120) hSc m120) cw_X5_314 (rm_ok rfl rfl hcc hss) (Nat.le_of_ble_eq_true rfl) (hSc.2.2.2.1 (p % 120) m120).1 dX5_greatestDelayWith_104 ?_
              refine n_eqi (y := (((tkN (up1 a (17 + 18 * fn + 2) v) tn) (125 + 11 * (p % 120) + 8)) - ((tkN (up1 a (17 + 18 * fn + 2) v) tn) (125 + 11 * (p % 120) + 2)))) (by rw [show X3 (125 + 11 * (p % 120) + 8) = ((tkN (up1 a (17 + 18 * fn + 2) v) tn) (125 + 11 * (p % 120) + 8)) from (hR3.p hkc (by decide)), show X3 (125 + 11 * (p % 120) + 2) = ((tkN (up1 a (17 + 18 * fn + 2) v) tn) (125 + 11 * (p % 120) + 2)) from (hR3.p hkc (by decide))]) ?_
              refine r_eqI jc39.symm ?_
              refine r_eqL kc39.symm ?_
              refine cS2_PI C (k_J9_max_7cf53 (by constructor <;> omega) (by constructor <;> omega)) cw_X5_317 (rm_ok rfl rfl hcc hss) (Nat.le_of_ble_eq_true rfl) dX5_greatestDelayWith_107 ?_
              refine n_topi (fun y107 ey107 => ?_)
              have ky107 : (x5 < (((tkN (up1 a (17 + 18 * fn + 2) v) tn) (125 + 11 * (p % 120) + 8)) - ((tkN (up1 a (17 + 18 * fn + 2) v) tn) (125 + 11 * (p % 120) + 2))) ∧ y107 = (((tkN (up1 a (17 + 18 * fn + 2) v) tn) (125 + 11 * (p % 120) + 8)) - ((tkN (up1 a (17 + 18 * fn + 2) v) tn) (125 + 11 * (p % 120) + 2)))) ∨ ((((tkN (up1 a (17 + 18 * fn + 2) v) tn) (125 + 11 * (p % 120) + 8)) - ((tkN (up1 a (17 + 18 * fn + 2) v) tn) (125 + 11 * (p % 120) + 2))) ≤ x5 ∧ y107 = x5) := by rw [ey107]; split <;> omega
              refine r_istore (lo' := [(5, .int (iI y107)), (7, .ref (c + (22 + (p % 120)))), (6, .int (iI x6)), (4, .ref c), (0, .ref F), (1, .int (iI f)), (2, .int (iI v)), (3, .int (iI t))]) C dX5_greatestDelayWith_110 (by decide) rfl ?_
              refine n_iinc (lo' := [(6, .int (iI (x6 + 1))), (5, .int (iI y107)), (7, .ref (c + (22 + (p % 120)))), (4, .ref c), (0, .ref F), (1, .int (iI f)), (2, .int (iI v)), (3, .int (iI t))]) C 2 dX5_greatestDelayWith_112 rfl rfl (by decide) rfl ?_
              refine r_goto (tgt := 51) C dX5_greatestDelayWith_115 (by decide) ?_
              refine r_lo [0, 1, 3, 4, 5, 6, 7] rfl ?_
              exact ih51 _ (by first | omega | (rw [← hk51]; omega)) y107 ((x6 + 1)) (p + 1) (by omega) (by omega) (by omega) (by rw [show (a 7).toNat - p = ((a 7).toNat - (p + 1)) + 1 by omega, wsO_s, if_pos c75, hdl] at he; rw [← he, ey107]) rfl
            · refine n_ldcw (v := 2147483647) C lc_X5_285 (by decide) dX5_greatestDelayWith_96 ?_
              refine r_iret C hr hlk dX5_greatestDelayWith_99 hcc hss ?_
              have hdl : dly (tkN (up1 a (17 + 18 * fn + 2) v) tn) p = 1000000000 := by
                unfold dly
                rw [if_neg c93]
              rw [show (a 7).toNat - p = ((a 7).toNat - (p + 1)) + 1 by omega, wsO_s, if_pos c75, hdl, if_pos (by omega)] at he
              have hge := wsO_ge (a := a) (c := (tkN (up1 a (17 + 18 * fn + 2) v) tn)) ((a 7).toNat - (p + 1)) (p + 1) 1000000000
              rw [he] at hge
              refine ⟨congrArg (fun z => some (Value.int (iI z))) (by unfold gdv; rw [if_pos hge]), ⟨c, ?_⟩, jB39, kB39⟩
              rw [eJ39, eK39]
              exact hG.on (fun y hy => ⟨cI_out hy, cL_out hy⟩)
      exact lp51 _ 0 x49 (old a) (by omega) (by omega) (by omega) (by unfold bsW wst; rfl) rfl
    · refine r_aload C 1 dX5_greatestDelayWith_28 rfl ?_
      refine cV0_EV C (k_X4_makeDeliveryTick hSc hk5.1 hR3 hk5.2.1 (by omega)) cw_X5_311 (rm_ok rfl rfl hcc hss) (Nat.le_of_ble_eq_true rfl) hSc.1.1 dX5_greatestDelayWith_30 (fun I30 L30 h30 => ?_)
      obtain ⟨X30, h30R, h30z, h30I, h30L⟩ := h30
      subst h30I
      subst h30L
      refine n_iinc (lo' := [(5, .int (iI (x5 + 1))), (4, .ref c), (0, .ref F), (1, .int (iI f)), (2, .int (iI v)), (3, .int (iI t))]) C 0 dX5_greatestDelayWith_33 rfl rfl (by decide) rfl ?_
      refine r_goto (tgt := 22) C dX5_greatestDelayWith_36 (by decide) ?_
      exact ih22 _ (by first | omega | (rw [← hk22]; omega)) ((x5 + 1)) (i + 1) X30 (by omega) (by omega) h30R rfl
  exact lp22 _ 0 0 a18 rfl (Nat.zero_le _) hRv.ff rfl
