set_option maxHeartbeats 4000000 in
set_option maxRecDepth 20000 in
theorem k_X6_flowOn {l : Launch} {G : Gd} {base : Nat} {Y : MY} {I : MI} {L : ML} {M : Nat} {a : Sa} {N T : Int} (hI : Inv N T a) (hM : MLy base Y M)  : Ct l yX6_flowOn cX6_flowOn 6 (none) (rmz 2 43) G base [.ref M] Y I (rL L (M + 1) a) (EV Y (fun I' L' => I' = I ∧ L' = rL L (M + 1) (flo a))) := by
  refine Ct.of (own := RX6) (lo := [(0, .ref M)]) (by decide) rfl (Nat.le_of_ble_eq_true rfl) rfl ?_
  intro zp ze zs zm zargs zbl zmt zc C hr hlk hnm
  have hT := hI.1
  unfold TopOK at hT
  have hW := wts hI
  obtain ⟨n, hn⟩ := Int.eq_ofNat_of_zero_le (show 0 ≤ a 2 by omega)
  refine r_lconst (v := lI 0) C dX6_flowOn_0 (by decide) ?_
  refine r_lstore_n (lo' := [(1, .long (lI 0)), (0, .ref M)]) C dX6_flowOn_1 rfl (by decide) rfl ?_
  refine r_iconst (v := iI 0) C dX6_flowOn_2 rfl ?_
  refine r_istore_n (lo' := [(3, .int (iI 0)), (1, .long (lI 0)), (0, .ref M)]) C dX6_flowOn_3 rfl (by decide) rfl ?_
  have lp4 : ∀ (k : Nat) (x1 : Int) (y3 : Int) (i1 : Nat) (hy3 : y3 = i1) (hi1 : (i1 : Int) ≤ a 2) (hx1 : x1 = fsW a i1), n - i1 = k → Bd zp l ze (rmz 2 43) zs zm zargs zbl zmt zc 6 G base (EV Y (fun I' L' => I' = I ∧ L' = rL L (M + 1) (flo a))) 4 [(3, .int (iI y3)), (1, .long (lI x1)), (0, .ref M)] [] Y I (rL L (M + 1) a) 0 0 := by
    intro k
    induction k using Nat.strongRecOn with
    | _ k ih =>
    intro x1 y3 i1 hy3 hi1 hx1 hk
    have hbx := fsW_b hW i1 hi1
    refine r_iload_n C 0 dX6_flowOn_4 rfl rfl ?_
    refine n_i2l C dX6_flowOn_5 (by constructor <;> omega) ?_
    refine r_aload_n C 2 dX6_flowOn_6 rfl rfl ?_
    refine r_getR C fl_X6_7 rfl dX6_flowOn_7 hM.1.1 hM.2.1 ?_
    refine r_iconst (v := iI 2) C dX6_flowOn_10 rfl ?_
    refine a_lald C (v := (a 2)) 2 dX6_flowOn_11 hM.1.2.1 ⟨rfl, by decide, by decide⟩ rfl ?_
    refine n_lcmp_ge (tgt := 47) C dX6_flowOn_12 dX6_flowOn_13 rfl rfl (by decide) (by constructor <;> omega) (by constructor <;> omega) (fun c12 => ?_) (fun c12 => ?_)
    · have hX : x1 = fsW a n := by rw [hx1, show i1 = n by omega]
      refine r_iconst (v := iI 0) C dX6_flowOn_47 rfl ?_
      refine r_istore_n (lo' := [(3, .int (iI 0)), (1, .long (lI x1)), (0, .ref M)]) C dX6_flowOn_48 rfl (by decide) rfl ?_
      have lp49 : ∀ (k : Nat) (x3 : Int) (i : Nat) (a1 : Sa) (hx3 : x3 = i) (hi : (i : Int) ≤ a 2) (ha1 : a1 = flA a x1 i), n - i = k → Bd zp l ze (rmz 2 43) zs zm zargs zbl zmt zc 6 G base (EV Y (fun I' L' => I' = I ∧ L' = rL L (M + 1) (flo a))) 49 [(3, .int (iI x3)), (1, .long (lI x1)), (0, .ref M)] [] Y I (rL L (M + 1) a1) 0 0 := by
        intro k
        induction k using Nat.strongRecOn with
        | _ k ih =>
        intro x3 i a1 hx3 hi ha1 hk
        have h2 : a1 2 = a 2 := by rw [ha1]; exact flA_n i (fun g _ => by omega)
        refine r_iload_n C 0 dX6_flowOn_49 rfl rfl ?_
        refine n_i2l C dX6_flowOn_50 (by constructor <;> omega) ?_
        refine r_aload_n C 2 dX6_flowOn_51 rfl rfl ?_
        refine r_getR C fl_X6_7 rfl dX6_flowOn_52 hM.1.1 hM.2.1 ?_
        refine r_iconst (v := iI 2) C dX6_flowOn_55 rfl ?_
        refine a_lald C (v := (a1 2)) 2 dX6_flowOn_56 hM.1.2.1 ⟨rfl, by decide, by decide⟩ rfl ?_
        refine n_lcmp_ge (tgt := 152) C dX6_flowOn_57 dX6_flowOn_58 rfl rfl (by decide) (by constructor <;> omega) (by constructor <;> omega) (fun c57 => ?_) (fun c57 => ?_)
        · refine r_vret C hr hlk dX6_flowOn_152 (Nat.zero_le _) (Nat.zero_le _) ?_
          have hin : i = n := by omega
          subst hin
          exact ⟨rfl, rfl, rfl, by rw [ha1, hX]; unfold flo; rw [show (a 2).toNat = i by omega]⟩
        · have hi6 : i < 6 := by omega
          have hF := (hI.2.1 i (by omega)).1
          unfold FlowOK at hF
          have e14 : a1 (17 + 18 * i + 14) = a (17 + 18 * i + 14) := by rw [ha1]; exact flA_n i (fun g hg => by omega)
          have e0 : a1 (17 + 18 * i + 0) = a (17 + 18 * i + 0) := by rw [ha1]; exact flA_n i (fun g hg => by omega)
          refine r_aload_n C 2 dX6_flowOn_61 rfl rfl ?_
          refine r_iload_n C 0 dX6_flowOn_62 rfl rfl ?_
          refine r_bipush (v := iI 14) C dX6_flowOn_63 (by decide) ?_
          refine cV2_PL C (k_X6_ofFlow i 14 hM (by omega) (by omega) (by omega)) cw_X6_53 (rm_ok rfl rfl (Nat.zero_le _) (Nat.zero_le _)) (Nat.le_of_ble_eq_true rfl) hM.1.1 dX6_flowOn_65 ?_
          refine r_lconst (v := lI 0) C dX6_flowOn_68 (by decide) ?_
          refine n_lcmp_le (tgt := 146) C dX6_flowOn_69 dX6_flowOn_70 rfl rfl (by decide) (by constructor <;> omega) ⟨by decide, by decide⟩ (fun c69 => ?_) (fun c69 => ?_)
          · refine n_iinc (lo' := [(3, .int (iI (x3 + 1))), (1, .long (lI x1)), (0, .ref M)]) C 0 dX6_flowOn_146 rfl rfl (by decide) rfl ?_
            refine r_goto (tgt := 49) C dX6_flowOn_149 (by decide) ?_
            exact ih _ (by first | omega | (rw [← hk]; omega)) ((x3 + 1)) (i + 1) a1 (by omega) (by omega) (by show _ = fl1 (flA a x1 i) i x1; rw [← ha1]; unfold fl1; rw [if_neg (by omega)]) rfl
          · have hw : a (17 + 18 * i + 0) ≤ x1 := by
              rw [hX]
              exact fsW_w hW n (by omega) i (by omega) (by omega)
            refine n_ldc2 (v := 720720) C lc_X6_81 (by decide) dX6_flowOn_73 ?_
            refine r_aload_n C 2 dX6_flowOn_76 rfl rfl ?_
            refine r_iload_n C 0 dX6_flowOn_77 rfl rfl ?_
            refine r_iconst (v := iI 0) C dX6_flowOn_78 rfl ?_
            refine cV2_PL C (k_X6_ofFlow i 0 hM (by omega) (by omega) (by omega)) cw_X6_53 (rm_ok rfl rfl (Nat.zero_le _) (Nat.zero_le _)) (Nat.le_of_ble_eq_true rfl) hM.1.1 dX6_flowOn_79 ?_
            refine n_lmul C dX6_flowOn_82 ?_
            refine r_lload_n C 1 dX6_flowOn_83 rfl rfl ?_
            refine n_ldiv C dX6_flowOn_84 (by omega) (by omega) ?_
            refine n_topl (fun y85 ey85 => ?_)
            refine r_lstore (lo' := [(4, .long (lI y85)), (3, .int (iI x3)), (1, .long (lI x1)), (0, .ref M)]) C dX6_flowOn_85 (by decide) rfl ?_
            have hy85 : 0 ≤ y85 ∧ y85 ≤ 720720 * 16 := by
              rw [ey85]
              constructor
              · exact Int.ediv_nonneg (by omega) (by omega)
              · have := Int.ediv_le_self x1 (show 0 ≤ 720720 * a1 (17 + 18 * i + 0) by omega)
                omega
            have jn112 : ∀ x112 : Int, ((a1 (17 + 18 * i + 14)) ≤ y85 ∧ x112 = (a1 (17 + 18 * i + 14))) ∨ (y85 < (a1 (17 + 18 * i + 14)) ∧ x112 = y85) → Bd zp l ze (rmz 2 43) zs zm zargs zbl zmt zc 6 G base (EV Y (fun I' L' => I' = I ∧ L' = rL L (M + 1) (flo a))) 112 [(4, .long (lI y85)), (3, .int (iI x3)), (1, .long (lI x1)), (0, .ref M)] [.long (lI x112)] Y I (rL L (M + 1) a1) 0 0 := by
              intro x112 hx112
              have hz : x112 = flQ a1 i x1 := by
                unfold flQ
                rw [← ey85]
                split <;> omega
              refine r_lstore (lo' := [(4, .long (lI x112)), (3, .int (iI x3)), (1, .long (lI x1)), (0, .ref M)]) C dX6_flowOn_112 (by decide) rfl ?_
              refine r_aload_n C 3 dX6_flowOn_114 rfl rfl ?_
              refine r_getR C fl_X6_7 rfl dX6_flowOn_115 hM.1.1 hM.2.1 ?_
              refine r_iload_n C 1 dX6_flowOn_118 rfl rfl ?_
              refine r_bipush (v := iI 14) C dX6_flowOn_119 (by decide) ?_
              refine cS2_PI C (k_X6_flowAt ) cw_X6_40 (rm_ok rfl rfl (Nat.zero_le _) (Nat.zero_le _)) (Nat.le_of_ble_eq_true rfl) dX6_flowOn_121 ?_
              refine r_dup2 C dX6_flowOn_124 rfl rfl ?_
              refine a_lald C (v := (a1 (17 + 18 * i + 14))) ((17 + 18 * i + 14)) dX6_flowOn_125 hM.1.2.1 ⟨congrArg iI (by omega), (by omega), by decide⟩ rfl ?_
              refine r_lload C 0 dX6_flowOn_126 rfl ?_
              refine n_lsub C dX6_flowOn_128 ?_
              refine a_last C ((17 + 18 * i + 14)) dX6_flowOn_129 hM.1.2.1 ⟨congrArg iI (by omega), (by omega), by decide⟩ (fun a129 ea129 => ?_)
              refine r_aload_n C 3 dX6_flowOn_130 rfl rfl ?_
              refine r_getR C fl_X6_7 rfl dX6_flowOn_131 hM.1.1 hM.2.1 ?_
              refine r_iload_n C 1 dX6_flowOn_134 rfl rfl ?_
              refine r_bipush (v := iI 15) C dX6_flowOn_135 (by decide) ?_
              refine cS2_PI C (k_X6_flowAt ) cw_X6_40 (rm_ok rfl rfl (Nat.zero_le _) (Nat.zero_le _)) (Nat.le_of_ble_eq_true rfl) dX6_flowOn_137 ?_
              refine r_dup2 C dX6_flowOn_140 rfl rfl ?_
              refine a_lald C (v := (a1 (17 + 18 * i + 15))) ((17 + 18 * i + 15)) dX6_flowOn_141 hM.1.2.1 ⟨congrArg iI (by omega), (by omega), by decide⟩ (by rw [ea129, up1_n (xSS (by decide))]) ?_
              refine r_lload C 0 dX6_flowOn_142 rfl ?_
              refine n_ladd C dX6_flowOn_144 ?_
              refine a_last C ((17 + 18 * i + 15)) dX6_flowOn_145 hM.1.2.1 ⟨congrArg iI (by omega), (by omega), by decide⟩ (fun a145 ea145 => ?_)
              refine n_iinc (lo' := [(3, .int (iI (x3 + 1))), (4, .long (lI x112)), (1, .long (lI x1)), (0, .ref M)]) C 1 dX6_flowOn_146 rfl rfl (by decide) rfl ?_
              refine r_goto (tgt := 49) C dX6_flowOn_149 (by decide) ?_
              refine r_lo [0, 2, 3] rfl ?_
              exact ih _ (by first | omega | (rw [← hk]; omega)) ((x3 + 1)) (i + 1) a145 (by omega) (by omega) (by rw [ea145, ea129, hz]; show _ = fl1 (flA a x1 i) i x1; rw [← ha1]; unfold fl1; rw [if_pos c69]) rfl
            have hy85 : 0 ≤ y85 ∧ y85 ≤ 720720 * 16 := by
              rw [ey85]
              constructor
              · exact Int.ediv_nonneg (by omega) (by omega)
              · have := Int.ediv_le_self x1 (show 0 ≤ 720720 * a1 (17 + 18 * i + 0) by omega)
                omega
            refine r_lload C 0 dX6_flowOn_87 rfl ?_
            refine r_aload_n C 3 dX6_flowOn_89 rfl rfl ?_
            refine r_iload_n C 1 dX6_flowOn_90 rfl rfl ?_
            refine r_bipush (v := iI 14) C dX6_flowOn_91 (by decide) ?_
            refine cV2_PL C (k_X6_ofFlow i 14 hM (by omega) (by omega) (by omega)) cw_X6_53 (rm_ok rfl rfl (Nat.zero_le _) (Nat.zero_le _)) (Nat.le_of_ble_eq_true rfl) hM.1.1 dX6_flowOn_93 ?_
            refine n_lcmp_ge (tgt := 105) C dX6_flowOn_96 dX6_flowOn_97 rfl rfl (by decide) (by constructor <;> omega) (by constructor <;> omega) (fun c96 => ?_) (fun c96 => ?_)
            · refine r_aload_n C 3 dX6_flowOn_105 rfl rfl ?_
              refine r_iload_n C 1 dX6_flowOn_106 rfl rfl ?_
              refine r_bipush (v := iI 14) C dX6_flowOn_107 (by decide) ?_
              refine cV2_PL C (k_X6_ofFlow i 14 hM (by omega) (by omega) (by omega)) cw_X6_53 (rm_ok rfl rfl (Nat.zero_le _) (Nat.zero_le _)) (Nat.le_of_ble_eq_true rfl) hM.1.1 dX6_flowOn_109 ?_
              exact jn112 _ (Or.inl ⟨c96, rfl⟩)
            · refine r_lload C 0 dX6_flowOn_100 rfl ?_
              refine r_goto (tgt := 112) C dX6_flowOn_102 (by decide) ?_
              exact jn112 _ (Or.inr (⟨c96, rfl⟩))
      exact lp49 _ 0 0 a rfl (by omega) rfl rfl
    · have hF := (hI.2.1 i1 (by omega)).1
      unfold FlowOK at hF
      refine r_lload_n C 1 dX6_flowOn_16 rfl rfl ?_
      have jn39 : ∀ x39 : Int, ((a (17 + 18 * i1 + 14)) ≤ 0 ∧ x39 = 0) ∨ (0 < (a (17 + 18 * i1 + 14)) ∧ x39 = (a (17 + 18 * i1 + 0))) → Bd zp l ze (rmz 2 43) zs zm zargs zbl zmt zc 6 G base (EV Y (fun I' L' => I' = I ∧ L' = rL L (M + 1) (flo a))) 39 [(3, .int (iI y3)), (1, .long (lI x1)), (0, .ref M)] [.long (lI x39), .long (lI x1)] Y I (rL L (M + 1) a) 0 0 := by
        intro x39 hx39
        refine n_ladd C dX6_flowOn_39 ?_
        refine n_topl (fun x40 ex40 => ?_)
        refine r_lstore_n (lo' := [(1, .long (lI x40)), (3, .int (iI y3)), (0, .ref M)]) C dX6_flowOn_40 rfl (by decide) rfl ?_
        refine n_iinc (lo' := [(3, .int (iI (y3 + 1))), (1, .long (lI x40)), (0, .ref M)]) C 1 dX6_flowOn_41 rfl rfl (by decide) rfl ?_
        refine r_goto (tgt := 4) C dX6_flowOn_44 (by decide) ?_
        exact ih _ (by first | omega | (rw [← hk]; omega)) x40 ((y3 + 1)) (i1 + 1) (by omega) (by omega) (by rw [ex40]; show _ = fsW a i1 + (if 0 < a (17 + 18 * i1 + 14) then a (17 + 18 * i1 + 0) else 0); split <;> omega) rfl
      refine r_aload_n C 2 dX6_flowOn_17 rfl rfl ?_
      refine r_iload_n C 0 dX6_flowOn_18 rfl rfl ?_
      refine r_bipush (v := iI 14) C dX6_flowOn_19 (by decide) ?_
      refine cV2_PL C (k_X6_ofFlow i1 14 hM (by omega) (by omega) (by omega)) cw_X6_53 (rm_ok rfl rfl (Nat.zero_le _) (Nat.zero_le _)) (Nat.le_of_ble_eq_true rfl) hM.1.1 dX6_flowOn_21 ?_
      refine r_lconst (v := lI 0) C dX6_flowOn_24 (by decide) ?_
      refine n_lcmp_le (tgt := 38) C dX6_flowOn_25 dX6_flowOn_26 rfl rfl (by decide) (by constructor <;> omega) ⟨by decide, by decide⟩ (fun c25 => ?_) (fun c25 => ?_)
      · refine r_lconst (v := lI 0) C dX6_flowOn_38 (by decide) ?_
        exact jn39 _ (Or.inl ⟨c25, rfl⟩)
      · refine r_aload_n C 2 dX6_flowOn_29 rfl rfl ?_
        refine r_iload_n C 0 dX6_flowOn_30 rfl rfl ?_
        refine r_iconst (v := iI 0) C dX6_flowOn_31 rfl ?_
        refine cV2_PL C (k_X6_ofFlow i1 0 hM (by omega) (by omega) (by omega)) cw_X6_53 (rm_ok rfl rfl (Nat.zero_le _) (Nat.zero_le _)) (Nat.le_of_ble_eq_true rfl) hM.1.1 dX6_flowOn_32 ?_
        refine r_goto (tgt := 39) C dX6_flowOn_35 (by decide) ?_
        exact jn39 _ (Or.inr (⟨c25, rfl⟩))
  exact lp4 _ 0 0 0 rfl (by omega) rfl rfl
set_option maxHeartbeats 4000000 in
set_option maxRecDepth 20000 in
theorem k_X6_lagOf {l : Launch} {G : Gd} {base : Nat} {Y : MY} {I : MI} {L : ML} {M : Nat} {a : Sa} {fi : Int} (f : Nat) (hM : MLy base Y M) (hf : fi = f) (hf6 : f < 6) : Ct l yX6_lagOf cX6_lagOf 2 (some .long) (rmz 2 43) G base [.ref M, .int (iI fi)] Y I (rL L (M + 1) a) (PL (lag a f) Y I (rL L (M + 1) a)) := by
  refine Ct.of (own := RX6) (lo := [(0, .ref M), (1, .int (iI fi))]) (by decide) rfl (Nat.le_of_ble_eq_true rfl) rfl ?_
  intro zp ze zs zm zargs zbl zmt zc C hr hlk hnm
  refine r_aload_n C 0 dX6_lagOf_0 rfl rfl ?_
  refine r_iload_n C 1 dX6_lagOf_1 rfl rfl ?_
  refine r_bipush (v := iI 15) C dX6_lagOf_2 (by decide) ?_
  refine cV2_PL C (k_X6_ofFlow f 15 hM (by omega) (by omega) (by omega)) cw_X6_53 (rm_ok rfl rfl (Nat.zero_le _) (Nat.zero_le _)) (Nat.le_of_ble_eq_true rfl) hM.1.1 dX6_lagOf_4 ?_
  refine n_ldc2 (v := 720720) C lc_X6_81 (by decide) dX6_lagOf_7 ?_
  refine r_aload_n C 0 dX6_lagOf_10 rfl rfl ?_
  refine r_iload_n C 1 dX6_lagOf_11 rfl rfl ?_
  refine r_bipush (v := iI 6) C dX6_lagOf_12 (by decide) ?_
  refine cV2_PL C (k_X6_ofFlow f 6 hM (by omega) (by omega) (by omega)) cw_X6_53 (rm_ok rfl rfl (Nat.zero_le _) (Nat.zero_le _)) (Nat.le_of_ble_eq_true rfl) hM.1.1 dX6_lagOf_14 ?_
  refine n_lmul C dX6_lagOf_17 ?_
  refine n_lsub C dX6_lagOf_18 ?_
  refine r_lret C hr hlk dX6_lagOf_19 (Nat.zero_le _) (Nat.zero_le _) ?_
  exact ⟨congrArg (fun z => some (Value.long (lI z))) (rfl), rfl, rfl, rfl⟩
set_option maxHeartbeats 4000000 in
set_option maxRecDepth 20000 in
theorem k_X6_tagOf {l : Launch} {G : Gd} {base : Nat} {Y : MY} {I : MI} {L : ML} {M : Nat} {a : Sa} {N T : Int} (hI : Inv N T a) {fi : Int} (f : Nat) (hM : MLy base Y M) (hf : fi = f) (hf2 : (f : Int) < a 2) : Ct l yX6_tagOf cX6_tagOf 3 (some .long) (rmz 4 86) G base [.ref M, .int (iI fi)] Y I (rL L (M + 1) a) (PL (tag a f) Y I (rL L (M + 1) a)) := by
  refine Ct.of (own := RX6) (lo := [(0, .ref M), (1, .int (iI fi))]) (by decide) rfl (Nat.le_of_ble_eq_true rfl) rfl ?_
  intro zp ze zs zm zargs zbl zmt zc C hr hlk hnm
  have hT := hI.1
  unfold TopOK at hT
  have hF := (hI.2.1 f hf2).1
  unfold FlowOK at hF
  have hdb : -6 ≤ hdF a f ∧ hdF a f ≤ 400000 := by
    rcases hd_ok hI hf2 with ⟨_, h⟩ | ⟨_, p, h1, h2, h3, h4⟩ <;> omega
  refine r_aload_n C 0 dX6_tagOf_0 rfl rfl ?_
  refine r_iload_n C 1 dX6_tagOf_1 rfl rfl ?_
  refine cV1_PI C (k_X6_headOf hI f hM (by omega) (by omega)) cw_X6_166 (rm_ok rfl rfl (Nat.zero_le _) (Nat.zero_le _)) (Nat.le_of_ble_eq_true rfl) hM.1.1 dX6_tagOf_2 ?_
  refine n_topi (fun x5 ex5 => ?_)
  refine r_istore_n (lo' := [(2, .int (iI x5)), (0, .ref M), (1, .int (iI fi))]) C dX6_tagOf_5 rfl (by decide) rfl ?_
  refine r_iload_n C 0 dX6_tagOf_6 rfl rfl ?_
  refine n_if_ge (tgt := 20) C dX6_tagOf_7 (by decide) (by constructor <;> omega) (fun c7 => ?_) (fun c7 => ?_)
  · have hq : (old a ≤ (hdF a f).toNat ∧ (((hdF a f).toNat : Nat) : Int) < a 7) ∧ a (125 + 11 * ((hdF a f).toNat % 120) + 0) = f ∧ a (125 + 11 * ((hdF a f).toNat % 120) + 4) ≤ 1 := by
      rcases hd_ok hI (f := f) (by omega) with ⟨_, h⟩ | ⟨_, p, h1, h2, h3, h4⟩
      · omega
      · rw [h1]; exact ⟨h2, h3, h4⟩
    have hP := hI.2.2.1 _ hq.1.1 hq.1.2
    unfold PkOK at hP
    refine r_aload_n C 1 dX6_tagOf_20 rfl rfl ?_
    refine r_iload_n C 0 dX6_tagOf_21 rfl rfl ?_
    refine r_bipush (v := iI 9) C dX6_tagOf_22 (by decide) ?_
    refine cV2_PL C (k_X6_of ((hdF a f).toNat) 9 hM (by omega) (by omega) (by omega)) cw_X6_49 (rm_ok rfl rfl (Nat.zero_le _) (Nat.zero_le _)) (Nat.le_of_ble_eq_true rfl) hM.1.1 dX6_tagOf_24 ?_
    refine r_aload_n C 1 dX6_tagOf_27 rfl rfl ?_
    refine r_iload_n C 0 dX6_tagOf_28 rfl rfl ?_
    refine r_iconst (v := iI 5) C dX6_tagOf_29 rfl ?_
    refine cV2_PL C (k_X6_of ((hdF a f).toNat) 5 hM (by omega) (by omega) (by omega)) cw_X6_49 (rm_ok rfl rfl (Nat.zero_le _) (Nat.zero_le _)) (Nat.le_of_ble_eq_true rfl) hM.1.1 dX6_tagOf_30 ?_
    refine n_ldc2 (v := 720720) C lc_X6_81 (by decide) dX6_tagOf_33 ?_
    refine n_lmul C dX6_tagOf_36 ?_
    refine r_aload_n C 1 dX6_tagOf_37 rfl rfl ?_
    refine r_iload_n C 2 dX6_tagOf_38 rfl rfl ?_
    refine r_iconst (v := iI 0) C dX6_tagOf_39 rfl ?_
    refine cV2_PL C (k_X6_ofFlow f 0 hM (by omega) (by omega) (by omega)) cw_X6_53 (rm_ok rfl rfl (Nat.zero_le _) (Nat.zero_le _)) (Nat.le_of_ble_eq_true rfl) hM.1.1 dX6_tagOf_40 ?_
    refine n_ldiv C dX6_tagOf_43 (by omega) (by omega) ?_
    refine n_ladd C dX6_tagOf_44 ?_
    refine r_lret C hr hlk dX6_tagOf_45 (Nat.zero_le _) (Nat.zero_le _) ?_
    exact ⟨congrArg (fun z => some (Value.long (lI z))) (by unfold tag; first | rw [if_pos (by omega)] | rw [if_neg (by omega)]), rfl, rfl, rfl⟩
  · refine r_aload_n C 1 dX6_tagOf_10 rfl rfl ?_
    refine r_iload_n C 2 dX6_tagOf_11 rfl rfl ?_
    refine r_bipush (v := iI 12) C dX6_tagOf_12 (by decide) ?_
    refine cV2_PL C (k_X6_ofFlow f 12 hM (by omega) (by omega) (by omega)) cw_X6_53 (rm_ok rfl rfl (Nat.zero_le _) (Nat.zero_le _)) (Nat.le_of_ble_eq_true rfl) hM.1.1 dX6_tagOf_14 ?_
    refine r_goto (tgt := 45) C dX6_tagOf_17 (by decide) ?_
    refine r_lret C hr hlk dX6_tagOf_45 (Nat.zero_le _) (Nat.zero_le _) ?_
    exact ⟨congrArg (fun z => some (Value.long (lI z))) (by unfold tag; first | rw [if_pos (by omega)] | rw [if_neg (by omega)]), rfl, rfl, rfl⟩
