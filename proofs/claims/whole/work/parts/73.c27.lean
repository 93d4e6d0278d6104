theorem bsO_s {a : Sa} {f t n i : Nat} {u e x z : Int} : bsO a f u e t (n + 1) i x z = if z < 0 ∨ bsW a f (u + e * i) t < z then bsO a f u e t n (i + 1) (u + e * i) (bsW a f (u + e * i) t) else bsO a f u e t n (i + 1) x z := rfl
theorem gdv_c {z : Int} : (1000000000 ≤ z ∧ gdv z = 2147483647) ∨ (z < 1000000000 ∧ gdv z = z) := by
  unfold gdv
  split <;> omega
set_option maxHeartbeats 4000000 in
set_option maxRecDepth 20000 in
theorem k_X5_bestSplit {l : Launch} {G : Gd} {base : Nat} {Y : MY} {I : MI} {L : ML} {B : Nat} {X : Sa} {a : Sa} {N T : Int} {F : Nat} {cp : Option Nat} {f u e n t : Int} (hS : SLy base Y B) (hI : Inv N T a) (hR : Rl true a X) (hF : FLn base Y F B) (hN : NowOK a) (hLg : LagOK a) (hPc : PcOK a) (hTT : T ≤ 1000000) (hC : Cpy base Y F B cp) (hf0 : -2147483648 ≤ f ∧ f < 2147483648) (hu0 : -2147483648 ≤ u ∧ u < 2147483648) (he0 : -2147483648 ≤ e ∧ e < 2147483648) (hn0 : -2147483648 ≤ n ∧ n < 2147483648) (ht0 : -2147483648 ≤ t ∧ t < 2147483648) : Ct l yX5_bestSplit cX5_bestSplit 11 (some .int) { frames := 11, cells := 206, slots := 2279, locals := 430 } G base [.ref F, .int (iI f), .int (iI u), .int (iI e), .int (iI n), .int (iI t)] Y (cI I B X) (cL L B X) (fun v Y' I' L' => v = some (.int (iI (aBs a f u e n t))) ∧ ((Y' = Y ∧ I' = cI I B X ∧ L' = cL L B X) ∨ ∃ c, Grw base F cp Y (cI I B X) (cL L B X) Y' I' L' c)) := by
  refine Ct.of (own := RX5) (lo := [(0, .ref F), (1, .int (iI f)), (2, .int (iI u)), (3, .int (iI e)), (4, .int (iI n)), (5, .int (iI t))]) (by decide) rfl (Nat.le_of_ble_eq_true rfl) rfl ?_
  intro zp ze zs zm zargs zbl zmt zc C hr hlk hnm
  have hT := hI.1
  unfold TopOK at hT
  refine r_aload_n C 0 dX5_bestSplit_0 rfl rfl ?_
  refine r_getR C fl_X5_10 rfl dX5_bestSplit_1 hF.1 hF.2 ?_
  refine r_iload_n C 1 dX5_bestSplit_4 rfl rfl ?_
  refine cV1_PI C (k_X4_hasFlow hS (by omega) (show 0 ≤ X 2 ∧ X 2 ≤ 6 by rw [show X 2 = (a 2) from (hR.n 2 (by decide) (by decide))]; omega)) cw_X5_31 (rm_ok rfl rfl (Nat.zero_le _) (Nat.zero_le _)) (Nat.le_of_ble_eq_true rfl) hS.1.1 dX5_bestSplit_5 ?_
  refine n_eqi (y := (b2 (0 ≤ f ∧ f < (a 2)))) (by rw [show X 2 = (a 2) from (hR.n 2 (by decide) (by decide))]) ?_
  refine n_if_ne (tgt := 13) C dX5_bestSplit_8 (by decide) b2_i (fun c8 => ?_) (fun c8 => ?_)
  · rw [b2_eq0, Classical.not_not] at c8
    obtain ⟨fn, hfn⟩ := Int.eq_ofNat_of_zero_le (show 0 ≤ f by omega)
    have hfn2 : (fn : Int) < a 2 := by omega
    have hfn6 : fn < 6 := by omega
    refine r_iload_n C 2 dX5_bestSplit_13 rfl rfl ?_
    refine r_iload_n C 3 dX5_bestSplit_14 rfl rfl ?_
    refine r_iload C 4 dX5_bestSplit_15 rfl ?_
    refine cS3_PI C (k_X5_areSplits (by omega) (by omega) (by omega)) cw_X5_278 (rm_ok rfl rfl (Nat.zero_le _) (Nat.zero_le _)) (Nat.le_of_ble_eq_true rfl) dX5_bestSplit_17 ?_
    refine n_if_eq (tgt := 37) C dX5_bestSplit_20 (by decide) b2_i (fun c20 => ?_) (fun c20 => ?_)
    · refine r_bipush (v := iI (-2)) C dX5_bestSplit_37 (by decide) ?_
      refine r_iret C hr hlk dX5_bestSplit_39 (Nat.zero_le _) (Nat.zero_le _) ?_
      simp only [b2_eq0] at c20
      exact ⟨congrArg (fun z => some (Value.int (iI z))) (by unfold aBs; rw [if_neg (by omega), if_pos (fun hh => by obtain ⟨⟨h1, h2, h3, h4⟩, h5⟩ := hh; first | exact c20 ⟨h1, h2, h3, h5⟩ | omega)]), Or.inl ⟨rfl, rfl, rfl⟩⟩
    · refine r_iload C 5 dX5_bestSplit_23 rfl ?_
      refine r_iconst (v := iI 1) C dX5_bestSplit_25 rfl ?_
      refine n_icmp_lt (tgt := 37) C dX5_bestSplit_26 (by decide) (by constructor <;> omega) ⟨by decide, by decide⟩ (fun c26 => ?_) (fun c26 => ?_)
      · refine r_bipush (v := iI (-2)) C dX5_bestSplit_37 (by decide) ?_
        refine r_iret C hr hlk dX5_bestSplit_39 (Nat.zero_le _) (Nat.zero_le _) ?_
        simp only [b2_eq0] at c20
        exact ⟨congrArg (fun z => some (Value.int (iI z))) (by unfold aBs; rw [if_neg (by omega), if_pos (fun hh => by obtain ⟨⟨h1, h2, h3, h4⟩, h5⟩ := hh; first | exact c20 ⟨h1, h2, h3, h5⟩ | omega)]), Or.inl ⟨rfl, rfl, rfl⟩⟩
      · refine r_iload C 5 dX5_bestSplit_29 rfl ?_
        refine r_sipush (v := iI 1000) C dX5_bestSplit_31 (by decide) ?_
        refine n_icmp_le (tgt := 40) C dX5_bestSplit_34 (by decide) (by constructor <;> omega) ⟨by decide, by decide⟩ (fun c34 => ?_) (fun c34 => ?_)
        · rw [b2_eq0, Classical.not_not] at c20
          obtain ⟨hu1, he1, hn1, hsum⟩ := c20
          have hgood : ¬ ¬ (((0 ≤ u ∧ u ≤ 1000) ∧ (1 ≤ e ∧ e ≤ 500) ∧ (1 ≤ n ∧ n ≤ 6) ∧ (1 ≤ t ∧ t ≤ 1000)) ∧ u + e * (n - 1) ≤ 1000) := fun hh => hh ⟨⟨hu1, he1, hn1, by omega⟩, hsum⟩
          obtain ⟨nn, hnn⟩ := Int.eq_ofNat_of_zero_le (show 0 ≤ n by omega)
          obtain ⟨tn, htn⟩ := Int.eq_ofNat_of_zero_le (show 0 ≤ t by omega)
          have hq0 := qct_0 hI
          refine r_aload_n C 0 dX5_bestSplit_40 rfl rfl ?_
          refine r_getR C fl_X5_10 rfl dX5_bestSplit_41 hF.1 hF.2 ?_
          refine cV0_PI C (k_X4_areQueuesEmpty hS hI hR) cw_X5_282 (rm_ok rfl rfl (Nat.zero_le _) (Nat.zero_le _)) (Nat.le_of_ble_eq_true rfl) hS.1.1 dX5_bestSplit_44 ?_
          refine n_if_eq (tgt := 53) C dX5_bestSplit_47 (by decide) b2_i (fun c47 => ?_) (fun c47 => ?_)
          · rw [b2_eq0] at c47
            have hstart : bsO a fn u e tn nn 0 u (-1) = aBs a f u e n t := by
              unfold aBs
              rw [if_neg (by omega), if_neg hgood, if_neg (fun hh => c47 (hq0.mp hh)), show f.toNat = fn by omega, show t.toNat = tn by omega, show n.toNat = nn by omega]
            refine r_iload_n C 2 dX5_bestSplit_53 rfl rfl ?_
            refine r_istore (lo' := [(6, .int (iI u)), (0, .ref F), (1, .int (iI f)), (2, .int (iI u)), (3, .int (iI e)), (4, .int (iI n)), (5, .int (iI t))]) C dX5_bestSplit_54 (by decide) rfl ?_
            refine n_ldcw (v := 2147483647) C lc_X5_285 (by decide) dX5_bestSplit_56 ?_
            refine r_istore (lo' := [(7, .int (iI 2147483647)), (6, .int (iI u)), (0, .ref F), (1, .int (iI f)), (2, .int (iI u)), (3, .int (iI e)), (4, .int (iI n)), (5, .int (iI t))]) C dX5_bestSplit_59 (by decide) rfl ?_
            refine r_iconst (v := iI 0) C dX5_bestSplit_61 rfl ?_
            refine r_istore (lo' := [(8, .int (iI 0)), (7, .int (iI 2147483647)), (6, .int (iI u)), (0, .ref F), (1, .int (iI f)), (2, .int (iI u)), (3, .int (iI e)), (4, .int (iI n)), (5, .int (iI t))]) C dX5_bestSplit_62 (by decide) rfl ?_
            have lp64 : ∀ (k : Nat) (x6 : Int) (x7 : Int) (x8 : Int) (i : Nat) (z : Int) (cpv : Option Nat) (Y1 : MY) (I1 : MI) (L1 : ML) (cs : Nat) (ss : Nat) (hx8 : x8 = i) (hi : i ≤ nn) (hz : (z = -1 ∧ i = 0 ∧ x6 = u ∧ x7 = 2147483647) ∨ (0 ≤ z ∧ (z = 1000000000 ∨ z ≤ 1002006) ∧ x7 = gdv z)) (he : bsO a fn u e tn (nn - i) i x6 z = aBs a f u e n t) (hst : (Y1 = Y ∧ I1 = cI I B X ∧ L1 = cL L B X ∧ cpv = cp) ∨ ∃ c, cpv = some c ∧ Grw base F cp Y (cI I B X) (cL L B X) Y1 I1 L1 c) (hF : FLn base Y1 F B) (hS : SLy base Y1 B) (hC : Cpy base Y1 F B cpv) (eB : I1 = cI I1 B X) (eLB : L1 = cL L1 B X) (hcs : cs + cst cpv ≤ 206) (hsl : ss + sst cpv ≤ 2279), nn - i = k → Bd zp l ze { frames := 11, cells := 206, slots := 2279, locals := 430 } zs zm zargs zbl zmt zc 11 G base (fun v Y' I' L' => v = some (.int (iI (aBs a f u e n t))) ∧ ((Y' = Y ∧ I' = cI I B X ∧ L' = cL L B X) ∨ ∃ c, Grw base F cp Y (cI I B X) (cL L B X) Y' I' L' c)) 64 [(8, .int (iI x8)), (7, .int (iI x7)), (6, .int (iI x6)), (0, .ref F), (1, .int (iI f)), (2, .int (iI u)), (3, .int (iI e)), (4, .int (iI n)), (5, .int (iI t))] [] Y1 I1 L1 cs ss := by
              intro k
              induction k using Nat.strongRecOn with
              | _ k ih64 =>
              intro x6 x7 x8 i z cpv Y1 I1 L1 cs ss hx8 hi hz he hst hF hS hC eB eLB hcs hsl hk64
              have hcc : cs ≤ 206 := by omega
              have hss : ss ≤ 2279 := by omega
              have hgz := gdv_c (z := z)
              refine r_iload C 0 dX5_bestSplit_64 rfl ?_
              refine r_iload C 7 dX5_bestSplit_66 rfl ?_
              refine n_icmp_ge (tgt := 111) C dX5_bestSplit_68 (by decide) (by constructor <;> omega) (by constructor <;> omega) (fun c68 => ?_) (fun c68 => ?_)
              · refine r_iload C 2 dX5_bestSplit_111 rfl ?_
                refine r_iret C hr hlk dX5_bestSplit_113 hcc hss ?_
                have hfin : x6 = aBs a f u e n t := by
                  rw [← he, show nn - i = 0 by omega]
                  rfl
                refine ⟨congrArg (fun z => some (Value.int (iI z))) hfin, ?_⟩
                rcases hst with ⟨h1, h2, h3, h4⟩ | ⟨d, h1, h2⟩
                · exact Or.inl ⟨h1, h2, h3⟩
                · exact Or.inr ⟨d, h2⟩
              · have hmi : 0 ≤ e * (i : Int) ∧ e * (i : Int) ≤ e * (n - 1) := ⟨Int.mul_nonneg (by omega) (by omega), Int.mul_le_mul_of_nonneg_left (by omega) (by omega)⟩
                have hspb : 0 ≤ u + e * (i : Int) ∧ u + e * (i : Int) ≤ 1000 := by omega
                have hwb := bsW_b hI hN hLg (fn := fn) (tn := tn) (v := u + e * (i : Int)) hfn2 hspb (by omega)
                have hgw := gdv_c (z := (bsW a fn (u + e * (i : Int)) tn))
                have he0 : i = 0 → e * (i : Int) = 0 := fun h => by rw [h]; exact Int.mul_zero _
                refine r_iload_n C 5 dX5_bestSplit_71 rfl rfl ?_
                refine r_iload C 0 dX5_bestSplit_72 rfl ?_
                refine r_iload_n C 6 dX5_bestSplit_74 rfl rfl ?_
                refine n_imul C dX5_bestSplit_75 ?_
                refine n_iadd C dX5_bestSplit_76 ?_
                refine n_eqi (y := (u + e * (i : Int))) (by rw [hx8, Int.mul_comm]) ?_
                refine r_istore (lo' := [(9, .int (iI (u + e * (i : Int)))), (8, .int (iI x8)), (7, .int (iI x7)), (6, .int (iI x6)), (0, .ref F), (1, .int (iI f)), (2, .int (iI u)), (3, .int (iI e)), (4, .int (iI n)), (5, .int (iI t))]) C dX5_bestSplit_77 (by decide) rfl ?_
                refine r_aload_n C 4 dX5_bestSplit_79 rfl rfl ?_
                refine r_iload_n C 5 dX5_bestSplit_80 rfl rfl ?_
                refine r_iload C 0 dX5_bestSplit_81 rfl ?_
                refine r_iload C 9 dX5_bestSplit_83 rfl ?_
                refine r_eqI eB ?_
                refine r_eqL eLB ?_
                have k85 := k_X5_greatestDelayWith (l := l) (G := G) (I := I1) (L := L1) (f := f) (t := t) (v := u + e * (i : Int)) fn tn hS hI hR hF hN hLg hPc hTT hC (by omega) (by omega) hfn2 hspb (by omega)
                refine cV3_G C k85 cw_X5_286 ⟨⟨Nat.le_of_ble_eq_true rfl, Nat.le_of_ble_eq_true rfl⟩, (by show cs + cst cpv ≤ 206; omega), (by show ss + sst cpv ≤ 2279; omega)⟩ (Nat.le_of_ble_eq_true rfl) hF.1 dX5_bestSplit_85 (fun v85 Y85 I85 L85 h85 => ?_)
                obtain ⟨rfl, ⟨c, hG⟩, jB, kB⟩ := h85
                have hF_ := hG.f hC hS hF
                have hC_ := hG.c hC hS
                have hS_ := hG.s hC hS
                have hGt : Grw base F cp Y (cI I B X) (cL L B X) Y85 I85 L85 c := by
                  rw [← eB, ← eLB] at hG
                  rcases hst with ⟨h1, h2, h3, h4⟩ | ⟨d, h1, h2⟩
                  · rw [h1, h2, h3, h4] at hG
                    exact hG
                  · rw [h1] at hG
                    obtain ⟨-, e5, h6⟩ := h2.tr hG
                    rw [← e5] at h6
                    exact h6
                refine n_topi (fun x88 ex88 => ?_)
                refine r_istore (lo' := [(10, .int (iI x88)), (9, .int (iI (u + e * (i : Int)))), (8, .int (iI x8)), (7, .int (iI x7)), (6, .int (iI x6)), (0, .ref F), (1, .int (iI f)), (2, .int (iI u)), (3, .int (iI e)), (4, .int (iI n)), (5, .int (iI t))]) C dX5_bestSplit_88 (by decide) rfl ?_
                refine r_iload C 0 dX5_bestSplit_90 rfl ?_
                refine r_iload C 3 dX5_bestSplit_92 rfl ?_
                refine n_icmp_ge (tgt := 105) C dX5_bestSplit_94 (by decide) (by constructor <;> omega) (by constructor <;> omega) (fun c94 => ?_) (fun c94 => ?_)
                · refine n_iinc (lo' := [(8, .int (iI (x8 + 1))), (10, .int (iI x88)), (9, .int (iI (u + e * (i : Int)))), (7, .int (iI x7)), (6, .int (iI x6)), (0, .ref F), (1, .int (iI f)), (2, .int (iI u)), (3, .int (iI e)), (4, .int (iI n)), (5, .int (iI t))]) C 2 dX5_bestSplit_105 rfl rfl (by decide) rfl ?_
                  refine r_goto (tgt := 64) C dX5_bestSplit_108 (by decide) ?_
                  refine r_lo [0, 3, 4, 5, 6, 7, 8, 9, 10] rfl ?_
                  exact ih64 _ (by first | omega | (rw [← hk64]; omega)) x6 x7 ((x8 + 1)) (i + 1) ((if z < 0 then (bsW a fn (u + e * (i : Int)) tn) else z)) ((some c)) Y85 I85 L85 ((cs + cst cpv)) ((ss + sst cpv)) (by omega) (by omega) (by right; split <;> (refine ⟨by omega, by omega, ?_⟩ <;> omega)) (by rw [show nn - i = (nn - (i + 1)) + 1 by omega, bsO_s] at he; split <;> rename_i hz0 <;> first | (rw [if_pos (Or.inl hz0)] at he; rw [← he, show u + e * (i : Int) = x6 by omega]; done) | (rw [if_neg (by omega)] at he; exact he)) (Or.inr ⟨c, rfl, hGt⟩) hF_ hS_ hC_ jB kB (by show cs + cst cpv + 0 ≤ 206; omega) (by show ss + sst cpv + 0 ≤ 2279; omega) rfl
                · have htk : z < 0 ∨ (bsW a fn (u + e * (i : Int)) tn) < z := by omega
                  refine r_iload C 0 dX5_bestSplit_97 rfl ?_
                  refine r_istore (lo' := [(7, .int (iI x88)), (10, .int (iI x88)), (9, .int (iI (u + e * (i : Int)))), (8, .int (iI x8)), (6, .int (iI x6)), (0, .ref F), (1, .int (iI f)), (2, .int (iI u)), (3, .int (iI e)), (4, .int (iI n)), (5, .int (iI t))]) C dX5_bestSplit_99 (by decide) rfl ?_
                  refine r_iload C 2 dX5_bestSplit_101 rfl ?_
                  refine n_topi (fun x103 ex103 => ?_)
                  refine r_istore (lo' := [(6, .int (iI x103)), (7, .int (iI x88)), (10, .int (iI x88)), (9, .int (iI (u + e * (i : Int)))), (8, .int (iI x8)), (0, .ref F), (1, .int (iI f)), (2, .int (iI u)), (3, .int (iI e)), (4, .int (iI n)), (5, .int (iI t))]) C dX5_bestSplit_103 (by decide) rfl ?_
                  refine n_iinc (lo' := [(8, .int (iI (x8 + 1))), (6, .int (iI x103)), (7, .int (iI x88)), (10, .int (iI x88)), (9, .int (iI (u + e * (i : Int)))), (0, .ref F), (1, .int (iI f)), (2, .int (iI u)), (3, .int (iI e)), (4, .int (iI n)), (5, .int (iI t))]) C 4 dX5_bestSplit_105 rfl rfl (by decide) rfl ?_
                  refine r_goto (tgt := 64) C dX5_bestSplit_108 (by decide) ?_
                  refine r_lo [0, 2, 1, 5, 6, 7, 8, 9, 10] rfl ?_
                  exact ih64 _ (by first | omega | (rw [← hk64]; omega)) x103 x88 ((x8 + 1)) (i + 1) ((bsW a fn (u + e * (i : Int)) tn)) ((some c)) Y85 I85 L85 ((cs + cst cpv)) ((ss + sst cpv)) (by omega) (by omega) (Or.inr ⟨by omega, by omega, by omega⟩) (by rw [show nn - i = (nn - (i + 1)) + 1 by omega, bsO_s, if_pos htk] at he; rw [ex103]; exact he) (Or.inr ⟨c, rfl, hGt⟩) hF_ hS_ hC_ jB kB (by show cs + cst cpv + 0 ≤ 206; omega) (by show ss + sst cpv + 0 ≤ 2279; omega) rfl
            exact lp64 _ u 2147483647 0 0 ((-1)) cp Y ((cI I B X)) ((cL L B X)) 0 0 rfl (by omega) (Or.inl ⟨rfl, rfl, rfl, rfl⟩) hstart (Or.inl ⟨rfl, rfl, rfl, rfl⟩) hF hS hC cI_idem cL_idem cst_le sst_le rfl
          · refine r_bipush (v := iI (-5)) C dX5_bestSplit_50 (by decide) ?_
            refine r_iret C hr hlk dX5_bestSplit_52 (Nat.zero_le _) (Nat.zero_le _) ?_
            rw [b2_eq0, Classical.not_not] at c47
            exact ⟨congrArg (fun z => some (Value.int (iI z))) (by unfold aBs; rw [if_neg (by omega), if_neg hgood, if_pos (hq0.mpr c47)]), Or.inl ⟨rfl, rfl, rfl⟩⟩
        · refine r_bipush (v := iI (-2)) C dX5_bestSplit_37 (by decide) ?_
          refine r_iret C hr hlk dX5_bestSplit_39 (Nat.zero_le _) (Nat.zero_le _) ?_
          simp only [b2_eq0] at c20
          exact ⟨congrArg (fun z => some (Value.int (iI z))) (by unfold aBs; rw [if_neg (by omega), if_pos (fun hh => by obtain ⟨⟨h1, h2, h3, h4⟩, h5⟩ := hh; first | exact c20 ⟨h1, h2, h3, h5⟩ | omega)]), Or.inl ⟨rfl, rfl, rfl⟩⟩
  · refine r_iconst (v := iI (-1)) C dX5_bestSplit_11 rfl ?_
    refine r_iret C hr hlk dX5_bestSplit_12 (Nat.zero_le _) (Nat.zero_le _) ?_
    rw [b2_eq0] at c8
    exact ⟨congrArg (fun z => some (Value.int (iI z))) (by unfold aBs; rw [if_pos c8]), Or.inl ⟨rfl, rfl, rfl⟩⟩
