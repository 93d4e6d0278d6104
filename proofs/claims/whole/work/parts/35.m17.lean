theorem Inv_N {a : Sa} {N N' T : Int} (hI : Inv N T a) (h : a 7 ≤ N') (h2 : N' ≤ 400000) : Inv N' T a := by
  refine ⟨?_, hI.2⟩
  have hT := hI.1
  unfold TopOK at hT ⊢
  omega
theorem aFlt_b {a : Sa} {N T : Int} (hI : Inv N T a) : -6 ≤ aFlt a ∧ aFlt a ≤ 80 := by
  have h := ar_le hI (nsA_ok hI).2.2.2
  unfold aFlt
  split <;> omega
def ld1 (f : Nat) (n d : Int) (x : Sa × Int) : Sa × Int := if hasR x.1 f = 0 then x else (take x.1 f n d, x.2 + 1)
def ldC (f : Nat) (n d : Int) (x : Sa × Int) : Nat → Sa × Int
  | 0 => x
  | c + 1 => ld1 f n d (ldC f n d x c)
/-- the flow of the i-th arrival of the pad -/
def arF (a : Sa) (i : Nat) : Nat := (ch a (psq a i) - 97).toNat
/-- the first i arrivals of the pad are taken: the row, and how many packets -/
def ldO (a : Sa) : Nat → Sa × Int
  | 0 => (a, 0)
  | i + 1 => ldC (arF a i) (av1 a (psq a i)).2.1 (av2 a (psq a i)).2.1 (ldO a i) (av3 a (psq a i)).2.1.toNat
def ldF (a : Sa) : Prop := ∀ i, i ≤ nsA a → ((arF a i : Nat) : Int) < a 2
noncomputable def aLd (a : Sa) : Int := if ¬ aFlt a = -6 then -3 else @ite _ (ldF a) (Classical.propDecidable _) (ldO a (nsA a + 1)).2 (-1)
noncomputable def ldA (a : Sa) : Sa := if ¬ aFlt a = -6 then a else @ite _ (ldF a) (Classical.propDecidable _) (up1 (ldO a (nsA a + 1)).1 1825 0) a
theorem hasR_b (a : Sa) (f : Nat) : hasR a f = 0 ∨ hasR a f = 1 := by
  unfold hasR b2
  split <;> omega
theorem ldC_ok {x : Sa × Int} {N T : Int} (hI : Inv N T x.1) (hN : NowOK x.1) (hL : LagOK x.1) {f : Nat} (hf : (f : Int) < x.1 2) {n d : Int} (hn : 1 ≤ n ∧ n ≤ 2000) (hd : 0 ≤ d ∧ d ≤ 9999) : ∀ c : Nat, N + c ≤ 400000 → (Inv (N + c) T (ldC f n d x c).1 ∧ NowOK (ldC f n d x c).1 ∧ LagOK (ldC f n d x c).1) ∧ (x.2 ≤ (ldC f n d x c).2 ∧ (ldC f n d x c).2 ≤ x.2 + c) ∧ (∀ k, k < 17 → k ≠ 7 → (ldC f n d x c).1 k = x.1 k) ∧ (∀ k, 1445 ≤ k → (ldC f n d x c).1 k = x.1 k)
  | 0, h => by
    refine ⟨⟨?_, hN, hL⟩, ⟨Int.le_refl _, ?_⟩, fun _ _ _ => rfl, fun _ _ => rfl⟩
    · rw [show N + ((0 : Nat) : Int) = N by omega]; exact hI
    · show x.2 ≤ x.2 + ((0 : Nat) : Int)
      omega
  | c + 1, h => by
    obtain ⟨⟨g1, g2, g3⟩, g4, g5, g6⟩ := ldC_ok hI hN hL hf hn hd c (by omega)
    show (Inv (N + ((c + 1 : Nat) : Int)) T (ld1 f n d (ldC f n d x c)).1 ∧ NowOK (ld1 f n d (ldC f n d x c)).1 ∧ LagOK (ld1 f n d (ldC f n d x c)).1) ∧ (x.2 ≤ (ld1 f n d (ldC f n d x c)).2 ∧ (ld1 f n d (ldC f n d x c)).2 ≤ x.2 + ((c + 1 : Nat) : Int)) ∧ (∀ k, k < 17 → k ≠ 7 → (ld1 f n d (ldC f n d x c)).1 k = x.1 k) ∧ (∀ k, 1445 ≤ k → (ld1 f n d (ldC f n d x c)).1 k = x.1 k)
    generalize ldC f n d x c = y at g1 g2 g3 g4 g5 g6 ⊢
    have hf2 : (f : Int) < y.1 2 := by rw [g5 2 (by decide) (by decide)]; exact hf
    have hT := g1.1
    unfold TopOK at hT
    unfold ld1
    split
    · exact ⟨⟨Inv_N g1 (by omega) (by omega), g2, g3⟩, ⟨g4.1, by omega⟩, g5, g6⟩
    · rename_i hz
      have hr := (hasR_b y.1 f).resolve_left hz
      have ht := take_f g1 hf2 (n := n) (d := d)
      refine ⟨⟨?_, take_now g1 g2 hf2 hr, take_lag g1 g3 hf2⟩, ⟨?_, ?_⟩, fun k h1 h2 => (ht.2.2.1 k h1 h2).trans (g5 k h1 h2), fun k h1 => (ht.2.2.2 k h1).trans (g6 k h1)⟩
      · rw [show N + ((c + 1 : Nat) : Int) = N + c + 1 by omega]
        exact take_ok g1 hf2 hr hn hd (by omega)
      · show x.2 ≤ y.2 + 1
        omega
      · show y.2 + 1 ≤ x.2 + ((c + 1 : Nat) : Int)
        omega
theorem ldO_ok {a : Sa} {N T : Int} (hI : Inv N T a) (hN : NowOK a) (hL : LagOK a) (hF : aFlt a = -6) (hfl : ldF a) (h : N + 243 ≤ 400000) : ∀ i, i ≤ nsA a + 1 → (Inv (N + 9 * i) T (ldO a i).1 ∧ NowOK (ldO a i).1 ∧ LagOK (ldO a i).1) ∧ (0 ≤ (ldO a i).2 ∧ (ldO a i).2 ≤ 9 * i) ∧ (∀ k, k < 17 → k ≠ 7 → (ldO a i).1 k = a k) ∧ (∀ k, 1445 ≤ k → (ldO a i).1 k = a k)
  | 0, _ => by
    refine ⟨⟨?_, hN, hL⟩, ⟨Int.le_refl _, ?_⟩, fun _ _ _ => rfl, fun _ _ => rfl⟩
    · rw [show N + 9 * ((0 : Nat) : Int) = N by omega]; exact hI
    · show (0 : Int) ≤ 9 * ((0 : Nat) : Int)
      omega
  | i + 1, hi => by
    obtain ⟨⟨g1, g2, g3⟩, g4, g5, g6⟩ := ldO_ok hI hN hL hF hfl h i (by omega)
    have ho := ar_ok hI (flt_ok hI hF i (by omega))
    have h26 := (nsA_ok hI).2.1
    have hf : ((arF a i : Nat) : Int) < (ldO a i).1 2 := by rw [g5 2 (by decide) (by decide)]; exact hfl i (by omega)
    obtain ⟨⟨k1, k2, k3⟩, k4, k5, k6⟩ := ldC_ok g1 g2 g3 hf ho.2.2.1 ho.2.2.2.1 (av3 a (psq a i)).2.1.toNat (by omega)
    have hT := k1.1
    unfold TopOK at hT
    have e : ldO a (i + 1) = ldC (arF a i) (av1 a (psq a i)).2.1 (av2 a (psq a i)).2.1 (ldO a i) (av3 a (psq a i)).2.1.toNat := rfl
    rw [e]
    exact ⟨⟨Inv_N k1 (by omega) (by omega), k2, k3⟩, ⟨by omega, by omega⟩, fun k h1 h2 => (k5 k h1 h2).trans (g5 k h1 h2), fun k h1 => (k6 k h1).trans (g6 k h1)⟩
set_option maxHeartbeats 4000000 in
set_option maxRecDepth 20000 in
theorem k_X6_load {l : Launch} {G : Gd} {base : Nat} {Y : MY} {I : MI} {L : ML} {M : Nat} {a : Sa} {N T : Int} (hI : Inv N T a) {b : Nat → Nat → Int}  (hM : MLy base Y M) (hN : NowOK a) (hLg : LagOK a) (hN3 : N + 243 ≤ 400000) : Ct l yX6_load cX6_load 4 (some .int) (rmz 4 89) G base [.ref M] Y (mI I M 7 b) (rL L (M + 1) a) (EI Y (fun r I' L' => r = aLd a ∧ L' = rL L (M + 1) (ldA a) ∧ MB I M b I')) := by
  refine Ct.of (own := RX6) (lo := [(0, .ref M)]) (by decide) rfl (Nat.le_of_ble_eq_true rfl) rfl ?_
  intro zp ze zs zm zargs zbl zmt zc C hr hlk hnm
  have hT := hI.1
  unfold TopOK at hT
  have hfb := aFlt_b hI
  refine r_aload_n C 0 dX6_load_0 rfl rfl ?_
  refine cV0_EI C (k_X6_fault hI hM) cw_X6_149 (rm_ok rfl rfl (Nat.zero_le _) (Nat.zero_le _)) (Nat.le_of_ble_eq_true rfl) hM.1.1 dX6_load_1 (fun r1 I1 L1 h1 => ?_)
  obtain ⟨h1r, h1L, b1, h1I, hb4_1, hfa_1⟩ := h1
  subst h1I
  subst h1L
  refine r_bipush (v := iI (-6)) C dX6_load_4 (by decide) ?_
  refine n_icmp_eq (tgt := 12) C dX6_load_6 (by decide) (by constructor <;> omega) ⟨by decide, by decide⟩ (fun c6 => ?_) (fun c6 => ?_)
  · have hF : aFlt a = -6 := by omega
    obtain ⟨h17, hst⟩ := hfa_1 hF
    have h26 := (nsA_ok hI).2.1
    refine r_iconst (v := iI 0) C dX6_load_12 rfl ?_
    refine r_istore_n (lo' := [(1, .int (iI 0)), (0, .ref M)]) C dX6_load_13 rfl (by decide) rfl ?_
    have lp14 : ∀ (k : Nat) (x1 : Int) (i : Nat) (hx1 : x1 = i) (hi : i ≤ nsA a + 1) (hfl : ∀ j, j < i → ((arF a j : Nat) : Int) < a 2), 40 - i = k → Bd zp l ze (rmz 4 89) zs zm zargs zbl zmt zc 4 G base (EI Y (fun r I' L' => r = aLd a ∧ L' = rL L (M + 1) (ldA a) ∧ MB I M b I')) 14 [(1, .int (iI x1)), (0, .ref M)] [] Y (mI I M 7 b1) (rL L (M + 1) a) 0 0 := by
      intro k
      induction k using Nat.strongRecOn with
      | _ k ih14 =>
      intro x1 i hx1 hi hfl hk14
      refine r_iload_n C 0 dX6_load_14 rfl rfl ?_
      refine r_aload_n C 1 dX6_load_15 rfl rfl ?_
      refine g_getI C (o := 0) (v := (b1 0 7)) rfl (by decide) fl_X6_135 rfl dX6_load_16 hM.1.1 rfl ?_
      refine n_icmp_ge (tgt := 45) C dX6_load_19 (by decide) (by constructor <;> omega) (by constructor <;> omega) (fun c19 => ?_) (fun c19 => ?_)
      · have hldf : ldF a := fun j hj => hfl j (by omega)
        have hOK := ldO_ok hI hN hLg hF hldf hN3
        clear hfl
        refine r_iconst (v := iI 0) C dX6_load_45 rfl ?_
        refine r_istore_n (lo' := [(1, .int (iI 0)), (0, .ref M)]) C dX6_load_46 rfl (by decide) rfl ?_
        refine r_iconst (v := iI 0) C dX6_load_47 rfl ?_
        refine r_istore_n (lo' := [(2, .int (iI 0)), (1, .int (iI 0)), (0, .ref M)]) C dX6_load_48 rfl (by decide) rfl ?_
        have lp49 : ∀ (k : Nat) (a1 : Sa) (x1 : Int) (x2 : Int) (i : Nat) (hx2 : x2 = i) (hi : i ≤ nsA a + 1) (hx : (a1, x1) = ldO a i), 40 - i = k → Bd zp l ze (rmz 4 89) zs zm zargs zbl zmt zc 4 G base (EI Y (fun r I' L' => r = aLd a ∧ L' = rL L (M + 1) (ldA a) ∧ MB I M b I')) 49 [(2, .int (iI x2)), (1, .int (iI x1)), (0, .ref M)] [] Y (mI I M 7 b1) (rL L (M + 1) a1) 0 0 := by
          intro k
          induction k using Nat.strongRecOn with
          | _ k ih49 =>
          intro a1 x1 x2 i hx2 hi hx hk49
          have hO := hOK i hi
          rw [← hx] at hO
          obtain ⟨⟨hI1, hN1, hL1⟩, hx1b, hlo1, hhi1⟩ := hO
          dsimp only at hI1 hN1 hL1 hx1b hlo1 hhi1
          refine r_iload_n C 0 dX6_load_49 rfl rfl ?_
          refine r_aload_n C 2 dX6_load_50 rfl rfl ?_
          refine g_getI C (o := 0) (v := (b1 0 7)) rfl (by decide) fl_X6_135 rfl dX6_load_51 hM.1.1 rfl ?_
          refine n_icmp_ge (tgt := 136) C dX6_load_54 (by decide) (by constructor <;> omega) (by constructor <;> omega) (fun c54 => ?_) (fun c54 => ?_)
          · refine r_aload_n C 2 dX6_load_136 rfl rfl ?_
            refine r_getR C fl_X6_7 rfl dX6_load_137 hM.1.1 hM.2.1 ?_
            refine r_sipush (v := iI 1825) C dX6_load_140 (by decide) ?_
            refine r_lconst (v := lI 0) C dX6_load_143 (by decide) ?_
            refine a_last C 1825 dX6_load_144 hM.1.2.1 ⟨rfl, by decide, by decide⟩ (fun a144 ea144 => ?_)
            refine r_iload_n C 1 dX6_load_145 rfl rfl ?_
            refine r_iret C hr hlk dX6_load_146 (Nat.zero_le _) (Nat.zero_le _) ?_
            have hin : i = nsA a + 1 := by omega
            subst hin
            refine ⟨_, rfl, rfl, ?_, ?_, ⟨b1, rfl, hb4_1⟩⟩
            · unfold aLd
              rw [if_neg (by omega), @if_pos _ (Classical.propDecidable _) hldf, ← hx]
            · unfold ldA
              rw [if_neg (by omega), @if_pos _ (Classical.propDecidable _) hldf, ← hx, ea144]
          · have hA := hst i (by omega)
            unfold Arr at hA
            have har := ar_ok hI (flt_ok hI hF i (by omega))
            have hfv : b1 5 (4 * i) = (arF a i : Nat) := by
              unfold arF
              omega
            have hfi := hldf i (by omega)
            refine r_iconst (v := iI 0) C dX6_load_57 rfl ?_
            refine r_istore_n (lo' := [(3, .int (iI 0)), (2, .int (iI x2)), (1, .int (iI x1)), (0, .ref M)]) C dX6_load_58 rfl (by decide) rfl ?_
            have lp59 : ∀ (k : Nat) (a2 : Sa) (x1b : Int) (x3 : Int) (j : Nat) (hx3 : x3 = j) (hj : j ≤ (av3 a (psq a i)).2.1.toNat) (hc : (a2, x1b) = ldC (arF a i) (av1 a (psq a i)).2.1 (av2 a (psq a i)).2.1 (ldO a i) j), (av3 a (psq a i)).2.1.toNat - j = k → Bd zp l ze (rmz 4 89) zs zm zargs zbl zmt zc 4 G base (EI Y (fun r I' L' => r = aLd a ∧ L' = rL L (M + 1) (ldA a) ∧ MB I M b I')) 59 [(3, .int (iI x3)), (2, .int (iI x2)), (1, .int (iI x1b)), (0, .ref M)] [] Y (mI I M 7 b1) (rL L (M + 1) a2) 0 0 := by
              intro k
              induction k using Nat.strongRecOn with
              | _ k ih59 =>
              intro a2 x1b x3 j hx3 hj hc hk59
              have hC := ldC_ok (x := ldO a i) (N := N + 9 * i) (T := T) (by rw [← hx]; exact hI1) (by rw [← hx]; exact hN1) (by rw [← hx]; exact hL1) (f := arF a i) (by rw [← hx]; show _ < a1 2; rw [hlo1 2 (by decide) (by decide)]; exact hfi) har.2.2.1 har.2.2.2.1 j (by omega)
              rw [← hc] at hC
              obtain ⟨⟨hI2, _, _⟩, hxb2, hlo2, _⟩ := hC
              dsimp only at hI2 hxb2 hlo2
              have hf2 : ((arF a i : Nat) : Int) < a2 2 := by
                rw [hlo2 2 (by decide) (by decide), ← hx]
                show _ < a1 2
                rw [hlo1 2 (by decide) (by decide)]
                exact hfi
              refine r_iload_n C 0 dX6_load_59 rfl rfl ?_
              refine r_aload_n C 3 dX6_load_60 rfl rfl ?_
              refine r_getR C fl_X6_23 rfl dX6_load_61 hM.1.1 hM.2.2.2.2.2.1 ?_
              refine r_iconst (v := iI 4) C dX6_load_64 rfl ?_
              refine r_iload_n C 1 dX6_load_65 rfl rfl ?_
              refine n_imul C dX6_load_66 ?_
              refine r_iconst (v := iI 3) C dX6_load_67 rfl ?_
              refine n_iadd C dX6_load_68 ?_
              refine g_iald C (v := (b1 5 (((4 * i) + 3)))) (5) (((4 * i) + 3)) rfl (by decide) dX6_load_69 hM.1.2.2.2.2.2.1 ⟨congrArg iI (by omega), (by omega), by decide⟩ rfl ?_
              refine n_icmp_ge (tgt := 130) C dX6_load_70 (by decide) (by constructor <;> omega) (by constructor <;> omega) (fun c70 => ?_) (fun c70 => ?_)
              · refine n_iinc (lo' := [(2, .int (iI (x2 + 1))), (3, .int (iI x3)), (1, .int (iI x1b)), (0, .ref M)]) C 1 dX6_load_130 rfl rfl (by decide) rfl ?_
                refine r_goto (tgt := 49) C dX6_load_133 (by decide) ?_
                refine r_lo [0, 2, 3] rfl ?_
                exact ih49 _ (by first | omega | (rw [← hk49]; omega)) a2 x1b ((x2 + 1)) (i + 1) (by omega) (by omega) (by rw [hc, show j = (av3 a (psq a i)).2.1.toNat by omega]; rfl) rfl
              · have hrb := hasR_b a2 (arF a i)
                refine r_aload_n C 3 dX6_load_73 rfl rfl ?_
                refine r_aload_n C 3 dX6_load_74 rfl rfl ?_
                refine r_getR C fl_X6_23 rfl dX6_load_75 hM.1.1 hM.2.2.2.2.2.1 ?_
                refine r_iconst (v := iI 4) C dX6_load_78 rfl ?_
                refine r_iload_n C 1 dX6_load_79 rfl rfl ?_
                refine n_imul C dX6_load_80 ?_
                refine g_iald C (v := (b1 5 ((4 * i)))) (5) ((4 * i)) rfl (by decide) dX6_load_81 hM.1.2.2.2.2.2.1 ⟨congrArg iI (by omega), (by omega), by decide⟩ rfl ?_
                refine cV1_PI C (k_X6_hasRoom hI2 ((arF a i)) hM (by omega) hf2) cw_X6_87 (rm_ok rfl rfl (Nat.zero_le _) (Nat.zero_le _)) (Nat.le_of_ble_eq_true rfl) hM.1.1 dX6_load_82 ?_
                refine n_if_eq (tgt := 124) C dX6_load_85 (by decide) (by constructor <;> omega) (fun c85 => ?_) (fun c85 => ?_)
                · refine n_iinc (lo' := [(3, .int (iI (x3 + 1))), (2, .int (iI x2)), (1, .int (iI x1b)), (0, .ref M)]) C 0 dX6_load_124 rfl rfl (by decide) rfl ?_
                  refine r_goto (tgt := 59) C dX6_load_127 (by decide) ?_
                  exact ih59 _ (by first | omega | (rw [← hk59]; omega)) a2 x1b ((x3 + 1)) (j + 1) (by omega) (by omega) (by show _ = ld1 (arF a i) (av1 a (psq a i)).2.1 (av2 a (psq a i)).2.1 (ldC (arF a i) (av1 a (psq a i)).2.1 (av2 a (psq a i)).2.1 (ldO a i) j); rw [← hc]; unfold ld1; rw [if_pos c85]) rfl
                · refine r_aload_n C 3 dX6_load_88 rfl rfl ?_
                  refine r_aload_n C 3 dX6_load_89 rfl rfl ?_
                  refine r_getR C fl_X6_23 rfl dX6_load_90 hM.1.1 hM.2.2.2.2.2.1 ?_
                  refine r_iconst (v := iI 4) C dX6_load_93 rfl ?_
                  refine r_iload_n C 1 dX6_load_94 rfl rfl ?_
                  refine n_imul C dX6_load_95 ?_
                  refine g_iald C (v := (b1 5 ((4 * i)))) (5) ((4 * i)) rfl (by decide) dX6_load_96 hM.1.2.2.2.2.2.1 ⟨congrArg iI (by omega), (by omega), by decide⟩ rfl ?_
                  refine r_aload_n C 3 dX6_load_97 rfl rfl ?_
                  refine r_getR C fl_X6_23 rfl dX6_load_98 hM.1.1 hM.2.2.2.2.2.1 ?_
                  refine r_iconst (v := iI 4) C dX6_load_101 rfl ?_
                  refine r_iload_n C 1 dX6_load_102 rfl rfl ?_
                  refine n_imul C dX6_load_103 ?_
                  refine r_iconst (v := iI 1) C dX6_load_104 rfl ?_
                  refine n_iadd C dX6_load_105 ?_
                  refine g_iald C (v := (b1 5 (((4 * i) + 1)))) (5) (((4 * i) + 1)) rfl (by decide) dX6_load_106 hM.1.2.2.2.2.2.1 ⟨congrArg iI (by omega), (by omega), by decide⟩ rfl ?_
                  refine r_aload_n C 3 dX6_load_107 rfl rfl ?_
                  refine r_getR C fl_X6_23 rfl dX6_load_108 hM.1.1 hM.2.2.2.2.2.1 ?_
                  refine r_iconst (v := iI 4) C dX6_load_111 rfl ?_
                  refine r_iload_n C 1 dX6_load_112 rfl rfl ?_
                  refine n_imul C dX6_load_113 ?_
                  refine r_iconst (v := iI 2) C dX6_load_114 rfl ?_
                  refine n_iadd C dX6_load_115 ?_
                  refine g_iald C (v := (b1 5 (((4 * i) + 2)))) (5) (((4 * i) + 2)) rfl (by decide) dX6_load_116 hM.1.2.2.2.2.2.1 ⟨congrArg iI (by omega), (by omega), by decide⟩ rfl ?_
                  refine cV3_EI C (k_X6_take hI2 ((arF a i)) hM (by omega) hf2 (by omega) (by omega)) cw_X6_90 (rm_ok rfl rfl (Nat.zero_le _) (Nat.zero_le _)) (Nat.le_of_ble_eq_true rfl) hM.1.1 dX6_load_117 (fun r117 I117 L117 h117 => ?_)
                  obtain ⟨h117r, h117I, h117L⟩ := h117
                  obtain ⟨a117, ea117⟩ : ∃ z, z = take a2 ((arF a i)) ((b1 5 (((4 * i) + 1)))) ((b1 5 (((4 * i) + 2)))) := ⟨_, rfl⟩
                  rw [← ea117] at h117L
                  subst h117I
                  subst h117L
                  refine r_pop C dX6_load_120 rfl ?_
                  refine n_iinc (lo' := [(1, .int (iI (x1b + 1))), (3, .int (iI x3)), (2, .int (iI x2)), (0, .ref M)]) C 2 dX6_load_121 rfl rfl (by decide) rfl ?_
                  refine n_iinc (lo' := [(3, .int (iI (x3 + 1))), (1, .int (iI (x1b + 1))), (2, .int (iI x2)), (0, .ref M)]) C 1 dX6_load_124 rfl rfl (by decide) rfl ?_
                  refine r_goto (tgt := 59) C dX6_load_127 (by decide) ?_
                  refine r_lo [0, 2, 1, 3] rfl ?_
                  exact ih59 _ (by first | omega | (rw [← hk59]; omega)) a117 ((x1b + 1)) ((x3 + 1)) (j + 1) (by omega) (by omega) (by show _ = ld1 (arF a i) (av1 a (psq a i)).2.1 (av2 a (psq a i)).2.1 (ldC (arF a i) (av1 a (psq a i)).2.1 (av2 a (psq a i)).2.1 (ldO a i) j); rw [← hc]; unfold ld1; rw [if_neg c85, ea117]; dsimp only; rw [hA.2.1, hA.2.2.1]) rfl
            exact lp59 _ a1 x1 0 0 rfl (by omega) hx rfl
        exact lp49 _ a 0 0 0 rfl (by omega) rfl rfl
      · have hA := hst i (by omega)
        unfold Arr at hA
        have har := ar_ok hI (flt_ok hI hF i (by omega))
        have hfv : b1 5 (4 * i) = (arF a i : Nat) := by
          unfold arF
          omega
        refine r_aload_n C 1 dX6_load_22 rfl rfl ?_
        refine r_aload_n C 1 dX6_load_23 rfl rfl ?_
        refine r_getR C fl_X6_23 rfl dX6_load_24 hM.1.1 hM.2.2.2.2.2.1 ?_
        refine r_iconst (v := iI 4) C dX6_load_27 rfl ?_
        refine r_iload_n C 0 dX6_load_28 rfl rfl ?_
        refine n_imul C dX6_load_29 ?_
        refine g_iald C (v := (b1 5 ((4 * i)))) (5) ((4 * i)) rfl (by decide) dX6_load_30 hM.1.2.2.2.2.2.1 ⟨congrArg iI (by omega), (by omega), by decide⟩ rfl ?_
        refine cV1_PI C (k_X6_isFlow hM (by omega) (by omega)) cw_X6_72 (rm_ok rfl rfl (Nat.zero_le _) (Nat.zero_le _)) (Nat.le_of_ble_eq_true rfl) hM.1.1 dX6_load_31 ?_
        refine n_if_ne (tgt := 39) C dX6_load_34 (by decide) b2_i (fun c34 => ?_) (fun c34 => ?_)
        · rw [b2_eq0, Classical.not_not] at c34
          have hfi : ((arF a i : Nat) : Int) < a 2 := by omega
          refine n_iinc (lo' := [(1, .int (iI (x1 + 1))), (0, .ref M)]) C 0 dX6_load_39 rfl rfl (by decide) rfl ?_
          refine r_goto (tgt := 14) C dX6_load_42 (by decide) ?_
          exact ih14 _ (by first | omega | (rw [← hk14]; omega)) ((x1 + 1)) (i + 1) (by omega) (by omega) (fun j hj => by by_cases e : j = i; rw [e]; exact hfi; exact hfl j (by omega)) rfl
        · refine r_iconst (v := iI (-1)) C dX6_load_37 rfl ?_
          refine r_iret C hr hlk dX6_load_38 (Nat.zero_le _) (Nat.zero_le _) ?_
          have hnf : ¬ ldF a := by
            intro z
            rw [b2_eq0] at c34
            have := z i (by omega)
            omega
          refine ⟨_, rfl, rfl, ?_, ?_, ⟨b1, rfl, hb4_1⟩⟩
          · unfold aLd; rw [if_neg (by omega), @if_neg _ (Classical.propDecidable _) hnf]
          · unfold ldA; rw [if_neg (by omega), @if_neg _ (Classical.propDecidable _) hnf]
    exact lp14 _ 0 0 rfl (by omega) (fun j hj => absurd hj (by omega)) rfl
  · refine r_bipush (v := iI (-3)) C dX6_load_9 (by decide) ?_
    refine r_iret C hr hlk dX6_load_11 (Nat.zero_le _) (Nat.zero_le _) ?_
    refine ⟨_, rfl, rfl, ?_, ?_, ⟨b1, rfl, hb4_1⟩⟩
    · unfold aLd; rw [if_pos (by omega)]
    · unfold ldA; rw [if_pos (by omega)]
