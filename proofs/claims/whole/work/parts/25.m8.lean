noncomputable def tkN (a : Sa) : Nat → Sa
  | 0 => a
  | n + 1 => tick (tkN a n)
theorem Inv_T {a : Sa} {N T T' : Int} (hI : Inv N T a) (h : a 0 ≤ T') (h2 : T' ≤ 1002000) : Inv N T' a := by
  refine ⟨?_, hI.2⟩
  have hT := hI.1
  unfold TopOK at hT ⊢
  omega
theorem tkN_ok {a : Sa} {N T : Int} (hI : Inv N T a) (hN : NowOK a) (hL : LagOK a) : ∀ n : Nat, T + n ≤ 1002000 → Inv N (T + n) (tkN a n) ∧ NowOK (tkN a n) ∧ LagOK (tkN a n) ∧ tkN a n 0 = a 0 + n ∧ tkN a n 2 = a 2 ∧ tkN a n 7 = a 7
  | 0, _ => by
    refine ⟨?_, hN, hL, ?_, rfl, rfl⟩
    · rw [show T + ((0 : Nat) : Int) = T by omega]; exact hI
    · show a 0 = a 0 + ((0 : Nat) : Int)
      omega
  | n + 1, h => by
    obtain ⟨h1, h2, h3, h4, h5, h6⟩ := tkN_ok hI hN hL n (by omega)
    obtain ⟨g1, g2, g3, g4, g5, g6⟩ := tick_ok h1 h2 (by omega)
    show Inv N (T + ((n + 1 : Nat) : Int)) (tick (tkN a n)) ∧ NowOK (tick (tkN a n)) ∧ LagOK (tick (tkN a n)) ∧ tick (tkN a n) 0 = a 0 + ((n + 1 : Nat) : Int) ∧ _ ∧ _
    rw [show T + ((n + 1 : Nat) : Int) = T + n + 1 by omega]
    exact ⟨g1, g2, g3, by omega, g5.trans h5, g6.trans h6⟩
/-- ticks until one delivers, at most n: the row, and what was delivered -/
noncomputable def awR : Nat → Sa → Int → Sa
  | 0, a, _ => a
  | n + 1, a, z => if z < 0 then awR n (tick a) (tkz a) else a
noncomputable def awZ : Nat → Sa → Int → Int
  | 0, _, z => z
  | n + 1, a, z => if z < 0 then awZ n (tick a) (tkz a) else z
def rsO (a : Sa) (f : Nat) : Nat → Nat → Int
  | 0, _ => 0
  | n + 1, p => (if a (125 + 11 * (p % 120) + 0) = f ∧ a (125 + 11 * (p % 120) + 4) ≤ 1 then a (125 + 11 * (p % 120) + 1) - a (125 + 11 * (p % 120) + 5) else 0) + rsO a f n (p + 1)
/-- the length in the queue of f that was not sent yet -/
def rst (a : Sa) (f : Nat) : Int := rsO a f ((a 7).toNat - old a) (old a)
theorem tkz_b {a : Sa} {N T : Int} (hI : Inv N T a) (hN : NowOK a) (hT : T + 1 ≤ 1002000) : -6 ≤ tkz a ∧ tkz a ≤ 400000 := by
  have hT' := hI.1
  unfold TopOK at hT'
  have h1 := t1_ok hI hN hT
  have hI1 := h1.1
  have h7 := h1.2.2.2.2.2.1
  have ho : old (tk1 a) = (tk1 a 7 - 120).toNat := rfl
  unfold tkz jaz
  refine jnF_b _ _ _ _ ?_ (by omega)
  have hnb : (a 8 = -6 ∨ (0 ≤ a 8 ∧ a 8 ≤ 400000)) := by
    rcases hN.2 with h | ⟨p, g1, g2, g3, g4⟩ <;> omega
  unfold tkz1
  split
  · omega
  · split
    · exact pdZ_b (by omega) (by omega)
    · omega
/-- the reference's own small fields: only what is saved matters later -/
def MB (I : MI) (M : Nat) (b : Nat → Nat → Int) (I' : MI) : Prop := ∃ b', I' = mI I M 7 b' ∧ b' 4 = b 4
theorem MB.self {I : MI} {M : Nat} {b : Nat → Nat → Int} : MB I M b (mI I M 7 b) := ⟨b, rfl, rfl⟩
set_option maxHeartbeats 4000000 in
set_option maxRecDepth 20000 in
theorem k_X6_advance {l : Launch} {G : Gd} {base : Nat} {Y : MY} {I : MI} {L : ML} {M : Nat} {a : Sa} {N T : Int} (hI : Inv N T a) {b : Nat → Nat → Int} {t : Int} (hM : MLy base Y M) (hN : NowOK a) (hLg : LagOK a) (hTT : T ≤ 1000000) (ht0 : -2147483648 ≤ t ∧ t < 2147483648) : Ct l yX6_advance cX6_advance 3 (some .int) (rmz 8 183) G base [.ref M, .int (iI t)] Y (mI I M 7 b) (rL L (M + 1) a) (EI Y (fun r I' L' => MB I M b I' ∧ ((¬ (1 ≤ t ∧ t ≤ 2000) ∧ r = -2 ∧ L' = rL L (M + 1) a) ∨ ((1 ≤ t ∧ t ≤ 2000) ∧ 1000000 < a 0 + t ∧ r = -5 ∧ L' = rL L (M + 1) a) ∨ ((1 ≤ t ∧ t ≤ 2000) ∧ a 0 + t ≤ 1000000 ∧ r = a 0 + t ∧ L' = rL L (M + 1) (tkN a t.toNat))))) := by
  refine Ct.of (own := RX6) (lo := [(0, .ref M), (1, .int (iI t))]) (by decide) rfl (Nat.le_of_ble_eq_true rfl) rfl ?_
  intro zp ze zs zm zargs zbl zmt zc C hr hlk hnm
  have hT := hI.1
  unfold TopOK at hT
  refine r_iload_n C 1 dX6_advance_0 rfl rfl ?_
  refine n_i2l C dX6_advance_1 (by constructor <;> omega) ?_
  refine r_lconst (v := lI 1) C dX6_advance_2 (by decide) ?_
  refine n_ldc2 (v := 2000) C lc_X6_83 (by decide) dX6_advance_3 ?_
  refine cS3_PI C (k_X6_in (by constructor <;> omega) ⟨by decide, by decide⟩ ⟨by decide, by decide⟩) cw_X6_36 (rm_ok rfl rfl (Nat.zero_le _) (Nat.zero_le _)) (Nat.le_of_ble_eq_true rfl) dX6_advance_6 ?_
  refine n_if_ne (tgt := 15) C dX6_advance_9 (by decide) b2_i (fun c9 => ?_) (fun c9 => ?_)
  · rw [b2_eq0, Classical.not_not] at c9
    refine r_aload_n C 0 dX6_advance_15 rfl rfl ?_
    refine r_getR C fl_X6_7 rfl dX6_advance_16 hM.1.1 hM.2.1 ?_
    refine r_iconst (v := iI 0) C dX6_advance_19 rfl ?_
    refine a_lald C (v := (a 0)) 0 dX6_advance_20 hM.1.2.1 ⟨rfl, by decide, by decide⟩ rfl ?_
    refine r_iload_n C 1 dX6_advance_21 rfl rfl ?_
    refine n_i2l C dX6_advance_22 (by constructor <;> omega) ?_
    refine n_ladd C dX6_advance_23 ?_
    refine n_ldc2 (v := 1000000) C lc_X6_196 (by decide) dX6_advance_24 ?_
    refine n_lcmp_le (tgt := 34) C dX6_advance_27 dX6_advance_28 rfl rfl (by decide) (by constructor <;> omega) ⟨by decide, by decide⟩ (fun c27 => ?_) (fun c27 => ?_)
    · refine r_iconst (v := iI 0) C dX6_advance_34 rfl ?_
      refine r_istore_n (lo' := [(2, .int (iI 0)), (0, .ref M), (1, .int (iI t))]) C dX6_advance_35 rfl (by decide) rfl ?_
      have lp36 : ∀ (k : Nat) (x2 : Int) (j : Nat) (a1 : Sa) (b1 : Nat → Nat → Int) (hx2 : x2 = j) (hj : (j : Int) ≤ t) (ha1 : a1 = tkN a j) (hb1 : b1 4 = b 4), t.toNat - j = k → Bd zp l ze (rmz 8 183) zs zm zargs zbl zmt zc 3 G base (EI Y (fun r I' L' => MB I M b I' ∧ ((¬ (1 ≤ t ∧ t ≤ 2000) ∧ r = -2 ∧ L' = rL L (M + 1) a) ∨ ((1 ≤ t ∧ t ≤ 2000) ∧ 1000000 < a 0 + t ∧ r = -5 ∧ L' = rL L (M + 1) a) ∨ ((1 ≤ t ∧ t ≤ 2000) ∧ a 0 + t ≤ 1000000 ∧ r = a 0 + t ∧ L' = rL L (M + 1) (tkN a t.toNat))))) 36 [(2, .int (iI x2)), (0, .ref M), (1, .int (iI t))] [] Y (mI I M 7 b1) (rL L (M + 1) a1) 0 0 := by
        intro k
        induction k using Nat.strongRecOn with
        | _ k ih =>
        intro x2 j a1 b1 hx2 hj ha1 hb1 hk
        have hk1 := tkN_ok hI hN hLg j (by omega)
        rw [← ha1] at hk1
        refine r_iload_n C 0 dX6_advance_36 rfl rfl ?_
        refine r_iload_n C 2 dX6_advance_37 rfl rfl ?_
        refine n_icmp_ge (tgt := 51) C dX6_advance_38 (by decide) (by constructor <;> omega) (by constructor <;> omega) (fun c38 => ?_) (fun c38 => ?_)
        · refine r_aload_n C 1 dX6_advance_51 rfl rfl ?_
          refine r_getR C fl_X6_7 rfl dX6_advance_52 hM.1.1 hM.2.1 ?_
          refine r_iconst (v := iI 0) C dX6_advance_55 rfl ?_
          refine a_lald C (v := (a1 0)) 0 dX6_advance_56 hM.1.2.1 ⟨rfl, by decide, by decide⟩ rfl ?_
          refine n_l2i C dX6_advance_57 ?_
          refine r_iret C hr hlk dX6_advance_58 (Nat.zero_le _) (Nat.zero_le _) ?_
          exact ⟨_, rfl, rfl, ⟨b1, rfl, hb1⟩, Or.inr (Or.inr ⟨c9, by omega, by omega, by rw [ha1, show j = t.toNat by omega]⟩)⟩
        · refine r_aload_n C 1 dX6_advance_41 rfl rfl ?_
          refine cV0_EV C (k_X6_tick hk1.1 hM hk1.2.1 (by omega)) cw_X6_198 (rm_ok rfl rfl (Nat.zero_le _) (Nat.zero_le _)) (Nat.le_of_ble_eq_true rfl) hM.1.1 dX6_advance_42 (fun I42 L42 h42 => ?_)
          obtain ⟨⟨v42, h42I⟩, h42L⟩ := h42
          obtain ⟨a42, ea42⟩ : ∃ z, z = tick a1 := ⟨_, rfl⟩
          obtain ⟨b42, eb42⟩ : ∃ z, z = up2 (up2 b1 0 8 (tkz a1)) 0 9 v42 := ⟨_, rfl⟩
          have hb8_42 : b42 0 8 = tkz a1 := by rw [eb42, up2_nk (by decide), up2_s]
          have hb4_42 : b42 4 = b1 4 := by rw [eb42, up2_rown (by decide), up2_rown (by decide)]
          have hb6_42 : b42 6 = b1 6 := by rw [eb42, up2_rown (by decide), up2_rown (by decide)]
          rw [← ea42] at h42L
          rw [← eb42] at h42I
          subst h42I
          subst h42L
          refine n_iinc (lo' := [(2, .int (iI (x2 + 1))), (0, .ref M), (1, .int (iI t))]) C 0 dX6_advance_45 rfl rfl (by decide) rfl ?_
          refine r_goto (tgt := 36) C dX6_advance_48 (by decide) ?_
          exact ih _ (by first | omega | (rw [← hk]; omega)) ((x2 + 1)) (j + 1) a42 b42 (by omega) (by omega) (by rw [ea42, ha1]; rfl) (by rw [hb4_42, hb1]) rfl
      exact lp36 _ 0 0 a b rfl (by omega) rfl rfl rfl
    · refine r_bipush (v := iI (-5)) C dX6_advance_31 (by decide) ?_
      refine r_iret C hr hlk dX6_advance_33 (Nat.zero_le _) (Nat.zero_le _) ?_
      exact ⟨_, rfl, rfl, MB.self, Or.inr (Or.inl ⟨c9, by omega, rfl, rfl⟩)⟩
  · refine r_bipush (v := iI (-2)) C dX6_advance_12 (by decide) ?_
    refine r_iret C hr hlk dX6_advance_14 (Nat.zero_le _) (Nat.zero_le _) ?_
    rw [b2_eq0] at c9
    exact ⟨_, rfl, rfl, MB.self, Or.inl ⟨c9, rfl, rfl⟩⟩
set_option maxHeartbeats 4000000 in
set_option maxRecDepth 20000 in
theorem k_X6_awaitDelivery {l : Launch} {G : Gd} {base : Nat} {Y : MY} {I : MI} {L : ML} {M : Nat} {a : Sa} {N T : Int} (hI : Inv N T a) {b : Nat → Nat → Int} {t : Int} (hM : MLy base Y M) (hN : NowOK a) (hLg : LagOK a) (hTT : T ≤ 1000000) (ht0 : -2147483648 ≤ t ∧ t < 2147483648) : Ct l yX6_awaitDelivery cX6_awaitDelivery 3 (some .int) (rmz 8 183) G base [.ref M, .int (iI t)] Y (mI I M 7 b) (rL L (M + 1) a) (EI Y (fun r I' L' => MB I M b I' ∧ ((¬ (1 ≤ t ∧ t ≤ 2000) ∧ r = -2 ∧ L' = rL L (M + 1) a) ∨ ((1 ≤ t ∧ t ≤ 2000) ∧ 1000000 < a 0 + t ∧ r = -5 ∧ L' = rL L (M + 1) a) ∨ ((1 ≤ t ∧ t ≤ 2000) ∧ a 0 + t ≤ 1000000 ∧ r = awZ t.toNat a (-6) ∧ L' = rL L (M + 1) (awR t.toNat a (-6)))))) := by
  refine Ct.of (own := RX6) (lo := [(0, .ref M), (1, .int (iI t))]) (by decide) rfl (Nat.le_of_ble_eq_true rfl) rfl ?_
  intro zp ze zs zm zargs zbl zmt zc C hr hlk hnm
  have hT := hI.1
  unfold TopOK at hT
  refine r_iload_n C 1 dX6_awaitDelivery_0 rfl rfl ?_
  refine n_i2l C dX6_awaitDelivery_1 (by constructor <;> omega) ?_
  refine r_lconst (v := lI 1) C dX6_awaitDelivery_2 (by decide) ?_
  refine n_ldc2 (v := 2000) C lc_X6_83 (by decide) dX6_awaitDelivery_3 ?_
  refine cS3_PI C (k_X6_in (by constructor <;> omega) ⟨by decide, by decide⟩ ⟨by decide, by decide⟩) cw_X6_36 (rm_ok rfl rfl (Nat.zero_le _) (Nat.zero_le _)) (Nat.le_of_ble_eq_true rfl) dX6_awaitDelivery_6 ?_
  refine n_if_ne (tgt := 15) C dX6_awaitDelivery_9 (by decide) b2_i (fun c9 => ?_) (fun c9 => ?_)
  · rw [b2_eq0, Classical.not_not] at c9
    refine r_aload_n C 0 dX6_awaitDelivery_15 rfl rfl ?_
    refine r_getR C fl_X6_7 rfl dX6_awaitDelivery_16 hM.1.1 hM.2.1 ?_
    refine r_iconst (v := iI 0) C dX6_awaitDelivery_19 rfl ?_
    refine a_lald C (v := (a 0)) 0 dX6_awaitDelivery_20 hM.1.2.1 ⟨rfl, by decide, by decide⟩ rfl ?_
    refine r_iload_n C 1 dX6_awaitDelivery_21 rfl rfl ?_
    refine n_i2l C dX6_awaitDelivery_22 (by constructor <;> omega) ?_
    refine n_ladd C dX6_awaitDelivery_23 ?_
    refine n_ldc2 (v := 1000000) C lc_X6_196 (by decide) dX6_awaitDelivery_24 ?_
    refine n_lcmp_le (tgt := 34) C dX6_awaitDelivery_27 dX6_awaitDelivery_28 rfl rfl (by decide) (by constructor <;> omega) ⟨by decide, by decide⟩ (fun c27 => ?_) (fun c27 => ?_)
    · refine r_aload_n C 0 dX6_awaitDelivery_34 rfl rfl ?_
      refine r_bipush (v := iI (-6)) C dX6_awaitDelivery_35 (by decide) ?_
      refine g_putI C (o := 0) rfl (by decide) fl_X6_154 rfl dX6_awaitDelivery_37 hM.1.1 (fun b37 eb37 => ?_)
      refine r_iconst (v := iI 0) C dX6_awaitDelivery_40 rfl ?_
      refine r_istore_n (lo' := [(2, .int (iI 0)), (0, .ref M), (1, .int (iI t))]) C dX6_awaitDelivery_41 rfl (by decide) rfl ?_
      have lp42 : ∀ (k : Nat) (x2 : Int) (j : Nat) (a1 : Sa) (b1 : Nat → Nat → Int) (hx2 : x2 = j) (hj : (j : Int) ≤ t) (hk1 : Inv N (T + j) a1 ∧ NowOK a1) (hb1 : b1 4 = b 4) (hzb : -6 ≤ b1 0 8 ∧ b1 0 8 ≤ 400000) (hR : awR (t.toNat - j) a1 (b1 0 8) = awR t.toNat a (-6)) (hZ : awZ (t.toNat - j) a1 (b1 0 8) = awZ t.toNat a (-6)), t.toNat - j = k → Bd zp l ze (rmz 8 183) zs zm zargs zbl zmt zc 3 G base (EI Y (fun r I' L' => MB I M b I' ∧ ((¬ (1 ≤ t ∧ t ≤ 2000) ∧ r = -2 ∧ L' = rL L (M + 1) a) ∨ ((1 ≤ t ∧ t ≤ 2000) ∧ 1000000 < a 0 + t ∧ r = -5 ∧ L' = rL L (M + 1) a) ∨ ((1 ≤ t ∧ t ≤ 2000) ∧ a 0 + t ≤ 1000000 ∧ r = awZ t.toNat a (-6) ∧ L' = rL L (M + 1) (awR t.toNat a (-6)))))) 42 [(2, .int (iI x2)), (0, .ref M), (1, .int (iI t))] [] Y (mI I M 7 b1) (rL L (M + 1) a1) 0 0 := by
        intro k
        induction k using Nat.strongRecOn with
        | _ k ih =>
        intro x2 j a1 b1 hx2 hj hk1 hb1 hzb hR hZ hk
        refine r_iload_n C 0 dX6_awaitDelivery_42 rfl rfl ?_
        refine r_iload_n C 2 dX6_awaitDelivery_43 rfl rfl ?_
        refine n_icmp_ge (tgt := 64) C dX6_awaitDelivery_44 (by decide) (by constructor <;> omega) (by constructor <;> omega) (fun c44 => ?_) (fun c44 => ?_)
        · refine r_aload_n C 1 dX6_awaitDelivery_64 rfl rfl ?_
          refine g_getI C (o := 0) (v := (b1 0 8)) rfl (by decide) fl_X6_154 rfl dX6_awaitDelivery_65 hM.1.1 rfl ?_
          refine r_iret C hr hlk dX6_awaitDelivery_68 (Nat.zero_le _) (Nat.zero_le _) ?_
          refine ⟨_, rfl, rfl, ⟨b1, rfl, hb1⟩, Or.inr (Or.inr ⟨c9, by omega, ?_, ?_⟩)⟩
          · rw [← hZ, show t.toNat - j = 0 by omega]
            rfl
          · rw [← hR, show t.toNat - j = 0 by omega]
            rfl
        · refine r_aload_n C 1 dX6_awaitDelivery_47 rfl rfl ?_
          refine g_getI C (o := 0) (v := (b1 0 8)) rfl (by decide) fl_X6_154 rfl dX6_awaitDelivery_48 hM.1.1 rfl ?_
          refine n_if_ge (tgt := 64) C dX6_awaitDelivery_51 (by decide) (by constructor <;> omega) (fun c51 => ?_) (fun c51 => ?_)
          · refine r_aload_n C 1 dX6_awaitDelivery_64 rfl rfl ?_
            refine g_getI C (o := 0) (v := (b1 0 8)) rfl (by decide) fl_X6_154 rfl dX6_awaitDelivery_65 hM.1.1 rfl ?_
            refine r_iret C hr hlk dX6_awaitDelivery_68 (Nat.zero_le _) (Nat.zero_le _) ?_
            refine ⟨_, rfl, rfl, ⟨b1, rfl, hb1⟩, Or.inr (Or.inr ⟨c9, by omega, ?_, ?_⟩)⟩
            · rw [← hZ, show t.toNat - j = (t.toNat - (j + 1)) + 1 by omega]
              exact (if_neg (by omega)).symm
            · rw [← hR, show t.toNat - j = (t.toNat - (j + 1)) + 1 by omega]
              exact congrArg (rL L (M + 1)) (if_neg (by omega)).symm
          · have hR2 : awR (t.toNat - (j + 1)) (tick a1) (tkz a1) = awR t.toNat a (-6) := by
              rw [← hR, show t.toNat - j = (t.toNat - (j + 1)) + 1 by omega]
              exact (if_pos (by omega)).symm
            have hZ2 : awZ (t.toNat - (j + 1)) (tick a1) (tkz a1) = awZ t.toNat a (-6) := by
              rw [← hZ, show t.toNat - j = (t.toNat - (j + 1)) + 1 by omega]
              exact (if_pos (by omega)).symm
            refine r_aload_n C 1 dX6_awaitDelivery_54 rfl rfl ?_
            refine cV0_EV C (k_X6_tick hk1.1 hM hk1.2 (by omega)) cw_X6_198 (rm_ok rfl rfl (Nat.zero_le _) (Nat.zero_le _)) (Nat.le_of_ble_eq_true rfl) hM.1.1 dX6_awaitDelivery_55 (fun I55 L55 h55 => ?_)
            obtain ⟨⟨v55, h55I⟩, h55L⟩ := h55
            obtain ⟨a55, ea55⟩ : ∃ z, z = tick a1 := ⟨_, rfl⟩
            obtain ⟨b55, eb55⟩ : ∃ z, z = up2 (up2 b1 0 8 (tkz a1)) 0 9 v55 := ⟨_, rfl⟩
            have hb8_55 : b55 0 8 = tkz a1 := by rw [eb55, up2_nk (by decide), up2_s]
            have hb4_55 : b55 4 = b1 4 := by rw [eb55, up2_rown (by decide), up2_rown (by decide)]
            have hb6_55 : b55 6 = b1 6 := by rw [eb55, up2_rown (by decide), up2_rown (by decide)]
            rw [← ea55] at h55L
            rw [← eb55] at h55I
            subst h55I
            subst h55L
            refine n_iinc (lo' := [(2, .int (iI (x2 + 1))), (0, .ref M), (1, .int (iI t))]) C 0 dX6_awaitDelivery_58 rfl rfl (by decide) rfl ?_
            refine r_goto (tgt := 42) C dX6_awaitDelivery_61 (by decide) ?_
            exact ih _ (by first | omega | (rw [← hk]; omega)) ((x2 + 1)) (j + 1) a55 b55 (by omega) (by omega) (by rw [ea55]; have h := tick_ok hk1.1 hk1.2 (by omega); exact ⟨by rw [show T + ((j + 1 : Nat) : Int) = T + j + 1 by omega]; exact h.1, h.2.1⟩) (by rw [hb4_55, hb1]) (by rw [hb8_55]; exact tkz_b hk1.1 hk1.2 (by omega)) (by rw [hb8_55, ea55, ← hR2]) (by rw [hb8_55, ea55, ← hZ2]) rfl
      exact lp42 _ 0 0 a b37 rfl (by omega) ⟨by rw [show T + ((0 : Nat) : Int) = T by omega]; exact hI, hN⟩ (by rw [eb37, up2_rown (by decide)]) (by rw [eb37, up2_s]; omega) (by rw [eb37, up2_s]; rfl) (by rw [eb37, up2_s]; rfl) rfl
    · refine r_bipush (v := iI (-5)) C dX6_awaitDelivery_31 (by decide) ?_
      refine r_iret C hr hlk dX6_awaitDelivery_33 (Nat.zero_le _) (Nat.zero_le _) ?_
      exact ⟨_, rfl, rfl, MB.self, Or.inr (Or.inl ⟨c9, by omega, rfl, rfl⟩)⟩
  · refine r_bipush (v := iI (-2)) C dX6_awaitDelivery_12 (by decide) ?_
    refine r_iret C hr hlk dX6_awaitDelivery_14 (Nat.zero_le _) (Nat.zero_le _) ?_
    rw [b2_eq0] at c9
    exact ⟨_, rfl, rfl, MB.self, Or.inl ⟨c9, rfl, rfl⟩⟩
set_option maxHeartbeats 4000000 in
set_option maxRecDepth 20000 in
theorem k_X6_restOf {l : Launch} {G : Gd} {base : Nat} {Y : MY} {I : MI} {L : ML} {M : Nat} {a : Sa} {N T : Int} (hI : Inv N T a) {fi : Int} (f : Nat) (hM : MLy base Y M) (hf : fi = f) (hf6 : f < 6) : Ct l yX6_restOf cX6_restOf 5 (some .long) (rmz 3 64) G base [.ref M, .int (iI fi)] Y I (rL L (M + 1) a) (PL (rst a f) Y I (rL L (M + 1) a)) := by
  refine Ct.of (own := RX6) (lo := [(0, .ref M), (1, .int (iI fi))]) (by decide) rfl (Nat.le_of_ble_eq_true rfl) rfl ?_
  intro zp ze zs zm zargs zbl zmt zc C hr hlk hnm
  have hT := hI.1
  unfold TopOK at hT
  have ho : old a = (a 7 - 120).toNat := rfl
  refine r_lconst (v := lI 0) C dX6_restOf_0 (by decide) ?_
  refine r_lstore_n (lo' := [(2, .long (lI 0)), (0, .ref M), (1, .int (iI fi))]) C dX6_restOf_1 rfl (by decide) rfl ?_
  refine r_aload_n C 1 dX6_restOf_2 rfl rfl ?_
  refine cV0_PI C (k_X6_oldest hM (by omega)) cw_X6_56 (rm_ok rfl rfl (Nat.zero_le _) (Nat.zero_le _)) (Nat.le_of_ble_eq_true rfl) hM.1.1 dX6_restOf_3 ?_
  refine n_topi (fun x6 ex6 => ?_)
  refine r_istore (lo' := [(4, .int (iI x6)), (2, .long (lI 0)), (0, .ref M), (1, .int (iI fi))]) C dX6_restOf_6 (by decide) rfl ?_
  have lp8 : ∀ (k : Nat) (x2 : Int) (x4 : Int) (p : Nat) (hx4 : x4 = p) (hp : old a ≤ p ∧ (p : Int) ≤ a 7) (hs : x2 + rsO a f ((a 7).toNat - p) p = rst a f) (hsb : 0 ≤ x2 ∧ x2 ≤ 2000 * (p - old a)), (a 7).toNat - p = k → Bd zp l ze (rmz 3 64) zs zm zargs zbl zmt zc 5 G base (PL (rst a f) Y I (rL L (M + 1) a)) 8 [(4, .int (iI x4)), (2, .long (lI x2)), (0, .ref M), (1, .int (iI fi))] [] Y I (rL L (M + 1) a) 0 0 := by
    intro k
    induction k using Nat.strongRecOn with
    | _ k ih =>
    intro x2 x4 p hx4 hp hs hsb hk
    refine r_iload C 0 dX6_restOf_8 rfl ?_
    refine n_i2l C dX6_restOf_10 (by constructor <;> omega) ?_
    refine r_aload_n C 2 dX6_restOf_11 rfl rfl ?_
    refine r_getR C fl_X6_7 rfl dX6_restOf_12 hM.1.1 hM.2.1 ?_
    refine r_bipush (v := iI 7) C dX6_restOf_15 (by decide) ?_
    refine a_lald C (v := (a 7)) 7 dX6_restOf_17 hM.1.2.1 ⟨rfl, by decide, by decide⟩ rfl ?_
    refine n_lcmp_ge (tgt := 72) C dX6_restOf_18 dX6_restOf_19 rfl rfl (by decide) (by constructor <;> omega) (by constructor <;> omega) (fun c18 => ?_) (fun c18 => ?_)
    · refine r_lload_n C 1 dX6_restOf_72 rfl rfl ?_
      refine r_lret C hr hlk dX6_restOf_73 (Nat.zero_le _) (Nat.zero_le _) ?_
      exact ⟨congrArg (fun z => some (Value.long (lI z))) (by rw [← hs, show (a 7).toNat - p = 0 by omega]; show x2 = x2 + 0; omega), rfl, rfl, rfl⟩
    · have hP := hI.2.2.1 p hp.1 (by omega)
      unfold PkOK at hP
      refine r_lload_n C 1 dX6_restOf_22 rfl rfl ?_
      have jn64 : ∀ x64 : Int, (¬ (a (125 + 11 * (p % 120) + 0)) = fi ∧ x64 = 0) ∨ ((a (125 + 11 * (p % 120) + 0)) = fi ∧ (b2 (a (125 + 11 * (p % 120) + 4) ≤ 1)) = 0 ∧ x64 = 0) ∨ ((a (125 + 11 * (p % 120) + 0)) = fi ∧ ¬ (b2 (a (125 + 11 * (p % 120) + 4) ≤ 1)) = 0 ∧ x64 = ((a (125 + 11 * (p % 120) + 1)) - (a (125 + 11 * (p % 120) + 5)))) → Bd zp l ze (rmz 3 64) zs zm zargs zbl zmt zc 5 G base (PL (rst a f) Y I (rL L (M + 1) a)) 64 [(4, .int (iI x4)), (2, .long (lI x2)), (0, .ref M), (1, .int (iI fi))] [.long (lI x64), .long (lI x2)] Y I (rL L (M + 1) a) 0 0 := by
        intro x64 hx64
        have hv : x64 = if a (125 + 11 * (p % 120) + 0) = f ∧ a (125 + 11 * (p % 120) + 4) ≤ 1 then a (125 + 11 * (p % 120) + 1) - a (125 + 11 * (p % 120) + 5) else 0 := by
          simp only [b2_eq0] at hx64
          split <;> omega
        have hvb : 0 ≤ x64 ∧ x64 ≤ 2000 := by
          rw [hv]
          split <;> omega
        refine n_ladd C dX6_restOf_64 ?_
        refine n_topl (fun x65 ex65 => ?_)
        refine r_lstore_n (lo' := [(2, .long (lI x65)), (4, .int (iI x4)), (0, .ref M), (1, .int (iI fi))]) C dX6_restOf_65 rfl (by decide) rfl ?_
        refine n_iinc (lo' := [(4, .int (iI (x4 + 1))), (2, .long (lI x65)), (0, .ref M), (1, .int (iI fi))]) C 1 dX6_restOf_66 rfl rfl (by decide) rfl ?_
        refine r_goto (tgt := 8) C dX6_restOf_69 (by decide) ?_
        exact ih _ (by first | omega | (rw [← hk]; omega)) x65 ((x4 + 1)) (p + 1) (by omega) (by omega) (by rw [← hs, show (a 7).toNat - p = ((a 7).toNat - (p + 1)) + 1 by omega]; show _ = x2 + ((if a (125 + 11 * (p % 120) + 0) = f ∧ a (125 + 11 * (p % 120) + 4) ≤ 1 then a (125 + 11 * (p % 120) + 1) - a (125 + 11 * (p % 120) + 5) else 0) + rsO a f ((a 7).toNat - (p + 1)) (p + 1)); rw [← hv]; omega) (by omega) rfl
      refine r_aload_n C 2 dX6_restOf_23 rfl rfl ?_
      refine r_iload C 0 dX6_restOf_24 rfl ?_
      refine r_iconst (v := iI 0) C dX6_restOf_26 rfl ?_
      refine cV2_PL C (k_X6_of p 0 hM (by omega) (by omega) (by omega)) cw_X6_49 (rm_ok rfl rfl (Nat.zero_le _) (Nat.zero_le _)) (Nat.le_of_ble_eq_true rfl) hM.1.1 dX6_restOf_27 ?_
      refine r_iload_n C 3 dX6_restOf_30 rfl rfl ?_
      refine n_i2l C dX6_restOf_31 (by constructor <;> omega) ?_
      refine n_lcmp_ne (tgt := 63) C dX6_restOf_32 dX6_restOf_33 rfl rfl (by decide) (by constructor <;> omega) (by constructor <;> omega) (fun c32 => ?_) (fun c32 => ?_)
      · refine r_lconst (v := lI 0) C dX6_restOf_63 (by decide) ?_
        exact jn64 _ (Or.inl ⟨c32, rfl⟩)
      · refine r_aload_n C 2 dX6_restOf_36 rfl rfl ?_
        refine r_iload C 0 dX6_restOf_37 rfl ?_
        refine cV1_PI C (k_X6_isQueued p hM (by omega) (by omega) (by omega)) cw_X6_60 (rm_ok rfl rfl (Nat.zero_le _) (Nat.zero_le _)) (Nat.le_of_ble_eq_true rfl) hM.1.1 dX6_restOf_39 ?_
        refine n_if_eq (tgt := 63) C dX6_restOf_42 (by decide) b2_i (fun c42 => ?_) (fun c42 => ?_)
        · refine r_lconst (v := lI 0) C dX6_restOf_63 (by decide) ?_
          exact jn64 _ (Or.inr (Or.inl ⟨c32, c42, rfl⟩))
        · refine r_aload_n C 2 dX6_restOf_45 rfl rfl ?_
          refine r_iload C 0 dX6_restOf_46 rfl ?_
          refine r_iconst (v := iI 1) C dX6_restOf_48 rfl ?_
          refine cV2_PL C (k_X6_of p 1 hM (by omega) (by omega) (by omega)) cw_X6_49 (rm_ok rfl rfl (Nat.zero_le _) (Nat.zero_le _)) (Nat.le_of_ble_eq_true rfl) hM.1.1 dX6_restOf_49 ?_
          refine r_aload_n C 2 dX6_restOf_52 rfl rfl ?_
          refine r_iload C 0 dX6_restOf_53 rfl ?_
          refine r_iconst (v := iI 5) C dX6_restOf_55 rfl ?_
          refine cV2_PL C (k_X6_of p 5 hM (by omega) (by omega) (by omega)) cw_X6_49 (rm_ok rfl rfl (Nat.zero_le _) (Nat.zero_le _)) (Nat.le_of_ble_eq_true rfl) hM.1.1 dX6_restOf_56 ?_
          refine n_lsub C dX6_restOf_59 ?_
          refine r_goto (tgt := 64) C dX6_restOf_60 (by decide) ?_
          exact jn64 _ (Or.inr (Or.inr (⟨c32, c42, rfl⟩)))
  exact lp8 _ 0 x6 (old a) (by omega) (by omega) (by unfold rst; omega) (by omega) rfl
