def mixO (s q : Sa) (o i : Nat) : Sa := fun k => if o ≤ k ∧ k < o + i then s (k - o) else q k
theorem mixO_0 {s q : Sa} {o : Nat} : mixO s q o 0 = q := by
  funext k
  exact if_neg (by omega)
theorem mixO_s {s q : Sa} {o i : Nat} : up1 (mixO s q o i) (o + i) (s i) = mixO s q o (i + 1) := by
  funext k
  by_cases h : k = o + i
  · subst h; rw [up1_s]; unfold mixO; rw [if_pos (by omega), Nat.add_sub_cancel_left]
  · rw [up1_n h]
    unfold mixO
    by_cases h2 : o ≤ k ∧ k < o + i
    · rw [if_pos h2, if_pos (by omega)]
    · rw [if_neg h2, if_neg (by omega)]
def slt (q : Sa) (n : Nat) : Sa := fun k => q (1826 * n + k)
/-- how many packets wait in queues -/
def qcN (a : Sa) : Nat → Nat → Int
  | 0, _ => 0
  | n + 1, p => b2 (a (125 + 11 * (p % 120) + 4) ≤ 1) + qcN a n (p + 1)
def qct (a : Sa) : Int := qcN a ((a 7).toNat - old a) (old a)
def dly (a : Sa) (p : Nat) : Int := if a (125 + 11 * (p % 120) + 4) = 3 then a (125 + 11 * (p % 120) + 8) - a (125 + 11 * (p % 120) + 2) else 1000000000
/-- the greatest delay of the packets that were in queues in a, as it is in c -/
def wsO (a c : Sa) : Nat → Nat → Int → Int
  | 0, _, z => z
  | n + 1, p, z => wsO a c n (p + 1) (if a (125 + 11 * (p % 120) + 4) ≤ 1 then (if z < dly c p then dly c p else z) else z)
def wst (a c : Sa) : Int := wsO a c ((a 7).toNat - old a) (old a) 0
noncomputable def bsW (a : Sa) (f : Nat) (v : Int) (t : Nat) : Int := wst a (tkN (up1 a (17 + 18 * f + 2) v) t)
/-- n values from the i-th on: the best so far x, with the delay z -/
noncomputable def bsO (a : Sa) (f : Nat) (u e : Int) (t : Nat) : Nat → Nat → Int → Int → Int
  | 0, _, x, _ => x
  | n + 1, i, x, z => if z < 0 ∨ bsW a f (u + e * i) t < z then bsO a f u e t n (i + 1) (u + e * i) (bsW a f (u + e * i) t) else bsO a f u e t n (i + 1) x z
def bsOK (u e n t : Int) : Prop := (0 ≤ u ∧ u ≤ 1000) ∧ (1 ≤ e ∧ e ≤ 500) ∧ (1 ≤ n ∧ n ≤ 6) ∧ (1 ≤ t ∧ t ≤ 1000)
noncomputable def aBs (a : Sa) (f u e n t : Int) : Int := if ¬ (0 ≤ f ∧ f < a 2) then -1 else if ¬ (((0 ≤ u ∧ u ≤ 1000) ∧ (1 ≤ e ∧ e ≤ 500) ∧ (1 ≤ n ∧ n ≤ 6) ∧ (1 ≤ t ∧ t ≤ 1000)) ∧ u + e * (n - 1) ≤ 1000) then -2 else if qct a = 0 then -5 else bsO a f.toNat u e t.toNat n.toNat 0 u (-1)
theorem qcN_b {a : Sa} : ∀ n p, 0 ≤ qcN a n p ∧ qcN a n p ≤ n
  | 0, _ => by unfold qcN; omega
  | n + 1, p => by
    have h := qcN_b (a := a) n (p + 1)
    unfold qcN b2
    split <;> omega
theorem dly_b {c : Sa} {N T : Int} (hI : Inv N T c) {p : Nat} (hk : old c ≤ p ∧ (p : Int) < c 7) : -1002006 ≤ dly c p ∧ dly c p ≤ 1000000000 := by
  have hT := hI.1
  unfold TopOK at hT
  have hP := hI.2.2.1 p hk.1 hk.2
  unfold PkOK at hP
  unfold dly
  split <;> omega
theorem wsO_b {a c : Sa} {N T : Int} (hI : Inv N T c) : ∀ n p z, old c ≤ p → ((p + n : Nat) : Int) ≤ c 7 → 0 ≤ z ∧ z ≤ 1000000000 → 0 ≤ wsO a c n p z ∧ wsO a c n p z ≤ 1000000000
  | 0, _, _, _, _, h => h
  | n + 1, p, z, h1, h2, h => by
    unfold wsO
    refine wsO_b hI n (p + 1) _ (by omega) (by omega) ?_
    have := dly_b hI (p := p) ⟨h1, by omega⟩
    split
    · split <;> omega
    · exact h
theorem b2_01 {c : Prop} [Decidable c] : b2 c = 0 ∨ b2 c = 1 := by
  unfold b2
  split <;> omega
set_option maxHeartbeats 4000000 in
set_option maxRecDepth 20000 in
theorem k_X6_save {l : Launch} {G : Gd} {base : Nat} {Y : MY} {I : MI} {L : ML} {M : Nat} {a q : Sa} {N T : Int} (hI : Inv N T a) {b : Nat → Nat → Int} {s : Int} (hM : MLy base Y M) (hs0 : -2147483648 ≤ s ∧ s < 2147483648) : Ct l yX6_save cX6_save 3 (some .int) (rmz 1 25) G base [.ref M, .int (iI s)] Y (mI I M 7 b) (rL (rL L (M + 3) q) (M + 1) a) (EI Y (fun r I' L' => (¬ (0 ≤ s ∧ s ≤ 1) ∧ r = -2 ∧ I' = mI I M 7 b ∧ L' = rL (rL L (M + 3) q) (M + 1) a) ∨ ((0 ≤ s ∧ s ≤ 1) ∧ r = a 0 ∧ I' = mI I M 7 (up2 b 4 s.toNat 1) ∧ L' = rL (rL L (M + 3) (mixO a q (1826 * s.toNat) 1826)) (M + 1) a))) := by
  refine Ct.of (own := RX6) (lo := [(0, .ref M), (1, .int (iI s))]) (by decide) rfl (Nat.le_of_ble_eq_true rfl) rfl ?_
  intro zp ze zs zm zargs zbl zmt zc C hr hlk hnm
  have hT := hI.1
  unfold TopOK at hT
  refine r_iload_n C 1 dX6_save_0 rfl rfl ?_
  refine n_i2l C dX6_save_1 (by constructor <;> omega) ?_
  refine r_lconst (v := lI 0) C dX6_save_2 (by decide) ?_
  refine r_lconst (v := lI 1) C dX6_save_3 (by decide) ?_
  refine cS3_PI C (k_X6_in (by constructor <;> omega) ⟨by decide, by decide⟩ ⟨by decide, by decide⟩) cw_X6_36 (rm_ok rfl rfl (Nat.zero_le _) (Nat.zero_le _)) (Nat.le_of_ble_eq_true rfl) dX6_save_4 ?_
  refine n_if_ne (tgt := 13) C dX6_save_7 (by decide) b2_i (fun c7 => ?_) (fun c7 => ?_)
  · rw [b2_eq0, Classical.not_not] at c7
    obtain ⟨sn, hsn⟩ := Int.eq_ofNat_of_zero_le (show 0 ≤ s by omega)
    refine r_iconst (v := iI 0) C dX6_save_13 rfl ?_
    refine r_istore_n (lo' := [(2, .int (iI 0)), (0, .ref M), (1, .int (iI s))]) C dX6_save_14 rfl (by decide) rfl ?_
    have lp15 : ∀ (k : Nat) (x2 : Int) (i : Nat) (q1 : Sa) (hx2 : x2 = i) (hi : i ≤ 1826) (hq1 : q1 = mixO a q (1826 * sn) i), 1826 - i = k → Bd zp l ze (rmz 1 25) zs zm zargs zbl zmt zc 3 G base (EI Y (fun r I' L' => (¬ (0 ≤ s ∧ s ≤ 1) ∧ r = -2 ∧ I' = mI I M 7 b ∧ L' = rL (rL L (M + 3) q) (M + 1) a) ∨ ((0 ≤ s ∧ s ≤ 1) ∧ r = a 0 ∧ I' = mI I M 7 (up2 b 4 s.toNat 1) ∧ L' = rL (rL L (M + 3) (mixO a q (1826 * s.toNat) 1826)) (M + 1) a))) 15 [(2, .int (iI x2)), (0, .ref M), (1, .int (iI s))] [] Y (mI I M 7 b) (rL (rL L (M + 3) q1) (M + 1) a) 0 0 := by
      intro k
      induction k using Nat.strongRecOn with
      | _ k ih =>
      intro x2 i q1 hx2 hi hq1 hk
      refine r_iload_n C 0 dX6_save_15 rfl rfl ?_
      refine r_sipush (v := iI 1826) C dX6_save_16 (by decide) ?_
      refine n_icmp_ge (tgt := 46) C dX6_save_19 (by decide) (by constructor <;> omega) ⟨by decide, by decide⟩ (fun c19 => ?_) (fun c19 => ?_)
      · refine r_aload_n C 1 dX6_save_46 rfl rfl ?_
        refine r_getR C fl_X6_19 rfl dX6_save_47 hM.1.1 hM.2.2.2.2.1 ?_
        refine r_iload_n C 2 dX6_save_50 rfl rfl ?_
        refine r_iconst (v := iI 1) C dX6_save_51 rfl ?_
        refine g_zast C (4) sn rfl (by decide) dX6_save_52 hM.1.2.2.2.2.1 ⟨congrArg iI (by omega), (by omega), by decide⟩ (by omega) (fun b52 eb52 => ?_)
        refine r_aload_n C 1 dX6_save_53 rfl rfl ?_
        refine r_getR C fl_X6_7 rfl dX6_save_54 hM.1.1 hM.2.1 ?_
        refine r_iconst (v := iI 0) C dX6_save_57 rfl ?_
        refine a_lald C (v := (a 0)) 0 dX6_save_58 hM.1.2.1 ⟨rfl, by decide, by decide⟩ rfl ?_
        refine n_l2i C dX6_save_59 ?_
        refine r_iret C hr hlk dX6_save_60 (Nat.zero_le _) (Nat.zero_le _) ?_
        have hi2 : i = 1826 := by omega
        subst hi2
        exact ⟨_, rfl, rfl, Or.inr ⟨c7, rfl, by rw [eb52, show s.toNat = sn by omega], by rw [hq1, show s.toNat = sn by omega]⟩⟩
      · refine r_aload_n C 1 dX6_save_22 rfl rfl ?_
        refine r_getR C fl_X6_16 rfl dX6_save_23 hM.1.1 hM.2.2.2.1 ?_
        refine r_sipush (v := iI 1826) C dX6_save_26 (by decide) ?_
        refine r_iload_n C 2 dX6_save_29 rfl rfl ?_
        refine n_imul C dX6_save_30 ?_
        refine r_iload_n C 0 dX6_save_31 rfl rfl ?_
        refine n_iadd C dX6_save_32 ?_
        refine r_aload_n C 1 dX6_save_33 rfl rfl ?_
        refine r_getR C fl_X6_7 rfl dX6_save_34 hM.1.1 hM.2.1 ?_
        refine r_iload_n C 0 dX6_save_37 rfl rfl ?_
        refine a_lald C (v := (a i)) i dX6_save_38 hM.1.2.1 ⟨congrArg iI (by omega), (by omega), by decide⟩ rfl ?_
        refine b_last C (((1826 * sn) + i)) (by omega) dX6_save_39 hM.1.2.2.2.1 ⟨congrArg iI (by omega), (by omega), by decide⟩ (fun s39 es39 => ?_)
        refine n_iinc (lo' := [(2, .int (iI (x2 + 1))), (0, .ref M), (1, .int (iI s))]) C 0 dX6_save_40 rfl rfl (by decide) rfl ?_
        refine r_goto (tgt := 15) C dX6_save_43 (by decide) ?_
        exact ih _ (by first | omega | (rw [← hk]; omega)) ((x2 + 1)) (i + 1) s39 (by omega) (by omega) (by rw [es39, hq1, mixO_s]) rfl
    exact lp15 _ 0 0 q rfl (by omega) mixO_0.symm rfl
  · refine r_bipush (v := iI (-2)) C dX6_save_10 (by decide) ?_
    refine r_iret C hr hlk dX6_save_12 (Nat.zero_le _) (Nat.zero_le _) ?_
    rw [b2_eq0] at c7
    exact ⟨_, rfl, rfl, Or.inl ⟨c7, rfl, rfl, rfl⟩⟩
set_option maxHeartbeats 4000000 in
set_option maxRecDepth 20000 in
theorem k_X6_restore {l : Launch} {G : Gd} {base : Nat} {Y : MY} {I : MI} {L : ML} {M : Nat} {a q : Sa} {N T : Int} (hI : Inv N T a) {b : Nat → Nat → Int} {s : Int} (hM : MLy base Y M) (hs0 : -2147483648 ≤ s ∧ s < 2147483648) (hb4 : ∀ k, k < 2 → b 4 k = 0 ∨ b 4 k = 1) : Ct l yX6_restore cX6_restore 3 (some .int) (rmz 1 25) G base [.ref M, .int (iI s)] Y (mI I M 7 b) (rL (rL L (M + 3) q) (M + 1) a) (EI Y (fun r I' L' => I' = mI I M 7 b ∧ ((¬ (0 ≤ s ∧ s ≤ 1) ∧ r = -2 ∧ L' = rL (rL L (M + 3) q) (M + 1) a) ∨ ((0 ≤ s ∧ s ≤ 1) ∧ b 4 s.toNat = 0 ∧ r = -5 ∧ L' = rL (rL L (M + 3) q) (M + 1) a) ∨ ((0 ≤ s ∧ s ≤ 1) ∧ ¬ b 4 s.toNat = 0 ∧ r = q (1826 * s.toNat) ∧ L' = rL (rL L (M + 3) q) (M + 1) (slt q s.toNat))))) := by
  refine Ct.of (own := RX6) (lo := [(0, .ref M), (1, .int (iI s))]) (by decide) rfl (Nat.le_of_ble_eq_true rfl) rfl ?_
  intro zp ze zs zm zargs zbl zmt zc C hr hlk hnm
  have hT := hI.1
  unfold TopOK at hT
  refine r_iload_n C 1 dX6_restore_0 rfl rfl ?_
  refine n_i2l C dX6_restore_1 (by constructor <;> omega) ?_
  refine r_lconst (v := lI 0) C dX6_restore_2 (by decide) ?_
  refine r_lconst (v := lI 1) C dX6_restore_3 (by decide) ?_
  refine cS3_PI C (k_X6_in (by constructor <;> omega) ⟨by decide, by decide⟩ ⟨by decide, by decide⟩) cw_X6_36 (rm_ok rfl rfl (Nat.zero_le _) (Nat.zero_le _)) (Nat.le_of_ble_eq_true rfl) dX6_restore_4 ?_
  refine n_if_ne (tgt := 13) C dX6_restore_7 (by decide) b2_i (fun c7 => ?_) (fun c7 => ?_)
  · rw [b2_eq0, Classical.not_not] at c7
    obtain ⟨sn, hsn⟩ := Int.eq_ofNat_of_zero_le (show 0 ≤ s by omega)
    have hb := hb4 sn (by omega)
    refine r_aload_n C 0 dX6_restore_13 rfl rfl ?_
    refine r_getR C fl_X6_19 rfl dX6_restore_14 hM.1.1 hM.2.2.2.2.1 ?_
    refine r_iload_n C 1 dX6_restore_17 rfl rfl ?_
    refine g_zald C (v := (b 4 sn)) (4) sn rfl (by decide) dX6_restore_18 hM.1.2.2.2.2.1 ⟨congrArg iI (by omega), (by omega), by decide⟩ rfl ?_
    refine n_if_ne (tgt := 25) C dX6_restore_19 (by decide) (by constructor <;> omega) (fun c19 => ?_) (fun c19 => ?_)
    · refine r_iconst (v := iI 0) C dX6_restore_25 rfl ?_
      refine r_istore_n (lo' := [(2, .int (iI 0)), (0, .ref M), (1, .int (iI s))]) C dX6_restore_26 rfl (by decide) rfl ?_
      have lp27 : ∀ (k : Nat) (x2 : Int) (i : Nat) (a1 : Sa) (hx2 : x2 = i) (hi : i ≤ 1826) (ha1 : a1 = mix (slt q sn) a i), 1826 - i = k → Bd zp l ze (rmz 1 25) zs zm zargs zbl zmt zc 3 G base (EI Y (fun r I' L' => I' = mI I M 7 b ∧ ((¬ (0 ≤ s ∧ s ≤ 1) ∧ r = -2 ∧ L' = rL (rL L (M + 3) q) (M + 1) a) ∨ ((0 ≤ s ∧ s ≤ 1) ∧ b 4 s.toNat = 0 ∧ r = -5 ∧ L' = rL (rL L (M + 3) q) (M + 1) a) ∨ ((0 ≤ s ∧ s ≤ 1) ∧ ¬ b 4 s.toNat = 0 ∧ r = q (1826 * s.toNat) ∧ L' = rL (rL L (M + 3) q) (M + 1) (slt q s.toNat))))) 27 [(2, .int (iI x2)), (0, .ref M), (1, .int (iI s))] [] Y (mI I M 7 b) (rL (rL L (M + 3) q) (M + 1) a1) 0 0 := by
        intro k
        induction k using Nat.strongRecOn with
        | _ k ih =>
        intro x2 i a1 hx2 hi ha1 hk
        refine r_iload_n C 0 dX6_restore_27 rfl rfl ?_
        refine r_sipush (v := iI 1826) C dX6_restore_28 (by decide) ?_
        refine n_icmp_ge (tgt := 58) C dX6_restore_31 (by decide) (by constructor <;> omega) ⟨by decide, by decide⟩ (fun c31 => ?_) (fun c31 => ?_)
        · have hi2 : i = 1826 := by omega
          subst hi2
          have ha0 : a1 0 = q (1826 * sn) := by rw [ha1, mix_lt (by omega)]; rfl
          refine r_row (s1 := slt q sn) ⟨1826, hM.1.2.1, fun k hk => by rw [ha1]; exact mix_lt hk⟩ ?_
          refine r_aload_n C 1 dX6_restore_58 rfl rfl ?_
          refine r_getR C fl_X6_7 rfl dX6_restore_59 hM.1.1 hM.2.1 ?_
          refine r_iconst (v := iI 0) C dX6_restore_62 rfl ?_
          refine a_lald C (v := ((slt q sn) 0)) 0 dX6_restore_63 hM.1.2.1 ⟨rfl, by decide, by decide⟩ rfl ?_
          refine n_l2i C dX6_restore_64 ?_
          refine r_iret C hr hlk dX6_restore_65 (Nat.zero_le _) (Nat.zero_le _) ?_
          exact ⟨_, rfl, rfl, rfl, Or.inr (Or.inr ⟨c7, by rw [show s.toNat = sn by omega]; exact c19, by rw [show s.toNat = sn by omega]; rfl, by rw [show s.toNat = sn by omega]⟩)⟩
        · refine r_aload_n C 1 dX6_restore_34 rfl rfl ?_
          refine r_getR C fl_X6_7 rfl dX6_restore_35 hM.1.1 hM.2.1 ?_
          refine r_iload_n C 0 dX6_restore_38 rfl rfl ?_
          refine r_aload_n C 1 dX6_restore_39 rfl rfl ?_
          refine r_getR C fl_X6_16 rfl dX6_restore_40 hM.1.1 hM.2.2.2.1 ?_
          refine r_sipush (v := iI 1826) C dX6_restore_43 (by decide) ?_
          refine r_iload_n C 2 dX6_restore_46 rfl rfl ?_
          refine n_imul C dX6_restore_47 ?_
          refine r_iload_n C 0 dX6_restore_48 rfl rfl ?_
          refine n_iadd C dX6_restore_49 ?_
          refine b_lald C (v := (q ((1826 * sn) + i))) (((1826 * sn) + i)) (by omega) dX6_restore_50 hM.1.2.2.2.1 ⟨congrArg iI (by omega), (by omega), by decide⟩ rfl ?_
          refine a_last C i dX6_restore_51 hM.1.2.1 ⟨congrArg iI (by omega), (by omega), by decide⟩ (fun a51 ea51 => ?_)
          refine n_iinc (lo' := [(2, .int (iI (x2 + 1))), (0, .ref M), (1, .int (iI s))]) C 0 dX6_restore_52 rfl rfl (by decide) rfl ?_
          refine r_goto (tgt := 27) C dX6_restore_55 (by decide) ?_
          exact ih _ (by first | omega | (rw [← hk]; omega)) ((x2 + 1)) (i + 1) a51 (by omega) (by omega) (by rw [ea51, ha1, ← mix_s]; rfl) rfl
      exact lp27 _ 0 0 a rfl (by omega) mix_0.symm rfl
    · refine r_bipush (v := iI (-5)) C dX6_restore_22 (by decide) ?_
      refine r_iret C hr hlk dX6_restore_24 (Nat.zero_le _) (Nat.zero_le _) ?_
      exact ⟨_, rfl, rfl, rfl, Or.inr (Or.inl ⟨c7, by rw [show s.toNat = sn by omega]; exact c19, rfl, rfl⟩)⟩
  · refine r_bipush (v := iI (-2)) C dX6_restore_10 (by decide) ?_
    refine r_iret C hr hlk dX6_restore_12 (Nat.zero_le _) (Nat.zero_le _) ?_
    rw [b2_eq0] at c7
    exact ⟨_, rfl, rfl, rfl, Or.inl ⟨c7, rfl, rfl⟩⟩
set_option maxHeartbeats 4000000 in
set_option maxRecDepth 20000 in
theorem k_X6_markQueued {l : Launch} {G : Gd} {base : Nat} {Y : MY} {I : MI} {L : ML} {M : Nat} {a : Sa} {N T : Int} (hI : Inv N T a) {b : Nat → Nat → Int}  (hM : MLy base Y M)  : Ct l yX6_markQueued cX6_markQueued 3 (some .int) (rmz 3 64) G base [.ref M] Y (mI I M 7 b) (rL L (M + 1) a) (EI Y (fun r I' L' => r = qct a ∧ L' = rL L (M + 1) a ∧ ∃ b', I' = mI I M 7 b' ∧ b' 4 = b 4 ∧ ∀ p : Nat, old a ≤ p → (p : Int) < a 7 → b' 6 (p % 120) = b2 (a (125 + 11 * (p % 120) + 4) ≤ 1))) := by
  refine Ct.of (own := RX6) (lo := [(0, .ref M)]) (by decide) rfl (Nat.le_of_ble_eq_true rfl) rfl ?_
  intro zp ze zs zm zargs zbl zmt zc C hr hlk hnm
  have hT := hI.1
  unfold TopOK at hT
  have ho : old a = (a 7 - 120).toNat := rfl
  refine r_iconst (v := iI 0) C dX6_markQueued_0 rfl ?_
  refine r_istore_n (lo' := [(1, .int (iI 0)), (0, .ref M)]) C dX6_markQueued_1 rfl (by decide) rfl ?_
  refine r_aload_n C 1 dX6_markQueued_2 rfl rfl ?_
  refine cV0_PI C (k_X6_oldest hM (by omega)) cw_X6_56 (rm_ok rfl rfl (Nat.zero_le _) (Nat.zero_le _)) (Nat.le_of_ble_eq_true rfl) hM.1.1 dX6_markQueued_3 ?_
  refine n_topi (fun x6 ex6 => ?_)
  refine r_istore_n (lo' := [(2, .int (iI x6)), (1, .int (iI 0)), (0, .ref M)]) C dX6_markQueued_6 rfl (by decide) rfl ?_
  have lp7 : ∀ (k : Nat) (x1 : Int) (x2 : Int) (p : Nat) (b1 : Nat → Nat → Int) (hx2 : x2 = p) (hp : old a ≤ p ∧ (p : Int) ≤ a 7) (hs : x1 + qcN a ((a 7).toNat - p) p = qct a) (hb1 : b1 4 = b 4) (hm : ∀ r : Nat, old a ≤ r → r < p → b1 6 (r % 120) = b2 (a (125 + 11 * (r % 120) + 4) ≤ 1)), (a 7).toNat - p = k → Bd zp l ze (rmz 3 64) zs zm zargs zbl zmt zc 3 G base (EI Y (fun r I' L' => r = qct a ∧ L' = rL L (M + 1) a ∧ ∃ b', I' = mI I M 7 b' ∧ b' 4 = b 4 ∧ ∀ p : Nat, old a ≤ p → (p : Int) < a 7 → b' 6 (p % 120) = b2 (a (125 + 11 * (p % 120) + 4) ≤ 1))) 7 [(2, .int (iI x2)), (1, .int (iI x1)), (0, .ref M)] [] Y (mI I M 7 b1) (rL L (M + 1) a) 0 0 := by
    intro k
    induction k using Nat.strongRecOn with
    | _ k ih =>
    intro x1 x2 p b1 hx2 hp hs hb1 hm hk
    refine r_iload_n C 0 dX6_markQueued_7 rfl rfl ?_
    refine n_i2l C dX6_markQueued_8 (by constructor <;> omega) ?_
    refine r_aload_n C 2 dX6_markQueued_9 rfl rfl ?_
    refine r_getR C fl_X6_7 rfl dX6_markQueued_10 hM.1.1 hM.2.1 ?_
    refine r_bipush (v := iI 7) C dX6_markQueued_13 (by decide) ?_
    refine a_lald C (v := (a 7)) 7 dX6_markQueued_15 hM.1.2.1 ⟨rfl, by decide, by decide⟩ rfl ?_
    refine n_lcmp_ge (tgt := 56) C dX6_markQueued_16 dX6_markQueued_17 rfl rfl (by decide) (by constructor <;> omega) (by constructor <;> omega) (fun c16 => ?_) (fun c16 => ?_)
    · refine r_iload_n C 1 dX6_markQueued_56 rfl rfl ?_
      refine r_iret C hr hlk dX6_markQueued_57 (Nat.zero_le _) (Nat.zero_le _) ?_
      exact ⟨_, rfl, rfl, by rw [← hs, show (a 7).toNat - p = 0 by omega]; show x1 = x1 + 0; omega, rfl, b1, rfl, hb1, fun r h1 h2 => hm r h1 (by omega)⟩
    · have hP := hI.2.2.1 p hp.1 (by omega)
      unfold PkOK at hP
      refine r_aload_n C 2 dX6_markQueued_20 rfl rfl ?_
      refine r_getR C fl_X6_27 rfl dX6_markQueued_21 hM.1.1 hM.2.2.2.2.2.2 ?_
      refine r_iload_n C 0 dX6_markQueued_24 rfl rfl ?_
      refine r_bipush (v := iI 120) C dX6_markQueued_25 (by decide) ?_
      refine n_irem C dX6_markQueued_27 (by omega) (by omega) ?_
      refine r_aload_n C 2 dX6_markQueued_28 rfl rfl ?_
      refine r_iload_n C 0 dX6_markQueued_29 rfl rfl ?_
      refine cV1_PI C (k_X6_isQueued p hM (by omega) (by omega) (by omega)) cw_X6_60 (rm_ok rfl rfl (Nat.zero_le _) (Nat.zero_le _)) (Nat.le_of_ble_eq_true rfl) hM.1.1 dX6_markQueued_30 ?_
      refine g_zast C (6) ((p % 120)) rfl (by decide) dX6_markQueued_33 hM.1.2.2.2.2.2.2 ⟨congrArg iI (by omega), (by omega), by decide⟩ b2_01 (fun b33 eb33 => ?_)
      refine r_iload_n C 1 dX6_markQueued_34 rfl rfl ?_
      have jn48 : ∀ x48 : Int, ((b2 (a (125 + 11 * (p % 120) + 4) ≤ 1)) = 0 ∧ x48 = 0) ∨ (¬ (b2 (a (125 + 11 * (p % 120) + 4) ≤ 1)) = 0 ∧ x48 = 1) → Bd zp l ze (rmz 3 64) zs zm zargs zbl zmt zc 3 G base (EI Y (fun r I' L' => r = qct a ∧ L' = rL L (M + 1) a ∧ ∃ b', I' = mI I M 7 b' ∧ b' 4 = b 4 ∧ ∀ p : Nat, old a ≤ p → (p : Int) < a 7 → b' 6 (p % 120) = b2 (a (125 + 11 * (p % 120) + 4) ≤ 1))) 48 [(2, .int (iI x2)), (1, .int (iI x1)), (0, .ref M)] [.int (iI x48), .int (iI x1)] Y (mI I M 7 b33) (rL L (M + 1) a) 0 0 := by
        intro x48 hx48
        have hv : x48 = b2 (a (125 + 11 * (p % 120) + 4) ≤ 1) := by
          rcases hx48 with ⟨h1, h2⟩ | ⟨h1, h2⟩
          · rw [h1, h2]
          · rw [b2_eq0, Classical.not_not] at h1
            rw [h2, b2_1 h1]
        refine n_iadd C dX6_markQueued_48 ?_
        refine n_topi (fun x49 ex49 => ?_)
        refine r_istore_n (lo' := [(1, .int (iI x49)), (2, .int (iI x2)), (0, .ref M)]) C dX6_markQueued_49 rfl (by decide) rfl ?_
        refine n_iinc (lo' := [(2, .int (iI (x2 + 1))), (1, .int (iI x49)), (0, .ref M)]) C 1 dX6_markQueued_50 rfl rfl (by decide) rfl ?_
        refine r_goto (tgt := 7) C dX6_markQueued_53 (by decide) ?_
        exact ih _ (by first | omega | (rw [← hk]; omega)) x49 ((x2 + 1)) (p + 1) b33 (by omega) (by omega) (by rw [← hs, show (a 7).toNat - p = ((a 7).toNat - (p + 1)) + 1 by omega]; show _ = x1 + (b2 (a (125 + 11 * (p % 120) + 4) ≤ 1) + qcN a ((a 7).toNat - (p + 1)) (p + 1)); rw [ex49, ← hv]; omega) (by rw [eb33, up2_rown (by decide), hb1]) (by intro r h1 h2; rw [eb33]; by_cases e : r = p; subst e; exact up2_s; rw [up2_nk (win_ne (a := a) ⟨h1, by omega⟩ ⟨hp.1, by omega⟩ e)]; exact hm r h1 (by omega)) rfl
      refine r_aload_n C 2 dX6_markQueued_35 rfl rfl ?_
      refine r_iload_n C 0 dX6_markQueued_36 rfl rfl ?_
      refine cV1_PI C (k_X6_isQueued p hM (by omega) (by omega) (by omega)) cw_X6_60 (rm_ok rfl rfl (Nat.zero_le _) (Nat.zero_le _)) (Nat.le_of_ble_eq_true rfl) hM.1.1 dX6_markQueued_37 ?_
      refine n_if_eq (tgt := 47) C dX6_markQueued_40 (by decide) b2_i (fun c40 => ?_) (fun c40 => ?_)
      · refine r_iconst (v := iI 0) C dX6_markQueued_47 rfl ?_
        exact jn48 _ (Or.inl ⟨c40, rfl⟩)
      · refine r_iconst (v := iI 1) C dX6_markQueued_43 rfl ?_
        refine r_goto (tgt := 48) C dX6_markQueued_44 (by decide) ?_
        exact jn48 _ (Or.inr (⟨c40, rfl⟩))
  exact lp7 _ 0 x6 (old a) b (by omega) (by omega) (by unfold qct; omega) rfl (fun r h1 h2 => absurd h2 (by omega)) rfl
set_option maxHeartbeats 4000000 in
set_option maxRecDepth 20000 in
theorem k_X6_worstOfMarked {l : Launch} {G : Gd} {base : Nat} {Y : MY} {I : MI} {L : ML} {M : Nat} {a : Sa} {N T : Int} (hI : Inv N T a) {b : Nat → Nat → Int} (a0 : Sa) (hM : MLy base Y M) (h7 : a 7 = a0 7) (hm : ∀ p : Nat, old a ≤ p → (p : Int) < a 7 → b 6 (p % 120) = b2 (a0 (125 + 11 * (p % 120) + 4) ≤ 1)) : Ct l yX6_worstOfMarked cX6_worstOfMarked 6 (some .long) (rmz 2 43) G base [.ref M] Y (mI I M 7 b) (rL L (M + 1) a) (PL (wst a0 a) Y (mI I M 7 b) (rL L (M + 1) a)) := by
  refine Ct.of (own := RX6) (lo := [(0, .ref M)]) (by decide) rfl (Nat.le_of_ble_eq_true rfl) rfl ?_
  intro zp ze zs zm zargs zbl zmt zc C hr hlk hnm
  have hT := hI.1
  unfold TopOK at hT
  have ho : old a = (a 7 - 120).toNat := rfl
  have ho0 : old a0 = old a := (old_eq h7).symm
  refine r_lconst (v := lI 0) C dX6_worstOfMarked_0 (by decide) ?_
  refine r_lstore_n (lo' := [(1, .long (lI 0)), (0, .ref M)]) C dX6_worstOfMarked_1 rfl (by decide) rfl ?_
  refine r_aload_n C 1 dX6_worstOfMarked_2 rfl rfl ?_
  refine cV0_PI C (k_X6_oldest hM (by omega)) cw_X6_56 (rm_ok rfl rfl (Nat.zero_le _) (Nat.zero_le _)) (Nat.le_of_ble_eq_true rfl) hM.1.1 dX6_worstOfMarked_3 ?_
  refine n_topi (fun x6 ex6 => ?_)
  refine r_istore_n (lo' := [(3, .int (iI x6)), (1, .long (lI 0)), (0, .ref M)]) C dX6_worstOfMarked_6 rfl (by decide) rfl ?_
  have lp7 : ∀ (k : Nat) (x1 : Int) (x3 : Int) (p : Nat) (hx3 : x3 = p) (hp : old a ≤ p ∧ (p : Int) ≤ a 7) (hs : wsO a0 a ((a 7).toNat - p) p x1 = wst a0 a) (hb : 0 ≤ x1 ∧ x1 ≤ 1000000000), (a 7).toNat - p = k → Bd zp l ze (rmz 2 43) zs zm zargs zbl zmt zc 6 G base (PL (wst a0 a) Y (mI I M 7 b) (rL L (M + 1) a)) 7 [(3, .int (iI x3)), (1, .long (lI x1)), (0, .ref M)] [] Y (mI I M 7 b) (rL L (M + 1) a) 0 0 := by
    intro k
    induction k using Nat.strongRecOn with
    | _ k ih =>
    intro x1 x3 p hx3 hp hs hb hk
    refine r_iload_n C 0 dX6_worstOfMarked_7 rfl rfl ?_
    refine n_i2l C dX6_worstOfMarked_8 (by constructor <;> omega) ?_
    refine r_aload_n C 2 dX6_worstOfMarked_9 rfl rfl ?_
    refine r_getR C fl_X6_7 rfl dX6_worstOfMarked_10 hM.1.1 hM.2.1 ?_
    refine r_bipush (v := iI 7) C dX6_worstOfMarked_13 (by decide) ?_
    refine a_lald C (v := (a 7)) 7 dX6_worstOfMarked_15 hM.1.2.1 ⟨rfl, by decide, by decide⟩ rfl ?_
    refine n_lcmp_ge (tgt := 87) C dX6_worstOfMarked_16 dX6_worstOfMarked_17 rfl rfl (by decide) (by constructor <;> omega) (by constructor <;> omega) (fun c16 => ?_) (fun c16 => ?_)
    · refine r_lload_n C 1 dX6_worstOfMarked_87 rfl rfl ?_
      refine r_lret C hr hlk dX6_worstOfMarked_88 (Nat.zero_le _) (Nat.zero_le _) ?_
      exact ⟨congrArg (fun z => some (Value.long (lI z))) (by rw [← hs, show (a 7).toNat - p = 0 by omega]; rfl), rfl, rfl, rfl⟩
    · have hP := hI.2.2.1 p hp.1 (by omega)
      unfold PkOK at hP
      have hmp := hm p hp.1 (by omega)
      have hdb := dly_b hI (p := p) ⟨hp.1, by omega⟩
      refine r_aload_n C 2 dX6_worstOfMarked_20 rfl rfl ?_
      refine r_getR C fl_X6_27 rfl dX6_worstOfMarked_21 hM.1.1 hM.2.2.2.2.2.2 ?_
      refine r_iload_n C 0 dX6_worstOfMarked_24 rfl rfl ?_
      refine r_bipush (v := iI 120) C dX6_worstOfMarked_25 (by decide) ?_
      refine n_irem C dX6_worstOfMarked_27 (by omega) (by omega) ?_
      refine g_zald C (v := (b 6 ((p % 120)))) (6) ((p % 120)) rfl (by decide) dX6_worstOfMarked_28 hM.1.2.2.2.2.2.2 ⟨congrArg iI (by omega), (by omega), by decide⟩ rfl ?_
      refine n_if_eq (tgt := 81) C dX6_worstOfMarked_29 (by decide) (by rw [hmp]; exact b2_i) (fun c29 => ?_) (fun c29 => ?_)
      · refine n_iinc (lo' := [(3, .int (iI (x3 + 1))), (1, .long (lI x1)), (0, .ref M)]) C 0 dX6_worstOfMarked_81 rfl rfl (by decide) rfl ?_
        refine r_goto (tgt := 7) C dX6_worstOfMarked_84 (by decide) ?_
        exact ih _ (by first | omega | (rw [← hk]; omega)) x1 ((x3 + 1)) (p + 1) (by omega) (by omega) (by rw [← hs, show (a 7).toNat - p = ((a 7).toNat - (p + 1)) + 1 by omega]; show _ = wsO a0 a ((a 7).toNat - (p + 1)) (p + 1) (if a0 (125 + 11 * (p % 120) + 4) ≤ 1 then (if x1 < dly a p then dly a p else x1) else x1); rw [if_neg (by rw [hmp, b2_eq0] at c29; exact c29)]) hb rfl
      · have jn65 : ∀ x65 : Int, (¬ (a (125 + 11 * (p % 120) + 4)) = 3 ∧ x65 = 1000000000) ∨ ((a (125 + 11 * (p % 120) + 4)) = 3 ∧ x65 = ((a (125 + 11 * (p % 120) + 8)) - (a (125 + 11 * (p % 120) + 2)))) → Bd zp l ze (rmz 2 43) zs zm zargs zbl zmt zc 6 G base (PL (wst a0 a) Y (mI I M 7 b) (rL L (M + 1) a)) 65 [(3, .int (iI x3)), (1, .long (lI x1)), (0, .ref M)] [.long (lI x65)] Y (mI I M 7 b) (rL L (M + 1) a) 0 0 := by
          intro x65 hx65
          have hd : x65 = dly a p := by
            unfold dly
            split <;> omega
          refine r_lstore (lo' := [(4, .long (lI x65)), (3, .int (iI x3)), (1, .long (lI x1)), (0, .ref M)]) C dX6_worstOfMarked_65 (by decide) rfl ?_
          have jn80 : ∀ x80 : Int, (x65 ≤ x1 ∧ x80 = x1) ∨ (x1 < x65 ∧ x80 = x65) → Bd zp l ze (rmz 2 43) zs zm zargs zbl zmt zc 6 G base (PL (wst a0 a) Y (mI I M 7 b) (rL L (M + 1) a)) 80 [(4, .long (lI x65)), (3, .int (iI x3)), (1, .long (lI x1)), (0, .ref M)] [.long (lI x80)] Y (mI I M 7 b) (rL L (M + 1) a) 0 0 := by
            intro x80 hx80
            have hw : x80 = if x1 < dly a p then dly a p else x1 := by
              split <;> omega
            refine r_lstore_n (lo' := [(1, .long (lI x80)), (4, .long (lI x65)), (3, .int (iI x3)), (0, .ref M)]) C dX6_worstOfMarked_80 rfl (by decide) rfl ?_
            refine n_iinc (lo' := [(3, .int (iI (x3 + 1))), (1, .long (lI x80)), (4, .long (lI x65)), (0, .ref M)]) C 2 dX6_worstOfMarked_81 rfl rfl (by decide) rfl ?_
            refine r_goto (tgt := 7) C dX6_worstOfMarked_84 (by decide) ?_
            refine r_lo [0, 1, 3] rfl ?_
            exact ih _ (by first | omega | (rw [← hk]; omega)) x80 ((x3 + 1)) (p + 1) (by omega) (by omega) (by rw [← hs, show (a 7).toNat - p = ((a 7).toNat - (p + 1)) + 1 by omega]; show _ = wsO a0 a ((a 7).toNat - (p + 1)) (p + 1) (if a0 (125 + 11 * (p % 120) + 4) ≤ 1 then (if x1 < dly a p then dly a p else x1) else x1); rw [if_pos (by rw [hmp, b2_eq0, Classical.not_not] at c29; exact c29), ← hw]) (by omega) rfl
          refine r_lload C 0 dX6_worstOfMarked_67 rfl ?_
          refine r_lload_n C 2 dX6_worstOfMarked_69 rfl rfl ?_
          refine n_lcmp_le (tgt := 79) C dX6_worstOfMarked_70 dX6_worstOfMarked_71 rfl rfl (by decide) (by constructor <;> omega) (by constructor <;> omega) (fun c70 => ?_) (fun c70 => ?_)
          · refine r_lload_n C 2 dX6_worstOfMarked_79 rfl rfl ?_
            exact jn80 _ (Or.inl ⟨c70, rfl⟩)
          · refine r_lload C 0 dX6_worstOfMarked_74 rfl ?_
            refine r_goto (tgt := 80) C dX6_worstOfMarked_76 (by decide) ?_
            exact jn80 _ (Or.inr (⟨c70, rfl⟩))
        refine r_aload_n C 2 dX6_worstOfMarked_32 rfl rfl ?_
        refine r_iload_n C 0 dX6_worstOfMarked_33 rfl rfl ?_
        refine r_iconst (v := iI 4) C dX6_worstOfMarked_34 rfl ?_
        refine cV2_PL C (k_X6_of p 4 hM (by omega) (by omega) (by omega)) cw_X6_49 (rm_ok rfl rfl (Nat.zero_le _) (Nat.zero_le _)) (Nat.le_of_ble_eq_true rfl) hM.1.1 dX6_worstOfMarked_35 ?_
        refine n_ldc2 (v := 3) C lc_X6_152 (by decide) dX6_worstOfMarked_38 ?_
        refine n_lcmp_ne (tgt := 62) C dX6_worstOfMarked_41 dX6_worstOfMarked_42 rfl rfl (by decide) (by constructor <;> omega) ⟨by decide, by decide⟩ (fun c41 => ?_) (fun c41 => ?_)
        · refine n_ldc2 (v := 1000000000) C lc_X6_217 (by decide) dX6_worstOfMarked_62 ?_
          exact jn65 _ (Or.inl ⟨c41, rfl⟩)
        · refine r_aload_n C 2 dX6_worstOfMarked_45 rfl rfl ?_
          refine r_iload_n C 0 dX6_worstOfMarked_46 rfl rfl ?_
          refine r_bipush (v := iI 8) C dX6_worstOfMarked_47 (by decide) ?_
          refine cV2_PL C (k_X6_of p 8 hM (by omega) (by omega) (by omega)) cw_X6_49 (rm_ok rfl rfl (Nat.zero_le _) (Nat.zero_le _)) (Nat.le_of_ble_eq_true rfl) hM.1.1 dX6_worstOfMarked_49 ?_
          refine r_aload_n C 2 dX6_worstOfMarked_52 rfl rfl ?_
          refine r_iload_n C 0 dX6_worstOfMarked_53 rfl rfl ?_
          refine r_iconst (v := iI 2) C dX6_worstOfMarked_54 rfl ?_
          refine cV2_PL C (k_X6_of p 2 hM (by omega) (by omega) (by omega)) cw_X6_49 (rm_ok rfl rfl (Nat.zero_le _) (Nat.zero_le _)) (Nat.le_of_ble_eq_true rfl) hM.1.1 dX6_worstOfMarked_55 ?_
          refine n_lsub C dX6_worstOfMarked_58 ?_
          refine r_goto (tgt := 65) C dX6_worstOfMarked_59 (by decide) ?_
          exact jn65 _ (Or.inr (⟨c41, rfl⟩))
  exact lp7 _ 0 x6 (old a) (by omega) (by omega) (by unfold wst; rw [ho0, ← h7]) (by omega) rfl
