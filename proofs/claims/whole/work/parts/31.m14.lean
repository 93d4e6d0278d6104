/-- the character at i, 0 behind the end -/
def ch (a : Sa) (i : Nat) : Int := if (i : Int) < a 1825 then a (1745 + i) else 0
theorem ch_b {a : Sa} {N T : Int} (hI : Inv N T a) (i : Nat) : 0 ≤ ch a i ∧ ch a i ≤ 126 := by
  have h := hI.2.2.2.2.1
  unfold ch
  split
  · exact hI.2.2.2.2.2 i (by omega)
  · omega
theorem ch_end {a : Sa} {N T : Int} (hI : Inv N T a) {i : Nat} (h : 80 ≤ i) : ch a i = 0 := by
  have h1 := hI.2.2.2.2.1
  exact if_neg (by omega)
/-- digits from p on: where they end, their value, whether one would make it too great -/
def nmG (a : Sa) (m : Int) : Nat → Nat → Int → Nat × Int × Int
  | 0, p, v => (p, v, 0)
  | k + 1, p, v => if 48 ≤ ch a p ∧ ch a p ≤ 57 then (if m < 10 * v + ch a p - 48 then (p, v, 1) else nmG a m k (p + 1) (10 * v + ch a p - 48)) else (p, v, 0)
def nmb (a : Sa) (m : Int) (p : Nat) : Nat × Int × Int := if 49 ≤ ch a p ∧ ch a p ≤ 57 then nmG a m 81 p 0 else (p, 0, 1)
/-- one arrival from p on: where it ends, whether it is wrong, length, deadline, count -/
def av1 (a : Sa) (p : Nat) : Nat × Int × Int := nmb a 2000 (p + 1)
def av2 (a : Sa) (p : Nat) : Nat × Int × Int := if (av1 a p).2.2 = 0 ∧ ch a (av1 a p).1 = 64 then nmb a 9999 ((av1 a p).1 + 1) else ((av1 a p).1, 0, (av1 a p).2.2)
def av3 (a : Sa) (p : Nat) : Nat × Int × Int := if (av2 a p).2.2 = 0 ∧ ch a (av2 a p).1 = 42 then nmb a 9 ((av2 a p).1 + 1) else ((av2 a p).1, 1, (av2 a p).2.2)
def isL (a : Sa) (p : Nat) : Prop := 97 ≤ ch a p ∧ ch a p ≤ 102
def arP (a : Sa) (p : Nat) : Nat := if 97 ≤ ch a p ∧ ch a p ≤ 102 then (av3 a p).1 else p
def arW (a : Sa) (p : Nat) : Int := if 97 ≤ ch a p ∧ ch a p ≤ 102 then (av3 a p).2.2 else 1
theorem nmG_b {a : Sa} {m : Int} : ∀ k p v, 0 ≤ v → v ≤ m → (p ≤ (nmG a m k p v).1 ∧ (nmG a m k p v).1 ≤ p + k) ∧ (v ≤ (nmG a m k p v).2.1 ∧ (nmG a m k p v).2.1 ≤ m) ∧ ((nmG a m k p v).2.2 = 0 ∨ (nmG a m k p v).2.2 = 1)
  | 0, p, v, h0, h1 => by unfold nmG; exact ⟨⟨by simp, by simp⟩, ⟨by simp, h1⟩, Or.inl rfl⟩
  | k + 1, p, v, h0, h1 => by
    unfold nmG
    split
    · split
      · exact ⟨⟨by simp, by simp⟩, ⟨by simp, h1⟩, Or.inr rfl⟩
      · have h := nmG_b (a := a) (m := m) k (p + 1) (10 * v + ch a p - 48) (by omega) (by omega)
        exact ⟨⟨by omega, by omega⟩, ⟨by omega, by omega⟩, h.2.2⟩
    · exact ⟨⟨by simp, by simp⟩, ⟨by simp, h1⟩, Or.inl rfl⟩
theorem nmG_e {a : Sa} {m : Int} {N T : Int} (hI : Inv N T a) : ∀ k p v, (nmG a m k p v).1 ≤ max p 80
  | 0, p, v => by unfold nmG; simp; omega
  | k + 1, p, v => by
    unfold nmG
    split
    · rename_i h
      have hp : p < 80 := by
        by_cases h2 : p < 80
        · exact h2
        · rw [ch_end hI (by omega)] at h; omega
      split
      · simp; omega
      · have := nmG_e (m := m) hI k (p + 1) (10 * v + ch a p - 48)
        omega
    · simp; omega
theorem nmb_b {a : Sa} {m : Int} {N T : Int} (hI : Inv N T a) (hm : 0 ≤ m) (p : Nat) (hp : p ≤ 80) : (p ≤ (nmb a m p).1 ∧ (nmb a m p).1 ≤ 80) ∧ (0 ≤ (nmb a m p).2.1 ∧ (nmb a m p).2.1 ≤ m) ∧ ((nmb a m p).2.2 = 0 ∨ (nmb a m p).2.2 = 1) := by
  unfold nmb
  split
  · have h := nmG_b (a := a) (m := m) 81 p 0 (by omega) hm
    have h2 := nmG_e (m := m) hI 81 p 0
    exact ⟨⟨h.1.1, by omega⟩, ⟨by omega, by omega⟩, h.2.2⟩
  · exact ⟨⟨by simp, hp⟩, ⟨by simp, hm⟩, Or.inr rfl⟩
theorem rn_fix {b : Nat → Nat → Int} {u v u' v' : Int} : up2 (up2 (up2 (up2 b 0 4 u) 0 5 v) 0 5 v') 0 4 u' = up2 (up2 b 0 4 u') 0 5 v' := by
  rw [up2_u]
  unfold up2
  rw [up1_s, up1_s, up1_s, up1_u, up1_u, up1_u, up1_c (i := 4) (j := 5) (by decide), up1_u, up1_c (i := 5) (j := 4) (by decide)]
theorem rn_self {b : Nat → Nat → Int} {u v : Int} (h4 : b 0 4 = u) (h5 : b 0 5 = v) : up2 (up2 b 0 4 u) 0 5 v = b := by
  subst h4; subst h5
  rw [up2_id]
  exact up2_id b 0 5
set_option maxHeartbeats 4000000 in
set_option maxRecDepth 20000 in
theorem k_X6_next {l : Launch} {G : Gd} {base : Nat} {Y : MY} {I : MI} {L : ML} {M : Nat} {a : Sa} {N T : Int} (hI : Inv N T a) {b : Nat → Nat → Int} (pl : Nat) (hM : MLy base Y M) (h4 : b 0 4 = pl) (hpl : pl ≤ 200) : Ct l yX6_next cX6_next 1 (some .int) (rmz 0 0) G base [.ref M] Y (mI I M 7 b) (rL L (M + 1) a) (PI (ch a pl) Y (mI I M 7 b) (rL L (M + 1) a)) := by
  refine Ct.of (own := RX6) (lo := [(0, .ref M)]) (by decide) rfl (Nat.le_of_ble_eq_true rfl) rfl ?_
  intro zp ze zs zm zargs zbl zmt zc C hr hlk hnm
  have hT := hI.1
  unfold TopOK at hT
  have hpd := hI.2.2.2.2.1
  refine r_aload_n C 0 dX6_next_0 rfl rfl ?_
  refine g_getI C (o := 0) (v := (b 0 4)) rfl (by decide) fl_X6_118 rfl dX6_next_1 hM.1.1 rfl ?_
  refine n_i2l C dX6_next_4 (by constructor <;> omega) ?_
  refine r_aload_n C 0 dX6_next_5 rfl rfl ?_
  refine r_getR C fl_X6_7 rfl dX6_next_6 hM.1.1 hM.2.1 ?_
  refine r_sipush (v := iI 1825) C dX6_next_9 (by decide) ?_
  refine a_lald C (v := (a 1825)) 1825 dX6_next_12 hM.1.2.1 ⟨rfl, by decide, by decide⟩ rfl ?_
  refine n_lcmp_ge (tgt := 34) C dX6_next_13 dX6_next_14 rfl rfl (by decide) (by constructor <;> omega) (by constructor <;> omega) (fun c13 => ?_) (fun c13 => ?_)
  · refine r_iconst (v := iI 0) C dX6_next_34 rfl ?_
    refine r_iret C hr hlk dX6_next_35 (Nat.zero_le _) (Nat.zero_le _) ?_
    exact ⟨congrArg (fun z => some (Value.int (iI z))) (by unfold ch; first | rw [if_pos (by omega)] | rw [if_neg (by omega)]), rfl, rfl, rfl⟩
  · refine r_aload_n C 0 dX6_next_17 rfl rfl ?_
    refine r_getR C fl_X6_7 rfl dX6_next_18 hM.1.1 hM.2.1 ?_
    refine r_sipush (v := iI 1745) C dX6_next_21 (by decide) ?_
    refine r_aload_n C 0 dX6_next_24 rfl rfl ?_
    refine g_getI C (o := 0) (v := (b 0 4)) rfl (by decide) fl_X6_118 rfl dX6_next_25 hM.1.1 rfl ?_
    refine n_iadd C dX6_next_28 ?_
    refine a_lald C (v := (a (1745 + pl))) ((1745 + pl)) dX6_next_29 hM.1.2.1 ⟨congrArg iI (by omega), (by omega), by decide⟩ rfl ?_
    refine n_l2i C dX6_next_30 ?_
    refine r_goto (tgt := 35) C dX6_next_31 (by decide) ?_
    refine r_iret C hr hlk dX6_next_35 (Nat.zero_le _) (Nat.zero_le _) ?_
    exact ⟨congrArg (fun z => some (Value.int (iI z))) (by unfold ch; first | rw [if_pos (by omega)] | rw [if_neg (by omega)]), rfl, rfl, rfl⟩
set_option maxHeartbeats 4000000 in
set_option maxRecDepth 20000 in
theorem k_X6_readNumber {l : Launch} {G : Gd} {base : Nat} {Y : MY} {I : MI} {L : ML} {M : Nat} {a : Sa} {N T : Int} (hI : Inv N T a) {b : Nat → Nat → Int} {m : Int} (pl : Nat) (hM : MLy base Y M) (h4 : b 0 4 = pl) (h5 : b 0 5 = 0) (hpl : pl ≤ 80) (hm : 1 ≤ m ∧ m ≤ 9999) : Ct l yX6_readNumber cX6_readNumber 3 (some .int) (rmz 1 25) G base [.ref M, .int (iI m)] Y (mI I M 7 b) (rL L (M + 1) a) (EI Y (fun r I' L' => r = (nmb a m pl).2.1 ∧ I' = mI I M 7 (up2 (up2 b 0 4 (nmb a m pl).1) 0 5 (nmb a m pl).2.2) ∧ L' = rL L (M + 1) a)) := by
  refine Ct.of (own := RX6) (lo := [(0, .ref M), (1, .int (iI m))]) (by decide) rfl (Nat.le_of_ble_eq_true rfl) rfl ?_
  intro zp ze zs zm zargs zbl zmt zc C hr hlk hnm
  have hT := hI.1
  unfold TopOK at hT
  have hpd := hI.2.2.2.2.1
  have hcb := ch_b hI pl
  refine r_aload_n C 0 dX6_readNumber_0 rfl rfl ?_
  refine cV0_PI C (k_X6_next hI pl hM (by omega) (by omega)) cw_X6_122 (rm_ok rfl rfl (Nat.zero_le _) (Nat.zero_le _)) (Nat.le_of_ble_eq_true rfl) hM.1.1 dX6_readNumber_1 ?_
  refine n_i2l C dX6_readNumber_4 (by constructor <;> omega) ?_
  refine n_ldc2 (v := 49) C lc_X6_125 (by decide) dX6_readNumber_5 ?_
  refine n_ldc2 (v := 57) C lc_X6_127 (by decide) dX6_readNumber_8 ?_
  refine cS3_PI C (k_X6_in (by constructor <;> omega) ⟨by decide, by decide⟩ ⟨by decide, by decide⟩) cw_X6_36 (rm_ok rfl rfl (Nat.zero_le _) (Nat.zero_le _)) (Nat.le_of_ble_eq_true rfl) dX6_readNumber_11 ?_
  refine n_if_ne (tgt := 24) C dX6_readNumber_14 (by decide) b2_i (fun c14 => ?_) (fun c14 => ?_)
  · rw [b2_eq0, Classical.not_not] at c14
    have hnm : nmb a m pl = nmG a m 81 pl 0 := if_pos c14
    refine r_iconst (v := iI 0) C dX6_readNumber_24 rfl ?_
    refine r_istore_n (lo' := [(2, .int (iI 0)), (0, .ref M), (1, .int (iI m))]) C dX6_readNumber_25 rfl (by decide) rfl ?_
    have lp26 : ∀ (k : Nat) (x2 : Int) (pl1 : Nat) (fu : Nat) (w : Int) (b1 : Nat → Nat → Int) (hb1 : b1 = up2 (up2 b 0 4 pl1) 0 5 w) (hk : pl1 + fu = pl + 81 ∧ pl ≤ pl1 ∧ pl1 ≤ 80) (hx2 : 0 ≤ x2 ∧ x2 ≤ m) (he : (w = 0 ∧ nmG a m fu pl1 x2 = nmG a m 81 pl 0) ∨ (w = 1 ∧ (pl1, x2, (1 : Int)) = nmG a m 81 pl 0)), 2 * fu + (1 - w).toNat = k → Bd zp l ze (rmz 1 25) zs zm zargs zbl zmt zc 3 G base (EI Y (fun r I' L' => r = (nmb a m pl).2.1 ∧ I' = mI I M 7 (up2 (up2 b 0 4 (nmb a m pl).1) 0 5 (nmb a m pl).2.2) ∧ L' = rL L (M + 1) a)) 26 [(2, .int (iI x2)), (0, .ref M), (1, .int (iI m))] [] Y (mI I M 7 b1) (rL L (M + 1) a) 0 0 := by
      intro k
      induction k using Nat.strongRecOn with
      | _ k ih26 =>
      intro x2 pl1 fu w b1 hb1 hk hx2 he hk26
      have h14 : b1 0 4 = pl1 := by rw [hb1, up2_nk (by decide), up2_s]
      have h15 : b1 0 5 = w := by rw [hb1, up2_s]
      have hcb1 := ch_b hI pl1
      have hw01 : w = 0 ∨ w = 1 := by
        rcases he with h | h
        · exact Or.inl h.1
        · exact Or.inr h.1
      refine r_aload_n C 1 dX6_readNumber_26 rfl rfl ?_
      refine cV0_PI C (k_X6_next hI pl1 hM (by omega) (by omega)) cw_X6_122 (rm_ok rfl rfl (Nat.zero_le _) (Nat.zero_le _)) (Nat.le_of_ble_eq_true rfl) hM.1.1 dX6_readNumber_27 ?_
      refine n_i2l C dX6_readNumber_30 (by constructor <;> omega) ?_
      refine n_ldc2 (v := 48) C lc_X6_133 (by decide) dX6_readNumber_31 ?_
      refine n_ldc2 (v := 57) C lc_X6_127 (by decide) dX6_readNumber_34 ?_
      refine cS3_PI C (k_X6_in (by constructor <;> omega) ⟨by decide, by decide⟩ ⟨by decide, by decide⟩) cw_X6_36 (rm_ok rfl rfl (Nat.zero_le _) (Nat.zero_le _)) (Nat.le_of_ble_eq_true rfl) dX6_readNumber_37 ?_
      refine n_if_eq (tgt := 123) C dX6_readNumber_40 (by decide) b2_i (fun c40 => ?_) (fun c40 => ?_)
      · refine r_iload_n C 0 dX6_readNumber_123 rfl rfl ?_
        refine r_iret C hr hlk dX6_readNumber_124 (Nat.zero_le _) (Nat.zero_le _) ?_
        have hF : (pl1, x2, w) = nmG a m 81 pl 0 := by
          rcases he with h | h
          · rw [← h.2, h.1]
            rw [b2_eq0] at c40
            cases fu with
            | zero => rfl
            | succ fu => exact (if_neg c40).symm
          · rw [h.1]; exact h.2
        refine ⟨_, rfl, rfl, ?_, ?_, rfl⟩
        · rw [hnm, ← hF]
        · rw [hnm, ← hF, hb1]
      · rw [b2_eq0, Classical.not_not] at c40
        have hp80 : pl1 < 80 := by
          by_cases h : pl1 < 80
          · exact h
          · rw [ch_end hI (by omega)] at c40; omega
        refine r_aload_n C 1 dX6_readNumber_43 rfl rfl ?_
        refine g_getI C (o := 0) (v := (b1 0 5)) rfl (by decide) fl_X6_129 rfl dX6_readNumber_44 hM.1.1 rfl ?_
        refine n_if_ne (tgt := 123) C dX6_readNumber_47 (by decide) (by constructor <;> omega) (fun c47 => ?_) (fun c47 => ?_)
        · refine r_iload_n C 0 dX6_readNumber_123 rfl rfl ?_
          refine r_iret C hr hlk dX6_readNumber_124 (Nat.zero_le _) (Nat.zero_le _) ?_
          have hF : (pl1, x2, w) = nmG a m 81 pl 0 := by
            rcases he with h | h
            · rw [← h.2, h.1]
              omega
            · rw [h.1]; exact h.2
          refine ⟨_, rfl, rfl, ?_, ?_, rfl⟩
          · rw [hnm, ← hF]
          · rw [hnm, ← hF, hb1]
        · have he2 : (if m < 10 * x2 + ch a pl1 - 48 then (pl1, x2, (1 : Int)) else nmG a m (fu - 1) (pl1 + 1) (10 * x2 + ch a pl1 - 48)) = nmG a m 81 pl 0 := by
            rcases he with h | h
            · rw [← h.2]
              obtain ⟨fu, rfl⟩ : ∃ j, fu = j + 1 := ⟨fu - 1, by omega⟩
              show _ = if 48 ≤ ch a pl1 ∧ ch a pl1 ≤ 57 then (if m < 10 * x2 + ch a pl1 - 48 then (pl1, x2, (1 : Int)) else nmG a m fu (pl1 + 1) (10 * x2 + ch a pl1 - 48)) else _
              rw [if_pos c40]
              rfl
            · omega
          refine r_aload_n C 1 dX6_readNumber_50 rfl rfl ?_
          refine r_bipush (v := iI 10) C dX6_readNumber_51 (by decide) ?_
          refine r_iload_n C 0 dX6_readNumber_53 rfl rfl ?_
          refine n_imul C dX6_readNumber_54 ?_
          refine r_aload_n C 1 dX6_readNumber_55 rfl rfl ?_
          refine cV0_PI C (k_X6_next hI pl1 hM (by omega) (by omega)) cw_X6_122 (rm_ok rfl rfl (Nat.zero_le _) (Nat.zero_le _)) (Nat.le_of_ble_eq_true rfl) hM.1.1 dX6_readNumber_56 ?_
          refine n_iadd C dX6_readNumber_59 ?_
          refine r_bipush (v := iI 48) C dX6_readNumber_60 (by decide) ?_
          refine n_isub C dX6_readNumber_62 ?_
          refine r_iload_n C 2 dX6_readNumber_63 rfl rfl ?_
          refine n_icmp_le (tgt := 71) C dX6_readNumber_64 (by decide) (by constructor <;> omega) (by constructor <;> omega) (fun c64 => ?_) (fun c64 => ?_)
          · refine r_iconst (v := iI 0) C dX6_readNumber_71 rfl ?_
            refine g_putZ C (o := 0) rfl (by decide) fl_X6_129 rfl dX6_readNumber_72 hM.1.1 (by omega) (fun b72 eb72 => ?_)
            refine r_aload_n C 1 dX6_readNumber_75 rfl rfl ?_
            refine g_getI C (o := 0) (v := 0) rfl (by decide) fl_X6_129 rfl dX6_readNumber_76 hM.1.1 (by rw [eb72, up2_s]) ?_
            refine n_if_eq (tgt := 86) C dX6_readNumber_79 (by decide) ⟨by decide, by decide⟩ (fun c79 => ?_) (fun c79 => ?_)
            · refine r_bipush (v := iI 10) C dX6_readNumber_86 (by decide) ?_
              refine r_iload_n C 0 dX6_readNumber_88 rfl rfl ?_
              refine n_imul C dX6_readNumber_89 ?_
              refine r_aload_n C 1 dX6_readNumber_90 rfl rfl ?_
              refine cV0_PI C (k_X6_next hI pl1 hM (by have q0 : b72 0 4 = (b1 0 4) := (by rw [eb72, up2_nk (by omega)]); omega) (by omega)) cw_X6_122 (rm_ok rfl rfl (Nat.zero_le _) (Nat.zero_le _)) (Nat.le_of_ble_eq_true rfl) hM.1.1 dX6_readNumber_91 ?_
              refine n_iadd C dX6_readNumber_94 ?_
              refine r_bipush (v := iI 48) C dX6_readNumber_95 (by decide) ?_
              refine n_isub C dX6_readNumber_97 ?_
              refine n_topi (fun x98 ex98 => ?_)
              refine r_istore_n (lo' := [(2, .int (iI x98)), (0, .ref M), (1, .int (iI m))]) C dX6_readNumber_98 rfl (by decide) rfl ?_
              refine r_aload_n C 1 dX6_readNumber_99 rfl rfl ?_
              refine r_dup C dX6_readNumber_100 rfl ?_
              refine g_getI C (o := 0) (v := (b1 0 4)) rfl (by decide) fl_X6_118 rfl dX6_readNumber_101 hM.1.1 (by rw [eb72, up2_nk (by omega)]) ?_
              refine r_aload_n C 1 dX6_readNumber_104 rfl rfl ?_
              refine g_getI C (o := 0) (v := 0) rfl (by decide) fl_X6_129 rfl dX6_readNumber_105 hM.1.1 (by rw [eb72, up2_s]) ?_
              refine n_if_eq (tgt := 115) C dX6_readNumber_108 (by decide) ⟨by decide, by decide⟩ (fun c108 => ?_) (fun c108 => ?_)
              · refine r_iconst (v := iI 1) C dX6_readNumber_115 rfl ?_
                refine n_iadd C dX6_readNumber_116 ?_
                refine g_putI C (o := 0) rfl (by decide) fl_X6_118 rfl dX6_readNumber_117 hM.1.1 (fun b117 eb117 => ?_)
                refine r_goto (tgt := 26) C dX6_readNumber_120 (by decide) ?_
                exact ih26 _ (by first | omega | (rw [← hk26]; omega)) x98 (pl1 + 1) (fu - 1) 0 b117 (by rw [eb117, h14, eb72, hb1, rn_fix, show (pl1 : Int) + 1 = ((pl1 + 1 : Nat) : Int) by omega]) (by omega) (by omega) (Or.inl ⟨rfl, by rw [← he2, if_neg (by omega), ex98]⟩) rfl
              · exfalso; omega
            · exfalso; omega
          · refine r_iconst (v := iI 1) C dX6_readNumber_67 rfl ?_
            refine r_goto (tgt := 72) C dX6_readNumber_68 (by decide) ?_
            refine g_putZ C (o := 0) rfl (by decide) fl_X6_129 rfl dX6_readNumber_72 hM.1.1 (by omega) (fun b72 eb72 => ?_)
            refine r_aload_n C 1 dX6_readNumber_75 rfl rfl ?_
            refine g_getI C (o := 0) (v := 1) rfl (by decide) fl_X6_129 rfl dX6_readNumber_76 hM.1.1 (by rw [eb72, up2_s]) ?_
            refine n_if_eq (tgt := 86) C dX6_readNumber_79 (by decide) ⟨by decide, by decide⟩ (fun c79 => ?_) (fun c79 => ?_)
            · exfalso; omega
            · refine r_iload_n C 0 dX6_readNumber_82 rfl rfl ?_
              refine r_goto (tgt := 98) C dX6_readNumber_83 (by decide) ?_
              refine r_istore_n (lo' := [(2, .int (iI x2)), (0, .ref M), (1, .int (iI m))]) C dX6_readNumber_98 rfl (by decide) rfl ?_
              refine r_aload_n C 1 dX6_readNumber_99 rfl rfl ?_
              refine r_dup C dX6_readNumber_100 rfl ?_
              refine g_getI C (o := 0) (v := (b1 0 4)) rfl (by decide) fl_X6_118 rfl dX6_readNumber_101 hM.1.1 (by rw [eb72, up2_nk (by omega)]) ?_
              refine r_aload_n C 1 dX6_readNumber_104 rfl rfl ?_
              refine g_getI C (o := 0) (v := 1) rfl (by decide) fl_X6_129 rfl dX6_readNumber_105 hM.1.1 (by rw [eb72, up2_s]) ?_
              refine n_if_eq (tgt := 115) C dX6_readNumber_108 (by decide) ⟨by decide, by decide⟩ (fun c108 => ?_) (fun c108 => ?_)
              · exfalso; omega
              · refine r_iconst (v := iI 0) C dX6_readNumber_111 rfl ?_
                refine r_goto (tgt := 116) C dX6_readNumber_112 (by decide) ?_
                refine n_iadd C dX6_readNumber_116 ?_
                refine g_putI C (o := 0) rfl (by decide) fl_X6_118 rfl dX6_readNumber_117 hM.1.1 (fun b117 eb117 => ?_)
                refine r_goto (tgt := 26) C dX6_readNumber_120 (by decide) ?_
                exact ih26 _ (by first | omega | (rw [← hk26]; omega)) x2 pl1 fu 1 b117 (by rw [eb117, h14, eb72, hb1, rn_fix, show (pl1 : Int) + 0 = pl1 by omega]) (by omega) (by omega) (Or.inr ⟨rfl, by rw [← he2, if_pos (by omega)]⟩) rfl
    exact lp26 _ 0 pl 81 0 b (rn_self h4 h5).symm (by omega) (by omega) (Or.inl ⟨rfl, rfl⟩) rfl
  · refine r_aload_n C 0 dX6_readNumber_17 rfl rfl ?_
    refine r_iconst (v := iI 1) C dX6_readNumber_18 rfl ?_
    refine g_putZ C (o := 0) rfl (by decide) fl_X6_129 rfl dX6_readNumber_19 hM.1.1 (by decide) (fun b19 eb19 => ?_)
    refine r_iconst (v := iI 0) C dX6_readNumber_22 rfl ?_
    refine r_iret C hr hlk dX6_readNumber_23 (Nat.zero_le _) (Nat.zero_le _) ?_
    rw [b2_eq0] at c14
    refine ⟨_, rfl, rfl, ?_, ?_, rfl⟩
    · unfold nmb; rw [if_neg (by omega)]
    · unfold nmb; rw [if_neg (by omega), eb19]; dsimp only; rw [← h4, up2_id]
