theorem nxU_s (a : Sa) (f : Nat) : nxU a (f + 1) = if ¬ hdF a f < 0 ∧ urg a (hdF a f).toNat = 1 ∧ (nxU a f < 0 ∨ a (125 + 11 * ((hdF a f).toNat % 120) + 3) < a (125 + 11 * ((hdF a (nxU a f).toNat).toNat % 120) + 3)) then (f : Int) else nxU a f := rfl
theorem nxL_s (a : Sa) (f : Nat) : nxL a (f + 1) = if ¬ hdF a f < 0 ∧ (nxL a f < 0 ∨ tag a f < tag a (nxL a f).toNat) then (f : Int) else nxL a f := rfl
theorem urg_b (a : Sa) (p : Nat) : urg a p = 0 ∨ urg a p = 1 := by
  unfold urg b2
  split <;> omega
theorem hdN_cong {a a' : Sa} {f : Nat} : ∀ n p, (∀ q, p ≤ q → q < p + n → a' (125 + 11 * (q % 120) + 0) = a (125 + 11 * (q % 120) + 0) ∧ a' (125 + 11 * (q % 120) + 4) = a (125 + 11 * (q % 120) + 4)) → hdN a' f n p = hdN a f n p
  | 0, _, _ => rfl
  | n + 1, p, h => by
    rw [hdN_s, hdN_s, (h p (Nat.le_refl _) (by omega)).1, (h p (Nat.le_refl _) (by omega)).2, hdN_cong n (p + 1) (fun q h1 h2 => h q (by omega) (by omega))]
theorem hdF_1 {a : Sa} {f : Nat} {v : Int} : hdF (up1 a 1 v) f = hdF a f := by
  unfold hdF
  rw [up1_n (by omega), old_eq (a := a) (a' := up1 a 1 v) (up1_n (by omega)), hdN_cong 120 (old a) (fun q _ _ => ⟨up1_n (by omega), up1_n (by omega)⟩)]
theorem Inv_1 {a : Sa} {N T v : Int} (hI : Inv N T a) (hv : 0 ≤ v ∧ v ≤ 1441440000 * a 7) : Inv N T (up1 a 1 v) := by
  have h7 : up1 a 1 v 7 = a 7 := up1_n (by omega)
  have h0 : up1 a 1 v 0 = a 0 := up1_n (by omega)
  have h2 : up1 a 1 v 2 = a 2 := up1_n (by omega)
  have e : ∀ k, k ≠ 1 → up1 a 1 v k = a k := fun k hk => up1_n hk
  have hT' := hI.1
  unfold TopOK at hT'
  refine ⟨?_, ?_, ?_, ?_, ?_, ?_⟩
  · unfold TopOK
    rw [h0, h2, h7, up1_s, e 3 (by omega), e 4 (by omega), e 5 (by omega), e 6 (by omega), e 15 (by omega)]
    omega
  · intro f hf
    rw [h2] at hf
    have hF := hI.2.1 f hf
    refine ⟨hF.1.up (fun j _ _ _ _ _ _ => e _ (by omega)) (by omega) (by omega), ?_⟩
    rw [e _ (by omega), hF.2, Qs_cong h7]
    intro q _
    exact isQ_eq (e _ (by omega)) (e _ (by omega))
  · intro p h1 h3
    rw [old_eq h7] at h1
    rw [h7] at h3
    exact (hI.2.2.1 p h1 h3).up (fun j _ _ => e _ (by omega)) (by omega) (by omega)
  · rw [e 16 (by omega), Ss_cong h7 (fun q _ => isS_eq (e _ (by omega)))]
    exact hI.2.2.2.1
  · rw [e 1825 (by omega)]
    exact hI.2.2.2.2.1
  · intro i hi
    rw [e _ (by omega)]
    exact hI.2.2.2.2.2 i hi
set_option maxHeartbeats 4000000 in
set_option maxRecDepth 20000 in
theorem k_X6_nextFlow {l : Launch} {G : Gd} {base : Nat} {Y : MY} {I : MI} {L : ML} {M : Nat} {a : Sa} {N T : Int} (hI : Inv N T a) {b : Nat → Nat → Int} (hM : MLy base Y M)  : Ct l yX6_nextFlow cX6_nextFlow 9 (some .int) (rmz 5 108) G base [.ref M] Y (mI I M 7 b) (rL L (M + 1) a) (EI Y (fun r I' L' => r = nxt a ∧ I' = mI I M 7 (up2 b 0 9 (if nxU a (a 2).toNat < 0 then 0 else 1)) ∧ L' = rL L (M + 1) a)) := by
  refine Ct.of (own := RX6) (lo := [(0, .ref M)]) (by decide) rfl (Nat.le_of_ble_eq_true rfl) rfl ?_
  intro zp ze zs zm zargs zbl zmt zc C hr hlk hnm
  have hT := hI.1
  unfold TopOK at hT
  obtain ⟨n, hn⟩ := Int.eq_ofNat_of_zero_le (show 0 ≤ a 2 by omega)
  refine r_bipush (v := iI (-6)) C dX6_nextFlow_0 (by decide) ?_
  refine r_istore_n (lo' := [(1, .int (iI (-6))), (0, .ref M)]) C dX6_nextFlow_2 rfl (by decide) rfl ?_
  refine r_bipush (v := iI (-6)) C dX6_nextFlow_3 (by decide) ?_
  refine r_istore_n (lo' := [(2, .int (iI (-6))), (1, .int (iI (-6))), (0, .ref M)]) C dX6_nextFlow_5 rfl (by decide) rfl ?_
  refine r_lconst (v := lI 0) C dX6_nextFlow_6 (by decide) ?_
  refine r_lstore_n (lo' := [(3, .long (lI 0)), (2, .int (iI (-6))), (1, .int (iI (-6))), (0, .ref M)]) C dX6_nextFlow_7 rfl (by decide) rfl ?_
  refine r_iconst (v := iI 0) C dX6_nextFlow_8 rfl ?_
  refine r_istore (lo' := [(5, .int (iI 0)), (3, .long (lI 0)), (2, .int (iI (-6))), (1, .int (iI (-6))), (0, .ref M)]) C dX6_nextFlow_9 (by decide) rfl ?_
  have lp11 : ∀ (k : Nat) (x1 : Int) (x2 : Int) (x3 : Int) (x5 : Int) (i : Nat) (hx5 : x5 = i) (hi : (i : Int) ≤ a 2) (hx1 : x1 = nxU a i) (hx2 : x2 = nxL a i) (hx3 : ¬ nxL a i < 0 → x3 = tag a (nxL a i).toNat) (hx3b : 0 ≤ x3 ∧ x3 ≤ 1441440000 * a 7), n - i = k → Bd zp l ze (rmz 5 108) zs zm zargs zbl zmt zc 9 G base (EI Y (fun r I' L' => r = nxt a ∧ I' = mI I M 7 (up2 b 0 9 (if nxU a (a 2).toNat < 0 then 0 else 1)) ∧ L' = rL L (M + 1) a)) 11 [(5, .int (iI x5)), (3, .long (lI x3)), (2, .int (iI x2)), (1, .int (iI x1)), (0, .ref M)] [] Y (mI I M 7 b) (rL L (M + 1) a) 0 0 := by
    intro k
    induction k using Nat.strongRecOn with
    | _ k ih =>
    intro x1 x2 x3 x5 i hx5 hi hx1 hx2 hx3 hx3b hk
    have hub : -6 ≤ nxU a i ∧ nxU a i ≤ 6 := by
      rcases nxU_ok (a := a) i with h | ⟨f, h1, h2, h3⟩ <;> omega
    have hlb : -6 ≤ nxL a i ∧ nxL a i ≤ 6 := by
      rcases nxL_ok hI i hi with ⟨h, _⟩ | ⟨f, h1, h2, h3⟩ <;> omega
    refine r_iload C 0 dX6_nextFlow_11 rfl ?_
    refine n_i2l C dX6_nextFlow_13 (by constructor <;> omega) ?_
    refine r_aload_n C 4 dX6_nextFlow_14 rfl rfl ?_
    refine r_getR C fl_X6_7 rfl dX6_nextFlow_15 hM.1.1 hM.2.1 ?_
    refine r_iconst (v := iI 2) C dX6_nextFlow_18 rfl ?_
    refine a_lald C (v := (a 2)) 2 dX6_nextFlow_19 hM.1.2.1 ⟨rfl, by decide, by decide⟩ rfl ?_
    refine n_lcmp_ge (tgt := 105) C dX6_nextFlow_20 dX6_nextFlow_21 rfl rfl (by decide) (by constructor <;> omega) (by constructor <;> omega) (fun c20 => ?_) (fun c20 => ?_)
    · refine r_aload_n C 4 dX6_nextFlow_105 rfl rfl ?_
      refine r_iload_n C 3 dX6_nextFlow_106 rfl rfl ?_
      refine n_if_lt (tgt := 114) C dX6_nextFlow_107 (by decide) (by constructor <;> omega) (fun c107 => ?_) (fun c107 => ?_)
      · refine r_iconst (v := iI 0) C dX6_nextFlow_114 rfl ?_
        refine g_putZ C (o := 0) rfl (by decide) fl_X6_172 rfl dX6_nextFlow_115 hM.1.1 (by omega) (fun b115 eb115 => ?_)
        refine r_aload_n C 4 dX6_nextFlow_118 rfl rfl ?_
        refine g_getI C (o := 0) (v := 0) rfl (by decide) fl_X6_172 rfl dX6_nextFlow_119 hM.1.1 (by rw [eb115, up2_s]) ?_
        refine n_if_eq (tgt := 129) C dX6_nextFlow_122 (by decide) ⟨by decide, by decide⟩ (fun c122 => ?_) (fun c122 => ?_)
        · refine r_iload_n C 2 dX6_nextFlow_129 rfl rfl ?_
          refine r_iret C hr hlk dX6_nextFlow_130 (Nat.zero_le _) (Nat.zero_le _) ?_
          first
            | (exfalso; omega)
            | (have hin : i = n := by omega
               subst hin
               have hnn : (a 2).toNat = i := by omega
               refine ⟨_, rfl, rfl, ?_, ?_, rfl⟩
               · unfold nxt; rw [hnn]; split <;> omega
               · rw [eb115, hnn]; first | rw [if_pos (by omega)] | rw [if_neg (by omega)])
        · refine r_iload_n C 3 dX6_nextFlow_125 rfl rfl ?_
          refine r_goto (tgt := 130) C dX6_nextFlow_126 (by decide) ?_
          refine r_iret C hr hlk dX6_nextFlow_130 (Nat.zero_le _) (Nat.zero_le _) ?_
          first
            | (exfalso; omega)
            | (have hin : i = n := by omega
               subst hin
               have hnn : (a 2).toNat = i := by omega
               refine ⟨_, rfl, rfl, ?_, ?_, rfl⟩
               · unfold nxt; rw [hnn]; split <;> omega
               · rw [eb115, hnn]; first | rw [if_pos (by omega)] | rw [if_neg (by omega)])
      · refine r_iconst (v := iI 1) C dX6_nextFlow_110 rfl ?_
        refine r_goto (tgt := 115) C dX6_nextFlow_111 (by decide) ?_
        refine g_putZ C (o := 0) rfl (by decide) fl_X6_172 rfl dX6_nextFlow_115 hM.1.1 (by omega) (fun b115 eb115 => ?_)
        refine r_aload_n C 4 dX6_nextFlow_118 rfl rfl ?_
        refine g_getI C (o := 0) (v := 1) rfl (by decide) fl_X6_172 rfl dX6_nextFlow_119 hM.1.1 (by rw [eb115, up2_s]) ?_
        refine n_if_eq (tgt := 129) C dX6_nextFlow_122 (by decide) ⟨by decide, by decide⟩ (fun c122 => ?_) (fun c122 => ?_)
        · refine r_iload_n C 2 dX6_nextFlow_129 rfl rfl ?_
          refine r_iret C hr hlk dX6_nextFlow_130 (Nat.zero_le _) (Nat.zero_le _) ?_
          first
            | (exfalso; omega)
            | (have hin : i = n := by omega
               subst hin
               have hnn : (a 2).toNat = i := by omega
               refine ⟨_, rfl, rfl, ?_, ?_, rfl⟩
               · unfold nxt; rw [hnn]; split <;> omega
               · rw [eb115, hnn]; first | rw [if_pos (by omega)] | rw [if_neg (by omega)])
        · refine r_iload_n C 3 dX6_nextFlow_125 rfl rfl ?_
          refine r_goto (tgt := 130) C dX6_nextFlow_126 (by decide) ?_
          refine r_iret C hr hlk dX6_nextFlow_130 (Nat.zero_le _) (Nat.zero_le _) ?_
          first
            | (exfalso; omega)
            | (have hin : i = n := by omega
               subst hin
               have hnn : (a 2).toNat = i := by omega
               refine ⟨_, rfl, rfl, ?_, ?_, rfl⟩
               · unfold nxt; rw [hnn]; split <;> omega
               · rw [eb115, hnn]; first | rw [if_pos (by omega)] | rw [if_neg (by omega)])
    · have hdb : -6 ≤ hdF a i ∧ hdF a i ≤ 400000 := by
        rcases hd_ok hI (f := i) (by omega) with ⟨_, h⟩ | ⟨_, p, h1, h2, h3, h4⟩ <;> omega
      refine r_aload_n C 4 dX6_nextFlow_24 rfl rfl ?_
      refine r_iload C 0 dX6_nextFlow_25 rfl ?_
      refine cV1_PI C (k_X6_headOf hI i hM (by omega) (by omega)) cw_X6_166 (rm_ok rfl rfl (Nat.zero_le _) (Nat.zero_le _)) (Nat.le_of_ble_eq_true rfl) hM.1.1 dX6_nextFlow_27 ?_
      refine n_topi (fun x30 ex30 => ?_)
      refine r_istore (lo' := [(6, .int (iI x30)), (5, .int (iI x5)), (3, .long (lI x3)), (2, .int (iI x2)), (1, .int (iI x1)), (0, .ref M)]) C dX6_nextFlow_30 (by decide) rfl ?_
      refine r_iload C 0 dX6_nextFlow_32 rfl ?_
      refine n_if_lt (tgt := 99) C dX6_nextFlow_34 (by decide) (by constructor <;> omega) (fun c34 => ?_) (fun c34 => ?_)
      · refine n_iinc (lo' := [(5, .int (iI (x5 + 1))), (6, .int (iI x30)), (3, .long (lI x3)), (2, .int (iI x2)), (1, .int (iI x1)), (0, .ref M)]) C 1 dX6_nextFlow_99 rfl rfl (by decide) rfl ?_
        refine r_goto (tgt := 11) C dX6_nextFlow_102 (by decide) ?_
        refine r_lo [0, 2, 3, 4, 5] rfl ?_
        exact ih _ (by first | omega | (rw [← hk]; omega)) x1 x2 x3 ((x5 + 1)) (i + 1) (by omega) (by omega) (by rw [nxU_s]; split <;> omega) (by rw [nxL_s]; split <;> omega) (fun hh => by rw [show nxL a (i + 1) = nxL a i by rw [nxL_s, if_neg (by omega)]] at hh ⊢; exact hx3 hh) hx3b rfl
      · have hq : (old a ≤ (hdF a i).toNat ∧ (((hdF a i).toNat : Nat) : Int) < a 7) ∧ a (125 + 11 * ((hdF a i).toNat % 120) + 0) = i ∧ a (125 + 11 * ((hdF a i).toNat % 120) + 4) ≤ 1 := by
          rcases hd_ok hI (f := i) (by omega) with ⟨_, h⟩ | ⟨_, p, h1, h2, h3, h4⟩
          · omega
          · rw [h1]; exact ⟨h2, h3, h4⟩
        have hP := hI.2.2.1 _ hq.1.1 hq.1.2
        unfold PkOK at hP
        have hur := urg_b a (hdF a i).toNat
        have htg := tag_b hI (f := i) (by omega)
        refine r_aload_n C 5 dX6_nextFlow_37 rfl rfl ?_
        refine r_iload C 0 dX6_nextFlow_38 rfl ?_
        refine cV1_PI C (k_X6_isUrgent hI ((hdF a i).toNat) hM (by omega) (by omega)) cw_X6_105 (rm_ok rfl rfl (Nat.zero_le _) (Nat.zero_le _)) (Nat.le_of_ble_eq_true rfl) hM.1.1 dX6_nextFlow_40 ?_
        refine n_if_eq (tgt := 74) C dX6_nextFlow_43 (by decide) (by constructor <;> omega) (fun c43 => ?_) (fun c43 => ?_)
        · refine r_aload_n C 5 dX6_nextFlow_74 rfl rfl ?_
          refine r_iload C 1 dX6_nextFlow_75 rfl ?_
          refine cV1_PL C (k_X6_tagOf hI i hM (by omega) (by omega)) cw_X6_169 (rm_ok rfl rfl (Nat.zero_le _) (Nat.zero_le _)) (Nat.le_of_ble_eq_true rfl) hM.1.1 dX6_nextFlow_77 ?_
          refine n_topl (fun x80 ex80 => ?_)
          refine r_lstore (lo' := [(7, .long (lI x80)), (6, .int (iI x30)), (5, .int (iI x5)), (3, .long (lI x3)), (2, .int (iI x2)), (1, .int (iI x1)), (0, .ref M)]) C dX6_nextFlow_80 (by decide) rfl ?_
          refine r_iload_n C 4 dX6_nextFlow_82 rfl rfl ?_
          refine n_if_lt (tgt := 93) C dX6_nextFlow_83 (by decide) (by constructor <;> omega) (fun c83 => ?_) (fun c83 => ?_)
          · refine r_iload C 2 dX6_nextFlow_93 rfl ?_
            refine r_istore_n (lo' := [(2, .int (iI x5)), (7, .long (lI x80)), (6, .int (iI x30)), (5, .int (iI x5)), (3, .long (lI x3)), (1, .int (iI x1)), (0, .ref M)]) C dX6_nextFlow_95 rfl (by decide) rfl ?_
            refine r_lload C 1 dX6_nextFlow_96 rfl ?_
            refine r_lstore_n (lo' := [(3, .long (lI x80)), (2, .int (iI x5)), (7, .long (lI x80)), (6, .int (iI x30)), (5, .int (iI x5)), (1, .int (iI x1)), (0, .ref M)]) C dX6_nextFlow_98 rfl (by decide) rfl ?_
            refine n_iinc (lo' := [(5, .int (iI (x5 + 1))), (3, .long (lI x80)), (2, .int (iI x5)), (7, .long (lI x80)), (6, .int (iI x30)), (1, .int (iI x1)), (0, .ref M)]) C 4 dX6_nextFlow_99 rfl rfl (by decide) rfl ?_
            refine r_goto (tgt := 11) C dX6_nextFlow_102 (by decide) ?_
            refine r_lo [0, 1, 2, 5, 6] rfl ?_
            exact ih _ (by first | omega | (rw [← hk]; omega)) x1 x5 x80 ((x5 + 1)) (i + 1) (by omega) (by omega) (by rw [nxU_s]; split <;> omega) (by rw [nxL_s]; split <;> omega) (fun _ => by rw [show nxL a (i + 1) = (i : Int) by rw [nxL_s, if_pos (by omega)], show ((i : Nat) : Int).toNat = i from rfl]; exact ex80) (by omega) rfl
          · refine r_lload C 0 dX6_nextFlow_86 rfl ?_
            refine r_lload_n C 3 dX6_nextFlow_88 rfl rfl ?_
            refine n_lcmp_ge (tgt := 99) C dX6_nextFlow_89 dX6_nextFlow_90 rfl rfl (by decide) (by constructor <;> omega) (by constructor <;> omega) (fun c89 => ?_) (fun c89 => ?_)
            · refine n_iinc (lo' := [(5, .int (iI (x5 + 1))), (7, .long (lI x80)), (6, .int (iI x30)), (3, .long (lI x3)), (2, .int (iI x2)), (1, .int (iI x1)), (0, .ref M)]) C 2 dX6_nextFlow_99 rfl rfl (by decide) rfl ?_
              refine r_goto (tgt := 11) C dX6_nextFlow_102 (by decide) ?_
              refine r_lo [0, 3, 4, 5, 6] rfl ?_
              exact ih _ (by first | omega | (rw [← hk]; omega)) x1 x2 x3 ((x5 + 1)) (i + 1) (by omega) (by omega) (by rw [nxU_s]; split <;> omega) (by rw [nxL_s]; split <;> omega) (fun hh => by rw [show nxL a (i + 1) = nxL a i by rw [nxL_s, if_neg (by omega)]] at hh ⊢; exact hx3 hh) hx3b rfl
            · refine r_iload C 2 dX6_nextFlow_93 rfl ?_
              refine r_istore_n (lo' := [(2, .int (iI x5)), (7, .long (lI x80)), (6, .int (iI x30)), (5, .int (iI x5)), (3, .long (lI x3)), (1, .int (iI x1)), (0, .ref M)]) C dX6_nextFlow_95 rfl (by decide) rfl ?_
              refine r_lload C 1 dX6_nextFlow_96 rfl ?_
              refine r_lstore_n (lo' := [(3, .long (lI x80)), (2, .int (iI x5)), (7, .long (lI x80)), (6, .int (iI x30)), (5, .int (iI x5)), (1, .int (iI x1)), (0, .ref M)]) C dX6_nextFlow_98 rfl (by decide) rfl ?_
              refine n_iinc (lo' := [(5, .int (iI (x5 + 1))), (3, .long (lI x80)), (2, .int (iI x5)), (7, .long (lI x80)), (6, .int (iI x30)), (1, .int (iI x1)), (0, .ref M)]) C 4 dX6_nextFlow_99 rfl rfl (by decide) rfl ?_
              refine r_goto (tgt := 11) C dX6_nextFlow_102 (by decide) ?_
              refine r_lo [0, 1, 2, 5, 6] rfl ?_
              exact ih _ (by first | omega | (rw [← hk]; omega)) x1 x5 x80 ((x5 + 1)) (i + 1) (by omega) (by omega) (by rw [nxU_s]; split <;> omega) (by rw [nxL_s]; split <;> omega) (fun _ => by rw [show nxL a (i + 1) = (i : Int) by rw [nxL_s, if_pos (by omega)], show ((i : Nat) : Int).toNat = i from rfl]; exact ex80) (by omega) rfl
        · refine r_iload_n C 4 dX6_nextFlow_46 rfl rfl ?_
          refine n_if_lt (tgt := 71) C dX6_nextFlow_47 (by decide) (by constructor <;> omega) (fun c47 => ?_) (fun c47 => ?_)
          · refine r_iload C 1 dX6_nextFlow_71 rfl ?_
            refine r_istore_n (lo' := [(1, .int (iI x5)), (6, .int (iI x30)), (5, .int (iI x5)), (3, .long (lI x3)), (2, .int (iI x2)), (0, .ref M)]) C dX6_nextFlow_73 rfl (by decide) rfl ?_
            refine r_aload_n C 5 dX6_nextFlow_74 rfl rfl ?_
            refine r_iload C 2 dX6_nextFlow_75 rfl ?_
            refine cV1_PL C (k_X6_tagOf hI i hM (by omega) (by omega)) cw_X6_169 (rm_ok rfl rfl (Nat.zero_le _) (Nat.zero_le _)) (Nat.le_of_ble_eq_true rfl) hM.1.1 dX6_nextFlow_77 ?_
            refine n_topl (fun x80 ex80 => ?_)
            refine r_lstore (lo' := [(7, .long (lI x80)), (1, .int (iI x5)), (6, .int (iI x30)), (5, .int (iI x5)), (3, .long (lI x3)), (2, .int (iI x2)), (0, .ref M)]) C dX6_nextFlow_80 (by decide) rfl ?_
            refine r_iload_n C 5 dX6_nextFlow_82 rfl rfl ?_
            refine n_if_lt (tgt := 93) C dX6_nextFlow_83 (by decide) (by constructor <;> omega) (fun c83 => ?_) (fun c83 => ?_)
            · refine r_iload C 3 dX6_nextFlow_93 rfl ?_
              refine r_istore_n (lo' := [(2, .int (iI x5)), (7, .long (lI x80)), (1, .int (iI x5)), (6, .int (iI x30)), (5, .int (iI x5)), (3, .long (lI x3)), (0, .ref M)]) C dX6_nextFlow_95 rfl (by decide) rfl ?_
              refine r_lload C 1 dX6_nextFlow_96 rfl ?_
              refine r_lstore_n (lo' := [(3, .long (lI x80)), (2, .int (iI x5)), (7, .long (lI x80)), (1, .int (iI x5)), (6, .int (iI x30)), (5, .int (iI x5)), (0, .ref M)]) C dX6_nextFlow_98 rfl (by decide) rfl ?_
              refine n_iinc (lo' := [(5, .int (iI (x5 + 1))), (3, .long (lI x80)), (2, .int (iI x5)), (7, .long (lI x80)), (1, .int (iI x5)), (6, .int (iI x30)), (0, .ref M)]) C 5 dX6_nextFlow_99 rfl rfl (by decide) rfl ?_
              refine r_goto (tgt := 11) C dX6_nextFlow_102 (by decide) ?_
              refine r_lo [0, 1, 2, 4, 6] rfl ?_
              exact ih _ (by first | omega | (rw [← hk]; omega)) x5 x5 x80 ((x5 + 1)) (i + 1) (by omega) (by omega) (by rw [nxU_s]; split <;> omega) (by rw [nxL_s]; split <;> omega) (fun _ => by rw [show nxL a (i + 1) = (i : Int) by rw [nxL_s, if_pos (by omega)], show ((i : Nat) : Int).toNat = i from rfl]; exact ex80) (by omega) rfl
            · refine r_lload C 0 dX6_nextFlow_86 rfl ?_
              refine r_lload_n C 4 dX6_nextFlow_88 rfl rfl ?_
              refine n_lcmp_ge (tgt := 99) C dX6_nextFlow_89 dX6_nextFlow_90 rfl rfl (by decide) (by constructor <;> omega) (by constructor <;> omega) (fun c89 => ?_) (fun c89 => ?_)
              · refine n_iinc (lo' := [(5, .int (iI (x5 + 1))), (7, .long (lI x80)), (1, .int (iI x5)), (6, .int (iI x30)), (3, .long (lI x3)), (2, .int (iI x2)), (0, .ref M)]) C 3 dX6_nextFlow_99 rfl rfl (by decide) rfl ?_
                refine r_goto (tgt := 11) C dX6_nextFlow_102 (by decide) ?_
                refine r_lo [0, 4, 5, 2, 6] rfl ?_
                exact ih _ (by first | omega | (rw [← hk]; omega)) x5 x2 x3 ((x5 + 1)) (i + 1) (by omega) (by omega) (by rw [nxU_s]; split <;> omega) (by rw [nxL_s]; split <;> omega) (fun hh => by rw [show nxL a (i + 1) = nxL a i by rw [nxL_s, if_neg (by omega)]] at hh ⊢; exact hx3 hh) hx3b rfl
              · refine r_iload C 3 dX6_nextFlow_93 rfl ?_
                refine r_istore_n (lo' := [(2, .int (iI x5)), (7, .long (lI x80)), (1, .int (iI x5)), (6, .int (iI x30)), (5, .int (iI x5)), (3, .long (lI x3)), (0, .ref M)]) C dX6_nextFlow_95 rfl (by decide) rfl ?_
                refine r_lload C 1 dX6_nextFlow_96 rfl ?_
                refine r_lstore_n (lo' := [(3, .long (lI x80)), (2, .int (iI x5)), (7, .long (lI x80)), (1, .int (iI x5)), (6, .int (iI x30)), (5, .int (iI x5)), (0, .ref M)]) C dX6_nextFlow_98 rfl (by decide) rfl ?_
                refine n_iinc (lo' := [(5, .int (iI (x5 + 1))), (3, .long (lI x80)), (2, .int (iI x5)), (7, .long (lI x80)), (1, .int (iI x5)), (6, .int (iI x30)), (0, .ref M)]) C 5 dX6_nextFlow_99 rfl rfl (by decide) rfl ?_
                refine r_goto (tgt := 11) C dX6_nextFlow_102 (by decide) ?_
                refine r_lo [0, 1, 2, 4, 6] rfl ?_
                exact ih _ (by first | omega | (rw [← hk]; omega)) x5 x5 x80 ((x5 + 1)) (i + 1) (by omega) (by omega) (by rw [nxU_s]; split <;> omega) (by rw [nxL_s]; split <;> omega) (fun _ => by rw [show nxL a (i + 1) = (i : Int) by rw [nxL_s, if_pos (by omega)], show ((i : Nat) : Int).toNat = i from rfl]; exact ex80) (by omega) rfl
          · have hu : ((((nxU a i).toNat : Nat) : Int) < a 2) ∧ ¬ hdF a (nxU a i).toNat < 0 := by
              rcases nxU_ok (a := a) i with h | ⟨f, h1, h2, h3, h4⟩
              · omega
              · rw [h1]; exact ⟨by rw [show ((f : Nat) : Int).toNat = f from rfl]; omega, h3⟩
            have hq2 : (old a ≤ (hdF a (nxU a i).toNat).toNat ∧ (((hdF a (nxU a i).toNat).toNat : Nat) : Int) < a 7) ∧ a (125 + 11 * ((hdF a (nxU a i).toNat).toNat % 120) + 0) = (nxU a i).toNat ∧ a (125 + 11 * ((hdF a (nxU a i).toNat).toNat % 120) + 4) ≤ 1 := by
              rcases hd_ok hI (f := (nxU a i).toNat) hu.1 with ⟨_, h⟩ | ⟨_, p, h1, h2, h3, h4⟩
              · exact absurd h (by omega)
              · rw [h1]; exact ⟨h2, h3, h4⟩
            have hP2 := hI.2.2.1 _ hq2.1.1 hq2.1.2
            unfold PkOK at hP2
            refine r_aload_n C 5 dX6_nextFlow_50 rfl rfl ?_
            refine r_iload C 0 dX6_nextFlow_51 rfl ?_
            refine r_iconst (v := iI 3) C dX6_nextFlow_53 rfl ?_
            refine cV2_PL C (k_X6_of ((hdF a i).toNat) 3 hM (by omega) (by omega) (by omega)) cw_X6_49 (rm_ok rfl rfl (Nat.zero_le _) (Nat.zero_le _)) (Nat.le_of_ble_eq_true rfl) hM.1.1 dX6_nextFlow_54 ?_
            refine r_aload_n C 5 dX6_nextFlow_57 rfl rfl ?_
            refine r_aload_n C 5 dX6_nextFlow_58 rfl rfl ?_
            refine r_iload_n C 4 dX6_nextFlow_59 rfl rfl ?_
            refine cV1_PI C (k_X6_headOf hI ((nxU a i).toNat) hM (by omega) (by omega)) cw_X6_166 (rm_ok rfl rfl (Nat.zero_le _) (Nat.zero_le _)) (Nat.le_of_ble_eq_true rfl) hM.1.1 dX6_nextFlow_60 ?_
            refine r_iconst (v := iI 3) C dX6_nextFlow_63 rfl ?_
            refine cV2_PL C (k_X6_of ((hdF a (nxU a i).toNat).toNat) 3 hM (by omega) (by omega) (by omega)) cw_X6_49 (rm_ok rfl rfl (Nat.zero_le _) (Nat.zero_le _)) (Nat.le_of_ble_eq_true rfl) hM.1.1 dX6_nextFlow_64 ?_
            refine n_lcmp_ge (tgt := 74) C dX6_nextFlow_67 dX6_nextFlow_68 rfl rfl (by decide) (by constructor <;> omega) (by constructor <;> omega) (fun c67 => ?_) (fun c67 => ?_)
            · refine r_aload_n C 5 dX6_nextFlow_74 rfl rfl ?_
              refine r_iload C 1 dX6_nextFlow_75 rfl ?_
              refine cV1_PL C (k_X6_tagOf hI i hM (by omega) (by omega)) cw_X6_169 (rm_ok rfl rfl (Nat.zero_le _) (Nat.zero_le _)) (Nat.le_of_ble_eq_true rfl) hM.1.1 dX6_nextFlow_77 ?_
              refine n_topl (fun x80 ex80 => ?_)
              refine r_lstore (lo' := [(7, .long (lI x80)), (6, .int (iI x30)), (5, .int (iI x5)), (3, .long (lI x3)), (2, .int (iI x2)), (1, .int (iI x1)), (0, .ref M)]) C dX6_nextFlow_80 (by decide) rfl ?_
              refine r_iload_n C 4 dX6_nextFlow_82 rfl rfl ?_
              refine n_if_lt (tgt := 93) C dX6_nextFlow_83 (by decide) (by constructor <;> omega) (fun c83 => ?_) (fun c83 => ?_)
              · refine r_iload C 2 dX6_nextFlow_93 rfl ?_
                refine r_istore_n (lo' := [(2, .int (iI x5)), (7, .long (lI x80)), (6, .int (iI x30)), (5, .int (iI x5)), (3, .long (lI x3)), (1, .int (iI x1)), (0, .ref M)]) C dX6_nextFlow_95 rfl (by decide) rfl ?_
                refine r_lload C 1 dX6_nextFlow_96 rfl ?_
                refine r_lstore_n (lo' := [(3, .long (lI x80)), (2, .int (iI x5)), (7, .long (lI x80)), (6, .int (iI x30)), (5, .int (iI x5)), (1, .int (iI x1)), (0, .ref M)]) C dX6_nextFlow_98 rfl (by decide) rfl ?_
                refine n_iinc (lo' := [(5, .int (iI (x5 + 1))), (3, .long (lI x80)), (2, .int (iI x5)), (7, .long (lI x80)), (6, .int (iI x30)), (1, .int (iI x1)), (0, .ref M)]) C 4 dX6_nextFlow_99 rfl rfl (by decide) rfl ?_
                refine r_goto (tgt := 11) C dX6_nextFlow_102 (by decide) ?_
                refine r_lo [0, 1, 2, 5, 6] rfl ?_
                exact ih _ (by first | omega | (rw [← hk]; omega)) x1 x5 x80 ((x5 + 1)) (i + 1) (by omega) (by omega) (by rw [nxU_s]; split <;> omega) (by rw [nxL_s]; split <;> omega) (fun _ => by rw [show nxL a (i + 1) = (i : Int) by rw [nxL_s, if_pos (by omega)], show ((i : Nat) : Int).toNat = i from rfl]; exact ex80) (by omega) rfl
              · refine r_lload C 0 dX6_nextFlow_86 rfl ?_
                refine r_lload_n C 3 dX6_nextFlow_88 rfl rfl ?_
                refine n_lcmp_ge (tgt := 99) C dX6_nextFlow_89 dX6_nextFlow_90 rfl rfl (by decide) (by constructor <;> omega) (by constructor <;> omega) (fun c89 => ?_) (fun c89 => ?_)
                · refine n_iinc (lo' := [(5, .int (iI (x5 + 1))), (7, .long (lI x80)), (6, .int (iI x30)), (3, .long (lI x3)), (2, .int (iI x2)), (1, .int (iI x1)), (0, .ref M)]) C 2 dX6_nextFlow_99 rfl rfl (by decide) rfl ?_
                  refine r_goto (tgt := 11) C dX6_nextFlow_102 (by decide) ?_
                  refine r_lo [0, 3, 4, 5, 6] rfl ?_
                  exact ih _ (by first | omega | (rw [← hk]; omega)) x1 x2 x3 ((x5 + 1)) (i + 1) (by omega) (by omega) (by rw [nxU_s]; split <;> omega) (by rw [nxL_s]; split <;> omega) (fun hh => by rw [show nxL a (i + 1) = nxL a i by rw [nxL_s, if_neg (by omega)]] at hh ⊢; exact hx3 hh) hx3b rfl
                · refine r_iload C 2 dX6_nextFlow_93 rfl ?_
                  refine r_istore_n (lo' := [(2, .int (iI x5)), (7, .long (lI x80)), (6, .int (iI x30)), (5, .int (iI x5)), (3, .long (lI x3)), (1, .int (iI x1)), (0, .ref M)]) C dX6_nextFlow_95 rfl (by decide) rfl ?_
                  refine r_lload C 1 dX6_nextFlow_96 rfl ?_
                  refine r_lstore_n (lo' := [(3, .long (lI x80)), (2, .int (iI x5)), (7, .long (lI x80)), (6, .int (iI x30)), (5, .int (iI x5)), (1, .int (iI x1)), (0, .ref M)]) C dX6_nextFlow_98 rfl (by decide) rfl ?_
                  refine n_iinc (lo' := [(5, .int (iI (x5 + 1))), (3, .long (lI x80)), (2, .int (iI x5)), (7, .long (lI x80)), (6, .int (iI x30)), (1, .int (iI x1)), (0, .ref M)]) C 4 dX6_nextFlow_99 rfl rfl (by decide) rfl ?_
                  refine r_goto (tgt := 11) C dX6_nextFlow_102 (by decide) ?_
                  refine r_lo [0, 1, 2, 5, 6] rfl ?_
                  exact ih _ (by first | omega | (rw [← hk]; omega)) x1 x5 x80 ((x5 + 1)) (i + 1) (by omega) (by omega) (by rw [nxU_s]; split <;> omega) (by rw [nxL_s]; split <;> omega) (fun _ => by rw [show nxL a (i + 1) = (i : Int) by rw [nxL_s, if_pos (by omega)], show ((i : Nat) : Int).toNat = i from rfl]; exact ex80) (by omega) rfl
            · refine r_iload C 1 dX6_nextFlow_71 rfl ?_
              refine r_istore_n (lo' := [(1, .int (iI x5)), (6, .int (iI x30)), (5, .int (iI x5)), (3, .long (lI x3)), (2, .int (iI x2)), (0, .ref M)]) C dX6_nextFlow_73 rfl (by decide) rfl ?_
              refine r_aload_n C 5 dX6_nextFlow_74 rfl rfl ?_
              refine r_iload C 2 dX6_nextFlow_75 rfl ?_
              refine cV1_PL C (k_X6_tagOf hI i hM (by omega) (by omega)) cw_X6_169 (rm_ok rfl rfl (Nat.zero_le _) (Nat.zero_le _)) (Nat.le_of_ble_eq_true rfl) hM.1.1 dX6_nextFlow_77 ?_
              refine n_topl (fun x80 ex80 => ?_)
              refine r_lstore (lo' := [(7, .long (lI x80)), (1, .int (iI x5)), (6, .int (iI x30)), (5, .int (iI x5)), (3, .long (lI x3)), (2, .int (iI x2)), (0, .ref M)]) C dX6_nextFlow_80 (by decide) rfl ?_
              refine r_iload_n C 5 dX6_nextFlow_82 rfl rfl ?_
              refine n_if_lt (tgt := 93) C dX6_nextFlow_83 (by decide) (by constructor <;> omega) (fun c83 => ?_) (fun c83 => ?_)
              · refine r_iload C 3 dX6_nextFlow_93 rfl ?_
                refine r_istore_n (lo' := [(2, .int (iI x5)), (7, .long (lI x80)), (1, .int (iI x5)), (6, .int (iI x30)), (5, .int (iI x5)), (3, .long (lI x3)), (0, .ref M)]) C dX6_nextFlow_95 rfl (by decide) rfl ?_
                refine r_lload C 1 dX6_nextFlow_96 rfl ?_
                refine r_lstore_n (lo' := [(3, .long (lI x80)), (2, .int (iI x5)), (7, .long (lI x80)), (1, .int (iI x5)), (6, .int (iI x30)), (5, .int (iI x5)), (0, .ref M)]) C dX6_nextFlow_98 rfl (by decide) rfl ?_
                refine n_iinc (lo' := [(5, .int (iI (x5 + 1))), (3, .long (lI x80)), (2, .int (iI x5)), (7, .long (lI x80)), (1, .int (iI x5)), (6, .int (iI x30)), (0, .ref M)]) C 5 dX6_nextFlow_99 rfl rfl (by decide) rfl ?_
                refine r_goto (tgt := 11) C dX6_nextFlow_102 (by decide) ?_
                refine r_lo [0, 1, 2, 4, 6] rfl ?_
                exact ih _ (by first | omega | (rw [← hk]; omega)) x5 x5 x80 ((x5 + 1)) (i + 1) (by omega) (by omega) (by rw [nxU_s]; split <;> omega) (by rw [nxL_s]; split <;> omega) (fun _ => by rw [show nxL a (i + 1) = (i : Int) by rw [nxL_s, if_pos (by omega)], show ((i : Nat) : Int).toNat = i from rfl]; exact ex80) (by omega) rfl
              · refine r_lload C 0 dX6_nextFlow_86 rfl ?_
                refine r_lload_n C 4 dX6_nextFlow_88 rfl rfl ?_
                refine n_lcmp_ge (tgt := 99) C dX6_nextFlow_89 dX6_nextFlow_90 rfl rfl (by decide) (by constructor <;> omega) (by constructor <;> omega) (fun c89 => ?_) (fun c89 => ?_)
                · refine n_iinc (lo' := [(5, .int (iI (x5 + 1))), (7, .long (lI x80)), (1, .int (iI x5)), (6, .int (iI x30)), (3, .long (lI x3)), (2, .int (iI x2)), (0, .ref M)]) C 3 dX6_nextFlow_99 rfl rfl (by decide) rfl ?_
                  refine r_goto (tgt := 11) C dX6_nextFlow_102 (by decide) ?_
                  refine r_lo [0, 4, 5, 2, 6] rfl ?_
                  exact ih _ (by first | omega | (rw [← hk]; omega)) x5 x2 x3 ((x5 + 1)) (i + 1) (by omega) (by omega) (by rw [nxU_s]; split <;> omega) (by rw [nxL_s]; split <;> omega) (fun hh => by rw [show nxL a (i + 1) = nxL a i by rw [nxL_s, if_neg (by omega)]] at hh ⊢; exact hx3 hh) hx3b rfl
                · refine r_iload C 3 dX6_nextFlow_93 rfl ?_
                  refine r_istore_n (lo' := [(2, .int (iI x5)), (7, .long (lI x80)), (1, .int (iI x5)), (6, .int (iI x30)), (5, .int (iI x5)), (3, .long (lI x3)), (0, .ref M)]) C dX6_nextFlow_95 rfl (by decide) rfl ?_
                  refine r_lload C 1 dX6_nextFlow_96 rfl ?_
                  refine r_lstore_n (lo' := [(3, .long (lI x80)), (2, .int (iI x5)), (7, .long (lI x80)), (1, .int (iI x5)), (6, .int (iI x30)), (5, .int (iI x5)), (0, .ref M)]) C dX6_nextFlow_98 rfl (by decide) rfl ?_
                  refine n_iinc (lo' := [(5, .int (iI (x5 + 1))), (3, .long (lI x80)), (2, .int (iI x5)), (7, .long (lI x80)), (1, .int (iI x5)), (6, .int (iI x30)), (0, .ref M)]) C 5 dX6_nextFlow_99 rfl rfl (by decide) rfl ?_
                  refine r_goto (tgt := 11) C dX6_nextFlow_102 (by decide) ?_
                  refine r_lo [0, 1, 2, 4, 6] rfl ?_
                  exact ih _ (by first | omega | (rw [← hk]; omega)) x5 x5 x80 ((x5 + 1)) (i + 1) (by omega) (by omega) (by rw [nxU_s]; split <;> omega) (by rw [nxL_s]; split <;> omega) (fun _ => by rw [show nxL a (i + 1) = (i : Int) by rw [nxL_s, if_pos (by omega)], show ((i : Nat) : Int).toNat = i from rfl]; exact ex80) (by omega) rfl
  exact lp11 _ ((-6)) ((-6)) 0 0 0 rfl (by omega) rfl rfl (fun h => absurd (show nxL a 0 < 0 from (by show (-6 : Int) < 0; omega)) h) (by omega) rfl
set_option maxHeartbeats 4000000 in
set_option maxRecDepth 20000 in
theorem k_X6_begin {l : Launch} {G : Gd} {base : Nat} {Y : MY} {I : MI} {L : ML} {M : Nat} {a : Sa} {N T : Int} (hI : Inv N T a) {b : Nat → Nat → Int} (hM : MLy base Y M)  : Ct l yX6_begin cX6_begin 7 (none) (rmz 6 136) G base [.ref M] Y (mI I M 7 b) (rL L (M + 1) a) (EV Y (fun I' L' => I' = mI I M 7 (up2 b 0 9 (if nxU a (a 2).toNat < 0 then 0 else 1)) ∧ L' = rL L (M + 1) (bgn a))) := by
  refine Ct.of (own := RX6) (lo := [(0, .ref M)]) (by decide) rfl (Nat.le_of_ble_eq_true rfl) rfl ?_
  intro zp ze zs zm zargs zbl zmt zc C hr hlk hnm
  have hT := hI.1
  unfold TopOK at hT
  refine r_aload_n C 0 dX6_begin_0 rfl rfl ?_
  refine cV0_EI C (k_X6_nextFlow hI hM) cw_X6_175 (rm_ok rfl rfl (Nat.zero_le _) (Nat.zero_le _)) (Nat.le_of_ble_eq_true rfl) hM.1.1 dX6_begin_1 (fun r1 I1 L1 h1 => ?_)
  obtain ⟨h1r, h1I, h1L⟩ := h1
  obtain ⟨u, hu⟩ : ∃ u : Int, u = if nxU a (a 2).toNat < 0 then 0 else 1 := ⟨_, rfl⟩
  have hu01 : (u = 0 ∧ nxU a (a 2).toNat < 0) ∨ (u = 1 ∧ ¬ nxU a (a 2).toNat < 0) := by
    rw [hu]
    split <;> omega
  rw [← hu] at h1I
  obtain ⟨b1, eb1⟩ : ∃ z, z = up2 b 0 9 u := ⟨_, rfl⟩
  rw [← eb1] at h1I
  subst h1I
  subst h1L
  have hnb : -6 ≤ nxt a ∧ nxt a ≤ 6 := by
    rcases nxt_ok hI with ⟨h, _⟩ | ⟨f, h1, h2, h3⟩ <;> omega
  refine r_istore_n (lo' := [(1, .int (iI r1)), (0, .ref M)]) C dX6_begin_4 rfl (by decide) rfl ?_
  refine r_iload_n C 0 dX6_begin_5 rfl rfl ?_
  refine n_if_ge (tgt := 10) C dX6_begin_6 (by decide) (by constructor <;> omega) (fun c6 => ?_) (fun c6 => ?_)
  · have hnx : ((((nxt a).toNat : Nat) : Int) < a 2) ∧ ¬ hdF a (nxt a).toNat < 0 := by
      rcases nxt_ok hI with ⟨h, _⟩ | ⟨f, h1, h2, h3⟩
      · omega
      · rw [h1]; exact ⟨by rw [show ((f : Nat) : Int).toNat = f from rfl]; omega, h3⟩
    have hn6 : (nxt a).toNat < 6 := by omega
    have hq : (old a ≤ (hdF a (nxt a).toNat).toNat ∧ (((hdF a (nxt a).toNat).toNat : Nat) : Int) < a 7) ∧ a (125 + 11 * ((hdF a (nxt a).toNat).toNat % 120) + 0) = (nxt a).toNat ∧ a (125 + 11 * ((hdF a (nxt a).toNat).toNat % 120) + 4) ≤ 1 := by
      rcases hd_ok hI (f := (nxt a).toNat) hnx.1 with ⟨_, h⟩ | ⟨_, p, h1, h2, h3, h4⟩
      · exact absurd h (by omega)
      · rw [h1]; exact ⟨h2, h3, h4⟩
    have hP := hI.2.2.1 _ hq.1.1 hq.1.2
    unfold PkOK at hP
    have hF := (hI.2.1 _ hnx.1).1
    unfold FlowOK at hF
    have htg := tag_b hI hnx.1
    refine r_aload_n C 1 dX6_begin_10 rfl rfl ?_
    refine g_getI C (o := 0) (v := u) rfl (by decide) fl_X6_172 rfl dX6_begin_11 hM.1.1 (by rw [eb1, up2_s]) ?_
    refine n_if_ne (tgt := 50) C dX6_begin_14 (by decide) (by constructor <;> omega) (fun c14 => ?_) (fun c14 => ?_)
    · refine r_aload_n C 1 dX6_begin_50 rfl rfl ?_
      refine r_iload_n C 0 dX6_begin_51 rfl rfl ?_
      refine cV1_PI C (k_X6_headOf hI ((nxt a).toNat) hM (by omega) (by omega)) cw_X6_166 (rm_ok rfl rfl (Nat.zero_le _) (Nat.zero_le _)) (Nat.le_of_ble_eq_true rfl) hM.1.1 dX6_begin_52 ?_
      refine n_topi (fun x55 ex55 => ?_)
      refine r_istore_n (lo' := [(2, .int (iI x55)), (1, .int (iI r1)), (0, .ref M)]) C dX6_begin_55 rfl (by decide) rfl ?_
      refine r_aload_n C 2 dX6_begin_56 rfl rfl ?_
      refine r_iload_n C 0 dX6_begin_57 rfl rfl ?_
      refine r_iconst (v := iI 1) C dX6_begin_58 rfl ?_
      refine cV2_PL C (k_X6_of ((hdF a (nxt a).toNat).toNat) 1 hM (by omega) (by omega) (by omega)) cw_X6_49 (rm_ok rfl rfl (Nat.zero_le _) (Nat.zero_le _)) (Nat.le_of_ble_eq_true rfl) hM.1.1 dX6_begin_59 ?_
      refine r_aload_n C 2 dX6_begin_62 rfl rfl ?_
      refine r_iload_n C 0 dX6_begin_63 rfl rfl ?_
      refine r_iconst (v := iI 5) C dX6_begin_64 rfl ?_
      refine cV2_PL C (k_X6_of ((hdF a (nxt a).toNat).toNat) 5 hM (by omega) (by omega) (by omega)) cw_X6_49 (rm_ok rfl rfl (Nat.zero_le _) (Nat.zero_le _)) (Nat.le_of_ble_eq_true rfl) hM.1.1 dX6_begin_65 ?_
      refine n_lsub C dX6_begin_68 ?_
      refine n_topl (fun x69 ex69 => ?_)
      refine r_lstore_n (lo' := [(3, .long (lI x69)), (2, .int (iI x55)), (1, .int (iI r1)), (0, .ref M)]) C dX6_begin_69 rfl (by decide) rfl ?_
      refine r_aload_n C 3 dX6_begin_70 rfl rfl ?_
      refine r_iload_n C 2 dX6_begin_71 rfl rfl ?_
      refine r_iconst (v := iI 2) C dX6_begin_72 rfl ?_
      refine cV2_PL C (k_X6_ofFlow ((nxt a).toNat) 2 hM (by omega) (by omega) (by omega)) cw_X6_53 (rm_ok rfl rfl (Nat.zero_le _) (Nat.zero_le _)) (Nat.le_of_ble_eq_true rfl) hM.1.1 dX6_begin_73 ?_
      refine n_topl (fun x76 ex76 => ?_)
      refine r_lstore (lo' := [(5, .long (lI x76)), (3, .long (lI x69)), (2, .int (iI x55)), (1, .int (iI r1)), (0, .ref M)]) C dX6_begin_76 (by decide) rfl ?_
      refine r_aload_n C 4 dX6_begin_78 rfl rfl ?_
      refine r_getR C fl_X6_7 rfl dX6_begin_79 hM.1.1 hM.2.1 ?_
      refine r_bipush (v := iI 8) C dX6_begin_82 (by decide) ?_
      refine r_iload_n C 2 dX6_begin_84 rfl rfl ?_
      refine n_i2l C dX6_begin_85 (by constructor <;> omega) ?_
      refine a_last C 8 dX6_begin_86 hM.1.2.1 ⟨rfl, by decide, by decide⟩ (fun a86 ea86 => ?_)
      refine r_aload_n C 4 dX6_begin_87 rfl rfl ?_
      refine r_getR C fl_X6_7 rfl dX6_begin_88 hM.1.1 hM.2.1 ?_
      refine r_bipush (v := iI 9) C dX6_begin_91 (by decide) ?_
      have jn113 : ∀ x113 : Int, (x76 ≤ 0 ∧ x113 = x69) ∨ (0 < x76 ∧ x69 ≤ x76 ∧ x113 = x69) ∨ (0 < x76 ∧ x76 < x69 ∧ x113 = x76) → Bd zp l ze (rmz 6 136) zs zm zargs zbl zmt zc 7 G base (EV Y (fun I' L' => I' = mI I M 7 (up2 b 0 9 (if nxU a (a 2).toNat < 0 then 0 else 1)) ∧ L' = rL L (M + 1) (bgn a))) 113 [(5, .long (lI x76)), (3, .long (lI x69)), (2, .int (iI x55)), (1, .int (iI r1)), (0, .ref M)] [.long (lI x113), .int (iI 9), .ref (M + 1)] Y (mI I M 7 b1) (rL L (M + 1) a86) 0 0 := by
        intro x113 hx113
        refine a_last C 9 dX6_begin_113 hM.1.2.1 ⟨rfl, by decide, by decide⟩ (fun a113 ea113 => ?_)
        refine r_aload_n C 4 dX6_begin_114 rfl rfl ?_
        refine r_getR C fl_X6_7 rfl dX6_begin_115 hM.1.1 hM.2.1 ?_
        refine r_bipush (v := iI 10) C dX6_begin_118 (by decide) ?_
        refine r_aload_n C 4 dX6_begin_120 rfl rfl ?_
        refine r_getR C fl_X6_7 rfl dX6_begin_121 hM.1.1 hM.2.1 ?_
        refine r_iconst (v := iI 3) C dX6_begin_124 rfl ?_
        refine a_lald C (v := (a 3)) 3 dX6_begin_125 hM.1.2.1 ⟨rfl, by decide, by decide⟩ (by rw [ea113, up1_n (by decide), ea86, up1_n (by decide)]) ?_
        refine r_aload_n C 4 dX6_begin_126 rfl rfl ?_
        refine r_getR C fl_X6_7 rfl dX6_begin_127 hM.1.1 hM.2.1 ?_
        refine r_bipush (v := iI 9) C dX6_begin_130 (by decide) ?_
        refine a_lald C (v := x113) 9 dX6_begin_132 hM.1.2.1 ⟨rfl, by decide, by decide⟩ (by rw [ea113, up1_s]) ?_
        refine n_ladd C dX6_begin_133 ?_
        refine a_last C 10 dX6_begin_134 hM.1.2.1 ⟨rfl, by decide, by decide⟩ (fun a134 ea134 => ?_)
        refine r_aload_n C 4 dX6_begin_135 rfl rfl ?_
        refine r_getR C fl_X6_7 rfl dX6_begin_136 hM.1.1 hM.2.1 ?_
        refine r_bipush (v := iI 11) C dX6_begin_139 (by decide) ?_
        have jn153 : ∀ x153 : Int, (u = 0 ∧ x153 = 0) ∨ (¬ u = 0 ∧ x153 = 1) → Bd zp l ze (rmz 6 136) zs zm zargs zbl zmt zc 7 G base (EV Y (fun I' L' => I' = mI I M 7 (up2 b 0 9 (if nxU a (a 2).toNat < 0 then 0 else 1)) ∧ L' = rL L (M + 1) (bgn a))) 153 [(5, .long (lI x76)), (3, .long (lI x69)), (2, .int (iI x55)), (1, .int (iI r1)), (0, .ref M)] [.long (lI x153), .int (iI 11), .ref (M + 1)] Y (mI I M 7 b1) (rL L (M + 1) a134) 0 0 := by
          intro x153 hx153
          refine a_last C 11 dX6_begin_153 hM.1.2.1 ⟨rfl, by decide, by decide⟩ (fun a153 ea153 => ?_)
          refine r_aload_n C 4 dX6_begin_154 rfl rfl ?_
          refine r_getR C fl_X6_7 rfl dX6_begin_155 hM.1.1 hM.2.1 ?_
          refine r_bipush (v := iI 12) C dX6_begin_158 (by decide) ?_
          refine r_aload_n C 4 dX6_begin_160 rfl rfl ?_
          refine r_getR C fl_X6_7 rfl dX6_begin_161 hM.1.1 hM.2.1 ?_
          refine r_iconst (v := iI 3) C dX6_begin_164 rfl ?_
          refine a_lald C (v := (a 3)) 3 dX6_begin_165 hM.1.2.1 ⟨rfl, by decide, by decide⟩ (by rw [ea153, up1_n (by decide), ea134, up1_n (by decide), ea113, up1_n (by decide), ea86, up1_n (by decide)]) ?_
          refine a_last C 12 dX6_begin_166 hM.1.2.1 ⟨rfl, by decide, by decide⟩ (fun a166 ea166 => ?_)
          refine r_aload_n C 4 dX6_begin_167 rfl rfl ?_
          refine r_getR C fl_X6_7 rfl dX6_begin_168 hM.1.1 hM.2.1 ?_
          refine r_iload_n C 2 dX6_begin_171 rfl rfl ?_
          refine r_iconst (v := iI 4) C dX6_begin_172 rfl ?_
          refine cS2_PI C (k_X6_packetAt ((hdF a (nxt a).toNat).toNat) 4 (by omega) (by omega) (by omega)) cw_X6_46 (rm_ok rfl rfl (Nat.zero_le _) (Nat.zero_le _)) (Nat.le_of_ble_eq_true rfl) dX6_begin_173 ?_
          refine r_lconst (v := lI 1) C dX6_begin_176 (by decide) ?_
          refine a_last C ((125 + 11 * ((hdF a (nxt a).toNat).toNat % 120) + 4)) dX6_begin_177 hM.1.2.1 ⟨congrArg iI (by omega), (by omega), by decide⟩ (fun a177 ea177 => ?_)
          refine r_vret C hr hlk dX6_begin_178 (Nat.zero_le _) (Nat.zero_le _) ?_
          have hB : x113 = bgN a (nxt a).toNat (hdF a (nxt a).toNat).toNat := by
            unfold bgN
            split <;> omega
          have hx : x153 = if nxU a (a 2).toNat < 0 then 0 else 1 := by
            rw [← hu]
            omega
          subst ea177
          subst ea166
          subst ea153
          subst ea134
          subst ea113
          subst ea86
          refine ⟨rfl, rfl, ?_, ?_⟩
          · rw [eb1, hu]
          · unfold bgn
            rw [if_neg (by omega)]
            unfold bgA
            rw [if_neg (show ¬ nxU a (a 2).toNat < 0 by omega), ← hB, ex55, show ((((hdF a (nxt a).toNat).toNat : Nat) : Int)) = hdF a (nxt a).toNat by omega]
            rw [hx, if_neg (show ¬ nxU a (a 2).toNat < 0 by omega)]
        refine r_aload_n C 4 dX6_begin_141 rfl rfl ?_
        refine g_getI C (o := 0) (v := u) rfl (by decide) fl_X6_172 rfl dX6_begin_142 hM.1.1 (by rw [eb1, up2_s]) ?_
        refine n_if_eq (tgt := 152) C dX6_begin_145 (by decide) (by constructor <;> omega) (fun c145 => ?_) (fun c145 => ?_)
        · refine r_lconst (v := lI 0) C dX6_begin_152 (by decide) ?_
          exact jn153 _ (Or.inl ⟨c145, rfl⟩)
        · refine r_lconst (v := lI 1) C dX6_begin_148 (by decide) ?_
          refine r_goto (tgt := 153) C dX6_begin_149 (by decide) ?_
          exact jn153 _ (Or.inr (⟨c145, rfl⟩))
      refine r_lload C 0 dX6_begin_93 rfl ?_
      refine r_lconst (v := lI 0) C dX6_begin_95 (by decide) ?_
      refine n_lcmp_le (tgt := 112) C dX6_begin_96 dX6_begin_97 rfl rfl (by decide) (by constructor <;> omega) ⟨by decide, by decide⟩ (fun c96 => ?_) (fun c96 => ?_)
      · refine r_lload_n C 1 dX6_begin_112 rfl rfl ?_
        exact jn113 _ (Or.inl ⟨c96, rfl⟩)
      · refine r_lload C 0 dX6_begin_100 rfl ?_
        refine r_lload_n C 1 dX6_begin_102 rfl rfl ?_
        refine n_lcmp_ge (tgt := 112) C dX6_begin_103 dX6_begin_104 rfl rfl (by decide) (by constructor <;> omega) (by constructor <;> omega) (fun c103 => ?_) (fun c103 => ?_)
        · refine r_lload_n C 1 dX6_begin_112 rfl rfl ?_
          exact jn113 _ (Or.inr (Or.inl ⟨c96, c103, rfl⟩))
        · refine r_lload C 0 dX6_begin_107 rfl ?_
          refine r_goto (tgt := 113) C dX6_begin_109 (by decide) ?_
          exact jn113 _ (Or.inr (Or.inr (⟨c96, c103, rfl⟩)))
    · refine r_aload_n C 1 dX6_begin_17 rfl rfl ?_
      refine r_iload_n C 0 dX6_begin_18 rfl rfl ?_
      refine cV1_PL C (k_X6_tagOf hI ((nxt a).toNat) hM (by omega) (by omega)) cw_X6_169 (rm_ok rfl rfl (Nat.zero_le _) (Nat.zero_le _)) (Nat.le_of_ble_eq_true rfl) hM.1.1 dX6_begin_19 ?_
      refine n_topl (fun x22 ex22 => ?_)
      refine r_lstore_n (lo' := [(2, .long (lI x22)), (1, .int (iI r1)), (0, .ref M)]) C dX6_begin_22 rfl (by decide) rfl ?_
      refine r_aload_n C 2 dX6_begin_23 rfl rfl ?_
      refine r_getR C fl_X6_7 rfl dX6_begin_24 hM.1.1 hM.2.1 ?_
      refine r_iconst (v := iI 1) C dX6_begin_27 rfl ?_
      have jn49 : ∀ x49 : Int, (x22 ≤ (a 1) ∧ x49 = (a 1)) ∨ ((a 1) < x22 ∧ x49 = x22) → Bd zp l ze (rmz 6 136) zs zm zargs zbl zmt zc 7 G base (EV Y (fun I' L' => I' = mI I M 7 (up2 b 0 9 (if nxU a (a 2).toNat < 0 then 0 else 1)) ∧ L' = rL L (M + 1) (bgn a))) 49 [(2, .long (lI x22)), (1, .int (iI r1)), (0, .ref M)] [.long (lI x49), .int (iI 1), .ref (M + 1)] Y (mI I M 7 b1) (rL L (M + 1) a) 0 0 := by
        intro x49 hx49
        refine a_last C 1 dX6_begin_49 hM.1.2.1 ⟨rfl, by decide, by decide⟩ (fun a49 ea49 => ?_)
        have hI49 : Inv N T a49 := by
          rw [ea49]
          exact Inv_1 hI (by omega)
        refine r_aload_n C 2 dX6_begin_50 rfl rfl ?_
        refine r_iload_n C 1 dX6_begin_51 rfl rfl ?_
        refine cV1_PI C (k_X6_headOf hI49 ((nxt a).toNat) hM (by omega) (by rw [ea49, up1_n (by decide)]; omega)) cw_X6_166 (rm_ok rfl rfl (Nat.zero_le _) (Nat.zero_le _)) (Nat.le_of_ble_eq_true rfl) hM.1.1 dX6_begin_52 ?_
        refine n_eqi (y := (hdF a (nxt a).toNat)) (by rw [ea49, hdF_1]) ?_
        refine n_topi (fun x55 ex55 => ?_)
        refine r_istore_n (lo' := [(2, .int (iI x55)), (1, .int (iI r1)), (0, .ref M)]) C dX6_begin_55 rfl (by decide) rfl ?_
        refine r_aload_n C 2 dX6_begin_56 rfl rfl ?_
        refine r_iload_n C 0 dX6_begin_57 rfl rfl ?_
        refine r_iconst (v := iI 1) C dX6_begin_58 rfl ?_
        refine cV2_PL C (k_X6_of ((hdF a (nxt a).toNat).toNat) 1 hM (by omega) (by omega) (by omega)) cw_X6_49 (rm_ok rfl rfl (Nat.zero_le _) (Nat.zero_le _)) (Nat.le_of_ble_eq_true rfl) hM.1.1 dX6_begin_59 ?_
        refine n_eql (y := (a (125 + 11 * ((hdF a (nxt a).toNat).toNat % 120) + 1))) (by rw [ea49, up1_n (xPN (by decide))]) ?_
        refine r_aload_n C 2 dX6_begin_62 rfl rfl ?_
        refine r_iload_n C 0 dX6_begin_63 rfl rfl ?_
        refine r_iconst (v := iI 5) C dX6_begin_64 rfl ?_
        refine cV2_PL C (k_X6_of ((hdF a (nxt a).toNat).toNat) 5 hM (by omega) (by omega) (by omega)) cw_X6_49 (rm_ok rfl rfl (Nat.zero_le _) (Nat.zero_le _)) (Nat.le_of_ble_eq_true rfl) hM.1.1 dX6_begin_65 ?_
        refine n_eql (y := (a (125 + 11 * ((hdF a (nxt a).toNat).toNat % 120) + 5))) (by rw [ea49, up1_n (xPN (by decide))]) ?_
        refine n_lsub C dX6_begin_68 ?_
        refine n_topl (fun x69 ex69 => ?_)
        refine r_lstore_n (lo' := [(3, .long (lI x69)), (2, .int (iI x55)), (1, .int (iI r1)), (0, .ref M)]) C dX6_begin_69 rfl (by decide) rfl ?_
        refine r_aload_n C 3 dX6_begin_70 rfl rfl ?_
        refine r_iload_n C 2 dX6_begin_71 rfl rfl ?_
        refine r_iconst (v := iI 2) C dX6_begin_72 rfl ?_
        refine cV2_PL C (k_X6_ofFlow ((nxt a).toNat) 2 hM (by omega) (by omega) (by omega)) cw_X6_53 (rm_ok rfl rfl (Nat.zero_le _) (Nat.zero_le _)) (Nat.le_of_ble_eq_true rfl) hM.1.1 dX6_begin_73 ?_
        refine n_eql (y := (a (17 + 18 * (nxt a).toNat + 2))) (by rw [ea49, up1_n (xFN (by decide))]) ?_
        refine n_topl (fun x76 ex76 => ?_)
        refine r_lstore (lo' := [(5, .long (lI x76)), (3, .long (lI x69)), (2, .int (iI x55)), (1, .int (iI r1)), (0, .ref M)]) C dX6_begin_76 (by decide) rfl ?_
        refine r_aload_n C 4 dX6_begin_78 rfl rfl ?_
        refine r_getR C fl_X6_7 rfl dX6_begin_79 hM.1.1 hM.2.1 ?_
        refine r_bipush (v := iI 8) C dX6_begin_82 (by decide) ?_
        refine r_iload_n C 2 dX6_begin_84 rfl rfl ?_
        refine n_i2l C dX6_begin_85 (by constructor <;> omega) ?_
        refine a_last C 8 dX6_begin_86 hM.1.2.1 ⟨rfl, by decide, by decide⟩ (fun a86 ea86 => ?_)
        refine r_aload_n C 4 dX6_begin_87 rfl rfl ?_
        refine r_getR C fl_X6_7 rfl dX6_begin_88 hM.1.1 hM.2.1 ?_
        refine r_bipush (v := iI 9) C dX6_begin_91 (by decide) ?_
        have jn113 : ∀ x113 : Int, (x76 ≤ 0 ∧ x113 = x69) ∨ (0 < x76 ∧ x69 ≤ x76 ∧ x113 = x69) ∨ (0 < x76 ∧ x76 < x69 ∧ x113 = x76) → Bd zp l ze (rmz 6 136) zs zm zargs zbl zmt zc 7 G base (EV Y (fun I' L' => I' = mI I M 7 (up2 b 0 9 (if nxU a (a 2).toNat < 0 then 0 else 1)) ∧ L' = rL L (M + 1) (bgn a))) 113 [(5, .long (lI x76)), (3, .long (lI x69)), (2, .int (iI x55)), (1, .int (iI r1)), (0, .ref M)] [.long (lI x113), .int (iI 9), .ref (M + 1)] Y (mI I M 7 b1) (rL L (M + 1) a86) 0 0 := by
          intro x113 hx113
          refine a_last C 9 dX6_begin_113 hM.1.2.1 ⟨rfl, by decide, by decide⟩ (fun a113 ea113 => ?_)
          refine r_aload_n C 4 dX6_begin_114 rfl rfl ?_
          refine r_getR C fl_X6_7 rfl dX6_begin_115 hM.1.1 hM.2.1 ?_
          refine r_bipush (v := iI 10) C dX6_begin_118 (by decide) ?_
          refine r_aload_n C 4 dX6_begin_120 rfl rfl ?_
          refine r_getR C fl_X6_7 rfl dX6_begin_121 hM.1.1 hM.2.1 ?_
          refine r_iconst (v := iI 3) C dX6_begin_124 rfl ?_
          refine a_lald C (v := (a 3)) 3 dX6_begin_125 hM.1.2.1 ⟨rfl, by decide, by decide⟩ (by rw [ea113, up1_n (by decide), ea86, up1_n (by decide), ea49, up1_n (by decide)]) ?_
          refine r_aload_n C 4 dX6_begin_126 rfl rfl ?_
          refine r_getR C fl_X6_7 rfl dX6_begin_127 hM.1.1 hM.2.1 ?_
          refine r_bipush (v := iI 9) C dX6_begin_130 (by decide) ?_
          refine a_lald C (v := x113) 9 dX6_begin_132 hM.1.2.1 ⟨rfl, by decide, by decide⟩ (by rw [ea113, up1_s]) ?_
          refine n_ladd C dX6_begin_133 ?_
          refine a_last C 10 dX6_begin_134 hM.1.2.1 ⟨rfl, by decide, by decide⟩ (fun a134 ea134 => ?_)
          refine r_aload_n C 4 dX6_begin_135 rfl rfl ?_
          refine r_getR C fl_X6_7 rfl dX6_begin_136 hM.1.1 hM.2.1 ?_
          refine r_bipush (v := iI 11) C dX6_begin_139 (by decide) ?_
          have jn153 : ∀ x153 : Int, (u = 0 ∧ x153 = 0) ∨ (¬ u = 0 ∧ x153 = 1) → Bd zp l ze (rmz 6 136) zs zm zargs zbl zmt zc 7 G base (EV Y (fun I' L' => I' = mI I M 7 (up2 b 0 9 (if nxU a (a 2).toNat < 0 then 0 else 1)) ∧ L' = rL L (M + 1) (bgn a))) 153 [(5, .long (lI x76)), (3, .long (lI x69)), (2, .int (iI x55)), (1, .int (iI r1)), (0, .ref M)] [.long (lI x153), .int (iI 11), .ref (M + 1)] Y (mI I M 7 b1) (rL L (M + 1) a134) 0 0 := by
            intro x153 hx153
            refine a_last C 11 dX6_begin_153 hM.1.2.1 ⟨rfl, by decide, by decide⟩ (fun a153 ea153 => ?_)
            refine r_aload_n C 4 dX6_begin_154 rfl rfl ?_
            refine r_getR C fl_X6_7 rfl dX6_begin_155 hM.1.1 hM.2.1 ?_
            refine r_bipush (v := iI 12) C dX6_begin_158 (by decide) ?_
            refine r_aload_n C 4 dX6_begin_160 rfl rfl ?_
            refine r_getR C fl_X6_7 rfl dX6_begin_161 hM.1.1 hM.2.1 ?_
            refine r_iconst (v := iI 3) C dX6_begin_164 rfl ?_
            refine a_lald C (v := (a 3)) 3 dX6_begin_165 hM.1.2.1 ⟨rfl, by decide, by decide⟩ (by rw [ea153, up1_n (by decide), ea134, up1_n (by decide), ea113, up1_n (by decide), ea86, up1_n (by decide), ea49, up1_n (by decide)]) ?_
            refine a_last C 12 dX6_begin_166 hM.1.2.1 ⟨rfl, by decide, by decide⟩ (fun a166 ea166 => ?_)
            refine r_aload_n C 4 dX6_begin_167 rfl rfl ?_
            refine r_getR C fl_X6_7 rfl dX6_begin_168 hM.1.1 hM.2.1 ?_
            refine r_iload_n C 2 dX6_begin_171 rfl rfl ?_
            refine r_iconst (v := iI 4) C dX6_begin_172 rfl ?_
            refine cS2_PI C (k_X6_packetAt ((hdF a (nxt a).toNat).toNat) 4 (by omega) (by omega) (by omega)) cw_X6_46 (rm_ok rfl rfl (Nat.zero_le _) (Nat.zero_le _)) (Nat.le_of_ble_eq_true rfl) dX6_begin_173 ?_
            refine r_lconst (v := lI 1) C dX6_begin_176 (by decide) ?_
            refine a_last C ((125 + 11 * ((hdF a (nxt a).toNat).toNat % 120) + 4)) dX6_begin_177 hM.1.2.1 ⟨congrArg iI (by omega), (by omega), by decide⟩ (fun a177 ea177 => ?_)
            refine r_vret C hr hlk dX6_begin_178 (Nat.zero_le _) (Nat.zero_le _) ?_
            have hB : x113 = bgN a (nxt a).toNat (hdF a (nxt a).toNat).toNat := by
              unfold bgN
              split <;> omega
            have hx : x153 = if nxU a (a 2).toNat < 0 then 0 else 1 := by
              rw [← hu]
              omega
            have hV : x49 = bgV a := by
              unfold bgV
              rw [if_pos (by omega)]
              split <;> omega
            subst ea177
            subst ea166
            subst ea153
            subst ea134
            subst ea113
            subst ea86
            subst ea49
            refine ⟨rfl, rfl, ?_, ?_⟩
            · rw [eb1, hu]
            · unfold bgn
              rw [if_neg (by omega)]
              unfold bgA
              rw [if_pos (show nxU a (a 2).toNat < 0 by omega), ← hV, ← hB, ex55, show ((((hdF a (nxt a).toNat).toNat : Nat) : Int)) = hdF a (nxt a).toNat by omega]
              rw [hx, if_pos (show nxU a (a 2).toNat < 0 by omega)]
          refine r_aload_n C 4 dX6_begin_141 rfl rfl ?_
          refine g_getI C (o := 0) (v := u) rfl (by decide) fl_X6_172 rfl dX6_begin_142 hM.1.1 (by rw [eb1, up2_s]) ?_
          refine n_if_eq (tgt := 152) C dX6_begin_145 (by decide) (by constructor <;> omega) (fun c145 => ?_) (fun c145 => ?_)
          · refine r_lconst (v := lI 0) C dX6_begin_152 (by decide) ?_
            exact jn153 _ (Or.inl ⟨c145, rfl⟩)
          · refine r_lconst (v := lI 1) C dX6_begin_148 (by decide) ?_
            refine r_goto (tgt := 153) C dX6_begin_149 (by decide) ?_
            exact jn153 _ (Or.inr (⟨c145, rfl⟩))
        refine r_lload C 0 dX6_begin_93 rfl ?_
        refine r_lconst (v := lI 0) C dX6_begin_95 (by decide) ?_
        refine n_lcmp_le (tgt := 112) C dX6_begin_96 dX6_begin_97 rfl rfl (by decide) (by constructor <;> omega) ⟨by decide, by decide⟩ (fun c96 => ?_) (fun c96 => ?_)
        · refine r_lload_n C 1 dX6_begin_112 rfl rfl ?_
          exact jn113 _ (Or.inl ⟨c96, rfl⟩)
        · refine r_lload C 0 dX6_begin_100 rfl ?_
          refine r_lload_n C 1 dX6_begin_102 rfl rfl ?_
          refine n_lcmp_ge (tgt := 112) C dX6_begin_103 dX6_begin_104 rfl rfl (by decide) (by constructor <;> omega) (by constructor <;> omega) (fun c103 => ?_) (fun c103 => ?_)
          · refine r_lload_n C 1 dX6_begin_112 rfl rfl ?_
            exact jn113 _ (Or.inr (Or.inl ⟨c96, c103, rfl⟩))
          · refine r_lload C 0 dX6_begin_107 rfl ?_
            refine r_goto (tgt := 113) C dX6_begin_109 (by decide) ?_
            exact jn113 _ (Or.inr (Or.inr (⟨c96, c103, rfl⟩)))
      refine r_lload_n C 0 dX6_begin_28 rfl rfl ?_
      refine r_aload_n C 2 dX6_begin_29 rfl rfl ?_
      refine r_getR C fl_X6_7 rfl dX6_begin_30 hM.1.1 hM.2.1 ?_
      refine r_iconst (v := iI 1) C dX6_begin_33 rfl ?_
      refine a_lald C (v := (a 1)) 1 dX6_begin_34 hM.1.2.1 ⟨rfl, by decide, by decide⟩ rfl ?_
      refine n_lcmp_le (tgt := 43) C dX6_begin_35 dX6_begin_36 rfl rfl (by decide) (by constructor <;> omega) (by constructor <;> omega) (fun c35 => ?_) (fun c35 => ?_)
      · refine r_aload_n C 2 dX6_begin_43 rfl rfl ?_
        refine r_getR C fl_X6_7 rfl dX6_begin_44 hM.1.1 hM.2.1 ?_
        refine r_iconst (v := iI 1) C dX6_begin_47 rfl ?_
        refine a_lald C (v := (a 1)) 1 dX6_begin_48 hM.1.2.1 ⟨rfl, by decide, by decide⟩ rfl ?_
        exact jn49 _ (Or.inl ⟨c35, rfl⟩)
      · refine r_lload_n C 0 dX6_begin_39 rfl rfl ?_
        refine r_goto (tgt := 49) C dX6_begin_40 (by decide) ?_
        exact jn49 _ (Or.inr (⟨c35, rfl⟩))
  · refine r_vret C hr hlk dX6_begin_9 (Nat.zero_le _) (Nat.zero_le _) ?_
    refine ⟨rfl, rfl, ?_, ?_⟩
    · rw [eb1, hu]
    · unfold bgn
      rw [if_pos (by omega)]
