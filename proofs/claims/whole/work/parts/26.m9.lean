def aPkt (a : Sa) (p w : Int) : Int := if ¬ (0 ≤ p ∧ p < a 7 ∧ a 7 - 120 ≤ p) then -1 else if ¬ (0 ≤ w ∧ w ≤ 9) then -2 else if w < 9 then a (125 + 11 * (p.toNat % 120) + w.toNat) else if a (125 + 11 * (p.toNat % 120) + 4) ≤ 1 ∧ urg a p.toNat = 1 then 1 else 0
def aSta (a : Sa) (p : Int) : Int := if (0 ≤ p ∧ p < a 7 ∧ a 7 - 120 ≤ p) then a (125 + 11 * (p.toNat % 120) + 9) else -1000000000000000001
def offOK (a : Sa) (f n d : Int) : Prop := (0 ≤ f ∧ f < a 2) ∧ ((1 ≤ n ∧ n ≤ 2000) ∧ (0 ≤ d ∧ d ≤ 9999)) ∧ hasR a f.toNat = 1
def aOff (a : Sa) (f n d : Int) : Int := if ¬ (0 ≤ f ∧ f < a 2) then -1 else if ¬ ((1 ≤ n ∧ n ≤ 2000) ∧ (0 ≤ d ∧ d ≤ 9999)) then -2 else if hasR a f.toNat = 0 then -4 else a 7
def offA (a : Sa) (f n d : Int) : Sa := if ¬ (0 ≤ f ∧ f < a 2) then a else if ¬ ((1 ≤ n ∧ n ≤ 2000) ∧ (0 ≤ d ∧ d ≤ 9999)) then a else if hasR a f.toNat = 0 then a else take a f.toNat n d
def cnC (a : Sa) (p : Nat) : Prop := a (125 + 11 * (p % 120) + 4) = 0 ∧ a (125 + 11 * (p % 120) + 5) ≤ 0
def aCan (a : Sa) (p : Int) : Int := if ¬ (0 ≤ p ∧ p < a 7 ∧ a 7 - 120 ≤ p) then -1 else if ¬ (a (125 + 11 * (p.toNat % 120) + 4) = 0 ∧ a (125 + 11 * (p.toNat % 120) + 5) ≤ 0) then -5 else a (17 + 18 * flP a p.toNat + 17) - 1
def canA (a : Sa) (p : Int) : Sa := if ¬ (0 ≤ p ∧ p < a 7 ∧ a 7 - 120 ≤ p) then a else if ¬ (a (125 + 11 * (p.toNat % 120) + 4) = 0 ∧ a (125 + 11 * (p.toNat % 120) + 5) ≤ 0) then a else canc a p.toNat
def floV (a : Sa) (f w : Nat) : Int := if w ≤ 4 then a (17 + 18 * f + w) else if w = 5 then a (17 + 18 * f + 17) else if w = 6 then hdF a f else if w = 7 then rst a f else if w = 8 then a (17 + 18 * f + 6) else if w = 9 then a (17 + 18 * f + 7) else if w = 10 then a (17 + 18 * f + 8) else if w = 11 then a (17 + 18 * f + 5) else if w = 12 then a (17 + 18 * f + 9) else if w = 13 then a (17 + 18 * f + 10) else a (17 + 18 * f + 11)
def aFlo (a : Sa) (f w : Int) : Int := if ¬ (0 ≤ f ∧ f < a 2) then -1 else if ¬ (0 ≤ w ∧ w ≤ 14) then -2 else floV a f.toNat w.toNat
def amtV (a : Sa) (f w : Nat) : Int := if w = 0 then a (17 + 18 * f + 12) else if w = 1 then tag a f else if w = 2 then (if 0 < tag a f - a 1 then tag a f - a 1 else 0) else if w = 3 then a (17 + 18 * f + 13) else if w = 4 then a (17 + 18 * f + 14) else if w = 5 then a (17 + 18 * f + 15) else if w = 6 then lag a f else a (17 + 18 * f + 16)
def aAmt (a : Sa) (f w : Int) : Int := if ¬ (0 ≤ f ∧ f < a 2) then -1000000000000000001 else if ¬ (0 ≤ w ∧ w ≤ 7) then -1000000000000000002 else amtV a f.toNat w.toNat
def aLnk (a : Sa) (w : Int) : Int := if w = 0 then a 0 else if 1 ≤ w ∧ w ≤ 4 then a (3 + w.toNat - 1) else if w = 5 then a 2 else if w = 6 then a 7 else if w = 7 then a 8 else if w = 8 then a 9 else if w = 9 then a 10 else if w = 10 then a 11 else if w = 11 then a 1825 else if w = 12 then a 13 else if w = 13 then a 14 else if w = 14 then nxt a else if w = 15 then a 15 else if w = 16 then (if 0 < a 7 then (old a : Int) else -6) else -2
def aPce (a : Sa) (p w : Int) : Int := if ¬ (0 ≤ w ∧ w ≤ 4) then -2 else if ¬ (0 ≤ p ∧ p < a 15 ∧ a 15 - 60 ≤ p) then -6 else a (1445 + 5 * (p.toNat % 60) + w.toNat)
def aApt (a : Sa) (f g : Int) : Int := if ¬ ((0 ≤ f ∧ f < a 2) ∧ (0 ≤ g ∧ g < a 2)) then -1000000000000000001 else if a (17 + 18 * f.toNat + 6) * 720720 / a (17 + 18 * f.toNat + 0) - a (17 + 18 * g.toNat + 6) * 720720 / a (17 + 18 * g.toNat + 0) < 0 then -(a (17 + 18 * f.toNat + 6) * 720720 / a (17 + 18 * f.toNat + 0) - a (17 + 18 * g.toNat + 6) * 720720 / a (17 + 18 * g.toNat + 0)) else a (17 + 18 * f.toNat + 6) * 720720 / a (17 + 18 * f.toNat + 0) - a (17 + 18 * g.toNat + 6) * 720720 / a (17 + 18 * g.toNat + 0)
set_option maxHeartbeats 4000000 in
set_option maxRecDepth 20000 in
theorem k_X6_packet {l : Launch} {G : Gd} {base : Nat} {Y : MY} {I : MI} {L : ML} {M : Nat} {a : Sa} {N T : Int} (hI : Inv N T a) {p w : Int} (hM : MLy base Y M) (hp0 : -2147483648 ≤ p ∧ p < 2147483648) (hw0 : -2147483648 ≤ w ∧ w < 2147483648) : Ct l yX6_packet cX6_packet 3 (some .int) (rmz 4 89) G base [.ref M, .int (iI p), .int (iI w)] Y I (rL L (M + 1) a) (PI (aPkt a p w) Y I (rL L (M + 1) a)) := by
  refine Ct.of (own := RX6) (lo := [(0, .ref M), (1, .int (iI p)), (2, .int (iI w))]) (by decide) rfl (Nat.le_of_ble_eq_true rfl) rfl ?_
  intro zp ze zs zm zargs zbl zmt zc C hr hlk hnm
  have hT := hI.1
  unfold TopOK at hT
  refine r_aload_n C 0 dX6_packet_0 rfl rfl ?_
  refine r_iload_n C 1 dX6_packet_1 rfl rfl ?_
  refine cV1_PI C (k_X6_isKnown hM (by omega) (by omega)) cw_X6_94 (rm_ok rfl rfl (Nat.zero_le _) (Nat.zero_le _)) (Nat.le_of_ble_eq_true rfl) hM.1.1 dX6_packet_2 ?_
  refine n_if_ne (tgt := 10) C dX6_packet_5 (by decide) b2_i (fun c5 => ?_) (fun c5 => ?_)
  · rw [b2_eq0, Classical.not_not] at c5
    obtain ⟨pn, hpn⟩ := Int.eq_ofNat_of_zero_le (show 0 ≤ p by omega)
    have hk : old a ≤ pn ∧ (pn : Int) < a 7 := by unfold old; omega
    have hP := hI.2.2.1 pn hk.1 hk.2
    unfold PkOK at hP
    refine r_iload_n C 2 dX6_packet_10 rfl rfl ?_
    refine n_i2l C dX6_packet_11 (by constructor <;> omega) ?_
    refine r_lconst (v := lI 0) C dX6_packet_12 (by decide) ?_
    refine n_ldc2 (v := 9) C lc_X6_103 (by decide) dX6_packet_13 ?_
    refine cS3_PI C (k_X6_in (by constructor <;> omega) ⟨by decide, by decide⟩ ⟨by decide, by decide⟩) cw_X6_36 (rm_ok rfl rfl (Nat.zero_le _) (Nat.zero_le _)) (Nat.le_of_ble_eq_true rfl) dX6_packet_16 ?_
    refine n_if_ne (tgt := 25) C dX6_packet_19 (by decide) b2_i (fun c19 => ?_) (fun c19 => ?_)
    · rw [b2_eq0, Classical.not_not] at c19
      obtain ⟨wn, hwn⟩ := Int.eq_ofNat_of_zero_le (show 0 ≤ w by omega)
      refine r_iload_n C 2 dX6_packet_25 rfl rfl ?_
      refine r_bipush (v := iI 9) C dX6_packet_26 (by decide) ?_
      refine n_icmp_ge (tgt := 41) C dX6_packet_28 (by decide) (by constructor <;> omega) ⟨by decide, by decide⟩ (fun c28 => ?_) (fun c28 => ?_)
      · refine r_aload_n C 0 dX6_packet_41 rfl rfl ?_
        refine r_iload_n C 1 dX6_packet_42 rfl rfl ?_
        refine cV1_PI C (k_X6_isQueued pn hM (by omega) (by omega) (by omega)) cw_X6_60 (rm_ok rfl rfl (Nat.zero_le _) (Nat.zero_le _)) (Nat.le_of_ble_eq_true rfl) hM.1.1 dX6_packet_43 ?_
        refine n_if_eq (tgt := 61) C dX6_packet_46 (by decide) b2_i (fun c46 => ?_) (fun c46 => ?_)
        · refine r_iconst (v := iI 0) C dX6_packet_61 rfl ?_
          refine r_iret C hr hlk dX6_packet_62 (Nat.zero_le _) (Nat.zero_le _) ?_
          simp only [b2_eq0] at c46
          have hu := urg_b a pn
          exact ⟨congrArg (fun z => some (Value.int (iI z))) (by unfold aPkt; rw [if_neg (by omega), if_neg (by omega), if_neg (by omega), show p.toNat = pn by omega]; split <;> omega), rfl, rfl, rfl⟩
        · refine r_aload_n C 0 dX6_packet_49 rfl rfl ?_
          refine r_iload_n C 1 dX6_packet_50 rfl rfl ?_
          refine cV1_PI C (k_X6_isUrgent hI pn hM (by omega) (by omega)) cw_X6_105 (rm_ok rfl rfl (Nat.zero_le _) (Nat.zero_le _)) (Nat.le_of_ble_eq_true rfl) hM.1.1 dX6_packet_51 ?_
          refine n_if_eq (tgt := 61) C dX6_packet_54 (by decide) (by rcases urg_b a pn with h | h <;> constructor <;> omega) (fun c54 => ?_) (fun c54 => ?_)
          · refine r_iconst (v := iI 0) C dX6_packet_61 rfl ?_
            refine r_iret C hr hlk dX6_packet_62 (Nat.zero_le _) (Nat.zero_le _) ?_
            simp only [b2_eq0] at c46
            have hu := urg_b a pn
            exact ⟨congrArg (fun z => some (Value.int (iI z))) (by unfold aPkt; rw [if_neg (by omega), if_neg (by omega), if_neg (by omega), show p.toNat = pn by omega]; split <;> omega), rfl, rfl, rfl⟩
          · refine r_iconst (v := iI 1) C dX6_packet_57 rfl ?_
            refine r_goto (tgt := 62) C dX6_packet_58 (by decide) ?_
            refine r_iret C hr hlk dX6_packet_62 (Nat.zero_le _) (Nat.zero_le _) ?_
            simp only [b2_eq0] at c46
            have hu := urg_b a pn
            exact ⟨congrArg (fun z => some (Value.int (iI z))) (by unfold aPkt; rw [if_neg (by omega), if_neg (by omega), if_neg (by omega), show p.toNat = pn by omega]; split <;> omega), rfl, rfl, rfl⟩
      · refine r_aload_n C 0 dX6_packet_31 rfl rfl ?_
        refine r_iload_n C 1 dX6_packet_32 rfl rfl ?_
        refine r_iload_n C 2 dX6_packet_33 rfl rfl ?_
        refine cV2_PL C (k_X6_of pn wn hM (by omega) (by omega) (by omega)) cw_X6_49 (rm_ok rfl rfl (Nat.zero_le _) (Nat.zero_le _)) (Nat.le_of_ble_eq_true rfl) hM.1.1 dX6_packet_34 ?_
        refine n_l2i C dX6_packet_37 ?_
        refine r_goto (tgt := 62) C dX6_packet_38 (by decide) ?_
        refine r_iret C hr hlk dX6_packet_62 (Nat.zero_le _) (Nat.zero_le _) ?_
        exact ⟨congrArg (fun z => some (Value.int (iI z))) (by unfold aPkt; rw [if_neg (by omega), if_neg (by omega), if_pos (by omega), show p.toNat = pn by omega, show w.toNat = wn by omega]), rfl, rfl, rfl⟩
    · refine r_bipush (v := iI (-2)) C dX6_packet_22 (by decide) ?_
      refine r_iret C hr hlk dX6_packet_24 (Nat.zero_le _) (Nat.zero_le _) ?_
      rw [b2_eq0] at c19
      exact ⟨congrArg (fun z => some (Value.int (iI z))) (by unfold aPkt; rw [if_neg (by omega), if_pos c19]), rfl, rfl, rfl⟩
  · refine r_iconst (v := iI (-1)) C dX6_packet_8 rfl ?_
    refine r_iret C hr hlk dX6_packet_9 (Nat.zero_le _) (Nat.zero_le _) ?_
    rw [b2_eq0] at c5
    exact ⟨congrArg (fun z => some (Value.int (iI z))) (by unfold aPkt; rw [if_pos c5]), rfl, rfl, rfl⟩
set_option maxHeartbeats 4000000 in
set_option maxRecDepth 20000 in
theorem k_X6_start {l : Launch} {G : Gd} {base : Nat} {Y : MY} {I : MI} {L : ML} {M : Nat} {a : Sa} {N T : Int} (hI : Inv N T a) {p : Int} (hM : MLy base Y M) (hp0 : -2147483648 ≤ p ∧ p < 2147483648) : Ct l yX6_start cX6_start 2 (some .long) (rmz 2 46) G base [.ref M, .int (iI p)] Y I (rL L (M + 1) a) (PL (aSta a p) Y I (rL L (M + 1) a)) := by
  refine Ct.of (own := RX6) (lo := [(0, .ref M), (1, .int (iI p))]) (by decide) rfl (Nat.le_of_ble_eq_true rfl) rfl ?_
  intro zp ze zs zm zargs zbl zmt zc C hr hlk hnm
  have hT := hI.1
  unfold TopOK at hT
  refine r_aload_n C 0 dX6_start_0 rfl rfl ?_
  refine r_iload_n C 1 dX6_start_1 rfl rfl ?_
  refine cV1_PI C (k_X6_isKnown hM (by omega) (by omega)) cw_X6_94 (rm_ok rfl rfl (Nat.zero_le _) (Nat.zero_le _)) (Nat.le_of_ble_eq_true rfl) hM.1.1 dX6_start_2 ?_
  refine n_if_eq (tgt := 18) C dX6_start_5 (by decide) b2_i (fun c5 => ?_) (fun c5 => ?_)
  · refine n_ldc2 (v := (-1000000000000000001)) C lc_X6_108 (by decide) dX6_start_18 ?_
    refine r_lret C hr hlk dX6_start_21 (Nat.zero_le _) (Nat.zero_le _) ?_
    rw [b2_eq0] at c5
    exact ⟨congrArg (fun z => some (Value.long (lI z))) (by unfold aSta; rw [if_neg c5]), rfl, rfl, rfl⟩
  · rw [b2_eq0, Classical.not_not] at c5
    obtain ⟨pn, hpn⟩ := Int.eq_ofNat_of_zero_le (show 0 ≤ p by omega)
    refine r_aload_n C 0 dX6_start_8 rfl rfl ?_
    refine r_iload_n C 1 dX6_start_9 rfl rfl ?_
    refine r_bipush (v := iI 9) C dX6_start_10 (by decide) ?_
    refine cV2_PL C (k_X6_of pn 9 hM (by omega) (by omega) (by omega)) cw_X6_49 (rm_ok rfl rfl (Nat.zero_le _) (Nat.zero_le _)) (Nat.le_of_ble_eq_true rfl) hM.1.1 dX6_start_12 ?_
    refine r_goto (tgt := 21) C dX6_start_15 (by decide) ?_
    refine r_lret C hr hlk dX6_start_21 (Nat.zero_le _) (Nat.zero_le _) ?_
    exact ⟨congrArg (fun z => some (Value.long (lI z))) (by unfold aSta; rw [if_pos (by omega), show p.toNat = pn by omega]), rfl, rfl, rfl⟩
set_option maxHeartbeats 4000000 in
set_option maxRecDepth 20000 in
theorem k_X6_offer {l : Launch} {G : Gd} {base : Nat} {Y : MY} {I : MI} {L : ML} {M : Nat} {a : Sa} {N T : Int} (hI : Inv N T a) {f n d : Int} (hM : MLy base Y M) (hf0 : -2147483648 ≤ f ∧ f < 2147483648) (hn0 : -2147483648 ≤ n ∧ n < 2147483648) (hd0 : -2147483648 ≤ d ∧ d < 2147483648) : Ct l yX6_offer cX6_offer 4 (some .int) (rmz 3 69) G base [.ref M, .int (iI f), .int (iI n), .int (iI d)] Y I (rL L (M + 1) a) (EI Y (fun r I' L' => r = aOff a f n d ∧ I' = I ∧ L' = rL L (M + 1) (offA a f n d))) := by
  refine Ct.of (own := RX6) (lo := [(0, .ref M), (1, .int (iI f)), (2, .int (iI n)), (3, .int (iI d))]) (by decide) rfl (Nat.le_of_ble_eq_true rfl) rfl ?_
  intro zp ze zs zm zargs zbl zmt zc C hr hlk hnm
  have hT := hI.1
  unfold TopOK at hT
  refine r_aload_n C 0 dX6_offer_0 rfl rfl ?_
  refine r_iload_n C 1 dX6_offer_1 rfl rfl ?_
  refine cV1_PI C (k_X6_isFlow hM (by omega) (by omega)) cw_X6_72 (rm_ok rfl rfl (Nat.zero_le _) (Nat.zero_le _)) (Nat.le_of_ble_eq_true rfl) hM.1.1 dX6_offer_2 ?_
  refine n_if_ne (tgt := 10) C dX6_offer_5 (by decide) b2_i (fun c5 => ?_) (fun c5 => ?_)
  · rw [b2_eq0, Classical.not_not] at c5
    obtain ⟨fn, hfn⟩ := Int.eq_ofNat_of_zero_le (show 0 ≤ f by omega)
    have hrb : hasR a fn = 0 ∨ hasR a fn = 1 := by
      unfold hasR b2
      split <;> omega
    refine r_iload_n C 2 dX6_offer_10 rfl rfl ?_
    refine n_i2l C dX6_offer_11 (by constructor <;> omega) ?_
    refine r_lconst (v := lI 1) C dX6_offer_12 (by decide) ?_
    refine n_ldc2 (v := 2000) C lc_X6_83 (by decide) dX6_offer_13 ?_
    refine cS3_PI C (k_X6_in (by constructor <;> omega) ⟨by decide, by decide⟩ ⟨by decide, by decide⟩) cw_X6_36 (rm_ok rfl rfl (Nat.zero_le _) (Nat.zero_le _)) (Nat.le_of_ble_eq_true rfl) dX6_offer_16 ?_
    refine n_if_eq (tgt := 34) C dX6_offer_19 (by decide) b2_i (fun c19 => ?_) (fun c19 => ?_)
    · refine r_bipush (v := iI (-2)) C dX6_offer_34 (by decide) ?_
      refine r_iret C hr hlk dX6_offer_36 (Nat.zero_le _) (Nat.zero_le _) ?_
      simp only [b2_eq0] at c19
      exact ⟨_, rfl, rfl, by unfold aOff; rw [if_neg (by omega), if_pos (by omega)], rfl, by unfold offA; rw [if_neg (by omega), if_pos (by omega)]⟩
    · refine r_iload_n C 3 dX6_offer_22 rfl rfl ?_
      refine n_i2l C dX6_offer_23 (by constructor <;> omega) ?_
      refine r_lconst (v := lI 0) C dX6_offer_24 (by decide) ?_
      refine n_ldc2 (v := 9999) C lc_X6_85 (by decide) dX6_offer_25 ?_
      refine cS3_PI C (k_X6_in (by constructor <;> omega) ⟨by decide, by decide⟩ ⟨by decide, by decide⟩) cw_X6_36 (rm_ok rfl rfl (Nat.zero_le _) (Nat.zero_le _)) (Nat.le_of_ble_eq_true rfl) dX6_offer_28 ?_
      refine n_if_ne (tgt := 37) C dX6_offer_31 (by decide) b2_i (fun c31 => ?_) (fun c31 => ?_)
      · simp only [b2_eq0, Classical.not_not] at c19 c31
        refine r_aload_n C 0 dX6_offer_37 rfl rfl ?_
        refine r_iload_n C 1 dX6_offer_38 rfl rfl ?_
        refine cV1_PI C (k_X6_hasRoom hI fn hM (by omega) (by omega)) cw_X6_87 (rm_ok rfl rfl (Nat.zero_le _) (Nat.zero_le _)) (Nat.le_of_ble_eq_true rfl) hM.1.1 dX6_offer_39 ?_
        refine n_if_eq (tgt := 55) C dX6_offer_42 (by decide) (by constructor <;> omega) (fun c42 => ?_) (fun c42 => ?_)
        · refine r_bipush (v := iI (-4)) C dX6_offer_55 (by decide) ?_
          refine r_iret C hr hlk dX6_offer_57 (Nat.zero_le _) (Nat.zero_le _) ?_
          exact ⟨_, rfl, rfl, by unfold aOff; rw [if_neg (by omega), if_neg (by omega), show f.toNat = fn by omega, if_pos (by omega)], rfl, by unfold offA; rw [if_neg (by omega), if_neg (by omega), show f.toNat = fn by omega, if_pos (by omega)]⟩
        · refine r_aload_n C 0 dX6_offer_45 rfl rfl ?_
          refine r_iload_n C 1 dX6_offer_46 rfl rfl ?_
          refine r_iload_n C 2 dX6_offer_47 rfl rfl ?_
          refine r_iload_n C 3 dX6_offer_48 rfl rfl ?_
          refine cV3_EI C (k_X6_take hI fn hM (by omega) (by omega) (by omega) (by omega)) cw_X6_90 (rm_ok rfl rfl (Nat.zero_le _) (Nat.zero_le _)) (Nat.le_of_ble_eq_true rfl) hM.1.1 dX6_offer_49 (fun r49 I49 L49 h49 => ?_)
          obtain ⟨h49r, h49I, h49L⟩ := h49
          obtain ⟨a49, ea49⟩ : ∃ z, z = take a fn n d := ⟨_, rfl⟩
          rw [← ea49] at h49L
          subst h49I
          subst h49L
          refine r_goto (tgt := 57) C dX6_offer_52 (by decide) ?_
          refine r_iret C hr hlk dX6_offer_57 (Nat.zero_le _) (Nat.zero_le _) ?_
          exact ⟨_, rfl, rfl, by rw [h49r]; unfold aOff; rw [if_neg (by omega), if_neg (by omega), show f.toNat = fn by omega, if_neg (by omega)], rfl, by rw [ea49]; unfold offA; rw [if_neg (by omega), if_neg (by omega), show f.toNat = fn by omega, if_neg (by omega)]⟩
      · refine r_bipush (v := iI (-2)) C dX6_offer_34 (by decide) ?_
        refine r_iret C hr hlk dX6_offer_36 (Nat.zero_le _) (Nat.zero_le _) ?_
        simp only [b2_eq0] at c19 c31
        exact ⟨_, rfl, rfl, by unfold aOff; rw [if_neg (by omega), if_pos (by omega)], rfl, by unfold offA; rw [if_neg (by omega), if_pos (by omega)]⟩
  · refine r_iconst (v := iI (-1)) C dX6_offer_8 rfl ?_
    refine r_iret C hr hlk dX6_offer_9 (Nat.zero_le _) (Nat.zero_le _) ?_
    rw [b2_eq0] at c5
    exact ⟨_, rfl, rfl, by unfold aOff; rw [if_pos (by omega)], rfl, by unfold offA; rw [if_pos (by omega)]⟩
set_option maxHeartbeats 4000000 in
set_option maxRecDepth 20000 in
theorem k_X6_cancel {l : Launch} {G : Gd} {base : Nat} {Y : MY} {I : MI} {L : ML} {M : Nat} {a : Sa} {N T : Int} (hI : Inv N T a) {p : Int} (hM : MLy base Y M) (hp0 : -2147483648 ≤ p ∧ p < 2147483648) : Ct l yX6_cancel cX6_cancel 3 (some .int) (rmz 2 46) G base [.ref M, .int (iI p)] Y I (rL L (M + 1) a) (EI Y (fun r I' L' => r = aCan a p ∧ I' = I ∧ L' = rL L (M + 1) (canA a p))) := by
  refine Ct.of (own := RX6) (lo := [(0, .ref M), (1, .int (iI p))]) (by decide) rfl (Nat.le_of_ble_eq_true rfl) rfl ?_
  intro zp ze zs zm zargs zbl zmt zc C hr hlk hnm
  have hT := hI.1
  unfold TopOK at hT
  refine r_aload_n C 0 dX6_cancel_0 rfl rfl ?_
  refine r_iload_n C 1 dX6_cancel_1 rfl rfl ?_
  refine cV1_PI C (k_X6_isKnown hM (by omega) (by omega)) cw_X6_94 (rm_ok rfl rfl (Nat.zero_le _) (Nat.zero_le _)) (Nat.le_of_ble_eq_true rfl) hM.1.1 dX6_cancel_2 ?_
  refine n_if_ne (tgt := 10) C dX6_cancel_5 (by decide) b2_i (fun c5 => ?_) (fun c5 => ?_)
  · rw [b2_eq0, Classical.not_not] at c5
    obtain ⟨pn, hpn⟩ := Int.eq_ofNat_of_zero_le (show 0 ≤ p by omega)
    have hk : old a ≤ pn ∧ (pn : Int) < a 7 := by unfold old; omega
    have hP := hI.2.2.1 pn hk.1 hk.2
    unfold PkOK at hP
    obtain ⟨f, hfa⟩ := Int.eq_ofNat_of_zero_le (show 0 ≤ a (125 + 11 * (pn % 120) + 0) by omega)
    have hfl : flP a pn = f := flP_of hfa
    have hf6 : f < 6 := by omega
    have hF := (hI.2.1 f (by omega)).1
    unfold FlowOK at hF
    have hpn : p.toNat = pn := by omega
    refine r_aload_n C 0 dX6_cancel_10 rfl rfl ?_
    refine r_iload_n C 1 dX6_cancel_11 rfl rfl ?_
    refine r_iconst (v := iI 4) C dX6_cancel_12 rfl ?_
    refine cV2_PL C (k_X6_of pn 4 hM (by omega) (by omega) (by omega)) cw_X6_49 (rm_ok rfl rfl (Nat.zero_le _) (Nat.zero_le _)) (Nat.le_of_ble_eq_true rfl) hM.1.1 dX6_cancel_13 ?_
    refine r_lconst (v := lI 0) C dX6_cancel_16 (by decide) ?_
    refine n_lcmp_ne (tgt := 32) C dX6_cancel_17 dX6_cancel_18 rfl rfl (by decide) (by constructor <;> omega) ⟨by decide, by decide⟩ (fun c17 => ?_) (fun c17 => ?_)
    · refine r_bipush (v := iI (-5)) C dX6_cancel_32 (by decide) ?_
      refine r_iret C hr hlk dX6_cancel_34 (Nat.zero_le _) (Nat.zero_le _) ?_
      exact ⟨_, rfl, rfl, by unfold aCan; rw [if_neg (by omega), hpn, if_pos (by omega)], rfl, by unfold canA; rw [if_neg (by omega), hpn, if_pos (by omega)]⟩
    · refine r_aload_n C 0 dX6_cancel_21 rfl rfl ?_
      refine r_iload_n C 1 dX6_cancel_22 rfl rfl ?_
      refine r_iconst (v := iI 5) C dX6_cancel_23 rfl ?_
      refine cV2_PL C (k_X6_of pn 5 hM (by omega) (by omega) (by omega)) cw_X6_49 (rm_ok rfl rfl (Nat.zero_le _) (Nat.zero_le _)) (Nat.le_of_ble_eq_true rfl) hM.1.1 dX6_cancel_24 ?_
      refine r_lconst (v := lI 0) C dX6_cancel_27 (by decide) ?_
      refine n_lcmp_le (tgt := 35) C dX6_cancel_28 dX6_cancel_29 rfl rfl (by decide) (by constructor <;> omega) ⟨by decide, by decide⟩ (fun c28 => ?_) (fun c28 => ?_)
      · refine r_aload_n C 0 dX6_cancel_35 rfl rfl ?_
        refine r_getR C fl_X6_7 rfl dX6_cancel_36 hM.1.1 hM.2.1 ?_
        refine r_iload_n C 1 dX6_cancel_39 rfl rfl ?_
        refine r_iconst (v := iI 4) C dX6_cancel_40 rfl ?_
        refine cS2_PI C (k_X6_packetAt pn 4 (by omega) (by omega) (by omega)) cw_X6_46 (rm_ok rfl rfl (Nat.zero_le _) (Nat.zero_le _)) (Nat.le_of_ble_eq_true rfl) dX6_cancel_41 ?_
        refine n_ldc2 (v := 4) C lc_X6_97 (by decide) dX6_cancel_44 ?_
        refine a_last C ((125 + 11 * (pn % 120) + 4)) dX6_cancel_47 hM.1.2.1 ⟨congrArg iI (by omega), (by omega), by decide⟩ (fun a47 ea47 => ?_)
        refine r_aload_n C 0 dX6_cancel_48 rfl rfl ?_
        refine r_iload_n C 1 dX6_cancel_49 rfl rfl ?_
        refine r_iconst (v := iI 0) C dX6_cancel_50 rfl ?_
        refine cV2_PL C (k_X6_of pn 0 hM (by omega) (by omega) (by omega)) cw_X6_49 (rm_ok rfl rfl (Nat.zero_le _) (Nat.zero_le _)) (Nat.le_of_ble_eq_true rfl) hM.1.1 dX6_cancel_51 ?_
        refine n_eql (y := (a (125 + 11 * (pn % 120) + 0))) (by rw [ea47, up1_n (xSS (by decide))]) ?_
        refine n_l2i C dX6_cancel_54 ?_
        refine n_topi (fun x55 ex55 => ?_)
        refine r_istore_n (lo' := [(2, .int (iI x55)), (0, .ref M), (1, .int (iI p))]) C dX6_cancel_55 rfl (by decide) rfl ?_
        refine r_aload_n C 1 dX6_cancel_56 rfl rfl ?_
        refine r_getR C fl_X6_7 rfl dX6_cancel_57 hM.1.1 hM.2.1 ?_
        refine r_iload_n C 0 dX6_cancel_60 rfl rfl ?_
        refine r_bipush (v := iI 17) C dX6_cancel_61 (by decide) ?_
        refine cS2_PI C (k_X6_flowAt ) cw_X6_40 (rm_ok rfl rfl (Nat.zero_le _) (Nat.zero_le _)) (Nat.le_of_ble_eq_true rfl) dX6_cancel_63 ?_
        refine r_dup2 C dX6_cancel_66 rfl rfl ?_
        refine a_lald C (v := (a (17 + 18 * f + 17))) ((17 + 18 * f + 17)) dX6_cancel_67 hM.1.2.1 ⟨congrArg iI (by omega), (by omega), by decide⟩ (by rw [ea47, up1_n (xFP hf6 (by decide))]) ?_
        refine r_lconst (v := lI 1) C dX6_cancel_68 (by decide) ?_
        refine n_lsub C dX6_cancel_69 ?_
        refine a_last C ((17 + 18 * f + 17)) dX6_cancel_70 hM.1.2.1 ⟨congrArg iI (by omega), (by omega), by decide⟩ (fun a70 ea70 => ?_)
        refine r_aload_n C 1 dX6_cancel_71 rfl rfl ?_
        refine r_iload_n C 0 dX6_cancel_72 rfl rfl ?_
        refine r_bipush (v := iI 17) C dX6_cancel_73 (by decide) ?_
        refine cV2_PL C (k_X6_ofFlow f 17 hM (by omega) (by omega) (by omega)) cw_X6_53 (rm_ok rfl rfl (Nat.zero_le _) (Nat.zero_le _)) (Nat.le_of_ble_eq_true rfl) hM.1.1 dX6_cancel_75 ?_
        refine n_eql (y := ((a (17 + 18 * f + 17)) - 1)) (by rw [ea70, up1_s]) ?_
        refine n_l2i C dX6_cancel_78 ?_
        refine r_iret C hr hlk dX6_cancel_79 (Nat.zero_le _) (Nat.zero_le _) ?_
        refine ⟨_, rfl, rfl, ?_, rfl, ?_⟩
        · unfold aCan
          rw [if_neg (by omega), hpn, if_neg (by omega), hfl]
        · unfold canA
          rw [if_neg (by omega), hpn, if_neg (by omega)]
          unfold canc
          rw [hfl]
          subst ea70
          subst ea47
          rfl
      · refine r_bipush (v := iI (-5)) C dX6_cancel_32 (by decide) ?_
        refine r_iret C hr hlk dX6_cancel_34 (Nat.zero_le _) (Nat.zero_le _) ?_
        exact ⟨_, rfl, rfl, by unfold aCan; rw [if_neg (by omega), hpn, if_pos (by omega)], rfl, by unfold canA; rw [if_neg (by omega), hpn, if_pos (by omega)]⟩
  · refine r_iconst (v := iI (-1)) C dX6_cancel_8 rfl ?_
    refine r_iret C hr hlk dX6_cancel_9 (Nat.zero_le _) (Nat.zero_le _) ?_
    rw [b2_eq0] at c5
    exact ⟨_, rfl, rfl, by unfold aCan; rw [if_pos c5], rfl, by unfold canA; rw [if_pos c5]⟩
set_option maxHeartbeats 4000000 in
set_option maxRecDepth 20000 in
theorem k_X6_flow {l : Launch} {G : Gd} {base : Nat} {Y : MY} {I : MI} {L : ML} {M : Nat} {a : Sa} {N T : Int} (hI : Inv N T a) {f w : Int} (hM : MLy base Y M) (hf0 : -2147483648 ≤ f ∧ f < 2147483648) (hw0 : -2147483648 ≤ w ∧ w < 2147483648) : Ct l yX6_flow cX6_flow 3 (some .int) (rmz 4 88) G base [.ref M, .int (iI f), .int (iI w)] Y I (rL L (M + 1) a) (PI (aFlo a f w) Y I (rL L (M + 1) a)) := by
  refine Ct.of (own := RX6) (lo := [(0, .ref M), (1, .int (iI f)), (2, .int (iI w))]) (by decide) rfl (Nat.le_of_ble_eq_true rfl) rfl ?_
  intro zp ze zs zm zargs zbl zmt zc C hr hlk hnm
  have hT := hI.1
  unfold TopOK at hT
  refine r_aload_n C 0 dX6_flow_0 rfl rfl ?_
  refine r_iload_n C 1 dX6_flow_1 rfl rfl ?_
  refine cV1_PI C (k_X6_isFlow hM (by omega) (by omega)) cw_X6_72 (rm_ok rfl rfl (Nat.zero_le _) (Nat.zero_le _)) (Nat.le_of_ble_eq_true rfl) hM.1.1 dX6_flow_2 ?_
  refine n_if_ne (tgt := 10) C dX6_flow_5 (by decide) b2_i (fun c5 => ?_) (fun c5 => ?_)
  · rw [b2_eq0, Classical.not_not] at c5
    obtain ⟨fn, hfn⟩ := Int.eq_ofNat_of_zero_le (show 0 ≤ f by omega)
    have hfn6 : fn < 6 := by omega
    refine r_iload_n C 2 dX6_flow_10 rfl rfl ?_
    refine n_i2l C dX6_flow_11 (by constructor <;> omega) ?_
    refine r_lconst (v := lI 0) C dX6_flow_12 (by decide) ?_
    refine n_ldc2 (v := 14) C lc_X6_201 (by decide) dX6_flow_13 ?_
    refine cS3_PI C (k_X6_in (by constructor <;> omega) ⟨by decide, by decide⟩ ⟨by decide, by decide⟩) cw_X6_36 (rm_ok rfl rfl (Nat.zero_le _) (Nat.zero_le _)) (Nat.le_of_ble_eq_true rfl) dX6_flow_16 ?_
    refine n_if_ne (tgt := 25) C dX6_flow_19 (by decide) b2_i (fun c19 => ?_) (fun c19 => ?_)
    · rw [b2_eq0, Classical.not_not] at c19
      obtain ⟨wn, hwn⟩ := Int.eq_ofNat_of_zero_le (show 0 ≤ w by omega)
      refine r_iload_n C 2 dX6_flow_25 rfl rfl ?_
      rcases sw_split (x := w) (lw := 5) (n := 10) (by constructor <;> omega) with c26 | ⟨j26, c26, q26⟩
      · refine r_tableOut (tgt := 164) C dX6_flow_26 (by first | exact c26 | exact c26.imp id id) (by decide) ?_
        have k26 := c26
        rw [iI_toInt (by omega) (by omega)] at k26
        refine r_aload_n C 0 dX6_flow_164 rfl rfl ?_
        refine r_iload_n C 1 dX6_flow_165 rfl rfl ?_
        refine r_iload_n C 2 dX6_flow_166 rfl rfl ?_
        refine cV2_PL C (k_X6_ofFlow fn wn hM (by omega) (by omega) (by omega)) cw_X6_53 (rm_ok rfl rfl (Nat.zero_le _) (Nat.zero_le _)) (Nat.le_of_ble_eq_true rfl) hM.1.1 dX6_flow_167 ?_
        refine n_l2i C dX6_flow_170 ?_
        refine r_iret C hr hlk dX6_flow_171 (Nat.zero_le _) (Nat.zero_le _) ?_
        exact ⟨congrArg (fun z => some (Value.int (iI z))) (by
            unfold aFlo
            rw [if_neg (by omega), if_neg (by omega), show f.toNat = fn by omega]
            unfold floV
            rw [show w.toNat = wn by omega, if_pos (by omega)]), rfl, rfl, rfl⟩
      · match j26, c26, q26 with
        | 0, c26, q26 =>
          refine n_eqi (y := 5) q26 ?_
          refine r_tableIn (tgt := 80) C dX6_flow_26 (by decide) (by decide) (off := 54) (by decide) (by decide) ?_
          refine r_aload_n C 0 dX6_flow_80 rfl rfl ?_
          refine r_iload_n C 1 dX6_flow_81 rfl rfl ?_
          refine r_bipush (v := iI 17) C dX6_flow_82 (by decide) ?_
          refine cV2_PL C (k_X6_ofFlow fn 17 hM (by omega) (by omega) (by omega)) cw_X6_53 (rm_ok rfl rfl (Nat.zero_le _) (Nat.zero_le _)) (Nat.le_of_ble_eq_true rfl) hM.1.1 dX6_flow_84 ?_
          refine n_l2i C dX6_flow_87 ?_
          refine r_iret C hr hlk dX6_flow_88 (Nat.zero_le _) (Nat.zero_le _) ?_
          exact ⟨congrArg (fun z => some (Value.int (iI z))) (by
              unfold aFlo
              rw [if_neg (by omega), if_neg (by omega), show f.toNat = fn by omega]
              rw [show w.toNat = 5 by omega]
              rfl), rfl, rfl, rfl⟩
        | 1, c26, q26 =>
          refine n_eqi (y := 6) q26 ?_
          refine r_tableIn (tgt := 89) C dX6_flow_26 (by decide) (by decide) (off := 63) (by decide) (by decide) ?_
          refine r_aload_n C 0 dX6_flow_89 rfl rfl ?_
          refine r_iload_n C 1 dX6_flow_90 rfl rfl ?_
          refine cV1_PI C (k_X6_headOf hI fn hM (by omega) (by omega)) cw_X6_166 (rm_ok rfl rfl (Nat.zero_le _) (Nat.zero_le _)) (Nat.le_of_ble_eq_true rfl) hM.1.1 dX6_flow_91 ?_
          refine r_iret C hr hlk dX6_flow_94 (Nat.zero_le _) (Nat.zero_le _) ?_
          exact ⟨congrArg (fun z => some (Value.int (iI z))) (by
              unfold aFlo
              rw [if_neg (by omega), if_neg (by omega), show f.toNat = fn by omega]
              rw [show w.toNat = 6 by omega]
              rfl), rfl, rfl, rfl⟩
        | 2, c26, q26 =>
          refine n_eqi (y := 7) q26 ?_
          refine r_tableIn (tgt := 95) C dX6_flow_26 (by decide) (by decide) (off := 69) (by decide) (by decide) ?_
          refine r_aload_n C 0 dX6_flow_95 rfl rfl ?_
          refine r_iload_n C 1 dX6_flow_96 rfl rfl ?_
          refine cV1_PL C (k_X6_restOf hI fn hM (by omega) (by omega)) cw_X6_203 (rm_ok rfl rfl (Nat.zero_le _) (Nat.zero_le _)) (Nat.le_of_ble_eq_true rfl) hM.1.1 dX6_flow_97 ?_
          refine n_l2i C dX6_flow_100 ?_
          refine r_iret C hr hlk dX6_flow_101 (Nat.zero_le _) (Nat.zero_le _) ?_
          exact ⟨congrArg (fun z => some (Value.int (iI z))) (by
              unfold aFlo
              rw [if_neg (by omega), if_neg (by omega), show f.toNat = fn by omega]
              rw [show w.toNat = 7 by omega]
              rfl), rfl, rfl, rfl⟩
        | 3, c26, q26 =>
          refine n_eqi (y := 8) q26 ?_
          refine r_tableIn (tgt := 102) C dX6_flow_26 (by decide) (by decide) (off := 76) (by decide) (by decide) ?_
          refine r_aload_n C 0 dX6_flow_102 rfl rfl ?_
          refine r_iload_n C 1 dX6_flow_103 rfl rfl ?_
          refine r_bipush (v := iI 6) C dX6_flow_104 (by decide) ?_
          refine cV2_PL C (k_X6_ofFlow fn 6 hM (by omega) (by omega) (by omega)) cw_X6_53 (rm_ok rfl rfl (Nat.zero_le _) (Nat.zero_le _)) (Nat.le_of_ble_eq_true rfl) hM.1.1 dX6_flow_106 ?_
          refine n_l2i C dX6_flow_109 ?_
          refine r_iret C hr hlk dX6_flow_110 (Nat.zero_le _) (Nat.zero_le _) ?_
          exact ⟨congrArg (fun z => some (Value.int (iI z))) (by
              unfold aFlo
              rw [if_neg (by omega), if_neg (by omega), show f.toNat = fn by omega]
              rw [show w.toNat = 8 by omega]
              rfl), rfl, rfl, rfl⟩
        | 4, c26, q26 =>
          refine n_eqi (y := 9) q26 ?_
          refine r_tableIn (tgt := 111) C dX6_flow_26 (by decide) (by decide) (off := 85) (by decide) (by decide) ?_
          refine r_aload_n C 0 dX6_flow_111 rfl rfl ?_
          refine r_iload_n C 1 dX6_flow_112 rfl rfl ?_
          refine r_bipush (v := iI 7) C dX6_flow_113 (by decide) ?_
          refine cV2_PL C (k_X6_ofFlow fn 7 hM (by omega) (by omega) (by omega)) cw_X6_53 (rm_ok rfl rfl (Nat.zero_le _) (Nat.zero_le _)) (Nat.le_of_ble_eq_true rfl) hM.1.1 dX6_flow_115 ?_
          refine n_l2i C dX6_flow_118 ?_
          refine r_iret C hr hlk dX6_flow_119 (Nat.zero_le _) (Nat.zero_le _) ?_
          exact ⟨congrArg (fun z => some (Value.int (iI z))) (by
              unfold aFlo
              rw [if_neg (by omega), if_neg (by omega), show f.toNat = fn by omega]
              rw [show w.toNat = 9 by omega]
              rfl), rfl, rfl, rfl⟩
        | 5, c26, q26 =>
          refine n_eqi (y := 10) q26 ?_
          refine r_tableIn (tgt := 120) C dX6_flow_26 (by decide) (by decide) (off := 94) (by decide) (by decide) ?_
          refine r_aload_n C 0 dX6_flow_120 rfl rfl ?_
          refine r_iload_n C 1 dX6_flow_121 rfl rfl ?_
          refine r_bipush (v := iI 8) C dX6_flow_122 (by decide) ?_
          refine cV2_PL C (k_X6_ofFlow fn 8 hM (by omega) (by omega) (by omega)) cw_X6_53 (rm_ok rfl rfl (Nat.zero_le _) (Nat.zero_le _)) (Nat.le_of_ble_eq_true rfl) hM.1.1 dX6_flow_124 ?_
          refine n_l2i C dX6_flow_127 ?_
          refine r_iret C hr hlk dX6_flow_128 (Nat.zero_le _) (Nat.zero_le _) ?_
          exact ⟨congrArg (fun z => some (Value.int (iI z))) (by
              unfold aFlo
              rw [if_neg (by omega), if_neg (by omega), show f.toNat = fn by omega]
              rw [show w.toNat = 10 by omega]
              rfl), rfl, rfl, rfl⟩
        | 6, c26, q26 =>
          refine n_eqi (y := 11) q26 ?_
          refine r_tableIn (tgt := 129) C dX6_flow_26 (by decide) (by decide) (off := 103) (by decide) (by decide) ?_
          refine r_aload_n C 0 dX6_flow_129 rfl rfl ?_
          refine r_iload_n C 1 dX6_flow_130 rfl rfl ?_
          refine r_iconst (v := iI 5) C dX6_flow_131 rfl ?_
          refine cV2_PL C (k_X6_ofFlow fn 5 hM (by omega) (by omega) (by omega)) cw_X6_53 (rm_ok rfl rfl (Nat.zero_le _) (Nat.zero_le _)) (Nat.le_of_ble_eq_true rfl) hM.1.1 dX6_flow_132 ?_
          refine n_l2i C dX6_flow_135 ?_
          refine r_iret C hr hlk dX6_flow_136 (Nat.zero_le _) (Nat.zero_le _) ?_
          exact ⟨congrArg (fun z => some (Value.int (iI z))) (by
              unfold aFlo
              rw [if_neg (by omega), if_neg (by omega), show f.toNat = fn by omega]
              rw [show w.toNat = 11 by omega]
              rfl), rfl, rfl, rfl⟩
        | 7, c26, q26 =>
          refine n_eqi (y := 12) q26 ?_
          refine r_tableIn (tgt := 137) C dX6_flow_26 (by decide) (by decide) (off := 111) (by decide) (by decide) ?_
          refine r_aload_n C 0 dX6_flow_137 rfl rfl ?_
          refine r_iload_n C 1 dX6_flow_138 rfl rfl ?_
          refine r_bipush (v := iI 9) C dX6_flow_139 (by decide) ?_
          refine cV2_PL C (k_X6_ofFlow fn 9 hM (by omega) (by omega) (by omega)) cw_X6_53 (rm_ok rfl rfl (Nat.zero_le _) (Nat.zero_le _)) (Nat.le_of_ble_eq_true rfl) hM.1.1 dX6_flow_141 ?_
          refine n_l2i C dX6_flow_144 ?_
          refine r_iret C hr hlk dX6_flow_145 (Nat.zero_le _) (Nat.zero_le _) ?_
          exact ⟨congrArg (fun z => some (Value.int (iI z))) (by
              unfold aFlo
              rw [if_neg (by omega), if_neg (by omega), show f.toNat = fn by omega]
              rw [show w.toNat = 12 by omega]
              rfl), rfl, rfl, rfl⟩
        | 8, c26, q26 =>
          refine n_eqi (y := 13) q26 ?_
          refine r_tableIn (tgt := 146) C dX6_flow_26 (by decide) (by decide) (off := 120) (by decide) (by decide) ?_
          refine r_aload_n C 0 dX6_flow_146 rfl rfl ?_
          refine r_iload_n C 1 dX6_flow_147 rfl rfl ?_
          refine r_bipush (v := iI 10) C dX6_flow_148 (by decide) ?_
          refine cV2_PL C (k_X6_ofFlow fn 10 hM (by omega) (by omega) (by omega)) cw_X6_53 (rm_ok rfl rfl (Nat.zero_le _) (Nat.zero_le _)) (Nat.le_of_ble_eq_true rfl) hM.1.1 dX6_flow_150 ?_
          refine n_l2i C dX6_flow_153 ?_
          refine r_iret C hr hlk dX6_flow_154 (Nat.zero_le _) (Nat.zero_le _) ?_
          exact ⟨congrArg (fun z => some (Value.int (iI z))) (by
              unfold aFlo
              rw [if_neg (by omega), if_neg (by omega), show f.toNat = fn by omega]
              rw [show w.toNat = 13 by omega]
              rfl), rfl, rfl, rfl⟩
        | 9, c26, q26 =>
          refine n_eqi (y := 14) q26 ?_
          refine r_tableIn (tgt := 155) C dX6_flow_26 (by decide) (by decide) (off := 129) (by decide) (by decide) ?_
          refine r_aload_n C 0 dX6_flow_155 rfl rfl ?_
          refine r_iload_n C 1 dX6_flow_156 rfl rfl ?_
          refine r_bipush (v := iI 11) C dX6_flow_157 (by decide) ?_
          refine cV2_PL C (k_X6_ofFlow fn 11 hM (by omega) (by omega) (by omega)) cw_X6_53 (rm_ok rfl rfl (Nat.zero_le _) (Nat.zero_le _)) (Nat.le_of_ble_eq_true rfl) hM.1.1 dX6_flow_159 ?_
          refine n_l2i C dX6_flow_162 ?_
          refine r_iret C hr hlk dX6_flow_163 (Nat.zero_le _) (Nat.zero_le _) ?_
          exact ⟨congrArg (fun z => some (Value.int (iI z))) (by
              unfold aFlo
              rw [if_neg (by omega), if_neg (by omega), show f.toNat = fn by omega]
              rw [show w.toNat = 14 by omega]
              rfl), rfl, rfl, rfl⟩
        | j + 10, c26, q26 => exact absurd c26 (by omega)
    · refine r_bipush (v := iI (-2)) C dX6_flow_22 (by decide) ?_
      refine r_iret C hr hlk dX6_flow_24 (Nat.zero_le _) (Nat.zero_le _) ?_
      rw [b2_eq0] at c19
      exact ⟨congrArg (fun z => some (Value.int (iI z))) (by unfold aFlo; rw [if_neg (by omega), if_pos c19]), rfl, rfl, rfl⟩
  · refine r_iconst (v := iI (-1)) C dX6_flow_8 rfl ?_
    refine r_iret C hr hlk dX6_flow_9 (Nat.zero_le _) (Nat.zero_le _) ?_
    rw [b2_eq0] at c5
    exact ⟨congrArg (fun z => some (Value.int (iI z))) (by unfold aFlo; rw [if_pos (by omega)]), rfl, rfl, rfl⟩
set_option maxHeartbeats 4000000 in
set_option maxRecDepth 20000 in
theorem k_X6_amount {l : Launch} {G : Gd} {base : Nat} {Y : MY} {I : MI} {L : ML} {M : Nat} {a : Sa} {N T : Int} (hI : Inv N T a) {f w : Int} (hM : MLy base Y M) (hf0 : -2147483648 ≤ f ∧ f < 2147483648) (hw0 : -2147483648 ≤ w ∧ w < 2147483648) : Ct l yX6_amount cX6_amount 5 (some .long) (rmz 5 108) G base [.ref M, .int (iI f), .int (iI w)] Y I (rL L (M + 1) a) (PL (aAmt a f w) Y I (rL L (M + 1) a)) := by
  refine Ct.of (own := RX6) (lo := [(0, .ref M), (1, .int (iI f)), (2, .int (iI w))]) (by decide) rfl (Nat.le_of_ble_eq_true rfl) rfl ?_
  intro zp ze zs zm zargs zbl zmt zc C hr hlk hnm
  have hT := hI.1
  unfold TopOK at hT
  refine r_aload_n C 0 dX6_amount_0 rfl rfl ?_
  refine r_iload_n C 1 dX6_amount_1 rfl rfl ?_
  refine cV1_PI C (k_X6_isFlow hM (by omega) (by omega)) cw_X6_72 (rm_ok rfl rfl (Nat.zero_le _) (Nat.zero_le _)) (Nat.le_of_ble_eq_true rfl) hM.1.1 dX6_amount_2 ?_
  refine n_if_ne (tgt := 12) C dX6_amount_5 (by decide) b2_i (fun c5 => ?_) (fun c5 => ?_)
  · rw [b2_eq0, Classical.not_not] at c5
    obtain ⟨fn, hfn⟩ := Int.eq_ofNat_of_zero_le (show 0 ≤ f by omega)
    have hfn6 : fn < 6 := by omega
    have htg := tag_b hI (f := fn) (by omega)
    refine r_aload_n C 0 dX6_amount_12 rfl rfl ?_
    refine r_iload_n C 1 dX6_amount_13 rfl rfl ?_
    refine cV1_PL C (k_X6_tagOf hI fn hM (by omega) (by omega)) cw_X6_169 (rm_ok rfl rfl (Nat.zero_le _) (Nat.zero_le _)) (Nat.le_of_ble_eq_true rfl) hM.1.1 dX6_amount_14 ?_
    refine r_aload_n C 0 dX6_amount_17 rfl rfl ?_
    refine r_getR C fl_X6_7 rfl dX6_amount_18 hM.1.1 hM.2.1 ?_
    refine r_iconst (v := iI 1) C dX6_amount_21 rfl ?_
    refine a_lald C (v := (a 1)) 1 dX6_amount_22 hM.1.2.1 ⟨rfl, by decide, by decide⟩ rfl ?_
    refine n_lsub C dX6_amount_23 ?_
    refine n_topl (fun x24 ex24 => ?_)
    refine r_lstore_n (lo' := [(3, .long (lI x24)), (0, .ref M), (1, .int (iI f)), (2, .int (iI w))]) C dX6_amount_24 rfl (by decide) rfl ?_
    refine r_iload_n C 3 dX6_amount_25 rfl rfl ?_
    rcases sw_split (x := w) (lw := 0) (n := 8) (by constructor <;> omega) with c26 | ⟨j26, c26, q26⟩
    · refine r_tableOut (tgt := 136) C dX6_amount_26 (by first | exact c26 | exact c26.imp id id) (by decide) ?_
      have k26 := c26
      rw [iI_toInt (by omega) (by omega)] at k26
      refine n_ldc2 (v := (-1000000000000000002)) C lc_X6_206 (by decide) dX6_amount_136 ?_
      refine r_lret C hr hlk dX6_amount_139 (Nat.zero_le _) (Nat.zero_le _) ?_
      exact ⟨congrArg (fun z => some (Value.long (lI z))) (by
          unfold aAmt
          rw [if_neg (by omega), if_pos (by omega)]), rfl, rfl, rfl⟩
    · match j26, c26, q26 with
      | 0, c26, q26 =>
        refine n_eqi (y := 0) q26 ?_
        refine r_tableIn (tgt := 72) C dX6_amount_26 (by decide) (by decide) (off := 46) (by decide) (by decide) ?_
        refine r_aload_n C 1 dX6_amount_72 rfl rfl ?_
        refine r_iload_n C 2 dX6_amount_73 rfl rfl ?_
        refine r_bipush (v := iI 12) C dX6_amount_74 (by decide) ?_
        refine cV2_PL C (k_X6_ofFlow fn 12 hM (by omega) (by omega) (by omega)) cw_X6_53 (rm_ok rfl rfl (Nat.zero_le _) (Nat.zero_le _)) (Nat.le_of_ble_eq_true rfl) hM.1.1 dX6_amount_76 ?_
        refine r_lret C hr hlk dX6_amount_79 (Nat.zero_le _) (Nat.zero_le _) ?_
        exact ⟨congrArg (fun z => some (Value.long (lI z))) (by
            unfold aAmt
            rw [if_neg (by omega), if_neg (by omega), show f.toNat = fn by omega, show w.toNat = 0 by omega]
            rfl), rfl, rfl, rfl⟩
      | 1, c26, q26 =>
        refine n_eqi (y := 1) q26 ?_
        refine r_tableIn (tgt := 80) C dX6_amount_26 (by decide) (by decide) (off := 54) (by decide) (by decide) ?_
        refine r_aload_n C 1 dX6_amount_80 rfl rfl ?_
        refine r_iload_n C 2 dX6_amount_81 rfl rfl ?_
        refine cV1_PL C (k_X6_tagOf hI fn hM (by omega) (by omega)) cw_X6_169 (rm_ok rfl rfl (Nat.zero_le _) (Nat.zero_le _)) (Nat.le_of_ble_eq_true rfl) hM.1.1 dX6_amount_82 ?_
        refine r_lret C hr hlk dX6_amount_85 (Nat.zero_le _) (Nat.zero_le _) ?_
        exact ⟨congrArg (fun z => some (Value.long (lI z))) (by
            unfold aAmt
            rw [if_neg (by omega), if_neg (by omega), show f.toNat = fn by omega, show w.toNat = 1 by omega]
            rfl), rfl, rfl, rfl⟩
      | 2, c26, q26 =>
        refine n_eqi (y := 2) q26 ?_
        refine r_tableIn (tgt := 86) C dX6_amount_26 (by decide) (by decide) (off := 60) (by decide) (by decide) ?_
        refine r_lload_n C 0 dX6_amount_86 rfl rfl ?_
        refine r_lconst (v := lI 0) C dX6_amount_87 (by decide) ?_
        refine n_lcmp_le (tgt := 96) C dX6_amount_88 dX6_amount_89 rfl rfl (by decide) (by constructor <;> omega) ⟨by decide, by decide⟩ (fun c88 => ?_) (fun c88 => ?_)
        · refine r_lconst (v := lI 0) C dX6_amount_96 (by decide) ?_
          refine r_lret C hr hlk dX6_amount_97 (Nat.zero_le _) (Nat.zero_le _) ?_
          exact ⟨congrArg (fun z => some (Value.long (lI z))) (by
              unfold aAmt
              rw [if_neg (by omega), if_neg (by omega), show f.toNat = fn by omega, show w.toNat = 2 by omega]
              show _ = if 0 < tag a fn - a 1 then tag a fn - a 1 else 0
              split <;> omega), rfl, rfl, rfl⟩
        · refine r_lload_n C 0 dX6_amount_92 rfl rfl ?_
          refine r_goto (tgt := 97) C dX6_amount_93 (by decide) ?_
          refine r_lret C hr hlk dX6_amount_97 (Nat.zero_le _) (Nat.zero_le _) ?_
          exact ⟨congrArg (fun z => some (Value.long (lI z))) (by
              unfold aAmt
              rw [if_neg (by omega), if_neg (by omega), show f.toNat = fn by omega, show w.toNat = 2 by omega]
              show _ = if 0 < tag a fn - a 1 then tag a fn - a 1 else 0
              split <;> omega), rfl, rfl, rfl⟩
      | 3, c26, q26 =>
        refine n_eqi (y := 3) q26 ?_
        refine r_tableIn (tgt := 98) C dX6_amount_26 (by decide) (by decide) (off := 72) (by decide) (by decide) ?_
        refine r_aload_n C 1 dX6_amount_98 rfl rfl ?_
        refine r_iload_n C 2 dX6_amount_99 rfl rfl ?_
        refine r_bipush (v := iI 13) C dX6_amount_100 (by decide) ?_
        refine cV2_PL C (k_X6_ofFlow fn 13 hM (by omega) (by omega) (by omega)) cw_X6_53 (rm_ok rfl rfl (Nat.zero_le _) (Nat.zero_le _)) (Nat.le_of_ble_eq_true rfl) hM.1.1 dX6_amount_102 ?_
        refine r_lret C hr hlk dX6_amount_105 (Nat.zero_le _) (Nat.zero_le _) ?_
        exact ⟨congrArg (fun z => some (Value.long (lI z))) (by
            unfold aAmt
            rw [if_neg (by omega), if_neg (by omega), show f.toNat = fn by omega, show w.toNat = 3 by omega]
            rfl), rfl, rfl, rfl⟩
      | 4, c26, q26 =>
        refine n_eqi (y := 4) q26 ?_
        refine r_tableIn (tgt := 106) C dX6_amount_26 (by decide) (by decide) (off := 80) (by decide) (by decide) ?_
        refine r_aload_n C 1 dX6_amount_106 rfl rfl ?_
        refine r_iload_n C 2 dX6_amount_107 rfl rfl ?_
        refine r_bipush (v := iI 14) C dX6_amount_108 (by decide) ?_
        refine cV2_PL C (k_X6_ofFlow fn 14 hM (by omega) (by omega) (by omega)) cw_X6_53 (rm_ok rfl rfl (Nat.zero_le _) (Nat.zero_le _)) (Nat.le_of_ble_eq_true rfl) hM.1.1 dX6_amount_110 ?_
        refine r_lret C hr hlk dX6_amount_113 (Nat.zero_le _) (Nat.zero_le _) ?_
        exact ⟨congrArg (fun z => some (Value.long (lI z))) (by
            unfold aAmt
            rw [if_neg (by omega), if_neg (by omega), show f.toNat = fn by omega, show w.toNat = 4 by omega]
            rfl), rfl, rfl, rfl⟩
      | 5, c26, q26 =>
        refine n_eqi (y := 5) q26 ?_
        refine r_tableIn (tgt := 114) C dX6_amount_26 (by decide) (by decide) (off := 88) (by decide) (by decide) ?_
        refine r_aload_n C 1 dX6_amount_114 rfl rfl ?_
        refine r_iload_n C 2 dX6_amount_115 rfl rfl ?_
        refine r_bipush (v := iI 15) C dX6_amount_116 (by decide) ?_
        refine cV2_PL C (k_X6_ofFlow fn 15 hM (by omega) (by omega) (by omega)) cw_X6_53 (rm_ok rfl rfl (Nat.zero_le _) (Nat.zero_le _)) (Nat.le_of_ble_eq_true rfl) hM.1.1 dX6_amount_118 ?_
        refine r_lret C hr hlk dX6_amount_121 (Nat.zero_le _) (Nat.zero_le _) ?_
        exact ⟨congrArg (fun z => some (Value.long (lI z))) (by
            unfold aAmt
            rw [if_neg (by omega), if_neg (by omega), show f.toNat = fn by omega, show w.toNat = 5 by omega]
            rfl), rfl, rfl, rfl⟩
      | 6, c26, q26 =>
        refine n_eqi (y := 6) q26 ?_
        refine r_tableIn (tgt := 122) C dX6_amount_26 (by decide) (by decide) (off := 96) (by decide) (by decide) ?_
        refine r_aload_n C 1 dX6_amount_122 rfl rfl ?_
        refine r_iload_n C 2 dX6_amount_123 rfl rfl ?_
        refine cV1_PL C (k_X6_lagOf fn hM (by omega) (by omega)) cw_X6_193 (rm_ok rfl rfl (Nat.zero_le _) (Nat.zero_le _)) (Nat.le_of_ble_eq_true rfl) hM.1.1 dX6_amount_124 ?_
        refine r_lret C hr hlk dX6_amount_127 (Nat.zero_le _) (Nat.zero_le _) ?_
        exact ⟨congrArg (fun z => some (Value.long (lI z))) (by
            unfold aAmt
            rw [if_neg (by omega), if_neg (by omega), show f.toNat = fn by omega, show w.toNat = 6 by omega]
            rfl), rfl, rfl, rfl⟩
      | 7, c26, q26 =>
        refine n_eqi (y := 7) q26 ?_
        refine r_tableIn (tgt := 128) C dX6_amount_26 (by decide) (by decide) (off := 102) (by decide) (by decide) ?_
        refine r_aload_n C 1 dX6_amount_128 rfl rfl ?_
        refine r_iload_n C 2 dX6_amount_129 rfl rfl ?_
        refine r_bipush (v := iI 16) C dX6_amount_130 (by decide) ?_
        refine cV2_PL C (k_X6_ofFlow fn 16 hM (by omega) (by omega) (by omega)) cw_X6_53 (rm_ok rfl rfl (Nat.zero_le _) (Nat.zero_le _)) (Nat.le_of_ble_eq_true rfl) hM.1.1 dX6_amount_132 ?_
        refine r_lret C hr hlk dX6_amount_135 (Nat.zero_le _) (Nat.zero_le _) ?_
        exact ⟨congrArg (fun z => some (Value.long (lI z))) (by
            unfold aAmt
            rw [if_neg (by omega), if_neg (by omega), show f.toNat = fn by omega, show w.toNat = 7 by omega]
            rfl), rfl, rfl, rfl⟩
      | j + 8, c26, q26 => exact absurd c26 (by omega)
  · refine n_ldc2 (v := (-1000000000000000001)) C lc_X6_108 (by decide) dX6_amount_8 ?_
    refine r_lret C hr hlk dX6_amount_11 (Nat.zero_le _) (Nat.zero_le _) ?_
    rw [b2_eq0] at c5
    exact ⟨congrArg (fun z => some (Value.long (lI z))) (by unfold aAmt; rw [if_pos (by omega)]), rfl, rfl, rfl⟩
set_option maxHeartbeats 4000000 in
set_option maxRecDepth 20000 in
theorem k_X6_virtualTime {l : Launch} {G : Gd} {base : Nat} {Y : MY} {I : MI} {L : ML} {M : Nat} {a : Sa}  (hM : MLy base Y M)  : Ct l yX6_virtualTime cX6_virtualTime 1 (some .long) (rmz 0 0) G base [.ref M] Y I (rL L (M + 1) a) (PL (a 1) Y I (rL L (M + 1) a)) := by
  refine Ct.of (own := RX6) (lo := [(0, .ref M)]) (by decide) rfl (Nat.le_of_ble_eq_true rfl) rfl ?_
  intro zp ze zs zm zargs zbl zmt zc C hr hlk hnm
  refine r_aload_n C 0 dX6_virtualTime_0 rfl rfl ?_
  refine r_getR C fl_X6_7 rfl dX6_virtualTime_1 hM.1.1 hM.2.1 ?_
  refine r_iconst (v := iI 1) C dX6_virtualTime_4 rfl ?_
  refine a_lald C (v := (a 1)) 1 dX6_virtualTime_5 hM.1.2.1 ⟨rfl, by decide, by decide⟩ rfl ?_
  refine r_lret C hr hlk dX6_virtualTime_6 (Nat.zero_le _) (Nat.zero_le _) ?_
  exact ⟨congrArg (fun z => some (Value.long (lI z))) (rfl), rfl, rfl, rfl⟩
set_option maxHeartbeats 4000000 in
set_option maxRecDepth 20000 in
theorem k_X6_link {l : Launch} {G : Gd} {base : Nat} {Y : MY} {I : MI} {L : ML} {M : Nat} {a : Sa} {N T : Int} (hI : Inv N T a) {b : Nat → Nat → Int} {w : Int} (hM : MLy base Y M) (hw0 : -2147483648 ≤ w ∧ w < 2147483648) : Ct l yX6_link cX6_link 2 (some .int) (rmz 6 136) G base [.ref M, .int (iI w)] Y (mI I M 7 b) (rL L (M + 1) a) (EI Y (fun r I' L' => MB I M b I' ∧ (r = aLnk a w ∧ L' = rL L (M + 1) a))) := by
  refine Ct.of (own := RX6) (lo := [(0, .ref M), (1, .int (iI w))]) (by decide) rfl (Nat.le_of_ble_eq_true rfl) rfl ?_
  intro zp ze zs zm zargs zbl zmt zc C hr hlk hnm
  have hT := hI.1
  unfold TopOK at hT
  refine r_iload_n C 1 dX6_link_0 rfl rfl ?_
  rcases sw_split (x := w) (lw := 0) (n := 17) (by constructor <;> omega) with c1 | ⟨j1, c1, q1⟩
  · refine r_tableOut (tgt := 221) C dX6_link_1 (by first | exact c1 | exact c1.imp id id) (by decide) ?_
    have k1 := c1
    rw [iI_toInt (by omega) (by omega)] at k1
    refine r_bipush (v := iI (-2)) C dX6_link_221 (by decide) ?_
    refine r_iret C hr hlk dX6_link_223 (Nat.zero_le _) (Nat.zero_le _) ?_
    exact ⟨_, rfl, rfl, MB.self, by unfold aLnk; rw [if_neg (by omega), if_neg (by omega), if_neg (by omega), if_neg (by omega), if_neg (by omega), if_neg (by omega), if_neg (by omega), if_neg (by omega), if_neg (by omega), if_neg (by omega), if_neg (by omega), if_neg (by omega), if_neg (by omega), if_neg (by omega)], rfl⟩
  · match j1, c1, q1 with
    | 0, c1, q1 =>
      refine n_eqi (y := 0) q1 ?_
      refine r_tableIn (tgt := 84) C dX6_link_1 (by decide) (by decide) (off := 83) (by decide) (by decide) ?_
      refine r_aload_n C 0 dX6_link_84 rfl rfl ?_
      refine r_getR C fl_X6_7 rfl dX6_link_85 hM.1.1 hM.2.1 ?_
      refine r_iconst (v := iI 0) C dX6_link_88 rfl ?_
      refine a_lald C (v := (a 0)) 0 dX6_link_89 hM.1.2.1 ⟨rfl, by decide, by decide⟩ rfl ?_
      refine n_l2i C dX6_link_90 ?_
      refine r_iret C hr hlk dX6_link_91 (Nat.zero_le _) (Nat.zero_le _) ?_
      refine ⟨_, rfl, rfl, MB.self, ?_, rfl⟩
      subst q1
      rfl
    | 1, c1, q1 =>
      refine n_eqi (y := 1) q1 ?_
      refine r_tableIn (tgt := 92) C dX6_link_1 (by decide) (by decide) (off := 91) (by decide) (by decide) ?_
      refine r_aload_n C 0 dX6_link_92 rfl rfl ?_
      refine r_getR C fl_X6_7 rfl dX6_link_93 hM.1.1 hM.2.1 ?_
      refine r_iconst (v := iI 3) C dX6_link_96 rfl ?_
      refine r_iload_n C 1 dX6_link_97 rfl rfl ?_
      refine n_iadd C dX6_link_98 ?_
      refine r_iconst (v := iI 1) C dX6_link_99 rfl ?_
      refine n_isub C dX6_link_100 ?_
      refine a_lald C (v := (a (3 + w.toNat - 1))) ((3 + w.toNat - 1)) dX6_link_101 hM.1.2.1 ⟨congrArg iI (by omega), (by omega), by decide⟩ rfl ?_
      refine n_l2i C dX6_link_102 ?_
      refine r_iret C hr hlk dX6_link_103 (Nat.zero_le _) (Nat.zero_le _) ?_
      refine ⟨_, rfl, rfl, MB.self, ?_, rfl⟩
      subst q1
      rfl
    | 2, c1, q1 =>
      refine n_eqi (y := 2) q1 ?_
      refine r_tableIn (tgt := 92) C dX6_link_1 (by decide) (by decide) (off := 91) (by decide) (by decide) ?_
      refine r_aload_n C 0 dX6_link_92 rfl rfl ?_
      refine r_getR C fl_X6_7 rfl dX6_link_93 hM.1.1 hM.2.1 ?_
      refine r_iconst (v := iI 3) C dX6_link_96 rfl ?_
      refine r_iload_n C 1 dX6_link_97 rfl rfl ?_
      refine n_iadd C dX6_link_98 ?_
      refine r_iconst (v := iI 1) C dX6_link_99 rfl ?_
      refine n_isub C dX6_link_100 ?_
      refine a_lald C (v := (a (3 + w.toNat - 1))) ((3 + w.toNat - 1)) dX6_link_101 hM.1.2.1 ⟨congrArg iI (by omega), (by omega), by decide⟩ rfl ?_
      refine n_l2i C dX6_link_102 ?_
      refine r_iret C hr hlk dX6_link_103 (Nat.zero_le _) (Nat.zero_le _) ?_
      refine ⟨_, rfl, rfl, MB.self, ?_, rfl⟩
      subst q1
      rfl
    | 3, c1, q1 =>
      refine n_eqi (y := 3) q1 ?_
      refine r_tableIn (tgt := 92) C dX6_link_1 (by decide) (by decide) (off := 91) (by decide) (by decide) ?_
      refine r_aload_n C 0 dX6_link_92 rfl rfl ?_
      refine r_getR C fl_X6_7 rfl dX6_link_93 hM.1.1 hM.2.1 ?_
      refine r_iconst (v := iI 3) C dX6_link_96 rfl ?_
      refine r_iload_n C 1 dX6_link_97 rfl rfl ?_
      refine n_iadd C dX6_link_98 ?_
      refine r_iconst (v := iI 1) C dX6_link_99 rfl ?_
      refine n_isub C dX6_link_100 ?_
      refine a_lald C (v := (a (3 + w.toNat - 1))) ((3 + w.toNat - 1)) dX6_link_101 hM.1.2.1 ⟨congrArg iI (by omega), (by omega), by decide⟩ rfl ?_
      refine n_l2i C dX6_link_102 ?_
      refine r_iret C hr hlk dX6_link_103 (Nat.zero_le _) (Nat.zero_le _) ?_
      refine ⟨_, rfl, rfl, MB.self, ?_, rfl⟩
      subst q1
      rfl
    | 4, c1, q1 =>
      refine n_eqi (y := 4) q1 ?_
      refine r_tableIn (tgt := 92) C dX6_link_1 (by decide) (by decide) (off := 91) (by decide) (by decide) ?_
      refine r_aload_n C 0 dX6_link_92 rfl rfl ?_
      refine r_getR C fl_X6_7 rfl dX6_link_93 hM.1.1 hM.2.1 ?_
      refine r_iconst (v := iI 3) C dX6_link_96 rfl ?_
      refine r_iload_n C 1 dX6_link_97 rfl rfl ?_
      refine n_iadd C dX6_link_98 ?_
      refine r_iconst (v := iI 1) C dX6_link_99 rfl ?_
      refine n_isub C dX6_link_100 ?_
      refine a_lald C (v := (a (3 + w.toNat - 1))) ((3 + w.toNat - 1)) dX6_link_101 hM.1.2.1 ⟨congrArg iI (by omega), (by omega), by decide⟩ rfl ?_
      refine n_l2i C dX6_link_102 ?_
      refine r_iret C hr hlk dX6_link_103 (Nat.zero_le _) (Nat.zero_le _) ?_
      refine ⟨_, rfl, rfl, MB.self, ?_, rfl⟩
      subst q1
      rfl
    | 5, c1, q1 =>
      refine n_eqi (y := 5) q1 ?_
      refine r_tableIn (tgt := 104) C dX6_link_1 (by decide) (by decide) (off := 103) (by decide) (by decide) ?_
      refine r_aload_n C 0 dX6_link_104 rfl rfl ?_
      refine r_getR C fl_X6_7 rfl dX6_link_105 hM.1.1 hM.2.1 ?_
      refine r_iconst (v := iI 2) C dX6_link_108 rfl ?_
      refine a_lald C (v := (a 2)) 2 dX6_link_109 hM.1.2.1 ⟨rfl, by decide, by decide⟩ rfl ?_
      refine n_l2i C dX6_link_110 ?_
      refine r_iret C hr hlk dX6_link_111 (Nat.zero_le _) (Nat.zero_le _) ?_
      refine ⟨_, rfl, rfl, MB.self, ?_, rfl⟩
      subst q1
      rfl
    | 6, c1, q1 =>
      refine n_eqi (y := 6) q1 ?_
      refine r_tableIn (tgt := 112) C dX6_link_1 (by decide) (by decide) (off := 111) (by decide) (by decide) ?_
      refine r_aload_n C 0 dX6_link_112 rfl rfl ?_
      refine r_getR C fl_X6_7 rfl dX6_link_113 hM.1.1 hM.2.1 ?_
      refine r_bipush (v := iI 7) C dX6_link_116 (by decide) ?_
      refine a_lald C (v := (a 7)) 7 dX6_link_118 hM.1.2.1 ⟨rfl, by decide, by decide⟩ rfl ?_
      refine n_l2i C dX6_link_119 ?_
      refine r_iret C hr hlk dX6_link_120 (Nat.zero_le _) (Nat.zero_le _) ?_
      refine ⟨_, rfl, rfl, MB.self, ?_, rfl⟩
      subst q1
      rfl
    | 7, c1, q1 =>
      refine n_eqi (y := 7) q1 ?_
      refine r_tableIn (tgt := 121) C dX6_link_1 (by decide) (by decide) (off := 120) (by decide) (by decide) ?_
      refine r_aload_n C 0 dX6_link_121 rfl rfl ?_
      refine r_getR C fl_X6_7 rfl dX6_link_122 hM.1.1 hM.2.1 ?_
      refine r_bipush (v := iI 8) C dX6_link_125 (by decide) ?_
      refine a_lald C (v := (a 8)) 8 dX6_link_127 hM.1.2.1 ⟨rfl, by decide, by decide⟩ rfl ?_
      refine n_l2i C dX6_link_128 ?_
      refine r_iret C hr hlk dX6_link_129 (Nat.zero_le _) (Nat.zero_le _) ?_
      refine ⟨_, rfl, rfl, MB.self, ?_, rfl⟩
      subst q1
      rfl
    | 8, c1, q1 =>
      refine n_eqi (y := 8) q1 ?_
      refine r_tableIn (tgt := 130) C dX6_link_1 (by decide) (by decide) (off := 129) (by decide) (by decide) ?_
      refine r_aload_n C 0 dX6_link_130 rfl rfl ?_
      refine r_getR C fl_X6_7 rfl dX6_link_131 hM.1.1 hM.2.1 ?_
      refine r_bipush (v := iI 9) C dX6_link_134 (by decide) ?_
      refine a_lald C (v := (a 9)) 9 dX6_link_136 hM.1.2.1 ⟨rfl, by decide, by decide⟩ rfl ?_
      refine n_l2i C dX6_link_137 ?_
      refine r_iret C hr hlk dX6_link_138 (Nat.zero_le _) (Nat.zero_le _) ?_
      refine ⟨_, rfl, rfl, MB.self, ?_, rfl⟩
      subst q1
      rfl
    | 9, c1, q1 =>
      refine n_eqi (y := 9) q1 ?_
      refine r_tableIn (tgt := 139) C dX6_link_1 (by decide) (by decide) (off := 138) (by decide) (by decide) ?_
      refine r_aload_n C 0 dX6_link_139 rfl rfl ?_
      refine r_getR C fl_X6_7 rfl dX6_link_140 hM.1.1 hM.2.1 ?_
      refine r_bipush (v := iI 10) C dX6_link_143 (by decide) ?_
      refine a_lald C (v := (a 10)) 10 dX6_link_145 hM.1.2.1 ⟨rfl, by decide, by decide⟩ rfl ?_
      refine n_l2i C dX6_link_146 ?_
      refine r_iret C hr hlk dX6_link_147 (Nat.zero_le _) (Nat.zero_le _) ?_
      refine ⟨_, rfl, rfl, MB.self, ?_, rfl⟩
      subst q1
      rfl
    | 10, c1, q1 =>
      refine n_eqi (y := 10) q1 ?_
      refine r_tableIn (tgt := 148) C dX6_link_1 (by decide) (by decide) (off := 147) (by decide) (by decide) ?_
      refine r_aload_n C 0 dX6_link_148 rfl rfl ?_
      refine r_getR C fl_X6_7 rfl dX6_link_149 hM.1.1 hM.2.1 ?_
      refine r_bipush (v := iI 11) C dX6_link_152 (by decide) ?_
      refine a_lald C (v := (a 11)) 11 dX6_link_154 hM.1.2.1 ⟨rfl, by decide, by decide⟩ rfl ?_
      refine n_l2i C dX6_link_155 ?_
      refine r_iret C hr hlk dX6_link_156 (Nat.zero_le _) (Nat.zero_le _) ?_
      refine ⟨_, rfl, rfl, MB.self, ?_, rfl⟩
      subst q1
      rfl
    | 11, c1, q1 =>
      refine n_eqi (y := 11) q1 ?_
      refine r_tableIn (tgt := 157) C dX6_link_1 (by decide) (by decide) (off := 156) (by decide) (by decide) ?_
      refine r_aload_n C 0 dX6_link_157 rfl rfl ?_
      refine r_getR C fl_X6_7 rfl dX6_link_158 hM.1.1 hM.2.1 ?_
      refine r_sipush (v := iI 1825) C dX6_link_161 (by decide) ?_
      refine a_lald C (v := (a 1825)) 1825 dX6_link_164 hM.1.2.1 ⟨rfl, by decide, by decide⟩ rfl ?_
      refine n_l2i C dX6_link_165 ?_
      refine r_iret C hr hlk dX6_link_166 (Nat.zero_le _) (Nat.zero_le _) ?_
      refine ⟨_, rfl, rfl, MB.self, ?_, rfl⟩
      subst q1
      rfl
    | 12, c1, q1 =>
      refine n_eqi (y := 12) q1 ?_
      refine r_tableIn (tgt := 167) C dX6_link_1 (by decide) (by decide) (off := 166) (by decide) (by decide) ?_
      refine r_aload_n C 0 dX6_link_167 rfl rfl ?_
      refine r_getR C fl_X6_7 rfl dX6_link_168 hM.1.1 hM.2.1 ?_
      refine r_bipush (v := iI 13) C dX6_link_171 (by decide) ?_
      refine a_lald C (v := (a 13)) 13 dX6_link_173 hM.1.2.1 ⟨rfl, by decide, by decide⟩ rfl ?_
      refine n_l2i C dX6_link_174 ?_
      refine r_iret C hr hlk dX6_link_175 (Nat.zero_le _) (Nat.zero_le _) ?_
      refine ⟨_, rfl, rfl, MB.self, ?_, rfl⟩
      subst q1
      rfl
    | 13, c1, q1 =>
      refine n_eqi (y := 13) q1 ?_
      refine r_tableIn (tgt := 176) C dX6_link_1 (by decide) (by decide) (off := 175) (by decide) (by decide) ?_
      refine r_aload_n C 0 dX6_link_176 rfl rfl ?_
      refine r_getR C fl_X6_7 rfl dX6_link_177 hM.1.1 hM.2.1 ?_
      refine r_bipush (v := iI 14) C dX6_link_180 (by decide) ?_
      refine a_lald C (v := (a 14)) 14 dX6_link_182 hM.1.2.1 ⟨rfl, by decide, by decide⟩ rfl ?_
      refine n_l2i C dX6_link_183 ?_
      refine r_iret C hr hlk dX6_link_184 (Nat.zero_le _) (Nat.zero_le _) ?_
      refine ⟨_, rfl, rfl, MB.self, ?_, rfl⟩
      subst q1
      rfl
    | 14, c1, q1 =>
      refine n_eqi (y := 14) q1 ?_
      refine r_tableIn (tgt := 185) C dX6_link_1 (by decide) (by decide) (off := 184) (by decide) (by decide) ?_
      refine r_aload_n C 0 dX6_link_185 rfl rfl ?_
      refine cV0_EI C (k_X6_nextFlow hI hM) cw_X6_175 (rm_ok rfl rfl (Nat.zero_le _) (Nat.zero_le _)) (Nat.le_of_ble_eq_true rfl) hM.1.1 dX6_link_186 (fun r186 I186 L186 h186 => ?_)
      obtain ⟨h186r, h186I, h186L⟩ := h186
      obtain ⟨u, hu⟩ : ∃ u : Int, u = if nxU a (a 2).toNat < 0 then 0 else 1 := ⟨_, rfl⟩
      have hu01 : (u = 0 ∧ nxU a (a 2).toNat < 0) ∨ (u = 1 ∧ ¬ nxU a (a 2).toNat < 0) := by
        rw [hu]
        split <;> omega
      rw [← hu] at h186I
      obtain ⟨b186, eb186⟩ : ∃ z, z = up2 b 0 9 u := ⟨_, rfl⟩
      rw [← eb186] at h186I
      subst h186I
      subst h186L
      have hnb : -6 ≤ nxt a ∧ nxt a ≤ 6 := by
        rcases nxt_ok hI with ⟨h, _⟩ | ⟨f, h1, h2, h3⟩ <;> omega
      refine r_iret C hr hlk dX6_link_189 (Nat.zero_le _) (Nat.zero_le _) ?_
      refine ⟨_, rfl, rfl, ⟨b186, rfl, by rw [eb186, up2_rown (by decide)]⟩, ?_, rfl⟩
      rw [h186r]
      subst q1
      rfl
    | 15, c1, q1 =>
      refine n_eqi (y := 15) q1 ?_
      refine r_tableIn (tgt := 190) C dX6_link_1 (by decide) (by decide) (off := 189) (by decide) (by decide) ?_
      refine r_aload_n C 0 dX6_link_190 rfl rfl ?_
      refine r_getR C fl_X6_7 rfl dX6_link_191 hM.1.1 hM.2.1 ?_
      refine r_bipush (v := iI 15) C dX6_link_194 (by decide) ?_
      refine a_lald C (v := (a 15)) 15 dX6_link_196 hM.1.2.1 ⟨rfl, by decide, by decide⟩ rfl ?_
      refine n_l2i C dX6_link_197 ?_
      refine r_iret C hr hlk dX6_link_198 (Nat.zero_le _) (Nat.zero_le _) ?_
      refine ⟨_, rfl, rfl, MB.self, ?_, rfl⟩
      subst q1
      rfl
    | 16, c1, q1 =>
      refine n_eqi (y := 16) q1 ?_
      refine r_tableIn (tgt := 199) C dX6_link_1 (by decide) (by decide) (off := 198) (by decide) (by decide) ?_
      refine r_aload_n C 0 dX6_link_199 rfl rfl ?_
      refine r_getR C fl_X6_7 rfl dX6_link_200 hM.1.1 hM.2.1 ?_
      refine r_bipush (v := iI 7) C dX6_link_203 (by decide) ?_
      refine a_lald C (v := (a 7)) 7 dX6_link_205 hM.1.2.1 ⟨rfl, by decide, by decide⟩ rfl ?_
      refine r_lconst (v := lI 0) C dX6_link_206 (by decide) ?_
      refine n_lcmp_le (tgt := 218) C dX6_link_207 dX6_link_208 rfl rfl (by decide) (by constructor <;> omega) ⟨by decide, by decide⟩ (fun c207 => ?_) (fun c207 => ?_)
      · refine r_bipush (v := iI (-6)) C dX6_link_218 (by decide) ?_
        refine r_iret C hr hlk dX6_link_220 (Nat.zero_le _) (Nat.zero_le _) ?_
        refine ⟨_, rfl, rfl, MB.self, ?_, rfl⟩
        subst q1
        show _ = if 0 < a 7 then (old a : Int) else -6
        split <;> omega
      · refine r_aload_n C 0 dX6_link_211 rfl rfl ?_
        refine cV0_PI C (k_X6_oldest hM (by omega)) cw_X6_56 (rm_ok rfl rfl (Nat.zero_le _) (Nat.zero_le _)) (Nat.le_of_ble_eq_true rfl) hM.1.1 dX6_link_212 ?_
        refine r_goto (tgt := 220) C dX6_link_215 (by decide) ?_
        refine r_iret C hr hlk dX6_link_220 (Nat.zero_le _) (Nat.zero_le _) ?_
        refine ⟨_, rfl, rfl, MB.self, ?_, rfl⟩
        subst q1
        show _ = if 0 < a 7 then (old a : Int) else -6
        split <;> omega
    | j + 17, c1, q1 => exact absurd c1 (by omega)
set_option maxHeartbeats 4000000 in
set_option maxRecDepth 20000 in
theorem k_X6_piece {l : Launch} {G : Gd} {base : Nat} {Y : MY} {I : MI} {L : ML} {M : Nat} {a : Sa} {N T : Int} (hI : Inv N T a) {p w : Int} (hM : MLy base Y M) (hp0 : -2147483648 ≤ p ∧ p < 2147483648) (hw0 : -2147483648 ≤ w ∧ w < 2147483648) : Ct l yX6_piece cX6_piece 4 (some .int) (rmz 1 25) G base [.ref M, .int (iI p), .int (iI w)] Y I (rL L (M + 1) a) (PI (aPce a p w) Y I (rL L (M + 1) a)) := by
  refine Ct.of (own := RX6) (lo := [(0, .ref M), (1, .int (iI p)), (2, .int (iI w))]) (by decide) rfl (Nat.le_of_ble_eq_true rfl) rfl ?_
  intro zp ze zs zm zargs zbl zmt zc C hr hlk hnm
  have hT := hI.1
  unfold TopOK at hT
  refine r_iload_n C 2 dX6_piece_0 rfl rfl ?_
  refine n_i2l C dX6_piece_1 (by constructor <;> omega) ?_
  refine r_lconst (v := lI 0) C dX6_piece_2 (by decide) ?_
  refine n_ldc2 (v := 4) C lc_X6_97 (by decide) dX6_piece_3 ?_
  refine cS3_PI C (k_X6_in (by constructor <;> omega) ⟨by decide, by decide⟩ ⟨by decide, by decide⟩) cw_X6_36 (rm_ok rfl rfl (Nat.zero_le _) (Nat.zero_le _)) (Nat.le_of_ble_eq_true rfl) dX6_piece_6 ?_
  refine n_if_ne (tgt := 15) C dX6_piece_9 (by decide) b2_i (fun c9 => ?_) (fun c9 => ?_)
  · rw [b2_eq0, Classical.not_not] at c9
    have jn55 : ∀ x55 : Int, ((b2 (0 ≤ p ∧ p ≤ ((a 15) - 1))) = 0 ∧ x55 = 0) ∨ (¬ (b2 (0 ≤ p ∧ p ≤ ((a 15) - 1))) = 0 ∧ p < ((a 15) - 60) ∧ x55 = 0) ∨ (¬ (b2 (0 ≤ p ∧ p ≤ ((a 15) - 1))) = 0 ∧ ((a 15) - 60) ≤ p ∧ x55 = 1) → Bd zp l ze (rmz 1 25) zs zm zargs zbl zmt zc 4 G base (PI (aPce a p w) Y I (rL L (M + 1) a)) 55 [(0, .ref M), (1, .int (iI p)), (2, .int (iI w))] [.int (iI x55)] Y I (rL L (M + 1) a) 0 0 := by
      intro x55 hx55
      simp only [b2_eq0] at hx55
      refine r_istore_n (lo' := [(3, .int (iI x55)), (0, .ref M), (1, .int (iI p)), (2, .int (iI w))]) C dX6_piece_55 rfl (by decide) rfl ?_
      refine r_iload_n C 0 dX6_piece_56 rfl rfl ?_
      refine n_if_eq (tgt := 81) C dX6_piece_57 (by decide) (by constructor <;> omega) (fun c57 => ?_) (fun c57 => ?_)
      · refine r_bipush (v := iI (-6)) C dX6_piece_81 (by decide) ?_
        refine r_iret C hr hlk dX6_piece_83 (Nat.zero_le _) (Nat.zero_le _) ?_
        exact ⟨congrArg (fun z => some (Value.int (iI z))) (by unfold aPce; rw [if_neg (by omega), if_pos (by omega)]), rfl, rfl, rfl⟩
      · obtain ⟨pn, hpn⟩ := Int.eq_ofNat_of_zero_le (show 0 ≤ p by omega)
        obtain ⟨wn, hwn⟩ := Int.eq_ofNat_of_zero_le (show 0 ≤ w by omega)
        refine r_aload_n C 1 dX6_piece_60 rfl rfl ?_
        refine r_getR C fl_X6_7 rfl dX6_piece_61 hM.1.1 hM.2.1 ?_
        refine r_sipush (v := iI 1445) C dX6_piece_64 (by decide) ?_
        refine r_iconst (v := iI 5) C dX6_piece_67 rfl ?_
        refine r_iload_n C 2 dX6_piece_68 rfl rfl ?_
        refine r_bipush (v := iI 60) C dX6_piece_69 (by decide) ?_
        refine n_irem C dX6_piece_71 (by omega) (by omega) ?_
        refine n_imul C dX6_piece_72 ?_
        refine n_iadd C dX6_piece_73 ?_
        refine r_iload_n C 3 dX6_piece_74 rfl rfl ?_
        refine n_iadd C dX6_piece_75 ?_
        refine a_lald C (v := (a ((1445 + (5 * (pn % 60))) + wn))) (((1445 + (5 * (pn % 60))) + wn)) dX6_piece_76 hM.1.2.1 ⟨congrArg iI (by omega), (by omega), by decide⟩ rfl ?_
        refine n_l2i C dX6_piece_77 ?_
        refine r_goto (tgt := 83) C dX6_piece_78 (by decide) ?_
        refine r_iret C hr hlk dX6_piece_83 (Nat.zero_le _) (Nat.zero_le _) ?_
        exact ⟨congrArg (fun z => some (Value.int (iI z))) (by unfold aPce; rw [if_neg (by omega), if_neg (by omega), show p.toNat = pn by omega, show w.toNat = wn by omega]), rfl, rfl, rfl⟩
    refine r_iload_n C 1 dX6_piece_15 rfl rfl ?_
    refine n_i2l C dX6_piece_16 (by constructor <;> omega) ?_
    refine r_lconst (v := lI 0) C dX6_piece_17 (by decide) ?_
    refine r_aload_n C 0 dX6_piece_18 rfl rfl ?_
    refine r_getR C fl_X6_7 rfl dX6_piece_19 hM.1.1 hM.2.1 ?_
    refine r_bipush (v := iI 15) C dX6_piece_22 (by decide) ?_
    refine a_lald C (v := (a 15)) 15 dX6_piece_24 hM.1.2.1 ⟨rfl, by decide, by decide⟩ rfl ?_
    refine r_lconst (v := lI 1) C dX6_piece_25 (by decide) ?_
    refine n_lsub C dX6_piece_26 ?_
    refine cS3_PI C (k_X6_in (by constructor <;> omega) ⟨by decide, by decide⟩ (by constructor <;> omega)) cw_X6_36 (rm_ok rfl rfl (Nat.zero_le _) (Nat.zero_le _)) (Nat.le_of_ble_eq_true rfl) dX6_piece_27 ?_
    refine n_if_eq (tgt := 54) C dX6_piece_30 (by decide) b2_i (fun c30 => ?_) (fun c30 => ?_)
    · refine r_iconst (v := iI 0) C dX6_piece_54 rfl ?_
      exact jn55 _ (Or.inl ⟨c30, rfl⟩)
    · refine r_iload_n C 1 dX6_piece_33 rfl rfl ?_
      refine n_i2l C dX6_piece_34 (by constructor <;> omega) ?_
      refine r_aload_n C 0 dX6_piece_35 rfl rfl ?_
      refine r_getR C fl_X6_7 rfl dX6_piece_36 hM.1.1 hM.2.1 ?_
      refine r_bipush (v := iI 15) C dX6_piece_39 (by decide) ?_
      refine a_lald C (v := (a 15)) 15 dX6_piece_41 hM.1.2.1 ⟨rfl, by decide, by decide⟩ rfl ?_
      refine n_ldc2 (v := 60) C lc_X6_157 (by decide) dX6_piece_42 ?_
      refine n_lsub C dX6_piece_45 ?_
      refine n_lcmp_lt (tgt := 54) C dX6_piece_46 dX6_piece_47 rfl rfl (by decide) (by constructor <;> omega) (by constructor <;> omega) (fun c46 => ?_) (fun c46 => ?_)
      · refine r_iconst (v := iI 0) C dX6_piece_54 rfl ?_
        exact jn55 _ (Or.inr (Or.inl ⟨c30, c46, rfl⟩))
      · refine r_iconst (v := iI 1) C dX6_piece_50 rfl ?_
        refine r_goto (tgt := 55) C dX6_piece_51 (by decide) ?_
        exact jn55 _ (Or.inr (Or.inr (⟨c30, c46, rfl⟩)))
  · refine r_bipush (v := iI (-2)) C dX6_piece_12 (by decide) ?_
    refine r_iret C hr hlk dX6_piece_14 (Nat.zero_le _) (Nat.zero_le _) ?_
    rw [b2_eq0] at c9
    exact ⟨congrArg (fun z => some (Value.int (iI z))) (by unfold aPce; rw [if_pos c9]), rfl, rfl, rfl⟩
set_option maxHeartbeats 4000000 in
set_option maxRecDepth 20000 in
theorem k_X6_apart {l : Launch} {G : Gd} {base : Nat} {Y : MY} {I : MI} {L : ML} {M : Nat} {a : Sa} {N T : Int} (hI : Inv N T a) {f g : Int} (hM : MLy base Y M) (hf0 : -2147483648 ≤ f ∧ f < 2147483648) (hg0 : -2147483648 ≤ g ∧ g < 2147483648) : Ct l yX6_apart cX6_apart 5 (some .long) (rmz 2 46) G base [.ref M, .int (iI f), .int (iI g)] Y I (rL L (M + 1) a) (PL (aApt a f g) Y I (rL L (M + 1) a)) := by
  refine Ct.of (own := RX6) (lo := [(0, .ref M), (1, .int (iI f)), (2, .int (iI g))]) (by decide) rfl (Nat.le_of_ble_eq_true rfl) rfl ?_
  intro zp ze zs zm zargs zbl zmt zc C hr hlk hnm
  have hT := hI.1
  unfold TopOK at hT
  refine r_aload_n C 0 dX6_apart_0 rfl rfl ?_
  refine r_iload_n C 1 dX6_apart_1 rfl rfl ?_
  refine cV1_PI C (k_X6_isFlow hM (by omega) (by omega)) cw_X6_72 (rm_ok rfl rfl (Nat.zero_le _) (Nat.zero_le _)) (Nat.le_of_ble_eq_true rfl) hM.1.1 dX6_apart_2 ?_
  refine n_if_eq (tgt := 16) C dX6_apart_5 (by decide) b2_i (fun c5 => ?_) (fun c5 => ?_)
  · refine n_ldc2 (v := (-1000000000000000001)) C lc_X6_108 (by decide) dX6_apart_16 ?_
    refine r_lret C hr hlk dX6_apart_19 (Nat.zero_le _) (Nat.zero_le _) ?_
    simp only [b2_eq0] at c5
    exact ⟨congrArg (fun z => some (Value.long (lI z))) (by unfold aApt; rw [if_pos (by omega)]), rfl, rfl, rfl⟩
  · refine r_aload_n C 0 dX6_apart_8 rfl rfl ?_
    refine r_iload_n C 2 dX6_apart_9 rfl rfl ?_
    refine cV1_PI C (k_X6_isFlow hM (by omega) (by omega)) cw_X6_72 (rm_ok rfl rfl (Nat.zero_le _) (Nat.zero_le _)) (Nat.le_of_ble_eq_true rfl) hM.1.1 dX6_apart_10 ?_
    refine n_if_ne (tgt := 20) C dX6_apart_13 (by decide) b2_i (fun c13 => ?_) (fun c13 => ?_)
    · simp only [b2_eq0, Classical.not_not] at c5 c13
      obtain ⟨fn, hfn⟩ := Int.eq_ofNat_of_zero_le (show 0 ≤ f by omega)
      obtain ⟨gn, hgn⟩ := Int.eq_ofNat_of_zero_le (show 0 ≤ g by omega)
      have hF := (hI.2.1 fn (by omega)).1
      have hG := (hI.2.1 gn (by omega)).1
      unfold FlowOK at hF hG
      refine r_aload_n C 0 dX6_apart_20 rfl rfl ?_
      refine r_iload_n C 1 dX6_apart_21 rfl rfl ?_
      refine r_bipush (v := iI 6) C dX6_apart_22 (by decide) ?_
      refine cV2_PL C (k_X6_ofFlow fn 6 hM (by omega) (by omega) (by omega)) cw_X6_53 (rm_ok rfl rfl (Nat.zero_le _) (Nat.zero_le _)) (Nat.le_of_ble_eq_true rfl) hM.1.1 dX6_apart_24 ?_
      refine n_ldc2 (v := 720720) C lc_X6_81 (by decide) dX6_apart_27 ?_
      refine n_lmul C dX6_apart_30 ?_
      refine r_aload_n C 0 dX6_apart_31 rfl rfl ?_
      refine r_iload_n C 1 dX6_apart_32 rfl rfl ?_
      refine r_iconst (v := iI 0) C dX6_apart_33 rfl ?_
      refine cV2_PL C (k_X6_ofFlow fn 0 hM (by omega) (by omega) (by omega)) cw_X6_53 (rm_ok rfl rfl (Nat.zero_le _) (Nat.zero_le _)) (Nat.le_of_ble_eq_true rfl) hM.1.1 dX6_apart_34 ?_
      refine n_ldiv C dX6_apart_37 (by omega) (by omega) ?_
      refine r_aload_n C 0 dX6_apart_38 rfl rfl ?_
      refine r_iload_n C 2 dX6_apart_39 rfl rfl ?_
      refine r_bipush (v := iI 6) C dX6_apart_40 (by decide) ?_
      refine cV2_PL C (k_X6_ofFlow gn 6 hM (by omega) (by omega) (by omega)) cw_X6_53 (rm_ok rfl rfl (Nat.zero_le _) (Nat.zero_le _)) (Nat.le_of_ble_eq_true rfl) hM.1.1 dX6_apart_42 ?_
      refine n_ldc2 (v := 720720) C lc_X6_81 (by decide) dX6_apart_45 ?_
      refine n_lmul C dX6_apart_48 ?_
      refine r_aload_n C 0 dX6_apart_49 rfl rfl ?_
      refine r_iload_n C 2 dX6_apart_50 rfl rfl ?_
      refine r_iconst (v := iI 0) C dX6_apart_51 rfl ?_
      refine cV2_PL C (k_X6_ofFlow gn 0 hM (by omega) (by omega) (by omega)) cw_X6_53 (rm_ok rfl rfl (Nat.zero_le _) (Nat.zero_le _)) (Nat.le_of_ble_eq_true rfl) hM.1.1 dX6_apart_52 ?_
      refine n_ldiv C dX6_apart_55 (by omega) (by omega) ?_
      refine n_lsub C dX6_apart_56 ?_
      refine n_topl (fun x57 ex57 => ?_)
      refine r_lstore_n (lo' := [(3, .long (lI x57)), (0, .ref M), (1, .int (iI f)), (2, .int (iI g))]) C dX6_apart_57 rfl (by decide) rfl ?_
      have hd1 : 0 ≤ a (17 + 18 * fn + 6) * 720720 / a (17 + 18 * fn + 0) ∧ a (17 + 18 * fn + 6) * 720720 / a (17 + 18 * fn + 0) ≤ a (17 + 18 * fn + 6) * 720720 := ⟨Int.ediv_nonneg (by omega) (by omega), Int.ediv_le_self _ (by omega)⟩
      have hd2 : 0 ≤ a (17 + 18 * gn + 6) * 720720 / a (17 + 18 * gn + 0) ∧ a (17 + 18 * gn + 6) * 720720 / a (17 + 18 * gn + 0) ≤ a (17 + 18 * gn + 6) * 720720 := ⟨Int.ediv_nonneg (by omega) (by omega), Int.ediv_le_self _ (by omega)⟩
      refine r_lload_n C 0 dX6_apart_58 rfl rfl ?_
      refine r_lconst (v := lI 0) C dX6_apart_59 (by decide) ?_
      refine n_lcmp_ge (tgt := 69) C dX6_apart_60 dX6_apart_61 rfl rfl (by decide) (by constructor <;> omega) ⟨by decide, by decide⟩ (fun c60 => ?_) (fun c60 => ?_)
      · refine r_lload_n C 0 dX6_apart_69 rfl rfl ?_
        refine r_lret C hr hlk dX6_apart_70 (Nat.zero_le _) (Nat.zero_le _) ?_
        exact ⟨congrArg (fun z => some (Value.long (lI z))) (by
            unfold aApt
            rw [if_neg (by omega), show f.toNat = fn by omega, show g.toNat = gn by omega, ← ex57]
            first | rw [if_pos (by omega)] | rw [if_neg (by omega)]), rfl, rfl, rfl⟩
      · refine r_lload_n C 0 dX6_apart_64 rfl rfl ?_
        refine n_lneg C dX6_apart_65 ?_
        refine r_goto (tgt := 70) C dX6_apart_66 (by decide) ?_
        refine r_lret C hr hlk dX6_apart_70 (Nat.zero_le _) (Nat.zero_le _) ?_
        exact ⟨congrArg (fun z => some (Value.long (lI z))) (by
            unfold aApt
            rw [if_neg (by omega), show f.toNat = fn by omega, show g.toNat = gn by omega, ← ex57]
            first | rw [if_pos (by omega)] | rw [if_neg (by omega)]), rfl, rfl, rfl⟩
    · refine n_ldc2 (v := (-1000000000000000001)) C lc_X6_108 (by decide) dX6_apart_16 ?_
      refine r_lret C hr hlk dX6_apart_19 (Nat.zero_le _) (Nat.zero_le _) ?_
      simp only [b2_eq0] at c5 c13
      exact ⟨congrArg (fun z => some (Value.long (lI z))) (by unfold aApt; rw [if_pos (by omega)]), rfl, rfl, rfl⟩
set_option maxHeartbeats 4000000 in
set_option maxRecDepth 20000 in
theorem k_X6_wipe {l : Launch} {G : Gd} {base : Nat} {Y : MY} {I : MI} {L : ML} {M : Nat} {a : Sa} {N T : Int} (hI : Inv N T a) (hM : MLy base Y M)  : Ct l yX6_wipe cX6_wipe 2 (some .int) (rmz 0 0) G base [.ref M] Y I (rL L (M + 1) a) (EI Y (fun r I' L' => r = a 1825 ∧ I' = I ∧ L' = rL L (M + 1) (up1 a 1825 0))) := by
  refine Ct.of (own := RX6) (lo := [(0, .ref M)]) (by decide) rfl (Nat.le_of_ble_eq_true rfl) rfl ?_
  intro zp ze zs zm zargs zbl zmt zc C hr hlk hnm
  refine r_aload_n C 0 dX6_wipe_0 rfl rfl ?_
  refine r_getR C fl_X6_7 rfl dX6_wipe_1 hM.1.1 hM.2.1 ?_
  refine r_sipush (v := iI 1825) C dX6_wipe_4 (by decide) ?_
  refine a_lald C (v := (a 1825)) 1825 dX6_wipe_7 hM.1.2.1 ⟨rfl, by decide, by decide⟩ rfl ?_
  refine n_l2i C dX6_wipe_8 ?_
  refine n_topi (fun x9 ex9 => ?_)
  refine r_istore_n (lo' := [(1, .int (iI x9)), (0, .ref M)]) C dX6_wipe_9 rfl (by decide) rfl ?_
  refine r_aload_n C 1 dX6_wipe_10 rfl rfl ?_
  refine r_getR C fl_X6_7 rfl dX6_wipe_11 hM.1.1 hM.2.1 ?_
  refine r_sipush (v := iI 1825) C dX6_wipe_14 (by decide) ?_
  refine r_lconst (v := lI 0) C dX6_wipe_17 (by decide) ?_
  refine a_last C 1825 dX6_wipe_18 hM.1.2.1 ⟨rfl, by decide, by decide⟩ (fun a18 ea18 => ?_)
  refine r_iload_n C 0 dX6_wipe_19 rfl rfl ?_
  refine r_iret C hr hlk dX6_wipe_20 (Nat.zero_le _) (Nat.zero_le _) ?_
  subst ea18
  exact ⟨_, rfl, rfl, ex9, rfl, rfl⟩
