theorem rbP_z {a : Sa} {mk m : Int} {p : Nat} (hmk : 1 ≤ mk) (hp : (p : Int) ≤ a 1825) : ((rbP a mk m p : Nat) : Int) ≤ a 1825 := by
  unfold rbP
  split
  · rename_i h
    have hlt : (p : Int) < a 1825 := by
      by_cases h2 : (p : Int) < a 1825
      · exact h2
      · unfold ch at h; rw [if_neg h2] at h; omega
    exact nmb_z (by omega)
  · exact hp
theorem ch_sz {a : Sa} {p : Nat} (h : 1 ≤ ch a p) : (p : Int) < a 1825 := by
  by_cases h2 : (p : Int) < a 1825
  · exact h2
  · unfold ch at h; rw [if_neg h2] at h; omega
theorem ar_z {a : Sa} {p : Nat} (hp : (p : Int) ≤ a 1825) : ((arP a p : Nat) : Int) ≤ a 1825 := by
  unfold arP
  split
  · rename_i hL
    have h0 := ch_sz (a := a) (p := p) (by omega)
    have h1 : ((av1 a p).1 : Int) ≤ a 1825 := nmb_z (by omega)
    have h2 : ((av2 a p).1 : Int) ≤ a 1825 := by
      unfold av2
      split
      · rename_i hc
        have := ch_sz (a := a) (p := (av1 a p).1) (by omega)
        exact nmb_z (by omega)
      · exact h1
    unfold av3
    split
    · rename_i hc
      have := ch_sz (a := a) (p := (av2 a p).1) (by omega)
      exact nmb_z (by omega)
    · exact h2
  · exact hp
/-- without a fault, reading ends behind the last arrival -/
theorem psq_end {a : Sa} (hF : aFlt a = -6) : a 1825 < (psq a (nsA a + 1) : Nat) := by
  unfold aFlt at hF
  show a 1825 < ((arP a (psq a (nsA a)) + 1 : Nat) : Int)
  split at hF
  · rename_i h
    omega
  · omega
theorem psq_in {a : Sa} {N T : Int} (hI : Inv N T a) (hF : aFlt a = -6) {i : Nat} (hi : i ≤ nsA a) : ((psq a i : Nat) : Int) < a 1825 ∧ arW a (psq a i) = 0 := by
  have hw := flt_ok hI hF i hi
  have ho := ar_ok hI hw
  exact ⟨ch_sz (by omega), hw⟩
/-- a FairLink, and the State that is now -/
def FLn (base : Nat) (Y : MY) (F B : Nat) : Prop := Is base Y F (.inl 5) ∧ Y.2.2 F 0 = some B
set_option maxHeartbeats 4000000 in
set_option maxRecDepth 20000 in
theorem k_X2_findFault {l : Launch} {G : Gd} {base : Nat} {Y : MY} {I : MI} {L : ML} {B : Nat} {X : Sa} {a : Sa} {N T : Int}  (hS : SLy base Y B) (hI : Inv N T a) (hTx : ∀ k, 1745 ≤ k → k ≤ 1825 → X k = a k)  : Ct l yX2_findFault cX2_findFault 2 (some .int) (rmz 3 68) G base [.ref (B + 204)] Y (cI I B X) (cL L B X) (EI Y (fun r I' L' => r = aFlt a ∧ ∃ X', Kp X X' ∧ I' = cI I B X' ∧ L' = cL L B X')) := by
  refine Ct.of (own := RX2) (lo := [(0, .ref (B + 204))]) (by decide) rfl (Nat.le_of_ble_eq_true rfl) rfl ?_
  intro zp ze zs zm zargs zbl zmt zc C hr hlk hnm
  have hpd := hI.2.2.2.2.1
  have hpt := hI.2.2.2.2.2
  refine r_aload_n C 0 dX2_findFault_0 rfl rfl ?_
  refine r_iconst (v := iI 0) C dX2_findFault_1 rfl ?_
  refine c_putI C 204 5880 rfl (by decide) ln204 rfl fl_X2_21 rfl dX2_findFault_2 hS.1.2.2.2.2.2.2.1 (fun a2 ea2 => ?_)
  refine r_iconst (v := iI 0) C dX2_findFault_5 rfl ?_
  refine r_istore_n (lo' := [(1, .int (iI 0)), (0, .ref (B + 204))]) C dX2_findFault_6 rfl (by decide) rfl ?_
  have lp7 : ∀ (k : Nat) (x1 : Int) (i : Nat) (X1 : Sa) (hx1 : x1 = i) (hg : ∀ j, j < i → goes a j) (hKp : Kp X X1) (hat1 : X1 5880 = (psq a i : Nat)) (hsz : ((psq a i : Nat) : Int) ≤ a 1825), 30 - i = k → Bd zp l ze (rmz 3 68) zs zm zargs zbl zmt zc 2 G base (EI Y (fun r I' L' => r = aFlt a ∧ ∃ X', Kp X X' ∧ I' = cI I B X' ∧ L' = cL L B X')) 7 [(1, .int (iI x1)), (0, .ref (B + 204))] [] Y (cI I B X1) (cL L B X1) 0 0 := by
    intro k
    induction k using Nat.strongRecOn with
    | _ k ih7 =>
    intro x1 i X1 hx1 hg hKp hat1 hsz hk7
    have hb := psq_b hI i hg
    refine r_iload_n C 0 dX2_findFault_7 rfl rfl ?_
    refine r_bipush (v := iI 80) C dX2_findFault_8 (by decide) ?_
    refine n_icmp_ge (tgt := 85) C dX2_findFault_10 (by decide) (by constructor <;> omega) ⟨by decide, by decide⟩ (fun c10 => ?_) (fun c10 => ?_)
    · exfalso; omega
    · refine r_aload_n C 1 dX2_findFault_13 rfl rfl ?_
      refine c_getI C (v := ((psq a i) : Int)) 204 5880 rfl (by decide) ln204 rfl fl_X2_21 rfl dX2_findFault_14 hS.1.2.2.2.2.2.2.1 hat1 ?_
      refine r_aload_n C 1 dX2_findFault_17 rfl rfl ?_
      refine c_getI C (v := (a 1825)) 204 1825 rfl (by decide) ln204 rfl fl_X2_15 rfl dX2_findFault_18 hS.1.2.2.2.2.2.2.1 ((hKp _ (by omega)).trans (hTx _ (by omega) (by omega))) ?_
      refine n_icmp_ge (tgt := 85) C dX2_findFault_21 (by decide) (by constructor <;> omega) (by constructor <;> omega) (fun c21 => ?_) (fun c21 => ?_)
      · refine r_aload_n C 1 dX2_findFault_85 rfl rfl ?_
        refine c_getI C (v := (a 1825)) 204 1825 rfl (by decide) ln204 rfl fl_X2_15 rfl dX2_findFault_86 hS.1.2.2.2.2.2.2.1 ((hKp _ (by omega)).trans (hTx _ (by omega) (by omega))) ?_
        refine r_iret C hr hlk dX2_findFault_89 (Nat.zero_le _) (Nat.zero_le _) ?_
        have hc0 : ch a (psq a i) = 0 := if_neg (by omega)
        have hW : arW a (psq a i) = 1 := by unfold arW; rw [if_neg (by omega)]
        have hP : arP a (psq a i) = psq a i := by unfold arP; rw [if_neg (by omega)]
        have hng : ¬ goes a i := fun h => by have := h.1; omega
        have hns := nsA_is hI hg hng
        refine ⟨_, rfl, rfl, ?_, X1, hKp, rfl, rfl⟩
        unfold aFlt
        rw [hns]
        rw [if_neg (by omega), hP]
        omega
      · refine r_aload_n C 1 dX2_findFault_24 rfl rfl ?_
        refine cV0_EI C (k_X2_readArrival (psq a i) hS hI (fun k k1 k2 => (hKp k (by omega)).trans (hTx k k1 k2)) hat1 (by omega)) cw_X2_24 (rm_ok rfl rfl (Nat.zero_le _) (Nat.zero_le _)) (Nat.le_of_ble_eq_true rfl) hS.1.2.2.2.2.2.2.1 dX2_findFault_25 (fun r25 I25 L25 h25 => ?_)
        obtain ⟨a25, kp25, at25, rz25, ok25, bad25, h25I, h25L⟩ := h25
        subst h25I
        subst h25L
        have hal := ar_le hI (p := psq a i) hb.2
        have haz := ar_z (a := a) hsz
        refine n_if_ne (tgt := 36) C dX2_findFault_28 (by decide) (by constructor <;> omega) (fun c28 => ?_) (fun c28 => ?_)
        · refine r_aload_n C 1 dX2_findFault_36 rfl rfl ?_
          refine c_getI C (v := ((arP a (psq a i)) : Int)) 204 5880 rfl (by decide) ln204 rfl fl_X2_21 rfl dX2_findFault_37 hS.1.2.2.2.2.2.2.1 at25 ?_
          refine r_aload_n C 1 dX2_findFault_40 rfl rfl ?_
          refine c_getI C (v := (a 1825)) 204 1825 rfl (by decide) ln204 rfl fl_X2_15 rfl dX2_findFault_41 hS.1.2.2.2.2.2.2.1 ((kp25 _ (by omega)).trans ((hKp _ (by omega)).trans (hTx _ (by omega) (by omega)))) ?_
          refine n_icmp_ne (tgt := 50) C dX2_findFault_44 (by decide) (by constructor <;> omega) (by constructor <;> omega) (fun c44 => ?_) (fun c44 => ?_)
          · have hpq := hpt (arP a (psq a i)) (by omega)
            have hch : ch a (arP a (psq a i)) = a (1745 + arP a (psq a i)) := if_pos (by omega)
            refine r_aload_n C 1 dX2_findFault_50 rfl rfl ?_
            refine r_getR C fl_X2_9 rfl dX2_findFault_51 hS.1.2.2.2.2.2.2.1 hS.2.1.2.2.2.2.2.2 ?_
            refine r_aload_n C 1 dX2_findFault_54 rfl rfl ?_
            refine c_getI C (v := ((arP a (psq a i)) : Int)) 204 5880 rfl (by decide) ln204 rfl fl_X2_21 rfl dX2_findFault_55 hS.1.2.2.2.2.2.2.1 at25 ?_
            refine c_cald C (v := (a (1745 + (arP a (psq a i))))) 205 ((arP a (psq a i))) ((1745 + (arP a (psq a i)))) rfl (by decide) ln205 (ky_T (by omega)) dX2_findFault_58 hS.1.2.2.2.2.2.2.2 ⟨congrArg iI (by omega), (by omega), by decide⟩ ((kp25 _ (by omega)).trans ((hKp _ (by omega)).trans (hTx _ (by omega) (by omega)))) ?_
            refine r_bipush (v := iI 44) C dX2_findFault_59 (by decide) ?_
            refine n_icmp_eq (tgt := 69) C dX2_findFault_61 (by decide) (by constructor <;> omega) ⟨by decide, by decide⟩ (fun c61 => ?_) (fun c61 => ?_)
            · have hW : arW a (psq a i) = 0 := by
                by_cases h : arW a (psq a i) = 0
                · exact h
                · rcases bad25 h with h2 | h2
                  · omega
                  · omega
              have hgi : goes a i := ⟨hW, by omega⟩
              refine r_aload_n C 1 dX2_findFault_69 rfl rfl ?_
              refine r_dup C dX2_findFault_70 rfl ?_
              refine c_getI C (v := ((arP a (psq a i)) : Int)) 204 5880 rfl (by decide) ln204 rfl fl_X2_21 rfl dX2_findFault_71 hS.1.2.2.2.2.2.2.1 at25 ?_
              refine r_iconst (v := iI 1) C dX2_findFault_74 rfl ?_
              refine n_iadd C dX2_findFault_75 ?_
              refine c_putI C 204 5880 rfl (by decide) ln204 rfl fl_X2_21 rfl dX2_findFault_76 hS.1.2.2.2.2.2.2.1 (fun a76 ea76 => ?_)
              refine n_iinc (lo' := [(1, .int (iI (x1 + 1))), (0, .ref (B + 204))]) C 0 dX2_findFault_79 rfl rfl (by decide) rfl ?_
              refine r_goto (tgt := 7) C dX2_findFault_82 (by decide) ?_
              exact ih7 _ (by first | omega | (rw [← hk7]; omega)) ((x1 + 1)) (i + 1) a76 (by omega) (fun j hj => by
                by_cases e : j = i
                · subst e; exact hgi
                · exact hg j (by omega)) ((hKp.tr kp25).tr (by rw [ea76]; exact Kp.up (by decide))) (by rw [ea76, up1_s]; rfl) (by show ((arP a (psq a i) + 1 : Nat) : Int) ≤ _; omega) rfl
            · refine r_aload_n C 1 dX2_findFault_64 rfl rfl ?_
              refine c_getI C (v := ((arP a (psq a i)) : Int)) 204 5880 rfl (by decide) ln204 rfl fl_X2_21 rfl dX2_findFault_65 hS.1.2.2.2.2.2.2.1 at25 ?_
              refine r_iret C hr hlk dX2_findFault_68 (Nat.zero_le _) (Nat.zero_le _) ?_
              have hng : ¬ goes a i := fun h => by have := h.2; omega
              have hns := nsA_is hI hg hng
              refine ⟨_, rfl, rfl, ?_, a25, (hKp.tr kp25), rfl, rfl⟩
              unfold aFlt
              rw [hns]
              rw [if_neg (by omega)]
          · refine r_bipush (v := iI (-6)) C dX2_findFault_47 (by decide) ?_
            refine r_iret C hr hlk dX2_findFault_49 (Nat.zero_le _) (Nat.zero_le _) ?_
            have hW : arW a (psq a i) = 0 := by
              by_cases h : arW a (psq a i) = 0
              · exact h
              · rcases bad25 h with h2 | h2
                · omega
                · have := ch_sz (a := a) (p := arP a (psq a i)) (by omega)
                  omega
            have hc0 : ch a (arP a (psq a i)) = 0 := if_neg (by omega)
            have hng : ¬ goes a i := fun h => by have := h.2; omega
            have hns := nsA_is hI hg hng
            refine ⟨_, rfl, rfl, ?_, a25, (hKp.tr kp25), rfl, rfl⟩
            unfold aFlt
            rw [hns]
            rw [if_pos ⟨hW, by omega⟩]
        · refine r_aload_n C 1 dX2_findFault_31 rfl rfl ?_
          refine c_getI C (v := ((arP a (psq a i)) : Int)) 204 5880 rfl (by decide) ln204 rfl fl_X2_21 rfl dX2_findFault_32 hS.1.2.2.2.2.2.2.1 at25 ?_
          refine r_iret C hr hlk dX2_findFault_35 (Nat.zero_le _) (Nat.zero_le _) ?_
          have hW : ¬ arW a (psq a i) = 0 := fun h => by have := (ok25 h).1; omega
          have hng : ¬ goes a i := fun h => hW h.1
          have hns := nsA_is hI hg hng
          refine ⟨_, rfl, rfl, ?_, a25, (hKp.tr kp25), rfl, rfl⟩
          unfold aFlt
          rw [hns]
          rw [if_neg (fun h => hW h.1)]
  exact lp7 _ 0 0 a2 rfl (fun j hj => absurd hj (by omega)) (by rw [ea2]; exact Kp.up (by decide)) (by rw [ea2, up1_s]; rfl) (by show (0 : Int) ≤ _; omega) rfl
set_option maxHeartbeats 4000000 in
set_option maxRecDepth 20000 in
theorem k_X2_rewind {l : Launch} {G : Gd} {base : Nat} {Y : MY} {I : MI} {L : ML} {B : Nat} {X : Sa} {a : Sa} {N T : Int}  (hS : SLy base Y B) (hI : Inv N T a) (hTx : ∀ k, 1745 ≤ k → k ≤ 1825 → X k = a k)  : Ct l yX2_rewind cX2_rewind 1 (none) (rmz 0 0) G base [.ref (B + 204)] Y (cI I B X) (cL L B X) (EV Y (fun I' L' => I' = cI I B (up1 X 5880 0) ∧ L' = cL L B (up1 X 5880 0))) := by
  refine Ct.of (own := RX2) (lo := [(0, .ref (B + 204))]) (by decide) rfl (Nat.le_of_ble_eq_true rfl) rfl ?_
  intro zp ze zs zm zargs zbl zmt zc C hr hlk hnm
  refine r_aload_n C 0 dX2_rewind_0 rfl rfl ?_
  refine r_iconst (v := iI 0) C dX2_rewind_1 rfl ?_
  refine c_putI C 204 5880 rfl (by decide) ln204 rfl fl_X2_21 rfl dX2_rewind_2 hS.1.2.2.2.2.2.2.1 (fun a2 ea2 => ?_)
  refine r_vret C hr hlk dX2_rewind_5 (Nat.zero_le _) (Nat.zero_le _) ?_
  exact ⟨rfl, rfl, by rw [ea2], by rw [ea2]⟩
set_option maxHeartbeats 4000000 in
set_option maxRecDepth 20000 in
theorem k_X2_readNext {l : Launch} {G : Gd} {base : Nat} {Y : MY} {I : MI} {L : ML} {B : Nat} {X : Sa} {a : Sa} {N T : Int} (pl : Nat) (hS : SLy base Y B) (hI : Inv N T a) (hTx : ∀ k, 1745 ≤ k → k ≤ 1825 → X k = a k) (hat : X 5880 = pl) (hpl : pl ≤ 81) (hw : (pl : Int) < a 1825 → arW a pl = 0) : Ct l yX2_readNext cX2_readNext 2 (some .boolean) (rmz 3 68) G base [.ref (B + 204)] Y (cI I B X) (cL L B X) (EI Y (fun r I' L' => (r = 0 ∨ r = 1) ∧ ∃ X', Kp X X' ∧ (r = 0 → a 1825 ≤ pl ∧ X' = X) ∧ (r = 1 → (pl : Int) < a 1825 ∧ X' 5880 = (arP a pl + 1 : Nat) ∧ X' 4232 = ch a pl - 97 ∧ X' 4644 = (av1 a pl).2.1 ∧ X' 5056 = (av2 a pl).2.1 ∧ X' 5468 = (av3 a pl).2.1) ∧ I' = cI I B X' ∧ L' = cL L B X')) := by
  refine Ct.of (own := RX2) (lo := [(0, .ref (B + 204))]) (by decide) rfl (Nat.le_of_ble_eq_true rfl) rfl ?_
  intro zp ze zs zm zargs zbl zmt zc C hr hlk hnm
  have hpd := hI.2.2.2.2.1
  have hpt := hI.2.2.2.2.2
  refine r_aload_n C 0 dX2_readNext_0 rfl rfl ?_
  refine c_getI C (v := (pl : Int)) 204 5880 rfl (by decide) ln204 rfl fl_X2_21 rfl dX2_readNext_1 hS.1.2.2.2.2.2.2.1 hat ?_
  refine r_aload_n C 0 dX2_readNext_4 rfl rfl ?_
  refine c_getI C (v := (a 1825)) 204 1825 rfl (by decide) ln204 rfl fl_X2_15 rfl dX2_readNext_5 hS.1.2.2.2.2.2.2.1 (hTx _ (by omega) (by omega)) ?_
  refine n_icmp_lt (tgt := 13) C dX2_readNext_8 (by decide) (by constructor <;> omega) (by constructor <;> omega) (fun c8 => ?_) (fun c8 => ?_)
  · refine r_aload_n C 0 dX2_readNext_13 rfl rfl ?_
    refine cV0_EI C (k_X2_readArrival pl hS hI hTx hat (by omega)) cw_X2_24 (rm_ok rfl rfl (Nat.zero_le _) (Nat.zero_le _)) (Nat.le_of_ble_eq_true rfl) hS.1.2.2.2.2.2.2.1 dX2_readNext_14 (fun r14 I14 L14 h14 => ?_)
    obtain ⟨a14, kp14, at14, rz14, ok14, bad14, h14I, h14L⟩ := h14
    subst h14I
    subst h14L
    have hok := ok14 (hw (by omega))
    have hal := ar_le hI (p := pl) (by omega)
    refine r_istore_n (lo' := [(1, .int (iI r14)), (0, .ref (B + 204))]) C dX2_readNext_17 rfl (by decide) rfl ?_
    refine r_aload_n C 1 dX2_readNext_18 rfl rfl ?_
    refine r_dup C dX2_readNext_19 rfl ?_
    refine c_getI C (v := ((arP a pl) : Int)) 204 5880 rfl (by decide) ln204 rfl fl_X2_21 rfl dX2_readNext_20 hS.1.2.2.2.2.2.2.1 at14 ?_
    refine r_iconst (v := iI 1) C dX2_readNext_23 rfl ?_
    refine n_iadd C dX2_readNext_24 ?_
    refine c_putI C 204 5880 rfl (by decide) ln204 rfl fl_X2_21 rfl dX2_readNext_25 hS.1.2.2.2.2.2.2.1 (fun a25 ea25 => ?_)
    refine r_iload_n C 0 dX2_readNext_28 rfl rfl ?_
    refine r_zret C hr hlk (z01 rz14) dX2_readNext_29 (Nat.zero_le _) (Nat.zero_le _) ?_
    have hk : ∀ k, k ≠ 5880 → a25 k = a14 k := fun k hk => by rw [ea25, up1_n hk]
    refine ⟨_, rfl, rfl, rz14, a25, kp14.tr (by rw [ea25]; exact Kp.up (by decide)), fun h => absurd h (by omega), fun _ => ⟨by omega, by rw [ea25, up1_s]; rfl, ?_⟩, rfl, rfl⟩
    rw [hk _ (by decide), hk _ (by decide), hk _ (by decide), hk _ (by decide)]
    exact hok.2
  · refine r_iconst (v := iI 0) C dX2_readNext_11 rfl ?_
    refine r_zret C hr hlk (by decide) dX2_readNext_12 (Nat.zero_le _) (Nat.zero_le _) ?_
    refine ⟨_, rfl, rfl, Or.inl rfl, X, Kp.rf, fun _ => ⟨by omega, rfl⟩, fun h => absurd h (by decide), rfl, rfl⟩
set_option maxHeartbeats 4000000 in
set_option maxRecDepth 20000 in
theorem k_X5_hasFlowsOfPad {l : Launch} {G : Gd} {base : Nat} {Y : MY} {I : MI} {L : ML} {B : Nat} {X : Sa} {a : Sa} {N T : Int} {F : Nat} (hS : SLy base Y B) (hI : Inv N T a) (hTx : ∀ k, 1745 ≤ k → k ≤ 1825 → X k = a k) (hF : FLn base Y F B) (h2 : X 2 = a 2) (hflt : aFlt a = -6) : Ct l yX5_hasFlowsOfPad cX5_hasFlowsOfPad 3 (some .boolean) (rmz 4 89) G base [.ref F] Y (cI I B X) (cL L B X) (EI Y (fun r I' L' => ((r = 1 ∧ ldF a) ∨ (r = 0 ∧ ¬ ldF a)) ∧ ∃ X', Kp X X' ∧ I' = cI I B X' ∧ L' = cL L B X')) := by
  refine Ct.of (own := RX5) (lo := [(0, .ref F)]) (by decide) rfl (Nat.le_of_ble_eq_true rfl) rfl ?_
  intro zp ze zs zm zargs zbl zmt zc C hr hlk hnm
  have hpd := hI.2.2.2.2.1
  have hpt := hI.2.2.2.2.2
  have hT := hI.1
  unfold TopOK at hT
  refine r_aload_n C 0 dX5_hasFlowsOfPad_0 rfl rfl ?_
  refine r_getR C fl_X5_10 rfl dX5_hasFlowsOfPad_1 hF.1 hF.2 ?_
  refine r_getR C fl_X5_123 rfl dX5_hasFlowsOfPad_4 hS.1.1 hS.2.1.2.2.2.2.2.1 ?_
  refine r_astore_n (lo' := [(1, .ref (B + 204)), (0, .ref F)]) C dX5_hasFlowsOfPad_7 rfl (by decide) rfl ?_
  refine r_aload_n C 0 dX5_hasFlowsOfPad_8 rfl rfl ?_
  refine cV0_EV C (k_X2_rewind hS hI hTx) cw_X5_299 (rm_ok rfl rfl (Nat.zero_le _) (Nat.zero_le _)) (Nat.le_of_ble_eq_true rfl) hS.1.2.2.2.2.2.2.1 dX5_hasFlowsOfPad_9 (fun I9 L9 h9 => ?_)
  obtain ⟨h9I, h9L⟩ := h9
  obtain ⟨a9, ea9⟩ : ∃ z, z = up1 X 5880 0 := ⟨_, rfl⟩
  rw [← ea9] at h9I h9L
  subst h9I
  subst h9L
  refine r_iconst (v := iI 0) C dX5_hasFlowsOfPad_12 rfl ?_
  refine r_istore_n (lo' := [(2, .int (iI 0)), (1, .ref (B + 204)), (0, .ref F)]) C dX5_hasFlowsOfPad_13 rfl (by decide) rfl ?_
  have lp14 : ∀ (k : Nat) (x2 : Int) (i : Nat) (X1 : Sa) (hx2 : x2 = i) (hi : i ≤ nsA a + 1) (hKp : Kp X X1) (hat1 : X1 5880 = (psq a i : Nat)) (hok : ∀ j, j < i → ((arF a j : Nat) : Int) < a 2), 30 - i = k → Bd zp l ze (rmz 4 89) zs zm zargs zbl zmt zc 3 G base (EI Y (fun r I' L' => ((r = 1 ∧ ldF a) ∨ (r = 0 ∧ ¬ ldF a)) ∧ ∃ X', Kp X X' ∧ I' = cI I B X' ∧ L' = cL L B X')) 14 [(2, .int (iI x2)), (1, .ref (B + 204)), (0, .ref F)] [] Y (cI I B X1) (cL L B X1) 0 0 := by
    intro k
    induction k using Nat.strongRecOn with
    | _ k ih14 =>
    intro x2 i X1 hx2 hi hKp hat1 hok hk14
    have hna := nsA_ok hI
    have hpb : psq a i ≤ 81 := by
      by_cases e : i ≤ nsA a
      · have := (psq_in hI hflt e).1
        omega
      · have e2 : i = nsA a + 1 := by omega
        subst e2
        have := ar_le hI (p := psq a (nsA a)) hna.2.2.2
        show arP a (psq a (nsA a)) + 1 ≤ 81
        omega
    refine r_iload_n C 0 dX5_hasFlowsOfPad_14 rfl rfl ?_
    refine r_bipush (v := iI 80) C dX5_hasFlowsOfPad_15 (by decide) ?_
    refine n_icmp_ge (tgt := 49) C dX5_hasFlowsOfPad_17 (by decide) (by constructor <;> omega) ⟨by decide, by decide⟩ (fun c17 => ?_) (fun c17 => ?_)
    · exfalso; omega
    · refine r_aload_n C 1 dX5_hasFlowsOfPad_20 rfl rfl ?_
      refine cV0_EI C (k_X2_readNext (psq a i) hS hI (fun k k1 k2 => (hKp k (by omega)).trans (hTx k k1 k2)) hat1 (by omega) (fun h => by
        by_cases e : i ≤ nsA a
        · exact (psq_in hI hflt e).2
        · have e2 : i = nsA a + 1 := by omega
          subst e2
          have := psq_end hflt
          omega)) cw_X5_302 (rm_ok rfl rfl (Nat.zero_le _) (Nat.zero_le _)) (Nat.le_of_ble_eq_true rfl) hS.1.2.2.2.2.2.2.1 dX5_hasFlowsOfPad_21 (fun r21 I21 L21 h21 => ?_)
      obtain ⟨rz21, a21, kp21, no21, ok21, h21I, h21L⟩ := h21
      subst h21I
      subst h21L
      refine n_if_eq (tgt := 49) C dX5_hasFlowsOfPad_24 (by decide) (by constructor <;> omega) (fun c24 => ?_) (fun c24 => ?_)
      · refine r_iconst (v := iI 1) C dX5_hasFlowsOfPad_49 rfl ?_
        refine r_zret C hr hlk (by decide) dX5_hasFlowsOfPad_50 (Nat.zero_le _) (Nat.zero_le _) ?_
        have hn := (no21 c24).1
        have e2 : i = nsA a + 1 := by
          by_cases e : i ≤ nsA a
          · have := (psq_in hI hflt e).1
            omega
          · omega
        exact ⟨_, rfl, rfl, Or.inl ⟨rfl, fun j hj => hok j (by omega)⟩, a21, hKp.tr kp21, rfl, rfl⟩
      · have okx21 := ok21 (by omega)
        have hi2 : i ≤ nsA a := by
          by_cases e : i ≤ nsA a
          · exact e
          · have e2 : i = nsA a + 1 := by omega
            subst e2
            have := psq_end hflt
            omega
        have hlet := (ar_ok hI (psq_in hI hflt hi2).2).1
        have haf : ((arF a i : Nat) : Int) = ch a (psq a i) - 97 := by unfold arF; omega
        refine r_aload_n C 2 dX5_hasFlowsOfPad_27 rfl rfl ?_
        refine r_getR C fl_X5_10 rfl dX5_hasFlowsOfPad_28 hF.1 hF.2 ?_
        refine r_aload_n C 1 dX5_hasFlowsOfPad_31 rfl rfl ?_
        refine c_getI C (v := (ch a (psq a i) - 97)) 204 4232 rfl (by decide) ln204 rfl fl_X5_305 rfl dX5_hasFlowsOfPad_32 hS.1.2.2.2.2.2.2.1 okx21.2.2.1 ?_
        refine cV1_PI C (k_X4_hasFlow hS (by omega) (show 0 ≤ a21 2 ∧ a21 2 ≤ 6 by rw [show a21 2 = (a 2) from ((kp21 _ (by omega)).trans ((hKp _ (by omega)).trans h2))]; omega)) cw_X5_31 (rm_ok rfl rfl (Nat.zero_le _) (Nat.zero_le _)) (Nat.le_of_ble_eq_true rfl) hS.1.1 dX5_hasFlowsOfPad_35 ?_
        refine n_eqi (y := (b2 (0 ≤ (ch a (psq a i) - 97) ∧ (ch a (psq a i) - 97) < (a 2)))) (by rw [show a21 2 = (a 2) from ((kp21 _ (by omega)).trans ((hKp _ (by omega)).trans h2))]) ?_
        refine n_if_ne (tgt := 43) C dX5_hasFlowsOfPad_38 (by decide) b2_i (fun c38 => ?_) (fun c38 => ?_)
        · rw [b2_eq0, Classical.not_not] at c38
          refine n_iinc (lo' := [(2, .int (iI (x2 + 1))), (1, .ref (B + 204)), (0, .ref F)]) C 0 dX5_hasFlowsOfPad_43 rfl rfl (by decide) rfl ?_
          refine r_goto (tgt := 14) C dX5_hasFlowsOfPad_46 (by decide) ?_
          exact ih14 _ (by first | omega | (rw [← hk14]; omega)) ((x2 + 1)) (i + 1) a21 (by omega) (by omega) (hKp.tr kp21) okx21.2.1 (fun j hj => by
            by_cases e : j = i
            · subst e; omega
            · exact hok j (by omega)) rfl
        · refine r_iconst (v := iI 0) C dX5_hasFlowsOfPad_41 rfl ?_
          refine r_zret C hr hlk (by decide) dX5_hasFlowsOfPad_42 (Nat.zero_le _) (Nat.zero_le _) ?_
          rw [b2_eq0] at c38
          refine ⟨_, rfl, rfl, Or.inr ⟨rfl, fun h => c38 ?_⟩, a21, hKp.tr kp21, rfl, rfl⟩
          have := h i hi2
          omega
  exact lp14 _ 0 0 a9 rfl (Nat.zero_le _) (by rw [ea9]; exact Kp.up (by decide)) (by rw [ea9, up1_s]; rfl) (fun j hj => absurd hj (by omega)) rfl
set_option maxHeartbeats 4000000 in
set_option maxRecDepth 20000 in
theorem k_X5_acceptArrivals {l : Launch} {G : Gd} {base : Nat} {Y : MY} {I : MI} {L : ML} {B : Nat} {X : Sa} {a : Sa} {N T : Int} {F : Nat} (hS : SLy base Y B) (hI : Inv N T a) (hR : Rl true a X) (hF : FLn base Y F B) (hN : NowOK a) (hLg : LagOK a) (hflt : aFlt a = -6) (hfl : ldF a) (hN3 : N + 243 ≤ 400000) : Ct l yX5_acceptArrivals cX5_acceptArrivals 5 (some .int) (rmz 4 89) G base [.ref F] Y (cI I B X) (cL L B X) (EI Y (fun r I' L' => r = (ldO a (nsA a + 1)).2 ∧ ∃ X', Rl true (ldO a (nsA a + 1)).1 X' ∧ I' = cI I B X' ∧ L' = cL L B X')) := by
  refine Ct.of (own := RX5) (lo := [(0, .ref F)]) (by decide) rfl (Nat.le_of_ble_eq_true rfl) rfl ?_
  intro zp ze zs zm zargs zbl zmt zc C hr hlk hnm
  have hpd := hI.2.2.2.2.1
  have hpt := hI.2.2.2.2.2
  have hT := hI.1
  unfold TopOK at hT
  refine r_aload_n C 0 dX5_acceptArrivals_0 rfl rfl ?_
  refine r_getR C fl_X5_10 rfl dX5_acceptArrivals_1 hF.1 hF.2 ?_
  refine r_getR C fl_X5_123 rfl dX5_acceptArrivals_4 hS.1.1 hS.2.1.2.2.2.2.2.1 ?_
  refine r_astore_n (lo' := [(1, .ref (B + 204)), (0, .ref F)]) C dX5_acceptArrivals_7 rfl (by decide) rfl ?_
  refine r_iconst (v := iI 0) C dX5_acceptArrivals_8 rfl ?_
  refine r_istore_n (lo' := [(2, .int (iI 0)), (1, .ref (B + 204)), (0, .ref F)]) C dX5_acceptArrivals_9 rfl (by decide) rfl ?_
  refine r_aload_n C 1 dX5_acceptArrivals_10 rfl rfl ?_
  refine cV0_EV C (k_X2_rewind hS hI (fun k k1 k2 => hR.t k k1 k2)) cw_X5_299 (rm_ok rfl rfl (Nat.zero_le _) (Nat.zero_le _)) (Nat.le_of_ble_eq_true rfl) hS.1.2.2.2.2.2.2.1 dX5_acceptArrivals_11 (fun I11 L11 h11 => ?_)
  obtain ⟨h11I, h11L⟩ := h11
  obtain ⟨a11, ea11⟩ : ∃ z, z = up1 X 5880 0 := ⟨_, rfl⟩
  rw [← ea11] at h11I h11L
  subst h11I
  subst h11L
  refine r_iconst (v := iI 0) C dX5_acceptArrivals_14 rfl ?_
  refine r_istore_n (lo' := [(3, .int (iI 0)), (2, .int (iI 0)), (1, .ref (B + 204)), (0, .ref F)]) C dX5_acceptArrivals_15 rfl (by decide) rfl ?_
  have lp16 : ∀ (k : Nat) (x2 : Int) (x3 : Int) (i : Nat) (X1 : Sa) (hx3 : x3 = i) (hi : i ≤ nsA a + 1) (hx2 : x2 = (ldO a i).2) (hR1 : Rl true (ldO a i).1 X1) (hat1 : X1 5880 = (psq a i : Nat)), 30 - i = k → Bd zp l ze (rmz 4 89) zs zm zargs zbl zmt zc 5 G base (EI Y (fun r I' L' => r = (ldO a (nsA a + 1)).2 ∧ ∃ X', Rl true (ldO a (nsA a + 1)).1 X' ∧ I' = cI I B X' ∧ L' = cL L B X')) 16 [(3, .int (iI x3)), (2, .int (iI x2)), (1, .ref (B + 204)), (0, .ref F)] [] Y (cI I B X1) (cL L B X1) 0 0 := by
    intro k
    induction k using Nat.strongRecOn with
    | _ k ih16 =>
    intro x2 x3 i X1 hx3 hi hx2 hR1 hat1 hk16
    have hna := nsA_ok hI
    have hpb : psq a i ≤ 81 := by
      by_cases e : i ≤ nsA a
      · have := (psq_in hI hflt e).1
        omega
      · have e2 : i = nsA a + 1 := by omega
        subst e2
        have := ar_le hI (p := psq a (nsA a)) hna.2.2.2
        show arP a (psq a (nsA a)) + 1 ≤ 81
        omega
    have hO := ldO_ok hI hN hLg hflt hfl hN3 i hi
    refine r_iload_n C 0 dX5_acceptArrivals_16 rfl rfl ?_
    refine r_bipush (v := iI 80) C dX5_acceptArrivals_17 (by decide) ?_
    refine n_icmp_ge (tgt := 90) C dX5_acceptArrivals_19 (by decide) (by constructor <;> omega) ⟨by decide, by decide⟩ (fun c19 => ?_) (fun c19 => ?_)
    · exfalso; omega
    · refine r_aload_n C 2 dX5_acceptArrivals_22 rfl rfl ?_
      refine cV0_EI C (k_X2_readNext (psq a i) hS hI (fun k k1 k2 => (hR1.t k k1 k2).trans (hO.2.2.2 k (by omega))) hat1 (by omega) (fun h => by
        by_cases e : i ≤ nsA a
        · exact (psq_in hI hflt e).2
        · have e2 : i = nsA a + 1 := by omega
          subst e2
          have := psq_end hflt
          omega)) cw_X5_302 (rm_ok rfl rfl (Nat.zero_le _) (Nat.zero_le _)) (Nat.le_of_ble_eq_true rfl) hS.1.2.2.2.2.2.2.1 dX5_acceptArrivals_23 (fun r23 I23 L23 h23 => ?_)
      obtain ⟨rz23, a23, kp23, no23, ok23, h23I, h23L⟩ := h23
      subst h23I
      subst h23L
      refine n_if_eq (tgt := 90) C dX5_acceptArrivals_26 (by decide) (by constructor <;> omega) (fun c26 => ?_) (fun c26 => ?_)
      · refine r_iload_n C 1 dX5_acceptArrivals_90 rfl rfl ?_
        refine r_iret C hr hlk dX5_acceptArrivals_91 (Nat.zero_le _) (Nat.zero_le _) ?_
        have hn := no23 c26
        have e2 : i = nsA a + 1 := by
          by_cases e : i ≤ nsA a
          · have := (psq_in hI hflt e).1
            omega
          · omega
        rw [e2] at hx2 hR1
        exact ⟨_, rfl, rfl, hx2, X1, hR1, by rw [hn.2], by rw [hn.2]⟩
      · have okx := (ok23 (by omega)).2
        have hi2 : i ≤ nsA a := by
          by_cases e : i ≤ nsA a
          · exact e
          · have e2 : i = nsA a + 1 := by omega
            subst e2
            have h1 := (ok23 (by omega)).1
            have := psq_end hflt
            omega
        have har := ar_ok hI (psq_in hI hflt hi2).2
        have haf : ((arF a i : Nat) : Int) = ch a (psq a i) - 97 := by unfold arF; omega
        have hfa : ((arF a i : Nat) : Int) < (ldO a i).1 2 := by rw [hO.2.2.1 2 (by decide) (by decide)]; exact hfl i hi2
        have hR23 : Rl true (ldO a i).1 a23 := Rl.kp hO.1.1 hR1 kp23
        refine r_iconst (v := iI 0) C dX5_acceptArrivals_29 rfl ?_
        refine r_istore (lo' := [(4, .int (iI 0)), (3, .int (iI x3)), (2, .int (iI x2)), (1, .ref (B + 204)), (0, .ref F)]) C dX5_acceptArrivals_30 (by decide) rfl ?_
        have lp32 : ∀ (k : Nat) (x2 : Int) (x4 : Int) (c : Nat) (X2 : Sa) (hx4 : x4 = c) (hc : (c : Int) ≤ (av3 a (psq a i)).2.1) (hx2 : x2 = (ldC (arF a i) (av1 a (psq a i)).2.1 (av2 a (psq a i)).2.1 (ldO a i) c).2) (hR2 : Rl true (ldC (arF a i) (av1 a (psq a i)).2.1 (av2 a (psq a i)).2.1 (ldO a i) c).1 X2) (hfs : X2 5880 = (arP a (psq a i) + 1 : Nat) ∧ X2 4232 = ch a (psq a i) - 97 ∧ X2 4644 = (av1 a (psq a i)).2.1 ∧ X2 5056 = (av2 a (psq a i)).2.1 ∧ X2 5468 = (av3 a (psq a i)).2.1), (av3 a (psq a i)).2.1.toNat - c = k → Bd zp l ze (rmz 4 89) zs zm zargs zbl zmt zc 5 G base (EI Y (fun r I' L' => r = (ldO a (nsA a + 1)).2 ∧ ∃ X', Rl true (ldO a (nsA a + 1)).1 X' ∧ I' = cI I B X' ∧ L' = cL L B X')) 32 [(4, .int (iI x4)), (3, .int (iI x3)), (2, .int (iI x2)), (1, .ref (B + 204)), (0, .ref F)] [] Y (cI I B X2) (cL L B X2) 0 0 := by
          intro k
          induction k using Nat.strongRecOn with
          | _ k ih32 =>
          intro x2 x4 c X2 hx4 hc hx2 hR2 hfs hk32
          have hC := ldC_ok hO.1.1 hO.1.2.1 hO.1.2.2 hfa har.2.2.1 har.2.2.2.1 c (by omega)
          have hf2 : ((arF a i : Nat) : Int) < (ldC (arF a i) (av1 a (psq a i)).2.1 (av2 a (psq a i)).2.1 (ldO a i) c).1 2 := by rw [hC.2.2.1 2 (by decide) (by decide)]; exact hfa
          have hrb := hasR_b (ldC (arF a i) (av1 a (psq a i)).2.1 (av2 a (psq a i)).2.1 (ldO a i) c).1 (arF a i)
          refine r_iload C 0 dX5_acceptArrivals_32 rfl ?_
          refine r_aload_n C 3 dX5_acceptArrivals_34 rfl rfl ?_
          refine c_getI C (v := (av3 a (psq a i)).2.1) 204 5468 rfl (by decide) ln204 rfl fl_X5_306 rfl dX5_acceptArrivals_35 hS.1.2.2.2.2.2.2.1 hfs.2.2.2.2 ?_
          refine n_icmp_ge (tgt := 84) C dX5_acceptArrivals_38 (by decide) (by constructor <;> omega) (by constructor <;> omega) (fun c38 => ?_) (fun c38 => ?_)
          · refine n_iinc (lo' := [(3, .int (iI (x3 + 1))), (4, .int (iI x4)), (2, .int (iI x2)), (1, .ref (B + 204)), (0, .ref F)]) C 1 dX5_acceptArrivals_84 rfl rfl (by decide) rfl ?_
            refine r_goto (tgt := 16) C dX5_acceptArrivals_87 (by decide) ?_
            refine r_lo [0, 2, 3, 4] rfl ?_
            exact ih16 _ (by first | omega | (rw [← hk16]; omega)) x2 ((x3 + 1)) (i + 1) X2 (by omega) (by omega) (by show x2 = (ldC (arF a i) (av1 a (psq a i)).2.1 (av2 a (psq a i)).2.1 (ldO a i) (av3 a (psq a i)).2.1.toNat).2; rw [← show c = (av3 a (psq a i)).2.1.toNat by omega]; exact hx2) (by show Rl true (ldC (arF a i) (av1 a (psq a i)).2.1 (av2 a (psq a i)).2.1 (ldO a i) (av3 a (psq a i)).2.1.toNat).1 X2; rw [← show c = (av3 a (psq a i)).2.1.toNat by omega]; exact hR2) hfs.1 rfl
          · refine r_aload_n C 4 dX5_acceptArrivals_41 rfl rfl ?_
            refine r_getR C fl_X5_10 rfl dX5_acceptArrivals_42 hF.1 hF.2 ?_
            refine r_aload_n C 3 dX5_acceptArrivals_45 rfl rfl ?_
            refine c_getI C (v := (ch a (psq a i) - 97)) 204 4232 rfl (by decide) ln204 rfl fl_X5_305 rfl dX5_acceptArrivals_46 hS.1.2.2.2.2.2.2.1 hfs.2.1 ?_
            refine cV1_PI C (k_X4_canAccept ((arF a i)) hS hC.1.1 hR2 (by omega) hf2) cw_X5_55 (rm_ok rfl rfl (Nat.zero_le _) (Nat.zero_le _)) (Nat.le_of_ble_eq_true rfl) hS.1.1 dX5_acceptArrivals_49 ?_
            refine n_if_eq (tgt := 78) C dX5_acceptArrivals_52 (by decide) (by constructor <;> omega) (fun c52 => ?_) (fun c52 => ?_)
            · refine n_iinc (lo' := [(4, .int (iI (x4 + 1))), (3, .int (iI x3)), (2, .int (iI x2)), (1, .ref (B + 204)), (0, .ref F)]) C 0 dX5_acceptArrivals_78 rfl rfl (by decide) rfl ?_
              refine r_goto (tgt := 32) C dX5_acceptArrivals_81 (by decide) ?_
              exact ih32 _ (by first | omega | (rw [← hk32]; omega)) x2 ((x4 + 1)) (c + 1) X2 (by omega) (by omega) (by show x2 = (ld1 (arF a i) (av1 a (psq a i)).2.1 (av2 a (psq a i)).2.1 (ldC (arF a i) (av1 a (psq a i)).2.1 (av2 a (psq a i)).2.1 (ldO a i) c)).2; unfold ld1; rw [if_pos (by omega), hx2]) (by show Rl true (ld1 (arF a i) (av1 a (psq a i)).2.1 (av2 a (psq a i)).2.1 (ldC (arF a i) (av1 a (psq a i)).2.1 (av2 a (psq a i)).2.1 (ldO a i) c)).1 X2; unfold ld1; rw [if_pos (by omega)]; exact hR2) hfs rfl
            · refine r_aload_n C 4 dX5_acceptArrivals_55 rfl rfl ?_
              refine r_getR C fl_X5_10 rfl dX5_acceptArrivals_56 hF.1 hF.2 ?_
              refine r_aload_n C 3 dX5_acceptArrivals_59 rfl rfl ?_
              refine c_getI C (v := (ch a (psq a i) - 97)) 204 4232 rfl (by decide) ln204 rfl fl_X5_305 rfl dX5_acceptArrivals_60 hS.1.2.2.2.2.2.2.1 hfs.2.1 ?_
              refine r_aload_n C 3 dX5_acceptArrivals_63 rfl rfl ?_
              refine c_getI C (v := (av1 a (psq a i)).2.1) 204 4644 rfl (by decide) ln204 rfl fl_X5_309 rfl dX5_acceptArrivals_64 hS.1.2.2.2.2.2.2.1 hfs.2.2.1 ?_
              refine r_aload_n C 3 dX5_acceptArrivals_67 rfl rfl ?_
              refine c_getI C (v := (av2 a (psq a i)).2.1) 204 5056 rfl (by decide) ln204 rfl fl_X5_310 rfl dX5_acceptArrivals_68 hS.1.2.2.2.2.2.2.1 hfs.2.2.2.1 ?_
              refine cV3_EI C (k_X4_accept ((arF a i)) hS hC.1.1 hR2 (by omega) hf2 hC.1.2.1 (by omega) (by omega) (by omega)) cw_X5_58 (rm_ok rfl rfl (Nat.zero_le _) (Nat.zero_le _)) (Nat.le_of_ble_eq_true rfl) hS.1.1 dX5_acceptArrivals_71 (fun r71 I71 L71 h71 => ?_)
              obtain ⟨h71r, a71, h71R, h71k, h71I, h71L⟩ := h71
              subst h71I
              subst h71L
              subst h71r
              refine r_pop C dX5_acceptArrivals_74 rfl ?_
              refine n_iinc (lo' := [(2, .int (iI (x2 + 1))), (4, .int (iI x4)), (3, .int (iI x3)), (1, .ref (B + 204)), (0, .ref F)]) C 2 dX5_acceptArrivals_75 rfl rfl (by decide) rfl ?_
              refine n_iinc (lo' := [(4, .int (iI (x4 + 1))), (2, .int (iI (x2 + 1))), (3, .int (iI x3)), (1, .ref (B + 204)), (0, .ref F)]) C 1 dX5_acceptArrivals_78 rfl rfl (by decide) rfl ?_
              refine r_goto (tgt := 32) C dX5_acceptArrivals_81 (by decide) ?_
              refine r_lo [0, 2, 1, 3, 4] rfl ?_
              exact ih32 _ (by first | omega | (rw [← hk32]; omega)) ((x2 + 1)) ((x4 + 1)) (c + 1) a71 (by omega) (by omega) (by show x2 + 1 = (ld1 (arF a i) (av1 a (psq a i)).2.1 (av2 a (psq a i)).2.1 (ldC (arF a i) (av1 a (psq a i)).2.1 (av2 a (psq a i)).2.1 (ldO a i) c)).2; unfold ld1; rw [if_neg (by omega), hx2]) (by show Rl true (ld1 (arF a i) (av1 a (psq a i)).2.1 (av2 a (psq a i)).2.1 (ldC (arF a i) (av1 a (psq a i)).2.1 (av2 a (psq a i)).2.1 (ldO a i) c)).1 a71; unfold ld1; rw [if_neg (by omega)]; exact h71R) (by rw [h71k _ (by decide), h71k _ (by decide), h71k _ (by decide), h71k _ (by decide), h71k _ (by decide)]; exact hfs) rfl
        exact lp32 _ x2 0 0 a23 rfl (by omega) hx2 hR23 okx rfl
  exact lp16 _ 0 0 0 a11 rfl (Nat.zero_le _) rfl (by rw [ea11]; exact hR.rt _ _ (by decide) (by omega) (Inv.q20 hI)) (by rw [ea11, up1_s]; rfl) rfl
