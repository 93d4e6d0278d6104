theorem z01 {x : Int} (h : x = 0 ∨ x = 1) : iI x = 0 ∨ iI x = 1 := by
  rcases h with h | h
  · rw [h]; exact Or.inl rfl
  · rw [h]; exact Or.inr rfl
theorem rbV_b {a : Sa} {N T : Int} (hI : Inv N T a) {mk m w : Int} {pl : Nat} (hm : 1 ≤ m ∧ m ≤ 9999) (hmk : 1 ≤ mk) (hpl : pl ≤ 80) (hw : 0 ≤ w ∧ w ≤ 1) : (pl ≤ rbP a mk m pl ∧ rbP a mk m pl ≤ 80) ∧ (rbV a mk m w pl = -6 ∨ (0 ≤ rbV a mk m w pl ∧ rbV a mk m w pl ≤ 9999)) := by
  unfold rbP rbV
  by_cases h : ch a pl = mk
  · rw [if_pos h, if_pos h]
    have hp := ch_lt hI (p := pl) (by omega)
    have hb := nmb_b hI (m := m) (by omega) (pl + 1) (by omega)
    refine ⟨⟨by omega, hb.1.2⟩, ?_⟩
    split <;> omega
  · rw [if_neg h, if_neg h]
    exact ⟨⟨Nat.le_refl _, hpl⟩, by omega⟩
/-- the three readings of an arrival, told as the reference tells them -/
theorem ar_rb {a : Sa} {N T : Int} (hI : Inv N T a) {pl : Nat} (hL : 97 ≤ ch a pl ∧ ch a pl ≤ 102) :
    ((nmb a 2000 (pl + 1)).2.1 = 0 → arP a pl = (nmb a 2000 (pl + 1)).1 ∧ arW a pl = 1)
    ∧ (¬ (nmb a 2000 (pl + 1)).2.1 = 0 → rbV a 64 9999 0 (nmb a 2000 (pl + 1)).1 = -6 → arP a pl = (rbP a 64 9999 (nmb a 2000 (pl + 1)).1) ∧ arW a pl = 1)
    ∧ (¬ (nmb a 2000 (pl + 1)).2.1 = 0 → ¬ rbV a 64 9999 0 (nmb a 2000 (pl + 1)).1 = -6 → arP a pl = (rbP a 42 9 (rbP a 64 9999 (nmb a 2000 (pl + 1)).1)) ∧ (rbV a 42 9 1 (rbP a 64 9999 (nmb a 2000 (pl + 1)).1) = -6 → arW a pl = 1) ∧ (arW a pl = 0 → ¬ rbV a 42 9 1 (rbP a 64 9999 (nmb a 2000 (pl + 1)).1) = -6 ∧ (av1 a pl).2.1 = (nmb a 2000 (pl + 1)).2.1 ∧ (av2 a pl).2.1 = rbV a 64 9999 0 (nmb a 2000 (pl + 1)).1 ∧ (av3 a pl).2.1 = rbV a 42 9 1 (rbP a 64 9999 (nmb a 2000 (pl + 1)).1)) ∧ (¬ arW a pl = 0 → ¬ rbV a 42 9 1 (rbP a 64 9999 (nmb a 2000 (pl + 1)).1) = -6 → 48 ≤ ch a (arP a pl) ∧ ch a (arP a pl) ≤ 57)) := by
  have hA1 := av1_b hI hL
  have hA2 := av2_b hI hL
  have hA3 := av3_b hI hL
  have e1 : av1 a pl = (nmb a 2000 (pl + 1)) := rfl
  have eP : arP a pl = (av3 a pl).1 := by unfold arP; rw [if_pos hL]
  have eW : arW a pl = (av3 a pl).2.2 := by unfold arW; rw [if_pos hL]
  rw [eP, eW]
  -- flag of the first number
  by_cases f1 : (nmb a 2000 (pl + 1)).2.2 = 0
  · have hs1 := nmb_s (a := a) (m := 2000) (by decide) (pl + 1) f1
    have g1 : (nmb a 2000 (pl + 1)).1 ≤ 80 := hA1.1.2
    -- the deadline
    by_cases c2 : ch a (nmb a 2000 (pl + 1)).1 = 64
    · have e2 : av2 a pl = nmb a 9999 ((nmb a 2000 (pl + 1)).1 + 1) := by unfold av2; rw [e1, if_pos ⟨f1, c2⟩]
      have r2 : rbP a 64 9999 (nmb a 2000 (pl + 1)).1 = (nmb a 9999 ((nmb a 2000 (pl + 1)).1 + 1)).1 := by unfold rbP; rw [if_pos c2]
      have v2 : rbV a 64 9999 0 (nmb a 2000 (pl + 1)).1 = if (nmb a 9999 ((nmb a 2000 (pl + 1)).1 + 1)).2.1 = 0 then -6 else (nmb a 9999 ((nmb a 2000 (pl + 1)).1 + 1)).2.1 := by unfold rbV; rw [if_pos c2]
      have hp2 := ch_lt hI (p := (nmb a 2000 (pl + 1)).1) (by omega)
      have hb2 := nmb_b hI (m := 9999) (by decide) ((nmb a 2000 (pl + 1)).1 + 1) (by omega)
      by_cases f2 : (nmb a 9999 ((nmb a 2000 (pl + 1)).1 + 1)).2.2 = 0
      · have hs2 := nmb_s (a := a) (m := 9999) (by decide) ((nmb a 2000 (pl + 1)).1 + 1) f2
        rw [if_neg (by omega)] at v2
        by_cases c3 : ch a (nmb a 9999 ((nmb a 2000 (pl + 1)).1 + 1)).1 = 42
        · have e3 : av3 a pl = nmb a 9 ((nmb a 9999 ((nmb a 2000 (pl + 1)).1 + 1)).1 + 1) := by unfold av3; rw [e2, if_pos ⟨f2, c3⟩]
          have r3 : rbP a 42 9 (nmb a 9999 ((nmb a 2000 (pl + 1)).1 + 1)).1 = (nmb a 9 ((nmb a 9999 ((nmb a 2000 (pl + 1)).1 + 1)).1 + 1)).1 := by unfold rbP; rw [if_pos c3]
          have v3 : rbV a 42 9 1 (nmb a 9999 ((nmb a 2000 (pl + 1)).1 + 1)).1 = if (nmb a 9 ((nmb a 9999 ((nmb a 2000 (pl + 1)).1 + 1)).1 + 1)).2.1 = 0 then -6 else (nmb a 9 ((nmb a 9999 ((nmb a 2000 (pl + 1)).1 + 1)).1 + 1)).2.1 := by unfold rbV; rw [if_pos c3]
          have hp3 := ch_lt hI (p := (nmb a 9999 ((nmb a 2000 (pl + 1)).1 + 1)).1) (by omega)
          have hb3 := nmb_b hI (m := 9) (by decide) ((nmb a 9999 ((nmb a 2000 (pl + 1)).1 + 1)).1 + 1) (by omega)
          have hs3 := nmb_s (a := a) (m := 9) (by decide) ((nmb a 9999 ((nmb a 2000 (pl + 1)).1 + 1)).1 + 1)
          have hd3 := nmb_d (a := a) (m := 9) (p := (nmb a 9999 ((nmb a 2000 (pl + 1)).1 + 1)).1 + 1)
          rw [r2, e3, e2, e1, r3, v2, v3]
          refine ⟨fun h => absurd h (by omega), fun _ h => absurd h (by omega), fun _ _ => ⟨rfl, fun h => ?_, fun h => ?_, fun h1 h2 => ?_⟩⟩
          · split at h
            · rcases hb3.2.2 with h4 | h4
              · have := hs3 h4; omega
              · exact h4
            · omega
          · have h5 := hs3 h
            rw [if_neg (by omega)]
            exact ⟨by omega, rfl, rfl, rfl⟩
          · split at h2
            · exact absurd rfl h2
            · rename_i h6
              exact hd3 (hb3.2.2.resolve_left h1) h6
        · have e3 : av3 a pl = ((nmb a 9999 ((nmb a 2000 (pl + 1)).1 + 1)).1, 1, (nmb a 9999 ((nmb a 2000 (pl + 1)).1 + 1)).2.2) := by unfold av3; rw [e2, if_neg (fun h => c3 h.2)]
          have r3 : rbP a 42 9 (nmb a 9999 ((nmb a 2000 (pl + 1)).1 + 1)).1 = (nmb a 9999 ((nmb a 2000 (pl + 1)).1 + 1)).1 := by unfold rbP; rw [if_neg c3]
          have v3 : rbV a 42 9 1 (nmb a 9999 ((nmb a 2000 (pl + 1)).1 + 1)).1 = 1 := by unfold rbV; rw [if_neg c3]
          rw [r2, e3, e2, e1, r3, v2, v3]
          exact ⟨fun h => absurd h (by omega), fun _ h => absurd h (by omega), fun _ _ => ⟨rfl, fun h => absurd h (by decide), fun h => ⟨by decide, rfl, rfl, rfl⟩, fun h1 h2 => absurd f2 h1⟩⟩
      · have f2' := hb2.2.2.resolve_left f2
        have hd2 := nmb_d (a := a) (m := 9999) (p := (nmb a 2000 (pl + 1)).1 + 1) f2'
        have e3 : av3 a pl = ((nmb a 9999 ((nmb a 2000 (pl + 1)).1 + 1)).1, 1, (nmb a 9999 ((nmb a 2000 (pl + 1)).1 + 1)).2.2) := by unfold av3; rw [e2, if_neg (fun h => f2 h.1)]
        rw [r2, e3, v2]
        refine ⟨fun h => absurd h (by omega), fun _ h => ⟨rfl, f2'⟩, fun _ h => ?_⟩
        split at h
        · exact absurd rfl h
        · rename_i h0
          have hdg := hd2 h0
          have r3 : rbP a 42 9 (nmb a 9999 ((nmb a 2000 (pl + 1)).1 + 1)).1 = (nmb a 9999 ((nmb a 2000 (pl + 1)).1 + 1)).1 := by unfold rbP; rw [if_neg (by omega)]
          rw [r3]
          exact ⟨rfl, fun _ => f2', fun h1 => absurd h1 (by rw [f2']; decide), fun _ _ => hdg⟩
    · have e2 : av2 a pl = ((nmb a 2000 (pl + 1)).1, 0, (nmb a 2000 (pl + 1)).2.2) := by unfold av2; rw [e1, if_neg (fun h => c2 h.2)]
      have r2 : rbP a 64 9999 (nmb a 2000 (pl + 1)).1 = (nmb a 2000 (pl + 1)).1 := by unfold rbP; rw [if_neg c2]
      have v2 : rbV a 64 9999 0 (nmb a 2000 (pl + 1)).1 = 0 := by unfold rbV; rw [if_neg c2]
      by_cases c3 : ch a (nmb a 2000 (pl + 1)).1 = 42
      · have e3 : av3 a pl = nmb a 9 ((nmb a 2000 (pl + 1)).1 + 1) := by unfold av3; rw [e2, if_pos ⟨f1, c3⟩]
        have r3 : rbP a 42 9 (nmb a 2000 (pl + 1)).1 = (nmb a 9 ((nmb a 2000 (pl + 1)).1 + 1)).1 := by unfold rbP; rw [if_pos c3]
        have v3 : rbV a 42 9 1 (nmb a 2000 (pl + 1)).1 = if (nmb a 9 ((nmb a 2000 (pl + 1)).1 + 1)).2.1 = 0 then -6 else (nmb a 9 ((nmb a 2000 (pl + 1)).1 + 1)).2.1 := by unfold rbV; rw [if_pos c3]
        have hp3 := ch_lt hI (p := (nmb a 2000 (pl + 1)).1) (by omega)
        have hb3 := nmb_b hI (m := 9) (by decide) ((nmb a 2000 (pl + 1)).1 + 1) (by omega)
        have hs3 := nmb_s (a := a) (m := 9) (by decide) ((nmb a 2000 (pl + 1)).1 + 1)
        have hd3 := nmb_d (a := a) (m := 9) (p := (nmb a 2000 (pl + 1)).1 + 1)
        rw [r2, e3, e2, e1, r3, v2, v3]
        refine ⟨fun h => absurd h (by omega), fun _ h => absurd h (by decide), fun _ _ => ⟨rfl, fun h => ?_, fun h => ?_, fun h1 h2 => ?_⟩⟩
        · split at h
          · rcases hb3.2.2 with h4 | h4
            · have := hs3 h4; omega
            · exact h4
          · omega
        · have h5 := hs3 h
          rw [if_neg (by omega)]
          exact ⟨by omega, rfl, rfl, rfl⟩
        · split at h2
          · exact absurd rfl h2
          · rename_i h6
            exact hd3 (hb3.2.2.resolve_left h1) h6
      · have e3 : av3 a pl = ((nmb a 2000 (pl + 1)).1, 1, (nmb a 2000 (pl + 1)).2.2) := by unfold av3; rw [e2, if_neg (fun h => c3 h.2)]
        have r3 : rbP a 42 9 (nmb a 2000 (pl + 1)).1 = (nmb a 2000 (pl + 1)).1 := by unfold rbP; rw [if_neg c3]
        have v3 : rbV a 42 9 1 (nmb a 2000 (pl + 1)).1 = 1 := by unfold rbV; rw [if_neg c3]
        rw [r2, e3, e2, e1, r3, v2, v3]
        exact ⟨fun h => absurd h (by omega), fun _ h => absurd h (by decide), fun _ _ => ⟨rfl, fun h => absurd h (by decide), fun h => ⟨by decide, rfl, rfl, rfl⟩, fun h1 h2 => absurd f1 h1⟩⟩
  · have f1' : (nmb a 2000 (pl + 1)).2.2 = 1 := hA1.2.2.1.resolve_left f1
    have hd1 := nmb_d (a := a) (m := 2000) (p := pl + 1) f1'
    have e2 : av2 a pl = ((nmb a 2000 (pl + 1)).1, 0, (nmb a 2000 (pl + 1)).2.2) := by unfold av2; rw [e1, if_neg (fun h => f1 h.1)]
    have e3 : av3 a pl = ((nmb a 2000 (pl + 1)).1, 1, (nmb a 2000 (pl + 1)).2.2) := by unfold av3; rw [e2, if_neg (fun h => f1 h.1)]
    rw [e3]
    refine ⟨fun _ => ⟨rfl, f1'⟩, fun h0 h2 => ?_, fun h0 h2 => ?_⟩
    · have hdg := hd1 h0
      unfold rbV at h2
      rw [if_neg (by omega)] at h2
      exact absurd h2 (by decide)
    · have hdg := hd1 h0
      have r2 : rbP a 64 9999 (nmb a 2000 (pl + 1)).1 = (nmb a 2000 (pl + 1)).1 := by unfold rbP; rw [if_neg (by omega)]
      have r3 : rbP a 42 9 (nmb a 2000 (pl + 1)).1 = (nmb a 2000 (pl + 1)).1 := by unfold rbP; rw [if_neg (by omega)]
      rw [r2, r3]
      exact ⟨rfl, fun _ => f1', fun h1 => absurd h1 (by rw [f1']; decide), fun _ _ => hdg⟩
set_option maxHeartbeats 4000000 in
set_option maxRecDepth 20000 in
theorem k_X2_readArrival {l : Launch} {G : Gd} {base : Nat} {Y : MY} {I : MI} {L : ML} {B : Nat} {X : Sa} {a : Sa} {N T : Int} (pl : Nat) (hS : SLy base Y B) (hI : Inv N T a) (hTx : ∀ k, 1745 ≤ k → k ≤ 1825 → X k = a k) (hat : X 5880 = pl) (hpl : pl ≤ 80) : Ct l yX2_readArrival cX2_readArrival 1 (some .boolean) (rmz 2 48) G base [.ref (B + 204)] Y (cI I B X) (cL L B X) (EI Y (fun r I' L' => ∃ X', Kp X X' ∧ X' 5880 = (arP a pl : Nat) ∧ (r = 0 ∨ r = 1) ∧ (arW a pl = 0 → r = 1 ∧ X' 4232 = ch a pl - 97 ∧ X' 4644 = (av1 a pl).2.1 ∧ X' 5056 = (av2 a pl).2.1 ∧ X' 5468 = (av3 a pl).2.1) ∧ (¬ arW a pl = 0 → r = 0 ∨ (48 ≤ ch a (arP a pl) ∧ ch a (arP a pl) ≤ 57)) ∧ I' = cI I B X' ∧ L' = cL L B X')) := by
  refine Ct.of (own := RX2) (lo := [(0, .ref (B + 204))]) (by decide) rfl (Nat.le_of_ble_eq_true rfl) rfl ?_
  intro zp ze zs zm zargs zbl zmt zc C hr hlk hnm
  have hpd := hI.2.2.2.2.1
  have hpt := hI.2.2.2.2.2
  have hcb := ch_b hI pl
  refine r_aload_n C 0 dX2_readArrival_0 rfl rfl ?_
  have jn29 : ∀ x29 : Int, ((a 1825) ≤ (pl : Int) ∧ x29 = (-6)) ∨ ((pl : Int) < (a 1825) ∧ x29 = ((a (1745 + pl)) - 97)) → Bd zp l ze (rmz 2 48) zs zm zargs zbl zmt zc 1 G base (EI Y (fun r I' L' => ∃ X', Kp X X' ∧ X' 5880 = (arP a pl : Nat) ∧ (r = 0 ∨ r = 1) ∧ (arW a pl = 0 → r = 1 ∧ X' 4232 = ch a pl - 97 ∧ X' 4644 = (av1 a pl).2.1 ∧ X' 5056 = (av2 a pl).2.1 ∧ X' 5468 = (av3 a pl).2.1) ∧ (¬ arW a pl = 0 → r = 0 ∨ (48 ≤ ch a (arP a pl) ∧ ch a (arP a pl) ≤ 57)) ∧ I' = cI I B X' ∧ L' = cL L B X')) 29 [(0, .ref (B + 204))] [.int (iI x29), .ref (B + 204)] Y (cI I B X) (cL L B X) 0 0 := by
    intro x29 hx29
    have hx : x29 = ch a pl - 97 ∨ (x29 = -6 ∧ ch a pl = 0) := by
      unfold ch
      split <;> omega
    refine c_putI C 204 4232 rfl (by decide) ln204 rfl fl_X2_28 rfl dX2_readArrival_29 hS.1.2.2.2.2.2.2.1 (fun a29 ea29 => ?_)
    refine r_aload_n C 0 dX2_readArrival_32 rfl rfl ?_
    refine c_getI C (v := x29) 204 4232 rfl (by decide) ln204 rfl fl_X2_28 rfl dX2_readArrival_33 hS.1.2.2.2.2.2.2.1 (by rw [ea29, up1_s]) ?_
    refine n_if_lt (tgt := 48) C dX2_readArrival_36 (by decide) (by constructor <;> omega) (fun c36 => ?_) (fun c36 => ?_)
    · refine r_iconst (v := iI 0) C dX2_readArrival_48 rfl ?_
      refine r_zret C hr hlk (by decide) dX2_readArrival_49 (Nat.zero_le _) (Nat.zero_le _) ?_
      have hnl : ¬ (97 ≤ ch a pl ∧ ch a pl ≤ 102) := by omega
      have eP : arP a pl = pl := by unfold arP; rw [if_neg hnl]
      have eW : arW a pl = 1 := by unfold arW; rw [if_neg hnl]
      refine ⟨_, rfl, rfl, a29, (fun k hk => by rw [ea29, up1_n (by omega)]), ?_, Or.inl rfl, fun h => absurd h (by rw [eW]; decide), fun _ => Or.inl rfl, rfl, rfl⟩
      rw [eP]
      exact (by rw [ea29, up1_n (by decide)]; exact hat)
    · refine r_aload_n C 0 dX2_readArrival_39 rfl rfl ?_
      refine c_getI C (v := x29) 204 4232 rfl (by decide) ln204 rfl fl_X2_28 rfl dX2_readArrival_40 hS.1.2.2.2.2.2.2.1 (by rw [ea29, up1_s]) ?_
      refine r_bipush (v := iI 6) C dX2_readArrival_43 (by decide) ?_
      refine n_icmp_lt (tgt := 50) C dX2_readArrival_45 (by decide) (by constructor <;> omega) ⟨by decide, by decide⟩ (fun c45 => ?_) (fun c45 => ?_)
      · have hL : 97 ≤ ch a pl ∧ ch a pl ≤ 102 := by omega
        have har := ar_rb hI hL
        have hpl8 := ch_lt hI (p := pl) (by omega)
        refine r_aload_n C 0 dX2_readArrival_50 rfl rfl ?_
        refine r_dup C dX2_readArrival_51 rfl ?_
        refine c_getI C (v := (pl : Int)) 204 5880 rfl (by decide) ln204 rfl fl_X2_21 rfl dX2_readArrival_52 hS.1.2.2.2.2.2.2.1 (by rw [ea29, up1_n (by decide)]; exact hat) ?_
        refine r_iconst (v := iI 1) C dX2_readArrival_55 rfl ?_
        refine n_iadd C dX2_readArrival_56 ?_
        refine c_putI C 204 5880 rfl (by decide) ln204 rfl fl_X2_21 rfl dX2_readArrival_57 hS.1.2.2.2.2.2.2.1 (fun a57 ea57 => ?_)
        refine r_aload_n C 0 dX2_readArrival_60 rfl rfl ?_
        refine r_aload_n C 0 dX2_readArrival_61 rfl rfl ?_
        refine r_sipush (v := iI 2000) C dX2_readArrival_62 (by decide) ?_
        refine cV1_EI C (k_X2_readNumber (pl + 1) hS hI (fun k k1 k2 => by rw [ea57, up1_n (by omega), ea29, up1_n (by omega)]; exact hTx k k1 k2) (show a57 5880 = ((pl + 1 : Nat) : Int) by rw [show a57 5880 = ((pl : Int) + 1) from (by rw [ea57, up1_s])]; omega) (by omega) (by omega)) cw_X2_31 (rm_ok rfl rfl (Nat.zero_le _) (Nat.zero_le _)) (Nat.le_of_ble_eq_true rfl) hS.1.2.2.2.2.2.2.1 dX2_readArrival_65 (fun r65 I65 L65 h65 => ?_)
        obtain ⟨h65r, h65I, h65L⟩ := h65
        obtain ⟨a65, ea65⟩ : ∃ z, z = up1 a57 5880 ((nmb a 2000 (pl + 1)).1 : Int) := ⟨_, rfl⟩
        rw [← ea65] at h65I h65L
        subst h65I
        subst h65L
        have hb1 := nmb_b hI (m := 2000) (by decide) (pl + 1) (by omega)
        refine c_putI C 204 4644 rfl (by decide) ln204 rfl fl_X2_35 rfl dX2_readArrival_68 hS.1.2.2.2.2.2.2.1 (fun a68 ea68 => ?_)
        refine r_aload_n C 0 dX2_readArrival_71 rfl rfl ?_
        refine c_getI C (v := r65) 204 4644 rfl (by decide) ln204 rfl fl_X2_35 rfl dX2_readArrival_72 hS.1.2.2.2.2.2.2.1 (by rw [ea68, up1_s]) ?_
        refine n_if_ne (tgt := 80) C dX2_readArrival_75 (by decide) (by constructor <;> omega) (fun c75 => ?_) (fun c75 => ?_)
        · refine r_aload_n C 0 dX2_readArrival_80 rfl rfl ?_
          refine r_aload_n C 0 dX2_readArrival_81 rfl rfl ?_
          refine r_bipush (v := iI 64) C dX2_readArrival_82 (by decide) ?_
          refine r_sipush (v := iI 9999) C dX2_readArrival_84 (by decide) ?_
          refine r_iconst (v := iI 0) C dX2_readArrival_87 rfl ?_
          have hb2 := rbV_b hI (mk := 64) (m := 9999) (w := 0) (pl := (nmb a 2000 (pl + 1)).1) (by decide) (by decide) (by omega) (by decide)
          refine cV3_EI C (k_X2_readBehind ((nmb a 2000 (pl + 1)).1) hS hI (fun k k1 k2 => by rw [ea68, up1_n (by omega), ea65, up1_n (by omega), ea57, up1_n (by omega), ea29, up1_n (by omega)]; exact hTx k k1 k2) (show a68 5880 = (((nmb a 2000 (pl + 1)).1 : Nat) : Int) by rw [show a68 5880 = ((nmb a 2000 (pl + 1)).1 : Int) from (by rw [ea68, up1_n (by decide), ea65, up1_s])] <;> omega) (by omega) (by omega) (by omega)) cw_X2_38 (rm_ok rfl rfl (Nat.zero_le _) (Nat.zero_le _)) (Nat.le_of_ble_eq_true rfl) hS.1.2.2.2.2.2.2.1 dX2_readArrival_88 (fun r88 I88 L88 h88 => ?_)
          obtain ⟨h88r, h88I, h88L⟩ := h88
          obtain ⟨a88, ea88⟩ : ∃ z, z = up1 a68 5880 (((rbP a 64 9999 ((nmb a 2000 (pl + 1)).1)) : Nat) : Int) := ⟨_, rfl⟩
          rw [← ea88] at h88I h88L
          subst h88I
          subst h88L
          refine c_putI C 204 5056 rfl (by decide) ln204 rfl fl_X2_42 rfl dX2_readArrival_91 hS.1.2.2.2.2.2.2.1 (fun a91 ea91 => ?_)
          refine r_aload_n C 0 dX2_readArrival_94 rfl rfl ?_
          refine c_getI C (v := r88) 204 5056 rfl (by decide) ln204 rfl fl_X2_42 rfl dX2_readArrival_95 hS.1.2.2.2.2.2.2.1 (by rw [ea91, up1_s]) ?_
          refine r_bipush (v := iI (-6)) C dX2_readArrival_98 (by decide) ?_
          refine n_icmp_ne (tgt := 105) C dX2_readArrival_100 (by decide) (by constructor <;> omega) ⟨by decide, by decide⟩ (fun c100 => ?_) (fun c100 => ?_)
          · refine r_aload_n C 0 dX2_readArrival_105 rfl rfl ?_
            refine r_aload_n C 0 dX2_readArrival_106 rfl rfl ?_
            refine r_bipush (v := iI 42) C dX2_readArrival_107 (by decide) ?_
            refine r_bipush (v := iI 9) C dX2_readArrival_109 (by decide) ?_
            refine r_iconst (v := iI 1) C dX2_readArrival_111 rfl ?_
            have hb3 := rbV_b hI (mk := 42) (m := 9) (w := 1) (pl := (rbP a 64 9999 (nmb a 2000 (pl + 1)).1)) (by decide) (by decide) (by omega) (by decide)
            refine cV3_EI C (k_X2_readBehind ((rbP a 64 9999 (nmb a 2000 (pl + 1)).1)) hS hI (fun k k1 k2 => by rw [ea91, up1_n (by omega), ea88, up1_n (by omega), ea68, up1_n (by omega), ea65, up1_n (by omega), ea57, up1_n (by omega), ea29, up1_n (by omega)]; exact hTx k k1 k2) (show a91 5880 = (((rbP a 64 9999 (nmb a 2000 (pl + 1)).1) : Nat) : Int) by rw [show a91 5880 = ((rbP a 64 9999 ((nmb a 2000 (pl + 1)).1)) : Int) from (by rw [ea91, up1_n (by decide), ea88, up1_s])] <;> omega) (by omega) (by omega) (by omega)) cw_X2_38 (rm_ok rfl rfl (Nat.zero_le _) (Nat.zero_le _)) (Nat.le_of_ble_eq_true rfl) hS.1.2.2.2.2.2.2.1 dX2_readArrival_112 (fun r112 I112 L112 h112 => ?_)
            obtain ⟨h112r, h112I, h112L⟩ := h112
            obtain ⟨a112, ea112⟩ : ∃ z, z = up1 a91 5880 (((rbP a 42 9 ((rbP a 64 9999 (nmb a 2000 (pl + 1)).1))) : Nat) : Int) := ⟨_, rfl⟩
            rw [← ea112] at h112I h112L
            subst h112I
            subst h112L
            refine c_putI C 204 5468 rfl (by decide) ln204 rfl fl_X2_45 rfl dX2_readArrival_115 hS.1.2.2.2.2.2.2.1 (fun a115 ea115 => ?_)
            have jn132 : ∀ x132 : Int, (r112 = (-6) ∧ x132 = 0) ∨ (¬ r112 = (-6) ∧ x132 = 1) → Bd zp l ze (rmz 2 48) zs zm zargs zbl zmt zc 1 G base (EI Y (fun r I' L' => ∃ X', Kp X X' ∧ X' 5880 = (arP a pl : Nat) ∧ (r = 0 ∨ r = 1) ∧ (arW a pl = 0 → r = 1 ∧ X' 4232 = ch a pl - 97 ∧ X' 4644 = (av1 a pl).2.1 ∧ X' 5056 = (av2 a pl).2.1 ∧ X' 5468 = (av3 a pl).2.1) ∧ (¬ arW a pl = 0 → r = 0 ∨ (48 ≤ ch a (arP a pl) ∧ ch a (arP a pl) ≤ 57)) ∧ I' = cI I B X' ∧ L' = cL L B X')) 132 [(0, .ref (B + 204))] [.int (iI x132)] Y (cI I B a115) (cL L B a115) 0 0 := by
              intro x132 hx132
              refine r_zret C hr hlk (z01 (by omega)) dX2_readArrival_132 (Nat.zero_le _) (Nat.zero_le _) ?_
              have hz := (har.2.2 (by omega) (by omega))
              have eat : a115 5880 = ((arP a pl : Nat) : Int) := by rw [hz.1]; exact (by rw [ea115, up1_n (by decide), ea112, up1_s])
              by_cases hW : arW a pl = 0
              · have hg := hz.2.2.1 hW
                have hv : x132 = 1 := by omega
                refine ⟨_, rfl, rfl, a115, (fun k hk => by rw [ea115, up1_n (by omega), ea112, up1_n (by omega), ea91, up1_n (by omega), ea88, up1_n (by omega), ea68, up1_n (by omega), ea65, up1_n (by omega), ea57, up1_n (by omega), ea29, up1_n (by omega)]), eat, Or.inr hv, fun _ => ⟨hv, ?_, ?_, ?_, ?_⟩, fun h => absurd hW h, rfl, rfl⟩
                · rw [show a115 4232 = x29 from (by rw [ea115, up1_n (by decide), ea112, up1_n (by decide), ea91, up1_n (by decide), ea88, up1_n (by decide), ea68, up1_n (by decide), ea65, up1_n (by decide), ea57, up1_n (by decide), ea29, up1_s])]; omega
                · rw [show a115 4644 = r65 from (by rw [ea115, up1_n (by decide), ea112, up1_n (by decide), ea91, up1_n (by decide), ea88, up1_n (by decide), ea68, up1_s]), hg.2.1]; omega
                · rw [show a115 5056 = r88 from (by rw [ea115, up1_n (by decide), ea112, up1_n (by decide), ea91, up1_s]), hg.2.2.1]; omega
                · rw [show a115 5468 = r112 from (by rw [ea115, up1_s]), hg.2.2.2]; omega
              · refine ⟨_, rfl, rfl, a115, (fun k hk => by rw [ea115, up1_n (by omega), ea112, up1_n (by omega), ea91, up1_n (by omega), ea88, up1_n (by omega), ea68, up1_n (by omega), ea65, up1_n (by omega), ea57, up1_n (by omega), ea29, up1_n (by omega)]), eat, by omega, fun h => absurd h hW, fun _ => ?_, rfl, rfl⟩
                by_cases h6 : rbV a 42 9 1 (rbP a 64 9999 (nmb a 2000 (pl + 1)).1) = -6
                · exact Or.inl (by omega)
                · exact Or.inr (hz.2.2.2 hW h6)
            refine r_aload_n C 0 dX2_readArrival_118 rfl rfl ?_
            refine c_getI C (v := r112) 204 5468 rfl (by decide) ln204 rfl fl_X2_45 rfl dX2_readArrival_119 hS.1.2.2.2.2.2.2.1 (by rw [ea115, up1_s]) ?_
            refine r_bipush (v := iI (-6)) C dX2_readArrival_122 (by decide) ?_
            refine n_icmp_eq (tgt := 131) C dX2_readArrival_124 (by decide) (by constructor <;> omega) ⟨by decide, by decide⟩ (fun c124 => ?_) (fun c124 => ?_)
            · refine r_iconst (v := iI 0) C dX2_readArrival_131 rfl ?_
              exact jn132 _ (Or.inl ⟨c124, rfl⟩)
            · refine r_iconst (v := iI 1) C dX2_readArrival_127 rfl ?_
              refine r_goto (tgt := 132) C dX2_readArrival_128 (by decide) ?_
              exact jn132 _ (Or.inr (⟨c124, rfl⟩))
          · refine r_iconst (v := iI 0) C dX2_readArrival_103 rfl ?_
            refine r_zret C hr hlk (by decide) dX2_readArrival_104 (Nat.zero_le _) (Nat.zero_le _) ?_
            have hz := (har.2.1 (by omega) (by omega))
            refine ⟨_, rfl, rfl, a91, (fun k hk => by rw [ea91, up1_n (by omega), ea88, up1_n (by omega), ea68, up1_n (by omega), ea65, up1_n (by omega), ea57, up1_n (by omega), ea29, up1_n (by omega)]), ?_, Or.inl rfl, fun h => absurd h (by rw [hz.2]; decide), fun _ => Or.inl rfl, rfl, rfl⟩
            rw [hz.1]
            exact (by rw [ea91, up1_n (by decide), ea88, up1_s])
        · refine r_iconst (v := iI 0) C dX2_readArrival_78 rfl ?_
          refine r_zret C hr hlk (by decide) dX2_readArrival_79 (Nat.zero_le _) (Nat.zero_le _) ?_
          have hz := (har.1 (by omega))
          refine ⟨_, rfl, rfl, a68, (fun k hk => by rw [ea68, up1_n (by omega), ea65, up1_n (by omega), ea57, up1_n (by omega), ea29, up1_n (by omega)]), ?_, Or.inl rfl, fun h => absurd h (by rw [hz.2]; decide), fun _ => Or.inl rfl, rfl, rfl⟩
          rw [hz.1]
          exact (by rw [ea68, up1_n (by decide), ea65, up1_s])
      · refine r_iconst (v := iI 0) C dX2_readArrival_48 rfl ?_
        refine r_zret C hr hlk (by decide) dX2_readArrival_49 (Nat.zero_le _) (Nat.zero_le _) ?_
        have hnl : ¬ (97 ≤ ch a pl ∧ ch a pl ≤ 102) := by omega
        have eP : arP a pl = pl := by unfold arP; rw [if_neg hnl]
        have eW : arW a pl = 1 := by unfold arW; rw [if_neg hnl]
        refine ⟨_, rfl, rfl, a29, (fun k hk => by rw [ea29, up1_n (by omega)]), ?_, Or.inl rfl, fun h => absurd h (by rw [eW]; decide), fun _ => Or.inl rfl, rfl, rfl⟩
        rw [eP]
        exact (by rw [ea29, up1_n (by decide)]; exact hat)
  refine r_aload_n C 0 dX2_readArrival_1 rfl rfl ?_
  refine c_getI C (v := (pl : Int)) 204 5880 rfl (by decide) ln204 rfl fl_X2_21 rfl dX2_readArrival_2 hS.1.2.2.2.2.2.2.1 hat ?_
  refine r_aload_n C 0 dX2_readArrival_5 rfl rfl ?_
  refine c_getI C (v := (a 1825)) 204 1825 rfl (by decide) ln204 rfl fl_X2_15 rfl dX2_readArrival_6 hS.1.2.2.2.2.2.2.1 (hTx _ (by omega) (by omega)) ?_
  refine n_icmp_ge (tgt := 27) C dX2_readArrival_9 (by decide) (by constructor <;> omega) (by constructor <;> omega) (fun c9 => ?_) (fun c9 => ?_)
  · refine r_bipush (v := iI (-6)) C dX2_readArrival_27 (by decide) ?_
    exact jn29 _ (Or.inl ⟨c9, rfl⟩)
  · have hpq := hpt pl (by omega)
    refine r_aload_n C 0 dX2_readArrival_12 rfl rfl ?_
    refine r_getR C fl_X2_9 rfl dX2_readArrival_13 hS.1.2.2.2.2.2.2.1 hS.2.1.2.2.2.2.2.2 ?_
    refine r_aload_n C 0 dX2_readArrival_16 rfl rfl ?_
    refine c_getI C (v := (pl : Int)) 204 5880 rfl (by decide) ln204 rfl fl_X2_21 rfl dX2_readArrival_17 hS.1.2.2.2.2.2.2.1 hat ?_
    refine c_cald C (v := (a (1745 + pl))) 205 pl ((1745 + pl)) rfl (by decide) ln205 (ky_T (by omega)) dX2_readArrival_20 hS.1.2.2.2.2.2.2.2 ⟨congrArg iI (by omega), (by omega), by decide⟩ (hTx _ (by omega) (by omega)) ?_
    refine r_bipush (v := iI 97) C dX2_readArrival_21 (by decide) ?_
    refine n_isub C dX2_readArrival_23 ?_
    refine r_goto (tgt := 29) C dX2_readArrival_24 (by decide) ?_
    exact jn29 _ (Or.inr (⟨c9, rfl⟩))
