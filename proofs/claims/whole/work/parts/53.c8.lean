def bgZ (a : Sa) (f p : Nat) (z : Int) : Sa := (up1 (up1 (up1 (up1 (up1 (up1 a 8 p) 9 (bgN a f p)) 10 (a 3 + bgN a f p)) 11 z) 12 (a 3)) (125 + 11 * (p % 120) + 4) 1)
theorem bg_ca {a : Sa} {p : Nat} {n h z t : Int} : (up1 (up1 (up1 (up1 (up1 (up1 a 8 p) 9 n) 10 h) 11 z) 12 t) (125 + 11 * (p % 120) + 4) 1) = (up1 (up1 (up1 (up1 (up1 (up1 a (125 + 11 * (p % 120) + 4) 1) 8 p) 12 t) 9 n) 10 h) 11 z) := by
  funext j
  by_cases e0 : j = 8
  · subst e0
    rw [up1_n (by omega), up1_n (by omega), up1_n (by omega), up1_n (by omega), up1_n (by omega), up1_s, up1_n (by omega), up1_n (by omega), up1_n (by omega), up1_n (by omega), up1_s]
  by_cases e1 : j = 9
  · subst e1
    rw [up1_n (by omega), up1_n (by omega), up1_n (by omega), up1_n (by omega), up1_s, up1_n (by omega), up1_n (by omega), up1_s]
  by_cases e2 : j = 10
  · subst e2
    rw [up1_n (by omega), up1_n (by omega), up1_n (by omega), up1_s, up1_n (by omega), up1_s]
  by_cases e3 : j = 11
  · subst e3
    rw [up1_n (by omega), up1_n (by omega), up1_s, up1_s]
  by_cases e4 : j = 12
  · subst e4
    rw [up1_n (by omega), up1_s, up1_n (by omega), up1_n (by omega), up1_n (by omega), up1_s]
  by_cases e5 : j = (125 + 11 * (p % 120) + 4)
  · subst e5
    rw [up1_s, up1_n (by omega), up1_n (by omega), up1_n (by omega), up1_n (by omega), up1_n (by omega), up1_s]
  rw [up1_n e5, up1_n e4, up1_n e3, up1_n e2, up1_n e1, up1_n e0, up1_n e3, up1_n e2, up1_n e1, up1_n e4, up1_n e0, up1_n e5]
theorem bg_cx {X : Sa} {p f : Nat} {n h z t : Int} : (up1 (up1 (up1 (up1 (up1 (up1 (up1 X (125 + 11 * (p % 120) + 4) 1) 8 p) 3818 f) 9 n) 12 t) 10 h) 11 z) = (up1 (up1 (up1 (up1 (up1 (up1 (up1 X (125 + 11 * (p % 120) + 4) 1) 8 p) 3818 f) 12 t) 9 n) 10 h) 11 z) := by
  funext j
  by_cases e0 : j = (125 + 11 * (p % 120) + 4)
  · subst e0
    rw [up1_n (by omega), up1_n (by omega), up1_n (by omega), up1_n (by omega), up1_n (by omega), up1_n (by omega), up1_s, up1_n (by omega), up1_n (by omega), up1_n (by omega), up1_n (by omega), up1_n (by omega), up1_n (by omega), up1_s]
  by_cases e1 : j = 8
  · subst e1
    rw [up1_n (by omega), up1_n (by omega), up1_n (by omega), up1_n (by omega), up1_n (by omega), up1_s, up1_n (by omega), up1_n (by omega), up1_n (by omega), up1_n (by omega), up1_n (by omega), up1_s]
  by_cases e2 : j = 3818
  · subst e2
    rw [up1_n (by omega), up1_n (by omega), up1_n (by omega), up1_n (by omega), up1_s, up1_n (by omega), up1_n (by omega), up1_n (by omega), up1_n (by omega), up1_s]
  by_cases e3 : j = 9
  · subst e3
    rw [up1_n (by omega), up1_n (by omega), up1_n (by omega), up1_s, up1_n (by omega), up1_n (by omega), up1_s]
  by_cases e4 : j = 12
  · subst e4
    rw [up1_n (by omega), up1_n (by omega), up1_s, up1_n (by omega), up1_n (by omega), up1_n (by omega), up1_s]
  by_cases e5 : j = 10
  · subst e5
    rw [up1_n (by omega), up1_s, up1_n (by omega), up1_s]
  by_cases e6 : j = 11
  · subst e6
    rw [up1_s, up1_s]
  rw [up1_n e6, up1_n e5, up1_n e4, up1_n e3, up1_n e2, up1_n e1, up1_n e0, up1_n e6, up1_n e5, up1_n e3, up1_n e4, up1_n e2, up1_n e1, up1_n e0]
theorem Rl.up8 {m : Bool} {a X : Sa} (h : Rl m a X) {p f : Nat} {v : Int} (hf : a (125 + 11 * (p % 120) + 0) = f) (h6 : a 2 ≤ 6) (h20 : ∀ f : Nat, (f : Int) < a 2 → (Qs a f).length ≤ 20) : Rl m (up1 (up1 a 8 p) 12 v) (up1 (up1 (up1 X 8 p) 3818 f) 12 v) := by
  have eA : ∀ k, ¬ k = 8 → ¬ k = 12 → up1 (up1 a 8 (p : Int)) 12 v k = a k := fun k h1 h2 => by rw [up1_n h2, up1_n h1]
  have eX : ∀ k, ¬ k = 8 → ¬ k = 12 → ¬ k = 3818 → up1 (up1 (up1 X 8 (p : Int)) 3818 (f : Int)) 12 v k = X k := fun k h1 h2 h3 => by rw [up1_n h2, up1_n h3, up1_n h1]
  have g7 := eA 7 (by decide) (by decide)
  have g2 := eA 2 (by decide) (by decide)
  have g15 := eA 15 (by decide) (by decide)
  refine ⟨fun k k1 k2 => ?_, fun g hg k hk => ?_, fun q p1 p2 => ?_, fun q r1 r2 k hk => ?_, fun k k1 k2 => ?_, fun g hg i q hi => ?_, fun q hp8 => ?_⟩
  · by_cases e : k = 8
    · subst e
      rw [up1_n (by decide), up1_n (by decide), up1_s, up1_n (by decide), up1_s]
    · rw [eA k e k2, eX k e k2 (by omega)]
      exact h.n k k1 k2
  · rw [g2] at hg
    have := hk.1
    rw [eA _ (by omega) (by omega), eX _ (by omega) (by omega) (by omega)]
    exact h.f hg hk
  · rw [old_eq g7] at p1
    rw [g7] at p2
    refine ⟨fun k hk => ?_, fun z => ?_⟩
    · rw [eA _ (by omega) (by omega), eX _ (by omega) (by omega) (by omega)]
      exact h.p ⟨p1, p2⟩ hk
    · rw [eA _ (by omega) (by omega)] at z
      rw [eA _ (by omega) (by omega), eX _ (by omega) (by omega) (by omega)]
      exact h.p10 ⟨p1, p2⟩ z
  · rw [g15] at r1 r2
    rw [eA _ (by omega) (by omega), eX _ (by omega) (by omega) (by omega)]
    exact h.r r1 r2 hk
  · rw [eA _ (by omega) (by omega), eX _ (by omega) (by omega) (by omega)]
    exact h.t k k1 k2
  · rw [g2] at hg
    rw [Qs_cong g7 (fun q _ => isQ_eq (eA _ (by omega) (by omega)) (eA _ (by omega) (by omega)))] at hi
    have h1 := h20 g hg
    have h2 := (List.getElem?_eq_some_iff.mp hi).1
    rw [eX _ (by omega) (by omega) (by omega)]
    exact h.q hg hi
  · rw [up1_n (by decide), up1_s] at hp8
    have e : q = p := by omega
    subst e
    refine ⟨by rw [up1_s, up1_s], ?_⟩
    rw [up1_n (show (3818 : Nat) ≠ 12 by decide), up1_s, eA _ (by omega) (by omega)]
    exact hf.symm
theorem Rl.bg {m : Bool} {a X : Sa} {N T : Int} (hI : Inv N T a) (h : Rl m a X) {p f : Nat} {z : Int} (hk : old a ≤ p ∧ (p : Int) < a 7) (hf : a (125 + 11 * (p % 120) + 0) = f) (h4 : a (125 + 11 * (p % 120) + 4) ≤ 1) : Rl m (bgZ a f p z) (up1 (up1 (up1 (up1 (up1 (up1 (up1 X (125 + 11 * (p % 120) + 4) 1) 8 p) 3818 f) 9 (bgN a f p)) 12 (a 3)) 10 (a 3 + bgN a f p)) 11 z) := by
  have hT := hI.1
  unfold TopOK at hT
  have h7 : up1 a (125 + 11 * (p % 120) + 4) 1 7 = a 7 := up1_n (by omega)
  have h2 : up1 a (125 + 11 * (p % 120) + 4) 1 2 = a 2 := up1_n (by omega)
  have hR1 := h.up4 (p := p) (v := 1) (by omega) hk (by omega) (fun z => absurd z (by decide))
  have hQ : ∀ g : Nat, (g : Int) < up1 a (125 + 11 * (p % 120) + 4) 1 2 → (Qs (up1 a (125 + 11 * (p % 120) + 4) 1) g).length ≤ 20 := by
    intro g hg
    rw [h2] at hg
    rw [Qs_cong h7 (fun q _ => ?_)]
    · exact Inv.q20 hI g hg
    · by_cases e : q % 120 = p % 120
      · unfold isQ
        rw [e, up1_s, up1_n (by omega)]
        exact decide_eq_decide.mpr ⟨fun z => ⟨z.1, h4⟩, fun z => ⟨z.1, by decide⟩⟩
      · exact isQ_eq (up1_n (by omega)) (up1_n (by omega))
  have hR2 := hR1.up8 (p := p) (f := f) (v := a 3) (by rw [up1_n (by omega)]; exact hf) (by omega) hQ
  unfold bgZ
  rw [bg_ca, bg_cx]
  exact ((hR2.upN 9 _ (by decide) (by decide)).upN 10 _ (by decide) (by decide)).upN 11 _ (by decide) (by decide)
set_option maxHeartbeats 4000000 in
set_option maxRecDepth 20000 in
theorem k_X4_moveTime {l : Launch} {G : Gd} {base : Nat} {Y : MY} {I : MI} {L : ML} {B : Nat} {X : Sa} {m : Bool} {a : Sa} {N T : Int}  (hS : SLy base Y B) (hI : Inv N T a) (hR : Rl m a X) (hN : NowOK a) (hT1 : T + 1 ≤ 1002000) : Ct l yX4_moveTime cX4_moveTime 1 (none) (rmz 4 88) G base [.ref B] Y (cI I B X) (cL L B X) (EV Y (fun I' L' => ∃ X', Rl m (tkm a) X' ∧ X' 8356 = tkz a ∧ I' = cI I B X' ∧ L' = cL L B X')) := by
  refine Ct.of (own := RX4) (lo := [(0, .ref B)]) (by decide) rfl (Nat.le_of_ble_eq_true rfl) rfl ?_
  intro zp ze zs zm zargs zbl zmt zc C hr hlk hnm
  have hT := hI.1
  unfold TopOK at hT
  have hN2 := hN
  obtain ⟨h12, hNow⟩ := hN
  have hnb : (a 8 = -6 ∨ (0 ≤ a 8 ∧ a 8 ≤ 400000)) ∧ 0 ≤ a 10 ∧ a 10 ≤ 2050 := by
    rcases hNow with h | ⟨p, g1, g2, g3, g4, g5, g6, g7, g8, g9⟩ <;> omega
  refine r_aload_n C 0 dX4_moveTime_0 rfl rfl ?_
  refine r_dup C dX4_moveTime_1 rfl ?_
  refine c_getI C (v := (a 0)) 0 0 rfl (by decide) (lnS (by decide)) rfl fl_X4_129 rfl dX4_moveTime_2 hS.1.1 (hR.n 0 (by decide) (by decide)) ?_
  refine r_iconst (v := iI 1) C dX4_moveTime_5 rfl ?_
  refine n_iadd C dX4_moveTime_6 ?_
  refine c_putI C 0 0 rfl (by decide) (lnS (by decide)) rfl fl_X4_129 rfl dX4_moveTime_7 hS.1.1 (fun a7 ea7 => ?_)
  refine r_aload_n C 0 dX4_moveTime_10 rfl rfl ?_
  refine r_bipush (v := iI (-6)) C dX4_moveTime_11 (by decide) ?_
  refine c_putI C 0 8356 rfl (by decide) (lnS (by decide)) rfl fl_X4_56 rfl dX4_moveTime_13 hS.1.1 (fun a13 ea13 => ?_)
  have hI0 := Inv_t0 hI hT1
  have hT0 := hI0.1
  unfold TopOK at hT0
  have hR0 : Rl m (tk0 a) a13 := by
    rw [ea13, ea7]
    exact (hR.upN 0 _ (by decide) (by decide)).rt 8356 _ (by decide) (show tk0 a 2 ≤ 6 by omega) (Inv.q20 hI0)
  have hz0 : a13 8356 = -6 := by rw [ea13, up1_s]
  have jn65 : ∀ (a2 : Sa) (X2 : Sa) (ha2 : a2 = tk1 a) (hR2 : Rl m a2 X2) (hz2 : X2 8356 = tkz1 a), Bd zp l ze (rmz 4 88) zs zm zargs zbl zmt zc 1 G base (EV Y (fun I' L' => ∃ X', Rl m (tkm a) X' ∧ X' 8356 = tkz a ∧ I' = cI I B X' ∧ L' = cL L B X')) 65 [(0, .ref B)] [] Y (cI I B X2) (cL L B X2) 0 0 := by
    intro a2 X2 ha2 hR2 hz2
    have hT1k := t1_ok hI hN2 hT1
    rw [← ha2] at hT1k
    have hI2 := hT1k.1
    have hT2 := hI2.1
    unfold TopOK at hT2
    have hj2 := joined_b hI2
    have hzj : X2 8356 = -6 ∨ (0 ≤ X2 8356 ∧ X2 8356 ≤ 400000) := by
      rw [hz2]
      unfold tkz1
      split
      · omega
      · split
        · unfold pdZ fdN
          split
          · omega
          · split
            · omega
            · split <;> omega
        · omega
    refine r_aload_n C 0 dX4_moveTime_65 rfl rfl ?_
    refine c_getI C (v := (a2 16)) 0 16 rfl (by decide) (lnS (by decide)) rfl fl_X4_174 rfl dX4_moveTime_66 hS.1.1 (hR2.n 16 (by decide) (by decide)) ?_
    refine n_if_le (tgt := 76) C dX4_moveTime_69 (by decide) (by constructor <;> omega) (fun c69 => ?_) (fun c69 => ?_)
    · refine r_vret C hr hlk dX4_moveTime_76 (Nat.zero_le _) (Nat.zero_le _) ?_
      have hno : ∀ q, old a2 ≤ q → q < old a2 + ((a2 7).toNat - old a2) → ¬ a2 (125 + 11 * (q % 120) + 4) = 2 := fun q g1 g2 => no_sent hI2 c69 ⟨g1, by omega⟩
      refine ⟨rfl, rfl, X2, ?_, ?_, rfl, rfl⟩
      · unfold tkm jal
        rw [← ha2, jnA_no _ _ hno]
        exact hR2
      · unfold tkz jaz
        rw [← ha2, jnF_no _ _ hno]
        exact hz2
    · refine r_aload_n C 0 dX4_moveTime_72 rfl rfl ?_
      refine cV0_EV C (k_X4_deliverJoined hS hI2 hR2 hzj) cw_X4_177 (rm_ok rfl rfl (Nat.zero_le _) (Nat.zero_le _)) (Nat.le_of_ble_eq_true rfl) hS.1.1 dX4_moveTime_73 (fun I73 L73 h73 => ?_)
      obtain ⟨a73, h73R, h73z, h73I, h73L⟩ := h73
      subst h73I
      subst h73L
      refine r_vret C hr hlk dX4_moveTime_76 (Nat.zero_le _) (Nat.zero_le _) ?_
      refine ⟨rfl, rfl, a73, ?_, ?_, rfl, rfl⟩
      · unfold tkm
        rw [← ha2]
        exact h73R
      · unfold tkz
        rw [← ha2, ← hz2]
        exact h73z
  refine r_aload_n C 0 dX4_moveTime_16 rfl rfl ?_
  refine r_getR C fl_X4_45 rfl dX4_moveTime_17 hS.1.1 hS.2.1.2.2.2.2.1 ?_
  refine c_getI C (v := (a 8)) 203 8 rfl (by decide) ln203 rfl fl_X4_162 rfl dX4_moveTime_20 hS.1.2.2.2.2.2.1 (by rw [ea13, up1_n (by decide), ea7, up1_n (by decide)]; exact (hR.n 8 (by decide) (by decide))) ?_
  refine r_bipush (v := iI (-6)) C dX4_moveTime_23 (by decide) ?_
  refine n_icmp_eq (tgt := 65) C dX4_moveTime_25 (by decide) (by constructor <;> omega) ⟨by decide, by decide⟩ (fun c25 => ?_) (fun c25 => ?_)
  · exact jn65 ((tk1 a)) a13 rfl (by unfold tk1; rw [if_pos (by omega)]; exact hR0) (by rw [hz0]; unfold tkz1; rw [if_pos (by omega)])
  · refine r_aload_n C 0 dX4_moveTime_28 rfl rfl ?_
    refine r_dup C dX4_moveTime_29 rfl ?_
    refine c_getI C (v := (a 13)) 0 13 rfl (by decide) (lnS (by decide)) rfl fl_X4_165 rfl dX4_moveTime_30 hS.1.1 (by rw [ea13, up1_n (by decide), ea7, up1_n (by decide)]; exact (hR.n 13 (by decide) (by decide))) ?_
    refine r_iconst (v := iI 1) C dX4_moveTime_33 rfl ?_
    refine n_iadd C dX4_moveTime_34 ?_
    refine c_putI C 0 13 rfl (by decide) (lnS (by decide)) rfl fl_X4_165 rfl dX4_moveTime_35 hS.1.1 (fun a35 ea35 => ?_)
    refine r_aload_n C 0 dX4_moveTime_38 rfl rfl ?_
    refine r_getR C fl_X4_45 rfl dX4_moveTime_39 hS.1.1 hS.2.1.2.2.2.2.1 ?_
    refine r_dup C dX4_moveTime_42 rfl ?_
    refine c_getI C (v := (a 10)) 203 10 rfl (by decide) ln203 rfl fl_X4_168 rfl dX4_moveTime_43 hS.1.2.2.2.2.2.1 (by rw [ea35, up1_n (by decide), ea13, up1_n (by decide), ea7, up1_n (by decide)]; exact (hR.n 10 (by decide) (by decide))) ?_
    refine r_iconst (v := iI 1) C dX4_moveTime_46 rfl ?_
    refine n_isub C dX4_moveTime_47 ?_
    refine c_putI C 203 10 rfl (by decide) ln203 rfl fl_X4_168 rfl dX4_moveTime_48 hS.1.2.2.2.2.2.1 (fun a48 ea48 => ?_)
    have hRb : Rl m (up1 (up1 (tk0 a) 13 (a 13 + 1)) 10 (a 10 - 1)) a48 := by
      rw [ea48, ea35]
      exact (hR0.upN 13 _ (by decide) (by decide)).upN 10 _ (by decide) (by decide)
    have hz48 : a48 8356 = -6 := by rw [ea48, ea35, up1_n (by decide), up1_n (by decide), hz0]
    refine r_aload_n C 0 dX4_moveTime_51 rfl rfl ?_
    refine r_getR C fl_X4_45 rfl dX4_moveTime_52 hS.1.1 hS.2.1.2.2.2.2.1 ?_
    refine c_getI C (v := ((a 10) - 1)) 203 10 rfl (by decide) ln203 rfl fl_X4_168 rfl dX4_moveTime_55 hS.1.2.2.2.2.2.1 (by rw [ea48, up1_s]) ?_
    refine n_if_gt (tgt := 65) C dX4_moveTime_58 (by decide) (by constructor <;> omega) (fun c58 => ?_) (fun c58 => ?_)
    · exact jn65 ((tk1 a)) a48 rfl (by unfold tk1; rw [if_neg (by omega), if_neg (by omega)]; exact hRb) (by rw [hz48]; unfold tkz1; rw [if_neg (by omega), if_neg (by omega)])
    · rcases hNow with h | ⟨p, g1, g2, g3, g4, g5, g6, g7, g8, g9, f, g10, g11⟩
      · omega
      have hIz : Inv N (T + 1) (up1 (up1 (tk0 a) 13 (a 13 + 1)) 10 (a 10 - 1)) := Inv_up (Inv_up (Inv_t0 hI hT1) (by omega)) (by omega)
      have hRz := hRb
      have ez : ∀ k, ¬ k = 0 ∧ ¬ k = 10 ∧ ¬ k = 13 → (up1 (up1 (tk0 a) 13 (a 13 + 1)) 10 (a 10 - 1)) k = a k := fun k hk => by unfold tk0; rw [up1_n (by omega), up1_n (by omega), up1_n (by omega)]
      have hkz : old (up1 (up1 (tk0 a) 13 (a 13 + 1)) 10 (a 10 - 1)) ≤ p ∧ (p : Int) < (up1 (up1 (tk0 a) 13 (a 13 + 1)) 10 (a 10 - 1)) 7 := by rw [old_eq (ez 7 (by omega)), ez 7 (by omega)]; exact ⟨g2, g3⟩
      have h8z : (up1 (up1 (tk0 a) 13 (a 13 + 1)) 10 (a 10 - 1)) 8 = p := by rw [ez 8 (by omega)]; exact g1
      have h8z2 : ((up1 (up1 (tk0 a) 13 (a 13 + 1)) 10 (a 10 - 1)) 8).toNat = p := by rw [h8z]; rfl
      have hfz : (up1 (up1 (tk0 a) 13 (a 13 + 1)) 10 (a 10 - 1)) (125 + 11 * (p % 120) + 0) = f := by rw [ez _ (by omega)]; exact g10
      have h4z : (up1 (up1 (tk0 a) 13 (a 13 + 1)) 10 (a 10 - 1)) (125 + 11 * (p % 120) + 4) = 1 := by rw [ez _ (by omega)]; exact g4
      have hPz := hI.2.2.1 p g2 g3
      unfold PkOK at hPz
      have h9z : 1 ≤ (up1 (up1 (tk0 a) 13 (a 13 + 1)) 10 (a 10 - 1)) 9 ∧ (up1 (up1 (tk0 a) 13 (a 13 + 1)) 10 (a 10 - 1)) 9 ≤ 2000 := by rw [ez 9 (by omega)]; omega
      have hlez : (up1 (up1 (tk0 a) 13 (a 13 + 1)) 10 (a 10 - 1)) (125 + 11 * (p % 120) + 5) + (up1 (up1 (tk0 a) 13 (a 13 + 1)) 10 (a 10 - 1)) 9 ≤ (up1 (up1 (tk0 a) 13 (a 13 + 1)) 10 (a 10 - 1)) (125 + 11 * (p % 120) + 1) := by rw [ez (125 + 11 * (p % 120) + 5) (by omega), ez 9 (by omega), ez (125 + 11 * (p % 120) + 1) (by omega)]; omega
      have e0z : (up1 (up1 (tk0 a) 13 (a 13 + 1)) 10 (a 10 - 1)) 0 = a 0 + 1 := by unfold tk0; rw [up1_n (by omega), up1_n (by omega), up1_s]
      have hf6z : f < 6 := by omega
      have hsnz : (up1 (up1 (tk0 a) 13 (a 13 + 1)) 10 (a 10 - 1)) (17 + 18 * f + 6) + (up1 (up1 (tk0 a) 13 (a 13 + 1)) 10 (a 10 - 1)) 9 ≤ (up1 (up1 (tk0 a) 13 (a 13 + 1)) 10 (a 10 - 1)) 0 := by rw [ez _ (by omega), ez 9 (by omega), e0z]; omega
      have h15z : (up1 (up1 (tk0 a) 13 (a 13 + 1)) 10 (a 10 - 1)) 15 + 1 ≤ (up1 (up1 (tk0 a) 13 (a 13 + 1)) 10 (a 10 - 1)) 0 := by rw [ez 15 (by omega), e0z]; omega
      have h11z : (up1 (up1 (tk0 a) 13 (a 13 + 1)) 10 (a 10 - 1)) 11 = 0 ∨ (up1 (up1 (tk0 a) 13 (a 13 + 1)) 10 (a 10 - 1)) 11 = 1 := by rw [ez 11 (by omega)]; exact g9
      have hzz : a48 8356 = -6 ∨ (0 ≤ a48 8356 ∧ a48 8356 ≤ 400000) := Or.inl hz48
      refine r_aload_n C 0 dX4_moveTime_61 rfl rfl ?_
      refine cV0_EV C (k_X4_finishPiece p f hS hIz hRz hkz h8z hfz h4z h9z hlez hsnz h15z h11z hzz) cw_X4_171 (rm_ok rfl rfl (Nat.zero_le _) (Nat.zero_le _)) (Nat.le_of_ble_eq_true rfl) hS.1.1 dX4_moveTime_62 (fun I62 L62 h62 => ?_)
      obtain ⟨a62, h62R, h62z, h62I, h62L⟩ := h62
      subst h62I
      subst h62L
      exact jn65 ((tk1 a)) a62 rfl (by unfold tk1 pdn; rw [if_neg (by omega), if_pos (by omega), h8z2, flP_of hfz]; exact h62R) (by rw [h62z, hz48]; unfold tkz1; rw [if_neg (by omega), if_pos (by omega), show (a 8).toNat = p by omega])
set_option maxHeartbeats 4000000 in
set_option maxRecDepth 20000 in
theorem k_X4_drainFluid {l : Launch} {G : Gd} {base : Nat} {Y : MY} {I : MI} {L : ML} {B : Nat} {X : Sa} {a : Sa} {N T : Int}  (hS : SLy base Y B) (hI : Inv N T a) (hR : Rl true a X) (hLg : LagOK a) (h15 : ∀ f : Nat, (f : Int) < a 2 → a (17 + 18 * f + 15) + 720720 ≤ 720720 * a 0) : Ct l yX4_drainFluid cX4_drainFluid 3 (none) (rmz 2 48) G base [.ref B] Y (cI I B X) (cL L B X) (EV Y (fun I' L' => ∃ X', Rl true (lgA (flo a) (a 2).toNat) X' ∧ X' 8356 = X 8356 ∧ I' = cI I B X' ∧ L' = cL L B X')) := by
  refine Ct.of (own := RX4) (lo := [(0, .ref B)]) (by decide) rfl (Nat.le_of_ble_eq_true rfl) rfl ?_
  intro zp ze zs zm zargs zbl zmt zc C hr hlk hnm
  have hT := hI.1
  unfold TopOK at hT
  obtain ⟨n, hn⟩ := Int.eq_ofNat_of_zero_le (show 0 ≤ a 2 by omega)
  have hW := wts hI
  have hnn : (a 2).toNat = n := by omega
  have hWn := fsW_b hW n (by omega)
  refine r_iconst (v := iI 0) C dX4_drainFluid_0 rfl ?_
  refine r_istore_n (lo' := [(1, .int (iI 0)), (0, .ref B)]) C dX4_drainFluid_1 rfl (by decide) rfl ?_
  refine r_iconst (v := iI 0) C dX4_drainFluid_2 rfl ?_
  refine r_istore_n (lo' := [(2, .int (iI 0)), (1, .int (iI 0)), (0, .ref B)]) C dX4_drainFluid_3 rfl (by decide) rfl ?_
  have lp4 : ∀ (k : Nat) (x1 : Int) (x2 : Int) (i : Nat) (hx2 : x2 = i) (hi : (i : Int) ≤ a 2) (hx1 : x1 = fsW a i), n - i = k → Bd zp l ze (rmz 2 48) zs zm zargs zbl zmt zc 3 G base (EV Y (fun I' L' => ∃ X', Rl true (lgA (flo a) (a 2).toNat) X' ∧ X' 8356 = X 8356 ∧ I' = cI I B X' ∧ L' = cL L B X')) 4 [(2, .int (iI x2)), (1, .int (iI x1)), (0, .ref B)] [] Y (cI I B X) (cL L B X) 0 0 := by
    intro k
    induction k using Nat.strongRecOn with
    | _ k ih4 =>
    intro x1 x2 i hx2 hi hx1 hk4
    have hWi := fsW_b hW i hi
    refine r_iload_n C 0 dX4_drainFluid_4 rfl rfl ?_
    refine r_aload_n C 2 dX4_drainFluid_5 rfl rfl ?_
    refine c_getI C (v := (a 2)) 0 2 rfl (by decide) (lnS (by decide)) rfl fl_X4_60 rfl dX4_drainFluid_6 hS.1.1 (hR.n 2 (by decide) (by decide)) ?_
    refine n_icmp_ge (tgt := 46) C dX4_drainFluid_9 (by decide) (by constructor <;> omega) (by constructor <;> omega) (fun c9 => ?_) (fun c9 => ?_)
    · have hin : i = n := by omega
      have hx1n : x1 = fsW a n := by rw [hx1, hin]
      refine r_iload_n C 1 dX4_drainFluid_46 rfl rfl ?_
      refine n_if_ne (tgt := 51) C dX4_drainFluid_47 (by decide) (by constructor <;> omega) (fun c47 => ?_) (fun c47 => ?_)
      · refine r_iconst (v := iI 0) C dX4_drainFluid_51 rfl ?_
        refine r_istore_n (lo' := [(2, .int (iI 0)), (1, .int (iI x1)), (0, .ref B)]) C dX4_drainFluid_52 rfl (by decide) rfl ?_
        have lp53 : ∀ (k : Nat) (x2 : Int) (i : Nat) (X1 : Sa) (hx2 : x2 = i) (hi : (i : Int) ≤ a 2) (hR1 : Rl true (lfA a (fsW a n) i) X1) (hzl : X1 8356 = X 8356), n - i = k → Bd zp l ze (rmz 2 48) zs zm zargs zbl zmt zc 3 G base (EV Y (fun I' L' => ∃ X', Rl true (lgA (flo a) (a 2).toNat) X' ∧ X' 8356 = X 8356 ∧ I' = cI I B X' ∧ L' = cL L B X')) 53 [(2, .int (iI x2)), (1, .int (iI x1)), (0, .ref B)] [] Y (cI I B X1) (cL L B X1) 0 0 := by
          intro k
          induction k using Nat.strongRecOn with
          | _ k ih53 =>
          intro x2 i X1 hx2 hi hR1 hzl hk53
          have eL : ∀ k, (k < 17 ∨ 17 + 18 * i ≤ k) → lfA a (fsW a n) i k = a k := fun k hk => lfA_n i (fun g hg => by omega)
          refine r_iload_n C 0 dX4_drainFluid_53 rfl rfl ?_
          have e2 : lfA a (fsW a n) i 2 = a 2 := eL 2 (by omega)
          refine r_aload_n C 2 dX4_drainFluid_54 rfl rfl ?_
          refine c_getI C (v := ((lfA a (fsW a n) i) 2)) 0 2 rfl (by decide) (lnS (by decide)) rfl fl_X4_60 rfl dX4_drainFluid_55 hS.1.1 (hR1.n 2 (by decide) (by decide)) ?_
          refine n_icmp_ge (tgt := 91) C dX4_drainFluid_58 (by decide) (by constructor <;> omega) (by constructor <;> omega) (fun c58 => ?_) (fun c58 => ?_)
          · refine r_vret C hr hlk dX4_drainFluid_91 (Nat.zero_le _) (Nat.zero_le _) ?_
            refine ⟨rfl, rfl, X1, ?_, hzl, rfl, rfl⟩
            unfold flo
            rw [hnn, ← lfA_eq, show n = i by omega]
            rw [show n = i by omega] at hR1
            exact hR1
          · have hi2 : (i : Int) < a 2 := by omega
            have hi6 : i < 6 := by omega
            have hF := (hI.2.1 i hi2).1
            unfold FlowOK at hF
            have hz2 : (i : Int) < lfA a (fsW a n) i 2 := by rw [e2]; exact hi2
            have e0i : lfA a (fsW a n) i (17 + 18 * i + 0) = a (17 + 18 * i + 0) := eL _ (by omega)
            have e6i : lfA a (fsW a n) i (17 + 18 * i + 6) = a (17 + 18 * i + 6) := eL _ (by omega)
            have e14i : lfA a (fsW a n) i (17 + 18 * i + 14) = a (17 + 18 * i + 14) := eL _ (by omega)
            have e15i : lfA a (fsW a n) i (17 + 18 * i + 15) = a (17 + 18 * i + 15) := eL _ (by omega)
            have e16i : lfA a (fsW a n) i (17 + 18 * i + 16) = a (17 + 18 * i + 16) := eL _ (by omega)
            refine r_aload_n C 2 dX4_drainFluid_61 rfl rfl ?_
            refine r_getR C fl_X4_26 rfl dX4_drainFluid_62 hS.1.1 hS.2.1.2.1 ?_
            refine r_iload_n C 0 dX4_drainFluid_65 rfl rfl ?_
            refine r_aald C (by decide) (by decide) i dX4_drainFluid_66 hS.1.2.2.1 ⟨congrArg iI (by omega), (by omega), by decide⟩ (hS.2.2.1 i (by omega)).2.2.2.1 ?_
            refine c_getL C (v := ((lfA a (fsW a n) i) (17 + 18 * i + 14))) (3 + 3 * i) ((17 + 18 * i + 14)) rfl (oF (by omega)) (lnFy (by omega) (by decide)) (ky_F (by omega) 12) fl_X4_135 rfl dX4_drainFluid_67 (hS.2.2.1 i (by omega)).1 (hR1.f hz2 (fk_t (by decide))) ?_
            refine r_lconst (v := lI 0) C dX4_drainFluid_70 (by decide) ?_
            refine n_lcmp_le (tgt := 85) C dX4_drainFluid_71 dX4_drainFluid_72 rfl rfl (by decide) (by constructor <;> omega) ⟨by decide, by decide⟩ (fun c71 => ?_) (fun c71 => ?_)
            · refine n_iinc (lo' := [(2, .int (iI (x2 + 1))), (1, .int (iI x1)), (0, .ref B)]) C 0 dX4_drainFluid_85 rfl rfl (by decide) rfl ?_
              refine r_goto (tgt := 53) C dX4_drainFluid_88 (by decide) ?_
              exact ih53 _ (by first | omega | (rw [← hk53]; omega)) ((x2 + 1)) (i + 1) X1 (by omega) (by omega) (by show Rl true (lf1 (lfA a (fsW a n) i) i (fsW a n)) X1; rw [lf1_no (by omega) (by rw [eL _ (by omega), eL _ (by omega), eL _ (by omega)]; exact hLg i hi2)]; exact hR1) hzl rfl
            · have hww := fsW_w hW n (by omega) i (by omega) (by omega)
              refine r_aload_n C 2 dX4_drainFluid_75 rfl rfl ?_
              refine r_getR C fl_X4_26 rfl dX4_drainFluid_76 hS.1.1 hS.2.1.2.1 ?_
              refine r_iload_n C 0 dX4_drainFluid_79 rfl rfl ?_
              refine r_aald C (by decide) (by decide) i dX4_drainFluid_80 hS.1.2.2.1 ⟨congrArg iI (by omega), (by omega), by decide⟩ (hS.2.2.1 i (by omega)).2.2.2.1 ?_
              refine r_iload_n C 1 dX4_drainFluid_81 rfl rfl ?_
              refine cV1_EV C (k_X0_loseFluid i hS hi6 (by omega) (show 1 ≤ X1 (17 + 18 * i + 0) ∧ X1 (17 + 18 * i + 0) ≤ 16 by rw [show X1 (17 + 18 * i + 0) = ((lfA a (fsW a n) i) (17 + 18 * i + 0)) from (hR1.f hz2 (fk_y (by decide) (by decide)))]; omega) (show 0 ≤ X1 (17 + 18 * i + 14) ∧ X1 (17 + 18 * i + 14) ≤ 1000000000000000 by rw [show X1 (17 + 18 * i + 14) = ((lfA a (fsW a n) i) (17 + 18 * i + 14)) from (hR1.f hz2 (fk_t (by decide)))]; omega) (show 0 ≤ X1 (17 + 18 * i + 15) ∧ X1 (17 + 18 * i + 15) ≤ 1000000000000 by rw [show X1 (17 + 18 * i + 15) = ((lfA a (fsW a n) i) (17 + 18 * i + 15)) from (hR1.f hz2 (fk_t (by decide)))]; omega) (show 0 ≤ X1 (17 + 18 * i + 6) ∧ X1 (17 + 18 * i + 6) ≤ 2000000 by rw [show X1 (17 + 18 * i + 6) = ((lfA a (fsW a n) i) (17 + 18 * i + 6)) from (hR1.f hz2 (fk_y (by decide) (by decide)))]; omega) (show 0 ≤ X1 (17 + 18 * i + 16) ∧ X1 (17 + 18 * i + 16) ≤ 1000000000000 by rw [show X1 (17 + 18 * i + 16) = ((lfA a (fsW a n) i) (17 + 18 * i + 16)) from (hR1.f hz2 (fk_t (by decide)))]; omega)) cw_X4_242 (rm_ok rfl rfl (Nat.zero_le _) (Nat.zero_le _)) (Nat.le_of_ble_eq_true rfl) (hS.2.2.1 i (by omega)).1 dX4_drainFluid_82 (fun I82 L82 h82 => ?_)
              obtain ⟨h82I, h82L⟩ := h82
              obtain ⟨a82, ea82⟩ : ∃ z, z = lsX X1 i x1 := ⟨_, rfl⟩
              rw [← ea82] at h82I h82L
              subst h82I
              subst h82L
              refine n_iinc (lo' := [(2, .int (iI (x2 + 1))), (1, .int (iI x1)), (0, .ref B)]) C 0 dX4_drainFluid_85 rfl rfl (by decide) rfl ?_
              refine r_goto (tgt := 53) C dX4_drainFluid_88 (by decide) ?_
              exact ih53 _ (by first | omega | (rw [← hk53]; omega)) ((x2 + 1)) (i + 1) a82 (by omega) (by omega) (by rw [ea82, hx1n, lsX_eq (by rw [hR1.f hz2 (fk_t (by decide))]; omega)]; exact hR1.lfs hz2 hi6 _ (by omega)) (by rw [ea82, hx1n, lsX_eq (by rw [hR1.f hz2 (fk_t (by decide))]; omega), lf1_n (by omega)]; exact hzl) rfl
        exact lp53 _ 0 0 X rfl (by omega) hR rfl rfl
      · refine r_vret C hr hlk dX4_drainFluid_50 (Nat.zero_le _) (Nat.zero_le _) ?_
        have hno := fsW_0 hW (n := n) (by omega) (by omega)
        refine ⟨rfl, rfl, X, ?_, rfl, rfl, rfl⟩
        unfold flo
        rw [hnn, ← lfA_eq, lfA_no hLg n (by omega) hno]
        exact hR
    · have hi2 : (i : Int) < a 2 := by omega
      have hi6 : i < 6 := by omega
      have hF := (hI.2.1 i hi2).1
      unfold FlowOK at hF
      refine r_aload_n C 2 dX4_drainFluid_12 rfl rfl ?_
      refine r_getR C fl_X4_26 rfl dX4_drainFluid_13 hS.1.1 hS.2.1.2.1 ?_
      refine r_iload_n C 0 dX4_drainFluid_16 rfl rfl ?_
      refine r_aald C (by decide) (by decide) i dX4_drainFluid_17 hS.1.2.2.1 ⟨congrArg iI (by omega), (by omega), by decide⟩ (hS.2.2.1 i hi6).2.2.2.1 ?_
      refine c_getL C (v := (a (17 + 18 * i + 14))) (3 + 3 * i) ((17 + 18 * i + 14)) rfl (oF hi6) (lnFy hi6 (by decide)) (ky_F hi6 12) fl_X4_135 rfl dX4_drainFluid_18 (hS.2.2.1 i hi6).1 (hR.f hi2 (fk_t (by decide))) ?_
      refine r_lconst (v := lI 0) C dX4_drainFluid_21 (by decide) ?_
      refine n_lcmp_le (tgt := 40) C dX4_drainFluid_22 dX4_drainFluid_23 rfl rfl (by decide) (by constructor <;> omega) ⟨by decide, by decide⟩ (fun c22 => ?_) (fun c22 => ?_)
      · refine n_iinc (lo' := [(2, .int (iI (x2 + 1))), (1, .int (iI x1)), (0, .ref B)]) C 0 dX4_drainFluid_40 rfl rfl (by decide) rfl ?_
        refine r_goto (tgt := 4) C dX4_drainFluid_43 (by decide) ?_
        exact ih4 _ (by first | omega | (rw [← hk4]; omega)) x1 ((x2 + 1)) (i + 1) (by omega) (by omega) (by show _ = fsW a i + _; rw [if_neg (by omega), hx1]; omega) rfl
      · refine r_iload_n C 1 dX4_drainFluid_26 rfl rfl ?_
        refine r_aload_n C 2 dX4_drainFluid_27 rfl rfl ?_
        refine r_getR C fl_X4_26 rfl dX4_drainFluid_28 hS.1.1 hS.2.1.2.1 ?_
        refine r_iload_n C 0 dX4_drainFluid_31 rfl rfl ?_
        refine r_aald C (by decide) (by decide) i dX4_drainFluid_32 hS.1.2.2.1 ⟨congrArg iI (by omega), (by omega), by decide⟩ (hS.2.2.1 i hi6).2.2.2.1 ?_
        refine r_getR C fl_X4_119 rfl dX4_drainFluid_33 (hS.2.2.1 i hi6).1 (hS.2.2.1 i hi6).2.2.2.2.1 ?_
        refine r_iconst (v := iI 0) C dX4_drainFluid_36 rfl ?_
        refine c_iald C (v := (a (17 + 18 * i + 0))) (4 + 3 * i) 0 ((17 + 18 * i + 0)) rfl (oG hi6) (lnG1 hi6) (ky_G hi6 (by omega)) dX4_drainFluid_37 (hS.2.2.1 i hi6).2.1 ⟨rfl, by decide, by decide⟩ (hR.f hi2 (fk_y (by decide) (by decide))) ?_
        refine n_iadd C dX4_drainFluid_38 ?_
        refine n_topi (fun x39 ex39 => ?_)
        refine r_istore_n (lo' := [(1, .int (iI x39)), (2, .int (iI x2)), (0, .ref B)]) C dX4_drainFluid_39 rfl (by decide) rfl ?_
        refine n_iinc (lo' := [(2, .int (iI (x2 + 1))), (1, .int (iI x39)), (0, .ref B)]) C 1 dX4_drainFluid_40 rfl rfl (by decide) rfl ?_
        refine r_goto (tgt := 4) C dX4_drainFluid_43 (by decide) ?_
        exact ih4 _ (by first | omega | (rw [← hk4]; omega)) x39 ((x2 + 1)) (i + 1) (by omega) (by omega) (by show _ = fsW a i + _; rw [if_pos (by omega), ex39, hx1]) rfl
  exact lp4 _ 0 0 0 rfl (by omega) rfl rfl
set_option maxHeartbeats 4000000 in
set_option maxRecDepth 20000 in
theorem k_X4_beginPiece {l : Launch} {G : Gd} {base : Nat} {Y : MY} {I : MI} {L : ML} {B : Nat} {X : Sa} {m : Bool} {a : Sa} {N T : Int} {fi z : Int} (f : Nat) (hS : SLy base Y B) (hI : Inv N T a) (hR : Rl m a X) (hfi : fi = f) (hf2 : (f : Int) < a 2) (h17 : ¬ a (17 + 18 * f + 17) = 0) (hz01 : z = 0 ∨ z = 1) : Ct l yX4_beginPiece cX4_beginPiece 5 (none) (rmz 2 43) G base [.ref B, .int (iI fi), .int (iI z)] Y (cI I B X) (cL L B X) (EV Y (fun I' L' => ∃ X', Rl m (bgZ a f (hdF a f).toNat z) X' ∧ ((∀ k, 17 ≤ k → k < 125 → X' k = X k) ∧ X' 8356 = X 8356) ∧ I' = cI I B X' ∧ L' = cL L B X')) := by
  refine Ct.of (own := RX4) (lo := [(0, .ref B), (1, .int (iI fi)), (2, .int (iI z))]) (by decide) rfl (Nat.le_of_ble_eq_true rfl) rfl ?_
  intro zp ze zs zm zargs zbl zmt zc C hr hlk hnm
  have hT := hI.1
  unfold TopOK at hT
  have hf6 : f < 6 := by omega
  have hF := (hI.2.1 f hf2).1
  unfold FlowOK at hF
  have hq : hdF a f = ((hdF a f).toNat : Int) ∧ (old a ≤ (hdF a f).toNat ∧ (((hdF a f).toNat : Nat) : Int) < a 7) ∧ a (125 + 11 * ((hdF a f).toNat % 120) + 0) = f ∧ a (125 + 11 * ((hdF a f).toNat % 120) + 4) ≤ 1 := by
    obtain ⟨q, -, h1, h2, h3, h4⟩ := hd_q hI hf2 h17
    rw [h1]
    exact ⟨rfl, h2, h3, h4⟩
  have hP := hI.2.2.1 _ hq.2.1.1 hq.2.1.2
  unfold PkOK at hP
  refine r_aload_n C 0 dX4_beginPiece_0 rfl rfl ?_
  refine r_aload_n C 0 dX4_beginPiece_1 rfl rfl ?_
  refine r_getR C fl_X4_26 rfl dX4_beginPiece_2 hS.1.1 hS.2.1.2.1 ?_
  refine r_iload_n C 1 dX4_beginPiece_5 rfl rfl ?_
  refine r_aald C (by decide) (by decide) f dX4_beginPiece_6 hS.1.2.2.1 ⟨congrArg iI (by omega), (by omega), by decide⟩ (hS.2.2.1 f (by omega)).2.2.2.1 ?_
  refine cV0_PI C (k_X0_head f hS hf6 (show 0 ≤ X (17 + 18 * f + 17) ∧ X (17 + 18 * f + 17) ≤ 20 by rw [show X (17 + 18 * f + 17) = (a (17 + 18 * f + 17)) from (hR.f hf2 (fk_y (by decide) (by decide)))]; omega)) cw_X4_102 (rm_ok rfl rfl (Nat.zero_le _) (Nat.zero_le _)) (Nat.le_of_ble_eq_true rfl) (hS.2.2.1 f (by omega)).1 dX4_beginPiece_7 ?_
  refine n_eqi (y := (hdF a f)) (hd_R hI hR hf2) ?_
  refine cV1_PA C (k_X4_packetAt ((hdF a f).toNat) hS (by omega) (by omega)) cw_X4_91 (rm_ok rfl rfl (Nat.zero_le _) (Nat.zero_le _)) (Nat.le_of_ble_eq_true rfl) hS.1.1 dX4_beginPiece_10 ?_
  refine r_astore_n (lo' := [(3, .ref (B + (22 + ((hdF a f).toNat % 120)))), (0, .ref B), (1, .int (iI fi)), (2, .int (iI z))]) C dX4_beginPiece_13 rfl (by decide) rfl ?_
  refine r_aload_n C 1 dX4_beginPiece_14 rfl rfl ?_
  refine r_getR C fl_X4_26 rfl dX4_beginPiece_15 hS.1.1 hS.2.1.2.1 ?_
  refine r_iload_n C 2 dX4_beginPiece_18 rfl rfl ?_
  refine r_aald C (by decide) (by decide) f dX4_beginPiece_19 hS.1.2.2.1 ⟨congrArg iI (by omega), (by omega), by decide⟩ (hS.2.2.1 f hf6).2.2.2.1 ?_
  refine r_getR C fl_X4_119 rfl dX4_beginPiece_20 (hS.2.2.1 f hf6).1 (hS.2.2.1 f hf6).2.2.2.2.1 ?_
  refine r_iconst (v := iI 2) C dX4_beginPiece_23 rfl ?_
  refine c_iald C (v := (a (17 + 18 * f + 2))) (4 + 3 * f) 2 ((17 + 18 * f + 2)) rfl (oG hf6) (lnG1 hf6) (ky_G hf6 (by omega)) dX4_beginPiece_24 (hS.2.2.1 f hf6).2.1 ⟨rfl, by decide, by decide⟩ (hR.f hf2 (fk_y (by decide) (by decide))) ?_
  refine r_istore (lo' := [(4, .int (iI (a (17 + 18 * f + 2)))), (3, .ref (B + (22 + ((hdF a f).toNat % 120)))), (0, .ref B), (1, .int (iI fi)), (2, .int (iI z))]) C dX4_beginPiece_25 (by decide) rfl ?_
  refine r_aload_n C 1 dX4_beginPiece_27 rfl rfl ?_
  refine r_iconst (v := iI 1) C dX4_beginPiece_28 rfl ?_
  refine c_putI C (22 + ((hdF a f).toNat % 120)) ((125 + 11 * ((hdF a f).toNat % 120) + 4)) rfl (oP m120) (lnP m120 (by decide)) (ky_P m120 4) fl_X4_120 rfl dX4_beginPiece_29 (hS.2.2.2.1 ((hdF a f).toNat % 120) m120).1 (fun a29 ea29 => ?_)
  refine r_aload_n C 2 dX4_beginPiece_32 rfl rfl ?_
  refine r_getR C fl_X4_45 rfl dX4_beginPiece_33 hS.1.1 hS.2.1.2.2.2.2.1 ?_
  refine r_aload_n C 2 dX4_beginPiece_36 rfl rfl ?_
  refine r_getR C fl_X4_26 rfl dX4_beginPiece_37 hS.1.1 hS.2.1.2.1 ?_
  refine r_iload_n C 3 dX4_beginPiece_40 rfl rfl ?_
  refine r_aald C (by decide) (by decide) f dX4_beginPiece_41 hS.1.2.2.1 ⟨congrArg iI (by omega), (by omega), by decide⟩ (hS.2.2.1 f hf6).2.2.2.1 ?_
  refine cV0_PI C (k_X0_head f hS hf6 (show 0 ≤ a29 (17 + 18 * f + 17) ∧ a29 (17 + 18 * f + 17) ≤ 20 by rw [show a29 (17 + 18 * f + 17) = (a (17 + 18 * f + 17)) from (by rw [ea29, up1_n (xFP hf6 (by decide))]; exact (hR.f hf2 (fk_y (by decide) (by decide))))]; omega)) cw_X4_102 (rm_ok rfl rfl (Nat.zero_le _) (Nat.zero_le _)) (Nat.le_of_ble_eq_true rfl) (hS.2.2.1 f hf6).1 dX4_beginPiece_42 ?_
  refine n_eqi (y := (hdF a f)) (by rw [ea29, up1_n (by omega), up1_n (by omega)]; exact hd_R hI hR hf2) ?_
  refine c_putI C 203 8 rfl (by decide) ln203 rfl fl_X4_162 rfl dX4_beginPiece_45 hS.1.2.2.2.2.2.1 (fun a45 ea45 => ?_)
  refine r_aload_n C 2 dX4_beginPiece_48 rfl rfl ?_
  refine r_getR C fl_X4_45 rfl dX4_beginPiece_49 hS.1.1 hS.2.1.2.2.2.2.1 ?_
  refine r_iload_n C 3 dX4_beginPiece_52 rfl rfl ?_
  refine c_putI C 203 3818 rfl (by decide) ln203 rfl fl_X4_258 rfl dX4_beginPiece_53 hS.1.2.2.2.2.2.1 (fun a53 ea53 => ?_)
  refine r_aload_n C 2 dX4_beginPiece_56 rfl rfl ?_
  refine r_getR C fl_X4_45 rfl dX4_beginPiece_57 hS.1.1 hS.2.1.2.2.2.2.1 ?_
  have jn81 : ∀ x81 : Int, (¬ (a (17 + 18 * f + 2)) = 0 ∧ x81 = (if (a (17 + 18 * f + 2)) < ((a (125 + 11 * ((hdF a f).toNat % 120) + 1)) - (a (125 + 11 * ((hdF a f).toNat % 120) + 5))) then (a (17 + 18 * f + 2)) else ((a (125 + 11 * ((hdF a f).toNat % 120) + 1)) - (a (125 + 11 * ((hdF a f).toNat % 120) + 5))))) ∨ ((a (17 + 18 * f + 2)) = 0 ∧ x81 = ((a (125 + 11 * ((hdF a f).toNat % 120) + 1)) - (a (125 + 11 * ((hdF a f).toNat % 120) + 5)))) → Bd zp l ze (rmz 2 43) zs zm zargs zbl zmt zc 5 G base (EV Y (fun I' L' => ∃ X', Rl m (bgZ a f (hdF a f).toNat z) X' ∧ ((∀ k, 17 ≤ k → k < 125 → X' k = X k) ∧ X' 8356 = X 8356) ∧ I' = cI I B X' ∧ L' = cL L B X')) 81 [(4, .int (iI (a (17 + 18 * f + 2)))), (3, .ref (B + (22 + ((hdF a f).toNat % 120)))), (0, .ref B), (1, .int (iI fi)), (2, .int (iI z))] [.int (iI x81), .ref (B + 203)] Y (cI I B a53) (cL L B a53) 0 0 := by
    intro x81 hx81
    have hB : x81 = bgN a f (hdF a f).toNat := by
      unfold bgN
      rcases hx81 with ⟨h1, h2⟩ | ⟨h1, h2⟩
      · rw [h2]
        by_cases hc : a (17 + 18 * f + 2) < a (125 + 11 * ((hdF a f).toNat % 120) + 1) - a (125 + 11 * ((hdF a f).toNat % 120) + 5)
        · rw [if_pos hc, if_pos ⟨by omega, hc⟩]
        · rw [if_neg hc, if_neg (fun z => hc z.2)]
      · rw [h2, if_neg (by omega)]
    refine c_putI C 203 9 rfl (by decide) ln203 rfl fl_X4_183 rfl dX4_beginPiece_81 hS.1.2.2.2.2.2.1 (fun a81 ea81 => ?_)
    refine r_aload_n C 2 dX4_beginPiece_84 rfl rfl ?_
    refine r_getR C fl_X4_45 rfl dX4_beginPiece_85 hS.1.1 hS.2.1.2.2.2.2.1 ?_
    refine r_aload_n C 2 dX4_beginPiece_88 rfl rfl ?_
    refine r_getR C fl_X4_13 rfl dX4_beginPiece_89 hS.1.1 hS.2.1.1 ?_
    refine r_iconst (v := iI 0) C dX4_beginPiece_92 rfl ?_
    refine c_iald C (v := (a 3)) 1 0 3 rfl (by decide) ln1 rfl dX4_beginPiece_93 hS.1.2.1 ⟨rfl, by decide, by decide⟩ (by rw [ea81, up1_n (by decide), ea53, up1_n (by decide), ea45, up1_n (by decide), ea29, up1_n (xNP (by decide))]; exact (hR.n 3 (by decide) (by decide))) ?_
    refine c_putI C 203 12 rfl (by decide) ln203 rfl fl_X4_211 rfl dX4_beginPiece_94 hS.1.2.2.2.2.2.1 (fun a94 ea94 => ?_)
    refine r_aload_n C 2 dX4_beginPiece_97 rfl rfl ?_
    refine r_getR C fl_X4_45 rfl dX4_beginPiece_98 hS.1.1 hS.2.1.2.2.2.2.1 ?_
    refine r_aload_n C 2 dX4_beginPiece_101 rfl rfl ?_
    refine r_getR C fl_X4_45 rfl dX4_beginPiece_102 hS.1.1 hS.2.1.2.2.2.2.1 ?_
    refine c_getI C (v := (a 3)) 203 12 rfl (by decide) ln203 rfl fl_X4_211 rfl dX4_beginPiece_105 hS.1.2.2.2.2.2.1 (by rw [ea94, up1_s]) ?_
    refine r_aload_n C 2 dX4_beginPiece_108 rfl rfl ?_
    refine r_getR C fl_X4_45 rfl dX4_beginPiece_109 hS.1.1 hS.2.1.2.2.2.2.1 ?_
    refine c_getI C (v := x81) 203 9 rfl (by decide) ln203 rfl fl_X4_183 rfl dX4_beginPiece_112 hS.1.2.2.2.2.2.1 (by rw [ea94, up1_n (by decide), ea81, up1_s]) ?_
    refine n_iadd C dX4_beginPiece_115 ?_
    refine c_putI C 203 10 rfl (by decide) ln203 rfl fl_X4_168 rfl dX4_beginPiece_116 hS.1.2.2.2.2.2.1 (fun a116 ea116 => ?_)
    refine r_aload_n C 2 dX4_beginPiece_119 rfl rfl ?_
    refine r_getR C fl_X4_45 rfl dX4_beginPiece_120 hS.1.1 hS.2.1.2.2.2.2.1 ?_
    refine r_iload_n C 4 dX4_beginPiece_123 rfl rfl ?_
    refine c_putZ C 203 11 rfl (by decide) ln203 rfl fl_X4_191 rfl dX4_beginPiece_124 hS.1.2.2.2.2.2.1 hz01 (fun a124 ea124 => ?_)
    refine r_vret C hr hlk dX4_beginPiece_127 (Nat.zero_le _) (Nat.zero_le _) ?_
    refine ⟨rfl, rfl, a124, ?_, ⟨fun k k1 k2 => ?_, ?_⟩, rfl, rfl⟩
    · rw [ea124, ea116, ea94, ea81, ea53, ea45, ea29, hB, hfi, hq.1]
      exact Rl.bg hI hR hq.2.1 hq.2.2.1 hq.2.2.2
    · rw [ea124, ea116, ea94, ea81, ea53, ea45, ea29, up1_n (by omega), up1_n (by omega), up1_n (by omega), up1_n (by omega), up1_n (by omega), up1_n (by omega), up1_n (by omega)]
    · rw [ea124, ea116, ea94, ea81, ea53, ea45, ea29, up1_n (by omega), up1_n (by omega), up1_n (by omega), up1_n (by omega), up1_n (by omega), up1_n (by omega), up1_n (by omega)]
  refine r_iload C 0 dX4_beginPiece_60 rfl ?_
  refine n_if_ne (tgt := 72) C dX4_beginPiece_62 (by decide) (by constructor <;> omega) (fun c62 => ?_) (fun c62 => ?_)
  · refine r_iload C 0 dX4_beginPiece_72 rfl ?_
    refine r_aload_n C 1 dX4_beginPiece_74 rfl rfl ?_
    refine cV0_PI C (k_X1_unsent ((hdF a f).toNat % 120) hS m120) cw_X4_95 (rm_ok rfl rfl (Nat.zero_le _) (Nat.zero_le _)) (Nat.le_of_ble_eq_true rfl) (hS.2.2.2.1 ((hdF a f).toNat % 120) m120).1 dX4_beginPiece_75 ?_
    refine n_eqi (y := ((a (125 + 11 * ((hdF a f).toNat % 120) + 1)) - (a (125 + 11 * ((hdF a f).toNat % 120) + 5)))) (by rw [show a53 (125 + 11 * ((hdF a f).toNat % 120) + 1) = (a (125 + 11 * ((hdF a f).toNat % 120) + 1)) from (by rw [ea53, up1_n (by omega), ea45, up1_n (xPN (by decide)), ea29, up1_n (xSS (by decide))]; exact (hR.p hq.2.1 (by decide))), show a53 (125 + 11 * ((hdF a f).toNat % 120) + 5) = (a (125 + 11 * ((hdF a f).toNat % 120) + 5)) from (by rw [ea53, up1_n (by omega), ea45, up1_n (xPN (by decide)), ea29, up1_n (xSS (by decide))]; exact (hR.p hq.2.1 (by decide)))]) ?_
    refine cS2_PI C (k_J9_min_7cf53 (by constructor <;> omega) (by constructor <;> omega)) cw_X4_259 (rm_ok rfl rfl (Nat.zero_le _) (Nat.zero_le _)) (Nat.le_of_ble_eq_true rfl) dX4_beginPiece_78 ?_
    exact jn81 _ (Or.inl ⟨c62, rfl⟩)
  · refine r_aload_n C 1 dX4_beginPiece_65 rfl rfl ?_
    refine cV0_PI C (k_X1_unsent ((hdF a f).toNat % 120) hS m120) cw_X4_95 (rm_ok rfl rfl (Nat.zero_le _) (Nat.zero_le _)) (Nat.le_of_ble_eq_true rfl) (hS.2.2.2.1 ((hdF a f).toNat % 120) m120).1 dX4_beginPiece_66 ?_
    refine n_eqi (y := ((a (125 + 11 * ((hdF a f).toNat % 120) + 1)) - (a (125 + 11 * ((hdF a f).toNat % 120) + 5)))) (by rw [show a53 (125 + 11 * ((hdF a f).toNat % 120) + 1) = (a (125 + 11 * ((hdF a f).toNat % 120) + 1)) from (by rw [ea53, up1_n (by omega), ea45, up1_n (xPN (by decide)), ea29, up1_n (xSS (by decide))]; exact (hR.p hq.2.1 (by decide))), show a53 (125 + 11 * ((hdF a f).toNat % 120) + 5) = (a (125 + 11 * ((hdF a f).toNat % 120) + 5)) from (by rw [ea53, up1_n (by omega), ea45, up1_n (xPN (by decide)), ea29, up1_n (xSS (by decide))]; exact (hR.p hq.2.1 (by decide)))]) ?_
    refine r_goto (tgt := 81) C dX4_beginPiece_69 (by decide) ?_
    exact jn81 _ (Or.inr (⟨c62, rfl⟩))
set_option maxHeartbeats 4000000 in
set_option maxRecDepth 20000 in
theorem k_X4_beginPieceIfFree {l : Launch} {G : Gd} {base : Nat} {Y : MY} {I : MI} {L : ML} {B : Nat} {X : Sa} {m : Bool} {a : Sa} {N T : Int}  (hS : SLy base Y B) (hI : Inv N T a) (hR : Rl m a X) (h8 : a 8 = -6 ∨ (0 ≤ a 8 ∧ a 8 ≤ 400000)) : Ct l yX4_beginPieceIfFree cX4_beginPieceIfFree 3 (none) (rmz 4 91) G base [.ref B] Y (cI I B X) (cL L B X) (EV Y (fun I' L' => ∃ X', Rl m (if a 8 < 0 then bgn a else a) X' ∧ ((∀ k, 17 ≤ k → k < 125 → X' k = X k) ∧ X' 8356 = X 8356) ∧ I' = cI I B X' ∧ L' = cL L B X')) := by
  refine Ct.of (own := RX4) (lo := [(0, .ref B)]) (by decide) rfl (Nat.le_of_ble_eq_true rfl) rfl ?_
  intro zp ze zs zm zargs zbl zmt zc C hr hlk hnm
  have hT := hI.1
  unfold TopOK at hT
  have hub : nxU a (a 2).toNat = -6 ∨ (0 ≤ nxU a (a 2).toNat ∧ nxU a (a 2).toNat ≤ 6) := by
    rcases nxU_ok (a := a) (a 2).toNat with h | ⟨f, h1, h2, h3⟩ <;> omega
  have hlb : nxL a (a 2).toNat = -6 ∨ (0 ≤ nxL a (a 2).toNat ∧ nxL a (a 2).toNat ≤ 6) := by
    rcases nxL_ok hI (a 2).toNat (by omega) with ⟨h, _⟩ | ⟨f, h1, h2, h3⟩ <;> omega
  refine r_aload_n C 0 dX4_beginPieceIfFree_0 rfl rfl ?_
  refine r_getR C fl_X4_45 rfl dX4_beginPieceIfFree_1 hS.1.1 hS.2.1.2.2.2.2.1 ?_
  refine c_getI C (v := (a 8)) 203 8 rfl (by decide) ln203 rfl fl_X4_162 rfl dX4_beginPieceIfFree_4 hS.1.2.2.2.2.2.1 (hR.n 8 (by decide) (by decide)) ?_
  refine r_bipush (v := iI (-6)) C dX4_beginPieceIfFree_7 (by decide) ?_
  refine n_icmp_eq (tgt := 13) C dX4_beginPieceIfFree_9 (by decide) (by constructor <;> omega) ⟨by decide, by decide⟩ (fun c9 => ?_) (fun c9 => ?_)
  · refine r_aload_n C 0 dX4_beginPieceIfFree_13 rfl rfl ?_
    refine cV0_PI C (k_X4_urgentFlow hS hI hR) cw_X4_245 (rm_ok rfl rfl (Nat.zero_le _) (Nat.zero_le _)) (Nat.le_of_ble_eq_true rfl) hS.1.1 dX4_beginPieceIfFree_14 ?_
    refine n_topi (fun x17 ex17 => ?_)
    refine r_istore_n (lo' := [(1, .int (iI x17)), (0, .ref B)]) C dX4_beginPieceIfFree_17 rfl (by decide) rfl ?_
    have jn32 : ∀ x32 : Int, (¬ x17 = (-6) ∧ x32 = x17) ∨ (x17 = (-6) ∧ x32 = (nxL a (a 2).toNat)) → Bd zp l ze (rmz 4 91) zs zm zargs zbl zmt zc 3 G base (EV Y (fun I' L' => ∃ X', Rl m (if a 8 < 0 then bgn a else a) X' ∧ ((∀ k, 17 ≤ k → k < 125 → X' k = X k) ∧ X' 8356 = X 8356) ∧ I' = cI I B X' ∧ L' = cL L B X')) 32 [(1, .int (iI x17)), (0, .ref B)] [.int (iI x32)] Y (cI I B X) (cL L B X) 0 0 := by
      intro x32 hx32
      have hnt : x32 = nxt a := by
        unfold nxt
        split <;> omega
      refine r_istore_n (lo' := [(2, .int (iI x32)), (1, .int (iI x17)), (0, .ref B)]) C dX4_beginPieceIfFree_32 rfl (by decide) rfl ?_
      refine r_iload_n C 0 dX4_beginPieceIfFree_33 rfl rfl ?_
      refine r_bipush (v := iI (-6)) C dX4_beginPieceIfFree_34 (by decide) ?_
      refine n_icmp_ne (tgt := 40) C dX4_beginPieceIfFree_36 (by decide) (by constructor <;> omega) ⟨by decide, by decide⟩ (fun c36 => ?_) (fun c36 => ?_)
      · have hnx : ((((nxt a).toNat : Nat) : Int) < a 2) ∧ ¬ hdF a (nxt a).toNat < 0 := by
          rcases nxt_ok hI with ⟨h, _⟩ | ⟨f, h1, h2, h3⟩
          · omega
          · rw [h1]; exact ⟨by rw [show ((f : Nat) : Int).toNat = f from rfl]; omega, h3⟩
        have hn6 : (nxt a).toNat < 6 := by omega
        have hn17 : ¬ a (17 + 18 * (nxt a).toNat + 17) = 0 := fun z => hnx.2 ((hd_neg hI hnx.1).mpr z)
        have htg := tag_b hI hnx.1
        refine r_iload_n C 1 dX4_beginPieceIfFree_40 rfl rfl ?_
        refine r_bipush (v := iI (-6)) C dX4_beginPieceIfFree_41 (by decide) ?_
        refine n_icmp_ne (tgt := 67) C dX4_beginPieceIfFree_43 (by decide) (by constructor <;> omega) ⟨by decide, by decide⟩ (fun c43 => ?_) (fun c43 => ?_)
        · refine r_aload_n C 2 dX4_beginPieceIfFree_67 rfl rfl ?_
          refine r_iload_n C 0 dX4_beginPieceIfFree_68 rfl rfl ?_
          have jn80 : ∀ x80 : Int, (x17 = (-6) ∧ x80 = 0) ∨ (¬ x17 = (-6) ∧ x80 = 1) → Bd zp l ze (rmz 4 91) zs zm zargs zbl zmt zc 3 G base (EV Y (fun I' L' => ∃ X', Rl m (if a 8 < 0 then bgn a else a) X' ∧ ((∀ k, 17 ≤ k → k < 125 → X' k = X k) ∧ X' 8356 = X 8356) ∧ I' = cI I B X' ∧ L' = cL L B X')) 80 [(2, .int (iI x32)), (1, .int (iI x17)), (0, .ref B)] [.int (iI x80), .int (iI x32), .ref B] Y (cI I B X) (cL L B X) 0 0 := by
            intro x80 hx80
            refine cV2_EV C (k_X4_beginPiece (nxt a).toNat hS hI hR (by omega) hnx.1 hn17 (by omega)) cw_X4_255 (rm_ok rfl rfl (Nat.zero_le _) (Nat.zero_le _)) (Nat.le_of_ble_eq_true rfl) hS.1.1 dX4_beginPieceIfFree_80 (fun I80 L80 h80 => ?_)
            obtain ⟨a80, h80R, h80z, h80I, h80L⟩ := h80
            subst h80I
            subst h80L
            refine r_vret C hr hlk dX4_beginPieceIfFree_83 (Nat.zero_le _) (Nat.zero_le _) ?_
            have hu : ¬ nxU a (a 2).toNat < 0 := by omega
            refine ⟨rfl, rfl, a80, ?_, h80z, rfl, rfl⟩
            rw [if_pos (by omega)]
            unfold bgn
            rw [if_neg (by omega)]
            have e := h80R
            unfold bgZ at e
            unfold bgA
            rw [if_neg hu, if_neg hu]
            rw [show x80 = 1 by omega] at e
            exact e
          refine r_iload_n C 1 dX4_beginPieceIfFree_69 rfl rfl ?_
          refine r_bipush (v := iI (-6)) C dX4_beginPieceIfFree_70 (by decide) ?_
          refine n_icmp_eq (tgt := 79) C dX4_beginPieceIfFree_72 (by decide) (by constructor <;> omega) ⟨by decide, by decide⟩ (fun c72 => ?_) (fun c72 => ?_)
          · refine r_iconst (v := iI 0) C dX4_beginPieceIfFree_79 rfl ?_
            exact jn80 _ (Or.inl ⟨c72, rfl⟩)
          · refine r_iconst (v := iI 1) C dX4_beginPieceIfFree_75 rfl ?_
            refine r_goto (tgt := 80) C dX4_beginPieceIfFree_76 (by decide) ?_
            exact jn80 _ (Or.inr (⟨c72, rfl⟩))
        · refine r_aload_n C 2 dX4_beginPieceIfFree_46 rfl rfl ?_
          refine r_aload_n C 2 dX4_beginPieceIfFree_47 rfl rfl ?_
          refine c_getL C (v := (a 1)) 0 1 rfl (by decide) lnSy rfl fl_X4_123 rfl dX4_beginPieceIfFree_48 hS.1.1 (hR.n 1 (by decide) (by decide)) ?_
          refine r_aload_n C 2 dX4_beginPieceIfFree_51 rfl rfl ?_
          refine r_aload_n C 2 dX4_beginPieceIfFree_52 rfl rfl ?_
          refine r_getR C fl_X4_26 rfl dX4_beginPieceIfFree_53 hS.1.1 hS.2.1.2.1 ?_
          refine r_iload_n C 0 dX4_beginPieceIfFree_56 rfl rfl ?_
          refine r_aald C (by decide) (by decide) ((nxt a).toNat) dX4_beginPieceIfFree_57 hS.1.2.2.1 ⟨congrArg iI (by omega), (by omega), by decide⟩ (hS.2.2.1 (nxt a).toNat hn6).2.2.2.1 ?_
          refine cV1_PL C (k_X4_tagOrFinish ((nxt a).toNat) hS hI hR hnx.1 hn6 (Or.inr hn17)) cw_X4_251 (rm_ok rfl rfl (Nat.zero_le _) (Nat.zero_le _)) (Nat.le_of_ble_eq_true rfl) hS.1.1 dX4_beginPieceIfFree_58 ?_
          refine cS2_PL C (k_J9_max_f86c9 (by constructor <;> omega) (by constructor <;> omega)) cw_X4_126 (rm_ok rfl rfl (Nat.zero_le _) (Nat.zero_le _)) (Nat.le_of_ble_eq_true rfl) dX4_beginPieceIfFree_61 ?_
          refine n_topl (fun y61 ey61 => ?_)
          have ky61 : ((a 1) < (tag a (nxt a).toNat) ∧ y61 = (tag a (nxt a).toNat)) ∨ ((tag a (nxt a).toNat) ≤ (a 1) ∧ y61 = (a 1)) := by rw [ey61]; split <;> omega
          refine c_putL C 0 1 rfl (by decide) lnSy rfl fl_X4_123 rfl dX4_beginPieceIfFree_64 hS.1.1 (fun a64 ea64 => ?_)
          have hI64 : Inv N T (up1 a 1 y61) := Inv_1 hI (by omega)
          have hR64 : Rl m (up1 a 1 y61) a64 := by
            rw [ea64]
            exact hR.upN 1 _ (by decide) (by decide)
          refine r_aload_n C 2 dX4_beginPieceIfFree_67 rfl rfl ?_
          refine r_iload_n C 0 dX4_beginPieceIfFree_68 rfl rfl ?_
          have jn80 : ∀ x80 : Int, (x17 = (-6) ∧ x80 = 0) ∨ (¬ x17 = (-6) ∧ x80 = 1) → Bd zp l ze (rmz 4 91) zs zm zargs zbl zmt zc 3 G base (EV Y (fun I' L' => ∃ X', Rl m (if a 8 < 0 then bgn a else a) X' ∧ ((∀ k, 17 ≤ k → k < 125 → X' k = X k) ∧ X' 8356 = X 8356) ∧ I' = cI I B X' ∧ L' = cL L B X')) 80 [(2, .int (iI x32)), (1, .int (iI x17)), (0, .ref B)] [.int (iI x80), .int (iI x32), .ref B] Y (cI I B a64) (cL L B a64) 0 0 := by
            intro x80 hx80
            refine cV2_EV C (k_X4_beginPiece (nxt a).toNat hS hI64 hR64 (by omega) (by rw [up1_n (by decide)]; exact hnx.1) (by rw [up1_n (by omega)]; exact hn17) (by omega)) cw_X4_255 (rm_ok rfl rfl (Nat.zero_le _) (Nat.zero_le _)) (Nat.le_of_ble_eq_true rfl) hS.1.1 dX4_beginPieceIfFree_80 (fun I80 L80 h80 => ?_)
            obtain ⟨a80, h80R, h80z, h80I, h80L⟩ := h80
            subst h80I
            subst h80L
            refine r_vret C hr hlk dX4_beginPieceIfFree_83 (Nat.zero_le _) (Nat.zero_le _) ?_
            have hu : nxU a (a 2).toNat < 0 := by omega
            have hV : y61 = bgV a := by
              unfold bgV
              rw [if_pos hu, show tag a (nxt a).toNat = tag a (nxt a).toNat from rfl]
              split <;> omega
            refine ⟨rfl, rfl, a80, ?_, ⟨fun k k1 k2 => ?_, ?_⟩, rfl, rfl⟩
            · rw [if_pos (by omega)]
              unfold bgn
              rw [if_neg (by omega)]
              have e := h80R
              rw [hdF_1] at e
              have eB : bgN (up1 a 1 y61) (nxt a).toNat (hdF a (nxt a).toNat).toNat = bgN a (nxt a).toNat (hdF a (nxt a).toNat).toNat := by
                unfold bgN
                rw [up1_n (by omega), up1_n (by omega), up1_n (by omega)]
              unfold bgZ at e
              rw [eB, up1_n (show (3 : Nat) ≠ 1 by decide)] at e
              unfold bgA
              rw [if_pos hu, if_pos hu, ← hV]
              rw [show x80 = 0 by omega] at e
              exact e
            · rw [h80z.1 k k1 k2, ea64, up1_n (by omega)]
            · rw [h80z.2, ea64, up1_n (by omega)]
          refine r_iload_n C 1 dX4_beginPieceIfFree_69 rfl rfl ?_
          refine r_bipush (v := iI (-6)) C dX4_beginPieceIfFree_70 (by decide) ?_
          refine n_icmp_eq (tgt := 79) C dX4_beginPieceIfFree_72 (by decide) (by constructor <;> omega) ⟨by decide, by decide⟩ (fun c72 => ?_) (fun c72 => ?_)
          · refine r_iconst (v := iI 0) C dX4_beginPieceIfFree_79 rfl ?_
            exact jn80 _ (Or.inl ⟨c72, rfl⟩)
          · refine r_iconst (v := iI 1) C dX4_beginPieceIfFree_75 rfl ?_
            refine r_goto (tgt := 80) C dX4_beginPieceIfFree_76 (by decide) ?_
            exact jn80 _ (Or.inr (⟨c72, rfl⟩))
      · refine r_vret C hr hlk dX4_beginPieceIfFree_39 (Nat.zero_le _) (Nat.zero_le _) ?_
        refine ⟨rfl, rfl, X, ?_, ⟨fun _ _ _ => rfl, rfl⟩, rfl, rfl⟩
        rw [if_pos (by omega)]
        unfold bgn
        rw [if_pos (by omega)]
        exact hR
    refine r_iload_n C 0 dX4_beginPieceIfFree_18 rfl rfl ?_
    refine r_bipush (v := iI (-6)) C dX4_beginPieceIfFree_19 (by decide) ?_
    refine n_icmp_ne (tgt := 31) C dX4_beginPieceIfFree_21 (by decide) (by constructor <;> omega) ⟨by decide, by decide⟩ (fun c21 => ?_) (fun c21 => ?_)
    · refine r_iload_n C 0 dX4_beginPieceIfFree_31 rfl rfl ?_
      exact jn32 _ (Or.inl ⟨c21, rfl⟩)
    · refine r_aload_n C 1 dX4_beginPieceIfFree_24 rfl rfl ?_
      refine cV0_PI C (k_X4_leastTagFlow hS hI hR) cw_X4_248 (rm_ok rfl rfl (Nat.zero_le _) (Nat.zero_le _)) (Nat.le_of_ble_eq_true rfl) hS.1.1 dX4_beginPieceIfFree_25 ?_
      refine r_goto (tgt := 32) C dX4_beginPieceIfFree_28 (by decide) ?_
      exact jn32 _ (Or.inr (⟨c21, rfl⟩))
  · refine r_vret C hr hlk dX4_beginPieceIfFree_12 (Nat.zero_le _) (Nat.zero_le _) ?_
    refine ⟨rfl, rfl, X, ?_, ⟨fun _ _ _ => rfl, rfl⟩, rfl, rfl⟩
    rw [if_neg (by omega)]
    exact hR
