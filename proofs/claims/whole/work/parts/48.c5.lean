theorem ndX_n {X : Sa} {f k : Nat} {d z : Int} (h : k < 17 + 18 * f + 7 ∨ 17 + 18 * f + 10 < k) : ndX X f d z k = X k := by
  unfold ndX
  rw [up1_n (by omega), up1_n (by omega), up1_n (by omega), up1_n (by omega)]
theorem nd_c {Z : Sa} {f : Nat} {v7 v8 v9 v10 : Int} : (up1 (up1 (up1 (up1 Z (17 + 18 * f + 7) v7) (17 + 18 * f + 10) v10) (17 + 18 * f + 9) v9) (17 + 18 * f + 8) v8) = (up1 (up1 (up1 (up1 Z (17 + 18 * f + 7) v7) (17 + 18 * f + 8) v8) (17 + 18 * f + 9) v9) (17 + 18 * f + 10) v10) := by
  funext j
  by_cases e0 : j = (17 + 18 * f + 7)
  · subst e0
    rw [up1_n (by omega), up1_n (by omega), up1_n (by omega), up1_s, up1_n (by omega), up1_n (by omega), up1_n (by omega), up1_s]
  by_cases e1 : j = (17 + 18 * f + 10)
  · subst e1
    rw [up1_n (by omega), up1_n (by omega), up1_s, up1_s]
  by_cases e2 : j = (17 + 18 * f + 9)
  · subst e2
    rw [up1_n (by omega), up1_s, up1_n (by omega), up1_s]
  by_cases e3 : j = (17 + 18 * f + 8)
  · subst e3
    rw [up1_s, up1_n (by omega), up1_n (by omega), up1_s]
  rw [up1_n e3, up1_n e2, up1_n e1, up1_n e0, up1_n e1, up1_n e2, up1_n e3, up1_n e0]
theorem nd_dl {X : Sa} {f p : Nat} (hf : f < 6) : ndX (up1 (up1 X (125 + 11 * (p % 120) + 4) 3) (125 + 11 * (p % 120) + 8) (X 0)) f (X 0 - X (125 + 11 * (p % 120) + 2)) (b2 (¬ X (125 + 11 * (p % 120) + 3) = -6 ∧ X (125 + 11 * (p % 120) + 3) < X 0)) = dlP X f p := by
  unfold ndX dlP
  rw [show (up1 (up1 X (125 + 11 * (p % 120) + 4) 3) (125 + 11 * (p % 120) + 8) (X 0)) (17 + 18 * f + 7) = X (17 + 18 * f + 7) by rw [up1_n (by omega), up1_n (by omega)], show (up1 (up1 X (125 + 11 * (p % 120) + 4) 3) (125 + 11 * (p % 120) + 8) (X 0)) (17 + 18 * f + 10) = X (17 + 18 * f + 10) by rw [up1_n (by omega), up1_n (by omega)], show (up1 (up1 X (125 + 11 * (p % 120) + 4) 3) (125 + 11 * (p % 120) + 8) (X 0)) (17 + 18 * f + 9) = X (17 + 18 * f + 9) by rw [up1_n (by omega), up1_n (by omega)], show (up1 (up1 X (125 + 11 * (p % 120) + 4) 3) (125 + 11 * (p % 120) + 8) (X 0)) (17 + 18 * f + 8) = X (17 + 18 * f + 8) by rw [up1_n (by omega), up1_n (by omega)]]
  exact nd_c
theorem clX_n {X : Sa} {k : Nat} (h : ¬ k = 8 ∧ ¬ k = 9 ∧ ¬ k = 10 ∧ ¬ k = 11 ∧ ¬ k = 12 ∧ ¬ k = 3818 ∧ ¬ k = 5466) : clX X k = X k := by
  unfold clX
  rw [up1_n (by omega), up1_n (by omega), up1_n (by omega), up1_n (by omega), up1_n (by omega), up1_n (by omega), up1_n (by omega)]
theorem cpX_n {X : Sa} {j k : Nat} (hk : k < 3000 ∨ k = 3818) (h : k < 1445 + 5 * j ∨ 1445 + 5 * j + 5 ≤ k) : cpX X j k = X k := by
  unfold cpX jk
  rw [up1_n (by omega), up1_n (by omega), up1_n (by omega), up1_n (by omega), up1_n (by omega), up1_n (by omega), up1_n (by omega)]
/-- the piece that was being sent is noted, and none is being sent -/
def rcX (X : Sa) (r : Nat) : Sa := clX (up1 (cpX (up1 (up1 X 14 (X 14 + X 12)) 5466 (X 0)) (r % 60)) 15 (X 15 + 1))
set_option maxHeartbeats 4000000 in
set_option maxRecDepth 20000 in
theorem k_X4_deliver {l : Launch} {G : Gd} {base : Nat} {Y : MY} {I : MI} {L : ML} {B : Nat} {X : Sa} {pi : Int} (p f : Nat) (hS : SLy base Y B) (hp : pi = p) (hp2 : p ≤ 400000) (hf : X (125 + 11 * (p % 120) + 0) = f) (hf6 : f < 6) (h0 : 0 ≤ X 0 ∧ X 0 ≤ 1002000) (h2 : 0 ≤ X (125 + 11 * (p % 120) + 2) ∧ X (125 + 11 * (p % 120) + 2) ≤ X 0) (h3 : -6 ≤ X (125 + 11 * (p % 120) + 3) ∧ X (125 + 11 * (p % 120) + 3) ≤ 2000000) (h9 : 0 ≤ X (17 + 18 * f + 9) ∧ X (17 + 18 * f + 9) ≤ 1002000) (hz : X 8356 = -6 ∨ (0 ≤ X 8356 ∧ X 8356 ≤ 400000)) : Ct l yX4_deliver cX4_deliver 3 (none) (rmz 2 43) G base [.ref B, .int (iI pi)] Y (cI I B X) (cL L B X) (EV Y (fun I' L' => I' = cI I B (up1 (dlP X f p) 8356 (fdN (X 8356) p)) ∧ L' = cL L B (up1 (dlP X f p) 8356 (fdN (X 8356) p)))) := by
  refine Ct.of (own := RX4) (lo := [(0, .ref B), (1, .int (iI pi))]) (by decide) rfl (Nat.le_of_ble_eq_true rfl) rfl ?_
  intro zp ze zs zm zargs zbl zmt zc C hr hlk hnm
  refine r_aload_n C 0 dX4_deliver_0 rfl rfl ?_
  refine r_iload_n C 1 dX4_deliver_1 rfl rfl ?_
  refine cV1_PA C (k_X4_packetAt p hS (by omega) (by omega)) cw_X4_91 (rm_ok rfl rfl (Nat.zero_le _) (Nat.zero_le _)) (Nat.le_of_ble_eq_true rfl) hS.1.1 dX4_deliver_2 ?_
  refine r_astore_n (lo' := [(2, .ref (B + (22 + (p % 120)))), (0, .ref B), (1, .int (iI pi))]) C dX4_deliver_5 rfl (by decide) rfl ?_
  refine r_aload_n C 0 dX4_deliver_6 rfl rfl ?_
  refine r_iconst (v := iI 3) C dX4_deliver_7 rfl ?_
  refine c_putI C (22 + (p % 120)) ((125 + 11 * (p % 120) + 4)) rfl (oP m120) (lnP m120 (by decide)) (ky_P m120 4) fl_X4_120 rfl dX4_deliver_8 (hS.2.2.2.1 (p % 120) m120).1 (fun a8 ea8 => ?_)
  refine r_aload_n C 0 dX4_deliver_11 rfl rfl ?_
  refine r_aload_n C 1 dX4_deliver_12 rfl rfl ?_
  refine c_getI C (v := (X 0)) 0 0 rfl (by decide) (lnS (by decide)) rfl fl_X4_129 rfl dX4_deliver_13 hS.1.1 (by rw [ea8, up1_n (xNP (by decide))]) ?_
  refine c_putI C (22 + (p % 120)) ((125 + 11 * (p % 120) + 8)) rfl (oP m120) (lnP m120 (by decide)) (ky_P m120 9) fl_X4_228 rfl dX4_deliver_16 (hS.2.2.2.1 (p % 120) m120).1 (fun a16 ea16 => ?_)
  refine r_aload_n C 1 dX4_deliver_19 rfl rfl ?_
  refine r_getR C fl_X4_26 rfl dX4_deliver_20 hS.1.1 hS.2.1.2.1 ?_
  refine r_aload_n C 0 dX4_deliver_23 rfl rfl ?_
  refine c_getI C (v := (X (125 + 11 * (p % 120) + 0))) (22 + (p % 120)) ((125 + 11 * (p % 120) + 0)) rfl (oP m120) (lnP m120 (by decide)) (ky_P m120 0) fl_X4_180 rfl dX4_deliver_24 (hS.2.2.2.1 (p % 120) m120).1 (by rw [ea16, up1_n (xSS (by decide)), ea8, up1_n (xSS (by decide))]) ?_
  refine r_aald C (by decide) (by decide) f dX4_deliver_27 hS.1.2.2.1 ⟨congrArg iI (by omega), (by omega), by decide⟩ (hS.2.2.1 f hf6).2.2.2.1 ?_
  refine r_aload_n C 0 dX4_deliver_28 rfl rfl ?_
  refine cV0_PI C (k_X1_delay (p % 120) hS m120) cw_X4_231 (rm_ok rfl rfl (Nat.zero_le _) (Nat.zero_le _)) (Nat.le_of_ble_eq_true rfl) (hS.2.2.2.1 (p % 120) m120).1 dX4_deliver_29 ?_
  refine n_eqi (y := ((X 0) - (X (125 + 11 * (p % 120) + 2)))) (by rw [show a16 (125 + 11 * (p % 120) + 8) = (X 0) from (by rw [ea16, up1_s]), show a16 (125 + 11 * (p % 120) + 2) = (X (125 + 11 * (p % 120) + 2)) from (by rw [ea16, up1_n (xSS (by decide)), ea8, up1_n (xSS (by decide))])]) ?_
  refine r_aload_n C 0 dX4_deliver_32 rfl rfl ?_
  refine cV0_PI C (k_X1_isLate (p % 120) hS m120 (show -6 ≤ a16 (125 + 11 * (p % 120) + 3) ∧ a16 (125 + 11 * (p % 120) + 3) ≤ 2000000 by rw [show a16 (125 + 11 * (p % 120) + 3) = (X (125 + 11 * (p % 120) + 3)) from (by rw [ea16, up1_n (xSS (by decide)), ea8, up1_n (xSS (by decide))])]; omega) (show -6 ≤ a16 (125 + 11 * (p % 120) + 8) ∧ a16 (125 + 11 * (p % 120) + 8) ≤ 2000000 by rw [show a16 (125 + 11 * (p % 120) + 8) = (X 0) from (by rw [ea16, up1_s])]; omega)) cw_X4_234 (rm_ok rfl rfl (Nat.zero_le _) (Nat.zero_le _)) (Nat.le_of_ble_eq_true rfl) (hS.2.2.2.1 (p % 120) m120).1 dX4_deliver_33 ?_
  refine n_eqi (y := (b2 (¬ (X (125 + 11 * (p % 120) + 3)) = -6 ∧ (X (125 + 11 * (p % 120) + 3)) < (X 0)))) (by rw [show a16 (125 + 11 * (p % 120) + 3) = (X (125 + 11 * (p % 120) + 3)) from (by rw [ea16, up1_n (xSS (by decide)), ea8, up1_n (xSS (by decide))]), show a16 (125 + 11 * (p % 120) + 8) = (X 0) from (by rw [ea16, up1_s])]) ?_
  refine cV2_EV C (k_X0_noteDelivery f hS hf6 (by omega) (by unfold b2; split <;> omega) (show 0 ≤ a16 (17 + 18 * f + 9) ∧ a16 (17 + 18 * f + 9) ≤ 2000000 by rw [show a16 (17 + 18 * f + 9) = (X (17 + 18 * f + 9)) from (by rw [ea16, up1_n (xFP hf6 (by decide)), ea8, up1_n (xFP hf6 (by decide))])]; omega)) cw_X4_238 (rm_ok rfl rfl (Nat.zero_le _) (Nat.zero_le _)) (Nat.le_of_ble_eq_true rfl) (hS.2.2.1 f hf6).1 dX4_deliver_36 (fun I36 L36 h36 => ?_)
  obtain ⟨h36I, h36L⟩ := h36
  obtain ⟨a36, ea36⟩ : ∃ z, z = ndX a16 f ((X 0) - (X (125 + 11 * (p % 120) + 2))) (b2 (¬ (X (125 + 11 * (p % 120) + 3)) = -6 ∧ (X (125 + 11 * (p % 120) + 3)) < (X 0))) := ⟨_, rfl⟩
  rw [← ea36] at h36I h36L
  subst h36I
  subst h36L
  refine r_aload_n C 1 dX4_deliver_39 rfl rfl ?_
  refine c_getI C (v := (X 8356)) 0 8356 rfl (by decide) (lnS (by decide)) rfl fl_X4_56 rfl dX4_deliver_40 hS.1.1 (by rw [ea36, ndX_n (by omega), ea16, up1_n (by omega), ea8, up1_n (by omega)]) ?_
  refine r_bipush (v := iI (-6)) C dX4_deliver_43 (by decide) ?_
  refine n_icmp_eq (tgt := 56) C dX4_deliver_45 (by decide) (by constructor <;> omega) ⟨by decide, by decide⟩ (fun c45 => ?_) (fun c45 => ?_)
  · refine r_aload_n C 1 dX4_deliver_56 rfl rfl ?_
    refine r_iload_n C 2 dX4_deliver_57 rfl rfl ?_
    refine c_putI C 0 8356 rfl (by decide) (lnS (by decide)) rfl fl_X4_56 rfl dX4_deliver_58 hS.1.1 (fun a58 ea58 => ?_)
    refine r_vret C hr hlk dX4_deliver_61 (Nat.zero_le _) (Nat.zero_le _) ?_
    have eD : a36 = dlP X f p := by rw [ea36, ea16, ea8]; exact nd_dl hf6
    have eX : a58 = up1 (dlP X f p) 8356 (fdN (X 8356) p) := by
      rw [ea58, eD, hp]
      unfold fdN
      rw [if_pos (by omega)]
    exact ⟨rfl, rfl, congrArg (cI I B) eX, congrArg (cL L B) eX⟩
  · refine r_iload_n C 2 dX4_deliver_48 rfl rfl ?_
    refine r_aload_n C 1 dX4_deliver_49 rfl rfl ?_
    refine c_getI C (v := (X 8356)) 0 8356 rfl (by decide) (lnS (by decide)) rfl fl_X4_56 rfl dX4_deliver_50 hS.1.1 (by rw [ea36, ndX_n (by omega), ea16, up1_n (by omega), ea8, up1_n (by omega)]) ?_
    refine n_icmp_ge (tgt := 61) C dX4_deliver_53 (by decide) (by constructor <;> omega) (by constructor <;> omega) (fun c53 => ?_) (fun c53 => ?_)
    · refine r_vret C hr hlk dX4_deliver_61 (Nat.zero_le _) (Nat.zero_le _) ?_
      have eD : a36 = dlP X f p := by rw [ea36, ea16, ea8]; exact nd_dl hf6
      have eX : a36 = up1 (dlP X f p) 8356 (fdN (X 8356) p) := by
        rw [eD]
        refine (up1_self ?_).symm
        rw [dlP_n (by omega)]
        unfold fdN
        rw [if_neg (by omega)]
      exact ⟨rfl, rfl, congrArg (cI I B) eX, congrArg (cL L B) eX⟩
    · refine r_aload_n C 1 dX4_deliver_56 rfl rfl ?_
      refine r_iload_n C 2 dX4_deliver_57 rfl rfl ?_
      refine c_putI C 0 8356 rfl (by decide) (lnS (by decide)) rfl fl_X4_56 rfl dX4_deliver_58 hS.1.1 (fun a58 ea58 => ?_)
      refine r_vret C hr hlk dX4_deliver_61 (Nat.zero_le _) (Nat.zero_le _) ?_
      have eD : a36 = dlP X f p := by rw [ea36, ea16, ea8]; exact nd_dl hf6
      have eX : a58 = up1 (dlP X f p) 8356 (fdN (X 8356) p) := by
        rw [ea58, eD, hp]
        unfold fdN
        rw [if_pos (by omega)]
      exact ⟨rfl, rfl, congrArg (cI I B) eX, congrArg (cL L B) eX⟩
set_option maxHeartbeats 4000000 in
set_option maxRecDepth 20000 in
theorem k_X4_recordPiece {l : Launch} {G : Gd} {base : Nat} {Y : MY} {I : MI} {L : ML} {B : Nat} {X : Sa} (r : Nat) (hS : SLy base Y B) (hr : X 15 = r) (hr2 : r ≤ 1002000) (h11 : X 11 = 0 ∨ X 11 = 1) : Ct l yX4_recordPiece cX4_recordPiece 1 (none) (rmz 2 43) G base [.ref B] Y (cI I B X) (cL L B X) (EV Y (fun I' L' => I' = cI I B (rcX X r) ∧ L' = cL L B (rcX X r))) := by
  refine Ct.of (own := RX4) (lo := [(0, .ref B)]) (by decide) rfl (Nat.le_of_ble_eq_true rfl) rfl ?_
  intro zp ze zs zm zargs zbl zmt zc C hr hlk hnm
  refine r_aload_n C 0 dX4_recordPiece_0 rfl rfl ?_
  refine r_dup C dX4_recordPiece_1 rfl ?_
  refine c_getI C (v := (X 14)) 0 14 rfl (by decide) (lnS (by decide)) rfl fl_X4_208 rfl dX4_recordPiece_2 hS.1.1 rfl ?_
  refine r_aload_n C 0 dX4_recordPiece_5 rfl rfl ?_
  refine r_getR C fl_X4_45 rfl dX4_recordPiece_6 hS.1.1 hS.2.1.2.2.2.2.1 ?_
  refine c_getI C (v := (X 12)) 203 12 rfl (by decide) ln203 rfl fl_X4_211 rfl dX4_recordPiece_9 hS.1.2.2.2.2.2.1 rfl ?_
  refine n_iadd C dX4_recordPiece_12 ?_
  refine c_putI C 0 14 rfl (by decide) (lnS (by decide)) rfl fl_X4_208 rfl dX4_recordPiece_13 hS.1.1 (fun a13 ea13 => ?_)
  refine r_aload_n C 0 dX4_recordPiece_16 rfl rfl ?_
  refine r_getR C fl_X4_45 rfl dX4_recordPiece_17 hS.1.1 hS.2.1.2.2.2.2.1 ?_
  refine r_aload_n C 0 dX4_recordPiece_20 rfl rfl ?_
  refine c_getI C (v := (X 0)) 0 0 rfl (by decide) (lnS (by decide)) rfl fl_X4_129 rfl dX4_recordPiece_21 hS.1.1 (by rw [ea13, up1_n (by decide)]) ?_
  refine c_putI C 203 5466 rfl (by decide) ln203 rfl fl_X4_214 rfl dX4_recordPiece_24 hS.1.2.2.2.2.2.1 (fun a24 ea24 => ?_)
  refine r_aload_n C 0 dX4_recordPiece_27 rfl rfl ?_
  refine r_aload_n C 0 dX4_recordPiece_28 rfl rfl ?_
  refine c_getI C (v := (X 15)) 0 15 rfl (by decide) (lnS (by decide)) rfl fl_X4_79 rfl dX4_recordPiece_29 hS.1.1 (by rw [ea24, up1_n (by decide), ea13, up1_n (by decide)]) ?_
  refine cV1_PA C (k_X4_pieceAt r hS (by omega) (by omega)) cw_X4_217 (rm_ok rfl rfl (Nat.zero_le _) (Nat.zero_le _)) (Nat.le_of_ble_eq_true rfl) hS.1.1 dX4_recordPiece_32 ?_
  refine r_aload_n C 0 dX4_recordPiece_35 rfl rfl ?_
  refine r_getR C fl_X4_45 rfl dX4_recordPiece_36 hS.1.1 hS.2.1.2.2.2.2.1 ?_
  refine cV1_EV C (k_X3_copyFrom (r % 60) hS m60 (show a24 11 = 0 ∨ a24 11 = 1 by rw [show a24 11 = (X 11) from (by rw [ea24, up1_n (by decide), ea13, up1_n (by decide)])]; exact h11)) cw_X4_221 (rm_ok rfl rfl (Nat.zero_le _) (Nat.zero_le _)) (Nat.le_of_ble_eq_true rfl) (hS.2.2.2.2 (r % 60) m60).1 dX4_recordPiece_39 (fun I39 L39 h39 => ?_)
  obtain ⟨h39I, h39L⟩ := h39
  obtain ⟨a39, ea39⟩ : ∃ z, z = cpX a24 (r % 60) := ⟨_, rfl⟩
  rw [← ea39] at h39I h39L
  subst h39I
  subst h39L
  refine r_aload_n C 0 dX4_recordPiece_42 rfl rfl ?_
  refine r_dup C dX4_recordPiece_43 rfl ?_
  refine c_getI C (v := (X 15)) 0 15 rfl (by decide) (lnS (by decide)) rfl fl_X4_79 rfl dX4_recordPiece_44 hS.1.1 (by rw [ea39, cpX_n (by omega) (by omega), ea24, up1_n (by decide), ea13, up1_n (by decide)]) ?_
  refine r_iconst (v := iI 1) C dX4_recordPiece_47 rfl ?_
  refine n_iadd C dX4_recordPiece_48 ?_
  refine c_putI C 0 15 rfl (by decide) (lnS (by decide)) rfl fl_X4_79 rfl dX4_recordPiece_49 hS.1.1 (fun a49 ea49 => ?_)
  refine r_aload_n C 0 dX4_recordPiece_52 rfl rfl ?_
  refine r_getR C fl_X4_45 rfl dX4_recordPiece_53 hS.1.1 hS.2.1.2.2.2.2.1 ?_
  refine cV0_EV C (k_X3_clear hS) cw_X4_225 (rm_ok rfl rfl (Nat.zero_le _) (Nat.zero_le _)) (Nat.le_of_ble_eq_true rfl) hS.1.2.2.2.2.2.1 dX4_recordPiece_56 (fun I56 L56 h56 => ?_)
  obtain ⟨h56I, h56L⟩ := h56
  obtain ⟨a56, ea56⟩ : ∃ z, z = clX a49 := ⟨_, rfl⟩
  rw [← ea56] at h56I h56L
  subst h56I
  subst h56L
  refine r_vret C hr hlk dX4_recordPiece_59 (Nat.zero_le _) (Nat.zero_le _) ?_
  have eX : a56 = rcX X r := by
    unfold rcX
    rw [ea56, ea49, ea39, ea24, ea13]
  exact ⟨rfl, rfl, congrArg (cI I B) eX, congrArg (cL L B) eX⟩
