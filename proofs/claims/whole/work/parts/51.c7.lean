theorem npA_up {a : Sa} {p r k : Nat} {v : Int} (h : ¬ k = 0 ∧ ¬ k = 9 ∧ ¬ k = 11 ∧ ¬ k = 12 ∧ ¬ k = 14 ∧ ¬ k = 15 ∧ k < 1445 ∧ ¬ k = 125 + 11 * (p % 120) + 0) : npA (up1 a k v) p r = up1 (npA a p r) k v := by
  funext j
  unfold npA
  rw [show up1 a k v (125 + 11 * (p % 120) + 0) = a (125 + 11 * (p % 120) + 0) from up1_n (by omega), show up1 a k v 9 = a 9 from up1_n (by omega), show up1 a k v 0 = a 0 from up1_n (by omega), show up1 a k v 11 = a 11 from up1_n (by omega), show up1 a k v 15 = a 15 from up1_n (by omega), show up1 a k v 14 = a 14 from up1_n (by omega), show up1 a k v 12 = a 12 from up1_n (by omega)]
  by_cases e : j = k
  · subst e
    rw [up1_n (by omega), up1_n (by omega), up1_n (by omega), up1_n (by omega), up1_n (by omega), up1_n (by omega), up1_n (by omega), up1_s, up1_s]
  · rw [up1_n (f := up1 (up1 (up1 (up1 (up1 (up1 (up1 a _ _) _ _) _ _) _ _) _ _) _ _) _ _) e]
    exact up1_cj (up1_cj (up1_cj (up1_cj (up1_cj (up1_cj (up1_cj (up1_n e)))))))
theorem pd1_c {a : Sa} {p f r : Nat} (hf : f < 6) (hr : a 15 = r) : pd1 a f p = (up1 (up1 (up1 (up1 (npA (up1 (up1 (up1 (up1 (up1 a (125 + 11 * (p % 120) + 5) (a (125 + 11 * (p % 120) + 5) + a 9)) (125 + 11 * (p % 120) + 6) (a (125 + 11 * (p % 120) + 6) + 1)) (125 + 11 * (p % 120) + 7) (a (125 + 11 * (p % 120) + 7) + a 11)) (125 + 11 * (p % 120) + 10) (a 0)) (17 + 18 * f + 6) (a (17 + 18 * f + 6) + a 9)) p r) 8 (-6)) 9 0) 10 0) 11 0) := by
  unfold pd1 ntp
  rw [show (a 15).toNat = r by omega, npA_up (by omega), npA_up (by omega), npA_up (by omega), npA_up (by omega), npA_up (by omega)]
theorem cpX_LD {X : Sa} {j : Nat} (hj : j < 60) : cpX X j 8356 = X 8356 := by
  unfold cpX jk
  rw [up1_n (by omega), up1_n (by omega), up1_n (by omega), up1_n (by omega), up1_n (by omega), up1_n (by omega), up1_n (by omega)]
theorem rcX_LD {X : Sa} {r : Nat} : rcX X r 8356 = X 8356 := by
  unfold rcX
  rw [clX_n (by omega), up1_n (by omega), cpX_LD (Nat.mod_lt _ (by decide)), up1_n (by omega), up1_n (by omega)]
theorem Qs_pd {a : Sa} {f p : Nat} (hf : f < 6) (g : Nat) : Qs (pd1 a f p) g = Qs a g := Qs_cong (pd1_n (by omega)) (fun q _ => isQ_eq (pd1_n (by omega)) (pd1_n (by omega)))
set_option maxHeartbeats 4000000 in
set_option maxRecDepth 20000 in
theorem k_X4_finishPiece {l : Launch} {G : Gd} {base : Nat} {Y : MY} {I : MI} {L : ML} {B : Nat} {X : Sa} {m : Bool} {a : Sa} {N T : Int} (p f : Nat) (hS : SLy base Y B) (hI : Inv N T a) (hR : Rl m a X) (hk : old a ≤ p ∧ (p : Int) < a 7) (h8 : a 8 = p) (hf : a (125 + 11 * (p % 120) + 0) = f) (h4 : a (125 + 11 * (p % 120) + 4) = 1) (h9 : 1 ≤ a 9 ∧ a 9 ≤ 2000) (hle : a (125 + 11 * (p % 120) + 5) + a 9 ≤ a (125 + 11 * (p % 120) + 1)) (hsn : a (17 + 18 * f + 6) + a 9 ≤ a 0) (h15 : a 15 + 1 ≤ a 0) (h11 : a 11 = 0 ∨ a 11 = 1) (hz : X 8356 = -6 ∨ (0 ≤ X 8356 ∧ X 8356 ≤ 400000)) : Ct l yX4_finishPiece cX4_finishPiece 4 (none) (rmz 3 65) G base [.ref B] Y (cI I B X) (cL L B X) (EV Y (fun I' L' => ∃ X', Rl m (pdF a f p) X' ∧ X' 8356 = pdZ (X 8356) a p ∧ I' = cI I B X' ∧ L' = cL L B X')) := by
  refine Ct.of (own := RX4) (lo := [(0, .ref B)]) (by decide) rfl (Nat.le_of_ble_eq_true rfl) rfl ?_
  intro zp ze zs zm zargs zbl zmt zc C hr hlk hnm
  have hT := hI.1
  unfold TopOK at hT
  have hP := hI.2.2.1 p hk.1 hk.2
  unfold PkOK at hP
  have hf2 : (f : Int) < a 2 := by omega
  have hf6 : f < 6 := by omega
  have hF := (hI.2.1 f hf2).1
  unfold FlowOK at hF
  obtain ⟨r, hr15⟩ := Int.eq_ofNat_of_zero_le (show 0 ≤ a 15 by omega)
  have g7 : pd1 a f p 7 = a 7 := pd1_n (by omega)
  have g2 : pd1 a f p 2 = a 2 := pd1_n (by omega)
  refine r_aload_n C 0 dX4_finishPiece_0 rfl rfl ?_
  refine r_getR C fl_X4_45 rfl dX4_finishPiece_1 hS.1.1 hS.2.1.2.2.2.2.1 ?_
  refine c_getI C (v := (a 8)) 203 8 rfl (by decide) ln203 rfl fl_X4_162 rfl dX4_finishPiece_4 hS.1.2.2.2.2.2.1 (hR.n 8 (by decide) (by decide)) ?_
  refine n_topi (fun x7 ex7 => ?_)
  refine r_istore_n (lo' := [(1, .int (iI x7)), (0, .ref B)]) C dX4_finishPiece_7 rfl (by decide) rfl ?_
  refine r_aload_n C 1 dX4_finishPiece_8 rfl rfl ?_
  refine r_iload_n C 0 dX4_finishPiece_9 rfl rfl ?_
  refine cV1_PA C (k_X4_packetAt p hS (by omega) (by omega)) cw_X4_91 (rm_ok rfl rfl (Nat.zero_le _) (Nat.zero_le _)) (Nat.le_of_ble_eq_true rfl) hS.1.1 dX4_finishPiece_10 ?_
  refine r_astore_n (lo' := [(2, .ref (B + (22 + (p % 120)))), (1, .int (iI x7)), (0, .ref B)]) C dX4_finishPiece_13 rfl (by decide) rfl ?_
  refine r_aload_n C 2 dX4_finishPiece_14 rfl rfl ?_
  refine r_getR C fl_X4_26 rfl dX4_finishPiece_15 hS.1.1 hS.2.1.2.1 ?_
  refine r_aload_n C 0 dX4_finishPiece_18 rfl rfl ?_
  refine c_getI C (v := (a (125 + 11 * (p % 120) + 0))) (22 + (p % 120)) ((125 + 11 * (p % 120) + 0)) rfl (oP m120) (lnP m120 (by decide)) (ky_P m120 0) fl_X4_180 rfl dX4_finishPiece_19 (hS.2.2.2.1 (p % 120) m120).1 (hR.p hk (by decide)) ?_
  refine r_aald C (by decide) (by decide) f dX4_finishPiece_22 hS.1.2.2.1 ⟨congrArg iI (by omega), (by omega), by decide⟩ (hS.2.2.1 f hf6).2.2.2.1 ?_
  refine r_astore_n (lo' := [(3, .ref (B + (3 + 3 * f))), (2, .ref (B + (22 + (p % 120)))), (1, .int (iI x7)), (0, .ref B)]) C dX4_finishPiece_23 rfl (by decide) rfl ?_
  refine r_aload_n C 1 dX4_finishPiece_24 rfl rfl ?_
  refine r_dup C dX4_finishPiece_25 rfl ?_
  refine c_getI C (v := (a (125 + 11 * (p % 120) + 5))) (22 + (p % 120)) ((125 + 11 * (p % 120) + 5)) rfl (oP m120) (lnP m120 (by decide)) (ky_P m120 5) fl_X4_108 rfl dX4_finishPiece_26 (hS.2.2.2.1 (p % 120) m120).1 (hR.p hk (by decide)) ?_
  refine r_aload_n C 3 dX4_finishPiece_29 rfl rfl ?_
  refine r_getR C fl_X4_45 rfl dX4_finishPiece_30 hS.1.1 hS.2.1.2.2.2.2.1 ?_
  refine c_getI C (v := (a 9)) 203 9 rfl (by decide) ln203 rfl fl_X4_183 rfl dX4_finishPiece_33 hS.1.2.2.2.2.2.1 (hR.n 9 (by decide) (by decide)) ?_
  refine n_iadd C dX4_finishPiece_36 ?_
  refine c_putI C (22 + (p % 120)) ((125 + 11 * (p % 120) + 5)) rfl (oP m120) (lnP m120 (by decide)) (ky_P m120 5) fl_X4_108 rfl dX4_finishPiece_37 (hS.2.2.2.1 (p % 120) m120).1 (fun a37 ea37 => ?_)
  refine r_aload_n C 1 dX4_finishPiece_40 rfl rfl ?_
  refine r_dup C dX4_finishPiece_41 rfl ?_
  refine c_getI C (v := (a (125 + 11 * (p % 120) + 6))) (22 + (p % 120)) ((125 + 11 * (p % 120) + 6)) rfl (oP m120) (lnP m120 (by decide)) (ky_P m120 6) fl_X4_186 rfl dX4_finishPiece_42 (hS.2.2.2.1 (p % 120) m120).1 (by rw [ea37, up1_n (xSS (by decide))]; exact (hR.p hk (by decide))) ?_
  refine r_iconst (v := iI 1) C dX4_finishPiece_45 rfl ?_
  refine n_iadd C dX4_finishPiece_46 ?_
  refine c_putI C (22 + (p % 120)) ((125 + 11 * (p % 120) + 6)) rfl (oP m120) (lnP m120 (by decide)) (ky_P m120 6) fl_X4_186 rfl dX4_finishPiece_47 (hS.2.2.2.1 (p % 120) m120).1 (fun a47 ea47 => ?_)
  refine r_aload_n C 1 dX4_finishPiece_50 rfl rfl ?_
  refine r_dup C dX4_finishPiece_51 rfl ?_
  refine c_getI C (v := (a (125 + 11 * (p % 120) + 7))) (22 + (p % 120)) ((125 + 11 * (p % 120) + 7)) rfl (oP m120) (lnP m120 (by decide)) (ky_P m120 7) fl_X4_188 rfl dX4_finishPiece_52 (hS.2.2.2.1 (p % 120) m120).1 (by rw [ea47, up1_n (xSS (by decide)), ea37, up1_n (xSS (by decide))]; exact (hR.p hk (by decide))) ?_
  have jn70 : ∀ x70 : Int, ((a 11) = 0 ∧ x70 = 0) ∨ (¬ (a 11) = 0 ∧ x70 = 1) → Bd zp l ze (rmz 3 65) zs zm zargs zbl zmt zc 4 G base (EV Y (fun I' L' => ∃ X', Rl m (pdF a f p) X' ∧ X' 8356 = pdZ (X 8356) a p ∧ I' = cI I B X' ∧ L' = cL L B X')) 70 [(3, .ref (B + (3 + 3 * f))), (2, .ref (B + (22 + (p % 120)))), (1, .int (iI x7)), (0, .ref B)] [.int (iI x70), .int (iI (a (125 + 11 * (p % 120) + 7))), .ref (B + (22 + (p % 120)))] Y (cI I B a47) (cL L B a47) 0 0 := by
    intro x70 hx70
    have hx11 : x70 = a 11 := by omega
    refine n_iadd C dX4_finishPiece_70 ?_
    refine c_putI C (22 + (p % 120)) ((125 + 11 * (p % 120) + 7)) rfl (oP m120) (lnP m120 (by decide)) (ky_P m120 7) fl_X4_188 rfl dX4_finishPiece_71 (hS.2.2.2.1 (p % 120) m120).1 (fun a71 ea71 => ?_)
    refine r_aload_n C 1 dX4_finishPiece_74 rfl rfl ?_
    refine r_aload_n C 3 dX4_finishPiece_75 rfl rfl ?_
    refine c_getI C (v := (a 0)) 0 0 rfl (by decide) (lnS (by decide)) rfl fl_X4_129 rfl dX4_finishPiece_76 hS.1.1 (by rw [ea71, up1_n (xNP (by decide)), ea47, up1_n (xNP (by decide)), ea37, up1_n (xNP (by decide))]; exact (hR.n 0 (by decide) (by decide))) ?_
    refine c_putI C (22 + (p % 120)) ((125 + 11 * (p % 120) + 10)) rfl (oP m120) (lnP m120 (by decide)) (ky_P m120 8) fl_X4_195 rfl dX4_finishPiece_79 (hS.2.2.2.1 (p % 120) m120).1 (fun a79 ea79 => ?_)
    refine r_aload_n C 0 dX4_finishPiece_82 rfl rfl ?_
    refine r_dup C dX4_finishPiece_83 rfl ?_
    refine c_getI C (v := (a (17 + 18 * f + 6))) (3 + 3 * f) ((17 + 18 * f + 6)) rfl (oF hf6) (lnF hf6 (by decide)) (ky_F hf6 3) fl_X4_198 rfl dX4_finishPiece_84 (hS.2.2.1 f hf6).1 (by rw [ea79, up1_n (xFP hf6 (by decide)), ea71, up1_n (xFP hf6 (by decide)), ea47, up1_n (xFP hf6 (by decide)), ea37, up1_n (xFP hf6 (by decide))]; exact (hR.f hf2 (fk_y (by decide) (by decide)))) ?_
    refine r_aload_n C 3 dX4_finishPiece_87 rfl rfl ?_
    refine r_getR C fl_X4_45 rfl dX4_finishPiece_88 hS.1.1 hS.2.1.2.2.2.2.1 ?_
    refine c_getI C (v := (a 9)) 203 9 rfl (by decide) ln203 rfl fl_X4_183 rfl dX4_finishPiece_91 hS.1.2.2.2.2.2.1 (by rw [ea79, up1_n (xNP (by decide)), ea71, up1_n (xNP (by decide)), ea47, up1_n (xNP (by decide)), ea37, up1_n (xNP (by decide))]; exact (hR.n 9 (by decide) (by decide))) ?_
    refine n_iadd C dX4_finishPiece_94 ?_
    refine c_putI C (3 + 3 * f) ((17 + 18 * f + 6)) rfl (oF hf6) (lnF hf6 (by decide)) (ky_F hf6 3) fl_X4_198 rfl dX4_finishPiece_95 (hS.2.2.1 f hf6).1 (fun a95 ea95 => ?_)
    have hR1 : Rl m (up1 (up1 (up1 (up1 (up1 a (125 + 11 * (p % 120) + 5) (a (125 + 11 * (p % 120) + 5) + a 9)) (125 + 11 * (p % 120) + 6) (a (125 + 11 * (p % 120) + 6) + 1)) (125 + 11 * (p % 120) + 7) (a (125 + 11 * (p % 120) + 7) + a 11)) (125 + 11 * (p % 120) + 10) (a 0)) (17 + 18 * f + 6) (a (17 + 18 * f + 6) + a 9)) a95 := by
      rw [ea95, ea79, ea71, ea47, ea37, hx11]
      exact ((((hR.upP (by decide) _).upP (by decide) _).upP (by decide) _).upP (by decide) _).upF hf6 (by decide) _
    refine r_aload_n C 3 dX4_finishPiece_98 rfl rfl ?_
    refine cV0_EV C (k_X4_recordPiece r hS (show a95 15 = (r : Int) by rw [show a95 15 = (a 15) from (by rw [ea95, up1_n (xNF (by decide)), ea79, up1_n (xNP (by decide)), ea71, up1_n (xNP (by decide)), ea47, up1_n (xNP (by decide)), ea37, up1_n (xNP (by decide))]; exact (hR.n 15 (by decide) (by decide)))]; omega) (by omega) (show a95 11 = 0 ∨ a95 11 = 1 by rw [show a95 11 = (a 11) from (by rw [ea95, up1_n (xNF (by decide)), ea79, up1_n (xNP (by decide)), ea71, up1_n (xNP (by decide)), ea47, up1_n (xNP (by decide)), ea37, up1_n (xNP (by decide))]; exact (hR.n 11 (by decide) (by decide)))]; exact h11)) cw_X4_199 (rm_ok rfl rfl (Nat.zero_le _) (Nat.zero_le _)) (Nat.le_of_ble_eq_true rfl) hS.1.1 dX4_finishPiece_99 (fun I99 L99 h99 => ?_)
    obtain ⟨h99I, h99L⟩ := h99
    obtain ⟨a99, ea99⟩ : ∃ z, z = rcX a95 r := ⟨_, rfl⟩
    rw [← ea99] at h99I h99L
    subst h99I
    subst h99L
    have hR2 : Rl m (pd1 a f p) a99 := by
      rw [ea99, pd1_c hf6 hr15]
      refine hR1.rc (by rw [up1_n (by omega), up1_n (by omega), up1_n (by omega), up1_n (by omega), up1_n (by omega)]; exact h8) (by rw [up1_n (by omega), up1_n (by omega), up1_n (by omega), up1_n (by omega), up1_n (by omega)]; exact hr15) (by rw [up1_n (by omega), up1_n (by omega), up1_n (by omega), up1_n (by omega), up1_n (by omega)]; omega) (fun g hg => ?_)
      rw [up1_n (by omega), up1_n (by omega), up1_n (by omega), up1_n (by omega), up1_n (by omega)] at hg
      rw [Qs_cong (a := a) (by rw [up1_n (by omega), up1_n (by omega), up1_n (by omega), up1_n (by omega), up1_n (by omega)]) (fun q _ => isQ_eq (by rw [up1_n (by omega), up1_n (by omega), up1_n (by omega), up1_n (by omega), up1_n (by omega)]) (by rw [up1_n (by omega), up1_n (by omega), up1_n (by omega), up1_n (by omega), up1_n (by omega)]))]
      exact Inv.q20 hI g hg
    refine r_aload_n C 1 dX4_finishPiece_102 rfl rfl ?_
    refine cV0_PI C (k_X1_unsent (p % 120) hS m120) cw_X4_95 (rm_ok rfl rfl (Nat.zero_le _) (Nat.zero_le _)) (Nat.le_of_ble_eq_true rfl) (hS.2.2.2.1 (p % 120) m120).1 dX4_finishPiece_103 ?_
    refine n_eqi (y := ((a (125 + 11 * (p % 120) + 1)) - ((a (125 + 11 * (p % 120) + 5)) + (a 9)))) (by rw [show a99 (125 + 11 * (p % 120) + 1) = (a (125 + 11 * (p % 120) + 1)) from (by rw [ea99, rcX_n (by omega) (by omega), ea95, up1_n (xPF hf6 (by decide)), ea79, up1_n (xSS (by decide)), ea71, up1_n (xSS (by decide)), ea47, up1_n (xSS (by decide)), ea37, up1_n (xSS (by decide))]; exact (hR.p hk (by decide))), show a99 (125 + 11 * (p % 120) + 5) = ((a (125 + 11 * (p % 120) + 5)) + (a 9)) from (by rw [ea99, rcX_n (by omega) (by omega), ea95, up1_n (xPF hf6 (by decide)), ea79, up1_n (xSS (by decide)), ea71, up1_n (xSS (by decide)), ea47, up1_n (xSS (by decide)), ea37, up1_s])]) ?_
    refine n_if_le (tgt := 115) C dX4_finishPiece_106 (by decide) (by constructor <;> omega) (fun c106 => ?_) (fun c106 => ?_)
    · refine r_aload_n C 0 dX4_finishPiece_115 rfl rfl ?_
      refine r_iload_n C 2 dX4_finishPiece_116 rfl rfl ?_
      refine cV1_EV C (k_X0_leaveQueue f (Qs a f) p hS hf6 (by omega) (by omega) (show a99 (17 + 18 * f + 17) = _ by rw [show a99 (17 + 18 * f + 17) = (a (17 + 18 * f + 17)) from (by rw [ea99, rcX_n (by omega) (by omega), ea95, up1_n (xSS (by decide)), ea79, up1_n (xFP hf6 (by decide)), ea71, up1_n (xFP hf6 (by decide)), ea47, up1_n (xFP hf6 (by decide)), ea37, up1_n (xFP hf6 (by decide))]; exact (hR.f hf2 (fk_y (by decide) (by decide))))]; exact (hI.2.1 f hf2).2) (Inv.q20 hI f hf2) (fun i q hi => by have hil := (List.getElem?_eq_some_iff.mp hi).1; have h20 := Inv.q20 hI f hf2; rw [ea99, rcX_n (by omega) (by omega), ea95, up1_n (by omega), ea79, up1_n (by omega), ea71, up1_n (by omega), ea47, up1_n (by omega), ea37, up1_n (by omega)]; exact hR.q hf2 hi) (fun q hq => by have := (Qs_mem.mp hq).1.2; omega)) cw_X4_202 (rm_ok rfl rfl (Nat.zero_le _) (Nat.zero_le _)) (Nat.le_of_ble_eq_true rfl) (hS.2.2.1 f hf6).1 dX4_finishPiece_117 (fun I117 L117 h117 => ?_)
      obtain ⟨a117, hLv117, h117I, h117L⟩ := h117
      subst h117I
      subst h117L
      refine r_aload_n C 1 dX4_finishPiece_120 rfl rfl ?_
      refine c_getI C (v := ((a (125 + 11 * (p % 120) + 6)) + 1)) (22 + (p % 120)) ((125 + 11 * (p % 120) + 6)) rfl (oP m120) (lnP m120 (by decide)) (ky_P m120 6) fl_X4_186 rfl dX4_finishPiece_121 (hS.2.2.2.1 (p % 120) m120).1 (by rw [(hLv117.1 _ (by omega) (by omega)), ea99, rcX_n (by omega) (by omega), ea95, up1_n (xPF hf6 (by decide)), ea79, up1_n (xSS (by decide)), ea71, up1_n (xSS (by decide)), ea47, up1_s]) ?_
      refine r_iconst (v := iI 1) C dX4_finishPiece_124 rfl ?_
      refine n_icmp_le (tgt := 155) C dX4_finishPiece_125 (by decide) (by constructor <;> omega) ⟨by decide, by decide⟩ (fun c125 => ?_) (fun c125 => ?_)
      · refine r_aload_n C 3 dX4_finishPiece_155 rfl rfl ?_
        refine r_iload_n C 2 dX4_finishPiece_156 rfl rfl ?_
        refine cV1_EV C (k_X4_deliver p f hS (by omega) (by omega) (show a117 (125 + 11 * (p % 120) + 0) = ((f : Nat) : Int) by rw [show a117 (125 + 11 * (p % 120) + 0) = (a (125 + 11 * (p % 120) + 0)) from (by rw [(hLv117.1 _ (by omega) (by omega)), ea99, rcX_n (by omega) (by omega), ea95, up1_n (xPF hf6 (by decide)), ea79, up1_n (xSS (by decide)), ea71, up1_n (xSS (by decide)), ea47, up1_n (xSS (by decide)), ea37, up1_n (xSS (by decide))]; exact (hR.p hk (by decide)))]; omega) hf6 (show 0 ≤ a117 0 ∧ a117 0 ≤ 1002000 by rw [show a117 0 = (a 0) from (by rw [(hLv117.1 _ (by omega) (by omega)), ea99, rcX_n (by omega) (by omega), ea95, up1_n (xNF (by decide)), ea79, up1_n (xNP (by decide)), ea71, up1_n (xNP (by decide)), ea47, up1_n (xNP (by decide)), ea37, up1_n (xNP (by decide))]; exact (hR.n 0 (by decide) (by decide)))]; omega) (show 0 ≤ a117 (125 + 11 * (p % 120) + 2) ∧ a117 (125 + 11 * (p % 120) + 2) ≤ a117 0 by rw [show a117 (125 + 11 * (p % 120) + 2) = (a (125 + 11 * (p % 120) + 2)) from (by rw [(hLv117.1 _ (by omega) (by omega)), ea99, rcX_n (by omega) (by omega), ea95, up1_n (xPF hf6 (by decide)), ea79, up1_n (xSS (by decide)), ea71, up1_n (xSS (by decide)), ea47, up1_n (xSS (by decide)), ea37, up1_n (xSS (by decide))]; exact (hR.p hk (by decide))), show a117 0 = (a 0) from (by rw [(hLv117.1 _ (by omega) (by omega)), ea99, rcX_n (by omega) (by omega), ea95, up1_n (xNF (by decide)), ea79, up1_n (xNP (by decide)), ea71, up1_n (xNP (by decide)), ea47, up1_n (xNP (by decide)), ea37, up1_n (xNP (by decide))]; exact (hR.n 0 (by decide) (by decide)))]; omega) (show -6 ≤ a117 (125 + 11 * (p % 120) + 3) ∧ a117 (125 + 11 * (p % 120) + 3) ≤ 2000000 by rw [show a117 (125 + 11 * (p % 120) + 3) = (a (125 + 11 * (p % 120) + 3)) from (by rw [(hLv117.1 _ (by omega) (by omega)), ea99, rcX_n (by omega) (by omega), ea95, up1_n (xPF hf6 (by decide)), ea79, up1_n (xSS (by decide)), ea71, up1_n (xSS (by decide)), ea47, up1_n (xSS (by decide)), ea37, up1_n (xSS (by decide))]; exact (hR.p hk (by decide)))]; omega) (show 0 ≤ a117 (17 + 18 * f + 9) ∧ a117 (17 + 18 * f + 9) ≤ 1002000 by rw [show a117 (17 + 18 * f + 9) = (a (17 + 18 * f + 9)) from (by rw [(hLv117.1 _ (by omega) (by omega)), ea99, rcX_n (by omega) (by omega), ea95, up1_n (xSS (by decide)), ea79, up1_n (xFP hf6 (by decide)), ea71, up1_n (xFP hf6 (by decide)), ea47, up1_n (xFP hf6 (by decide)), ea37, up1_n (xFP hf6 (by decide))]; exact (hR.f hf2 (fk_y (by decide) (by decide))))]; omega) (show a117 8356 = -6 ∨ (0 ≤ a117 8356 ∧ a117 8356 ≤ 400000) by rw [show a117 8356 = (X 8356) from (by rw [(hLv117.1 _ (by omega) (by omega)), ea99, rcX_LD, ea95, up1_n (by omega), ea79, up1_n (by omega), ea71, up1_n (by omega), ea47, up1_n (by omega), ea37, up1_n (by omega)])]; exact hz)) cw_X4_205 (rm_ok rfl rfl (Nat.zero_le _) (Nat.zero_le _)) (Nat.le_of_ble_eq_true rfl) hS.1.1 dX4_finishPiece_157 (fun I157 L157 h157 => ?_)
        obtain ⟨h157I, h157L⟩ := h157
        obtain ⟨a157, ea157⟩ : ∃ z, z = up1 (dlP a117 f p) 8356 (fdN (a117 8356) p) := ⟨_, rfl⟩
        rw [← ea157] at h157I h157L
        subst h157I
        subst h157L
        refine r_vret C hr hlk dX4_finishPiece_160 (Nat.zero_le _) (Nat.zero_le _) ?_
        have hn1 : ¬ (a (125 + 11 * (p % 120) + 5) + a 9 < a (125 + 11 * (p % 120) + 1)) := by omega
        have hlv : ∀ v : Int, 1 < v → Rl m (up1 (up1 (pd1 a f p) (17 + 18 * f + 17) (a (17 + 18 * f + 17) - 1)) (125 + 11 * (p % 120) + 4) v) (up1 a117 (125 + 11 * (p % 120) + 4) v) := by
          intro v hv
          have h17p : pd1 a f p (17 + 18 * f + 17) = a (17 + 18 * f + 17) := pd1_n (by omega)
          rw [← h17p]
          refine hR2.lv (by rw [g7]; omega) (by rw [g2]; omega) ⟨by rw [old_eq g7]; exact hk.1, by rw [g7]; exact hk.2⟩ (by rw [pd1_n (by omega)]; exact hf) (by rw [g2]; exact hf2) (by rw [pd1_n (by omega), h4]; decide) (by rw [h17p, Qs_pd hf6]; exact (hI.2.1 f hf2).2) (fun g hg => by rw [Qs_pd hf6]; rw [g2] at hg; exact Inv.q20 hI g hg) hv (fun _ => ?_) (by rw [Qs_pd hf6]; exact hLv117)
          rw [pd1_p10 hf6]
          exact (by rw [ea99, rcX_n (by omega) (by omega), ea95, up1_n (xPF hf6 (by decide)), ea79, up1_s])
        have hn2 : ¬ (1 < a (125 + 11 * (p % 120) + 6) + 1 ∧ 0 < a 4) := by omega
        have eF : pdF a f p = dlP (up1 (pd1 a f p) (17 + 18 * f + 17) (a (17 + 18 * f + 17) - 1)) f p := by
          unfold pdF
          rw [if_neg hn1, if_neg hn2]
          unfold dlv
          rw [flP_up (k := 17 + 18 * f + 17) (by omega), flP_of (f := f) (by rw [pd1_n (by omega)]; exact hf)]
        have hIF := Inv_pdF hI hk hf h4 h9.1 hle hsn h15
        have hTF := hIF.1
        unfold TopOK at hTF
        refine ⟨rfl, rfl, a157, ?_, ?_, rfl, rfl⟩
        · rw [ea157]
          refine Rl.rt ?_ 8356 _ (by decide) (by omega) (Inv.q20 hIF)
          rw [eF]
          exact (hlv 3 (by decide)).dl hf6 (by rw [show a117 0 = (a 0) from (by rw [(hLv117.1 _ (by omega) (by omega)), ea99, rcX_n (by omega) (by omega), ea95, up1_n (xNF (by decide)), ea79, up1_n (xNP (by decide)), ea71, up1_n (xNP (by decide)), ea47, up1_n (xNP (by decide)), ea37, up1_n (xNP (by decide))]; exact (hR.n 0 (by decide) (by decide))), up1_n (by omega), pd1_n (by omega)]) (by rw [show a117 (125 + 11 * (p % 120) + 2) = (a (125 + 11 * (p % 120) + 2)) from (by rw [(hLv117.1 _ (by omega) (by omega)), ea99, rcX_n (by omega) (by omega), ea95, up1_n (xPF hf6 (by decide)), ea79, up1_n (xSS (by decide)), ea71, up1_n (xSS (by decide)), ea47, up1_n (xSS (by decide)), ea37, up1_n (xSS (by decide))]; exact (hR.p hk (by decide))), up1_n (by omega), pd1_n (by omega)]) (by rw [show a117 (125 + 11 * (p % 120) + 3) = (a (125 + 11 * (p % 120) + 3)) from (by rw [(hLv117.1 _ (by omega) (by omega)), ea99, rcX_n (by omega) (by omega), ea95, up1_n (xPF hf6 (by decide)), ea79, up1_n (xSS (by decide)), ea71, up1_n (xSS (by decide)), ea47, up1_n (xSS (by decide)), ea37, up1_n (xSS (by decide))]; exact (hR.p hk (by decide))), up1_n (by omega), pd1_n (by omega)]) (by rw [show a117 (17 + 18 * f + 7) = (a (17 + 18 * f + 7)) from (by rw [(hLv117.1 _ (by omega) (by omega)), ea99, rcX_n (by omega) (by omega), ea95, up1_n (xSS (by decide)), ea79, up1_n (xFP hf6 (by decide)), ea71, up1_n (xFP hf6 (by decide)), ea47, up1_n (xFP hf6 (by decide)), ea37, up1_n (xFP hf6 (by decide))]; exact (hR.f hf2 (fk_y (by decide) (by decide)))), up1_n (by omega), pd1_n (by omega)]) (by rw [show a117 (17 + 18 * f + 8) = (a (17 + 18 * f + 8)) from (by rw [(hLv117.1 _ (by omega) (by omega)), ea99, rcX_n (by omega) (by omega), ea95, up1_n (xSS (by decide)), ea79, up1_n (xFP hf6 (by decide)), ea71, up1_n (xFP hf6 (by decide)), ea47, up1_n (xFP hf6 (by decide)), ea37, up1_n (xFP hf6 (by decide))]; exact (hR.f hf2 (fk_y (by decide) (by decide)))), up1_n (by omega), pd1_n (by omega)]) (by rw [show a117 (17 + 18 * f + 9) = (a (17 + 18 * f + 9)) from (by rw [(hLv117.1 _ (by omega) (by omega)), ea99, rcX_n (by omega) (by omega), ea95, up1_n (xSS (by decide)), ea79, up1_n (xFP hf6 (by decide)), ea71, up1_n (xFP hf6 (by decide)), ea47, up1_n (xFP hf6 (by decide)), ea37, up1_n (xFP hf6 (by decide))]; exact (hR.f hf2 (fk_y (by decide) (by decide)))), up1_n (by omega), pd1_n (by omega)]) (by rw [show a117 (17 + 18 * f + 10) = (a (17 + 18 * f + 10)) from (by rw [(hLv117.1 _ (by omega) (by omega)), ea99, rcX_n (by omega) (by omega), ea95, up1_n (xSS (by decide)), ea79, up1_n (xFP hf6 (by decide)), ea71, up1_n (xFP hf6 (by decide)), ea47, up1_n (xFP hf6 (by decide)), ea37, up1_n (xFP hf6 (by decide))]; exact (hR.f hf2 (fk_y (by decide) (by decide)))), up1_n (by omega), pd1_n (by omega)])
        · rw [ea157, up1_s, show a117 8356 = X 8356 from (by rw [(hLv117.1 _ (by omega) (by omega)), ea99, rcX_LD, ea95, up1_n (by omega), ea79, up1_n (by omega), ea71, up1_n (by omega), ea47, up1_n (by omega), ea37, up1_n (by omega)])]
          unfold pdZ
          rw [if_neg hn1, if_neg hn2]
      · refine r_aload_n C 3 dX4_finishPiece_128 rfl rfl ?_
        refine r_getR C fl_X4_13 rfl dX4_finishPiece_129 hS.1.1 hS.2.1.1 ?_
        refine r_iconst (v := iI 1) C dX4_finishPiece_132 rfl ?_
        refine c_iald C (v := (a 4)) 1 1 4 rfl (by decide) ln1 rfl dX4_finishPiece_133 hS.1.2.1 ⟨rfl, by decide, by decide⟩ (by rw [(hLv117.1 _ (by omega) (by omega)), ea99, rcX_n (by omega) (by omega), ea95, up1_n (xNF (by decide)), ea79, up1_n (xNP (by decide)), ea71, up1_n (xNP (by decide)), ea47, up1_n (xNP (by decide)), ea37, up1_n (xNP (by decide))]; exact (hR.n 4 (by decide) (by decide))) ?_
        refine n_if_le (tgt := 155) C dX4_finishPiece_134 (by decide) (by constructor <;> omega) (fun c134 => ?_) (fun c134 => ?_)
        · refine r_aload_n C 3 dX4_finishPiece_155 rfl rfl ?_
          refine r_iload_n C 2 dX4_finishPiece_156 rfl rfl ?_
          refine cV1_EV C (k_X4_deliver p f hS (by omega) (by omega) (show a117 (125 + 11 * (p % 120) + 0) = ((f : Nat) : Int) by rw [show a117 (125 + 11 * (p % 120) + 0) = (a (125 + 11 * (p % 120) + 0)) from (by rw [(hLv117.1 _ (by omega) (by omega)), ea99, rcX_n (by omega) (by omega), ea95, up1_n (xPF hf6 (by decide)), ea79, up1_n (xSS (by decide)), ea71, up1_n (xSS (by decide)), ea47, up1_n (xSS (by decide)), ea37, up1_n (xSS (by decide))]; exact (hR.p hk (by decide)))]; omega) hf6 (show 0 ≤ a117 0 ∧ a117 0 ≤ 1002000 by rw [show a117 0 = (a 0) from (by rw [(hLv117.1 _ (by omega) (by omega)), ea99, rcX_n (by omega) (by omega), ea95, up1_n (xNF (by decide)), ea79, up1_n (xNP (by decide)), ea71, up1_n (xNP (by decide)), ea47, up1_n (xNP (by decide)), ea37, up1_n (xNP (by decide))]; exact (hR.n 0 (by decide) (by decide)))]; omega) (show 0 ≤ a117 (125 + 11 * (p % 120) + 2) ∧ a117 (125 + 11 * (p % 120) + 2) ≤ a117 0 by rw [show a117 (125 + 11 * (p % 120) + 2) = (a (125 + 11 * (p % 120) + 2)) from (by rw [(hLv117.1 _ (by omega) (by omega)), ea99, rcX_n (by omega) (by omega), ea95, up1_n (xPF hf6 (by decide)), ea79, up1_n (xSS (by decide)), ea71, up1_n (xSS (by decide)), ea47, up1_n (xSS (by decide)), ea37, up1_n (xSS (by decide))]; exact (hR.p hk (by decide))), show a117 0 = (a 0) from (by rw [(hLv117.1 _ (by omega) (by omega)), ea99, rcX_n (by omega) (by omega), ea95, up1_n (xNF (by decide)), ea79, up1_n (xNP (by decide)), ea71, up1_n (xNP (by decide)), ea47, up1_n (xNP (by decide)), ea37, up1_n (xNP (by decide))]; exact (hR.n 0 (by decide) (by decide)))]; omega) (show -6 ≤ a117 (125 + 11 * (p % 120) + 3) ∧ a117 (125 + 11 * (p % 120) + 3) ≤ 2000000 by rw [show a117 (125 + 11 * (p % 120) + 3) = (a (125 + 11 * (p % 120) + 3)) from (by rw [(hLv117.1 _ (by omega) (by omega)), ea99, rcX_n (by omega) (by omega), ea95, up1_n (xPF hf6 (by decide)), ea79, up1_n (xSS (by decide)), ea71, up1_n (xSS (by decide)), ea47, up1_n (xSS (by decide)), ea37, up1_n (xSS (by decide))]; exact (hR.p hk (by decide)))]; omega) (show 0 ≤ a117 (17 + 18 * f + 9) ∧ a117 (17 + 18 * f + 9) ≤ 1002000 by rw [show a117 (17 + 18 * f + 9) = (a (17 + 18 * f + 9)) from (by rw [(hLv117.1 _ (by omega) (by omega)), ea99, rcX_n (by omega) (by omega), ea95, up1_n (xSS (by decide)), ea79, up1_n (xFP hf6 (by decide)), ea71, up1_n (xFP hf6 (by decide)), ea47, up1_n (xFP hf6 (by decide)), ea37, up1_n (xFP hf6 (by decide))]; exact (hR.f hf2 (fk_y (by decide) (by decide))))]; omega) (show a117 8356 = -6 ∨ (0 ≤ a117 8356 ∧ a117 8356 ≤ 400000) by rw [show a117 8356 = (X 8356) from (by rw [(hLv117.1 _ (by omega) (by omega)), ea99, rcX_LD, ea95, up1_n (by omega), ea79, up1_n (by omega), ea71, up1_n (by omega), ea47, up1_n (by omega), ea37, up1_n (by omega)])]; exact hz)) cw_X4_205 (rm_ok rfl rfl (Nat.zero_le _) (Nat.zero_le _)) (Nat.le_of_ble_eq_true rfl) hS.1.1 dX4_finishPiece_157 (fun I157 L157 h157 => ?_)
          obtain ⟨h157I, h157L⟩ := h157
          obtain ⟨a157, ea157⟩ : ∃ z, z = up1 (dlP a117 f p) 8356 (fdN (a117 8356) p) := ⟨_, rfl⟩
          rw [← ea157] at h157I h157L
          subst h157I
          subst h157L
          refine r_vret C hr hlk dX4_finishPiece_160 (Nat.zero_le _) (Nat.zero_le _) ?_
          have hn1 : ¬ (a (125 + 11 * (p % 120) + 5) + a 9 < a (125 + 11 * (p % 120) + 1)) := by omega
          have hlv : ∀ v : Int, 1 < v → Rl m (up1 (up1 (pd1 a f p) (17 + 18 * f + 17) (a (17 + 18 * f + 17) - 1)) (125 + 11 * (p % 120) + 4) v) (up1 a117 (125 + 11 * (p % 120) + 4) v) := by
            intro v hv
            have h17p : pd1 a f p (17 + 18 * f + 17) = a (17 + 18 * f + 17) := pd1_n (by omega)
            rw [← h17p]
            refine hR2.lv (by rw [g7]; omega) (by rw [g2]; omega) ⟨by rw [old_eq g7]; exact hk.1, by rw [g7]; exact hk.2⟩ (by rw [pd1_n (by omega)]; exact hf) (by rw [g2]; exact hf2) (by rw [pd1_n (by omega), h4]; decide) (by rw [h17p, Qs_pd hf6]; exact (hI.2.1 f hf2).2) (fun g hg => by rw [Qs_pd hf6]; rw [g2] at hg; exact Inv.q20 hI g hg) hv (fun _ => ?_) (by rw [Qs_pd hf6]; exact hLv117)
            rw [pd1_p10 hf6]
            exact (by rw [ea99, rcX_n (by omega) (by omega), ea95, up1_n (xPF hf6 (by decide)), ea79, up1_s])
          have hn2 : ¬ (1 < a (125 + 11 * (p % 120) + 6) + 1 ∧ 0 < a 4) := by omega
          have eF : pdF a f p = dlP (up1 (pd1 a f p) (17 + 18 * f + 17) (a (17 + 18 * f + 17) - 1)) f p := by
            unfold pdF
            rw [if_neg hn1, if_neg hn2]
            unfold dlv
            rw [flP_up (k := 17 + 18 * f + 17) (by omega), flP_of (f := f) (by rw [pd1_n (by omega)]; exact hf)]
          have hIF := Inv_pdF hI hk hf h4 h9.1 hle hsn h15
          have hTF := hIF.1
          unfold TopOK at hTF
          refine ⟨rfl, rfl, a157, ?_, ?_, rfl, rfl⟩
          · rw [ea157]
            refine Rl.rt ?_ 8356 _ (by decide) (by omega) (Inv.q20 hIF)
            rw [eF]
            exact (hlv 3 (by decide)).dl hf6 (by rw [show a117 0 = (a 0) from (by rw [(hLv117.1 _ (by omega) (by omega)), ea99, rcX_n (by omega) (by omega), ea95, up1_n (xNF (by decide)), ea79, up1_n (xNP (by decide)), ea71, up1_n (xNP (by decide)), ea47, up1_n (xNP (by decide)), ea37, up1_n (xNP (by decide))]; exact (hR.n 0 (by decide) (by decide))), up1_n (by omega), pd1_n (by omega)]) (by rw [show a117 (125 + 11 * (p % 120) + 2) = (a (125 + 11 * (p % 120) + 2)) from (by rw [(hLv117.1 _ (by omega) (by omega)), ea99, rcX_n (by omega) (by omega), ea95, up1_n (xPF hf6 (by decide)), ea79, up1_n (xSS (by decide)), ea71, up1_n (xSS (by decide)), ea47, up1_n (xSS (by decide)), ea37, up1_n (xSS (by decide))]; exact (hR.p hk (by decide))), up1_n (by omega), pd1_n (by omega)]) (by rw [show a117 (125 + 11 * (p % 120) + 3) = (a (125 + 11 * (p % 120) + 3)) from (by rw [(hLv117.1 _ (by omega) (by omega)), ea99, rcX_n (by omega) (by omega), ea95, up1_n (xPF hf6 (by decide)), ea79, up1_n (xSS (by decide)), ea71, up1_n (xSS (by decide)), ea47, up1_n (xSS (by decide)), ea37, up1_n (xSS (by decide))]; exact (hR.p hk (by decide))), up1_n (by omega), pd1_n (by omega)]) (by rw [show a117 (17 + 18 * f + 7) = (a (17 + 18 * f + 7)) from (by rw [(hLv117.1 _ (by omega) (by omega)), ea99, rcX_n (by omega) (by omega), ea95, up1_n (xSS (by decide)), ea79, up1_n (xFP hf6 (by decide)), ea71, up1_n (xFP hf6 (by decide)), ea47, up1_n (xFP hf6 (by decide)), ea37, up1_n (xFP hf6 (by decide))]; exact (hR.f hf2 (fk_y (by decide) (by decide)))), up1_n (by omega), pd1_n (by omega)]) (by rw [show a117 (17 + 18 * f + 8) = (a (17 + 18 * f + 8)) from (by rw [(hLv117.1 _ (by omega) (by omega)), ea99, rcX_n (by omega) (by omega), ea95, up1_n (xSS (by decide)), ea79, up1_n (xFP hf6 (by decide)), ea71, up1_n (xFP hf6 (by decide)), ea47, up1_n (xFP hf6 (by decide)), ea37, up1_n (xFP hf6 (by decide))]; exact (hR.f hf2 (fk_y (by decide) (by decide)))), up1_n (by omega), pd1_n (by omega)]) (by rw [show a117 (17 + 18 * f + 9) = (a (17 + 18 * f + 9)) from (by rw [(hLv117.1 _ (by omega) (by omega)), ea99, rcX_n (by omega) (by omega), ea95, up1_n (xSS (by decide)), ea79, up1_n (xFP hf6 (by decide)), ea71, up1_n (xFP hf6 (by decide)), ea47, up1_n (xFP hf6 (by decide)), ea37, up1_n (xFP hf6 (by decide))]; exact (hR.f hf2 (fk_y (by decide) (by decide)))), up1_n (by omega), pd1_n (by omega)]) (by rw [show a117 (17 + 18 * f + 10) = (a (17 + 18 * f + 10)) from (by rw [(hLv117.1 _ (by omega) (by omega)), ea99, rcX_n (by omega) (by omega), ea95, up1_n (xSS (by decide)), ea79, up1_n (xFP hf6 (by decide)), ea71, up1_n (xFP hf6 (by decide)), ea47, up1_n (xFP hf6 (by decide)), ea37, up1_n (xFP hf6 (by decide))]; exact (hR.f hf2 (fk_y (by decide) (by decide)))), up1_n (by omega), pd1_n (by omega)])
          · rw [ea157, up1_s, show a117 8356 = X 8356 from (by rw [(hLv117.1 _ (by omega) (by omega)), ea99, rcX_LD, ea95, up1_n (by omega), ea79, up1_n (by omega), ea71, up1_n (by omega), ea47, up1_n (by omega), ea37, up1_n (by omega)])]
            unfold pdZ
            rw [if_neg hn1, if_neg hn2]
        · refine r_aload_n C 1 dX4_finishPiece_137 rfl rfl ?_
          refine r_iconst (v := iI 2) C dX4_finishPiece_138 rfl ?_
          refine c_putI C (22 + (p % 120)) ((125 + 11 * (p % 120) + 4)) rfl (oP m120) (lnP m120 (by decide)) (ky_P m120 4) fl_X4_120 rfl dX4_finishPiece_139 (hS.2.2.2.1 (p % 120) m120).1 (fun a139 ea139 => ?_)
          refine r_aload_n C 3 dX4_finishPiece_142 rfl rfl ?_
          refine r_dup C dX4_finishPiece_143 rfl ?_
          refine c_getI C (v := (a 16)) 0 16 rfl (by decide) (lnS (by decide)) rfl fl_X4_174 rfl dX4_finishPiece_144 hS.1.1 (by rw [ea139, up1_n (xNP (by decide)), (hLv117.1 _ (by omega) (by omega)), ea99, rcX_n (by omega) (by omega), ea95, up1_n (xNF (by decide)), ea79, up1_n (xNP (by decide)), ea71, up1_n (xNP (by decide)), ea47, up1_n (xNP (by decide)), ea37, up1_n (xNP (by decide))]; exact (hR.n 16 (by decide) (by decide))) ?_
          refine r_iconst (v := iI 1) C dX4_finishPiece_147 rfl ?_
          refine n_iadd C dX4_finishPiece_148 ?_
          refine c_putI C 0 16 rfl (by decide) (lnS (by decide)) rfl fl_X4_174 rfl dX4_finishPiece_149 hS.1.1 (fun a149 ea149 => ?_)
          refine r_goto (tgt := 160) C dX4_finishPiece_152 (by decide) ?_
          refine r_vret C hr hlk dX4_finishPiece_160 (Nat.zero_le _) (Nat.zero_le _) ?_
          have hn1 : ¬ (a (125 + 11 * (p % 120) + 5) + a 9 < a (125 + 11 * (p % 120) + 1)) := by omega
          have hlv : ∀ v : Int, 1 < v → Rl m (up1 (up1 (pd1 a f p) (17 + 18 * f + 17) (a (17 + 18 * f + 17) - 1)) (125 + 11 * (p % 120) + 4) v) (up1 a117 (125 + 11 * (p % 120) + 4) v) := by
            intro v hv
            have h17p : pd1 a f p (17 + 18 * f + 17) = a (17 + 18 * f + 17) := pd1_n (by omega)
            rw [← h17p]
            refine hR2.lv (by rw [g7]; omega) (by rw [g2]; omega) ⟨by rw [old_eq g7]; exact hk.1, by rw [g7]; exact hk.2⟩ (by rw [pd1_n (by omega)]; exact hf) (by rw [g2]; exact hf2) (by rw [pd1_n (by omega), h4]; decide) (by rw [h17p, Qs_pd hf6]; exact (hI.2.1 f hf2).2) (fun g hg => by rw [Qs_pd hf6]; rw [g2] at hg; exact Inv.q20 hI g hg) hv (fun _ => ?_) (by rw [Qs_pd hf6]; exact hLv117)
            rw [pd1_p10 hf6]
            exact (by rw [ea99, rcX_n (by omega) (by omega), ea95, up1_n (xPF hf6 (by decide)), ea79, up1_s])
          have hn2 : 1 < a (125 + 11 * (p % 120) + 6) + 1 ∧ 0 < a 4 := by omega
          refine ⟨rfl, rfl, a149, ?_, ?_, rfl, rfl⟩
          · unfold pdF
            rw [if_neg hn1, if_pos hn2, ea149, ea139]
            exact (hlv 2 (by decide)).upN 16 _ (by decide) (by decide)
          · unfold pdZ
            rw [if_neg hn1, if_pos hn2]
            exact (by rw [ea149, up1_n (by decide), ea139, up1_n (by omega), (hLv117.1 _ (by omega) (by omega)), ea99, rcX_LD, ea95, up1_n (by omega), ea79, up1_n (by omega), ea71, up1_n (by omega), ea47, up1_n (by omega), ea37, up1_n (by omega)])
    · refine r_aload_n C 1 dX4_finishPiece_109 rfl rfl ?_
      refine r_iconst (v := iI 0) C dX4_finishPiece_110 rfl ?_
      refine c_putI C (22 + (p % 120)) ((125 + 11 * (p % 120) + 4)) rfl (oP m120) (lnP m120 (by decide)) (ky_P m120 4) fl_X4_120 rfl dX4_finishPiece_111 (hS.2.2.2.1 (p % 120) m120).1 (fun a111 ea111 => ?_)
      refine r_vret C hr hlk dX4_finishPiece_114 (Nat.zero_le _) (Nat.zero_le _) ?_
      refine ⟨rfl, rfl, a111, ?_, ?_, rfl, rfl⟩
      · unfold pdF
        rw [if_pos (by omega), ea111]
        refine hR2.up4 (by rw [g7]; omega) ⟨by rw [old_eq g7]; exact hk.1, by rw [g7]; exact hk.2⟩ ?_ (fun z => absurd z (by decide))
        rw [pd1_n (by omega), h4]
        omega
      · unfold pdZ
        rw [if_pos (by omega)]
        exact (by rw [ea111, up1_n (by omega), ea99, rcX_LD, ea95, up1_n (by omega), ea79, up1_n (by omega), ea71, up1_n (by omega), ea47, up1_n (by omega), ea37, up1_n (by omega)])
  refine r_aload_n C 3 dX4_finishPiece_55 rfl rfl ?_
  refine r_getR C fl_X4_45 rfl dX4_finishPiece_56 hS.1.1 hS.2.1.2.2.2.2.1 ?_
  refine c_getI C (v := (a 11)) 203 11 rfl (by decide) ln203 rfl fl_X4_191 rfl dX4_finishPiece_59 hS.1.2.2.2.2.2.1 (by rw [ea47, up1_n (xNP (by decide)), ea37, up1_n (xNP (by decide))]; exact (hR.n 11 (by decide) (by decide))) ?_
  refine n_if_eq (tgt := 69) C dX4_finishPiece_62 (by decide) (by constructor <;> omega) (fun c62 => ?_) (fun c62 => ?_)
  · refine r_iconst (v := iI 0) C dX4_finishPiece_69 rfl ?_
    exact jn70 _ (Or.inl ⟨c62, rfl⟩)
  · refine r_iconst (v := iI 1) C dX4_finishPiece_65 rfl ?_
    refine r_goto (tgt := 70) C dX4_finishPiece_66 (by decide) ?_
    exact jn70 _ (Or.inr (⟨c62, rfl⟩))
set_option maxHeartbeats 4000000 in
set_option maxRecDepth 20000 in
theorem k_X4_deliverJoined {l : Launch} {G : Gd} {base : Nat} {Y : MY} {I : MI} {L : ML} {B : Nat} {X : Sa} {m : Bool} {a : Sa} {N T : Int}  (hS : SLy base Y B) (hI : Inv N T a) (hR : Rl m a X) (hz : X 8356 = -6 ∨ (0 ≤ X 8356 ∧ X 8356 ≤ 400000)) : Ct l yX4_deliverJoined cX4_deliverJoined 3 (none) (rmz 3 65) G base [.ref B] Y (cI I B X) (cL L B X) (EV Y (fun I' L' => ∃ X', Rl m (jal a) X' ∧ X' 8356 = jaz (X 8356) a ∧ I' = cI I B X' ∧ L' = cL L B X')) := by
  refine Ct.of (own := RX4) (lo := [(0, .ref B)]) (by decide) rfl (Nat.le_of_ble_eq_true rfl) rfl ?_
  intro zp ze zs zm zargs zbl zmt zc C hr hlk hnm
  have hT := hI.1
  unfold TopOK at hT
  have ho : old a = (a 7 - 120).toNat := rfl
  refine r_aload_n C 0 dX4_deliverJoined_0 rfl rfl ?_
  refine cV0_PI C (k_X4_oldestPacket hS (show 0 ≤ X 7 ∧ X 7 ≤ 400000 by rw [show X 7 = (a 7) from (hR.n 7 (by decide) (by decide))]; omega)) cw_X4_72 (rm_ok rfl rfl (Nat.zero_le _) (Nat.zero_le _)) (Nat.le_of_ble_eq_true rfl) hS.1.1 dX4_deliverJoined_1 ?_
  refine n_eqi (y := (old a : Int)) (by rw [old_eq (show X 7 = a 7 from (hR.n 7 (by decide) (by decide)))]) ?_
  refine n_topi (fun x4 ex4 => ?_)
  refine r_istore_n (lo' := [(1, .int (iI x4)), (0, .ref B)]) C dX4_deliverJoined_4 rfl (by decide) rfl ?_
  have lp5 : ∀ (k : Nat) (x1 : Int) (p : Nat) (a1 : Sa) (X1 : Sa) (z : Int) (hx1 : x1 = p) (hp : old a ≤ p ∧ p ≤ (a 7).toNat) (hI1 : Inv N T a1) (h7 : a1 7 = a 7) (hR1 : Rl m a1 X1) (hz1 : X1 8356 = z) (he : jnA a1 ((a 7).toNat - p) p = jal a) (hf : jnF z a1 ((a 7).toNat - p) p = jaz (X 8356) a) (hzb : z = -6 ∨ (0 ≤ z ∧ z ≤ 400000)), (a 7).toNat - p = k → Bd zp l ze (rmz 3 65) zs zm zargs zbl zmt zc 3 G base (EV Y (fun I' L' => ∃ X', Rl m (jal a) X' ∧ X' 8356 = jaz (X 8356) a ∧ I' = cI I B X' ∧ L' = cL L B X')) 5 [(1, .int (iI x1)), (0, .ref B)] [] Y (cI I B X1) (cL L B X1) 0 0 := by
    intro k
    induction k using Nat.strongRecOn with
    | _ k ih5 =>
    intro x1 p a1 X1 z hx1 hp hI1 h7 hR1 hz1 he hf hzb hk5
    have hT1 := hI1.1
    unfold TopOK at hT1
    refine r_iload_n C 0 dX4_deliverJoined_5 rfl rfl ?_
    refine r_aload_n C 1 dX4_deliverJoined_6 rfl rfl ?_
    refine c_getI C (v := (a1 7)) 0 7 rfl (by decide) (lnS (by decide)) rfl fl_X4_63 rfl dX4_deliverJoined_7 hS.1.1 (hR1.n 7 (by decide) (by decide)) ?_
    refine n_icmp_ge (tgt := 66) C dX4_deliverJoined_10 (by decide) (by constructor <;> omega) (by constructor <;> omega) (fun c10 => ?_) (fun c10 => ?_)
    · refine r_vret C hr hlk dX4_deliverJoined_66 (Nat.zero_le _) (Nat.zero_le _) ?_
      rw [show (a 7).toNat - p = 0 by omega] at he hf
      exact ⟨rfl, rfl, X1, by rw [← he]; exact hR1, by rw [← hf]; exact hz1, rfl, rfl⟩
    · have hkp : old a1 ≤ p ∧ (p : Int) < a1 7 := ⟨by rw [old_eq h7]; exact hp.1, by omega⟩
      have hP := hI1.2.2.1 p hkp.1 hkp.2
      unfold PkOK at hP
      refine r_aload_n C 1 dX4_deliverJoined_13 rfl rfl ?_
      refine r_iload_n C 0 dX4_deliverJoined_14 rfl rfl ?_
      refine cV1_PA C (k_X4_packetAt p hS (by omega) (by omega)) cw_X4_91 (rm_ok rfl rfl (Nat.zero_le _) (Nat.zero_le _)) (Nat.le_of_ble_eq_true rfl) hS.1.1 dX4_deliverJoined_15 ?_
      refine r_astore_n (lo' := [(2, .ref (B + (22 + (p % 120)))), (1, .int (iI x1)), (0, .ref B)]) C dX4_deliverJoined_18 rfl (by decide) rfl ?_
      refine r_aload_n C 0 dX4_deliverJoined_19 rfl rfl ?_
      refine c_getI C (v := (a1 (125 + 11 * (p % 120) + 4))) (22 + (p % 120)) ((125 + 11 * (p % 120) + 4)) rfl (oP m120) (lnP m120 (by decide)) (ky_P m120 4) fl_X4_120 rfl dX4_deliverJoined_20 (hS.2.2.2.1 (p % 120) m120).1 (hR1.p hkp (by decide)) ?_
      refine r_iconst (v := iI 2) C dX4_deliverJoined_23 rfl ?_
      refine n_icmp_ne (tgt := 60) C dX4_deliverJoined_24 (by decide) (by constructor <;> omega) ⟨by decide, by decide⟩ (fun c24 => ?_) (fun c24 => ?_)
      · have hjn : ¬ jnC a1 p := fun hh => by have h1 := hh.1; have h2 := hh.2; omega
        have hjA : jnA a1 ((a 7).toNat - p) p = jnA a1 ((a 7).toNat - (p + 1)) (p + 1) := by
          rw [show (a 7).toNat - p = ((a 7).toNat - (p + 1)) + 1 by omega]
          show jnA (jnS a1 p) _ _ = _
          unfold jnS
          rw [@if_neg _ (Classical.propDecidable _) hjn]
        have hjF : jnF z a1 ((a 7).toNat - p) p = jnF z a1 ((a 7).toNat - (p + 1)) (p + 1) := by
          rw [show (a 7).toNat - p = ((a 7).toNat - (p + 1)) + 1 by omega]
          show jnF (jnZ z a1 p) (jnS a1 p) _ _ = _
          unfold jnS jnZ
          rw [@if_neg _ (Classical.propDecidable _) hjn, @if_neg _ (Classical.propDecidable _) hjn]
        refine n_iinc (lo' := [(1, .int (iI (x1 + 1))), (2, .ref (B + (22 + (p % 120)))), (0, .ref B)]) C 1 dX4_deliverJoined_60 rfl rfl (by decide) rfl ?_
        refine r_goto (tgt := 5) C dX4_deliverJoined_63 (by decide) ?_
        refine r_lo [0, 2] rfl ?_
        exact ih5 _ (by first | omega | (rw [← hk5]; omega)) ((x1 + 1)) (p + 1) a1 X1 z (by omega) (by omega) hI1 h7 hR1 hz1 (by rw [hjA] at he; exact he) (by rw [hjF] at hf; exact hf) hzb rfl
      · refine r_aload_n C 2 dX4_deliverJoined_27 rfl rfl ?_
        refine c_getI C (v := (a1 0)) 0 0 rfl (by decide) (lnS (by decide)) rfl fl_X4_129 rfl dX4_deliverJoined_28 hS.1.1 (hR1.n 0 (by decide) (by decide)) ?_
        refine r_aload_n C 0 dX4_deliverJoined_31 rfl rfl ?_
        refine c_getI C (v := (a1 (125 + 11 * (p % 120) + 10))) (22 + (p % 120)) ((125 + 11 * (p % 120) + 10)) rfl (oP m120) (lnP m120 (by decide)) (ky_P m120 8) fl_X4_195 rfl dX4_deliverJoined_32 (hS.2.2.2.1 (p % 120) m120).1 (hR1.p10 hkp c24) ?_
        refine n_isub C dX4_deliverJoined_35 ?_
        refine r_aload_n C 2 dX4_deliverJoined_36 rfl rfl ?_
        refine r_getR C fl_X4_13 rfl dX4_deliverJoined_37 hS.1.1 hS.2.1.1 ?_
        refine r_iconst (v := iI 1) C dX4_deliverJoined_40 rfl ?_
        refine c_iald C (v := (a1 4)) 1 1 4 rfl (by decide) ln1 rfl dX4_deliverJoined_41 hS.1.2.1 ⟨rfl, by decide, by decide⟩ (hR1.n 4 (by decide) (by decide)) ?_
        refine n_icmp_lt (tgt := 60) C dX4_deliverJoined_42 (by decide) (by constructor <;> omega) (by constructor <;> omega) (fun c42 => ?_) (fun c42 => ?_)
        · have hjn : ¬ jnC a1 p := fun hh => by have h1 := hh.1; have h2 := hh.2; omega
          have hjA : jnA a1 ((a 7).toNat - p) p = jnA a1 ((a 7).toNat - (p + 1)) (p + 1) := by
            rw [show (a 7).toNat - p = ((a 7).toNat - (p + 1)) + 1 by omega]
            show jnA (jnS a1 p) _ _ = _
            unfold jnS
            rw [@if_neg _ (Classical.propDecidable _) hjn]
          have hjF : jnF z a1 ((a 7).toNat - p) p = jnF z a1 ((a 7).toNat - (p + 1)) (p + 1) := by
            rw [show (a 7).toNat - p = ((a 7).toNat - (p + 1)) + 1 by omega]
            show jnF (jnZ z a1 p) (jnS a1 p) _ _ = _
            unfold jnS jnZ
            rw [@if_neg _ (Classical.propDecidable _) hjn, @if_neg _ (Classical.propDecidable _) hjn]
          refine n_iinc (lo' := [(1, .int (iI (x1 + 1))), (2, .ref (B + (22 + (p % 120)))), (0, .ref B)]) C 1 dX4_deliverJoined_60 rfl rfl (by decide) rfl ?_
          refine r_goto (tgt := 5) C dX4_deliverJoined_63 (by decide) ?_
          refine r_lo [0, 2] rfl ?_
          exact ih5 _ (by first | omega | (rw [← hk5]; omega)) ((x1 + 1)) (p + 1) a1 X1 z (by omega) (by omega) hI1 h7 hR1 hz1 (by rw [hjA] at he; exact he) (by rw [hjF] at hf; exact hf) hzb rfl
        · obtain ⟨f, hfa⟩ := Int.eq_ofNat_of_zero_le (show 0 ≤ a1 (125 + 11 * (p % 120) + 0) by omega)
          have hf2 : (f : Int) < a1 2 := by omega
          have hf6 : f < 6 := by omega
          have hF := (hI1.2.1 f hf2).1
          unfold FlowOK at hF
          refine r_aload_n C 2 dX4_deliverJoined_45 rfl rfl ?_
          refine r_dup C dX4_deliverJoined_46 rfl ?_
          refine c_getI C (v := (a1 16)) 0 16 rfl (by decide) (lnS (by decide)) rfl fl_X4_174 rfl dX4_deliverJoined_47 hS.1.1 (hR1.n 16 (by decide) (by decide)) ?_
          refine r_iconst (v := iI 1) C dX4_deliverJoined_50 rfl ?_
          refine n_isub C dX4_deliverJoined_51 ?_
          refine c_putI C 0 16 rfl (by decide) (lnS (by decide)) rfl fl_X4_174 rfl dX4_deliverJoined_52 hS.1.1 (fun a52 ea52 => ?_)
          refine r_aload_n C 2 dX4_deliverJoined_55 rfl rfl ?_
          refine r_iload_n C 1 dX4_deliverJoined_56 rfl rfl ?_
          refine cV1_EV C (k_X4_deliver p f hS (by omega) (by omega) (show a52 (125 + 11 * (p % 120) + 0) = ((f : Nat) : Int) by rw [show a52 (125 + 11 * (p % 120) + 0) = (a1 (125 + 11 * (p % 120) + 0)) from (by rw [ea52, up1_n (xPN (by decide))]; exact (hR1.p hkp (by decide)))]; omega) hf6 (show 0 ≤ a52 0 ∧ a52 0 ≤ 1002000 by rw [show a52 0 = (a1 0) from (by rw [ea52, up1_n (by decide)]; exact (hR1.n 0 (by decide) (by decide)))]; omega) (show 0 ≤ a52 (125 + 11 * (p % 120) + 2) ∧ a52 (125 + 11 * (p % 120) + 2) ≤ a52 0 by rw [show a52 (125 + 11 * (p % 120) + 2) = (a1 (125 + 11 * (p % 120) + 2)) from (by rw [ea52, up1_n (xPN (by decide))]; exact (hR1.p hkp (by decide))), show a52 0 = (a1 0) from (by rw [ea52, up1_n (by decide)]; exact (hR1.n 0 (by decide) (by decide)))]; omega) (show -6 ≤ a52 (125 + 11 * (p % 120) + 3) ∧ a52 (125 + 11 * (p % 120) + 3) ≤ 2000000 by rw [show a52 (125 + 11 * (p % 120) + 3) = (a1 (125 + 11 * (p % 120) + 3)) from (by rw [ea52, up1_n (xPN (by decide))]; exact (hR1.p hkp (by decide)))]; omega) (show 0 ≤ a52 (17 + 18 * f + 9) ∧ a52 (17 + 18 * f + 9) ≤ 1002000 by rw [show a52 (17 + 18 * f + 9) = (a1 (17 + 18 * f + 9)) from (by rw [ea52, up1_n (xFN (by decide))]; exact (hR1.f hf2 (fk_y (by decide) (by decide))))]; omega) (show a52 8356 = -6 ∨ (0 ≤ a52 8356 ∧ a52 8356 ≤ 400000) by rw [show a52 8356 = (X1 8356) from (by rw [ea52, up1_n (by decide)])]; exact (hz1 ▸ hzb))) cw_X4_205 (rm_ok rfl rfl (Nat.zero_le _) (Nat.zero_le _)) (Nat.le_of_ble_eq_true rfl) hS.1.1 dX4_deliverJoined_57 (fun I57 L57 h57 => ?_)
          obtain ⟨h57I, h57L⟩ := h57
          obtain ⟨a57, ea57⟩ : ∃ z, z = up1 (dlP a52 f p) 8356 (fdN (a52 8356) p) := ⟨_, rfl⟩
          rw [← ea57] at h57I h57L
          subst h57I
          subst h57L
          have hjc : jnC a1 p := ⟨c24, by omega⟩
          have hjS : jnS a1 p = jn1 a1 p := by
            unfold jnS
            rw [@if_pos _ (Classical.propDecidable _) hjc]
          have hjA : jnA a1 ((a 7).toNat - p) p = jnA (jn1 a1 p) ((a 7).toNat - (p + 1)) (p + 1) := by
            rw [show (a 7).toNat - p = ((a 7).toNat - (p + 1)) + 1 by omega, ← hjS]
            rfl
          have hjF : jnF z a1 ((a 7).toNat - p) p = jnF (fdN z p) (jn1 a1 p) ((a 7).toNat - (p + 1)) (p + 1) := by
            rw [show (a 7).toNat - p = ((a 7).toNat - (p + 1)) + 1 by omega, ← hjS]
            show jnF (jnZ z a1 p) (jnS a1 p) _ _ = _
            unfold jnZ
            rw [@if_pos _ (Classical.propDecidable _) hjc]
          have hIn := Inv_jn hI1 hkp c24
          have hTn := hIn.1
          unfold TopOK at hTn
          have h716 : (up1 a1 16 (a1 16 - 1)) 7 = a1 7 := up1_n (by omega)
          have hRn : Rl m (jn1 a1 p) a57 := by
            rw [ea57]
            refine Rl.rt ?_ 8356 _ (by decide) (by omega) (Inv.q20 hIn)
            unfold jn1 dlv
            rw [flP_16, flP_of hfa]
            refine Rl.dl ?_ hf6 (by rw [ea52, up1_n (by omega), up1_n (by omega)]; exact (hR1.n 0 (by decide) (by decide))) (by rw [ea52, up1_n (by omega), up1_n (by omega)]; exact (hR1.p hkp (by decide))) (by rw [ea52, up1_n (by omega), up1_n (by omega)]; exact (hR1.p hkp (by decide))) (by rw [ea52, up1_n (by omega), up1_n (by omega)]; exact (hR1.f hf2 (fk_y (by decide) (by decide)))) (by rw [ea52, up1_n (by omega), up1_n (by omega)]; exact (hR1.f hf2 (fk_y (by decide) (by decide)))) (by rw [ea52, up1_n (by omega), up1_n (by omega)]; exact (hR1.f hf2 (fk_y (by decide) (by decide)))) (by rw [ea52, up1_n (by omega), up1_n (by omega)]; exact (hR1.f hf2 (fk_y (by decide) (by decide))))
            refine Rl.up4 ?_ (by rw [h716]; omega) ⟨by rw [old_eq h716]; exact hkp.1, by rw [h716]; exact hkp.2⟩ (by rw [up1_n (by omega), c24]; decide) (fun z => absurd z (by decide))
            rw [ea52]
            exact hR1.upN 16 _ (by decide) (by decide)
          refine n_iinc (lo' := [(1, .int (iI (x1 + 1))), (2, .ref (B + (22 + (p % 120)))), (0, .ref B)]) C 1 dX4_deliverJoined_60 rfl rfl (by decide) rfl ?_
          refine r_goto (tgt := 5) C dX4_deliverJoined_63 (by decide) ?_
          refine r_lo [0, 2] rfl ?_
          exact ih5 _ (by first | omega | (rw [← hk5]; omega)) ((x1 + 1)) (p + 1) ((jn1 a1 p)) a57 ((fdN z p)) (by omega) (by omega) (Inv_jn hI1 hkp c24) (by rw [← hjS]; exact (jnS_k (jn_fl hI1 hkp) jk7).trans h7) hRn (by rw [ea57, up1_s, ea52, up1_n (by decide), hz1]) (by rw [hjA] at he; exact he) (by rw [hjF] at hf; exact hf) (by unfold fdN; split <;> omega) rfl
  exact lp5 _ x4 (old a) a X ((X 8356)) (by omega) (by omega) hI rfl hR rfl rfl rfl hz rfl
