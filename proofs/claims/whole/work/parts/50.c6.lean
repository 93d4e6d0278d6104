/-- the head of a queue is the first packet of it -/
theorem hd_q {a : Sa} {N T : Int} (hI : Inv N T a) {f : Nat} (hf : (f : Int) < a 2) (h0 : ¬ a (17 + 18 * f + 17) = 0) : ∃ p : Nat, (Qs a f)[0]? = some p ∧ hdF a f = p ∧ (old a ≤ p ∧ (p : Int) < a 7) ∧ a (125 + 11 * (p % 120) + 0) = f ∧ a (125 + 11 * (p % 120) + 4) ≤ 1 := by
  have hT := hI.1
  unfold TopOK at hT
  have hlen := (hI.2.1 f hf).2
  obtain ⟨q, hq⟩ : ∃ q, (Qs a f)[0]? = some q := ⟨_, List.getElem?_eq_getElem (by omega)⟩
  rcases hd_ok hI hf with ⟨h, _⟩ | ⟨_, p, h1, h2, h3, h4⟩
  · exact absurd h h0
  · have hqm : q ∈ Qs a f := List.mem_of_getElem? hq
    have hqk := Qs_mem.mp hqm
    have ho : old a = (a 7 - 120).toNat := rfl
    have hle : p ≤ q := by
      have h5 := (hdN_spec a f 120 (old a) q hqk.1.1 (by omega) hqk.2).1
      unfold hdF at h1
      rw [if_neg h0] at h1
      omega
    have hge : q ≤ p := by
      have hpm : p ∈ Qs a f := Qs_mem.mpr ⟨⟨h2.1, by omega⟩, h3, h4⟩
      have hs : (Qs a f).Pairwise (· < ·) := by
        unfold Qs knw
        exact List.Pairwise.filter _ (List.pairwise_lt_range')
      cases hl : Qs a f with
      | nil => rw [hl] at hq; simp at hq
      | cons x t =>
        rw [hl] at hq hpm hs
        have hx : x = q := by simpa using hq
        subst hx
        rcases List.mem_cons.mp hpm with h | h
        · omega
        · have := (List.pairwise_cons.mp hs).1 p h
          omega
    have e : p = q := by omega
    subst e
    exact ⟨p, hq, h1, h2, h3, h4⟩
theorem hd_R {m : Bool} {a X : Sa} {N T : Int} (hI : Inv N T a) (hR : Rl m a X) {f : Nat} (hf : (f : Int) < a 2) : (if X (17 + 18 * f + 17) = 0 then -6 else X (2000 + 20 * f + 0)) = hdF a f := by
  rw [hR.f hf (fk_y (by decide) (by decide))]
  by_cases h0 : a (17 + 18 * f + 17) = 0
  · rw [if_pos h0]
    unfold hdF
    rw [if_pos h0]
  · rw [if_neg h0]
    obtain ⟨p, h1, h2, -⟩ := hd_q hI hf h0
    rw [hR.q hf h1, h2]
set_option maxHeartbeats 4000000 in
set_option maxRecDepth 20000 in
theorem k_X4_ticksOfRest {l : Launch} {G : Gd} {base : Nat} {Y : MY} {I : MI} {L : ML} {B : Nat} {X : Sa} {m : Bool} {a : Sa} {N T : Int} (p : Nat) (hS : SLy base Y B) (hI : Inv N T a) (hR : Rl m a X) (hk : old a ≤ p ∧ (p : Int) < a 7) : Ct l yX4_ticksOfRest cX4_ticksOfRest 4 (some .int) (rmz 1 20) G base [.ref B, .ref (B + (22 + p % 120))] Y (cI I B X) (cL L B X) (PI (rstT a (flP a p) p) Y (cI I B X) (cL L B X)) := by
  refine Ct.of (own := RX4) (lo := [(0, .ref B), (1, .ref (B + (22 + p % 120)))]) (by decide) rfl (Nat.le_of_ble_eq_true rfl) rfl ?_
  intro zp ze zs zm zargs zbl zmt zc C hr hlk hnm
  have hT := hI.1
  unfold TopOK at hT
  have hP := hI.2.2.1 p hk.1 hk.2
  unfold PkOK at hP
  obtain ⟨f, hfa⟩ := Int.eq_ofNat_of_zero_le (show 0 ≤ a (125 + 11 * (p % 120) + 0) by omega)
  have hfl : flP a p = f := by unfold flP; omega
  have hf2 : (f : Int) < a 2 := by omega
  have hf6 : f < 6 := by omega
  have hF := (hI.2.1 f hf2).1
  unfold FlowOK at hF
  refine r_aload_n C 1 dX4_ticksOfRest_0 rfl rfl ?_
  refine cV0_PI C (k_X1_unsent (p % 120) hS m120) cw_X4_95 (rm_ok rfl rfl (Nat.zero_le _) (Nat.zero_le _)) (Nat.le_of_ble_eq_true rfl) (hS.2.2.2.1 (p % 120) m120).1 dX4_ticksOfRest_1 ?_
  refine n_eqi (y := ((a (125 + 11 * (p % 120) + 1)) - (a (125 + 11 * (p % 120) + 5)))) (by rw [show X (125 + 11 * (p % 120) + 1) = (a (125 + 11 * (p % 120) + 1)) from (hR.p hk (by decide)), show X (125 + 11 * (p % 120) + 5) = (a (125 + 11 * (p % 120) + 5)) from (hR.p hk (by decide))]) ?_
  refine r_istore_n (lo' := [(2, .int (iI ((a (125 + 11 * (p % 120) + 1)) - (a (125 + 11 * (p % 120) + 5))))), (0, .ref B), (1, .ref (B + (22 + p % 120)))]) C dX4_ticksOfRest_4 rfl (by decide) rfl ?_
  refine r_aload_n C 1 dX4_ticksOfRest_5 rfl rfl ?_
  refine r_getR C fl_X4_26 rfl dX4_ticksOfRest_6 hS.1.1 hS.2.1.2.1 ?_
  refine r_aload_n C 2 dX4_ticksOfRest_9 rfl rfl ?_
  refine c_getI C (v := (a (125 + 11 * (p % 120) + 0))) (22 + (p % 120)) ((125 + 11 * (p % 120) + 0)) rfl (oP m120) (lnP m120 (by decide)) (ky_P m120 0) fl_X4_180 rfl dX4_ticksOfRest_10 (hS.2.2.2.1 (p % 120) m120).1 (hR.p hk (by decide)) ?_
  refine r_aald C (by decide) (by decide) f dX4_ticksOfRest_13 hS.1.2.2.1 ⟨congrArg iI (by omega), (by omega), by decide⟩ (hS.2.2.1 f hf6).2.2.2.1 ?_
  refine r_getR C fl_X4_119 rfl dX4_ticksOfRest_14 (hS.2.2.1 f hf6).1 (hS.2.2.1 f hf6).2.2.2.2.1 ?_
  refine r_iconst (v := iI 2) C dX4_ticksOfRest_17 rfl ?_
  refine c_iald C (v := (a (17 + 18 * f + 2))) (4 + 3 * f) 2 ((17 + 18 * f + 2)) rfl (oG hf6) (lnG1 hf6) (ky_G hf6 (by omega)) dX4_ticksOfRest_18 (hS.2.2.1 f hf6).2.1 ⟨rfl, by decide, by decide⟩ (hR.f hf2 (fk_y (by decide) (by decide))) ?_
  refine r_istore_n (lo' := [(3, .int (iI (a (17 + 18 * f + 2)))), (2, .int (iI ((a (125 + 11 * (p % 120) + 1)) - (a (125 + 11 * (p % 120) + 5))))), (0, .ref B), (1, .ref (B + (22 + p % 120)))]) C dX4_ticksOfRest_19 rfl (by decide) rfl ?_
  refine r_iload_n C 0 dX4_ticksOfRest_20 rfl rfl ?_
  refine r_iconst (v := iI 1) C dX4_ticksOfRest_21 rfl ?_
  refine n_icmp_lt (tgt := 30) C dX4_ticksOfRest_22 (by decide) (by constructor <;> omega) ⟨by decide, by decide⟩ (fun c22 => ?_) (fun c22 => ?_)
  · refine r_aload_n C 2 dX4_ticksOfRest_30 rfl rfl ?_
    refine r_getR C fl_X4_13 rfl dX4_ticksOfRest_31 hS.1.1 hS.2.1.1 ?_
    refine r_iconst (v := iI 0) C dX4_ticksOfRest_34 rfl ?_
    refine c_iald C (v := (a 3)) 1 0 3 rfl (by decide) ln1 rfl dX4_ticksOfRest_35 hS.1.2.1 ⟨rfl, by decide, by decide⟩ (hR.n 3 (by decide) (by decide)) ?_
    refine r_iload_n C 1 dX4_ticksOfRest_36 rfl rfl ?_
    refine n_iadd C dX4_ticksOfRest_37 ?_
    refine r_iret C hr hlk dX4_ticksOfRest_38 (Nat.zero_le _) (Nat.zero_le _) ?_
    exact ⟨congrArg (fun z => some (Value.int (iI z))) (by unfold rstT; rw [hfl]; first | (rw [if_pos (by omega)]; done) | (rw [if_neg (by omega)]; done)), rfl, rfl, rfl⟩
  · refine r_iload_n C 1 dX4_ticksOfRest_25 rfl rfl ?_
    refine r_iload_n C 0 dX4_ticksOfRest_26 rfl rfl ?_
    refine n_icmp_gt (tgt := 39) C dX4_ticksOfRest_27 (by decide) (by constructor <;> omega) (by constructor <;> omega) (fun c27 => ?_) (fun c27 => ?_)
    · refine r_iload_n C 1 dX4_ticksOfRest_39 rfl rfl ?_
      refine r_aload_n C 2 dX4_ticksOfRest_40 rfl rfl ?_
      refine r_getR C fl_X4_13 rfl dX4_ticksOfRest_41 hS.1.1 hS.2.1.1 ?_
      refine r_iconst (v := iI 0) C dX4_ticksOfRest_44 rfl ?_
      refine c_iald C (v := (a 3)) 1 0 3 rfl (by decide) ln1 rfl dX4_ticksOfRest_45 hS.1.2.1 ⟨rfl, by decide, by decide⟩ (hR.n 3 (by decide) (by decide)) ?_
      refine r_iload_n C 1 dX4_ticksOfRest_46 rfl rfl ?_
      refine r_iload_n C 0 dX4_ticksOfRest_47 rfl rfl ?_
      refine n_iadd C dX4_ticksOfRest_48 ?_
      refine r_iconst (v := iI 1) C dX4_ticksOfRest_49 rfl ?_
      refine n_isub C dX4_ticksOfRest_50 ?_
      refine r_iload_n C 0 dX4_ticksOfRest_51 rfl rfl ?_
      refine n_idiv C dX4_ticksOfRest_52 (by omega) (by omega) ?_
      refine n_imul C dX4_ticksOfRest_53 ?_
      refine n_iadd C dX4_ticksOfRest_54 ?_
      refine r_iret C hr hlk dX4_ticksOfRest_55 (Nat.zero_le _) (Nat.zero_le _) ?_
      exact ⟨congrArg (fun z => some (Value.int (iI z))) (by unfold rstT; rw [hfl]; first | (rw [if_pos (by omega)]; done) | (rw [if_neg (by omega)]; done)), rfl, rfl, rfl⟩
    · refine r_aload_n C 2 dX4_ticksOfRest_30 rfl rfl ?_
      refine r_getR C fl_X4_13 rfl dX4_ticksOfRest_31 hS.1.1 hS.2.1.1 ?_
      refine r_iconst (v := iI 0) C dX4_ticksOfRest_34 rfl ?_
      refine c_iald C (v := (a 3)) 1 0 3 rfl (by decide) ln1 rfl dX4_ticksOfRest_35 hS.1.2.1 ⟨rfl, by decide, by decide⟩ (hR.n 3 (by decide) (by decide)) ?_
      refine r_iload_n C 1 dX4_ticksOfRest_36 rfl rfl ?_
      refine n_iadd C dX4_ticksOfRest_37 ?_
      refine r_iret C hr hlk dX4_ticksOfRest_38 (Nat.zero_le _) (Nat.zero_le _) ?_
      exact ⟨congrArg (fun z => some (Value.int (iI z))) (by unfold rstT; rw [hfl]; first | (rw [if_pos (by omega)]; done) | (rw [if_neg (by omega)]; done)), rfl, rfl, rfl⟩
set_option maxHeartbeats 4000000 in
set_option maxRecDepth 20000 in
theorem k_X4_isUrgent {l : Launch} {G : Gd} {base : Nat} {Y : MY} {I : MI} {L : ML} {B : Nat} {X : Sa} {m : Bool} {a : Sa} {N T : Int} (p : Nat) (hS : SLy base Y B) (hI : Inv N T a) (hR : Rl m a X) (hk : old a ≤ p ∧ (p : Int) < a 7) : Ct l yX4_isUrgent cX4_isUrgent 2 (some .boolean) (rmz 2 43) G base [.ref B, .ref (B + (22 + p % 120))] Y (cI I B X) (cL L B X) (PI (urg a p) Y (cI I B X) (cL L B X)) := by
  refine Ct.of (own := RX4) (lo := [(0, .ref B), (1, .ref (B + (22 + p % 120)))]) (by decide) rfl (Nat.le_of_ble_eq_true rfl) rfl ?_
  intro zp ze zs zm zargs zbl zmt zc C hr hlk hnm
  have hT := hI.1
  unfold TopOK at hT
  have hP := hI.2.2.1 p hk.1 hk.2
  unfold PkOK at hP
  have hRb := rst_b hI hk.1 hk.2
  refine r_aload_n C 0 dX4_isUrgent_0 rfl rfl ?_
  refine r_getR C fl_X4_13 rfl dX4_isUrgent_1 hS.1.1 hS.2.1.1 ?_
  refine r_iconst (v := iI 3) C dX4_isUrgent_4 rfl ?_
  refine c_iald C (v := (a 6)) 1 3 6 rfl (by decide) ln1 rfl dX4_isUrgent_5 hS.1.2.1 ⟨rfl, by decide, by decide⟩ (hR.n 6 (by decide) (by decide)) ?_
  refine n_if_eq (tgt := 18) C dX4_isUrgent_6 (by decide) (by constructor <;> omega) (fun c6 => ?_) (fun c6 => ?_)
  · refine r_iconst (v := iI 0) C dX4_isUrgent_18 rfl ?_
    refine r_zret C hr hlk (by decide) dX4_isUrgent_19 (Nat.zero_le _) (Nat.zero_le _) ?_
    exact ⟨congrArg (fun z => some (Value.int (iI z))) (by unfold urg; first | (rw [b2_1 (by omega)]; done) | (rw [b2_0 (by omega)]; done)), rfl, rfl, rfl⟩
  · refine r_aload_n C 1 dX4_isUrgent_9 rfl rfl ?_
    refine c_getI C (v := (a (125 + 11 * (p % 120) + 3))) (22 + (p % 120)) ((125 + 11 * (p % 120) + 3)) rfl (oP m120) (lnP m120 (by decide)) (ky_P m120 3) fl_X4_266 rfl dX4_isUrgent_10 (hS.2.2.2.1 (p % 120) m120).1 (hR.p hk (by decide)) ?_
    refine r_bipush (v := iI (-6)) C dX4_isUrgent_13 (by decide) ?_
    refine n_icmp_ne (tgt := 20) C dX4_isUrgent_15 (by decide) (by constructor <;> omega) ⟨by decide, by decide⟩ (fun c15 => ?_) (fun c15 => ?_)
    · refine r_aload_n C 0 dX4_isUrgent_20 rfl rfl ?_
      refine c_getI C (v := (a 0)) 0 0 rfl (by decide) (lnS (by decide)) rfl fl_X4_129 rfl dX4_isUrgent_21 hS.1.1 (hR.n 0 (by decide) (by decide)) ?_
      refine r_aload_n C 0 dX4_isUrgent_24 rfl rfl ?_
      refine r_aload_n C 1 dX4_isUrgent_25 rfl rfl ?_
      refine cV1_PI C (k_X4_ticksOfRest p hS hI hR hk) cw_X4_269 (rm_ok rfl rfl (Nat.zero_le _) (Nat.zero_le _)) (Nat.le_of_ble_eq_true rfl) hS.1.1 dX4_isUrgent_26 ?_
      refine n_iadd C dX4_isUrgent_29 ?_
      refine r_aload_n C 0 dX4_isUrgent_30 rfl rfl ?_
      refine r_getR C fl_X4_13 rfl dX4_isUrgent_31 hS.1.1 hS.2.1.1 ?_
      refine r_iconst (v := iI 2) C dX4_isUrgent_34 rfl ?_
      refine c_iald C (v := (a 5)) 1 2 5 rfl (by decide) ln1 rfl dX4_isUrgent_35 hS.1.2.1 ⟨rfl, by decide, by decide⟩ (hR.n 5 (by decide) (by decide)) ?_
      refine n_iadd C dX4_isUrgent_36 ?_
      refine r_aload_n C 1 dX4_isUrgent_37 rfl rfl ?_
      refine c_getI C (v := (a (125 + 11 * (p % 120) + 3))) (22 + (p % 120)) ((125 + 11 * (p % 120) + 3)) rfl (oP m120) (lnP m120 (by decide)) (ky_P m120 3) fl_X4_266 rfl dX4_isUrgent_38 (hS.2.2.2.1 (p % 120) m120).1 (hR.p hk (by decide)) ?_
      refine n_icmp_lt (tgt := 48) C dX4_isUrgent_41 (by decide) (by constructor <;> omega) (by constructor <;> omega) (fun c41 => ?_) (fun c41 => ?_)
      · refine r_iconst (v := iI 0) C dX4_isUrgent_48 rfl ?_
        refine r_zret C hr hlk (by decide) dX4_isUrgent_49 (Nat.zero_le _) (Nat.zero_le _) ?_
        exact ⟨congrArg (fun z => some (Value.int (iI z))) (by unfold urg; first | (rw [b2_1 (by omega)]; done) | (rw [b2_0 (by omega)]; done)), rfl, rfl, rfl⟩
      · refine r_iconst (v := iI 1) C dX4_isUrgent_44 rfl ?_
        refine r_goto (tgt := 49) C dX4_isUrgent_45 (by decide) ?_
        refine r_zret C hr hlk (by decide) dX4_isUrgent_49 (Nat.zero_le _) (Nat.zero_le _) ?_
        exact ⟨congrArg (fun z => some (Value.int (iI z))) (by unfold urg; first | (rw [b2_1 (by omega)]; done) | (rw [b2_0 (by omega)]; done)), rfl, rfl, rfl⟩
    · refine r_iconst (v := iI 0) C dX4_isUrgent_18 rfl ?_
      refine r_zret C hr hlk (by decide) dX4_isUrgent_19 (Nat.zero_le _) (Nat.zero_le _) ?_
      exact ⟨congrArg (fun z => some (Value.int (iI z))) (by unfold urg; first | (rw [b2_1 (by omega)]; done) | (rw [b2_0 (by omega)]; done)), rfl, rfl, rfl⟩
set_option maxHeartbeats 4000000 in
set_option maxRecDepth 20000 in
theorem k_X4_tagOrFinish {l : Launch} {G : Gd} {base : Nat} {Y : MY} {I : MI} {L : ML} {B : Nat} {X : Sa} {m : Bool} {a : Sa} {N T : Int} (f : Nat) (hS : SLy base Y B) (hI : Inv N T a) (hR : Rl m a X) (hf2 : (f : Int) < a 2) (hf6 : f < 6) (hm : m = true ∨ ¬ a (17 + 18 * f + 17) = 0) : Ct l yX4_tagOrFinish cX4_tagOrFinish 3 (some .long) (rmz 2 43) G base [.ref B, .ref (B + (3 + 3 * f))] Y (cI I B X) (cL L B X) (PL (tag a f) Y (cI I B X) (cL L B X)) := by
  refine Ct.of (own := RX4) (lo := [(0, .ref B), (1, .ref (B + (3 + 3 * f)))]) (by decide) rfl (Nat.le_of_ble_eq_true rfl) rfl ?_
  intro zp ze zs zm zargs zbl zmt zc C hr hlk hnm
  have hT := hI.1
  unfold TopOK at hT
  have hF := (hI.2.1 f hf2).1
  unfold FlowOK at hF
  refine r_aload_n C 1 dX4_tagOrFinish_0 rfl rfl ?_
  refine c_getI C (v := (a (17 + 18 * f + 17))) (3 + 3 * f) ((17 + 18 * f + 17)) rfl (oF hf6) (lnF hf6 (by decide)) (ky_F hf6 2) fl_X4_85 rfl dX4_tagOrFinish_1 (hS.2.2.1 f hf6).1 (hR.f hf2 (fk_y (by decide) (by decide))) ?_
  refine n_if_ne (tgt := 12) C dX4_tagOrFinish_4 (by decide) (by constructor <;> omega) (fun c4 => ?_) (fun c4 => ?_)
  · have hq : hdF a f = ((hdF a f).toNat : Int) ∧ (old a ≤ (hdF a f).toNat ∧ (((hdF a f).toNat : Nat) : Int) < a 7) ∧ a (125 + 11 * ((hdF a f).toNat % 120) + 0) = f ∧ a (125 + 11 * ((hdF a f).toNat % 120) + 4) ≤ 1 := by
      obtain ⟨q, -, h1, h2, h3, h4⟩ := hd_q hI hf2 c4
      rw [h1]
      exact ⟨rfl, h2, h3, h4⟩
    have hP := hI.2.2.1 _ hq.2.1.1 hq.2.1.2
    unfold PkOK at hP
    refine r_aload_n C 0 dX4_tagOrFinish_12 rfl rfl ?_
    refine r_aload_n C 1 dX4_tagOrFinish_13 rfl rfl ?_
    refine cV0_PI C (k_X0_head f hS hf6 (show 0 ≤ X (17 + 18 * f + 17) ∧ X (17 + 18 * f + 17) ≤ 20 by rw [show X (17 + 18 * f + 17) = (a (17 + 18 * f + 17)) from (hR.f hf2 (fk_y (by decide) (by decide)))]; omega)) cw_X4_102 (rm_ok rfl rfl (Nat.zero_le _) (Nat.zero_le _)) (Nat.le_of_ble_eq_true rfl) (hS.2.2.1 f hf6).1 dX4_tagOrFinish_14 ?_
    refine n_eqi (y := (hdF a f)) (hd_R hI hR hf2) ?_
    refine cV1_PA C (k_X4_packetAt ((hdF a f).toNat) hS (by omega) (by omega)) cw_X4_91 (rm_ok rfl rfl (Nat.zero_le _) (Nat.zero_le _)) (Nat.le_of_ble_eq_true rfl) hS.1.1 dX4_tagOrFinish_17 ?_
    refine r_astore_n (lo' := [(2, .ref (B + (22 + ((hdF a f).toNat % 120)))), (0, .ref B), (1, .ref (B + (3 + 3 * f)))]) C dX4_tagOrFinish_20 rfl (by decide) rfl ?_
    refine r_aload_n C 0 dX4_tagOrFinish_21 rfl rfl ?_
    refine c_getL C (v := (a (125 + 11 * ((hdF a f).toNat % 120) + 9))) (22 + ((hdF a f).toNat % 120)) ((125 + 11 * ((hdF a f).toNat % 120) + 9)) rfl (oP m120) (lnPy m120) (ky_P m120 10) fl_X4_105 rfl dX4_tagOrFinish_22 (hS.2.2.2.1 ((hdF a f).toNat % 120) m120).1 (hR.p hq.2.1 (by decide)) ?_
    refine r_aload_n C 2 dX4_tagOrFinish_25 rfl rfl ?_
    refine r_aload_n C 0 dX4_tagOrFinish_26 rfl rfl ?_
    refine c_getI C (v := (a (125 + 11 * ((hdF a f).toNat % 120) + 5))) (22 + ((hdF a f).toNat % 120)) ((125 + 11 * ((hdF a f).toNat % 120) + 5)) rfl (oP m120) (lnP m120 (by decide)) (ky_P m120 5) fl_X4_108 rfl dX4_tagOrFinish_27 (hS.2.2.2.1 ((hdF a f).toNat % 120) m120).1 (hR.p hq.2.1 (by decide)) ?_
    refine cV1_PL C (k_X0_share f hS hf6 (by omega) (show 1 ≤ X (17 + 18 * f + 0) ∧ X (17 + 18 * f + 0) ≤ 16 by rw [show X (17 + 18 * f + 0) = (a (17 + 18 * f + 0)) from (hR.f hf2 (fk_y (by decide) (by decide)))]; omega)) cw_X4_111 (rm_ok rfl rfl (Nat.zero_le _) (Nat.zero_le _)) (Nat.le_of_ble_eq_true rfl) (hS.2.2.1 f hf6).1 dX4_tagOrFinish_30 ?_
    refine n_eql (y := ((a (125 + 11 * ((hdF a f).toNat % 120) + 5)) * 720720 / (a (17 + 18 * f + 0)))) (by rw [show X (17 + 18 * f + 0) = (a (17 + 18 * f + 0)) from (hR.f hf2 (fk_y (by decide) (by decide)))]) ?_
    refine n_ladd C dX4_tagOrFinish_33 ?_
    refine r_lret C hr hlk dX4_tagOrFinish_34 (Nat.zero_le _) (Nat.zero_le _) ?_
    exact ⟨congrArg (fun z => some (Value.long (lI z))) (by unfold tag; rw [if_neg (by omega)]), rfl, rfl, rfl⟩
  · refine r_aload_n C 1 dX4_tagOrFinish_7 rfl rfl ?_
    refine c_getL C (v := (a (17 + 18 * f + 12))) (3 + 3 * f) ((17 + 18 * f + 12)) rfl (oF hf6) (lnFy hf6 (by decide)) (ky_F hf6 10) fl_X4_98 rfl dX4_tagOrFinish_8 (hS.2.2.1 f hf6).1 (hR.f hf2 ⟨by decide, Or.inl (hm.resolve_right (fun hh => hh c4))⟩) ?_
    refine r_lret C hr hlk dX4_tagOrFinish_11 (Nat.zero_le _) (Nat.zero_le _) ?_
    exact ⟨congrArg (fun z => some (Value.long (lI z))) (by unfold tag; rw [if_pos ((hd_neg hI hf2).mpr c4)]), rfl, rfl, rfl⟩
set_option maxHeartbeats 4000000 in
set_option maxRecDepth 20000 in
theorem k_X4_areQueuesEmpty {l : Launch} {G : Gd} {base : Nat} {Y : MY} {I : MI} {L : ML} {B : Nat} {X : Sa} {m : Bool} {a : Sa} {N T : Int}  (hS : SLy base Y B) (hI : Inv N T a) (hR : Rl m a X)  : Ct l yX4_areQueuesEmpty cX4_areQueuesEmpty 2 (some .boolean) (rmz 0 0) G base [.ref B] Y (cI I B X) (cL L B X) (PI (b2 (∀ f : Nat, f < (a 2).toNat → a (17 + 18 * f + 17) ≤ 0)) Y (cI I B X) (cL L B X)) := by
  refine Ct.of (own := RX4) (lo := [(0, .ref B)]) (by decide) rfl (Nat.le_of_ble_eq_true rfl) rfl ?_
  intro zp ze zs zm zargs zbl zmt zc C hr hlk hnm
  have hT := hI.1
  unfold TopOK at hT
  obtain ⟨n, hn⟩ := Int.eq_ofNat_of_zero_le (show 0 ≤ a 2 by omega)
  refine r_iconst (v := iI 0) C dX4_areQueuesEmpty_0 rfl ?_
  refine r_istore_n (lo' := [(1, .int (iI 0)), (0, .ref B)]) C dX4_areQueuesEmpty_1 rfl (by decide) rfl ?_
  have lp2 : ∀ (k : Nat) (x1 : Int) (i : Nat) (hx1 : x1 = i) (hi : (i : Int) ≤ a 2) (he : ∀ g, g < i → a (17 + 18 * g + 17) ≤ 0), n - i = k → Bd zp l ze (rmz 0 0) zs zm zargs zbl zmt zc 2 G base (PI (b2 (∀ f : Nat, f < (a 2).toNat → a (17 + 18 * f + 17) ≤ 0)) Y (cI I B X) (cL L B X)) 2 [(1, .int (iI x1)), (0, .ref B)] [] Y (cI I B X) (cL L B X) 0 0 := by
    intro k
    induction k using Nat.strongRecOn with
    | _ k ih2 =>
    intro x1 i hx1 hi he hk2
    refine r_iload_n C 0 dX4_areQueuesEmpty_2 rfl rfl ?_
    refine r_aload_n C 1 dX4_areQueuesEmpty_3 rfl rfl ?_
    refine c_getI C (v := (a 2)) 0 2 rfl (by decide) (lnS (by decide)) rfl fl_X4_60 rfl dX4_areQueuesEmpty_4 hS.1.1 (hR.n 2 (by decide) (by decide)) ?_
    refine n_icmp_ge (tgt := 30) C dX4_areQueuesEmpty_7 (by decide) (by constructor <;> omega) (by constructor <;> omega) (fun c7 => ?_) (fun c7 => ?_)
    · refine r_iconst (v := iI 1) C dX4_areQueuesEmpty_30 rfl ?_
      refine r_zret C hr hlk (by decide) dX4_areQueuesEmpty_31 (Nat.zero_le _) (Nat.zero_le _) ?_
      exact ⟨congrArg (fun z => some (Value.int (iI z))) (by rw [b2_1 (fun g hg => he g (by omega))]), rfl, rfl, rfl⟩
    · have hi2 : (i : Int) < a 2 := by omega
      have hi6 : i < 6 := by omega
      have hF := (hI.2.1 i hi2).1
      unfold FlowOK at hF
      refine r_aload_n C 1 dX4_areQueuesEmpty_10 rfl rfl ?_
      refine r_getR C fl_X4_26 rfl dX4_areQueuesEmpty_11 hS.1.1 hS.2.1.2.1 ?_
      refine r_iload_n C 0 dX4_areQueuesEmpty_14 rfl rfl ?_
      refine r_aald C (by decide) (by decide) i dX4_areQueuesEmpty_15 hS.1.2.2.1 ⟨congrArg iI (by omega), (by omega), by decide⟩ (hS.2.2.1 i (by omega)).2.2.2.1 ?_
      refine c_getI C (v := (a (17 + 18 * i + 17))) (3 + 3 * i) ((17 + 18 * i + 17)) rfl (oF (by omega)) (lnF (by omega) (by decide)) (ky_F (by omega) 2) fl_X4_85 rfl dX4_areQueuesEmpty_16 (hS.2.2.1 i (by omega)).1 (hR.f hi2 (fk_y (by decide) (by decide))) ?_
      refine n_if_le (tgt := 24) C dX4_areQueuesEmpty_19 (by decide) (by constructor <;> omega) (fun c19 => ?_) (fun c19 => ?_)
      · refine n_iinc (lo' := [(1, .int (iI (x1 + 1))), (0, .ref B)]) C 0 dX4_areQueuesEmpty_24 rfl rfl (by decide) rfl ?_
        refine r_goto (tgt := 2) C dX4_areQueuesEmpty_27 (by decide) ?_
        exact ih2 _ (by first | omega | (rw [← hk2]; omega)) ((x1 + 1)) (i + 1) (by omega) (by omega) (fun g hg => by
          by_cases e : g = i
          · subst e; omega
          · exact he g (by omega)) rfl
      · refine r_iconst (v := iI 0) C dX4_areQueuesEmpty_22 rfl ?_
        refine r_zret C hr hlk (by decide) dX4_areQueuesEmpty_23 (Nat.zero_le _) (Nat.zero_le _) ?_
        exact ⟨congrArg (fun z => some (Value.int (iI z))) (by rw [b2_0 (fun hh => by have := hh i (by omega); omega)]), rfl, rfl, rfl⟩
  exact lp2 _ 0 0 rfl (by omega) (fun g hg => absurd hg (by omega)) rfl
set_option maxHeartbeats 4000000 in
set_option maxRecDepth 20000 in
theorem k_X4_urgentFlow {l : Launch} {G : Gd} {base : Nat} {Y : MY} {I : MI} {L : ML} {B : Nat} {X : Sa} {m : Bool} {a : Sa} {N T : Int}  (hS : SLy base Y B) (hI : Inv N T a) (hR : Rl m a X)  : Ct l yX4_urgentFlow cX4_urgentFlow 5 (some .int) (rmz 3 64) G base [.ref B] Y (cI I B X) (cL L B X) (PI (nxU a (a 2).toNat) Y (cI I B X) (cL L B X)) := by
  refine Ct.of (own := RX4) (lo := [(0, .ref B)]) (by decide) rfl (Nat.le_of_ble_eq_true rfl) rfl ?_
  intro zp ze zs zm zargs zbl zmt zc C hr hlk hnm
  have hT := hI.1
  unfold TopOK at hT
  obtain ⟨n, hn⟩ := Int.eq_ofNat_of_zero_le (show 0 ≤ a 2 by omega)
  refine r_bipush (v := iI (-6)) C dX4_urgentFlow_0 (by decide) ?_
  refine r_istore_n (lo' := [(1, .int (iI (-6))), (0, .ref B)]) C dX4_urgentFlow_2 rfl (by decide) rfl ?_
  refine r_iconst (v := iI 0) C dX4_urgentFlow_3 rfl ?_
  refine r_istore_n (lo' := [(2, .int (iI 0)), (1, .int (iI (-6))), (0, .ref B)]) C dX4_urgentFlow_4 rfl (by decide) rfl ?_
  refine r_iconst (v := iI 0) C dX4_urgentFlow_5 rfl ?_
  refine r_istore_n (lo' := [(3, .int (iI 0)), (2, .int (iI 0)), (1, .int (iI (-6))), (0, .ref B)]) C dX4_urgentFlow_6 rfl (by decide) rfl ?_
  have lp7 : ∀ (k : Nat) (x1 : Int) (x2 : Int) (x3 : Int) (i : Nat) (hx3 : x3 = i) (hi : (i : Int) ≤ a 2) (hx1 : x1 = nxU a i) (hx2 : ¬ nxU a i < 0 → x2 = a (125 + 11 * ((hdF a (nxU a i).toNat).toNat % 120) + 3)) (hx2b : -6 ≤ x2 ∧ x2 ≤ 2000000), n - i = k → Bd zp l ze (rmz 3 64) zs zm zargs zbl zmt zc 5 G base (PI (nxU a (a 2).toNat) Y (cI I B X) (cL L B X)) 7 [(3, .int (iI x3)), (2, .int (iI x2)), (1, .int (iI x1)), (0, .ref B)] [] Y (cI I B X) (cL L B X) 0 0 := by
    intro k
    induction k using Nat.strongRecOn with
    | _ k ih7 =>
    intro x1 x2 x3 i hx3 hi hx1 hx2 hx2b hk7
    have hub : nxU a i = -6 ∨ (0 ≤ nxU a i ∧ nxU a i ≤ 6) := by
      rcases nxU_ok (a := a) i with h | ⟨f, h1, h2, h3⟩ <;> omega
    refine r_iload_n C 0 dX4_urgentFlow_7 rfl rfl ?_
    refine r_aload_n C 3 dX4_urgentFlow_8 rfl rfl ?_
    refine c_getI C (v := (a 2)) 0 2 rfl (by decide) (lnS (by decide)) rfl fl_X4_60 rfl dX4_urgentFlow_9 hS.1.1 (hR.n 2 (by decide) (by decide)) ?_
    refine n_icmp_ge (tgt := 80) C dX4_urgentFlow_12 (by decide) (by constructor <;> omega) (by constructor <;> omega) (fun c12 => ?_) (fun c12 => ?_)
    · refine r_iload_n C 2 dX4_urgentFlow_80 rfl rfl ?_
      refine r_iret C hr hlk dX4_urgentFlow_81 (Nat.zero_le _) (Nat.zero_le _) ?_
      exact ⟨congrArg (fun z => some (Value.int (iI z))) (by rw [hx1, show i = (a 2).toNat by omega]), rfl, rfl, rfl⟩
    · have hi2 : (i : Int) < a 2 := by omega
      have hi6 : i < 6 := by omega
      have hF := (hI.2.1 i hi2).1
      unfold FlowOK at hF
      have hdn := hd_neg hI hi2
      refine r_aload_n C 3 dX4_urgentFlow_15 rfl rfl ?_
      refine r_getR C fl_X4_26 rfl dX4_urgentFlow_16 hS.1.1 hS.2.1.2.1 ?_
      refine r_iload_n C 0 dX4_urgentFlow_19 rfl rfl ?_
      refine r_aald C (by decide) (by decide) i dX4_urgentFlow_20 hS.1.2.2.1 ⟨congrArg iI (by omega), (by omega), by decide⟩ (hS.2.2.1 i (by omega)).2.2.2.1 ?_
      refine c_getI C (v := (a (17 + 18 * i + 17))) (3 + 3 * i) ((17 + 18 * i + 17)) rfl (oF (by omega)) (lnF (by omega) (by decide)) (ky_F (by omega) 2) fl_X4_85 rfl dX4_urgentFlow_21 (hS.2.2.1 i (by omega)).1 (hR.f hi2 (fk_y (by decide) (by decide))) ?_
      refine n_if_le (tgt := 74) C dX4_urgentFlow_24 (by decide) (by constructor <;> omega) (fun c24 => ?_) (fun c24 => ?_)
      · refine n_iinc (lo' := [(3, .int (iI (x3 + 1))), (2, .int (iI x2)), (1, .int (iI x1)), (0, .ref B)]) C 0 dX4_urgentFlow_74 rfl rfl (by decide) rfl ?_
        refine r_goto (tgt := 7) C dX4_urgentFlow_77 (by decide) ?_
        exact ih7 _ (by first | omega | (rw [← hk7]; omega)) x1 x2 ((x3 + 1)) (i + 1) (by omega) (by omega) (by rw [nxU_s, if_neg (by omega)]; exact hx1) (fun hh => by rw [show nxU a (i + 1) = nxU a i by rw [nxU_s, if_neg (by omega)]] at hh ⊢; exact hx2 hh) (by omega) rfl
      · have hq : hdF a i = ((hdF a i).toNat : Int) ∧ (old a ≤ (hdF a i).toNat ∧ (((hdF a i).toNat : Nat) : Int) < a 7) ∧ a (125 + 11 * ((hdF a i).toNat % 120) + 0) = i ∧ a (125 + 11 * ((hdF a i).toNat % 120) + 4) ≤ 1 := by
          obtain ⟨q, -, h1, h2, h3, h4⟩ := hd_q hI hi2 (by omega)
          rw [h1]
          exact ⟨rfl, h2, h3, h4⟩
        have hP := hI.2.2.1 _ hq.2.1.1 hq.2.1.2
        unfold PkOK at hP
        have hur := urg_b a (hdF a i).toNat
        refine r_aload_n C 3 dX4_urgentFlow_27 rfl rfl ?_
        refine r_aload_n C 3 dX4_urgentFlow_28 rfl rfl ?_
        refine r_getR C fl_X4_26 rfl dX4_urgentFlow_29 hS.1.1 hS.2.1.2.1 ?_
        refine r_iload_n C 0 dX4_urgentFlow_32 rfl rfl ?_
        refine r_aald C (by decide) (by decide) i dX4_urgentFlow_33 hS.1.2.2.1 ⟨congrArg iI (by omega), (by omega), by decide⟩ (hS.2.2.1 i (by omega)).2.2.2.1 ?_
        refine cV0_PI C (k_X0_head i hS hi6 (show 0 ≤ X (17 + 18 * i + 17) ∧ X (17 + 18 * i + 17) ≤ 20 by rw [show X (17 + 18 * i + 17) = (a (17 + 18 * i + 17)) from (hR.f hi2 (fk_y (by decide) (by decide)))]; omega)) cw_X4_102 (rm_ok rfl rfl (Nat.zero_le _) (Nat.zero_le _)) (Nat.le_of_ble_eq_true rfl) (hS.2.2.1 i (by omega)).1 dX4_urgentFlow_34 ?_
        refine n_eqi (y := (hdF a i)) (hd_R hI hR hi2) ?_
        refine cV1_PA C (k_X4_packetAt ((hdF a i).toNat) hS (by omega) (by omega)) cw_X4_91 (rm_ok rfl rfl (Nat.zero_le _) (Nat.zero_le _)) (Nat.le_of_ble_eq_true rfl) hS.1.1 dX4_urgentFlow_37 ?_
        refine r_astore (lo' := [(4, .ref (B + (22 + ((hdF a i).toNat % 120)))), (3, .int (iI x3)), (2, .int (iI x2)), (1, .int (iI x1)), (0, .ref B)]) C dX4_urgentFlow_40 (by decide) rfl ?_
        refine r_aload_n C 4 dX4_urgentFlow_42 rfl rfl ?_
        refine r_aload C 0 dX4_urgentFlow_43 rfl ?_
        refine cV1_PI C (k_X4_isUrgent ((hdF a i).toNat) hS hI hR hq.2.1) cw_X4_262 (rm_ok rfl rfl (Nat.zero_le _) (Nat.zero_le _)) (Nat.le_of_ble_eq_true rfl) hS.1.1 dX4_urgentFlow_45 ?_
        refine n_if_eq (tgt := 74) C dX4_urgentFlow_48 (by decide) (by constructor <;> omega) (fun c48 => ?_) (fun c48 => ?_)
        · refine n_iinc (lo' := [(3, .int (iI (x3 + 1))), (4, .ref (B + (22 + ((hdF a i).toNat % 120)))), (2, .int (iI x2)), (1, .int (iI x1)), (0, .ref B)]) C 1 dX4_urgentFlow_74 rfl rfl (by decide) rfl ?_
          refine r_goto (tgt := 7) C dX4_urgentFlow_77 (by decide) ?_
          refine r_lo [0, 2, 3, 4] rfl ?_
          exact ih7 _ (by first | omega | (rw [← hk7]; omega)) x1 x2 ((x3 + 1)) (i + 1) (by omega) (by omega) (by rw [nxU_s, if_neg (by omega)]; exact hx1) (fun hh => by rw [show nxU a (i + 1) = nxU a i by rw [nxU_s, if_neg (by omega)]] at hh ⊢; exact hx2 hh) (by omega) rfl
        · refine r_iload_n C 3 dX4_urgentFlow_51 rfl rfl ?_
          refine r_bipush (v := iI (-6)) C dX4_urgentFlow_52 (by decide) ?_
          refine n_icmp_eq (tgt := 66) C dX4_urgentFlow_54 (by decide) (by constructor <;> omega) ⟨by decide, by decide⟩ (fun c54 => ?_) (fun c54 => ?_)
          · refine r_iload_n C 1 dX4_urgentFlow_66 rfl rfl ?_
            refine r_istore_n (lo' := [(1, .int (iI x3)), (4, .ref (B + (22 + ((hdF a i).toNat % 120)))), (3, .int (iI x3)), (2, .int (iI x2)), (0, .ref B)]) C dX4_urgentFlow_67 rfl (by decide) rfl ?_
            refine r_aload C 1 dX4_urgentFlow_68 rfl ?_
            refine c_getI C (v := (a (125 + 11 * ((hdF a i).toNat % 120) + 3))) (22 + ((hdF a i).toNat % 120)) ((125 + 11 * ((hdF a i).toNat % 120) + 3)) rfl (oP m120) (lnP m120 (by decide)) (ky_P m120 3) fl_X4_266 rfl dX4_urgentFlow_70 (hS.2.2.2.1 ((hdF a i).toNat % 120) m120).1 (hR.p hq.2.1 (by decide)) ?_
            refine r_istore_n (lo' := [(2, .int (iI (a (125 + 11 * ((hdF a i).toNat % 120) + 3)))), (1, .int (iI x3)), (4, .ref (B + (22 + ((hdF a i).toNat % 120)))), (3, .int (iI x3)), (0, .ref B)]) C dX4_urgentFlow_73 rfl (by decide) rfl ?_
            refine n_iinc (lo' := [(3, .int (iI (x3 + 1))), (2, .int (iI (a (125 + 11 * ((hdF a i).toNat % 120) + 3)))), (1, .int (iI x3)), (4, .ref (B + (22 + ((hdF a i).toNat % 120)))), (0, .ref B)]) C 3 dX4_urgentFlow_74 rfl rfl (by decide) rfl ?_
            refine r_goto (tgt := 7) C dX4_urgentFlow_77 (by decide) ?_
            refine r_lo [0, 1, 2, 4] rfl ?_
            exact ih7 _ (by first | omega | (rw [← hk7]; omega)) x3 ((a (125 + 11 * ((hdF a i).toNat % 120) + 3))) ((x3 + 1)) (i + 1) (by omega) (by omega) (by rw [nxU_s, if_pos (by omega)]; omega) (fun _ => by rw [show nxU a (i + 1) = (i : Int) by rw [nxU_s, if_pos (by omega)], show ((i : Nat) : Int).toNat = i from rfl]) (by omega) rfl
          · refine r_aload C 0 dX4_urgentFlow_57 rfl ?_
            refine c_getI C (v := (a (125 + 11 * ((hdF a i).toNat % 120) + 3))) (22 + ((hdF a i).toNat % 120)) ((125 + 11 * ((hdF a i).toNat % 120) + 3)) rfl (oP m120) (lnP m120 (by decide)) (ky_P m120 3) fl_X4_266 rfl dX4_urgentFlow_59 (hS.2.2.2.1 ((hdF a i).toNat % 120) m120).1 (hR.p hq.2.1 (by decide)) ?_
            refine r_iload_n C 2 dX4_urgentFlow_62 rfl rfl ?_
            refine n_icmp_ge (tgt := 74) C dX4_urgentFlow_63 (by decide) (by constructor <;> omega) (by constructor <;> omega) (fun c63 => ?_) (fun c63 => ?_)
            · refine n_iinc (lo' := [(3, .int (iI (x3 + 1))), (4, .ref (B + (22 + ((hdF a i).toNat % 120)))), (2, .int (iI x2)), (1, .int (iI x1)), (0, .ref B)]) C 1 dX4_urgentFlow_74 rfl rfl (by decide) rfl ?_
              refine r_goto (tgt := 7) C dX4_urgentFlow_77 (by decide) ?_
              refine r_lo [0, 2, 3, 4] rfl ?_
              exact ih7 _ (by first | omega | (rw [← hk7]; omega)) x1 x2 ((x3 + 1)) (i + 1) (by omega) (by omega) (by rw [nxU_s, if_neg (by omega)]; exact hx1) (fun hh => by rw [show nxU a (i + 1) = nxU a i by rw [nxU_s, if_neg (by omega)]] at hh ⊢; exact hx2 hh) (by omega) rfl
            · refine r_iload_n C 1 dX4_urgentFlow_66 rfl rfl ?_
              refine r_istore_n (lo' := [(1, .int (iI x3)), (4, .ref (B + (22 + ((hdF a i).toNat % 120)))), (3, .int (iI x3)), (2, .int (iI x2)), (0, .ref B)]) C dX4_urgentFlow_67 rfl (by decide) rfl ?_
              refine r_aload C 1 dX4_urgentFlow_68 rfl ?_
              refine c_getI C (v := (a (125 + 11 * ((hdF a i).toNat % 120) + 3))) (22 + ((hdF a i).toNat % 120)) ((125 + 11 * ((hdF a i).toNat % 120) + 3)) rfl (oP m120) (lnP m120 (by decide)) (ky_P m120 3) fl_X4_266 rfl dX4_urgentFlow_70 (hS.2.2.2.1 ((hdF a i).toNat % 120) m120).1 (hR.p hq.2.1 (by decide)) ?_
              refine r_istore_n (lo' := [(2, .int (iI (a (125 + 11 * ((hdF a i).toNat % 120) + 3)))), (1, .int (iI x3)), (4, .ref (B + (22 + ((hdF a i).toNat % 120)))), (3, .int (iI x3)), (0, .ref B)]) C dX4_urgentFlow_73 rfl (by decide) rfl ?_
              refine n_iinc (lo' := [(3, .int (iI (x3 + 1))), (2, .int (iI (a (125 + 11 * ((hdF a i).toNat % 120) + 3)))), (1, .int (iI x3)), (4, .ref (B + (22 + ((hdF a i).toNat % 120)))), (0, .ref B)]) C 3 dX4_urgentFlow_74 rfl rfl (by decide) rfl ?_
              refine r_goto (tgt := 7) C dX4_urgentFlow_77 (by decide) ?_
              refine r_lo [0, 1, 2, 4] rfl ?_
              exact ih7 _ (by first | omega | (rw [← hk7]; omega)) x3 ((a (125 + 11 * ((hdF a i).toNat % 120) + 3))) ((x3 + 1)) (i + 1) (by omega) (by omega) (by rw [nxU_s, if_pos (by omega)]; omega) (fun _ => by rw [show nxU a (i + 1) = (i : Int) by rw [nxU_s, if_pos (by omega)], show ((i : Nat) : Int).toNat = i from rfl]) (by omega) rfl
  exact lp7 _ ((-6)) 0 0 0 rfl (by omega) rfl (fun h => absurd (show nxU a 0 < 0 from (by show (-6 : Int) < 0; omega)) h) (by omega) rfl
set_option maxHeartbeats 4000000 in
set_option maxRecDepth 20000 in
theorem k_X4_leastTagFlow {l : Launch} {G : Gd} {base : Nat} {Y : MY} {I : MI} {L : ML} {B : Nat} {X : Sa} {m : Bool} {a : Sa} {N T : Int}  (hS : SLy base Y B) (hI : Inv N T a) (hR : Rl m a X)  : Ct l yX4_leastTagFlow cX4_leastTagFlow 7 (some .int) (rmz 3 65) G base [.ref B] Y (cI I B X) (cL L B X) (PI (nxL a (a 2).toNat) Y (cI I B X) (cL L B X)) := by
  refine Ct.of (own := RX4) (lo := [(0, .ref B)]) (by decide) rfl (Nat.le_of_ble_eq_true rfl) rfl ?_
  intro zp ze zs zm zargs zbl zmt zc C hr hlk hnm
  have hT := hI.1
  unfold TopOK at hT
  obtain ⟨n, hn⟩ := Int.eq_ofNat_of_zero_le (show 0 ≤ a 2 by omega)
  refine r_bipush (v := iI (-6)) C dX4_leastTagFlow_0 (by decide) ?_
  refine r_istore_n (lo' := [(1, .int (iI (-6))), (0, .ref B)]) C dX4_leastTagFlow_2 rfl (by decide) rfl ?_
  refine r_lconst (v := lI 0) C dX4_leastTagFlow_3 (by decide) ?_
  refine r_lstore_n (lo' := [(2, .long (lI 0)), (1, .int (iI (-6))), (0, .ref B)]) C dX4_leastTagFlow_4 rfl (by decide) rfl ?_
  refine r_iconst (v := iI 0) C dX4_leastTagFlow_5 rfl ?_
  refine r_istore (lo' := [(4, .int (iI 0)), (2, .long (lI 0)), (1, .int (iI (-6))), (0, .ref B)]) C dX4_leastTagFlow_6 (by decide) rfl ?_
  have lp8 : ∀ (k : Nat) (x1 : Int) (x2 : Int) (x4 : Int) (i : Nat) (hx4 : x4 = i) (hi : (i : Int) ≤ a 2) (hx1 : x1 = nxL a i) (hx2 : ¬ nxL a i < 0 → x2 = tag a (nxL a i).toNat) (hx2b : 0 ≤ x2 ∧ x2 ≤ 1441440000 * a 7), n - i = k → Bd zp l ze (rmz 3 65) zs zm zargs zbl zmt zc 7 G base (PI (nxL a (a 2).toNat) Y (cI I B X) (cL L B X)) 8 [(4, .int (iI x4)), (2, .long (lI x2)), (1, .int (iI x1)), (0, .ref B)] [] Y (cI I B X) (cL L B X) 0 0 := by
    intro k
    induction k using Nat.strongRecOn with
    | _ k ih8 =>
    intro x1 x2 x4 i hx4 hi hx1 hx2 hx2b hk8
    have hlb : nxL a i = -6 ∨ (0 ≤ nxL a i ∧ nxL a i ≤ 6) := by
      rcases nxL_ok hI i hi with ⟨h, _⟩ | ⟨f, h1, h2, h3⟩ <;> omega
    refine r_iload C 0 dX4_leastTagFlow_8 rfl ?_
    refine r_aload_n C 3 dX4_leastTagFlow_10 rfl rfl ?_
    refine c_getI C (v := (a 2)) 0 2 rfl (by decide) (lnS (by decide)) rfl fl_X4_60 rfl dX4_leastTagFlow_11 hS.1.1 (hR.n 2 (by decide) (by decide)) ?_
    refine n_icmp_ge (tgt := 68) C dX4_leastTagFlow_14 (by decide) (by constructor <;> omega) (by constructor <;> omega) (fun c14 => ?_) (fun c14 => ?_)
    · refine r_iload_n C 2 dX4_leastTagFlow_68 rfl rfl ?_
      refine r_iret C hr hlk dX4_leastTagFlow_69 (Nat.zero_le _) (Nat.zero_le _) ?_
      exact ⟨congrArg (fun z => some (Value.int (iI z))) (by rw [hx1, show i = (a 2).toNat by omega]), rfl, rfl, rfl⟩
    · have hi2 : (i : Int) < a 2 := by omega
      have hi6 : i < 6 := by omega
      have hF := (hI.2.1 i hi2).1
      unfold FlowOK at hF
      have hdn := hd_neg hI hi2
      refine r_aload_n C 3 dX4_leastTagFlow_17 rfl rfl ?_
      refine r_getR C fl_X4_26 rfl dX4_leastTagFlow_18 hS.1.1 hS.2.1.2.1 ?_
      refine r_iload C 0 dX4_leastTagFlow_21 rfl ?_
      refine r_aald C (by decide) (by decide) i dX4_leastTagFlow_23 hS.1.2.2.1 ⟨congrArg iI (by omega), (by omega), by decide⟩ (hS.2.2.1 i hi6).2.2.2.1 ?_
      refine c_getI C (v := (a (17 + 18 * i + 17))) (3 + 3 * i) ((17 + 18 * i + 17)) rfl (oF hi6) (lnF hi6 (by decide)) (ky_F hi6 2) fl_X4_85 rfl dX4_leastTagFlow_24 (hS.2.2.1 i hi6).1 (hR.f hi2 (fk_y (by decide) (by decide))) ?_
      refine n_if_le (tgt := 62) C dX4_leastTagFlow_27 (by decide) (by constructor <;> omega) (fun c27 => ?_) (fun c27 => ?_)
      · refine n_iinc (lo' := [(4, .int (iI (x4 + 1))), (2, .long (lI x2)), (1, .int (iI x1)), (0, .ref B)]) C 0 dX4_leastTagFlow_62 rfl rfl (by decide) rfl ?_
        refine r_goto (tgt := 8) C dX4_leastTagFlow_65 (by decide) ?_
        exact ih8 _ (by first | omega | (rw [← hk8]; omega)) x1 x2 ((x4 + 1)) (i + 1) (by omega) (by omega) (by rw [nxL_s, if_neg (by omega)]; exact hx1) (fun hh => by rw [show nxL a (i + 1) = nxL a i by rw [nxL_s, if_neg (by omega)]] at hh ⊢; exact hx2 hh) hx2b rfl
      · have htg := tag_b hI hi2
        refine r_aload_n C 3 dX4_leastTagFlow_30 rfl rfl ?_
        refine r_aload_n C 3 dX4_leastTagFlow_31 rfl rfl ?_
        refine r_getR C fl_X4_26 rfl dX4_leastTagFlow_32 hS.1.1 hS.2.1.2.1 ?_
        refine r_iload C 0 dX4_leastTagFlow_35 rfl ?_
        refine r_aald C (by decide) (by decide) i dX4_leastTagFlow_37 hS.1.2.2.1 ⟨congrArg iI (by omega), (by omega), by decide⟩ (hS.2.2.1 i hi6).2.2.2.1 ?_
        refine cV1_PL C (k_X4_tagOrFinish i hS hI hR hi2 hi6 (Or.inr (by omega))) cw_X4_251 (rm_ok rfl rfl (Nat.zero_le _) (Nat.zero_le _)) (Nat.le_of_ble_eq_true rfl) hS.1.1 dX4_leastTagFlow_38 ?_
        refine n_topl (fun y5 ey5 => ?_)
        refine r_lstore (lo' := [(5, .long (lI y5)), (4, .int (iI x4)), (2, .long (lI x2)), (1, .int (iI x1)), (0, .ref B)]) C dX4_leastTagFlow_41 (by decide) rfl ?_
        refine r_iload_n C 3 dX4_leastTagFlow_43 rfl rfl ?_
        refine r_bipush (v := iI (-6)) C dX4_leastTagFlow_44 (by decide) ?_
        refine n_icmp_eq (tgt := 56) C dX4_leastTagFlow_46 (by decide) (by constructor <;> omega) ⟨by decide, by decide⟩ (fun c46 => ?_) (fun c46 => ?_)
        · refine r_iload C 1 dX4_leastTagFlow_56 rfl ?_
          refine r_istore_n (lo' := [(1, .int (iI x4)), (5, .long (lI y5)), (4, .int (iI x4)), (2, .long (lI x2)), (0, .ref B)]) C dX4_leastTagFlow_58 rfl (by decide) rfl ?_
          refine r_lload C 1 dX4_leastTagFlow_59 rfl ?_
          refine r_lstore_n (lo' := [(2, .long (lI y5)), (1, .int (iI x4)), (5, .long (lI y5)), (4, .int (iI x4)), (0, .ref B)]) C dX4_leastTagFlow_61 rfl (by decide) rfl ?_
          refine n_iinc (lo' := [(4, .int (iI (x4 + 1))), (2, .long (lI y5)), (1, .int (iI x4)), (5, .long (lI y5)), (0, .ref B)]) C 3 dX4_leastTagFlow_62 rfl rfl (by decide) rfl ?_
          refine r_goto (tgt := 8) C dX4_leastTagFlow_65 (by decide) ?_
          refine r_lo [0, 1, 2, 4] rfl ?_
          exact ih8 _ (by first | omega | (rw [← hk8]; omega)) x4 y5 ((x4 + 1)) (i + 1) (by omega) (by omega) (by rw [nxL_s, if_pos (by omega)]; omega) (fun _ => by rw [show nxL a (i + 1) = (i : Int) by rw [nxL_s, if_pos (by omega)], show ((i : Nat) : Int).toNat = i from rfl]; exact ey5) (by omega) rfl
        · refine r_lload C 0 dX4_leastTagFlow_49 rfl ?_
          refine r_lload_n C 2 dX4_leastTagFlow_51 rfl rfl ?_
          refine n_lcmp_ge (tgt := 62) C dX4_leastTagFlow_52 dX4_leastTagFlow_53 rfl rfl (by decide) (by constructor <;> omega) (by constructor <;> omega) (fun c52 => ?_) (fun c52 => ?_)
          · refine n_iinc (lo' := [(4, .int (iI (x4 + 1))), (5, .long (lI y5)), (2, .long (lI x2)), (1, .int (iI x1)), (0, .ref B)]) C 1 dX4_leastTagFlow_62 rfl rfl (by decide) rfl ?_
            refine r_goto (tgt := 8) C dX4_leastTagFlow_65 (by decide) ?_
            refine r_lo [0, 2, 3, 4] rfl ?_
            exact ih8 _ (by first | omega | (rw [← hk8]; omega)) x1 x2 ((x4 + 1)) (i + 1) (by omega) (by omega) (by rw [nxL_s, if_neg (by omega)]; exact hx1) (fun hh => by rw [show nxL a (i + 1) = nxL a i by rw [nxL_s, if_neg (by omega)]] at hh ⊢; exact hx2 hh) hx2b rfl
          · refine r_iload C 1 dX4_leastTagFlow_56 rfl ?_
            refine r_istore_n (lo' := [(1, .int (iI x4)), (5, .long (lI y5)), (4, .int (iI x4)), (2, .long (lI x2)), (0, .ref B)]) C dX4_leastTagFlow_58 rfl (by decide) rfl ?_
            refine r_lload C 1 dX4_leastTagFlow_59 rfl ?_
            refine r_lstore_n (lo' := [(2, .long (lI y5)), (1, .int (iI x4)), (5, .long (lI y5)), (4, .int (iI x4)), (0, .ref B)]) C dX4_leastTagFlow_61 rfl (by decide) rfl ?_
            refine n_iinc (lo' := [(4, .int (iI (x4 + 1))), (2, .long (lI y5)), (1, .int (iI x4)), (5, .long (lI y5)), (0, .ref B)]) C 3 dX4_leastTagFlow_62 rfl rfl (by decide) rfl ?_
            refine r_goto (tgt := 8) C dX4_leastTagFlow_65 (by decide) ?_
            refine r_lo [0, 1, 2, 4] rfl ?_
            exact ih8 _ (by first | omega | (rw [← hk8]; omega)) x4 y5 ((x4 + 1)) (i + 1) (by omega) (by omega) (by rw [nxL_s, if_pos (by omega)]; omega) (fun _ => by rw [show nxL a (i + 1) = (i : Int) by rw [nxL_s, if_pos (by omega)], show ((i : Nat) : Int).toNat = i from rfl]; exact ey5) (by omega) rfl
  exact lp8 _ ((-6)) 0 0 0 rfl (by omega) rfl (fun h => absurd (show nxL a 0 < 0 from (by show (-6 : Int) < 0; omega)) h) (by omega) rfl
set_option maxHeartbeats 4000000 in
set_option maxRecDepth 20000 in
theorem k_X4_nextFlow {l : Launch} {G : Gd} {base : Nat} {Y : MY} {I : MI} {L : ML} {B : Nat} {X : Sa} {m : Bool} {a : Sa} {N T : Int}  (hS : SLy base Y B) (hI : Inv N T a) (hR : Rl m a X)  : Ct l yX4_nextFlow cX4_nextFlow 2 (some .int) (rmz 4 91) G base [.ref B] Y (cI I B X) (cL L B X) (PI (nxt a) Y (cI I B X) (cL L B X)) := by
  refine Ct.of (own := RX4) (lo := [(0, .ref B)]) (by decide) rfl (Nat.le_of_ble_eq_true rfl) rfl ?_
  intro zp ze zs zm zargs zbl zmt zc C hr hlk hnm
  have hT := hI.1
  unfold TopOK at hT
  have hub : nxU a (a 2).toNat = -6 ∨ (0 ≤ nxU a (a 2).toNat ∧ nxU a (a 2).toNat ≤ 6) := by
    rcases nxU_ok (a := a) (a 2).toNat with h | ⟨f, h1, h2, h3⟩ <;> omega
  have hlb : nxL a (a 2).toNat = -6 ∨ (0 ≤ nxL a (a 2).toNat ∧ nxL a (a 2).toNat ≤ 6) := by
    rcases nxL_ok hI (a 2).toNat (by omega) with ⟨h, _⟩ | ⟨f, h1, h2, h3⟩ <;> omega
  refine r_aload_n C 0 dX4_nextFlow_0 rfl rfl ?_
  refine cV0_PI C (k_X4_urgentFlow hS hI hR) cw_X4_245 (rm_ok rfl rfl (Nat.zero_le _) (Nat.zero_le _)) (Nat.le_of_ble_eq_true rfl) hS.1.1 dX4_nextFlow_1 ?_
  refine n_topi (fun x4 ex4 => ?_)
  refine r_istore_n (lo' := [(1, .int (iI x4)), (0, .ref B)]) C dX4_nextFlow_4 rfl (by decide) rfl ?_
  refine r_iload_n C 0 dX4_nextFlow_5 rfl rfl ?_
  refine r_bipush (v := iI (-6)) C dX4_nextFlow_6 (by decide) ?_
  refine n_icmp_ne (tgt := 18) C dX4_nextFlow_8 (by decide) (by constructor <;> omega) ⟨by decide, by decide⟩ (fun c8 => ?_) (fun c8 => ?_)
  · refine r_iload_n C 0 dX4_nextFlow_18 rfl rfl ?_
    refine r_iret C hr hlk dX4_nextFlow_19 (Nat.zero_le _) (Nat.zero_le _) ?_
    exact ⟨congrArg (fun z => some (Value.int (iI z))) (by unfold nxt; split <;> omega), rfl, rfl, rfl⟩
  · refine r_aload_n C 1 dX4_nextFlow_11 rfl rfl ?_
    refine cV0_PI C (k_X4_leastTagFlow hS hI hR) cw_X4_248 (rm_ok rfl rfl (Nat.zero_le _) (Nat.zero_le _)) (Nat.le_of_ble_eq_true rfl) hS.1.1 dX4_nextFlow_12 ?_
    refine r_goto (tgt := 19) C dX4_nextFlow_15 (by decide) ?_
    refine r_iret C hr hlk dX4_nextFlow_19 (Nat.zero_le _) (Nat.zero_le _) ?_
    exact ⟨congrArg (fun z => some (Value.int (iI z))) (by unfold nxt; split <;> omega), rfl, rfl, rfl⟩
set_option maxHeartbeats 4000000 in
set_option maxRecDepth 20000 in
theorem k_X4_canAccept {l : Launch} {G : Gd} {base : Nat} {Y : MY} {I : MI} {L : ML} {B : Nat} {X : Sa} {m : Bool} {a : Sa} {N T : Int} {fi : Int} (f : Nat) (hS : SLy base Y B) (hI : Inv N T a) (hR : Rl m a X) (hf : fi = f) (hf2 : (f : Int) < a 2) : Ct l yX4_canAccept cX4_canAccept 3 (some .boolean) (rmz 2 43) G base [.ref B, .int (iI fi)] Y (cI I B X) (cL L B X) (PI (hasR a f) Y (cI I B X) (cL L B X)) := by
  refine Ct.of (own := RX4) (lo := [(0, .ref B), (1, .int (iI fi))]) (by decide) rfl (Nat.le_of_ble_eq_true rfl) rfl ?_
  intro zp ze zs zm zargs zbl zmt zc C hr hlk hnm
  have hT := hI.1
  unfold TopOK at hT
  have hf6 : f < 6 := by omega
  have ho : old a = (a 7 - 120).toNat := rfl
  have hF := (hI.2.1 f hf2).1
  unfold FlowOK at hF
  refine r_aload_n C 0 dX4_canAccept_0 rfl rfl ?_
  refine r_getR C fl_X4_26 rfl dX4_canAccept_1 hS.1.1 hS.2.1.2.1 ?_
  refine r_iload_n C 1 dX4_canAccept_4 rfl rfl ?_
  refine r_aald C (by decide) (by decide) f dX4_canAccept_5 hS.1.2.2.1 ⟨congrArg iI (by omega), (by omega), by decide⟩ (hS.2.2.1 f (by omega)).2.2.2.1 ?_
  refine c_getI C (v := (a (17 + 18 * f + 17))) (3 + 3 * f) ((17 + 18 * f + 17)) rfl (oF (by omega)) (lnF (by omega) (by decide)) (ky_F (by omega) 2) fl_X4_85 rfl dX4_canAccept_6 (hS.2.2.1 f (by omega)).1 (hR.f hf2 (fk_y (by decide) (by decide))) ?_
  refine r_aload_n C 0 dX4_canAccept_9 rfl rfl ?_
  refine r_getR C fl_X4_26 rfl dX4_canAccept_10 hS.1.1 hS.2.1.2.1 ?_
  refine r_iload_n C 1 dX4_canAccept_13 rfl rfl ?_
  refine r_aald C (by decide) (by decide) f dX4_canAccept_14 hS.1.2.2.1 ⟨congrArg iI (by omega), (by omega), by decide⟩ (hS.2.2.1 f (by omega)).2.2.2.1 ?_
  refine r_getR C fl_X4_119 rfl dX4_canAccept_15 (hS.2.2.1 f (by omega)).1 (hS.2.2.1 f (by omega)).2.2.2.2.1 ?_
  refine r_iconst (v := iI 1) C dX4_canAccept_18 rfl ?_
  refine c_iald C (v := (a (17 + 18 * f + 1))) (4 + 3 * f) 1 ((17 + 18 * f + 1)) rfl (oG (by omega)) (lnG1 (by omega)) (ky_G (by omega) (by omega)) dX4_canAccept_19 (hS.2.2.1 f (by omega)).2.1 ⟨rfl, by decide, by decide⟩ (hR.f hf2 (fk_y (by decide) (by decide))) ?_
  refine n_icmp_lt (tgt := 25) C dX4_canAccept_20 (by decide) (by constructor <;> omega) (by constructor <;> omega) (fun c20 => ?_) (fun c20 => ?_)
  · refine r_aload_n C 0 dX4_canAccept_25 rfl rfl ?_
    refine c_getI C (v := (a 7)) 0 7 rfl (by decide) (lnS (by decide)) rfl fl_X4_63 rfl dX4_canAccept_26 hS.1.1 (hR.n 7 (by decide) (by decide)) ?_
    refine r_bipush (v := iI 120) C dX4_canAccept_29 (by decide) ?_
    refine n_icmp_ge (tgt := 36) C dX4_canAccept_31 (by decide) (by constructor <;> omega) ⟨by decide, by decide⟩ (fun c31 => ?_) (fun c31 => ?_)
    · have hP := hI.2.2.1 (old a) (Nat.le_refl _) (by omega)
      unfold PkOK at hP
      refine r_aload_n C 0 dX4_canAccept_36 rfl rfl ?_
      refine r_aload_n C 0 dX4_canAccept_37 rfl rfl ?_
      refine cV0_PI C (k_X4_oldestPacket hS (show 0 ≤ X 7 ∧ X 7 ≤ 400000 by rw [show X 7 = (a 7) from (hR.n 7 (by decide) (by decide))]; omega)) cw_X4_72 (rm_ok rfl rfl (Nat.zero_le _) (Nat.zero_le _)) (Nat.le_of_ble_eq_true rfl) hS.1.1 dX4_canAccept_38 ?_
      refine n_eqi (y := (old a : Int)) (by rw [old_eq (show X 7 = a 7 from (hR.n 7 (by decide) (by decide)))]) ?_
      refine cV1_PA C (k_X4_packetAt ((old a)) hS (by omega) (by omega)) cw_X4_91 (rm_ok rfl rfl (Nat.zero_le _) (Nat.zero_le _)) (Nat.le_of_ble_eq_true rfl) hS.1.1 dX4_canAccept_41 ?_
      refine c_getI C (v := (a (125 + 11 * ((old a) % 120) + 4))) (22 + ((old a) % 120)) ((125 + 11 * ((old a) % 120) + 4)) rfl (oP m120) (lnP m120 (by decide)) (ky_P m120 4) fl_X4_120 rfl dX4_canAccept_44 (hS.2.2.2.1 ((old a) % 120) m120).1 (hR.p ⟨Nat.le_refl _, (by omega)⟩ (by decide)) ?_
      refine r_istore_n (lo' := [(2, .int (iI (a (125 + 11 * ((old a) % 120) + 4)))), (0, .ref B), (1, .int (iI fi))]) C dX4_canAccept_47 rfl (by decide) rfl ?_
      refine r_iload_n C 0 dX4_canAccept_48 rfl rfl ?_
      refine r_iconst (v := iI 3) C dX4_canAccept_49 rfl ?_
      refine n_icmp_eq (tgt := 58) C dX4_canAccept_50 (by decide) (by constructor <;> omega) ⟨by decide, by decide⟩ (fun c50 => ?_) (fun c50 => ?_)
      · refine r_iconst (v := iI 1) C dX4_canAccept_58 rfl ?_
        refine r_goto (tgt := 63) C dX4_canAccept_59 (by decide) ?_
        refine r_zret C hr hlk (by decide) dX4_canAccept_63 (Nat.zero_le _) (Nat.zero_le _) ?_
        exact ⟨congrArg (fun z => some (Value.int (iI z))) (by unfold hasR; first | (rw [b2_1 (by omega)]; done) | (rw [b2_0 (by omega)]; done)), rfl, rfl, rfl⟩
      · refine r_iload_n C 0 dX4_canAccept_53 rfl rfl ?_
        refine r_iconst (v := iI 4) C dX4_canAccept_54 rfl ?_
        refine n_icmp_ne (tgt := 62) C dX4_canAccept_55 (by decide) (by constructor <;> omega) ⟨by decide, by decide⟩ (fun c55 => ?_) (fun c55 => ?_)
        · refine r_iconst (v := iI 0) C dX4_canAccept_62 rfl ?_
          refine r_zret C hr hlk (by decide) dX4_canAccept_63 (Nat.zero_le _) (Nat.zero_le _) ?_
          exact ⟨congrArg (fun z => some (Value.int (iI z))) (by unfold hasR; first | (rw [b2_1 (by omega)]; done) | (rw [b2_0 (by omega)]; done)), rfl, rfl, rfl⟩
        · refine r_iconst (v := iI 1) C dX4_canAccept_58 rfl ?_
          refine r_goto (tgt := 63) C dX4_canAccept_59 (by decide) ?_
          refine r_zret C hr hlk (by decide) dX4_canAccept_63 (Nat.zero_le _) (Nat.zero_le _) ?_
          exact ⟨congrArg (fun z => some (Value.int (iI z))) (by unfold hasR; first | (rw [b2_1 (by omega)]; done) | (rw [b2_0 (by omega)]; done)), rfl, rfl, rfl⟩
    · refine r_iconst (v := iI 1) C dX4_canAccept_34 rfl ?_
      refine r_zret C hr hlk (by decide) dX4_canAccept_35 (Nat.zero_le _) (Nat.zero_le _) ?_
      exact ⟨congrArg (fun z => some (Value.int (iI z))) (by unfold hasR; first | (rw [b2_1 (by omega)]; done) | (rw [b2_0 (by omega)]; done)), rfl, rfl, rfl⟩
  · refine r_iconst (v := iI 0) C dX4_canAccept_23 rfl ?_
    refine r_zret C hr hlk (by decide) dX4_canAccept_24 (Nat.zero_le _) (Nat.zero_le _) ?_
    exact ⟨congrArg (fun z => some (Value.int (iI z))) (by unfold hasR; first | (rw [b2_1 (by omega)]; done) | (rw [b2_0 (by omega)]; done)), rfl, rfl, rfl⟩
