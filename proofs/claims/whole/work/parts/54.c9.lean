theorem ttK_3 {p n j : Nat} {a : Sa} (h : a (125 + 11 * (p % 120) + 4) = 3) : ttK p n a j = j := by
  cases n <;> (unfold ttK; rw [if_pos h])
theorem ttK_s {p n j : Nat} {a : Sa} (h : ¬ a (125 + 11 * (p % 120) + 4) = 3) : ttK p (n + 1) a j = ttK p n (tick a) (j + 1) := by
  show (if _ then _ else _) = _
  rw [if_neg h]
theorem ttK_0 {p j : Nat} {a : Sa} (h : ¬ a (125 + 11 * (p % 120) + 4) = 3) : ttK p 0 a j = -6 := by
  show (if _ then _ else _) = _
  rw [if_neg h]
theorem tkb_F {a : Sa} {f k : Nat} (hf : f < 6) (hk : k < 18) : tkb a (17 + 18 * f + k) = tkf a (17 + 18 * f + k) := by
  unfold tkb
  split
  · exact bgn_n (by omega)
  · rfl
theorem lag_tkb {a : Sa} {f : Nat} (hf : f < 6) : lag (tkb a) f = lag (tkf a) f := by
  unfold lag
  rw [tkb_F hf (by decide), tkb_F hf (by decide)]
/-- the numbers of flows after a tick: of begin they are not touched -/
theorem lg_tkb {a : Sa} {n f k : Nat} (hf : f < n) (h6 : f < 6) (hk : k < 18) : lgA (tkb a) n (17 + 18 * f + k) = lgA (tkf a) n (17 + 18 * f + k) := by
  by_cases e : k = 16
  · subst e
    rw [lgA_16 n f hf, lgA_16 n f hf, lag_tkb h6, tkb_F h6 (by decide)]
  · rw [lgA_n n (fun g hg => by omega), lgA_n n (fun g hg => by omega), tkb_F h6 hk]
theorem lag_tki {a : Sa} {N T : Int} (hI : Inv N T a) (hN : NowOK a) (hL : LagOK a) (hT : T + 1 ≤ 1002000) : LagOK (tki a) := by
  have hm := tm_ok hI hN hT
  have hi := ti_ok hI hN hT
  have h := hm.2.2.1 hL
  have hT0 := hI.1
  unfold TopOK at hT0
  intro f hf
  rw [hi.2.2.2.1] at hf
  unfold tki
  rw [idA_n _ (fun g hg => by omega), idA_n _ (fun g hg => by omega), idA_n _ (fun g hg => by omega)]
  exact h f (by rw [hm.2.2.2.2.1]; exact hf)
set_option maxHeartbeats 4000000 in
set_option maxRecDepth 20000 in
theorem k_X4_makeTick {l : Launch} {G : Gd} {base : Nat} {Y : MY} {I : MI} {L : ML} {B : Nat} {X : Sa} {a : Sa} {N T : Int}  (hS : SLy base Y B) (hI : Inv N T a) (hR : Rl true a X) (hN : NowOK a) (hLg : LagOK a) (hT1 : T + 1 ≤ 1002000) : Ct l yX4_makeTick cX4_makeTick 2 (none) (rmz 5 113) G base [.ref B] Y (cI I B X) (cL L B X) (EV Y (fun I' L' => ∃ X', Rl true (tick a) X' ∧ X' 8356 = tkz a ∧ I' = cI I B X' ∧ L' = cL L B X')) := by
  refine Ct.of (own := RX4) (lo := [(0, .ref B)]) (by decide) rfl (Nat.le_of_ble_eq_true rfl) rfl ?_
  intro zp ze zs zm zargs zbl zmt zc C hr hlk hnm
  have hT := hI.1
  unfold TopOK at hT
  obtain ⟨n, hn⟩ := Int.eq_ofNat_of_zero_le (show 0 ≤ a 2 by omega)
  have hnn : (a 2).toNat = n := by omega
  refine r_aload_n C 0 dX4_makeTick_0 rfl rfl ?_
  refine cV0_EV C (k_X4_moveTime hS hI hR hN hT1) cw_X4_146 (rm_ok rfl rfl (Nat.zero_le _) (Nat.zero_le _)) (Nat.le_of_ble_eq_true rfl) hS.1.1 dX4_makeTick_1 (fun I1 L1 h1 => ?_)
  obtain ⟨a1, h1R, h1z, h1I, h1L⟩ := h1
  subst h1I
  subst h1L
  have hTm := tm_ok hI hN hT1
  refine r_iconst (v := iI 0) C dX4_makeTick_4 rfl ?_
  refine r_istore_n (lo' := [(1, .int (iI 0)), (0, .ref B)]) C dX4_makeTick_5 rfl (by decide) rfl ?_
  have lp6 : ∀ (k : Nat) (x1 : Int) (i : Nat) (X1 : Sa) (hx1 : x1 = i) (hi : (i : Int) ≤ a 2) (hR1 : Rl true (idA (tkm a) i) X1) (hz1 : X1 8356 = tkz a), n - i = k → Bd zp l ze (rmz 5 113) zs zm zargs zbl zmt zc 2 G base (EV Y (fun I' L' => ∃ X', Rl true (tick a) X' ∧ X' 8356 = tkz a ∧ I' = cI I B X' ∧ L' = cL L B X')) 6 [(1, .int (iI x1)), (0, .ref B)] [] Y (cI I B X1) (cL L B X1) 0 0 := by
    intro k
    induction k using Nat.strongRecOn with
    | _ k ih6 =>
    intro x1 i X1 hx1 hi hR1 hz1 hk6
    have h42 : (idA (tkm a) i) 2 = a 2 := by rw [idA_n i (fun g _ => by omega)]; exact hTm.2.2.2.2.1
    have h40 : (idA (tkm a) i) 0 = a 0 + 1 := by rw [idA_n i (fun g _ => by omega)]; exact hTm.2.2.2.1
    have hI4 : Inv N (T + 1) (idA (tkm a) i) := by
      refine Inv_idA hTm.1 (fun f hf => ?_) i (by rw [hTm.2.2.2.2.1]; exact hi)
      rw [hTm.2.2.2.2.1] at hf
      have hF := (hI.2.1 f hf).1
      unfold FlowOK at hF
      rw [hTm.2.2.2.2.2.2 f hf 5 (by omega) (by omega), hTm.2.2.2.1]
      omega
    have hT4 := hI4.1
    unfold TopOK at hT4
    refine r_iload_n C 0 dX4_makeTick_6 rfl rfl ?_
    refine r_aload_n C 1 dX4_makeTick_7 rfl rfl ?_
    refine c_getI C (v := ((idA (tkm a) i) 2)) 0 2 rfl (by decide) (lnS (by decide)) rfl fl_X4_60 rfl dX4_makeTick_8 hS.1.1 (hR1.n 2 (by decide) (by decide)) ?_
    refine n_icmp_ge (tgt := 33) C dX4_makeTick_11 (by decide) (by constructor <;> omega) (by constructor <;> omega) (fun c11 => ?_) (fun c11 => ?_)
    · have hTi := ti_ok hI hN hT1
      have hRi : Rl true (tki a) X1 := by
        unfold tki
        rw [show (a 2).toNat = i by omega]
        exact hR1
      have h15i : ∀ f : Nat, (f : Int) < tki a 2 → tki a (17 + 18 * f + 15) + 720720 ≤ 720720 * tki a 0 := by
        intro f hf
        rw [hTi.2.2.2.1] at hf
        have hF := (hI.2.1 f hf).1
        unfold FlowOK at hF
        rw [hTi.2.2.2.2.2 f hf, hTi.2.2.1]
        omega
      refine r_aload_n C 1 dX4_makeTick_33 rfl rfl ?_
      refine cV0_EV C (k_X4_drainFluid hS hTi.1 hRi (lag_tki hI hN hLg hT1) h15i) cw_X4_153 (rm_ok rfl rfl (Nat.zero_le _) (Nat.zero_le _)) (Nat.le_of_ble_eq_true rfl) hS.1.1 dX4_makeTick_34 (fun I34 L34 h34 => ?_)
      obtain ⟨a34, h34R, h34z, h34I, h34L⟩ := h34
      subst h34I
      subst h34L
      have hTf := tf_ok hI hN hT1
      have h8f : tkf a 8 = -6 ∨ (0 ≤ tkf a 8 ∧ tkf a 8 ≤ 400000) := by
        have hTT := hTf.1.1
        unfold TopOK at hTT
        rcases hTf.2.1.2 with h | ⟨p, g1, g2, g3, g4⟩ <;> omega
      have hti2 : (tki a 2).toNat = n := by rw [hTi.2.2.2.1]; exact hnn
      rw [hti2] at h34R
      have hRf : Rl false (tkf a) a34 := Rl.lgAb n (by omega) h34R.ff
      refine r_aload_n C 1 dX4_makeTick_37 rfl rfl ?_
      refine cV0_EV C (k_X4_beginPieceIfFree (m := false) hS hTf.1 hRf h8f) cw_X4_156 (rm_ok rfl rfl (Nat.zero_le _) (Nat.zero_le _)) (Nat.le_of_ble_eq_true rfl) hS.1.1 dX4_makeTick_38 (fun I38 L38 h38 => ?_)
      obtain ⟨a38, h38R, h38z, h38I, h38L⟩ := h38
      subst h38I
      subst h38L
      refine r_vret C hr hlk dX4_makeTick_41 (Nat.zero_le _) (Nat.zero_le _) ?_
      have h1 : Rl false (lgA (tkb a) n) a38 := Rl.lgAf h38R n (by omega)
      refine ⟨rfl, rfl, a38, ?_, ?_, rfl, rfl⟩
      · unfold tick
        rw [hnn]
        refine h1.full (fun f hf k hk => ?_)
        have hb2 : lgA (tkb a) n 2 = a 2 := by rw [lgA_n n (fun g hg => by omega)]; exact (tb_ok hI hN hT1).2.2.2.1
        rw [hb2] at hf
        have hf6 : f < 6 := by omega
        have hc2 : lgA (tkf a) n 2 = a 2 := by rw [lgA_n n (fun g hg => by omega)]; exact hTf.2.2.2.1
        rw [h38z.1 _ (by omega) (by omega), lg_tkb (by omega) hf6 hk]
        exact h34R.f (show (f : Int) < lgA (tkf a) n 2 by rw [hc2]; exact hf) (fk_t hk)
      · rw [h38z.2, h34z]
        exact hz1
    · have hi4 : (i : Int) < (idA (tkm a) i) 2 := by omega
      have hi6 : i < 6 := by omega
      have hF := (hI4.2.1 i hi4).1
      unfold FlowOK at hF
      refine r_aload_n C 1 dX4_makeTick_14 rfl rfl ?_
      refine r_getR C fl_X4_26 rfl dX4_makeTick_15 hS.1.1 hS.2.1.2.1 ?_
      refine r_iload_n C 0 dX4_makeTick_18 rfl rfl ?_
      refine r_aald C (by decide) (by decide) i dX4_makeTick_19 hS.1.2.2.1 ⟨congrArg iI (by omega), (by omega), by decide⟩ (hS.2.2.1 i hi6).2.2.2.1 ?_
      refine r_aload_n C 1 dX4_makeTick_20 rfl rfl ?_
      refine c_getL C (v := ((idA (tkm a) i) 1)) 0 1 rfl (by decide) lnSy rfl fl_X4_123 rfl dX4_makeTick_21 hS.1.1 (hR1.n 1 (by decide) (by decide)) ?_
      refine cV1_EV C (k_X0_makeIdleTick i hS hi6 (by omega) (show 0 ≤ X1 (17 + 18 * i + 12) ∧ X1 (17 + 18 * i + 12) ≤ 1000000000000000 by rw [show X1 (17 + 18 * i + 12) = ((idA (tkm a) i) (17 + 18 * i + 12)) from (hR1.f hi4 (fk_t (by decide)))]; omega) (show 0 ≤ X1 (17 + 18 * i + 4) ∧ X1 (17 + 18 * i + 4) ≤ 2 by rw [show X1 (17 + 18 * i + 4) = ((idA (tkm a) i) (17 + 18 * i + 4)) from (hR1.f hi4 (fk_y (by decide) (by decide)))]; omega) (show 0 ≤ X1 (17 + 18 * i + 5) ∧ X1 (17 + 18 * i + 5) ≤ 2000000 by rw [show X1 (17 + 18 * i + 5) = ((idA (tkm a) i) (17 + 18 * i + 5)) from (hR1.f hi4 (fk_t (by decide)))]; omega) (show 0 ≤ X1 (17 + 18 * i + 3) ∧ X1 (17 + 18 * i + 3) ≤ 1000 by rw [show X1 (17 + 18 * i + 3) = ((idA (tkm a) i) (17 + 18 * i + 3)) from (hR1.f hi4 (fk_y (by decide) (by decide)))]; omega) (show 0 ≤ X1 (17 + 18 * i + 17) ∧ X1 (17 + 18 * i + 17) ≤ 20 by rw [show X1 (17 + 18 * i + 17) = ((idA (tkm a) i) (17 + 18 * i + 17)) from (hR1.f hi4 (fk_y (by decide) (by decide)))]; omega)) cw_X4_149 (rm_ok rfl rfl (Nat.zero_le _) (Nat.zero_le _)) (Nat.le_of_ble_eq_true rfl) (hS.2.2.1 i hi6).1 dX4_makeTick_24 (fun I24 L24 h24 => ?_)
      obtain ⟨h24I, h24L⟩ := h24
      obtain ⟨a24, ea24⟩ : ∃ z, z = idX X1 i ((idA (tkm a) i) 1) := ⟨_, rfl⟩
      rw [← ea24] at h24I h24L
      subst h24I
      subst h24L
      refine n_iinc (lo' := [(1, .int (iI (x1 + 1))), (0, .ref B)]) C 0 dX4_makeTick_27 rfl rfl (by decide) rfl ?_
      refine r_goto (tgt := 6) C dX4_makeTick_30 (by decide) ?_
      exact ih6 _ (by first | omega | (rw [← hk6]; omega)) ((x1 + 1)) (i + 1) a24 (by omega) (by omega) (by rw [ea24, idX_eq (hR1.n 1 (by decide) (by decide))]; exact hR1.idl1 hi4 hi6) (by rw [ea24, idX_eq (hR1.n 1 (by decide) (by decide)), idl_LD hi6]; exact hz1) rfl
  exact lp6 _ 0 0 a1 rfl (by omega) h1R h1z rfl
set_option maxHeartbeats 4000000 in
set_option maxRecDepth 20000 in
theorem k_X4_makeDeliveryTick {l : Launch} {G : Gd} {base : Nat} {Y : MY} {I : MI} {L : ML} {B : Nat} {X : Sa} {a : Sa} {N T : Int}  (hS : SLy base Y B) (hI : Inv N T a) (hR : Rl false a X) (hN : NowOK a) (hT1 : T + 1 ≤ 1002000) : Ct l yX4_makeDeliveryTick cX4_makeDeliveryTick 1 (none) (rmz 5 113) G base [.ref B] Y (cI I B X) (cL L B X) (EV Y (fun I' L' => ∃ X', Rl false (tick a) X' ∧ X' 8356 = tkz a ∧ I' = cI I B X' ∧ L' = cL L B X')) := by
  refine Ct.of (own := RX4) (lo := [(0, .ref B)]) (by decide) rfl (Nat.le_of_ble_eq_true rfl) rfl ?_
  intro zp ze zs zm zargs zbl zmt zc C hr hlk hnm
  have hT := hI.1
  unfold TopOK at hT
  obtain ⟨n, hn⟩ := Int.eq_ofNat_of_zero_le (show 0 ≤ a 2 by omega)
  have hnn : (a 2).toNat = n := by omega
  refine r_aload_n C 0 dX4_makeDeliveryTick_0 rfl rfl ?_
  refine cV0_EV C (k_X4_moveTime hS hI hR hN hT1) cw_X4_146 (rm_ok rfl rfl (Nat.zero_le _) (Nat.zero_le _)) (Nat.le_of_ble_eq_true rfl) hS.1.1 dX4_makeDeliveryTick_1 (fun I1 L1 h1 => ?_)
  obtain ⟨a1, h1R, h1z, h1I, h1L⟩ := h1
  subst h1I
  subst h1L
  have hTm := tm_ok hI hN hT1
  have hTi := ti_ok hI hN hT1
  have hTf := tf_ok hI hN hT1
  have h8f : tkf a 8 = -6 ∨ (0 ≤ tkf a 8 ∧ tkf a 8 ≤ 400000) := by
    have hTT := hTf.1.1
    unfold TopOK at hTT
    rcases hTf.2.1.2 with h | ⟨p, g1, g2, g3, g4⟩ <;> omega
  have hRf : Rl false (tkf a) a1 := by
    unfold tkf flo
    exact (h1R.idAf _ (by omega)).flAf _ _ (by rw [show tki a 2 = a 2 from hTi.2.2.2.1]; omega)
  refine r_aload_n C 0 dX4_makeDeliveryTick_4 rfl rfl ?_
  refine cV0_EV C (k_X4_beginPieceIfFree (m := false) hS hTf.1 hRf h8f) cw_X4_156 (rm_ok rfl rfl (Nat.zero_le _) (Nat.zero_le _)) (Nat.le_of_ble_eq_true rfl) hS.1.1 dX4_makeDeliveryTick_5 (fun I5 L5 h5 => ?_)
  obtain ⟨a5, h5R, h5z, h5I, h5L⟩ := h5
  subst h5I
  subst h5L
  refine r_vret C hr hlk dX4_makeDeliveryTick_8 (Nat.zero_le _) (Nat.zero_le _) ?_
  refine ⟨rfl, rfl, a5, ?_, ?_, rfl, rfl⟩
  · unfold tick
    exact Rl.lgAf h5R _ (by omega)
  · rw [h5z.2]
    exact h1z
set_option maxHeartbeats 4000000 in
set_option maxRecDepth 20000 in
theorem k_X4_ticksUntilDelivery {l : Launch} {G : Gd} {base : Nat} {Y : MY} {I : MI} {L : ML} {B : Nat} {X : Sa} {a : Sa} {N T : Int} {pi mi : Int} (p mo : Nat) (hS : SLy base Y B) (hI : Inv N T a) (hR : Rl false a X) (hp : pi = p) (hmo : mi = mo) (hN : NowOK a) (hTt : T + mo ≤ 1002000) (hk : old a ≤ p ∧ (p : Int) < a 7) (h3 : ¬ a (125 + 11 * (p % 120) + 4) = 3) : Ct l yX4_ticksUntilDelivery cX4_ticksUntilDelivery 4 (some .int) (rmz 6 133) G base [.ref B, .int (iI pi), .int (iI mi)] Y (cI I B X) (cL L B X) (EI Y (fun r I' L' => r = ttK p mo a 0 ∧ ∃ X', I' = cI I B X' ∧ L' = cL L B X')) := by
  refine Ct.of (own := RX4) (lo := [(0, .ref B), (1, .int (iI pi)), (2, .int (iI mi))]) (by decide) rfl (Nat.le_of_ble_eq_true rfl) rfl ?_
  intro zp ze zs zm zargs zbl zmt zc C hr hlk hnm
  have hT := hI.1
  unfold TopOK at hT
  refine r_iconst (v := iI 1) C dX4_ticksUntilDelivery_0 rfl ?_
  refine r_istore_n (lo' := [(3, .int (iI 1)), (0, .ref B), (1, .int (iI pi)), (2, .int (iI mi))]) C dX4_ticksUntilDelivery_1 rfl (by decide) rfl ?_
  have lp2 : ∀ (k : Nat) (x3 : Int) (t : Nat) (a1 : Sa) (X1 : Sa) (hx3 : x3 = t + 1) (ht : t ≤ mo) (hI1 : Inv N (T + t) a1) (hN1 : NowOK a1) (h7 : a1 7 = a 7) (hR1 : Rl false a1 X1) (h31 : ¬ a1 (125 + 11 * (p % 120) + 4) = 3) (he : ttK p (mo - t) a1 t = ttK p mo a 0), mo - t = k → Bd zp l ze (rmz 6 133) zs zm zargs zbl zmt zc 4 G base (EI Y (fun r I' L' => r = ttK p mo a 0 ∧ ∃ X', I' = cI I B X' ∧ L' = cL L B X')) 2 [(3, .int (iI x3)), (0, .ref B), (1, .int (iI pi)), (2, .int (iI mi))] [] Y (cI I B X1) (cL L B X1) 0 0 := by
    intro k
    induction k using Nat.strongRecOn with
    | _ k ih2 =>
    intro x3 t a1 X1 hx3 ht hI1 hN1 h7 hR1 h31 he hk2
    refine r_iload_n C 0 dX4_ticksUntilDelivery_2 rfl rfl ?_
    refine r_iload_n C 3 dX4_ticksUntilDelivery_3 rfl rfl ?_
    refine n_icmp_gt (tgt := 31) C dX4_ticksUntilDelivery_4 (by decide) (by constructor <;> omega) (by constructor <;> omega) (fun c4 => ?_) (fun c4 => ?_)
    · refine r_bipush (v := iI (-6)) C dX4_ticksUntilDelivery_31 (by decide) ?_
      refine r_iret C hr hlk dX4_ticksUntilDelivery_33 (Nat.zero_le _) (Nat.zero_le _) ?_
      refine ⟨_, rfl, rfl, ?_, X1, rfl, rfl⟩
      rw [← he, show mo - t = 0 by omega, ttK_0 h31]
    · refine r_aload_n C 1 dX4_ticksUntilDelivery_7 rfl rfl ?_
      refine cV0_EV C (k_X4_makeDeliveryTick hS hI1 hR1 hN1 (by omega)) cw_X4_159 (rm_ok rfl rfl (Nat.zero_le _) (Nat.zero_le _)) (Nat.le_of_ble_eq_true rfl) hS.1.1 dX4_ticksUntilDelivery_8 (fun I8 L8 h8 => ?_)
      obtain ⟨a8, h8R, h8z, h8I, h8L⟩ := h8
      subst h8I
      subst h8L
      have hTk := tick_ok hI1 hN1 (by omega)
      have hk2 : old (tick a1) ≤ p ∧ (p : Int) < tick a1 7 := by rw [old_eq (hTk.2.2.2.2.2.trans h7), hTk.2.2.2.2.2, h7]; exact hk
      have hP := hTk.1.2.2.1 p hk2.1 hk2.2
      unfold PkOK at hP
      refine r_aload_n C 1 dX4_ticksUntilDelivery_11 rfl rfl ?_
      refine r_iload_n C 2 dX4_ticksUntilDelivery_12 rfl rfl ?_
      refine cV1_PA C (k_X4_packetAt p hS (by omega) (by omega)) cw_X4_91 (rm_ok rfl rfl (Nat.zero_le _) (Nat.zero_le _)) (Nat.le_of_ble_eq_true rfl) hS.1.1 dX4_ticksUntilDelivery_13 ?_
      refine c_getI C (v := ((tick a1) (125 + 11 * (p % 120) + 4))) (22 + (p % 120)) ((125 + 11 * (p % 120) + 4)) rfl (oP m120) (lnP m120 (by decide)) (ky_P m120 4) fl_X4_120 rfl dX4_ticksUntilDelivery_16 (hS.2.2.2.1 (p % 120) m120).1 (h8R.p hk2 (by decide)) ?_
      refine r_iconst (v := iI 3) C dX4_ticksUntilDelivery_19 rfl ?_
      refine n_icmp_ne (tgt := 25) C dX4_ticksUntilDelivery_20 (by decide) (by constructor <;> omega) ⟨by decide, by decide⟩ (fun c20 => ?_) (fun c20 => ?_)
      · refine n_iinc (lo' := [(3, .int (iI (x3 + 1))), (0, .ref B), (1, .int (iI pi)), (2, .int (iI mi))]) C 0 dX4_ticksUntilDelivery_25 rfl rfl (by decide) rfl ?_
        refine r_goto (tgt := 2) C dX4_ticksUntilDelivery_28 (by decide) ?_
        exact ih2 _ (by first | omega | (rw [← hk2]; omega)) ((x3 + 1)) (t + 1) ((tick a1)) a8 (by omega) (by omega) (by rw [show T + ((t + 1 : Nat) : Int) = T + t + 1 by omega]; exact hTk.1) hTk.2.1 (hTk.2.2.2.2.2.trans h7) h8R (by omega) (by rw [show mo - t = (mo - (t + 1)) + 1 by omega, ttK_s h31] at he; exact he) rfl
      · refine r_iload_n C 0 dX4_ticksUntilDelivery_23 rfl rfl ?_
        refine r_iret C hr hlk dX4_ticksUntilDelivery_24 (Nat.zero_le _) (Nat.zero_le _) ?_
        refine ⟨_, rfl, rfl, ?_, a8, rfl, rfl⟩
        rw [← he, show mo - t = (mo - (t + 1)) + 1 by omega, ttK_s h31, ttK_3 (by omega)]
        omega
  exact lp2 _ 1 0 a X rfl (Nat.zero_le _) (by rw [show T + ((0 : Nat) : Int) = T by omega]; exact hI) hN rfl hR h3 rfl rfl
