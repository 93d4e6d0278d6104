theorem bgF_n {X : Sa} {f k : Nat} {w : Int} (h : f < 6 ∧ (k < 17 ∨ (17 ≤ k ∧ k < 125 ∧ (k < 17 + 18 * f ∨ 17 + 18 * f + 18 ≤ k)) ∨ (125 ≤ k ∧ k < 2200 ∧ (k < 1826 ∨ 2000 ≤ k)) ∨ k = 3818)) : bgF X f w k = X k := by
  unfold bgF
  rw [up1_n (by omega), up1_n (by omega), up1_n (by omega), up1_n (by omega), up1_n (by omega), up1_n (by omega), up1_n (by omega), up1_n (by omega), up1_n (by omega), up1_n (by omega), up1_n (by omega), up1_n (by omega), up1_n (by omega), up1_n (by omega)]
  refine upC_n ?_
  rcases h.2 with h1 | ⟨h1, h2, h3⟩ | ⟨h1, h2, h3⟩ | h1
  · have := yk1_N h1
    omega
  · obtain ⟨g, r, hr, rfl⟩ : ∃ g r, r < 18 ∧ k = 17 + 18 * g + r := ⟨(k - 17) / 18, (k - 17) % 18, by omega, by omega⟩
    have := yk1_F (f := g) (k := r) (by omega) hr
    omega
  · by_cases e1 : k < 1445
    · obtain ⟨j, r, hj, hr, rfl⟩ : ∃ j r, j < 120 ∧ r < 11 ∧ k = 125 + 11 * j + r := ⟨(k - 125) / 11, (k - 125) % 11, by omega, by omega, by omega⟩
      have := yk1_P (p := j) (k := r) hr
      rw [Nat.mod_eq_of_lt hj] at this
      omega
    · by_cases e2 : k < 1745
      · obtain ⟨j, r, hj, hr, rfl⟩ : ∃ j r, j < 60 ∧ r < 5 ∧ k = 1445 + 5 * j + r := ⟨(k - 1445) / 5, (k - 1445) % 5, by omega, by omega, by omega⟩
        have := yk1_R (r := j) (k := r) hr
        rw [Nat.mod_eq_of_lt hj] at this
        omega
      · by_cases e3 : k < 1826
        · have := yk1_T (k := k) (by omega)
          omega
        · unfold yek
          rw [if_neg (by omega), if_neg (by omega), if_neg (by omega), if_neg (by omega), if_neg (by omega), if_neg (by omega), if_pos (by omega)]
          show 5 + 3 * ((k - 2000) / 20) ≠ 4 + 3 * f
          omega
  · subst h1
    rw [yk1_C]
    omega
theorem bgF_f {X : Sa} {f k : Nat} {w : Int} (hf : f < 6) (hk : k < 18) : bgF X f w (17 + 18 * f + k) = if k = 0 then w else if k = 1 then 20 else if k = 4 then 2 else 0 := by
  have hs : ∀ j, j < 5 → upC X (4 + 3 * f) (fun k => ((scl 2).getD k 0).toInt) (17 + 18 * f + j) = ((scl 2).getD j 0).toInt := by
    intro j hj
    rw [← ky_G hf hj]
    exact upC_s (oG hf)
  unfold bgF
  match k, hk with
  | 0, _ => rw [up1_n (by omega), up1_n (by omega), up1_n (by omega), up1_n (by omega), up1_n (by omega), up1_n (by omega), up1_n (by omega), up1_n (by omega), up1_n (by omega), up1_n (by omega), up1_n (by omega), up1_n (by omega), up1_n (by omega), up1_s]; rfl
  | 1, _ => rw [up1_n (by omega), up1_n (by omega), up1_n (by omega), up1_n (by omega), up1_n (by omega), up1_n (by omega), up1_n (by omega), up1_n (by omega), up1_n (by omega), up1_n (by omega), up1_n (by omega), up1_n (by omega), up1_n (by omega), up1_n (by omega), hs 1 (by decide)]; rfl
  | 2, _ => rw [up1_n (by omega), up1_n (by omega), up1_n (by omega), up1_n (by omega), up1_n (by omega), up1_n (by omega), up1_n (by omega), up1_n (by omega), up1_n (by omega), up1_n (by omega), up1_n (by omega), up1_n (by omega), up1_n (by omega), up1_n (by omega), hs 2 (by decide)]; rfl
  | 3, _ => rw [up1_n (by omega), up1_n (by omega), up1_n (by omega), up1_n (by omega), up1_n (by omega), up1_n (by omega), up1_n (by omega), up1_n (by omega), up1_n (by omega), up1_n (by omega), up1_n (by omega), up1_n (by omega), up1_n (by omega), up1_n (by omega), hs 3 (by decide)]; rfl
  | 4, _ => rw [up1_n (by omega), up1_n (by omega), up1_n (by omega), up1_n (by omega), up1_n (by omega), up1_n (by omega), up1_n (by omega), up1_n (by omega), up1_n (by omega), up1_n (by omega), up1_n (by omega), up1_n (by omega), up1_n (by omega), up1_n (by omega), hs 4 (by decide)]; rfl
  | 5, _ => rw [up1_n (by omega), up1_n (by omega), up1_n (by omega), up1_n (by omega), up1_n (by omega), up1_n (by omega), up1_n (by omega), up1_n (by omega), up1_s]; rfl
  | 6, _ => rw [up1_n (by omega), up1_n (by omega), up1_n (by omega), up1_n (by omega), up1_n (by omega), up1_n (by omega), up1_n (by omega), up1_n (by omega), up1_n (by omega), up1_n (by omega), up1_n (by omega), up1_s]; rfl
  | 7, _ => rw [up1_n (by omega), up1_n (by omega), up1_n (by omega), up1_n (by omega), up1_n (by omega), up1_n (by omega), up1_n (by omega), up1_n (by omega), up1_n (by omega), up1_n (by omega), up1_s]; rfl
  | 8, _ => rw [up1_n (by omega), up1_n (by omega), up1_n (by omega), up1_n (by omega), up1_n (by omega), up1_n (by omega), up1_n (by omega), up1_n (by omega), up1_n (by omega), up1_s]; rfl
  | 9, _ => rw [up1_n (by omega), up1_n (by omega), up1_n (by omega), up1_n (by omega), up1_n (by omega), up1_n (by omega), up1_n (by omega), up1_s]; rfl
  | 10, _ => rw [up1_n (by omega), up1_n (by omega), up1_n (by omega), up1_n (by omega), up1_n (by omega), up1_n (by omega), up1_s]; rfl
  | 11, _ => rw [up1_n (by omega), up1_n (by omega), up1_n (by omega), up1_n (by omega), up1_n (by omega), up1_s]; rfl
  | 12, _ => rw [up1_n (by omega), up1_n (by omega), up1_n (by omega), up1_n (by omega), up1_s]; rfl
  | 13, _ => rw [up1_n (by omega), up1_n (by omega), up1_n (by omega), up1_s]; rfl
  | 14, _ => rw [up1_n (by omega), up1_n (by omega), up1_s]; rfl
  | 15, _ => rw [up1_n (by omega), up1_s]; rfl
  | 16, _ => rw [up1_s]; rfl
  | 17, _ => rw [up1_n (by omega), up1_n (by omega), up1_n (by omega), up1_n (by omega), up1_n (by omega), up1_n (by omega), up1_n (by omega), up1_n (by omega), up1_n (by omega), up1_n (by omega), up1_n (by omega), up1_n (by omega), up1_s]; rfl
  | k + 18, h => exact absurd h (by omega)
theorem addF_n {a : Sa} {f k : Nat} {w : Int} (h : ¬ k = 2 ∧ (k < 17 + 18 * f ∨ 17 + 18 * f + 18 ≤ k)) : addF a f w k = a k := by
  unfold addF
  rw [up1_n (by omega), up1_n (by omega), up1_n (by omega), up1_n (by omega), zeF_n 18 (by omega)]
theorem addF_f {a : Sa} {f k : Nat} {w : Int} (hk : k < 18) : addF a f w (17 + 18 * f + k) = if k = 0 then w else if k = 1 then 20 else if k = 4 then 2 else 0 := by
  unfold addF
  by_cases e4 : k = 4
  · subst e4
    rw [up1_n (by omega), up1_s]; rfl
  by_cases e1 : k = 1
  · subst e1
    rw [up1_n (by omega), up1_n (by omega), up1_s]; rfl
  by_cases e0 : k = 0
  · subst e0
    rw [up1_n (by omega), up1_n (by omega), up1_n (by omega), up1_s]; rfl
  rw [up1_n (by omega), up1_n (by omega), up1_n (by omega), up1_n (by omega), zeF_z 18 hk, if_neg e0, if_neg e1, if_neg e4]
theorem Rl.ad {a X : Sa} {N T : Int} (hI : Inv N T a) (hR : Rl true a X) {f : Nat} {w : Int} (hf : a 2 = f) (hf6 : f < 6) : Rl true (addF a f w) (up1 (bgF X f w) 2 (a 2 + 1)) := by
  have hT := hI.1
  unfold TopOK at hT
  have g2 : addF a f w 2 = a 2 + 1 := by unfold addF; rw [up1_s]
  have g7 : addF a f w 7 = a 7 := addF_n (by omega)
  have g8 : addF a f w 8 = a 8 := addF_n (by omega)
  have g15 : addF a f w 15 = a 15 := addF_n (by omega)
  refine ⟨fun k k1 k2 => ?_, fun g hg k hk => ?_, fun q p1 p2 => ?_, fun q r1 r2 k hk => ?_, fun k k1 k2 => ?_, fun g hg i q hi => ?_, fun q hp8 => ?_⟩
  · by_cases e : k = 2
    · subst e
      rw [up1_s, g2]
    · rw [up1_n e, bgF_n (by omega), addF_n (by omega)]
      exact hR.n k k1 k2
  · rw [g2] at hg
    have hk1 := hk.1
    by_cases e : g = f
    · subst e
      rw [up1_n (by omega), bgF_f hf6 hk1, addF_f hk1]
    · rw [up1_n (by omega), bgF_n (by omega), addF_n (by omega)]
      exact hR.f (by omega) hk
  · rw [old_eq g7] at p1
    rw [g7] at p2
    have hm : q % 120 < 120 := Nat.mod_lt _ (by decide)
    refine ⟨fun k hk => ?_, fun z => ?_⟩
    · rw [up1_n (by omega), bgF_n (by omega), addF_n (by omega)]
      exact hR.p ⟨p1, p2⟩ hk
    · rw [addF_n (by omega)] at z
      rw [up1_n (by omega), bgF_n (by omega), addF_n (by omega)]
      exact hR.p10 ⟨p1, p2⟩ z
  · rw [g15] at r1 r2
    have hm : q % 60 < 60 := Nat.mod_lt _ (by decide)
    rw [up1_n (by omega), bgF_n (by omega), addF_n (by omega)]
    exact hR.r r1 r2 hk
  · rw [up1_n (by omega), bgF_n (by omega), addF_n (by omega)]
    exact hR.t k k1 k2
  · rw [g2] at hg
    rw [Qs_cong g7 (fun q _ => isQ_eq (addF_n (by omega)) (addF_n (by omega)))] at hi
    have hq := Qs_mem.mp (List.mem_of_getElem? hi)
    have hP := hI.2.2.1 q hq.1.1 (by omega)
    unfold PkOK at hP
    have hga : (g : Int) < a 2 := by omega
    have h20 := Inv.q20 hI g hga
    have hil := (List.getElem?_eq_some_iff.mp hi).1
    rw [up1_n (by omega), bgF_n (by omega)]
    exact hR.q hga hi
  · rw [g8] at hp8
    have hm : q % 120 < 120 := Nat.mod_lt _ (by decide)
    rw [up1_n (by omega), up1_n (by omega), bgF_n (by omega), bgF_n (by omega), addF_n (by omega), addF_n (by omega)]
    exact hR.c hp8
def sL (a : Sa) : List Nat → Int
  | [] => 0
  | q :: l => (a (125 + 11 * (q % 120) + 1) - a (125 + 11 * (q % 120) + 5)) + sL a l
theorem sL_app {a : Sa} : ∀ (l : List Nat) (q : Nat), sL a (l ++ [q]) = sL a l + (a (125 + 11 * (q % 120) + 1) - a (125 + 11 * (q % 120) + 5))
  | [], q => by show _ + (0 : Int) = 0 + _; omega
  | x :: l, q => by
    show _ + sL a (l ++ [q]) = _ + sL a l + _
    rw [sL_app l q]
    omega
theorem rsO_sL {a : Sa} {f : Nat} : ∀ n p, rsO a f n p = sL a ((List.range' p n).filter (isQ a f))
  | 0, _ => rfl
  | n + 1, p => by
    rw [List.range'_succ, List.filter_cons]
    show (if _ then _ else _) + rsO a f n (p + 1) = _
    rw [rsO_sL n (p + 1)]
    by_cases h : a (125 + 11 * (p % 120) + 0) = f ∧ a (125 + 11 * (p % 120) + 4) ≤ 1
    · rw [if_pos h, if_pos (show isQ a f p = true from decide_eq_true h)]
      rfl
    · rw [if_neg h, if_neg (show ¬ isQ a f p = true from fun z => h (of_decide_eq_true z))]
      omega
theorem rst_sL {a : Sa} {f : Nat} : rst a f = sL a (Qs a f) := by
  unfold rst Qs knw
  exact rsO_sL _ _
theorem tk_s {l : List Nat} {i q : Nat} (h : l[i]? = some q) : l.take (i + 1) = l.take i ++ [q] := by rw [List.take_succ, h]; rfl
set_option maxHeartbeats 4000000 in
set_option maxRecDepth 20000 in
theorem k_X4_openFlow {l : Launch} {G : Gd} {base : Nat} {Y : MY} {I : MI} {L : ML} {B : Nat} {X : Sa} {a : Sa} {N T : Int} {w : Int} (f : Nat) (hS : SLy base Y B) (hI : Inv N T a) (hR : Rl true a X) (hf : a 2 = f) (hf6 : f < 6) : Ct l yX4_openFlow cX4_openFlow 2 (some .int) (rmz 2 61) G base [.ref B, .int (iI w)] Y (cI I B X) (cL L B X) (EI Y (fun r I' L' => r = a 2 ∧ ∃ X', Rl true (addF a f w) X' ∧ I' = cI I B X' ∧ L' = cL L B X')) := by
  refine Ct.of (own := RX4) (lo := [(0, .ref B), (1, .int (iI w))]) (by decide) rfl (Nat.le_of_ble_eq_true rfl) rfl ?_
  intro zp ze zs zm zargs zbl zmt zc C hr hlk hnm
  have hT := hI.1
  unfold TopOK at hT
  refine r_aload_n C 0 dX4_openFlow_0 rfl rfl ?_
  refine r_getR C fl_X4_26 rfl dX4_openFlow_1 hS.1.1 hS.2.1.2.1 ?_
  refine r_aload_n C 0 dX4_openFlow_4 rfl rfl ?_
  refine c_getI C (v := (a 2)) 0 2 rfl (by decide) (lnS (by decide)) rfl fl_X4_60 rfl dX4_openFlow_5 hS.1.1 (hR.n 2 (by decide) (by decide)) ?_
  refine r_aald C (by decide) (by decide) f dX4_openFlow_8 hS.1.2.2.1 ⟨congrArg iI (by omega), (by omega), by decide⟩ (hS.2.2.1 f hf6).2.2.2.1 ?_
  refine r_iload_n C 1 dX4_openFlow_9 rfl rfl ?_
  refine cV1_EV C (k_X0_begin f hS hf6) cw_X4_115 (rm_ok rfl rfl (Nat.zero_le _) (Nat.zero_le _)) (Nat.le_of_ble_eq_true rfl) (hS.2.2.1 f hf6).1 dX4_openFlow_10 (fun I10 L10 h10 => ?_)
  obtain ⟨h10I, h10L⟩ := h10
  obtain ⟨a10, ea10⟩ : ∃ z, z = bgF X f w := ⟨_, rfl⟩
  rw [← ea10] at h10I h10L
  subst h10I
  subst h10L
  refine r_aload_n C 0 dX4_openFlow_13 rfl rfl ?_
  refine r_dup C dX4_openFlow_14 rfl ?_
  refine c_getI C (v := (a 2)) 0 2 rfl (by decide) (lnS (by decide)) rfl fl_X4_60 rfl dX4_openFlow_15 hS.1.1 (by rw [ea10, bgF_n (by omega)]; exact (hR.n 2 (by decide) (by decide))) ?_
  refine r_iconst (v := iI 1) C dX4_openFlow_18 rfl ?_
  refine n_iadd C dX4_openFlow_19 ?_
  refine c_putI C 0 2 rfl (by decide) (lnS (by decide)) rfl fl_X4_60 rfl dX4_openFlow_20 hS.1.1 (fun a20 ea20 => ?_)
  refine r_aload_n C 0 dX4_openFlow_23 rfl rfl ?_
  refine c_getI C (v := ((a 2) + 1)) 0 2 rfl (by decide) (lnS (by decide)) rfl fl_X4_60 rfl dX4_openFlow_24 hS.1.1 (by rw [ea20, up1_s]) ?_
  refine r_iconst (v := iI 1) C dX4_openFlow_27 rfl ?_
  refine n_isub C dX4_openFlow_28 ?_
  refine r_iret C hr hlk dX4_openFlow_29 (Nat.zero_le _) (Nat.zero_le _) ?_
  refine ⟨_, rfl, rfl, by omega, a20, ?_, rfl, rfl⟩
  rw [ea20, ea10]
  exact Rl.ad hI hR hf hf6
set_option maxHeartbeats 4000000 in
set_option maxRecDepth 20000 in
theorem k_X4_unsentLength {l : Launch} {G : Gd} {base : Nat} {Y : MY} {I : MI} {L : ML} {B : Nat} {X : Sa} {m : Bool} {a : Sa} {N T : Int} (f : Nat) (hS : SLy base Y B) (hI : Inv N T a) (hR : Rl m a X) (hf2 : (f : Int) < a 2) (hf6 : f < 6) : Ct l yX4_unsentLength cX4_unsentLength 4 (some .int) (rmz 2 43) G base [.ref B, .ref (B + (3 + 3 * f))] Y (cI I B X) (cL L B X) (PI (rst a f) Y (cI I B X) (cL L B X)) := by
  refine Ct.of (own := RX4) (lo := [(0, .ref B), (1, .ref (B + (3 + 3 * f)))]) (by decide) rfl (Nat.le_of_ble_eq_true rfl) rfl ?_
  intro zp ze zs zm zargs zbl zmt zc C hr hlk hnm
  have hT := hI.1
  unfold TopOK at hT
  have hF := (hI.2.1 f hf2).1
  unfold FlowOK at hF
  have h20 := Inv.q20 hI f hf2
  have hlen := (hI.2.1 f hf2).2
  refine r_iconst (v := iI 0) C dX4_unsentLength_0 rfl ?_
  refine r_istore_n (lo' := [(2, .int (iI 0)), (0, .ref B), (1, .ref (B + (3 + 3 * f)))]) C dX4_unsentLength_1 rfl (by decide) rfl ?_
  refine r_iconst (v := iI 0) C dX4_unsentLength_2 rfl ?_
  refine r_istore_n (lo' := [(3, .int (iI 0)), (2, .int (iI 0)), (0, .ref B), (1, .ref (B + (3 + 3 * f)))]) C dX4_unsentLength_3 rfl (by decide) rfl ?_
  have lp4 : ∀ (k : Nat) (x2 : Int) (x3 : Int) (i : Nat) (hx3 : x3 = i) (hi : i ≤ (Qs a f).length) (hx2 : x2 = sL a ((Qs a f).take i)) (hx2b : 0 ≤ x2 ∧ x2 ≤ 2000 * i), (Qs a f).length - i = k → Bd zp l ze (rmz 2 43) zs zm zargs zbl zmt zc 4 G base (PI (rst a f) Y (cI I B X) (cL L B X)) 4 [(3, .int (iI x3)), (2, .int (iI x2)), (0, .ref B), (1, .ref (B + (3 + 3 * f)))] [] Y (cI I B X) (cL L B X) 0 0 := by
    intro k
    induction k using Nat.strongRecOn with
    | _ k ih4 =>
    intro x2 x3 i hx3 hi hx2 hx2b hk4
    refine r_iload_n C 0 dX4_unsentLength_4 rfl rfl ?_
    refine r_aload_n C 3 dX4_unsentLength_5 rfl rfl ?_
    refine c_getI C (v := (a (17 + 18 * f + 17))) (3 + 3 * f) ((17 + 18 * f + 17)) rfl (oF hf6) (lnF hf6 (by decide)) (ky_F hf6 2) fl_X4_85 rfl dX4_unsentLength_6 (hS.2.2.1 f hf6).1 (hR.f hf2 (fk_y (by decide) (by decide))) ?_
    refine n_icmp_ge (tgt := 34) C dX4_unsentLength_9 (by decide) (by constructor <;> omega) (by constructor <;> omega) (fun c9 => ?_) (fun c9 => ?_)
    · refine r_iload_n C 1 dX4_unsentLength_34 rfl rfl ?_
      refine r_iret C hr hlk dX4_unsentLength_35 (Nat.zero_le _) (Nat.zero_le _) ?_
      exact ⟨congrArg (fun z => some (Value.int (iI z))) (by rw [hx2, rst_sL, show i = (Qs a f).length by omega, List.take_length]), rfl, rfl, rfl⟩
    · obtain ⟨q, hq⟩ : ∃ q, (Qs a f)[i]? = some q := ⟨_, List.getElem?_eq_getElem (by omega)⟩
      have hqm := Qs_mem.mp (List.mem_of_getElem? hq)
      have hkq : old a ≤ q ∧ (q : Int) < a 7 := ⟨hqm.1.1, by omega⟩
      have hP := hI.2.2.1 q hkq.1 hkq.2
      unfold PkOK at hP
      refine r_iload_n C 1 dX4_unsentLength_12 rfl rfl ?_
      refine r_aload_n C 2 dX4_unsentLength_13 rfl rfl ?_
      refine r_aload_n C 3 dX4_unsentLength_14 rfl rfl ?_
      refine r_getR C fl_X4_88 rfl dX4_unsentLength_15 (hS.2.2.1 f hf6).1 (hS.2.2.1 f hf6).2.2.2.2.2 ?_
      refine r_iload_n C 0 dX4_unsentLength_18 rfl rfl ?_
      refine c_iald C (v := (q : Int)) (5 + 3 * f) i ((2000 + 20 * f + i)) rfl (oQ hf6) (lnQ1 hf6) (ky_Q hf6 (by omega)) dX4_unsentLength_19 (hS.2.2.1 f hf6).2.2.1 ⟨congrArg iI (by omega), (by omega), by decide⟩ (hR.q hf2 hq) ?_
      refine cV1_PA C (k_X4_packetAt q hS (by omega) (by omega)) cw_X4_91 (rm_ok rfl rfl (Nat.zero_le _) (Nat.zero_le _)) (Nat.le_of_ble_eq_true rfl) hS.1.1 dX4_unsentLength_20 ?_
      refine cV0_PI C (k_X1_unsent (q % 120) hS m120) cw_X4_95 (rm_ok rfl rfl (Nat.zero_le _) (Nat.zero_le _)) (Nat.le_of_ble_eq_true rfl) (hS.2.2.2.1 (q % 120) m120).1 dX4_unsentLength_23 ?_
      refine n_eqi (y := ((a (125 + 11 * (q % 120) + 1)) - (a (125 + 11 * (q % 120) + 5)))) (by rw [show X (125 + 11 * (q % 120) + 1) = (a (125 + 11 * (q % 120) + 1)) from (hR.p hkq (by decide)), show X (125 + 11 * (q % 120) + 5) = (a (125 + 11 * (q % 120) + 5)) from (hR.p hkq (by decide))]) ?_
      refine n_iadd C dX4_unsentLength_26 ?_
      refine n_topi (fun x27 ex27 => ?_)
      refine r_istore_n (lo' := [(2, .int (iI x27)), (3, .int (iI x3)), (0, .ref B), (1, .ref (B + (3 + 3 * f)))]) C dX4_unsentLength_27 rfl (by decide) rfl ?_
      refine n_iinc (lo' := [(3, .int (iI (x3 + 1))), (2, .int (iI x27)), (0, .ref B), (1, .ref (B + (3 + 3 * f)))]) C 1 dX4_unsentLength_28 rfl rfl (by decide) rfl ?_
      refine r_goto (tgt := 4) C dX4_unsentLength_31 (by decide) ?_
      exact ih4 _ (by first | omega | (rw [← hk4]; omega)) x27 ((x3 + 1)) (i + 1) (by omega) (by omega) (by rw [tk_s hq, sL_app, ← hx2]; exact ex27) (by omega) rfl
  exact lp4 _ 0 0 0 rfl (Nat.zero_le _) rfl (by omega) rfl
