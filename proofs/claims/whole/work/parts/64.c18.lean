/-- what the calls do: answer and new row -/
def AddR (a : Sa) (w r : Int) (a' : Sa) : Prop := (¬ (1 ≤ w ∧ w ≤ 16) ∧ r = -2 ∧ a' = a) ∨ ((1 ≤ w ∧ w ≤ 16) ∧ a 2 = 6 ∧ r = -4 ∧ a' = a) ∨ ((1 ≤ w ∧ w ≤ 16) ∧ a 2 < 6 ∧ r = a 2 ∧ a' = addF a (a 2).toNat w)
def SetR (a : Sa) (f k v r : Int) (a' : Sa) : Prop := (¬ (0 ≤ f ∧ f < a 2) ∧ r = -1 ∧ a' = a) ∨ ((0 ≤ f ∧ f < a 2) ∧ ¬ setOK k v ∧ r = -2 ∧ a' = a) ∨ ((0 ≤ f ∧ f < a 2) ∧ setOK k v ∧ r = a (17 + 18 * f.toNat + k.toNat) ∧ a' = up1 a (17 + 18 * f.toNat + k.toNat) v)
def RulR (a : Sa) (k v r : Int) (a' : Sa) : Prop := (¬ rulOK k v ∧ r = -2 ∧ a' = a) ∨ (rulOK k v ∧ r = a (3 + k.toNat) ∧ a' = up1 a (3 + k.toNat) v)
def AdvR (a : Sa) (t r : Int) (a' : Sa) : Prop := (¬ (1 ≤ t ∧ t ≤ 2000) ∧ r = -2 ∧ a' = a) ∨ ((1 ≤ t ∧ t ≤ 2000) ∧ 1000000 < a 0 + t ∧ r = -5 ∧ a' = a) ∨ ((1 ≤ t ∧ t ≤ 2000) ∧ a 0 + t ≤ 1000000 ∧ r = a 0 + t ∧ a' = tkN a t.toNat)
def AwdR (a : Sa) (t r : Int) (a' : Sa) : Prop := (¬ (1 ≤ t ∧ t ≤ 2000) ∧ r = -2 ∧ a' = a) ∨ ((1 ≤ t ∧ t ≤ 2000) ∧ 1000000 < a 0 + t ∧ r = -5 ∧ a' = a) ∨ ((1 ≤ t ∧ t ≤ 2000) ∧ a 0 + t ≤ 1000000 ∧ r = awZ t.toNat a (-6) ∧ a' = awR t.toNat a (-6))
theorem tkN_c {a : Sa} : ∀ n, tkN (tick a) n = tkN a (n + 1)
  | 0 => rfl
  | n + 1 => by
    show tick (tkN (tick a) n) = tick (tkN a (n + 1))
    rw [tkN_c n]
theorem awR_s {a : Sa} {n : Nat} {z : Int} : awR (n + 1) a z = if z < 0 then awR n (tick a) (tkz a) else a := rfl
theorem awZ_s {a : Sa} {n : Nat} {z : Int} : awZ (n + 1) a z = if z < 0 then awZ n (tick a) (tkz a) else z := rfl
theorem awZ_p {a : Sa} {n : Nat} {z : Int} (h : ¬ z < 0) : awZ n a z = z ∧ awR n a z = a := by
  cases n with
  | zero => exact ⟨rfl, rfl⟩
  | succ n => rw [awR_s, awZ_s, if_neg h, if_neg h]; exact ⟨rfl, rfl⟩
theorem jnF_6 : ∀ (n p : Nat) (a : Sa) (z : Int), (z = -6 ∨ (0 ≤ z ∧ z ≤ 400000)) → p + n ≤ 400000 → jnF z a n p = -6 ∨ (0 ≤ jnF z a n p ∧ jnF z a n p ≤ 400000)
  | 0, _, _, _, h, _ => h
  | n + 1, p, a, z, h, hp => by
    unfold jnF
    refine jnF_6 n (p + 1) _ _ ?_ (by omega)
    unfold jnZ
    by_cases hc : jnC a p
    · rw [@if_pos _ (Classical.propDecidable _) hc]; unfold fdN; split <;> omega
    · rw [@if_neg _ (Classical.propDecidable _) hc]; exact h
theorem tkz_6 {a : Sa} {N T : Int} (hI : Inv N T a) (hN : NowOK a) (hT : T + 1 ≤ 1002000) : tkz a = -6 ∨ (0 ≤ tkz a ∧ tkz a ≤ 400000) := by
  have h1 := (t1_ok hI hN hT).1.1
  have h0 := hI.1
  unfold TopOK at h1 h0
  have h8 : a 8 ≤ 400000 := by
    rcases hN.2 with h | ⟨p, g1, g2, g3, -⟩ <;> omega
  unfold tkz jaz
  refine jnF_6 _ _ _ _ ?_ (by unfold old; omega)
  unfold tkz1
  split
  · omega
  · split
    · unfold pdZ fdN
      split
      · omega
      · split
        · omega
        · split <;> omega
    · omega
set_option maxHeartbeats 4000000 in
set_option maxRecDepth 20000 in
theorem k_X5_addFlow {l : Launch} {G : Gd} {base : Nat} {Y : MY} {I : MI} {L : ML} {B : Nat} {X : Sa} {a : Sa} {N T : Int} {F : Nat} {w : Int} (hS : SLy base Y B) (hI : Inv N T a) (hR : Rl true a X) (hF : FLn base Y F B) (hw0 : -2147483648 ≤ w ∧ w < 2147483648) : Ct l yX5_addFlow cX5_addFlow 2 (some .int) (rmz 3 82) G base [.ref F, .int (iI w)] Y (cI I B X) (cL L B X) (EI Y (fun r I' L' => ∃ a' X', (AddR a w r a') ∧ Rl true a' X' ∧ I' = cI I B X' ∧ L' = cL L B X')) := by
  refine Ct.of (own := RX5) (lo := [(0, .ref F), (1, .int (iI w))]) (by decide) rfl (Nat.le_of_ble_eq_true rfl) rfl ?_
  intro zp ze zs zm zargs zbl zmt zc C hr hlk hnm
  have hT := hI.1
  unfold TopOK at hT
  obtain ⟨n, hn⟩ := Int.eq_ofNat_of_zero_le (show 0 ≤ a 2 by omega)
  refine r_iload_n C 1 dX5_addFlow_0 rfl rfl ?_
  refine r_iconst (v := iI 1) C dX5_addFlow_1 rfl ?_
  refine n_icmp_lt (tgt := 11) C dX5_addFlow_2 (by decide) (by constructor <;> omega) ⟨by decide, by decide⟩ (fun c2 => ?_) (fun c2 => ?_)
  · refine r_bipush (v := iI (-2)) C dX5_addFlow_11 (by decide) ?_
    refine r_iret C hr hlk dX5_addFlow_13 (Nat.zero_le _) (Nat.zero_le _) ?_
    exact ⟨_, rfl, rfl, a, X, Or.inl ⟨by omega, rfl, rfl⟩, hR, rfl, rfl⟩
  · refine r_iload_n C 1 dX5_addFlow_5 rfl rfl ?_
    refine r_bipush (v := iI 16) C dX5_addFlow_6 (by decide) ?_
    refine n_icmp_le (tgt := 14) C dX5_addFlow_8 (by decide) (by constructor <;> omega) ⟨by decide, by decide⟩ (fun c8 => ?_) (fun c8 => ?_)
    · refine r_aload_n C 0 dX5_addFlow_14 rfl rfl ?_
      refine r_getR C fl_X5_10 rfl dX5_addFlow_15 hF.1 hF.2 ?_
      refine c_getI C (v := (a 2)) 0 2 rfl (by decide) (lnS (by decide)) rfl fl_X5_23 rfl dX5_addFlow_18 hS.1.1 (hR.n 2 (by decide) (by decide)) ?_
      refine r_bipush (v := iI 6) C dX5_addFlow_21 (by decide) ?_
      refine n_icmp_lt (tgt := 29) C dX5_addFlow_23 (by decide) (by constructor <;> omega) ⟨by decide, by decide⟩ (fun c23 => ?_) (fun c23 => ?_)
      · refine r_aload_n C 0 dX5_addFlow_29 rfl rfl ?_
        refine r_getR C fl_X5_10 rfl dX5_addFlow_30 hF.1 hF.2 ?_
        refine r_iload_n C 1 dX5_addFlow_33 rfl rfl ?_
        refine cV1_EI C (k_X4_openFlow n hS hI hR hn (by omega)) cw_X5_27 (rm_ok rfl rfl (Nat.zero_le _) (Nat.zero_le _)) (Nat.le_of_ble_eq_true rfl) hS.1.1 dX5_addFlow_34 (fun r34 I34 L34 h34 => ?_)
        obtain ⟨h34r, a34, h34R, h34I, h34L⟩ := h34
        subst h34I
        subst h34L
        refine r_iret C hr hlk dX5_addFlow_37 (Nat.zero_le _) (Nat.zero_le _) ?_
        exact ⟨_, rfl, rfl, _, a34, Or.inr (Or.inr ⟨by omega, by omega, h34r, by rw [show (a 2).toNat = n by omega]⟩), h34R, rfl, rfl⟩
      · refine r_bipush (v := iI (-4)) C dX5_addFlow_26 (by decide) ?_
        refine r_iret C hr hlk dX5_addFlow_28 (Nat.zero_le _) (Nat.zero_le _) ?_
        exact ⟨_, rfl, rfl, a, X, Or.inr (Or.inl ⟨by omega, by omega, rfl, rfl⟩), hR, rfl, rfl⟩
    · refine r_bipush (v := iI (-2)) C dX5_addFlow_11 (by decide) ?_
      refine r_iret C hr hlk dX5_addFlow_13 (Nat.zero_le _) (Nat.zero_le _) ?_
      exact ⟨_, rfl, rfl, a, X, Or.inl ⟨by omega, rfl, rfl⟩, hR, rfl, rfl⟩
set_option maxHeartbeats 4000000 in
set_option maxRecDepth 20000 in
theorem k_X5_set {l : Launch} {G : Gd} {base : Nat} {Y : MY} {I : MI} {L : ML} {B : Nat} {X : Sa} {a : Sa} {N T : Int} {F : Nat} {f k v : Int} (hS : SLy base Y B) (hI : Inv N T a) (hR : Rl true a X) (hF : FLn base Y F B) (hf0 : -2147483648 ≤ f ∧ f < 2147483648) (hk0 : -2147483648 ≤ k ∧ k < 2147483648) (hv0 : -2147483648 ≤ v ∧ v < 2147483648) : Ct l yX5_set cX5_set 5 (some .int) (rmz 1 21) G base [.ref F, .int (iI f), .int (iI k), .int (iI v)] Y (cI I B X) (cL L B X) (EI Y (fun r I' L' => ∃ a' X', (SetR a f k v r a') ∧ Rl true a' X' ∧ I' = cI I B X' ∧ L' = cL L B X')) := by
  refine Ct.of (own := RX5) (lo := [(0, .ref F), (1, .int (iI f)), (2, .int (iI k)), (3, .int (iI v))]) (by decide) rfl (Nat.le_of_ble_eq_true rfl) rfl ?_
  intro zp ze zs zm zargs zbl zmt zc C hr hlk hnm
  have hT := hI.1
  unfold TopOK at hT
  refine r_aload_n C 0 dX5_set_0 rfl rfl ?_
  refine r_getR C fl_X5_10 rfl dX5_set_1 hF.1 hF.2 ?_
  refine r_iload_n C 1 dX5_set_4 rfl rfl ?_
  refine cV1_PI C (k_X4_hasFlow hS (by omega) (show 0 ≤ X 2 ∧ X 2 ≤ 6 by rw [show X 2 = (a 2) from (hR.n 2 (by decide) (by decide))]; omega)) cw_X5_31 (rm_ok rfl rfl (Nat.zero_le _) (Nat.zero_le _)) (Nat.le_of_ble_eq_true rfl) hS.1.1 dX5_set_5 ?_
  refine n_eqi (y := (b2 (0 ≤ f ∧ f < (a 2)))) (by rw [show X 2 = (a 2) from (hR.n 2 (by decide) (by decide))]) ?_
  refine n_if_ne (tgt := 13) C dX5_set_8 (by decide) b2_i (fun c8 => ?_) (fun c8 => ?_)
  · rw [b2_eq0, Classical.not_not] at c8
    obtain ⟨fn, hfn⟩ := Int.eq_ofNat_of_zero_le (show 0 ≤ f by omega)
    have hfn2 : (fn : Int) < a 2 := by omega
    have hfn6 : fn < 6 := by omega
    refine r_iload_n C 2 dX5_set_13 rfl rfl ?_
    refine n_if_lt (tgt := 22) C dX5_set_14 (by decide) (by constructor <;> omega) (fun c14 => ?_) (fun c14 => ?_)
    · refine r_bipush (v := iI (-2)) C dX5_set_22 (by decide) ?_
      refine r_iret C hr hlk dX5_set_24 (Nat.zero_le _) (Nat.zero_le _) ?_
      have hns : ¬ setOK k v := by
        intro h
        unfold setOK at h
        omega
      exact ⟨_, rfl, rfl, a, X, Or.inr (Or.inl ⟨by omega, hns, rfl, rfl⟩), hR, rfl, rfl⟩
    · refine r_iload_n C 2 dX5_set_17 rfl rfl ?_
      refine r_iconst (v := iI 4) C dX5_set_18 rfl ?_
      refine n_icmp_le (tgt := 25) C dX5_set_19 (by decide) (by constructor <;> omega) ⟨by decide, by decide⟩ (fun c19 => ?_) (fun c19 => ?_)
      · obtain ⟨kn, hkn⟩ := Int.eq_ofNat_of_zero_le (show 0 ≤ k by omega)
        have hkn5 : kn < 5 := by omega
        refine r_iload_n C 3 dX5_set_25 rfl rfl ?_
        refine r_gets C (j := 0) (by decide) ws_35 dX5_set_26 ?_
        refine r_iload_n C 2 dX5_set_29 rfl rfl ?_
        obtain ⟨v30, ev30⟩ : ∃ zv : Int, (scl 0).getD kn 0 = iI zv ∧ ((kn = 0 ∧ zv = 1) ∨ (kn = 1 ∧ zv = 1) ∨ (kn = 2 ∧ zv = 0) ∨ (kn = 3 ∧ zv = 0) ∨ (kn = 4 ∧ zv = 0)) := (by
          match kn, hkn5 with
          | 0, _ => exact ⟨1, by decide, by omega⟩
          | 1, _ => exact ⟨1, by decide, by omega⟩
          | 2, _ => exact ⟨0, by decide, by omega⟩
          | 3, _ => exact ⟨0, by decide, by omega⟩
          | 4, _ => exact ⟨0, by decide, by omega⟩)
        refine r_tld (v := iI v30) C (j := 0) (by decide) kn ⟨congrArg iI (by omega), (show kn < 5 by omega), by decide⟩ ev30.1 dX5_set_30 ?_
        replace ev30 := ev30.2
        refine n_icmp_lt (tgt := 43) C dX5_set_31 (by decide) (by constructor <;> omega) (by constructor <;> omega) (fun c31 => ?_) (fun c31 => ?_)
        · refine r_bipush (v := iI (-2)) C dX5_set_43 (by decide) ?_
          refine r_iret C hr hlk dX5_set_45 (Nat.zero_le _) (Nat.zero_le _) ?_
          have hns : ¬ setOK k v := by
            intro h
            unfold setOK at h
            omega
          exact ⟨_, rfl, rfl, a, X, Or.inr (Or.inl ⟨by omega, hns, rfl, rfl⟩), hR, rfl, rfl⟩
        · refine r_iload_n C 3 dX5_set_34 rfl rfl ?_
          refine r_gets C (j := 1) (by decide) ws_39 dX5_set_35 ?_
          refine r_iload_n C 2 dX5_set_38 rfl rfl ?_
          obtain ⟨v39, ev39⟩ : ∃ zv : Int, (scl 1).getD kn 0 = iI zv ∧ ((kn = 0 ∧ zv = 16) ∨ (kn = 1 ∧ zv = 20) ∨ (kn = 2 ∧ zv = 1000) ∨ (kn = 3 ∧ zv = 1000) ∨ (kn = 4 ∧ zv = 2)) := (by
            match kn, hkn5 with
            | 0, _ => exact ⟨16, by decide, by omega⟩
            | 1, _ => exact ⟨20, by decide, by omega⟩
            | 2, _ => exact ⟨1000, by decide, by omega⟩
            | 3, _ => exact ⟨1000, by decide, by omega⟩
            | 4, _ => exact ⟨2, by decide, by omega⟩)
          refine r_tld (v := iI v39) C (j := 1) (by decide) kn ⟨congrArg iI (by omega), (show kn < 5 by omega), by decide⟩ ev39.1 dX5_set_39 ?_
          replace ev39 := ev39.2
          refine n_icmp_le (tgt := 46) C dX5_set_40 (by decide) (by constructor <;> omega) (by constructor <;> omega) (fun c40 => ?_) (fun c40 => ?_)
          · refine r_aload_n C 0 dX5_set_46 rfl rfl ?_
            refine r_getR C fl_X5_10 rfl dX5_set_47 hF.1 hF.2 ?_
            refine r_getR C fl_X5_42 rfl dX5_set_50 hS.1.1 hS.2.1.2.1 ?_
            refine r_iload_n C 1 dX5_set_53 rfl rfl ?_
            refine r_aald C (by decide) (by decide) fn dX5_set_54 hS.1.2.2.1 ⟨congrArg iI (by omega), (by omega), by decide⟩ (hS.2.2.1 fn hfn6).2.2.2.1 ?_
            refine r_getR C fl_X5_46 rfl dX5_set_55 (hS.2.2.1 fn hfn6).1 (hS.2.2.1 fn hfn6).2.2.2.2.1 ?_
            refine r_iload_n C 2 dX5_set_58 rfl rfl ?_
            refine c_iald C (v := (a (17 + 18 * fn + kn))) (4 + 3 * fn) kn ((17 + 18 * fn + kn)) rfl (oG hfn6) (lnG1 hfn6) (ky_G hfn6 (by omega)) dX5_set_59 (hS.2.2.1 fn hfn6).2.1 ⟨congrArg iI (by omega), (by omega), by decide⟩ (hR.f hfn2 (fk_y (by omega) (by omega))) ?_
            refine n_topi (fun x60 ex60 => ?_)
            refine r_istore (lo' := [(4, .int (iI x60)), (0, .ref F), (1, .int (iI f)), (2, .int (iI k)), (3, .int (iI v))]) C dX5_set_60 (by decide) rfl ?_
            refine r_aload_n C 1 dX5_set_62 rfl rfl ?_
            refine r_getR C fl_X5_10 rfl dX5_set_63 hF.1 hF.2 ?_
            refine r_getR C fl_X5_42 rfl dX5_set_66 hS.1.1 hS.2.1.2.1 ?_
            refine r_iload_n C 2 dX5_set_69 rfl rfl ?_
            refine r_aald C (by decide) (by decide) fn dX5_set_70 hS.1.2.2.1 ⟨congrArg iI (by omega), (by omega), by decide⟩ (hS.2.2.1 fn hfn6).2.2.2.1 ?_
            refine r_getR C fl_X5_46 rfl dX5_set_71 (hS.2.2.1 fn hfn6).1 (hS.2.2.1 fn hfn6).2.2.2.2.1 ?_
            refine r_iload_n C 3 dX5_set_74 rfl rfl ?_
            refine r_iload_n C 4 dX5_set_75 rfl rfl ?_
            refine c_iast C (4 + 3 * fn) kn ((17 + 18 * fn + kn)) rfl (oG hfn6) (lnG1 hfn6) (ky_G hfn6 (by omega)) dX5_set_76 (hS.2.2.1 fn hfn6).2.1 ⟨congrArg iI (by omega), (by omega), by decide⟩ (fun a76 ea76 => ?_)
            refine r_iload C 0 dX5_set_77 rfl ?_
            refine r_iret C hr hlk dX5_set_79 (Nat.zero_le _) (Nat.zero_le _) ?_
            have hs : setOK k v := by
              unfold setOK
              omega
            refine ⟨_, rfl, rfl, _, a76, Or.inr (Or.inr ⟨c8, hs, ?_, rfl⟩), ?_, rfl, rfl⟩
            · rw [ex60, show f.toNat = fn by omega, show k.toNat = kn by omega]
            · rw [ea76, show f.toNat = fn by omega, show k.toNat = kn by omega]
              exact hR.upF hfn6 (by omega) v
          · refine r_bipush (v := iI (-2)) C dX5_set_43 (by decide) ?_
            refine r_iret C hr hlk dX5_set_45 (Nat.zero_le _) (Nat.zero_le _) ?_
            have hns : ¬ setOK k v := by
              intro h
              unfold setOK at h
              omega
            exact ⟨_, rfl, rfl, a, X, Or.inr (Or.inl ⟨by omega, hns, rfl, rfl⟩), hR, rfl, rfl⟩
      · refine r_bipush (v := iI (-2)) C dX5_set_22 (by decide) ?_
        refine r_iret C hr hlk dX5_set_24 (Nat.zero_le _) (Nat.zero_le _) ?_
        have hns : ¬ setOK k v := by
          intro h
          unfold setOK at h
          omega
        exact ⟨_, rfl, rfl, a, X, Or.inr (Or.inl ⟨by omega, hns, rfl, rfl⟩), hR, rfl, rfl⟩
  · refine r_iconst (v := iI (-1)) C dX5_set_11 rfl ?_
    refine r_iret C hr hlk dX5_set_12 (Nat.zero_le _) (Nat.zero_le _) ?_
    rw [b2_eq0] at c8
    exact ⟨_, rfl, rfl, a, X, Or.inl ⟨c8, rfl, rfl⟩, hR, rfl, rfl⟩
set_option maxHeartbeats 4000000 in
set_option maxRecDepth 20000 in
theorem k_X5_rule {l : Launch} {G : Gd} {base : Nat} {Y : MY} {I : MI} {L : ML} {B : Nat} {X : Sa} {a : Sa} {N T : Int} {F : Nat} {k v : Int} (hS : SLy base Y B) (hI : Inv N T a) (hR : Rl true a X) (hF : FLn base Y F B) (hk0 : -2147483648 ≤ k ∧ k < 2147483648) (hv0 : -2147483648 ≤ v ∧ v < 2147483648) : Ct l yX5_rule cX5_rule 4 (some .int) (rmz 0 0) G base [.ref F, .int (iI k), .int (iI v)] Y (cI I B X) (cL L B X) (EI Y (fun r I' L' => ∃ a' X', (RulR a k v r a') ∧ Rl true a' X' ∧ I' = cI I B X' ∧ L' = cL L B X')) := by
  refine Ct.of (own := RX5) (lo := [(0, .ref F), (1, .int (iI k)), (2, .int (iI v))]) (by decide) rfl (Nat.le_of_ble_eq_true rfl) rfl ?_
  intro zp ze zs zm zargs zbl zmt zc C hr hlk hnm
  have hT := hI.1
  unfold TopOK at hT
  refine r_iload_n C 1 dX5_rule_0 rfl rfl ?_
  refine n_if_lt (tgt := 9) C dX5_rule_1 (by decide) (by constructor <;> omega) (fun c1 => ?_) (fun c1 => ?_)
  · refine r_bipush (v := iI (-2)) C dX5_rule_9 (by decide) ?_
    refine r_iret C hr hlk dX5_rule_11 (Nat.zero_le _) (Nat.zero_le _) ?_
    have hns : ¬ rulOK k v := by
      intro h
      unfold rulOK at h
      omega
    exact ⟨_, rfl, rfl, a, X, Or.inl ⟨hns, rfl, rfl⟩, hR, rfl, rfl⟩
  · refine r_iload_n C 1 dX5_rule_4 rfl rfl ?_
    refine r_iconst (v := iI 3) C dX5_rule_5 rfl ?_
    refine n_icmp_le (tgt := 12) C dX5_rule_6 (by decide) (by constructor <;> omega) ⟨by decide, by decide⟩ (fun c6 => ?_) (fun c6 => ?_)
    · obtain ⟨kn, hkn⟩ := Int.eq_ofNat_of_zero_le (show 0 ≤ k by omega)
      have hkn4 : kn < 4 := by omega
      refine r_iload_n C 2 dX5_rule_12 rfl rfl ?_
      refine n_if_lt (tgt := 25) C dX5_rule_13 (by decide) (by constructor <;> omega) (fun c13 => ?_) (fun c13 => ?_)
      · refine r_bipush (v := iI (-2)) C dX5_rule_25 (by decide) ?_
        refine r_iret C hr hlk dX5_rule_27 (Nat.zero_le _) (Nat.zero_le _) ?_
        have hns : ¬ rulOK k v := by
          intro h
          unfold rulOK at h
          omega
        exact ⟨_, rfl, rfl, a, X, Or.inl ⟨hns, rfl, rfl⟩, hR, rfl, rfl⟩
      · refine r_iload_n C 2 dX5_rule_16 rfl rfl ?_
        refine r_gets C (j := 3) (by decide) ws_51 dX5_rule_17 ?_
        refine r_iload_n C 1 dX5_rule_20 rfl rfl ?_
        obtain ⟨v21, ev21⟩ : ∃ zv : Int, (scl 3).getD kn 0 = iI zv ∧ ((kn = 0 ∧ zv = 50) ∨ (kn = 1 ∧ zv = 50) ∨ (kn = 2 ∧ zv = 1000) ∨ (kn = 3 ∧ zv = 1)) := (by
          match kn, hkn4 with
          | 0, _ => exact ⟨50, by decide, by omega⟩
          | 1, _ => exact ⟨50, by decide, by omega⟩
          | 2, _ => exact ⟨1000, by decide, by omega⟩
          | 3, _ => exact ⟨1, by decide, by omega⟩)
        refine r_tld (v := iI v21) C (j := 3) (by decide) kn ⟨congrArg iI (by omega), (show kn < 4 by omega), by decide⟩ ev21.1 dX5_rule_21 ?_
        replace ev21 := ev21.2
        refine n_icmp_le (tgt := 28) C dX5_rule_22 (by decide) (by constructor <;> omega) (by constructor <;> omega) (fun c22 => ?_) (fun c22 => ?_)
        · refine r_aload_n C 0 dX5_rule_28 rfl rfl ?_
          refine r_getR C fl_X5_10 rfl dX5_rule_29 hF.1 hF.2 ?_
          refine r_getR C fl_X5_54 rfl dX5_rule_32 hS.1.1 hS.2.1.1 ?_
          refine r_iload_n C 1 dX5_rule_35 rfl rfl ?_
          refine c_iald C (v := (a (3 + kn))) 1 kn ((3 + kn)) rfl (by decide) ln1 (ky_1 (by omega)) dX5_rule_36 hS.1.2.1 ⟨congrArg iI (by omega), (by omega), by decide⟩ (hR.n _ (by omega) (by omega)) ?_
          refine n_topi (fun x37 ex37 => ?_)
          refine r_istore_n (lo' := [(3, .int (iI x37)), (0, .ref F), (1, .int (iI k)), (2, .int (iI v))]) C dX5_rule_37 rfl (by decide) rfl ?_
          refine r_aload_n C 1 dX5_rule_38 rfl rfl ?_
          refine r_getR C fl_X5_10 rfl dX5_rule_39 hF.1 hF.2 ?_
          refine r_getR C fl_X5_54 rfl dX5_rule_42 hS.1.1 hS.2.1.1 ?_
          refine r_iload_n C 2 dX5_rule_45 rfl rfl ?_
          refine r_iload_n C 3 dX5_rule_46 rfl rfl ?_
          refine c_iast C 1 kn ((3 + kn)) rfl (by decide) ln1 (ky_1 (by omega)) dX5_rule_47 hS.1.2.1 ⟨congrArg iI (by omega), (by omega), by decide⟩ (fun a47 ea47 => ?_)
          refine r_iload_n C 0 dX5_rule_48 rfl rfl ?_
          refine r_iret C hr hlk dX5_rule_49 (Nat.zero_le _) (Nat.zero_le _) ?_
          have hs : rulOK k v := by
            unfold rulOK
            omega
          refine ⟨_, rfl, rfl, _, a47, Or.inr ⟨hs, ?_, rfl⟩, ?_, rfl, rfl⟩
          · rw [ex37, show k.toNat = kn by omega]
          · rw [ea47, show k.toNat = kn by omega]
            exact hR.upN _ v (by omega) (by omega)
        · refine r_bipush (v := iI (-2)) C dX5_rule_25 (by decide) ?_
          refine r_iret C hr hlk dX5_rule_27 (Nat.zero_le _) (Nat.zero_le _) ?_
          have hns : ¬ rulOK k v := by
            intro h
            unfold rulOK at h
            omega
          exact ⟨_, rfl, rfl, a, X, Or.inl ⟨hns, rfl, rfl⟩, hR, rfl, rfl⟩
    · refine r_bipush (v := iI (-2)) C dX5_rule_9 (by decide) ?_
      refine r_iret C hr hlk dX5_rule_11 (Nat.zero_le _) (Nat.zero_le _) ?_
      have hns : ¬ rulOK k v := by
        intro h
        unfold rulOK at h
        omega
      exact ⟨_, rfl, rfl, a, X, Or.inl ⟨hns, rfl, rfl⟩, hR, rfl, rfl⟩
set_option maxHeartbeats 4000000 in
set_option maxRecDepth 20000 in
theorem k_X5_offer {l : Launch} {G : Gd} {base : Nat} {Y : MY} {I : MI} {L : ML} {B : Nat} {X : Sa} {a : Sa} {N T : Int} {F : Nat} {f n d : Int} (hS : SLy base Y B) (hI : Inv N T a) (hR : Rl true a X) (hF : FLn base Y F B) (hf0 : -2147483648 ≤ f ∧ f < 2147483648) (hn0 : -2147483648 ≤ n ∧ n < 2147483648) (hd0 : -2147483648 ≤ d ∧ d < 2147483648) (hN : NowOK a) : Ct l yX5_offer cX5_offer 4 (some .int) (rmz 3 70) G base [.ref F, .int (iI f), .int (iI n), .int (iI d)] Y (cI I B X) (cL L B X) (EI Y (fun r I' L' => ∃ a' X', (r = aOff a f n d ∧ a' = offA a f n d) ∧ Rl true a' X' ∧ I' = cI I B X' ∧ L' = cL L B X')) := by
  refine Ct.of (own := RX5) (lo := [(0, .ref F), (1, .int (iI f)), (2, .int (iI n)), (3, .int (iI d))]) (by decide) rfl (Nat.le_of_ble_eq_true rfl) rfl ?_
  intro zp ze zs zm zargs zbl zmt zc C hr hlk hnm
  have hT := hI.1
  unfold TopOK at hT
  refine r_aload_n C 0 dX5_offer_0 rfl rfl ?_
  refine r_getR C fl_X5_10 rfl dX5_offer_1 hF.1 hF.2 ?_
  refine r_iload_n C 1 dX5_offer_4 rfl rfl ?_
  refine cV1_PI C (k_X4_hasFlow hS (by omega) (show 0 ≤ X 2 ∧ X 2 ≤ 6 by rw [show X 2 = (a 2) from (hR.n 2 (by decide) (by decide))]; omega)) cw_X5_31 (rm_ok rfl rfl (Nat.zero_le _) (Nat.zero_le _)) (Nat.le_of_ble_eq_true rfl) hS.1.1 dX5_offer_5 ?_
  refine n_eqi (y := (b2 (0 ≤ f ∧ f < (a 2)))) (by rw [show X 2 = (a 2) from (hR.n 2 (by decide) (by decide))]) ?_
  refine n_if_ne (tgt := 13) C dX5_offer_8 (by decide) b2_i (fun c8 => ?_) (fun c8 => ?_)
  · rw [b2_eq0, Classical.not_not] at c8
    obtain ⟨fn, hfn⟩ := Int.eq_ofNat_of_zero_le (show 0 ≤ f by omega)
    have hfn2 : (fn : Int) < a 2 := by omega
    have hfn6 : fn < 6 := by omega
    have hrb := hasR_b a fn
    refine r_iload_n C 2 dX5_offer_13 rfl rfl ?_
    refine r_iconst (v := iI 1) C dX5_offer_14 rfl ?_
    refine n_icmp_lt (tgt := 36) C dX5_offer_15 (by decide) (by constructor <;> omega) ⟨by decide, by decide⟩ (fun c15 => ?_) (fun c15 => ?_)
    · refine r_bipush (v := iI (-2)) C dX5_offer_36 (by decide) ?_
      refine r_iret C hr hlk dX5_offer_38 (Nat.zero_le _) (Nat.zero_le _) ?_
      exact ⟨_, rfl, rfl, a, X, ⟨by unfold aOff; rw [if_neg (by omega), if_pos (by omega)], by unfold offA; rw [if_neg (by omega), if_pos (by omega)]⟩, hR, rfl, rfl⟩
    · refine r_iload_n C 2 dX5_offer_18 rfl rfl ?_
      refine r_sipush (v := iI 2000) C dX5_offer_19 (by decide) ?_
      refine n_icmp_gt (tgt := 36) C dX5_offer_22 (by decide) (by constructor <;> omega) ⟨by decide, by decide⟩ (fun c22 => ?_) (fun c22 => ?_)
      · refine r_bipush (v := iI (-2)) C dX5_offer_36 (by decide) ?_
        refine r_iret C hr hlk dX5_offer_38 (Nat.zero_le _) (Nat.zero_le _) ?_
        exact ⟨_, rfl, rfl, a, X, ⟨by unfold aOff; rw [if_neg (by omega), if_pos (by omega)], by unfold offA; rw [if_neg (by omega), if_pos (by omega)]⟩, hR, rfl, rfl⟩
      · refine r_iload_n C 3 dX5_offer_25 rfl rfl ?_
        refine n_if_lt (tgt := 36) C dX5_offer_26 (by decide) (by constructor <;> omega) (fun c26 => ?_) (fun c26 => ?_)
        · refine r_bipush (v := iI (-2)) C dX5_offer_36 (by decide) ?_
          refine r_iret C hr hlk dX5_offer_38 (Nat.zero_le _) (Nat.zero_le _) ?_
          exact ⟨_, rfl, rfl, a, X, ⟨by unfold aOff; rw [if_neg (by omega), if_pos (by omega)], by unfold offA; rw [if_neg (by omega), if_pos (by omega)]⟩, hR, rfl, rfl⟩
        · refine r_iload_n C 3 dX5_offer_29 rfl rfl ?_
          refine r_sipush (v := iI 9999) C dX5_offer_30 (by decide) ?_
          refine n_icmp_le (tgt := 39) C dX5_offer_33 (by decide) (by constructor <;> omega) ⟨by decide, by decide⟩ (fun c33 => ?_) (fun c33 => ?_)
          · refine r_aload_n C 0 dX5_offer_39 rfl rfl ?_
            refine r_getR C fl_X5_10 rfl dX5_offer_40 hF.1 hF.2 ?_
            refine r_iload_n C 1 dX5_offer_43 rfl rfl ?_
            refine cV1_PI C (k_X4_canAccept fn hS hI hR (by omega) hfn2) cw_X5_55 (rm_ok rfl rfl (Nat.zero_le _) (Nat.zero_le _)) (Nat.le_of_ble_eq_true rfl) hS.1.1 dX5_offer_44 ?_
            refine n_if_ne (tgt := 53) C dX5_offer_47 (by decide) (by constructor <;> omega) (fun c47 => ?_) (fun c47 => ?_)
            · refine r_aload_n C 0 dX5_offer_53 rfl rfl ?_
              refine r_getR C fl_X5_10 rfl dX5_offer_54 hF.1 hF.2 ?_
              refine r_iload_n C 1 dX5_offer_57 rfl rfl ?_
              refine r_iload_n C 2 dX5_offer_58 rfl rfl ?_
              refine r_iload_n C 3 dX5_offer_59 rfl rfl ?_
              refine cV3_EI C (k_X4_accept fn hS hI hR (by omega) hfn2 hN (by omega) (by omega) (by omega)) cw_X5_58 (rm_ok rfl rfl (Nat.zero_le _) (Nat.zero_le _)) (Nat.le_of_ble_eq_true rfl) hS.1.1 dX5_offer_60 (fun r60 I60 L60 h60 => ?_)
              obtain ⟨h60r, a60, h60R, h60k, h60I, h60L⟩ := h60
              subst h60I
              subst h60L
              subst h60r
              refine r_iret C hr hlk dX5_offer_63 (Nat.zero_le _) (Nat.zero_le _) ?_
              exact ⟨_, rfl, rfl, _, a60, ⟨by unfold aOff; rw [if_neg (by omega), if_neg (by omega), show f.toNat = fn by omega, if_neg (by omega)], by unfold offA; rw [if_neg (by omega), if_neg (by omega), show f.toNat = fn by omega, if_neg (by omega)]⟩, h60R, rfl, rfl⟩
            · refine r_bipush (v := iI (-4)) C dX5_offer_50 (by decide) ?_
              refine r_iret C hr hlk dX5_offer_52 (Nat.zero_le _) (Nat.zero_le _) ?_
              exact ⟨_, rfl, rfl, a, X, ⟨by unfold aOff; rw [if_neg (by omega), if_neg (by omega), show f.toNat = fn by omega, if_pos (by omega)], by unfold offA; rw [if_neg (by omega), if_neg (by omega), show f.toNat = fn by omega, if_pos (by omega)]⟩, hR, rfl, rfl⟩
          · refine r_bipush (v := iI (-2)) C dX5_offer_36 (by decide) ?_
            refine r_iret C hr hlk dX5_offer_38 (Nat.zero_le _) (Nat.zero_le _) ?_
            exact ⟨_, rfl, rfl, a, X, ⟨by unfold aOff; rw [if_neg (by omega), if_pos (by omega)], by unfold offA; rw [if_neg (by omega), if_pos (by omega)]⟩, hR, rfl, rfl⟩
  · refine r_iconst (v := iI (-1)) C dX5_offer_11 rfl ?_
    refine r_iret C hr hlk dX5_offer_12 (Nat.zero_le _) (Nat.zero_le _) ?_
    rw [b2_eq0] at c8
    exact ⟨_, rfl, rfl, a, X, ⟨by unfold aOff; rw [if_pos c8], by unfold offA; rw [if_pos c8]⟩, hR, rfl, rfl⟩
set_option maxHeartbeats 4000000 in
set_option maxRecDepth 20000 in
theorem k_X5_cancel {l : Launch} {G : Gd} {base : Nat} {Y : MY} {I : MI} {L : ML} {B : Nat} {X : Sa} {a : Sa} {N T : Int} {F : Nat} {p : Int} (hS : SLy base Y B) (hI : Inv N T a) (hR : Rl true a X) (hF : FLn base Y F B) (hp0 : -2147483648 ≤ p ∧ p < 2147483648) : Ct l yX5_cancel cX5_cancel 4 (some .int) (rmz 3 62) G base [.ref F, .int (iI p)] Y (cI I B X) (cL L B X) (EI Y (fun r I' L' => ∃ a' X', (r = aCan a p ∧ a' = canA a p) ∧ Rl true a' X' ∧ I' = cI I B X' ∧ L' = cL L B X')) := by
  refine Ct.of (own := RX5) (lo := [(0, .ref F), (1, .int (iI p))]) (by decide) rfl (Nat.le_of_ble_eq_true rfl) rfl ?_
  intro zp ze zs zm zargs zbl zmt zc C hr hlk hnm
  have hT := hI.1
  unfold TopOK at hT
  refine r_aload_n C 0 dX5_cancel_0 rfl rfl ?_
  refine r_getR C fl_X5_10 rfl dX5_cancel_1 hF.1 hF.2 ?_
  refine r_iload_n C 1 dX5_cancel_4 rfl rfl ?_
  refine cV1_PI C (k_X4_knowsPacket hS (by omega) (show 0 ≤ X 7 ∧ X 7 ≤ 400000 by rw [show X 7 = (a 7) from (hR.n 7 (by decide) (by decide))]; omega)) cw_X5_62 (rm_ok rfl rfl (Nat.zero_le _) (Nat.zero_le _)) (Nat.le_of_ble_eq_true rfl) hS.1.1 dX5_cancel_5 ?_
  refine n_eqi (y := (b2 (0 ≤ p ∧ p < (a 7) ∧ (a 7) - 120 ≤ p))) (by rw [show X 7 = (a 7) from (hR.n 7 (by decide) (by decide))]) ?_
  refine n_if_ne (tgt := 13) C dX5_cancel_8 (by decide) b2_i (fun c8 => ?_) (fun c8 => ?_)
  · rw [b2_eq0, Classical.not_not] at c8
    obtain ⟨pn, hpn⟩ := Int.eq_ofNat_of_zero_le (show 0 ≤ p by omega)
    have hk : old a ≤ pn ∧ (pn : Int) < a 7 := by unfold old; omega
    have hP := hI.2.2.1 pn hk.1 hk.2
    unfold PkOK at hP
    have hpn2 : p.toNat = pn := by omega
    obtain ⟨fn, hfa⟩ := Int.eq_ofNat_of_zero_le (show 0 ≤ a (125 + 11 * (pn % 120) + 0) by omega)
    have hfl : flP a pn = fn := flP_of hfa
    have hfn2 : (fn : Int) < a 2 := by omega
    have hfn6 : fn < 6 := by omega
    have hF2 := (hI.2.1 fn hfn2).1
    unfold FlowOK at hF2
    refine r_aload_n C 0 dX5_cancel_13 rfl rfl ?_
    refine r_getR C fl_X5_10 rfl dX5_cancel_14 hF.1 hF.2 ?_
    refine r_iload_n C 1 dX5_cancel_17 rfl rfl ?_
    refine cV1_PA C (k_X4_packetAt pn hS (by omega) (by omega)) cw_X5_65 (rm_ok rfl rfl (Nat.zero_le _) (Nat.zero_le _)) (Nat.le_of_ble_eq_true rfl) hS.1.1 dX5_cancel_18 ?_
    refine r_astore_n (lo' := [(2, .ref (B + (22 + (pn % 120)))), (0, .ref F), (1, .int (iI p))]) C dX5_cancel_21 rfl (by decide) rfl ?_
    refine r_aload_n C 0 dX5_cancel_22 rfl rfl ?_
    refine c_getI C (v := (a (125 + 11 * (pn % 120) + 4))) (22 + (pn % 120)) ((125 + 11 * (pn % 120) + 4)) rfl (oP m120) (lnP m120 (by decide)) (ky_P m120 4) fl_X5_69 rfl dX5_cancel_23 (hS.2.2.2.1 (pn % 120) m120).1 (hR.p hk (by decide)) ?_
    refine n_if_ne (tgt := 36) C dX5_cancel_26 (by decide) (by constructor <;> omega) (fun c26 => ?_) (fun c26 => ?_)
    · refine r_bipush (v := iI (-5)) C dX5_cancel_36 (by decide) ?_
      refine r_iret C hr hlk dX5_cancel_38 (Nat.zero_le _) (Nat.zero_le _) ?_
      exact ⟨_, rfl, rfl, a, X, ⟨by unfold aCan; rw [if_neg (by omega), hpn2, if_pos (by omega)], by unfold canA; rw [if_neg (by omega), hpn2, if_pos (by omega)]⟩, hR, rfl, rfl⟩
    · refine r_aload_n C 0 dX5_cancel_29 rfl rfl ?_
      refine c_getI C (v := (a (125 + 11 * (pn % 120) + 5))) (22 + (pn % 120)) ((125 + 11 * (pn % 120) + 5)) rfl (oP m120) (lnP m120 (by decide)) (ky_P m120 5) fl_X5_74 rfl dX5_cancel_30 (hS.2.2.2.1 (pn % 120) m120).1 (hR.p hk (by decide)) ?_
      refine n_if_le (tgt := 39) C dX5_cancel_33 (by decide) (by constructor <;> omega) (fun c33 => ?_) (fun c33 => ?_)
      · refine r_aload_n C 1 dX5_cancel_39 rfl rfl ?_
        refine r_getR C fl_X5_10 rfl dX5_cancel_40 hF.1 hF.2 ?_
        refine r_getR C fl_X5_42 rfl dX5_cancel_43 hS.1.1 hS.2.1.2.1 ?_
        refine r_aload_n C 0 dX5_cancel_46 rfl rfl ?_
        refine c_getI C (v := (a (125 + 11 * (pn % 120) + 0))) (22 + (pn % 120)) ((125 + 11 * (pn % 120) + 0)) rfl (oP m120) (lnP m120 (by decide)) (ky_P m120 0) fl_X5_77 rfl dX5_cancel_47 (hS.2.2.2.1 (pn % 120) m120).1 (hR.p hk (by decide)) ?_
        refine r_aald C (by decide) (by decide) fn dX5_cancel_50 hS.1.2.2.1 ⟨congrArg iI (by omega), (by omega), by decide⟩ (hS.2.2.1 fn hfn6).2.2.2.1 ?_
        refine r_astore_n (lo' := [(3, .ref (B + (3 + 3 * fn))), (2, .ref (B + (22 + (pn % 120)))), (0, .ref F), (1, .int (iI p))]) C dX5_cancel_51 rfl (by decide) rfl ?_
        refine r_aload_n C 1 dX5_cancel_52 rfl rfl ?_
        refine r_iconst (v := iI 4) C dX5_cancel_53 rfl ?_
        refine c_putI C (22 + (pn % 120)) ((125 + 11 * (pn % 120) + 4)) rfl (oP m120) (lnP m120 (by decide)) (ky_P m120 4) fl_X5_69 rfl dX5_cancel_54 (hS.2.2.2.1 (pn % 120) m120).1 (fun a54 ea54 => ?_)
        refine r_aload_n C 0 dX5_cancel_57 rfl rfl ?_
        refine r_iload_n C 3 dX5_cancel_58 rfl rfl ?_
        refine cV1_EV C (k_X0_leaveQueue fn (Qs a fn) pn hS hfn6 (by omega) (by omega) (show a54 (17 + 18 * fn + 17) = _ by rw [show a54 (17 + 18 * fn + 17) = (a (17 + 18 * fn + 17)) from (by rw [ea54, up1_n (xFP hfn6 (by decide))]; exact (hR.f hfn2 (fk_y (by decide) (by decide))))]; exact (hI.2.1 fn hfn2).2) (Inv.q20 hI fn hfn2) (fun i q hi => by have hil := (List.getElem?_eq_some_iff.mp hi).1; have h20 := Inv.q20 hI fn hfn2; rw [ea54, up1_n (by omega)]; exact hR.q hfn2 hi) (fun q hq => by have := (Qs_mem.mp hq).1.2; omega)) cw_X5_80 (rm_ok rfl rfl (Nat.zero_le _) (Nat.zero_le _)) (Nat.le_of_ble_eq_true rfl) (hS.2.2.1 fn hfn6).1 dX5_cancel_59 (fun I59 L59 h59 => ?_)
        obtain ⟨a59, hLv59, h59I, h59L⟩ := h59
        subst h59I
        subst h59L
        refine r_aload_n C 0 dX5_cancel_62 rfl rfl ?_
        refine c_getI C (v := (a59 (17 + 18 * fn + 17))) (3 + 3 * fn) ((17 + 18 * fn + 17)) rfl (oF hfn6) (lnF hfn6 (by decide)) (ky_F hfn6 2) fl_X5_84 rfl dX5_cancel_63 (hS.2.2.1 fn hfn6).1 rfl ?_
        refine r_iret C hr hlk dX5_cancel_66 (Nat.zero_le _) (Nat.zero_le _) ?_
        have hcs := fun (z : Sa) => z
        have hl := len_off (l := Qs a fn) ((knw_nd a).filter (isQ a fn)) (p := pn) (Qs_mem.mpr ⟨⟨hk.1, by omega⟩, hfa, by omega⟩)
        have h17 := (hI.2.1 fn hfn2).2
        have e17 : a59 (17 + 18 * fn + 17) = a (17 + 18 * fn + 17) - 1 := by rw [hLv59.2.1]; omega
        have hLx : Lvq X (up1 a59 (125 + 11 * (pn % 120) + 4) (X (125 + 11 * (pn % 120) + 4))) fn (Qs a fn) pn := by
          refine ⟨fun k k1 k2 => ?_, ?_, fun i q hq => ?_⟩
          · by_cases e : k = (125 + 11 * (pn % 120) + 4)
            · rw [e, up1_s]
            · rw [up1_n e, hLv59.1 k k1 k2, ea54, up1_n e]
          · rw [up1_n (by omega)]; exact hLv59.2.1
          · rw [up1_n (by omega)]; exact hLv59.2.2 i q hq
        have hRn := hR.lv (v := 4) (by omega) (by omega) hk hfa hfn2 (by omega) h17 (Inv.q20 hI) (by decide) (fun z => absurd z (by decide)) hLx
        rw [up1_u, up1_self (show (4 : Int) = a59 (125 + 11 * (pn % 120) + 4) by rw [hLv59.1 _ (by omega) (by omega), ea54, up1_s])] at hRn
        refine ⟨_, rfl, rfl, _, a59, ⟨?_, rfl⟩, ?_, rfl, rfl⟩
        · unfold aCan
          rw [if_neg (by omega), hpn2, if_neg (by omega), hfl]
          exact e17
        · unfold canA
          rw [if_neg (by omega), hpn2, if_neg (by omega)]
          unfold canc
          rw [hfl, up1_c (by omega)]
          exact hRn
      · refine r_bipush (v := iI (-5)) C dX5_cancel_36 (by decide) ?_
        refine r_iret C hr hlk dX5_cancel_38 (Nat.zero_le _) (Nat.zero_le _) ?_
        exact ⟨_, rfl, rfl, a, X, ⟨by unfold aCan; rw [if_neg (by omega), hpn2, if_pos (by omega)], by unfold canA; rw [if_neg (by omega), hpn2, if_pos (by omega)]⟩, hR, rfl, rfl⟩
  · refine r_iconst (v := iI (-1)) C dX5_cancel_11 rfl ?_
    refine r_iret C hr hlk dX5_cancel_12 (Nat.zero_le _) (Nat.zero_le _) ?_
    rw [b2_eq0] at c8
    exact ⟨_, rfl, rfl, a, X, ⟨by unfold aCan; rw [if_pos c8], by unfold canA; rw [if_pos c8]⟩, hR, rfl, rfl⟩
set_option maxHeartbeats 4000000 in
set_option maxRecDepth 20000 in
theorem k_X5_packet {l : Launch} {G : Gd} {base : Nat} {Y : MY} {I : MI} {L : ML} {B : Nat} {X : Sa} {a : Sa} {N T : Int} {F : Nat} {p w : Int} (hS : SLy base Y B) (hI : Inv N T a) (hR : Rl true a X) (hF : FLn base Y F B) (hp0 : -2147483648 ≤ p ∧ p < 2147483648) (hw0 : -2147483648 ≤ w ∧ w < 2147483648) : Ct l yX5_packet cX5_packet 4 (some .int) (rmz 3 64) G base [.ref F, .int (iI p), .int (iI w)] Y (cI I B X) (cL L B X) (PI (aPkt a p w) Y (cI I B X) (cL L B X)) := by
  refine Ct.of (own := RX5) (lo := [(0, .ref F), (1, .int (iI p)), (2, .int (iI w))]) (by decide) rfl (Nat.le_of_ble_eq_true rfl) rfl ?_
  intro zp ze zs zm zargs zbl zmt zc C hr hlk hnm
  have hT := hI.1
  unfold TopOK at hT
  refine r_aload_n C 0 dX5_packet_0 rfl rfl ?_
  refine r_getR C fl_X5_10 rfl dX5_packet_1 hF.1 hF.2 ?_
  refine r_iload_n C 1 dX5_packet_4 rfl rfl ?_
  refine cV1_PI C (k_X4_knowsPacket hS (by omega) (show 0 ≤ X 7 ∧ X 7 ≤ 400000 by rw [show X 7 = (a 7) from (hR.n 7 (by decide) (by decide))]; omega)) cw_X5_62 (rm_ok rfl rfl (Nat.zero_le _) (Nat.zero_le _)) (Nat.le_of_ble_eq_true rfl) hS.1.1 dX5_packet_5 ?_
  refine n_eqi (y := (b2 (0 ≤ p ∧ p < (a 7) ∧ (a 7) - 120 ≤ p))) (by rw [show X 7 = (a 7) from (hR.n 7 (by decide) (by decide))]) ?_
  refine n_if_ne (tgt := 13) C dX5_packet_8 (by decide) b2_i (fun c8 => ?_) (fun c8 => ?_)
  · rw [b2_eq0, Classical.not_not] at c8
    obtain ⟨pn, hpn⟩ := Int.eq_ofNat_of_zero_le (show 0 ≤ p by omega)
    have hk : old a ≤ pn ∧ (pn : Int) < a 7 := by unfold old; omega
    have hP := hI.2.2.1 pn hk.1 hk.2
    unfold PkOK at hP
    have hpn2 : p.toNat = pn := by omega
    refine r_aload_n C 0 dX5_packet_13 rfl rfl ?_
    refine r_getR C fl_X5_10 rfl dX5_packet_14 hF.1 hF.2 ?_
    refine r_iload_n C 1 dX5_packet_17 rfl rfl ?_
    refine cV1_PA C (k_X4_packetAt pn hS (by omega) (by omega)) cw_X5_65 (rm_ok rfl rfl (Nat.zero_le _) (Nat.zero_le _)) (Nat.le_of_ble_eq_true rfl) hS.1.1 dX5_packet_18 ?_
    refine r_astore_n (lo' := [(3, .ref (B + (22 + (pn % 120)))), (0, .ref F), (1, .int (iI p)), (2, .int (iI w))]) C dX5_packet_21 rfl (by decide) rfl ?_
    refine r_iload_n C 3 dX5_packet_22 rfl rfl ?_
    rcases sw_split (x := w) (lw := 0) (n := 10) (by constructor <;> omega) with c23 | ⟨j23, c23, q23⟩
    · refine r_tableOut (tgt := 145) C dX5_packet_23 (by first | exact c23 | exact c23.imp id id) (by decide) ?_
      have k23 := c23
      rw [iI_toInt (by omega) (by omega)] at k23
      refine r_bipush (v := iI (-2)) C dX5_packet_145 (by decide) ?_
      refine r_iret C hr hlk dX5_packet_147 (Nat.zero_le _) (Nat.zero_le _) ?_
      exact ⟨congrArg (fun z => some (Value.int (iI z))) (by unfold aPkt; rw [if_neg (by omega), if_pos (by omega)]), rfl, rfl, rfl⟩
    · match j23, c23, q23 with
      | 0, c23, q23 =>
        refine n_eqi (y := 0) q23 ?_
        refine r_tableIn (tgt := 76) C dX5_packet_23 (by decide) (by decide) (off := 53) (by decide) (by decide) ?_
        refine r_aload_n C 0 dX5_packet_76 rfl rfl ?_
        refine c_getI C (v := (a (125 + 11 * (pn % 120) + 0))) (22 + (pn % 120)) ((125 + 11 * (pn % 120) + 0)) rfl (oP m120) (lnP m120 (by decide)) (ky_P m120 0) fl_X5_77 rfl dX5_packet_77 (hS.2.2.2.1 (pn % 120) m120).1 (hR.p hk (by decide)) ?_
        refine r_iret C hr hlk dX5_packet_80 (Nat.zero_le _) (Nat.zero_le _) ?_
        exact ⟨congrArg (fun z => some (Value.int (iI z))) (by unfold aPkt; rw [if_neg (by omega), if_neg (by omega), if_pos (by omega), hpn2, show w.toNat = 0 by omega]), rfl, rfl, rfl⟩
      | 1, c23, q23 =>
        refine n_eqi (y := 1) q23 ?_
        refine r_tableIn (tgt := 81) C dX5_packet_23 (by decide) (by decide) (off := 58) (by decide) (by decide) ?_
        refine r_aload_n C 0 dX5_packet_81 rfl rfl ?_
        refine c_getI C (v := (a (125 + 11 * (pn % 120) + 1))) (22 + (pn % 120)) ((125 + 11 * (pn % 120) + 1)) rfl (oP m120) (lnP m120 (by decide)) (ky_P m120 1) fl_X5_87 rfl dX5_packet_82 (hS.2.2.2.1 (pn % 120) m120).1 (hR.p hk (by decide)) ?_
        refine r_iret C hr hlk dX5_packet_85 (Nat.zero_le _) (Nat.zero_le _) ?_
        exact ⟨congrArg (fun z => some (Value.int (iI z))) (by unfold aPkt; rw [if_neg (by omega), if_neg (by omega), if_pos (by omega), hpn2, show w.toNat = 1 by omega]), rfl, rfl, rfl⟩
      | 2, c23, q23 =>
        refine n_eqi (y := 2) q23 ?_
        refine r_tableIn (tgt := 86) C dX5_packet_23 (by decide) (by decide) (off := 63) (by decide) (by decide) ?_
        refine r_aload_n C 0 dX5_packet_86 rfl rfl ?_
        refine c_getI C (v := (a (125 + 11 * (pn % 120) + 2))) (22 + (pn % 120)) ((125 + 11 * (pn % 120) + 2)) rfl (oP m120) (lnP m120 (by decide)) (ky_P m120 2) fl_X5_90 rfl dX5_packet_87 (hS.2.2.2.1 (pn % 120) m120).1 (hR.p hk (by decide)) ?_
        refine r_iret C hr hlk dX5_packet_90 (Nat.zero_le _) (Nat.zero_le _) ?_
        exact ⟨congrArg (fun z => some (Value.int (iI z))) (by unfold aPkt; rw [if_neg (by omega), if_neg (by omega), if_pos (by omega), hpn2, show w.toNat = 2 by omega]), rfl, rfl, rfl⟩
      | 3, c23, q23 =>
        refine n_eqi (y := 3) q23 ?_
        refine r_tableIn (tgt := 91) C dX5_packet_23 (by decide) (by decide) (off := 68) (by decide) (by decide) ?_
        refine r_aload_n C 0 dX5_packet_91 rfl rfl ?_
        refine c_getI C (v := (a (125 + 11 * (pn % 120) + 3))) (22 + (pn % 120)) ((125 + 11 * (pn % 120) + 3)) rfl (oP m120) (lnP m120 (by decide)) (ky_P m120 3) fl_X5_93 rfl dX5_packet_92 (hS.2.2.2.1 (pn % 120) m120).1 (hR.p hk (by decide)) ?_
        refine r_iret C hr hlk dX5_packet_95 (Nat.zero_le _) (Nat.zero_le _) ?_
        exact ⟨congrArg (fun z => some (Value.int (iI z))) (by unfold aPkt; rw [if_neg (by omega), if_neg (by omega), if_pos (by omega), hpn2, show w.toNat = 3 by omega]), rfl, rfl, rfl⟩
      | 4, c23, q23 =>
        refine n_eqi (y := 4) q23 ?_
        refine r_tableIn (tgt := 96) C dX5_packet_23 (by decide) (by decide) (off := 73) (by decide) (by decide) ?_
        refine r_aload_n C 0 dX5_packet_96 rfl rfl ?_
        refine c_getI C (v := (a (125 + 11 * (pn % 120) + 4))) (22 + (pn % 120)) ((125 + 11 * (pn % 120) + 4)) rfl (oP m120) (lnP m120 (by decide)) (ky_P m120 4) fl_X5_69 rfl dX5_packet_97 (hS.2.2.2.1 (pn % 120) m120).1 (hR.p hk (by decide)) ?_
        refine r_iret C hr hlk dX5_packet_100 (Nat.zero_le _) (Nat.zero_le _) ?_
        exact ⟨congrArg (fun z => some (Value.int (iI z))) (by unfold aPkt; rw [if_neg (by omega), if_neg (by omega), if_pos (by omega), hpn2, show w.toNat = 4 by omega]), rfl, rfl, rfl⟩
      | 5, c23, q23 =>
        refine n_eqi (y := 5) q23 ?_
        refine r_tableIn (tgt := 101) C dX5_packet_23 (by decide) (by decide) (off := 78) (by decide) (by decide) ?_
        refine r_aload_n C 0 dX5_packet_101 rfl rfl ?_
        refine c_getI C (v := (a (125 + 11 * (pn % 120) + 5))) (22 + (pn % 120)) ((125 + 11 * (pn % 120) + 5)) rfl (oP m120) (lnP m120 (by decide)) (ky_P m120 5) fl_X5_74 rfl dX5_packet_102 (hS.2.2.2.1 (pn % 120) m120).1 (hR.p hk (by decide)) ?_
        refine r_iret C hr hlk dX5_packet_105 (Nat.zero_le _) (Nat.zero_le _) ?_
        exact ⟨congrArg (fun z => some (Value.int (iI z))) (by unfold aPkt; rw [if_neg (by omega), if_neg (by omega), if_pos (by omega), hpn2, show w.toNat = 5 by omega]), rfl, rfl, rfl⟩
      | 6, c23, q23 =>
        refine n_eqi (y := 6) q23 ?_
        refine r_tableIn (tgt := 106) C dX5_packet_23 (by decide) (by decide) (off := 83) (by decide) (by decide) ?_
        refine r_aload_n C 0 dX5_packet_106 rfl rfl ?_
        refine c_getI C (v := (a (125 + 11 * (pn % 120) + 6))) (22 + (pn % 120)) ((125 + 11 * (pn % 120) + 6)) rfl (oP m120) (lnP m120 (by decide)) (ky_P m120 6) fl_X5_96 rfl dX5_packet_107 (hS.2.2.2.1 (pn % 120) m120).1 (hR.p hk (by decide)) ?_
        refine r_iret C hr hlk dX5_packet_110 (Nat.zero_le _) (Nat.zero_le _) ?_
        exact ⟨congrArg (fun z => some (Value.int (iI z))) (by unfold aPkt; rw [if_neg (by omega), if_neg (by omega), if_pos (by omega), hpn2, show w.toNat = 6 by omega]), rfl, rfl, rfl⟩
      | 7, c23, q23 =>
        refine n_eqi (y := 7) q23 ?_
        refine r_tableIn (tgt := 111) C dX5_packet_23 (by decide) (by decide) (off := 88) (by decide) (by decide) ?_
        refine r_aload_n C 0 dX5_packet_111 rfl rfl ?_
        refine c_getI C (v := (a (125 + 11 * (pn % 120) + 7))) (22 + (pn % 120)) ((125 + 11 * (pn % 120) + 7)) rfl (oP m120) (lnP m120 (by decide)) (ky_P m120 7) fl_X5_99 rfl dX5_packet_112 (hS.2.2.2.1 (pn % 120) m120).1 (hR.p hk (by decide)) ?_
        refine r_iret C hr hlk dX5_packet_115 (Nat.zero_le _) (Nat.zero_le _) ?_
        exact ⟨congrArg (fun z => some (Value.int (iI z))) (by unfold aPkt; rw [if_neg (by omega), if_neg (by omega), if_pos (by omega), hpn2, show w.toNat = 7 by omega]), rfl, rfl, rfl⟩
      | 8, c23, q23 =>
        refine n_eqi (y := 8) q23 ?_
        refine r_tableIn (tgt := 116) C dX5_packet_23 (by decide) (by decide) (off := 93) (by decide) (by decide) ?_
        refine r_aload_n C 0 dX5_packet_116 rfl rfl ?_
        refine c_getI C (v := (a (125 + 11 * (pn % 120) + 8))) (22 + (pn % 120)) ((125 + 11 * (pn % 120) + 8)) rfl (oP m120) (lnP m120 (by decide)) (ky_P m120 9) fl_X5_102 rfl dX5_packet_117 (hS.2.2.2.1 (pn % 120) m120).1 (hR.p hk (by decide)) ?_
        refine r_iret C hr hlk dX5_packet_120 (Nat.zero_le _) (Nat.zero_le _) ?_
        exact ⟨congrArg (fun z => some (Value.int (iI z))) (by unfold aPkt; rw [if_neg (by omega), if_neg (by omega), if_pos (by omega), hpn2, show w.toNat = 8 by omega]), rfl, rfl, rfl⟩
      | 9, c23, q23 =>
        refine n_eqi (y := 9) q23 ?_
        refine r_tableIn (tgt := 121) C dX5_packet_23 (by decide) (by decide) (off := 98) (by decide) (by decide) ?_
        refine r_aload_n C 0 dX5_packet_121 rfl rfl ?_
        refine cV0_PI C (k_X1_isQueued (pn % 120) hS m120 (show 0 ≤ X (125 + 11 * (pn % 120) + 4) ∧ X (125 + 11 * (pn % 120) + 4) ≤ 4 by rw [show X (125 + 11 * (pn % 120) + 4) = (a (125 + 11 * (pn % 120) + 4)) from (hR.p hk (by decide))]; omega)) cw_X5_105 (rm_ok rfl rfl (Nat.zero_le _) (Nat.zero_le _)) (Nat.le_of_ble_eq_true rfl) (hS.2.2.2.1 (pn % 120) m120).1 dX5_packet_122 ?_
        refine n_eqi (y := (b2 ((a (125 + 11 * (pn % 120) + 4)) ≤ 1))) (by rw [show X (125 + 11 * (pn % 120) + 4) = (a (125 + 11 * (pn % 120) + 4)) from (hR.p hk (by decide))]) ?_
        refine n_if_eq (tgt := 143) C dX5_packet_125 (by decide) b2_i (fun c125 => ?_) (fun c125 => ?_)
        · refine r_iconst (v := iI 0) C dX5_packet_143 rfl ?_
          refine r_iret C hr hlk dX5_packet_144 (Nat.zero_le _) (Nat.zero_le _) ?_
          simp only [b2_eq0] at c125
          have hu := urg_b a pn
          exact ⟨congrArg (fun z => some (Value.int (iI z))) (by unfold aPkt; rw [if_neg (by omega), if_neg (by omega), if_neg (by omega), hpn2]; split <;> omega), rfl, rfl, rfl⟩
        · refine r_aload_n C 1 dX5_packet_128 rfl rfl ?_
          refine r_getR C fl_X5_10 rfl dX5_packet_129 hF.1 hF.2 ?_
          refine r_aload_n C 0 dX5_packet_132 rfl rfl ?_
          refine cV1_PI C (k_X4_isUrgent pn hS hI hR hk) cw_X5_109 (rm_ok rfl rfl (Nat.zero_le _) (Nat.zero_le _)) (Nat.le_of_ble_eq_true rfl) hS.1.1 dX5_packet_133 ?_
          refine n_if_eq (tgt := 143) C dX5_packet_136 (by decide) (by rcases urg_b a pn with h | h <;> constructor <;> omega) (fun c136 => ?_) (fun c136 => ?_)
          · refine r_iconst (v := iI 0) C dX5_packet_143 rfl ?_
            refine r_iret C hr hlk dX5_packet_144 (Nat.zero_le _) (Nat.zero_le _) ?_
            simp only [b2_eq0] at c125
            have hu := urg_b a pn
            exact ⟨congrArg (fun z => some (Value.int (iI z))) (by unfold aPkt; rw [if_neg (by omega), if_neg (by omega), if_neg (by omega), hpn2]; split <;> omega), rfl, rfl, rfl⟩
          · refine r_iconst (v := iI 1) C dX5_packet_139 rfl ?_
            refine r_goto (tgt := 144) C dX5_packet_140 (by decide) ?_
            refine r_iret C hr hlk dX5_packet_144 (Nat.zero_le _) (Nat.zero_le _) ?_
            simp only [b2_eq0] at c125
            have hu := urg_b a pn
            exact ⟨congrArg (fun z => some (Value.int (iI z))) (by unfold aPkt; rw [if_neg (by omega), if_neg (by omega), if_neg (by omega), hpn2]; split <;> omega), rfl, rfl, rfl⟩
      | j + 10, c23, q23 => exact absurd c23 (by omega)
  · refine r_iconst (v := iI (-1)) C dX5_packet_11 rfl ?_
    refine r_iret C hr hlk dX5_packet_12 (Nat.zero_le _) (Nat.zero_le _) ?_
    rw [b2_eq0] at c8
    exact ⟨congrArg (fun z => some (Value.int (iI z))) (by unfold aPkt; rw [if_pos c8]), rfl, rfl, rfl⟩
set_option maxHeartbeats 4000000 in
set_option maxRecDepth 20000 in
theorem k_X5_start {l : Launch} {G : Gd} {base : Nat} {Y : MY} {I : MI} {L : ML} {B : Nat} {X : Sa} {a : Sa} {N T : Int} {F : Nat} {p : Int} (hS : SLy base Y B) (hI : Inv N T a) (hR : Rl true a X) (hF : FLn base Y F B) (hp0 : -2147483648 ≤ p ∧ p < 2147483648) : Ct l yX5_start cX5_start 2 (some .long) (rmz 3 62) G base [.ref F, .int (iI p)] Y (cI I B X) (cL L B X) (PL (aSta a p) Y (cI I B X) (cL L B X)) := by
  refine Ct.of (own := RX5) (lo := [(0, .ref F), (1, .int (iI p))]) (by decide) rfl (Nat.le_of_ble_eq_true rfl) rfl ?_
  intro zp ze zs zm zargs zbl zmt zc C hr hlk hnm
  have hT := hI.1
  unfold TopOK at hT
  refine r_aload_n C 0 dX5_start_0 rfl rfl ?_
  refine r_getR C fl_X5_10 rfl dX5_start_1 hF.1 hF.2 ?_
  refine r_iload_n C 1 dX5_start_4 rfl rfl ?_
  refine cV1_PI C (k_X4_knowsPacket hS (by omega) (show 0 ≤ X 7 ∧ X 7 ≤ 400000 by rw [show X 7 = (a 7) from (hR.n 7 (by decide) (by decide))]; omega)) cw_X5_62 (rm_ok rfl rfl (Nat.zero_le _) (Nat.zero_le _)) (Nat.le_of_ble_eq_true rfl) hS.1.1 dX5_start_5 ?_
  refine n_eqi (y := (b2 (0 ≤ p ∧ p < (a 7) ∧ (a 7) - 120 ≤ p))) (by rw [show X 7 = (a 7) from (hR.n 7 (by decide) (by decide))]) ?_
  refine n_if_ne (tgt := 15) C dX5_start_8 (by decide) b2_i (fun c8 => ?_) (fun c8 => ?_)
  · rw [b2_eq0, Classical.not_not] at c8
    obtain ⟨pn, hpn⟩ := Int.eq_ofNat_of_zero_le (show 0 ≤ p by omega)
    have hk : old a ≤ pn ∧ (pn : Int) < a 7 := by unfold old; omega
    have hP := hI.2.2.1 pn hk.1 hk.2
    unfold PkOK at hP
    have hpn2 : p.toNat = pn := by omega
    refine r_aload_n C 0 dX5_start_15 rfl rfl ?_
    refine r_getR C fl_X5_10 rfl dX5_start_16 hF.1 hF.2 ?_
    refine r_iload_n C 1 dX5_start_19 rfl rfl ?_
    refine cV1_PA C (k_X4_packetAt pn hS (by omega) (by omega)) cw_X5_65 (rm_ok rfl rfl (Nat.zero_le _) (Nat.zero_le _)) (Nat.le_of_ble_eq_true rfl) hS.1.1 dX5_start_20 ?_
    refine c_getL C (v := (a (125 + 11 * (pn % 120) + 9))) (22 + (pn % 120)) ((125 + 11 * (pn % 120) + 9)) rfl (oP m120) (lnPy m120) (ky_P m120 10) fl_X5_115 rfl dX5_start_23 (hS.2.2.2.1 (pn % 120) m120).1 (hR.p hk (by decide)) ?_
    refine r_lret C hr hlk dX5_start_26 (Nat.zero_le _) (Nat.zero_le _) ?_
    exact ⟨congrArg (fun z => some (Value.long (lI z))) (by unfold aSta; rw [if_pos (by omega), hpn2]), rfl, rfl, rfl⟩
  · refine n_ldc2 (v := (-1000000000000000001)) C lc_X5_113 (by decide) dX5_start_11 ?_
    refine r_lret C hr hlk dX5_start_14 (Nat.zero_le _) (Nat.zero_le _) ?_
    rw [b2_eq0] at c8
    exact ⟨congrArg (fun z => some (Value.long (lI z))) (by unfold aSta; rw [if_neg c8]), rfl, rfl, rfl⟩
