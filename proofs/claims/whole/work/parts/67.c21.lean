/-- the row that a memory has -/
noncomputable def mkX (I : MI) (L : ML) (B : Nat) : Sa := fun q =>
  @ite _ ((yek q).1 < 206 ∧ key (yek q).1 (yek q).2 = q) (Classical.propDecidable _)
    (@ite _ (lng (yek q).1 (yek q).2) (Classical.propDecidable _) (L (B + (yek q).1) (yek q).2).toInt (I (B + (yek q).1) (yek q).2).toInt)
    (@ite _ (lng (((q - 3001) / 2) % 206) (((q - 3001) / 2) / 206)) (Classical.propDecidable _) (I (B + ((q - 3001) / 2) % 206) (((q - 3001) / 2) / 206)).toInt (L (B + ((q - 3001) / 2) % 206) (((q - 3001) / 2) / 206)).toInt)
theorem mk_i {I : MI} {L : ML} {B o k : Nat} (ho : o < 206) (hl : ¬ lng o k) : mkX I L B (key o k) = (I (B + o) k).toInt := by
  unfold mkX
  rw [yek_key ho k, @if_pos _ (Classical.propDecidable _) ⟨ho, rfl⟩, @if_neg _ (Classical.propDecidable _) hl]
theorem mk_l {I : MI} {L : ML} {B o k : Nat} (ho : o < 206) (hl : lng o k) : mkX I L B (key o k) = (L (B + o) k).toInt := by
  unfold mkX
  rw [yek_key ho k, @if_pos _ (Classical.propDecidable _) ⟨ho, rfl⟩, @if_pos _ (Classical.propDecidable _) hl]
theorem mk_j {I : MI} {L : ML} {B o k : Nat} (ho : o < 206) : mkX I L B (jk2 o k) = @ite _ (lng o k) (Classical.propDecidable _) (I (B + o) k).toInt (L (B + o) k).toInt := by
  unfold mkX
  rw [@if_neg _ (Classical.propDecidable _) (fun z => key_j2 z.1 _ o k z.2.symm)]
  have e : jk2 o k = 3001 + 2 * (206 * k + o) := rfl
  have e1 : ((jk2 o k - 3001) / 2) % 206 = o := by omega
  have e2 : ((jk2 o k - 3001) / 2) / 206 = k := by omega
  rw [e1, e2]
theorem mk_I {I : MI} {L : ML} {B : Nat} : I = cI I B (mkX I L B) := by
  funext x k
  unfold cI mI
  split
  · rename_i h
    dsimp only
    obtain ⟨o, ho, rfl⟩ : ∃ o, o < 206 ∧ x = B + o := ⟨x - B, by omega, by omega⟩
    rw [show B + o - B = o by omega]
    by_cases hl : lng o k
    · rw [bI_y hl, mk_j ho, @if_pos _ (Classical.propDecidable _) hl]; exact iI_of _
    · rw [bI_n hl, mk_i ho hl]; exact iI_of _
  · rfl
theorem mk_L {I : MI} {L : ML} {B : Nat} : L = cL L B (mkX I L B) := by
  funext x k
  unfold cL mL
  split
  · rename_i h
    dsimp only
    obtain ⟨o, ho, rfl⟩ : ∃ o, o < 206 ∧ x = B + o := ⟨x - B, by omega, by omega⟩
    rw [show B + o - B = o by omega]
    by_cases hl : lng o k
    · rw [dL_y hl, mk_l ho hl]; exact lI_of _
    · rw [dL_n hl, mk_j ho, @if_neg _ (Classical.propDecidable _) hl]; exact lI_of _
  · rfl
/-- the row of a new State -/
theorem ini_R {I : MI} {L : ML} {B : Nat} (hB : ∀ k, k ≠ 13 → I B k = 0) (hL : L B 14 = 0) (h1 : ∀ k, I (B + 1) k = (scl 4).getD k 0) (hc0 : I (B + 203) 0 = iI (-6)) (hc2 : I (B + 203) 2 = iI 0) (hc4 : I (B + 203) 4 = iI 0) (hc6 : I (B + 203) 6 = iI 0) (hp : I (B + 204) 1 = 0) (ht : ∀ k, I (B + 205) k = 0) : Rl true ini (mkX I L B) := by
  have e0 : ∀ k, k ≠ 13 → k ≠ 14 → mkX I L B (key 0 k) = 0 := fun k h13 h14 => by
    rw [mk_i (by decide) (lnS h14), Nat.add_zero, hB k h13]; rfl
  have e1 : ∀ k, mkX I L B (key 1 k) = ((scl 4).getD k 0).toInt := fun k => by rw [mk_i (by decide) ln1, h1]
  have ec : ∀ k v, I (B + 203) k = iI v → mkX I L B (key 203 k) = (iI v).toInt := fun k v h => by rw [mk_i (by decide) ln203, h]
  have z2 : ini 2 = 0 := rfl
  have z7 : ini 7 = 0 := rfl
  have z8 : ini 8 = -6 := rfl
  have z15 : ini 15 = 0 := rfl
  refine ⟨fun k k1 k2 => ?_, fun f hf => absurd hf (by omega), fun p p1 p2 => absurd p2 (by omega), fun r r1 r2 => absurd r2 (by omega), fun k k1 k2 => ?_, fun f hf => absurd hf (by omega), fun p hp8 => absurd hp8 (by omega)⟩
  · have h : k = 0 ∨ k = 1 ∨ k = 2 ∨ k = 3 ∨ k = 4 ∨ k = 5 ∨ k = 6 ∨ k = 7 ∨ k = 8 ∨ k = 9 ∨ k = 10 ∨ k = 11 ∨ k = 13 ∨ k = 14 ∨ k = 15 ∨ k = 16 := by omega
    rcases h with rfl | rfl | rfl | rfl | rfl | rfl | rfl | rfl | rfl | rfl | rfl | rfl | rfl | rfl | rfl | rfl
    · exact e0 6 (by decide) (by decide)
    · show mkX I L B (key 0 14) = _
      rw [mk_l (by decide) lnSy, Nat.add_zero, hL]; rfl
    · exact e0 7 (by decide) (by decide)
    · exact e1 0
    · exact e1 1
    · exact e1 2
    · exact e1 3
    · exact e0 8 (by decide) (by decide)
    · exact ec 0 (-6) hc0
    · exact ec 2 0 hc2
    · exact ec 4 0 hc4
    · exact ec 6 0 hc6
    · exact e0 10 (by decide) (by decide)
    · exact e0 11 (by decide) (by decide)
    · exact e0 9 (by decide) (by decide)
    · exact e0 12 (by decide) (by decide)
  · have zk : ini k = 0 := by
      unfold ini
      rw [up1_n (by omega), up1_n (by omega), up1_n (by omega), up1_n (by omega), up1_n (by omega)]
    rw [zk]
    by_cases e : k = 1825
    · subst e
      show mkX I L B (key 204 1) = _
      rw [mk_i (by decide) ln204, hp]; rfl
    · obtain ⟨i, hi, rfl⟩ : ∃ i, i < 80 ∧ k = 1745 + i := ⟨k - 1745, by omega, by omega⟩
      rw [← ky_T hi, mk_i (by decide) ln205, ht]; rfl
set_option maxHeartbeats 4000000 in
set_option maxRecDepth 20000 in
theorem k_X4_init {l : Launch} {G : Gd} {base : Nat} {Y : MY} {I : MI} {L : ML} {B : Nat} (h0 : Is base Y B (.inl 4)) (hY : base + Y.1 = B + 1) (iB : I B = fun _ => 0) (lB : L B = fun _ => 0) : Ct l yX4_init cX4_init 2 none { frames := 3, cells := 205, slots := 2264, locals := 200 } G base [.ref B] Y I L (fun v Y' I' L' => v = none ∧ SLy base Y' B ∧ Y'.1 = Y.1 + 205 ∧ Sm B Y I L Y' I' L' ∧ ∃ X, I' = cI I' B X ∧ L' = cL L' B X ∧ Rl true ini X) := by
  refine Ct.of (own := RX4) (lo := [(0, .ref B)]) (by decide) rfl (Nat.le_of_ble_eq_true rfl) rfl ?_
  intro zp ze zs zm zargs zbl zmt zc C hr hlk hnm
  have hY0 := hY
  have hsm : Sm B Y I L Y I L := Sm.rf
  refine r_aload_n C 0 dX4_init_0 rfl rfl ?_
  refine r_oinit C wo_X4_3 dX4_init_1 (Nat.le_of_ble_eq_true rfl) (Nat.le_of_ble_eq_true rfl) ?_
  refine r_aload_n C 0 dX4_init_4 rfl rfl ?_
  refine r_getsN C (j := 4) (by decide) (fun U h => h.2.2.2.1) dX4_init_5 ?_
  refine r_tlen (v := iI 4) C (j := 4) (by decide) rfl dX4_init_8 ?_
  refine m_newa (t := 0) (n := 4) C (by decide) rfl wa_0 rfl (by decide) (Nat.le_of_ble_eq_true rfl) (Nat.le_of_ble_eq_true rfl) dX4_init_9 (fun x9 Y9 I9 L9 n9 eI9 eL9 => ?_)
  have ex9 : x9 = B + 1 := by have := n9.1; omega
  subst ex9
  replace h0 : Is base Y9 (B) (.inl 4) := (n9.keep h0)
  replace hY : base + Y9.1 = B + 1 + 1 := (by rw [n9.2.1]; omega)
  replace hsm : Sm B Y I L Y9 I9 L9 := (hsm.tr (Sm.nw n9 eI9 eL9) (by omega))
  replace iB : I9 (B) = fun _ => 0 := (by rw [eI9, up1_n (by omega)] <;> exact iB)
  replace lB : L9 (B) = fun _ => 0 := (by rw [eL9, up1_n (by omega)]; exact lB)
  have hz9 : I9 (B + 1) = fun _ => 0 := by rw [eI9, up1_s]
  have hl9 : L9 (B + 1) = fun _ => 0 := by rw [eL9, up1_s]
  have hr9 : ∀ k, Y9.2.2 (B + 1) k = none := fun k => by rw [n9.2.2.2, up1_s]
  have s1 : Is base Y9 (B + 1) (.inr (0, 4)) := n9.is
  refine m_putRF C fl_X4_13 rfl dX4_init_11 h0 (hnm.trans rfl) rfl (fun Y11 p11 => ?_)
  replace h0 : Is base Y11 (B) (.inl 4) := (p11.keep h0)
  replace hY : base + Y11.1 = B + 1 + 1 := (by rw [p11.n]; exact hY)
  replace hsm : Sm B Y I L Y11 I9 L9 := (hsm.tr (Sm.pr p11 (by omega)) (Nat.le_refl _))
  replace iB : I9 (B) = fun _ => 0 := iB
  replace lB : L9 (B) = fun _ => 0 := lB
  replace s1 : Is base Y11 (B + 1) (.inr (0, 4)) := (p11.keep s1)
  have r0 : Y11.2.2 B 0 = some (B + 1) := p11.at
  refine r_getsN C (j := 4) (by decide) (fun U h => h.2.2.2.1) dX4_init_14 ?_
  refine r_iconst (v := iI 0) C dX4_init_17 rfl ?_
  refine r_aload_n C 0 dX4_init_18 rfl rfl ?_
  refine r_getR C fl_X4_13 rfl dX4_init_19 h0 r0 ?_
  refine r_iconst (v := iI 0) C dX4_init_22 rfl ?_
  refine r_aload_n C 0 dX4_init_23 rfl rfl ?_
  refine r_getR C fl_X4_13 rfl dX4_init_24 h0 r0 ?_
  refine r_alen C (by decide) dX4_init_27 s1 ?_
  refine r_copyT C (j := 4) (n := 4) (by decide) rfl wy_X4_18 dX4_init_28 s1 (Nat.le_of_ble_eq_true rfl) (Nat.le_of_ble_eq_true rfl) (fun I28 eI28 => ?_)
  replace h0 : Is base Y11 (B) (.inl 4) := h0
  replace hY : base + Y11.1 = B + 1 + 1 := hY
  replace hsm : Sm B Y I L Y11 I28 L9 := (hsm.tr (by rw [eI28]; exact Sm.i (by omega)) (Nat.le_refl _))
  replace iB : I28 (B) = fun _ => 0 := (by rw [eI28, up1_n (by omega)] <;> exact iB)
  replace lB : L9 (B) = fun _ => 0 := lB
  replace s1 : Is base Y11 (B + 1) (.inr (0, 4)) := s1
  replace r0 : Y11.2.2 (B) 0 = some (B + 1) := r0
  have i1 : I28 (B + 1) = fun k => (scl 4).getD k 0 := by rw [eI28, up1_s]
  refine r_aload_n C 0 dX4_init_31 rfl rfl ?_
  refine r_bipush (v := iI 6) C dX4_init_32 (by decide) ?_
  refine m_anew (t := 4) (n := 6) (D := RX0) C (by decide) (by decide) rfl (by decide) wc_X4_24 rfl (by decide) (Nat.le_of_ble_eq_true rfl) (Nat.le_of_ble_eq_true rfl) dX4_init_34 (fun x34 Y34 I34 L34 n34 eI34 eL34 => ?_)
  have ex34 : x34 = B + 2 := by have := n34.1; omega
  subst ex34
  replace h0 : Is base Y34 (B) (.inl 4) := (n34.keep h0)
  replace hY : base + Y34.1 = B + 2 + 1 := (by rw [n34.2.1]; omega)
  replace hsm : Sm B Y I L Y34 I34 L34 := (hsm.tr (Sm.nw n34 eI34 eL34) (by omega))
  replace iB : I34 (B) = fun _ => 0 := (by rw [eI34, up1_n (by omega)] <;> exact iB)
  replace lB : L34 (B) = fun _ => 0 := (by rw [eL34, up1_n (by omega)]; exact lB)
  replace s1 : Is base Y34 (B + 1) (.inr (0, 4)) := (n34.keep s1)
  replace r0 : Y34.2.2 (B) 0 = some (B + 1) := (by rw [n34.rn (by omega)]; exact r0)
  replace i1 : I34 (B + 1) = fun k => (scl 4).getD k 0 := (by rw [eI34, up1_n (by omega)] <;> exact i1)
  have hz34 : I34 (B + 2) = fun _ => 0 := by rw [eI34, up1_s]
  have hl34 : L34 (B + 2) = fun _ => 0 := by rw [eL34, up1_s]
  have hr34 : ∀ k, Y34.2.2 (B + 2) k = none := fun k => by rw [n34.2.2.2, up1_s]
  have s2 : Is base Y34 (B + 2) (.inr (4, 6)) := n34.is
  refine m_putRF C fl_X4_26 rfl dX4_init_37 h0 (hnm.trans rfl) rfl (fun Y37 p37 => ?_)
  replace h0 : Is base Y37 (B) (.inl 4) := (p37.keep h0)
  replace hY : base + Y37.1 = B + 2 + 1 := (by rw [p37.n]; exact hY)
  replace hsm : Sm B Y I L Y37 I34 L34 := (hsm.tr (Sm.pr p37 (by omega)) (Nat.le_refl _))
  replace iB : I34 (B) = fun _ => 0 := iB
  replace lB : L34 (B) = fun _ => 0 := lB
  replace s1 : Is base Y37 (B + 1) (.inr (0, 4)) := (p37.keep s1)
  replace r0 : Y37.2.2 (B) 0 = some (B + 1) := (by rw [p37.nk (by omega)]; exact r0)
  replace i1 : I34 (B + 1) = fun k => (scl 4).getD k 0 := i1
  replace s2 : Is base Y37 (B + 2) (.inr (4, 6)) := (p37.keep s2)
  have r1 : Y37.2.2 B 1 = some (B + 2) := p37.at
  refine r_iconst (v := iI 0) C dX4_init_40 rfl ?_
  refine r_istore_n (lo' := [(1, .int (iI 0)), (0, .ref B)]) C dX4_init_41 rfl (by decide) rfl ?_
  have lp42 : ∀ (k : Nat) (x1 : Int) (i : Nat) (Y42 : MY) (I42 : MI) (L42 : ML) (hx1 : x1 = i) (hi : i ≤ 6) (h0 : Is base Y42 (B) (.inl 4)) (hsm : Sm B Y I L Y42 I42 L42) (iB : I42 (B) = fun _ => 0) (lB : L42 (B) = fun _ => 0) (s1 : Is base Y42 (B + 1) (.inr (0, 4))) (r0 : Y42.2.2 (B) 0 = some (B + 1)) (i1 : I42 (B + 1) = fun k => (scl 4).getD k 0) (s2 : Is base Y42 (B + 2) (.inr (4, 6))) (r1 : Y42.2.2 (B) 1 = some (B + 2)) (hY : base + Y42.1 = B + (3 + 3 * i)) (hfl : ∀ g, g < i → Is base Y42 (B + (3 + 3 * g)) (.inl 0) ∧ Is base Y42 (B + (4 + 3 * g)) (.inr (0, 5)) ∧ Is base Y42 (B + (5 + 3 * g)) (.inr (0, 20)) ∧ Y42.2.2 (B + 2) g = some (B + (3 + 3 * g)) ∧ Y42.2.2 (B + (3 + 3 * g)) 0 = some (B + (4 + 3 * g)) ∧ Y42.2.2 (B + (3 + 3 * g)) 1 = some (B + (5 + 3 * g))), 6 - i = k → Bd zp l ze { frames := 3, cells := 205, slots := 2264, locals := 200 } zs zm zargs zbl zmt zc 2 G base (fun v Y' I' L' => v = none ∧ SLy base Y' B ∧ Y'.1 = Y.1 + 205 ∧ Sm B Y I L Y' I' L' ∧ ∃ X, I' = cI I' B X ∧ L' = cL L' B X ∧ Rl true ini X) 42 [(1, .int (iI x1)), (0, .ref B)] [] Y42 I42 L42 (2 + 3 * i) (10 + 40 * i) := by
    intro k
    induction k using Nat.strongRecOn with
    | _ k ih42 =>
    intro x1 i Y42 I42 L42 hx1 hi h0 hsm iB lB s1 r0 i1 s2 r1 hY hfl hk
    refine r_iload_n C 0 dX4_init_42 rfl rfl ?_
    refine r_aload_n C 1 dX4_init_43 rfl rfl ?_
    refine r_getR C fl_X4_26 rfl dX4_init_44 h0 r1 ?_
    refine r_alen C (by decide) dX4_init_47 s2 ?_
    refine n_icmp_ge (x := x1) (y := 6) (tgt := 70) C dX4_init_48 (by decide) ⟨by omega, by omega⟩ ⟨by decide, by decide⟩ (fun c42 => ?_) (fun c42 => ?_)
    rotate_left
    · refine r_aload_n C 1 dX4_init_51 rfl rfl ?_
      refine r_getR C fl_X4_26 rfl dX4_init_52 h0 r1 ?_
      refine r_iload_n C 0 dX4_init_55 rfl rfl ?_
      refine m_new C ck0 wc_X4_24 wi_X0 wn_X0 df0 (by show 2 + 3 * i + 1 ≤ 205; omega) (by show 10 + 40 * i + 15 ≤ 2264; omega) dX4_init_56 (fun x56 Y56 I56 L56 n56 eI56 eL56 => ?_)
      have ex56 : x56 = B + (3 + 3 * i) := by have := n56.1; omega
      subst ex56
      replace h0 : Is base Y56 (B) (.inl 4) := (n56.keep h0)
      replace hsm : Sm B Y I L Y56 I56 L56 := (hsm.tr (Sm.nw n56 eI56 eL56) (by omega))
      replace iB : I56 (B) = fun _ => 0 := (by rw [eI56, up1_n (by omega)] <;> exact iB)
      replace lB : L56 (B) = fun _ => 0 := (by rw [eL56, up1_n (by omega)]; exact lB)
      replace s1 : Is base Y56 (B + 1) (.inr (0, 4)) := (n56.keep s1)
      replace r0 : Y56.2.2 (B) 0 = some (B + 1) := (by rw [n56.rn (by omega)]; exact r0)
      replace i1 : I56 (B + 1) = fun k => (scl 4).getD k 0 := (by rw [eI56, up1_n (by omega)] <;> exact i1)
      replace s2 : Is base Y56 (B + 2) (.inr (4, 6)) := (n56.keep s2)
      replace r1 : Y56.2.2 (B) 1 = some (B + 2) := (by rw [n56.rn (by omega)]; exact r1)
      replace hY : base + Y56.1 = B + (3 + 3 * i) + 1 := (by rw [n56.2.1]; omega)
      replace hfl : ∀ g, g < i → Is base Y56 (B + (3 + 3 * g)) (.inl 0) ∧ Is base Y56 (B + (4 + 3 * g)) (.inr (0, 5)) ∧ Is base Y56 (B + (5 + 3 * g)) (.inr (0, 20)) ∧ Y56.2.2 (B + 2) g = some (B + (3 + 3 * g)) ∧ Y56.2.2 (B + (3 + 3 * g)) 0 = some (B + (4 + 3 * g)) ∧ Y56.2.2 (B + (3 + 3 * g)) 1 = some (B + (5 + 3 * g)) := fun g hg => by
        have hh := hfl g hg
        exact ⟨(n56.keep (hh.1)), (n56.keep (hh.2.1)), (n56.keep (hh.2.2.1)), (by rw [n56.rn (by omega)]; exact (hh.2.2.2.1)), (by rw [n56.rn (by omega)]; exact (hh.2.2.2.2.1)), (by rw [n56.rn (by omega)]; exact (hh.2.2.2.2.2))⟩
      have hz56 : I56 (B + (3 + 3 * i)) = fun _ => 0 := by rw [eI56, up1_s]
      have hl56 : L56 (B + (3 + 3 * i)) = fun _ => 0 := by rw [eL56, up1_s]
      have hr56 : ∀ k, Y56.2.2 (B + (3 + 3 * i)) k = none := fun k => by rw [n56.2.2.2, up1_s]
      have hx : Is base Y56 (B + (3 + 3 * i)) (.inl 0) := n56.is
      refine r_dup C dX4_init_59 rfl ?_
      refine cI0_G C (k_X0_init hx hY) cw_X4_30 ⟨⟨by decide, by decide⟩, (by show 2 + 3 * i + 1 + 2 ≤ 205; omega), (by show 10 + 40 * i + 15 + 25 ≤ 2264; omega)⟩ (Nat.le_of_ble_eq_true rfl) dX4_init_60 (fun v60 Y60 I60 L60 h60 => ?_)
      obtain ⟨rfl, hn60, hs60, k1, k2, k3, k4, k5⟩ := h60
      rw [show B + (3 + 3 * i) + 1 = B + (4 + 3 * i) by omega] at k2 k4
      rw [show B + (3 + 3 * i) + 2 = B + (5 + 3 * i) by omega] at k3 k5
      replace h0 : Is base Y60 (B) (.inl 4) := (hs60.is (by omega) h0 (by omega))
      replace hsm : Sm B Y I L Y60 I60 L60 := (hsm.tr hs60 (by omega))
      replace iB : I60 (B) = fun _ => 0 := (hs60.ii iB (by omega))
      replace lB : L60 (B) = fun _ => 0 := (hs60.l lB (by omega))
      replace s1 : Is base Y60 (B + 1) (.inr (0, 4)) := (hs60.is (by omega) s1 (by omega))
      replace r0 : Y60.2.2 (B) 0 = some (B + 1) := (hs60.r r0 (by omega))
      replace i1 : I60 (B + 1) = fun k => (scl 4).getD k 0 := (hs60.ii i1 (by omega))
      replace s2 : Is base Y60 (B + 2) (.inr (4, 6)) := (hs60.is (by omega) s2 (by omega))
      replace r1 : Y60.2.2 (B) 1 = some (B + 2) := (hs60.r r1 (by omega))
      replace hY : base + Y60.1 = B + (3 + 3 * (i + 1)) := (by rw [hn60]; omega)
      replace hfl : ∀ g, g < i → Is base Y60 (B + (3 + 3 * g)) (.inl 0) ∧ Is base Y60 (B + (4 + 3 * g)) (.inr (0, 5)) ∧ Is base Y60 (B + (5 + 3 * g)) (.inr (0, 20)) ∧ Y60.2.2 (B + 2) g = some (B + (3 + 3 * g)) ∧ Y60.2.2 (B + (3 + 3 * g)) 0 = some (B + (4 + 3 * g)) ∧ Y60.2.2 (B + (3 + 3 * g)) 1 = some (B + (5 + 3 * g)) := fun g hg => by
        have hh := hfl g hg
        exact ⟨(hs60.is (by omega) (hh.1) (by omega)), (hs60.is (by omega) (hh.2.1) (by omega)), (hs60.is (by omega) (hh.2.2.1) (by omega)), (hs60.r (hh.2.2.2.1) (by omega)), (hs60.r (hh.2.2.2.2.1) (by omega)), (hs60.r (hh.2.2.2.2.2) (by omega))⟩
      refine m_aast (t := 4) (ci := 0) C (by decide) (by decide) rfl i dX4_init_63 s2 k1 ⟨congrArg iI hx1, by omega, by decide⟩ (fun Y63 p63 => ?_)
      replace h0 : Is base Y63 (B) (.inl 4) := (p63.keep h0)
      replace hsm : Sm B Y I L Y63 I60 L60 := (hsm.tr (Sm.pr p63 (by omega)) (Nat.le_refl _))
      replace iB : I60 (B) = fun _ => 0 := iB
      replace lB : L60 (B) = fun _ => 0 := lB
      replace s1 : Is base Y63 (B + 1) (.inr (0, 4)) := (p63.keep s1)
      replace r0 : Y63.2.2 (B) 0 = some (B + 1) := (by rw [p63.rn (by omega)]; exact r0)
      replace i1 : I60 (B + 1) = fun k => (scl 4).getD k 0 := i1
      replace s2 : Is base Y63 (B + 2) (.inr (4, 6)) := (p63.keep s2)
      replace r1 : Y63.2.2 (B) 1 = some (B + 2) := (by rw [p63.rn (by omega)]; exact r1)
      replace hY : base + Y63.1 = B + (3 + 3 * (i + 1)) := (by rw [p63.n]; exact hY)
      replace hfl : ∀ g, g < i → Is base Y63 (B + (3 + 3 * g)) (.inl 0) ∧ Is base Y63 (B + (4 + 3 * g)) (.inr (0, 5)) ∧ Is base Y63 (B + (5 + 3 * g)) (.inr (0, 20)) ∧ Y63.2.2 (B + 2) g = some (B + (3 + 3 * g)) ∧ Y63.2.2 (B + (3 + 3 * g)) 0 = some (B + (4 + 3 * g)) ∧ Y63.2.2 (B + (3 + 3 * g)) 1 = some (B + (5 + 3 * g)) := fun g hg => by
        have hh := hfl g hg
        exact ⟨(p63.keep (hh.1)), (p63.keep (hh.2.1)), (p63.keep (hh.2.2.1)), (by rw [p63.nk (by omega)]; exact (hh.2.2.2.1)), (by rw [p63.rn (by omega)]; exact (hh.2.2.2.2.1)), (by rw [p63.rn (by omega)]; exact (hh.2.2.2.2.2))⟩
      replace hfl : ∀ g, g < (i + 1) → Is base Y63 (B + (3 + 3 * g)) (.inl 0) ∧ Is base Y63 (B + (4 + 3 * g)) (.inr (0, 5)) ∧ Is base Y63 (B + (5 + 3 * g)) (.inr (0, 20)) ∧ Y63.2.2 (B + 2) g = some (B + (3 + 3 * g)) ∧ Y63.2.2 (B + (3 + 3 * g)) 0 = some (B + (4 + 3 * g)) ∧ Y63.2.2 (B + (3 + 3 * g)) 1 = some (B + (5 + 3 * g)) := fun g hg => by
        by_cases e : g = i
        · subst e
          exact ⟨p63.keep k1, p63.keep k2, p63.keep k3, p63.at, by rw [p63.rn (by omega)]; exact k4, by rw [p63.rn (by omega)]; exact k5⟩
        · exact hfl g (by omega)
      refine n_iinc (lo' := [(1, .int (iI (x1 + 1))), (0, .ref B)]) C 0 dX4_init_64 rfl rfl (by decide) rfl ?_
      refine r_goto (tgt := 42) C dX4_init_67 (by decide) ?_
      refine r_eqC (c' := 2 + 3 * (i + 1)) (s' := 10 + 40 * (i + 1)) (by show 2 + 3 * i + 1 + 2 = _; omega) (by show 10 + 40 * i + 15 + 25 = _; omega) ?_
      exact ih42 _ (by omega) (x1 + 1) (i + 1) _ _ _ (by omega) (by omega) h0 hsm iB lB s1 r0 i1 s2 r1 hY hfl rfl
    · have hiN : i = 6 := by omega
      subst hiN
      refine r_aload_n C 1 dX4_init_70 rfl rfl ?_
      refine r_bipush (v := iI 120) C dX4_init_71 (by decide) ?_
      refine m_anew (t := 5) (n := 120) (D := RX1) C (by decide) (by decide) rfl (by decide) wc_X4_31 rfl (by decide) (Nat.le_of_ble_eq_true rfl) (Nat.le_of_ble_eq_true rfl) dX4_init_73 (fun x73 Y73 I73 L73 n73 eI73 eL73 => ?_)
      have ex73 : x73 = B + 21 := by have := n73.1; omega
      subst ex73
      replace h0 : Is base Y73 (B) (.inl 4) := (n73.keep h0)
      replace hsm : Sm B Y I L Y73 I73 L73 := (hsm.tr (Sm.nw n73 eI73 eL73) (by omega))
      replace iB : I73 (B) = fun _ => 0 := (by rw [eI73, up1_n (by omega)] <;> exact iB)
      replace lB : L73 (B) = fun _ => 0 := (by rw [eL73, up1_n (by omega)]; exact lB)
      replace s1 : Is base Y73 (B + 1) (.inr (0, 4)) := (n73.keep s1)
      replace r0 : Y73.2.2 (B) 0 = some (B + 1) := (by rw [n73.rn (by omega)]; exact r0)
      replace i1 : I73 (B + 1) = fun k => (scl 4).getD k 0 := (by rw [eI73, up1_n (by omega)] <;> exact i1)
      replace s2 : Is base Y73 (B + 2) (.inr (4, 6)) := (n73.keep s2)
      replace r1 : Y73.2.2 (B) 1 = some (B + 2) := (by rw [n73.rn (by omega)]; exact r1)
      replace hY : base + Y73.1 = B + 21 + 1 := (by rw [n73.2.1]; omega)
      replace hfl : ∀ g, g < 6 → Is base Y73 (B + (3 + 3 * g)) (.inl 0) ∧ Is base Y73 (B + (4 + 3 * g)) (.inr (0, 5)) ∧ Is base Y73 (B + (5 + 3 * g)) (.inr (0, 20)) ∧ Y73.2.2 (B + 2) g = some (B + (3 + 3 * g)) ∧ Y73.2.2 (B + (3 + 3 * g)) 0 = some (B + (4 + 3 * g)) ∧ Y73.2.2 (B + (3 + 3 * g)) 1 = some (B + (5 + 3 * g)) := fun g hg => by
        have hh := hfl g hg
        exact ⟨(n73.keep (hh.1)), (n73.keep (hh.2.1)), (n73.keep (hh.2.2.1)), (by rw [n73.rn (by omega)]; exact (hh.2.2.2.1)), (by rw [n73.rn (by omega)]; exact (hh.2.2.2.2.1)), (by rw [n73.rn (by omega)]; exact (hh.2.2.2.2.2))⟩
      have hz73 : I73 (B + 21) = fun _ => 0 := by rw [eI73, up1_s]
      have hl73 : L73 (B + 21) = fun _ => 0 := by rw [eL73, up1_s]
      have hr73 : ∀ k, Y73.2.2 (B + 21) k = none := fun k => by rw [n73.2.2.2, up1_s]
      have s21 : Is base Y73 (B + 21) (.inr (5, 120)) := n73.is
      refine m_putRF C fl_X4_33 rfl dX4_init_76 h0 (hnm.trans rfl) rfl (fun Y76 p76 => ?_)
      replace h0 : Is base Y76 (B) (.inl 4) := (p76.keep h0)
      replace hsm : Sm B Y I L Y76 I73 L73 := (hsm.tr (Sm.pr p76 (by omega)) (Nat.le_refl _))
      replace iB : I73 (B) = fun _ => 0 := iB
      replace lB : L73 (B) = fun _ => 0 := lB
      replace s1 : Is base Y76 (B + 1) (.inr (0, 4)) := (p76.keep s1)
      replace r0 : Y76.2.2 (B) 0 = some (B + 1) := (by rw [p76.nk (by omega)]; exact r0)
      replace i1 : I73 (B + 1) = fun k => (scl 4).getD k 0 := i1
      replace s2 : Is base Y76 (B + 2) (.inr (4, 6)) := (p76.keep s2)
      replace r1 : Y76.2.2 (B) 1 = some (B + 2) := (by rw [p76.nk (by omega)]; exact r1)
      replace hY : base + Y76.1 = B + 21 + 1 := (by rw [p76.n]; exact hY)
      replace hfl : ∀ g, g < 6 → Is base Y76 (B + (3 + 3 * g)) (.inl 0) ∧ Is base Y76 (B + (4 + 3 * g)) (.inr (0, 5)) ∧ Is base Y76 (B + (5 + 3 * g)) (.inr (0, 20)) ∧ Y76.2.2 (B + 2) g = some (B + (3 + 3 * g)) ∧ Y76.2.2 (B + (3 + 3 * g)) 0 = some (B + (4 + 3 * g)) ∧ Y76.2.2 (B + (3 + 3 * g)) 1 = some (B + (5 + 3 * g)) := fun g hg => by
        have hh := hfl g hg
        exact ⟨(p76.keep (hh.1)), (p76.keep (hh.2.1)), (p76.keep (hh.2.2.1)), (by rw [p76.rn (by omega)]; exact (hh.2.2.2.1)), (by rw [p76.rn (by omega)]; exact (hh.2.2.2.2.1)), (by rw [p76.rn (by omega)]; exact (hh.2.2.2.2.2))⟩
      replace s21 : Is base Y76 (B + 21) (.inr (5, 120)) := (p76.keep s21)
      have r2 : Y76.2.2 B 2 = some (B + 21) := p76.at
      refine r_iconst (v := iI 0) C dX4_init_79 rfl ?_
      refine r_istore_n (lo' := [(1, .int (iI 0)), (0, .ref B)]) C dX4_init_80 rfl (by decide) rfl ?_
      have lp81 : ∀ (k : Nat) (x1 : Int) (i : Nat) (Y81 : MY) (I81 : MI) (L81 : ML) (hx1 : x1 = i) (hi : i ≤ 120) (h0 : Is base Y81 (B) (.inl 4)) (hsm : Sm B Y I L Y81 I81 L81) (iB : I81 (B) = fun _ => 0) (lB : L81 (B) = fun _ => 0) (s1 : Is base Y81 (B + 1) (.inr (0, 4))) (r0 : Y81.2.2 (B) 0 = some (B + 1)) (i1 : I81 (B + 1) = fun k => (scl 4).getD k 0) (s2 : Is base Y81 (B + 2) (.inr (4, 6))) (r1 : Y81.2.2 (B) 1 = some (B + 2)) (hfl : ∀ g, g < 6 → Is base Y81 (B + (3 + 3 * g)) (.inl 0) ∧ Is base Y81 (B + (4 + 3 * g)) (.inr (0, 5)) ∧ Is base Y81 (B + (5 + 3 * g)) (.inr (0, 20)) ∧ Y81.2.2 (B + 2) g = some (B + (3 + 3 * g)) ∧ Y81.2.2 (B + (3 + 3 * g)) 0 = some (B + (4 + 3 * g)) ∧ Y81.2.2 (B + (3 + 3 * g)) 1 = some (B + (5 + 3 * g))) (s21 : Is base Y81 (B + 21) (.inr (5, 120))) (r2 : Y81.2.2 (B) 2 = some (B + 21)) (hY : base + Y81.1 = B + (22 + i)) (hpk : ∀ j, j < i → Is base Y81 (B + (22 + j)) (.inl 1) ∧ Y81.2.2 (B + 21) j = some (B + (22 + j))), 120 - i = k → Bd zp l ze { frames := 3, cells := 205, slots := 2264, locals := 200 } zs zm zargs zbl zmt zc 2 G base (fun v Y' I' L' => v = none ∧ SLy base Y' B ∧ Y'.1 = Y.1 + 205 ∧ Sm B Y I L Y' I' L' ∧ ∃ X, I' = cI I' B X ∧ L' = cL L' B X ∧ Rl true ini X) 81 [(1, .int (iI x1)), (0, .ref B)] [] Y81 I81 L81 (21 + i) (370 + 11 * i) := by
        intro k
        induction k using Nat.strongRecOn with
        | _ k ih81 =>
        intro x1 i Y81 I81 L81 hx1 hi h0 hsm iB lB s1 r0 i1 s2 r1 hfl s21 r2 hY hpk hk
        refine r_iload_n C 0 dX4_init_81 rfl rfl ?_
        refine r_aload_n C 1 dX4_init_82 rfl rfl ?_
        refine r_getR C fl_X4_33 rfl dX4_init_83 h0 r2 ?_
        refine r_alen C (by decide) dX4_init_86 s21 ?_
        refine n_icmp_ge (x := x1) (y := 120) (tgt := 109) C dX4_init_87 (by decide) ⟨by omega, by omega⟩ ⟨by decide, by decide⟩ (fun c81 => ?_) (fun c81 => ?_)
        rotate_left
        · refine r_aload_n C 1 dX4_init_90 rfl rfl ?_
          refine r_getR C fl_X4_33 rfl dX4_init_91 h0 r2 ?_
          refine r_iload_n C 0 dX4_init_94 rfl rfl ?_
          refine m_new C ck1 wc_X4_31 wi_X1 wn_X1 df1 (by show 21 + i + 1 ≤ 205; omega) (by show 370 + 11 * i + 11 ≤ 2264; omega) dX4_init_95 (fun x95 Y95 I95 L95 n95 eI95 eL95 => ?_)
          have ex95 : x95 = B + (22 + i) := by have := n95.1; omega
          subst ex95
          replace h0 : Is base Y95 (B) (.inl 4) := (n95.keep h0)
          replace hsm : Sm B Y I L Y95 I95 L95 := (hsm.tr (Sm.nw n95 eI95 eL95) (by omega))
          replace iB : I95 (B) = fun _ => 0 := (by rw [eI95, up1_n (by omega)] <;> exact iB)
          replace lB : L95 (B) = fun _ => 0 := (by rw [eL95, up1_n (by omega)]; exact lB)
          replace s1 : Is base Y95 (B + 1) (.inr (0, 4)) := (n95.keep s1)
          replace r0 : Y95.2.2 (B) 0 = some (B + 1) := (by rw [n95.rn (by omega)]; exact r0)
          replace i1 : I95 (B + 1) = fun k => (scl 4).getD k 0 := (by rw [eI95, up1_n (by omega)] <;> exact i1)
          replace s2 : Is base Y95 (B + 2) (.inr (4, 6)) := (n95.keep s2)
          replace r1 : Y95.2.2 (B) 1 = some (B + 2) := (by rw [n95.rn (by omega)]; exact r1)
          replace hfl : ∀ g, g < 6 → Is base Y95 (B + (3 + 3 * g)) (.inl 0) ∧ Is base Y95 (B + (4 + 3 * g)) (.inr (0, 5)) ∧ Is base Y95 (B + (5 + 3 * g)) (.inr (0, 20)) ∧ Y95.2.2 (B + 2) g = some (B + (3 + 3 * g)) ∧ Y95.2.2 (B + (3 + 3 * g)) 0 = some (B + (4 + 3 * g)) ∧ Y95.2.2 (B + (3 + 3 * g)) 1 = some (B + (5 + 3 * g)) := fun g hg => by
            have hh := hfl g hg
            exact ⟨(n95.keep (hh.1)), (n95.keep (hh.2.1)), (n95.keep (hh.2.2.1)), (by rw [n95.rn (by omega)]; exact (hh.2.2.2.1)), (by rw [n95.rn (by omega)]; exact (hh.2.2.2.2.1)), (by rw [n95.rn (by omega)]; exact (hh.2.2.2.2.2))⟩
          replace s21 : Is base Y95 (B + 21) (.inr (5, 120)) := (n95.keep s21)
          replace r2 : Y95.2.2 (B) 2 = some (B + 21) := (by rw [n95.rn (by omega)]; exact r2)
          replace hY : base + Y95.1 = B + (22 + i) + 1 := (by rw [n95.2.1]; omega)
          replace hpk : ∀ j, j < i → Is base Y95 (B + (22 + j)) (.inl 1) ∧ Y95.2.2 (B + 21) j = some (B + (22 + j)) := fun j hg => by
            have hh := hpk j hg
            exact ⟨(n95.keep (hh.1)), (by rw [n95.rn (by omega)]; exact (hh.2))⟩
          have hz95 : I95 (B + (22 + i)) = fun _ => 0 := by rw [eI95, up1_s]
          have hl95 : L95 (B + (22 + i)) = fun _ => 0 := by rw [eL95, up1_s]
          have hr95 : ∀ k, Y95.2.2 (B + (22 + i)) k = none := fun k => by rw [n95.2.2.2, up1_s]
          have hx : Is base Y95 (B + (22 + i)) (.inl 1) := n95.is
          refine r_dup C dX4_init_98 rfl ?_
          refine r_runIN (As := []) C (k_X1_init (x := B + (22 + i))) wk_c wn_X1 ⟨by decide +kernel, by decide +kernel⟩ (by decide +kernel) rfl wk_i C.2.2.2.2.2.2.2.2.2.2.2 ⟨⟨by decide, by decide⟩, (by show 21 + i + 1 + 0 ≤ 205; omega), (by show 370 + 11 * i + 11 + 0 ≤ 2264; omega)⟩ (Nat.le_of_ble_eq_true rfl) dX4_init_99 (fun v99 Y99 I99 L99 h99 => ?_)
          obtain ⟨rfl, rfl, rfl, rfl⟩ := h99
          refine m_aast (t := 5) (ci := 1) C (by decide) (by decide) rfl i dX4_init_102 s21 hx ⟨congrArg iI hx1, by omega, by decide⟩ (fun Y102 p102 => ?_)
          replace h0 : Is base Y102 (B) (.inl 4) := (p102.keep h0)
          replace hsm : Sm B Y I L Y102 I99 L99 := (hsm.tr (Sm.pr p102 (by omega)) (Nat.le_refl _))
          replace iB : I99 (B) = fun _ => 0 := iB
          replace lB : L99 (B) = fun _ => 0 := lB
          replace s1 : Is base Y102 (B + 1) (.inr (0, 4)) := (p102.keep s1)
          replace r0 : Y102.2.2 (B) 0 = some (B + 1) := (by rw [p102.rn (by omega)]; exact r0)
          replace i1 : I99 (B + 1) = fun k => (scl 4).getD k 0 := i1
          replace s2 : Is base Y102 (B + 2) (.inr (4, 6)) := (p102.keep s2)
          replace r1 : Y102.2.2 (B) 1 = some (B + 2) := (by rw [p102.rn (by omega)]; exact r1)
          replace hfl : ∀ g, g < 6 → Is base Y102 (B + (3 + 3 * g)) (.inl 0) ∧ Is base Y102 (B + (4 + 3 * g)) (.inr (0, 5)) ∧ Is base Y102 (B + (5 + 3 * g)) (.inr (0, 20)) ∧ Y102.2.2 (B + 2) g = some (B + (3 + 3 * g)) ∧ Y102.2.2 (B + (3 + 3 * g)) 0 = some (B + (4 + 3 * g)) ∧ Y102.2.2 (B + (3 + 3 * g)) 1 = some (B + (5 + 3 * g)) := fun g hg => by
            have hh := hfl g hg
            exact ⟨(p102.keep (hh.1)), (p102.keep (hh.2.1)), (p102.keep (hh.2.2.1)), (by rw [p102.rn (by omega)]; exact (hh.2.2.2.1)), (by rw [p102.rn (by omega)]; exact (hh.2.2.2.2.1)), (by rw [p102.rn (by omega)]; exact (hh.2.2.2.2.2))⟩
          replace s21 : Is base Y102 (B + 21) (.inr (5, 120)) := (p102.keep s21)
          replace r2 : Y102.2.2 (B) 2 = some (B + 21) := (by rw [p102.rn (by omega)]; exact r2)
          replace hY : base + Y102.1 = B + (22 + i) + 1 := (by rw [p102.n]; exact hY)
          replace hpk : ∀ j, j < i → Is base Y102 (B + (22 + j)) (.inl 1) ∧ Y102.2.2 (B + 21) j = some (B + (22 + j)) := fun j hg => by
            have hh := hpk j hg
            exact ⟨(p102.keep (hh.1)), (by rw [p102.nk (by omega)]; exact (hh.2))⟩
          replace hpk : ∀ j, j < (i + 1) → Is base Y102 (B + (22 + j)) (.inl 1) ∧ Y102.2.2 (B + 21) j = some (B + (22 + j)) := fun j hj => by
            by_cases e : j = i
            · subst e
              exact ⟨p102.keep hx, p102.at⟩
            · exact hpk j (by omega)
          refine n_iinc (lo' := [(1, .int (iI (x1 + 1))), (0, .ref B)]) C 0 dX4_init_103 rfl rfl (by decide) rfl ?_
          refine r_goto (tgt := 81) C dX4_init_106 (by decide) ?_
          refine r_eqC (c' := 21 + (i + 1)) (s' := 370 + 11 * (i + 1)) (by show 21 + i + 1 + 0 = _; omega) (by show 370 + 11 * i + 11 + 0 = _; omega) ?_
          exact ih81 _ (by omega) (x1 + 1) (i + 1) _ _ _ (by omega) (by omega) h0 hsm iB lB s1 r0 i1 s2 r1 hfl s21 r2 hY hpk rfl
        · have hiN : i = 120 := by omega
          subst hiN
          refine r_aload_n C 1 dX4_init_109 rfl rfl ?_
          refine r_bipush (v := iI 60) C dX4_init_110 (by decide) ?_
          refine m_anew (t := 6) (n := 60) (D := RX3) C (by decide) (by decide) rfl (by decide) wc_X4_38 rfl (by decide) (Nat.le_of_ble_eq_true rfl) (Nat.le_of_ble_eq_true rfl) dX4_init_112 (fun x112 Y112 I112 L112 n112 eI112 eL112 => ?_)
          have ex112 : x112 = B + 142 := by have := n112.1; omega
          subst ex112
          replace h0 : Is base Y112 (B) (.inl 4) := (n112.keep h0)
          replace hsm : Sm B Y I L Y112 I112 L112 := (hsm.tr (Sm.nw n112 eI112 eL112) (by omega))
          replace iB : I112 (B) = fun _ => 0 := (by rw [eI112, up1_n (by omega)] <;> exact iB)
          replace lB : L112 (B) = fun _ => 0 := (by rw [eL112, up1_n (by omega)]; exact lB)
          replace s1 : Is base Y112 (B + 1) (.inr (0, 4)) := (n112.keep s1)
          replace r0 : Y112.2.2 (B) 0 = some (B + 1) := (by rw [n112.rn (by omega)]; exact r0)
          replace i1 : I112 (B + 1) = fun k => (scl 4).getD k 0 := (by rw [eI112, up1_n (by omega)] <;> exact i1)
          replace s2 : Is base Y112 (B + 2) (.inr (4, 6)) := (n112.keep s2)
          replace r1 : Y112.2.2 (B) 1 = some (B + 2) := (by rw [n112.rn (by omega)]; exact r1)
          replace hfl : ∀ g, g < 6 → Is base Y112 (B + (3 + 3 * g)) (.inl 0) ∧ Is base Y112 (B + (4 + 3 * g)) (.inr (0, 5)) ∧ Is base Y112 (B + (5 + 3 * g)) (.inr (0, 20)) ∧ Y112.2.2 (B + 2) g = some (B + (3 + 3 * g)) ∧ Y112.2.2 (B + (3 + 3 * g)) 0 = some (B + (4 + 3 * g)) ∧ Y112.2.2 (B + (3 + 3 * g)) 1 = some (B + (5 + 3 * g)) := fun g hg => by
            have hh := hfl g hg
            exact ⟨(n112.keep (hh.1)), (n112.keep (hh.2.1)), (n112.keep (hh.2.2.1)), (by rw [n112.rn (by omega)]; exact (hh.2.2.2.1)), (by rw [n112.rn (by omega)]; exact (hh.2.2.2.2.1)), (by rw [n112.rn (by omega)]; exact (hh.2.2.2.2.2))⟩
          replace s21 : Is base Y112 (B + 21) (.inr (5, 120)) := (n112.keep s21)
          replace r2 : Y112.2.2 (B) 2 = some (B + 21) := (by rw [n112.rn (by omega)]; exact r2)
          replace hY : base + Y112.1 = B + 142 + 1 := (by rw [n112.2.1]; omega)
          replace hpk : ∀ j, j < 120 → Is base Y112 (B + (22 + j)) (.inl 1) ∧ Y112.2.2 (B + 21) j = some (B + (22 + j)) := fun j hg => by
            have hh := hpk j hg
            exact ⟨(n112.keep (hh.1)), (by rw [n112.rn (by omega)]; exact (hh.2))⟩
          have hz112 : I112 (B + 142) = fun _ => 0 := by rw [eI112, up1_s]
          have hl112 : L112 (B + 142) = fun _ => 0 := by rw [eL112, up1_s]
          have hr112 : ∀ k, Y112.2.2 (B + 142) k = none := fun k => by rw [n112.2.2.2, up1_s]
          have s142 : Is base Y112 (B + 142) (.inr (6, 60)) := n112.is
          refine m_putRF C fl_X4_40 rfl dX4_init_115 h0 (hnm.trans rfl) rfl (fun Y115 p115 => ?_)
          replace h0 : Is base Y115 (B) (.inl 4) := (p115.keep h0)
          replace hsm : Sm B Y I L Y115 I112 L112 := (hsm.tr (Sm.pr p115 (by omega)) (Nat.le_refl _))
          replace iB : I112 (B) = fun _ => 0 := iB
          replace lB : L112 (B) = fun _ => 0 := lB
          replace s1 : Is base Y115 (B + 1) (.inr (0, 4)) := (p115.keep s1)
          replace r0 : Y115.2.2 (B) 0 = some (B + 1) := (by rw [p115.nk (by omega)]; exact r0)
          replace i1 : I112 (B + 1) = fun k => (scl 4).getD k 0 := i1
          replace s2 : Is base Y115 (B + 2) (.inr (4, 6)) := (p115.keep s2)
          replace r1 : Y115.2.2 (B) 1 = some (B + 2) := (by rw [p115.nk (by omega)]; exact r1)
          replace hfl : ∀ g, g < 6 → Is base Y115 (B + (3 + 3 * g)) (.inl 0) ∧ Is base Y115 (B + (4 + 3 * g)) (.inr (0, 5)) ∧ Is base Y115 (B + (5 + 3 * g)) (.inr (0, 20)) ∧ Y115.2.2 (B + 2) g = some (B + (3 + 3 * g)) ∧ Y115.2.2 (B + (3 + 3 * g)) 0 = some (B + (4 + 3 * g)) ∧ Y115.2.2 (B + (3 + 3 * g)) 1 = some (B + (5 + 3 * g)) := fun g hg => by
            have hh := hfl g hg
            exact ⟨(p115.keep (hh.1)), (p115.keep (hh.2.1)), (p115.keep (hh.2.2.1)), (by rw [p115.rn (by omega)]; exact (hh.2.2.2.1)), (by rw [p115.rn (by omega)]; exact (hh.2.2.2.2.1)), (by rw [p115.rn (by omega)]; exact (hh.2.2.2.2.2))⟩
          replace s21 : Is base Y115 (B + 21) (.inr (5, 120)) := (p115.keep s21)
          replace r2 : Y115.2.2 (B) 2 = some (B + 21) := (by rw [p115.nk (by omega)]; exact r2)
          replace hY : base + Y115.1 = B + 142 + 1 := (by rw [p115.n]; exact hY)
          replace hpk : ∀ j, j < 120 → Is base Y115 (B + (22 + j)) (.inl 1) ∧ Y115.2.2 (B + 21) j = some (B + (22 + j)) := fun j hg => by
            have hh := hpk j hg
            exact ⟨(p115.keep (hh.1)), (by rw [p115.rn (by omega)]; exact (hh.2))⟩
          replace s142 : Is base Y115 (B + 142) (.inr (6, 60)) := (p115.keep s142)
          have r3 : Y115.2.2 B 3 = some (B + 142) := p115.at
          refine r_iconst (v := iI 0) C dX4_init_118 rfl ?_
          refine r_istore_n (lo' := [(1, .int (iI 0)), (0, .ref B)]) C dX4_init_119 rfl (by decide) rfl ?_
          have lp120 : ∀ (k : Nat) (x1 : Int) (i : Nat) (Y120 : MY) (I120 : MI) (L120 : ML) (hx1 : x1 = i) (hi : i ≤ 60) (h0 : Is base Y120 (B) (.inl 4)) (hsm : Sm B Y I L Y120 I120 L120) (iB : I120 (B) = fun _ => 0) (lB : L120 (B) = fun _ => 0) (s1 : Is base Y120 (B + 1) (.inr (0, 4))) (r0 : Y120.2.2 (B) 0 = some (B + 1)) (i1 : I120 (B + 1) = fun k => (scl 4).getD k 0) (s2 : Is base Y120 (B + 2) (.inr (4, 6))) (r1 : Y120.2.2 (B) 1 = some (B + 2)) (hfl : ∀ g, g < 6 → Is base Y120 (B + (3 + 3 * g)) (.inl 0) ∧ Is base Y120 (B + (4 + 3 * g)) (.inr (0, 5)) ∧ Is base Y120 (B + (5 + 3 * g)) (.inr (0, 20)) ∧ Y120.2.2 (B + 2) g = some (B + (3 + 3 * g)) ∧ Y120.2.2 (B + (3 + 3 * g)) 0 = some (B + (4 + 3 * g)) ∧ Y120.2.2 (B + (3 + 3 * g)) 1 = some (B + (5 + 3 * g))) (s21 : Is base Y120 (B + 21) (.inr (5, 120))) (r2 : Y120.2.2 (B) 2 = some (B + 21)) (hpk : ∀ j, j < 120 → Is base Y120 (B + (22 + j)) (.inl 1) ∧ Y120.2.2 (B + 21) j = some (B + (22 + j))) (s142 : Is base Y120 (B + 142) (.inr (6, 60))) (r3 : Y120.2.2 (B) 3 = some (B + 142)) (hY : base + Y120.1 = B + (143 + i)) (hpc : ∀ j, j < i → Is base Y120 (B + (143 + j)) (.inl 3) ∧ Y120.2.2 (B + 142) j = some (B + (143 + j))), 60 - i = k → Bd zp l ze { frames := 3, cells := 205, slots := 2264, locals := 200 } zs zm zargs zbl zmt zc 2 G base (fun v Y' I' L' => v = none ∧ SLy base Y' B ∧ Y'.1 = Y.1 + 205 ∧ Sm B Y I L Y' I' L' ∧ ∃ X, I' = cI I' B X ∧ L' = cL L' B X ∧ Rl true ini X) 120 [(1, .int (iI x1)), (0, .ref B)] [] Y120 I120 L120 (142 + i) (1750 + 7 * i) := by
            intro k
            induction k using Nat.strongRecOn with
            | _ k ih120 =>
            intro x1 i Y120 I120 L120 hx1 hi h0 hsm iB lB s1 r0 i1 s2 r1 hfl s21 r2 hpk s142 r3 hY hpc hk
            refine r_iload_n C 0 dX4_init_120 rfl rfl ?_
            refine r_aload_n C 1 dX4_init_121 rfl rfl ?_
            refine r_getR C fl_X4_40 rfl dX4_init_122 h0 r3 ?_
            refine r_alen C (by decide) dX4_init_125 s142 ?_
            refine n_icmp_ge (x := x1) (y := 60) (tgt := 148) C dX4_init_126 (by decide) ⟨by omega, by omega⟩ ⟨by decide, by decide⟩ (fun c120 => ?_) (fun c120 => ?_)
            rotate_left
            · refine r_aload_n C 1 dX4_init_129 rfl rfl ?_
              refine r_getR C fl_X4_40 rfl dX4_init_130 h0 r3 ?_
              refine r_iload_n C 0 dX4_init_133 rfl rfl ?_
              refine m_new C ck3 wc_X4_38 wi_X3 wn_X3 df3 (by show 142 + i + 1 ≤ 205; omega) (by show 1750 + 7 * i + 7 ≤ 2264; omega) dX4_init_134 (fun x134 Y134 I134 L134 n134 eI134 eL134 => ?_)
              have ex134 : x134 = B + (143 + i) := by have := n134.1; omega
              subst ex134
              replace h0 : Is base Y134 (B) (.inl 4) := (n134.keep h0)
              replace hsm : Sm B Y I L Y134 I134 L134 := (hsm.tr (Sm.nw n134 eI134 eL134) (by omega))
              replace iB : I134 (B) = fun _ => 0 := (by rw [eI134, up1_n (by omega)] <;> exact iB)
              replace lB : L134 (B) = fun _ => 0 := (by rw [eL134, up1_n (by omega)]; exact lB)
              replace s1 : Is base Y134 (B + 1) (.inr (0, 4)) := (n134.keep s1)
              replace r0 : Y134.2.2 (B) 0 = some (B + 1) := (by rw [n134.rn (by omega)]; exact r0)
              replace i1 : I134 (B + 1) = fun k => (scl 4).getD k 0 := (by rw [eI134, up1_n (by omega)] <;> exact i1)
              replace s2 : Is base Y134 (B + 2) (.inr (4, 6)) := (n134.keep s2)
              replace r1 : Y134.2.2 (B) 1 = some (B + 2) := (by rw [n134.rn (by omega)]; exact r1)
              replace hfl : ∀ g, g < 6 → Is base Y134 (B + (3 + 3 * g)) (.inl 0) ∧ Is base Y134 (B + (4 + 3 * g)) (.inr (0, 5)) ∧ Is base Y134 (B + (5 + 3 * g)) (.inr (0, 20)) ∧ Y134.2.2 (B + 2) g = some (B + (3 + 3 * g)) ∧ Y134.2.2 (B + (3 + 3 * g)) 0 = some (B + (4 + 3 * g)) ∧ Y134.2.2 (B + (3 + 3 * g)) 1 = some (B + (5 + 3 * g)) := fun g hg => by
                have hh := hfl g hg
                exact ⟨(n134.keep (hh.1)), (n134.keep (hh.2.1)), (n134.keep (hh.2.2.1)), (by rw [n134.rn (by omega)]; exact (hh.2.2.2.1)), (by rw [n134.rn (by omega)]; exact (hh.2.2.2.2.1)), (by rw [n134.rn (by omega)]; exact (hh.2.2.2.2.2))⟩
              replace s21 : Is base Y134 (B + 21) (.inr (5, 120)) := (n134.keep s21)
              replace r2 : Y134.2.2 (B) 2 = some (B + 21) := (by rw [n134.rn (by omega)]; exact r2)
              replace hpk : ∀ j, j < 120 → Is base Y134 (B + (22 + j)) (.inl 1) ∧ Y134.2.2 (B + 21) j = some (B + (22 + j)) := fun j hg => by
                have hh := hpk j hg
                exact ⟨(n134.keep (hh.1)), (by rw [n134.rn (by omega)]; exact (hh.2))⟩
              replace s142 : Is base Y134 (B + 142) (.inr (6, 60)) := (n134.keep s142)
              replace r3 : Y134.2.2 (B) 3 = some (B + 142) := (by rw [n134.rn (by omega)]; exact r3)
              replace hY : base + Y134.1 = B + (143 + i) + 1 := (by rw [n134.2.1]; omega)
              replace hpc : ∀ j, j < i → Is base Y134 (B + (143 + j)) (.inl 3) ∧ Y134.2.2 (B + 142) j = some (B + (143 + j)) := fun j hg => by
                have hh := hpc j hg
                exact ⟨(n134.keep (hh.1)), (by rw [n134.rn (by omega)]; exact (hh.2))⟩
              have hz134 : I134 (B + (143 + i)) = fun _ => 0 := by rw [eI134, up1_s]
              have hl134 : L134 (B + (143 + i)) = fun _ => 0 := by rw [eL134, up1_s]
              have hr134 : ∀ k, Y134.2.2 (B + (143 + i)) k = none := fun k => by rw [n134.2.2.2, up1_s]
              have hx : Is base Y134 (B + (143 + i)) (.inl 3) := n134.is
              refine r_dup C dX4_init_137 rfl ?_
              refine cI0_EV C (k_X3_init hx) cw_X4_44 (rm_ok rfl rfl (by show 142 + i + 1 ≤ 205; omega) (by show 1750 + 7 * i + 7 ≤ 2264; omega)) (Nat.le_of_ble_eq_true rfl) dX4_init_138 (fun I138 L138 h138 => ?_)
              obtain ⟨rfl, hIo138, hv138⟩ := h138
              have hs138 : Sm (B + (143 + i)) Y134 I134 L138 Y134 I138 L138 := fun y hy => ⟨rfl, rfl, hIo138 y (by omega), rfl⟩
              replace hsm : Sm B Y I L Y134 I138 L138 := (hsm.tr hs138 (by omega))
              replace iB : I138 (B) = fun _ => 0 := (hs138.ii iB (by omega))
              replace i1 : I138 (B + 1) = fun k => (scl 4).getD k 0 := (hs138.ii i1 (by omega))
              refine m_aast (t := 6) (ci := 3) C (by decide) (by decide) rfl i dX4_init_141 s142 hx ⟨congrArg iI hx1, by omega, by decide⟩ (fun Y141 p141 => ?_)
              replace h0 : Is base Y141 (B) (.inl 4) := (p141.keep h0)
              replace hsm : Sm B Y I L Y141 I138 L138 := (hsm.tr (Sm.pr p141 (by omega)) (Nat.le_refl _))
              replace iB : I138 (B) = fun _ => 0 := iB
              replace lB : L138 (B) = fun _ => 0 := lB
              replace s1 : Is base Y141 (B + 1) (.inr (0, 4)) := (p141.keep s1)
              replace r0 : Y141.2.2 (B) 0 = some (B + 1) := (by rw [p141.rn (by omega)]; exact r0)
              replace i1 : I138 (B + 1) = fun k => (scl 4).getD k 0 := i1
              replace s2 : Is base Y141 (B + 2) (.inr (4, 6)) := (p141.keep s2)
              replace r1 : Y141.2.2 (B) 1 = some (B + 2) := (by rw [p141.rn (by omega)]; exact r1)
              replace hfl : ∀ g, g < 6 → Is base Y141 (B + (3 + 3 * g)) (.inl 0) ∧ Is base Y141 (B + (4 + 3 * g)) (.inr (0, 5)) ∧ Is base Y141 (B + (5 + 3 * g)) (.inr (0, 20)) ∧ Y141.2.2 (B + 2) g = some (B + (3 + 3 * g)) ∧ Y141.2.2 (B + (3 + 3 * g)) 0 = some (B + (4 + 3 * g)) ∧ Y141.2.2 (B + (3 + 3 * g)) 1 = some (B + (5 + 3 * g)) := fun g hg => by
                have hh := hfl g hg
                exact ⟨(p141.keep (hh.1)), (p141.keep (hh.2.1)), (p141.keep (hh.2.2.1)), (by rw [p141.rn (by omega)]; exact (hh.2.2.2.1)), (by rw [p141.rn (by omega)]; exact (hh.2.2.2.2.1)), (by rw [p141.rn (by omega)]; exact (hh.2.2.2.2.2))⟩
              replace s21 : Is base Y141 (B + 21) (.inr (5, 120)) := (p141.keep s21)
              replace r2 : Y141.2.2 (B) 2 = some (B + 21) := (by rw [p141.rn (by omega)]; exact r2)
              replace hpk : ∀ j, j < 120 → Is base Y141 (B + (22 + j)) (.inl 1) ∧ Y141.2.2 (B + 21) j = some (B + (22 + j)) := fun j hg => by
                have hh := hpk j hg
                exact ⟨(p141.keep (hh.1)), (by rw [p141.rn (by omega)]; exact (hh.2))⟩
              replace s142 : Is base Y141 (B + 142) (.inr (6, 60)) := (p141.keep s142)
              replace r3 : Y141.2.2 (B) 3 = some (B + 142) := (by rw [p141.rn (by omega)]; exact r3)
              replace hY : base + Y141.1 = B + (143 + i) + 1 := (by rw [p141.n]; exact hY)
              replace hpc : ∀ j, j < i → Is base Y141 (B + (143 + j)) (.inl 3) ∧ Y141.2.2 (B + 142) j = some (B + (143 + j)) := fun j hg => by
                have hh := hpc j hg
                exact ⟨(p141.keep (hh.1)), (by rw [p141.nk (by omega)]; exact (hh.2))⟩
              replace hpc : ∀ j, j < (i + 1) → Is base Y141 (B + (143 + j)) (.inl 3) ∧ Y141.2.2 (B + 142) j = some (B + (143 + j)) := fun j hj => by
                by_cases e : j = i
                · subst e
                  exact ⟨p141.keep hx, p141.at⟩
                · exact hpc j (by omega)
              refine n_iinc (lo' := [(1, .int (iI (x1 + 1))), (0, .ref B)]) C 0 dX4_init_142 rfl rfl (by decide) rfl ?_
              refine r_goto (tgt := 120) C dX4_init_145 (by decide) ?_
              refine r_eqC (c' := 142 + (i + 1)) (s' := 1750 + 7 * (i + 1)) (by show 142 + i + 1 = _; omega) (by show 1750 + 7 * i + 7 = _; omega) ?_
              exact ih120 _ (by omega) (x1 + 1) (i + 1) _ _ _ (by omega) (by omega) h0 hsm iB lB s1 r0 i1 s2 r1 hfl s21 r2 hpk s142 r3 hY hpc rfl
            · have hiN : i = 60 := by omega
              subst hiN
              refine r_aload_n C 1 dX4_init_148 rfl rfl ?_
              refine m_new C ck3 wc_X4_38 wi_X3 wn_X3 df3 (Nat.le_of_ble_eq_true rfl) (Nat.le_of_ble_eq_true rfl) dX4_init_149 (fun x149 Y149 I149 L149 n149 eI149 eL149 => ?_)
              have ex149 : x149 = B + 203 := by have := n149.1; omega
              subst ex149
              replace h0 : Is base Y149 (B) (.inl 4) := (n149.keep h0)
              replace hsm : Sm B Y I L Y149 I149 L149 := (hsm.tr (Sm.nw n149 eI149 eL149) (by omega))
              replace iB : I149 (B) = fun _ => 0 := (by rw [eI149, up1_n (by omega)] <;> exact iB)
              replace lB : L149 (B) = fun _ => 0 := (by rw [eL149, up1_n (by omega)]; exact lB)
              replace s1 : Is base Y149 (B + 1) (.inr (0, 4)) := (n149.keep s1)
              replace r0 : Y149.2.2 (B) 0 = some (B + 1) := (by rw [n149.rn (by omega)]; exact r0)
              replace i1 : I149 (B + 1) = fun k => (scl 4).getD k 0 := (by rw [eI149, up1_n (by omega)] <;> exact i1)
              replace s2 : Is base Y149 (B + 2) (.inr (4, 6)) := (n149.keep s2)
              replace r1 : Y149.2.2 (B) 1 = some (B + 2) := (by rw [n149.rn (by omega)]; exact r1)
              replace hfl : ∀ g, g < 6 → Is base Y149 (B + (3 + 3 * g)) (.inl 0) ∧ Is base Y149 (B + (4 + 3 * g)) (.inr (0, 5)) ∧ Is base Y149 (B + (5 + 3 * g)) (.inr (0, 20)) ∧ Y149.2.2 (B + 2) g = some (B + (3 + 3 * g)) ∧ Y149.2.2 (B + (3 + 3 * g)) 0 = some (B + (4 + 3 * g)) ∧ Y149.2.2 (B + (3 + 3 * g)) 1 = some (B + (5 + 3 * g)) := fun g hg => by
                have hh := hfl g hg
                exact ⟨(n149.keep (hh.1)), (n149.keep (hh.2.1)), (n149.keep (hh.2.2.1)), (by rw [n149.rn (by omega)]; exact (hh.2.2.2.1)), (by rw [n149.rn (by omega)]; exact (hh.2.2.2.2.1)), (by rw [n149.rn (by omega)]; exact (hh.2.2.2.2.2))⟩
              replace s21 : Is base Y149 (B + 21) (.inr (5, 120)) := (n149.keep s21)
              replace r2 : Y149.2.2 (B) 2 = some (B + 21) := (by rw [n149.rn (by omega)]; exact r2)
              replace hpk : ∀ j, j < 120 → Is base Y149 (B + (22 + j)) (.inl 1) ∧ Y149.2.2 (B + 21) j = some (B + (22 + j)) := fun j hg => by
                have hh := hpk j hg
                exact ⟨(n149.keep (hh.1)), (by rw [n149.rn (by omega)]; exact (hh.2))⟩
              replace s142 : Is base Y149 (B + 142) (.inr (6, 60)) := (n149.keep s142)
              replace r3 : Y149.2.2 (B) 3 = some (B + 142) := (by rw [n149.rn (by omega)]; exact r3)
              replace hY : base + Y149.1 = B + 203 + 1 := (by rw [n149.2.1]; omega)
              replace hpc : ∀ j, j < 60 → Is base Y149 (B + (143 + j)) (.inl 3) ∧ Y149.2.2 (B + 142) j = some (B + (143 + j)) := fun j hg => by
                have hh := hpc j hg
                exact ⟨(n149.keep (hh.1)), (by rw [n149.rn (by omega)]; exact (hh.2))⟩
              have hz149 : I149 (B + 203) = fun _ => 0 := by rw [eI149, up1_s]
              have hl149 : L149 (B + 203) = fun _ => 0 := by rw [eL149, up1_s]
              have hr149 : ∀ k, Y149.2.2 (B + 203) k = none := fun k => by rw [n149.2.2.2, up1_s]
              have hx : Is base Y149 (B + 203) (.inl 3) := n149.is
              refine r_dup C dX4_init_152 rfl ?_
              refine cI0_EV C (k_X3_init hx) cw_X4_44 (rm_ok rfl rfl (Nat.le_of_ble_eq_true rfl) (Nat.le_of_ble_eq_true rfl)) (Nat.le_of_ble_eq_true rfl) dX4_init_153 (fun I153 L153 h153 => ?_)
              obtain ⟨rfl, hIo153, hv153⟩ := h153
              have hs153 : Sm (B + 203) Y149 I149 L153 Y149 I153 L153 := fun y hy => ⟨rfl, rfl, hIo153 y (by omega), rfl⟩
              replace hsm : Sm B Y I L Y149 I153 L153 := (hsm.tr hs153 (by omega))
              replace iB : I153 (B) = fun _ => 0 := (hs153.ii iB (by omega))
              replace i1 : I153 (B + 1) = fun k => (scl 4).getD k 0 := (hs153.ii i1 (by omega))
              refine m_putRF C fl_X4_45 rfl dX4_init_156 h0 (hnm.trans rfl) rfl (fun Y156 p156 => ?_)
              replace h0 : Is base Y156 (B) (.inl 4) := (p156.keep h0)
              replace hsm : Sm B Y I L Y156 I153 L153 := (hsm.tr (Sm.pr p156 (by omega)) (Nat.le_refl _))
              replace iB : I153 (B) = fun _ => 0 := iB
              replace lB : L153 (B) = fun _ => 0 := lB
              replace s1 : Is base Y156 (B + 1) (.inr (0, 4)) := (p156.keep s1)
              replace r0 : Y156.2.2 (B) 0 = some (B + 1) := (by rw [p156.nk (by omega)]; exact r0)
              replace i1 : I153 (B + 1) = fun k => (scl 4).getD k 0 := i1
              replace s2 : Is base Y156 (B + 2) (.inr (4, 6)) := (p156.keep s2)
              replace r1 : Y156.2.2 (B) 1 = some (B + 2) := (by rw [p156.nk (by omega)]; exact r1)
              replace hfl : ∀ g, g < 6 → Is base Y156 (B + (3 + 3 * g)) (.inl 0) ∧ Is base Y156 (B + (4 + 3 * g)) (.inr (0, 5)) ∧ Is base Y156 (B + (5 + 3 * g)) (.inr (0, 20)) ∧ Y156.2.2 (B + 2) g = some (B + (3 + 3 * g)) ∧ Y156.2.2 (B + (3 + 3 * g)) 0 = some (B + (4 + 3 * g)) ∧ Y156.2.2 (B + (3 + 3 * g)) 1 = some (B + (5 + 3 * g)) := fun g hg => by
                have hh := hfl g hg
                exact ⟨(p156.keep (hh.1)), (p156.keep (hh.2.1)), (p156.keep (hh.2.2.1)), (by rw [p156.rn (by omega)]; exact (hh.2.2.2.1)), (by rw [p156.rn (by omega)]; exact (hh.2.2.2.2.1)), (by rw [p156.rn (by omega)]; exact (hh.2.2.2.2.2))⟩
              replace s21 : Is base Y156 (B + 21) (.inr (5, 120)) := (p156.keep s21)
              replace r2 : Y156.2.2 (B) 2 = some (B + 21) := (by rw [p156.nk (by omega)]; exact r2)
              replace hpk : ∀ j, j < 120 → Is base Y156 (B + (22 + j)) (.inl 1) ∧ Y156.2.2 (B + 21) j = some (B + (22 + j)) := fun j hg => by
                have hh := hpk j hg
                exact ⟨(p156.keep (hh.1)), (by rw [p156.rn (by omega)]; exact (hh.2))⟩
              replace s142 : Is base Y156 (B + 142) (.inr (6, 60)) := (p156.keep s142)
              replace r3 : Y156.2.2 (B) 3 = some (B + 142) := (by rw [p156.nk (by omega)]; exact r3)
              replace hY : base + Y156.1 = B + 203 + 1 := (by rw [p156.n]; exact hY)
              replace hpc : ∀ j, j < 60 → Is base Y156 (B + (143 + j)) (.inl 3) ∧ Y156.2.2 (B + 142) j = some (B + (143 + j)) := fun j hg => by
                have hh := hpc j hg
                exact ⟨(p156.keep (hh.1)), (by rw [p156.rn (by omega)]; exact (hh.2))⟩
              replace hx : Is base Y156 (B + 203) (.inl 3) := (p156.keep hx)
              have r4 : Y156.2.2 B 4 = some (B + 203) := p156.at
              obtain ⟨g203, e203⟩ : ∃ g, I153 (B + 203) = g := ⟨_, rfl⟩
              rw [e203] at hv153
              refine r_aload_n C 1 dX4_init_159 rfl rfl ?_
              refine m_new C ck2 wc_X4_49 wi_X2 wn_X2 df2 (Nat.le_of_ble_eq_true rfl) (Nat.le_of_ble_eq_true rfl) dX4_init_160 (fun x160 Y160 I160 L160 n160 eI160 eL160 => ?_)
              have ex160 : x160 = B + 204 := by have := n160.1; omega
              subst ex160
              replace h0 : Is base Y160 (B) (.inl 4) := (n160.keep h0)
              replace hsm : Sm B Y I L Y160 I160 L160 := (hsm.tr (Sm.nw n160 eI160 eL160) (by omega))
              replace iB : I160 (B) = fun _ => 0 := (by rw [eI160, up1_n (by omega)] <;> exact iB)
              replace lB : L160 (B) = fun _ => 0 := (by rw [eL160, up1_n (by omega)]; exact lB)
              replace s1 : Is base Y160 (B + 1) (.inr (0, 4)) := (n160.keep s1)
              replace r0 : Y160.2.2 (B) 0 = some (B + 1) := (by rw [n160.rn (by omega)]; exact r0)
              replace i1 : I160 (B + 1) = fun k => (scl 4).getD k 0 := (by rw [eI160, up1_n (by omega)] <;> exact i1)
              replace s2 : Is base Y160 (B + 2) (.inr (4, 6)) := (n160.keep s2)
              replace r1 : Y160.2.2 (B) 1 = some (B + 2) := (by rw [n160.rn (by omega)]; exact r1)
              replace hfl : ∀ g, g < 6 → Is base Y160 (B + (3 + 3 * g)) (.inl 0) ∧ Is base Y160 (B + (4 + 3 * g)) (.inr (0, 5)) ∧ Is base Y160 (B + (5 + 3 * g)) (.inr (0, 20)) ∧ Y160.2.2 (B + 2) g = some (B + (3 + 3 * g)) ∧ Y160.2.2 (B + (3 + 3 * g)) 0 = some (B + (4 + 3 * g)) ∧ Y160.2.2 (B + (3 + 3 * g)) 1 = some (B + (5 + 3 * g)) := fun g hg => by
                have hh := hfl g hg
                exact ⟨(n160.keep (hh.1)), (n160.keep (hh.2.1)), (n160.keep (hh.2.2.1)), (by rw [n160.rn (by omega)]; exact (hh.2.2.2.1)), (by rw [n160.rn (by omega)]; exact (hh.2.2.2.2.1)), (by rw [n160.rn (by omega)]; exact (hh.2.2.2.2.2))⟩
              replace s21 : Is base Y160 (B + 21) (.inr (5, 120)) := (n160.keep s21)
              replace r2 : Y160.2.2 (B) 2 = some (B + 21) := (by rw [n160.rn (by omega)]; exact r2)
              replace hpk : ∀ j, j < 120 → Is base Y160 (B + (22 + j)) (.inl 1) ∧ Y160.2.2 (B + 21) j = some (B + (22 + j)) := fun j hg => by
                have hh := hpk j hg
                exact ⟨(n160.keep (hh.1)), (by rw [n160.rn (by omega)]; exact (hh.2))⟩
              replace s142 : Is base Y160 (B + 142) (.inr (6, 60)) := (n160.keep s142)
              replace r3 : Y160.2.2 (B) 3 = some (B + 142) := (by rw [n160.rn (by omega)]; exact r3)
              replace hY : base + Y160.1 = B + 204 + 1 := (by rw [n160.2.1]; omega)
              replace hpc : ∀ j, j < 60 → Is base Y160 (B + (143 + j)) (.inl 3) ∧ Y160.2.2 (B + 142) j = some (B + (143 + j)) := fun j hg => by
                have hh := hpc j hg
                exact ⟨(n160.keep (hh.1)), (by rw [n160.rn (by omega)]; exact (hh.2))⟩
              replace hx : Is base Y160 (B + 203) (.inl 3) := (n160.keep hx)
              replace r4 : Y160.2.2 (B) 4 = some (B + 203) := (by rw [n160.rn (by omega)]; exact r4)
              replace e203 : I160 (B + 203) = g203 := (by rw [eI160, up1_n (by omega)] <;> exact e203)
              have hz160 : I160 (B + 204) = fun _ => 0 := by rw [eI160, up1_s]
              have hl160 : L160 (B + 204) = fun _ => 0 := by rw [eL160, up1_s]
              have hr160 : ∀ k, Y160.2.2 (B + 204) k = none := fun k => by rw [n160.2.2.2, up1_s]
              have hx2 : Is base Y160 (B + 204) (.inl 2) := n160.is
              refine r_dup C dX4_init_163 rfl ?_
              refine cI0_G C (k_X2_init hx2 hY) cw_X4_51 ⟨⟨by decide, by decide⟩, (Nat.le_of_ble_eq_true rfl), (Nat.le_of_ble_eq_true rfl)⟩ (Nat.le_of_ble_eq_true rfl) dX4_init_164 (fun v164 Y164 I164 L164 h164 => ?_)
              obtain ⟨rfl, hn164, hs164, k1, k2, k3, k4, k5⟩ := h164
              replace h0 : Is base Y164 (B) (.inl 4) := (hs164.is (by omega) h0 (by omega))
              replace hsm : Sm B Y I L Y164 I164 L164 := (hsm.tr hs164 (by omega))
              replace iB : I164 (B) = fun _ => 0 := (hs164.ii iB (by omega))
              replace lB : L164 (B) = fun _ => 0 := (hs164.l lB (by omega))
              replace s1 : Is base Y164 (B + 1) (.inr (0, 4)) := (hs164.is (by omega) s1 (by omega))
              replace r0 : Y164.2.2 (B) 0 = some (B + 1) := (hs164.r r0 (by omega))
              replace i1 : I164 (B + 1) = fun k => (scl 4).getD k 0 := (hs164.ii i1 (by omega))
              replace s2 : Is base Y164 (B + 2) (.inr (4, 6)) := (hs164.is (by omega) s2 (by omega))
              replace r1 : Y164.2.2 (B) 1 = some (B + 2) := (hs164.r r1 (by omega))
              replace hfl : ∀ g, g < 6 → Is base Y164 (B + (3 + 3 * g)) (.inl 0) ∧ Is base Y164 (B + (4 + 3 * g)) (.inr (0, 5)) ∧ Is base Y164 (B + (5 + 3 * g)) (.inr (0, 20)) ∧ Y164.2.2 (B + 2) g = some (B + (3 + 3 * g)) ∧ Y164.2.2 (B + (3 + 3 * g)) 0 = some (B + (4 + 3 * g)) ∧ Y164.2.2 (B + (3 + 3 * g)) 1 = some (B + (5 + 3 * g)) := fun g hg => by
                have hh := hfl g hg
                exact ⟨(hs164.is (by omega) (hh.1) (by omega)), (hs164.is (by omega) (hh.2.1) (by omega)), (hs164.is (by omega) (hh.2.2.1) (by omega)), (hs164.r (hh.2.2.2.1) (by omega)), (hs164.r (hh.2.2.2.2.1) (by omega)), (hs164.r (hh.2.2.2.2.2) (by omega))⟩
              replace s21 : Is base Y164 (B + 21) (.inr (5, 120)) := (hs164.is (by omega) s21 (by omega))
              replace r2 : Y164.2.2 (B) 2 = some (B + 21) := (hs164.r r2 (by omega))
              replace hpk : ∀ j, j < 120 → Is base Y164 (B + (22 + j)) (.inl 1) ∧ Y164.2.2 (B + 21) j = some (B + (22 + j)) := fun j hg => by
                have hh := hpk j hg
                exact ⟨(hs164.is (by omega) (hh.1) (by omega)), (hs164.r (hh.2) (by omega))⟩
              replace s142 : Is base Y164 (B + 142) (.inr (6, 60)) := (hs164.is (by omega) s142 (by omega))
              replace r3 : Y164.2.2 (B) 3 = some (B + 142) := (hs164.r r3 (by omega))
              replace hY : base + Y164.1 = B + 206 := (by rw [hn164]; omega)
              replace hpc : ∀ j, j < 60 → Is base Y164 (B + (143 + j)) (.inl 3) ∧ Y164.2.2 (B + 142) j = some (B + (143 + j)) := fun j hg => by
                have hh := hpc j hg
                exact ⟨(hs164.is (by omega) (hh.1) (by omega)), (hs164.r (hh.2) (by omega))⟩
              replace hx : Is base Y164 (B + 203) (.inl 3) := (hs164.is (by omega) hx (by omega))
              replace r4 : Y164.2.2 (B) 4 = some (B + 203) := (hs164.r r4 (by omega))
              replace e203 : I164 (B + 203) = g203 := (hs164.ii e203 (by omega))
              refine m_putRF C fl_X4_52 rfl dX4_init_167 h0 (hnm.trans rfl) rfl (fun Y167 p167 => ?_)
              replace h0 : Is base Y167 (B) (.inl 4) := (p167.keep h0)
              replace hsm : Sm B Y I L Y167 I164 L164 := (hsm.tr (Sm.pr p167 (by omega)) (Nat.le_refl _))
              replace iB : I164 (B) = fun _ => 0 := iB
              replace lB : L164 (B) = fun _ => 0 := lB
              replace s1 : Is base Y167 (B + 1) (.inr (0, 4)) := (p167.keep s1)
              replace r0 : Y167.2.2 (B) 0 = some (B + 1) := (by rw [p167.nk (by omega)]; exact r0)
              replace i1 : I164 (B + 1) = fun k => (scl 4).getD k 0 := i1
              replace s2 : Is base Y167 (B + 2) (.inr (4, 6)) := (p167.keep s2)
              replace r1 : Y167.2.2 (B) 1 = some (B + 2) := (by rw [p167.nk (by omega)]; exact r1)
              replace hfl : ∀ g, g < 6 → Is base Y167 (B + (3 + 3 * g)) (.inl 0) ∧ Is base Y167 (B + (4 + 3 * g)) (.inr (0, 5)) ∧ Is base Y167 (B + (5 + 3 * g)) (.inr (0, 20)) ∧ Y167.2.2 (B + 2) g = some (B + (3 + 3 * g)) ∧ Y167.2.2 (B + (3 + 3 * g)) 0 = some (B + (4 + 3 * g)) ∧ Y167.2.2 (B + (3 + 3 * g)) 1 = some (B + (5 + 3 * g)) := fun g hg => by
                have hh := hfl g hg
                exact ⟨(p167.keep (hh.1)), (p167.keep (hh.2.1)), (p167.keep (hh.2.2.1)), (by rw [p167.rn (by omega)]; exact (hh.2.2.2.1)), (by rw [p167.rn (by omega)]; exact (hh.2.2.2.2.1)), (by rw [p167.rn (by omega)]; exact (hh.2.2.2.2.2))⟩
              replace s21 : Is base Y167 (B + 21) (.inr (5, 120)) := (p167.keep s21)
              replace r2 : Y167.2.2 (B) 2 = some (B + 21) := (by rw [p167.nk (by omega)]; exact r2)
              replace hpk : ∀ j, j < 120 → Is base Y167 (B + (22 + j)) (.inl 1) ∧ Y167.2.2 (B + 21) j = some (B + (22 + j)) := fun j hg => by
                have hh := hpk j hg
                exact ⟨(p167.keep (hh.1)), (by rw [p167.rn (by omega)]; exact (hh.2))⟩
              replace s142 : Is base Y167 (B + 142) (.inr (6, 60)) := (p167.keep s142)
              replace r3 : Y167.2.2 (B) 3 = some (B + 142) := (by rw [p167.nk (by omega)]; exact r3)
              replace hY : base + Y167.1 = B + 206 := (by rw [p167.n]; exact hY)
              replace hpc : ∀ j, j < 60 → Is base Y167 (B + (143 + j)) (.inl 3) ∧ Y167.2.2 (B + 142) j = some (B + (143 + j)) := fun j hg => by
                have hh := hpc j hg
                exact ⟨(p167.keep (hh.1)), (by rw [p167.rn (by omega)]; exact (hh.2))⟩
              replace hx : Is base Y167 (B + 203) (.inl 3) := (p167.keep hx)
              replace r4 : Y167.2.2 (B) 4 = some (B + 203) := (by rw [p167.nk (by omega)]; exact r4)
              replace e203 : I164 (B + 203) = g203 := e203
              replace k1 : Is base Y167 (B + 204) (.inl 2) := (p167.keep k1)
              replace k2 : Is base Y167 (B + 205) (.inr (3, 80)) := (p167.keep k2)
              replace k3 : Y167.2.2 (B + 204) 0 = some (B + 205) := (by rw [p167.rn (by omega)]; exact k3)
              have r5 : Y167.2.2 B 5 = some (B + 204) := p167.at
              refine r_aload_n C 1 dX4_init_170 rfl rfl ?_
              refine r_bipush (v := iI (-6)) C dX4_init_171 (by decide) ?_
              refine r_putI C fl_X4_56 rfl dX4_init_173 h0 (fun I173 eI173 => ?_)
              refine r_vret C hr hlk dX4_init_176 (Nat.le_of_ble_eq_true rfl) (Nat.le_of_ble_eq_true rfl) ?_
              have eo : ∀ y, y ≠ B → I173 y = I164 y := fun y hy => by rw [eI173, up2_rown hy]
              refine ⟨rfl, ⟨⟨h0, s1, s2, s21, s142, hx, k1, k2⟩, ⟨r0, r1, r2, r3, r4, r5, k3⟩, hfl, hpk, hpc⟩, by omega, fun y hy => ?_, mkX I173 L164 B, mk_I, mk_L, ?_⟩
              · have g := hsm y hy
                exact ⟨g.1, g.2.1, (eo y (by omega)).trans g.2.2.1, g.2.2.2⟩
              · refine ini_R (fun k hk => ?_) (by rw [lB]) (fun k => by rw [eo _ (by omega), i1]) (by rw [eo _ (by omega), e203]; exact hv153.1) (by rw [eo _ (by omega), e203]; exact hv153.2.1) (by rw [eo _ (by omega), e203]; exact hv153.2.2.1) (by rw [eo _ (by omega), e203]; exact hv153.2.2.2) (by rw [eo _ (by omega), k4, hz160]) (fun k => by rw [eo _ (by omega), k5])
                rw [eI173, up2_nk hk, iB]
          exact lp120 _ 0 0 _ _ _ rfl (by decide) h0 hsm iB lB s1 r0 i1 s2 r1 hfl s21 r2 hpk s142 r3 hY (fun g hg => absurd hg (by omega)) rfl
      exact lp81 _ 0 0 _ _ _ rfl (by decide) h0 hsm iB lB s1 r0 i1 s2 r1 hfl s21 r2 hY (fun g hg => absurd hg (by omega)) rfl
  exact lp42 _ 0 0 _ _ _ rfl (by decide) h0 hsm iB lB s1 r0 i1 s2 r1 hY (fun g hg => absurd hg (by omega)) rfl
