theorem SLy.mono {base B : Nat} {Y Y' : MY} (h : ∀ y, B ≤ y → y < B + 206 → Y'.2.1 y = Y.2.1 y ∧ Y'.2.2 y = Y.2.2 y) (hn : Y.1 ≤ Y'.1) (hS : SLy base Y B) : SLy base Y' B := by
  have k : ∀ o d, o < 206 → Is base Y (B + o) d → Is base Y' (B + o) d := fun o d ho hi => ⟨⟨hi.1.1, by have := hi.1.2; omega⟩, by rw [(h _ (by omega) (by omega)).1]; exact hi.2⟩
  have r : ∀ o j z, o < 206 → Y.2.2 (B + o) j = z → Y'.2.2 (B + o) j = z := fun o j z ho hi => by rw [(h _ (by omega) (by omega)).2]; exact hi
  obtain ⟨⟨a1, a2, a3, a4, a5, a6, a7, a8⟩, ⟨b1, b2, b3, b4, b5, b6, b7⟩, c, d, e⟩ := hS
  refine ⟨⟨k 0 _ (by decide) a1, k 1 _ (by decide) a2, k 2 _ (by decide) a3, k 21 _ (by decide) a4, k 142 _ (by decide) a5, k 203 _ (by decide) a6, k 204 _ (by decide) a7, k 205 _ (by decide) a8⟩, ⟨r 0 0 _ (by decide) b1, r 0 1 _ (by decide) b2, r 0 2 _ (by decide) b3, r 0 3 _ (by decide) b4, r 0 4 _ (by decide) b5, r 0 5 _ (by decide) b6, r 204 0 _ (by decide) b7⟩, fun f hf => ?_, fun j hj => ?_, fun j hj => ?_⟩
  · obtain ⟨c1, c2, c3, c4, c5, c6⟩ := c f hf
    exact ⟨k _ _ (by omega) c1, k _ _ (by omega) c2, k _ _ (by omega) c3, r 2 _ _ (by decide) c4, r _ _ _ (by omega) c5, r _ _ _ (by omega) c6⟩
  · obtain ⟨d1, d2⟩ := d j hj
    exact ⟨k _ _ (by omega) d1, r 21 _ _ (by decide) d2⟩
  · obtain ⟨e1, e2⟩ := e j hj
    exact ⟨k _ _ (by omega) e1, r 142 _ _ (by decide) e2⟩
theorem SLy.top {base B : Nat} {Y : MY} (h : SLy base Y B) : B + 206 ≤ base + Y.1 ∧ base ≤ B := by
  have h1 := h.1.2.2.2.2.2.2.2.1
  have h2 := h.1.1.1
  omega
/-- a memory that agrees with the row X on a State goes on so where the State is untouched -/
theorem cI_same {I I' : MI} {B : Nat} {X : Sa} (h : I = cI I B X) (e : ∀ y, B ≤ y → y < B + 206 → I' y = I y) : I' = cI I' B X := by
  funext y k
  by_cases hy : B ≤ y ∧ y < B + 206
  · rw [e y hy.1 hy.2, h]
    unfold cI mI
    rw [if_pos hy, if_pos hy]
  · unfold cI
    rw [mI_out (by omega)]
theorem cL_same {L L' : ML} {B : Nat} {X : Sa} (h : L = cL L B X) (e : ∀ y, B ≤ y → y < B + 206 → L' y = L y) : L' = cL L' B X := by
  funext y k
  by_cases hy : B ≤ y ∧ y < B + 206
  · rw [e y hy.1 hy.2, h]
    unfold cL mL
    rw [if_pos hy, if_pos hy]
  · unfold cL
    rw [mL_out (by omega)]
theorem cI_keep {I : MI} {B x : Nat} {X : Sa} {g : Nat → Int32} (h : I = cI I B X) (hx : x < B ∨ B + 206 ≤ x) : up1 I x g = cI (up1 I x g) B X := cI_same h (fun y y1 y2 => up1_n (by omega))
theorem cL_keep {L : ML} {B x : Nat} {X : Sa} {g : Nat → Int64} (h : L = cL L B X) (hx : x < B ∨ B + 206 ≤ x) : up1 L x g = cL (up1 L x g) B X := cL_same h (fun y y1 y2 => up1_n (by omega))
theorem cI_out {I : MI} {B y : Nat} {X : Sa} (h : y < B ∨ B + 206 ≤ y) : cI I B X y = I y := mI_out h
theorem cL_out {L : ML} {B y : Nat} {X : Sa} (h : y < B ∨ B + 206 ≤ y) : cL L B X y = L y := mL_out h
theorem cI_in {I J : MI} {B y : Nat} {X : Sa} (h : B ≤ y ∧ y < B + 206) : cI I B X y = cI J B X y := by unfold cI mI; rw [if_pos h, if_pos h]
theorem cL_in {I J : ML} {B y : Nat} {X : Sa} (h : B ≤ y ∧ y < B + 206) : cL I B X y = cL J B X y := by unfold cL mL; rw [if_pos h, if_pos h]
set_option maxHeartbeats 4000000 in
set_option maxRecDepth 20000 in
theorem k_X5_init {l : Launch} {G : Gd} {base : Nat} {Y : MY} {I : MI} {L : ML} {F : Nat} (h0 : Is base Y F (.inl 5)) (hY : base + Y.1 = F + 1) (hr2_0 : Y.2.2 F 2 = none) : Ct l yX5_init cX5_init 1 none { frames := 4, cells := 207, slots := 2281, locals := 300 } G base [.ref F] Y I L (fun v Y' I' L' => v = none ∧ Y'.1 = Y.1 + 207 ∧ Sm F Y I L Y' I' L' ∧ Is base Y' F (.inl 5) ∧ Y'.2.2 F 0 = some (F + 1) ∧ Y'.2.2 F 1 = some (F + 207) ∧ Y'.2.2 F 2 = none ∧ SLy base Y' (F + 1) ∧ Is base Y' (F + 207) (.inr (7, 2)) ∧ (∀ k, Y'.2.2 (F + 207) k = none) ∧ ∃ X, I' = cI I' (F + 1) X ∧ L' = cL L' (F + 1) X ∧ Rl true ini X) := by
  refine Ct.of (own := RX5) (lo := [(0, .ref F)]) (by decide) rfl (Nat.le_of_ble_eq_true rfl) rfl ?_
  intro zp ze zs zm zargs zbl zmt zc C hr hlk hnm
  have hY0 := hY
  have hsm : Sm F Y I L Y I L := Sm.rf
  refine r_aload_n C 0 dX5_init_0 rfl rfl ?_
  refine r_oinit C wo_X5_1 dX5_init_1 (Nat.le_of_ble_eq_true rfl) (Nat.le_of_ble_eq_true rfl) ?_
  refine r_aload_n C 0 dX5_init_4 rfl rfl ?_
  refine m_new C ck4 wc_X5_7 wi_X4 wn_X4 df4 (Nat.le_of_ble_eq_true rfl) (Nat.le_of_ble_eq_true rfl) dX5_init_5 (fun x5 Y5 I5 L5 n5 eI5 eL5 => ?_)
  have ex5 : x5 = F + 1 := by have := n5.1; omega
  subst ex5
  replace h0 : Is base Y5 (F) (.inl 5) := (n5.keep h0)
  replace hY : base + Y5.1 = F + 1 + 1 := (by rw [n5.2.1]; omega)
  replace hsm : Sm F Y I L Y5 I5 L5 := (hsm.tr (Sm.nw n5 eI5 eL5) (by omega))
  have hz5 : I5 (F + 1) = fun _ => 0 := by rw [eI5, up1_s]
  have hl5 : L5 (F + 1) = fun _ => 0 := by rw [eL5, up1_s]
  have hr5 : ∀ k, Y5.2.2 (F + 1) k = none := fun k => by rw [n5.2.2.2, up1_s]
  have hB : Is base Y5 (F + 1) (.inl 4) := n5.is
  refine r_dup C dX5_init_8 rfl ?_
  refine cI0_G C (k_X4_init hB hY hz5 hl5) cw_X5_9 ⟨⟨by decide, by decide⟩, (Nat.le_of_ble_eq_true rfl), (Nat.le_of_ble_eq_true rfl)⟩ (Nat.le_of_ble_eq_true rfl) dX5_init_9 (fun v9 Y9 I9 L9 h9 => ?_)
  obtain ⟨rfl, hS, hn9, hs9, X, hX1, hX2, hX3⟩ := h9
  have hr2 : Y9.2.2 F 2 = none := by rw [(hs9 F (by omega)).2.1, n5.rn (by omega)]; exact hr2_0
  replace h0 : Is base Y9 (F) (.inl 5) := (hs9.is (by omega) h0 (by omega))
  replace hY : base + Y9.1 = F + 207 := (by rw [hn9]; omega)
  replace hsm : Sm F Y I L Y9 I9 L9 := (hsm.tr hs9 (by omega))
  refine m_putRF C fl_X5_10 rfl dX5_init_12 h0 (hnm.trans rfl) rfl (fun Y12 p12 => ?_)
  replace h0 : Is base Y12 (F) (.inl 5) := (p12.keep h0)
  replace hY : base + Y12.1 = F + 207 := (by rw [p12.n]; exact hY)
  replace hsm : Sm F Y I L Y12 I9 L9 := (hsm.tr (Sm.pr p12 (by omega)) (Nat.le_refl _))
  replace hr2 : Y12.2.2 (F) 2 = none := (by rw [p12.nk (by omega)]; exact hr2)
  replace hS : SLy base Y12 (F + 1) := SLy.mono (fun y y1 y2 => ⟨by rw [p12.kn], p12.rn (by omega)⟩) (by rw [p12.n]; exact Nat.le_refl _) hS
  have hr0 : Y12.2.2 F 0 = some (F + 1) := p12.at
  refine r_aload_n C 0 dX5_init_15 rfl rfl ?_
  refine r_iconst (v := iI 2) C dX5_init_16 rfl ?_
  refine m_anew (t := 7) (n := 2) (D := RX4) C (by decide) (by decide) rfl (by decide) wc_X5_7 rfl (by decide) (Nat.le_of_ble_eq_true rfl) (Nat.le_of_ble_eq_true rfl) dX5_init_17 (fun x17 Y17 I17 L17 n17 eI17 eL17 => ?_)
  have ex17 : x17 = F + 207 := by have := n17.1; omega
  subst ex17
  replace h0 : Is base Y17 (F) (.inl 5) := (n17.keep h0)
  replace hY : base + Y17.1 = F + 207 + 1 := (by rw [n17.2.1]; omega)
  replace hsm : Sm F Y I L Y17 I17 L17 := (hsm.tr (Sm.nw n17 eI17 eL17) (by omega))
  replace hr2 : Y17.2.2 (F) 2 = none := (by rw [n17.rn (by omega)]; exact hr2)
  replace hr0 : Y17.2.2 (F) 0 = some (F + 1) := (by rw [n17.rn (by omega)]; exact hr0)
  have hz17 : I17 (F + 207) = fun _ => 0 := by rw [eI17, up1_s]
  have hl17 : L17 (F + 207) = fun _ => 0 := by rw [eL17, up1_s]
  have hr17 : ∀ k, Y17.2.2 (F + 207) k = none := fun k => by rw [n17.2.2.2, up1_s]
  replace hS : SLy base Y17 (F + 1) := SLy.mono (fun y y1 y2 => ⟨n17.kn (by omega), n17.rn (by omega)⟩) (by rw [n17.2.1]; omega) hS
  have hsl : Is base Y17 (F + 207) (.inr (7, 2)) := n17.is
  have hsr : ∀ k, Y17.2.2 (F + 207) k = none := hr17
  refine m_putRF C fl_X5_16 rfl dX5_init_20 h0 (hnm.trans rfl) rfl (fun Y20 p20 => ?_)
  replace h0 : Is base Y20 (F) (.inl 5) := (p20.keep h0)
  replace hY : base + Y20.1 = F + 207 + 1 := (by rw [p20.n]; exact hY)
  replace hsm : Sm F Y I L Y20 I17 L17 := (hsm.tr (Sm.pr p20 (by omega)) (Nat.le_refl _))
  replace hr2 : Y20.2.2 (F) 2 = none := (by rw [p20.nk (by omega)]; exact hr2)
  replace hr0 : Y20.2.2 (F) 0 = some (F + 1) := (by rw [p20.nk (by omega)]; exact hr0)
  replace hsl : Is base Y20 (F + 207) (.inr (7, 2)) := (p20.keep hsl)
  replace hS : SLy base Y20 (F + 1) := SLy.mono (fun y y1 y2 => ⟨by rw [p20.kn], p20.rn (by omega)⟩) (by rw [p20.n]; exact Nat.le_refl _) hS
  replace hsr : ∀ k, Y20.2.2 (F + 207) k = none := fun k => by rw [p20.rn (by omega)]; exact hsr k
  have hr1 : Y20.2.2 F 1 = some (F + 207) := p20.at
  refine r_aload_n C 0 dX5_init_23 rfl rfl ?_
  refine r_null C dX5_init_24 ?_
  refine r_putNul C fl_X5_20 rfl dX5_init_25 h0 ?_
  refine r_vret C hr hlk dX5_init_28 (Nat.le_of_ble_eq_true rfl) (Nat.le_of_ble_eq_true rfl) ?_
  have eY : (Y20.1, Y20.2.1, up2 Y20.2.2 F 2 none) = Y20 := by
    have : up2 Y20.2.2 F 2 none = Y20.2.2 := by
      have h := up2_id Y20.2.2 F 2
      rw [hr2] at h
      exact h
    rw [this]
  rw [eY]
  refine ⟨rfl, by rw [p20.n, n17.2.1, p12.n, hn9, n5.2.1], hsm, h0, hr0, hr1, hr2, hS, hsl, hsr, X, ?_, ?_, hX3⟩
  · rw [eI17]
    exact cI_keep hX1 (by omega)
  · rw [eL17]
    exact cL_keep hX2 (by omega)
