theorem lN_0 {n : Nat} (h : n < 2 ^ 64) : lN n = lI 0 ↔ n = 0 := by
  constructor
  · intro z
    have h2 := congrArg (fun z : Int64 => z.toBitVec.toNat) z
    have h3 : (lN n).toBitVec.toNat = n := wb_tn h
    rw [h3] at h2
    exact h2
  · intro z
    rw [z]
    rfl
theorem i2c_b {v : Int} (hz : 0 ≤ v ∧ v < 65536) : ((iI v).toUInt32 % 65536).toInt32 = iI v := by
  have h := n_char hz
  exact Value.int.inj h
theorem ptN_s (XX n k : Nat) : ptN XX (n + 1) k = if byt XX k = 0 then k else if 33 ≤ byt XX k ∧ byt XX k ≤ 126 then ptN XX n (k + 1) else 99 := rfl
/-- what the class counts -/
noncomputable def cnt (XX : Nat) : Int := @ite _ (putOK XX) (Classical.propDecidable _) (ptN XX 8 0) 0
theorem cnt_y {XX : Nat} (h : putOK XX) : cnt XX = ptN XX 8 0 := @if_pos _ (Classical.propDecidable _) h _ _ _
theorem cnt_n {XX : Nat} (h : ¬ putOK XX) : cnt XX = 0 := @if_neg _ (Classical.propDecidable _) h _ _ _
theorem ptN_le {XX : Nat} : ∀ n k, ptN XX n k = 99 ∨ (k ≤ ptN XX n k ∧ ptN XX n k ≤ k + n)
  | 0, k => Or.inr ⟨Nat.le_refl _, Nat.le_refl _⟩
  | n + 1, k => by
    rw [ptN_s]
    split
    · exact Or.inr ⟨Nat.le_refl _, by omega⟩
    · split
      · rcases ptN_le (XX := XX) n (k + 1) with h | h
        · exact Or.inl h
        · exact Or.inr ⟨by omega, by omega⟩
      · exact Or.inl rfl
theorem cnt_b {XX : Nat} : 0 ≤ cnt XX ∧ cnt XX ≤ 8 := by
  by_cases h : putOK XX
  · rw [cnt_y h]
    rcases ptN_le (XX := XX) 8 0 with h2 | h2
    · exact absurd h2 h.1
    · omega
  · rw [cnt_n h]; omega
theorem byt0 {XX k : Nat} (h : XX / 2 ^ (8 * k) = 0) : byt XX k = 0 := by unfold byt; rw [h]
set_option maxHeartbeats 4000000 in
set_option maxRecDepth 20000 in
theorem k_X5_countCharacters {l : Launch} {G : Gd} {base : Nat} {Y : MY} {I : MI} {L : ML} {xc : Int64} (XX : Nat) (hX : XX < 2 ^ 64) (hxc : xc = lN XX) : Ct l yX5_countCharacters cX5_countCharacters 7 (some .int) (rmz 0 0) G base [.long xc] Y I L (PI (cnt XX) Y I L) := by
  refine Ct.of (own := RX5) (lo := [(0, .long xc)]) (by decide) rfl (Nat.le_of_ble_eq_true rfl) rfl ?_
  intro zp ze zs zm zargs zbl zmt zc C hr hlk hnm
  refine r_iconst (v := iI 0) C dX5_countCharacters_0 rfl ?_
  refine r_istore_n (lo' := [(2, .int (iI 0)), (0, .long xc)]) C dX5_countCharacters_1 rfl (by decide) rfl ?_
  have lp2 : ∀ (k : Nat) (x2 : Int) (i : Nat) (hx2 : x2 = i) (hi : i ≤ 8) (hp : ptN XX (8 - i) i = ptN XX 8 0), 8 - i = k → Bd zp l ze (rmz 0 0) zs zm zargs zbl zmt zc 7 G base (PI (cnt XX) Y I L) 2 [(2, .int (iI x2)), (0, .long xc)] [] Y I L 0 0 := by
    intro k
    induction k using Nat.strongRecOn with
    | _ k ih2 =>
    intro x2 i hx2 hi hp hk2
    refine r_iload_n C 0 dX5_countCharacters_2 rfl rfl ?_
    refine r_bipush (v := iI 8) C dX5_countCharacters_3 (by decide) ?_
    refine n_icmp_ge (tgt := 56) C dX5_countCharacters_5 (by decide) (by constructor <;> omega) ⟨by decide, by decide⟩ (fun c5 => ?_) (fun c5 => ?_)
    · refine r_bipush (v := iI 8) C dX5_countCharacters_56 (by decide) ?_
      refine r_iret C hr hlk dX5_countCharacters_58 (Nat.zero_le _) (Nat.zero_le _) ?_
      exact ⟨congrArg (fun z => some (Value.int (iI z))) (by
          have hp8 : ptN XX 8 0 = 8 := by rw [← hp, show 8 - i = 0 by omega]; show i = 8; omega
          rw [cnt_y ⟨by omega, by omega, by rw [hp8]; exact Nat.div_eq_of_lt hX⟩, hp8]
          rfl), rfl, rfl, rfl⟩
    · have hp1 : (if byt XX i = 0 then i else if 33 ≤ byt XX i ∧ byt XX i ≤ 126 then ptN XX (8 - (i + 1)) (i + 1) else 99) = ptN XX 8 0 := by
        rw [← hp, show 8 - i = (8 - (i + 1)) + 1 by omega]
        rfl
      have hbl := byt_lt XX i
      have hlt : XX / 2 ^ (8 * i) < 2 ^ 64 := Nat.lt_of_le_of_lt (Nat.div_le_self _ _) hX
      refine r_lload_n C 1 dX5_countCharacters_8 rfl rfl ?_
      refine r_bipush (v := iI 8) C dX5_countCharacters_9 (by decide) ?_
      refine r_iload_n C 0 dX5_countCharacters_11 rfl rfl ?_
      refine n_imul C dX5_countCharacters_12 ?_
      refine r_lushr C dX5_countCharacters_13 ?_
      refine r_eql (y := (lN (XX / 2 ^ (8 * i)))) (by rw [hxc, show (8 * x2 : Int) = ((8 * i : Nat) : Int) by omega]; exact byt_us hX (by omega)) ?_
      refine r_topl (fun x14 ex14 => ?_)
      refine r_lstore_n (lo' := [(3, .long x14), (2, .int (iI x2)), (0, .long xc)]) C dX5_countCharacters_14 rfl (by decide) rfl ?_
      refine r_lload_n C 0 dX5_countCharacters_15 rfl rfl ?_
      refine r_lconst (v := lI 0) C dX5_countCharacters_16 (by decide) ?_
      refine r_lcmp_ne (tgt := 23) C dX5_countCharacters_17 dX5_countCharacters_18 rfl rfl (by decide) (fun c17 => ?_) (fun c17 => ?_)
      · rw [ex14, lN_0 hlt] at c17
        refine r_lload_n C 0 dX5_countCharacters_23 rfl rfl ?_
        refine n_ldc2 (v := 255) C lc_X5_293 (by decide) dX5_countCharacters_24 ?_
        refine r_land C dX5_countCharacters_27 ?_
        refine r_ceql (z := ((byt XX i : Nat) : Int)) (by rw [ex14]; exact byt_and hX) ?_
        refine n_topl (fun x28 ex28 => ?_)
        refine r_lstore (lo' := [(5, .long (lI x28)), (3, .long x14), (2, .int (iI x2)), (0, .long xc)]) C dX5_countCharacters_28 (by decide) rfl ?_
        refine r_lload C 0 dX5_countCharacters_30 rfl ?_
        refine n_ldc2 (v := 33) C lc_X5_295 (by decide) dX5_countCharacters_32 ?_
        refine n_lcmp_lt (tgt := 48) C dX5_countCharacters_35 dX5_countCharacters_36 rfl rfl (by decide) (by constructor <;> omega) ⟨by decide, by decide⟩ (fun c35 => ?_) (fun c35 => ?_)
        · refine r_iconst (v := iI 0) C dX5_countCharacters_48 rfl ?_
          refine r_iret C hr hlk dX5_countCharacters_49 (Nat.zero_le _) (Nat.zero_le _) ?_
          exact ⟨congrArg (fun z => some (Value.int (iI z))) (by
              rw [cnt_n]
              intro h
              have h1 := h.1
              have h3 := h.2.2
              by_cases hb : byt XX i = 0
              · rw [if_pos hb] at hp1
                rw [← hp1] at h3
                exact c17 h3
              · rw [if_neg hb, if_neg (by omega)] at hp1
                omega), rfl, rfl, rfl⟩
        · refine r_lload C 0 dX5_countCharacters_39 rfl ?_
          refine n_ldc2 (v := 126) C lc_X5_297 (by decide) dX5_countCharacters_41 ?_
          refine n_lcmp_le (tgt := 50) C dX5_countCharacters_44 dX5_countCharacters_45 rfl rfl (by decide) (by constructor <;> omega) ⟨by decide, by decide⟩ (fun c44 => ?_) (fun c44 => ?_)
          · refine n_iinc (lo' := [(2, .int (iI (x2 + 1))), (5, .long (lI x28)), (3, .long x14), (0, .long xc)]) C 2 dX5_countCharacters_50 rfl rfl (by decide) rfl ?_
            refine r_goto (tgt := 2) C dX5_countCharacters_53 (by decide) ?_
            refine r_lo [0, 3] rfl ?_
            exact ih2 _ (by first | omega | (rw [← hk2]; omega)) ((x2 + 1)) (i + 1) (by omega) (by omega) (by rw [if_neg (by omega), if_pos (by omega)] at hp1; exact hp1) rfl
          · refine r_iconst (v := iI 0) C dX5_countCharacters_48 rfl ?_
            refine r_iret C hr hlk dX5_countCharacters_49 (Nat.zero_le _) (Nat.zero_le _) ?_
            exact ⟨congrArg (fun z => some (Value.int (iI z))) (by
                rw [cnt_n]
                intro h
                have h1 := h.1
                have h3 := h.2.2
                by_cases hb : byt XX i = 0
                · rw [if_pos hb] at hp1
                  rw [← hp1] at h3
                  exact c17 h3
                · rw [if_neg hb, if_neg (by omega)] at hp1
                  omega), rfl, rfl, rfl⟩
      · refine r_iload_n C 1 dX5_countCharacters_21 rfl rfl ?_
        refine r_iret C hr hlk dX5_countCharacters_22 (Nat.zero_le _) (Nat.zero_le _) ?_
        exact ⟨congrArg (fun z => some (Value.int (iI z))) (by
            rw [ex14, lN_0 hlt] at c17
            have hb := byt0 c17
            rw [if_pos hb] at hp1
            by_cases h : putOK XX
            · rw [cnt_y h, ← hp1]; exact hx2
            · rw [cnt_n h]
              have : i = 0 := by
                by_cases e : i = 0
                · exact e
                · exact absurd ⟨by omega, by omega, by rw [← hp1]; exact c17⟩ h
              omega), rfl, rfl, rfl⟩
  exact lp2 _ 0 0 rfl (by omega) rfl rfl
set_option maxHeartbeats 4000000 in
set_option maxRecDepth 20000 in
theorem k_X2_append {l : Launch} {G : Gd} {base : Nat} {Y : MY} {I : MI} {L : ML} {B : Nat} {X : Sa} {a : Sa} {N T : Int} {xc : Int64} {m_ : Int} (XX mn : Nat) (hS : SLy base Y B) (hI : Inv N T a) (hR : Rl true a X) (hX : XX < 2 ^ 64) (hxc : xc = lN XX) (hmn : m_ = mn) (hm8 : mn ≤ 8) (hfit : a 1825 + mn ≤ 80) : Ct l yX2_append cX2_append 5 (none) (rmz 0 0) G base [.ref (B + 204), .long xc, .int (iI m_)] Y (cI I B X) (cL L B X) (EV Y (fun I' L' => ∃ X', Rl true (up1 (ptC a XX mn mn) 1825 (a 1825 + mn)) X' ∧ X' = X' ∧ I' = cI I B X' ∧ L' = cL L B X')) := by
  refine Ct.of (own := RX2) (lo := [(0, .ref (B + 204)), (1, .long xc), (3, .int (iI m_))]) (by decide) rfl (Nat.le_of_ble_eq_true rfl) rfl ?_
  intro zp ze zs zm zargs zbl zmt zc C hr hlk hnm
  have hpd := hI.2.2.2.2.1
  obtain ⟨sz, hsz⟩ := Int.eq_ofNat_of_zero_le (show 0 ≤ a 1825 by omega)
  refine r_iload_n C 2 dX2_append_0 rfl rfl ?_
  refine r_iconst (v := iI 1) C dX2_append_1 rfl ?_
  refine n_isub C dX2_append_2 ?_
  refine n_topi (fun x3 ex3 => ?_)
  refine r_istore (lo' := [(4, .int (iI x3)), (0, .ref (B + 204)), (1, .long xc), (3, .int (iI m_))]) C dX2_append_3 (by decide) rfl ?_
  have lp5 : ∀ (k : Nat) (x4 : Int) (t : Nat) (X1 : Sa) (hx4 : x4 = (mn : Int) - 1 - t) (ht : t ≤ mn) (hR1 : Rl true (up1 (ptC a XX mn t) 1825 (a 1825 + t)) X1), mn - t = k → Bd zp l ze (rmz 0 0) zs zm zargs zbl zmt zc 5 G base (EV Y (fun I' L' => ∃ X', Rl true (up1 (ptC a XX mn mn) 1825 (a 1825 + mn)) X' ∧ X' = X' ∧ I' = cI I B X' ∧ L' = cL L B X')) 5 [(4, .int (iI x4)), (0, .ref (B + 204)), (1, .long xc), (3, .int (iI m_))] [] Y (cI I B X1) (cL L B X1) 0 0 := by
    intro k
    induction k using Nat.strongRecOn with
    | _ k ih5 =>
    intro x4 t X1 hx4 ht hR1 hk5
    refine r_iload C 0 dX2_append_5 rfl ?_
    refine n_if_lt (tgt := 60) C dX2_append_7 (by decide) (by constructor <;> omega) (fun c7 => ?_) (fun c7 => ?_)
    · refine r_vret C hr hlk dX2_append_60 (Nat.zero_le _) (Nat.zero_le _) ?_
      have e : t = mn := by omega
      subst e
      exact ⟨rfl, rfl, X1, hR1, rfl, rfl, rfl⟩
    · refine r_aload_n C 1 dX2_append_10 rfl rfl ?_
      refine c_getI C (v := (a 1825 + (t : Int))) 204 1825 rfl (by decide) ln204 rfl fl_X2_15 rfl dX2_append_11 hS.1.2.2.2.2.2.2.1 (by rw [hR1.t 1825 (by decide) (by decide), up1_s]) ?_
      refine r_aload_n C 1 dX2_append_14 rfl rfl ?_
      refine r_getR C fl_X2_9 rfl dX2_append_15 hS.1.2.2.2.2.2.2.1 hS.2.1.2.2.2.2.2.2 ?_
      refine r_alen C (by decide) dX2_append_18 hS.1.2.2.2.2.2.2.2 ?_
      refine n_icmp_ge (tgt := 54) C dX2_append_19 (by decide) (by constructor <;> omega) ⟨by decide, by decide⟩ (fun c19 => ?_) (fun c19 => ?_)
      · exfalso; omega
      · refine r_aload_n C 1 dX2_append_22 rfl rfl ?_
        refine r_getR C fl_X2_9 rfl dX2_append_23 hS.1.2.2.2.2.2.2.1 hS.2.1.2.2.2.2.2.2 ?_
        refine r_aload_n C 1 dX2_append_26 rfl rfl ?_
        refine c_getI C (v := (a 1825 + (t : Int))) 204 1825 rfl (by decide) ln204 rfl fl_X2_15 rfl dX2_append_27 hS.1.2.2.2.2.2.2.1 (by rw [hR1.t 1825 (by decide) (by decide), up1_s]) ?_
        refine r_lload_n C 2 dX2_append_30 rfl rfl ?_
        refine r_bipush (v := iI 8) C dX2_append_31 (by decide) ?_
        refine r_iload C 0 dX2_append_33 rfl ?_
        refine n_imul C dX2_append_35 ?_
        refine r_lushr C dX2_append_36 ?_
        refine r_eql (y := (lN (XX / 2 ^ (8 * (mn - 1 - t))))) (by rw [hxc, show (8 * x4 : Int) = ((8 * (mn - 1 - t) : Nat) : Int) by omega]; exact byt_us hX (by omega)) ?_
        refine n_ldc2 (v := 255) C lc_X2_19 (by decide) dX2_append_37 ?_
        refine r_land C dX2_append_40 ?_
        have hbl := byt_lt XX (mn - 1 - t)
        refine r_ceql (z := ((byt XX (mn - 1 - t) : Nat) : Int)) (byt_and hX) ?_
        refine n_l2i C dX2_append_41 ?_
        refine r_i2c C dX2_append_42 ?_
        refine r_ceqi (z := ((byt XX (mn - 1 - t) : Nat) : Int)) (i2c_b (by omega)) ?_
        refine c_cast C 205 ((sz + t)) ((1745 + (sz + t))) rfl (by decide) ln205 (ky_T (by omega)) dX2_append_43 hS.1.2.2.2.2.2.2.2 ⟨congrArg iI (by omega), (by omega), by decide⟩ (by omega) (fun a43 ea43 => ?_)
        refine r_aload_n C 1 dX2_append_44 rfl rfl ?_
        refine r_dup C dX2_append_45 rfl ?_
        refine c_getI C (v := (a 1825 + (t : Int))) 204 1825 rfl (by decide) ln204 rfl fl_X2_15 rfl dX2_append_46 hS.1.2.2.2.2.2.2.1 (by rw [ea43, up1_n (by omega)]; exact (by rw [hR1.t 1825 (by decide) (by decide), up1_s])) ?_
        refine r_iconst (v := iI 1) C dX2_append_49 rfl ?_
        refine n_iadd C dX2_append_50 ?_
        refine c_putI C 204 1825 rfl (by decide) ln204 rfl fl_X2_15 rfl dX2_append_51 hS.1.2.2.2.2.2.2.1 (fun a51 ea51 => ?_)
        refine n_iinc (lo' := [(4, .int (iI (x4 + (-1)))), (0, .ref (B + 204)), (1, .long xc), (3, .int (iI m_))]) C 0 dX2_append_54 rfl rfl (by decide) rfl ?_
        refine r_goto (tgt := 5) C dX2_append_57 (by decide) ?_
        exact ih5 _ (by first | omega | (rw [← hk5]; omega)) ((x4 + (-1))) (t + 1) a51 (by omega) (by omega) (by
          have h1 := (hR1.upT (1745 + (sz + t)) (by omega) ((byt XX (mn - 1 - t) : Nat) : Int)).upT 1825 (by omega) (a 1825 + (t : Int) + 1)
          rw [← ea43, ← ea51] at h1
          rw [show a 1825 + ((t + 1 : Nat) : Int) = a 1825 + (t : Int) + 1 by omega]
          show Rl true (up1 (up1 (ptC a XX mn t) (1745 + (a 1825).toNat + t) _) 1825 _) a51
          rw [show 1745 + (a 1825).toNat + t = 1745 + (sz + t) by omega]
          rw [up1_c (i := 1825) (by omega), up1_u] at h1
          exact h1) rfl
  exact lp5 _ x3 0 X (by omega) (by omega) (by rw [show a 1825 + ((0 : Nat) : Int) = a 1825 by omega]; show Rl true (up1 a 1825 (a 1825)) X; rw [up1_self rfl]; exact hR) rfl
set_option maxHeartbeats 4000000 in
set_option maxRecDepth 20000 in
theorem k_X5_put {l : Launch} {G : Gd} {base : Nat} {Y : MY} {I : MI} {L : ML} {B : Nat} {X : Sa} {a : Sa} {N T : Int} {F : Nat} {xc : Int64} (XX : Nat) (hS : SLy base Y B) (hI : Inv N T a) (hR : Rl true a X) (hF : FLn base Y F B) (hX : XX < 2 ^ 64) (hxc : xc = lN XX) : Ct l yX5_put cX5_put 4 (some .int) (rmz 1 26) G base [.ref F, .long xc] Y (cI I B X) (cL L B X) (EI Y (fun r I' L' => ∃ a' X', (r = aPut a XX ∧ a' = putA a XX) ∧ Rl true a' X' ∧ I' = cI I B X' ∧ L' = cL L B X')) := by
  refine Ct.of (own := RX5) (lo := [(0, .ref F), (1, .long xc)]) (by decide) rfl (Nat.le_of_ble_eq_true rfl) rfl ?_
  intro zp ze zs zm zargs zbl zmt zc C hr hlk hnm
  have hpd := hI.2.2.2.2.1
  have hcb := cnt_b (XX := XX)
  refine r_lload_n C 1 dX5_put_0 rfl rfl ?_
  refine cS1_PI C (k_X5_countCharacters XX hX hxc) cw_X5_119 (rm_ok rfl rfl (Nat.zero_le _) (Nat.zero_le _)) (Nat.le_of_ble_eq_true rfl) dX5_put_1 ?_
  refine n_topi (fun x4 ex4 => ?_)
  refine r_istore_n (lo' := [(3, .int (iI x4)), (0, .ref F), (1, .long xc)]) C dX5_put_4 rfl (by decide) rfl ?_
  refine r_iload_n C 0 dX5_put_5 rfl rfl ?_
  refine r_iconst (v := iI 1) C dX5_put_6 rfl ?_
  refine n_icmp_ge (tgt := 13) C dX5_put_7 (by decide) (by constructor <;> omega) ⟨by decide, by decide⟩ (fun c7 => ?_) (fun c7 => ?_)
  · have hok : putOK XX := by
      by_cases h : putOK XX
      · exact h
      · have := cnt_n h
        omega
    have hcy := cnt_y hok
    obtain ⟨mn, hmn⟩ : ∃ mn, mn = ptN XX 8 0 := ⟨_, rfl⟩
    have hno : ¬ ¬ putOK XX := fun h => h hok
    refine r_aload_n C 1 dX5_put_13 rfl rfl ?_
    refine r_getR C fl_X5_10 rfl dX5_put_14 hF.1 hF.2 ?_
    refine r_getR C fl_X5_123 rfl dX5_put_17 hS.1.1 hS.2.1.2.2.2.2.2.1 ?_
    refine c_getI C (v := (a 1825)) 204 1825 rfl (by decide) ln204 rfl fl_X5_127 rfl dX5_put_20 hS.1.2.2.2.2.2.2.1 (hR.t 1825 (by decide) (by decide)) ?_
    refine r_iload_n C 0 dX5_put_23 rfl rfl ?_
    refine n_iadd C dX5_put_24 ?_
    refine r_bipush (v := iI 80) C dX5_put_25 (by decide) ?_
    refine n_icmp_le (tgt := 33) C dX5_put_27 (by decide) (by constructor <;> omega) ⟨by decide, by decide⟩ (fun c27 => ?_) (fun c27 => ?_)
    · refine r_aload_n C 1 dX5_put_33 rfl rfl ?_
      refine r_getR C fl_X5_10 rfl dX5_put_34 hF.1 hF.2 ?_
      refine r_getR C fl_X5_123 rfl dX5_put_37 hS.1.1 hS.2.1.2.2.2.2.2.1 ?_
      refine r_lload_n C 2 dX5_put_40 rfl rfl ?_
      refine r_iload_n C 0 dX5_put_41 rfl rfl ?_
      refine cV2_EV C (k_X2_append XX mn hS hI hR hX hxc (by omega) (by omega) (by omega)) cw_X5_132 (rm_ok rfl rfl (Nat.zero_le _) (Nat.zero_le _)) (Nat.le_of_ble_eq_true rfl) hS.1.2.2.2.2.2.2.1 dX5_put_42 (fun I42 L42 h42 => ?_)
      obtain ⟨a42, h42R, -, h42I, h42L⟩ := h42
      subst h42I
      subst h42L
      refine r_aload_n C 1 dX5_put_45 rfl rfl ?_
      refine r_getR C fl_X5_10 rfl dX5_put_46 hF.1 hF.2 ?_
      refine r_getR C fl_X5_123 rfl dX5_put_49 hS.1.1 hS.2.1.2.2.2.2.2.1 ?_
      refine c_getI C (v := ((up1 (ptC a XX mn mn) 1825 (a 1825 + mn)) 1825)) 204 1825 rfl (by decide) ln204 rfl fl_X5_127 rfl dX5_put_52 hS.1.2.2.2.2.2.2.1 (h42R.t 1825 (by decide) (by decide)) ?_
      refine r_iret C hr hlk dX5_put_55 (Nat.zero_le _) (Nat.zero_le _) ?_
      refine ⟨_, rfl, rfl, _, a42, ⟨?_, ?_⟩, h42R, rfl, rfl⟩
      · unfold aPut
        rw [@if_neg _ (Classical.propDecidable _) hno, if_neg (by omega), ← hmn, up1_s]
      · unfold putA
        rw [@if_neg _ (Classical.propDecidable _) hno, if_neg (by omega), ← hmn]
    · refine r_bipush (v := iI (-4)) C dX5_put_30 (by decide) ?_
      refine r_iret C hr hlk dX5_put_32 (Nat.zero_le _) (Nat.zero_le _) ?_
      exact ⟨_, rfl, rfl, a, X, ⟨by unfold aPut; rw [@if_neg _ (Classical.propDecidable _) hno, if_pos (by omega)], by unfold putA; rw [@if_neg _ (Classical.propDecidable _) hno, if_pos (by omega)]⟩, hR, rfl, rfl⟩
  · refine r_bipush (v := iI (-2)) C dX5_put_10 (by decide) ?_
    refine r_iret C hr hlk dX5_put_12 (Nat.zero_le _) (Nat.zero_le _) ?_
    have hbad : ¬ putOK XX := fun h => by
      have := cnt_y h
      have h2 := h.2.1
      omega
    exact ⟨_, rfl, rfl, a, X, ⟨by unfold aPut; rw [@if_pos _ (Classical.propDecidable _) hbad], by unfold putA; rw [@if_pos _ (Classical.propDecidable _) hbad]⟩, hR, rfl, rfl⟩
set_option maxHeartbeats 4000000 in
set_option maxRecDepth 20000 in
theorem k_X5_wipe {l : Launch} {G : Gd} {base : Nat} {Y : MY} {I : MI} {L : ML} {B : Nat} {X : Sa} {a : Sa} {N T : Int} {F : Nat}  (hS : SLy base Y B) (hI : Inv N T a) (hR : Rl true a X) (hF : FLn base Y F B)  : Ct l yX5_wipe cX5_wipe 2 (some .int) (rmz 0 0) G base [.ref F] Y (cI I B X) (cL L B X) (EI Y (fun r I' L' => ∃ a' X', (r = a 1825 ∧ a' = up1 a 1825 0) ∧ Rl true a' X' ∧ I' = cI I B X' ∧ L' = cL L B X')) := by
  refine Ct.of (own := RX5) (lo := [(0, .ref F)]) (by decide) rfl (Nat.le_of_ble_eq_true rfl) rfl ?_
  intro zp ze zs zm zargs zbl zmt zc C hr hlk hnm
  refine r_aload_n C 0 dX5_wipe_0 rfl rfl ?_
  refine r_getR C fl_X5_10 rfl dX5_wipe_1 hF.1 hF.2 ?_
  refine r_getR C fl_X5_123 rfl dX5_wipe_4 hS.1.1 hS.2.1.2.2.2.2.2.1 ?_
  refine c_getI C (v := (a 1825)) 204 1825 rfl (by decide) ln204 rfl fl_X5_127 rfl dX5_wipe_7 hS.1.2.2.2.2.2.2.1 (hR.t 1825 (by decide) (by decide)) ?_
  refine n_topi (fun x10 ex10 => ?_)
  refine r_istore_n (lo' := [(1, .int (iI x10)), (0, .ref F)]) C dX5_wipe_10 rfl (by decide) rfl ?_
  refine r_aload_n C 1 dX5_wipe_11 rfl rfl ?_
  refine r_getR C fl_X5_10 rfl dX5_wipe_12 hF.1 hF.2 ?_
  refine r_getR C fl_X5_123 rfl dX5_wipe_15 hS.1.1 hS.2.1.2.2.2.2.2.1 ?_
  refine r_iconst (v := iI 0) C dX5_wipe_18 rfl ?_
  refine c_putI C 204 1825 rfl (by decide) ln204 rfl fl_X5_127 rfl dX5_wipe_19 hS.1.2.2.2.2.2.2.1 (fun a19 ea19 => ?_)
  refine r_iload_n C 0 dX5_wipe_22 rfl rfl ?_
  refine r_iret C hr hlk dX5_wipe_23 (Nat.zero_le _) (Nat.zero_le _) ?_
  exact ⟨_, rfl, rfl, _, a19, ⟨ex10, rfl⟩, by rw [ea19]; exact hR.upT 1825 (by decide) 0, rfl, rfl⟩
set_option maxHeartbeats 4000000 in
set_option maxRecDepth 20000 in
theorem k_X5_fault {l : Launch} {G : Gd} {base : Nat} {Y : MY} {I : MI} {L : ML} {B : Nat} {X : Sa} {a : Sa} {N T : Int} {F : Nat}  (hS : SLy base Y B) (hI : Inv N T a) (hR : Rl true a X) (hF : FLn base Y F B)  : Ct l yX5_fault cX5_fault 1 (some .int) (rmz 4 89) G base [.ref F] Y (cI I B X) (cL L B X) (EI Y (fun r I' L' => ∃ a' X', (r = aFlt a ∧ a' = a) ∧ Rl true a' X' ∧ I' = cI I B X' ∧ L' = cL L B X')) := by
  refine Ct.of (own := RX5) (lo := [(0, .ref F)]) (by decide) rfl (Nat.le_of_ble_eq_true rfl) rfl ?_
  intro zp ze zs zm zargs zbl zmt zc C hr hlk hnm
  refine r_aload_n C 0 dX5_fault_0 rfl rfl ?_
  refine r_getR C fl_X5_10 rfl dX5_fault_1 hF.1 hF.2 ?_
  refine r_getR C fl_X5_123 rfl dX5_fault_4 hS.1.1 hS.2.1.2.2.2.2.2.1 ?_
  refine cV0_EI C (k_X2_findFault hS hI (fun k k1 k2 => hR.t k k1 k2)) cw_X5_136 (rm_ok rfl rfl (Nat.zero_le _) (Nat.zero_le _)) (Nat.le_of_ble_eq_true rfl) hS.1.2.2.2.2.2.2.1 dX5_fault_7 (fun r7 I7 L7 h7 => ?_)
  obtain ⟨h7r, a7, kp7, h7I, h7L⟩ := h7
  subst h7I
  subst h7L
  refine r_iret C hr hlk dX5_fault_10 (Nat.zero_le _) (Nat.zero_le _) ?_
  exact ⟨_, rfl, rfl, a, a7, ⟨h7r, rfl⟩, hR.kp hI kp7, rfl, rfl⟩
set_option maxHeartbeats 4000000 in
set_option maxRecDepth 20000 in
theorem k_X5_load {l : Launch} {G : Gd} {base : Nat} {Y : MY} {I : MI} {L : ML} {B : Nat} {X : Sa} {a : Sa} {N T : Int} {F : Nat}  (hS : SLy base Y B) (hI : Inv N T a) (hR : Rl true a X) (hF : FLn base Y F B) (hN : NowOK a) (hLg : LagOK a) (hN3 : N + 243 ≤ 400000) : Ct l yX5_load cX5_load 2 (some .int) (rmz 5 113) G base [.ref F] Y (cI I B X) (cL L B X) (EI Y (fun r I' L' => ∃ a' X', (r = aLd a ∧ a' = ldA a) ∧ Rl true a' X' ∧ I' = cI I B X' ∧ L' = cL L B X')) := by
  refine Ct.of (own := RX5) (lo := [(0, .ref F)]) (by decide) rfl (Nat.le_of_ble_eq_true rfl) rfl ?_
  intro zp ze zs zm zargs zbl zmt zc C hr hlk hnm
  have hfb := aFlt_b hI
  refine r_aload_n C 0 dX5_load_0 rfl rfl ?_
  refine r_getR C fl_X5_10 rfl dX5_load_1 hF.1 hF.2 ?_
  refine r_getR C fl_X5_123 rfl dX5_load_4 hS.1.1 hS.2.1.2.2.2.2.2.1 ?_
  refine cV0_EI C (k_X2_findFault hS hI (fun k k1 k2 => hR.t k k1 k2)) cw_X5_136 (rm_ok rfl rfl (Nat.zero_le _) (Nat.zero_le _)) (Nat.le_of_ble_eq_true rfl) hS.1.2.2.2.2.2.2.1 dX5_load_7 (fun r7 I7 L7 h7 => ?_)
  obtain ⟨h7r, a7, kp7, h7I, h7L⟩ := h7
  subst h7I
  subst h7L
  have hR7 := hR.kp hI kp7
  refine r_bipush (v := iI (-6)) C dX5_load_10 (by decide) ?_
  refine n_icmp_eq (tgt := 18) C dX5_load_12 (by decide) (by constructor <;> omega) ⟨by decide, by decide⟩ (fun c12 => ?_) (fun c12 => ?_)
  · refine r_aload_n C 0 dX5_load_18 rfl rfl ?_
    refine cV0_EI C (k_X5_hasFlowsOfPad hS hI (fun k k1 k2 => hR7.t k k1 k2) hF (hR7.n 2 (by decide) (by decide)) (by omega)) cw_X5_140 (rm_ok rfl rfl (Nat.zero_le _) (Nat.zero_le _)) (Nat.le_of_ble_eq_true rfl) hF.1 dX5_load_19 (fun r19 I19 L19 h19 => ?_)
    obtain ⟨h19r, a19, kp19, h19I, h19L⟩ := h19
    subst h19I
    subst h19L
    have hR19 := hR7.kp hI kp19
    refine n_if_ne (tgt := 27) C dX5_load_22 (by decide) (by rcases h19r with h | h <;> constructor <;> omega) (fun c22 => ?_) (fun c22 => ?_)
    · have hfl : ldF a := by
        rcases h19r with h | h
        · exact h.2
        · omega
      refine r_aload_n C 0 dX5_load_27 rfl rfl ?_
      refine cV0_EI C (k_X5_acceptArrivals hS hI hR19 hF hN hLg (by omega) hfl hN3) cw_X5_143 (rm_ok rfl rfl (Nat.zero_le _) (Nat.zero_le _)) (Nat.le_of_ble_eq_true rfl) hF.1 dX5_load_28 (fun r28 I28 L28 h28 => ?_)
      obtain ⟨h28r, a28, h28R, h28I, h28L⟩ := h28
      subst h28I
      subst h28L
      refine r_istore_n (lo' := [(1, .int (iI r28)), (0, .ref F)]) C dX5_load_31 rfl (by decide) rfl ?_
      refine r_aload_n C 1 dX5_load_32 rfl rfl ?_
      refine r_getR C fl_X5_10 rfl dX5_load_33 hF.1 hF.2 ?_
      refine r_getR C fl_X5_123 rfl dX5_load_36 hS.1.1 hS.2.1.2.2.2.2.2.1 ?_
      refine r_iconst (v := iI 0) C dX5_load_39 rfl ?_
      refine c_putI C 204 1825 rfl (by decide) ln204 rfl fl_X5_127 rfl dX5_load_40 hS.1.2.2.2.2.2.2.1 (fun a40 ea40 => ?_)
      refine r_iload_n C 0 dX5_load_43 rfl rfl ?_
      refine r_iret C hr hlk dX5_load_44 (Nat.zero_le _) (Nat.zero_le _) ?_
      refine ⟨_, rfl, rfl, _, a40, ⟨?_, rfl⟩, ?_, rfl, rfl⟩
      · unfold aLd
        rw [if_neg (by omega), @if_pos _ (Classical.propDecidable _) hfl]
        exact h28r
      · unfold ldA
        rw [if_neg (by omega), @if_pos _ (Classical.propDecidable _) hfl, ea40]
        exact h28R.upT 1825 (by decide) 0
    · refine r_iconst (v := iI (-1)) C dX5_load_25 rfl ?_
      refine r_iret C hr hlk dX5_load_26 (Nat.zero_le _) (Nat.zero_le _) ?_
      have hnf : ¬ ldF a := by
        rcases h19r with h | h
        · omega
        · exact h.2
      exact ⟨_, rfl, rfl, a, a19, ⟨by unfold aLd; rw [if_neg (by omega), @if_neg _ (Classical.propDecidable _) hnf], by unfold ldA; rw [if_neg (by omega), @if_neg _ (Classical.propDecidable _) hnf]⟩, hR19, rfl, rfl⟩
  · refine r_bipush (v := iI (-3)) C dX5_load_15 (by decide) ?_
    refine r_iret C hr hlk dX5_load_17 (Nat.zero_le _) (Nat.zero_le _) ?_
    exact ⟨_, rfl, rfl, a, a7, ⟨by unfold aLd; rw [if_pos (by omega)], by unfold ldA; rw [if_pos (by omega)]⟩, hR7, rfl, rfl⟩
