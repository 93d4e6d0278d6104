/-- the class's row keeps all that is compared -/
def Kp (X X' : Sa) : Prop := ∀ k, (k < 3000 ∨ k = 3818 ∨ k = 8356) → X' k = X k
theorem Kp.rf {X : Sa} : Kp X X := fun _ _ => rfl
theorem Kp.tr {X X1 X2 : Sa} (h1 : Kp X X1) (h2 : Kp X1 X2) : Kp X X2 := fun k hk => (h2 k hk).trans (h1 k hk)
theorem Kp.up {X : Sa} {k : Nat} {v : Int} (h : 3000 ≤ k ∧ k ≠ 3818 ∧ k ≠ 8356) : Kp X (up1 X k v) := fun j hj => up1_n (by omega)
theorem Rl.kp {m : Bool} {a X X' : Sa} {N T : Int} (hI : Inv N T a) (h : Rl m a X) (hk : Kp X X') : Rl m a X' := by
  have hT := hI.1
  unfold TopOK at hT
  refine ⟨fun k k1 k2 => (hk k (by omega)).trans (h.n k k1 k2), fun f hf k hk2 => ?_, fun p p1 p2 => ⟨fun k k1 => (hk _ (by omega)).trans (h.p ⟨p1, p2⟩ k1), fun z => (hk _ (by omega)).trans (h.p10 ⟨p1, p2⟩ z)⟩, fun r r1 r2 k k1 => (hk _ (by omega)).trans (h.r r1 r2 k1), fun k k1 k2 => (hk _ (by omega)).trans (h.t k k1 k2), fun f hf i q hq => ?_, fun p hp => ⟨(hk _ (by omega)).trans (h.c hp).1, (hk _ (by omega)).trans (h.c hp).2⟩⟩
  · have := hk2.1
    exact (hk _ (by omega)).trans (h.f hf hk2)
  · have h20 := Inv.q20 hI f hf
    have hil := (List.getElem?_eq_some_iff.mp hq).1
    exact (hk _ (by omega)).trans (h.q hf hq)
theorem nmG_s {a : Sa} {m : Int} {k p : Nat} {v : Int} : nmG a m (k + 1) p v = if 48 ≤ ch a p ∧ ch a p ≤ 57 then (if m < 10 * v + ch a p - 48 then (p, v, 1) else nmG a m k (p + 1) (10 * v + ch a p - 48)) else (p, v, 0) := rfl
theorem nmG_z {a : Sa} {m : Int} : ∀ (k p : Nat) (v : Int), ((nmG a m k p v).1 : Int) ≤ max (p : Int) (a 1825)
  | 0, p, v => by unfold nmG; simp; omega
  | k + 1, p, v => by
    rw [nmG_s]
    split
    · rename_i h
      have hp : (p : Int) < a 1825 := by
        by_cases h2 : (p : Int) < a 1825
        · exact h2
        · unfold ch at h; rw [if_neg h2] at h; omega
      split
      · show ((p : Nat) : Int) ≤ _; omega
      · have := nmG_z (a := a) (m := m) k (p + 1) (10 * v + ch a p - 48)
        omega
    · show ((p : Nat) : Int) ≤ _; omega
theorem nmb_z {a : Sa} {m : Int} {p : Nat} (hp : (p : Int) ≤ a 1825) : ((nmb a m p).1 : Int) ≤ a 1825 := by
  unfold nmb
  split
  · have := nmG_z (a := a) (m := m) 81 p 0
    omega
  · exact hp
theorem nmG_d {a : Sa} {m : Int} : ∀ k p v, (nmG a m k p v).2.2 = 1 → 48 ≤ ch a (nmG a m k p v).1 ∧ ch a (nmG a m k p v).1 ≤ 57
  | 0, p, v, h => by unfold nmG at h; exact absurd h (by simp)
  | k + 1, p, v, h => by
    rw [nmG_s] at h ⊢
    split at h
    · rename_i hd
      rw [if_pos hd]
      split at h
      · rename_i hm
        rw [if_pos hm]
        exact hd
      · rename_i hm
        rw [if_neg hm]
        exact nmG_d k (p + 1) _ h
    · exact absurd h (by simp)
theorem nmb_d {a : Sa} {m : Int} {p : Nat} (h1 : (nmb a m p).2.2 = 1) (h0 : ¬ (nmb a m p).2.1 = 0) : 48 ≤ ch a (nmb a m p).1 ∧ ch a (nmb a m p).1 ≤ 57 := by
  unfold nmb at h1 h0 ⊢
  split at h1
  · rename_i hd
    rw [if_pos hd]
    exact nmG_d 81 p 0 h1
  · rename_i hd
    rw [if_neg hd] at h0
    exact absurd rfl h0
theorem nst_stop {a : Sa} : ∀ k i, nst a k i < i + k → ¬ goes a (nst a k i)
  | 0, i, h => absurd h (by show ¬ i < i + 0; omega)
  | k + 1, i, h => by
    by_cases hg : goes a i
    · rw [nst_y hg] at h ⊢
      exact nst_stop k (i + 1) (by omega)
    · rw [nst_n hg]
      exact hg
theorem nsA_is {a : Sa} {N T : Int} (hI : Inv N T a) {i : Nat} (h : ∀ j, j < i → goes a j) (hn : ¬ goes a i) : nsA a = i := by
  have h1 := nsA_ok hI
  have h2 : ¬ goes a (nsA a) := nst_stop 30 0 (by have := h1.2.1; unfold nsA at this; omega)
  by_cases e1 : nsA a < i
  · exact absurd (h _ e1) h2
  · by_cases e2 : i < nsA a
    · exact absurd (h1.1 i e2) hn
    · omega
/-- the number behind a mark: where it ends, and what is answered -/
def rbP (a : Sa) (mk m : Int) (pl : Nat) : Nat := if ch a pl = mk then (nmb a m (pl + 1)).1 else pl
def rbV (a : Sa) (mk m w : Int) (pl : Nat) : Int := if ch a pl = mk then (if (nmb a m (pl + 1)).2.1 = 0 then -6 else (nmb a m (pl + 1)).2.1) else w
set_option maxHeartbeats 4000000 in
set_option maxRecDepth 20000 in
theorem k_X2_readNumber {l : Launch} {G : Gd} {base : Nat} {Y : MY} {I : MI} {L : ML} {B : Nat} {X : Sa} {a : Sa} {N T : Int} {m : Int} (pl : Nat) (hS : SLy base Y B) (hI : Inv N T a) (hTx : ∀ k, 1745 ≤ k → k ≤ 1825 → X k = a k) (hat : X 5880 = pl) (hpl : pl ≤ 80) (hm : 1 ≤ m ∧ m ≤ 9999) : Ct l yX2_readNumber cX2_readNumber 5 (some .int) (rmz 0 0) G base [.ref (B + 204), .int (iI m)] Y (cI I B X) (cL L B X) (EI Y (fun r I' L' => r = (nmb a m pl).2.1 ∧ I' = cI I B (up1 X 5880 (nmb a m pl).1) ∧ L' = cL L B (up1 X 5880 (nmb a m pl).1))) := by
  refine Ct.of (own := RX2) (lo := [(0, .ref (B + 204)), (1, .int (iI m))]) (by decide) rfl (Nat.le_of_ble_eq_true rfl) rfl ?_
  intro zp ze zs zm zargs zbl zmt zc C hr hlk hnm
  have hpd := hI.2.2.2.2.1
  have hpt := hI.2.2.2.2.2
  refine r_iconst (v := iI 0) C dX2_readNumber_0 rfl ?_
  refine r_istore_n (lo' := [(2, .int (iI 0)), (0, .ref (B + 204)), (1, .int (iI m))]) C dX2_readNumber_1 rfl (by decide) rfl ?_
  have lp2 : ∀ (k : Nat) (x2 : Int) (q : Nat) (X1 : Sa) (hq : pl ≤ q ∧ q ≤ 80) (hx2b : 0 ≤ x2 ∧ x2 ≤ m) (hX1 : X1 = up1 X 5880 (q : Int)) (hst : (x2 = 0 ∧ q = pl) ∨ (1 ≤ x2 ∧ ∃ k, 80 - q < k ∧ nmG a m k q x2 = nmb a m pl)) (htr : True), 80 - q = k → Bd zp l ze (rmz 0 0) zs zm zargs zbl zmt zc 5 G base (EI Y (fun r I' L' => r = (nmb a m pl).2.1 ∧ I' = cI I B (up1 X 5880 (nmb a m pl).1) ∧ L' = cL L B (up1 X 5880 (nmb a m pl).1))) 2 [(2, .int (iI x2)), (0, .ref (B + 204)), (1, .int (iI m))] [] Y (cI I B X1) (cL L B X1) 0 0 := by
    intro k
    induction k using Nat.strongRecOn with
    | _ k ih2 =>
    intro x2 q X1 hq hx2b hX1 hst htr hk2
    refine r_aload_n C 1 dX2_readNumber_2 rfl rfl ?_
    refine c_getI C (v := (q : Int)) 204 5880 rfl (by decide) ln204 rfl fl_X2_21 rfl dX2_readNumber_3 hS.1.2.2.2.2.2.2.1 (by rw [hX1, up1_s]) ?_
    refine r_aload_n C 1 dX2_readNumber_6 rfl rfl ?_
    refine c_getI C (v := (a 1825)) 204 1825 rfl (by decide) ln204 rfl fl_X2_15 rfl dX2_readNumber_7 hS.1.2.2.2.2.2.2.1 (by rw [hX1, up1_n (by omega)]; exact hTx _ (by omega) (by omega)) ?_
    refine n_icmp_ge (tgt := 88) C dX2_readNumber_10 (by decide) (by constructor <;> omega) (by constructor <;> omega) (fun c10 => ?_) (fun c10 => ?_)
    · refine r_iload_n C 0 dX2_readNumber_88 rfl rfl ?_
      refine r_iret C hr hlk dX2_readNumber_89 (Nat.zero_le _) (Nat.zero_le _) ?_
      have hch : ch a q = 0 := if_neg (by omega)
      have e : nmb a m pl = (q, x2, (nmb a m pl).2.2) := by
        rcases hst with ⟨h1, h2⟩ | ⟨h1, k, h2, h3⟩
        · have hn : ¬ (49 ≤ ch a pl ∧ ch a pl ≤ 57) ∨ m < 10 * 0 + ch a pl - 48 := by
            rw [← h2]
            omega
          rcases hn with hn | hn
          · unfold nmb
            rw [if_neg hn, h1, h2]
          · have e2 : nmb a m pl = (pl, 0, 1) := by
              unfold nmb
              by_cases hd : 49 ≤ ch a pl ∧ ch a pl ≤ 57
              · rw [if_pos hd]
                show nmG a m (80 + 1) pl 0 = _
                rw [nmG_s, if_pos (by omega), if_pos hn]
              · rw [if_neg hd]
            rw [e2, h1, h2]
        · obtain ⟨k, rfl⟩ : ∃ k2, k = k2 + 1 := ⟨k - 1, by omega⟩
          rw [nmG_s] at h3
          by_cases hd : 48 ≤ ch a q ∧ ch a q ≤ 57
          · rw [if_pos hd, if_pos (by omega)] at h3
            rw [← h3]
          · rw [if_neg hd] at h3
            rw [← h3]
      have er : x2 = (nmb a m pl).2.1 := by rw [e]
      have eq1 : ((nmb a m pl).1 : Int) = q := by rw [e]
      refine ⟨_, rfl, rfl, er, ?_, ?_⟩
      · rw [eq1, hX1]
      · rw [eq1, hX1]
    · have hpq := hpt q (by omega)
      have hch : ch a q = a (1745 + q) := if_pos (by omega)
      refine r_aload_n C 1 dX2_readNumber_13 rfl rfl ?_
      refine r_getR C fl_X2_9 rfl dX2_readNumber_14 hS.1.2.2.2.2.2.2.1 hS.2.1.2.2.2.2.2.2 ?_
      refine r_aload_n C 1 dX2_readNumber_17 rfl rfl ?_
      refine c_getI C (v := (q : Int)) 204 5880 rfl (by decide) ln204 rfl fl_X2_21 rfl dX2_readNumber_18 hS.1.2.2.2.2.2.2.1 (by rw [hX1, up1_s]) ?_
      refine c_cald C (v := (a (1745 + q))) 205 q ((1745 + q)) rfl (by decide) ln205 (ky_T (by omega)) dX2_readNumber_21 hS.1.2.2.2.2.2.2.2 ⟨congrArg iI (by omega), (by omega), by decide⟩ (by rw [hX1, up1_n (by omega)]; exact hTx _ (by omega) (by omega)) ?_
      refine r_bipush (v := iI 48) C dX2_readNumber_22 (by decide) ?_
      refine n_isub C dX2_readNumber_24 ?_
      refine n_topi (fun x25 ex25 => ?_)
      refine r_istore_n (lo' := [(3, .int (iI x25)), (2, .int (iI x2)), (0, .ref (B + 204)), (1, .int (iI m))]) C dX2_readNumber_25 rfl (by decide) rfl ?_
      have jn39 : ∀ x39 : Int, (¬ x2 = 0 ∧ x39 = 0) ∨ (x2 = 0 ∧ ¬ x25 = 0 ∧ x39 = 0) ∨ (x2 = 0 ∧ x25 = 0 ∧ x39 = 1) → Bd zp l ze (rmz 0 0) zs zm zargs zbl zmt zc 5 G base (EI Y (fun r I' L' => r = (nmb a m pl).2.1 ∧ I' = cI I B (up1 X 5880 (nmb a m pl).1) ∧ L' = cL L B (up1 X 5880 (nmb a m pl).1))) 39 [(3, .int (iI x25)), (2, .int (iI x2)), (0, .ref (B + 204)), (1, .int (iI m))] [.int (iI x39)] Y (cI I B X1) (cL L B X1) 0 0 := by
        intro x39 hx39
        refine r_istore (lo' := [(4, .int (iI x39)), (3, .int (iI x25)), (2, .int (iI x2)), (0, .ref (B + 204)), (1, .int (iI m))]) C dX2_readNumber_39 (by decide) rfl ?_
        refine r_iload_n C 1 dX2_readNumber_41 rfl rfl ?_
        refine n_if_lt (tgt := 66) C dX2_readNumber_42 (by decide) (by constructor <;> omega) (fun c42 => ?_) (fun c42 => ?_)
        · refine r_iload_n C 2 dX2_readNumber_66 rfl rfl ?_
          refine r_iret C hr hlk dX2_readNumber_67 (Nat.zero_le _) (Nat.zero_le _) ?_
          have e : nmb a m pl = (q, x2, (nmb a m pl).2.2) := by
            rcases hst with ⟨h1, h2⟩ | ⟨h1, k, h2, h3⟩
            · have hn : ¬ (49 ≤ ch a pl ∧ ch a pl ≤ 57) ∨ m < 10 * 0 + ch a pl - 48 := by
                rw [← h2]
                omega
              rcases hn with hn | hn
              · unfold nmb
                rw [if_neg hn, h1, h2]
              · have e2 : nmb a m pl = (pl, 0, 1) := by
                  unfold nmb
                  by_cases hd : 49 ≤ ch a pl ∧ ch a pl ≤ 57
                  · rw [if_pos hd]
                    show nmG a m (80 + 1) pl 0 = _
                    rw [nmG_s, if_pos (by omega), if_pos hn]
                  · rw [if_neg hd]
                rw [e2, h1, h2]
            · obtain ⟨k, rfl⟩ : ∃ k2, k = k2 + 1 := ⟨k - 1, by omega⟩
              rw [nmG_s] at h3
              by_cases hd : 48 ≤ ch a q ∧ ch a q ≤ 57
              · rw [if_pos hd, if_pos (by omega)] at h3
                rw [← h3]
              · rw [if_neg hd] at h3
                rw [← h3]
          have er : x2 = (nmb a m pl).2.1 := by rw [e]
          have eq1 : ((nmb a m pl).1 : Int) = q := by rw [e]
          refine ⟨_, rfl, rfl, er, ?_, ?_⟩
          · rw [eq1, hX1]
          · rw [eq1, hX1]
        · refine r_iload_n C 1 dX2_readNumber_45 rfl rfl ?_
          refine r_bipush (v := iI 9) C dX2_readNumber_46 (by decide) ?_
          refine n_icmp_gt (tgt := 66) C dX2_readNumber_48 (by decide) (by constructor <;> omega) ⟨by decide, by decide⟩ (fun c48 => ?_) (fun c48 => ?_)
          · refine r_iload_n C 2 dX2_readNumber_66 rfl rfl ?_
            refine r_iret C hr hlk dX2_readNumber_67 (Nat.zero_le _) (Nat.zero_le _) ?_
            have e : nmb a m pl = (q, x2, (nmb a m pl).2.2) := by
              rcases hst with ⟨h1, h2⟩ | ⟨h1, k, h2, h3⟩
              · have hn : ¬ (49 ≤ ch a pl ∧ ch a pl ≤ 57) ∨ m < 10 * 0 + ch a pl - 48 := by
                  rw [← h2]
                  omega
                rcases hn with hn | hn
                · unfold nmb
                  rw [if_neg hn, h1, h2]
                · have e2 : nmb a m pl = (pl, 0, 1) := by
                    unfold nmb
                    by_cases hd : 49 ≤ ch a pl ∧ ch a pl ≤ 57
                    · rw [if_pos hd]
                      show nmG a m (80 + 1) pl 0 = _
                      rw [nmG_s, if_pos (by omega), if_pos hn]
                    · rw [if_neg hd]
                  rw [e2, h1, h2]
              · obtain ⟨k, rfl⟩ : ∃ k2, k = k2 + 1 := ⟨k - 1, by omega⟩
                rw [nmG_s] at h3
                by_cases hd : 48 ≤ ch a q ∧ ch a q ≤ 57
                · rw [if_pos hd, if_pos (by omega)] at h3
                  rw [← h3]
                · rw [if_neg hd] at h3
                  rw [← h3]
            have er : x2 = (nmb a m pl).2.1 := by rw [e]
            have eq1 : ((nmb a m pl).1 : Int) = q := by rw [e]
            refine ⟨_, rfl, rfl, er, ?_, ?_⟩
            · rw [eq1, hX1]
            · rw [eq1, hX1]
          · refine r_iload C 0 dX2_readNumber_51 rfl ?_
            refine n_if_ne (tgt := 66) C dX2_readNumber_53 (by decide) (by constructor <;> omega) (fun c53 => ?_) (fun c53 => ?_)
            · refine r_iload_n C 2 dX2_readNumber_66 rfl rfl ?_
              refine r_iret C hr hlk dX2_readNumber_67 (Nat.zero_le _) (Nat.zero_le _) ?_
              have e : nmb a m pl = (q, x2, (nmb a m pl).2.2) := by
                rcases hst with ⟨h1, h2⟩ | ⟨h1, k, h2, h3⟩
                · have hn : ¬ (49 ≤ ch a pl ∧ ch a pl ≤ 57) ∨ m < 10 * 0 + ch a pl - 48 := by
                    rw [← h2]
                    omega
                  rcases hn with hn | hn
                  · unfold nmb
                    rw [if_neg hn, h1, h2]
                  · have e2 : nmb a m pl = (pl, 0, 1) := by
                      unfold nmb
                      by_cases hd : 49 ≤ ch a pl ∧ ch a pl ≤ 57
                      · rw [if_pos hd]
                        show nmG a m (80 + 1) pl 0 = _
                        rw [nmG_s, if_pos (by omega), if_pos hn]
                      · rw [if_neg hd]
                    rw [e2, h1, h2]
                · obtain ⟨k, rfl⟩ : ∃ k2, k = k2 + 1 := ⟨k - 1, by omega⟩
                  rw [nmG_s] at h3
                  by_cases hd : 48 ≤ ch a q ∧ ch a q ≤ 57
                  · rw [if_pos hd, if_pos (by omega)] at h3
                    rw [← h3]
                  · rw [if_neg hd] at h3
                    rw [← h3]
              have er : x2 = (nmb a m pl).2.1 := by rw [e]
              have eq1 : ((nmb a m pl).1 : Int) = q := by rw [e]
              refine ⟨_, rfl, rfl, er, ?_, ?_⟩
              · rw [eq1, hX1]
              · rw [eq1, hX1]
            · refine r_iload_n C 2 dX2_readNumber_56 rfl rfl ?_
              refine r_bipush (v := iI 10) C dX2_readNumber_57 (by decide) ?_
              refine n_imul C dX2_readNumber_59 ?_
              refine r_iload_n C 1 dX2_readNumber_60 rfl rfl ?_
              refine n_iadd C dX2_readNumber_61 ?_
              refine r_iload_n C 4 dX2_readNumber_62 rfl rfl ?_
              refine n_icmp_le (tgt := 68) C dX2_readNumber_63 (by decide) (by constructor <;> omega) (by constructor <;> omega) (fun c63 => ?_) (fun c63 => ?_)
              · refine r_iload_n C 2 dX2_readNumber_68 rfl rfl ?_
                refine r_bipush (v := iI 10) C dX2_readNumber_69 (by decide) ?_
                refine n_imul C dX2_readNumber_71 ?_
                refine r_iload_n C 1 dX2_readNumber_72 rfl rfl ?_
                refine n_iadd C dX2_readNumber_73 ?_
                refine n_topi (fun x74 ex74 => ?_)
                refine r_istore_n (lo' := [(2, .int (iI x74)), (4, .int (iI x39)), (3, .int (iI x25)), (0, .ref (B + 204)), (1, .int (iI m))]) C dX2_readNumber_74 rfl (by decide) rfl ?_
                refine r_aload_n C 3 dX2_readNumber_75 rfl rfl ?_
                refine r_dup C dX2_readNumber_76 rfl ?_
                refine c_getI C (v := (q : Int)) 204 5880 rfl (by decide) ln204 rfl fl_X2_21 rfl dX2_readNumber_77 hS.1.2.2.2.2.2.2.1 (by rw [hX1, up1_s]) ?_
                refine r_iconst (v := iI 1) C dX2_readNumber_80 rfl ?_
                refine n_iadd C dX2_readNumber_81 ?_
                refine c_putI C 204 5880 rfl (by decide) ln204 rfl fl_X2_21 rfl dX2_readNumber_82 hS.1.2.2.2.2.2.2.1 (fun a82 ea82 => ?_)
                refine r_goto (tgt := 2) C dX2_readNumber_85 (by decide) ?_
                refine r_lo [0, 3, 4] rfl ?_
                exact ih2 _ (by first | omega | (rw [← hk2]; omega)) x74 (q + 1) a82 (by omega) (by omega) (by rw [ea82, hX1, up1_u]; rfl) (by
                  right
                  refine ⟨by omega, ?_⟩
                  rcases hst with ⟨h1, h2⟩ | ⟨h1, k, h2, h3⟩
                  · refine ⟨80, by omega, ?_⟩
                    have hd : 49 ≤ ch a pl ∧ ch a pl ≤ 57 := by rw [← h2]; omega
                    unfold nmb
                    rw [if_pos hd]
                    show _ = nmG a m (80 + 1) pl 0
                    rw [nmG_s (k := 80) (p := pl) (v := 0), if_pos (by omega), if_neg (by rw [← h2]; omega), ← h2, show x74 = 10 * 0 + ch a q - 48 by omega]
                  · obtain ⟨k, rfl⟩ : ∃ k2, k = k2 + 1 := ⟨k - 1, by omega⟩
                    rw [nmG_s, if_pos (by omega), if_neg (by omega)] at h3
                    exact ⟨k, by omega, by rw [← h3, show x74 = 10 * x2 + ch a q - 48 by omega]⟩) trivial rfl
              · refine r_iload_n C 2 dX2_readNumber_66 rfl rfl ?_
                refine r_iret C hr hlk dX2_readNumber_67 (Nat.zero_le _) (Nat.zero_le _) ?_
                have e : nmb a m pl = (q, x2, (nmb a m pl).2.2) := by
                  rcases hst with ⟨h1, h2⟩ | ⟨h1, k, h2, h3⟩
                  · have hn : ¬ (49 ≤ ch a pl ∧ ch a pl ≤ 57) ∨ m < 10 * 0 + ch a pl - 48 := by
                      rw [← h2]
                      omega
                    rcases hn with hn | hn
                    · unfold nmb
                      rw [if_neg hn, h1, h2]
                    · have e2 : nmb a m pl = (pl, 0, 1) := by
                        unfold nmb
                        by_cases hd : 49 ≤ ch a pl ∧ ch a pl ≤ 57
                        · rw [if_pos hd]
                          show nmG a m (80 + 1) pl 0 = _
                          rw [nmG_s, if_pos (by omega), if_pos hn]
                        · rw [if_neg hd]
                      rw [e2, h1, h2]
                  · obtain ⟨k, rfl⟩ : ∃ k2, k = k2 + 1 := ⟨k - 1, by omega⟩
                    rw [nmG_s] at h3
                    by_cases hd : 48 ≤ ch a q ∧ ch a q ≤ 57
                    · rw [if_pos hd, if_pos (by omega)] at h3
                      rw [← h3]
                    · rw [if_neg hd] at h3
                      rw [← h3]
                have er : x2 = (nmb a m pl).2.1 := by rw [e]
                have eq1 : ((nmb a m pl).1 : Int) = q := by rw [e]
                refine ⟨_, rfl, rfl, er, ?_, ?_⟩
                · rw [eq1, hX1]
                · rw [eq1, hX1]
      refine r_iload_n C 1 dX2_readNumber_26 rfl rfl ?_
      refine n_if_ne (tgt := 38) C dX2_readNumber_27 (by decide) (by constructor <;> omega) (fun c27 => ?_) (fun c27 => ?_)
      · refine r_iconst (v := iI 0) C dX2_readNumber_38 rfl ?_
        exact jn39 _ (Or.inl ⟨c27, rfl⟩)
      · refine r_iload_n C 0 dX2_readNumber_30 rfl rfl ?_
        refine n_if_ne (tgt := 38) C dX2_readNumber_31 (by decide) (by constructor <;> omega) (fun c31 => ?_) (fun c31 => ?_)
        · refine r_iconst (v := iI 0) C dX2_readNumber_38 rfl ?_
          exact jn39 _ (Or.inr (Or.inl ⟨c27, c31, rfl⟩))
        · refine r_iconst (v := iI 1) C dX2_readNumber_34 rfl ?_
          refine r_goto (tgt := 39) C dX2_readNumber_35 (by decide) ?_
          exact jn39 _ (Or.inr (Or.inr (⟨c27, c31, rfl⟩)))
  exact lp2 _ 0 pl X (by omega) (by omega) (by rw [← hat]; exact (up1_self rfl).symm) (Or.inl ⟨rfl, rfl⟩) trivial rfl
set_option maxHeartbeats 4000000 in
set_option maxRecDepth 20000 in
theorem k_X2_readBehind {l : Launch} {G : Gd} {base : Nat} {Y : MY} {I : MI} {L : ML} {B : Nat} {X : Sa} {a : Sa} {N T : Int} {mk m wo : Int} (pl : Nat) (hS : SLy base Y B) (hI : Inv N T a) (hTx : ∀ k, 1745 ≤ k → k ≤ 1825 → X k = a k) (hat : X 5880 = pl) (hpl : pl ≤ 80) (hm : 1 ≤ m ∧ m ≤ 9999) (hmk : 1 ≤ mk ∧ mk ≤ 126) : Ct l yX2_readBehind cX2_readBehind 5 (some .int) (rmz 1 24) G base [.ref (B + 204), .int (iI mk), .int (iI m), .int (iI wo)] Y (cI I B X) (cL L B X) (EI Y (fun r I' L' => r = rbV a mk m wo pl ∧ I' = cI I B (up1 X 5880 (rbP a mk m pl : Nat)) ∧ L' = cL L B (up1 X 5880 (rbP a mk m pl : Nat)))) := by
  refine Ct.of (own := RX2) (lo := [(0, .ref (B + 204)), (1, .int (iI mk)), (2, .int (iI m)), (3, .int (iI wo))]) (by decide) rfl (Nat.le_of_ble_eq_true rfl) rfl ?_
  intro zp ze zs zm zargs zbl zmt zc C hr hlk hnm
  have hpd := hI.2.2.2.2.1
  have hpt := hI.2.2.2.2.2
  refine r_aload_n C 0 dX2_readBehind_0 rfl rfl ?_
  refine c_getI C (v := (pl : Int)) 204 5880 rfl (by decide) ln204 rfl fl_X2_21 rfl dX2_readBehind_1 hS.1.2.2.2.2.2.2.1 hat ?_
  refine r_aload_n C 0 dX2_readBehind_4 rfl rfl ?_
  refine c_getI C (v := (a 1825)) 204 1825 rfl (by decide) ln204 rfl fl_X2_15 rfl dX2_readBehind_5 hS.1.2.2.2.2.2.2.1 (hTx _ (by omega) (by omega)) ?_
  refine n_icmp_ge (tgt := 24) C dX2_readBehind_8 (by decide) (by constructor <;> omega) (by constructor <;> omega) (fun c8 => ?_) (fun c8 => ?_)
  · refine r_iload_n C 3 dX2_readBehind_24 rfl rfl ?_
    refine r_iret C hr hlk dX2_readBehind_25 (Nat.zero_le _) (Nat.zero_le _) ?_
    have hne : ¬ ch a pl = mk := by unfold ch; first | (rw [if_pos (by omega)]; omega) | (rw [if_neg (by omega)]; omega)
    have e1 : ((rbP a mk m pl : Nat) : Int) = X 5880 := by unfold rbP; rw [if_neg hne, hat]
    refine ⟨_, rfl, rfl, by unfold rbV; rw [if_neg hne], ?_, ?_⟩
    · rw [e1]; exact congrArg (cI I B) (up1_self rfl).symm
    · rw [e1]; exact congrArg (cL L B) (up1_self rfl).symm
  · have hpq := hpt pl (by omega)
    have hch : ch a pl = a (1745 + pl) := if_pos (by omega)
    refine r_aload_n C 0 dX2_readBehind_11 rfl rfl ?_
    refine r_getR C fl_X2_9 rfl dX2_readBehind_12 hS.1.2.2.2.2.2.2.1 hS.2.1.2.2.2.2.2.2 ?_
    refine r_aload_n C 0 dX2_readBehind_15 rfl rfl ?_
    refine c_getI C (v := (pl : Int)) 204 5880 rfl (by decide) ln204 rfl fl_X2_21 rfl dX2_readBehind_16 hS.1.2.2.2.2.2.2.1 hat ?_
    refine c_cald C (v := (a (1745 + pl))) 205 pl ((1745 + pl)) rfl (by decide) ln205 (ky_T (by omega)) dX2_readBehind_19 hS.1.2.2.2.2.2.2.2 ⟨congrArg iI (by omega), (by omega), by decide⟩ (hTx _ (by omega) (by omega)) ?_
    refine r_iload_n C 1 dX2_readBehind_20 rfl rfl ?_
    refine n_icmp_eq (tgt := 26) C dX2_readBehind_21 (by decide) (by constructor <;> omega) (by constructor <;> omega) (fun c21 => ?_) (fun c21 => ?_)
    · have hce : ch a pl = mk := by omega
      refine r_aload_n C 0 dX2_readBehind_26 rfl rfl ?_
      refine r_dup C dX2_readBehind_27 rfl ?_
      refine c_getI C (v := (pl : Int)) 204 5880 rfl (by decide) ln204 rfl fl_X2_21 rfl dX2_readBehind_28 hS.1.2.2.2.2.2.2.1 hat ?_
      refine r_iconst (v := iI 1) C dX2_readBehind_31 rfl ?_
      refine n_iadd C dX2_readBehind_32 ?_
      refine c_putI C 204 5880 rfl (by decide) ln204 rfl fl_X2_21 rfl dX2_readBehind_33 hS.1.2.2.2.2.2.2.1 (fun a33 ea33 => ?_)
      refine r_aload_n C 0 dX2_readBehind_36 rfl rfl ?_
      refine r_iload_n C 2 dX2_readBehind_37 rfl rfl ?_
      refine cV1_EI C (k_X2_readNumber (pl + 1) hS hI (fun k k1 k2 => by rw [ea33, up1_n (by omega)]; exact hTx k k1 k2) (show a33 5880 = ((pl + 1 : Nat) : Int) by rw [show a33 5880 = ((pl : Int) + 1) from (by rw [ea33, up1_s])]; omega) (by omega) (by omega)) cw_X2_31 (rm_ok rfl rfl (Nat.zero_le _) (Nat.zero_le _)) (Nat.le_of_ble_eq_true rfl) hS.1.2.2.2.2.2.2.1 dX2_readBehind_38 (fun r38 I38 L38 h38 => ?_)
      obtain ⟨h38r, h38I, h38L⟩ := h38
      obtain ⟨a38, ea38⟩ : ∃ z, z = up1 a33 5880 ((nmb a m (pl + 1)).1 : Int) := ⟨_, rfl⟩
      rw [← ea38] at h38I h38L
      subst h38I
      subst h38L
      have hnb := nmb_b hI (m := m) (by omega) (pl + 1) (by omega)
      refine r_istore (lo' := [(4, .int (iI r38)), (0, .ref (B + 204)), (1, .int (iI mk)), (2, .int (iI m)), (3, .int (iI wo))]) C dX2_readBehind_41 (by decide) rfl ?_
      have jn55 : ∀ x55 : Int, (¬ r38 = 0 ∧ x55 = r38) ∨ (r38 = 0 ∧ x55 = (-6)) → Bd zp l ze (rmz 1 24) zs zm zargs zbl zmt zc 5 G base (EI Y (fun r I' L' => r = rbV a mk m wo pl ∧ I' = cI I B (up1 X 5880 (rbP a mk m pl : Nat)) ∧ L' = cL L B (up1 X 5880 (rbP a mk m pl : Nat)))) 55 [(4, .int (iI r38)), (0, .ref (B + 204)), (1, .int (iI mk)), (2, .int (iI m)), (3, .int (iI wo))] [.int (iI x55)] Y (cI I B a38) (cL L B a38) 0 0 := by
        intro x55 hx55
        refine r_iret C hr hlk dX2_readBehind_55 (Nat.zero_le _) (Nat.zero_le _) ?_
        have e1 : a38 = up1 X 5880 ((rbP a mk m pl : Nat) : Int) := by
          rw [ea38, ea33, up1_u]
          unfold rbP
          rw [if_pos hce]
        refine ⟨_, rfl, rfl, ?_, congrArg (cI I B) e1, congrArg (cL L B) e1⟩
        unfold rbV
        rw [if_pos hce]
        rw [h38r] at hx55
        split <;> omega
      refine r_iload C 0 dX2_readBehind_43 rfl ?_
      refine n_if_ne (tgt := 53) C dX2_readBehind_45 (by decide) (by constructor <;> omega) (fun c45 => ?_) (fun c45 => ?_)
      · refine r_iload C 0 dX2_readBehind_53 rfl ?_
        exact jn55 _ (Or.inl ⟨c45, rfl⟩)
      · refine r_bipush (v := iI (-6)) C dX2_readBehind_48 (by decide) ?_
        refine r_goto (tgt := 55) C dX2_readBehind_50 (by decide) ?_
        exact jn55 _ (Or.inr (⟨c45, rfl⟩))
    · refine r_iload_n C 3 dX2_readBehind_24 rfl rfl ?_
      refine r_iret C hr hlk dX2_readBehind_25 (Nat.zero_le _) (Nat.zero_le _) ?_
      have hne : ¬ ch a pl = mk := by unfold ch; first | (rw [if_pos (by omega)]; omega) | (rw [if_neg (by omega)]; omega)
      have e1 : ((rbP a mk m pl : Nat) : Int) = X 5880 := by unfold rbP; rw [if_neg hne, hat]
      refine ⟨_, rfl, rfl, by unfold rbV; rw [if_neg hne], ?_, ?_⟩
      · rw [e1]; exact congrArg (cI I B) (up1_self rfl).symm
      · rw [e1]; exact congrArg (cL L B) (up1_self rfl).symm
