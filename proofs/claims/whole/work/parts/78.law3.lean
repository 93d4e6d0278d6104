theorem LI.up {base F B S M : Nat} {N N' : Int} {Y : MY} {I : MI} {L : ML} {a : Sa} (h : LI base F B S M N Y I L a) (hg : Geo base F B S M) (hN : N ≤ N') (hN4 : N' ≤ 400000) : LI base F B S M N' Y I L a := by
  obtain ⟨-, ⟨⟨X, eI, eL, hR⟩, hrow, hO, hPc⟩, -⟩ := id h
  exact h.stepA hg hN hN4 eI eL hR ⟨fun _ _ => rfl, rfl⟩ (fun _ _ _ => rfl) hrow (OK_N hO hN hN4) hPc
theorem LI.svk {base F B S M j d : Nat} {N : Int} {Y Y' : MY} {I I' : MI} {L L' : ML} {a : Sa} {op : Option Nat} (h : LI base F B S M N Y I L a) (hg : Geo base F B S M) (hj : j < 2) (hop : Y.2.2 S j = op) (hG : Grs base S j op Y I L Y' I' L' d) : M + 7 ≤ d ∧ MLy base Y' M ∧ L' (M + 1) = L (M + 1) := by
  have hle : Y.1 ≤ Y'.1 := by
    rcases hG.2.1 with ⟨-, e⟩ | ⟨-, -, e⟩
    · rw [e]; exact Nat.le_refl _
    · omega
  have hm := h.1.2.2.2.2.top
  have hd : M + 7 ≤ d := by
    rcases hG.2.1 with ⟨e, -⟩ | ⟨-, e, -⟩
    · exact (h.sd hj (hop.trans e)).2
    · omega
  obtain ⟨hf, -, hk, hF⟩ := hG
  have hg2 := hg
  obtain ⟨g1, g2, g3, g4⟩ := hg2
  have hFF : Y'.2.2 F = Y.2.2 F := (hk F (by omega) (by omega)).2.1 (by omega)
  exact ⟨hd, (ly_keep hg h.1 hle hd (fun y y1 y2 => (hk y y1 y2).1) (fun y y1 y2 _ y3 => (hk y y1 y2).2.1 y3) (fun k _ => by rw [hFF])).2.2.2.2, (hk (M + 1) (by omega) (by omega)).2.2.2⟩
theorem iI0t : (iI 0).toInt = 0 := by decide
theorem iI1t : (iI 1).toInt = 1 := by decide
set_option maxHeartbeats 4000000 in
set_option maxRecDepth 20000 in
theorem lc_save {p : Program} {l : Launch} {e : Env} {s : State} {m : MethodId} {args : Array Value} {below : List Frame} {meth : Method} {c : Code} {G : Gd} {base : Nat} {Q : State → Prop} {cells slots : Nat} (C : Cx p s m args c cL_law 4 RL G base) {b Ls : Nat} {xs : Nat → Int32} (hX : va_X b Ls xs s s.heap) (hbl : b < s.heap.size) (hbb : b < base) (hLs : Ls ≤ 3072) {F B S M n : Nat} {N : Int} {Y : MY} {I : MI} {L : ML} {a : Sa} {x3 : Int} (hx3 : x3 = 6 * (n : Int)) (hn : 6 * n + 6 ≤ Ls) (hg : Geo base F B S M) (h : LI base F B S M N Y I L a) (hN : N + 243 ≤ 400000) (hc : cells + 206 ≤ 600000) (hs : slots + 2279 ≤ 7302250) (kk : ∀ Y' I' L' a', LI base F B S M (N + 243) Y' I' L' a' → Rn p l e room_1 s m args below meth c 4 G base Q 850 [(3, .int (iI x3)), (2, .ref M), (1, .ref F), (0, .ref b)] [] Y' I' L' (cells + 206) (slots + 2279)) : Rn p l e room_1 s m args below meth c 4 G base Q 804 [(3, .int (iI x3)), (2, .ref M), (1, .ref F), (0, .ref b)] [] Y I L cells slots := by
  obtain ⟨⟨hF, hS, hFs, hSl, hM⟩, ⟨⟨X, eI, eL, hR⟩, hrow, hO, hPc⟩, hcp, hsl, hd1, hd2, hd3⟩ := id h
  obtain ⟨hI, hNw, hLg⟩ := id hO
  have hgg := hg
  obtain ⟨g1, g2, g3, g4⟩ := hgg
  have hT := hI.1
  unfold TopOK at hT
  have hc0 : cells ≤ room_1.cells := by show cells ≤ 600000; omega
  have hs0 : slots ≤ room_1.slots := by show slots ≤ 7302250; omega
  have hc1 : cells + 206 ≤ room_1.cells := hc
  have hs1 : slots + 2279 ≤ room_1.slots := hs
  have hc2 : cells ≤ cells + 206 := Nat.le_add_right _ _
  have hs2 : slots ≤ slots + 2279 := Nat.le_add_right _ _
  refine r_aload_n C 2 dL_law_804 rfl rfl ?_
  refine r_aload_n C 3 dL_law_805 rfl rfl ?_
  refine r_iload_n C 0 dL_law_806 rfl rfl ?_
  refine r_iconst (v := iI 1) C dL_law_807 rfl ?_
  refine n_iadd C dL_law_808 ?_
  refine r_sld C hX hbl hbb hLs (6 * n + 1) (congrArg iI (by omega)) (by omega) dL_law_809 ?_
  have key : Ct l yX5_save cX5_save 2 (some .int) { frames := 11, cells := 206, slots := 2279, locals := 430 } G base [.ref F, .int (iI (xs (6 * n + 1)).toInt)] Y (cI I B X) (cL L B X) (fun v Y' I' L' => (¬ (0 ≤ (xs (6 * n + 1)).toInt ∧ (xs (6 * n + 1)).toInt ≤ 1) ∧ v = some (.int (iI (-2))) ∧ Y' = Y ∧ I' = cI I B X ∧ L' = cL L B X) ∨ ((0 ≤ (xs (6 * n + 1)).toInt ∧ (xs (6 * n + 1)).toInt ≤ 1) ∧ v = some (.int (iI (a 0))) ∧ ∃ d X2, Rl true a X2 ∧ Grs base S (xs (6 * n + 1)).toInt.toNat (Y.2.2 S (xs (6 * n + 1)).toInt.toNat) Y (cI I B X) (cL L B X) Y' I' L' d ∧ I' = cI I' B X ∧ L' = cL L' B X ∧ I' = cI I' d X2 ∧ L' = cL L' d X2)) := by
    cases hop : Y.2.2 S (xs (6 * n + 1)).toInt.toNat with
    | none => exact k_svB (i32t _) hI hR hNw hPc hF hS hFs hSl g2 g3 hop
    | some d0 =>
      have hj : (xs (6 * n + 1)).toInt.toNat < 2 := by
        rcases Nat.lt_or_ge (xs (6 * n + 1)).toInt.toNat 2 with q | q
        · exact q
        · rw [hd3 _ q] at hop; cases hop
      have hd := h.sd hj hop
      exact k_svA (i32t _) hI hR hNw hPc hF hS hFs hSl g2 g3 hop hd.1 (by omega)
  refine r_eqI eI ?_
  refine r_eqL eL ?_
  refine cV1_G C key cw_L_112 ⟨⟨(Nat.le_of_ble_eq_true rfl), (Nat.le_of_ble_eq_true rfl)⟩, hc1, hs1⟩ (Nat.le_of_ble_eq_true rfl) hF.1 dL_law_810 (fun v1 Y1 I1 L1 h1 => ?_)
  refine r_wide (k := cells + 206) (n := slots + 2279) (Nat.le_refl _) (Nat.le_refl _) ?_
  rcases h1 with ⟨hb, rfl, e1, e2, e3⟩ | ⟨hb, rfl, d, X2, hR2, hG, jB, kB, jd, kd⟩
  · have hL1 : LI base F B S M N Y1 I1 L1 a := by rw [e1, e2, e3, ← eI, ← eL]; exact h
    obtain ⟨⟨hF1, hS1, -, -, hM1⟩, ⟨⟨X1, eI1, eL1, hR1⟩, hrow1, -, -⟩, -⟩ := id hL1
    refine r_aload_n C 1 dL_law_813 rfl rfl ?_
    refine r_aload_n C 3 dL_law_814 rfl rfl ?_
    refine r_iload_n C 0 dL_law_815 rfl rfl ?_
    refine r_iconst (v := iI 1) C dL_law_816 rfl ?_
    refine n_iadd C dL_law_817 ?_
    refine r_sld C hX hbl hbb hLs (6 * n + 1) (congrArg iI (by omega)) (by omega) dL_law_818 ?_
    refine r_eqI (mI_me I1 M) ?_
    refine r_eqL (rL_two (x := M + 3) hrow1) ?_
    refine cV1_EI C (k_X6_save hI hM1 (i32t _)) cw_L_115 (rm_ok rfl rfl hc1 hs1) (Nat.le_of_ble_eq_true rfl) hM1.1.1 dL_law_819 (fun r2 I2 L2 h2 => ?_)
    rcases h2 with ⟨-, hr2, eI2, eL2⟩ | ⟨hb2, -⟩
    · have hMB : MB I1 M (fun o k => (I1 (M + o) k).toInt) I2 := ⟨_, eI2, rfl⟩
      have hok : OK (N + 243) 1000000 a ∧ PcOK a := ⟨OK_N hO (by omega) hN, hPc⟩
      have hq := hr2.symm
      refine r_icmp_eq (tgt := 850) C dL_law_822 (by decide) (fun _ => ?_) (fun hne => absurd (congrArg iI hq) hne)
      exact kk _ _ _ _ (hL1.stepA hg (by omega) hN eI1 eL1 hR1 (MB_s hMB) (fun y y1 y2 => by rw [eL2, rL_out y1, ← rL_me L1 (M + 3)]) (fun k => by rw [eL2, rL_at]) hok.1 hok.2)
    · exact absurd hb2 hb
  · rw [← eI, ← eL] at hG
    have hj : (xs (6 * n + 1)).toInt.toNat < 2 := by omega
    obtain ⟨hd7, hM1, hr1⟩ := h.svk hg hj rfl hG
    have hrow1 : ∀ k, L1 (M + 1) k = lI (a k) := fun k => by rw [hr1]; exact hrow k
    refine r_aload_n C 1 dL_law_813 rfl rfl ?_
    refine r_aload_n C 3 dL_law_814 rfl rfl ?_
    refine r_iload_n C 0 dL_law_815 rfl rfl ?_
    refine r_iconst (v := iI 1) C dL_law_816 rfl ?_
    refine n_iadd C dL_law_817 ?_
    refine r_sld C hX hbl hbb hLs (6 * n + 1) (congrArg iI (by omega)) (by omega) dL_law_818 ?_
    refine r_eqI (mI_me I1 M) ?_
    refine r_eqL (rL_two (x := M + 3) hrow1) ?_
    refine cV1_EI C (k_X6_save hI hM1 (i32t _)) cw_L_115 (rm_ok rfl rfl hc1 hs1) (Nat.le_of_ble_eq_true rfl) hM1.1.1 dL_law_819 (fun r2 I2 L2 h2 => ?_)
    rcases h2 with ⟨hb2, -⟩ | ⟨-, hr2, eI2, eL2⟩
    · exact absurd hb hb2
    · have hq := hr2.symm
      refine r_icmp_eq (tgt := 850) C dL_law_822 (by decide) (fun _ => ?_) (fun hne => absurd (congrArg iI hq) hne)
      refine kk _ _ _ _ (LI.up (h.save hg hj rfl hG jB kB hR jd kd hR2 (fun y hy => by rw [eI2, mI_out hy]) (fun k => ?_) (fun y y1 y3 => by rw [eL2, rL_out y1, rL_out y3]) (fun k => by rw [eL2, rL_at]) (fun k => ?_)) hg (by omega) hN)
      · rw [eI2, mI_at (by decide)]
        split
        · rename_i e
          rw [e, up2_s]
        · rename_i e
          rw [up2_nk e, ← iI_of]
      · rw [eL2, rL_in (by omega)]
        unfold mixO
        split
        · rfl
        · rw [← lI_of]
set_option maxHeartbeats 4000000 in
set_option maxRecDepth 20000 in
theorem lc_restore {p : Program} {l : Launch} {e : Env} {s : State} {m : MethodId} {args : Array Value} {below : List Frame} {meth : Method} {c : Code} {G : Gd} {base : Nat} {Q : State → Prop} {cells slots : Nat} (C : Cx p s m args c cL_law 4 RL G base) {b Ls : Nat} {xs : Nat → Int32} (hX : va_X b Ls xs s s.heap) (hbl : b < s.heap.size) (hbb : b < base) (hLs : Ls ≤ 3072) {F B S M n : Nat} {N : Int} {Y : MY} {I : MI} {L : ML} {a : Sa} {x3 : Int} (hx3 : x3 = 6 * (n : Int)) (hn : 6 * n + 6 ≤ Ls) (hg : Geo base F B S M) (h : LI base F B S M N Y I L a) (hN : N + 243 ≤ 400000) (hc : cells + 206 ≤ 600000) (hs : slots + 2279 ≤ 7302250) (kk : ∀ Y' I' L' a', LI base F B S M (N + 243) Y' I' L' a' → Rn p l e room_1 s m args below meth c 4 G base Q 850 [(3, .int (iI x3)), (2, .ref M), (1, .ref F), (0, .ref b)] [] Y' I' L' (cells + 206) (slots + 2279)) : Rn p l e room_1 s m args below meth c 4 G base Q 827 [(3, .int (iI x3)), (2, .ref M), (1, .ref F), (0, .ref b)] [] Y I L cells slots := by
  obtain ⟨⟨hF, hS, hFs, hSl, hM⟩, ⟨⟨X, eI, eL, hR⟩, hrow, hO, hPc⟩, hcp, hsl, hd1, hd2, hd3⟩ := id h
  obtain ⟨hI, hNw, hLg⟩ := id hO
  have hgg := hg
  obtain ⟨g1, g2, g3, g4⟩ := hgg
  have hT := hI.1
  unfold TopOK at hT
  have hc0 : cells ≤ room_1.cells := by show cells ≤ 600000; omega
  have hs0 : slots ≤ room_1.slots := by show slots ≤ 7302250; omega
  have hc1 : cells + 206 ≤ room_1.cells := hc
  have hs1 : slots + 2279 ≤ room_1.slots := hs
  have hc2 : cells ≤ cells + 206 := Nat.le_add_right _ _
  have hs2 : slots ≤ slots + 2279 := Nat.le_add_right _ _
  refine r_aload_n C 2 dL_law_827 rfl rfl ?_
  refine r_aload_n C 3 dL_law_828 rfl rfl ?_
  refine r_iload_n C 0 dL_law_829 rfl rfl ?_
  refine r_iconst (v := iI 1) C dL_law_830 rfl ?_
  refine n_iadd C dL_law_831 ?_
  refine r_sld C hX hbl hbb hLs (6 * n + 1) (congrArg iI (by omega)) (by omega) dL_law_832 ?_
  refine r_eqI eI ?_
  refine r_eqL eL ?_
  by_cases hv : 0 ≤ (xs (6 * n + 1)).toInt ∧ (xs (6 * n + 1)).toInt ≤ 1
  · have hj : (xs (6 * n + 1)).toInt.toNat < 2 := by omega
    rcases hsl (xs (6 * n + 1)).toInt.toNat hj with ⟨hn1, hn2⟩ | ⟨d, sa, W, ⟨q1, q2, q3⟩, ⟨q4, q5, q6⟩, ⟨q7, q8⟩, q9, q10⟩
    · refine cV1_G C (k_rsB (i32t _) hF hS hFs hSl g2 g3 (fun _ => hn1)) cw_L_116 (rm_ok rfl rfl hc0 hs0) (Nat.le_of_ble_eq_true rfl) hF.1 dL_law_833 (fun v1 Y1 I1 L1 h1 => ?_)
      refine r_wide (k := cells + 206) (n := slots + 2279) (by show cells + 0 ≤ cells + 206; omega) (by show slots + 0 ≤ slots + 2279; omega) ?_
      obtain ⟨e1, e2, e3, h1⟩ := h1
      have hL1 : LI base F B S M N Y1 I1 L1 a := by rw [e1, e2, e3, ← eI, ← eL]; exact h
      obtain ⟨⟨hF1, hS1, -, -, hM1⟩, ⟨⟨X1, eI1, eL1, hR1⟩, hrow1, -, -⟩, -⟩ := id hL1
      have hI4 : I1 (M + 4) = I (M + 4) := by rw [e2, ← eI]
      have hb4 : ∀ k, k < 2 → (I1 (M + 4) k).toInt = 0 ∨ (I1 (M + 4) k).toInt = 1 := fun k hk => by
        rw [hI4]
        rcases hsl k hk with ⟨-, q⟩ | ⟨d, sa, W, -, -, -, q, -⟩
        · rw [q]; exact Or.inl iI0t
        · rw [q]; exact Or.inr iI1t
      obtain ⟨-, rfl⟩ : (0 ≤ (xs (6 * n + 1)).toInt ∧ (xs (6 * n + 1)).toInt ≤ 1) ∧ v1 = some (.int (iI (-5))) := by
        rcases h1 with h1 | h1
        · exact absurd hv h1.1
        · exact h1
      refine r_aload_n C 1 dL_law_836 rfl rfl ?_
      refine r_aload_n C 3 dL_law_837 rfl rfl ?_
      refine r_iload_n C 0 dL_law_838 rfl rfl ?_
      refine r_iconst (v := iI 1) C dL_law_839 rfl ?_
      refine n_iadd C dL_law_840 ?_
      refine r_sld C hX hbl hbb hLs (6 * n + 1) (congrArg iI (by omega)) (by omega) dL_law_841 ?_
      refine r_eqI (mI_me I1 M) ?_
      refine r_eqL (rL_two (x := M + 3) hrow1) ?_
      refine cV1_EI C (k_X6_restore hI hM1 (i32t _) hb4) cw_L_119 (rm_ok rfl rfl hc1 hs1) (Nat.le_of_ble_eq_true rfl) hM1.1.1 dL_law_842 (fun r2 I2 L2 h2 => ?_)
      obtain ⟨eI2, h2⟩ := h2
      obtain ⟨hr2, eL2⟩ : r2 = -5 ∧ L2 = rL (rL L1 (M + 3) (fun k => (L1 (M + 3) k).toInt)) (M + 1) a := by
        rcases h2 with ⟨c1, -⟩ | ⟨-, -, c2, c3⟩ | ⟨-, c1, -⟩
        · exact absurd hv c1
        · exact ⟨c2, c3⟩
        · exact absurd (by show (I1 (M + 4) _).toInt = 0; rw [hI4, hn2]; exact iI0t) c1
      have hMB : MB I1 M (fun o k => (I1 (M + o) k).toInt) I2 := ⟨_, eI2, rfl⟩
      have hok : OK (N + 243) 1000000 a ∧ PcOK a := ⟨OK_N hO (by omega) hN, hPc⟩
      have hq := hr2.symm
      refine r_icmp_eq (tgt := 850) C dL_law_845 (by decide) (fun _ => ?_) (fun hne => absurd (congrArg iI hq) hne)
      exact kk _ _ _ _ (hL1.stepA hg (by omega) hN eI1 eL1 hR1 (MB_s hMB) (fun y y1 y2 => by rw [eL2, rL_out y1, ← rL_me L1 (M + 3)]) (fun k => by rw [eL2, rL_at]) hok.1 hok.2)
    · refine cV1_G C (k_rsA (i32t _) hF hS hFs hSl g2 g3 hv q1 q2 (by omega) q7.1 q6 q7.2.1 q8 (by rw [← eI]; exact q4) (by rw [← eL]; exact q5)) cw_L_116 (rm_ok rfl rfl hc0 hs0) (Nat.le_of_ble_eq_true rfl) hF.1 dL_law_833 (fun v1 Y1 I1 L1 h1 => ?_)
      refine r_wide (k := cells + 206) (n := slots + 2279) (by show cells + 0 ≤ cells + 206; omega) (by show slots + 0 ≤ slots + 2279; omega) ?_
      obtain ⟨e1, rfl, X1, hR1, eI1, eL1⟩ := h1
      rw [e1]
      have hrow1 : ∀ k, L1 (M + 1) k = lI (a k) := fun k => by rw [eL1, cL_out (by omega)]; exact hrow k
      have hI4 : I1 (M + 4) = I (M + 4) := by rw [eI1, cI_out (by omega)]
      have hL3 : L1 (M + 3) = L (M + 3) := by rw [eL1, cL_out (by omega)]
      have hb4 : ∀ k, k < 2 → (I1 (M + 4) k).toInt = 0 ∨ (I1 (M + 4) k).toInt = 1 := fun k hk => by
        rw [hI4]
        rcases hsl k hk with ⟨-, q⟩ | ⟨d, sa, W, -, -, -, q, -⟩
        · rw [q]; exact Or.inl iI0t
        · rw [q]; exact Or.inr iI1t
      obtain ⟨q, eq⟩ : ∃ q : Sa, q = (fun k => if 1826 * (xs (6 * n + 1)).toInt.toNat ≤ k ∧ k < 1826 * (xs (6 * n + 1)).toInt.toNat + 1826 then sa (k - 1826 * (xs (6 * n + 1)).toInt.toNat) else (L1 (M + 3) k).toInt) := ⟨_, rfl⟩
      have hqs : ∀ k, k < 1826 → q (1826 * (xs (6 * n + 1)).toInt.toNat + k) = sa k := fun k hk => by
        rw [eq]
        show (if _ then _ else _) = _
        rw [if_pos (by omega), show 1826 * (xs (6 * n + 1)).toInt.toNat + k - 1826 * (xs (6 * n + 1)).toInt.toNat = k by omega]
      have eQ : rL L1 (M + 3) q = L1 := rL_self (fun k => by
        rw [eq]
        show _ = lI (if _ then _ else _)
        split
        · rename_i hk
          have w := q10 (k - 1826 * (xs (6 * n + 1)).toInt.toNat) (by omega)
          rw [show 1826 * (xs (6 * n + 1)).toInt.toNat + (k - 1826 * (xs (6 * n + 1)).toInt.toNat) = k by omega] at w
          rw [hL3]; exact w
        · rw [← lI_of])
      refine r_aload_n C 1 dL_law_836 rfl rfl ?_
      refine r_aload_n C 3 dL_law_837 rfl rfl ?_
      refine r_iload_n C 0 dL_law_838 rfl rfl ?_
      refine r_iconst (v := iI 1) C dL_law_839 rfl ?_
      refine n_iadd C dL_law_840 ?_
      refine r_sld C hX hbl hbb hLs (6 * n + 1) (congrArg iI (by omega)) (by omega) dL_law_841 ?_
      refine r_eqI (mI_me I1 M) ?_
      refine r_eqL (show L1 = rL (rL L1 (M + 3) q) (M + 1) a by rw [eQ]; exact (rL_self hrow1).symm) ?_
      refine cV1_EI C (k_X6_restore hI hM (i32t _) hb4) cw_L_119 (rm_ok rfl rfl hc1 hs1) (Nat.le_of_ble_eq_true rfl) hM.1.1 dL_law_842 (fun r2 I2 L2 h2 => ?_)
      obtain ⟨eI2, h2⟩ := h2
      obtain ⟨hr2, eL2⟩ : r2 = q (1826 * (xs (6 * n + 1)).toInt.toNat) ∧ L2 = rL (rL L1 (M + 3) q) (M + 1) (slt q (xs (6 * n + 1)).toInt.toNat) := by
        rcases h2 with ⟨c1, -⟩ | ⟨-, c1, -⟩ | ⟨-, -, c2, c3⟩
        · exact absurd hv c1
        · have w : (I1 (M + 4) (xs (6 * n + 1)).toInt.toNat).toInt = 0 := c1
          rw [hI4, q9, iI1t] at w
          exact absurd w (by decide)
        · exact ⟨c2, c3⟩
      have hMB : MB I1 M (fun o k => (I1 (M + o) k).toInt) I2 := ⟨_, eI2, rfl⟩
      have hq : sa 0 = r2 := by rw [hr2]; exact (hqs 0 (by decide)).symm
      refine r_icmp_eq (tgt := 850) C dL_law_845 (by decide) (fun _ => ?_) (fun hne => absurd (congrArg iI hq) hne)
      refine r_rowL (x := M + 1) (g := fun k => lI (sa k)) hM.1.2.1 (fun k hk => ?_) ?_
      · rw [eL2, rL_at]
        exact congrArg lI (hqs k hk)
      exact kk _ _ _ _ (h.stepA hg (by omega) hN eI1 eL1 hR1 (MB_s hMB) (fun y y1 y2 => by rw [up1_n y1, eL2, rL_out y1, eQ]) (fun k => by rw [up1_s]) (OK_N q7 (by omega) hN) q8)
  · refine cV1_G C (k_rsB (i32t _) hF hS hFs hSl g2 g3 (fun hh => absurd hh hv)) cw_L_116 (rm_ok rfl rfl hc0 hs0) (Nat.le_of_ble_eq_true rfl) hF.1 dL_law_833 (fun v1 Y1 I1 L1 h1 => ?_)
    refine r_wide (k := cells + 206) (n := slots + 2279) (by show cells + 0 ≤ cells + 206; omega) (by show slots + 0 ≤ slots + 2279; omega) ?_
    obtain ⟨e1, e2, e3, h1⟩ := h1
    have hL1 : LI base F B S M N Y1 I1 L1 a := by rw [e1, e2, e3, ← eI, ← eL]; exact h
    obtain ⟨⟨hF1, hS1, -, -, hM1⟩, ⟨⟨X1, eI1, eL1, hR1⟩, hrow1, -, -⟩, -⟩ := id hL1
    have hI4 : I1 (M + 4) = I (M + 4) := by rw [e2, ← eI]
    have hb4 : ∀ k, k < 2 → (I1 (M + 4) k).toInt = 0 ∨ (I1 (M + 4) k).toInt = 1 := fun k hk => by
      rw [hI4]
      rcases hsl k hk with ⟨-, q⟩ | ⟨d, sa, W, -, -, -, q, -⟩
      · rw [q]; exact Or.inl iI0t
      · rw [q]; exact Or.inr iI1t
    obtain ⟨-, rfl⟩ : ¬ (0 ≤ (xs (6 * n + 1)).toInt ∧ (xs (6 * n + 1)).toInt ≤ 1) ∧ v1 = some (.int (iI (-2))) := by
      rcases h1 with h1 | h1
      · exact h1
      · exact absurd h1.1 hv
    refine r_aload_n C 1 dL_law_836 rfl rfl ?_
    refine r_aload_n C 3 dL_law_837 rfl rfl ?_
    refine r_iload_n C 0 dL_law_838 rfl rfl ?_
    refine r_iconst (v := iI 1) C dL_law_839 rfl ?_
    refine n_iadd C dL_law_840 ?_
    refine r_sld C hX hbl hbb hLs (6 * n + 1) (congrArg iI (by omega)) (by omega) dL_law_841 ?_
    refine r_eqI (mI_me I1 M) ?_
    refine r_eqL (rL_two (x := M + 3) hrow1) ?_
    refine cV1_EI C (k_X6_restore hI hM1 (i32t _) hb4) cw_L_119 (rm_ok rfl rfl hc1 hs1) (Nat.le_of_ble_eq_true rfl) hM1.1.1 dL_law_842 (fun r2 I2 L2 h2 => ?_)
    obtain ⟨eI2, h2⟩ := h2
    obtain ⟨hr2, eL2⟩ : r2 = -2 ∧ L2 = rL (rL L1 (M + 3) (fun k => (L1 (M + 3) k).toInt)) (M + 1) a := by
      rcases h2 with ⟨-, c2, c3⟩ | ⟨c1, -⟩ | ⟨c1, -⟩
      · exact ⟨c2, c3⟩
      · exact absurd c1 hv
      · exact absurd c1 hv
    have hMB : MB I1 M (fun o k => (I1 (M + o) k).toInt) I2 := ⟨_, eI2, rfl⟩
    have hok : OK (N + 243) 1000000 a ∧ PcOK a := ⟨OK_N hO (by omega) hN, hPc⟩
    have hq := hr2.symm
    refine r_icmp_eq (tgt := 850) C dL_law_845 (by decide) (fun _ => ?_) (fun hne => absurd (congrArg iI hq) hne)
    exact kk _ _ _ _ (hL1.stepA hg (by omega) hN eI1 eL1 hR1 (MB_s hMB) (fun y y1 y2 => by rw [eL2, rL_out y1, ← rL_me L1 (M + 3)]) (fun k => by rw [eL2, rL_at]) hok.1 hok.2)
