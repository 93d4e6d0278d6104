theorem rL_in {L : ML} {x y k : Nat} {s a : Sa} (h : x ≠ y) : rL (rL L x s) y a x k = lI (s k) := by rw [rL_out h, rL_at]
theorem rL_c {L : ML} {x y : Nat} {s a : Sa} (h : x ≠ y) : rL (rL L x s) y a = rL (rL L y a) x s := by
  unfold rL
  exact up1_c h
theorem rL_up2 {L : ML} {x y k : Nat} {s a : Sa} {v : Int} (h : x ≠ y) : up2 (rL (rL L x s) y a) x k (lI v) = rL (rL L x (up1 s k v)) y a := by rw [rL_c h, rL_up, rL_c h]
theorem arrV_cong {c : ClassId} {n : Nat} {f g : Nat → Value} (h : ∀ j, j < n → f j = g j) : arrV c n f = arrV c n g := by
  unfold arrV
  congr 1
  apply congrArg
  funext j
  exact h j.val j.isLt
/-- a row matters only up to its length -/
theorem HP_row {G : Gd} {base : Nat} {Y : MY} {I : MI} {L : ML} {H : Heap} {x N : Nat} {s s' : Sa} (hA : Is base Y x (.inr (1, N))) (h : ∀ k, k < N → s k = s' k) (hP : HP G base Y I (rL L x s) H) : HP G base Y I (rL L x s') H := by
  refine ⟨hP.1, fun b d hb => ?_⟩
  have h1 := hP.2 b d hb
  by_cases hbx : b = x
  · subst hbx
    have e : d = .inr (1, N) := hb.2.symm.trans hA.2
    subst e
    have h2 : H[b]? = some _ := h1
    show H[b]? = some _
    rw [h2]
    refine congrArg some (arrV_cong (fun j hj => ?_))
    show Value.long _ = Value.long _
    rw [rL_at, rL_at, h j hj]
  · rw [rL_out hbx] at h1 ⊢
    exact h1
section ROW2
variable {p : Program} {l : Launch} {e : Env} {R : Room} {s : State} {m : MethodId} {args : Array Value} {below : List Frame} {meth : Method} {c : Code} {cc : ByteArray} {nL : Nat} {own : String} {G : Gd} {base : Nat} {Q : State → Prop} {pc : Nat} {lo lo' : List (Nat × Value)} {st : List Value} {Y : MY} {I : MI} {L : ML} {cells slots : Nat}
theorem r_row {x : Nat} {s0 s1 : Sa} (hA : ∃ N, Is base Y x (.inr (1, N)) ∧ ∀ k, k < N → s0 k = s1 k) (kk : Rn p l e R s m args below meth c nL G base Q pc lo st Y I (rL L x s1) cells slots) : Rn p l e R s m args below meth c nL G base Q pc lo st Y I (rL L x s0) cells slots := by
  obtain ⟨N, h1, h2⟩ := hA
  exact fun ls H locs hl hP hS => kk ls H locs hl (HP_row h1 h2 hP) hS
theorem r_row2 {x y : Nat} {s0 s1 a : Sa} (hne : x ≠ y) (hA : ∃ N, Is base Y x (.inr (1, N)) ∧ ∀ k, k < N → s0 k = s1 k) (kk : Rn p l e R s m args below meth c nL G base Q pc lo st Y I (rL (rL L x s1) y a) cells slots) : Rn p l e R s m args below meth c nL G base Q pc lo st Y I (rL (rL L x s0) y a) cells slots := by
  rw [rL_c hne] at kk ⊢
  exact r_row hA kk
theorem b_lald (C : Cx p s m args c cc nL own G base) {x y N : Nat} {z : Int32} {v : Int} {q a : Sa} (i : Nat) (hne : x ≠ y) (hd : decode cc pc = .ok (.laload, 1)) (hA : Is base Y x (.inr (1, N))) (hi : Ix z i N) (hv : q i = v) (kk : Rn p l e R s m args below meth c nL G base Q (pc + 1) lo (.long (lI v) :: st) Y I (rL (rL L x q) y a) cells slots) : Rn p l e R s m args below meth c nL G base Q pc lo (.int z :: .ref x :: st) Y I (rL (rL L x q) y a) cells slots := by
  subst hv
  exact r_lald C i hd hA hi (by rw [rL_in hne]; exact kk)
theorem b_last (C : Cx p s m args c cc nL own G base) {x y N : Nat} {z : Int32} {v : Int} {q a : Sa} (i : Nat) (hne : x ≠ y) (hd : decode cc pc = .ok (.lastore, 1)) (hA : Is base Y x (.inr (1, N))) (hi : Ix z i N) (kk : ∀ q', q' = up1 q i v → Rn p l e R s m args below meth c nL G base Q (pc + 1) lo st Y I (rL (rL L x q') y a) cells slots) : Rn p l e R s m args below meth c nL G base Q pc lo (.long (lI v) :: .int z :: .ref x :: st) Y I (rL (rL L x q) y a) cells slots := r_last C i hd hA hi (fun L' e => by rw [e, rL_up2 hne]; exact kk _ rfl)
end ROW2
def mix (s a : Sa) (i : Nat) : Sa := fun k => if k < i then s k else a k
theorem mix_0 {s a : Sa} : mix s a 0 = a := by
  funext k
  exact if_neg (by omega)
theorem mix_s {s a : Sa} {i : Nat} : up1 (mix s a i) i (s i) = mix s a (i + 1) := by
  funext k
  by_cases h : k = i
  · subst h; rw [up1_s]; exact (if_pos (by omega)).symm
  · rw [up1_n h]
    unfold mix
    by_cases h2 : k < i
    · rw [if_pos h2, if_pos (by omega)]
    · rw [if_neg h2, if_neg (by omega)]
theorem mix_lt {s a : Sa} {i k : Nat} (h : k < i) : mix s a i k = s k := if_pos h
theorem mix_ge {s a : Sa} {i k : Nat} (h : i ≤ k) : mix s a i k = a k := if_neg (by omega)
/-- ticks until packet p is delivered, at most n, counted from j on -/
noncomputable def ttK (p : Nat) : Nat → Sa → Nat → Int
  | 0, a, j => if a (125 + 11 * (p % 120) + 4) = 3 then j else -6
  | n + 1, a, j => if a (125 + 11 * (p % 120) + 4) = 3 then j else ttK p n (tick a) (j + 1)
theorem ttK_b {p : Nat} : ∀ {n : Nat} {a : Sa} {j : Nat}, n + j ≤ 2000 → -6 ≤ ttK p n a j ∧ ttK p n a j ≤ 2000
  | 0, a, j, h => by
    unfold ttK
    split <;> omega
  | n + 1, a, j, h => by
    unfold ttK
    split
    · omega
    · exact ttK_b (by omega)
noncomputable def aFc (a : Sa) (p t : Int) : Int := if ¬ (0 ≤ p ∧ p < a 7 ∧ a 7 - 120 ≤ p) then -1 else if ¬ (1 ≤ t ∧ t ≤ 2000) then -2 else ttK p.toNat t.toNat a 0
noncomputable def lwK (a : Sa) (f p t : Nat) : Nat → Nat → Int
  | 0, _ => -6
  | n + 1, w => if 0 ≤ ttK p t (up1 a (17 + 18 * f + 0) w) 0 then w else lwK a f p t n (w + 1)
noncomputable def aLw (a : Sa) (p t : Int) : Int := if ¬ (0 ≤ p ∧ p < a 7 ∧ a 7 - 120 ≤ p) then -1 else if ¬ (1 ≤ t ∧ t ≤ 1000) then -2 else if ¬ a (125 + 11 * (p.toNat % 120) + 4) ≤ 1 then -5 else lwK a (flP a p.toNat) p.toNat t.toNat 16 1
theorem Inv_set {a : Sa} {N T : Int} {f k : Nat} {v : Int} (hI : Inv N T a) (hf : (f : Int) < a 2) (hk : setOK k v) : Inv N T (up1 a (17 + 18 * f + k) v) := by
  have hT' := hI.1
  unfold TopOK at hT'
  unfold setOK at hk
  have hk5 : k < 5 := by omega
  refine Inv_fl (f := f) hI (by omega) (fun j hj => up1_n (by omega)) (up1_n (by omega)) (fun _ => ?_)
  have hF := (hI.2.1 f hf).1
  have h0 : up1 a (17 + 18 * f + k) v 0 = a 0 := up1_n (by omega)
  have h7 : up1 a (17 + 18 * f + k) v 7 = a 7 := up1_n (by omega)
  have hs : ∀ j, j < 5 → up1 a (17 + 18 * f + k) v (17 + 18 * f + j) = if j = k then v else a (17 + 18 * f + j) := by
    intro j hj
    by_cases e : j = k
    · subst e; rw [if_pos rfl, up1_s]
    · rw [if_neg e, up1_n (by omega)]
  unfold FlowOK at hF ⊢
  rw [h0, h7, hs 0 (by omega), hs 1 (by omega), hs 2 (by omega), hs 3 (by omega), hs 4 (by omega), up1_n (j := 17 + 18 * f + 5) (by omega), up1_n (j := 17 + 18 * f + 6) (by omega), up1_n (j := 17 + 18 * f + 9) (by omega), up1_n (j := 17 + 18 * f + 12) (by omega), up1_n (j := 17 + 18 * f + 14) (by omega), up1_n (j := 17 + 18 * f + 15) (by omega), up1_n (j := 17 + 18 * f + 16) (by omega), up1_n (j := 17 + 18 * f + 17) (by omega)]
  have hk2 : k = 0 ∨ k = 1 ∨ k = 2 ∨ k = 3 ∨ k = 4 := by omega
  rcases hk2 with rfl | rfl | rfl | rfl | rfl
  · rw [if_pos rfl, if_neg (by omega), if_neg (by omega), if_neg (by omega), if_neg (by omega)]; omega
  · rw [if_neg (by omega), if_pos rfl, if_neg (by omega), if_neg (by omega), if_neg (by omega)]; omega
  · rw [if_neg (by omega), if_neg (by omega), if_pos rfl, if_neg (by omega), if_neg (by omega)]; omega
  · rw [if_neg (by omega), if_neg (by omega), if_neg (by omega), if_pos rfl, if_neg (by omega)]; omega
  · rw [if_neg (by omega), if_neg (by omega), if_neg (by omega), if_neg (by omega), if_pos rfl]; omega
theorem Now_set {a : Sa} {f k : Nat} {v : Int} (hf : f < 6) (hk : k < 5) (h : NowOK a) : NowOK (up1 a (17 + 18 * f + k) v) := Now_up h (fun j hj => up1_n (by rcases hj with hj | hj | hj | hj | ⟨g, rfl⟩ <;> omega))
theorem Lag_set {a : Sa} {f k : Nat} {v : Int} (hf : f < 6) (hk : k < 5) (h2 : a 2 ≤ 6) (h : LagOK a) : LagOK (up1 a (17 + 18 * f + k) v) := by
  intro g hg
  rw [up1_n (by omega)] at hg
  rw [up1_n (by omega), up1_n (by omega), up1_n (by omega)]
  exact h g hg
set_option maxHeartbeats 4000000 in
set_option maxRecDepth 20000 in
theorem k_X6_putAside {l : Launch} {G : Gd} {base : Nat} {Y : MY} {I : MI} {L : ML} {M : Nat} {a q : Sa}  (hM : MLy base Y M)  : Ct l yX6_putAside cX6_putAside 2 (none) (rmz 0 0) G base [.ref M] Y I (rL (rL L (M + 2) q) (M + 1) a) (EV Y (fun I' L' => I' = I ∧ L' = rL (rL L (M + 2) a) (M + 1) a)) := by
  refine Ct.of (own := RX6) (lo := [(0, .ref M)]) (by decide) rfl (Nat.le_of_ble_eq_true rfl) rfl ?_
  intro zp ze zs zm zargs zbl zmt zc C hr hlk hnm
  refine r_iconst (v := iI 0) C dX6_putAside_0 rfl ?_
  refine r_istore_n (lo' := [(1, .int (iI 0)), (0, .ref M)]) C dX6_putAside_1 rfl (by decide) rfl ?_
  have lp2 : ∀ (k : Nat) (x1 : Int) (i : Nat) (q1 : Sa) (hx1 : x1 = i) (hi : i ≤ 1826) (hq1 : q1 = mix a q i), 1826 - i = k → Bd zp l ze (rmz 0 0) zs zm zargs zbl zmt zc 2 G base (EV Y (fun I' L' => I' = I ∧ L' = rL (rL L (M + 2) a) (M + 1) a)) 2 [(1, .int (iI x1)), (0, .ref M)] [] Y I (rL (rL L (M + 2) q1) (M + 1) a) 0 0 := by
    intro k
    induction k using Nat.strongRecOn with
    | _ k ih =>
    intro x1 i q1 hx1 hi hq1 hk
    refine r_iload_n C 0 dX6_putAside_2 rfl rfl ?_
    refine r_sipush (v := iI 1826) C dX6_putAside_3 (by decide) ?_
    refine n_icmp_ge (tgt := 27) C dX6_putAside_6 (by decide) (by constructor <;> omega) ⟨by decide, by decide⟩ (fun c6 => ?_) (fun c6 => ?_)
    · have hi2 : i = 1826 := by omega
      subst hi2
      subst hq1
      refine r_row2 (by omega) ⟨1826, hM.1.2.2.1, fun k hk => mix_lt hk⟩ ?_
      refine r_vret C hr hlk dX6_putAside_27 (Nat.zero_le _) (Nat.zero_le _) ?_
      exact ⟨rfl, rfl, rfl, rfl⟩
    · refine r_aload_n C 1 dX6_putAside_9 rfl rfl ?_
      refine r_getR C fl_X6_13 rfl dX6_putAside_10 hM.1.1 hM.2.2.1 ?_
      refine r_iload_n C 0 dX6_putAside_13 rfl rfl ?_
      refine r_aload_n C 1 dX6_putAside_14 rfl rfl ?_
      refine r_getR C fl_X6_7 rfl dX6_putAside_15 hM.1.1 hM.2.1 ?_
      refine r_iload_n C 0 dX6_putAside_18 rfl rfl ?_
      refine a_lald C (v := (a i)) i dX6_putAside_19 hM.1.2.1 ⟨congrArg iI (by omega), (by omega), by decide⟩ rfl ?_
      refine b_last C i (by omega) dX6_putAside_20 hM.1.2.2.1 ⟨congrArg iI (by omega), (by omega), by decide⟩ (fun s20 es20 => ?_)
      refine n_iinc (lo' := [(1, .int (iI (x1 + 1))), (0, .ref M)]) C 0 dX6_putAside_21 rfl rfl (by decide) rfl ?_
      refine r_goto (tgt := 2) C dX6_putAside_24 (by decide) ?_
      exact ih _ (by first | omega | (rw [← hk]; omega)) ((x1 + 1)) (i + 1) s20 (by omega) (by omega) (by rw [es20, hq1, mix_s]) rfl
  exact lp2 _ 0 0 q rfl (by omega) mix_0.symm rfl
set_option maxHeartbeats 4000000 in
set_option maxRecDepth 20000 in
theorem k_X6_putBack {l : Launch} {G : Gd} {base : Nat} {Y : MY} {I : MI} {L : ML} {M : Nat} {a q : Sa}  (hM : MLy base Y M)  : Ct l yX6_putBack cX6_putBack 2 (none) (rmz 0 0) G base [.ref M] Y I (rL (rL L (M + 2) q) (M + 1) a) (EV Y (fun I' L' => I' = I ∧ L' = rL (rL L (M + 2) q) (M + 1) q)) := by
  refine Ct.of (own := RX6) (lo := [(0, .ref M)]) (by decide) rfl (Nat.le_of_ble_eq_true rfl) rfl ?_
  intro zp ze zs zm zargs zbl zmt zc C hr hlk hnm
  refine r_iconst (v := iI 0) C dX6_putBack_0 rfl ?_
  refine r_istore_n (lo' := [(1, .int (iI 0)), (0, .ref M)]) C dX6_putBack_1 rfl (by decide) rfl ?_
  have lp2 : ∀ (k : Nat) (x1 : Int) (i : Nat) (a1 : Sa) (hx1 : x1 = i) (hi : i ≤ 1826) (ha1 : a1 = mix q a i), 1826 - i = k → Bd zp l ze (rmz 0 0) zs zm zargs zbl zmt zc 2 G base (EV Y (fun I' L' => I' = I ∧ L' = rL (rL L (M + 2) q) (M + 1) q)) 2 [(1, .int (iI x1)), (0, .ref M)] [] Y I (rL (rL L (M + 2) q) (M + 1) a1) 0 0 := by
    intro k
    induction k using Nat.strongRecOn with
    | _ k ih =>
    intro x1 i a1 hx1 hi ha1 hk
    refine r_iload_n C 0 dX6_putBack_2 rfl rfl ?_
    refine r_sipush (v := iI 1826) C dX6_putBack_3 (by decide) ?_
    refine n_icmp_ge (tgt := 27) C dX6_putBack_6 (by decide) (by constructor <;> omega) ⟨by decide, by decide⟩ (fun c6 => ?_) (fun c6 => ?_)
    · have hi2 : i = 1826 := by omega
      subst hi2
      subst ha1
      refine r_row ⟨1826, hM.1.2.1, fun k hk => mix_lt hk⟩ ?_
      refine r_vret C hr hlk dX6_putBack_27 (Nat.zero_le _) (Nat.zero_le _) ?_
      exact ⟨rfl, rfl, rfl, rfl⟩
    · refine r_aload_n C 1 dX6_putBack_9 rfl rfl ?_
      refine r_getR C fl_X6_7 rfl dX6_putBack_10 hM.1.1 hM.2.1 ?_
      refine r_iload_n C 0 dX6_putBack_13 rfl rfl ?_
      refine r_aload_n C 1 dX6_putBack_14 rfl rfl ?_
      refine r_getR C fl_X6_13 rfl dX6_putBack_15 hM.1.1 hM.2.2.1 ?_
      refine r_iload_n C 0 dX6_putBack_18 rfl rfl ?_
      refine b_lald C (v := (q i)) i (by omega) dX6_putBack_19 hM.1.2.2.1 ⟨congrArg iI (by omega), (by omega), by decide⟩ rfl ?_
      refine a_last C i dX6_putBack_20 hM.1.2.1 ⟨congrArg iI (by omega), (by omega), by decide⟩ (fun a20 ea20 => ?_)
      refine n_iinc (lo' := [(1, .int (iI (x1 + 1))), (0, .ref M)]) C 0 dX6_putBack_21 rfl rfl (by decide) rfl ?_
      refine r_goto (tgt := 2) C dX6_putBack_24 (by decide) ?_
      exact ih _ (by first | omega | (rw [← hk]; omega)) ((x1 + 1)) (i + 1) a20 (by omega) (by omega) (by rw [ea20, ha1, mix_s]) rfl
  exact lp2 _ 0 0 a rfl (by omega) mix_0.symm rfl
set_option maxHeartbeats 4000000 in
set_option maxRecDepth 20000 in
theorem k_X6_ticksTo {l : Launch} {G : Gd} {base : Nat} {Y : MY} {I : MI} {L : ML} {M : Nat} {a : Sa} {N T : Int} (hI : Inv N T a) {b : Nat → Nat → Int} {pi ti : Int} (p t : Nat) (hM : MLy base Y M) (hp : pi = p) (ht : ti = t) (hN : NowOK a) (hTt : T + t ≤ 1002000) (hkn : old a ≤ p ∧ (p : Int) < a 7) : Ct l yX6_ticksTo cX6_ticksTo 4 (some .int) (rmz 8 183) G base [.ref M, .int (iI pi), .int (iI ti)] Y (mI I M 7 b) (rL L (M + 1) a) (EI Y (fun r I' L' => MB I M b I' ∧ r = ttK p t a 0 ∧ ∃ a', L' = rL L (M + 1) a')) := by
  refine Ct.of (own := RX6) (lo := [(0, .ref M), (1, .int (iI pi)), (2, .int (iI ti))]) (by decide) rfl (Nat.le_of_ble_eq_true rfl) rfl ?_
  intro zp ze zs zm zargs zbl zmt zc C hr hlk hnm
  have hT := hI.1
  unfold TopOK at hT
  refine r_iconst (v := iI 0) C dX6_ticksTo_0 rfl ?_
  refine r_istore_n (lo' := [(3, .int (iI 0)), (0, .ref M), (1, .int (iI pi)), (2, .int (iI ti))]) C dX6_ticksTo_1 rfl (by decide) rfl ?_
  have lp2 : ∀ (k : Nat) (x3 : Int) (j : Nat) (a1 : Sa) (b1 : Nat → Nat → Int) (hx3 : x3 = j) (hj : j ≤ t) (hk1 : Inv N (T + j) a1 ∧ NowOK a1) (h7 : a1 7 = a 7) (hb1 : b1 4 = b 4) (he : ttK p (t - j) a1 j = ttK p t a 0), t - j = k → Bd zp l ze (rmz 8 183) zs zm zargs zbl zmt zc 4 G base (EI Y (fun r I' L' => MB I M b I' ∧ r = ttK p t a 0 ∧ ∃ a', L' = rL L (M + 1) a')) 2 [(3, .int (iI x3)), (0, .ref M), (1, .int (iI pi)), (2, .int (iI ti))] [] Y (mI I M 7 b1) (rL L (M + 1) a1) 0 0 := by
    intro k
    induction k using Nat.strongRecOn with
    | _ k ih =>
    intro x3 j a1 b1 hx3 hj hk1 h7 hb1 he hk
    have hP := hk1.1.2.2.1 p (by rw [old_eq h7]; exact hkn.1) (by rw [h7]; exact hkn.2)
    unfold PkOK at hP
    have hT1 := hk1.1.1
    unfold TopOK at hT1
    refine r_aload_n C 1 dX6_ticksTo_2 rfl rfl ?_
    refine r_iload_n C 2 dX6_ticksTo_3 rfl rfl ?_
    refine r_iconst (v := iI 4) C dX6_ticksTo_4 rfl ?_
    refine cV2_PL C (k_X6_of p 4 hM (by omega) (by omega) (by omega)) cw_X6_49 (rm_ok rfl rfl (Nat.zero_le _) (Nat.zero_le _)) (Nat.le_of_ble_eq_true rfl) hM.1.1 dX6_ticksTo_5 ?_
    refine n_ldc2 (v := 3) C lc_X6_152 (by decide) dX6_ticksTo_8 ?_
    refine n_lcmp_eq (tgt := 30) C dX6_ticksTo_11 dX6_ticksTo_12 rfl rfl (by decide) (by constructor <;> omega) ⟨by decide, by decide⟩ (fun c11 => ?_) (fun c11 => ?_)
    · refine r_aload_n C 1 dX6_ticksTo_30 rfl rfl ?_
      refine r_iload_n C 2 dX6_ticksTo_31 rfl rfl ?_
      refine r_iconst (v := iI 4) C dX6_ticksTo_32 rfl ?_
      refine cV2_PL C (k_X6_of p 4 hM (by omega) (by omega) (by omega)) cw_X6_49 (rm_ok rfl rfl (Nat.zero_le _) (Nat.zero_le _)) (Nat.le_of_ble_eq_true rfl) hM.1.1 dX6_ticksTo_33 ?_
      refine n_ldc2 (v := 3) C lc_X6_152 (by decide) dX6_ticksTo_36 ?_
      refine n_lcmp_ne (tgt := 47) C dX6_ticksTo_39 dX6_ticksTo_40 rfl rfl (by decide) (by constructor <;> omega) ⟨by decide, by decide⟩ (fun c39 => ?_) (fun c39 => ?_)
      · refine r_bipush (v := iI (-6)) C dX6_ticksTo_47 (by decide) ?_
        refine r_iret C hr hlk dX6_ticksTo_49 (Nat.zero_le _) (Nat.zero_le _) ?_
        refine ⟨_, rfl, rfl, ⟨b1, rfl, hb1⟩, ?_, _, rfl⟩
        rw [← he]
        first
          | (exfalso; omega)
          | (rw [show t - j = (t - (j + 1)) + 1 by omega]; show _ = if _ then _ else _; rw [if_pos (by omega)]; omega)
          | (rw [show t - j = 0 by omega]; show _ = if _ then _ else _; first | (rw [if_pos (by omega)]; omega) | rw [if_neg (by omega)])
          | (by_cases hc : j = t
             · rw [show t - j = 0 by omega]; show _ = if _ then _ else _; rw [if_pos (by omega)]; omega
             · rw [show t - j = (t - (j + 1)) + 1 by omega]; show _ = if _ then _ else _; rw [if_pos (by omega)]; omega)
      · refine r_iload_n C 0 dX6_ticksTo_43 rfl rfl ?_
        refine r_goto (tgt := 49) C dX6_ticksTo_44 (by decide) ?_
        refine r_iret C hr hlk dX6_ticksTo_49 (Nat.zero_le _) (Nat.zero_le _) ?_
        refine ⟨_, rfl, rfl, ⟨b1, rfl, hb1⟩, ?_, _, rfl⟩
        rw [← he]
        first
          | (exfalso; omega)
          | (rw [show t - j = (t - (j + 1)) + 1 by omega]; show _ = if _ then _ else _; rw [if_pos (by omega)]; omega)
          | (rw [show t - j = 0 by omega]; show _ = if _ then _ else _; first | (rw [if_pos (by omega)]; omega) | rw [if_neg (by omega)])
          | (by_cases hc : j = t
             · rw [show t - j = 0 by omega]; show _ = if _ then _ else _; rw [if_pos (by omega)]; omega
             · rw [show t - j = (t - (j + 1)) + 1 by omega]; show _ = if _ then _ else _; rw [if_pos (by omega)]; omega)
    · refine r_iload_n C 0 dX6_ticksTo_15 rfl rfl ?_
      refine r_iload_n C 3 dX6_ticksTo_16 rfl rfl ?_
      refine n_icmp_ge (tgt := 30) C dX6_ticksTo_17 (by decide) (by constructor <;> omega) (by constructor <;> omega) (fun c17 => ?_) (fun c17 => ?_)
      · refine r_aload_n C 1 dX6_ticksTo_30 rfl rfl ?_
        refine r_iload_n C 2 dX6_ticksTo_31 rfl rfl ?_
        refine r_iconst (v := iI 4) C dX6_ticksTo_32 rfl ?_
        refine cV2_PL C (k_X6_of p 4 hM (by omega) (by omega) (by omega)) cw_X6_49 (rm_ok rfl rfl (Nat.zero_le _) (Nat.zero_le _)) (Nat.le_of_ble_eq_true rfl) hM.1.1 dX6_ticksTo_33 ?_
        refine n_ldc2 (v := 3) C lc_X6_152 (by decide) dX6_ticksTo_36 ?_
        refine n_lcmp_ne (tgt := 47) C dX6_ticksTo_39 dX6_ticksTo_40 rfl rfl (by decide) (by constructor <;> omega) ⟨by decide, by decide⟩ (fun c39 => ?_) (fun c39 => ?_)
        · refine r_bipush (v := iI (-6)) C dX6_ticksTo_47 (by decide) ?_
          refine r_iret C hr hlk dX6_ticksTo_49 (Nat.zero_le _) (Nat.zero_le _) ?_
          refine ⟨_, rfl, rfl, ⟨b1, rfl, hb1⟩, ?_, _, rfl⟩
          rw [← he]
          first
            | (exfalso; omega)
            | (rw [show t - j = (t - (j + 1)) + 1 by omega]; show _ = if _ then _ else _; rw [if_pos (by omega)]; omega)
            | (rw [show t - j = 0 by omega]; show _ = if _ then _ else _; first | (rw [if_pos (by omega)]; omega) | rw [if_neg (by omega)])
            | (by_cases hc : j = t
               · rw [show t - j = 0 by omega]; show _ = if _ then _ else _; rw [if_pos (by omega)]; omega
               · rw [show t - j = (t - (j + 1)) + 1 by omega]; show _ = if _ then _ else _; rw [if_pos (by omega)]; omega)
        · refine r_iload_n C 0 dX6_ticksTo_43 rfl rfl ?_
          refine r_goto (tgt := 49) C dX6_ticksTo_44 (by decide) ?_
          refine r_iret C hr hlk dX6_ticksTo_49 (Nat.zero_le _) (Nat.zero_le _) ?_
          refine ⟨_, rfl, rfl, ⟨b1, rfl, hb1⟩, ?_, _, rfl⟩
          rw [← he]
          first
            | (exfalso; omega)
            | (rw [show t - j = (t - (j + 1)) + 1 by omega]; show _ = if _ then _ else _; rw [if_pos (by omega)]; omega)
            | (rw [show t - j = 0 by omega]; show _ = if _ then _ else _; first | (rw [if_pos (by omega)]; omega) | rw [if_neg (by omega)])
            | (by_cases hc : j = t
               · rw [show t - j = 0 by omega]; show _ = if _ then _ else _; rw [if_pos (by omega)]; omega
               · rw [show t - j = (t - (j + 1)) + 1 by omega]; show _ = if _ then _ else _; rw [if_pos (by omega)]; omega)
      · have he2 : ttK p (t - (j + 1)) (tick a1) (j + 1) = ttK p t a 0 := by
          rw [← he, show t - j = (t - (j + 1)) + 1 by omega]
          exact (if_neg c11).symm
        refine r_aload_n C 1 dX6_ticksTo_20 rfl rfl ?_
        refine cV0_EV C (k_X6_tick hk1.1 hM hk1.2 (by omega)) cw_X6_198 (rm_ok rfl rfl (Nat.zero_le _) (Nat.zero_le _)) (Nat.le_of_ble_eq_true rfl) hM.1.1 dX6_ticksTo_21 (fun I21 L21 h21 => ?_)
        obtain ⟨⟨v21, h21I⟩, h21L⟩ := h21
        obtain ⟨a21, ea21⟩ : ∃ z, z = tick a1 := ⟨_, rfl⟩
        obtain ⟨b21, eb21⟩ : ∃ z, z = up2 (up2 b1 0 8 (tkz a1)) 0 9 v21 := ⟨_, rfl⟩
        have hb8_21 : b21 0 8 = tkz a1 := by rw [eb21, up2_nk (by decide), up2_s]
        have hb4_21 : b21 4 = b1 4 := by rw [eb21, up2_rown (by decide), up2_rown (by decide)]
        rw [← ea21] at h21L
        rw [← eb21] at h21I
        subst h21I
        subst h21L
        refine n_iinc (lo' := [(3, .int (iI (x3 + 1))), (0, .ref M), (1, .int (iI pi)), (2, .int (iI ti))]) C 0 dX6_ticksTo_24 rfl rfl (by decide) rfl ?_
        refine r_goto (tgt := 2) C dX6_ticksTo_27 (by decide) ?_
        exact ih _ (by first | omega | (rw [← hk]; omega)) ((x3 + 1)) (j + 1) a21 b21 (by omega) (by omega) (by rw [ea21]; have h := tick_ok hk1.1 hk1.2 (by omega); exact ⟨by rw [show T + ((j + 1 : Nat) : Int) = T + j + 1 by omega]; exact h.1, h.2.1⟩) (by rw [ea21, (tick_ok hk1.1 hk1.2 (by omega)).2.2.2.2.2]; exact h7) (by rw [hb4_21, hb1]) (by rw [ea21]; exact he2) rfl
  exact lp2 _ 0 0 a b rfl (by omega) ⟨by rw [show T + ((0 : Nat) : Int) = T by omega]; exact hI, hN⟩ rfl rfl rfl rfl
set_option maxHeartbeats 4000000 in
set_option maxRecDepth 20000 in
theorem k_X6_forecast {l : Launch} {G : Gd} {base : Nat} {Y : MY} {I : MI} {L : ML} {M : Nat} {a q : Sa} {N T : Int} (hI : Inv N T a) {b : Nat → Nat → Int} {p t : Int} (hM : MLy base Y M) (hN : NowOK a) (hTT : T ≤ 1000000) (hp0 : -2147483648 ≤ p ∧ p < 2147483648) (ht0 : -2147483648 ≤ t ∧ t < 2147483648) : Ct l yX6_forecast cX6_forecast 4 (some .int) (rmz 9 206) G base [.ref M, .int (iI p), .int (iI t)] Y (mI I M 7 b) (rL (rL L (M + 2) q) (M + 1) a) (EI Y (fun r I' L' => MB I M b I' ∧ r = aFc a p t ∧ ∃ q', L' = rL (rL L (M + 2) q') (M + 1) a)) := by
  refine Ct.of (own := RX6) (lo := [(0, .ref M), (1, .int (iI p)), (2, .int (iI t))]) (by decide) rfl (Nat.le_of_ble_eq_true rfl) rfl ?_
  intro zp ze zs zm zargs zbl zmt zc C hr hlk hnm
  have hT := hI.1
  unfold TopOK at hT
  refine r_aload_n C 0 dX6_forecast_0 rfl rfl ?_
  refine r_iload_n C 1 dX6_forecast_1 rfl rfl ?_
  refine cV1_PI C (k_X6_isKnown hM (by omega) (by omega)) cw_X6_94 (rm_ok rfl rfl (Nat.zero_le _) (Nat.zero_le _)) (Nat.le_of_ble_eq_true rfl) hM.1.1 dX6_forecast_2 ?_
  refine n_if_ne (tgt := 10) C dX6_forecast_5 (by decide) b2_i (fun c5 => ?_) (fun c5 => ?_)
  · rw [b2_eq0, Classical.not_not] at c5
    obtain ⟨pn, hpn⟩ := Int.eq_ofNat_of_zero_le (show 0 ≤ p by omega)
    have hk : old a ≤ pn ∧ (pn : Int) < a 7 := by unfold old; omega
    refine r_iload_n C 2 dX6_forecast_10 rfl rfl ?_
    refine n_i2l C dX6_forecast_11 (by constructor <;> omega) ?_
    refine r_lconst (v := lI 1) C dX6_forecast_12 (by decide) ?_
    refine n_ldc2 (v := 2000) C lc_X6_83 (by decide) dX6_forecast_13 ?_
    refine cS3_PI C (k_X6_in (by constructor <;> omega) ⟨by decide, by decide⟩ ⟨by decide, by decide⟩) cw_X6_36 (rm_ok rfl rfl (Nat.zero_le _) (Nat.zero_le _)) (Nat.le_of_ble_eq_true rfl) dX6_forecast_16 ?_
    refine n_if_ne (tgt := 25) C dX6_forecast_19 (by decide) b2_i (fun c19 => ?_) (fun c19 => ?_)
    · rw [b2_eq0, Classical.not_not] at c19
      obtain ⟨tn, htn⟩ := Int.eq_ofNat_of_zero_le (show 0 ≤ t by omega)
      refine r_aload_n C 0 dX6_forecast_25 rfl rfl ?_
      refine cV0_EV C (k_X6_putAside hM) cw_X6_208 (rm_ok rfl rfl (Nat.zero_le _) (Nat.zero_le _)) (Nat.le_of_ble_eq_true rfl) hM.1.1 dX6_forecast_26 (fun I26 L26 h26 => ?_)
      obtain ⟨h26I, h26L⟩ := h26
      subst h26I
      subst h26L
      refine r_aload_n C 0 dX6_forecast_29 rfl rfl ?_
      refine r_iload_n C 1 dX6_forecast_30 rfl rfl ?_
      refine r_iload_n C 2 dX6_forecast_31 rfl rfl ?_
      refine cV2_EI C (k_X6_ticksTo hI pn tn hM (by omega) (by omega) hN (by omega) hk) cw_X6_211 (rm_ok rfl rfl (Nat.zero_le _) (Nat.zero_le _)) (Nat.le_of_ble_eq_true rfl) hM.1.1 dX6_forecast_32 (fun r32 I32 L32 h32 => ?_)
      obtain ⟨⟨b32, h32I, hb4_32⟩, h32r, a32, h32L⟩ := h32
      subst h32I
      subst h32L
      refine r_istore_n (lo' := [(3, .int (iI r32)), (0, .ref M), (1, .int (iI p)), (2, .int (iI t))]) C dX6_forecast_35 rfl (by decide) rfl ?_
      refine r_aload_n C 1 dX6_forecast_36 rfl rfl ?_
      refine cV0_EV C (k_X6_putBack hM) cw_X6_214 (rm_ok rfl rfl (Nat.zero_le _) (Nat.zero_le _)) (Nat.le_of_ble_eq_true rfl) hM.1.1 dX6_forecast_37 (fun I37 L37 h37 => ?_)
      obtain ⟨h37I, h37L⟩ := h37
      subst h37I
      subst h37L
      refine r_iload_n C 0 dX6_forecast_40 rfl rfl ?_
      refine r_iret C hr hlk dX6_forecast_41 (Nat.zero_le _) (Nat.zero_le _) ?_
      exact ⟨_, rfl, rfl, ⟨b32, rfl, hb4_32⟩, by rw [h32r]; unfold aFc; rw [if_neg (by omega), if_neg (by omega), show p.toNat = pn by omega, show t.toNat = tn by omega], _, rfl⟩
    · refine r_bipush (v := iI (-2)) C dX6_forecast_22 (by decide) ?_
      refine r_iret C hr hlk dX6_forecast_24 (Nat.zero_le _) (Nat.zero_le _) ?_
      rw [b2_eq0] at c19
      exact ⟨_, rfl, rfl, MB.self, by unfold aFc; rw [if_neg (by omega), if_pos c19], _, rfl⟩
  · refine r_iconst (v := iI (-1)) C dX6_forecast_8 rfl ?_
    refine r_iret C hr hlk dX6_forecast_9 (Nat.zero_le _) (Nat.zero_le _) ?_
    rw [b2_eq0] at c5
    exact ⟨_, rfl, rfl, MB.self, by unfold aFc; rw [if_pos c5], _, rfl⟩
set_option maxHeartbeats 4000000 in
set_option maxRecDepth 20000 in
theorem k_X6_leastWeight {l : Launch} {G : Gd} {base : Nat} {Y : MY} {I : MI} {L : ML} {M : Nat} {a q : Sa} {N T : Int} (hI : Inv N T a) {b : Nat → Nat → Int} {p t : Int} (hM : MLy base Y M) (hN : NowOK a) (hTT : T ≤ 1000000) (hp0 : -2147483648 ≤ p ∧ p < 2147483648) (ht0 : -2147483648 ≤ t ∧ t < 2147483648) : Ct l yX6_leastWeight cX6_leastWeight 5 (some .int) (rmz 9 206) G base [.ref M, .int (iI p), .int (iI t)] Y (mI I M 7 b) (rL (rL L (M + 2) q) (M + 1) a) (EI Y (fun r I' L' => MB I M b I' ∧ r = aLw a p t ∧ ∃ q', L' = rL (rL L (M + 2) q') (M + 1) a)) := by
  refine Ct.of (own := RX6) (lo := [(0, .ref M), (1, .int (iI p)), (2, .int (iI t))]) (by decide) rfl (Nat.le_of_ble_eq_true rfl) rfl ?_
  intro zp ze zs zm zargs zbl zmt zc C hr hlk hnm
  have hT := hI.1
  unfold TopOK at hT
  refine r_aload_n C 0 dX6_leastWeight_0 rfl rfl ?_
  refine r_iload_n C 1 dX6_leastWeight_1 rfl rfl ?_
  refine cV1_PI C (k_X6_isKnown hM (by omega) (by omega)) cw_X6_94 (rm_ok rfl rfl (Nat.zero_le _) (Nat.zero_le _)) (Nat.le_of_ble_eq_true rfl) hM.1.1 dX6_leastWeight_2 ?_
  refine n_if_ne (tgt := 10) C dX6_leastWeight_5 (by decide) b2_i (fun c5 => ?_) (fun c5 => ?_)
  · rw [b2_eq0, Classical.not_not] at c5
    obtain ⟨pn, hpn⟩ := Int.eq_ofNat_of_zero_le (show 0 ≤ p by omega)
    have hkp : old a ≤ pn ∧ (pn : Int) < a 7 := by unfold old; omega
    have hP := hI.2.2.1 pn hkp.1 hkp.2
    unfold PkOK at hP
    obtain ⟨f, hfa⟩ := Int.eq_ofNat_of_zero_le (show 0 ≤ a (125 + 11 * (pn % 120) + 0) by omega)
    have hfl : flP a pn = f := flP_of hfa
    have hpn2 : p.toNat = pn := by omega
    refine r_iload_n C 2 dX6_leastWeight_10 rfl rfl ?_
    refine n_i2l C dX6_leastWeight_11 (by constructor <;> omega) ?_
    refine r_lconst (v := lI 1) C dX6_leastWeight_12 (by decide) ?_
    refine n_ldc2 (v := 1000) C lc_X6_70 (by decide) dX6_leastWeight_13 ?_
    refine cS3_PI C (k_X6_in (by constructor <;> omega) ⟨by decide, by decide⟩ ⟨by decide, by decide⟩) cw_X6_36 (rm_ok rfl rfl (Nat.zero_le _) (Nat.zero_le _)) (Nat.le_of_ble_eq_true rfl) dX6_leastWeight_16 ?_
    refine n_if_ne (tgt := 25) C dX6_leastWeight_19 (by decide) b2_i (fun c19 => ?_) (fun c19 => ?_)
    · rw [b2_eq0, Classical.not_not] at c19
      obtain ⟨tn, htn⟩ := Int.eq_ofNat_of_zero_le (show 0 ≤ t by omega)
      refine r_aload_n C 0 dX6_leastWeight_25 rfl rfl ?_
      refine r_iload_n C 1 dX6_leastWeight_26 rfl rfl ?_
      refine cV1_PI C (k_X6_isQueued pn hM (by omega) (by omega) (by omega)) cw_X6_60 (rm_ok rfl rfl (Nat.zero_le _) (Nat.zero_le _)) (Nat.le_of_ble_eq_true rfl) hM.1.1 dX6_leastWeight_27 ?_
      refine n_if_ne (tgt := 36) C dX6_leastWeight_30 (by decide) b2_i (fun c30 => ?_) (fun c30 => ?_)
      · rw [b2_eq0, Classical.not_not] at c30
        have hfin : lwK a f pn tn 16 1 = aLw a p t := by
          unfold aLw
          rw [if_neg (by omega), if_neg (by omega), hpn2, if_neg (by omega), hfl, show t.toNat = tn by omega]
        refine r_aload_n C 0 dX6_leastWeight_36 rfl rfl ?_
        refine cV0_EV C (k_X6_putAside hM) cw_X6_208 (rm_ok rfl rfl (Nat.zero_le _) (Nat.zero_le _)) (Nat.le_of_ble_eq_true rfl) hM.1.1 dX6_leastWeight_37 (fun I37 L37 h37 => ?_)
        obtain ⟨h37I, h37L⟩ := h37
        subst h37I
        subst h37L
        refine r_bipush (v := iI (-6)) C dX6_leastWeight_40 (by decide) ?_
        refine r_istore_n (lo' := [(3, .int (iI (-6))), (0, .ref M), (1, .int (iI p)), (2, .int (iI t))]) C dX6_leastWeight_42 rfl (by decide) rfl ?_
        refine r_iconst (v := iI 1) C dX6_leastWeight_43 rfl ?_
        refine r_istore (lo' := [(4, .int (iI 1)), (3, .int (iI (-6))), (0, .ref M), (1, .int (iI p)), (2, .int (iI t))]) C dX6_leastWeight_44 (by decide) rfl ?_
        have lp46 : ∀ (k : Nat) (x3 : Int) (x4 : Int) (wn : Nat) (b1 : Nat → Nat → Int) (hx4 : x4 = wn) (hw : 1 ≤ wn ∧ wn ≤ 17) (hb1 : b1 4 = b 4) (hx3 : (x3 = -6 ∧ lwK a f pn tn (17 - wn) wn = aLw a p t) ∨ (1 ≤ x3 ∧ x3 ≤ 16 ∧ x3 = aLw a p t)), 17 - wn = k → Bd zp l ze (rmz 9 206) zs zm zargs zbl zmt zc 5 G base (EI Y (fun r I' L' => MB I M b I' ∧ r = aLw a p t ∧ ∃ q', L' = rL (rL L (M + 2) q') (M + 1) a)) 46 [(4, .int (iI x4)), (3, .int (iI x3)), (0, .ref M), (1, .int (iI p)), (2, .int (iI t))] [] Y (mI I M 7 b1) (rL (rL L (M + 2) a) (M + 1) a) 0 0 := by
          intro k
          induction k using Nat.strongRecOn with
          | _ k ih =>
          intro x3 x4 wn b1 hx4 hw hb1 hx3 hk
          refine r_iload C 0 dX6_leastWeight_46 rfl ?_
          refine r_bipush (v := iI 16) C dX6_leastWeight_48 (by decide) ?_
          refine n_icmp_gt (tgt := 103) C dX6_leastWeight_50 (by decide) (by constructor <;> omega) ⟨by decide, by decide⟩ (fun c50 => ?_) (fun c50 => ?_)
          · refine r_iload_n C 1 dX6_leastWeight_103 rfl rfl ?_
            refine r_iret C hr hlk dX6_leastWeight_104 (Nat.zero_le _) (Nat.zero_le _) ?_
            refine ⟨_, rfl, rfl, ⟨b1, rfl, hb1⟩, ?_, _, rfl⟩
            rcases hx3 with ⟨h1, h2⟩ | h
            · have h17 : wn = 17 := by omega
              subst h17
              rw [h1, ← h2]
              rfl
            · exact h.2.2
          · refine r_iload_n C 1 dX6_leastWeight_53 rfl rfl ?_
            refine n_if_ge (tgt := 103) C dX6_leastWeight_54 (by decide) (by constructor <;> omega) (fun c54 => ?_) (fun c54 => ?_)
            · refine r_iload_n C 1 dX6_leastWeight_103 rfl rfl ?_
              refine r_iret C hr hlk dX6_leastWeight_104 (Nat.zero_le _) (Nat.zero_le _) ?_
              refine ⟨_, rfl, rfl, ⟨b1, rfl, hb1⟩, ?_, _, rfl⟩
              rcases hx3 with ⟨h1, h2⟩ | h
              · have h17 : wn = 17 := by omega
                subst h17
                rw [h1, ← h2]
                rfl
              · exact h.2.2
            · have hlw : lwK a f pn tn (17 - wn) wn = aLw a p t := by
                rcases hx3 with h | h
                · exact h.2
                · omega
              rw [show 17 - wn = (17 - (wn + 1)) + 1 by omega] at hlw
              have he1 : (if 0 ≤ ttK pn tn (up1 a (17 + 18 * f + 0) wn) 0 then (wn : Int) else lwK a f pn tn (17 - (wn + 1)) (wn + 1)) = aLw a p t := hlw
              refine r_aload_n C 2 dX6_leastWeight_57 rfl rfl ?_
              refine r_getR C fl_X6_7 rfl dX6_leastWeight_58 hM.1.1 hM.2.1 ?_
              refine r_aload_n C 2 dX6_leastWeight_61 rfl rfl ?_
              refine r_iload_n C 3 dX6_leastWeight_62 rfl rfl ?_
              refine r_iconst (v := iI 0) C dX6_leastWeight_63 rfl ?_
              refine cV2_PL C (k_X6_of pn 0 hM (by omega) (by omega) (by omega)) cw_X6_49 (rm_ok rfl rfl (Nat.zero_le _) (Nat.zero_le _)) (Nat.le_of_ble_eq_true rfl) hM.1.1 dX6_leastWeight_64 ?_
              refine n_l2i C dX6_leastWeight_67 ?_
              refine r_iconst (v := iI 0) C dX6_leastWeight_68 rfl ?_
              refine cS2_PI C (k_X6_flowAt ) cw_X6_40 (rm_ok rfl rfl (Nat.zero_le _) (Nat.zero_le _)) (Nat.le_of_ble_eq_true rfl) dX6_leastWeight_69 ?_
              refine r_iload C 0 dX6_leastWeight_72 rfl ?_
              refine n_i2l C dX6_leastWeight_74 (by constructor <;> omega) ?_
              refine a_last C ((17 + 18 * f + 0)) dX6_leastWeight_75 hM.1.2.1 ⟨congrArg iI (by omega), (by omega), by decide⟩ (fun a75 ea75 => ?_)
              have hI75 : Inv N T a75 := by
                rw [ea75]
                exact Inv_set hI (by omega) (Or.inl ⟨rfl, by omega, by omega⟩)
              have hN75 : NowOK a75 := by
                rw [ea75]
                exact Now_set (by omega) (by omega) hN
              have h757 : a75 7 = a 7 := by rw [ea75]; exact up1_n (by omega)
              have hk75 : old a75 ≤ pn ∧ (pn : Int) < a75 7 := by rw [old_eq h757, h757]; exact hkp
              refine r_aload_n C 2 dX6_leastWeight_76 rfl rfl ?_
              refine r_iload_n C 3 dX6_leastWeight_77 rfl rfl ?_
              refine r_iload_n C 4 dX6_leastWeight_78 rfl rfl ?_
              refine cV2_EI C (k_X6_ticksTo hI75 pn tn hM (by omega) (by omega) hN75 (by omega) hk75) cw_X6_211 (rm_ok rfl rfl (Nat.zero_le _) (Nat.zero_le _)) (Nat.le_of_ble_eq_true rfl) hM.1.1 dX6_leastWeight_79 (fun r79 I79 L79 h79 => ?_)
              obtain ⟨⟨b79, h79I, hb4_79⟩, h79r, a79, h79L⟩ := h79
              subst h79I
              subst h79L
              have hrb : r79 = ttK pn tn (up1 a (17 + 18 * f + 0) wn) 0 := by rw [h79r, ea75, hx4]
              have hrbb : -6 ≤ r79 ∧ r79 ≤ 2000 := by
                rw [hrb]
                exact ttK_b (by omega)
              have he2 : (if 0 ≤ r79 then (wn : Int) else lwK a f pn tn (17 - (wn + 1)) (wn + 1)) = aLw a p t := by rw [hrb]; exact he1
              have jn92 : ∀ x92 : Int, (r79 < 0 ∧ x92 = (-6)) ∨ (0 ≤ r79 ∧ x92 = x4) → Bd zp l ze (rmz 9 206) zs zm zargs zbl zmt zc 5 G base (EI Y (fun r I' L' => MB I M b I' ∧ r = aLw a p t ∧ ∃ q', L' = rL (rL L (M + 2) q') (M + 1) a)) 92 [(4, .int (iI x4)), (3, .int (iI x3)), (0, .ref M), (1, .int (iI p)), (2, .int (iI t))] [.int (iI x92)] Y (mI I M 7 b79) (rL (rL L (M + 2) a) (M + 1) a79) 0 0 := by
                intro x92 hx92
                refine r_istore_n (lo' := [(3, .int (iI x92)), (4, .int (iI x4)), (0, .ref M), (1, .int (iI p)), (2, .int (iI t))]) C dX6_leastWeight_92 rfl (by decide) rfl ?_
                refine r_aload_n C 2 dX6_leastWeight_93 rfl rfl ?_
                refine cV0_EV C (k_X6_putBack hM) cw_X6_214 (rm_ok rfl rfl (Nat.zero_le _) (Nat.zero_le _)) (Nat.le_of_ble_eq_true rfl) hM.1.1 dX6_leastWeight_94 (fun I94 L94 h94 => ?_)
                obtain ⟨h94I, h94L⟩ := h94
                subst h94I
                subst h94L
                refine n_iinc (lo' := [(4, .int (iI (x4 + 1))), (3, .int (iI x92)), (0, .ref M), (1, .int (iI p)), (2, .int (iI t))]) C 1 dX6_leastWeight_97 rfl rfl (by decide) rfl ?_
                refine r_goto (tgt := 46) C dX6_leastWeight_100 (by decide) ?_
                exact ih _ (by first | omega | (rw [← hk]; omega)) x92 ((x4 + 1)) (wn + 1) b79 (by omega) (by omega) (by rw [hb4_79, hb1]) (by rcases hx92 with ⟨h1, h2⟩ | ⟨h1, h2⟩; exact Or.inl ⟨h2, by rw [← he2, if_neg (by omega)]⟩; exact Or.inr ⟨by omega, by omega, by rw [← he2, if_pos (by omega)]; omega⟩) rfl
              refine n_if_lt (tgt := 90) C dX6_leastWeight_82 (by decide) (by constructor <;> omega) (fun c82 => ?_) (fun c82 => ?_)
              · refine r_bipush (v := iI (-6)) C dX6_leastWeight_90 (by decide) ?_
                exact jn92 _ (Or.inl ⟨c82, rfl⟩)
              · refine r_iload C 0 dX6_leastWeight_85 rfl ?_
                refine r_goto (tgt := 92) C dX6_leastWeight_87 (by decide) ?_
                exact jn92 _ (Or.inr (⟨c82, rfl⟩))
        exact lp46 _ ((-6)) 1 1 b rfl (by omega) rfl (Or.inl ⟨rfl, hfin⟩) rfl
      · refine r_bipush (v := iI (-5)) C dX6_leastWeight_33 (by decide) ?_
        refine r_iret C hr hlk dX6_leastWeight_35 (Nat.zero_le _) (Nat.zero_le _) ?_
        rw [b2_eq0] at c30
        exact ⟨_, rfl, rfl, MB.self, by unfold aLw; rw [if_neg (by omega), if_neg (by omega), hpn2, if_pos c30], _, rfl⟩
    · refine r_bipush (v := iI (-2)) C dX6_leastWeight_22 (by decide) ?_
      refine r_iret C hr hlk dX6_leastWeight_24 (Nat.zero_le _) (Nat.zero_le _) ?_
      rw [b2_eq0] at c19
      exact ⟨_, rfl, rfl, MB.self, by unfold aLw; rw [if_neg (by omega), if_pos c19], _, rfl⟩
  · refine r_iconst (v := iI (-1)) C dX6_leastWeight_8 rfl ?_
    refine r_iret C hr hlk dX6_leastWeight_9 (Nat.zero_le _) (Nat.zero_le _) ?_
    rw [b2_eq0] at c5
    exact ⟨_, rfl, rfl, MB.self, by unfold aLw; rw [if_pos c5], _, rfl⟩
