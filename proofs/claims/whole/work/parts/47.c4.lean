theorem up1_cj {α : Type} {f g : Nat → α} {k j : Nat} {v : α} (h : f j = g j) : up1 f k v j = up1 g k v j := by
  unfold up1
  rw [h]
theorem up1_self {f : Sa} {k : Nat} {v : Int} (h : v = f k) : up1 f k v = f := by rw [h]; exact up1_id f k
theorem flt_y {l : List Nat} {i q p : Nat} (h : l[i]? = some q) (hne : q ≠ p) : (l.take (i + 1)).filter (fun q => decide (q ≠ p)) = (l.take i).filter (fun q => decide (q ≠ p)) ++ [q] := by
  rw [List.take_succ, h, List.filter_append]
  simp [hne]
theorem flt_n {l : List Nat} {i q p : Nat} (h : l[i]? = some q) (he : q = p) : (l.take (i + 1)).filter (fun q => decide (q ≠ p)) = (l.take i).filter (fun q => decide (q ≠ p)) := by
  rw [List.take_succ, h, List.filter_append]
  simp [he]
theorem flt_le {l : List Nat} {i p : Nat} : ((l.take i).filter (fun q => decide (q ≠ p))).length ≤ i := Nat.le_trans (List.length_filter_le _ _) (by rw [List.length_take]; exact Nat.min_le_left _ _)
theorem app_get {l : List Nat} {j q r : Nat} (h : (l ++ [r])[j]? = some q) : (j < l.length ∧ l[j]? = some q) ∨ (j = l.length ∧ q = r) := by
  by_cases hj : j < l.length
  · rw [List.getElem?_append_left hj] at h; exact Or.inl ⟨hj, h⟩
  · rw [List.getElem?_append_right (by omega)] at h
    by_cases e : j = l.length
    · subst e
      rw [Nat.sub_self] at h
      exact Or.inr ⟨rfl, (Option.some.inj h).symm⟩
    · rw [List.getElem?_eq_none (by simp; omega)] at h
      exact absurd h (by simp)
/-- a delivery is noted -/
def ndX (X : Sa) (f : Nat) (d z : Int) : Sa := (up1 (up1 (up1 (up1 X (17 + 18 * f + 7) (X (17 + 18 * f + 7) + 1)) (17 + 18 * f + 10) (X (17 + 18 * f + 10) + d)) (17 + 18 * f + 9) (if X (17 + 18 * f + 9) < d then d else X (17 + 18 * f + 9))) (17 + 18 * f + 8) (X (17 + 18 * f + 8) + z))
def idK' (X : Sa) (f : Nat) (v : Int) : Int := if X (17 + 18 * f + 4) = 1 then (X (17 + 18 * f + 12) - v) / 2 else 0
def fgX (X : Sa) (f : Nat) (v : Int) : Sa := if v < X (17 + 18 * f + 12) then (up1 (up1 X (17 + 18 * f + 13) (X (17 + 18 * f + 13) + (X (17 + 18 * f + 12) - (v + idK' X f v)))) (17 + 18 * f + 12) (v + idK' X f v)) else X
noncomputable def idX (X : Sa) (f : Nat) (v : Int) : Sa := @ite _ (idE X f) (Classical.propDecidable _) (fgX (up1 (up1 X (17 + 18 * f + 5) (idV X f)) (17 + 18 * f + 5) 0) f v) (up1 X (17 + 18 * f + 5) (idV X f))
def lsX (X : Sa) (f : Nat) (w : Int) : Sa := (up1 (up1 (up1 X (17 + 18 * f + 14) (X (17 + 18 * f + 14) - flQ X f w)) (17 + 18 * f + 15) (X (17 + 18 * f + 15) + flQ X f w)) (17 + 18 * f + 16) (if X (17 + 18 * f + 16) < X (17 + 18 * f + 15) + flQ X f w - 720720 * X (17 + 18 * f + 6) then X (17 + 18 * f + 15) + flQ X f w - 720720 * X (17 + 18 * f + 6) else X (17 + 18 * f + 16)))
def clX (X : Sa) : Sa := (up1 (up1 (up1 (up1 (up1 (up1 (up1 X 8 (-6)) 3818 (-6)) 9 0) 12 0) 10 0) 5466 (-6)) 11 0)
def cpX (X : Sa) (j : Nat) : Sa := (up1 (up1 (up1 (up1 (up1 (up1 (up1 X (1445 + 5 * j + 0) (X 8)) (1445 + 5 * j + 1) (X 3818)) (1445 + 5 * j + 2) (X 9)) (jk (143 + j) 3) (X 12)) (jk (143 + j) 4) (X 10)) (1445 + 5 * j + 3) (X 5466)) (1445 + 5 * j + 4) (X 11))
theorem jkn {j k n : Nat} (h : n < 3000 ∨ n % 2 = 1 ∨ n = 3818 ∨ n = 5466) (hj : j < 60) (hk : k < 7) : n ≠ jk (143 + j) k := by
  unfold jk
  omega
set_option maxHeartbeats 4000000 in
set_option maxRecDepth 20000 in
theorem k_X0_leaveQueue {l : Launch} {G : Gd} {base : Nat} {Y : MY} {I : MI} {L : ML} {B : Nat} {X : Sa} (f : Nat) (ql : List Nat) {pi : Int} (p : Nat) (hS : SLy base Y B) (hf : f < 6) (hp : pi = p) (hp2 : p < 2147483648) (h17 : X (17 + 18 * f + 17) = ql.length) (hl20 : ql.length ≤ 20) (hl : ∀ i q : Nat, ql[i]? = some q → X (2000 + 20 * f + i) = q) (hlq : ∀ q, q ∈ ql → q < 2147483648) : Ct l yX0_leaveQueue cX0_leaveQueue 4 (none) (rmz 0 0) G base [.ref (B + (3 + 3 * f)), .int (iI pi)] Y (cI I B X) (cL L B X) (EV Y (fun I' L' => ∃ X', Lvq X X' f ql p ∧ I' = cI I B X' ∧ L' = cL L B X')) := by
  refine Ct.of (own := RX0) (lo := [(0, .ref (B + (3 + 3 * f))), (1, .int (iI pi))]) (by decide) rfl (Nat.le_of_ble_eq_true rfl) rfl ?_
  intro zp ze zs zm zargs zbl zmt zc C hr hlk hnm
  refine r_iconst (v := iI 0) C dX0_leaveQueue_0 rfl ?_
  refine r_istore_n (lo' := [(2, .int (iI 0)), (0, .ref (B + (3 + 3 * f))), (1, .int (iI pi))]) C dX0_leaveQueue_1 rfl (by decide) rfl ?_
  refine r_iconst (v := iI 0) C dX0_leaveQueue_2 rfl ?_
  refine r_istore_n (lo' := [(3, .int (iI 0)), (2, .int (iI 0)), (0, .ref (B + (3 + 3 * f))), (1, .int (iI pi))]) C dX0_leaveQueue_3 rfl (by decide) rfl ?_
  have lp4 : ∀ (k : Nat) (x2 : Int) (x3 : Int) (kp : Nat) (i : Nat) (X1 : Sa) (hx2 : x2 = kp) (hx3 : x3 = i) (hi : i ≤ ql.length) (hkp : ((ql.take i).filter (fun q => decide (q ≠ p))).length = kp) (hXo : ∀ k, (k < 2000 + 20 * f ∨ 2000 + 20 * f + 20 ≤ k) → X1 k = X k) (hXi : ∀ j, i ≤ j → j < 20 → X1 (2000 + 20 * f + j) = X (2000 + 20 * f + j)) (hXf : ∀ j q : Nat, ((ql.take i).filter (fun q => decide (q ≠ p)))[j]? = some q → X1 (2000 + 20 * f + j) = q), ql.length - i = k → Bd zp l ze (rmz 0 0) zs zm zargs zbl zmt zc 4 G base (EV Y (fun I' L' => ∃ X', Lvq X X' f ql p ∧ I' = cI I B X' ∧ L' = cL L B X')) 4 [(3, .int (iI x3)), (2, .int (iI x2)), (0, .ref (B + (3 + 3 * f))), (1, .int (iI pi))] [] Y (cI I B X1) (cL L B X1) 0 0 := by
    intro k
    induction k using Nat.strongRecOn with
    | _ k ih4 =>
    intro x2 x3 kp i X1 hx2 hx3 hi hkp hXo hXi hXf hk4
    have hkl : kp ≤ i := by rw [← hkp]; exact flt_le
    refine r_iload_n C 0 dX0_leaveQueue_4 rfl rfl ?_
    refine r_aload_n C 2 dX0_leaveQueue_5 rfl rfl ?_
    refine c_getI C (v := (ql.length : Int)) (3 + 3 * f) ((17 + 18 * f + 17)) rfl (oF hf) (lnF hf (by decide)) (ky_F hf 2) fl_X0_31 rfl dX0_leaveQueue_6 (hS.2.2.1 f hf).1 ((hXo _ (Or.inl (by omega))).trans h17) ?_
    refine n_icmp_ge (tgt := 43) C dX0_leaveQueue_9 (by decide) (by constructor <;> omega) (by constructor <;> omega) (fun c9 => ?_) (fun c9 => ?_)
    · refine r_aload_n C 2 dX0_leaveQueue_43 rfl rfl ?_
      refine r_iload_n C 1 dX0_leaveQueue_44 rfl rfl ?_
      refine c_putI C (3 + 3 * f) ((17 + 18 * f + 17)) rfl (oF hf) (lnF hf (by decide)) (ky_F hf 2) fl_X0_31 rfl dX0_leaveQueue_45 (hS.2.2.1 f hf).1 (fun a45 ea45 => ?_)
      refine r_vret C hr hlk dX0_leaveQueue_48 (Nat.zero_le _) (Nat.zero_le _) ?_
      have hil : i = ql.length := by omega
      rw [hil, List.take_length] at hkp hXf
      refine ⟨rfl, rfl, a45, ⟨fun k hk hn => by rw [ea45, up1_n hn]; exact hXo k hk, by rw [ea45, up1_s, hkp, hx2], fun j r hr => by rw [ea45, up1_n (by omega)]; exact hXf j r hr⟩, rfl, rfl⟩
    · obtain ⟨q, hq⟩ : ∃ q, ql[i]? = some q := ⟨_, List.getElem?_eq_getElem (by omega)⟩
      have hq2 : q < 2147483648 := hlq q (List.mem_of_getElem? hq)
      refine r_aload_n C 2 dX0_leaveQueue_12 rfl rfl ?_
      refine r_getR C fl_X0_18 rfl dX0_leaveQueue_13 (hS.2.2.1 f hf).1 (hS.2.2.1 f hf).2.2.2.2.2 ?_
      refine r_iload_n C 0 dX0_leaveQueue_16 rfl rfl ?_
      refine c_iald C (v := (q : Int)) (5 + 3 * f) i ((2000 + 20 * f + i)) rfl (oQ hf) (lnQ1 hf) (ky_Q hf (by omega)) dX0_leaveQueue_17 (hS.2.2.1 f hf).2.2.1 ⟨congrArg iI (by omega), (by omega), by decide⟩ ((hXi i (Nat.le_refl _) (by omega)).trans (hl i q hq)) ?_
      refine r_iload_n C 3 dX0_leaveQueue_18 rfl rfl ?_
      refine n_icmp_eq (tgt := 37) C dX0_leaveQueue_19 (by decide) (by constructor <;> omega) (by constructor <;> omega) (fun c19 => ?_) (fun c19 => ?_)
      · refine n_iinc (lo' := [(3, .int (iI (x3 + 1))), (2, .int (iI x2)), (0, .ref (B + (3 + 3 * f))), (1, .int (iI pi))]) C 0 dX0_leaveQueue_37 rfl rfl (by decide) rfl ?_
        refine r_goto (tgt := 4) C dX0_leaveQueue_40 (by decide) ?_
        exact ih4 _ (by first | omega | (rw [← hk4]; omega)) x2 ((x3 + 1)) kp (i + 1) X1 (by omega) (by omega) (by omega) (by rw [flt_n hq (by omega)]; exact hkp) hXo (fun j j1 j2 => hXi j (by omega) j2) (fun j r hr => by rw [flt_n hq (by omega)] at hr; exact hXf j r hr) rfl
      · refine r_aload_n C 2 dX0_leaveQueue_22 rfl rfl ?_
        refine r_getR C fl_X0_18 rfl dX0_leaveQueue_23 (hS.2.2.1 f hf).1 (hS.2.2.1 f hf).2.2.2.2.2 ?_
        refine r_iload_n C 1 dX0_leaveQueue_26 rfl rfl ?_
        refine r_aload_n C 2 dX0_leaveQueue_27 rfl rfl ?_
        refine r_getR C fl_X0_18 rfl dX0_leaveQueue_28 (hS.2.2.1 f hf).1 (hS.2.2.1 f hf).2.2.2.2.2 ?_
        refine r_iload_n C 0 dX0_leaveQueue_31 rfl rfl ?_
        refine c_iald C (v := (q : Int)) (5 + 3 * f) i ((2000 + 20 * f + i)) rfl (oQ hf) (lnQ1 hf) (ky_Q hf (by omega)) dX0_leaveQueue_32 (hS.2.2.1 f hf).2.2.1 ⟨congrArg iI (by omega), (by omega), by decide⟩ ((hXi i (Nat.le_refl _) (by omega)).trans (hl i q hq)) ?_
        refine c_iast C (5 + 3 * f) kp ((2000 + 20 * f + kp)) rfl (oQ hf) (lnQ1 hf) (ky_Q hf (by omega)) dX0_leaveQueue_33 (hS.2.2.1 f hf).2.2.1 ⟨congrArg iI (by omega), (by omega), by decide⟩ (fun a33 ea33 => ?_)
        refine n_iinc (lo' := [(2, .int (iI (x2 + 1))), (3, .int (iI x3)), (0, .ref (B + (3 + 3 * f))), (1, .int (iI pi))]) C 1 dX0_leaveQueue_34 rfl rfl (by decide) rfl ?_
        refine n_iinc (lo' := [(3, .int (iI (x3 + 1))), (2, .int (iI (x2 + 1))), (0, .ref (B + (3 + 3 * f))), (1, .int (iI pi))]) C 1 dX0_leaveQueue_37 rfl rfl (by decide) rfl ?_
        refine r_goto (tgt := 4) C dX0_leaveQueue_40 (by decide) ?_
        exact ih4 _ (by first | omega | (rw [← hk4]; omega)) ((x2 + 1)) ((x3 + 1)) (kp + 1) (i + 1) a33 (by omega) (by omega) (by omega) (by rw [flt_y hq (by omega), List.length_append]; show _ + 1 = _; omega) (fun k hk => by rw [ea33, up1_n (by omega)]; exact hXo k hk) (fun j j1 j2 => by rw [ea33, up1_n (by omega)]; exact hXi j (by omega) j2) (fun j r hr => by
          rw [flt_y hq (by omega)] at hr
          rcases app_get hr with ⟨h1, h2⟩ | ⟨h1, h2⟩
          · rw [ea33, up1_n (by omega)]; exact hXf j r h2
          · rw [ea33, show j = kp by omega, up1_s, h2]) rfl
  exact lp4 _ 0 0 0 0 X rfl rfl (Nat.zero_le _) rfl (fun _ _ => rfl) (fun _ _ _ => rfl) (fun j q hq => by simp at hq) rfl
set_option maxHeartbeats 4000000 in
set_option maxRecDepth 20000 in
theorem k_X0_noteDelivery {l : Launch} {G : Gd} {base : Nat} {Y : MY} {I : MI} {L : ML} {B : Nat} {X : Sa} (f : Nat) {d z : Int} (hS : SLy base Y B) (hf : f < 6) (hd : 0 ≤ d ∧ d ≤ 2000000) (hz : z = 0 ∨ z = 1) (h9 : 0 ≤ X (17 + 18 * f + 9) ∧ X (17 + 18 * f + 9) ≤ 2000000) : Ct l yX0_noteDelivery cX0_noteDelivery 3 (none) (rmz 1 21) G base [.ref (B + (3 + 3 * f)), .int (iI d), .int (iI z)] Y (cI I B X) (cL L B X) (EV Y (fun I' L' => I' = cI I B (ndX X f d z) ∧ L' = cL L B (ndX X f d z))) := by
  refine Ct.of (own := RX0) (lo := [(0, .ref (B + (3 + 3 * f))), (1, .int (iI d)), (2, .int (iI z))]) (by decide) rfl (Nat.le_of_ble_eq_true rfl) rfl ?_
  intro zp ze zs zm zargs zbl zmt zc C hr hlk hnm
  refine r_aload_n C 0 dX0_noteDelivery_0 rfl rfl ?_
  refine r_dup C dX0_noteDelivery_1 rfl ?_
  refine c_getI C (v := (X (17 + 18 * f + 7))) (3 + 3 * f) ((17 + 18 * f + 7)) rfl (oF hf) (lnF hf (by decide)) (ky_F hf 4) fl_X0_38 rfl dX0_noteDelivery_2 (hS.2.2.1 f hf).1 rfl ?_
  refine r_iconst (v := iI 1) C dX0_noteDelivery_5 rfl ?_
  refine n_iadd C dX0_noteDelivery_6 ?_
  refine c_putI C (3 + 3 * f) ((17 + 18 * f + 7)) rfl (oF hf) (lnF hf (by decide)) (ky_F hf 4) fl_X0_38 rfl dX0_noteDelivery_7 (hS.2.2.1 f hf).1 (fun a7 ea7 => ?_)
  refine r_aload_n C 0 dX0_noteDelivery_10 rfl rfl ?_
  refine r_dup C dX0_noteDelivery_11 rfl ?_
  refine c_getI C (v := (X (17 + 18 * f + 10))) (3 + 3 * f) ((17 + 18 * f + 10)) rfl (oF hf) (lnF hf (by decide)) (ky_F hf 8) fl_X0_50 rfl dX0_noteDelivery_12 (hS.2.2.1 f hf).1 (by rw [ea7, up1_n (xSS (by decide))]) ?_
  refine r_iload_n C 1 dX0_noteDelivery_15 rfl rfl ?_
  refine n_iadd C dX0_noteDelivery_16 ?_
  refine c_putI C (3 + 3 * f) ((17 + 18 * f + 10)) rfl (oF hf) (lnF hf (by decide)) (ky_F hf 8) fl_X0_50 rfl dX0_noteDelivery_17 (hS.2.2.1 f hf).1 (fun a17 ea17 => ?_)
  refine r_aload_n C 0 dX0_noteDelivery_20 rfl rfl ?_
  refine r_aload_n C 0 dX0_noteDelivery_21 rfl rfl ?_
  refine c_getI C (v := (X (17 + 18 * f + 9))) (3 + 3 * f) ((17 + 18 * f + 9)) rfl (oF hf) (lnF hf (by decide)) (ky_F hf 7) fl_X0_47 rfl dX0_noteDelivery_22 (hS.2.2.1 f hf).1 (by rw [ea17, up1_n (xSS (by decide)), ea7, up1_n (xSS (by decide))]) ?_
  refine r_iload_n C 1 dX0_noteDelivery_25 rfl rfl ?_
  refine cS2_PI C (k_J9_max_7cf53 (by constructor <;> omega) (by constructor <;> omega)) cw_X0_74 (rm_ok rfl rfl (Nat.zero_le _) (Nat.zero_le _)) (Nat.le_of_ble_eq_true rfl) dX0_noteDelivery_26 ?_
  refine n_topi (fun y26 ey26 => ?_)
  have ky26 : ((X (17 + 18 * f + 9)) < d ∧ y26 = d) ∨ (d ≤ (X (17 + 18 * f + 9)) ∧ y26 = (X (17 + 18 * f + 9))) := by rw [ey26]; split <;> omega
  refine c_putI C (3 + 3 * f) ((17 + 18 * f + 9)) rfl (oF hf) (lnF hf (by decide)) (ky_F hf 7) fl_X0_47 rfl dX0_noteDelivery_29 (hS.2.2.1 f hf).1 (fun a29 ea29 => ?_)
  refine r_iload_n C 2 dX0_noteDelivery_32 rfl rfl ?_
  refine n_if_eq (tgt := 46) C dX0_noteDelivery_33 (by decide) (by constructor <;> omega) (fun c33 => ?_) (fun c33 => ?_)
  · refine r_vret C hr hlk dX0_noteDelivery_46 (Nat.zero_le _) (Nat.zero_le _) ?_
    have eX : a29 = ndX X f d z := by
      unfold ndX
      rw [up1_self (f := up1 _ _ _) (by rw [up1_n (by omega), up1_n (by omega), up1_n (by omega)]; omega), ea29, ea17, ea7, ey26]
    exact ⟨rfl, rfl, congrArg (cI I B) eX, congrArg (cL L B) eX⟩
  · refine r_aload_n C 0 dX0_noteDelivery_36 rfl rfl ?_
    refine r_dup C dX0_noteDelivery_37 rfl ?_
    refine c_getI C (v := (X (17 + 18 * f + 8))) (3 + 3 * f) ((17 + 18 * f + 8)) rfl (oF hf) (lnF hf (by decide)) (ky_F hf 5) fl_X0_41 rfl dX0_noteDelivery_38 (hS.2.2.1 f hf).1 (by rw [ea29, up1_n (xSS (by decide)), ea17, up1_n (xSS (by decide)), ea7, up1_n (xSS (by decide))]) ?_
    refine r_iconst (v := iI 1) C dX0_noteDelivery_41 rfl ?_
    refine n_iadd C dX0_noteDelivery_42 ?_
    refine c_putI C (3 + 3 * f) ((17 + 18 * f + 8)) rfl (oF hf) (lnF hf (by decide)) (ky_F hf 5) fl_X0_41 rfl dX0_noteDelivery_43 (hS.2.2.1 f hf).1 (fun a43 ea43 => ?_)
    refine r_vret C hr hlk dX0_noteDelivery_46 (Nat.zero_le _) (Nat.zero_le _) ?_
    have eX : a43 = ndX X f d z := by
      have hz1 : z = 1 := by omega
      unfold ndX
      rw [ea43, ea29, ea17, ea7, ey26, hz1]
    exact ⟨rfl, rfl, congrArg (cI I B) eX, congrArg (cL L B) eX⟩
set_option maxHeartbeats 4000000 in
set_option maxRecDepth 20000 in
theorem k_X0_forgive {l : Launch} {G : Gd} {base : Nat} {Y : MY} {I : MI} {L : ML} {B : Nat} {X : Sa} (f : Nat) {v : Int} (hS : SLy base Y B) (hf : f < 6) (hv : 0 ≤ v ∧ v ≤ 1000000000000000) (h12 : 0 ≤ X (17 + 18 * f + 12) ∧ X (17 + 18 * f + 12) ≤ 1000000000000000) (h4 : 1 ≤ X (17 + 18 * f + 4) ∧ X (17 + 18 * f + 4) ≤ 2) : Ct l yX0_forgive cX0_forgive 5 (none) (rmz 0 0) G base [.ref (B + (3 + 3 * f)), .long (lI v)] Y (cI I B X) (cL L B X) (EV Y (fun I' L' => I' = cI I B (fgX X f v) ∧ L' = cL L B (fgX X f v))) := by
  refine Ct.of (own := RX0) (lo := [(0, .ref (B + (3 + 3 * f))), (1, .long (lI v))]) (by decide) rfl (Nat.le_of_ble_eq_true rfl) rfl ?_
  intro zp ze zs zm zargs zbl zmt zc C hr hlk hnm
  refine r_aload_n C 0 dX0_forgive_0 rfl rfl ?_
  refine c_getL C (v := (X (17 + 18 * f + 12))) (3 + 3 * f) ((17 + 18 * f + 12)) rfl (oF hf) (lnFy hf (by decide)) (ky_F hf 10) fl_X0_56 rfl dX0_forgive_1 (hS.2.2.1 f hf).1 rfl ?_
  refine r_lload_n C 1 dX0_forgive_4 rfl rfl ?_
  refine n_lcmp_le (tgt := 56) C dX0_forgive_5 dX0_forgive_6 rfl rfl (by decide) (by constructor <;> omega) (by constructor <;> omega) (fun c5 => ?_) (fun c5 => ?_)
  · refine r_vret C hr hlk dX0_forgive_56 (Nat.zero_le _) (Nat.zero_le _) ?_
    have eX : X = fgX X f v := by
      unfold fgX
      rw [if_neg (by omega)]
    exact ⟨rfl, rfl, congrArg (cI I B) eX, congrArg (cL L B) eX⟩
  · have jn35 : ∀ x35 : Int, (¬ (X (17 + 18 * f + 4)) = 2 ∧ x35 = (v + (((X (17 + 18 * f + 12)) - v) / 2))) ∨ ((X (17 + 18 * f + 4)) = 2 ∧ x35 = v) → Bd zp l ze (rmz 0 0) zs zm zargs zbl zmt zc 5 G base (EV Y (fun I' L' => I' = cI I B (fgX X f v) ∧ L' = cL L B (fgX X f v))) 35 [(0, .ref (B + (3 + 3 * f))), (1, .long (lI v))] [.long (lI x35)] Y (cI I B X) (cL L B X) 0 0 := by
      intro x35 hx35
      have hk : x35 = v + idK' X f v := by
        unfold idK'
        split <;> omega
      refine r_lstore_n (lo' := [(3, .long (lI x35)), (0, .ref (B + (3 + 3 * f))), (1, .long (lI v))]) C dX0_forgive_35 rfl (by decide) rfl ?_
      refine r_aload_n C 1 dX0_forgive_36 rfl rfl ?_
      refine r_dup C dX0_forgive_37 rfl ?_
      refine c_getL C (v := (X (17 + 18 * f + 13))) (3 + 3 * f) ((17 + 18 * f + 13)) rfl (oF hf) (lnFy hf (by decide)) (ky_F hf 11) fl_X0_60 rfl dX0_forgive_38 (hS.2.2.1 f hf).1 rfl ?_
      refine r_aload_n C 1 dX0_forgive_41 rfl rfl ?_
      refine c_getL C (v := (X (17 + 18 * f + 12))) (3 + 3 * f) ((17 + 18 * f + 12)) rfl (oF hf) (lnFy hf (by decide)) (ky_F hf 10) fl_X0_56 rfl dX0_forgive_42 (hS.2.2.1 f hf).1 rfl ?_
      refine r_lload_n C 0 dX0_forgive_45 rfl rfl ?_
      refine n_lsub C dX0_forgive_46 ?_
      refine n_ladd C dX0_forgive_47 ?_
      refine c_putL C (3 + 3 * f) ((17 + 18 * f + 13)) rfl (oF hf) (lnFy hf (by decide)) (ky_F hf 11) fl_X0_60 rfl dX0_forgive_48 (hS.2.2.1 f hf).1 (fun a48 ea48 => ?_)
      refine r_aload_n C 1 dX0_forgive_51 rfl rfl ?_
      refine r_lload_n C 0 dX0_forgive_52 rfl rfl ?_
      refine c_putL C (3 + 3 * f) ((17 + 18 * f + 12)) rfl (oF hf) (lnFy hf (by decide)) (ky_F hf 10) fl_X0_56 rfl dX0_forgive_53 (hS.2.2.1 f hf).1 (fun a53 ea53 => ?_)
      refine r_vret C hr hlk dX0_forgive_56 (Nat.zero_le _) (Nat.zero_le _) ?_
      have eX : a53 = fgX X f v := by
        unfold fgX
        rw [if_pos (by omega), ← hk, ea53, ea48]
      exact ⟨rfl, rfl, congrArg (cI I B) eX, congrArg (cL L B) eX⟩
    refine r_aload_n C 0 dX0_forgive_9 rfl rfl ?_
    refine r_getR C fl_X0_13 rfl dX0_forgive_10 (hS.2.2.1 f hf).1 (hS.2.2.1 f hf).2.2.2.2.1 ?_
    refine r_iconst (v := iI 4) C dX0_forgive_13 rfl ?_
    refine c_iald C (v := (X (17 + 18 * f + 4))) (4 + 3 * f) 4 ((17 + 18 * f + 4)) rfl (oG hf) (lnG1 hf) (ky_G hf (by omega)) dX0_forgive_14 (hS.2.2.1 f hf).2.1 ⟨rfl, by decide, by decide⟩ rfl ?_
    refine r_iconst (v := iI 2) C dX0_forgive_15 rfl ?_
    refine n_icmp_ne (tgt := 23) C dX0_forgive_16 (by decide) (by constructor <;> omega) ⟨by decide, by decide⟩ (fun c16 => ?_) (fun c16 => ?_)
    · refine r_lload_n C 1 dX0_forgive_23 rfl rfl ?_
      refine r_aload_n C 0 dX0_forgive_24 rfl rfl ?_
      refine c_getL C (v := (X (17 + 18 * f + 12))) (3 + 3 * f) ((17 + 18 * f + 12)) rfl (oF hf) (lnFy hf (by decide)) (ky_F hf 10) fl_X0_56 rfl dX0_forgive_25 (hS.2.2.1 f hf).1 rfl ?_
      refine r_lload_n C 1 dX0_forgive_28 rfl rfl ?_
      refine n_lsub C dX0_forgive_29 ?_
      refine n_ldc2 (v := 2) C lc_X0_84 (by decide) dX0_forgive_30 ?_
      refine n_ldiv C dX0_forgive_33 (by omega) (by omega) ?_
      refine n_ladd C dX0_forgive_34 ?_
      exact jn35 _ (Or.inl ⟨c16, rfl⟩)
    · refine r_lload_n C 1 dX0_forgive_19 rfl rfl ?_
      refine r_goto (tgt := 35) C dX0_forgive_20 (by decide) ?_
      exact jn35 _ (Or.inr (⟨c16, rfl⟩))
set_option maxHeartbeats 4000000 in
set_option maxRecDepth 20000 in
theorem k_X0_makeIdleTick {l : Launch} {G : Gd} {base : Nat} {Y : MY} {I : MI} {L : ML} {B : Nat} {X : Sa} (f : Nat) {v : Int} (hS : SLy base Y B) (hf : f < 6) (hv : 0 ≤ v ∧ v ≤ 1000000000000000) (h12 : 0 ≤ X (17 + 18 * f + 12) ∧ X (17 + 18 * f + 12) ≤ 1000000000000000) (h4 : 0 ≤ X (17 + 18 * f + 4) ∧ X (17 + 18 * f + 4) ≤ 2) (h5 : 0 ≤ X (17 + 18 * f + 5) ∧ X (17 + 18 * f + 5) ≤ 2000000) (h3 : 0 ≤ X (17 + 18 * f + 3) ∧ X (17 + 18 * f + 3) ≤ 1000) (h17 : 0 ≤ X (17 + 18 * f + 17) ∧ X (17 + 18 * f + 17) ≤ 20) : Ct l yX0_makeIdleTick cX0_makeIdleTick 4 (none) (rmz 1 24) G base [.ref (B + (3 + 3 * f)), .long (lI v)] Y (cI I B X) (cL L B X) (EV Y (fun I' L' => I' = cI I B (idX X f v) ∧ L' = cL L B (idX X f v))) := by
  refine Ct.of (own := RX0) (lo := [(0, .ref (B + (3 + 3 * f))), (1, .long (lI v))]) (by decide) rfl (Nat.le_of_ble_eq_true rfl) rfl ?_
  intro zp ze zs zm zargs zbl zmt zc C hr hlk hnm
  refine r_aload_n C 0 dX0_makeIdleTick_0 rfl rfl ?_
  have jn18 : ∀ x18 : Int, (¬ (X (17 + 18 * f + 17)) = 0 ∧ x18 = 0) ∨ ((X (17 + 18 * f + 17)) = 0 ∧ x18 = ((X (17 + 18 * f + 5)) + 1)) → Bd zp l ze (rmz 1 24) zs zm zargs zbl zmt zc 4 G base (EV Y (fun I' L' => I' = cI I B (idX X f v) ∧ L' = cL L B (idX X f v))) 18 [(0, .ref (B + (3 + 3 * f))), (1, .long (lI v))] [.int (iI x18), .ref (B + (3 + 3 * f))] Y (cI I B X) (cL L B X) 0 0 := by
    intro x18 hx18
    have hv5 : x18 = idV X f := by
      unfold idV
      split <;> omega
    refine c_putI C (3 + 3 * f) ((17 + 18 * f + 5)) rfl (oF hf) (lnF hf (by decide)) (ky_F hf 6) fl_X0_44 rfl dX0_makeIdleTick_18 (hS.2.2.1 f hf).1 (fun a18 ea18 => ?_)
    refine r_aload_n C 0 dX0_makeIdleTick_21 rfl rfl ?_
    refine r_getR C fl_X0_13 rfl dX0_makeIdleTick_22 (hS.2.2.1 f hf).1 (hS.2.2.1 f hf).2.2.2.2.1 ?_
    refine r_iconst (v := iI 3) C dX0_makeIdleTick_25 rfl ?_
    refine c_iald C (v := (X (17 + 18 * f + 3))) (4 + 3 * f) 3 ((17 + 18 * f + 3)) rfl (oG hf) (lnG1 hf) (ky_G hf (by omega)) dX0_makeIdleTick_26 (hS.2.2.1 f hf).2.1 ⟨rfl, by decide, by decide⟩ (by rw [ea18, up1_n (xSS (by decide))]) ?_
    refine r_istore_n (lo' := [(3, .int (iI (X (17 + 18 * f + 3)))), (0, .ref (B + (3 + 3 * f))), (1, .long (lI v))]) C dX0_makeIdleTick_27 rfl (by decide) rfl ?_
    refine r_iload_n C 0 dX0_makeIdleTick_28 rfl rfl ?_
    refine n_if_le (tgt := 59) C dX0_makeIdleTick_29 (by decide) (by constructor <;> omega) (fun c29 => ?_) (fun c29 => ?_)
    · refine r_vret C hr hlk dX0_makeIdleTick_59 (Nat.zero_le _) (Nat.zero_le _) ?_
      have eX : a18 = idX X f v := by
        have hE : ¬ idE X f := fun hh => by unfold idE at hh; omega
        unfold idX
        rw [@if_neg _ (Classical.propDecidable _) hE, ea18, hv5]
      exact ⟨rfl, rfl, congrArg (cI I B) eX, congrArg (cL L B) eX⟩
    · refine r_aload_n C 1 dX0_makeIdleTick_32 rfl rfl ?_
      refine r_getR C fl_X0_13 rfl dX0_makeIdleTick_33 (hS.2.2.1 f hf).1 (hS.2.2.1 f hf).2.2.2.2.1 ?_
      refine r_iconst (v := iI 4) C dX0_makeIdleTick_36 rfl ?_
      refine c_iald C (v := (X (17 + 18 * f + 4))) (4 + 3 * f) 4 ((17 + 18 * f + 4)) rfl (oG hf) (lnG1 hf) (ky_G hf (by omega)) dX0_makeIdleTick_37 (hS.2.2.1 f hf).2.1 ⟨rfl, by decide, by decide⟩ (by rw [ea18, up1_n (xSS (by decide))]) ?_
      refine n_if_eq (tgt := 59) C dX0_makeIdleTick_38 (by decide) (by constructor <;> omega) (fun c38 => ?_) (fun c38 => ?_)
      · refine r_vret C hr hlk dX0_makeIdleTick_59 (Nat.zero_le _) (Nat.zero_le _) ?_
        have eX : a18 = idX X f v := by
          have hE : ¬ idE X f := fun hh => by unfold idE at hh; omega
          unfold idX
          rw [@if_neg _ (Classical.propDecidable _) hE, ea18, hv5]
        exact ⟨rfl, rfl, congrArg (cI I B) eX, congrArg (cL L B) eX⟩
      · refine r_aload_n C 1 dX0_makeIdleTick_41 rfl rfl ?_
        refine c_getI C (v := x18) (3 + 3 * f) ((17 + 18 * f + 5)) rfl (oF hf) (lnF hf (by decide)) (ky_F hf 6) fl_X0_44 rfl dX0_makeIdleTick_42 (hS.2.2.1 f hf).1 (by rw [ea18, up1_s]) ?_
        refine r_iload_n C 0 dX0_makeIdleTick_45 rfl rfl ?_
        refine n_icmp_lt (tgt := 59) C dX0_makeIdleTick_46 (by decide) (by constructor <;> omega) (by constructor <;> omega) (fun c46 => ?_) (fun c46 => ?_)
        · refine r_vret C hr hlk dX0_makeIdleTick_59 (Nat.zero_le _) (Nat.zero_le _) ?_
          have eX : a18 = idX X f v := by
            have hE : ¬ idE X f := fun hh => by unfold idE at hh; omega
            unfold idX
            rw [@if_neg _ (Classical.propDecidable _) hE, ea18, hv5]
          exact ⟨rfl, rfl, congrArg (cI I B) eX, congrArg (cL L B) eX⟩
        · refine r_aload_n C 1 dX0_makeIdleTick_49 rfl rfl ?_
          refine r_iconst (v := iI 0) C dX0_makeIdleTick_50 rfl ?_
          refine c_putI C (3 + 3 * f) ((17 + 18 * f + 5)) rfl (oF hf) (lnF hf (by decide)) (ky_F hf 6) fl_X0_44 rfl dX0_makeIdleTick_51 (hS.2.2.1 f hf).1 (fun a51 ea51 => ?_)
          refine r_aload_n C 1 dX0_makeIdleTick_54 rfl rfl ?_
          refine r_lload_n C 2 dX0_makeIdleTick_55 rfl rfl ?_
          refine cV1_EV C (k_X0_forgive f hS hf (by omega) (show 0 ≤ a51 (17 + 18 * f + 12) ∧ a51 (17 + 18 * f + 12) ≤ 1000000000000000 by rw [show a51 (17 + 18 * f + 12) = (X (17 + 18 * f + 12)) from (by rw [ea51, up1_n (xSS (by decide)), ea18, up1_n (xSS (by decide))])]; omega) (show 1 ≤ a51 (17 + 18 * f + 4) ∧ a51 (17 + 18 * f + 4) ≤ 2 by rw [show a51 (17 + 18 * f + 4) = (X (17 + 18 * f + 4)) from (by rw [ea51, up1_n (xSS (by decide)), ea18, up1_n (xSS (by decide))])]; omega)) cw_X0_80 (rm_ok rfl rfl (Nat.zero_le _) (Nat.zero_le _)) (Nat.le_of_ble_eq_true rfl) (hS.2.2.1 f hf).1 dX0_makeIdleTick_56 (fun I56 L56 h56 => ?_)
          obtain ⟨h56I, h56L⟩ := h56
          obtain ⟨a56, ea56⟩ : ∃ z, z = fgX a51 f v := ⟨_, rfl⟩
          rw [← ea56] at h56I h56L
          subst h56I
          subst h56L
          refine r_vret C hr hlk dX0_makeIdleTick_59 (Nat.zero_le _) (Nat.zero_le _) ?_
          have eX : a56 = idX X f v := by
            have hE : idE X f := ⟨by omega, by omega, by omega⟩
            unfold idX
            rw [@if_pos _ (Classical.propDecidable _) hE, ea56, ea51, ea18, hv5]
          exact ⟨rfl, rfl, congrArg (cI I B) eX, congrArg (cL L B) eX⟩
  refine r_aload_n C 0 dX0_makeIdleTick_1 rfl rfl ?_
  refine c_getI C (v := (X (17 + 18 * f + 17))) (3 + 3 * f) ((17 + 18 * f + 17)) rfl (oF hf) (lnF hf (by decide)) (ky_F hf 2) fl_X0_31 rfl dX0_makeIdleTick_2 (hS.2.2.1 f hf).1 rfl ?_
  refine n_if_ne (tgt := 17) C dX0_makeIdleTick_5 (by decide) (by constructor <;> omega) (fun c5 => ?_) (fun c5 => ?_)
  · refine r_iconst (v := iI 0) C dX0_makeIdleTick_17 rfl ?_
    exact jn18 _ (Or.inl ⟨c5, rfl⟩)
  · refine r_aload_n C 0 dX0_makeIdleTick_8 rfl rfl ?_
    refine c_getI C (v := (X (17 + 18 * f + 5))) (3 + 3 * f) ((17 + 18 * f + 5)) rfl (oF hf) (lnF hf (by decide)) (ky_F hf 6) fl_X0_44 rfl dX0_makeIdleTick_9 (hS.2.2.1 f hf).1 rfl ?_
    refine r_iconst (v := iI 1) C dX0_makeIdleTick_12 rfl ?_
    refine n_iadd C dX0_makeIdleTick_13 ?_
    refine r_goto (tgt := 18) C dX0_makeIdleTick_14 (by decide) ?_
    exact jn18 _ (Or.inr (⟨c5, rfl⟩))
set_option maxHeartbeats 4000000 in
set_option maxRecDepth 20000 in
theorem k_X0_loseFluid {l : Launch} {G : Gd} {base : Nat} {Y : MY} {I : MI} {L : ML} {B : Nat} {X : Sa} (f : Nat) {w : Int} (hS : SLy base Y B) (hf : f < 6) (hw : 1 ≤ w ∧ w ≤ 96) (h0 : 1 ≤ X (17 + 18 * f + 0) ∧ X (17 + 18 * f + 0) ≤ 16) (h14 : 0 ≤ X (17 + 18 * f + 14) ∧ X (17 + 18 * f + 14) ≤ 1000000000000000) (h15 : 0 ≤ X (17 + 18 * f + 15) ∧ X (17 + 18 * f + 15) ≤ 1000000000000) (h6 : 0 ≤ X (17 + 18 * f + 6) ∧ X (17 + 18 * f + 6) ≤ 2000000) (h16 : 0 ≤ X (17 + 18 * f + 16) ∧ X (17 + 18 * f + 16) ≤ 1000000000000) : Ct l yX0_loseFluid cX0_loseFluid 6 (none) (rmz 1 23) G base [.ref (B + (3 + 3 * f)), .int (iI w)] Y (cI I B X) (cL L B X) (EV Y (fun I' L' => I' = cI I B (lsX X f w) ∧ L' = cL L B (lsX X f w))) := by
  refine Ct.of (own := RX0) (lo := [(0, .ref (B + (3 + 3 * f))), (1, .int (iI w))]) (by decide) rfl (Nat.le_of_ble_eq_true rfl) rfl ?_
  intro zp ze zs zm zargs zbl zmt zc C hr hlk hnm
  refine r_iload_n C 1 dX0_loseFluid_0 rfl rfl ?_
  refine r_iconst (v := iI 1) C dX0_loseFluid_1 rfl ?_
  refine n_icmp_ge (tgt := 9) C dX0_loseFluid_2 (by decide) (by constructor <;> omega) ⟨by decide, by decide⟩ (fun c2 => ?_) (fun c2 => ?_)
  · refine n_ldc2 (v := 720720) C lc_X0_72 (by decide) dX0_loseFluid_9 ?_
    refine r_aload_n C 0 dX0_loseFluid_12 rfl rfl ?_
    refine r_getR C fl_X0_13 rfl dX0_loseFluid_13 (hS.2.2.1 f hf).1 (hS.2.2.1 f hf).2.2.2.2.1 ?_
    refine r_iconst (v := iI 0) C dX0_loseFluid_16 rfl ?_
    refine c_iald C (v := (X (17 + 18 * f + 0))) (4 + 3 * f) 0 ((17 + 18 * f + 0)) rfl (oG hf) (lnG1 hf) (ky_G hf (by omega)) dX0_loseFluid_17 (hS.2.2.1 f hf).2.1 ⟨rfl, by decide, by decide⟩ rfl ?_
    refine n_i2l C dX0_loseFluid_18 (by constructor <;> omega) ?_
    refine n_lmul C dX0_loseFluid_19 ?_
    refine r_iload_n C 1 dX0_loseFluid_20 rfl rfl ?_
    refine n_i2l C dX0_loseFluid_21 (by constructor <;> omega) ?_
    refine n_ldiv C dX0_loseFluid_22 (by omega) (by omega) ?_
    have hdv : 0 ≤ 720720 * (X (17 + 18 * f + 0)) / w ∧ 720720 * (X (17 + 18 * f + 0)) / w ≤ 11531520 := ⟨Int.ediv_nonneg (by omega) (by omega), Int.le_trans (Int.ediv_le_self _ (by omega)) (by omega)⟩
    refine n_topl (fun x23 ex23 => ?_)
    refine r_lstore_n (lo' := [(2, .long (lI x23)), (0, .ref (B + (3 + 3 * f))), (1, .int (iI w))]) C dX0_loseFluid_23 rfl (by decide) rfl ?_
    refine r_aload_n C 1 dX0_loseFluid_24 rfl rfl ?_
    refine c_getL C (v := (X (17 + 18 * f + 14))) (3 + 3 * f) ((17 + 18 * f + 14)) rfl (oF hf) (lnFy hf (by decide)) (ky_F hf 12) fl_X0_63 rfl dX0_loseFluid_25 (hS.2.2.1 f hf).1 rfl ?_
    refine r_lload_n C 0 dX0_loseFluid_28 rfl rfl ?_
    refine cS2_PL C (k_J9_min_f86c9 (by constructor <;> omega) (by constructor <;> omega)) cw_X0_86 (rm_ok rfl rfl (Nat.zero_le _) (Nat.zero_le _)) (Nat.le_of_ble_eq_true rfl) dX0_loseFluid_29 ?_
    refine n_topl (fun y29 ey29 => ?_)
    have ky29 : ((X (17 + 18 * f + 14)) < x23 ∧ y29 = (X (17 + 18 * f + 14))) ∨ (x23 ≤ (X (17 + 18 * f + 14)) ∧ y29 = x23) := by rw [ey29]; split <;> omega
    refine r_lstore (lo' := [(4, .long (lI y29)), (2, .long (lI x23)), (0, .ref (B + (3 + 3 * f))), (1, .int (iI w))]) C dX0_loseFluid_32 (by decide) rfl ?_
    have hfq : y29 = flQ X f w := by
      unfold flQ
      rw [← ex23]
      split <;> omega
    refine r_aload_n C 2 dX0_loseFluid_34 rfl rfl ?_
    refine r_dup C dX0_loseFluid_35 rfl ?_
    refine c_getL C (v := (X (17 + 18 * f + 14))) (3 + 3 * f) ((17 + 18 * f + 14)) rfl (oF hf) (lnFy hf (by decide)) (ky_F hf 12) fl_X0_63 rfl dX0_loseFluid_36 (hS.2.2.1 f hf).1 rfl ?_
    refine r_lload C 0 dX0_loseFluid_39 rfl ?_
    refine n_lsub C dX0_loseFluid_41 ?_
    refine c_putL C (3 + 3 * f) ((17 + 18 * f + 14)) rfl (oF hf) (lnFy hf (by decide)) (ky_F hf 12) fl_X0_63 rfl dX0_loseFluid_42 (hS.2.2.1 f hf).1 (fun a42 ea42 => ?_)
    refine r_aload_n C 2 dX0_loseFluid_45 rfl rfl ?_
    refine r_dup C dX0_loseFluid_46 rfl ?_
    refine c_getL C (v := (X (17 + 18 * f + 15))) (3 + 3 * f) ((17 + 18 * f + 15)) rfl (oF hf) (lnFy hf (by decide)) (ky_F hf 13) fl_X0_66 rfl dX0_loseFluid_47 (hS.2.2.1 f hf).1 (by rw [ea42, up1_n (xSS (by decide))]) ?_
    refine r_lload C 0 dX0_loseFluid_50 rfl ?_
    refine n_ladd C dX0_loseFluid_52 ?_
    refine c_putL C (3 + 3 * f) ((17 + 18 * f + 15)) rfl (oF hf) (lnFy hf (by decide)) (ky_F hf 13) fl_X0_66 rfl dX0_loseFluid_53 (hS.2.2.1 f hf).1 (fun a53 ea53 => ?_)
    refine r_aload_n C 2 dX0_loseFluid_56 rfl rfl ?_
    refine r_aload_n C 2 dX0_loseFluid_57 rfl rfl ?_
    refine c_getL C (v := (X (17 + 18 * f + 16))) (3 + 3 * f) ((17 + 18 * f + 16)) rfl (oF hf) (lnFy hf (by decide)) (ky_F hf 14) fl_X0_69 rfl dX0_loseFluid_58 (hS.2.2.1 f hf).1 (by rw [ea53, up1_n (xSS (by decide)), ea42, up1_n (xSS (by decide))]) ?_
    refine r_aload_n C 2 dX0_loseFluid_61 rfl rfl ?_
    refine cV0_PL C (k_X0_lag f hS hf (show 0 ≤ a53 (17 + 18 * f + 6) ∧ a53 (17 + 18 * f + 6) ≤ 2000000 by rw [show a53 (17 + 18 * f + 6) = (X (17 + 18 * f + 6)) from (by rw [ea53, up1_n (xSS (by decide)), ea42, up1_n (xSS (by decide))])]; omega)) cw_X0_90 (rm_ok rfl rfl (Nat.zero_le _) (Nat.zero_le _)) (Nat.le_of_ble_eq_true rfl) (hS.2.2.1 f hf).1 dX0_loseFluid_62 ?_
    refine n_eql (y := (((X (17 + 18 * f + 15)) + y29) - 720720 * (X (17 + 18 * f + 6)))) (by rw [show a53 (17 + 18 * f + 15) = ((X (17 + 18 * f + 15)) + y29) from (by rw [ea53, up1_s]), show a53 (17 + 18 * f + 6) = (X (17 + 18 * f + 6)) from (by rw [ea53, up1_n (xSS (by decide)), ea42, up1_n (xSS (by decide))])]) ?_
    refine cS2_PL C (k_J9_max_f86c9 (by constructor <;> omega) (by constructor <;> omega)) cw_X0_94 (rm_ok rfl rfl (Nat.zero_le _) (Nat.zero_le _)) (Nat.le_of_ble_eq_true rfl) dX0_loseFluid_65 ?_
    refine n_topl (fun y65 ey65 => ?_)
    have ky65 : ((X (17 + 18 * f + 16)) < (((X (17 + 18 * f + 15)) + y29) - 720720 * (X (17 + 18 * f + 6))) ∧ y65 = (((X (17 + 18 * f + 15)) + y29) - 720720 * (X (17 + 18 * f + 6)))) ∨ ((((X (17 + 18 * f + 15)) + y29) - 720720 * (X (17 + 18 * f + 6))) ≤ (X (17 + 18 * f + 16)) ∧ y65 = (X (17 + 18 * f + 16))) := by rw [ey65]; split <;> omega
    refine c_putL C (3 + 3 * f) ((17 + 18 * f + 16)) rfl (oF hf) (lnFy hf (by decide)) (ky_F hf 14) fl_X0_69 rfl dX0_loseFluid_68 (hS.2.2.1 f hf).1 (fun a68 ea68 => ?_)
    refine r_vret C hr hlk dX0_loseFluid_71 (Nat.zero_le _) (Nat.zero_le _) ?_
    have eX : a68 = lsX X f w := by
      unfold lsX
      rw [← hfq, ea68, ea53, ea42, ey65]
    exact ⟨rfl, rfl, congrArg (cI I B) eX, congrArg (cL L B) eX⟩
  · exfalso; omega
set_option maxHeartbeats 4000000 in
set_option maxRecDepth 20000 in
theorem k_X3_clear {l : Launch} {G : Gd} {base : Nat} {Y : MY} {I : MI} {L : ML} {B : Nat} {X : Sa}  (hS : SLy base Y B)  : Ct l yX3_clear cX3_clear 1 (none) (rmz 0 0) G base [.ref (B + 203)] Y (cI I B X) (cL L B X) (EV Y (fun I' L' => I' = cI I B (clX X) ∧ L' = cL L B (clX X))) := by
  refine Ct.of (own := RX3) (lo := [(0, .ref (B + 203))]) (by decide) rfl (Nat.le_of_ble_eq_true rfl) rfl ?_
  intro zp ze zs zm zargs zbl zmt zc C hr hlk hnm
  refine r_aload_n C 0 dX3_clear_0 rfl rfl ?_
  refine r_bipush (v := iI (-6)) C dX3_clear_1 (by decide) ?_
  refine c_putI C 203 8 rfl (by decide) ln203 rfl fl_X3_14 rfl dX3_clear_3 hS.1.2.2.2.2.2.1 (fun a3 ea3 => ?_)
  refine r_aload_n C 0 dX3_clear_6 rfl rfl ?_
  refine r_bipush (v := iI (-6)) C dX3_clear_7 (by decide) ?_
  refine c_putI C 203 3818 rfl (by decide) ln203 rfl fl_X3_18 rfl dX3_clear_9 hS.1.2.2.2.2.2.1 (fun a9 ea9 => ?_)
  refine r_aload_n C 0 dX3_clear_12 rfl rfl ?_
  refine r_iconst (v := iI 0) C dX3_clear_13 rfl ?_
  refine c_putI C 203 9 rfl (by decide) ln203 rfl fl_X3_21 rfl dX3_clear_14 hS.1.2.2.2.2.2.1 (fun a14 ea14 => ?_)
  refine r_aload_n C 0 dX3_clear_17 rfl rfl ?_
  refine r_iconst (v := iI 0) C dX3_clear_18 rfl ?_
  refine c_putI C 203 12 rfl (by decide) ln203 rfl fl_X3_24 rfl dX3_clear_19 hS.1.2.2.2.2.2.1 (fun a19 ea19 => ?_)
  refine r_aload_n C 0 dX3_clear_22 rfl rfl ?_
  refine r_iconst (v := iI 0) C dX3_clear_23 rfl ?_
  refine c_putI C 203 10 rfl (by decide) ln203 rfl fl_X3_27 rfl dX3_clear_24 hS.1.2.2.2.2.2.1 (fun a24 ea24 => ?_)
  refine r_aload_n C 0 dX3_clear_27 rfl rfl ?_
  refine r_bipush (v := iI (-6)) C dX3_clear_28 (by decide) ?_
  refine c_putI C 203 5466 rfl (by decide) ln203 rfl fl_X3_30 rfl dX3_clear_30 hS.1.2.2.2.2.2.1 (fun a30 ea30 => ?_)
  refine r_aload_n C 0 dX3_clear_33 rfl rfl ?_
  refine r_iconst (v := iI 0) C dX3_clear_34 rfl ?_
  refine c_putZ C 203 11 rfl (by decide) ln203 rfl fl_X3_33 rfl dX3_clear_35 hS.1.2.2.2.2.2.1 (Or.inl rfl) (fun a35 ea35 => ?_)
  refine r_vret C hr hlk dX3_clear_38 (Nat.zero_le _) (Nat.zero_le _) ?_
  have eX : a35 = clX X := by
    unfold clX
    rw [ea35, ea30, ea24, ea19, ea14, ea9, ea3]
  exact ⟨rfl, rfl, congrArg (cI I B) eX, congrArg (cL L B) eX⟩
set_option maxHeartbeats 4000000 in
set_option maxRecDepth 20000 in
theorem k_X3_copyFrom {l : Launch} {G : Gd} {base : Nat} {Y : MY} {I : MI} {L : ML} {B : Nat} {X : Sa} (j : Nat) (hS : SLy base Y B) (hj : j < 60) (h11 : X 11 = 0 ∨ X 11 = 1) : Ct l yX3_copyFrom cX3_copyFrom 2 (none) (rmz 0 0) G base [.ref (B + (143 + j)), .ref (B + 203)] Y (cI I B X) (cL L B X) (EV Y (fun I' L' => I' = cI I B (cpX X j) ∧ L' = cL L B (cpX X j))) := by
  refine Ct.of (own := RX3) (lo := [(0, .ref (B + (143 + j))), (1, .ref (B + 203))]) (by decide) rfl (Nat.le_of_ble_eq_true rfl) rfl ?_
  intro zp ze zs zm zargs zbl zmt zc C hr hlk hnm
  refine r_aload_n C 0 dX3_copyFrom_0 rfl rfl ?_
  refine r_aload_n C 1 dX3_copyFrom_1 rfl rfl ?_
  refine c_getI C (v := (X 8)) 203 8 rfl (by decide) ln203 rfl fl_X3_14 rfl dX3_copyFrom_2 hS.1.2.2.2.2.2.1 rfl ?_
  refine c_putI C (143 + j) ((1445 + 5 * j + 0)) rfl (oR hj) (lnR hj) (ky_R hj 0) fl_X3_14 rfl dX3_copyFrom_5 (hS.2.2.2.2 j hj).1 (fun a5 ea5 => ?_)
  refine r_aload_n C 0 dX3_copyFrom_8 rfl rfl ?_
  refine r_aload_n C 1 dX3_copyFrom_9 rfl rfl ?_
  refine c_getI C (v := (X 3818)) 203 3818 rfl (by decide) ln203 rfl fl_X3_18 rfl dX3_copyFrom_10 hS.1.2.2.2.2.2.1 (by rw [ea5, up1_n (by omega)]) ?_
  refine c_putI C (143 + j) ((1445 + 5 * j + 1)) rfl (oR hj) (lnR hj) (ky_R hj 1) fl_X3_18 rfl dX3_copyFrom_13 (hS.2.2.2.2 j hj).1 (fun a13 ea13 => ?_)
  refine r_aload_n C 0 dX3_copyFrom_16 rfl rfl ?_
  refine r_aload_n C 1 dX3_copyFrom_17 rfl rfl ?_
  refine c_getI C (v := (X 9)) 203 9 rfl (by decide) ln203 rfl fl_X3_21 rfl dX3_copyFrom_18 hS.1.2.2.2.2.2.1 (by rw [ea13, up1_n (by omega), ea5, up1_n (by omega)]) ?_
  refine c_putI C (143 + j) ((1445 + 5 * j + 2)) rfl (oR hj) (lnR hj) (ky_R hj 2) fl_X3_21 rfl dX3_copyFrom_21 (hS.2.2.2.2 j hj).1 (fun a21 ea21 => ?_)
  refine r_aload_n C 0 dX3_copyFrom_24 rfl rfl ?_
  refine r_aload_n C 1 dX3_copyFrom_25 rfl rfl ?_
  refine c_getI C (v := (X 12)) 203 12 rfl (by decide) ln203 rfl fl_X3_24 rfl dX3_copyFrom_26 hS.1.2.2.2.2.2.1 (by rw [ea21, up1_n (by omega), ea13, up1_n (by omega), ea5, up1_n (by omega)]) ?_
  refine c_putI C (143 + j) ((jk (143 + j) 3)) rfl (oR hj) (lnR hj) (ky_R hj 3) fl_X3_24 rfl dX3_copyFrom_29 (hS.2.2.2.2 j hj).1 (fun a29 ea29 => ?_)
  refine r_aload_n C 0 dX3_copyFrom_32 rfl rfl ?_
  refine r_aload_n C 1 dX3_copyFrom_33 rfl rfl ?_
  refine c_getI C (v := (X 10)) 203 10 rfl (by decide) ln203 rfl fl_X3_27 rfl dX3_copyFrom_34 hS.1.2.2.2.2.2.1 (by rw [ea29, up1_n (jkn (by first | decide | omega) hj (by decide)), ea21, up1_n (by omega), ea13, up1_n (by omega), ea5, up1_n (by omega)]) ?_
  refine c_putI C (143 + j) ((jk (143 + j) 4)) rfl (oR hj) (lnR hj) (ky_R hj 4) fl_X3_27 rfl dX3_copyFrom_37 (hS.2.2.2.2 j hj).1 (fun a37 ea37 => ?_)
  refine r_aload_n C 0 dX3_copyFrom_40 rfl rfl ?_
  refine r_aload_n C 1 dX3_copyFrom_41 rfl rfl ?_
  refine c_getI C (v := (X 5466)) 203 5466 rfl (by decide) ln203 rfl fl_X3_30 rfl dX3_copyFrom_42 hS.1.2.2.2.2.2.1 (by rw [ea37, up1_n (jkn (by first | decide | omega) hj (by decide)), ea29, up1_n (jkn (by first | decide | omega) hj (by decide)), ea21, up1_n (by omega), ea13, up1_n (by omega), ea5, up1_n (by omega)]) ?_
  refine c_putI C (143 + j) ((1445 + 5 * j + 3)) rfl (oR hj) (lnR hj) (ky_R hj 5) fl_X3_30 rfl dX3_copyFrom_45 (hS.2.2.2.2 j hj).1 (fun a45 ea45 => ?_)
  refine r_aload_n C 0 dX3_copyFrom_48 rfl rfl ?_
  refine r_aload_n C 1 dX3_copyFrom_49 rfl rfl ?_
  refine c_getI C (v := (X 11)) 203 11 rfl (by decide) ln203 rfl fl_X3_33 rfl dX3_copyFrom_50 hS.1.2.2.2.2.2.1 (by rw [ea45, up1_n (by omega), ea37, up1_n (jkn (by first | decide | omega) hj (by decide)), ea29, up1_n (jkn (by first | decide | omega) hj (by decide)), ea21, up1_n (by omega), ea13, up1_n (by omega), ea5, up1_n (by omega)]) ?_
  refine c_putZ C (143 + j) ((1445 + 5 * j + 4)) rfl (oR hj) (lnR hj) (ky_R hj 6) fl_X3_33 rfl dX3_copyFrom_53 (hS.2.2.2.2 j hj).1 (by omega) (fun a53 ea53 => ?_)
  refine r_vret C hr hlk dX3_copyFrom_56 (Nat.zero_le _) (Nat.zero_le _) ?_
  have eX : a53 = cpX X j := by
    unfold cpX
    rw [ea53, ea45, ea37, ea29, ea21, ea13, ea5]
  exact ⟨rfl, rfl, congrArg (cI I B) eX, congrArg (cL L B) eX⟩
