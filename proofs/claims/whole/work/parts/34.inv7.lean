theorem tkA_n {a : Sa} {f p k : Nat} {n d : Int} (hp : k < 125 + 11 * (p % 120) ∨ 125 + 11 * (p % 120) + 11 ≤ k) (h : ¬ k = (17 + 18 * f + 12) ∧ ¬ k = (17 + 18 * f + 14) ∧ ¬ k = (17 + 18 * f + 17) ∧ ¬ k = (17 + 18 * f + 11) ∧ ¬ k = 7) : tkA a f p n d k = a k := by
  unfold tkA
  rw [up1_n (by omega), up1_n (by omega), up1_n (by omega), up1_n (by omega), up1_n (by omega), up1_n (by omega), up1_n (by omega), up1_n (by omega), up1_n (by omega), up1_n (by omega), up1_n (by omega), up1_n (by omega), up1_n (by omega), up1_n (by omega), up1_n (by omega), up1_n (by omega)]
theorem tkA_p0 {a : Sa} {f p : Nat} {n d : Int} (hf : f < 6) : tkA a f p n d (125 + 11 * (p % 120) + 0) = f := by
  unfold tkA
  rw [up1_n (by omega), up1_n (by omega), up1_n (by omega), up1_n (by omega), up1_n (by omega), up1_n (by omega), up1_n (by omega), up1_n (by omega), up1_n (by omega), up1_n (by omega), up1_n (by omega), up1_n (by omega), up1_n (by omega), up1_n (by omega), up1_n (by omega), up1_s]
theorem tkA_p1 {a : Sa} {f p : Nat} {n d : Int} (hf : f < 6) : tkA a f p n d (125 + 11 * (p % 120) + 1) = n := by
  unfold tkA
  rw [up1_n (by omega), up1_n (by omega), up1_n (by omega), up1_n (by omega), up1_n (by omega), up1_n (by omega), up1_n (by omega), up1_n (by omega), up1_n (by omega), up1_n (by omega), up1_n (by omega), up1_n (by omega), up1_n (by omega), up1_n (by omega), up1_s]
theorem tkA_p2 {a : Sa} {f p : Nat} {n d : Int} (hf : f < 6) : tkA a f p n d (125 + 11 * (p % 120) + 2) = a 0 := by
  unfold tkA
  rw [up1_n (by omega), up1_n (by omega), up1_n (by omega), up1_n (by omega), up1_n (by omega), up1_n (by omega), up1_n (by omega), up1_n (by omega), up1_n (by omega), up1_n (by omega), up1_n (by omega), up1_n (by omega), up1_n (by omega), up1_s]
theorem tkA_p3 {a : Sa} {f p : Nat} {n d : Int} (hf : f < 6) : tkA a f p n d (125 + 11 * (p % 120) + 3) = (if d = 0 then -6 else a 0 + d) := by
  unfold tkA
  rw [up1_n (by omega), up1_n (by omega), up1_n (by omega), up1_n (by omega), up1_n (by omega), up1_n (by omega), up1_n (by omega), up1_n (by omega), up1_n (by omega), up1_n (by omega), up1_n (by omega), up1_n (by omega), up1_s]
theorem tkA_p4 {a : Sa} {f p : Nat} {n d : Int} (hf : f < 6) : tkA a f p n d (125 + 11 * (p % 120) + 4) = 0 := by
  unfold tkA
  rw [up1_n (by omega), up1_n (by omega), up1_n (by omega), up1_n (by omega), up1_n (by omega), up1_n (by omega), up1_n (by omega), up1_n (by omega), up1_n (by omega), up1_n (by omega), up1_n (by omega), up1_s]
theorem tkA_p5 {a : Sa} {f p : Nat} {n d : Int} (hf : f < 6) : tkA a f p n d (125 + 11 * (p % 120) + 5) = 0 := by
  unfold tkA
  rw [up1_n (by omega), up1_n (by omega), up1_n (by omega), up1_n (by omega), up1_n (by omega), up1_n (by omega), up1_n (by omega), up1_n (by omega), up1_n (by omega), up1_n (by omega), up1_s]
theorem tkA_p6 {a : Sa} {f p : Nat} {n d : Int} (hf : f < 6) : tkA a f p n d (125 + 11 * (p % 120) + 6) = 0 := by
  unfold tkA
  rw [up1_n (by omega), up1_n (by omega), up1_n (by omega), up1_n (by omega), up1_n (by omega), up1_n (by omega), up1_n (by omega), up1_n (by omega), up1_n (by omega), up1_s]
theorem tkA_p7 {a : Sa} {f p : Nat} {n d : Int} (hf : f < 6) : tkA a f p n d (125 + 11 * (p % 120) + 7) = 0 := by
  unfold tkA
  rw [up1_n (by omega), up1_n (by omega), up1_n (by omega), up1_n (by omega), up1_n (by omega), up1_n (by omega), up1_n (by omega), up1_n (by omega), up1_s]
theorem tkA_p8 {a : Sa} {f p : Nat} {n d : Int} (hf : f < 6) : tkA a f p n d (125 + 11 * (p % 120) + 8) = -6 := by
  unfold tkA
  rw [up1_n (by omega), up1_n (by omega), up1_n (by omega), up1_n (by omega), up1_n (by omega), up1_n (by omega), up1_n (by omega), up1_s]
theorem tkA_p9 {a : Sa} {f p : Nat} {n d : Int} (hf : f < 6) : tkA a f p n d (125 + 11 * (p % 120) + 9) = tkS a f := by
  unfold tkA
  rw [up1_n (by omega), up1_n (by omega), up1_n (by omega), up1_n (by omega), up1_n (by omega), up1_n (by omega), up1_s]
theorem tkA_p10 {a : Sa} {f p : Nat} {n d : Int} (hf : f < 6) : tkA a f p n d (125 + 11 * (p % 120) + 10) = 0 := by
  unfold tkA
  rw [up1_n (by omega), up1_n (by omega), up1_n (by omega), up1_n (by omega), up1_n (by omega), up1_s]
theorem tkA_7 {a : Sa} {f p : Nat} {n d : Int} : tkA a f p n d 7 = a 7 + 1 := by
  unfold tkA
  rw [up1_s]
theorem tkA_f11 {a : Sa} {f p : Nat} {n d : Int} : tkA a f p n d (17 + 18 * f + 11) = a (17 + 18 * f + 11) + 1 := by
  unfold tkA
  rw [up1_n (by omega), up1_s]
theorem tkA_f17 {a : Sa} {f p : Nat} {n d : Int} : tkA a f p n d (17 + 18 * f + 17) = a (17 + 18 * f + 17) + 1 := by
  unfold tkA
  rw [up1_n (by omega), up1_n (by omega), up1_s]
theorem tkA_f14 {a : Sa} {f p : Nat} {n d : Int} : tkA a f p n d (17 + 18 * f + 14) = a (17 + 18 * f + 14) + n * 720720 := by
  unfold tkA
  rw [up1_n (by omega), up1_n (by omega), up1_n (by omega), up1_s]
theorem tkA_f12 {a : Sa} {f p : Nat} {n d : Int} : tkA a f p n d (17 + 18 * f + 12) = tkS a f + n * 720720 / a (17 + 18 * f + 0) := by
  unfold tkA
  rw [up1_n (by omega), up1_n (by omega), up1_n (by omega), up1_n (by omega), up1_s]
theorem hasR_1 {a : Sa} {f : Nat} (h : hasR a f = 1) : a (17 + 18 * f + 17) < a (17 + 18 * f + 1) ∧ ¬ (120 ≤ a 7 ∧ a (125 + 11 * (old a % 120) + 4) ≤ 2) := by
  unfold hasR at h
  by_cases hc : a (17 + 18 * f + 17) < a (17 + 18 * f + 1) ∧ ¬ (120 ≤ a 7 ∧ a (125 + 11 * (old a % 120) + 4) ≤ 2)
  · exact hc
  · rw [b2_0 hc] at h; exact absurd h (by decide)
/-- one more packet: what is known goes on by one, and may lose its first -/
theorem knw_1 {a a' : Sa} {p : Nat} (hp : a 7 = p) (h7 : a' 7 = a 7 + 1) : ∃ D R : List Nat, knw a = D ++ R ∧ knw a' = R ++ [p] ∧ (∀ q, q ∈ D → q = old a ∧ 120 ≤ a 7) ∧ (∀ q, q ∈ R → old a ≤ q ∧ q < p ∧ q % 120 ≠ p % 120) := by
  have ho : old a = (a 7 - 120).toNat := rfl
  have ho' : old a' = (a' 7 - 120).toNat := rfl
  by_cases h : a 7 < 120
  · refine ⟨[], knw a, rfl, ?_, fun q hq => absurd hq List.not_mem_nil, ?_⟩
    · unfold knw
      rw [show old a' = 0 by omega, show old a = 0 by omega, show (a' 7).toNat - 0 = p + 1 by omega, show (a 7).toNat - 0 = p by omega, List.range'_1_concat, Nat.zero_add]
    · intro q hq
      have := knw_mem.mp hq
      omega
  · refine ⟨[old a], List.range' (old a + 1) 119, ?_, ?_, ?_, ?_⟩
    · unfold knw
      rw [show (a 7).toNat - old a = 119 + 1 by omega, List.range'_succ]
      rfl
    · unfold knw
      rw [show old a' = old a + 1 by omega, show (a' 7).toNat - (old a + 1) = 119 + 1 by omega, List.range'_1_concat, show old a + 1 + 119 = p by omega]
    · intro q hq
      rw [List.mem_singleton] at hq
      exact ⟨hq, by omega⟩
    · intro q hq
      rw [List.mem_range'_1] at hq
      omega
theorem flt_1 {D R : List Nat} {P P' : Nat → Bool} {p : Nat} (hD : ∀ q, q ∈ D → P q = false) (hR : ∀ q, q ∈ R → P' q = P q) : (R ++ [p]).filter P' = (D ++ R).filter P ++ (if P' p then [p] else []) := by
  rw [List.filter_append, List.filter_append, show D.filter P = [] from List.filter_eq_nil_iff.mpr (fun q hq => by rw [hD q hq]; decide), List.nil_append]
  congr 1
  · exact List.filter_congr hR
  · by_cases h : P' p = true
    · rw [List.filter_cons_of_pos h, if_pos h]; rfl
    · rw [List.filter_cons_of_neg h, if_neg h]; rfl
theorem tkA_q {a : Sa} {f p q k : Nat} {n d : Int} (hf : f < 6) (hq : q % 120 ≠ p % 120) (hk : k < 11) : tkA a f p n d (125 + 11 * (q % 120) + k) = a (125 + 11 * (q % 120) + k) := tkA_n (by omega) (by omega)
theorem Qs_take {a : Sa} {N T : Int} (hI : Inv N T a) {f p : Nat} {n d : Int} (hp : a 7 = p) (hf : f < 6) (hr : hasR a f = 1) (g : Nat) : Qs (tkA a f p n d) g = Qs a g ++ (if f = g then [p] else []) := by
  obtain ⟨D, R, h1, h2, h3, h4⟩ := knw_1 (a := a) (a' := tkA a f p n d) hp tkA_7
  have hr2 := (hasR_1 hr).2
  unfold Qs
  rw [h1, h2, flt_1 (D := D) (P := isQ a g)]
  · have e : isQ (tkA a f p n d) g p = decide (f = g) := by
      unfold isQ
      rw [tkA_p0 hf, tkA_p4 hf]
      exact decide_eq_decide.mpr ⟨fun z => by omega, fun z => ⟨by omega, by decide⟩⟩
    rw [e]
    by_cases hg : f = g
    · rw [if_pos hg, if_pos (decide_eq_true hg)]
    · rw [if_neg hg, if_neg (by rw [decide_eq_true_iff]; exact hg)]
  · intro q hq
    obtain ⟨e1, e2⟩ := h3 q hq
    rw [e1]
    exact isQ_f (fun z => hr2 ⟨e2, by omega⟩)
  · intro q hq
    have hq2 := h4 q hq
    exact isQ_eq (tkA_q hf hq2.2.2 (by decide)) (tkA_q hf hq2.2.2 (by decide))
theorem Ss_take {a : Sa} {f p : Nat} {n d : Int} (hp : a 7 = p) (hf : f < 6) (hr : hasR a f = 1) : (knw (tkA a f p n d)).filter (isS (tkA a f p n d)) = (knw a).filter (isS a) := by
  obtain ⟨D, R, h1, h2, h3, h4⟩ := knw_1 (a := a) (a' := tkA a f p n d) hp tkA_7
  have hr2 := (hasR_1 hr).2
  rw [h1, h2, flt_1 (D := D) (P := isS a)]
  · have e : isS (tkA a f p n d) p = false := isS_f (by rw [tkA_p4 hf]; decide)
    rw [e]
    simp
  · intro q hq
    obtain ⟨e1, e2⟩ := h3 q hq
    rw [e1]
    exact isS_f (fun z => hr2 ⟨e2, by omega⟩)
  · intro q hq
    have hq2 := h4 q hq
    exact isS_eq (tkA_q hf hq2.2.2 (by decide))
theorem tkS_b {a : Sa} {f : Nat} {B : Int} (h1 : 0 ≤ a 1 ∧ a 1 ≤ B) (h2 : 0 ≤ a (17 + 18 * f + 12) ∧ a (17 + 18 * f + 12) ≤ B) : 0 ≤ tkS a f ∧ tkS a f ≤ B := by
  unfold tkS
  split <;> omega
theorem shr_b {n w : Int} (hn : 1 ≤ n ∧ n ≤ 2000) (hw : 1 ≤ w) : 0 ≤ n * 720720 / w ∧ n * 720720 / w ≤ 1441440000 := by
  constructor
  · exact Int.ediv_nonneg (by omega) (by omega)
  · have := Int.ediv_le_self w (show 0 ≤ n * 720720 by omega)
    omega
theorem take_ok {a : Sa} {N T : Int} (hI : Inv N T a) {f : Nat} (hf : (f : Int) < a 2) (hr : hasR a f = 1) {n d : Int} (hn : 1 ≤ n ∧ n ≤ 2000) (hd : 0 ≤ d ∧ d ≤ 9999) (hN1 : N + 1 ≤ 400000) : Inv (N + 1) T (take a f n d) := by
  have hT := hI.1
  unfold TopOK at hT
  obtain ⟨p, hp⟩ := Int.eq_ofNat_of_zero_le (show 0 ≤ a 7 by omega)
  have hf6 : f < 6 := by omega
  have e : take a f n d = tkA a f p n d := by unfold take; rw [show (a 7).toNat = p by omega]
  rw [e]
  have hr1 := (hasR_1 hr).1
  have lo : ∀ k, k < 17 → k ≠ 7 → tkA a f p n d k = a k := fun k h1 h2 => tkA_n (by omega) (by omega)
  have e0 := lo 0 (by decide) (by decide)
  have e1 := lo 1 (by decide) (by decide)
  have e2 := lo 2 (by decide) (by decide)
  have e3 := lo 3 (by decide) (by decide)
  have e4 := lo 4 (by decide) (by decide)
  have e5 := lo 5 (by decide) (by decide)
  have e6 := lo 6 (by decide) (by decide)
  have e15 := lo 15 (by decide) (by decide)
  have e16 := lo 16 (by decide) (by decide)
  have e7 : tkA a f p n d 7 = a 7 + 1 := tkA_7
  have hS := tkS_b (f := f) hT.2.1 (by have hF := (hI.2.1 f hf).1; unfold FlowOK at hF; exact hF.2.2.2.2.2.2.2.2.1)
  refine ⟨?_, ?_, ?_, ?_, ?_, ?_⟩
  · unfold TopOK
    rw [e0, e1, e2, e3, e4, e5, e6, e7, e15]
    omega
  · intro g hg
    rw [e2] at hg
    have hQ := Qs_take (n := n) (d := d) hI hp hf6 hr g
    have hG := hI.2.1 g hg
    by_cases hgf : f = g
    · subst hgf
      have hw := shr_b hn hG.1.1.1
      have fl : ∀ k, k < 18 → k ≠ 11 → k ≠ 12 → k ≠ 14 → k ≠ 17 → tkA a f p n d (17 + 18 * f + k) = a (17 + 18 * f + k) := fun k _ _ _ _ _ => tkA_n (by omega) (by omega)
      rw [hQ, if_pos rfl]
      constructor
      · have hF := hG.1
        unfold FlowOK at hF ⊢
        rw [fl 0 (by decide) (by decide) (by decide) (by decide) (by decide), fl 1 (by decide) (by decide) (by decide) (by decide) (by decide), fl 2 (by decide) (by decide) (by decide) (by decide) (by decide), fl 3 (by decide) (by decide) (by decide) (by decide) (by decide), fl 4 (by decide) (by decide) (by decide) (by decide) (by decide), fl 5 (by decide) (by decide) (by decide) (by decide) (by decide), fl 6 (by decide) (by decide) (by decide) (by decide) (by decide), fl 9 (by decide) (by decide) (by decide) (by decide) (by decide), fl 15 (by decide) (by decide) (by decide) (by decide) (by decide), fl 16 (by decide) (by decide) (by decide) (by decide) (by decide), tkA_f12, tkA_f14, tkA_f17, e0, e7]
        clear fl lo hQ hT hI
        refine ⟨hF.1, hF.2.1, hF.2.2.1, hF.2.2.2.1, hF.2.2.2.2.1, hF.2.2.2.2.2.1, hF.2.2.2.2.2.2.1, hF.2.2.2.2.2.2.2.1, ⟨by omega, by omega⟩, ⟨by omega, by omega⟩, hF.2.2.2.2.2.2.2.2.2.2.1, hF.2.2.2.2.2.2.2.2.2.2.2.1, ⟨by omega, by omega⟩⟩
      · rw [tkA_f17, hG.2, List.length_append, List.length_singleton]
        omega
    · have fl : ∀ k, k < 18 → tkA a f p n d (17 + 18 * g + k) = a (17 + 18 * g + k) := fun k _ => tkA_n (by omega) (by omega)
      rw [hQ, if_neg hgf, List.append_nil, fl 17 (by decide)]
      exact ⟨hG.1.up (fun k h1 _ _ _ _ _ => fl k h1) (by omega) (by omega), hG.2⟩
  · intro q h1 h2
    have ho : old a = (a 7 - 120).toNat := rfl
    have ho' : old (tkA a f p n d) = (tkA a f p n d 7 - 120).toNat := rfl
    by_cases hq : q = p
    · subst hq
      unfold PkOK
      rw [tkA_p0 hf6, tkA_p1 hf6, tkA_p2 hf6, tkA_p3 hf6, tkA_p4 hf6, tkA_p5 hf6, tkA_p6 hf6, tkA_p8 hf6, tkA_p9 hf6, tkA_p10 hf6, e0, e2]
      have hb : -6 ≤ (if d = 0 then -6 else a 0 + d) ∧ (if d = 0 then -6 else a 0 + d) ≤ a 0 + 9999 := by split <;> omega
      exact ⟨⟨by omega, hf⟩, hn, ⟨by omega, by omega⟩, hb, ⟨by decide, by decide⟩, ⟨by decide, by omega⟩, fun _ => by omega, ⟨by decide, by decide⟩, ⟨by decide, by omega⟩, ⟨hS.1, by omega⟩, ⟨by decide, by omega⟩⟩
    · have hP := hI.2.2.1 q (by omega) (by omega)
      exact hP.up (fun k h1 _ => tkA_q hf6 (by omega) h1) (by omega) (by omega)
  · rw [e16, Ss_take hp hf6 hr]
    exact hI.2.2.2.1
  · rw [show tkA a f p n d 1825 = a 1825 from tkA_n (by omega) (by omega)]
    exact hI.2.2.2.2.1
  · intro i hi
    rw [show tkA a f p n d (1745 + i) = a (1745 + i) from tkA_n (by omega) (by omega)]
    exact hI.2.2.2.2.2 i hi
theorem take_f {a : Sa} {N T : Int} (hI : Inv N T a) {f : Nat} (hf : (f : Int) < a 2) {n d : Int} : take a f n d 2 = a 2 ∧ take a f n d 7 = a 7 + 1 ∧ (∀ k, k < 17 → k ≠ 7 → take a f n d k = a k) ∧ ∀ k, 1445 ≤ k → take a f n d k = a k := by
  have hT := hI.1
  unfold TopOK at hT
  unfold take
  exact ⟨tkA_n (by omega) (by omega), tkA_7, fun k h1 h2 => tkA_n (by omega) (by omega), fun k h1 => tkA_n (by omega) (by omega)⟩
theorem take_lag {a : Sa} {N T : Int} (hI : Inv N T a) (hL : LagOK a) {f : Nat} (hf : (f : Int) < a 2) {n d : Int} : LagOK (take a f n d) := by
  have hT := hI.1
  unfold TopOK at hT
  unfold take
  intro g hg
  rw [show tkA a f (a 7).toNat n d 2 = a 2 from tkA_n (by omega) (by omega)] at hg
  have fl : ∀ k, k = 6 ∨ k = 15 ∨ k = 16 → tkA a f (a 7).toNat n d (17 + 18 * g + k) = a (17 + 18 * g + k) := fun k h => tkA_n (by omega) (by omega)
  rw [fl 6 (by decide), fl 15 (by decide), fl 16 (by decide)]
  exact hL g hg
theorem take_now {a : Sa} {N T : Int} (hI : Inv N T a) (hN : NowOK a) {f : Nat} (hf : (f : Int) < a 2) (hr : hasR a f = 1) {n d : Int} : NowOK (take a f n d) := by
  have hT := hI.1
  unfold TopOK at hT
  obtain ⟨p, hp⟩ := Int.eq_ofNat_of_zero_le (show 0 ≤ a 7 by omega)
  have hf6 : f < 6 := by omega
  have e : take a f n d = tkA a f p n d := by unfold take; rw [show (a 7).toNat = p by omega]
  rw [e]
  have hr2 := (hasR_1 hr).2
  have lo : ∀ k, k < 17 → k ≠ 7 → tkA a f p n d k = a k := fun k h1 h2 => tkA_n (by omega) (by omega)
  unfold NowOK
  rw [lo 12 (by decide) (by decide), lo 11 (by decide) (by decide), lo 10 (by decide) (by decide), lo 9 (by decide) (by decide), lo 8 (by decide) (by decide), lo 0 (by decide) (by decide), tkA_7]
  refine ⟨hN.1, ?_⟩
  rcases hN.2 with h | ⟨q, g1, g2, g3, g4, g5, g6, g7, g8, g9, g, g10, g11⟩
  · exact Or.inl h
  · have ho : old a = (a 7 - 120).toNat := rfl
    have ho' : old (tkA a f p n d) = (tkA a f p n d 7 - 120).toNat := rfl
    rw [tkA_7] at ho'
    have hqo : 120 ≤ a 7 → q ≠ old a := fun h1 h2 => hr2 ⟨h1, by rw [← h2, g4]; decide⟩
    have hq : q % 120 ≠ p % 120 := by omega
    refine Or.inr ⟨q, g1, by omega, by omega, ?_⟩
    rw [tkA_q hf6 hq (by decide), tkA_q hf6 hq (by decide), tkA_q hf6 hq (by decide)]
    refine ⟨g4, g5, g6, g7, g8, g9, g, ?_⟩
    rw [tkA_q hf6 hq (by decide), show tkA a f p n d (17 + 18 * g + 6) = a (17 + 18 * g + 6) from ?_]
    · exact ⟨g10, g11⟩
    · have hP := hI.2.2.1 q g2 g3
      unfold PkOK at hP
      exact tkA_n (by omega) (by omega)
