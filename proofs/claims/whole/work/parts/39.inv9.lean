theorem Qs_canc {a : Sa} {N T : Int} (hI : Inv N T a) {p f : Nat} (hk : old a ≤ p ∧ (p : Int) < a 7) (hf : a (125 + 11 * (p % 120) + 0) = f) (g : Nat) : Qs (canc a p) g = if g = f then (Qs a g).filter (fun q => decide (q ≠ p)) else Qs a g := by
  have hT := hI.1
  unfold TopOK at hT
  have hP := hI.2.2.1 p hk.1 hk.2
  unfold PkOK at hP
  have hfl : flP a p = f := flP_of hf
  have e7 : canc a p 7 = a 7 := by unfold canc; rw [hfl, up1_n (by omega), up1_n (by omega)]
  have e4 : canc a p (125 + 11 * (p % 120) + 4) = 4 := by unfold canc; rw [hfl, up1_n (by omega), up1_s]
  have en : ∀ k, 125 ≤ k → ¬ k = 125 + 11 * (p % 120) + 4 → canc a p k = a k := fun k h1 h2 => by unfold canc; rw [hfl, up1_n (by omega), up1_n h2]
  have hq : ∀ q, q ∈ knw a → q ≠ p → isQ (canc a p) g q = isQ a g q := by
    intro q hq hqp
    have hq2 := (knw_m (by omega)).mp hq
    have := win_ne hk hq2 (fun z => hqp z.symm)
    exact isQ_eq (en _ (by omega) (by omega)) (en _ (by omega) (by omega))
  by_cases hg : g = f
  · rw [if_pos hg]
    unfold Qs
    rw [knw_eq e7]
    exact flt_off (isQ_f (by rw [e4]; decide)) hq
  · rw [if_neg hg]
    refine Qs_cong e7 (fun q hm => ?_)
    by_cases e : q = p
    · subst e
      rw [isQ_f (by rw [e4]; decide)]
      unfold isQ
      symm
      rw [decide_eq_false_iff_not]
      intro z
      omega
    · exact hq q hm e
theorem can_OK {a : Sa} {N T : Int} (h : OK N T a) {p : Nat} (hk : old a ≤ p ∧ (p : Int) < a 7) (h4 : a (125 + 11 * (p % 120) + 4) = 0) : OK N T (canc a p) := by
  have hI := h.1
  have hT := hI.1
  unfold TopOK at hT
  have hP := hI.2.2.1 p hk.1 hk.2
  have hP2 := hP
  unfold PkOK at hP2
  obtain ⟨f, hf⟩ := Int.eq_ofNat_of_zero_le hP2.1.1
  have hf6 : f < 6 := by omega
  have hfl : flP a p = f := flP_of hf
  have hQc := Qs_canc hI hk hf
  have hm : p ∈ Qs a f := Qs_mem.mpr ⟨⟨hk.1, by omega⟩, hf, by omega⟩
  have e4 : canc a p (125 + 11 * (p % 120) + 4) = 4 := by unfold canc; rw [hfl, up1_n (by omega), up1_s]
  have e17 : canc a p (17 + 18 * f + 17) = a (17 + 18 * f + 17) - 1 := by unfold canc; rw [hfl, up1_s]
  have en : ∀ k, ¬ k = 17 + 18 * f + 17 → ¬ k = 125 + 11 * (p % 120) + 4 → canc a p k = a k := fun k h1 h2 => by unfold canc; rw [hfl, up1_n h1, up1_n h2]
  generalize canc a p = z at hQc e4 e17 en ⊢
  have lo : ∀ k, k < 17 → z k = a k := fun k h1 => en k (by omega) (by omega)
  have e0 := lo 0 (by decide)
  have e2 := lo 2 (by decide)
  have e7 := lo 7 (by decide)
  have hl1 := List.length_pos_of_mem hm
  refine ⟨⟨?_, ?_, ?_, ?_, ?_, ?_⟩, ?_, ?_⟩
  · unfold TopOK
    rw [e0, lo 1 (by decide), e2, lo 3 (by decide), lo 4 (by decide), lo 5 (by decide), lo 6 (by decide), e7, lo 15 (by decide)]
    exact hT
  · intro g hg
    rw [e2] at hg
    have hG := hI.2.1 g hg
    rw [hQc g]
    by_cases hgf : g = f
    · subst hgf
      rw [if_pos rfl]
      have h3 : (((Qs a g).filter (fun q => decide (q ≠ p))).length + 1 : Nat) = (Qs a g).length := len_off ((knw_nd a).filter (isQ a g)) hm
      have h6 := hG.2
      refine ⟨?_, by rw [e17]; omega⟩
      have hF := hG.1
      unfold FlowOK at hF ⊢
      have fl : ∀ k, k < 17 → z (17 + 18 * g + k) = a (17 + 18 * g + k) := fun k hk2 => en _ (by omega) (by omega)
      rw [fl 0 (by decide), fl 1 (by decide), fl 2 (by decide), fl 3 (by decide), fl 4 (by decide), fl 5 (by decide), fl 6 (by decide), fl 9 (by decide), fl 12 (by decide), fl 14 (by decide), fl 15 (by decide), fl 16 (by decide), e17, e0, e7]
      exact ⟨hF.1, hF.2.1, hF.2.2.1, hF.2.2.2.1, hF.2.2.2.2.1, hF.2.2.2.2.2.1, hF.2.2.2.2.2.2.1, hF.2.2.2.2.2.2.2.1, hF.2.2.2.2.2.2.2.2.1, hF.2.2.2.2.2.2.2.2.2.1, hF.2.2.2.2.2.2.2.2.2.2.1, hF.2.2.2.2.2.2.2.2.2.2.2.1, by omega, by omega⟩
    · rw [if_neg hgf]
      have fl : ∀ k, k < 18 → z (17 + 18 * g + k) = a (17 + 18 * g + k) := fun k hk2 => en _ (by omega) (by omega)
      rw [fl 17 (by decide)]
      exact ⟨hG.1.up (fun k h1 _ _ _ _ _ => fl k h1) (by omega) (by omega), hG.2⟩
  · intro q h1 h2
    rw [old_eq e7] at h1
    rw [e7] at h2
    by_cases hq : q = p
    · subst hq
      have pk : ∀ k, k < 11 → k ≠ 4 → z (125 + 11 * (q % 120) + k) = a (125 + 11 * (q % 120) + k) := fun k hk2 hk3 => en _ (by omega) (by omega)
      unfold PkOK
      rw [pk 0 (by decide) (by decide), pk 1 (by decide) (by decide), pk 2 (by decide) (by decide), pk 3 (by decide) (by decide), pk 5 (by decide) (by decide), pk 6 (by decide) (by decide), pk 8 (by decide) (by decide), pk 9 (by decide) (by decide), pk 10 (by decide) (by decide), e4, e0, e2]
      obtain ⟨p0, p1, p2, p3, p4, p5, p5b, p6, p8, p9, p10⟩ := hP2
      exact ⟨p0, p1, p2, p3, by omega, p5, fun z => absurd z (by decide), p6, p8, p9, p10⟩
    · have := win_ne hk ⟨h1, h2⟩ (fun z => hq z.symm)
      exact (hI.2.2.1 q h1 h2).up (fun k hk2 _ => en _ (by omega) (by omega)) (by omega) (by omega)
  · rw [lo 16 (by decide), Ss_cong e7 (fun q hq => ?_)]
    · exact hI.2.2.2.1
    · by_cases e : q = p
      · subst e
        rw [isS_f (by rw [e4]; decide), isS_f (by rw [h4]; decide)]
      · have hq2 := (knw_m (by omega)).mp hq
        have := win_ne hk hq2 (fun z => e z.symm)
        exact isS_eq (en _ (by omega) (by omega))
  · rw [en 1825 (by omega) (by omega)]
    exact hI.2.2.2.2.1
  · intro i hi
    rw [en _ (by omega) (by omega)]
    exact hI.2.2.2.2.2 i hi
  · refine ⟨by rw [lo 12 (by decide)]; exact h.2.1.1, ?_⟩
    rw [lo 8 (by decide), lo 9 (by decide), lo 10 (by decide), lo 11 (by decide), e0, e7, old_eq e7]
    rcases h.2.1.2 with g | ⟨q, g1, g2, g3, g4, g5, g6, g7, g8, g9, g, g10, g11⟩
    · exact Or.inl g
    · refine Or.inr ⟨q, g1, g2, g3, ?_⟩
      have hqp : q ≠ p := by
        intro e
        subst e
        omega
      have hne := win_ne hk ⟨g2, g3⟩ (fun z => hqp z.symm)
      rw [en _ (by omega) (by omega), en _ (by omega) (by omega), en _ (by omega) (by omega)]
      refine ⟨g4, g5, g6, g7, g8, g9, g, ?_⟩
      have hPq := hI.2.2.1 q g2 g3
      unfold PkOK at hPq
      rw [en _ (by omega) (by omega), en _ (by omega) (by omega)]
      exact ⟨g10, g11⟩
  · intro g hg
    rw [e2] at hg
    rw [en _ (by omega) (by omega), en _ (by omega) (by omega), en _ (by omega) (by omega)]
    exact h.2.2 g hg
theorem canA_OK {a : Sa} {N T : Int} (h : OK N T a) (p : Int) : OK N T (canA a p) := by
  unfold canA
  split
  · exact h
  · split
    · exact h
    · rename_i h1 h2
      exact can_OK h (by unfold old; omega) (by omega)
theorem tkN_OK {a : Sa} {N T : Int} (h : OK N T a) (n : Nat) (hn : T + n ≤ 1002000) : OK N (T + n) (tkN a n) ∧ tkN a n 0 = a 0 + n := by
  have g := tkN_ok h.1 h.2.1 h.2.2 n hn
  exact ⟨⟨g.1, g.2.1, g.2.2.1⟩, g.2.2.2.1⟩
theorem awR_OK {N : Int} : ∀ (n : Nat) {a : Sa} {T : Int} (z : Int), OK N T a → T + n ≤ 1002000 → OK N (T + n) (awR n a z) ∧ awR n a z 0 ≤ a 0 + n
  | 0, a, T, z, h, hn => by
    unfold awR
    have hT := h.1.1
    unfold TopOK at hT
    exact ⟨OK_T h (by omega) (by omega), by omega⟩
  | n + 1, a, T, z, h, hn => by
    unfold awR
    have hT := h.1.1
    unfold TopOK at hT
    split
    · have g := tick_ok h.1 h.2.1 (by omega)
      have g2 := awR_OK n (tkz a) (T := T + 1) ⟨g.1, g.2.1, g.2.2.1⟩ (by omega)
      rw [show T + ((n + 1 : Nat) : Int) = T + 1 + n by omega]
      exact ⟨g2.1, by omega⟩
    · exact ⟨OK_T h (by omega) (by omega), by omega⟩
