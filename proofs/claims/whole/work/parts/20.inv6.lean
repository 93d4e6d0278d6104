/-- begin: the row but for V -/
theorem bgA_n {a : Sa} {f p k : Nat} (h : ¬ k = 1 ∧ ¬ k = 8 ∧ ¬ k = 9 ∧ ¬ k = 10 ∧ ¬ k = 11 ∧ ¬ k = 12 ∧ ¬ k = 125 + 11 * (p % 120) + 4) : bgA a f p k = a k := by
  unfold bgA
  rw [up1_n (by omega), up1_n (by omega), up1_n (by omega), up1_n (by omega), up1_n (by omega), up1_n (by omega)]
  split
  · rw [up1_n (by omega)]
  · rfl
theorem bgA_1 {a : Sa} {f p : Nat} : bgA a f p 1 = bgV a := by
  unfold bgA
  rw [up1_n (by omega), up1_n (by omega), up1_n (by omega), up1_n (by omega), up1_n (by omega), up1_n (by omega)]
  split
  · rw [up1_s]
  · rename_i h
    unfold bgV
    rw [if_neg h]
theorem bgA_4 {a : Sa} {f p : Nat} : bgA a f p (125 + 11 * (p % 120) + 4) = 1 := by unfold bgA; rw [up1_s]
theorem bgA_12 {a : Sa} {f p : Nat} : bgA a f p 12 = a 3 := by unfold bgA; rw [up1_n (by omega), up1_s]
theorem bgA_11 {a : Sa} {f p : Nat} : bgA a f p 11 = if nxU a (a 2).toNat < 0 then 0 else 1 := by unfold bgA; rw [up1_n (by omega), up1_n (by omega), up1_s]
theorem bgA_10 {a : Sa} {f p : Nat} : bgA a f p 10 = a 3 + bgN a f p := by unfold bgA; rw [up1_n (by omega), up1_n (by omega), up1_n (by omega), up1_s]
theorem bgA_9 {a : Sa} {f p : Nat} : bgA a f p 9 = bgN a f p := by unfold bgA; rw [up1_n (by omega), up1_n (by omega), up1_n (by omega), up1_n (by omega), up1_s]
theorem bgA_8 {a : Sa} {f p : Nat} : bgA a f p 8 = p := by unfold bgA; rw [up1_n (by omega), up1_n (by omega), up1_n (by omega), up1_n (by omega), up1_n (by omega), up1_s]
theorem bgV_b {a : Sa} {N T : Int} (hI : Inv N T a) {f : Nat} (hn : nxt a = f) (hf : (f : Int) < a 2) : 0 ≤ bgV a ∧ bgV a ≤ 1441440000 * a 7 := by
  have hT' := hI.1
  unfold TopOK at hT'
  have ht := tag_b hI hf
  unfold bgV
  rw [hn, show ((f : Nat) : Int).toNat = f from rfl]
  split
  · split <;> omega
  · omega
theorem Inv_bgA {a : Sa} {N T : Int} (hI : Inv N T a) {f p : Nat} (hn : nxt a = f) (hf : (f : Int) < a 2) (hk : old a ≤ p ∧ (p : Int) < a 7) (h0 : a (125 + 11 * (p % 120) + 0) = f) (h4 : a (125 + 11 * (p % 120) + 4) ≤ 1) : Inv N T (bgA a f p) ∧ NowOK (bgA a f p) := by
  have hT' := hI.1
  unfold TopOK at hT'
  have hP' := hI.2.2.1 p hk.1 hk.2
  unfold PkOK at hP'
  have hF' := (hI.2.1 f hf).1
  unfold FlowOK at hF'
  have hV := bgV_b hI hn hf
  have e7 : bgA a f p 7 = a 7 := bgA_n (by omega)
  have e2 : bgA a f p 2 = a 2 := bgA_n (by omega)
  have e0 : bgA a f p 0 = a 0 := bgA_n (by omega)
  have hN : 1 ≤ bgN a f p ∧ bgN a f p ≤ a (125 + 11 * (p % 120) + 1) - a (125 + 11 * (p % 120) + 5) := by
    unfold bgN
    split <;> omega
  refine ⟨⟨?_, ?_, ?_, ?_, ?_, ?_⟩, ?_⟩
  · unfold TopOK
    rw [e0, e2, e7, bgA_1, bgA_n (k := 3) (by omega), bgA_n (k := 4) (by omega), bgA_n (k := 5) (by omega), bgA_n (k := 6) (by omega), bgA_n (k := 15) (by omega)]
    omega
  · intro g hg
    rw [e2] at hg
    have hFg := hI.2.1 g hg
    refine ⟨hFg.1.up (fun j _ _ _ _ _ _ => bgA_n (by omega)) (by omega) (by omega), ?_⟩
    rw [bgA_n (by omega), hFg.2, Qs_cong e7]
    intro q hq
    have hq2 := (knw_m (by omega)).mp hq
    by_cases hqp : q = p
    · subst hqp
      unfold isQ
      rw [bgA_n (k := 125 + 11 * (q % 120) + 0) (by omega), bgA_4]
      by_cases hx : a (125 + 11 * (q % 120) + 0) = g
      · rw [decide_eq_true ⟨hx, by omega⟩, decide_eq_true ⟨hx, h4⟩]
      · rw [decide_eq_false (fun z => hx z.1), decide_eq_false (fun z => hx z.1)]
    · have := win_ne hk hq2 (fun z => hqp z.symm)
      exact isQ_eq (bgA_n (by omega)) (bgA_n (by omega))
  · intro q h1 h3
    rw [old_eq e7] at h1
    rw [e7] at h3
    by_cases hqp : q = p
    · subst hqp
      unfold PkOK
      rw [e0, e2, bgA_4, bgA_n (k := 125 + 11 * (q % 120) + 0) (by omega), bgA_n (k := 125 + 11 * (q % 120) + 1) (by omega), bgA_n (k := 125 + 11 * (q % 120) + 2) (by omega), bgA_n (k := 125 + 11 * (q % 120) + 3) (by omega), bgA_n (k := 125 + 11 * (q % 120) + 5) (by omega), bgA_n (k := 125 + 11 * (q % 120) + 6) (by omega), bgA_n (k := 125 + 11 * (q % 120) + 8) (by omega), bgA_n (k := 125 + 11 * (q % 120) + 9) (by omega), bgA_n (k := 125 + 11 * (q % 120) + 10) (by omega)]
      omega
    · have := win_ne hk ⟨h1, h3⟩ (fun z => hqp z.symm)
      exact (hI.2.2.1 q h1 h3).up (fun j _ _ => bgA_n (by omega)) (by omega) (by omega)
  · rw [bgA_n (by omega), Ss_cong e7, hI.2.2.2.1]
    intro q hq
    have hq2 := (knw_m (by omega)).mp hq
    by_cases hqp : q = p
    · subst hqp
      rw [isS_f (by rw [bgA_4]; omega), isS_f (by omega)]
    · have := win_ne hk hq2 (fun z => hqp z.symm)
      exact isS_eq (bgA_n (by omega))
  · rw [bgA_n (by omega)]
    exact hI.2.2.2.2.1
  · intro i hi
    rw [bgA_n (by omega)]
    exact hI.2.2.2.2.2 i hi
  · refine ⟨by rw [bgA_12]; omega, Or.inr ⟨p, bgA_8, ?_, ?_, bgA_4, ?_, ?_, ?_, ?_, ?_, f, ?_, ?_⟩⟩
    · rw [old_eq e7]; exact hk.1
    · rw [e7]; exact hk.2
    · rw [bgA_9]; omega
    · rw [bgA_9, bgA_n (by omega), bgA_n (by omega)]; omega
    · rw [bgA_10]; omega
    · rw [bgA_10]; omega
    · rw [bgA_11]; split <;> omega
    · rw [bgA_n (by omega)]; exact h0
    · rw [bgA_9, bgA_10, e0, bgA_n (by omega)]; omega
theorem Inv_bgn {a : Sa} {N T : Int} (hI : Inv N T a) (hN : NowOK a) : Inv N T (bgn a) ∧ NowOK (bgn a) := by
  unfold bgn
  rcases nxt_ok hI with ⟨h1, -⟩ | ⟨f, h1, h2, h3⟩
  · rw [if_pos (by omega)]
    exact ⟨hI, hN⟩
  · rw [if_neg (by omega), h1, show ((f : Nat) : Int).toNat = f from rfl]
    rcases hd_ok hI h2 with ⟨h4, h5⟩ | ⟨h4, p, h5, h6, h7, h8⟩
    · omega
    · rw [h5, show ((p : Nat) : Int).toNat = p from rfl]
      exact Inv_bgA hI h1 h2 h6 h7 h8
theorem bgn_n {a : Sa} {k : Nat} (h : ¬ k = 1 ∧ ¬ k = 8 ∧ ¬ k = 9 ∧ ¬ k = 10 ∧ ¬ k = 11 ∧ ¬ k = 12 ∧ (k < 125 ∨ 1445 ≤ k)) : bgn a k = a k := by
  unfold bgn
  split
  · rfl
  · exact bgA_n (by omega)
/-- what NowOK reads -/
theorem Now_up {a a' : Sa} (h : NowOK a) (e : ∀ k, (k = 0 ∨ k = 7 ∨ (8 ≤ k ∧ k ≤ 12) ∨ (125 ≤ k ∧ k < 1445) ∨ ∃ f : Nat, k = 17 + 18 * f + 6) → a' k = a k) : NowOK a' := by
  obtain ⟨h1, h2⟩ := h
  refine ⟨by rw [e 12 (by omega)]; exact h1, ?_⟩
  rcases h2 with h2 | ⟨p, g1, g2, g3, g4, g5, g6, g7, g8, g9, f, g10, g11⟩
  · left
    rw [e 8 (by omega), e 9 (by omega), e 10 (by omega), e 11 (by omega)]
    exact h2
  · right
    refine ⟨p, ?_⟩
    rw [old_eq (e 7 (by omega)), e 7 (by omega), e 8 (by omega), e 9 (by omega), e 10 (by omega), e 11 (by omega), e 0 (by omega), e (125 + 11 * (p % 120) + 4) (by omega), e (125 + 11 * (p % 120) + 5) (by omega), e (125 + 11 * (p % 120) + 1) (by omega), e (125 + 11 * (p % 120) + 0) (by omega)]
    exact ⟨g1, g2, g3, g4, g5, g6, g7, g8, g9, f, g10, by rw [e _ (Or.inr (Or.inr (Or.inr (Or.inr ⟨f, rfl⟩))))]; exact g11⟩
/-- a packet that is not SENT stays as it is in the scan -/
theorem jnA_pk {a : Sa} {N T : Int} {q : Nat} : ∀ n p, Inv N T a → old a ≤ p → ((p + n : Nat) : Int) ≤ a 7 → (old a ≤ q ∧ (q : Int) < a 7) → ¬ a (125 + 11 * (q % 120) + 4) = 2 → ∀ k, k < 11 → jnA a n p (125 + 11 * (q % 120) + k) = a (125 + 11 * (q % 120) + k) := by
  intro n
  induction n generalizing a with
  | zero => intros; rfl
  | succ n ih =>
    intro p hI h1 h2 hq hs k hk11
    have hk : old a ≤ p ∧ (p : Int) < a 7 := ⟨h1, by omega⟩
    have h7 : jnS a p 7 = a 7 := jnS_k (jn_fl hI hk) jk7
    have hst : ∀ j, j < 11 → jnS a p (125 + 11 * (q % 120) + j) = a (125 + 11 * (q % 120) + j) := by
      intro j hj
      unfold jnS
      by_cases hc : jnC a p
      · rw [@if_pos _ (Classical.propDecidable _) hc]
        have hne : p ≠ q := fun z => hs (z ▸ hc.1)
        have := win_ne hk hq hne
        have hfl := jn_fl hI hk
        exact jn1_n hfl (by omega)
      · rw [@if_neg _ (Classical.propDecidable _) hc]
    have := ih (p + 1) (Inv_jnS hI hk) (by rw [old_eq h7]; omega) (by rw [h7]; omega) (by rw [old_eq h7, h7]; exact hq) (by rw [hst 4 (by omega)]; exact hs) k hk11
    show jnA (jnS a p) n (p + 1) _ = _
    rw [this]
    exact hst k hk11
theorem jk_lo {k : Nat} (h : k < 16 ∨ 1445 ≤ k) : jnK k := by
  refine ⟨by omega, ?_⟩
  by_cases h2 : 1445 ≤ k
  · exact Or.inr h2
  · exact Or.inl ⟨by omega, fun g hg => by omega⟩
theorem jk_fl {f j : Nat} (hf : f < 6) (hj : j < 18) (h : ¬ j = 7 ∧ ¬ j = 8 ∧ ¬ j = 9 ∧ ¬ j = 10) : jnK (17 + 18 * f + j) := ⟨by omega, Or.inl ⟨by omega, fun g hg => by omega⟩⟩
theorem Now_jal {a : Sa} {N T : Int} (hI : Inv N T a) (h : NowOK a) : NowOK (jal a) := by
  have hT' := hI.1
  unfold TopOK at hT'
  have hJ := Inv_jal hI
  have ho : old a = (a 7 - 120).toNat := rfl
  have e : ∀ k, k < 16 → jal a k = a k := fun k hk => hJ.2 k (jk_lo (by omega))
  obtain ⟨h1, h2⟩ := h
  refine ⟨by rw [e 12 (by omega)]; exact h1, ?_⟩
  rcases h2 with h2 | ⟨p, g1, g2, g3, g4, g5, g6, g7, g8, g9, f, g10, g11⟩
  · left
    rw [e 8 (by omega), e 9 (by omega), e 10 (by omega), e 11 (by omega)]
    exact h2
  · right
    have hP' := hI.2.2.1 p g2 g3
    unfold PkOK at hP'
    have hp : ∀ k, k < 11 → jal a (125 + 11 * (p % 120) + k) = a (125 + 11 * (p % 120) + k) := jnA_pk _ _ hI (Nat.le_refl _) (by omega) ⟨g2, g3⟩ (by omega)
    refine ⟨p, ?_⟩
    rw [old_eq (e 7 (by omega)), e 7 (by omega), e 8 (by omega), e 9 (by omega), e 10 (by omega), e 11 (by omega), e 0 (by omega), hp 4 (by omega), hp 5 (by omega), hp 1 (by omega), hp 0 (by omega)]
    refine ⟨g1, g2, g3, g4, g5, g6, g7, g8, g9, f, g10, ?_⟩
    rw [hJ.2 _ (jk_fl (by omega) (by omega) (by omega))]
    exact g11
theorem Inv_t0 {a : Sa} {N T : Int} (hI : Inv N T a) (hT : T + 1 ≤ 1002000) : Inv N (T + 1) (tk0 a) := by
  unfold tk0
  have h7 : up1 a 0 (a 0 + 1) 7 = a 7 := up1_n (by omega)
  have h2 : up1 a 0 (a 0 + 1) 2 = a 2 := up1_n (by omega)
  have e : ∀ k, k ≠ 0 → up1 a 0 (a 0 + 1) k = a k := fun k hk => up1_n hk
  have hT' := hI.1
  unfold TopOK at hT'
  refine ⟨?_, ?_, ?_, ?_, ?_, ?_⟩
  · unfold TopOK
    rw [up1_s, h2, h7, e 1 (by omega), e 3 (by omega), e 4 (by omega), e 5 (by omega), e 6 (by omega), e 15 (by omega)]
    omega
  · intro f hf
    rw [h2] at hf
    have hF := hI.2.1 f hf
    refine ⟨hF.1.up (fun j _ _ _ _ _ _ => e _ (by omega)) (by rw [up1_s]; omega) (by omega), ?_⟩
    rw [e _ (by omega), hF.2, Qs_cong h7]
    intro q _
    exact isQ_eq (e _ (by omega)) (e _ (by omega))
  · intro p h1 h3
    rw [old_eq h7] at h1
    rw [h7] at h3
    exact (hI.2.2.1 p h1 h3).up (fun j _ _ => e _ (by omega)) (by rw [up1_s]; omega) (by omega)
  · rw [e 16 (by omega), Ss_cong h7 (fun q _ => isS_eq (e _ (by omega)))]
    exact hI.2.2.2.1
  · rw [e 1825 (by omega)]
    exact hI.2.2.2.2.1
  · intro i hi
    rw [e _ (by omega)]
    exact hI.2.2.2.2.2 i hi
/-- the first half of a tick: time, the piece, the packets that are joined -/
noncomputable def tkm (a : Sa) : Sa := jal (tk1 a)
noncomputable def tki (a : Sa) : Sa := idA (tkm a) (a 2).toNat
noncomputable def tkf (a : Sa) : Sa := flo (tki a)
noncomputable def tkb (a : Sa) : Sa := if tkf a 8 < 0 then bgn (tkf a) else tkf a
noncomputable def tick (a : Sa) : Sa := lgA (tkb a) (a 2).toNat
noncomputable def dtk (a : Sa) : Sa := if tkm a 8 < 0 then bgn (tkm a) else tkm a
theorem t1_ok {a : Sa} {N T : Int} (hI : Inv N T a) (hN : NowOK a) (hT : T + 1 ≤ 1002000) : Inv N (T + 1) (tk1 a) ∧ NowOK (tk1 a) ∧ (LagOK a → LagOK (tk1 a)) ∧ tk1 a 0 = a 0 + 1 ∧ tk1 a 2 = a 2 ∧ tk1 a 7 = a 7 ∧ ∀ f : Nat, (f : Int) < a 2 → ∀ j, j < 18 → (j < 6 ∨ (11 ≤ j ∧ j < 17)) → tk1 a (17 + 18 * f + j) = a (17 + 18 * f + j) := by
  have hI0 := Inv_t0 hI hT
  have hT' := hI.1
  unfold TopOK at hT'
  obtain ⟨h12, hNow⟩ := hN
  have e0 : ∀ k, k ≠ 0 → tk0 a k = a k := fun k hk => up1_n hk
  have e00 : tk0 a 0 = a 0 + 1 := up1_s
  unfold tk1
  rcases hNow with h2 | ⟨p, g1, g2, g3, g4, g5, g6, g7, g8, g9, f, g10, g11⟩
  · rw [if_pos (by omega)]
    refine ⟨hI0, ⟨by rw [e0 12 (by omega)]; exact h12, Or.inl (by rw [e0 8 (by omega), e0 9 (by omega), e0 10 (by omega), e0 11 (by omega)]; exact h2)⟩, ?_, e00, e0 2 (by omega), e0 7 (by omega), fun f hf j h1 h2 => e0 _ (by omega)⟩
    intro hL g hg
    rw [e0 2 (by omega)] at hg
    rw [e0 _ (by omega), e0 _ (by omega), e0 _ (by omega)]
    exact hL g hg
  · rw [if_neg (by omega)]
    generalize hz : up1 (up1 (tk0 a) 13 (a 13 + 1)) 10 (a 10 - 1) = z
    have hIz : Inv N (T + 1) z := by rw [← hz]; exact Inv_up (Inv_up hI0 (by omega)) (by omega)
    have ez : ∀ k, ¬ k = 0 ∧ ¬ k = 10 ∧ ¬ k = 13 → z k = a k := fun k hk => by rw [← hz, up1_n (by omega), up1_n (by omega), e0 k (by omega)]
    have ez0 : z 0 = a 0 + 1 := by rw [← hz, up1_n (by omega), up1_n (by omega), e00]
    have ez10 : z 10 = a 10 - 1 := by rw [← hz, up1_s]
    clear hz
    have hLz : LagOK a → LagOK z := by
      intro hL g hg
      rw [ez 2 (by omega)] at hg
      rw [ez _ (by omega), ez _ (by omega), ez _ (by omega)]
      exact hL g hg
    have hP' := hI.2.2.1 p g2 g3
    unfold PkOK at hP'
    split
    · rename_i h10
      have hp : (z 8).toNat = p := by rw [ez 8 (by omega), g1]; rfl
      have hf0 : z (125 + 11 * (p % 120) + 0) = f := by rw [ez _ (by omega)]; exact g10
      have hf6 : f < 6 := by omega
      unfold pdn
      rw [hp, flP_of hf0]
      refine ⟨Inv_pdF hIz ?_ hf0 ?_ ?_ ?_ ?_ ?_, Now_pdF hf6 hf0 (by rw [ez 12 (by omega)]; exact h12), fun hL => Lag_pdF hf6 hf0 (by rw [ez 9 (by omega)]; omega) (by rw [ez 2 (by omega)]; omega) (hLz hL), ?_, ?_, ?_, ?_⟩
      · rw [old_eq (ez 7 (by omega)), ez 7 (by omega)]; exact ⟨g2, g3⟩
      · rw [ez _ (by omega)]; exact g4
      · rw [ez 9 (by omega)]; exact g5
      · rw [ez _ (by omega), ez _ (by omega), ez _ (by omega)]; exact g6
      · rw [ez _ (by omega), ez _ (by omega), ez0]; omega
      · rw [ez _ (by omega), ez0]; omega
      · rw [pdF_n hf6 hf0 (by omega), ez0]
      · rw [pdF_n hf6 hf0 (by omega), ez 2 (by omega)]
      · rw [pdF_n hf6 hf0 (by omega), ez 7 (by omega)]
      · intro g hg j h1 h2
        rw [pdF_n hf6 hf0 (by omega), ez _ (by omega)]
    · refine ⟨hIz, ⟨by rw [ez 12 (by omega)]; exact h12, Or.inr ⟨p, ?_⟩⟩, hLz, ez0, ez 2 (by omega), ez 7 (by omega), fun g hg j h1 h2 => ez _ (by omega)⟩
      rw [old_eq (ez 7 (by omega)), ez 7 (by omega), ez 8 (by omega), ez 9 (by omega), ez10, ez 11 (by omega), ez0, ez (125 + 11 * (p % 120) + 4) (by omega), ez (125 + 11 * (p % 120) + 5) (by omega), ez (125 + 11 * (p % 120) + 1) (by omega), ez (125 + 11 * (p % 120) + 0) (by omega)]
      refine ⟨g1, g2, g3, g4, g5, g6, by omega, by omega, g9, f, g10, ?_⟩
      rw [ez _ (by omega)]
      omega
theorem tm_ok {a : Sa} {N T : Int} (hI : Inv N T a) (hN : NowOK a) (hT : T + 1 ≤ 1002000) : Inv N (T + 1) (tkm a) ∧ NowOK (tkm a) ∧ (LagOK a → LagOK (tkm a)) ∧ tkm a 0 = a 0 + 1 ∧ tkm a 2 = a 2 ∧ tkm a 7 = a 7 ∧ ∀ f : Nat, (f : Int) < a 2 → ∀ j, j < 18 → (j < 6 ∨ (11 ≤ j ∧ j < 17)) → tkm a (17 + 18 * f + j) = a (17 + 18 * f + j) := by
  have hT' := hI.1
  unfold TopOK at hT'
  obtain ⟨h1, h2, h3, h4, h5, h6, h7⟩ := t1_ok hI hN hT
  have hJ := Inv_jal h1
  unfold tkm
  refine ⟨hJ.1, Now_jal h1 h2, ?_, ?_, ?_, ?_, ?_⟩
  · intro hL g hg
    rw [hJ.2 2 (jk_lo (by omega)), h5] at hg
    rw [hJ.2 _ (jk_fl (by omega) (by omega) (by omega)), hJ.2 _ (jk_fl (by omega) (by omega) (by omega)), hJ.2 _ (jk_fl (by omega) (by omega) (by omega))]
    exact h3 hL g (by rw [h5]; exact hg)
  · rw [hJ.2 0 (jk_lo (by omega)), h4]
  · rw [hJ.2 2 (jk_lo (by omega)), h5]
  · rw [hJ.2 7 (jk_lo (by omega)), h6]
  · intro f hf j g1 g2
    rw [hJ.2 _ (jk_fl (by omega) g1 (by omega)), h7 f hf j g1 g2]
theorem ti_ok {a : Sa} {N T : Int} (hI : Inv N T a) (hN : NowOK a) (hT : T + 1 ≤ 1002000) : Inv N (T + 1) (tki a) ∧ NowOK (tki a) ∧ tki a 0 = a 0 + 1 ∧ tki a 2 = a 2 ∧ tki a 7 = a 7 ∧ ∀ f : Nat, (f : Int) < a 2 → tki a (17 + 18 * f + 15) = a (17 + 18 * f + 15) := by
  have hT' := hI.1
  unfold TopOK at hT'
  obtain ⟨h1, h2, h3, h4, h5, h6, h7⟩ := tm_ok hI hN hT
  unfold tki
  refine ⟨Inv_idA h1 ?_ _ (by rw [h5]; omega), Now_up h2 (fun k hk => idA_n _ (fun g hg => by rcases hk with hk | hk | hk | hk | ⟨f, rfl⟩ <;> omega)), ?_, ?_, ?_, ?_⟩
  · intro f hf
    rw [h5] at hf
    have hF := (hI.2.1 f hf).1
    unfold FlowOK at hF
    rw [h7 f hf 5 (by omega) (by omega), h4]
    omega
  · rw [idA_n _ (fun g hg => by omega), h4]
  · rw [idA_n _ (fun g hg => by omega), h5]
  · rw [idA_n _ (fun g hg => by omega), h6]
  · intro f hf
    rw [idA_n _ (fun g hg => by omega), h7 f hf 15 (by omega) (by omega)]
theorem tf_ok {a : Sa} {N T : Int} (hI : Inv N T a) (hN : NowOK a) (hT : T + 1 ≤ 1002000) : Inv N (T + 1) (tkf a) ∧ NowOK (tkf a) ∧ tkf a 0 = a 0 + 1 ∧ tkf a 2 = a 2 ∧ tkf a 7 = a 7 := by
  have hT' := hI.1
  unfold TopOK at hT'
  obtain ⟨h1, h2, h4, h5, h6, h7⟩ := ti_ok hI hN hT
  unfold tkf
  refine ⟨Inv_flo h1 ?_, Now_up h2 (fun k hk => flo_n (by omega) (fun g hg => by rcases hk with hk | hk | hk | hk | ⟨f, rfl⟩ <;> omega)), ?_, ?_, ?_⟩
  · intro f hf
    rw [h5] at hf
    have hF := (hI.2.1 f hf).1
    unfold FlowOK at hF
    rw [h7 f hf, h4]
    omega
  · rw [flo_n (by omega) (fun g hg => by omega), h4]
  · rw [flo_n (by omega) (fun g hg => by omega), h5]
  · rw [flo_n (by omega) (fun g hg => by omega), h6]
theorem tb_ok {a : Sa} {N T : Int} (hI : Inv N T a) (hN : NowOK a) (hT : T + 1 ≤ 1002000) : Inv N (T + 1) (tkb a) ∧ NowOK (tkb a) ∧ tkb a 0 = a 0 + 1 ∧ tkb a 2 = a 2 ∧ tkb a 7 = a 7 := by
  obtain ⟨h1, h2, h4, h5, h6⟩ := tf_ok hI hN hT
  unfold tkb
  split
  · have := Inv_bgn h1 h2
    exact ⟨this.1, this.2, by rw [bgn_n (by omega), h4], by rw [bgn_n (by omega), h5], by rw [bgn_n (by omega), h6]⟩
  · exact ⟨h1, h2, h4, h5, h6⟩
/-- a tick: all goes on -/
theorem tick_ok {a : Sa} {N T : Int} (hI : Inv N T a) (hN : NowOK a) (hT : T + 1 ≤ 1002000) : Inv N (T + 1) (tick a) ∧ NowOK (tick a) ∧ LagOK (tick a) ∧ tick a 0 = a 0 + 1 ∧ tick a 2 = a 2 ∧ tick a 7 = a 7 := by
  have hT' := hI.1
  unfold TopOK at hT'
  obtain ⟨h1, h2, h4, h5, h6⟩ := tb_ok hI hN hT
  unfold tick
  refine ⟨Inv_lgA h1 _ (by rw [h5]; omega), Now_up h2 (fun k hk => lgA_n _ (fun g hg => by omega)), ?_, ?_, ?_, ?_⟩
  · have := Lag_lgA (a := tkb a) (by rw [h5]; omega)
    rw [h5] at this
    exact this
  · rw [lgA_n _ (fun g hg => by omega), h4]
  · rw [lgA_n _ (fun g hg => by omega), h5]
  · rw [lgA_n _ (fun g hg => by omega), h6]
theorem dtk_ok {a : Sa} {N T : Int} (hI : Inv N T a) (hN : NowOK a) (hT : T + 1 ≤ 1002000) : Inv N (T + 1) (dtk a) ∧ NowOK (dtk a) ∧ dtk a 0 = a 0 + 1 ∧ dtk a 2 = a 2 ∧ dtk a 7 = a 7 := by
  obtain ⟨h1, h2, -, h4, h5, h6, -⟩ := tm_ok hI hN hT
  unfold dtk
  split
  · have := Inv_bgn h1 h2
    exact ⟨this.1, this.2, by rw [bgn_n (by omega), h4], by rw [bgn_n (by omega), h5], by rw [bgn_n (by omega), h6]⟩
  · exact ⟨h1, h2, h4, h5, h6⟩
