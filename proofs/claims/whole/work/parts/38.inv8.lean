/-- only keys that no bound speaks of, or the pad, differ -/
theorem Inv_hi {a a' : Sa} {N T : Int} (hI : Inv N T a) (e : ∀ k, k < 1445 → a' k = a k) (h1 : 0 ≤ a' 1825 ∧ a' 1825 ≤ 80) (h2 : ∀ i : Nat, i < 80 → 0 ≤ a' (1745 + i) ∧ a' (1745 + i) ≤ 126) : Inv N T a' := by
  have e7 := e 7 (by decide)
  have hT := hI.1
  refine ⟨?_, ?_, ?_, ?_, h1, h2⟩
  · unfold TopOK at hT ⊢
    rw [e 0 (by decide), e 1 (by decide), e 2 (by decide), e 3 (by decide), e 4 (by decide), e 5 (by decide), e 6 (by decide), e7, e 15 (by decide)]
    exact hT
  · intro f hf
    rw [e 2 (by decide)] at hf
    unfold TopOK at hT
    have hF := hI.2.1 f hf
    refine ⟨hF.1.up (fun k hk _ _ _ _ _ => e _ (by omega)) (by rw [e 0 (by decide)]; exact Int.le_refl _) (by rw [e7]; exact Int.le_refl _), ?_⟩
    rw [e _ (by omega), Qs_cong e7 (fun q _ => isQ_eq (e _ (by omega)) (e _ (by omega)))]
    exact hF.2
  · intro p h3 h4
    rw [old_eq e7] at h3
    rw [e7] at h4
    exact (hI.2.2.1 p h3 h4).up (fun k hk _ => e _ (by omega)) (by rw [e 0 (by decide)]; exact Int.le_refl _) (by rw [e 2 (by decide)]; exact Int.le_refl _)
  · rw [e 16 (by decide), Ss_cong e7 (fun q _ => isS_eq (e _ (by omega)))]
    exact hI.2.2.2.1
theorem Now_hi {a a' : Sa} {N T : Int} (hI : Inv N T a) (h : NowOK a) (e : ∀ k, k < 1445 → a' k = a k) : NowOK a' := by
  refine ⟨by rw [e 12 (by decide)]; exact h.1, ?_⟩
  rw [e 8 (by decide), e 9 (by decide), e 10 (by decide), e 11 (by decide), e 0 (by decide), e 7 (by decide), old_eq (e 7 (by decide))]
  rcases h.2 with g | ⟨q, g1, g2, g3, g4, g5, g6, g7, g8, g9, f, g10, g11⟩
  · exact Or.inl g
  · refine Or.inr ⟨q, g1, g2, g3, ?_⟩
    have hP := hI.2.2.1 q g2 g3
    unfold PkOK at hP
    have hT := hI.1
    unfold TopOK at hT
    rw [e _ (by omega), e _ (by omega), e _ (by omega)]
    refine ⟨g4, g5, g6, g7, g8, g9, f, ?_⟩
    rw [e _ (by omega), e _ (by omega)]
    exact ⟨g10, g11⟩
theorem Lag_hi {a a' : Sa} {N T : Int} (hI : Inv N T a) (h : LagOK a) (e : ∀ k, k < 1445 → a' k = a k) : LagOK a' := by
  intro f hf
  rw [e 2 (by decide)] at hf
  have hT := hI.1
  unfold TopOK at hT
  rw [e _ (by omega), e _ (by omega), e _ (by omega)]
  exact h f hf
/-- all that a state of the reference keeps -/
def OK (N T : Int) (a : Sa) : Prop := Inv N T a ∧ NowOK a ∧ LagOK a
theorem ini_ok : OK 0 0 ini := by
  have k0 : knw ini = [] := rfl
  refine ⟨⟨?_, ?_, ?_, ?_, ?_, ?_⟩, ?_, ?_⟩
  · unfold TopOK
    decide
  · intro f hf
    have : ini 2 = 0 := rfl
    omega
  · intro p h1 h2
    have : ini 7 = 0 := rfl
    omega
  · rw [k0]
    rfl
  · decide
  · intro i hi
    have e : ini (1745 + i) = 0 := by
      unfold ini
      rw [up1_n (by omega), up1_n (by omega), up1_n (by omega), up1_n (by omega), up1_n (by omega)]
    rw [e]
    decide
  · unfold NowOK
    exact ⟨by decide, Or.inl ⟨rfl, rfl, rfl, rfl⟩⟩
  · intro f hf
    have : ini 2 = 0 := rfl
    omega
theorem wipe_ok {a : Sa} {N T : Int} (h : OK N T a) {v : Int} (hv : 0 ≤ v ∧ v ≤ 80) : OK N T (up1 a 1825 v) := by
  have e : ∀ k, k < 1445 → up1 a 1825 v k = a k := fun k hk => up1_n (by omega)
  refine ⟨Inv_hi h.1 e (by rw [up1_s]; exact hv) (fun i hi => ?_), Now_hi h.1 h.2.1 e, Lag_hi h.1 h.2.2 e⟩
  rw [up1_n (by omega)]
  exact h.1.2.2.2.2.2 i hi
theorem take_OK {a : Sa} {N T : Int} (h : OK N T a) {f : Nat} (hf : (f : Int) < a 2) (hr : hasR a f = 1) {n d : Int} (hn : 1 ≤ n ∧ n ≤ 2000) (hd : 0 ≤ d ∧ d ≤ 9999) (hN1 : N + 1 ≤ 400000) : OK (N + 1) T (take a f n d) := ⟨take_ok h.1 hf hr hn hd hN1, take_now h.1 h.2.1 hf hr, take_lag h.1 h.2.2 hf⟩
theorem OK_N {a : Sa} {N N' T : Int} (h : OK N T a) (h1 : N ≤ N') (h2 : N' ≤ 400000) : OK N' T a := by
  have hT := h.1.1
  unfold TopOK at hT
  exact ⟨Inv_N h.1 (by omega) h2, h.2⟩
theorem OK_T {a : Sa} {N T T' : Int} (h : OK N T a) (h1 : a 0 ≤ T') (h2 : T' ≤ 1002000) : OK N T' a := ⟨Inv_T h.1 h1 h2, h.2⟩
theorem off_OK {a : Sa} {N T : Int} (h : OK N T a) (f n d : Int) (hN1 : N + 1 ≤ 400000) : OK (N + 1) T (offA a f n d) := by
  unfold offA
  split
  · exact OK_N h (by omega) hN1
  · split
    · exact OK_N h (by omega) hN1
    · split
      · exact OK_N h (by omega) hN1
      · rename_i h1 h2 h3
        exact take_OK h (by omega) ((hasR_b _ _).resolve_left h3) (by omega) (by omega) hN1
theorem load_OK {a : Sa} {N T : Int} (h : OK N T a) (hN1 : N + 243 ≤ 400000) : OK (N + 243) T (ldA a) := by
  unfold ldA
  split
  · exact OK_N h (by omega) hN1
  · rename_i hF
    by_cases hl : ldF a
    · rw [@if_pos _ (Classical.propDecidable _) hl]
      have h2 := ldO_ok h.1 h.2.1 h.2.2 (by omega) hl hN1 (nsA a + 1) (Nat.le_refl _)
      have h26 := (nsA_ok h.1).2.1
      exact wipe_ok (OK_N h2.1 (by omega) hN1) (by decide)
    · rw [@if_neg _ (Classical.propDecidable _) hl]
      exact OK_N h (by omega) hN1
theorem ptC_b {a : Sa} {X m : Nat} (h1 : ∀ i : Nat, i < 80 → 0 ≤ a (1745 + i) ∧ a (1745 + i) ≤ 126) (h2 : ∀ k, k < m → byt X k ≤ 126) : ∀ i, i ≤ m → ∀ k : Nat, k < 80 → 0 ≤ ptC a X m i (1745 + k) ∧ ptC a X m i (1745 + k) ≤ 126
  | 0, _, k, hk => h1 k hk
  | i + 1, hi, k, hk => by
    unfold ptC
    by_cases e : 1745 + k = 1745 + (a 1825).toNat + i
    · rw [e, up1_s]
      have := h2 (m - 1 - i) (by omega)
      omega
    · rw [up1_n e]
      exact ptC_b h1 h2 i (by omega) k hk
theorem ptN_b {X : Nat} : ∀ n k, k + n ≤ 8 → ptN X n k = 99 ∨ (k ≤ ptN X n k ∧ ptN X n k ≤ 8 ∧ ∀ j, k ≤ j → j < ptN X n k → byt X j ≤ 126)
  | 0, k, h => by
    unfold ptN
    exact Or.inr ⟨Nat.le_refl _, by omega, fun j h1 h2 => absurd h2 (by omega)⟩
  | n + 1, k, h => by
    unfold ptN
    split
    · exact Or.inr ⟨Nat.le_refl _, by omega, fun j h1 h2 => absurd h2 (by omega)⟩
    · split
      · rename_i h1 h2
        rcases ptN_b (X := X) n (k + 1) (by omega) with g | ⟨g1, g2, g3⟩
        · exact Or.inl g
        · refine Or.inr ⟨by omega, g2, fun j h3 h4 => ?_⟩
          by_cases e : j = k
          · rw [e]; exact h2.2
          · exact g3 j (by omega) h4
      · exact Or.inl rfl
theorem put_OK {a : Sa} {N T : Int} (h : OK N T a) (X : Nat) : OK N T (putA a X) := by
  unfold putA
  by_cases hp : ¬ putOK X
  · rw [@if_pos _ (Classical.propDecidable _) hp]
    exact h
  · rw [@if_neg _ (Classical.propDecidable _) hp]
    split
    · exact h
    · rename_i h8
      have hp2 := Classical.not_not.mp hp
      unfold putOK at hp2
      have hb := (ptN_b (X := X) 8 0 (by omega)).resolve_left hp2.1
      have hpd := h.1.2.2.2.2.1
      have e : ∀ k, k < 1445 → ptC a X (ptN X 8 0) (ptN X 8 0) k = a k := fun k hk => ptC_n _ (by omega)
      have h18 : ptC a X (ptN X 8 0) (ptN X 8 0) 1825 = a 1825 := ptC_n _ (by omega)
      have hk : OK N T (ptC a X (ptN X 8 0) (ptN X 8 0)) := ⟨Inv_hi h.1 e (by rw [h18]; exact hpd) (fun i hi => ptC_b h.1.2.2.2.2.2 (fun k hk => hb.2.2 k (by omega) hk) _ (Nat.le_refl _) i hi), Now_hi h.1 h.2.1 e, Lag_hi h.1 h.2.2 e⟩
      exact wipe_ok hk (by omega)
theorem add_OK {a : Sa} {N T : Int} (h : OK N T a) {f : Nat} (hf : a 2 = f) (hf6 : f < 6) {w : Int} (hw : 1 ≤ w ∧ w ≤ 16) : OK N T (addF a f w) := by
  have hT := h.1.1
  unfold TopOK at hT
  have en : ∀ k, (k < 17 + 18 * f ∨ 17 + 18 * f + 18 ≤ k) → ¬ k = 2 → addF a f w k = a k := by
    intro k h1 h2
    unfold addF
    rw [up1_n h2, up1_n (by omega), up1_n (by omega), up1_n (by omega), zeF_n _ (by omega)]
  have e2 : addF a f w 2 = f + 1 := by
    unfold addF
    rw [up1_s, hf]
  have f0 : addF a f w (17 + 18 * f + 0) = w := by
    unfold addF
    rw [up1_n (by omega), up1_n (by omega), up1_n (by omega), up1_s]
  have f1 : addF a f w (17 + 18 * f + 1) = 20 := by
    unfold addF
    rw [up1_n (by omega), up1_n (by omega), up1_s]
  have f4 : addF a f w (17 + 18 * f + 4) = 2 := by
    unfold addF
    rw [up1_n (by omega), up1_s]
  have fz : ∀ k, k < 18 → k ≠ 0 → k ≠ 1 → k ≠ 4 → addF a f w (17 + 18 * f + k) = 0 := by
    intro k h1 h2 h3 h4
    unfold addF
    rw [up1_n (by omega), up1_n (by omega), up1_n (by omega), up1_n (by omega), zeF_z 18 h1]
  generalize addF a f w = z at en e2 f0 f1 f4 fz ⊢
  have e0 := en 0 (by omega) (by omega)
  have e7 := en 7 (by omega) (by omega)
  have hPk : ∀ p : Nat, old a ≤ p → (p : Int) < a 7 → PkOK z p := fun p h1 h2 => (h.1.2.2.1 p h1 h2).up (fun k hk _ => en _ (by omega) (by omega)) (by omega) (by omega)
  refine ⟨⟨?_, ?_, ?_, ?_, ?_, ?_⟩, ?_, ?_⟩
  · unfold TopOK
    rw [e0, e2, e7, en 1 (by omega) (by omega), en 3 (by omega) (by omega), en 4 (by omega) (by omega), en 5 (by omega) (by omega), en 6 (by omega) (by omega), en 15 (by omega) (by omega)]
    omega
  · intro g hg
    rw [e2] at hg
    have hQ : Qs z g = Qs a g := Qs_cong e7 (fun q _ => isQ_eq (en _ (by omega) (by omega)) (en _ (by omega) (by omega)))
    rw [hQ]
    by_cases hgf : g = f
    · subst hgf
      have hq0 : Qs a g = [] := by
        rw [List.eq_nil_iff_forall_not_mem]
        intro q hq
        have hm := Qs_mem.mp hq
        have hP := h.1.2.2.1 q hm.1.1 (by omega)
        unfold PkOK at hP
        omega
      rw [hq0]
      refine ⟨?_, fz 17 (by decide) (by decide) (by decide) (by decide)⟩
      unfold FlowOK
      rw [f0, f1, f4, fz 2 (by decide) (by decide) (by decide) (by decide), fz 3 (by decide) (by decide) (by decide) (by decide), fz 5 (by decide) (by decide) (by decide) (by decide), fz 6 (by decide) (by decide) (by decide) (by decide), fz 9 (by decide) (by decide) (by decide) (by decide), fz 12 (by decide) (by decide) (by decide) (by decide), fz 14 (by decide) (by decide) (by decide) (by decide), fz 15 (by decide) (by decide) (by decide) (by decide), fz 16 (by decide) (by decide) (by decide) (by decide), fz 17 (by decide) (by decide) (by decide) (by decide), e0, e7]
      omega
    · have hG := h.1.2.1 g (by omega)
      rw [en _ (by omega) (by omega)]
      exact ⟨hG.1.up (fun k hk _ _ _ _ _ => en _ (by omega) (by omega)) (by omega) (by omega), hG.2⟩
  · intro p h1 h2
    rw [old_eq e7] at h1
    rw [e7] at h2
    exact hPk p h1 h2
  · rw [en 16 (by omega) (by omega), Ss_cong e7 (fun q _ => isS_eq (en _ (by omega) (by omega)))]
    exact h.1.2.2.2.1
  · rw [en 1825 (by omega) (by omega)]
    exact h.1.2.2.2.2.1
  · intro i hi
    rw [en _ (by omega) (by omega)]
    exact h.1.2.2.2.2.2 i hi
  · refine ⟨by rw [en 12 (by omega) (by omega)]; exact h.2.1.1, ?_⟩
    rw [en 8 (by omega) (by omega), en 9 (by omega) (by omega), en 10 (by omega) (by omega), en 11 (by omega) (by omega), e0, e7, old_eq e7]
    rcases h.2.1.2 with g | ⟨q, g1, g2, g3, g4, g5, g6, g7, g8, g9, g, g10, g11⟩
    · exact Or.inl g
    · refine Or.inr ⟨q, g1, g2, g3, ?_⟩
      have hP := h.1.2.2.1 q g2 g3
      unfold PkOK at hP
      rw [en _ (by omega) (by omega), en _ (by omega) (by omega), en _ (by omega) (by omega)]
      refine ⟨g4, g5, g6, g7, g8, g9, g, ?_⟩
      rw [en _ (by omega) (by omega), en _ (by omega) (by omega)]
      exact ⟨g10, g11⟩
  · intro g hg
    rw [e2] at hg
    by_cases hgf : g = f
    · subst hgf
      rw [fz 15 (by decide) (by decide) (by decide) (by decide), fz 6 (by decide) (by decide) (by decide) (by decide), fz 16 (by decide) (by decide) (by decide) (by decide)]
      decide
    · rw [en _ (by omega) (by omega), en _ (by omega) (by omega), en _ (by omega) (by omega)]
      exact h.2.2 g (by omega)
theorem rul_OK {a : Sa} {N T : Int} (h : OK N T a) {k : Nat} {v : Int} (hk : rulOK k v) : OK N T (up1 a (3 + k) v) := by
  have hT := h.1.1
  unfold TopOK at hT
  unfold rulOK at hk
  have en : ∀ j, j ≠ 3 + k → up1 a (3 + k) v j = a j := fun j hj => up1_n hj
  have es : up1 a (3 + k) v (3 + k) = v := up1_s
  generalize up1 a (3 + k) v = z at en es ⊢
  have hi : ∀ j, (j < 3 ∨ 7 ≤ j) → z j = a j := fun j hj => en j (by omega)
  have e0 := hi 0 (by omega)
  have e2 := hi 2 (by omega)
  have e7 := hi 7 (by omega)
  refine ⟨⟨?_, ?_, ?_, ?_, ?_, ?_⟩, ?_, ?_⟩
  · have hb : (0 ≤ z 3 ∧ z 3 ≤ 50) ∧ (0 ≤ z 4 ∧ z 4 ≤ 50) ∧ (0 ≤ z 5 ∧ z 5 ≤ 1000) ∧ (0 ≤ z 6 ∧ z 6 ≤ 1) := by
      have g : ∀ j, j = 3 + k → z j = v := fun j hj => by rw [hj]; exact es
      refine ⟨?_, ?_, ?_, ?_⟩
      · by_cases e : 3 = 3 + k
        · rw [g 3 e]; omega
        · rw [en 3 e]; omega
      · by_cases e : 4 = 3 + k
        · rw [g 4 e]; omega
        · rw [en 4 e]; omega
      · by_cases e : 5 = 3 + k
        · rw [g 5 e]; omega
        · rw [en 5 e]; omega
      · by_cases e : 6 = 3 + k
        · rw [g 6 e]; omega
        · rw [en 6 e]; omega
    unfold TopOK
    rw [e0, hi 1 (by omega), e2, e7, hi 15 (by omega)]
    exact ⟨hT.1, hT.2.1, hT.2.2.1, hb.1, hb.2.1, hb.2.2.1, hb.2.2.2, hT.2.2.2.2.2.2.2.1, hT.2.2.2.2.2.2.2.2⟩
  · intro f hf
    rw [e2] at hf
    have hF := h.1.2.1 f hf
    refine ⟨hF.1.up (fun j hj _ _ _ _ _ => hi _ (by omega)) (by omega) (by omega), ?_⟩
    rw [hi _ (by omega), Qs_cong e7 (fun q _ => isQ_eq (hi _ (by omega)) (hi _ (by omega)))]
    exact hF.2
  · intro p h1 h2
    rw [old_eq e7] at h1
    rw [e7] at h2
    exact (h.1.2.2.1 p h1 h2).up (fun j hj _ => hi _ (by omega)) (by omega) (by omega)
  · rw [hi 16 (by omega), Ss_cong e7 (fun q _ => isS_eq (hi _ (by omega)))]
    exact h.1.2.2.2.1
  · rw [hi 1825 (by omega)]
    exact h.1.2.2.2.2.1
  · intro i hi2
    rw [hi _ (by omega)]
    exact h.1.2.2.2.2.2 i hi2
  · exact Now_up h.2.1 (fun j hj => hi j (by rcases hj with hj | hj | hj | hj | ⟨g, rfl⟩ <;> omega))
  · intro f hf
    rw [e2] at hf
    rw [hi _ (by omega), hi _ (by omega), hi _ (by omega)]
    exact h.2.2 f hf
theorem set_OK {a : Sa} {N T : Int} (h : OK N T a) {f k : Nat} {v : Int} (hf : (f : Int) < a 2) (hk : setOK k v) : OK N T (up1 a (17 + 18 * f + k) v) := by
  have hT := h.1.1
  unfold TopOK at hT
  have hk5 : k < 5 := by unfold setOK at hk; omega
  exact ⟨Inv_set h.1 hf hk, Now_set (by omega) hk5 h.2.1, Lag_set (by omega) hk5 (by omega) h.2.2⟩
