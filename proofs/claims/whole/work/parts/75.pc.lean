theorem Pc_eq {a a' : Sa} (h : PcOK a) (e : ∀ k, k = 15 ∨ (1445 ≤ k ∧ k < 1745) → a' k = a k) : PcOK a' := by
  intro r r1 r2
  rw [e 15 (Or.inl rfl)] at r1 r2
  rw [e _ (Or.inr (by omega))]
  exact h r r1 r2
theorem Pc_ini : PcOK ini := by
  intro r r1 r2
  have z : ini 15 = 0 := rfl
  omega
theorem Pc_add {a : Sa} (h : PcOK a) {f : Nat} {w : Int} (hf : f < 6) : PcOK (addF a f w) := Pc_eq h (fun k hk => addF_n (by omega))
theorem Pc_up {a : Sa} (h : PcOK a) {k : Nat} {v : Int} (hk : k ≠ 15 ∧ (k < 1445 ∨ 1745 ≤ k)) : PcOK (up1 a k v) := Pc_eq h (fun j hj => up1_n (by omega))
theorem Pc_take {a : Sa} (h : PcOK a) {f : Nat} {n d : Int} (hf : f < 6) : PcOK (take a f n d) := by
  unfold take
  have hm : (a 7).toNat % 120 < 120 := Nat.mod_lt _ (by decide)
  exact Pc_eq h (fun k hk => tkA_n (by omega) (by omega))
theorem Pc_off {a : Sa} (h : PcOK a) (h6 : a 2 ≤ 6) (f n d : Int) : PcOK (offA a f n d) := by
  unfold offA
  split
  · exact h
  · split
    · exact h
    · split
      · exact h
      · exact Pc_take h (by omega)
theorem Pc_can {a : Sa} {N T : Int} (hI : Inv N T a) (h : PcOK a) (p : Int) : PcOK (canA a p) := by
  unfold canA
  split
  · exact h
  · rename_i hk
    split
    · exact h
    · unfold canc
      have hP := hI.2.2.1 p.toNat (by unfold old; omega) (by omega)
      unfold PkOK at hP
      have hT := hI.1
      unfold TopOK at hT
      have hf : flP a p.toNat < 6 := by unfold flP; omega
      exact Pc_up (Pc_up h (by omega)) (by omega)
theorem Pc_put {a : Sa} {N T : Int} (hI : Inv N T a) (h : PcOK a) (X : Nat) : PcOK (putA a X) := by
  have hp := hI.2.2.2.2.1
  unfold putA
  by_cases hb : ¬ putOK X
  · rw [@if_pos _ (Classical.propDecidable _) hb]; exact h
  · rw [@if_neg _ (Classical.propDecidable _) hb]
    split
    · exact h
    · exact Pc_eq h (fun k hk => by rw [up1_n (by omega), ptC_n _ (by omega)])
theorem Pc_load {a : Sa} {N T : Int} (hO : OK N T a) (h : PcOK a) (hN : N + 243 ≤ 400000) : PcOK (ldA a) := by
  unfold ldA
  split
  · exact h
  · rename_i hF
    by_cases hl : ldF a
    · rw [@if_pos _ (Classical.propDecidable _) hl]
      have hk := ldO_ok hO.1 hO.2.1 hO.2.2 (by omega) hl hN (nsA a + 1) (Nat.le_refl _)
      refine Pc_eq h (fun k hk2 => ?_)
      rw [up1_n (by omega)]
      rcases hk2 with e | e
      · rw [e]; exact hk.2.2.1 15 (by decide) (by decide)
      · exact hk.2.2.2 k e.1
    · rw [@if_neg _ (Classical.propDecidable _) hl]; exact h
theorem pdF_r {a : Sa} {f p k : Nat} (hf6 : f < 6) (hf : a (125 + 11 * (p % 120) + 0) = f) (h : k = 15 ∨ (1445 ≤ k ∧ k < 1745)) : pdF a f p k = pd1 a f p k := by
  unfold pdF
  split
  · rw [up1_n (by omega)]
  · split
    · rw [up1_n (by omega), up1_n (by omega), up1_n (by omega)]
    · unfold dlv
      rw [flP_up (k := 17 + 18 * f + 17) (by omega), flP_of (f := f) (by rw [pd1_n (by omega)]; exact hf), dlP_n (by omega), up1_n (by omega)]
theorem Pc_pdF {a : Sa} {f p : Nat} (h : PcOK a) (hf6 : f < 6) (hf : a (125 + 11 * (p % 120) + 0) = f) (h15 : 0 ≤ a 15) (h11 : a 11 = 0 ∨ a 11 = 1) : PcOK (pdF a f p) := by
  intro r r1 r2
  rw [pdF_r hf6 hf (Or.inl rfl), pd1_15 hf6] at r1 r2
  rw [pdF_r hf6 hf (Or.inr (by omega))]
  obtain ⟨q, hq⟩ := Int.eq_ofNat_of_zero_le h15
  have e : pd1 a f p (1445 + 5 * (r % 60) + 4) = npA a p q (1445 + 5 * (r % 60) + 4) := by
    unfold pd1 ntp
    rw [up1_n (by omega), up1_n (by omega), up1_n (by omega), up1_n (by omega), up1_n (by omega), up1_n (by omega), up1_n (by omega), up1_n (by omega), up1_n (by omega), show (a 15).toNat = q by omega]
  rw [e]
  by_cases er : r = q
  · subst er
    rw [npA_r (by decide)]
    exact h11
  · rw [npA_n (by omega)]
    exact h r (by omega) (by omega)
theorem Pc_tick {a : Sa} {N T : Int} (hI : Inv N T a) (hN : NowOK a) (h : PcOK a) (hT : T + 1 ≤ 1002000) : PcOK (tick a) := by
  have hT0 := hI.1
  unfold TopOK at hT0
  have h1 : PcOK (tk1 a) := by
    have e0 : ∀ k, ¬ k = 0 → tk0 a k = a k := fun k hk => by unfold tk0; rw [up1_n hk]
    unfold tk1
    split
    · exact Pc_eq h (fun k hk => e0 k (by omega))
    · rename_i h8
      have hz : PcOK (up1 (up1 (tk0 a) 13 (a 13 + 1)) 10 (a 10 - 1)) := Pc_eq h (fun k hk => by rw [up1_n (by omega), up1_n (by omega), e0 k (by omega)])
      split
      · have ez : ∀ k, ¬ k = 0 ∧ ¬ k = 10 ∧ ¬ k = 13 → (up1 (up1 (tk0 a) 13 (a 13 + 1)) 10 (a 10 - 1)) k = a k := fun k hk => by rw [up1_n (by omega), up1_n (by omega), e0 k (by omega)]
        rcases hN.2 with h0 | ⟨p, g1, g2, g3, g4, g5, g6, g7, g8, g9, f, g10, g11⟩
        · omega
        · have hP := hI.2.2.1 p g2 g3
          unfold PkOK at hP
          unfold pdn
          rw [ez 8 (by omega), show (a 8).toNat = p by omega, flP_of (f := f) (by rw [ez _ (by omega)]; exact g10)]
          exact Pc_pdF hz (by omega) (by rw [ez _ (by omega)]; exact g10) (by rw [ez 15 (by omega)]; omega) (by rw [ez 11 (by omega)]; exact g9)
      · exact hz
  have hT1 := t1_ok hI hN hT
  have hj := Inv_jal hT1.1
  have h2 : PcOK (tkm a) := Pc_eq h1 (fun k hk => hj.2 k (jk_lo (by omega)))
  have hti := ti_ok hI hN hT
  have h3 : PcOK (tki a) := Pc_eq h2 (fun k hk => idA_n _ (fun g hg => by omega))
  have h4 : PcOK (tkf a) := Pc_eq h3 (fun k hk => flo_n (by rw [hti.2.2.2.1]; omega) (fun g hg => by omega))
  have h5 : PcOK (tkb a) := by
    unfold tkb
    split
    · exact Pc_eq h4 (fun k hk => bgn_n (by omega))
    · exact h4
  exact Pc_eq h5 (fun k hk => lgA_n _ (fun g hg => by omega))
theorem Pc_tkN {a : Sa} {N T : Int} (hO : OK N T a) (h : PcOK a) : ∀ n : Nat, T + n ≤ 1002000 → PcOK (tkN a n)
  | 0, _ => h
  | n + 1, hT => by
    have hk := (tkN_OK hO n (by omega)).1
    exact Pc_tick hk.1 hk.2.1 (Pc_tkN hO h n (by omega)) (by omega)
theorem Pc_awR {N : Int} : ∀ (n : Nat) {a : Sa} {T : Int} (z : Int), OK N T a → PcOK a → T + n ≤ 1002000 → PcOK (awR n a z)
  | 0, a, T, z, hO, h, hT => h
  | n + 1, a, T, z, hO, h, hT => by
    rw [awR_s]
    split
    · have hk := tick_ok hO.1 hO.2.1 (by omega)
      exact Pc_awR n (T := T + 1) _ ⟨hk.1, hk.2.1, hk.2.2.1⟩ (Pc_tick hO.1 hO.2.1 h (by omega)) (by omega)
    · exact h
