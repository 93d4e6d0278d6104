/-- pieces that are known were promoted or not -/
def PcOK (a : Sa) : Prop := ∀ r : Nat, a 15 - 60 ≤ r → (r : Int) < a 15 → a (1445 + 5 * (r % 60) + 4) = 0 ∨ a (1445 + 5 * (r % 60) + 4) = 1
set_option maxHeartbeats 4000000 in
set_option maxRecDepth 20000 in
theorem k_X4_copyFrom {l : Launch} {G : Gd} {base : Nat} {Y : MY} {I : MI} {L : ML} {B D : Nat} {X W : Sa} {a : Sa} {N T : Int} (hS : SLy base Y B) (hS2 : SLy base Y D) (hDB : B + 206 ≤ D ∨ D + 206 ≤ B) (hI : Inv N T a) (hR : Rl true a W) (hN : NowOK a) (hPc : PcOK a) : Ct l yX4_copyFrom cX4_copyFrom 3 (none) (rmz 2 61) G base [.ref B, .ref D] Y (cI (cI I D W) B X) (cL (cL L D W) B X) (EV Y (fun I' L' => ∃ X', Rl true a X' ∧ I' = cI (cI I D W) B X' ∧ L' = cL (cL L D W) B X')) := by
  refine Ct.of (own := RX4) (lo := [(0, .ref B), (1, .ref D)]) (by decide) rfl (Nat.le_of_ble_eq_true rfl) rfl ?_
  intro zp ze zs zm zargs zbl zmt zc C hr hlk hnm
  have hT := hI.1
  unfold TopOK at hT
  obtain ⟨n, hn⟩ := Int.eq_ofNat_of_zero_le (show 0 ≤ a 2 by omega)
  have ho : old a = (a 7 - 120).toNat := rfl
  have h11 : a 11 = 0 ∨ a 11 = 1 := by
    rcases hN.2 with h | ⟨p, g1, g2, g3, g4, g5, g6, g7, g8, g9, g10⟩
    · exact Or.inl h.2.2.2
    · exact g9
  refine r_aload_n C 1 dX4_copyFrom_0 rfl rfl ?_
  refine r_getR C fl_X4_13 rfl dX4_copyFrom_1 hS2.1.1 hS2.2.1.1 ?_
  refine r_iconst (v := iI 0) C dX4_copyFrom_4 rfl ?_
  refine r_aload_n C 0 dX4_copyFrom_5 rfl rfl ?_
  refine r_getR C fl_X4_13 rfl dX4_copyFrom_6 hS.1.1 hS.2.1.1 ?_
  refine r_iconst (v := iI 0) C dX4_copyFrom_9 rfl ?_
  refine r_aload_n C 0 dX4_copyFrom_10 rfl rfl ?_
  refine r_getR C fl_X4_13 rfl dX4_copyFrom_11 hS.1.1 hS.2.1.1 ?_
  refine r_alen C (by decide) dX4_copyFrom_14 hS.1.2.1 ?_
  refine c2_copy C (n := 4) (t := 0) hDB 1 rfl rfl (by decide) (fun k => ln1) (by decide) rfl rfl wy_X4_18 dX4_copyFrom_15 (by decide) hS2.1.2.1 hS.1.2.1 (fun _ _ => rfl) (Nat.le_of_ble_eq_true rfl) (Nat.le_of_ble_eq_true rfl) (fun a15 ea15 => ?_)
  refine r_iconst (v := iI 0) C dX4_copyFrom_18 rfl ?_
  refine r_istore_n (lo' := [(2, .int (iI 0)), (0, .ref B), (1, .ref D)]) C dX4_copyFrom_19 rfl (by decide) rfl ?_
  have lp20 : ∀ (k : Nat) (x2 : Int) (i : Nat) (X1 : Sa) (hx2 : x2 = i) (hi : (i : Int) ≤ a 2) (hCs : ∀ k, k < 4 → X1 (3 + k) = W (3 + k)) (hCf : ∀ g : Nat, g < i → (∀ k, k < 18 → X1 (17 + 18 * g + k) = W (17 + 18 * g + k)) ∧ ∀ j, j < 20 → X1 (2000 + 20 * g + j) = W (2000 + 20 * g + j)), n - i = k → Bd zp l ze (rmz 2 61) zs zm zargs zbl zmt zc 3 G base (EV Y (fun I' L' => ∃ X', Rl true a X' ∧ I' = cI (cI I D W) B X' ∧ L' = cL (cL L D W) B X')) 20 [(2, .int (iI x2)), (0, .ref B), (1, .ref D)] [] Y (cI (cI I D W) B X1) (cL (cL L D W) B X1) 0 0 := by
    intro k
    induction k using Nat.strongRecOn with
    | _ k ih20 =>
    intro x2 i X1 hx2 hi hCs hCf hk20
    refine r_iload_n C 0 dX4_copyFrom_20 rfl rfl ?_
    refine r_aload_n C 2 dX4_copyFrom_21 rfl rfl ?_
    refine c2_getI C (v := (a 2)) hDB 0 2 rfl (by decide) (lnS (by decide)) rfl fl_X4_60 rfl dX4_copyFrom_22 hS2.1.1 (hR.n 2 (by decide) (by decide)) ?_
    refine n_icmp_ge (tgt := 49) C dX4_copyFrom_25 (by decide) (by constructor <;> omega) (by constructor <;> omega) (fun c25 => ?_) (fun c25 => ?_)
    · replace hCf : ∀ g : Nat, (g : Int) < a 2 → (∀ k, k < 18 → X1 (17 + 18 * g + k) = W (17 + 18 * g + k)) ∧ ∀ j, j < 20 → X1 (2000 + 20 * g + j) = W (2000 + 20 * g + j) := fun g hg => hCf g (by omega)
      refine r_aload_n C 2 dX4_copyFrom_49 rfl rfl ?_
      refine r_eqI (cI_sw hDB) ?_
      refine r_eqL (cL_sw hDB) ?_
      refine cV0_PI C (k_X4_oldestPacket hS2 (show 0 ≤ W 7 ∧ W 7 ≤ 400000 by rw [hR.n 7 (by decide) (by decide)]; omega)) cw_X4_72 (rm_ok rfl rfl (Nat.zero_le _) (Nat.zero_le _)) (Nat.le_of_ble_eq_true rfl) hS2.1.1 dX4_copyFrom_50 ?_
      refine n_eqi (y := (old a : Int)) (by rw [old_eq (hR.n 7 (by decide) (by decide))]) ?_
      refine r_eqI (cI_sw hDB).symm ?_
      refine r_eqL (cL_sw hDB).symm ?_
      refine n_topi (fun x53 ex53 => ?_)
      refine r_istore_n (lo' := [(2, .int (iI x53)), (0, .ref B), (1, .ref D)]) C dX4_copyFrom_53 rfl (by decide) rfl ?_
      have lp54 : ∀ (k : Nat) (y2 : Int) (p : Nat) (X1 : Sa) (hy2 : y2 = p) (hp : old a ≤ p ∧ p ≤ (a 7).toNat) (hCs : ∀ k, k < 4 → X1 (3 + k) = W (3 + k)) (hCf : ∀ g : Nat, (g : Int) < a 2 → (∀ k, k < 18 → X1 (17 + 18 * g + k) = W (17 + 18 * g + k)) ∧ ∀ j, j < 20 → X1 (2000 + 20 * g + j) = W (2000 + 20 * g + j)) (hCp : ∀ q : Nat, old a ≤ q → q < p → ∀ k, k < 11 → X1 (125 + 11 * (q % 120) + k) = W (125 + 11 * (q % 120) + k)), (a 7).toNat - p = k → Bd zp l ze (rmz 2 61) zs zm zargs zbl zmt zc 3 G base (EV Y (fun I' L' => ∃ X', Rl true a X' ∧ I' = cI (cI I D W) B X' ∧ L' = cL (cL L D W) B X')) 54 [(2, .int (iI y2)), (0, .ref B), (1, .ref D)] [] Y (cI (cI I D W) B X1) (cL (cL L D W) B X1) 0 0 := by
        intro k
        induction k using Nat.strongRecOn with
        | _ k ih54 =>
        intro y2 p X1 hy2 hp hCs hCf hCp hk54
        refine r_iload_n C 0 dX4_copyFrom_54 rfl rfl ?_
        refine r_aload_n C 2 dX4_copyFrom_55 rfl rfl ?_
        refine c2_getI C (v := (a 7)) hDB 0 7 rfl (by decide) (lnS (by decide)) rfl fl_X4_63 rfl dX4_copyFrom_56 hS2.1.1 (hR.n 7 (by decide) (by decide)) ?_
        refine n_icmp_ge (tgt := 81) C dX4_copyFrom_59 (by decide) (by constructor <;> omega) (by constructor <;> omega) (fun c59 => ?_) (fun c59 => ?_)
        · replace hCp : ∀ q : Nat, old a ≤ q → (q : Int) < a 7 → ∀ k, k < 11 → X1 (125 + 11 * (q % 120) + k) = W (125 + 11 * (q % 120) + k) := fun q q1 q2 => hCp q q1 (by omega)
          refine r_aload_n C 2 dX4_copyFrom_81 rfl rfl ?_
          refine r_eqI (cI_sw hDB) ?_
          refine r_eqL (cL_sw hDB) ?_
          refine cV0_PI C (k_X4_oldestPiece hS2 (show 0 ≤ W 15 ∧ W 15 ≤ 1002000 by rw [hR.n 15 (by decide) (by decide)]; omega)) cw_X4_82 (rm_ok rfl rfl (Nat.zero_le _) (Nat.zero_le _)) (Nat.le_of_ble_eq_true rfl) hS2.1.1 dX4_copyFrom_82 ?_
          refine n_eqi (y := ((a 15 - 60).toNat : Int)) (by rw [hR.n 15 (by decide) (by decide)]) ?_
          refine r_eqI (cI_sw hDB).symm ?_
          refine r_eqL (cL_sw hDB).symm ?_
          refine n_topi (fun x85 ex85 => ?_)
          refine r_istore_n (lo' := [(2, .int (iI x85)), (0, .ref B), (1, .ref D)]) C dX4_copyFrom_85 rfl (by decide) rfl ?_
          have lp86 : ∀ (k : Nat) (z2 : Int) (r : Nat) (X1 : Sa) (hz2 : z2 = r) (hrr : (a 15 - 60).toNat ≤ r ∧ (r : Int) ≤ a 15) (hCs : ∀ k, k < 4 → X1 (3 + k) = W (3 + k)) (hCf : ∀ g : Nat, (g : Int) < a 2 → (∀ k, k < 18 → X1 (17 + 18 * g + k) = W (17 + 18 * g + k)) ∧ ∀ j, j < 20 → X1 (2000 + 20 * g + j) = W (2000 + 20 * g + j)) (hCp : ∀ q : Nat, old a ≤ q → (q : Int) < a 7 → ∀ k, k < 11 → X1 (125 + 11 * (q % 120) + k) = W (125 + 11 * (q % 120) + k)) (hCr : ∀ q : Nat, a 15 - 60 ≤ q → q < r → ∀ k, k < 5 → X1 (1445 + 5 * (q % 60) + k) = W (1445 + 5 * (q % 60) + k)), (a 15).toNat - r = k → Bd zp l ze (rmz 2 61) zs zm zargs zbl zmt zc 3 G base (EV Y (fun I' L' => ∃ X', Rl true a X' ∧ I' = cI (cI I D W) B X' ∧ L' = cL (cL L D W) B X')) 86 [(2, .int (iI z2)), (0, .ref B), (1, .ref D)] [] Y (cI (cI I D W) B X1) (cL (cL L D W) B X1) 0 0 := by
            intro k
            induction k using Nat.strongRecOn with
            | _ k ih86 =>
            intro z2 r X1 hz2 hrr hCs hCf hCp hCr hk86
            refine r_iload_n C 0 dX4_copyFrom_86 rfl rfl ?_
            refine r_aload_n C 2 dX4_copyFrom_87 rfl rfl ?_
            refine c2_getI C (v := (a 15)) hDB 0 15 rfl (by decide) (lnS (by decide)) rfl fl_X4_79 rfl dX4_copyFrom_88 hS2.1.1 (hR.n 15 (by decide) (by decide)) ?_
            refine n_icmp_ge (tgt := 113) C dX4_copyFrom_91 (by decide) (by constructor <;> omega) (by constructor <;> omega) (fun c91 => ?_) (fun c91 => ?_)
            · refine r_aload_n C 1 dX4_copyFrom_113 rfl rfl ?_
              refine r_getR C fl_X4_45 rfl dX4_copyFrom_114 hS.1.1 hS.2.1.2.2.2.2.1 ?_
              refine r_aload_n C 2 dX4_copyFrom_117 rfl rfl ?_
              refine r_getR C fl_X4_45 rfl dX4_copyFrom_118 hS2.1.1 hS2.2.1.2.2.2.2.1 ?_
              refine cV1_EV C (k_X3_copyFrom3 hS hS2 hDB (by rw [hR.n 11 (by decide) (by decide)]; exact h11)) cw_X4_221 (rm_ok rfl rfl (Nat.zero_le _) (Nat.zero_le _)) (Nat.le_of_ble_eq_true rfl) hS.1.2.2.2.2.2.1 dX4_copyFrom_121 (fun I121 L121 h121 => ?_)
              obtain ⟨a121, mo121, fa121, h121I, h121L⟩ := h121
              subst h121I
              subst h121L
              refine r_aload_n C 1 dX4_copyFrom_124 rfl rfl ?_
              refine r_getR C fl_X4_52 rfl dX4_copyFrom_125 hS.1.1 hS.2.1.2.2.2.2.2.1 ?_
              refine r_aload_n C 2 dX4_copyFrom_128 rfl rfl ?_
              refine r_getR C fl_X4_52 rfl dX4_copyFrom_129 hS2.1.1 hS2.2.1.2.2.2.2.2.1 ?_
              refine cV1_EV C (k_X2_copyFrom hS hS2 hDB (fun i hi => by have h8 := hI.2.2.2.2.2 i hi; rw [hR.t _ (by omega) (by omega)]; omega)) cw_X4_279 (rm_ok rfl rfl (Nat.zero_le _) (Nat.zero_le _)) (Nat.le_of_ble_eq_true rfl) hS.1.2.2.2.2.2.2.1 dX4_copyFrom_132 (fun I132 L132 h132 => ?_)
              obtain ⟨a132, mo132, fa132, h132I, h132L⟩ := h132
              subst h132I
              subst h132L
              refine r_aload_n C 1 dX4_copyFrom_135 rfl rfl ?_
              refine r_aload_n C 2 dX4_copyFrom_136 rfl rfl ?_
              refine c2_getI C (v := (W 0)) hDB 0 0 rfl (by decide) (lnS (by decide)) rfl fl_X4_129 rfl dX4_copyFrom_137 hS2.1.1 rfl ?_
              refine c_putI C 0 0 rfl (by decide) (lnS (by decide)) rfl fl_X4_129 rfl dX4_copyFrom_140 hS.1.1 (fun a140 ea140 => ?_)
              refine r_aload_n C 1 dX4_copyFrom_143 rfl rfl ?_
              refine r_aload_n C 2 dX4_copyFrom_144 rfl rfl ?_
              refine c2_getI C (v := (W 2)) hDB 0 2 rfl (by decide) (lnS (by decide)) rfl fl_X4_60 rfl dX4_copyFrom_145 hS2.1.1 rfl ?_
              refine c_putI C 0 2 rfl (by decide) (lnS (by decide)) rfl fl_X4_60 rfl dX4_copyFrom_148 hS.1.1 (fun a148 ea148 => ?_)
              refine r_aload_n C 1 dX4_copyFrom_151 rfl rfl ?_
              refine r_aload_n C 2 dX4_copyFrom_152 rfl rfl ?_
              refine c2_getI C (v := (W 7)) hDB 0 7 rfl (by decide) (lnS (by decide)) rfl fl_X4_63 rfl dX4_copyFrom_153 hS2.1.1 rfl ?_
              refine c_putI C 0 7 rfl (by decide) (lnS (by decide)) rfl fl_X4_63 rfl dX4_copyFrom_156 hS.1.1 (fun a156 ea156 => ?_)
              refine r_aload_n C 1 dX4_copyFrom_159 rfl rfl ?_
              refine r_aload_n C 2 dX4_copyFrom_160 rfl rfl ?_
              refine c2_getI C (v := (W 15)) hDB 0 15 rfl (by decide) (lnS (by decide)) rfl fl_X4_79 rfl dX4_copyFrom_161 hS2.1.1 rfl ?_
              refine c_putI C 0 15 rfl (by decide) (lnS (by decide)) rfl fl_X4_79 rfl dX4_copyFrom_164 hS.1.1 (fun a164 ea164 => ?_)
              refine r_aload_n C 1 dX4_copyFrom_167 rfl rfl ?_
              refine r_aload_n C 2 dX4_copyFrom_168 rfl rfl ?_
              refine c2_getI C (v := (W 13)) hDB 0 13 rfl (by decide) (lnS (by decide)) rfl fl_X4_165 rfl dX4_copyFrom_169 hS2.1.1 rfl ?_
              refine c_putI C 0 13 rfl (by decide) (lnS (by decide)) rfl fl_X4_165 rfl dX4_copyFrom_172 hS.1.1 (fun a172 ea172 => ?_)
              refine r_aload_n C 1 dX4_copyFrom_175 rfl rfl ?_
              refine r_aload_n C 2 dX4_copyFrom_176 rfl rfl ?_
              refine c2_getI C (v := (W 14)) hDB 0 14 rfl (by decide) (lnS (by decide)) rfl fl_X4_208 rfl dX4_copyFrom_177 hS2.1.1 rfl ?_
              refine c_putI C 0 14 rfl (by decide) (lnS (by decide)) rfl fl_X4_208 rfl dX4_copyFrom_180 hS.1.1 (fun a180 ea180 => ?_)
              refine r_aload_n C 1 dX4_copyFrom_183 rfl rfl ?_
              refine r_aload_n C 2 dX4_copyFrom_184 rfl rfl ?_
              refine c2_getI C (v := (W 16)) hDB 0 16 rfl (by decide) (lnS (by decide)) rfl fl_X4_174 rfl dX4_copyFrom_185 hS2.1.1 rfl ?_
              refine c_putI C 0 16 rfl (by decide) (lnS (by decide)) rfl fl_X4_174 rfl dX4_copyFrom_188 hS.1.1 (fun a188 ea188 => ?_)
              refine r_aload_n C 1 dX4_copyFrom_191 rfl rfl ?_
              refine r_aload_n C 2 dX4_copyFrom_192 rfl rfl ?_
              refine c2_getI C (v := (W 8356)) hDB 0 8356 rfl (by decide) (lnS (by decide)) rfl fl_X4_56 rfl dX4_copyFrom_193 hS2.1.1 rfl ?_
              refine c_putI C 0 8356 rfl (by decide) (lnS (by decide)) rfl fl_X4_56 rfl dX4_copyFrom_196 hS.1.1 (fun a196 ea196 => ?_)
              refine r_aload_n C 1 dX4_copyFrom_199 rfl rfl ?_
              refine r_aload_n C 2 dX4_copyFrom_200 rfl rfl ?_
              refine c2_getL C (v := (W 1)) hDB 0 1 rfl (by decide) lnSy rfl fl_X4_123 rfl dX4_copyFrom_201 hS2.1.1 rfl ?_
              refine c_putL C 0 1 rfl (by decide) lnSy rfl fl_X4_123 rfl dX4_copyFrom_204 hS.1.1 (fun a204 ea204 => ?_)
              refine r_vret C hr hlk dX4_copyFrom_207 (Nat.zero_le _) (Nat.zero_le _) ?_
              have m0 : Mo W a132 a140 := by rw [ea140]; exact mo_up
              have m1 : Mo W a140 a148 := by rw [ea148]; exact mo_up
              have m2 : Mo W a148 a156 := by rw [ea156]; exact mo_up
              have m3 : Mo W a156 a164 := by rw [ea164]; exact mo_up
              have m4 : Mo W a164 a172 := by rw [ea172]; exact mo_up
              have m5 : Mo W a172 a180 := by rw [ea180]; exact mo_up
              have m6 : Mo W a180 a188 := by rw [ea188]; exact mo_up
              have m7 : Mo W a188 a196 := by rw [ea196]; exact mo_up
              have m8 : Mo W a196 a204 := by rw [ea204]; exact mo_up
              have mz : Mo W a132 a204 := Mo.tr m0 (Mo.tr m1 (Mo.tr m2 (Mo.tr m3 (Mo.tr m4 (Mo.tr m5 (Mo.tr m6 (Mo.tr m7 (m8))))))))
              have mx : Mo W X1 a204 := Mo.tr mo121 (Mo.tr mo132 mz)
              have eN : ∀ k, k < 17 → a204 k = W k := by
                intro k hk
                match k, hk with
                | 0, _ => exact (m8 _ (m7 _ (m6 _ (m5 _ (m4 _ (m3 _ (m2 _ (m1 _ (show a140 0 = W 0 by rw [ea140, up1_s])))))))))
                | 1, _ => exact (show a204 1 = W 1 by rw [ea204, up1_s])
                | 2, _ => exact (m8 _ (m7 _ (m6 _ (m5 _ (m4 _ (m3 _ (m2 _ (show a148 2 = W 2 by rw [ea148, up1_s]))))))))
                | 3, _ => exact (mx _ (hCs 0 (by decide)))
                | 4, _ => exact (mx _ (hCs 1 (by decide)))
                | 5, _ => exact (mx _ (hCs 2 (by decide)))
                | 6, _ => exact (mx _ (hCs 3 (by decide)))
                | 7, _ => exact (m8 _ (m7 _ (m6 _ (m5 _ (m4 _ (m3 _ (show a156 7 = W 7 by rw [ea156, up1_s])))))))
                | 8, _ => exact (mz _ (mo132 _ fa121.1))
                | 9, _ => exact (mz _ (mo132 _ fa121.2.1))
                | 10, _ => exact (mz _ (mo132 _ fa121.2.2.1))
                | 11, _ => exact (mz _ (mo132 _ fa121.2.2.2.1))
                | 12, _ => exact (mz _ (mo132 _ fa121.2.2.2.2.1))
                | 13, _ => exact (m8 _ (m7 _ (m6 _ (m5 _ (show a172 13 = W 13 by rw [ea172, up1_s])))))
                | 14, _ => exact (m8 _ (m7 _ (m6 _ (show a180 14 = W 14 by rw [ea180, up1_s]))))
                | 15, _ => exact (m8 _ (m7 _ (m6 _ (m5 _ (m4 _ (show a164 15 = W 15 by rw [ea164, up1_s]))))))
                | 16, _ => exact (m8 _ (m7 _ (show a188 16 = W 16 by rw [ea188, up1_s])))
                | k + 17, h => exact absurd h (by omega)
              refine ⟨rfl, rfl, a204, ⟨fun k k1 k2 => (eN k k1).trans (hR.n k k1 k2), fun f hf k hk => (mx _ ((hCf f hf).1 k hk.1)).trans (hR.f hf hk), fun p p1 p2 => ⟨fun k hk => (mx _ (hCp p p1 p2 k (by omega))).trans (hR.p ⟨p1, p2⟩ hk), fun z => (mx _ (hCp p p1 p2 10 (by decide))).trans (hR.p10 ⟨p1, p2⟩ z)⟩, fun r r1 r2 k hk => (mx _ (hCr r r1 (by omega) k hk)).trans (hR.r r1 r2 hk), fun k k1 k2 => (mz _ (fa132 k k1 k2)).trans (hR.t k k1 k2), fun f hf i q hq => ?_, fun p hp => ⟨(eN 12 (by decide)).trans (hR.c hp).1, (mz _ (mo132 _ fa121.2.2.2.2.2)).trans (hR.c hp).2⟩⟩, rfl, rfl⟩
              have h20 := Inv.q20 hI f hf
              have hil := (List.getElem?_eq_some_iff.mp hq).1
              exact (mx _ ((hCf f hf).2 i (by omega))).trans (hR.q hf hq)
            · refine r_aload_n C 1 dX4_copyFrom_94 rfl rfl ?_
              refine r_iload_n C 0 dX4_copyFrom_95 rfl rfl ?_
              refine cV1_PA C (k_X4_pieceAt r hS (by omega) (by omega)) cw_X4_217 (rm_ok rfl rfl (Nat.zero_le _) (Nat.zero_le _)) (Nat.le_of_ble_eq_true rfl) hS.1.1 dX4_copyFrom_96 ?_
              refine r_aload_n C 2 dX4_copyFrom_99 rfl rfl ?_
              refine r_iload_n C 0 dX4_copyFrom_100 rfl rfl ?_
              refine r_eqI (cI_sw hDB) ?_
              refine r_eqL (cL_sw hDB) ?_
              refine cV1_PA C (k_X4_pieceAt r hS2 (by omega) (by omega)) cw_X4_217 (rm_ok rfl rfl (Nat.zero_le _) (Nat.zero_le _)) (Nat.le_of_ble_eq_true rfl) hS2.1.1 dX4_copyFrom_101 ?_
              refine r_eqI (cI_sw hDB).symm ?_
              refine r_eqL (cL_sw hDB).symm ?_
              refine cV1_EV C (k_X3_copyFrom2 (r % 60) hS hS2 hDB m60 (by rw [hR.r (r := r) (by omega) (by omega) (by decide)]; exact hPc r (by omega) (by omega))) cw_X4_221 (rm_ok rfl rfl (Nat.zero_le _) (Nat.zero_le _)) (Nat.le_of_ble_eq_true rfl) (hS.2.2.2.2 (r % 60) m60).1 dX4_copyFrom_104 (fun I104 L104 h104 => ?_)
              obtain ⟨a104, mo104, fa104, h104I, h104L⟩ := h104
              subst h104I
              subst h104L
              refine n_iinc (lo' := [(2, .int (iI (z2 + 1))), (0, .ref B), (1, .ref D)]) C 0 dX4_copyFrom_107 rfl rfl (by decide) rfl ?_
              refine r_goto (tgt := 86) C dX4_copyFrom_110 (by decide) ?_
              exact ih86 _ (by first | omega | (rw [← hk86]; omega)) ((z2 + 1)) (r + 1) a104 (by omega) (by omega) (fun k hk => mo104 _ (hCs k hk)) (fun g hg => ⟨fun k hk => mo104 _ ((hCf g hg).1 k hk), fun j hj => mo104 _ ((hCf g hg).2 j hj)⟩) (fun q q1 q2 k hk => mo104 _ (hCp q q1 q2 k hk)) (fun q q1 q2 k hk => by
                by_cases e : q = r
                · subst e; exact fa104 k hk
                · exact mo104 _ (hCr q q1 (by omega) k hk)) rfl
          exact lp86 _ x85 ((a 15 - 60).toNat) X1 (by omega) (by omega) hCs hCf hCp (fun q q1 q2 => absurd q2 (by omega)) rfl
        · refine r_aload_n C 1 dX4_copyFrom_62 rfl rfl ?_
          refine r_iload_n C 0 dX4_copyFrom_63 rfl rfl ?_
          refine cV1_PA C (k_X4_packetAt p hS (by omega) (by omega)) cw_X4_91 (rm_ok rfl rfl (Nat.zero_le _) (Nat.zero_le _)) (Nat.le_of_ble_eq_true rfl) hS.1.1 dX4_copyFrom_64 ?_
          refine r_aload_n C 2 dX4_copyFrom_67 rfl rfl ?_
          refine r_iload_n C 0 dX4_copyFrom_68 rfl rfl ?_
          refine r_eqI (cI_sw hDB) ?_
          refine r_eqL (cL_sw hDB) ?_
          refine cV1_PA C (k_X4_packetAt p hS2 (by omega) (by omega)) cw_X4_91 (rm_ok rfl rfl (Nat.zero_le _) (Nat.zero_le _)) (Nat.le_of_ble_eq_true rfl) hS2.1.1 dX4_copyFrom_69 ?_
          refine r_eqI (cI_sw hDB).symm ?_
          refine r_eqL (cL_sw hDB).symm ?_
          refine cV1_EV C (k_X1_copyFrom (p % 120) hS hS2 hDB m120) cw_X4_276 (rm_ok rfl rfl (Nat.zero_le _) (Nat.zero_le _)) (Nat.le_of_ble_eq_true rfl) (hS.2.2.2.1 (p % 120) m120).1 dX4_copyFrom_72 (fun I72 L72 h72 => ?_)
          obtain ⟨a72, mo72, fa72, h72I, h72L⟩ := h72
          subst h72I
          subst h72L
          refine n_iinc (lo' := [(2, .int (iI (y2 + 1))), (0, .ref B), (1, .ref D)]) C 0 dX4_copyFrom_75 rfl rfl (by decide) rfl ?_
          refine r_goto (tgt := 54) C dX4_copyFrom_78 (by decide) ?_
          exact ih54 _ (by first | omega | (rw [← hk54]; omega)) ((y2 + 1)) (p + 1) a72 (by omega) (by omega) (fun k hk => mo72 _ (hCs k hk)) (fun g hg => ⟨fun k hk => mo72 _ ((hCf g hg).1 k hk), fun j hj => mo72 _ ((hCf g hg).2 j hj)⟩) (fun q q1 q2 k hk => by
            by_cases e : q = p
            · subst e; exact fa72 k hk
            · exact mo72 _ (hCp q q1 (by omega) k hk)) rfl
      exact lp54 _ x53 (old a) X1 (by omega) (by omega) hCs hCf (fun q q1 q2 => absurd q2 (by omega)) rfl
    · have hi6 : i < 6 := by omega
      refine r_aload_n C 1 dX4_copyFrom_28 rfl rfl ?_
      refine r_getR C fl_X4_26 rfl dX4_copyFrom_29 hS.1.1 hS.2.1.2.1 ?_
      refine r_iload_n C 0 dX4_copyFrom_32 rfl rfl ?_
      refine r_aald C (by decide) (by decide) i dX4_copyFrom_33 hS.1.2.2.1 ⟨congrArg iI (by omega), (by omega), by decide⟩ (hS.2.2.1 i hi6).2.2.2.1 ?_
      refine r_aload_n C 2 dX4_copyFrom_34 rfl rfl ?_
      refine r_getR C fl_X4_26 rfl dX4_copyFrom_35 hS2.1.1 hS2.2.1.2.1 ?_
      refine r_iload_n C 0 dX4_copyFrom_38 rfl rfl ?_
      refine r_aald C (by decide) (by decide) i dX4_copyFrom_39 hS2.1.2.2.1 ⟨congrArg iI (by omega), (by omega), by decide⟩ (hS2.2.2.1 i hi6).2.2.2.1 ?_
      refine cV1_EV C (k_X0_copyFrom i hS hS2 hDB hi6) cw_X4_273 (rm_ok rfl rfl (Nat.zero_le _) (Nat.zero_le _)) (Nat.le_of_ble_eq_true rfl) (hS.2.2.1 i hi6).1 dX4_copyFrom_40 (fun I40 L40 h40 => ?_)
      obtain ⟨a40, mo40, fa40, h40I, h40L⟩ := h40
      subst h40I
      subst h40L
      refine n_iinc (lo' := [(2, .int (iI (x2 + 1))), (0, .ref B), (1, .ref D)]) C 0 dX4_copyFrom_43 rfl rfl (by decide) rfl ?_
      refine r_goto (tgt := 20) C dX4_copyFrom_46 (by decide) ?_
      exact ih20 _ (by first | omega | (rw [← hk20]; omega)) ((x2 + 1)) (i + 1) a40 (by omega) (by omega) (fun k hk => mo40 _ (hCs k hk)) (fun g hg => by
        by_cases e : g = i
        · subst e; exact fa40
        · exact ⟨fun k hk => mo40 _ ((hCf g (by omega)).1 k hk), fun j hj => mo40 _ ((hCf g (by omega)).2 j hj)⟩) rfl
  exact lp20 _ 0 0 a15 rfl (by omega) (fun k hk => by rw [ea15, ← ky_1 hk]; exact upC_s (by decide)) (fun g hg => absurd hg (by omega)) rfl
