/-- the lowest packet that the tick delivers, so far -/
def tkz1 (a : Sa) : Int := if a 8 < 0 then -6 else if a 10 - 1 = 0 then pdZ (-6) (up1 (up1 (tk0 a) 13 (a 13 + 1)) 10 (a 10 - 1)) (a 8).toNat else -6
noncomputable def tkz (a : Sa) : Int := jaz (tkz1 a) (tk1 a)
theorem fdN_b {z : Int} {p : Nat} (hz : -6 ≤ z ∧ z ≤ 400000) (hp : p ≤ 400000) : -6 ≤ fdN z p ∧ fdN z p ≤ 400000 := by
  unfold fdN
  split <;> omega
theorem pdZ_b {z : Int} {a : Sa} {p : Nat} (hz : -6 ≤ z ∧ z ≤ 400000) (hp : p ≤ 400000) : -6 ≤ pdZ z a p ∧ pdZ z a p ≤ 400000 := by
  unfold pdZ
  split
  · exact hz
  · split
    · exact hz
    · exact fdN_b hz hp
theorem jnF_b : ∀ (n p : Nat) (a : Sa) (z : Int), (-6 ≤ z ∧ z ≤ 400000) → p + n ≤ 400000 → -6 ≤ jnF z a n p ∧ jnF z a n p ≤ 400000
  | 0, _, _, _, h, _ => h
  | n + 1, p, a, z, h, hp => by
    unfold jnF
    refine jnF_b n (p + 1) _ _ ?_ (by omega)
    unfold jnZ
    by_cases hc : jnC a p
    · rw [@if_pos _ (Classical.propDecidable _) hc]; exact fdN_b h (by omega)
    · rw [@if_neg _ (Classical.propDecidable _) hc]; exact h
set_option maxHeartbeats 4000000 in
set_option maxRecDepth 20000 in
theorem k_X6_tick {l : Launch} {G : Gd} {base : Nat} {Y : MY} {I : MI} {L : ML} {M : Nat} {a : Sa} {N T : Int} (hI : Inv N T a) {b : Nat → Nat → Int} (hM : MLy base Y M) (hN : NowOK a) (hT1 : T + 1 ≤ 1002000) : Ct l yX6_tick cX6_tick 2 (none) (rmz 7 162) G base [.ref M] Y (mI I M 7 b) (rL L (M + 1) a) (EV Y (fun I' L' => (∃ v, I' = mI I M 7 (up2 (up2 b 0 8 (tkz a)) 0 9 v)) ∧ L' = rL L (M + 1) (tick a))) := by
  refine Ct.of (own := RX6) (lo := [(0, .ref M)]) (by decide) rfl (Nat.le_of_ble_eq_true rfl) rfl ?_
  intro zp ze zs zm zargs zbl zmt zc C hr hlk hnm
  have hT := hI.1
  unfold TopOK at hT
  obtain ⟨n, hn⟩ := Int.eq_ofNat_of_zero_le (show 0 ≤ a 2 by omega)
  have hN2 := hN
  obtain ⟨h12, hNow⟩ := hN
  have hnb : (a 8 = -6 ∨ (0 ≤ a 8 ∧ a 8 ≤ 400000)) ∧ 0 ≤ a 10 ∧ a 10 ≤ 2050 := by
    rcases hNow with h | ⟨p, g1, g2, g3, g4, g5, g6, g7, g8, g9⟩ <;> omega
  refine r_aload_n C 0 dX6_tick_0 rfl rfl ?_
  refine r_bipush (v := iI (-6)) C dX6_tick_1 (by decide) ?_
  refine g_putI C (o := 0) rfl (by decide) fl_X6_154 rfl dX6_tick_3 hM.1.1 (fun b3 eb3 => ?_)
  refine r_aload_n C 0 dX6_tick_6 rfl rfl ?_
  refine r_getR C fl_X6_7 rfl dX6_tick_7 hM.1.1 hM.2.1 ?_
  refine r_iconst (v := iI 0) C dX6_tick_10 rfl ?_
  refine r_dup2 C dX6_tick_11 rfl rfl ?_
  refine a_lald C (v := (a 0)) 0 dX6_tick_12 hM.1.2.1 ⟨rfl, by decide, by decide⟩ rfl ?_
  refine r_lconst (v := lI 1) C dX6_tick_13 (by decide) ?_
  refine n_ladd C dX6_tick_14 ?_
  refine a_last C 0 dX6_tick_15 hM.1.2.1 ⟨rfl, by decide, by decide⟩ (fun a15 ea15 => ?_)
  have jn66 : ∀ (a2 : Sa) (b2 : Nat → Nat → Int) (ha2 : a2 = tk1 a) (hb2 : b2 = up2 b 0 8 (tkz1 a)), Bd zp l ze (rmz 7 162) zs zm zargs zbl zmt zc 2 G base (EV Y (fun I' L' => (∃ v, I' = mI I M 7 (up2 (up2 b 0 8 (tkz a)) 0 9 v)) ∧ L' = rL L (M + 1) (tick a))) 66 [(0, .ref M)] [] Y (mI I M 7 b2) (rL L (M + 1) a2) 0 0 := by
    intro a2 b2 ha2 hb2
    have hT1k := t1_ok hI hN2 hT1
    rw [← ha2] at hT1k
    have hI2 := hT1k.1
    have hT2 := hI2.1
    unfold TopOK at hT2
    have hzb : -6 ≤ tkz1 a ∧ tkz1 a ≤ 400000 := by
      unfold tkz1
      split
      · omega
      · split
        · exact pdZ_b (by omega) (by omega)
        · omega
    have hb28 : b2 0 8 = tkz1 a := by rw [hb2]; exact up2_s
    refine r_aload_n C 0 dX6_tick_66 rfl rfl ?_
    refine cV0_EV C (k_X6_joinAll hI2 hM (by omega)) cw_X6_181 (rm_ok rfl rfl (Nat.zero_le _) (Nat.zero_le _)) (Nat.le_of_ble_eq_true rfl) hM.1.1 dX6_tick_67 (fun I67 L67 h67 => ?_)
    obtain ⟨h67I, h67L⟩ := h67
    obtain ⟨a67, ea67⟩ : ∃ z, z = jal a2 := ⟨_, rfl⟩
    obtain ⟨b67, eb67⟩ : ∃ z, z = up2 b2 0 8 (jaz (b2 0 8) a2) := ⟨_, rfl⟩
    rw [← ea67] at h67L
    rw [← eb67] at h67I
    subst h67I
    subst h67L
    have ha3 : a67 = tkm a := by rw [ea67, ha2]; rfl
    have hb3 : b67 = up2 b 0 8 (tkz a) := by rw [eb67, hb28, hb2, up2_u, ha2]; rfl
    have hTm := tm_ok hI hN2 hT1
    rw [← ha3] at hTm
    refine r_iconst (v := iI 0) C dX6_tick_70 rfl ?_
    refine r_istore_n (lo' := [(1, .int (iI 0)), (0, .ref M)]) C dX6_tick_71 rfl (by decide) rfl ?_
    have lp72 : ∀ (k : Nat) (x1 : Int) (i : Nat) (a4 : Sa) (hx1 : x1 = i) (hi : (i : Int) ≤ a 2) (ha4 : a4 = idA a67 i), n - i = k → Bd zp l ze (rmz 7 162) zs zm zargs zbl zmt zc 2 G base (EV Y (fun I' L' => (∃ v, I' = mI I M 7 (up2 (up2 b 0 8 (tkz a)) 0 9 v)) ∧ L' = rL L (M + 1) (tick a))) 72 [(1, .int (iI x1)), (0, .ref M)] [] Y (mI I M 7 b67) (rL L (M + 1) a4) 0 0 := by
      intro k
      induction k using Nat.strongRecOn with
      | _ k ih =>
      intro x1 i a4 hx1 hi ha4 hk
      have h42 : a4 2 = a 2 := by rw [ha4, idA_n i (fun g _ => by omega)]; exact hTm.2.2.2.2.1
      have h40 : a4 0 = a 0 + 1 := by rw [ha4, idA_n i (fun g _ => by omega)]; exact hTm.2.2.2.1
      have hI4 : Inv N (T + 1) a4 := by
        rw [ha4]
        refine Inv_idA hTm.1 (fun f hf => ?_) i (by rw [hTm.2.2.2.2.1]; exact hi)
        rw [hTm.2.2.2.2.1] at hf
        have hF := (hI.2.1 f hf).1
        unfold FlowOK at hF
        rw [hTm.2.2.2.2.2.2 f hf 5 (by omega) (by omega), hTm.2.2.2.1]
        omega
      refine r_iload_n C 0 dX6_tick_72 rfl rfl ?_
      refine n_i2l C dX6_tick_73 (by constructor <;> omega) ?_
      refine r_aload_n C 1 dX6_tick_74 rfl rfl ?_
      refine r_getR C fl_X6_7 rfl dX6_tick_75 hM.1.1 hM.2.1 ?_
      refine r_iconst (v := iI 2) C dX6_tick_78 rfl ?_
      refine a_lald C (v := (a4 2)) 2 dX6_tick_79 hM.1.2.1 ⟨rfl, by decide, by decide⟩ rfl ?_
      refine n_lcmp_ge (tgt := 95) C dX6_tick_80 dX6_tick_81 rfl rfl (by decide) (by constructor <;> omega) (by constructor <;> omega) (fun c80 => ?_) (fun c80 => ?_)
      · have hti : a4 = tki a := by rw [ha4, ha3]; unfold tki; rw [show i = (a 2).toNat by omega]
        refine r_aload_n C 1 dX6_tick_95 rfl rfl ?_
        refine cV0_EV C (k_X6_flowOn hI4  hM ) cw_X6_187 (rm_ok rfl rfl (Nat.zero_le _) (Nat.zero_le _)) (Nat.le_of_ble_eq_true rfl) hM.1.1 dX6_tick_96 (fun I96 L96 h96 => ?_)
        obtain ⟨h96I, h96L⟩ := h96
        obtain ⟨a96, ea96⟩ : ∃ z, z = flo a4 := ⟨_, rfl⟩
        rw [← ea96] at h96L
        subst h96I
        subst h96L
        have ha5 : a96 = tkf a := by rw [ea96, hti]; rfl
        have hTf := tf_ok hI hN2 hT1
        rw [← ha5] at hTf
        have hI5 := hTf.1
        have hT5 := hI5.1
        unfold TopOK at hT5
        have hn5 : a96 8 = -6 ∨ (0 ≤ a96 8 ∧ a96 8 ≤ 400000) := by
          rcases hTf.2.1.2 with h | ⟨p, g1, g2, g3, g4⟩ <;> omega
        have jn115 : ∀ (a6 : Sa) (b6 : Nat → Nat → Int) (ha6 : a6 = tkb a) (hb6 : ∃ v, b6 = up2 (up2 b 0 8 (tkz a)) 0 9 v), Bd zp l ze (rmz 7 162) zs zm zargs zbl zmt zc 2 G base (EV Y (fun I' L' => (∃ v, I' = mI I M 7 (up2 (up2 b 0 8 (tkz a)) 0 9 v)) ∧ L' = rL L (M + 1) (tick a))) 115 [(1, .int (iI x1)), (0, .ref M)] [] Y (mI I M 7 b6) (rL L (M + 1) a6) 0 0 := by
          intro a6 b6 ha6 hb6
          have hTb := tb_ok hI hN2 hT1
          rw [← ha6] at hTb
          refine r_iconst (v := iI 0) C dX6_tick_115 rfl ?_
          refine r_istore_n (lo' := [(1, .int (iI 0)), (0, .ref M)]) C dX6_tick_116 rfl (by decide) rfl ?_
          have lp117 : ∀ (k : Nat) (y1 : Int) (j : Nat) (a7 : Sa) (hy1 : y1 = j) (hj : (j : Int) ≤ a 2) (ha7 : a7 = lgA a6 j), n - j = k → Bd zp l ze (rmz 7 162) zs zm zargs zbl zmt zc 2 G base (EV Y (fun I' L' => (∃ v, I' = mI I M 7 (up2 (up2 b 0 8 (tkz a)) 0 9 v)) ∧ L' = rL L (M + 1) (tick a))) 117 [(1, .int (iI y1)), (0, .ref M)] [] Y (mI I M 7 b6) (rL L (M + 1) a7) 0 0 := by
            intro k
            induction k using Nat.strongRecOn with
            | _ k ih =>
            intro y1 j a7 hy1 hj ha7 hk
            have h72 : a7 2 = a 2 := by rw [ha7, lgA_n j (fun g _ => by omega)]; exact hTb.2.2.2.1
            have hI7 : Inv N (T + 1) a7 := by rw [ha7]; exact Inv_lgA hTb.1 j (by rw [hTb.2.2.2.1]; exact hj)
            refine r_iload_n C 0 dX6_tick_117 rfl rfl ?_
            refine n_i2l C dX6_tick_118 (by constructor <;> omega) ?_
            refine r_aload_n C 1 dX6_tick_119 rfl rfl ?_
            refine r_getR C fl_X6_7 rfl dX6_tick_120 hM.1.1 hM.2.1 ?_
            refine r_iconst (v := iI 2) C dX6_tick_123 rfl ?_
            refine a_lald C (v := (a7 2)) 2 dX6_tick_124 hM.1.2.1 ⟨rfl, by decide, by decide⟩ rfl ?_
            refine n_lcmp_ge (tgt := 177) C dX6_tick_125 dX6_tick_126 rfl rfl (by decide) (by constructor <;> omega) (by constructor <;> omega) (fun c125 => ?_) (fun c125 => ?_)
            · refine r_vret C hr hlk dX6_tick_177 (Nat.zero_le _) (Nat.zero_le _) ?_
              obtain ⟨v, hv⟩ := hb6
              refine ⟨rfl, rfl, ⟨v, by rw [hv]⟩, ?_⟩
              rw [ha7, ha6]
              unfold tick
              rw [show j = (a 2).toNat by omega]
            · have hj6 : j < 6 := by omega
              have hF7 := (hI7.2.1 j (by omega)).1
              unfold FlowOK at hF7
              have hT7 := hI7.1
              unfold TopOK at hT7
              have hlj : lag a7 j = a7 (17 + 18 * j + 15) - 720720 * a7 (17 + 18 * j + 6) := rfl
              refine r_aload_n C 1 dX6_tick_129 rfl rfl ?_
              refine r_getR C fl_X6_7 rfl dX6_tick_130 hM.1.1 hM.2.1 ?_
              refine r_iload_n C 0 dX6_tick_133 rfl rfl ?_
              refine r_bipush (v := iI 16) C dX6_tick_134 (by decide) ?_
              refine cS2_PI C (k_X6_flowAt ) cw_X6_40 (rm_ok rfl rfl (Nat.zero_le _) (Nat.zero_le _)) (Nat.le_of_ble_eq_true rfl) dX6_tick_136 ?_
              have jn170 : ∀ x170 : Int, ((lag a7 j) ≤ (a7 (17 + 18 * j + 16)) ∧ x170 = (a7 (17 + 18 * j + 16))) ∨ ((a7 (17 + 18 * j + 16)) < (lag a7 j) ∧ x170 = (lag a7 j)) → Bd zp l ze (rmz 7 162) zs zm zargs zbl zmt zc 2 G base (EV Y (fun I' L' => (∃ v, I' = mI I M 7 (up2 (up2 b 0 8 (tkz a)) 0 9 v)) ∧ L' = rL L (M + 1) (tick a))) 170 [(1, .int (iI y1)), (0, .ref M)] [.long (lI x170), .int (iI (17 + 18 * y1 + 16)), .ref (M + 1)] Y (mI I M 7 b6) (rL L (M + 1) a7) 0 0 := by
                intro x170 hx170
                have hlg : x170 = if a7 (17 + 18 * j + 16) < lag a7 j then lag a7 j else a7 (17 + 18 * j + 16) := by
                  split <;> omega
                refine a_last C ((17 + 18 * j + 16)) dX6_tick_170 hM.1.2.1 ⟨congrArg iI (by omega), (by omega), by decide⟩ (fun a170 ea170 => ?_)
                refine n_iinc (lo' := [(1, .int (iI (y1 + 1))), (0, .ref M)]) C 0 dX6_tick_171 rfl rfl (by decide) rfl ?_
                refine r_goto (tgt := 117) C dX6_tick_174 (by decide) ?_
                exact ih _ (by first | omega | (rw [← hk]; omega)) ((y1 + 1)) (j + 1) a170 (by omega) (by omega) (by rw [ea170, ha7]; show _ = lg1 (lgA a6 j) j; unfold lg1; rw [← ha7, hlg]) rfl
              refine r_aload_n C 1 dX6_tick_139 rfl rfl ?_
              refine r_iload_n C 0 dX6_tick_140 rfl rfl ?_
              refine cV1_PL C (k_X6_lagOf j hM (by omega) (by omega)) cw_X6_193 (rm_ok rfl rfl (Nat.zero_le _) (Nat.zero_le _)) (Nat.le_of_ble_eq_true rfl) hM.1.1 dX6_tick_141 ?_
              refine r_aload_n C 1 dX6_tick_144 rfl rfl ?_
              refine r_iload_n C 0 dX6_tick_145 rfl rfl ?_
              refine r_bipush (v := iI 16) C dX6_tick_146 (by decide) ?_
              refine cV2_PL C (k_X6_ofFlow j 16 hM (by omega) (by omega) (by omega)) cw_X6_53 (rm_ok rfl rfl (Nat.zero_le _) (Nat.zero_le _)) (Nat.le_of_ble_eq_true rfl) hM.1.1 dX6_tick_148 ?_
              refine n_lcmp_le (tgt := 163) C dX6_tick_151 dX6_tick_152 rfl rfl (by decide) (by constructor <;> omega) (by constructor <;> omega) (fun c151 => ?_) (fun c151 => ?_)
              · refine r_aload_n C 1 dX6_tick_163 rfl rfl ?_
                refine r_iload_n C 0 dX6_tick_164 rfl rfl ?_
                refine r_bipush (v := iI 16) C dX6_tick_165 (by decide) ?_
                refine cV2_PL C (k_X6_ofFlow j 16 hM (by omega) (by omega) (by omega)) cw_X6_53 (rm_ok rfl rfl (Nat.zero_le _) (Nat.zero_le _)) (Nat.le_of_ble_eq_true rfl) hM.1.1 dX6_tick_167 ?_
                exact jn170 _ (Or.inl ⟨c151, rfl⟩)
              · refine r_aload_n C 1 dX6_tick_155 rfl rfl ?_
                refine r_iload_n C 0 dX6_tick_156 rfl rfl ?_
                refine cV1_PL C (k_X6_lagOf j hM (by omega) (by omega)) cw_X6_193 (rm_ok rfl rfl (Nat.zero_le _) (Nat.zero_le _)) (Nat.le_of_ble_eq_true rfl) hM.1.1 dX6_tick_157 ?_
                refine r_goto (tgt := 170) C dX6_tick_160 (by decide) ?_
                exact jn170 _ (Or.inr (⟨c151, rfl⟩))
          exact lp117 _ 0 0 a6 rfl (by omega) rfl rfl
        have ha5 : a96 = tkf a := by rw [ea96, hti]; rfl
        have hTf := tf_ok hI hN2 hT1
        rw [← ha5] at hTf
        have hI5 := hTf.1
        have hT5 := hI5.1
        unfold TopOK at hT5
        have hn5 : a96 8 = -6 ∨ (0 ≤ a96 8 ∧ a96 8 ≤ 400000) := by
          rcases hTf.2.1.2 with h | ⟨p, g1, g2, g3, g4⟩ <;> omega
        refine r_aload_n C 1 dX6_tick_99 rfl rfl ?_
        refine r_getR C fl_X6_7 rfl dX6_tick_100 hM.1.1 hM.2.1 ?_
        refine r_bipush (v := iI 8) C dX6_tick_103 (by decide) ?_
        refine a_lald C (v := (a96 8)) 8 dX6_tick_105 hM.1.2.1 ⟨rfl, by decide, by decide⟩ rfl ?_
        refine r_lconst (v := lI 0) C dX6_tick_106 (by decide) ?_
        refine n_lcmp_ge (tgt := 115) C dX6_tick_107 dX6_tick_108 rfl rfl (by decide) (by constructor <;> omega) ⟨by decide, by decide⟩ (fun c107 => ?_) (fun c107 => ?_)
        · exact jn115 a96 b67 (by unfold tkb; rw [← ha5, if_neg (by omega)]) ⟨_, by rw [hb3]; exact (up2_id _ 0 9).symm⟩
        · refine r_aload_n C 1 dX6_tick_111 rfl rfl ?_
          refine cV0_EV C (k_X6_begin hI5 hM) cw_X6_190 (rm_ok rfl rfl (Nat.zero_le _) (Nat.zero_le _)) (Nat.le_of_ble_eq_true rfl) hM.1.1 dX6_tick_112 (fun I112 L112 h112 => ?_)
          obtain ⟨h112I, h112L⟩ := h112
          obtain ⟨a112, ea112⟩ : ∃ z, z = bgn a96 := ⟨_, rfl⟩
          obtain ⟨b112, eb112⟩ : ∃ z, z = up2 b67 0 9 (if nxU a96 (a96 2).toNat < 0 then 0 else 1) := ⟨_, rfl⟩
          rw [← ea112] at h112L
          rw [← eb112] at h112I
          subst h112I
          subst h112L
          exact jn115 a112 b112 (by rw [ea112]; unfold tkb; rw [← ha5, if_pos c107]) ⟨_, by rw [eb112, hb3]⟩
      · refine r_aload_n C 1 dX6_tick_84 rfl rfl ?_
        refine r_iload_n C 0 dX6_tick_85 rfl rfl ?_
        refine cV1_EV C (k_X6_idle hI4 i hM (by omega) (by omega)) cw_X6_184 (rm_ok rfl rfl (Nat.zero_le _) (Nat.zero_le _)) (Nat.le_of_ble_eq_true rfl) hM.1.1 dX6_tick_86 (fun I86 L86 h86 => ?_)
        obtain ⟨h86I, h86L⟩ := h86
        obtain ⟨a86, ea86⟩ : ∃ z, z = idl a4 i := ⟨_, rfl⟩
        rw [← ea86] at h86L
        subst h86I
        subst h86L
        refine n_iinc (lo' := [(1, .int (iI (x1 + 1))), (0, .ref M)]) C 0 dX6_tick_89 rfl rfl (by decide) rfl ?_
        refine r_goto (tgt := 72) C dX6_tick_92 (by decide) ?_
        exact ih _ (by first | omega | (rw [← hk]; omega)) ((x1 + 1)) (i + 1) a86 (by omega) (by omega) (by rw [ea86, ha4]; rfl) rfl
    exact lp72 _ 0 0 a67 rfl (by omega) rfl rfl
  refine r_aload_n C 0 dX6_tick_16 rfl rfl ?_
  refine r_getR C fl_X6_7 rfl dX6_tick_17 hM.1.1 hM.2.1 ?_
  refine r_bipush (v := iI 8) C dX6_tick_20 (by decide) ?_
  refine a_lald C (v := (a 8)) 8 dX6_tick_22 hM.1.2.1 ⟨rfl, by decide, by decide⟩ (by rw [ea15, up1_n (by decide)]) ?_
  refine r_lconst (v := lI 0) C dX6_tick_23 (by decide) ?_
  refine n_lcmp_lt (tgt := 66) C dX6_tick_24 dX6_tick_25 rfl rfl (by decide) (by constructor <;> omega) ⟨by decide, by decide⟩ (fun c24 => ?_) (fun c24 => ?_)
  · exact jn66 a15 b3 (by unfold tk1 tk0; rw [if_pos (by omega), ea15]) (by rw [eb3]; unfold tkz1; rw [if_pos (by omega)])
  · refine r_aload_n C 0 dX6_tick_28 rfl rfl ?_
    refine r_getR C fl_X6_7 rfl dX6_tick_29 hM.1.1 hM.2.1 ?_
    refine r_bipush (v := iI 13) C dX6_tick_32 (by decide) ?_
    refine r_dup2 C dX6_tick_34 rfl rfl ?_
    refine a_lald C (v := (a 13)) 13 dX6_tick_35 hM.1.2.1 ⟨rfl, by decide, by decide⟩ (by rw [ea15, up1_n (by decide)]) ?_
    refine r_lconst (v := lI 1) C dX6_tick_36 (by decide) ?_
    refine n_ladd C dX6_tick_37 ?_
    refine a_last C 13 dX6_tick_38 hM.1.2.1 ⟨rfl, by decide, by decide⟩ (fun a38 ea38 => ?_)
    refine r_aload_n C 0 dX6_tick_39 rfl rfl ?_
    refine r_getR C fl_X6_7 rfl dX6_tick_40 hM.1.1 hM.2.1 ?_
    refine r_bipush (v := iI 10) C dX6_tick_43 (by decide) ?_
    refine r_dup2 C dX6_tick_45 rfl rfl ?_
    refine a_lald C (v := (a 10)) 10 dX6_tick_46 hM.1.2.1 ⟨rfl, by decide, by decide⟩ (by rw [ea38, up1_n (by decide), ea15, up1_n (by decide)]) ?_
    refine r_lconst (v := lI 1) C dX6_tick_47 (by decide) ?_
    refine n_lsub C dX6_tick_48 ?_
    refine a_last C 10 dX6_tick_49 hM.1.2.1 ⟨rfl, by decide, by decide⟩ (fun a49 ea49 => ?_)
    refine r_aload_n C 0 dX6_tick_50 rfl rfl ?_
    refine r_getR C fl_X6_7 rfl dX6_tick_51 hM.1.1 hM.2.1 ?_
    refine r_bipush (v := iI 10) C dX6_tick_54 (by decide) ?_
    refine a_lald C (v := ((a 10) - 1)) 10 dX6_tick_56 hM.1.2.1 ⟨rfl, by decide, by decide⟩ (by rw [ea49, up1_s]) ?_
    refine r_lconst (v := lI 0) C dX6_tick_57 (by decide) ?_
    refine n_lcmp_ne (tgt := 66) C dX6_tick_58 dX6_tick_59 rfl rfl (by decide) (by constructor <;> omega) ⟨by decide, by decide⟩ (fun c58 => ?_) (fun c58 => ?_)
    · exact jn66 a49 b3 (by unfold tk1 tk0; rw [if_neg (by omega), if_neg (by omega), ea49, ea38, ea15]) (by rw [eb3]; unfold tkz1; rw [if_neg (by omega), if_neg (by omega)])
    · rcases hNow with h | ⟨p, g1, g2, g3, g4, g5, g6, g7, g8, g9, f, g10, g11⟩
      · omega
      obtain ⟨z, hzz⟩ : ∃ z, z = up1 (up1 (tk0 a) 13 (a 13 + 1)) 10 (a 10 - 1) := ⟨_, rfl⟩
      have hza : a49 = z := by rw [hzz, ea49, ea38, ea15]; rfl
      subst hza
      have hIz : Inv N (T + 1) a49 := by rw [hzz]; exact Inv_up (Inv_up (Inv_t0 hI hT1) (by omega)) (by omega)
      have ez : ∀ k, ¬ k = 0 ∧ ¬ k = 10 ∧ ¬ k = 13 → a49 k = a k := fun k hk => by rw [ea49, ea38, ea15, up1_n (by omega), up1_n (by omega), up1_n (by omega)]
      have hkz : old a49 ≤ p ∧ (p : Int) < a49 7 := by rw [old_eq (ez 7 (by omega)), ez 7 (by omega)]; exact ⟨g2, g3⟩
      have h8z : a49 8 = p := by rw [ez 8 (by omega)]; exact g1
      have h8z2 : (a49 8).toNat = p := by rw [h8z]; rfl
      have hfz : a49 (125 + 11 * (p % 120) + 0) = f := by rw [ez _ (by omega)]; exact g10
      have hPz := hI.2.2.1 p g2 g3
      unfold PkOK at hPz
      have h9z : 1 ≤ a49 9 ∧ a49 9 ≤ 2000 := by rw [ez 9 (by omega)]; omega
      have hbz0 : b3 0 8 = -6 := by rw [eb3]; exact up2_s
      have hbz : -6 ≤ b3 0 8 ∧ b3 0 8 ≤ 400000 := by rw [hbz0]; omega
      refine r_aload_n C 0 dX6_tick_62 rfl rfl ?_
      refine cV0_EV C (k_X6_pieceDone hIz p f hM hkz h8z hfz h9z hbz) cw_X6_178 (rm_ok rfl rfl (Nat.zero_le _) (Nat.zero_le _)) (Nat.le_of_ble_eq_true rfl) hM.1.1 dX6_tick_63 (fun I63 L63 h63 => ?_)
      obtain ⟨h63I, h63L⟩ := h63
      obtain ⟨a63, ea63⟩ : ∃ z, z = pdF a49 f p := ⟨_, rfl⟩
      obtain ⟨b63, eb63⟩ : ∃ z, z = up2 b3 0 8 (pdZ (b3 0 8) a49 p) := ⟨_, rfl⟩
      rw [← ea63] at h63L
      rw [← eb63] at h63I
      subst h63I
      subst h63L
      exact jn66 a63 b63 (by rw [ea63]; unfold tk1 pdn; rw [if_neg (by omega), if_pos (by omega), ← hzz, h8z2, flP_of hfz]) (by rw [eb63, hbz0, eb3, up2_u]; unfold tkz1; rw [if_neg (by omega), if_pos (by omega), ← hzz, show (a 8).toNat = p by omega])
