theorem xSS {c i j : Nat} (h : i ≠ j) : c + i ≠ c + j := by omega
theorem xPF {p f i j : Nat} (hf : f < 6) (hj : j < 18) : 125 + 11 * (p % 120) + i ≠ 17 + 18 * f + j := by omega
theorem xFP {p f i j : Nat} (hf : f < 6) (hj : j < 18) : 17 + 18 * f + j ≠ 125 + 11 * (p % 120) + i := by omega
theorem xNP {n p i : Nat} (h : n < 125) : n ≠ 125 + 11 * (p % 120) + i := by omega
theorem xPN {n p i : Nat} (h : n < 125) : 125 + 11 * (p % 120) + i ≠ n := by omega
theorem xNF {n f j : Nat} (h : n < 17) : n ≠ 17 + 18 * f + j := by omega
theorem xFN {n f j : Nat} (h : n < 17) : 17 + 18 * f + j ≠ n := by omega
theorem up2_id {α : Type} (f : Nat → Nat → α) (a k : Nat) : up2 f a k (f a k) = f := by
  unfold up2
  rw [up1_id, up1_id]
theorem up2_u {α : Type} {f : Nat → Nat → α} {a k : Nat} {v w : α} : up2 (up2 f a k v) a k w = up2 f a k w := by
  unfold up2
  rw [up1_s, up1_u, up1_u]
def pdZ (z : Int) (a : Sa) (p : Nat) : Int := if a (125 + 11 * (p % 120) + 5) + a 9 < a (125 + 11 * (p % 120) + 1) then z else if 1 < a (125 + 11 * (p % 120) + 6) + 1 ∧ 0 < a 4 then z else fdN z p
theorem joined_b {a : Sa} {N T : Int} (hI : Inv N T a) : 0 ≤ a 16 ∧ a 16 ≤ 400000 := by
  have hT := hI.1
  unfold TopOK at hT
  have h1 := hI.2.2.2.1
  have h2 := List.length_filter_le (isS a) (knw a)
  have h3 : (knw a).length = (a 7).toNat - old a := by unfold knw; exact List.length_range'
  omega
set_option maxHeartbeats 4000000 in
set_option maxRecDepth 20000 in
theorem k_X6_pieceDone {l : Launch} {G : Gd} {base : Nat} {Y : MY} {I : MI} {L : ML} {M : Nat} {a : Sa} {N T : Int} (hI : Inv N T a) {b : Nat → Nat → Int} (p f : Nat) (hM : MLy base Y M) (hk : old a ≤ p ∧ (p : Int) < a 7) (h8 : a 8 = p) (hf : a (125 + 11 * (p % 120) + 0) = f) (h9 : 1 ≤ a 9 ∧ a 9 ≤ 2000) (hb : -6 ≤ b 0 8 ∧ b 0 8 ≤ 400000) : Ct l yX6_pieceDone cX6_pieceDone 3 (none) (rmz 3 67) G base [.ref M] Y (mI I M 7 b) (rL L (M + 1) a) (EV Y (fun I' L' => I' = mI I M 7 (up2 b 0 8 (pdZ (b 0 8) a p)) ∧ L' = rL L (M + 1) (pdF a f p))) := by
  refine Ct.of (own := RX6) (lo := [(0, .ref M)]) (by decide) rfl (Nat.le_of_ble_eq_true rfl) rfl ?_
  intro zp ze zs zm zargs zbl zmt zc C hr hlk hnm
  have hT := hI.1
  unfold TopOK at hT
  have hP := hI.2.2.1 p hk.1 hk.2
  unfold PkOK at hP
  have hF := (hI.2.1 f (by omega)).1
  unfold FlowOK at hF
  obtain ⟨r, hr15⟩ := Int.eq_ofNat_of_zero_le (show 0 ≤ a 15 by omega)
  have hf6 : f < 6 := by omega
  refine r_aload_n C 0 dX6_pieceDone_0 rfl rfl ?_
  refine r_getR C fl_X6_7 rfl dX6_pieceDone_1 hM.1.1 hM.2.1 ?_
  refine r_bipush (v := iI 8) C dX6_pieceDone_4 (by decide) ?_
  refine a_lald C (v := (a 8)) 8 dX6_pieceDone_6 hM.1.2.1 ⟨rfl, by decide, by decide⟩ rfl ?_
  refine n_l2i C dX6_pieceDone_7 ?_
  refine n_topi (fun x8 ex8 => ?_)
  refine r_istore_n (lo' := [(1, .int (iI x8)), (0, .ref M)]) C dX6_pieceDone_8 rfl (by decide) rfl ?_
  refine r_aload_n C 1 dX6_pieceDone_9 rfl rfl ?_
  refine r_iload_n C 0 dX6_pieceDone_10 rfl rfl ?_
  refine r_iconst (v := iI 0) C dX6_pieceDone_11 rfl ?_
  refine cV2_PL C (k_X6_of p 0 hM (by omega) (by omega) (by omega)) cw_X6_49 (rm_ok rfl rfl (Nat.zero_le _) (Nat.zero_le _)) (Nat.le_of_ble_eq_true rfl) hM.1.1 dX6_pieceDone_12 ?_
  refine n_l2i C dX6_pieceDone_15 ?_
  refine n_topi (fun x16 ex16 => ?_)
  refine r_istore_n (lo' := [(2, .int (iI x16)), (1, .int (iI x8)), (0, .ref M)]) C dX6_pieceDone_16 rfl (by decide) rfl ?_
  refine r_aload_n C 2 dX6_pieceDone_17 rfl rfl ?_
  refine r_iload_n C 1 dX6_pieceDone_18 rfl rfl ?_
  refine cV1_EV C (k_X6_notePiece p r hM (by omega) (by omega) (by omega) (by omega)) cw_X6_159 (rm_ok rfl rfl (Nat.zero_le _) (Nat.zero_le _)) (Nat.le_of_ble_eq_true rfl) hM.1.1 dX6_pieceDone_19 (fun I19 L19 h19 => ?_)
  obtain ⟨h19I, h19L⟩ := h19
  rw [show npA a p r = ntp a p by unfold ntp; rw [show (a 15).toNat = r by omega]] at h19L
  obtain ⟨a19, ea19⟩ : ∃ z, z = ntp a p := ⟨_, rfl⟩
  rw [← ea19] at h19L
  subst h19I
  subst h19L
  refine r_aload_n C 2 dX6_pieceDone_22 rfl rfl ?_
  refine r_getR C fl_X6_7 rfl dX6_pieceDone_23 hM.1.1 hM.2.1 ?_
  refine r_iload_n C 1 dX6_pieceDone_26 rfl rfl ?_
  refine r_iconst (v := iI 5) C dX6_pieceDone_27 rfl ?_
  refine cS2_PI C (k_X6_packetAt p 5 (by omega) (by omega) (by omega)) cw_X6_46 (rm_ok rfl rfl (Nat.zero_le _) (Nat.zero_le _)) (Nat.le_of_ble_eq_true rfl) dX6_pieceDone_28 ?_
  refine r_dup2 C dX6_pieceDone_31 rfl rfl ?_
  refine a_lald C (v := (a (125 + 11 * (p % 120) + 5))) ((125 + 11 * (p % 120) + 5)) dX6_pieceDone_32 hM.1.2.1 ⟨congrArg iI (by omega), (by omega), by decide⟩ (by rw [ea19, ntp_n (by omega)]) ?_
  refine r_aload_n C 2 dX6_pieceDone_33 rfl rfl ?_
  refine r_getR C fl_X6_7 rfl dX6_pieceDone_34 hM.1.1 hM.2.1 ?_
  refine r_bipush (v := iI 9) C dX6_pieceDone_37 (by decide) ?_
  refine a_lald C (v := (a 9)) 9 dX6_pieceDone_39 hM.1.2.1 ⟨rfl, by decide, by decide⟩ (by rw [ea19, ntp_n (by omega)]) ?_
  refine n_ladd C dX6_pieceDone_40 ?_
  refine a_last C ((125 + 11 * (p % 120) + 5)) dX6_pieceDone_41 hM.1.2.1 ⟨congrArg iI (by omega), (by omega), by decide⟩ (fun a41 ea41 => ?_)
  refine r_aload_n C 2 dX6_pieceDone_42 rfl rfl ?_
  refine r_getR C fl_X6_7 rfl dX6_pieceDone_43 hM.1.1 hM.2.1 ?_
  refine r_iload_n C 1 dX6_pieceDone_46 rfl rfl ?_
  refine r_bipush (v := iI 6) C dX6_pieceDone_47 (by decide) ?_
  refine cS2_PI C (k_X6_packetAt p 6 (by omega) (by omega) (by omega)) cw_X6_46 (rm_ok rfl rfl (Nat.zero_le _) (Nat.zero_le _)) (Nat.le_of_ble_eq_true rfl) dX6_pieceDone_49 ?_
  refine r_dup2 C dX6_pieceDone_52 rfl rfl ?_
  refine a_lald C (v := (a (125 + 11 * (p % 120) + 6))) ((125 + 11 * (p % 120) + 6)) dX6_pieceDone_53 hM.1.2.1 ⟨congrArg iI (by omega), (by omega), by decide⟩ (by rw [ea41, up1_n (xSS (by decide)), ea19, ntp_n (by omega)]) ?_
  refine r_lconst (v := lI 1) C dX6_pieceDone_54 (by decide) ?_
  refine n_ladd C dX6_pieceDone_55 ?_
  refine a_last C ((125 + 11 * (p % 120) + 6)) dX6_pieceDone_56 hM.1.2.1 ⟨congrArg iI (by omega), (by omega), by decide⟩ (fun a56 ea56 => ?_)
  refine r_aload_n C 2 dX6_pieceDone_57 rfl rfl ?_
  refine r_getR C fl_X6_7 rfl dX6_pieceDone_58 hM.1.1 hM.2.1 ?_
  refine r_iload_n C 1 dX6_pieceDone_61 rfl rfl ?_
  refine r_bipush (v := iI 7) C dX6_pieceDone_62 (by decide) ?_
  refine cS2_PI C (k_X6_packetAt p 7 (by omega) (by omega) (by omega)) cw_X6_46 (rm_ok rfl rfl (Nat.zero_le _) (Nat.zero_le _)) (Nat.le_of_ble_eq_true rfl) dX6_pieceDone_64 ?_
  refine r_dup2 C dX6_pieceDone_67 rfl rfl ?_
  refine a_lald C (v := (a (125 + 11 * (p % 120) + 7))) ((125 + 11 * (p % 120) + 7)) dX6_pieceDone_68 hM.1.2.1 ⟨congrArg iI (by omega), (by omega), by decide⟩ (by rw [ea56, up1_n (xSS (by decide)), ea41, up1_n (xSS (by decide)), ea19, ntp_n (by omega)]) ?_
  refine r_aload_n C 2 dX6_pieceDone_69 rfl rfl ?_
  refine r_getR C fl_X6_7 rfl dX6_pieceDone_70 hM.1.1 hM.2.1 ?_
  refine r_bipush (v := iI 11) C dX6_pieceDone_73 (by decide) ?_
  refine a_lald C (v := (a 11)) 11 dX6_pieceDone_75 hM.1.2.1 ⟨rfl, by decide, by decide⟩ (by rw [ea56, up1_n (xNP (by decide)), ea41, up1_n (xNP (by decide)), ea19, ntp_n (by omega)]) ?_
  refine n_ladd C dX6_pieceDone_76 ?_
  refine a_last C ((125 + 11 * (p % 120) + 7)) dX6_pieceDone_77 hM.1.2.1 ⟨congrArg iI (by omega), (by omega), by decide⟩ (fun a77 ea77 => ?_)
  refine r_aload_n C 2 dX6_pieceDone_78 rfl rfl ?_
  refine r_getR C fl_X6_7 rfl dX6_pieceDone_79 hM.1.1 hM.2.1 ?_
  refine r_iload_n C 1 dX6_pieceDone_82 rfl rfl ?_
  refine r_bipush (v := iI 10) C dX6_pieceDone_83 (by decide) ?_
  refine cS2_PI C (k_X6_packetAt p 10 (by omega) (by omega) (by omega)) cw_X6_46 (rm_ok rfl rfl (Nat.zero_le _) (Nat.zero_le _)) (Nat.le_of_ble_eq_true rfl) dX6_pieceDone_85 ?_
  refine r_aload_n C 2 dX6_pieceDone_88 rfl rfl ?_
  refine r_getR C fl_X6_7 rfl dX6_pieceDone_89 hM.1.1 hM.2.1 ?_
  refine r_iconst (v := iI 0) C dX6_pieceDone_92 rfl ?_
  refine a_lald C (v := (a 0)) 0 dX6_pieceDone_93 hM.1.2.1 ⟨rfl, by decide, by decide⟩ (by rw [ea77, up1_n (xNP (by decide)), ea56, up1_n (xNP (by decide)), ea41, up1_n (xNP (by decide)), ea19, ntp_n (by omega)]) ?_
  refine a_last C ((125 + 11 * (p % 120) + 10)) dX6_pieceDone_94 hM.1.2.1 ⟨congrArg iI (by omega), (by omega), by decide⟩ (fun a94 ea94 => ?_)
  refine r_aload_n C 2 dX6_pieceDone_95 rfl rfl ?_
  refine r_getR C fl_X6_7 rfl dX6_pieceDone_96 hM.1.1 hM.2.1 ?_
  refine r_iload_n C 0 dX6_pieceDone_99 rfl rfl ?_
  refine r_bipush (v := iI 6) C dX6_pieceDone_100 (by decide) ?_
  refine cS2_PI C (k_X6_flowAt ) cw_X6_40 (rm_ok rfl rfl (Nat.zero_le _) (Nat.zero_le _)) (Nat.le_of_ble_eq_true rfl) dX6_pieceDone_102 ?_
  refine r_dup2 C dX6_pieceDone_105 rfl rfl ?_
  refine a_lald C (v := (a (17 + 18 * f + 6))) ((17 + 18 * f + 6)) dX6_pieceDone_106 hM.1.2.1 ⟨congrArg iI (by omega), (by omega), by decide⟩ (by rw [ea94, up1_n (xFP hf6 (by decide)), ea77, up1_n (xFP hf6 (by decide)), ea56, up1_n (xFP hf6 (by decide)), ea41, up1_n (xFP hf6 (by decide)), ea19, ntp_n (by omega)]) ?_
  refine r_aload_n C 2 dX6_pieceDone_107 rfl rfl ?_
  refine r_getR C fl_X6_7 rfl dX6_pieceDone_108 hM.1.1 hM.2.1 ?_
  refine r_bipush (v := iI 9) C dX6_pieceDone_111 (by decide) ?_
  refine a_lald C (v := (a 9)) 9 dX6_pieceDone_113 hM.1.2.1 ⟨rfl, by decide, by decide⟩ (by rw [ea94, up1_n (xNP (by decide)), ea77, up1_n (xNP (by decide)), ea56, up1_n (xNP (by decide)), ea41, up1_n (xNP (by decide)), ea19, ntp_n (by omega)]) ?_
  refine n_ladd C dX6_pieceDone_114 ?_
  refine a_last C ((17 + 18 * f + 6)) dX6_pieceDone_115 hM.1.2.1 ⟨congrArg iI (by omega), (by omega), by decide⟩ (fun a115 ea115 => ?_)
  refine r_aload_n C 2 dX6_pieceDone_116 rfl rfl ?_
  refine r_getR C fl_X6_7 rfl dX6_pieceDone_117 hM.1.1 hM.2.1 ?_
  refine r_bipush (v := iI 8) C dX6_pieceDone_120 (by decide) ?_
  refine n_ldc2 (v := (-6)) C lc_X6_34 (by decide) dX6_pieceDone_122 ?_
  refine a_last C 8 dX6_pieceDone_125 hM.1.2.1 ⟨rfl, by decide, by decide⟩ (fun a125 ea125 => ?_)
  refine r_aload_n C 2 dX6_pieceDone_126 rfl rfl ?_
  refine r_getR C fl_X6_7 rfl dX6_pieceDone_127 hM.1.1 hM.2.1 ?_
  refine r_bipush (v := iI 9) C dX6_pieceDone_130 (by decide) ?_
  refine r_lconst (v := lI 0) C dX6_pieceDone_132 (by decide) ?_
  refine a_last C 9 dX6_pieceDone_133 hM.1.2.1 ⟨rfl, by decide, by decide⟩ (fun a133 ea133 => ?_)
  refine r_aload_n C 2 dX6_pieceDone_134 rfl rfl ?_
  refine r_getR C fl_X6_7 rfl dX6_pieceDone_135 hM.1.1 hM.2.1 ?_
  refine r_bipush (v := iI 10) C dX6_pieceDone_138 (by decide) ?_
  refine r_lconst (v := lI 0) C dX6_pieceDone_140 (by decide) ?_
  refine a_last C 10 dX6_pieceDone_141 hM.1.2.1 ⟨rfl, by decide, by decide⟩ (fun a141 ea141 => ?_)
  refine r_aload_n C 2 dX6_pieceDone_142 rfl rfl ?_
  refine r_getR C fl_X6_7 rfl dX6_pieceDone_143 hM.1.1 hM.2.1 ?_
  refine r_bipush (v := iI 11) C dX6_pieceDone_146 (by decide) ?_
  refine r_lconst (v := lI 0) C dX6_pieceDone_148 (by decide) ?_
  refine a_last C 11 dX6_pieceDone_149 hM.1.2.1 ⟨rfl, by decide, by decide⟩ (fun a149 ea149 => ?_)
  refine r_aload_n C 2 dX6_pieceDone_150 rfl rfl ?_
  refine r_iload_n C 1 dX6_pieceDone_151 rfl rfl ?_
  refine r_iconst (v := iI 5) C dX6_pieceDone_152 rfl ?_
  refine cV2_PL C (k_X6_of p 5 hM (by omega) (by omega) (by omega)) cw_X6_49 (rm_ok rfl rfl (Nat.zero_le _) (Nat.zero_le _)) (Nat.le_of_ble_eq_true rfl) hM.1.1 dX6_pieceDone_153 ?_
  refine n_eql (y := ((a (125 + 11 * (p % 120) + 5)) + (a 9))) (by rw [ea149, up1_n (xPN (by decide)), ea141, up1_n (xPN (by decide)), ea133, up1_n (xPN (by decide)), ea125, up1_n (xPN (by decide)), ea115, up1_n (xPF hf6 (by decide)), ea94, up1_n (xSS (by decide)), ea77, up1_n (xSS (by decide)), ea56, up1_n (xSS (by decide)), ea41, up1_s]) ?_
  refine r_aload_n C 2 dX6_pieceDone_156 rfl rfl ?_
  refine r_iload_n C 1 dX6_pieceDone_157 rfl rfl ?_
  refine r_iconst (v := iI 1) C dX6_pieceDone_158 rfl ?_
  refine cV2_PL C (k_X6_of p 1 hM (by omega) (by omega) (by omega)) cw_X6_49 (rm_ok rfl rfl (Nat.zero_le _) (Nat.zero_le _)) (Nat.le_of_ble_eq_true rfl) hM.1.1 dX6_pieceDone_159 ?_
  refine n_eql (y := (a (125 + 11 * (p % 120) + 1))) (by rw [ea149, up1_n (xPN (by decide)), ea141, up1_n (xPN (by decide)), ea133, up1_n (xPN (by decide)), ea125, up1_n (xPN (by decide)), ea115, up1_n (xPF hf6 (by decide)), ea94, up1_n (xSS (by decide)), ea77, up1_n (xSS (by decide)), ea56, up1_n (xSS (by decide)), ea41, up1_n (xSS (by decide)), ea19, ntp_n (by omega)]) ?_
  refine n_lcmp_ge (tgt := 178) C dX6_pieceDone_162 dX6_pieceDone_163 rfl rfl (by decide) (by constructor <;> omega) (by constructor <;> omega) (fun c162 => ?_) (fun c162 => ?_)
  · refine r_aload_n C 2 dX6_pieceDone_178 rfl rfl ?_
    refine r_getR C fl_X6_7 rfl dX6_pieceDone_179 hM.1.1 hM.2.1 ?_
    refine r_iload_n C 0 dX6_pieceDone_182 rfl rfl ?_
    refine r_bipush (v := iI 17) C dX6_pieceDone_183 (by decide) ?_
    refine cS2_PI C (k_X6_flowAt ) cw_X6_40 (rm_ok rfl rfl (Nat.zero_le _) (Nat.zero_le _)) (Nat.le_of_ble_eq_true rfl) dX6_pieceDone_185 ?_
    refine r_dup2 C dX6_pieceDone_188 rfl rfl ?_
    refine a_lald C (v := (a (17 + 18 * f + 17))) ((17 + 18 * f + 17)) dX6_pieceDone_189 hM.1.2.1 ⟨congrArg iI (by omega), (by omega), by decide⟩ (by rw [ea149, up1_n (xFN (by decide)), ea141, up1_n (xFN (by decide)), ea133, up1_n (xFN (by decide)), ea125, up1_n (xFN (by decide)), ea115, up1_n (xSS (by decide)), ea94, up1_n (xFP hf6 (by decide)), ea77, up1_n (xFP hf6 (by decide)), ea56, up1_n (xFP hf6 (by decide)), ea41, up1_n (xFP hf6 (by decide)), ea19, ntp_n (by omega)]) ?_
    refine r_lconst (v := lI 1) C dX6_pieceDone_190 (by decide) ?_
    refine n_lsub C dX6_pieceDone_191 ?_
    refine a_last C ((17 + 18 * f + 17)) dX6_pieceDone_192 hM.1.2.1 ⟨congrArg iI (by omega), (by omega), by decide⟩ (fun a192 ea192 => ?_)
    refine r_aload_n C 2 dX6_pieceDone_193 rfl rfl ?_
    refine r_iload_n C 1 dX6_pieceDone_194 rfl rfl ?_
    refine r_bipush (v := iI 6) C dX6_pieceDone_195 (by decide) ?_
    refine cV2_PL C (k_X6_of p 6 hM (by omega) (by omega) (by omega)) cw_X6_49 (rm_ok rfl rfl (Nat.zero_le _) (Nat.zero_le _)) (Nat.le_of_ble_eq_true rfl) hM.1.1 dX6_pieceDone_197 ?_
    refine n_eql (y := ((a (125 + 11 * (p % 120) + 6)) + 1)) (by rw [ea192, up1_n (xPF hf6 (by decide)), ea149, up1_n (xPN (by decide)), ea141, up1_n (xPN (by decide)), ea133, up1_n (xPN (by decide)), ea125, up1_n (xPN (by decide)), ea115, up1_n (xPF hf6 (by decide)), ea94, up1_n (xSS (by decide)), ea77, up1_n (xSS (by decide)), ea56, up1_s]) ?_
    refine r_lconst (v := lI 1) C dX6_pieceDone_200 (by decide) ?_
    refine n_lcmp_le (tgt := 243) C dX6_pieceDone_201 dX6_pieceDone_202 rfl rfl (by decide) (by constructor <;> omega) ⟨by decide, by decide⟩ (fun c201 => ?_) (fun c201 => ?_)
    · refine r_aload_n C 2 dX6_pieceDone_243 rfl rfl ?_
      refine r_iload_n C 1 dX6_pieceDone_244 rfl rfl ?_
      refine cV1_EV C (k_X6_deliver p f hM (by omega) (by omega) (by have q0 : a192 (125 + 11 * (p % 120) + 0) = (a (125 + 11 * (p % 120) + 0)) := (by rw [ea192, up1_n (xPF hf6 (by decide)), ea149, up1_n (xPN (by decide)), ea141, up1_n (xPN (by decide)), ea133, up1_n (xPN (by decide)), ea125, up1_n (xPN (by decide)), ea115, up1_n (xPF hf6 (by decide)), ea94, up1_n (xSS (by decide)), ea77, up1_n (xSS (by decide)), ea56, up1_n (xSS (by decide)), ea41, up1_n (xSS (by decide)), ea19, ntp_n (by omega)]); have q1 : a192 0 = (a 0) := (by rw [ea192, up1_n (xNF (by decide)), ea149, up1_n (by decide), ea141, up1_n (by decide), ea133, up1_n (by decide), ea125, up1_n (by decide), ea115, up1_n (xNF (by decide)), ea94, up1_n (xNP (by decide)), ea77, up1_n (xNP (by decide)), ea56, up1_n (xNP (by decide)), ea41, up1_n (xNP (by decide)), ea19, ntp_n (by omega)]); have q2 : a192 (125 + 11 * (p % 120) + 2) = (a (125 + 11 * (p % 120) + 2)) := (by rw [ea192, up1_n (xPF hf6 (by decide)), ea149, up1_n (xPN (by decide)), ea141, up1_n (xPN (by decide)), ea133, up1_n (xPN (by decide)), ea125, up1_n (xPN (by decide)), ea115, up1_n (xPF hf6 (by decide)), ea94, up1_n (xSS (by decide)), ea77, up1_n (xSS (by decide)), ea56, up1_n (xSS (by decide)), ea41, up1_n (xSS (by decide)), ea19, ntp_n (by omega)]); have q3 : a192 (125 + 11 * (p % 120) + 3) = (a (125 + 11 * (p % 120) + 3)) := (by rw [ea192, up1_n (xPF hf6 (by decide)), ea149, up1_n (xPN (by decide)), ea141, up1_n (xPN (by decide)), ea133, up1_n (xPN (by decide)), ea125, up1_n (xPN (by decide)), ea115, up1_n (xPF hf6 (by decide)), ea94, up1_n (xSS (by decide)), ea77, up1_n (xSS (by decide)), ea56, up1_n (xSS (by decide)), ea41, up1_n (xSS (by decide)), ea19, ntp_n (by omega)]); have q4 : a192 (17 + 18 * f + 9) = (a (17 + 18 * f + 9)) := (by rw [ea192, up1_n (xSS (by decide)), ea149, up1_n (xFN (by decide)), ea141, up1_n (xFN (by decide)), ea133, up1_n (xFN (by decide)), ea125, up1_n (xFN (by decide)), ea115, up1_n (xSS (by decide)), ea94, up1_n (xFP hf6 (by decide)), ea77, up1_n (xFP hf6 (by decide)), ea56, up1_n (xFP hf6 (by decide)), ea41, up1_n (xFP hf6 (by decide)), ea19, ntp_n (by omega)]); omega) (by omega) (by have q0 : a192 (125 + 11 * (p % 120) + 0) = (a (125 + 11 * (p % 120) + 0)) := (by rw [ea192, up1_n (xPF hf6 (by decide)), ea149, up1_n (xPN (by decide)), ea141, up1_n (xPN (by decide)), ea133, up1_n (xPN (by decide)), ea125, up1_n (xPN (by decide)), ea115, up1_n (xPF hf6 (by decide)), ea94, up1_n (xSS (by decide)), ea77, up1_n (xSS (by decide)), ea56, up1_n (xSS (by decide)), ea41, up1_n (xSS (by decide)), ea19, ntp_n (by omega)]); have q1 : a192 0 = (a 0) := (by rw [ea192, up1_n (xNF (by decide)), ea149, up1_n (by decide), ea141, up1_n (by decide), ea133, up1_n (by decide), ea125, up1_n (by decide), ea115, up1_n (xNF (by decide)), ea94, up1_n (xNP (by decide)), ea77, up1_n (xNP (by decide)), ea56, up1_n (xNP (by decide)), ea41, up1_n (xNP (by decide)), ea19, ntp_n (by omega)]); have q2 : a192 (125 + 11 * (p % 120) + 2) = (a (125 + 11 * (p % 120) + 2)) := (by rw [ea192, up1_n (xPF hf6 (by decide)), ea149, up1_n (xPN (by decide)), ea141, up1_n (xPN (by decide)), ea133, up1_n (xPN (by decide)), ea125, up1_n (xPN (by decide)), ea115, up1_n (xPF hf6 (by decide)), ea94, up1_n (xSS (by decide)), ea77, up1_n (xSS (by decide)), ea56, up1_n (xSS (by decide)), ea41, up1_n (xSS (by decide)), ea19, ntp_n (by omega)]); have q3 : a192 (125 + 11 * (p % 120) + 3) = (a (125 + 11 * (p % 120) + 3)) := (by rw [ea192, up1_n (xPF hf6 (by decide)), ea149, up1_n (xPN (by decide)), ea141, up1_n (xPN (by decide)), ea133, up1_n (xPN (by decide)), ea125, up1_n (xPN (by decide)), ea115, up1_n (xPF hf6 (by decide)), ea94, up1_n (xSS (by decide)), ea77, up1_n (xSS (by decide)), ea56, up1_n (xSS (by decide)), ea41, up1_n (xSS (by decide)), ea19, ntp_n (by omega)]); have q4 : a192 (17 + 18 * f + 9) = (a (17 + 18 * f + 9)) := (by rw [ea192, up1_n (xSS (by decide)), ea149, up1_n (xFN (by decide)), ea141, up1_n (xFN (by decide)), ea133, up1_n (xFN (by decide)), ea125, up1_n (xFN (by decide)), ea115, up1_n (xSS (by decide)), ea94, up1_n (xFP hf6 (by decide)), ea77, up1_n (xFP hf6 (by decide)), ea56, up1_n (xFP hf6 (by decide)), ea41, up1_n (xFP hf6 (by decide)), ea19, ntp_n (by omega)]); omega) (by have q0 : a192 (125 + 11 * (p % 120) + 0) = (a (125 + 11 * (p % 120) + 0)) := (by rw [ea192, up1_n (xPF hf6 (by decide)), ea149, up1_n (xPN (by decide)), ea141, up1_n (xPN (by decide)), ea133, up1_n (xPN (by decide)), ea125, up1_n (xPN (by decide)), ea115, up1_n (xPF hf6 (by decide)), ea94, up1_n (xSS (by decide)), ea77, up1_n (xSS (by decide)), ea56, up1_n (xSS (by decide)), ea41, up1_n (xSS (by decide)), ea19, ntp_n (by omega)]); have q1 : a192 0 = (a 0) := (by rw [ea192, up1_n (xNF (by decide)), ea149, up1_n (by decide), ea141, up1_n (by decide), ea133, up1_n (by decide), ea125, up1_n (by decide), ea115, up1_n (xNF (by decide)), ea94, up1_n (xNP (by decide)), ea77, up1_n (xNP (by decide)), ea56, up1_n (xNP (by decide)), ea41, up1_n (xNP (by decide)), ea19, ntp_n (by omega)]); have q2 : a192 (125 + 11 * (p % 120) + 2) = (a (125 + 11 * (p % 120) + 2)) := (by rw [ea192, up1_n (xPF hf6 (by decide)), ea149, up1_n (xPN (by decide)), ea141, up1_n (xPN (by decide)), ea133, up1_n (xPN (by decide)), ea125, up1_n (xPN (by decide)), ea115, up1_n (xPF hf6 (by decide)), ea94, up1_n (xSS (by decide)), ea77, up1_n (xSS (by decide)), ea56, up1_n (xSS (by decide)), ea41, up1_n (xSS (by decide)), ea19, ntp_n (by omega)]); have q3 : a192 (125 + 11 * (p % 120) + 3) = (a (125 + 11 * (p % 120) + 3)) := (by rw [ea192, up1_n (xPF hf6 (by decide)), ea149, up1_n (xPN (by decide)), ea141, up1_n (xPN (by decide)), ea133, up1_n (xPN (by decide)), ea125, up1_n (xPN (by decide)), ea115, up1_n (xPF hf6 (by decide)), ea94, up1_n (xSS (by decide)), ea77, up1_n (xSS (by decide)), ea56, up1_n (xSS (by decide)), ea41, up1_n (xSS (by decide)), ea19, ntp_n (by omega)]); have q4 : a192 (17 + 18 * f + 9) = (a (17 + 18 * f + 9)) := (by rw [ea192, up1_n (xSS (by decide)), ea149, up1_n (xFN (by decide)), ea141, up1_n (xFN (by decide)), ea133, up1_n (xFN (by decide)), ea125, up1_n (xFN (by decide)), ea115, up1_n (xSS (by decide)), ea94, up1_n (xFP hf6 (by decide)), ea77, up1_n (xFP hf6 (by decide)), ea56, up1_n (xFP hf6 (by decide)), ea41, up1_n (xFP hf6 (by decide)), ea19, ntp_n (by omega)]); omega) (by have q0 : a192 (125 + 11 * (p % 120) + 0) = (a (125 + 11 * (p % 120) + 0)) := (by rw [ea192, up1_n (xPF hf6 (by decide)), ea149, up1_n (xPN (by decide)), ea141, up1_n (xPN (by decide)), ea133, up1_n (xPN (by decide)), ea125, up1_n (xPN (by decide)), ea115, up1_n (xPF hf6 (by decide)), ea94, up1_n (xSS (by decide)), ea77, up1_n (xSS (by decide)), ea56, up1_n (xSS (by decide)), ea41, up1_n (xSS (by decide)), ea19, ntp_n (by omega)]); have q1 : a192 0 = (a 0) := (by rw [ea192, up1_n (xNF (by decide)), ea149, up1_n (by decide), ea141, up1_n (by decide), ea133, up1_n (by decide), ea125, up1_n (by decide), ea115, up1_n (xNF (by decide)), ea94, up1_n (xNP (by decide)), ea77, up1_n (xNP (by decide)), ea56, up1_n (xNP (by decide)), ea41, up1_n (xNP (by decide)), ea19, ntp_n (by omega)]); have q2 : a192 (125 + 11 * (p % 120) + 2) = (a (125 + 11 * (p % 120) + 2)) := (by rw [ea192, up1_n (xPF hf6 (by decide)), ea149, up1_n (xPN (by decide)), ea141, up1_n (xPN (by decide)), ea133, up1_n (xPN (by decide)), ea125, up1_n (xPN (by decide)), ea115, up1_n (xPF hf6 (by decide)), ea94, up1_n (xSS (by decide)), ea77, up1_n (xSS (by decide)), ea56, up1_n (xSS (by decide)), ea41, up1_n (xSS (by decide)), ea19, ntp_n (by omega)]); have q3 : a192 (125 + 11 * (p % 120) + 3) = (a (125 + 11 * (p % 120) + 3)) := (by rw [ea192, up1_n (xPF hf6 (by decide)), ea149, up1_n (xPN (by decide)), ea141, up1_n (xPN (by decide)), ea133, up1_n (xPN (by decide)), ea125, up1_n (xPN (by decide)), ea115, up1_n (xPF hf6 (by decide)), ea94, up1_n (xSS (by decide)), ea77, up1_n (xSS (by decide)), ea56, up1_n (xSS (by decide)), ea41, up1_n (xSS (by decide)), ea19, ntp_n (by omega)]); have q4 : a192 (17 + 18 * f + 9) = (a (17 + 18 * f + 9)) := (by rw [ea192, up1_n (xSS (by decide)), ea149, up1_n (xFN (by decide)), ea141, up1_n (xFN (by decide)), ea133, up1_n (xFN (by decide)), ea125, up1_n (xFN (by decide)), ea115, up1_n (xSS (by decide)), ea94, up1_n (xFP hf6 (by decide)), ea77, up1_n (xFP hf6 (by decide)), ea56, up1_n (xFP hf6 (by decide)), ea41, up1_n (xFP hf6 (by decide)), ea19, ntp_n (by omega)]); omega) (by have q0 : a192 (125 + 11 * (p % 120) + 0) = (a (125 + 11 * (p % 120) + 0)) := (by rw [ea192, up1_n (xPF hf6 (by decide)), ea149, up1_n (xPN (by decide)), ea141, up1_n (xPN (by decide)), ea133, up1_n (xPN (by decide)), ea125, up1_n (xPN (by decide)), ea115, up1_n (xPF hf6 (by decide)), ea94, up1_n (xSS (by decide)), ea77, up1_n (xSS (by decide)), ea56, up1_n (xSS (by decide)), ea41, up1_n (xSS (by decide)), ea19, ntp_n (by omega)]); have q1 : a192 0 = (a 0) := (by rw [ea192, up1_n (xNF (by decide)), ea149, up1_n (by decide), ea141, up1_n (by decide), ea133, up1_n (by decide), ea125, up1_n (by decide), ea115, up1_n (xNF (by decide)), ea94, up1_n (xNP (by decide)), ea77, up1_n (xNP (by decide)), ea56, up1_n (xNP (by decide)), ea41, up1_n (xNP (by decide)), ea19, ntp_n (by omega)]); have q2 : a192 (125 + 11 * (p % 120) + 2) = (a (125 + 11 * (p % 120) + 2)) := (by rw [ea192, up1_n (xPF hf6 (by decide)), ea149, up1_n (xPN (by decide)), ea141, up1_n (xPN (by decide)), ea133, up1_n (xPN (by decide)), ea125, up1_n (xPN (by decide)), ea115, up1_n (xPF hf6 (by decide)), ea94, up1_n (xSS (by decide)), ea77, up1_n (xSS (by decide)), ea56, up1_n (xSS (by decide)), ea41, up1_n (xSS (by decide)), ea19, ntp_n (by omega)]); have q3 : a192 (125 + 11 * (p % 120) + 3) = (a (125 + 11 * (p % 120) + 3)) := (by rw [ea192, up1_n (xPF hf6 (by decide)), ea149, up1_n (xPN (by decide)), ea141, up1_n (xPN (by decide)), ea133, up1_n (xPN (by decide)), ea125, up1_n (xPN (by decide)), ea115, up1_n (xPF hf6 (by decide)), ea94, up1_n (xSS (by decide)), ea77, up1_n (xSS (by decide)), ea56, up1_n (xSS (by decide)), ea41, up1_n (xSS (by decide)), ea19, ntp_n (by omega)]); have q4 : a192 (17 + 18 * f + 9) = (a (17 + 18 * f + 9)) := (by rw [ea192, up1_n (xSS (by decide)), ea149, up1_n (xFN (by decide)), ea141, up1_n (xFN (by decide)), ea133, up1_n (xFN (by decide)), ea125, up1_n (xFN (by decide)), ea115, up1_n (xSS (by decide)), ea94, up1_n (xFP hf6 (by decide)), ea77, up1_n (xFP hf6 (by decide)), ea56, up1_n (xFP hf6 (by decide)), ea41, up1_n (xFP hf6 (by decide)), ea19, ntp_n (by omega)]); omega) (by omega)) cw_X6_163 (rm_ok rfl rfl (Nat.zero_le _) (Nat.zero_le _)) (Nat.le_of_ble_eq_true rfl) hM.1.1 dX6_pieceDone_245 (fun I245 L245 h245 => ?_)
      obtain ⟨h245I, h245L⟩ := h245
      obtain ⟨a245, ea245⟩ : ∃ z, z = dlP a192 f p := ⟨_, rfl⟩
      obtain ⟨b245, eb245⟩ : ∃ z, z = up2 b 0 8 (fdN (b 0 8) p) := ⟨_, rfl⟩
      rw [← ea245] at h245L
      rw [← eb245] at h245I
      subst h245I
      subst h245L
      refine r_vret C hr hlk dX6_pieceDone_248 (Nat.zero_le _) (Nat.zero_le _) ?_
      have hfl0 : flP a p = f := flP_of hf
      subst ea245
      subst eb245
      subst ea192
      subst ea149
      subst ea141
      subst ea133
      subst ea125
      subst ea115
      subst ea94
      subst ea77
      subst ea56
      subst ea41
      subst ea19
      have hn1 : ¬ (a (125 + 11 * (p % 120) + 5) + a 9 < a (125 + 11 * (p % 120) + 1)) := by omega
      have hn2 : ¬ (1 < a (125 + 11 * (p % 120) + 6) + 1 ∧ 0 < a 4) := by omega
      refine ⟨rfl, rfl, ?_, ?_⟩
      · unfold pdZ
        rw [if_neg hn1, if_neg hn2]
      · unfold pdF
        rw [if_neg hn1, if_neg hn2]
        unfold dlv
        rw [flP_up (k := 17 + 18 * f + 17) (by omega), flP_of (f := f) (by rw [pd1_n (by omega)]; exact hf)]
        rfl
    · refine r_aload_n C 2 dX6_pieceDone_205 rfl rfl ?_
      refine r_getR C fl_X6_7 rfl dX6_pieceDone_206 hM.1.1 hM.2.1 ?_
      refine r_iconst (v := iI 4) C dX6_pieceDone_209 rfl ?_
      refine a_lald C (v := (a 4)) 4 dX6_pieceDone_210 hM.1.2.1 ⟨rfl, by decide, by decide⟩ (by rw [ea192, up1_n (xNF (by decide)), ea149, up1_n (by decide), ea141, up1_n (by decide), ea133, up1_n (by decide), ea125, up1_n (by decide), ea115, up1_n (xNF (by decide)), ea94, up1_n (xNP (by decide)), ea77, up1_n (xNP (by decide)), ea56, up1_n (xNP (by decide)), ea41, up1_n (xNP (by decide)), ea19, ntp_n (by omega)]) ?_
      refine r_lconst (v := lI 0) C dX6_pieceDone_211 (by decide) ?_
      refine n_lcmp_le (tgt := 243) C dX6_pieceDone_212 dX6_pieceDone_213 rfl rfl (by decide) (by constructor <;> omega) ⟨by decide, by decide⟩ (fun c212 => ?_) (fun c212 => ?_)
      · refine r_aload_n C 2 dX6_pieceDone_243 rfl rfl ?_
        refine r_iload_n C 1 dX6_pieceDone_244 rfl rfl ?_
        refine cV1_EV C (k_X6_deliver p f hM (by omega) (by omega) (by have q0 : a192 (125 + 11 * (p % 120) + 0) = (a (125 + 11 * (p % 120) + 0)) := (by rw [ea192, up1_n (xPF hf6 (by decide)), ea149, up1_n (xPN (by decide)), ea141, up1_n (xPN (by decide)), ea133, up1_n (xPN (by decide)), ea125, up1_n (xPN (by decide)), ea115, up1_n (xPF hf6 (by decide)), ea94, up1_n (xSS (by decide)), ea77, up1_n (xSS (by decide)), ea56, up1_n (xSS (by decide)), ea41, up1_n (xSS (by decide)), ea19, ntp_n (by omega)]); have q1 : a192 0 = (a 0) := (by rw [ea192, up1_n (xNF (by decide)), ea149, up1_n (by decide), ea141, up1_n (by decide), ea133, up1_n (by decide), ea125, up1_n (by decide), ea115, up1_n (xNF (by decide)), ea94, up1_n (xNP (by decide)), ea77, up1_n (xNP (by decide)), ea56, up1_n (xNP (by decide)), ea41, up1_n (xNP (by decide)), ea19, ntp_n (by omega)]); have q2 : a192 (125 + 11 * (p % 120) + 2) = (a (125 + 11 * (p % 120) + 2)) := (by rw [ea192, up1_n (xPF hf6 (by decide)), ea149, up1_n (xPN (by decide)), ea141, up1_n (xPN (by decide)), ea133, up1_n (xPN (by decide)), ea125, up1_n (xPN (by decide)), ea115, up1_n (xPF hf6 (by decide)), ea94, up1_n (xSS (by decide)), ea77, up1_n (xSS (by decide)), ea56, up1_n (xSS (by decide)), ea41, up1_n (xSS (by decide)), ea19, ntp_n (by omega)]); have q3 : a192 (125 + 11 * (p % 120) + 3) = (a (125 + 11 * (p % 120) + 3)) := (by rw [ea192, up1_n (xPF hf6 (by decide)), ea149, up1_n (xPN (by decide)), ea141, up1_n (xPN (by decide)), ea133, up1_n (xPN (by decide)), ea125, up1_n (xPN (by decide)), ea115, up1_n (xPF hf6 (by decide)), ea94, up1_n (xSS (by decide)), ea77, up1_n (xSS (by decide)), ea56, up1_n (xSS (by decide)), ea41, up1_n (xSS (by decide)), ea19, ntp_n (by omega)]); have q4 : a192 (17 + 18 * f + 9) = (a (17 + 18 * f + 9)) := (by rw [ea192, up1_n (xSS (by decide)), ea149, up1_n (xFN (by decide)), ea141, up1_n (xFN (by decide)), ea133, up1_n (xFN (by decide)), ea125, up1_n (xFN (by decide)), ea115, up1_n (xSS (by decide)), ea94, up1_n (xFP hf6 (by decide)), ea77, up1_n (xFP hf6 (by decide)), ea56, up1_n (xFP hf6 (by decide)), ea41, up1_n (xFP hf6 (by decide)), ea19, ntp_n (by omega)]); omega) (by omega) (by have q0 : a192 (125 + 11 * (p % 120) + 0) = (a (125 + 11 * (p % 120) + 0)) := (by rw [ea192, up1_n (xPF hf6 (by decide)), ea149, up1_n (xPN (by decide)), ea141, up1_n (xPN (by decide)), ea133, up1_n (xPN (by decide)), ea125, up1_n (xPN (by decide)), ea115, up1_n (xPF hf6 (by decide)), ea94, up1_n (xSS (by decide)), ea77, up1_n (xSS (by decide)), ea56, up1_n (xSS (by decide)), ea41, up1_n (xSS (by decide)), ea19, ntp_n (by omega)]); have q1 : a192 0 = (a 0) := (by rw [ea192, up1_n (xNF (by decide)), ea149, up1_n (by decide), ea141, up1_n (by decide), ea133, up1_n (by decide), ea125, up1_n (by decide), ea115, up1_n (xNF (by decide)), ea94, up1_n (xNP (by decide)), ea77, up1_n (xNP (by decide)), ea56, up1_n (xNP (by decide)), ea41, up1_n (xNP (by decide)), ea19, ntp_n (by omega)]); have q2 : a192 (125 + 11 * (p % 120) + 2) = (a (125 + 11 * (p % 120) + 2)) := (by rw [ea192, up1_n (xPF hf6 (by decide)), ea149, up1_n (xPN (by decide)), ea141, up1_n (xPN (by decide)), ea133, up1_n (xPN (by decide)), ea125, up1_n (xPN (by decide)), ea115, up1_n (xPF hf6 (by decide)), ea94, up1_n (xSS (by decide)), ea77, up1_n (xSS (by decide)), ea56, up1_n (xSS (by decide)), ea41, up1_n (xSS (by decide)), ea19, ntp_n (by omega)]); have q3 : a192 (125 + 11 * (p % 120) + 3) = (a (125 + 11 * (p % 120) + 3)) := (by rw [ea192, up1_n (xPF hf6 (by decide)), ea149, up1_n (xPN (by decide)), ea141, up1_n (xPN (by decide)), ea133, up1_n (xPN (by decide)), ea125, up1_n (xPN (by decide)), ea115, up1_n (xPF hf6 (by decide)), ea94, up1_n (xSS (by decide)), ea77, up1_n (xSS (by decide)), ea56, up1_n (xSS (by decide)), ea41, up1_n (xSS (by decide)), ea19, ntp_n (by omega)]); have q4 : a192 (17 + 18 * f + 9) = (a (17 + 18 * f + 9)) := (by rw [ea192, up1_n (xSS (by decide)), ea149, up1_n (xFN (by decide)), ea141, up1_n (xFN (by decide)), ea133, up1_n (xFN (by decide)), ea125, up1_n (xFN (by decide)), ea115, up1_n (xSS (by decide)), ea94, up1_n (xFP hf6 (by decide)), ea77, up1_n (xFP hf6 (by decide)), ea56, up1_n (xFP hf6 (by decide)), ea41, up1_n (xFP hf6 (by decide)), ea19, ntp_n (by omega)]); omega) (by have q0 : a192 (125 + 11 * (p % 120) + 0) = (a (125 + 11 * (p % 120) + 0)) := (by rw [ea192, up1_n (xPF hf6 (by decide)), ea149, up1_n (xPN (by decide)), ea141, up1_n (xPN (by decide)), ea133, up1_n (xPN (by decide)), ea125, up1_n (xPN (by decide)), ea115, up1_n (xPF hf6 (by decide)), ea94, up1_n (xSS (by decide)), ea77, up1_n (xSS (by decide)), ea56, up1_n (xSS (by decide)), ea41, up1_n (xSS (by decide)), ea19, ntp_n (by omega)]); have q1 : a192 0 = (a 0) := (by rw [ea192, up1_n (xNF (by decide)), ea149, up1_n (by decide), ea141, up1_n (by decide), ea133, up1_n (by decide), ea125, up1_n (by decide), ea115, up1_n (xNF (by decide)), ea94, up1_n (xNP (by decide)), ea77, up1_n (xNP (by decide)), ea56, up1_n (xNP (by decide)), ea41, up1_n (xNP (by decide)), ea19, ntp_n (by omega)]); have q2 : a192 (125 + 11 * (p % 120) + 2) = (a (125 + 11 * (p % 120) + 2)) := (by rw [ea192, up1_n (xPF hf6 (by decide)), ea149, up1_n (xPN (by decide)), ea141, up1_n (xPN (by decide)), ea133, up1_n (xPN (by decide)), ea125, up1_n (xPN (by decide)), ea115, up1_n (xPF hf6 (by decide)), ea94, up1_n (xSS (by decide)), ea77, up1_n (xSS (by decide)), ea56, up1_n (xSS (by decide)), ea41, up1_n (xSS (by decide)), ea19, ntp_n (by omega)]); have q3 : a192 (125 + 11 * (p % 120) + 3) = (a (125 + 11 * (p % 120) + 3)) := (by rw [ea192, up1_n (xPF hf6 (by decide)), ea149, up1_n (xPN (by decide)), ea141, up1_n (xPN (by decide)), ea133, up1_n (xPN (by decide)), ea125, up1_n (xPN (by decide)), ea115, up1_n (xPF hf6 (by decide)), ea94, up1_n (xSS (by decide)), ea77, up1_n (xSS (by decide)), ea56, up1_n (xSS (by decide)), ea41, up1_n (xSS (by decide)), ea19, ntp_n (by omega)]); have q4 : a192 (17 + 18 * f + 9) = (a (17 + 18 * f + 9)) := (by rw [ea192, up1_n (xSS (by decide)), ea149, up1_n (xFN (by decide)), ea141, up1_n (xFN (by decide)), ea133, up1_n (xFN (by decide)), ea125, up1_n (xFN (by decide)), ea115, up1_n (xSS (by decide)), ea94, up1_n (xFP hf6 (by decide)), ea77, up1_n (xFP hf6 (by decide)), ea56, up1_n (xFP hf6 (by decide)), ea41, up1_n (xFP hf6 (by decide)), ea19, ntp_n (by omega)]); omega) (by have q0 : a192 (125 + 11 * (p % 120) + 0) = (a (125 + 11 * (p % 120) + 0)) := (by rw [ea192, up1_n (xPF hf6 (by decide)), ea149, up1_n (xPN (by decide)), ea141, up1_n (xPN (by decide)), ea133, up1_n (xPN (by decide)), ea125, up1_n (xPN (by decide)), ea115, up1_n (xPF hf6 (by decide)), ea94, up1_n (xSS (by decide)), ea77, up1_n (xSS (by decide)), ea56, up1_n (xSS (by decide)), ea41, up1_n (xSS (by decide)), ea19, ntp_n (by omega)]); have q1 : a192 0 = (a 0) := (by rw [ea192, up1_n (xNF (by decide)), ea149, up1_n (by decide), ea141, up1_n (by decide), ea133, up1_n (by decide), ea125, up1_n (by decide), ea115, up1_n (xNF (by decide)), ea94, up1_n (xNP (by decide)), ea77, up1_n (xNP (by decide)), ea56, up1_n (xNP (by decide)), ea41, up1_n (xNP (by decide)), ea19, ntp_n (by omega)]); have q2 : a192 (125 + 11 * (p % 120) + 2) = (a (125 + 11 * (p % 120) + 2)) := (by rw [ea192, up1_n (xPF hf6 (by decide)), ea149, up1_n (xPN (by decide)), ea141, up1_n (xPN (by decide)), ea133, up1_n (xPN (by decide)), ea125, up1_n (xPN (by decide)), ea115, up1_n (xPF hf6 (by decide)), ea94, up1_n (xSS (by decide)), ea77, up1_n (xSS (by decide)), ea56, up1_n (xSS (by decide)), ea41, up1_n (xSS (by decide)), ea19, ntp_n (by omega)]); have q3 : a192 (125 + 11 * (p % 120) + 3) = (a (125 + 11 * (p % 120) + 3)) := (by rw [ea192, up1_n (xPF hf6 (by decide)), ea149, up1_n (xPN (by decide)), ea141, up1_n (xPN (by decide)), ea133, up1_n (xPN (by decide)), ea125, up1_n (xPN (by decide)), ea115, up1_n (xPF hf6 (by decide)), ea94, up1_n (xSS (by decide)), ea77, up1_n (xSS (by decide)), ea56, up1_n (xSS (by decide)), ea41, up1_n (xSS (by decide)), ea19, ntp_n (by omega)]); have q4 : a192 (17 + 18 * f + 9) = (a (17 + 18 * f + 9)) := (by rw [ea192, up1_n (xSS (by decide)), ea149, up1_n (xFN (by decide)), ea141, up1_n (xFN (by decide)), ea133, up1_n (xFN (by decide)), ea125, up1_n (xFN (by decide)), ea115, up1_n (xSS (by decide)), ea94, up1_n (xFP hf6 (by decide)), ea77, up1_n (xFP hf6 (by decide)), ea56, up1_n (xFP hf6 (by decide)), ea41, up1_n (xFP hf6 (by decide)), ea19, ntp_n (by omega)]); omega) (by have q0 : a192 (125 + 11 * (p % 120) + 0) = (a (125 + 11 * (p % 120) + 0)) := (by rw [ea192, up1_n (xPF hf6 (by decide)), ea149, up1_n (xPN (by decide)), ea141, up1_n (xPN (by decide)), ea133, up1_n (xPN (by decide)), ea125, up1_n (xPN (by decide)), ea115, up1_n (xPF hf6 (by decide)), ea94, up1_n (xSS (by decide)), ea77, up1_n (xSS (by decide)), ea56, up1_n (xSS (by decide)), ea41, up1_n (xSS (by decide)), ea19, ntp_n (by omega)]); have q1 : a192 0 = (a 0) := (by rw [ea192, up1_n (xNF (by decide)), ea149, up1_n (by decide), ea141, up1_n (by decide), ea133, up1_n (by decide), ea125, up1_n (by decide), ea115, up1_n (xNF (by decide)), ea94, up1_n (xNP (by decide)), ea77, up1_n (xNP (by decide)), ea56, up1_n (xNP (by decide)), ea41, up1_n (xNP (by decide)), ea19, ntp_n (by omega)]); have q2 : a192 (125 + 11 * (p % 120) + 2) = (a (125 + 11 * (p % 120) + 2)) := (by rw [ea192, up1_n (xPF hf6 (by decide)), ea149, up1_n (xPN (by decide)), ea141, up1_n (xPN (by decide)), ea133, up1_n (xPN (by decide)), ea125, up1_n (xPN (by decide)), ea115, up1_n (xPF hf6 (by decide)), ea94, up1_n (xSS (by decide)), ea77, up1_n (xSS (by decide)), ea56, up1_n (xSS (by decide)), ea41, up1_n (xSS (by decide)), ea19, ntp_n (by omega)]); have q3 : a192 (125 + 11 * (p % 120) + 3) = (a (125 + 11 * (p % 120) + 3)) := (by rw [ea192, up1_n (xPF hf6 (by decide)), ea149, up1_n (xPN (by decide)), ea141, up1_n (xPN (by decide)), ea133, up1_n (xPN (by decide)), ea125, up1_n (xPN (by decide)), ea115, up1_n (xPF hf6 (by decide)), ea94, up1_n (xSS (by decide)), ea77, up1_n (xSS (by decide)), ea56, up1_n (xSS (by decide)), ea41, up1_n (xSS (by decide)), ea19, ntp_n (by omega)]); have q4 : a192 (17 + 18 * f + 9) = (a (17 + 18 * f + 9)) := (by rw [ea192, up1_n (xSS (by decide)), ea149, up1_n (xFN (by decide)), ea141, up1_n (xFN (by decide)), ea133, up1_n (xFN (by decide)), ea125, up1_n (xFN (by decide)), ea115, up1_n (xSS (by decide)), ea94, up1_n (xFP hf6 (by decide)), ea77, up1_n (xFP hf6 (by decide)), ea56, up1_n (xFP hf6 (by decide)), ea41, up1_n (xFP hf6 (by decide)), ea19, ntp_n (by omega)]); omega) (by omega)) cw_X6_163 (rm_ok rfl rfl (Nat.zero_le _) (Nat.zero_le _)) (Nat.le_of_ble_eq_true rfl) hM.1.1 dX6_pieceDone_245 (fun I245 L245 h245 => ?_)
        obtain ⟨h245I, h245L⟩ := h245
        obtain ⟨a245, ea245⟩ : ∃ z, z = dlP a192 f p := ⟨_, rfl⟩
        obtain ⟨b245, eb245⟩ : ∃ z, z = up2 b 0 8 (fdN (b 0 8) p) := ⟨_, rfl⟩
        rw [← ea245] at h245L
        rw [← eb245] at h245I
        subst h245I
        subst h245L
        refine r_vret C hr hlk dX6_pieceDone_248 (Nat.zero_le _) (Nat.zero_le _) ?_
        have hfl0 : flP a p = f := flP_of hf
        subst ea245
        subst eb245
        subst ea192
        subst ea149
        subst ea141
        subst ea133
        subst ea125
        subst ea115
        subst ea94
        subst ea77
        subst ea56
        subst ea41
        subst ea19
        have hn1 : ¬ (a (125 + 11 * (p % 120) + 5) + a 9 < a (125 + 11 * (p % 120) + 1)) := by omega
        have hn2 : ¬ (1 < a (125 + 11 * (p % 120) + 6) + 1 ∧ 0 < a 4) := by omega
        refine ⟨rfl, rfl, ?_, ?_⟩
        · unfold pdZ
          rw [if_neg hn1, if_neg hn2]
        · unfold pdF
          rw [if_neg hn1, if_neg hn2]
          unfold dlv
          rw [flP_up (k := 17 + 18 * f + 17) (by omega), flP_of (f := f) (by rw [pd1_n (by omega)]; exact hf)]
          rfl
      · refine r_aload_n C 2 dX6_pieceDone_216 rfl rfl ?_
        refine r_getR C fl_X6_7 rfl dX6_pieceDone_217 hM.1.1 hM.2.1 ?_
        refine r_iload_n C 1 dX6_pieceDone_220 rfl rfl ?_
        refine r_iconst (v := iI 4) C dX6_pieceDone_221 rfl ?_
        refine cS2_PI C (k_X6_packetAt p 4 (by omega) (by omega) (by omega)) cw_X6_46 (rm_ok rfl rfl (Nat.zero_le _) (Nat.zero_le _)) (Nat.le_of_ble_eq_true rfl) dX6_pieceDone_222 ?_
        refine n_ldc2 (v := 2) C lc_X6_30 (by decide) dX6_pieceDone_225 ?_
        refine a_last C ((125 + 11 * (p % 120) + 4)) dX6_pieceDone_228 hM.1.2.1 ⟨congrArg iI (by omega), (by omega), by decide⟩ (fun a228 ea228 => ?_)
        refine r_aload_n C 2 dX6_pieceDone_229 rfl rfl ?_
        refine r_getR C fl_X6_7 rfl dX6_pieceDone_230 hM.1.1 hM.2.1 ?_
        refine r_bipush (v := iI 16) C dX6_pieceDone_233 (by decide) ?_
        refine r_dup2 C dX6_pieceDone_235 rfl rfl ?_
        refine a_lald C (v := (a 16)) 16 dX6_pieceDone_236 hM.1.2.1 ⟨rfl, by decide, by decide⟩ (by rw [ea228, up1_n (xNP (by decide)), ea192, up1_n (xNF (by decide)), ea149, up1_n (by decide), ea141, up1_n (by decide), ea133, up1_n (by decide), ea125, up1_n (by decide), ea115, up1_n (xNF (by decide)), ea94, up1_n (xNP (by decide)), ea77, up1_n (xNP (by decide)), ea56, up1_n (xNP (by decide)), ea41, up1_n (xNP (by decide)), ea19, ntp_n (by omega)]) ?_
        refine r_lconst (v := lI 1) C dX6_pieceDone_237 (by decide) ?_
        refine n_ladd C dX6_pieceDone_238 ?_
        refine a_last C 16 dX6_pieceDone_239 hM.1.2.1 ⟨rfl, by decide, by decide⟩ (fun a239 ea239 => ?_)
        refine r_goto (tgt := 248) C dX6_pieceDone_240 (by decide) ?_
        refine r_vret C hr hlk dX6_pieceDone_248 (Nat.zero_le _) (Nat.zero_le _) ?_
        have hfl0 : flP a p = f := flP_of hf
        subst ea239
        subst ea228
        subst ea192
        subst ea149
        subst ea141
        subst ea133
        subst ea125
        subst ea115
        subst ea94
        subst ea77
        subst ea56
        subst ea41
        subst ea19
        have hn1 : ¬ (a (125 + 11 * (p % 120) + 5) + a 9 < a (125 + 11 * (p % 120) + 1)) := by omega
        have hn2 : 1 < a (125 + 11 * (p % 120) + 6) + 1 ∧ 0 < a 4 := by omega
        refine ⟨rfl, rfl, ?_, ?_⟩
        · unfold pdZ
          rw [if_neg hn1, if_pos hn2, up2_id]
        · unfold pdF
          rw [if_neg hn1, if_pos hn2]
          rfl
  · refine r_aload_n C 2 dX6_pieceDone_166 rfl rfl ?_
    refine r_getR C fl_X6_7 rfl dX6_pieceDone_167 hM.1.1 hM.2.1 ?_
    refine r_iload_n C 1 dX6_pieceDone_170 rfl rfl ?_
    refine r_iconst (v := iI 4) C dX6_pieceDone_171 rfl ?_
    refine cS2_PI C (k_X6_packetAt p 4 (by omega) (by omega) (by omega)) cw_X6_46 (rm_ok rfl rfl (Nat.zero_le _) (Nat.zero_le _)) (Nat.le_of_ble_eq_true rfl) dX6_pieceDone_172 ?_
    refine r_lconst (v := lI 0) C dX6_pieceDone_175 (by decide) ?_
    refine a_last C ((125 + 11 * (p % 120) + 4)) dX6_pieceDone_176 hM.1.2.1 ⟨congrArg iI (by omega), (by omega), by decide⟩ (fun a176 ea176 => ?_)
    refine r_vret C hr hlk dX6_pieceDone_177 (Nat.zero_le _) (Nat.zero_le _) ?_
    have hfl0 : flP a p = f := flP_of hf
    subst ea176
    subst ea149
    subst ea141
    subst ea133
    subst ea125
    subst ea115
    subst ea94
    subst ea77
    subst ea56
    subst ea41
    subst ea19
    refine ⟨rfl, rfl, ?_, ?_⟩
    · unfold pdZ
      rw [if_pos c162, up2_id]
    · unfold pdF
      rw [if_pos c162]
      rfl
set_option maxHeartbeats 4000000 in
set_option maxRecDepth 20000 in
theorem k_X6_joinAll {l : Launch} {G : Gd} {base : Nat} {Y : MY} {I : MI} {L : ML} {M : Nat} {a : Sa} {N T : Int} (hI : Inv N T a) {b : Nat → Nat → Int} (hM : MLy base Y M) (hb : -6 ≤ b 0 8 ∧ b 0 8 ≤ 400000) : Ct l yX6_joinAll cX6_joinAll 2 (none) (rmz 3 67) G base [.ref M] Y (mI I M 7 b) (rL L (M + 1) a) (EV Y (fun I' L' => I' = mI I M 7 (up2 b 0 8 (jaz (b 0 8) a)) ∧ L' = rL L (M + 1) (jal a))) := by
  refine Ct.of (own := RX6) (lo := [(0, .ref M)]) (by decide) rfl (Nat.le_of_ble_eq_true rfl) rfl ?_
  intro zp ze zs zm zargs zbl zmt zc C hr hlk hnm
  have hT := hI.1
  unfold TopOK at hT
  have ho : old a = (a 7 - 120).toNat := rfl
  refine r_aload_n C 0 dX6_joinAll_0 rfl rfl ?_
  refine cV0_PI C (k_X6_oldest hM (by omega)) cw_X6_56 (rm_ok rfl rfl (Nat.zero_le _) (Nat.zero_le _)) (Nat.le_of_ble_eq_true rfl) hM.1.1 dX6_joinAll_1 ?_
  refine n_topi (fun x4 ex4 => ?_)
  refine r_istore_n (lo' := [(1, .int (iI x4)), (0, .ref M)]) C dX6_joinAll_4 rfl (by decide) rfl ?_
  have lp5 : ∀ (k : Nat) (x1 : Int) (p : Nat) (a1 : Sa) (b1 : Nat → Nat → Int) (z : Int) (hx1 : x1 = p) (hp1 : old a ≤ p ∧ (p : Int) ≤ a 7) (hI1 : Inv N T a1) (h7 : a1 7 = a 7) (hz : b1 = up2 b 0 8 z) (he : jnA a1 ((a 7).toNat - p) p = jal a) (hf : jnF z a1 ((a 7).toNat - p) p = jaz (b 0 8) a) (hzb : -6 ≤ z ∧ z ≤ 400000), (a 7).toNat - p = k → Bd zp l ze (rmz 3 67) zs zm zargs zbl zmt zc 2 G base (EV Y (fun I' L' => I' = mI I M 7 (up2 b 0 8 (jaz (b 0 8) a)) ∧ L' = rL L (M + 1) (jal a))) 5 [(1, .int (iI x1)), (0, .ref M)] [] Y (mI I M 7 b1) (rL L (M + 1) a1) 0 0 := by
    intro k
    induction k using Nat.strongRecOn with
    | _ k ih =>
    intro x1 p a1 b1 z hx1 hp1 hI1 h7 hz he hf hzb hk
    have hT1 := hI1.1
    unfold TopOK at hT1
    have hj16 := joined_b hI1
    have hb18 : b1 0 8 = z := by rw [hz]; exact up2_s
    refine r_iload_n C 0 dX6_joinAll_5 rfl rfl ?_
    refine n_i2l C dX6_joinAll_6 (by constructor <;> omega) ?_
    refine r_aload_n C 1 dX6_joinAll_7 rfl rfl ?_
    refine r_getR C fl_X6_7 rfl dX6_joinAll_8 hM.1.1 hM.2.1 ?_
    refine r_bipush (v := iI 7) C dX6_joinAll_11 (by decide) ?_
    refine a_lald C (v := (a1 7)) 7 dX6_joinAll_13 hM.1.2.1 ⟨rfl, by decide, by decide⟩ rfl ?_
    refine n_lcmp_ge (tgt := 89) C dX6_joinAll_14 dX6_joinAll_15 rfl rfl (by decide) (by constructor <;> omega) (by constructor <;> omega) (fun c14 => ?_) (fun c14 => ?_)
    · refine r_vret C hr hlk dX6_joinAll_89 (Nat.zero_le _) (Nat.zero_le _) ?_
      rw [show (a 7).toNat - p = 0 by omega] at he hf
      exact ⟨rfl, rfl, by rw [hz, ← hf]; rfl, by rw [← he]; rfl⟩
    · refine r_aload_n C 1 dX6_joinAll_18 rfl rfl ?_
      refine r_getR C fl_X6_7 rfl dX6_joinAll_19 hM.1.1 hM.2.1 ?_
      refine r_bipush (v := iI 16) C dX6_joinAll_22 (by decide) ?_
      refine a_lald C (v := (a1 16)) 16 dX6_joinAll_24 hM.1.2.1 ⟨rfl, by decide, by decide⟩ rfl ?_
      refine r_lconst (v := lI 0) C dX6_joinAll_25 (by decide) ?_
      refine n_lcmp_le (tgt := 89) C dX6_joinAll_26 dX6_joinAll_27 rfl rfl (by decide) (by constructor <;> omega) ⟨by decide, by decide⟩ (fun c26 => ?_) (fun c26 => ?_)
      · refine r_vret C hr hlk dX6_joinAll_89 (Nat.zero_le _) (Nat.zero_le _) ?_
        have hno : ∀ q, p ≤ q → q < p + ((a 7).toNat - p) → ¬ a1 (125 + 11 * (q % 120) + 4) = 2 := fun q g1 g2 => no_sent hI1 c26 ⟨by rw [old_eq h7]; omega, by rw [h7]; omega⟩
        rw [jnA_no _ _ hno] at he
        rw [jnF_no _ _ hno] at hf
        exact ⟨rfl, rfl, by rw [hz, hf], by rw [he]⟩
      · have hkp : old a1 ≤ p ∧ (p : Int) < a1 7 := ⟨by rw [old_eq h7]; omega, by omega⟩
        have hP := hI1.2.2.1 p hkp.1 hkp.2
        unfold PkOK at hP
        obtain ⟨f, hfa⟩ := Int.eq_ofNat_of_zero_le (show 0 ≤ a1 (125 + 11 * (p % 120) + 0) by omega)
        have hF := (hI1.2.1 f (by omega)).1
        unfold FlowOK at hF
        rw [show (a 7).toNat - p = ((a 7).toNat - (p + 1)) + 1 by omega] at he hf
        change jnA (jnS a1 p) ((a 7).toNat - (p + 1)) (p + 1) = jal a at he
        change jnF (jnZ z a1 p) (jnS a1 p) ((a 7).toNat - (p + 1)) (p + 1) = jaz (b 0 8) a at hf
        refine r_aload_n C 1 dX6_joinAll_30 rfl rfl ?_
        refine r_iload_n C 0 dX6_joinAll_31 rfl rfl ?_
        refine r_iconst (v := iI 4) C dX6_joinAll_32 rfl ?_
        refine cV2_PL C (k_X6_of p 4 hM (by omega) (by omega) (by omega)) cw_X6_49 (rm_ok rfl rfl (Nat.zero_le _) (Nat.zero_le _)) (Nat.le_of_ble_eq_true rfl) hM.1.1 dX6_joinAll_33 ?_
        refine n_ldc2 (v := 2) C lc_X6_30 (by decide) dX6_joinAll_36 ?_
        refine n_lcmp_ne (tgt := 83) C dX6_joinAll_39 dX6_joinAll_40 rfl rfl (by decide) (by constructor <;> omega) ⟨by decide, by decide⟩ (fun c39 => ?_) (fun c39 => ?_)
        · have hjC : ¬ jnC a1 p := by
            unfold jnC
            omega
          have hjS : jnS a1 p = a1 := @if_neg _ (Classical.propDecidable _) hjC _ _ _
          have hjZ : jnZ z a1 p = z := @if_neg _ (Classical.propDecidable _) hjC _ _ _
          refine n_iinc (lo' := [(1, .int (iI (x1 + 1))), (0, .ref M)]) C 0 dX6_joinAll_83 rfl rfl (by decide) rfl ?_
          refine r_goto (tgt := 5) C dX6_joinAll_86 (by decide) ?_
          exact ih _ (by first | omega | (rw [← hk]; omega)) ((x1 + 1)) (p + 1) a1 b1 z (by omega) (by omega) hI1 h7 hz (by rw [hjS] at he; exact he) (by rw [hjS, hjZ] at hf; exact hf) hzb rfl
        · refine r_aload_n C 1 dX6_joinAll_43 rfl rfl ?_
          refine r_getR C fl_X6_7 rfl dX6_joinAll_44 hM.1.1 hM.2.1 ?_
          refine r_iconst (v := iI 0) C dX6_joinAll_47 rfl ?_
          refine a_lald C (v := (a1 0)) 0 dX6_joinAll_48 hM.1.2.1 ⟨rfl, by decide, by decide⟩ rfl ?_
          refine r_aload_n C 1 dX6_joinAll_49 rfl rfl ?_
          refine r_iload_n C 0 dX6_joinAll_50 rfl rfl ?_
          refine r_bipush (v := iI 10) C dX6_joinAll_51 (by decide) ?_
          refine cV2_PL C (k_X6_of p 10 hM (by omega) (by omega) (by omega)) cw_X6_49 (rm_ok rfl rfl (Nat.zero_le _) (Nat.zero_le _)) (Nat.le_of_ble_eq_true rfl) hM.1.1 dX6_joinAll_53 ?_
          refine n_lsub C dX6_joinAll_56 ?_
          refine r_aload_n C 1 dX6_joinAll_57 rfl rfl ?_
          refine r_getR C fl_X6_7 rfl dX6_joinAll_58 hM.1.1 hM.2.1 ?_
          refine r_iconst (v := iI 4) C dX6_joinAll_61 rfl ?_
          refine a_lald C (v := (a1 4)) 4 dX6_joinAll_62 hM.1.2.1 ⟨rfl, by decide, by decide⟩ rfl ?_
          refine n_lcmp_lt (tgt := 83) C dX6_joinAll_63 dX6_joinAll_64 rfl rfl (by decide) (by constructor <;> omega) (by constructor <;> omega) (fun c63 => ?_) (fun c63 => ?_)
          · have hjC : ¬ jnC a1 p := by
              unfold jnC
              omega
            have hjS : jnS a1 p = a1 := @if_neg _ (Classical.propDecidable _) hjC _ _ _
            have hjZ : jnZ z a1 p = z := @if_neg _ (Classical.propDecidable _) hjC _ _ _
            refine n_iinc (lo' := [(1, .int (iI (x1 + 1))), (0, .ref M)]) C 0 dX6_joinAll_83 rfl rfl (by decide) rfl ?_
            refine r_goto (tgt := 5) C dX6_joinAll_86 (by decide) ?_
            exact ih _ (by first | omega | (rw [← hk]; omega)) ((x1 + 1)) (p + 1) a1 b1 z (by omega) (by omega) hI1 h7 hz (by rw [hjS] at he; exact he) (by rw [hjS, hjZ] at hf; exact hf) hzb rfl
          · refine r_aload_n C 1 dX6_joinAll_67 rfl rfl ?_
            refine r_getR C fl_X6_7 rfl dX6_joinAll_68 hM.1.1 hM.2.1 ?_
            refine r_bipush (v := iI 16) C dX6_joinAll_71 (by decide) ?_
            refine r_dup2 C dX6_joinAll_73 rfl rfl ?_
            refine a_lald C (v := (a1 16)) 16 dX6_joinAll_74 hM.1.2.1 ⟨rfl, by decide, by decide⟩ rfl ?_
            refine r_lconst (v := lI 1) C dX6_joinAll_75 (by decide) ?_
            refine n_lsub C dX6_joinAll_76 ?_
            refine a_last C 16 dX6_joinAll_77 hM.1.2.1 ⟨rfl, by decide, by decide⟩ (fun a77 ea77 => ?_)
            refine r_aload_n C 1 dX6_joinAll_78 rfl rfl ?_
            refine r_iload_n C 0 dX6_joinAll_79 rfl rfl ?_
            refine cV1_EV C (k_X6_deliver p f hM (by omega) (by omega) (by have q0 : a77 (125 + 11 * (p % 120) + 0) = (a1 (125 + 11 * (p % 120) + 0)) := (by rw [ea77, up1_n (xPN (by decide))]); have q1 : a77 0 = (a1 0) := (by rw [ea77, up1_n (by decide)]); have q2 : a77 (125 + 11 * (p % 120) + 2) = (a1 (125 + 11 * (p % 120) + 2)) := (by rw [ea77, up1_n (xPN (by decide))]); have q3 : a77 (125 + 11 * (p % 120) + 3) = (a1 (125 + 11 * (p % 120) + 3)) := (by rw [ea77, up1_n (xPN (by decide))]); have q4 : a77 (17 + 18 * f + 9) = (a1 (17 + 18 * f + 9)) := (by rw [ea77, up1_n (xFN (by decide))]); omega) (by omega) (by have q0 : a77 (125 + 11 * (p % 120) + 0) = (a1 (125 + 11 * (p % 120) + 0)) := (by rw [ea77, up1_n (xPN (by decide))]); have q1 : a77 0 = (a1 0) := (by rw [ea77, up1_n (by decide)]); have q2 : a77 (125 + 11 * (p % 120) + 2) = (a1 (125 + 11 * (p % 120) + 2)) := (by rw [ea77, up1_n (xPN (by decide))]); have q3 : a77 (125 + 11 * (p % 120) + 3) = (a1 (125 + 11 * (p % 120) + 3)) := (by rw [ea77, up1_n (xPN (by decide))]); have q4 : a77 (17 + 18 * f + 9) = (a1 (17 + 18 * f + 9)) := (by rw [ea77, up1_n (xFN (by decide))]); omega) (by have q0 : a77 (125 + 11 * (p % 120) + 0) = (a1 (125 + 11 * (p % 120) + 0)) := (by rw [ea77, up1_n (xPN (by decide))]); have q1 : a77 0 = (a1 0) := (by rw [ea77, up1_n (by decide)]); have q2 : a77 (125 + 11 * (p % 120) + 2) = (a1 (125 + 11 * (p % 120) + 2)) := (by rw [ea77, up1_n (xPN (by decide))]); have q3 : a77 (125 + 11 * (p % 120) + 3) = (a1 (125 + 11 * (p % 120) + 3)) := (by rw [ea77, up1_n (xPN (by decide))]); have q4 : a77 (17 + 18 * f + 9) = (a1 (17 + 18 * f + 9)) := (by rw [ea77, up1_n (xFN (by decide))]); omega) (by have q0 : a77 (125 + 11 * (p % 120) + 0) = (a1 (125 + 11 * (p % 120) + 0)) := (by rw [ea77, up1_n (xPN (by decide))]); have q1 : a77 0 = (a1 0) := (by rw [ea77, up1_n (by decide)]); have q2 : a77 (125 + 11 * (p % 120) + 2) = (a1 (125 + 11 * (p % 120) + 2)) := (by rw [ea77, up1_n (xPN (by decide))]); have q3 : a77 (125 + 11 * (p % 120) + 3) = (a1 (125 + 11 * (p % 120) + 3)) := (by rw [ea77, up1_n (xPN (by decide))]); have q4 : a77 (17 + 18 * f + 9) = (a1 (17 + 18 * f + 9)) := (by rw [ea77, up1_n (xFN (by decide))]); omega) (by have q0 : a77 (125 + 11 * (p % 120) + 0) = (a1 (125 + 11 * (p % 120) + 0)) := (by rw [ea77, up1_n (xPN (by decide))]); have q1 : a77 0 = (a1 0) := (by rw [ea77, up1_n (by decide)]); have q2 : a77 (125 + 11 * (p % 120) + 2) = (a1 (125 + 11 * (p % 120) + 2)) := (by rw [ea77, up1_n (xPN (by decide))]); have q3 : a77 (125 + 11 * (p % 120) + 3) = (a1 (125 + 11 * (p % 120) + 3)) := (by rw [ea77, up1_n (xPN (by decide))]); have q4 : a77 (17 + 18 * f + 9) = (a1 (17 + 18 * f + 9)) := (by rw [ea77, up1_n (xFN (by decide))]); omega) (by omega)) cw_X6_163 (rm_ok rfl rfl (Nat.zero_le _) (Nat.zero_le _)) (Nat.le_of_ble_eq_true rfl) hM.1.1 dX6_joinAll_80 (fun I80 L80 h80 => ?_)
            obtain ⟨h80I, h80L⟩ := h80
            obtain ⟨a80, ea80⟩ : ∃ z, z = dlP a77 f p := ⟨_, rfl⟩
            obtain ⟨b80, eb80⟩ : ∃ z, z = up2 b1 0 8 (fdN (b1 0 8) p) := ⟨_, rfl⟩
            rw [← ea80] at h80L
            rw [← eb80] at h80I
            subst h80I
            subst h80L
            have hjC : jnC a1 p := ⟨c39, by omega⟩
            have hjS : jnS a1 p = jn1 a1 p := @if_pos _ (Classical.propDecidable _) hjC _ _ _
            have hjZ : jnZ z a1 p = fdN (b1 0 8) p := by rw [hb18]; exact @if_pos _ (Classical.propDecidable _) hjC _ _ _
            have hjs : a80 = jn1 a1 p := by
              rw [ea80, ea77]
              unfold jn1 dlv
              rw [flP_16, flP_of hfa]
            refine n_iinc (lo' := [(1, .int (iI (x1 + 1))), (0, .ref M)]) C 0 dX6_joinAll_83 rfl rfl (by decide) rfl ?_
            refine r_goto (tgt := 5) C dX6_joinAll_86 (by decide) ?_
            exact ih _ (by first | omega | (rw [← hk]; omega)) ((x1 + 1)) (p + 1) a80 b80 ((fdN (b1 0 8) p)) (by omega) (by omega) (by rw [hjs]; exact Inv_jn hI1 hkp c39) (by rw [hjs, ← hjS]; exact (jnS_k (jn_fl hI1 hkp) jk7).trans h7) (by rw [eb80, hz, up2_u]) (by rw [hjs, ← hjS]; exact he) (by rw [hjs, ← hjS]; rw [hjZ] at hf; exact hf) (by unfold fdN; split <;> omega) rfl
  exact lp5 _ x4 (old a) a b (b 0 8) (by omega) (by omega) hI rfl (up2_id b 0 8).symm rfl rfl hb rfl
set_option maxHeartbeats 4000000 in
set_option maxRecDepth 20000 in
theorem k_X6_idle {l : Launch} {G : Gd} {base : Nat} {Y : MY} {I : MI} {L : ML} {M : Nat} {a : Sa} {N T : Int} (hI : Inv N T a) {fi : Int} (f : Nat) (hM : MLy base Y M) (hf : fi = f) (hf2 : (f : Int) < a 2) : Ct l yX6_idle cX6_idle 8 (none) (rmz 1 21) G base [.ref M, .int (iI fi)] Y I (rL L (M + 1) a) (EV Y (fun I' L' => I' = I ∧ L' = rL L (M + 1) (idl a f))) := by
  refine Ct.of (own := RX6) (lo := [(0, .ref M), (1, .int (iI fi))]) (by decide) rfl (Nat.le_of_ble_eq_true rfl) rfl ?_
  intro zp ze zs zm zargs zbl zmt zc C hr hlk hnm
  have hT := hI.1
  unfold TopOK at hT
  have hF := (hI.2.1 f hf2).1
  unfold FlowOK at hF
  have hf6 : f < 6 := by omega
  refine r_iload_n C 1 dX6_idle_0 rfl rfl ?_
  refine r_iconst (v := iI 0) C dX6_idle_1 rfl ?_
  refine cS2_PI C (k_X6_flowAt ) cw_X6_40 (rm_ok rfl rfl (Nat.zero_le _) (Nat.zero_le _)) (Nat.le_of_ble_eq_true rfl) dX6_idle_2 ?_
  refine n_topi (fun x5 ex5 => ?_)
  refine r_istore_n (lo' := [(2, .int (iI x5)), (0, .ref M), (1, .int (iI fi))]) C dX6_idle_5 rfl (by decide) rfl ?_
  refine r_aload_n C 1 dX6_idle_6 rfl rfl ?_
  refine r_getR C fl_X6_7 rfl dX6_idle_7 hM.1.1 hM.2.1 ?_
  refine r_iload_n C 0 dX6_idle_10 rfl rfl ?_
  refine r_iconst (v := iI 5) C dX6_idle_11 rfl ?_
  refine n_iadd C dX6_idle_12 ?_
  have jn41 : ∀ x41 : Int, (¬ (a ((17 + 18 * f) + 17)) = 0 ∧ x41 = 0) ∨ ((a ((17 + 18 * f) + 17)) = 0 ∧ x41 = ((a ((17 + 18 * f) + 5)) + 1)) → Bd zp l ze (rmz 1 21) zs zm zargs zbl zmt zc 8 G base (EV Y (fun I' L' => I' = I ∧ L' = rL L (M + 1) (idl a f))) 41 [(2, .int (iI x5)), (0, .ref M), (1, .int (iI fi))] [.long (lI x41), .int (iI (x5 + 5)), .ref (M + 1)] Y I (rL L (M + 1) a) 0 0 := by
    intro x41 hx41
    refine a_last C (((17 + 18 * f) + 5)) dX6_idle_41 hM.1.2.1 ⟨congrArg iI (by omega), (by omega), by decide⟩ (fun a41 ea41 => ?_)
    have jn93 : ∀ x93 : Int, ((a ((17 + 18 * f) + 3)) ≤ 0 ∧ x93 = 0) ∨ (0 < (a ((17 + 18 * f) + 3)) ∧ (a ((17 + 18 * f) + 4)) ≤ 0 ∧ x93 = 0) ∨ (0 < (a ((17 + 18 * f) + 3)) ∧ 0 < (a ((17 + 18 * f) + 4)) ∧ x41 < (a ((17 + 18 * f) + 3)) ∧ x93 = 0) ∨ (0 < (a ((17 + 18 * f) + 3)) ∧ 0 < (a ((17 + 18 * f) + 4)) ∧ (a ((17 + 18 * f) + 3)) ≤ x41 ∧ x93 = 1) → Bd zp l ze (rmz 1 21) zs zm zargs zbl zmt zc 8 G base (EV Y (fun I' L' => I' = I ∧ L' = rL L (M + 1) (idl a f))) 93 [(2, .int (iI x5)), (0, .ref M), (1, .int (iI fi))] [.int (iI x93)] Y I (rL L (M + 1) a41) 0 0 := by
      intro x93 hx93
      refine r_istore_n (lo' := [(3, .int (iI x93)), (2, .int (iI x5)), (0, .ref M), (1, .int (iI fi))]) C dX6_idle_93 rfl (by decide) rfl ?_
      refine r_iload_n C 0 dX6_idle_94 rfl rfl ?_
      refine n_if_eq (tgt := 192) C dX6_idle_95 (by decide) (by constructor <;> omega) (fun c95 => ?_) (fun c95 => ?_)
      · refine r_vret C hr hlk dX6_idle_192 (Nat.zero_le _) (Nat.zero_le _) ?_
        have hv : x41 = idV a f := by
          unfold idV
          split <;> omega
        have hE : ¬ idE a f := by
          unfold idE
          rw [← hv]
          omega
        subst ea41
        refine ⟨rfl, rfl, rfl, ?_⟩
        rw [hv]
        exact congrArg (rL L (M + 1)) (@if_neg _ (Classical.propDecidable _) hE _ _ _).symm
      · refine r_aload_n C 2 dX6_idle_98 rfl rfl ?_
        refine r_getR C fl_X6_7 rfl dX6_idle_99 hM.1.1 hM.2.1 ?_
        refine r_iload_n C 1 dX6_idle_102 rfl rfl ?_
        refine r_iconst (v := iI 5) C dX6_idle_103 rfl ?_
        refine n_iadd C dX6_idle_104 ?_
        refine r_lconst (v := lI 0) C dX6_idle_105 (by decide) ?_
        refine a_last C (((17 + 18 * f) + 5)) dX6_idle_106 hM.1.2.1 ⟨congrArg iI (by omega), (by omega), by decide⟩ (fun a106 ea106 => ?_)
        refine r_aload_n C 2 dX6_idle_107 rfl rfl ?_
        refine r_getR C fl_X6_7 rfl dX6_idle_108 hM.1.1 hM.2.1 ?_
        refine r_iload_n C 1 dX6_idle_111 rfl rfl ?_
        refine r_bipush (v := iI 12) C dX6_idle_112 (by decide) ?_
        refine n_iadd C dX6_idle_114 ?_
        refine a_lald C (v := (a ((17 + 18 * f) + 12))) (((17 + 18 * f) + 12)) dX6_idle_115 hM.1.2.1 ⟨congrArg iI (by omega), (by omega), by decide⟩ (by rw [ea106, up1_n (by omega), ea41, up1_n (by omega)]) ?_
        refine r_aload_n C 2 dX6_idle_116 rfl rfl ?_
        refine r_getR C fl_X6_7 rfl dX6_idle_117 hM.1.1 hM.2.1 ?_
        refine r_iconst (v := iI 1) C dX6_idle_120 rfl ?_
        refine a_lald C (v := (a 1)) 1 dX6_idle_121 hM.1.2.1 ⟨rfl, by decide, by decide⟩ (by rw [ea106, up1_n (by omega), ea41, up1_n (by omega)]) ?_
        refine n_lsub C dX6_idle_122 ?_
        refine n_topl (fun x123 ex123 => ?_)
        refine r_lstore (lo' := [(4, .long (lI x123)), (3, .int (iI x93)), (2, .int (iI x5)), (0, .ref M), (1, .int (iI fi))]) C dX6_idle_123 (by decide) rfl ?_
        refine r_lload C 0 dX6_idle_125 rfl ?_
        refine r_lconst (v := lI 0) C dX6_idle_127 (by decide) ?_
        refine n_lcmp_le (tgt := 192) C dX6_idle_128 dX6_idle_129 rfl rfl (by decide) (by constructor <;> omega) ⟨by decide, by decide⟩ (fun c128 => ?_) (fun c128 => ?_)
        · refine r_vret C hr hlk dX6_idle_192 (Nat.zero_le _) (Nat.zero_le _) ?_
          have hv : x41 = idV a f := by
            unfold idV
            split <;> omega
          have hE : idE a f := by
            unfold idE
            rw [← hv]
            omega
          subst ea106
          subst ea41
          refine ⟨rfl, rfl, rfl, ?_⟩
          rw [hv]
          refine congrArg (rL L (M + 1)) (Eq.trans ?_ (@if_pos _ (Classical.propDecidable _) hE _ _ _).symm)
          rw [if_neg (by omega)]
        · have jn155 : ∀ x155 : Int, (¬ (a ((17 + 18 * f) + 4)) = 1 ∧ x155 = 0) ∨ ((a ((17 + 18 * f) + 4)) = 1 ∧ x155 = (x123 / 2)) → Bd zp l ze (rmz 1 21) zs zm zargs zbl zmt zc 8 G base (EV Y (fun I' L' => I' = I ∧ L' = rL L (M + 1) (idl a f))) 155 [(4, .long (lI x123)), (3, .int (iI x93)), (2, .int (iI x5)), (0, .ref M), (1, .int (iI fi))] [.long (lI x155)] Y I (rL L (M + 1) a106) 0 0 := by
            intro x155 hx155
            refine r_lstore (lo' := [(6, .long (lI x155)), (4, .long (lI x123)), (3, .int (iI x93)), (2, .int (iI x5)), (0, .ref M), (1, .int (iI fi))]) C dX6_idle_155 (by decide) rfl ?_
            refine r_aload_n C 4 dX6_idle_157 rfl rfl ?_
            refine r_getR C fl_X6_7 rfl dX6_idle_158 hM.1.1 hM.2.1 ?_
            refine r_iload_n C 3 dX6_idle_161 rfl rfl ?_
            refine r_bipush (v := iI 12) C dX6_idle_162 (by decide) ?_
            refine n_iadd C dX6_idle_164 ?_
            refine r_aload_n C 4 dX6_idle_165 rfl rfl ?_
            refine r_getR C fl_X6_7 rfl dX6_idle_166 hM.1.1 hM.2.1 ?_
            refine r_iconst (v := iI 1) C dX6_idle_169 rfl ?_
            refine a_lald C (v := (a 1)) 1 dX6_idle_170 hM.1.2.1 ⟨rfl, by decide, by decide⟩ (by rw [ea106, up1_n (by omega), ea41, up1_n (by omega)]) ?_
            refine r_lload C 0 dX6_idle_171 rfl ?_
            refine n_ladd C dX6_idle_173 ?_
            refine a_last C (((17 + 18 * f) + 12)) dX6_idle_174 hM.1.2.1 ⟨congrArg iI (by omega), (by omega), by decide⟩ (fun a174 ea174 => ?_)
            refine r_aload_n C 4 dX6_idle_175 rfl rfl ?_
            refine r_getR C fl_X6_7 rfl dX6_idle_176 hM.1.1 hM.2.1 ?_
            refine r_iload_n C 3 dX6_idle_179 rfl rfl ?_
            refine r_bipush (v := iI 13) C dX6_idle_180 (by decide) ?_
            refine n_iadd C dX6_idle_182 ?_
            refine r_dup2 C dX6_idle_183 rfl rfl ?_
            refine a_lald C (v := (a ((17 + 18 * f) + 13))) (((17 + 18 * f) + 13)) dX6_idle_184 hM.1.2.1 ⟨congrArg iI (by omega), (by omega), by decide⟩ (by rw [ea174, up1_n (by omega), ea106, up1_n (by omega), ea41, up1_n (by omega)]) ?_
            refine r_lload C 1 dX6_idle_185 rfl ?_
            refine r_lload C 0 dX6_idle_187 rfl ?_
            refine n_lsub C dX6_idle_189 ?_
            refine n_ladd C dX6_idle_190 ?_
            refine a_last C (((17 + 18 * f) + 13)) dX6_idle_191 hM.1.2.1 ⟨congrArg iI (by omega), (by omega), by decide⟩ (fun a191 ea191 => ?_)
            refine r_vret C hr hlk dX6_idle_192 (Nat.zero_le _) (Nat.zero_le _) ?_
            have hv : x41 = idV a f := by
              unfold idV
              split <;> omega
            have hE : idE a f := by
              unfold idE
              rw [← hv]
              omega
            have hk : x155 = idK a f := by
              unfold idK
              split <;> omega
            subst ea191
            subst ea174
            subst ea106
            subst ea41
            refine ⟨rfl, rfl, rfl, ?_⟩
            rw [hv, hk, ex123]
            refine congrArg (rL L (M + 1)) (Eq.trans ?_ (@if_pos _ (Classical.propDecidable _) hE _ _ _).symm)
            rw [if_pos (by omega)]
          refine r_aload_n C 3 dX6_idle_132 rfl rfl ?_
          refine r_getR C fl_X6_7 rfl dX6_idle_133 hM.1.1 hM.2.1 ?_
          refine r_iload_n C 2 dX6_idle_136 rfl rfl ?_
          refine r_iconst (v := iI 4) C dX6_idle_137 rfl ?_
          refine n_iadd C dX6_idle_138 ?_
          refine a_lald C (v := (a ((17 + 18 * f) + 4))) (((17 + 18 * f) + 4)) dX6_idle_139 hM.1.2.1 ⟨congrArg iI (by omega), (by omega), by decide⟩ (by rw [ea106, up1_n (by omega), ea41, up1_n (by omega)]) ?_
          refine r_lconst (v := lI 1) C dX6_idle_140 (by decide) ?_
          refine n_lcmp_ne (tgt := 154) C dX6_idle_141 dX6_idle_142 rfl rfl (by decide) (by constructor <;> omega) ⟨by decide, by decide⟩ (fun c141 => ?_) (fun c141 => ?_)
          · refine r_lconst (v := lI 0) C dX6_idle_154 (by decide) ?_
            exact jn155 _ (Or.inl ⟨c141, rfl⟩)
          · refine r_lload C 0 dX6_idle_145 rfl ?_
            refine n_ldc2 (v := 2) C lc_X6_30 (by decide) dX6_idle_147 ?_
            refine n_ldiv C dX6_idle_150 (by omega) (by omega) ?_
            refine r_goto (tgt := 155) C dX6_idle_151 (by decide) ?_
            exact jn155 _ (Or.inr (⟨c141, rfl⟩))
    refine r_aload_n C 1 dX6_idle_42 rfl rfl ?_
    refine r_getR C fl_X6_7 rfl dX6_idle_43 hM.1.1 hM.2.1 ?_
    refine r_iload_n C 0 dX6_idle_46 rfl rfl ?_
    refine r_iconst (v := iI 3) C dX6_idle_47 rfl ?_
    refine n_iadd C dX6_idle_48 ?_
    refine a_lald C (v := (a ((17 + 18 * f) + 3))) (((17 + 18 * f) + 3)) dX6_idle_49 hM.1.2.1 ⟨congrArg iI (by omega), (by omega), by decide⟩ (by rw [ea41, up1_n (by omega)]) ?_
    refine r_lconst (v := lI 0) C dX6_idle_50 (by decide) ?_
    refine n_lcmp_le (tgt := 92) C dX6_idle_51 dX6_idle_52 rfl rfl (by decide) (by constructor <;> omega) ⟨by decide, by decide⟩ (fun c51 => ?_) (fun c51 => ?_)
    · refine r_iconst (v := iI 0) C dX6_idle_92 rfl ?_
      exact jn93 _ (Or.inl ⟨c51, rfl⟩)
    · refine r_aload_n C 1 dX6_idle_55 rfl rfl ?_
      refine r_getR C fl_X6_7 rfl dX6_idle_56 hM.1.1 hM.2.1 ?_
      refine r_iload_n C 0 dX6_idle_59 rfl rfl ?_
      refine r_iconst (v := iI 4) C dX6_idle_60 rfl ?_
      refine n_iadd C dX6_idle_61 ?_
      refine a_lald C (v := (a ((17 + 18 * f) + 4))) (((17 + 18 * f) + 4)) dX6_idle_62 hM.1.2.1 ⟨congrArg iI (by omega), (by omega), by decide⟩ (by rw [ea41, up1_n (by omega)]) ?_
      refine r_lconst (v := lI 0) C dX6_idle_63 (by decide) ?_
      refine n_lcmp_le (tgt := 92) C dX6_idle_64 dX6_idle_65 rfl rfl (by decide) (by constructor <;> omega) ⟨by decide, by decide⟩ (fun c64 => ?_) (fun c64 => ?_)
      · refine r_iconst (v := iI 0) C dX6_idle_92 rfl ?_
        exact jn93 _ (Or.inr (Or.inl ⟨c51, c64, rfl⟩))
      · refine r_aload_n C 1 dX6_idle_68 rfl rfl ?_
        refine r_getR C fl_X6_7 rfl dX6_idle_69 hM.1.1 hM.2.1 ?_
        refine r_iload_n C 0 dX6_idle_72 rfl rfl ?_
        refine r_iconst (v := iI 5) C dX6_idle_73 rfl ?_
        refine n_iadd C dX6_idle_74 ?_
        refine a_lald C (v := x41) (((17 + 18 * f) + 5)) dX6_idle_75 hM.1.2.1 ⟨congrArg iI (by omega), (by omega), by decide⟩ (by rw [ea41, up1_s]) ?_
        refine r_aload_n C 1 dX6_idle_76 rfl rfl ?_
        refine r_getR C fl_X6_7 rfl dX6_idle_77 hM.1.1 hM.2.1 ?_
        refine r_iload_n C 0 dX6_idle_80 rfl rfl ?_
        refine r_iconst (v := iI 3) C dX6_idle_81 rfl ?_
        refine n_iadd C dX6_idle_82 ?_
        refine a_lald C (v := (a ((17 + 18 * f) + 3))) (((17 + 18 * f) + 3)) dX6_idle_83 hM.1.2.1 ⟨congrArg iI (by omega), (by omega), by decide⟩ (by rw [ea41, up1_n (by omega)]) ?_
        refine n_lcmp_lt (tgt := 92) C dX6_idle_84 dX6_idle_85 rfl rfl (by decide) (by constructor <;> omega) (by constructor <;> omega) (fun c84 => ?_) (fun c84 => ?_)
        · refine r_iconst (v := iI 0) C dX6_idle_92 rfl ?_
          exact jn93 _ (Or.inr (Or.inr (Or.inl ⟨c51, c64, c84, rfl⟩)))
        · refine r_iconst (v := iI 1) C dX6_idle_88 rfl ?_
          refine r_goto (tgt := 93) C dX6_idle_89 (by decide) ?_
          exact jn93 _ (Or.inr (Or.inr (Or.inr (⟨c51, c64, c84, rfl⟩))))
  refine r_aload_n C 1 dX6_idle_13 rfl rfl ?_
  refine r_getR C fl_X6_7 rfl dX6_idle_14 hM.1.1 hM.2.1 ?_
  refine r_iload_n C 0 dX6_idle_17 rfl rfl ?_
  refine r_bipush (v := iI 17) C dX6_idle_18 (by decide) ?_
  refine n_iadd C dX6_idle_20 ?_
  refine a_lald C (v := (a ((17 + 18 * f) + 17))) (((17 + 18 * f) + 17)) dX6_idle_21 hM.1.2.1 ⟨congrArg iI (by omega), (by omega), by decide⟩ rfl ?_
  refine r_lconst (v := lI 0) C dX6_idle_22 (by decide) ?_
  refine n_lcmp_ne (tgt := 40) C dX6_idle_23 dX6_idle_24 rfl rfl (by decide) (by constructor <;> omega) ⟨by decide, by decide⟩ (fun c23 => ?_) (fun c23 => ?_)
  · refine r_lconst (v := lI 0) C dX6_idle_40 (by decide) ?_
    exact jn41 _ (Or.inl ⟨c23, rfl⟩)
  · refine r_aload_n C 1 dX6_idle_27 rfl rfl ?_
    refine r_getR C fl_X6_7 rfl dX6_idle_28 hM.1.1 hM.2.1 ?_
    refine r_iload_n C 0 dX6_idle_31 rfl rfl ?_
    refine r_iconst (v := iI 5) C dX6_idle_32 rfl ?_
    refine n_iadd C dX6_idle_33 ?_
    refine a_lald C (v := (a ((17 + 18 * f) + 5))) (((17 + 18 * f) + 5)) dX6_idle_34 hM.1.2.1 ⟨congrArg iI (by omega), (by omega), by decide⟩ rfl ?_
    refine r_lconst (v := lI 1) C dX6_idle_35 (by decide) ?_
    refine n_ladd C dX6_idle_36 ?_
    refine r_goto (tgt := 41) C dX6_idle_37 (by decide) ?_
    exact jn41 _ (Or.inr (⟨c23, rfl⟩))
