set_option maxHeartbeats 4000000 in
set_option maxRecDepth 20000 in
theorem lc_addFlow {p : Program} {l : Launch} {e : Env} {s : State} {m : MethodId} {args : Array Value} {below : List Frame} {meth : Method} {c : Code} {G : Gd} {base : Nat} {Q : State → Prop} {cells slots : Nat} (C : Cx p s m args c cL_law 4 RL G base) {b Ls : Nat} {xs : Nat → Int32} (hX : va_X b Ls xs s s.heap) (hbl : b < s.heap.size) (hbb : b < base) (hLs : Ls ≤ 3072) {F B S M n : Nat} {N : Int} {Y : MY} {I : MI} {L : ML} {a : Sa} {x3 : Int} (hx3 : x3 = 6 * (n : Int)) (hn : 6 * n + 6 ≤ Ls) (hg : Geo base F B S M) (h : LI base F B S M N Y I L a) (hN : N + 243 ≤ 400000) (hc : cells + 206 ≤ 600000) (hs : slots + 2279 ≤ 7302250) (kk : ∀ Y' I' L' a', LI base F B S M (N + 243) Y' I' L' a' → Rn p l e room_1 s m args below meth c 4 G base Q 850 [(3, .int (iI x3)), (2, .ref M), (1, .ref F), (0, .ref b)] [] Y' I' L' (cells + 206) (slots + 2279)) : Rn p l e room_1 s m args below meth c 4 G base Q 144 [(3, .int (iI x3)), (2, .ref M), (1, .ref F), (0, .ref b)] [] Y I L cells slots := by
  obtain ⟨⟨hF, hS, hFs, hSl, hM⟩, ⟨⟨X, eI, eL, hR⟩, hrow, hO, hPc⟩, hcp, hsl, hd1, hd2, hd3⟩ := id h
  obtain ⟨hI, hNw, hLg⟩ := id hO
  have hgg := hg
  obtain ⟨g1, g2, g3, g4⟩ := hgg
  have hT := hI.1
  unfold TopOK at hT
  have hc0 : cells ≤ room_1.cells := by show cells ≤ 600000; omega
  have hs0 : slots ≤ room_1.slots := by show slots ≤ 7302250; omega
  have hc1 : cells + 206 ≤ room_1.cells := hc
  have hs1 : slots + 2279 ≤ room_1.slots := hs
  have hc2 : cells ≤ cells + 206 := Nat.le_add_right _ _
  have hs2 : slots ≤ slots + 2279 := Nat.le_add_right _ _
  refine r_aload_n C 2 dL_law_144 rfl rfl ?_
  refine r_aload_n C 3 dL_law_145 rfl rfl ?_
  refine r_iload_n C 0 dL_law_146 rfl rfl ?_
  refine r_iconst (v := iI 1) C dL_law_147 rfl ?_
  refine n_iadd C dL_law_148 ?_
  refine r_sld C hX hbl hbb hLs (6 * n + 1) (congrArg iI (by omega)) (by omega) dL_law_149 ?_
  refine r_eqI eI ?_
  refine r_eqL eL ?_
  refine cV1_EI C (k_X5_addFlow hS hI hR hF (i32t _)) cw_L_13 (rm_ok rfl rfl hc0 hs0) (Nat.le_of_ble_eq_true rfl) hF.1 dL_law_150 (fun r1 I1 L1 h1 => ?_)
  obtain ⟨a1, X1, hr1, hR1, eI1, eL1⟩ := h1
  have hrow1 : ∀ k, L1 (M + 1) k = lI (a k) := fun k => by rw [eL1, cL_out (by omega)]; exact hrow k
  refine r_aload_n C 1 dL_law_153 rfl rfl ?_
  refine r_aload_n C 3 dL_law_154 rfl rfl ?_
  refine r_iload_n C 0 dL_law_155 rfl rfl ?_
  refine r_iconst (v := iI 1) C dL_law_156 rfl ?_
  refine n_iadd C dL_law_157 ?_
  refine r_sld C hX hbl hbb hLs (6 * n + 1) (congrArg iI (by omega)) (by omega) dL_law_158 ?_
  refine r_eqL (rL_self hrow1).symm ?_
  refine cV1_EI C (k_X6_addFlow hI hM (i32t _)) cw_L_17 (rm_ok rfl rfl hc0 hs0) (Nat.le_of_ble_eq_true rfl) hM.1.1 dL_law_159 (fun r2 I2 L2 h2 => ?_)
  obtain ⟨eI2, hd⟩ := h2
  have hMB : MB I1 M (fun o k => (I1 (M + o) k).toInt) I2 := by rw [eI2]; exact MB_rf
  obtain ⟨a2, hA2, eL2⟩ : ∃ a2, AddR a (xs (6 * n + 1)).toInt r2 a2 ∧ L2 = rL L1 (M + 1) a2 := by
    rcases hd with ⟨c1, c2, c3⟩ | ⟨c1, c2, c3, c4⟩ | ⟨c1, c2, c3, c4⟩
    · exact ⟨_, Or.inl ⟨c1, c2, rfl⟩, c3⟩
    · exact ⟨_, Or.inr (Or.inl ⟨c1, c2, c3, rfl⟩), c4⟩
    · exact ⟨_, Or.inr (Or.inr ⟨c1, c2, c3, rfl⟩), c4⟩
  obtain ⟨hq, ha⟩ := AddR_det hr1 hA2
  subst ha
  have hok := AddR_ok hO hPc hr1
  refine r_icmp_eq (tgt := 850) C dL_law_162 (by decide) (fun _ => ?_) (fun hne => absurd (congrArg iI hq) hne)
  refine r_wide hc2 hs2 ?_
  exact kk _ _ _ _ (h.stepA hg (by omega) hN eI1 eL1 hR1 (MB_s hMB) (fun y y1 y2 => by rw [eL2, rL_out y1]) (fun k => by rw [eL2, rL_at]) (OK_N hok.1 (by omega) hN) hok.2)
set_option maxHeartbeats 4000000 in
set_option maxRecDepth 20000 in
theorem lc_set {p : Program} {l : Launch} {e : Env} {s : State} {m : MethodId} {args : Array Value} {below : List Frame} {meth : Method} {c : Code} {G : Gd} {base : Nat} {Q : State → Prop} {cells slots : Nat} (C : Cx p s m args c cL_law 4 RL G base) {b Ls : Nat} {xs : Nat → Int32} (hX : va_X b Ls xs s s.heap) (hbl : b < s.heap.size) (hbb : b < base) (hLs : Ls ≤ 3072) {F B S M n : Nat} {N : Int} {Y : MY} {I : MI} {L : ML} {a : Sa} {x3 : Int} (hx3 : x3 = 6 * (n : Int)) (hn : 6 * n + 6 ≤ Ls) (hg : Geo base F B S M) (h : LI base F B S M N Y I L a) (hN : N + 243 ≤ 400000) (hc : cells + 206 ≤ 600000) (hs : slots + 2279 ≤ 7302250) (kk : ∀ Y' I' L' a', LI base F B S M (N + 243) Y' I' L' a' → Rn p l e room_1 s m args below meth c 4 G base Q 850 [(3, .int (iI x3)), (2, .ref M), (1, .ref F), (0, .ref b)] [] Y' I' L' (cells + 206) (slots + 2279)) : Rn p l e room_1 s m args below meth c 4 G base Q 167 [(3, .int (iI x3)), (2, .ref M), (1, .ref F), (0, .ref b)] [] Y I L cells slots := by
  obtain ⟨⟨hF, hS, hFs, hSl, hM⟩, ⟨⟨X, eI, eL, hR⟩, hrow, hO, hPc⟩, hcp, hsl, hd1, hd2, hd3⟩ := id h
  obtain ⟨hI, hNw, hLg⟩ := id hO
  have hgg := hg
  obtain ⟨g1, g2, g3, g4⟩ := hgg
  have hT := hI.1
  unfold TopOK at hT
  have hc0 : cells ≤ room_1.cells := by show cells ≤ 600000; omega
  have hs0 : slots ≤ room_1.slots := by show slots ≤ 7302250; omega
  have hc1 : cells + 206 ≤ room_1.cells := hc
  have hs1 : slots + 2279 ≤ room_1.slots := hs
  have hc2 : cells ≤ cells + 206 := Nat.le_add_right _ _
  have hs2 : slots ≤ slots + 2279 := Nat.le_add_right _ _
  refine r_aload_n C 2 dL_law_167 rfl rfl ?_
  refine r_aload_n C 3 dL_law_168 rfl rfl ?_
  refine r_iload_n C 0 dL_law_169 rfl rfl ?_
  refine r_iconst (v := iI 1) C dL_law_170 rfl ?_
  refine n_iadd C dL_law_171 ?_
  refine r_sld C hX hbl hbb hLs (6 * n + 1) (congrArg iI (by omega)) (by omega) dL_law_172 ?_
  refine r_aload_n C 3 dL_law_173 rfl rfl ?_
  refine r_iload_n C 0 dL_law_174 rfl rfl ?_
  refine r_iconst (v := iI 2) C dL_law_175 rfl ?_
  refine n_iadd C dL_law_176 ?_
  refine r_sld C hX hbl hbb hLs (6 * n + 2) (congrArg iI (by omega)) (by omega) dL_law_177 ?_
  refine r_aload_n C 3 dL_law_178 rfl rfl ?_
  refine r_iload_n C 0 dL_law_179 rfl rfl ?_
  refine r_iconst (v := iI 3) C dL_law_180 rfl ?_
  refine n_iadd C dL_law_181 ?_
  refine r_sld C hX hbl hbb hLs (6 * n + 3) (congrArg iI (by omega)) (by omega) dL_law_182 ?_
  refine r_eqI eI ?_
  refine r_eqL eL ?_
  refine cV3_EI C (k_X5_set hS hI hR hF (i32t _) (i32t _) (i32t _)) cw_L_18 (rm_ok rfl rfl hc0 hs0) (Nat.le_of_ble_eq_true rfl) hF.1 dL_law_183 (fun r1 I1 L1 h1 => ?_)
  obtain ⟨a1, X1, hr1, hR1, eI1, eL1⟩ := h1
  have hrow1 : ∀ k, L1 (M + 1) k = lI (a k) := fun k => by rw [eL1, cL_out (by omega)]; exact hrow k
  refine r_aload_n C 1 dL_law_186 rfl rfl ?_
  refine r_aload_n C 3 dL_law_187 rfl rfl ?_
  refine r_iload_n C 0 dL_law_188 rfl rfl ?_
  refine r_iconst (v := iI 1) C dL_law_189 rfl ?_
  refine n_iadd C dL_law_190 ?_
  refine r_sld C hX hbl hbb hLs (6 * n + 1) (congrArg iI (by omega)) (by omega) dL_law_191 ?_
  refine r_aload_n C 3 dL_law_192 rfl rfl ?_
  refine r_iload_n C 0 dL_law_193 rfl rfl ?_
  refine r_iconst (v := iI 2) C dL_law_194 rfl ?_
  refine n_iadd C dL_law_195 ?_
  refine r_sld C hX hbl hbb hLs (6 * n + 2) (congrArg iI (by omega)) (by omega) dL_law_196 ?_
  refine r_aload_n C 3 dL_law_197 rfl rfl ?_
  refine r_iload_n C 0 dL_law_198 rfl rfl ?_
  refine r_iconst (v := iI 3) C dL_law_199 rfl ?_
  refine n_iadd C dL_law_200 ?_
  refine r_sld C hX hbl hbb hLs (6 * n + 3) (congrArg iI (by omega)) (by omega) dL_law_201 ?_
  refine r_eqL (rL_self hrow1).symm ?_
  refine cV3_EI C (k_X6_set hI hM (i32t _) (i32t _) (i32t _)) cw_L_22 (rm_ok rfl rfl hc0 hs0) (Nat.le_of_ble_eq_true rfl) hM.1.1 dL_law_202 (fun r2 I2 L2 h2 => ?_)
  obtain ⟨eI2, hd⟩ := h2
  have hMB : MB I1 M (fun o k => (I1 (M + o) k).toInt) I2 := by rw [eI2]; exact MB_rf
  obtain ⟨a2, hA2, eL2⟩ : ∃ a2, SetR a (xs (6 * n + 1)).toInt (xs (6 * n + 2)).toInt (xs (6 * n + 3)).toInt r2 a2 ∧ L2 = rL L1 (M + 1) a2 := by
    rcases hd with ⟨c1, c2, c3⟩ | ⟨c1, c2, c3, c4⟩ | ⟨c1, c2, c3, c4⟩
    · exact ⟨_, Or.inl ⟨c1, c2, rfl⟩, c3⟩
    · exact ⟨_, Or.inr (Or.inl ⟨c1, c2, c3, rfl⟩), c4⟩
    · exact ⟨_, Or.inr (Or.inr ⟨c1, c2, c3, rfl⟩), c4⟩
  obtain ⟨hq, ha⟩ := SetR_det hr1 hA2
  subst ha
  have hok := SetR_ok hO hPc hr1
  refine r_icmp_eq (tgt := 850) C dL_law_205 (by decide) (fun _ => ?_) (fun hne => absurd (congrArg iI hq) hne)
  refine r_wide hc2 hs2 ?_
  exact kk _ _ _ _ (h.stepA hg (by omega) hN eI1 eL1 hR1 (MB_s hMB) (fun y y1 y2 => by rw [eL2, rL_out y1]) (fun k => by rw [eL2, rL_at]) (OK_N hok.1 (by omega) hN) hok.2)
set_option maxHeartbeats 4000000 in
set_option maxRecDepth 20000 in
theorem lc_rule {p : Program} {l : Launch} {e : Env} {s : State} {m : MethodId} {args : Array Value} {below : List Frame} {meth : Method} {c : Code} {G : Gd} {base : Nat} {Q : State → Prop} {cells slots : Nat} (C : Cx p s m args c cL_law 4 RL G base) {b Ls : Nat} {xs : Nat → Int32} (hX : va_X b Ls xs s s.heap) (hbl : b < s.heap.size) (hbb : b < base) (hLs : Ls ≤ 3072) {F B S M n : Nat} {N : Int} {Y : MY} {I : MI} {L : ML} {a : Sa} {x3 : Int} (hx3 : x3 = 6 * (n : Int)) (hn : 6 * n + 6 ≤ Ls) (hg : Geo base F B S M) (h : LI base F B S M N Y I L a) (hN : N + 243 ≤ 400000) (hc : cells + 206 ≤ 600000) (hs : slots + 2279 ≤ 7302250) (kk : ∀ Y' I' L' a', LI base F B S M (N + 243) Y' I' L' a' → Rn p l e room_1 s m args below meth c 4 G base Q 850 [(3, .int (iI x3)), (2, .ref M), (1, .ref F), (0, .ref b)] [] Y' I' L' (cells + 206) (slots + 2279)) : Rn p l e room_1 s m args below meth c 4 G base Q 210 [(3, .int (iI x3)), (2, .ref M), (1, .ref F), (0, .ref b)] [] Y I L cells slots := by
  obtain ⟨⟨hF, hS, hFs, hSl, hM⟩, ⟨⟨X, eI, eL, hR⟩, hrow, hO, hPc⟩, hcp, hsl, hd1, hd2, hd3⟩ := id h
  obtain ⟨hI, hNw, hLg⟩ := id hO
  have hgg := hg
  obtain ⟨g1, g2, g3, g4⟩ := hgg
  have hT := hI.1
  unfold TopOK at hT
  have hc0 : cells ≤ room_1.cells := by show cells ≤ 600000; omega
  have hs0 : slots ≤ room_1.slots := by show slots ≤ 7302250; omega
  have hc1 : cells + 206 ≤ room_1.cells := hc
  have hs1 : slots + 2279 ≤ room_1.slots := hs
  have hc2 : cells ≤ cells + 206 := Nat.le_add_right _ _
  have hs2 : slots ≤ slots + 2279 := Nat.le_add_right _ _
  refine r_aload_n C 2 dL_law_210 rfl rfl ?_
  refine r_aload_n C 3 dL_law_211 rfl rfl ?_
  refine r_iload_n C 0 dL_law_212 rfl rfl ?_
  refine r_iconst (v := iI 1) C dL_law_213 rfl ?_
  refine n_iadd C dL_law_214 ?_
  refine r_sld C hX hbl hbb hLs (6 * n + 1) (congrArg iI (by omega)) (by omega) dL_law_215 ?_
  refine r_aload_n C 3 dL_law_216 rfl rfl ?_
  refine r_iload_n C 0 dL_law_217 rfl rfl ?_
  refine r_iconst (v := iI 2) C dL_law_218 rfl ?_
  refine n_iadd C dL_law_219 ?_
  refine r_sld C hX hbl hbb hLs (6 * n + 2) (congrArg iI (by omega)) (by omega) dL_law_220 ?_
  refine r_eqI eI ?_
  refine r_eqL eL ?_
  refine cV2_EI C (k_X5_rule hS hI hR hF (i32t _) (i32t _)) cw_L_23 (rm_ok rfl rfl hc0 hs0) (Nat.le_of_ble_eq_true rfl) hF.1 dL_law_221 (fun r1 I1 L1 h1 => ?_)
  obtain ⟨a1, X1, hr1, hR1, eI1, eL1⟩ := h1
  have hrow1 : ∀ k, L1 (M + 1) k = lI (a k) := fun k => by rw [eL1, cL_out (by omega)]; exact hrow k
  refine r_aload_n C 1 dL_law_224 rfl rfl ?_
  refine r_aload_n C 3 dL_law_225 rfl rfl ?_
  refine r_iload_n C 0 dL_law_226 rfl rfl ?_
  refine r_iconst (v := iI 1) C dL_law_227 rfl ?_
  refine n_iadd C dL_law_228 ?_
  refine r_sld C hX hbl hbb hLs (6 * n + 1) (congrArg iI (by omega)) (by omega) dL_law_229 ?_
  refine r_aload_n C 3 dL_law_230 rfl rfl ?_
  refine r_iload_n C 0 dL_law_231 rfl rfl ?_
  refine r_iconst (v := iI 2) C dL_law_232 rfl ?_
  refine n_iadd C dL_law_233 ?_
  refine r_sld C hX hbl hbb hLs (6 * n + 2) (congrArg iI (by omega)) (by omega) dL_law_234 ?_
  refine r_eqL (rL_self hrow1).symm ?_
  refine cV2_EI C (k_X6_rule hI hM (i32t _) (i32t _)) cw_L_27 (rm_ok rfl rfl hc0 hs0) (Nat.le_of_ble_eq_true rfl) hM.1.1 dL_law_235 (fun r2 I2 L2 h2 => ?_)
  obtain ⟨eI2, hd⟩ := h2
  have hMB : MB I1 M (fun o k => (I1 (M + o) k).toInt) I2 := by rw [eI2]; exact MB_rf
  obtain ⟨a2, hA2, eL2⟩ : ∃ a2, RulR a (xs (6 * n + 1)).toInt (xs (6 * n + 2)).toInt r2 a2 ∧ L2 = rL L1 (M + 1) a2 := by
    rcases hd with ⟨c1, c2, c3⟩ | ⟨c1, c2, c3⟩
    · exact ⟨_, Or.inl ⟨c1, c2, rfl⟩, c3⟩
    · exact ⟨_, Or.inr ⟨c1, c2, rfl⟩, c3⟩
  obtain ⟨hq, ha⟩ := RulR_det hr1 hA2
  subst ha
  have hok := RulR_ok hO hPc hr1
  refine r_icmp_eq (tgt := 850) C dL_law_238 (by decide) (fun _ => ?_) (fun hne => absurd (congrArg iI hq) hne)
  refine r_wide hc2 hs2 ?_
  exact kk _ _ _ _ (h.stepA hg (by omega) hN eI1 eL1 hR1 (MB_s hMB) (fun y y1 y2 => by rw [eL2, rL_out y1]) (fun k => by rw [eL2, rL_at]) (OK_N hok.1 (by omega) hN) hok.2)
set_option maxHeartbeats 4000000 in
set_option maxRecDepth 20000 in
theorem lc_offer {p : Program} {l : Launch} {e : Env} {s : State} {m : MethodId} {args : Array Value} {below : List Frame} {meth : Method} {c : Code} {G : Gd} {base : Nat} {Q : State → Prop} {cells slots : Nat} (C : Cx p s m args c cL_law 4 RL G base) {b Ls : Nat} {xs : Nat → Int32} (hX : va_X b Ls xs s s.heap) (hbl : b < s.heap.size) (hbb : b < base) (hLs : Ls ≤ 3072) {F B S M n : Nat} {N : Int} {Y : MY} {I : MI} {L : ML} {a : Sa} {x3 : Int} (hx3 : x3 = 6 * (n : Int)) (hn : 6 * n + 6 ≤ Ls) (hg : Geo base F B S M) (h : LI base F B S M N Y I L a) (hN : N + 243 ≤ 400000) (hc : cells + 206 ≤ 600000) (hs : slots + 2279 ≤ 7302250) (kk : ∀ Y' I' L' a', LI base F B S M (N + 243) Y' I' L' a' → Rn p l e room_1 s m args below meth c 4 G base Q 850 [(3, .int (iI x3)), (2, .ref M), (1, .ref F), (0, .ref b)] [] Y' I' L' (cells + 206) (slots + 2279)) : Rn p l e room_1 s m args below meth c 4 G base Q 243 [(3, .int (iI x3)), (2, .ref M), (1, .ref F), (0, .ref b)] [] Y I L cells slots := by
  obtain ⟨⟨hF, hS, hFs, hSl, hM⟩, ⟨⟨X, eI, eL, hR⟩, hrow, hO, hPc⟩, hcp, hsl, hd1, hd2, hd3⟩ := id h
  obtain ⟨hI, hNw, hLg⟩ := id hO
  have hgg := hg
  obtain ⟨g1, g2, g3, g4⟩ := hgg
  have hT := hI.1
  unfold TopOK at hT
  have hc0 : cells ≤ room_1.cells := by show cells ≤ 600000; omega
  have hs0 : slots ≤ room_1.slots := by show slots ≤ 7302250; omega
  have hc1 : cells + 206 ≤ room_1.cells := hc
  have hs1 : slots + 2279 ≤ room_1.slots := hs
  have hc2 : cells ≤ cells + 206 := Nat.le_add_right _ _
  have hs2 : slots ≤ slots + 2279 := Nat.le_add_right _ _
  refine r_aload_n C 2 dL_law_243 rfl rfl ?_
  refine r_aload_n C 3 dL_law_244 rfl rfl ?_
  refine r_iload_n C 0 dL_law_245 rfl rfl ?_
  refine r_iconst (v := iI 1) C dL_law_246 rfl ?_
  refine n_iadd C dL_law_247 ?_
  refine r_sld C hX hbl hbb hLs (6 * n + 1) (congrArg iI (by omega)) (by omega) dL_law_248 ?_
  refine r_aload_n C 3 dL_law_249 rfl rfl ?_
  refine r_iload_n C 0 dL_law_250 rfl rfl ?_
  refine r_iconst (v := iI 2) C dL_law_251 rfl ?_
  refine n_iadd C dL_law_252 ?_
  refine r_sld C hX hbl hbb hLs (6 * n + 2) (congrArg iI (by omega)) (by omega) dL_law_253 ?_
  refine r_aload_n C 3 dL_law_254 rfl rfl ?_
  refine r_iload_n C 0 dL_law_255 rfl rfl ?_
  refine r_iconst (v := iI 3) C dL_law_256 rfl ?_
  refine n_iadd C dL_law_257 ?_
  refine r_sld C hX hbl hbb hLs (6 * n + 3) (congrArg iI (by omega)) (by omega) dL_law_258 ?_
  refine r_eqI eI ?_
  refine r_eqL eL ?_
  refine cV3_EI C (k_X5_offer hS hI hR hF (i32t _) (i32t _) (i32t _) hNw) cw_L_28 (rm_ok rfl rfl hc0 hs0) (Nat.le_of_ble_eq_true rfl) hF.1 dL_law_259 (fun r1 I1 L1 h1 => ?_)
  obtain ⟨a1, X1, hr1, hR1, eI1, eL1⟩ := h1
  have hrow1 : ∀ k, L1 (M + 1) k = lI (a k) := fun k => by rw [eL1, cL_out (by omega)]; exact hrow k
  refine r_aload_n C 1 dL_law_262 rfl rfl ?_
  refine r_aload_n C 3 dL_law_263 rfl rfl ?_
  refine r_iload_n C 0 dL_law_264 rfl rfl ?_
  refine r_iconst (v := iI 1) C dL_law_265 rfl ?_
  refine n_iadd C dL_law_266 ?_
  refine r_sld C hX hbl hbb hLs (6 * n + 1) (congrArg iI (by omega)) (by omega) dL_law_267 ?_
  refine r_aload_n C 3 dL_law_268 rfl rfl ?_
  refine r_iload_n C 0 dL_law_269 rfl rfl ?_
  refine r_iconst (v := iI 2) C dL_law_270 rfl ?_
  refine n_iadd C dL_law_271 ?_
  refine r_sld C hX hbl hbb hLs (6 * n + 2) (congrArg iI (by omega)) (by omega) dL_law_272 ?_
  refine r_aload_n C 3 dL_law_273 rfl rfl ?_
  refine r_iload_n C 0 dL_law_274 rfl rfl ?_
  refine r_iconst (v := iI 3) C dL_law_275 rfl ?_
  refine n_iadd C dL_law_276 ?_
  refine r_sld C hX hbl hbb hLs (6 * n + 3) (congrArg iI (by omega)) (by omega) dL_law_277 ?_
  refine r_eqL (rL_self hrow1).symm ?_
  refine cV3_EI C (k_X6_offer hI hM (i32t _) (i32t _) (i32t _)) cw_L_31 (rm_ok rfl rfl hc0 hs0) (Nat.le_of_ble_eq_true rfl) hM.1.1 dL_law_278 (fun r2 I2 L2 h2 => ?_)
  obtain ⟨hr1, ha1⟩ := hr1
  obtain ⟨hr2, eI2, eL2⟩ := h2
  have hMB : MB I1 M (fun o k => (I1 (M + o) k).toInt) I2 := by rw [eI2]; exact MB_rf
  have hq := hr1.trans hr2.symm
  have hok : OK (N + 243) 1000000 a1 ∧ PcOK a1 := by rw [ha1]; exact ⟨OK_N (off_OK hO _ _ _ (by omega)) (by omega) hN, Pc_off hPc (by omega) _ _ _⟩
  rw [← ha1] at eL2
  refine r_icmp_eq (tgt := 850) C dL_law_281 (by decide) (fun _ => ?_) (fun hne => absurd (congrArg iI hq) hne)
  refine r_wide hc2 hs2 ?_
  exact kk _ _ _ _ (h.stepA hg (by omega) hN eI1 eL1 hR1 (MB_s hMB) (fun y y1 y2 => by rw [eL2, rL_out y1]) (fun k => by rw [eL2, rL_at]) hok.1 hok.2)
set_option maxHeartbeats 4000000 in
set_option maxRecDepth 20000 in
theorem lc_cancel {p : Program} {l : Launch} {e : Env} {s : State} {m : MethodId} {args : Array Value} {below : List Frame} {meth : Method} {c : Code} {G : Gd} {base : Nat} {Q : State → Prop} {cells slots : Nat} (C : Cx p s m args c cL_law 4 RL G base) {b Ls : Nat} {xs : Nat → Int32} (hX : va_X b Ls xs s s.heap) (hbl : b < s.heap.size) (hbb : b < base) (hLs : Ls ≤ 3072) {F B S M n : Nat} {N : Int} {Y : MY} {I : MI} {L : ML} {a : Sa} {x3 : Int} (hx3 : x3 = 6 * (n : Int)) (hn : 6 * n + 6 ≤ Ls) (hg : Geo base F B S M) (h : LI base F B S M N Y I L a) (hN : N + 243 ≤ 400000) (hc : cells + 206 ≤ 600000) (hs : slots + 2279 ≤ 7302250) (kk : ∀ Y' I' L' a', LI base F B S M (N + 243) Y' I' L' a' → Rn p l e room_1 s m args below meth c 4 G base Q 850 [(3, .int (iI x3)), (2, .ref M), (1, .ref F), (0, .ref b)] [] Y' I' L' (cells + 206) (slots + 2279)) : Rn p l e room_1 s m args below meth c 4 G base Q 286 [(3, .int (iI x3)), (2, .ref M), (1, .ref F), (0, .ref b)] [] Y I L cells slots := by
  obtain ⟨⟨hF, hS, hFs, hSl, hM⟩, ⟨⟨X, eI, eL, hR⟩, hrow, hO, hPc⟩, hcp, hsl, hd1, hd2, hd3⟩ := id h
  obtain ⟨hI, hNw, hLg⟩ := id hO
  have hgg := hg
  obtain ⟨g1, g2, g3, g4⟩ := hgg
  have hT := hI.1
  unfold TopOK at hT
  have hc0 : cells ≤ room_1.cells := by show cells ≤ 600000; omega
  have hs0 : slots ≤ room_1.slots := by show slots ≤ 7302250; omega
  have hc1 : cells + 206 ≤ room_1.cells := hc
  have hs1 : slots + 2279 ≤ room_1.slots := hs
  have hc2 : cells ≤ cells + 206 := Nat.le_add_right _ _
  have hs2 : slots ≤ slots + 2279 := Nat.le_add_right _ _
  refine r_aload_n C 2 dL_law_286 rfl rfl ?_
  refine r_aload_n C 3 dL_law_287 rfl rfl ?_
  refine r_iload_n C 0 dL_law_288 rfl rfl ?_
  refine r_iconst (v := iI 1) C dL_law_289 rfl ?_
  refine n_iadd C dL_law_290 ?_
  refine r_sld C hX hbl hbb hLs (6 * n + 1) (congrArg iI (by omega)) (by omega) dL_law_291 ?_
  refine r_eqI eI ?_
  refine r_eqL eL ?_
  refine cV1_EI C (k_X5_cancel hS hI hR hF (i32t _)) cw_L_32 (rm_ok rfl rfl hc0 hs0) (Nat.le_of_ble_eq_true rfl) hF.1 dL_law_292 (fun r1 I1 L1 h1 => ?_)
  obtain ⟨a1, X1, hr1, hR1, eI1, eL1⟩ := h1
  have hrow1 : ∀ k, L1 (M + 1) k = lI (a k) := fun k => by rw [eL1, cL_out (by omega)]; exact hrow k
  refine r_aload_n C 1 dL_law_295 rfl rfl ?_
  refine r_aload_n C 3 dL_law_296 rfl rfl ?_
  refine r_iload_n C 0 dL_law_297 rfl rfl ?_
  refine r_iconst (v := iI 1) C dL_law_298 rfl ?_
  refine n_iadd C dL_law_299 ?_
  refine r_sld C hX hbl hbb hLs (6 * n + 1) (congrArg iI (by omega)) (by omega) dL_law_300 ?_
  refine r_eqL (rL_self hrow1).symm ?_
  refine cV1_EI C (k_X6_cancel hI hM (i32t _)) cw_L_35 (rm_ok rfl rfl hc0 hs0) (Nat.le_of_ble_eq_true rfl) hM.1.1 dL_law_301 (fun r2 I2 L2 h2 => ?_)
  obtain ⟨hr1, ha1⟩ := hr1
  obtain ⟨hr2, eI2, eL2⟩ := h2
  have hMB : MB I1 M (fun o k => (I1 (M + o) k).toInt) I2 := by rw [eI2]; exact MB_rf
  have hq := hr1.trans hr2.symm
  have hok : OK (N + 243) 1000000 a1 ∧ PcOK a1 := by rw [ha1]; exact ⟨OK_N (canA_OK hO _) (by omega) hN, Pc_can hI hPc _⟩
  rw [← ha1] at eL2
  refine r_icmp_eq (tgt := 850) C dL_law_304 (by decide) (fun _ => ?_) (fun hne => absurd (congrArg iI hq) hne)
  refine r_wide hc2 hs2 ?_
  exact kk _ _ _ _ (h.stepA hg (by omega) hN eI1 eL1 hR1 (MB_s hMB) (fun y y1 y2 => by rw [eL2, rL_out y1]) (fun k => by rw [eL2, rL_at]) hok.1 hok.2)
set_option maxHeartbeats 4000000 in
set_option maxRecDepth 20000 in
theorem lc_packet {p : Program} {l : Launch} {e : Env} {s : State} {m : MethodId} {args : Array Value} {below : List Frame} {meth : Method} {c : Code} {G : Gd} {base : Nat} {Q : State → Prop} {cells slots : Nat} (C : Cx p s m args c cL_law 4 RL G base) {b Ls : Nat} {xs : Nat → Int32} (hX : va_X b Ls xs s s.heap) (hbl : b < s.heap.size) (hbb : b < base) (hLs : Ls ≤ 3072) {F B S M n : Nat} {N : Int} {Y : MY} {I : MI} {L : ML} {a : Sa} {x3 : Int} (hx3 : x3 = 6 * (n : Int)) (hn : 6 * n + 6 ≤ Ls) (hg : Geo base F B S M) (h : LI base F B S M N Y I L a) (hN : N + 243 ≤ 400000) (hc : cells + 206 ≤ 600000) (hs : slots + 2279 ≤ 7302250) (kk : ∀ Y' I' L' a', LI base F B S M (N + 243) Y' I' L' a' → Rn p l e room_1 s m args below meth c 4 G base Q 850 [(3, .int (iI x3)), (2, .ref M), (1, .ref F), (0, .ref b)] [] Y' I' L' (cells + 206) (slots + 2279)) : Rn p l e room_1 s m args below meth c 4 G base Q 309 [(3, .int (iI x3)), (2, .ref M), (1, .ref F), (0, .ref b)] [] Y I L cells slots := by
  obtain ⟨⟨hF, hS, hFs, hSl, hM⟩, ⟨⟨X, eI, eL, hR⟩, hrow, hO, hPc⟩, hcp, hsl, hd1, hd2, hd3⟩ := id h
  obtain ⟨hI, hNw, hLg⟩ := id hO
  have hgg := hg
  obtain ⟨g1, g2, g3, g4⟩ := hgg
  have hT := hI.1
  unfold TopOK at hT
  have hc0 : cells ≤ room_1.cells := by show cells ≤ 600000; omega
  have hs0 : slots ≤ room_1.slots := by show slots ≤ 7302250; omega
  have hc1 : cells + 206 ≤ room_1.cells := hc
  have hs1 : slots + 2279 ≤ room_1.slots := hs
  have hc2 : cells ≤ cells + 206 := Nat.le_add_right _ _
  have hs2 : slots ≤ slots + 2279 := Nat.le_add_right _ _
  refine r_aload_n C 2 dL_law_309 rfl rfl ?_
  refine r_aload_n C 3 dL_law_310 rfl rfl ?_
  refine r_iload_n C 0 dL_law_311 rfl rfl ?_
  refine r_iconst (v := iI 1) C dL_law_312 rfl ?_
  refine n_iadd C dL_law_313 ?_
  refine r_sld C hX hbl hbb hLs (6 * n + 1) (congrArg iI (by omega)) (by omega) dL_law_314 ?_
  refine r_aload_n C 3 dL_law_315 rfl rfl ?_
  refine r_iload_n C 0 dL_law_316 rfl rfl ?_
  refine r_iconst (v := iI 2) C dL_law_317 rfl ?_
  refine n_iadd C dL_law_318 ?_
  refine r_sld C hX hbl hbb hLs (6 * n + 2) (congrArg iI (by omega)) (by omega) dL_law_319 ?_
  refine r_eqI eI ?_
  refine r_eqL eL ?_
  refine cV2_PI C (k_X5_packet hS hI hR hF (i32t _) (i32t _)) cw_L_36 (rm_ok rfl rfl hc0 hs0) (Nat.le_of_ble_eq_true rfl) hF.1 dL_law_320 ?_
  refine r_eqI eI.symm ?_
  refine r_eqL eL.symm ?_
  refine r_aload_n C 1 dL_law_323 rfl rfl ?_
  refine r_aload_n C 3 dL_law_324 rfl rfl ?_
  refine r_iload_n C 0 dL_law_325 rfl rfl ?_
  refine r_iconst (v := iI 1) C dL_law_326 rfl ?_
  refine n_iadd C dL_law_327 ?_
  refine r_sld C hX hbl hbb hLs (6 * n + 1) (congrArg iI (by omega)) (by omega) dL_law_328 ?_
  refine r_aload_n C 3 dL_law_329 rfl rfl ?_
  refine r_iload_n C 0 dL_law_330 rfl rfl ?_
  refine r_iconst (v := iI 2) C dL_law_331 rfl ?_
  refine n_iadd C dL_law_332 ?_
  refine r_sld C hX hbl hbb hLs (6 * n + 2) (congrArg iI (by omega)) (by omega) dL_law_333 ?_
  refine r_eqL (rL_self hrow).symm ?_
  refine cV2_PI C (k_X6_packet hI hM (i32t _) (i32t _)) cw_L_39 (rm_ok rfl rfl hc0 hs0) (Nat.le_of_ble_eq_true rfl) hM.1.1 dL_law_334 ?_
  refine r_eqL (rL_self hrow) ?_
  refine r_icmp_eq (tgt := 850) C dL_law_337 (by decide) (fun _ => ?_) (fun hne => absurd rfl hne)
  refine r_wide hc2 hs2 ?_
  exact kk _ _ _ _ (h.stepA hg (by omega) hN eI eL hR ⟨fun _ _ => rfl, rfl⟩ (fun _ _ _ => rfl) hrow (OK_N hO (by omega) hN) hPc)
set_option maxHeartbeats 4000000 in
set_option maxRecDepth 20000 in
theorem lc_start {p : Program} {l : Launch} {e : Env} {s : State} {m : MethodId} {args : Array Value} {below : List Frame} {meth : Method} {c : Code} {G : Gd} {base : Nat} {Q : State → Prop} {cells slots : Nat} (C : Cx p s m args c cL_law 4 RL G base) {b Ls : Nat} {xs : Nat → Int32} (hX : va_X b Ls xs s s.heap) (hbl : b < s.heap.size) (hbb : b < base) (hLs : Ls ≤ 3072) {F B S M n : Nat} {N : Int} {Y : MY} {I : MI} {L : ML} {a : Sa} {x3 : Int} (hx3 : x3 = 6 * (n : Int)) (hn : 6 * n + 6 ≤ Ls) (hg : Geo base F B S M) (h : LI base F B S M N Y I L a) (hN : N + 243 ≤ 400000) (hc : cells + 206 ≤ 600000) (hs : slots + 2279 ≤ 7302250) (kk : ∀ Y' I' L' a', LI base F B S M (N + 243) Y' I' L' a' → Rn p l e room_1 s m args below meth c 4 G base Q 850 [(3, .int (iI x3)), (2, .ref M), (1, .ref F), (0, .ref b)] [] Y' I' L' (cells + 206) (slots + 2279)) : Rn p l e room_1 s m args below meth c 4 G base Q 342 [(3, .int (iI x3)), (2, .ref M), (1, .ref F), (0, .ref b)] [] Y I L cells slots := by
  obtain ⟨⟨hF, hS, hFs, hSl, hM⟩, ⟨⟨X, eI, eL, hR⟩, hrow, hO, hPc⟩, hcp, hsl, hd1, hd2, hd3⟩ := id h
  obtain ⟨hI, hNw, hLg⟩ := id hO
  have hgg := hg
  obtain ⟨g1, g2, g3, g4⟩ := hgg
  have hT := hI.1
  unfold TopOK at hT
  have hc0 : cells ≤ room_1.cells := by show cells ≤ 600000; omega
  have hs0 : slots ≤ room_1.slots := by show slots ≤ 7302250; omega
  have hc1 : cells + 206 ≤ room_1.cells := hc
  have hs1 : slots + 2279 ≤ room_1.slots := hs
  have hc2 : cells ≤ cells + 206 := Nat.le_add_right _ _
  have hs2 : slots ≤ slots + 2279 := Nat.le_add_right _ _
  refine r_aload_n C 2 dL_law_342 rfl rfl ?_
  refine r_aload_n C 3 dL_law_343 rfl rfl ?_
  refine r_iload_n C 0 dL_law_344 rfl rfl ?_
  refine r_iconst (v := iI 1) C dL_law_345 rfl ?_
  refine n_iadd C dL_law_346 ?_
  refine r_sld C hX hbl hbb hLs (6 * n + 1) (congrArg iI (by omega)) (by omega) dL_law_347 ?_
  refine r_eqI eI ?_
  refine r_eqL eL ?_
  refine cV1_PL C (k_X5_start hS hI hR hF (i32t _)) cw_L_40 (rm_ok rfl rfl hc0 hs0) (Nat.le_of_ble_eq_true rfl) hF.1 dL_law_348 ?_
  refine r_eqI eI.symm ?_
  refine r_eqL eL.symm ?_
  refine r_aload_n C 1 dL_law_351 rfl rfl ?_
  refine r_aload_n C 3 dL_law_352 rfl rfl ?_
  refine r_iload_n C 0 dL_law_353 rfl rfl ?_
  refine r_iconst (v := iI 1) C dL_law_354 rfl ?_
  refine n_iadd C dL_law_355 ?_
  refine r_sld C hX hbl hbb hLs (6 * n + 1) (congrArg iI (by omega)) (by omega) dL_law_356 ?_
  refine r_eqL (rL_self hrow).symm ?_
  refine cV1_PL C (k_X6_start hI hM (i32t _)) cw_L_44 (rm_ok rfl rfl hc0 hs0) (Nat.le_of_ble_eq_true rfl) hM.1.1 dL_law_357 ?_
  refine r_eqL (rL_self hrow) ?_
  refine r_lcmp_eq (tgt := 850) C dL_law_360 dL_law_361 rfl rfl (by decide) (fun _ => ?_) (fun hne => absurd rfl hne)
  refine r_wide hc2 hs2 ?_
  exact kk _ _ _ _ (h.stepA hg (by omega) hN eI eL hR ⟨fun _ _ => rfl, rfl⟩ (fun _ _ _ => rfl) hrow (OK_N hO (by omega) hN) hPc)
set_option maxHeartbeats 4000000 in
set_option maxRecDepth 20000 in
theorem lc_put {p : Program} {l : Launch} {e : Env} {s : State} {m : MethodId} {args : Array Value} {below : List Frame} {meth : Method} {c : Code} {G : Gd} {base : Nat} {Q : State → Prop} {cells slots : Nat} (C : Cx p s m args c cL_law 4 RL G base) {b Ls : Nat} {xs : Nat → Int32} (hX : va_X b Ls xs s s.heap) (hbl : b < s.heap.size) (hbb : b < base) (hLs : Ls ≤ 3072) {F B S M n : Nat} {N : Int} {Y : MY} {I : MI} {L : ML} {a : Sa} {x3 : Int} (hx3 : x3 = 6 * (n : Int)) (hn : 6 * n + 6 ≤ Ls) (hg : Geo base F B S M) (h : LI base F B S M N Y I L a) (hN : N + 243 ≤ 400000) (hc : cells + 206 ≤ 600000) (hs : slots + 2279 ≤ 7302250) (kk : ∀ Y' I' L' a', LI base F B S M (N + 243) Y' I' L' a' → Rn p l e room_1 s m args below meth c 4 G base Q 850 [(3, .int (iI x3)), (2, .ref M), (1, .ref F), (0, .ref b)] [] Y' I' L' (cells + 206) (slots + 2279)) : Rn p l e room_1 s m args below meth c 4 G base Q 366 [(3, .int (iI x3)), (2, .ref M), (1, .ref F), (0, .ref b)] [] Y I L cells slots := by
  obtain ⟨⟨hF, hS, hFs, hSl, hM⟩, ⟨⟨X, eI, eL, hR⟩, hrow, hO, hPc⟩, hcp, hsl, hd1, hd2, hd3⟩ := id h
  obtain ⟨hI, hNw, hLg⟩ := id hO
  have hgg := hg
  obtain ⟨g1, g2, g3, g4⟩ := hgg
  have hT := hI.1
  unfold TopOK at hT
  have hc0 : cells ≤ room_1.cells := by show cells ≤ 600000; omega
  have hs0 : slots ≤ room_1.slots := by show slots ≤ 7302250; omega
  have hc1 : cells + 206 ≤ room_1.cells := hc
  have hs1 : slots + 2279 ≤ room_1.slots := hs
  have hc2 : cells ≤ cells + 206 := Nat.le_add_right _ _
  have hs2 : slots ≤ slots + 2279 := Nat.le_add_right _ _
  obtain ⟨XX, hXX, eXX⟩ := lN_ex (((iI (xs (6 * n + 1)).toInt).toInt64 <<< ((32 : Int32).toInt64 &&& 63)) ||| ((iI (xs (6 * n + 2)).toInt).toInt64 &&& (4294967295 : Int64)))
  refine r_aload_n C 2 dL_law_366 rfl rfl ?_
  refine r_aload_n C 3 dL_law_367 rfl rfl ?_
  refine r_iload_n C 0 dL_law_368 rfl rfl ?_
  refine r_iconst (v := iI 1) C dL_law_369 rfl ?_
  refine n_iadd C dL_law_370 ?_
  refine r_sld C hX hbl hbb hLs (6 * n + 1) (congrArg iI (by omega)) (by omega) dL_law_371 ?_
  refine r_i2l C dL_law_372 ?_
  refine r_bipush (v := 32) C dL_law_373 (by decide) ?_
  refine r_lshl C dL_law_375 ?_
  refine r_aload_n C 3 dL_law_376 rfl rfl ?_
  refine r_iload_n C 0 dL_law_377 rfl rfl ?_
  refine r_iconst (v := iI 2) C dL_law_378 rfl ?_
  refine n_iadd C dL_law_379 ?_
  refine r_sld C hX hbl hbb hLs (6 * n + 2) (congrArg iI (by omega)) (by omega) dL_law_380 ?_
  refine r_i2l C dL_law_381 ?_
  refine r_ldc2 C lc_L_45 dL_law_382 ?_
  refine r_land C dL_law_385 ?_
  refine r_lor C dL_law_386 ?_
  refine r_eqI eI ?_
  refine r_eqL eL ?_
  refine cV1_EI C (k_X5_put XX hS hI hR hF hXX eXX) cw_L_47 (rm_ok rfl rfl hc0 hs0) (Nat.le_of_ble_eq_true rfl) hF.1 dL_law_387 (fun r1 I1 L1 h1 => ?_)
  obtain ⟨a1, X1, hr1, hR1, eI1, eL1⟩ := h1
  have hrow1 : ∀ k, L1 (M + 1) k = lI (a k) := fun k => by rw [eL1, cL_out (by omega)]; exact hrow k
  refine r_aload_n C 1 dL_law_390 rfl rfl ?_
  refine r_aload_n C 3 dL_law_391 rfl rfl ?_
  refine r_iload_n C 0 dL_law_392 rfl rfl ?_
  refine r_iconst (v := iI 1) C dL_law_393 rfl ?_
  refine n_iadd C dL_law_394 ?_
  refine r_sld C hX hbl hbb hLs (6 * n + 1) (congrArg iI (by omega)) (by omega) dL_law_395 ?_
  refine r_i2l C dL_law_396 ?_
  refine r_bipush (v := 32) C dL_law_397 (by decide) ?_
  refine r_lshl C dL_law_399 ?_
  refine r_aload_n C 3 dL_law_400 rfl rfl ?_
  refine r_iload_n C 0 dL_law_401 rfl rfl ?_
  refine r_iconst (v := iI 2) C dL_law_402 rfl ?_
  refine n_iadd C dL_law_403 ?_
  refine r_sld C hX hbl hbb hLs (6 * n + 2) (congrArg iI (by omega)) (by omega) dL_law_404 ?_
  refine r_i2l C dL_law_405 ?_
  refine r_ldc2 C lc_L_45 dL_law_406 ?_
  refine r_land C dL_law_409 ?_
  refine r_lor C dL_law_410 ?_
  refine r_eqL (rL_self hrow1).symm ?_
  refine cV1_EI C (k_X6_put hI XX hM hXX eXX) cw_L_51 (rm_ok rfl rfl hc0 hs0) (Nat.le_of_ble_eq_true rfl) hM.1.1 dL_law_411 (fun r2 I2 L2 h2 => ?_)
  obtain ⟨hr1, ha1⟩ := hr1
  obtain ⟨hr2, eI2, eL2⟩ := h2
  have hMB : MB I1 M (fun o k => (I1 (M + o) k).toInt) I2 := by rw [eI2]; exact MB_rf
  have hq := hr1.trans hr2.symm
  have hok : OK (N + 243) 1000000 a1 ∧ PcOK a1 := by rw [ha1]; exact ⟨OK_N (put_OK hO _) (by omega) hN, Pc_put hI hPc _⟩
  rw [← ha1] at eL2
  refine r_icmp_eq (tgt := 850) C dL_law_414 (by decide) (fun _ => ?_) (fun hne => absurd (congrArg iI hq) hne)
  refine r_wide hc2 hs2 ?_
  exact kk _ _ _ _ (h.stepA hg (by omega) hN eI1 eL1 hR1 (MB_s hMB) (fun y y1 y2 => by rw [eL2, rL_out y1]) (fun k => by rw [eL2, rL_at]) hok.1 hok.2)
set_option maxHeartbeats 4000000 in
set_option maxRecDepth 20000 in
theorem lc_wipe {p : Program} {l : Launch} {e : Env} {s : State} {m : MethodId} {args : Array Value} {below : List Frame} {meth : Method} {c : Code} {G : Gd} {base : Nat} {Q : State → Prop} {cells slots : Nat} (C : Cx p s m args c cL_law 4 RL G base) {b Ls : Nat} {xs : Nat → Int32} (hX : va_X b Ls xs s s.heap) (hbl : b < s.heap.size) (hbb : b < base) (hLs : Ls ≤ 3072) {F B S M n : Nat} {N : Int} {Y : MY} {I : MI} {L : ML} {a : Sa} {x3 : Int} (hx3 : x3 = 6 * (n : Int)) (hn : 6 * n + 6 ≤ Ls) (hg : Geo base F B S M) (h : LI base F B S M N Y I L a) (hN : N + 243 ≤ 400000) (hc : cells + 206 ≤ 600000) (hs : slots + 2279 ≤ 7302250) (kk : ∀ Y' I' L' a', LI base F B S M (N + 243) Y' I' L' a' → Rn p l e room_1 s m args below meth c 4 G base Q 850 [(3, .int (iI x3)), (2, .ref M), (1, .ref F), (0, .ref b)] [] Y' I' L' (cells + 206) (slots + 2279)) : Rn p l e room_1 s m args below meth c 4 G base Q 419 [(3, .int (iI x3)), (2, .ref M), (1, .ref F), (0, .ref b)] [] Y I L cells slots := by
  obtain ⟨⟨hF, hS, hFs, hSl, hM⟩, ⟨⟨X, eI, eL, hR⟩, hrow, hO, hPc⟩, hcp, hsl, hd1, hd2, hd3⟩ := id h
  obtain ⟨hI, hNw, hLg⟩ := id hO
  have hgg := hg
  obtain ⟨g1, g2, g3, g4⟩ := hgg
  have hT := hI.1
  unfold TopOK at hT
  have hc0 : cells ≤ room_1.cells := by show cells ≤ 600000; omega
  have hs0 : slots ≤ room_1.slots := by show slots ≤ 7302250; omega
  have hc1 : cells + 206 ≤ room_1.cells := hc
  have hs1 : slots + 2279 ≤ room_1.slots := hs
  have hc2 : cells ≤ cells + 206 := Nat.le_add_right _ _
  have hs2 : slots ≤ slots + 2279 := Nat.le_add_right _ _
  refine r_aload_n C 2 dL_law_419 rfl rfl ?_
  refine r_eqI eI ?_
  refine r_eqL eL ?_
  refine cV0_EI C (k_X5_wipe hS hI hR hF ) cw_L_52 (rm_ok rfl rfl hc0 hs0) (Nat.le_of_ble_eq_true rfl) hF.1 dL_law_420 (fun r1 I1 L1 h1 => ?_)
  obtain ⟨a1, X1, hr1, hR1, eI1, eL1⟩ := h1
  have hrow1 : ∀ k, L1 (M + 1) k = lI (a k) := fun k => by rw [eL1, cL_out (by omega)]; exact hrow k
  refine r_aload_n C 1 dL_law_423 rfl rfl ?_
  refine r_eqL (rL_self hrow1).symm ?_
  refine cV0_EI C (k_X6_wipe hI hM ) cw_L_56 (rm_ok rfl rfl hc0 hs0) (Nat.le_of_ble_eq_true rfl) hM.1.1 dL_law_424 (fun r2 I2 L2 h2 => ?_)
  obtain ⟨hr1, ha1⟩ := hr1
  obtain ⟨hr2, eI2, eL2⟩ := h2
  have hMB : MB I1 M (fun o k => (I1 (M + o) k).toInt) I2 := by rw [eI2]; exact MB_rf
  have hq := hr1.trans hr2.symm
  have hok : OK (N + 243) 1000000 a1 ∧ PcOK a1 := by rw [ha1]; exact ⟨OK_N (wipe_ok hO ⟨by decide, by decide⟩) (by omega) hN, Pc_up hPc ⟨by decide, Or.inr (by decide)⟩⟩
  rw [← ha1] at eL2
  refine r_icmp_eq (tgt := 850) C dL_law_427 (by decide) (fun _ => ?_) (fun hne => absurd (congrArg iI hq) hne)
  refine r_wide hc2 hs2 ?_
  exact kk _ _ _ _ (h.stepA hg (by omega) hN eI1 eL1 hR1 (MB_s hMB) (fun y y1 y2 => by rw [eL2, rL_out y1]) (fun k => by rw [eL2, rL_at]) hok.1 hok.2)
set_option maxHeartbeats 4000000 in
set_option maxRecDepth 20000 in
theorem lc_fault {p : Program} {l : Launch} {e : Env} {s : State} {m : MethodId} {args : Array Value} {below : List Frame} {meth : Method} {c : Code} {G : Gd} {base : Nat} {Q : State → Prop} {cells slots : Nat} (C : Cx p s m args c cL_law 4 RL G base) {b Ls : Nat} {xs : Nat → Int32} (hX : va_X b Ls xs s s.heap) (hbl : b < s.heap.size) (hbb : b < base) (hLs : Ls ≤ 3072) {F B S M n : Nat} {N : Int} {Y : MY} {I : MI} {L : ML} {a : Sa} {x3 : Int} (hx3 : x3 = 6 * (n : Int)) (hn : 6 * n + 6 ≤ Ls) (hg : Geo base F B S M) (h : LI base F B S M N Y I L a) (hN : N + 243 ≤ 400000) (hc : cells + 206 ≤ 600000) (hs : slots + 2279 ≤ 7302250) (kk : ∀ Y' I' L' a', LI base F B S M (N + 243) Y' I' L' a' → Rn p l e room_1 s m args below meth c 4 G base Q 850 [(3, .int (iI x3)), (2, .ref M), (1, .ref F), (0, .ref b)] [] Y' I' L' (cells + 206) (slots + 2279)) : Rn p l e room_1 s m args below meth c 4 G base Q 432 [(3, .int (iI x3)), (2, .ref M), (1, .ref F), (0, .ref b)] [] Y I L cells slots := by
  obtain ⟨⟨hF, hS, hFs, hSl, hM⟩, ⟨⟨X, eI, eL, hR⟩, hrow, hO, hPc⟩, hcp, hsl, hd1, hd2, hd3⟩ := id h
  obtain ⟨hI, hNw, hLg⟩ := id hO
  have hgg := hg
  obtain ⟨g1, g2, g3, g4⟩ := hgg
  have hT := hI.1
  unfold TopOK at hT
  have hc0 : cells ≤ room_1.cells := by show cells ≤ 600000; omega
  have hs0 : slots ≤ room_1.slots := by show slots ≤ 7302250; omega
  have hc1 : cells + 206 ≤ room_1.cells := hc
  have hs1 : slots + 2279 ≤ room_1.slots := hs
  have hc2 : cells ≤ cells + 206 := Nat.le_add_right _ _
  have hs2 : slots ≤ slots + 2279 := Nat.le_add_right _ _
  refine r_aload_n C 2 dL_law_432 rfl rfl ?_
  refine r_eqI eI ?_
  refine r_eqL eL ?_
  refine cV0_EI C (k_X5_fault hS hI hR hF ) cw_L_57 (rm_ok rfl rfl hc0 hs0) (Nat.le_of_ble_eq_true rfl) hF.1 dL_law_433 (fun r1 I1 L1 h1 => ?_)
  obtain ⟨a1, X1, hr1, hR1, eI1, eL1⟩ := h1
  have hrow1 : ∀ k, L1 (M + 1) k = lI (a k) := fun k => by rw [eL1, cL_out (by omega)]; exact hrow k
  refine r_aload_n C 1 dL_law_436 rfl rfl ?_
  refine r_eqI (mI_me I1 M) ?_
  refine r_eqL (rL_self hrow1).symm ?_
  refine cV0_EI C (k_X6_fault hI hM ) cw_L_60 (rm_ok rfl rfl hc0 hs0) (Nat.le_of_ble_eq_true rfl) hM.1.1 dL_law_437 (fun r2 I2 L2 h2 => ?_)
  obtain ⟨hr1, ha1⟩ := hr1
  obtain ⟨hr2, eL2, b2, eI2, eb, -⟩ := h2
  have hMB : MB I1 M (fun o k => (I1 (M + o) k).toInt) I2 := ⟨b2, eI2, eb⟩
  have hq := hr1.trans hr2.symm
  have hok : OK (N + 243) 1000000 a1 ∧ PcOK a1 := by rw [ha1]; exact ⟨OK_N hO (by omega) hN, hPc⟩
  rw [← ha1] at eL2
  refine r_icmp_eq (tgt := 850) C dL_law_440 (by decide) (fun _ => ?_) (fun hne => absurd (congrArg iI hq) hne)
  refine r_wide hc2 hs2 ?_
  exact kk _ _ _ _ (h.stepA hg (by omega) hN eI1 eL1 hR1 (MB_s hMB) (fun y y1 y2 => by rw [eL2, rL_out y1]) (fun k => by rw [eL2, rL_at]) hok.1 hok.2)
set_option maxHeartbeats 4000000 in
set_option maxRecDepth 20000 in
theorem lc_load {p : Program} {l : Launch} {e : Env} {s : State} {m : MethodId} {args : Array Value} {below : List Frame} {meth : Method} {c : Code} {G : Gd} {base : Nat} {Q : State → Prop} {cells slots : Nat} (C : Cx p s m args c cL_law 4 RL G base) {b Ls : Nat} {xs : Nat → Int32} (hX : va_X b Ls xs s s.heap) (hbl : b < s.heap.size) (hbb : b < base) (hLs : Ls ≤ 3072) {F B S M n : Nat} {N : Int} {Y : MY} {I : MI} {L : ML} {a : Sa} {x3 : Int} (hx3 : x3 = 6 * (n : Int)) (hn : 6 * n + 6 ≤ Ls) (hg : Geo base F B S M) (h : LI base F B S M N Y I L a) (hN : N + 243 ≤ 400000) (hc : cells + 206 ≤ 600000) (hs : slots + 2279 ≤ 7302250) (kk : ∀ Y' I' L' a', LI base F B S M (N + 243) Y' I' L' a' → Rn p l e room_1 s m args below meth c 4 G base Q 850 [(3, .int (iI x3)), (2, .ref M), (1, .ref F), (0, .ref b)] [] Y' I' L' (cells + 206) (slots + 2279)) : Rn p l e room_1 s m args below meth c 4 G base Q 445 [(3, .int (iI x3)), (2, .ref M), (1, .ref F), (0, .ref b)] [] Y I L cells slots := by
  obtain ⟨⟨hF, hS, hFs, hSl, hM⟩, ⟨⟨X, eI, eL, hR⟩, hrow, hO, hPc⟩, hcp, hsl, hd1, hd2, hd3⟩ := id h
  obtain ⟨hI, hNw, hLg⟩ := id hO
  have hgg := hg
  obtain ⟨g1, g2, g3, g4⟩ := hgg
  have hT := hI.1
  unfold TopOK at hT
  have hc0 : cells ≤ room_1.cells := by show cells ≤ 600000; omega
  have hs0 : slots ≤ room_1.slots := by show slots ≤ 7302250; omega
  have hc1 : cells + 206 ≤ room_1.cells := hc
  have hs1 : slots + 2279 ≤ room_1.slots := hs
  have hc2 : cells ≤ cells + 206 := Nat.le_add_right _ _
  have hs2 : slots ≤ slots + 2279 := Nat.le_add_right _ _
  refine r_aload_n C 2 dL_law_445 rfl rfl ?_
  refine r_eqI eI ?_
  refine r_eqL eL ?_
  refine cV0_EI C (k_X5_load hS hI hR hF hNw hLg hN) cw_L_61 (rm_ok rfl rfl hc0 hs0) (Nat.le_of_ble_eq_true rfl) hF.1 dL_law_446 (fun r1 I1 L1 h1 => ?_)
  obtain ⟨a1, X1, hr1, hR1, eI1, eL1⟩ := h1
  have hrow1 : ∀ k, L1 (M + 1) k = lI (a k) := fun k => by rw [eL1, cL_out (by omega)]; exact hrow k
  refine r_aload_n C 1 dL_law_449 rfl rfl ?_
  refine r_eqI (mI_me I1 M) ?_
  refine r_eqL (rL_self hrow1).symm ?_
  refine cV0_EI C (k_X6_load hI hM hNw hLg hN) cw_L_64 (rm_ok rfl rfl hc0 hs0) (Nat.le_of_ble_eq_true rfl) hM.1.1 dL_law_450 (fun r2 I2 L2 h2 => ?_)
  obtain ⟨hr1, ha1⟩ := hr1
  obtain ⟨hr2, eL2, hMB⟩ := h2
  have hq := hr1.trans hr2.symm
  have hok : OK (N + 243) 1000000 a1 ∧ PcOK a1 := by rw [ha1]; exact ⟨load_OK hO hN, Pc_load hO hPc hN⟩
  rw [← ha1] at eL2
  refine r_icmp_eq (tgt := 850) C dL_law_453 (by decide) (fun _ => ?_) (fun hne => absurd (congrArg iI hq) hne)
  refine r_wide hc2 hs2 ?_
  exact kk _ _ _ _ (h.stepA hg (by omega) hN eI1 eL1 hR1 (MB_s hMB) (fun y y1 y2 => by rw [eL2, rL_out y1]) (fun k => by rw [eL2, rL_at]) hok.1 hok.2)
set_option maxHeartbeats 4000000 in
set_option maxRecDepth 20000 in
theorem lc_advance {p : Program} {l : Launch} {e : Env} {s : State} {m : MethodId} {args : Array Value} {below : List Frame} {meth : Method} {c : Code} {G : Gd} {base : Nat} {Q : State → Prop} {cells slots : Nat} (C : Cx p s m args c cL_law 4 RL G base) {b Ls : Nat} {xs : Nat → Int32} (hX : va_X b Ls xs s s.heap) (hbl : b < s.heap.size) (hbb : b < base) (hLs : Ls ≤ 3072) {F B S M n : Nat} {N : Int} {Y : MY} {I : MI} {L : ML} {a : Sa} {x3 : Int} (hx3 : x3 = 6 * (n : Int)) (hn : 6 * n + 6 ≤ Ls) (hg : Geo base F B S M) (h : LI base F B S M N Y I L a) (hN : N + 243 ≤ 400000) (hc : cells + 206 ≤ 600000) (hs : slots + 2279 ≤ 7302250) (kk : ∀ Y' I' L' a', LI base F B S M (N + 243) Y' I' L' a' → Rn p l e room_1 s m args below meth c 4 G base Q 850 [(3, .int (iI x3)), (2, .ref M), (1, .ref F), (0, .ref b)] [] Y' I' L' (cells + 206) (slots + 2279)) : Rn p l e room_1 s m args below meth c 4 G base Q 458 [(3, .int (iI x3)), (2, .ref M), (1, .ref F), (0, .ref b)] [] Y I L cells slots := by
  obtain ⟨⟨hF, hS, hFs, hSl, hM⟩, ⟨⟨X, eI, eL, hR⟩, hrow, hO, hPc⟩, hcp, hsl, hd1, hd2, hd3⟩ := id h
  obtain ⟨hI, hNw, hLg⟩ := id hO
  have hgg := hg
  obtain ⟨g1, g2, g3, g4⟩ := hgg
  have hT := hI.1
  unfold TopOK at hT
  have hc0 : cells ≤ room_1.cells := by show cells ≤ 600000; omega
  have hs0 : slots ≤ room_1.slots := by show slots ≤ 7302250; omega
  have hc1 : cells + 206 ≤ room_1.cells := hc
  have hs1 : slots + 2279 ≤ room_1.slots := hs
  have hc2 : cells ≤ cells + 206 := Nat.le_add_right _ _
  have hs2 : slots ≤ slots + 2279 := Nat.le_add_right _ _
  refine r_aload_n C 2 dL_law_458 rfl rfl ?_
  refine r_aload_n C 3 dL_law_459 rfl rfl ?_
  refine r_iload_n C 0 dL_law_460 rfl rfl ?_
  refine r_iconst (v := iI 1) C dL_law_461 rfl ?_
  refine n_iadd C dL_law_462 ?_
  refine r_sld C hX hbl hbb hLs (6 * n + 1) (congrArg iI (by omega)) (by omega) dL_law_463 ?_
  refine r_eqI eI ?_
  refine r_eqL eL ?_
  refine cV1_EI C (k_X5_advance hS hI hR hF hNw hLg (Int.le_refl _) (i32t _)) cw_L_65 (rm_ok rfl rfl hc0 hs0) (Nat.le_of_ble_eq_true rfl) hF.1 dL_law_464 (fun r1 I1 L1 h1 => ?_)
  obtain ⟨a1, X1, hr1, hR1, eI1, eL1⟩ := h1
  have hrow1 : ∀ k, L1 (M + 1) k = lI (a k) := fun k => by rw [eL1, cL_out (by omega)]; exact hrow k
  refine r_aload_n C 1 dL_law_467 rfl rfl ?_
  refine r_aload_n C 3 dL_law_468 rfl rfl ?_
  refine r_iload_n C 0 dL_law_469 rfl rfl ?_
  refine r_iconst (v := iI 1) C dL_law_470 rfl ?_
  refine n_iadd C dL_law_471 ?_
  refine r_sld C hX hbl hbb hLs (6 * n + 1) (congrArg iI (by omega)) (by omega) dL_law_472 ?_
  refine r_eqI (mI_me I1 M) ?_
  refine r_eqL (rL_self hrow1).symm ?_
  refine cV1_EI C (k_X6_advance hI hM hNw hLg (Int.le_refl _) (i32t _)) cw_L_68 (rm_ok rfl rfl hc0 hs0) (Nat.le_of_ble_eq_true rfl) hM.1.1 dL_law_473 (fun r2 I2 L2 h2 => ?_)
  obtain ⟨hMB, hd⟩ := h2
  obtain ⟨a2, hA2, eL2⟩ : ∃ a2, AdvR a (xs (6 * n + 1)).toInt r2 a2 ∧ L2 = rL L1 (M + 1) a2 := by
    rcases hd with ⟨c1, c2, c3⟩ | ⟨c1, c2, c3, c4⟩ | ⟨c1, c2, c3, c4⟩
    · exact ⟨_, Or.inl ⟨c1, c2, rfl⟩, c3⟩
    · exact ⟨_, Or.inr (Or.inl ⟨c1, c2, c3, rfl⟩), c4⟩
    · exact ⟨_, Or.inr (Or.inr ⟨c1, c2, c3, rfl⟩), c4⟩
  obtain ⟨hq, ha⟩ := AdvR_det hr1 hA2
  subst ha
  have hok := AdvR_ok hO hPc hr1
  refine r_icmp_eq (tgt := 850) C dL_law_476 (by decide) (fun _ => ?_) (fun hne => absurd (congrArg iI hq) hne)
  refine r_wide hc2 hs2 ?_
  exact kk _ _ _ _ (h.stepA hg (by omega) hN eI1 eL1 hR1 (MB_s hMB) (fun y y1 y2 => by rw [eL2, rL_out y1]) (fun k => by rw [eL2, rL_at]) (OK_N hok.1 (by omega) hN) hok.2)
set_option maxHeartbeats 4000000 in
set_option maxRecDepth 20000 in
theorem lc_awaitDelivery {p : Program} {l : Launch} {e : Env} {s : State} {m : MethodId} {args : Array Value} {below : List Frame} {meth : Method} {c : Code} {G : Gd} {base : Nat} {Q : State → Prop} {cells slots : Nat} (C : Cx p s m args c cL_law 4 RL G base) {b Ls : Nat} {xs : Nat → Int32} (hX : va_X b Ls xs s s.heap) (hbl : b < s.heap.size) (hbb : b < base) (hLs : Ls ≤ 3072) {F B S M n : Nat} {N : Int} {Y : MY} {I : MI} {L : ML} {a : Sa} {x3 : Int} (hx3 : x3 = 6 * (n : Int)) (hn : 6 * n + 6 ≤ Ls) (hg : Geo base F B S M) (h : LI base F B S M N Y I L a) (hN : N + 243 ≤ 400000) (hc : cells + 206 ≤ 600000) (hs : slots + 2279 ≤ 7302250) (kk : ∀ Y' I' L' a', LI base F B S M (N + 243) Y' I' L' a' → Rn p l e room_1 s m args below meth c 4 G base Q 850 [(3, .int (iI x3)), (2, .ref M), (1, .ref F), (0, .ref b)] [] Y' I' L' (cells + 206) (slots + 2279)) : Rn p l e room_1 s m args below meth c 4 G base Q 481 [(3, .int (iI x3)), (2, .ref M), (1, .ref F), (0, .ref b)] [] Y I L cells slots := by
  obtain ⟨⟨hF, hS, hFs, hSl, hM⟩, ⟨⟨X, eI, eL, hR⟩, hrow, hO, hPc⟩, hcp, hsl, hd1, hd2, hd3⟩ := id h
  obtain ⟨hI, hNw, hLg⟩ := id hO
  have hgg := hg
  obtain ⟨g1, g2, g3, g4⟩ := hgg
  have hT := hI.1
  unfold TopOK at hT
  have hc0 : cells ≤ room_1.cells := by show cells ≤ 600000; omega
  have hs0 : slots ≤ room_1.slots := by show slots ≤ 7302250; omega
  have hc1 : cells + 206 ≤ room_1.cells := hc
  have hs1 : slots + 2279 ≤ room_1.slots := hs
  have hc2 : cells ≤ cells + 206 := Nat.le_add_right _ _
  have hs2 : slots ≤ slots + 2279 := Nat.le_add_right _ _
  refine r_aload_n C 2 dL_law_481 rfl rfl ?_
  refine r_aload_n C 3 dL_law_482 rfl rfl ?_
  refine r_iload_n C 0 dL_law_483 rfl rfl ?_
  refine r_iconst (v := iI 1) C dL_law_484 rfl ?_
  refine n_iadd C dL_law_485 ?_
  refine r_sld C hX hbl hbb hLs (6 * n + 1) (congrArg iI (by omega)) (by omega) dL_law_486 ?_
  refine r_eqI eI ?_
  refine r_eqL eL ?_
  refine cV1_EI C (k_X5_awaitDelivery hS hI hR hF hNw hLg (Int.le_refl _) (i32t _)) cw_L_69 (rm_ok rfl rfl hc0 hs0) (Nat.le_of_ble_eq_true rfl) hF.1 dL_law_487 (fun r1 I1 L1 h1 => ?_)
  obtain ⟨a1, X1, hr1, hR1, eI1, eL1⟩ := h1
  have hrow1 : ∀ k, L1 (M + 1) k = lI (a k) := fun k => by rw [eL1, cL_out (by omega)]; exact hrow k
  refine r_aload_n C 1 dL_law_490 rfl rfl ?_
  refine r_aload_n C 3 dL_law_491 rfl rfl ?_
  refine r_iload_n C 0 dL_law_492 rfl rfl ?_
  refine r_iconst (v := iI 1) C dL_law_493 rfl ?_
  refine n_iadd C dL_law_494 ?_
  refine r_sld C hX hbl hbb hLs (6 * n + 1) (congrArg iI (by omega)) (by omega) dL_law_495 ?_
  refine r_eqI (mI_me I1 M) ?_
  refine r_eqL (rL_self hrow1).symm ?_
  refine cV1_EI C (k_X6_awaitDelivery hI hM hNw hLg (Int.le_refl _) (i32t _)) cw_L_72 (rm_ok rfl rfl hc0 hs0) (Nat.le_of_ble_eq_true rfl) hM.1.1 dL_law_496 (fun r2 I2 L2 h2 => ?_)
  obtain ⟨hMB, hd⟩ := h2
  obtain ⟨a2, hA2, eL2⟩ : ∃ a2, AwdR a (xs (6 * n + 1)).toInt r2 a2 ∧ L2 = rL L1 (M + 1) a2 := by
    rcases hd with ⟨c1, c2, c3⟩ | ⟨c1, c2, c3, c4⟩ | ⟨c1, c2, c3, c4⟩
    · exact ⟨_, Or.inl ⟨c1, c2, rfl⟩, c3⟩
    · exact ⟨_, Or.inr (Or.inl ⟨c1, c2, c3, rfl⟩), c4⟩
    · exact ⟨_, Or.inr (Or.inr ⟨c1, c2, c3, rfl⟩), c4⟩
  obtain ⟨hq, ha⟩ := AwdR_det hr1 hA2
  subst ha
  have hok := AwdR_ok hO hPc hr1
  refine r_icmp_eq (tgt := 850) C dL_law_499 (by decide) (fun _ => ?_) (fun hne => absurd (congrArg iI hq) hne)
  refine r_wide hc2 hs2 ?_
  exact kk _ _ _ _ (h.stepA hg (by omega) hN eI1 eL1 hR1 (MB_s hMB) (fun y y1 y2 => by rw [eL2, rL_out y1]) (fun k => by rw [eL2, rL_at]) (OK_N hok.1 (by omega) hN) hok.2)
set_option maxHeartbeats 4000000 in
set_option maxRecDepth 20000 in
theorem lc_flow {p : Program} {l : Launch} {e : Env} {s : State} {m : MethodId} {args : Array Value} {below : List Frame} {meth : Method} {c : Code} {G : Gd} {base : Nat} {Q : State → Prop} {cells slots : Nat} (C : Cx p s m args c cL_law 4 RL G base) {b Ls : Nat} {xs : Nat → Int32} (hX : va_X b Ls xs s s.heap) (hbl : b < s.heap.size) (hbb : b < base) (hLs : Ls ≤ 3072) {F B S M n : Nat} {N : Int} {Y : MY} {I : MI} {L : ML} {a : Sa} {x3 : Int} (hx3 : x3 = 6 * (n : Int)) (hn : 6 * n + 6 ≤ Ls) (hg : Geo base F B S M) (h : LI base F B S M N Y I L a) (hN : N + 243 ≤ 400000) (hc : cells + 206 ≤ 600000) (hs : slots + 2279 ≤ 7302250) (kk : ∀ Y' I' L' a', LI base F B S M (N + 243) Y' I' L' a' → Rn p l e room_1 s m args below meth c 4 G base Q 850 [(3, .int (iI x3)), (2, .ref M), (1, .ref F), (0, .ref b)] [] Y' I' L' (cells + 206) (slots + 2279)) : Rn p l e room_1 s m args below meth c 4 G base Q 504 [(3, .int (iI x3)), (2, .ref M), (1, .ref F), (0, .ref b)] [] Y I L cells slots := by
  obtain ⟨⟨hF, hS, hFs, hSl, hM⟩, ⟨⟨X, eI, eL, hR⟩, hrow, hO, hPc⟩, hcp, hsl, hd1, hd2, hd3⟩ := id h
  obtain ⟨hI, hNw, hLg⟩ := id hO
  have hgg := hg
  obtain ⟨g1, g2, g3, g4⟩ := hgg
  have hT := hI.1
  unfold TopOK at hT
  have hc0 : cells ≤ room_1.cells := by show cells ≤ 600000; omega
  have hs0 : slots ≤ room_1.slots := by show slots ≤ 7302250; omega
  have hc1 : cells + 206 ≤ room_1.cells := hc
  have hs1 : slots + 2279 ≤ room_1.slots := hs
  have hc2 : cells ≤ cells + 206 := Nat.le_add_right _ _
  have hs2 : slots ≤ slots + 2279 := Nat.le_add_right _ _
  refine r_aload_n C 2 dL_law_504 rfl rfl ?_
  refine r_aload_n C 3 dL_law_505 rfl rfl ?_
  refine r_iload_n C 0 dL_law_506 rfl rfl ?_
  refine r_iconst (v := iI 1) C dL_law_507 rfl ?_
  refine n_iadd C dL_law_508 ?_
  refine r_sld C hX hbl hbb hLs (6 * n + 1) (congrArg iI (by omega)) (by omega) dL_law_509 ?_
  refine r_aload_n C 3 dL_law_510 rfl rfl ?_
  refine r_iload_n C 0 dL_law_511 rfl rfl ?_
  refine r_iconst (v := iI 2) C dL_law_512 rfl ?_
  refine n_iadd C dL_law_513 ?_
  refine r_sld C hX hbl hbb hLs (6 * n + 2) (congrArg iI (by omega)) (by omega) dL_law_514 ?_
  refine r_eqI eI ?_
  refine r_eqL eL ?_
  refine cV2_PI C (k_X5_flow hS hI hR hF (i32t _) (i32t _)) cw_L_73 (rm_ok rfl rfl hc0 hs0) (Nat.le_of_ble_eq_true rfl) hF.1 dL_law_515 ?_
  refine r_eqI eI.symm ?_
  refine r_eqL eL.symm ?_
  refine r_aload_n C 1 dL_law_518 rfl rfl ?_
  refine r_aload_n C 3 dL_law_519 rfl rfl ?_
  refine r_iload_n C 0 dL_law_520 rfl rfl ?_
  refine r_iconst (v := iI 1) C dL_law_521 rfl ?_
  refine n_iadd C dL_law_522 ?_
  refine r_sld C hX hbl hbb hLs (6 * n + 1) (congrArg iI (by omega)) (by omega) dL_law_523 ?_
  refine r_aload_n C 3 dL_law_524 rfl rfl ?_
  refine r_iload_n C 0 dL_law_525 rfl rfl ?_
  refine r_iconst (v := iI 2) C dL_law_526 rfl ?_
  refine n_iadd C dL_law_527 ?_
  refine r_sld C hX hbl hbb hLs (6 * n + 2) (congrArg iI (by omega)) (by omega) dL_law_528 ?_
  refine r_eqL (rL_self hrow).symm ?_
  refine cV2_PI C (k_X6_flow hI hM (i32t _) (i32t _)) cw_L_76 (rm_ok rfl rfl hc0 hs0) (Nat.le_of_ble_eq_true rfl) hM.1.1 dL_law_529 ?_
  refine r_eqL (rL_self hrow) ?_
  refine r_icmp_eq (tgt := 850) C dL_law_532 (by decide) (fun _ => ?_) (fun hne => absurd rfl hne)
  refine r_wide hc2 hs2 ?_
  exact kk _ _ _ _ (h.stepA hg (by omega) hN eI eL hR ⟨fun _ _ => rfl, rfl⟩ (fun _ _ _ => rfl) hrow (OK_N hO (by omega) hN) hPc)
set_option maxHeartbeats 4000000 in
set_option maxRecDepth 20000 in
theorem lc_amount {p : Program} {l : Launch} {e : Env} {s : State} {m : MethodId} {args : Array Value} {below : List Frame} {meth : Method} {c : Code} {G : Gd} {base : Nat} {Q : State → Prop} {cells slots : Nat} (C : Cx p s m args c cL_law 4 RL G base) {b Ls : Nat} {xs : Nat → Int32} (hX : va_X b Ls xs s s.heap) (hbl : b < s.heap.size) (hbb : b < base) (hLs : Ls ≤ 3072) {F B S M n : Nat} {N : Int} {Y : MY} {I : MI} {L : ML} {a : Sa} {x3 : Int} (hx3 : x3 = 6 * (n : Int)) (hn : 6 * n + 6 ≤ Ls) (hg : Geo base F B S M) (h : LI base F B S M N Y I L a) (hN : N + 243 ≤ 400000) (hc : cells + 206 ≤ 600000) (hs : slots + 2279 ≤ 7302250) (kk : ∀ Y' I' L' a', LI base F B S M (N + 243) Y' I' L' a' → Rn p l e room_1 s m args below meth c 4 G base Q 850 [(3, .int (iI x3)), (2, .ref M), (1, .ref F), (0, .ref b)] [] Y' I' L' (cells + 206) (slots + 2279)) : Rn p l e room_1 s m args below meth c 4 G base Q 537 [(3, .int (iI x3)), (2, .ref M), (1, .ref F), (0, .ref b)] [] Y I L cells slots := by
  obtain ⟨⟨hF, hS, hFs, hSl, hM⟩, ⟨⟨X, eI, eL, hR⟩, hrow, hO, hPc⟩, hcp, hsl, hd1, hd2, hd3⟩ := id h
  obtain ⟨hI, hNw, hLg⟩ := id hO
  have hgg := hg
  obtain ⟨g1, g2, g3, g4⟩ := hgg
  have hT := hI.1
  unfold TopOK at hT
  have hc0 : cells ≤ room_1.cells := by show cells ≤ 600000; omega
  have hs0 : slots ≤ room_1.slots := by show slots ≤ 7302250; omega
  have hc1 : cells + 206 ≤ room_1.cells := hc
  have hs1 : slots + 2279 ≤ room_1.slots := hs
  have hc2 : cells ≤ cells + 206 := Nat.le_add_right _ _
  have hs2 : slots ≤ slots + 2279 := Nat.le_add_right _ _
  refine r_aload_n C 2 dL_law_537 rfl rfl ?_
  refine r_aload_n C 3 dL_law_538 rfl rfl ?_
  refine r_iload_n C 0 dL_law_539 rfl rfl ?_
  refine r_iconst (v := iI 1) C dL_law_540 rfl ?_
  refine n_iadd C dL_law_541 ?_
  refine r_sld C hX hbl hbb hLs (6 * n + 1) (congrArg iI (by omega)) (by omega) dL_law_542 ?_
  refine r_aload_n C 3 dL_law_543 rfl rfl ?_
  refine r_iload_n C 0 dL_law_544 rfl rfl ?_
  refine r_iconst (v := iI 2) C dL_law_545 rfl ?_
  refine n_iadd C dL_law_546 ?_
  refine r_sld C hX hbl hbb hLs (6 * n + 2) (congrArg iI (by omega)) (by omega) dL_law_547 ?_
  refine r_eqI eI ?_
  refine r_eqL eL ?_
  refine cV2_PL C (k_X5_amount hS hI hR hF (i32t _) (i32t _)) cw_L_77 (rm_ok rfl rfl hc0 hs0) (Nat.le_of_ble_eq_true rfl) hF.1 dL_law_548 ?_
  refine r_eqI eI.symm ?_
  refine r_eqL eL.symm ?_
  refine r_aload_n C 1 dL_law_551 rfl rfl ?_
  refine r_aload_n C 3 dL_law_552 rfl rfl ?_
  refine r_iload_n C 0 dL_law_553 rfl rfl ?_
  refine r_iconst (v := iI 1) C dL_law_554 rfl ?_
  refine n_iadd C dL_law_555 ?_
  refine r_sld C hX hbl hbb hLs (6 * n + 1) (congrArg iI (by omega)) (by omega) dL_law_556 ?_
  refine r_aload_n C 3 dL_law_557 rfl rfl ?_
  refine r_iload_n C 0 dL_law_558 rfl rfl ?_
  refine r_iconst (v := iI 2) C dL_law_559 rfl ?_
  refine n_iadd C dL_law_560 ?_
  refine r_sld C hX hbl hbb hLs (6 * n + 2) (congrArg iI (by omega)) (by omega) dL_law_561 ?_
  refine r_eqL (rL_self hrow).symm ?_
  refine cV2_PL C (k_X6_amount hI hM (i32t _) (i32t _)) cw_L_81 (rm_ok rfl rfl hc0 hs0) (Nat.le_of_ble_eq_true rfl) hM.1.1 dL_law_562 ?_
  refine r_eqL (rL_self hrow) ?_
  refine r_lcmp_eq (tgt := 850) C dL_law_565 dL_law_566 rfl rfl (by decide) (fun _ => ?_) (fun hne => absurd rfl hne)
  refine r_wide hc2 hs2 ?_
  exact kk _ _ _ _ (h.stepA hg (by omega) hN eI eL hR ⟨fun _ _ => rfl, rfl⟩ (fun _ _ _ => rfl) hrow (OK_N hO (by omega) hN) hPc)
set_option maxHeartbeats 4000000 in
set_option maxRecDepth 20000 in
theorem lc_virtualTime {p : Program} {l : Launch} {e : Env} {s : State} {m : MethodId} {args : Array Value} {below : List Frame} {meth : Method} {c : Code} {G : Gd} {base : Nat} {Q : State → Prop} {cells slots : Nat} (C : Cx p s m args c cL_law 4 RL G base) {b Ls : Nat} {xs : Nat → Int32} (hX : va_X b Ls xs s s.heap) (hbl : b < s.heap.size) (hbb : b < base) (hLs : Ls ≤ 3072) {F B S M n : Nat} {N : Int} {Y : MY} {I : MI} {L : ML} {a : Sa} {x3 : Int} (hx3 : x3 = 6 * (n : Int)) (hn : 6 * n + 6 ≤ Ls) (hg : Geo base F B S M) (h : LI base F B S M N Y I L a) (hN : N + 243 ≤ 400000) (hc : cells + 206 ≤ 600000) (hs : slots + 2279 ≤ 7302250) (kk : ∀ Y' I' L' a', LI base F B S M (N + 243) Y' I' L' a' → Rn p l e room_1 s m args below meth c 4 G base Q 850 [(3, .int (iI x3)), (2, .ref M), (1, .ref F), (0, .ref b)] [] Y' I' L' (cells + 206) (slots + 2279)) : Rn p l e room_1 s m args below meth c 4 G base Q 571 [(3, .int (iI x3)), (2, .ref M), (1, .ref F), (0, .ref b)] [] Y I L cells slots := by
  obtain ⟨⟨hF, hS, hFs, hSl, hM⟩, ⟨⟨X, eI, eL, hR⟩, hrow, hO, hPc⟩, hcp, hsl, hd1, hd2, hd3⟩ := id h
  obtain ⟨hI, hNw, hLg⟩ := id hO
  have hgg := hg
  obtain ⟨g1, g2, g3, g4⟩ := hgg
  have hT := hI.1
  unfold TopOK at hT
  have hc0 : cells ≤ room_1.cells := by show cells ≤ 600000; omega
  have hs0 : slots ≤ room_1.slots := by show slots ≤ 7302250; omega
  have hc1 : cells + 206 ≤ room_1.cells := hc
  have hs1 : slots + 2279 ≤ room_1.slots := hs
  have hc2 : cells ≤ cells + 206 := Nat.le_add_right _ _
  have hs2 : slots ≤ slots + 2279 := Nat.le_add_right _ _
  refine r_aload_n C 2 dL_law_571 rfl rfl ?_
  refine r_eqI eI ?_
  refine r_eqL eL ?_
  refine cV0_PL C (k_X5_virtualTime hS hI hR hF ) cw_L_82 (rm_ok rfl rfl hc0 hs0) (Nat.le_of_ble_eq_true rfl) hF.1 dL_law_572 ?_
  refine r_eqI eI.symm ?_
  refine r_eqL eL.symm ?_
  refine r_aload_n C 1 dL_law_575 rfl rfl ?_
  refine r_eqL (rL_self hrow).symm ?_
  refine cV0_PL C (k_X6_virtualTime hM ) cw_L_86 (rm_ok rfl rfl hc0 hs0) (Nat.le_of_ble_eq_true rfl) hM.1.1 dL_law_576 ?_
  refine r_eqL (rL_self hrow) ?_
  refine r_lcmp_eq (tgt := 850) C dL_law_579 dL_law_580 rfl rfl (by decide) (fun _ => ?_) (fun hne => absurd rfl hne)
  refine r_wide hc2 hs2 ?_
  exact kk _ _ _ _ (h.stepA hg (by omega) hN eI eL hR ⟨fun _ _ => rfl, rfl⟩ (fun _ _ _ => rfl) hrow (OK_N hO (by omega) hN) hPc)
set_option maxHeartbeats 4000000 in
set_option maxRecDepth 20000 in
theorem lc_link {p : Program} {l : Launch} {e : Env} {s : State} {m : MethodId} {args : Array Value} {below : List Frame} {meth : Method} {c : Code} {G : Gd} {base : Nat} {Q : State → Prop} {cells slots : Nat} (C : Cx p s m args c cL_law 4 RL G base) {b Ls : Nat} {xs : Nat → Int32} (hX : va_X b Ls xs s s.heap) (hbl : b < s.heap.size) (hbb : b < base) (hLs : Ls ≤ 3072) {F B S M n : Nat} {N : Int} {Y : MY} {I : MI} {L : ML} {a : Sa} {x3 : Int} (hx3 : x3 = 6 * (n : Int)) (hn : 6 * n + 6 ≤ Ls) (hg : Geo base F B S M) (h : LI base F B S M N Y I L a) (hN : N + 243 ≤ 400000) (hc : cells + 206 ≤ 600000) (hs : slots + 2279 ≤ 7302250) (kk : ∀ Y' I' L' a', LI base F B S M (N + 243) Y' I' L' a' → Rn p l e room_1 s m args below meth c 4 G base Q 850 [(3, .int (iI x3)), (2, .ref M), (1, .ref F), (0, .ref b)] [] Y' I' L' (cells + 206) (slots + 2279)) : Rn p l e room_1 s m args below meth c 4 G base Q 585 [(3, .int (iI x3)), (2, .ref M), (1, .ref F), (0, .ref b)] [] Y I L cells slots := by
  obtain ⟨⟨hF, hS, hFs, hSl, hM⟩, ⟨⟨X, eI, eL, hR⟩, hrow, hO, hPc⟩, hcp, hsl, hd1, hd2, hd3⟩ := id h
  obtain ⟨hI, hNw, hLg⟩ := id hO
  have hgg := hg
  obtain ⟨g1, g2, g3, g4⟩ := hgg
  have hT := hI.1
  unfold TopOK at hT
  have hc0 : cells ≤ room_1.cells := by show cells ≤ 600000; omega
  have hs0 : slots ≤ room_1.slots := by show slots ≤ 7302250; omega
  have hc1 : cells + 206 ≤ room_1.cells := hc
  have hs1 : slots + 2279 ≤ room_1.slots := hs
  have hc2 : cells ≤ cells + 206 := Nat.le_add_right _ _
  have hs2 : slots ≤ slots + 2279 := Nat.le_add_right _ _
  refine r_aload_n C 2 dL_law_585 rfl rfl ?_
  refine r_aload_n C 3 dL_law_586 rfl rfl ?_
  refine r_iload_n C 0 dL_law_587 rfl rfl ?_
  refine r_iconst (v := iI 1) C dL_law_588 rfl ?_
  refine n_iadd C dL_law_589 ?_
  refine r_sld C hX hbl hbb hLs (6 * n + 1) (congrArg iI (by omega)) (by omega) dL_law_590 ?_
  refine r_eqI eI ?_
  refine r_eqL eL ?_
  refine cV1_PI C (k_X5_link hS hI hR hF hNw (i32t _)) cw_L_87 (rm_ok rfl rfl hc0 hs0) (Nat.le_of_ble_eq_true rfl) hF.1 dL_law_591 ?_
  refine r_eqI eI.symm ?_
  refine r_eqL eL.symm ?_
  refine r_aload_n C 1 dL_law_594 rfl rfl ?_
  refine r_aload_n C 3 dL_law_595 rfl rfl ?_
  refine r_iload_n C 0 dL_law_596 rfl rfl ?_
  refine r_iconst (v := iI 1) C dL_law_597 rfl ?_
  refine n_iadd C dL_law_598 ?_
  refine r_sld C hX hbl hbb hLs (6 * n + 1) (congrArg iI (by omega)) (by omega) dL_law_599 ?_
  refine r_eqI (mI_me I M) ?_
  refine r_eqL (rL_self hrow).symm ?_
  refine cV1_EI C (k_X6_link hI hM (i32t _)) cw_L_90 (rm_ok rfl rfl hc0 hs0) (Nat.le_of_ble_eq_true rfl) hM.1.1 dL_law_600 (fun r2 I2 L2 h2 => ?_)
  obtain ⟨hMB, hr2, eL2⟩ := h2
  have hq := hr2.symm
  have hok : OK (N + 243) 1000000 a ∧ PcOK a := ⟨OK_N hO (by omega) hN, hPc⟩
  refine r_icmp_eq (tgt := 850) C dL_law_603 (by decide) (fun _ => ?_) (fun hne => absurd (congrArg iI hq) hne)
  refine r_wide hc2 hs2 ?_
  exact kk _ _ _ _ (h.stepA hg (by omega) hN eI eL hR (MB_s hMB) (fun y y1 y2 => by rw [eL2, rL_out y1]) (fun k => by rw [eL2, rL_at]) hok.1 hok.2)
set_option maxHeartbeats 4000000 in
set_option maxRecDepth 20000 in
theorem lc_piece {p : Program} {l : Launch} {e : Env} {s : State} {m : MethodId} {args : Array Value} {below : List Frame} {meth : Method} {c : Code} {G : Gd} {base : Nat} {Q : State → Prop} {cells slots : Nat} (C : Cx p s m args c cL_law 4 RL G base) {b Ls : Nat} {xs : Nat → Int32} (hX : va_X b Ls xs s s.heap) (hbl : b < s.heap.size) (hbb : b < base) (hLs : Ls ≤ 3072) {F B S M n : Nat} {N : Int} {Y : MY} {I : MI} {L : ML} {a : Sa} {x3 : Int} (hx3 : x3 = 6 * (n : Int)) (hn : 6 * n + 6 ≤ Ls) (hg : Geo base F B S M) (h : LI base F B S M N Y I L a) (hN : N + 243 ≤ 400000) (hc : cells + 206 ≤ 600000) (hs : slots + 2279 ≤ 7302250) (kk : ∀ Y' I' L' a', LI base F B S M (N + 243) Y' I' L' a' → Rn p l e room_1 s m args below meth c 4 G base Q 850 [(3, .int (iI x3)), (2, .ref M), (1, .ref F), (0, .ref b)] [] Y' I' L' (cells + 206) (slots + 2279)) : Rn p l e room_1 s m args below meth c 4 G base Q 608 [(3, .int (iI x3)), (2, .ref M), (1, .ref F), (0, .ref b)] [] Y I L cells slots := by
  obtain ⟨⟨hF, hS, hFs, hSl, hM⟩, ⟨⟨X, eI, eL, hR⟩, hrow, hO, hPc⟩, hcp, hsl, hd1, hd2, hd3⟩ := id h
  obtain ⟨hI, hNw, hLg⟩ := id hO
  have hgg := hg
  obtain ⟨g1, g2, g3, g4⟩ := hgg
  have hT := hI.1
  unfold TopOK at hT
  have hc0 : cells ≤ room_1.cells := by show cells ≤ 600000; omega
  have hs0 : slots ≤ room_1.slots := by show slots ≤ 7302250; omega
  have hc1 : cells + 206 ≤ room_1.cells := hc
  have hs1 : slots + 2279 ≤ room_1.slots := hs
  have hc2 : cells ≤ cells + 206 := Nat.le_add_right _ _
  have hs2 : slots ≤ slots + 2279 := Nat.le_add_right _ _
  refine r_aload_n C 2 dL_law_608 rfl rfl ?_
  refine r_aload_n C 3 dL_law_609 rfl rfl ?_
  refine r_iload_n C 0 dL_law_610 rfl rfl ?_
  refine r_iconst (v := iI 1) C dL_law_611 rfl ?_
  refine n_iadd C dL_law_612 ?_
  refine r_sld C hX hbl hbb hLs (6 * n + 1) (congrArg iI (by omega)) (by omega) dL_law_613 ?_
  refine r_aload_n C 3 dL_law_614 rfl rfl ?_
  refine r_iload_n C 0 dL_law_615 rfl rfl ?_
  refine r_iconst (v := iI 2) C dL_law_616 rfl ?_
  refine n_iadd C dL_law_617 ?_
  refine r_sld C hX hbl hbb hLs (6 * n + 2) (congrArg iI (by omega)) (by omega) dL_law_618 ?_
  refine r_eqI eI ?_
  refine r_eqL eL ?_
  refine cV2_PI C (k_X5_piece hS hI hR hF hPc (i32t _) (i32t _)) cw_L_91 (rm_ok rfl rfl hc0 hs0) (Nat.le_of_ble_eq_true rfl) hF.1 dL_law_619 ?_
  refine r_eqI eI.symm ?_
  refine r_eqL eL.symm ?_
  refine r_aload_n C 1 dL_law_622 rfl rfl ?_
  refine r_aload_n C 3 dL_law_623 rfl rfl ?_
  refine r_iload_n C 0 dL_law_624 rfl rfl ?_
  refine r_iconst (v := iI 1) C dL_law_625 rfl ?_
  refine n_iadd C dL_law_626 ?_
  refine r_sld C hX hbl hbb hLs (6 * n + 1) (congrArg iI (by omega)) (by omega) dL_law_627 ?_
  refine r_aload_n C 3 dL_law_628 rfl rfl ?_
  refine r_iload_n C 0 dL_law_629 rfl rfl ?_
  refine r_iconst (v := iI 2) C dL_law_630 rfl ?_
  refine n_iadd C dL_law_631 ?_
  refine r_sld C hX hbl hbb hLs (6 * n + 2) (congrArg iI (by omega)) (by omega) dL_law_632 ?_
  refine r_eqL (rL_self hrow).symm ?_
  refine cV2_PI C (k_X6_piece hI hM (i32t _) (i32t _)) cw_L_94 (rm_ok rfl rfl hc0 hs0) (Nat.le_of_ble_eq_true rfl) hM.1.1 dL_law_633 ?_
  refine r_eqL (rL_self hrow) ?_
  refine r_icmp_eq (tgt := 850) C dL_law_636 (by decide) (fun _ => ?_) (fun hne => absurd rfl hne)
  refine r_wide hc2 hs2 ?_
  exact kk _ _ _ _ (h.stepA hg (by omega) hN eI eL hR ⟨fun _ _ => rfl, rfl⟩ (fun _ _ _ => rfl) hrow (OK_N hO (by omega) hN) hPc)
set_option maxHeartbeats 4000000 in
set_option maxRecDepth 20000 in
theorem lc_apart {p : Program} {l : Launch} {e : Env} {s : State} {m : MethodId} {args : Array Value} {below : List Frame} {meth : Method} {c : Code} {G : Gd} {base : Nat} {Q : State → Prop} {cells slots : Nat} (C : Cx p s m args c cL_law 4 RL G base) {b Ls : Nat} {xs : Nat → Int32} (hX : va_X b Ls xs s s.heap) (hbl : b < s.heap.size) (hbb : b < base) (hLs : Ls ≤ 3072) {F B S M n : Nat} {N : Int} {Y : MY} {I : MI} {L : ML} {a : Sa} {x3 : Int} (hx3 : x3 = 6 * (n : Int)) (hn : 6 * n + 6 ≤ Ls) (hg : Geo base F B S M) (h : LI base F B S M N Y I L a) (hN : N + 243 ≤ 400000) (hc : cells + 206 ≤ 600000) (hs : slots + 2279 ≤ 7302250) (kk : ∀ Y' I' L' a', LI base F B S M (N + 243) Y' I' L' a' → Rn p l e room_1 s m args below meth c 4 G base Q 850 [(3, .int (iI x3)), (2, .ref M), (1, .ref F), (0, .ref b)] [] Y' I' L' (cells + 206) (slots + 2279)) : Rn p l e room_1 s m args below meth c 4 G base Q 641 [(3, .int (iI x3)), (2, .ref M), (1, .ref F), (0, .ref b)] [] Y I L cells slots := by
  obtain ⟨⟨hF, hS, hFs, hSl, hM⟩, ⟨⟨X, eI, eL, hR⟩, hrow, hO, hPc⟩, hcp, hsl, hd1, hd2, hd3⟩ := id h
  obtain ⟨hI, hNw, hLg⟩ := id hO
  have hgg := hg
  obtain ⟨g1, g2, g3, g4⟩ := hgg
  have hT := hI.1
  unfold TopOK at hT
  have hc0 : cells ≤ room_1.cells := by show cells ≤ 600000; omega
  have hs0 : slots ≤ room_1.slots := by show slots ≤ 7302250; omega
  have hc1 : cells + 206 ≤ room_1.cells := hc
  have hs1 : slots + 2279 ≤ room_1.slots := hs
  have hc2 : cells ≤ cells + 206 := Nat.le_add_right _ _
  have hs2 : slots ≤ slots + 2279 := Nat.le_add_right _ _
  refine r_aload_n C 2 dL_law_641 rfl rfl ?_
  refine r_aload_n C 3 dL_law_642 rfl rfl ?_
  refine r_iload_n C 0 dL_law_643 rfl rfl ?_
  refine r_iconst (v := iI 1) C dL_law_644 rfl ?_
  refine n_iadd C dL_law_645 ?_
  refine r_sld C hX hbl hbb hLs (6 * n + 1) (congrArg iI (by omega)) (by omega) dL_law_646 ?_
  refine r_aload_n C 3 dL_law_647 rfl rfl ?_
  refine r_iload_n C 0 dL_law_648 rfl rfl ?_
  refine r_iconst (v := iI 2) C dL_law_649 rfl ?_
  refine n_iadd C dL_law_650 ?_
  refine r_sld C hX hbl hbb hLs (6 * n + 2) (congrArg iI (by omega)) (by omega) dL_law_651 ?_
  refine r_eqI eI ?_
  refine r_eqL eL ?_
  refine cV2_PL C (k_X5_apart hS hI hR hF (i32t _) (i32t _)) cw_L_95 (rm_ok rfl rfl hc0 hs0) (Nat.le_of_ble_eq_true rfl) hF.1 dL_law_652 ?_
  refine r_eqI eI.symm ?_
  refine r_eqL eL.symm ?_
  refine r_aload_n C 1 dL_law_655 rfl rfl ?_
  refine r_aload_n C 3 dL_law_656 rfl rfl ?_
  refine r_iload_n C 0 dL_law_657 rfl rfl ?_
  refine r_iconst (v := iI 1) C dL_law_658 rfl ?_
  refine n_iadd C dL_law_659 ?_
  refine r_sld C hX hbl hbb hLs (6 * n + 1) (congrArg iI (by omega)) (by omega) dL_law_660 ?_
  refine r_aload_n C 3 dL_law_661 rfl rfl ?_
  refine r_iload_n C 0 dL_law_662 rfl rfl ?_
  refine r_iconst (v := iI 2) C dL_law_663 rfl ?_
  refine n_iadd C dL_law_664 ?_
  refine r_sld C hX hbl hbb hLs (6 * n + 2) (congrArg iI (by omega)) (by omega) dL_law_665 ?_
  refine r_eqL (rL_self hrow).symm ?_
  refine cV2_PL C (k_X6_apart hI hM (i32t _) (i32t _)) cw_L_98 (rm_ok rfl rfl hc0 hs0) (Nat.le_of_ble_eq_true rfl) hM.1.1 dL_law_666 ?_
  refine r_eqL (rL_self hrow) ?_
  refine r_lcmp_eq (tgt := 850) C dL_law_669 dL_law_670 rfl rfl (by decide) (fun _ => ?_) (fun hne => absurd rfl hne)
  refine r_wide hc2 hs2 ?_
  exact kk _ _ _ _ (h.stepA hg (by omega) hN eI eL hR ⟨fun _ _ => rfl, rfl⟩ (fun _ _ _ => rfl) hrow (OK_N hO (by omega) hN) hPc)
set_option maxHeartbeats 4000000 in
set_option maxRecDepth 20000 in
theorem lc_forecast {p : Program} {l : Launch} {e : Env} {s : State} {m : MethodId} {args : Array Value} {below : List Frame} {meth : Method} {c : Code} {G : Gd} {base : Nat} {Q : State → Prop} {cells slots : Nat} (C : Cx p s m args c cL_law 4 RL G base) {b Ls : Nat} {xs : Nat → Int32} (hX : va_X b Ls xs s s.heap) (hbl : b < s.heap.size) (hbb : b < base) (hLs : Ls ≤ 3072) {F B S M n : Nat} {N : Int} {Y : MY} {I : MI} {L : ML} {a : Sa} {x3 : Int} (hx3 : x3 = 6 * (n : Int)) (hn : 6 * n + 6 ≤ Ls) (hg : Geo base F B S M) (h : LI base F B S M N Y I L a) (hN : N + 243 ≤ 400000) (hc : cells + 206 ≤ 600000) (hs : slots + 2279 ≤ 7302250) (kk : ∀ Y' I' L' a', LI base F B S M (N + 243) Y' I' L' a' → Rn p l e room_1 s m args below meth c 4 G base Q 850 [(3, .int (iI x3)), (2, .ref M), (1, .ref F), (0, .ref b)] [] Y' I' L' (cells + 206) (slots + 2279)) : Rn p l e room_1 s m args below meth c 4 G base Q 675 [(3, .int (iI x3)), (2, .ref M), (1, .ref F), (0, .ref b)] [] Y I L cells slots := by
  obtain ⟨⟨hF, hS, hFs, hSl, hM⟩, ⟨⟨X, eI, eL, hR⟩, hrow, hO, hPc⟩, hcp, hsl, hd1, hd2, hd3⟩ := id h
  obtain ⟨hI, hNw, hLg⟩ := id hO
  have hgg := hg
  obtain ⟨g1, g2, g3, g4⟩ := hgg
  have hT := hI.1
  unfold TopOK at hT
  have hc0 : cells ≤ room_1.cells := by show cells ≤ 600000; omega
  have hs0 : slots ≤ room_1.slots := by show slots ≤ 7302250; omega
  have hc1 : cells + 206 ≤ room_1.cells := hc
  have hs1 : slots + 2279 ≤ room_1.slots := hs
  have hc2 : cells ≤ cells + 206 := Nat.le_add_right _ _
  have hs2 : slots ≤ slots + 2279 := Nat.le_add_right _ _
  refine r_aload_n C 2 dL_law_675 rfl rfl ?_
  refine r_aload_n C 3 dL_law_676 rfl rfl ?_
  refine r_iload_n C 0 dL_law_677 rfl rfl ?_
  refine r_iconst (v := iI 1) C dL_law_678 rfl ?_
  refine n_iadd C dL_law_679 ?_
  refine r_sld C hX hbl hbb hLs (6 * n + 1) (congrArg iI (by omega)) (by omega) dL_law_680 ?_
  refine r_aload_n C 3 dL_law_681 rfl rfl ?_
  refine r_iload_n C 0 dL_law_682 rfl rfl ?_
  refine r_iconst (v := iI 2) C dL_law_683 rfl ?_
  refine n_iadd C dL_law_684 ?_
  refine r_sld C hX hbl hbb hLs (6 * n + 2) (congrArg iI (by omega)) (by omega) dL_law_685 ?_
  have hC : Cpy base Y F B (Y.2.2 F 2) := ⟨rfl, g2, fun c hc => ⟨(hcp c hc).1, by have := (hcp c hc).2; omega⟩⟩
  refine r_eqI eI ?_
  refine r_eqL eL ?_
  refine cV2_G C (k_X5_forecast hS hI hR hF hNw hLg hPc (Int.le_refl _) hC (i32t _) (i32t _)) cw_L_99 ⟨⟨(Nat.le_of_ble_eq_true rfl), (Nat.le_of_ble_eq_true rfl)⟩, hc1, hs1⟩ (Nat.le_of_ble_eq_true rfl) hF.1 dL_law_686 (fun v1 Y1 I1 L1 h1 => ?_)
  obtain ⟨rfl, h1⟩ := h1
  have hL1 : LI base F B S M N Y1 I1 L1 a := by
    rw [← eI, ← eL] at h1
    rcases h1 with ⟨e1, e2, e3⟩ | ⟨c, hG⟩
    · rw [e1, e2, e3]; exact h
    · exact h.grw hg rfl hG
  refine r_wide (k := cells + 206) (n := slots + 2279) (Nat.le_refl _) (Nat.le_refl _) ?_
  obtain ⟨⟨hF1, hS1, -, -, hM1⟩, ⟨⟨X1, eI1, eL1, hR1⟩, hrow1, -, -⟩, -⟩ := id hL1
  refine r_aload_n C 1 dL_law_689 rfl rfl ?_
  refine r_aload_n C 3 dL_law_690 rfl rfl ?_
  refine r_iload_n C 0 dL_law_691 rfl rfl ?_
  refine r_iconst (v := iI 1) C dL_law_692 rfl ?_
  refine n_iadd C dL_law_693 ?_
  refine r_sld C hX hbl hbb hLs (6 * n + 1) (congrArg iI (by omega)) (by omega) dL_law_694 ?_
  refine r_aload_n C 3 dL_law_695 rfl rfl ?_
  refine r_iload_n C 0 dL_law_696 rfl rfl ?_
  refine r_iconst (v := iI 2) C dL_law_697 rfl ?_
  refine n_iadd C dL_law_698 ?_
  refine r_sld C hX hbl hbb hLs (6 * n + 2) (congrArg iI (by omega)) (by omega) dL_law_699 ?_
  refine r_eqI (mI_me I1 M) ?_
  refine r_eqL (rL_two (x := M + 2) hrow1) ?_
  refine cV2_EI C (k_X6_forecast hI hM1 hNw (Int.le_refl _) (i32t _) (i32t _)) cw_L_102 (rm_ok rfl rfl hc1 hs1) (Nat.le_of_ble_eq_true rfl) hM1.1.1 dL_law_700 (fun r2 I2 L2 h2 => ?_)
  obtain ⟨hMB, hr2, q2, eL2⟩ := h2
  have hq := hr2.symm
  have hok : OK (N + 243) 1000000 a ∧ PcOK a := ⟨OK_N hO (by omega) hN, hPc⟩
  refine r_icmp_eq (tgt := 850) C dL_law_703 (by decide) (fun _ => ?_) (fun hne => absurd (congrArg iI hq) hne)
  exact kk _ _ _ _ (hL1.stepA hg (by omega) hN eI1 eL1 hR1 (MB_s hMB) (fun y y1 y2 => by rw [eL2, rL_out y1, rL_out y2]) (fun k => by rw [eL2, rL_at]) hok.1 hok.2)
set_option maxHeartbeats 4000000 in
set_option maxRecDepth 20000 in
theorem lc_leastWeight {p : Program} {l : Launch} {e : Env} {s : State} {m : MethodId} {args : Array Value} {below : List Frame} {meth : Method} {c : Code} {G : Gd} {base : Nat} {Q : State → Prop} {cells slots : Nat} (C : Cx p s m args c cL_law 4 RL G base) {b Ls : Nat} {xs : Nat → Int32} (hX : va_X b Ls xs s s.heap) (hbl : b < s.heap.size) (hbb : b < base) (hLs : Ls ≤ 3072) {F B S M n : Nat} {N : Int} {Y : MY} {I : MI} {L : ML} {a : Sa} {x3 : Int} (hx3 : x3 = 6 * (n : Int)) (hn : 6 * n + 6 ≤ Ls) (hg : Geo base F B S M) (h : LI base F B S M N Y I L a) (hN : N + 243 ≤ 400000) (hc : cells + 206 ≤ 600000) (hs : slots + 2279 ≤ 7302250) (kk : ∀ Y' I' L' a', LI base F B S M (N + 243) Y' I' L' a' → Rn p l e room_1 s m args below meth c 4 G base Q 850 [(3, .int (iI x3)), (2, .ref M), (1, .ref F), (0, .ref b)] [] Y' I' L' (cells + 206) (slots + 2279)) : Rn p l e room_1 s m args below meth c 4 G base Q 708 [(3, .int (iI x3)), (2, .ref M), (1, .ref F), (0, .ref b)] [] Y I L cells slots := by
  obtain ⟨⟨hF, hS, hFs, hSl, hM⟩, ⟨⟨X, eI, eL, hR⟩, hrow, hO, hPc⟩, hcp, hsl, hd1, hd2, hd3⟩ := id h
  obtain ⟨hI, hNw, hLg⟩ := id hO
  have hgg := hg
  obtain ⟨g1, g2, g3, g4⟩ := hgg
  have hT := hI.1
  unfold TopOK at hT
  have hc0 : cells ≤ room_1.cells := by show cells ≤ 600000; omega
  have hs0 : slots ≤ room_1.slots := by show slots ≤ 7302250; omega
  have hc1 : cells + 206 ≤ room_1.cells := hc
  have hs1 : slots + 2279 ≤ room_1.slots := hs
  have hc2 : cells ≤ cells + 206 := Nat.le_add_right _ _
  have hs2 : slots ≤ slots + 2279 := Nat.le_add_right _ _
  refine r_aload_n C 2 dL_law_708 rfl rfl ?_
  refine r_aload_n C 3 dL_law_709 rfl rfl ?_
  refine r_iload_n C 0 dL_law_710 rfl rfl ?_
  refine r_iconst (v := iI 1) C dL_law_711 rfl ?_
  refine n_iadd C dL_law_712 ?_
  refine r_sld C hX hbl hbb hLs (6 * n + 1) (congrArg iI (by omega)) (by omega) dL_law_713 ?_
  refine r_aload_n C 3 dL_law_714 rfl rfl ?_
  refine r_iload_n C 0 dL_law_715 rfl rfl ?_
  refine r_iconst (v := iI 2) C dL_law_716 rfl ?_
  refine n_iadd C dL_law_717 ?_
  refine r_sld C hX hbl hbb hLs (6 * n + 2) (congrArg iI (by omega)) (by omega) dL_law_718 ?_
  have hC : Cpy base Y F B (Y.2.2 F 2) := ⟨rfl, g2, fun c hc => ⟨(hcp c hc).1, by have := (hcp c hc).2; omega⟩⟩
  refine r_eqI eI ?_
  refine r_eqL eL ?_
  refine cV2_G C (k_X5_leastWeight hS hI hR hF hNw hLg hPc (Int.le_refl _) hC (i32t _) (i32t _)) cw_L_103 ⟨⟨(Nat.le_of_ble_eq_true rfl), (Nat.le_of_ble_eq_true rfl)⟩, hc1, hs1⟩ (Nat.le_of_ble_eq_true rfl) hF.1 dL_law_719 (fun v1 Y1 I1 L1 h1 => ?_)
  obtain ⟨rfl, h1⟩ := h1
  have hL1 : LI base F B S M N Y1 I1 L1 a := by
    rw [← eI, ← eL] at h1
    rcases h1 with ⟨e1, e2, e3⟩ | ⟨c, hG⟩
    · rw [e1, e2, e3]; exact h
    · exact h.grw hg rfl hG
  refine r_wide (k := cells + 206) (n := slots + 2279) (Nat.le_refl _) (Nat.le_refl _) ?_
  obtain ⟨⟨hF1, hS1, -, -, hM1⟩, ⟨⟨X1, eI1, eL1, hR1⟩, hrow1, -, -⟩, -⟩ := id hL1
  refine r_aload_n C 1 dL_law_722 rfl rfl ?_
  refine r_aload_n C 3 dL_law_723 rfl rfl ?_
  refine r_iload_n C 0 dL_law_724 rfl rfl ?_
  refine r_iconst (v := iI 1) C dL_law_725 rfl ?_
  refine n_iadd C dL_law_726 ?_
  refine r_sld C hX hbl hbb hLs (6 * n + 1) (congrArg iI (by omega)) (by omega) dL_law_727 ?_
  refine r_aload_n C 3 dL_law_728 rfl rfl ?_
  refine r_iload_n C 0 dL_law_729 rfl rfl ?_
  refine r_iconst (v := iI 2) C dL_law_730 rfl ?_
  refine n_iadd C dL_law_731 ?_
  refine r_sld C hX hbl hbb hLs (6 * n + 2) (congrArg iI (by omega)) (by omega) dL_law_732 ?_
  refine r_eqI (mI_me I1 M) ?_
  refine r_eqL (rL_two (x := M + 2) hrow1) ?_
  refine cV2_EI C (k_X6_leastWeight hI hM1 hNw (Int.le_refl _) (i32t _) (i32t _)) cw_L_106 (rm_ok rfl rfl hc1 hs1) (Nat.le_of_ble_eq_true rfl) hM1.1.1 dL_law_733 (fun r2 I2 L2 h2 => ?_)
  obtain ⟨hMB, hr2, q2, eL2⟩ := h2
  have hq := hr2.symm
  have hok : OK (N + 243) 1000000 a ∧ PcOK a := ⟨OK_N hO (by omega) hN, hPc⟩
  refine r_icmp_eq (tgt := 850) C dL_law_736 (by decide) (fun _ => ?_) (fun hne => absurd (congrArg iI hq) hne)
  exact kk _ _ _ _ (hL1.stepA hg (by omega) hN eI1 eL1 hR1 (MB_s hMB) (fun y y1 y2 => by rw [eL2, rL_out y1, rL_out y2]) (fun k => by rw [eL2, rL_at]) hok.1 hok.2)
set_option maxHeartbeats 4000000 in
set_option maxRecDepth 20000 in
theorem lc_bestSplit {p : Program} {l : Launch} {e : Env} {s : State} {m : MethodId} {args : Array Value} {below : List Frame} {meth : Method} {c : Code} {G : Gd} {base : Nat} {Q : State → Prop} {cells slots : Nat} (C : Cx p s m args c cL_law 4 RL G base) {b Ls : Nat} {xs : Nat → Int32} (hX : va_X b Ls xs s s.heap) (hbl : b < s.heap.size) (hbb : b < base) (hLs : Ls ≤ 3072) {F B S M n : Nat} {N : Int} {Y : MY} {I : MI} {L : ML} {a : Sa} {x3 : Int} (hx3 : x3 = 6 * (n : Int)) (hn : 6 * n + 6 ≤ Ls) (hg : Geo base F B S M) (h : LI base F B S M N Y I L a) (hN : N + 243 ≤ 400000) (hc : cells + 206 ≤ 600000) (hs : slots + 2279 ≤ 7302250) (kk : ∀ Y' I' L' a', LI base F B S M (N + 243) Y' I' L' a' → Rn p l e room_1 s m args below meth c 4 G base Q 850 [(3, .int (iI x3)), (2, .ref M), (1, .ref F), (0, .ref b)] [] Y' I' L' (cells + 206) (slots + 2279)) : Rn p l e room_1 s m args below meth c 4 G base Q 741 [(3, .int (iI x3)), (2, .ref M), (1, .ref F), (0, .ref b)] [] Y I L cells slots := by
  obtain ⟨⟨hF, hS, hFs, hSl, hM⟩, ⟨⟨X, eI, eL, hR⟩, hrow, hO, hPc⟩, hcp, hsl, hd1, hd2, hd3⟩ := id h
  obtain ⟨hI, hNw, hLg⟩ := id hO
  have hgg := hg
  obtain ⟨g1, g2, g3, g4⟩ := hgg
  have hT := hI.1
  unfold TopOK at hT
  have hc0 : cells ≤ room_1.cells := by show cells ≤ 600000; omega
  have hs0 : slots ≤ room_1.slots := by show slots ≤ 7302250; omega
  have hc1 : cells + 206 ≤ room_1.cells := hc
  have hs1 : slots + 2279 ≤ room_1.slots := hs
  have hc2 : cells ≤ cells + 206 := Nat.le_add_right _ _
  have hs2 : slots ≤ slots + 2279 := Nat.le_add_right _ _
  refine r_aload_n C 2 dL_law_741 rfl rfl ?_
  refine r_aload_n C 3 dL_law_742 rfl rfl ?_
  refine r_iload_n C 0 dL_law_743 rfl rfl ?_
  refine r_iconst (v := iI 1) C dL_law_744 rfl ?_
  refine n_iadd C dL_law_745 ?_
  refine r_sld C hX hbl hbb hLs (6 * n + 1) (congrArg iI (by omega)) (by omega) dL_law_746 ?_
  refine r_aload_n C 3 dL_law_747 rfl rfl ?_
  refine r_iload_n C 0 dL_law_748 rfl rfl ?_
  refine r_iconst (v := iI 2) C dL_law_749 rfl ?_
  refine n_iadd C dL_law_750 ?_
  refine r_sld C hX hbl hbb hLs (6 * n + 2) (congrArg iI (by omega)) (by omega) dL_law_751 ?_
  refine r_aload_n C 3 dL_law_752 rfl rfl ?_
  refine r_iload_n C 0 dL_law_753 rfl rfl ?_
  refine r_iconst (v := iI 3) C dL_law_754 rfl ?_
  refine n_iadd C dL_law_755 ?_
  refine r_sld C hX hbl hbb hLs (6 * n + 3) (congrArg iI (by omega)) (by omega) dL_law_756 ?_
  refine r_aload_n C 3 dL_law_757 rfl rfl ?_
  refine r_iload_n C 0 dL_law_758 rfl rfl ?_
  refine r_iconst (v := iI 4) C dL_law_759 rfl ?_
  refine n_iadd C dL_law_760 ?_
  refine r_sld C hX hbl hbb hLs (6 * n + 4) (congrArg iI (by omega)) (by omega) dL_law_761 ?_
  refine r_aload_n C 3 dL_law_762 rfl rfl ?_
  refine r_iload_n C 0 dL_law_763 rfl rfl ?_
  refine r_iconst (v := iI 5) C dL_law_764 rfl ?_
  refine n_iadd C dL_law_765 ?_
  refine r_sld C hX hbl hbb hLs (6 * n + 5) (congrArg iI (by omega)) (by omega) dL_law_766 ?_
  have hC : Cpy base Y F B (Y.2.2 F 2) := ⟨rfl, g2, fun c hc => ⟨(hcp c hc).1, by have := (hcp c hc).2; omega⟩⟩
  refine r_eqI eI ?_
  refine r_eqL eL ?_
  refine cV5_G C (k_X5_bestSplit hS hI hR hF hNw hLg hPc (Int.le_refl _) hC (i32t _) (i32t _) (i32t _) (i32t _) (i32t _)) cw_L_107 ⟨⟨(Nat.le_of_ble_eq_true rfl), (Nat.le_of_ble_eq_true rfl)⟩, hc1, hs1⟩ (Nat.le_of_ble_eq_true rfl) hF.1 dL_law_767 (fun v1 Y1 I1 L1 h1 => ?_)
  obtain ⟨rfl, h1⟩ := h1
  have hL1 : LI base F B S M N Y1 I1 L1 a := by
    rw [← eI, ← eL] at h1
    rcases h1 with ⟨e1, e2, e3⟩ | ⟨c, hG⟩
    · rw [e1, e2, e3]; exact h
    · exact h.grw hg rfl hG
  refine r_wide (k := cells + 206) (n := slots + 2279) (Nat.le_refl _) (Nat.le_refl _) ?_
  obtain ⟨⟨hF1, hS1, -, -, hM1⟩, ⟨⟨X1, eI1, eL1, hR1⟩, hrow1, -, -⟩, -⟩ := id hL1
  refine r_aload_n C 1 dL_law_770 rfl rfl ?_
  refine r_aload_n C 3 dL_law_771 rfl rfl ?_
  refine r_iload_n C 0 dL_law_772 rfl rfl ?_
  refine r_iconst (v := iI 1) C dL_law_773 rfl ?_
  refine n_iadd C dL_law_774 ?_
  refine r_sld C hX hbl hbb hLs (6 * n + 1) (congrArg iI (by omega)) (by omega) dL_law_775 ?_
  refine r_aload_n C 3 dL_law_776 rfl rfl ?_
  refine r_iload_n C 0 dL_law_777 rfl rfl ?_
  refine r_iconst (v := iI 2) C dL_law_778 rfl ?_
  refine n_iadd C dL_law_779 ?_
  refine r_sld C hX hbl hbb hLs (6 * n + 2) (congrArg iI (by omega)) (by omega) dL_law_780 ?_
  refine r_aload_n C 3 dL_law_781 rfl rfl ?_
  refine r_iload_n C 0 dL_law_782 rfl rfl ?_
  refine r_iconst (v := iI 3) C dL_law_783 rfl ?_
  refine n_iadd C dL_law_784 ?_
  refine r_sld C hX hbl hbb hLs (6 * n + 3) (congrArg iI (by omega)) (by omega) dL_law_785 ?_
  refine r_aload_n C 3 dL_law_786 rfl rfl ?_
  refine r_iload_n C 0 dL_law_787 rfl rfl ?_
  refine r_iconst (v := iI 4) C dL_law_788 rfl ?_
  refine n_iadd C dL_law_789 ?_
  refine r_sld C hX hbl hbb hLs (6 * n + 4) (congrArg iI (by omega)) (by omega) dL_law_790 ?_
  refine r_aload_n C 3 dL_law_791 rfl rfl ?_
  refine r_iload_n C 0 dL_law_792 rfl rfl ?_
  refine r_iconst (v := iI 5) C dL_law_793 rfl ?_
  refine n_iadd C dL_law_794 ?_
  refine r_sld C hX hbl hbb hLs (6 * n + 5) (congrArg iI (by omega)) (by omega) dL_law_795 ?_
  refine r_eqI (mI_me I1 M) ?_
  refine r_eqL (rL_two (x := M + 2) hrow1) ?_
  refine cV5_EI C (k_X6_bestSplit hI hM1 hNw hLg (Int.le_refl _) (i32t _) (i32t _) (i32t _) (i32t _) (i32t _)) cw_L_111 (rm_ok rfl rfl hc1 hs1) (Nat.le_of_ble_eq_true rfl) hM1.1.1 dL_law_796 (fun r2 I2 L2 h2 => ?_)
  obtain ⟨hMB, hr2, q2, eL2⟩ := h2
  have hq := hr2.symm
  have hok : OK (N + 243) 1000000 a ∧ PcOK a := ⟨OK_N hO (by omega) hN, hPc⟩
  refine r_icmp_eq (tgt := 850) C dL_law_799 (by decide) (fun _ => ?_) (fun hne => absurd (congrArg iI hq) hne)
  exact kk _ _ _ _ (hL1.stepA hg (by omega) hN eI1 eL1 hR1 (MB_s hMB) (fun y y1 y2 => by rw [eL2, rL_out y1, rL_out y2]) (fun k => by rw [eL2, rL_at]) hok.1 hok.2)
