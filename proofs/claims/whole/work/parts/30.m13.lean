theorem wb_tb (n : Nat) : (lN n).toBitVec = BitVec.ofNat 64 n := rfl
theorem wb_inj {a b : Int64} (h : a.toBitVec = b.toBitVec) : a = b := Int64.toBitVec_inj.mp h
theorem wb_tn {n : Nat} (h : n < 2 ^ 64) : (lN n).toBitVec.toNat = n := by rw [wb_tb, BitVec.toNat_ofNat, Nat.mod_eq_of_lt h]
theorem wb_of (x : Int64) : ∃ n, n < 2 ^ 64 ∧ x = lN n := ⟨x.toBitVec.toNat, x.toBitVec.isLt, wb_inj (by rw [wb_tb]; simp)⟩
theorem wb_of32 (x : Int32) : ∃ n, n < 2 ^ 32 ∧ x = nI n := ⟨x.toBitVec.toNat, x.toBitVec.isLt, Int32.toBitVec_inj.mp (by show _ = BitVec.ofNat 32 _; simp)⟩
theorem wb_c : ∀ k, k < 64 → ((nI k).toInt64 &&& 63) = lN k := by decide +kernel
theorem wb_cu : ∀ k, k < 64 → ((nI k).toInt64.toUInt64 &&& Int64.toUInt64 63) = UInt64.ofNat k := by decide +kernel
theorem wb_sm : ∀ k, k < 64 → (BitVec.ofNat 64 k).smod 64 = BitVec.ofNat 64 k := by decide +kernel
theorem wb_pw {a b : Nat} (h : a ≤ b) : 2 ^ b = 2 ^ a * 2 ^ (b - a) := by rw [← Nat.pow_add]; congr 1; omega
theorem wb_lt2 {a b : Nat} (h : a < b) : 2 ^ a < 2 ^ b := Nat.pow_lt_pow_right (by decide) h
theorem wb_mod (n : Nat) : lN n = lN (n % 2 ^ 64) := wb_inj (by rw [wb_tb, wb_tb]; apply BitVec.eq_of_toNat_eq; rw [BitVec.toNat_ofNat, BitVec.toNat_ofNat, Nat.mod_mod])
theorem wb_shr {n k : Nat} (hn : n < 2 ^ 64) (hk : k < 64) : ((lN n).toUInt64 >>> ((nI k).toInt64.toUInt64 &&& Int64.toUInt64 63)).toInt64 = lN (n / 2 ^ k) := by
  rw [wb_cu k hk]
  apply wb_inj
  apply BitVec.eq_of_toNat_eq
  show ((lN n).toUInt64 >>> UInt64.ofNat k).toNat = (BitVec.ofNat 64 _).toNat
  have h1 : (UInt64.ofNat k).toNat = k := by
    show (BitVec.ofNat 64 k).toNat = k
    rw [BitVec.toNat_ofNat, Nat.mod_eq_of_lt (by omega)]
  have h2 : (lN n).toUInt64.toNat = n := wb_tn hn
  rw [UInt64.toNat_shiftRight, h1, h2, Nat.mod_eq_of_lt hk, Nat.shiftRight_eq_div_pow, BitVec.toNat_ofNat, Nat.mod_eq_of_lt (Nat.lt_of_le_of_lt (Nat.div_le_self _ _) hn)]
theorem wb_shl (n : Nat) {k : Nat} (hk : k < 64) : lN n <<< ((nI k).toInt64 &&& 63) = lN (n * 2 ^ k) := by
  rw [wb_c k hk]
  apply wb_inj
  rw [Int64.toBitVec_shiftLeft, wb_tb, wb_tb, wb_tb, wb_sm k hk]
  apply BitVec.eq_of_toNat_eq
  rw [BitVec.shiftLeft_eq', BitVec.toNat_shiftLeft, BitVec.toNat_ofNat, BitVec.toNat_ofNat, BitVec.toNat_ofNat, Nat.mod_eq_of_lt (show k < 2 ^ 64 by omega), Nat.shiftLeft_eq, Nat.mul_mod, Nat.mod_mod, ← Nat.mul_mod]
theorem wb_and {a b : Nat} (ha : a < 2 ^ 64) (hb : b < 2 ^ 64) : lN a &&& lN b = lN (a &&& b) := by
  apply wb_inj
  rw [Int64.toBitVec_and, wb_tb, wb_tb, wb_tb]
  apply BitVec.eq_of_toNat_eq
  rw [BitVec.toNat_and, BitVec.toNat_ofNat, BitVec.toNat_ofNat, BitVec.toNat_ofNat, Nat.mod_eq_of_lt ha, Nat.mod_eq_of_lt hb, Nat.mod_eq_of_lt (Nat.and_lt_two_pow _ hb)]
theorem wb_or {a b : Nat} (ha : a < 2 ^ 64) (hb : b < 2 ^ 64) : lN a ||| lN b = lN (a ||| b) := by
  apply wb_inj
  rw [Int64.toBitVec_or, wb_tb, wb_tb, wb_tb]
  apply BitVec.eq_of_toNat_eq
  rw [BitVec.toNat_or, BitVec.toNat_ofNat, BitVec.toNat_ofNat, BitVec.toNat_ofNat, Nat.mod_eq_of_lt ha, Nat.mod_eq_of_lt hb, Nat.mod_eq_of_lt (Nat.or_lt_two_pow ha hb)]
theorem wb_mask {n k : Nat} (hn : n < 2 ^ 64) (hk : k < 64) : lN n &&& lN (2 ^ k - 1) = lN (n % 2 ^ k) := by
  rw [wb_and hn (by have := wb_lt2 hk; omega), Nat.and_two_pow_sub_one_eq_mod]
theorem wb_a1 {n : Nat} (hn : n < 2 ^ 64) : lN n &&& 1 = lN (n % 2) := wb_mask (k := 1) hn (by decide)
theorem wb_bit {n k : Nat} (hn : n < 2 ^ 64) (hk : k < 64) : ((lN n).toUInt64 >>> ((nI k).toInt64.toUInt64 &&& Int64.toUInt64 63)).toInt64 &&& 1 = lN (n / 2 ^ k % 2) := by
  rw [wb_shr hn hk, wb_a1 (Nat.lt_of_le_of_lt (Nat.div_le_self _ _) hn)]
section CEQ
variable {p : Program} {l : Launch} {e : Env} {R : Room} {s : State} {m : MethodId} {args : Array Value} {below : List Frame} {meth : Method} {c : Code} {cc : ByteArray} {nL : Nat} {own : String} {G : Gd} {base : Nat} {Q : State → Prop} {pc : Nat} {lo lo' : List (Nat × Value)} {st : List Value} {Y : MY} {I : MI} {L : ML} {cells slots : Nat}
theorem r_ceql {x : Int64} {z : Int} (h : x = lI z) (kk : Rn p l e R s m args below meth c nL G base Q pc lo (.long (lI z) :: st) Y I L cells slots) : Rn p l e R s m args below meth c nL G base Q pc lo (.long x :: st) Y I L cells slots := by subst h; exact kk
theorem r_eql {x y : Int64} (h : x = y) (kk : Rn p l e R s m args below meth c nL G base Q pc lo (.long y :: st) Y I L cells slots) : Rn p l e R s m args below meth c nL G base Q pc lo (.long x :: st) Y I L cells slots := by subst h; exact kk
theorem r_ceqi {x : Int32} {z : Int} (h : x = iI z) (kk : Rn p l e R s m args below meth c nL G base Q pc lo (.int (iI z) :: st) Y I L cells slots) : Rn p l e R s m args below meth c nL G base Q pc lo (.int x :: st) Y I L cells slots := by subst h; exact kk
end CEQ
theorem lN_lI (n : Nat) : lN n = lI n := by unfold lN lI; exact (Int64.ofInt_eq_ofNat).symm
theorem nI_iI (n : Nat) : nI n = iI n := by unfold nI iI; exact (Int32.ofInt_eq_ofNat).symm
/-- the k-th character of a number, from the last -/
def byt (X k : Nat) : Nat := X / 2 ^ (8 * k) % 256
theorem byt_lt (X k : Nat) : byt X k < 256 := Nat.mod_lt _ (by decide)
theorem byt_and {X k : Nat} (hX : X < 2 ^ 64) : lN (X / 2 ^ (8 * k)) &&& lI 255 = lI (byt X k : Nat) := by
  have h : X / 2 ^ (8 * k) < 2 ^ 64 := Nat.lt_of_le_of_lt (Nat.div_le_self _ _) hX
  have e : lI 255 = lN (2 ^ 8 - 1) := rfl
  rw [e, wb_mask h (by decide), lN_lI]
  rfl
theorem byt_sh {X k : Nat} (hX : X < 2 ^ 64) : ((lN (X / 2 ^ (8 * k))).toUInt64 >>> ((iI 8).toInt64.toUInt64 &&& Int64.toUInt64 63)).toInt64 = lN (X / 2 ^ (8 * (k + 1))) := by
  have h : X / 2 ^ (8 * k) < 2 ^ 64 := Nat.lt_of_le_of_lt (Nat.div_le_self _ _) hX
  have e : iI 8 = nI 8 := rfl
  rw [e, wb_shr h (by decide), Nat.div_div_eq_div_mul, ← Nat.pow_add]
  rfl
theorem byt_us {X s : Nat} (hX : X < 2 ^ 64) (hs : s < 8) : (((lN X).toUInt64 >>> ((iI (8 * s : Nat)).toInt64.toUInt64 &&& Int64.toUInt64 63)).toInt64) = lN (X / 2 ^ (8 * s)) := by
  rw [← nI_iI, wb_shr hX (by omega)]
theorem byt_ar {X s : Nat} (hX : X < 2 ^ 64) (hs : s < 8) : (lN X >>> ((iI (8 * s : Nat)).toInt64 &&& 63)) &&& lI 255 = lI (byt X s : Nat) := by
  rw [← byt_and hX, ← nI_iI, wb_c (8 * s) (by omega)]
  apply wb_inj
  rw [Int64.toBitVec_and, Int64.toBitVec_and, Int64.toBitVec_shiftRight, wb_tb, wb_tb, wb_tb, wb_sm (8 * s) (by omega)]
  have e : (lI 255).toBitVec = 255#64 := rfl
  rw [e]
  have hs2 : (BitVec.ofNat 64 (8 * s)).toNat = 8 * s := by rw [BitVec.toNat_ofNat]; exact Nat.mod_eq_of_lt (by omega)
  apply BitVec.eq_of_getLsbD_eq
  intro i hi
  rw [BitVec.getLsbD_and, BitVec.getLsbD_and]
  by_cases h8 : i < 8
  · have h1 : ((BitVec.ofNat 64 X).sshiftRight' (BitVec.ofNat 64 (8 * s))).getLsbD i = (BitVec.ofNat 64 X).getLsbD (8 * s + i) := by
      rw [BitVec.sshiftRight_eq', hs2, BitVec.getLsbD_sshiftRight]
      have : ¬ 64 ≤ i := by omega
      simp [this, show 8 * s + i < 64 by omega]
    have h2 : (BitVec.ofNat 64 (X / 2 ^ (8 * s))).getLsbD i = (BitVec.ofNat 64 X).getLsbD (8 * s + i) := by
      rw [BitVec.getLsbD_ofNat, BitVec.getLsbD_ofNat, Nat.testBit_div_two_pow, Nat.add_comm i]
      simp [hi, show 8 * s + i < 64 by omega]
    rw [h1, h2]
  · have h3 : (255#64).getLsbD i = false := by
      rw [BitVec.getLsbD_ofNat]
      have : Nat.testBit 255 i = false := Nat.testBit_lt_two_pow (Nat.lt_of_lt_of_le (by decide : 255 < 2 ^ 8) (Nat.pow_le_pow_right (by decide) (by omega)))
      rw [this]; simp
    rw [h3]; simp
/-- how many characters there are up to one that is 0; 99 where one is not allowed -/
def ptN (X : Nat) : Nat → Nat → Nat
  | 0, k => k
  | n + 1, k => if byt X k = 0 then k else if 33 ≤ byt X k ∧ byt X k ≤ 126 then ptN X n (k + 1) else 99
def ptC (a : Sa) (X m : Nat) : Nat → Sa
  | 0 => a
  | i + 1 => up1 (ptC a X m i) (1745 + (a 1825).toNat + i) (byt X (m - 1 - i) : Nat)
def putOK (X : Nat) : Prop := ¬ ptN X 8 0 = 99 ∧ ¬ ptN X 8 0 = 0 ∧ X / 2 ^ (8 * ptN X 8 0) = 0
noncomputable def aPut (a : Sa) (X : Nat) : Int := @ite _ (¬ putOK X) (Classical.propDecidable _) (-2) (if 80 < a 1825 + ptN X 8 0 then -4 else a 1825 + ptN X 8 0)
noncomputable def putA (a : Sa) (X : Nat) : Sa := @ite _ (¬ putOK X) (Classical.propDecidable _) a (if 80 < a 1825 + ptN X 8 0 then a else up1 (ptC a X (ptN X 8 0) (ptN X 8 0)) 1825 (a 1825 + ptN X 8 0))
theorem ptC_n {a : Sa} {X m k : Nat} : ∀ i, (k < 1745 + (a 1825).toNat ∨ 1745 + (a 1825).toNat + i ≤ k) → ptC a X m i k = a k
  | 0, _ => rfl
  | i + 1, h => by
    unfold ptC
    rw [up1_n (by omega)]
    exact ptC_n i (by omega)
set_option maxHeartbeats 4000000 in
set_option maxRecDepth 20000 in
theorem k_X6_put {l : Launch} {G : Gd} {base : Nat} {Y : MY} {I : MI} {L : ML} {M : Nat} {a : Sa} {N T : Int} (hI : Inv N T a) {xc : Int64} (X : Nat) (hM : MLy base Y M) (hX : X < 2 ^ 64) (hxc : xc = lN X) : Ct l yX6_put cX6_put 7 (some .int) (rmz 1 25) G base [.ref M, .long xc] Y I (rL L (M + 1) a) (EI Y (fun r I' L' => r = aPut a X ∧ I' = I ∧ L' = rL L (M + 1) (putA a X))) := by
  refine Ct.of (own := RX6) (lo := [(0, .ref M), (1, .long xc)]) (by decide) rfl (Nat.le_of_ble_eq_true rfl) rfl ?_
  intro zp ze zs zm zargs zbl zmt zc C hr hlk hnm
  have hT := hI.1
  unfold TopOK at hT
  have hpd := hI.2.2.2.2.1
  obtain ⟨sz, hsz⟩ := Int.eq_ofNat_of_zero_le (show 0 ≤ a 1825 by omega)
  refine r_iconst (v := iI 0) C dX6_put_0 rfl ?_
  refine r_istore_n (lo' := [(3, .int (iI 0)), (0, .ref M), (1, .long xc)]) C dX6_put_1 rfl (by decide) rfl ?_
  refine r_lload_n C 2 dX6_put_2 rfl rfl ?_
  refine r_lstore (lo' := [(4, .long xc), (3, .int (iI 0)), (0, .ref M), (1, .long xc)]) C dX6_put_3 (by decide) rfl ?_
  have lp5 : ∀ (k : Nat) (x3 : Int) (j : Nat) (xl : Int64) (hx3 : x3 = j) (hj : j ≤ 8) (hxl : xl = lN (X / 2 ^ (8 * j))) (hp : ptN X (8 - j) j = ptN X 8 0), 8 - j = k → Bd zp l ze (rmz 1 25) zs zm zargs zbl zmt zc 7 G base (EI Y (fun r I' L' => r = aPut a X ∧ I' = I ∧ L' = rL L (M + 1) (putA a X))) 5 [(4, .long xl), (3, .int (iI x3)), (0, .ref M), (1, .long xc)] [] Y I (rL L (M + 1) a) 0 0 := by
    intro k
    induction k using Nat.strongRecOn with
    | _ k ih5 =>
    intro x3 j xl hx3 hj hxl hp hk5
    refine r_iload_n C 1 dX6_put_5 rfl rfl ?_
    refine r_bipush (v := iI 8) C dX6_put_6 (by decide) ?_
    refine n_icmp_ge (tgt := 56) C dX6_put_8 (by decide) (by constructor <;> omega) ⟨by decide, by decide⟩ (fun c8 => ?_) (fun c8 => ?_)
    · have hpj : ptN X 8 0 = j := by rw [← hp, show 8 - j = 0 by omega]; rfl
      have hx0 : xl = lI 0 ↔ X / 2 ^ (8 * j) = 0 := by
        rw [hxl]
        constructor
        · intro h
          have h2 := congrArg (fun z : Int64 => z.toBitVec.toNat) h
          have h3 : (lN (X / 2 ^ (8 * j))).toBitVec.toNat = X / 2 ^ (8 * j) := wb_tn (Nat.lt_of_le_of_lt (Nat.div_le_self _ _) hX)
          rw [h3] at h2
          exact h2
        · intro h
          rw [h]
          rfl
      refine r_iload_n C 1 dX6_put_56 rfl rfl ?_
      refine n_if_eq (tgt := 67) C dX6_put_57 (by decide) (by constructor <;> omega) (fun c57 => ?_) (fun c57 => ?_)
      · refine r_bipush (v := iI (-2)) C dX6_put_67 (by decide) ?_
        refine r_iret C hr hlk dX6_put_69 (Nat.zero_le _) (Nat.zero_le _) ?_
        have hbad : ¬ putOK X := by
          unfold putOK
          rw [hpj]
          omega
        exact ⟨_, rfl, rfl, by unfold aPut; rw [@if_pos _ (Classical.propDecidable _) hbad], rfl, by unfold putA; rw [@if_pos _ (Classical.propDecidable _) hbad]⟩
      · refine r_lload C 0 dX6_put_60 rfl ?_
        refine r_lconst (v := lI 0) C dX6_put_62 (by decide) ?_
        refine r_lcmp_eq (tgt := 70) C dX6_put_63 dX6_put_64 rfl rfl (by decide) (fun c63 => ?_) (fun c63 => ?_)
        · have hok : ¬ ¬ putOK X := by
            unfold putOK
            rw [hpj]
            exact fun z => z ⟨by omega, by omega, hx0.mp c63⟩
          refine r_aload_n C 2 dX6_put_70 rfl rfl ?_
          refine r_getR C fl_X6_7 rfl dX6_put_71 hM.1.1 hM.2.1 ?_
          refine r_sipush (v := iI 1825) C dX6_put_74 (by decide) ?_
          refine a_lald C (v := (a 1825)) 1825 dX6_put_77 hM.1.2.1 ⟨rfl, by decide, by decide⟩ rfl ?_
          refine r_iload_n C 1 dX6_put_78 rfl rfl ?_
          refine n_i2l C dX6_put_79 (by constructor <;> omega) ?_
          refine n_ladd C dX6_put_80 ?_
          refine n_ldc2 (v := 80) C lc_X6_116 (by decide) dX6_put_81 ?_
          refine n_lcmp_le (tgt := 91) C dX6_put_84 dX6_put_85 rfl rfl (by decide) (by constructor <;> omega) ⟨by decide, by decide⟩ (fun c84 => ?_) (fun c84 => ?_)
          · refine r_iconst (v := iI 0) C dX6_put_91 rfl ?_
            refine r_istore (lo' := [(6, .int (iI 0)), (4, .long xl), (3, .int (iI x3)), (0, .ref M), (1, .long xc)]) C dX6_put_92 (by decide) rfl ?_
            have lp94 : ∀ (k : Nat) (x6 : Int) (i : Nat) (a1 : Sa) (hx6 : x6 = i) (hi : i ≤ j) (ha1 : a1 = ptC a X j i), j - i = k → Bd zp l ze (rmz 1 25) zs zm zargs zbl zmt zc 7 G base (EI Y (fun r I' L' => r = aPut a X ∧ I' = I ∧ L' = rL L (M + 1) (putA a X))) 94 [(6, .int (iI x6)), (4, .long xl), (3, .int (iI x3)), (0, .ref M), (1, .long xc)] [] Y I (rL L (M + 1) a1) 0 0 := by
              intro k
              induction k using Nat.strongRecOn with
              | _ k ih94 =>
              intro x6 i a1 hx6 hi ha1 hk94
              have h18 : a1 1825 = sz := by rw [ha1, ptC_n i (by omega)]; exact hsz
              refine r_iload C 0 dX6_put_94 rfl ?_
              refine r_iload_n C 2 dX6_put_96 rfl rfl ?_
              refine n_icmp_ge (tgt := 142) C dX6_put_97 (by decide) (by constructor <;> omega) (by constructor <;> omega) (fun c97 => ?_) (fun c97 => ?_)
              · refine r_aload_n C 3 dX6_put_142 rfl rfl ?_
                refine r_getR C fl_X6_7 rfl dX6_put_143 hM.1.1 hM.2.1 ?_
                refine r_sipush (v := iI 1825) C dX6_put_146 (by decide) ?_
                refine r_dup2 C dX6_put_149 rfl rfl ?_
                refine a_lald C (v := (a1 1825)) 1825 dX6_put_150 hM.1.2.1 ⟨rfl, by decide, by decide⟩ rfl ?_
                refine r_iload_n C 2 dX6_put_151 rfl rfl ?_
                refine n_i2l C dX6_put_152 (by constructor <;> omega) ?_
                refine n_ladd C dX6_put_153 ?_
                refine a_last C 1825 dX6_put_154 hM.1.2.1 ⟨rfl, by decide, by decide⟩ (fun a154 ea154 => ?_)
                refine r_aload_n C 3 dX6_put_155 rfl rfl ?_
                refine r_getR C fl_X6_7 rfl dX6_put_156 hM.1.1 hM.2.1 ?_
                refine r_sipush (v := iI 1825) C dX6_put_159 (by decide) ?_
                refine a_lald C (v := ((a1 1825) + x3)) 1825 dX6_put_162 hM.1.2.1 ⟨rfl, by decide, by decide⟩ (by rw [ea154, up1_s]) ?_
                refine n_l2i C dX6_put_163 ?_
                refine r_iret C hr hlk dX6_put_164 (Nat.zero_le _) (Nat.zero_le _) ?_
                have hij : i = j := by omega
                subst hij
                refine ⟨_, rfl, rfl, ?_, rfl, ?_⟩
                · unfold aPut
                  rw [@if_neg _ (Classical.propDecidable _) hok, hpj, if_neg (by omega)]
                  omega
                · unfold putA
                  rw [@if_neg _ (Classical.propDecidable _) hok, hpj, if_neg (by omega), ea154, ha1, show ptC a X i i 1825 = a 1825 from ptC_n i (by omega)]
                  rw [show a 1825 + x3 = a 1825 + (i : Int) by omega]
              · refine r_aload_n C 3 dX6_put_100 rfl rfl ?_
                refine r_getR C fl_X6_7 rfl dX6_put_101 hM.1.1 hM.2.1 ?_
                refine r_sipush (v := iI 1745) C dX6_put_104 (by decide) ?_
                refine r_aload_n C 3 dX6_put_107 rfl rfl ?_
                refine r_getR C fl_X6_7 rfl dX6_put_108 hM.1.1 hM.2.1 ?_
                refine r_sipush (v := iI 1825) C dX6_put_111 (by decide) ?_
                refine a_lald C (v := (a1 1825)) 1825 dX6_put_114 hM.1.2.1 ⟨rfl, by decide, by decide⟩ rfl ?_
                refine n_l2i C dX6_put_115 ?_
                refine n_iadd C dX6_put_116 ?_
                refine r_iload C 0 dX6_put_117 rfl ?_
                refine n_iadd C dX6_put_119 ?_
                refine r_lload_n C 4 dX6_put_120 rfl rfl ?_
                refine r_bipush (v := iI 8) C dX6_put_121 (by decide) ?_
                refine r_iload_n C 2 dX6_put_123 rfl rfl ?_
                refine r_iconst (v := iI 1) C dX6_put_124 rfl ?_
                refine n_isub C dX6_put_125 ?_
                refine r_iload C 0 dX6_put_126 rfl ?_
                refine n_isub C dX6_put_128 ?_
                refine n_imul C dX6_put_129 ?_
                refine r_lshr C dX6_put_130 ?_
                refine n_ldc2 (v := 255) C lc_X6_110 (by decide) dX6_put_131 ?_
                refine r_land C dX6_put_134 ?_
                refine r_ceql (by rw [hxc, show (8 * ((x3 - 1) - x6) : Int) = ((8 * (j - 1 - i) : Nat) : Int) by omega]; exact byt_ar hX (by omega)) ?_
                refine a_last C (((1745 + sz) + i)) dX6_put_135 hM.1.2.1 ⟨congrArg iI (by omega), (by omega), by decide⟩ (fun a135 ea135 => ?_)
                refine n_iinc (lo' := [(6, .int (iI (x6 + 1))), (4, .long xl), (3, .int (iI x3)), (0, .ref M), (1, .long xc)]) C 0 dX6_put_136 rfl rfl (by decide) rfl ?_
                refine r_goto (tgt := 94) C dX6_put_139 (by decide) ?_
                exact ih94 _ (by first | omega | (rw [← hk94]; omega)) ((x6 + 1)) (i + 1) a135 (by omega) (by omega) (by rw [ea135, ha1]; show _ = up1 (ptC a X j i) (1745 + (a 1825).toNat + i) _; rw [show (a 1825).toNat = sz by omega]) rfl
            exact lp94 _ 0 0 a rfl (by omega) rfl rfl
          · refine r_bipush (v := iI (-4)) C dX6_put_88 (by decide) ?_
            refine r_iret C hr hlk dX6_put_90 (Nat.zero_le _) (Nat.zero_le _) ?_
            exact ⟨_, rfl, rfl, by unfold aPut; rw [@if_neg _ (Classical.propDecidable _) hok, hpj, if_pos (by omega)], rfl, by unfold putA; rw [@if_neg _ (Classical.propDecidable _) hok, hpj, if_pos (by omega)]⟩
        · refine r_bipush (v := iI (-2)) C dX6_put_67 (by decide) ?_
          refine r_iret C hr hlk dX6_put_69 (Nat.zero_le _) (Nat.zero_le _) ?_
          have hbad : ¬ putOK X := by
            unfold putOK
            rw [hpj]
            exact fun z => c63 (hx0.mpr z.2.2)
          exact ⟨_, rfl, rfl, by unfold aPut; rw [@if_pos _ (Classical.propDecidable _) hbad], rfl, by unfold putA; rw [@if_pos _ (Classical.propDecidable _) hbad]⟩
    · have hbl := byt_lt X j
      have hp1 : (if byt X j = 0 then j else if 33 ≤ byt X j ∧ byt X j ≤ 126 then ptN X (8 - (j + 1)) (j + 1) else 99) = ptN X 8 0 := by
        rw [← hp, show 8 - j = (8 - (j + 1)) + 1 by omega]
        rfl
      refine r_lload C 0 dX6_put_11 rfl ?_
      refine n_ldc2 (v := 255) C lc_X6_110 (by decide) dX6_put_13 ?_
      refine r_land C dX6_put_16 ?_
      refine r_ceql (by rw [hxl]; exact byt_and hX) ?_
      refine r_lconst (v := lI 0) C dX6_put_17 (by decide) ?_
      refine n_lcmp_eq (tgt := 56) C dX6_put_18 dX6_put_19 rfl rfl (by decide) (by constructor <;> omega) ⟨by decide, by decide⟩ (fun c18 => ?_) (fun c18 => ?_)
      · have hpj : ptN X 8 0 = j := by rw [← hp1, if_pos (by omega)]
        have hx0 : xl = lI 0 ↔ X / 2 ^ (8 * j) = 0 := by
          rw [hxl]
          constructor
          · intro h
            have h2 := congrArg (fun z : Int64 => z.toBitVec.toNat) h
            have h3 : (lN (X / 2 ^ (8 * j))).toBitVec.toNat = X / 2 ^ (8 * j) := wb_tn (Nat.lt_of_le_of_lt (Nat.div_le_self _ _) hX)
            rw [h3] at h2
            exact h2
          · intro h
            rw [h]
            rfl
        refine r_iload_n C 1 dX6_put_56 rfl rfl ?_
        refine n_if_eq (tgt := 67) C dX6_put_57 (by decide) (by constructor <;> omega) (fun c57 => ?_) (fun c57 => ?_)
        · refine r_bipush (v := iI (-2)) C dX6_put_67 (by decide) ?_
          refine r_iret C hr hlk dX6_put_69 (Nat.zero_le _) (Nat.zero_le _) ?_
          have hbad : ¬ putOK X := by
            unfold putOK
            rw [hpj]
            omega
          exact ⟨_, rfl, rfl, by unfold aPut; rw [@if_pos _ (Classical.propDecidable _) hbad], rfl, by unfold putA; rw [@if_pos _ (Classical.propDecidable _) hbad]⟩
        · refine r_lload C 0 dX6_put_60 rfl ?_
          refine r_lconst (v := lI 0) C dX6_put_62 (by decide) ?_
          refine r_lcmp_eq (tgt := 70) C dX6_put_63 dX6_put_64 rfl rfl (by decide) (fun c63 => ?_) (fun c63 => ?_)
          · have hok : ¬ ¬ putOK X := by
              unfold putOK
              rw [hpj]
              exact fun z => z ⟨by omega, by omega, hx0.mp c63⟩
            refine r_aload_n C 2 dX6_put_70 rfl rfl ?_
            refine r_getR C fl_X6_7 rfl dX6_put_71 hM.1.1 hM.2.1 ?_
            refine r_sipush (v := iI 1825) C dX6_put_74 (by decide) ?_
            refine a_lald C (v := (a 1825)) 1825 dX6_put_77 hM.1.2.1 ⟨rfl, by decide, by decide⟩ rfl ?_
            refine r_iload_n C 1 dX6_put_78 rfl rfl ?_
            refine n_i2l C dX6_put_79 (by constructor <;> omega) ?_
            refine n_ladd C dX6_put_80 ?_
            refine n_ldc2 (v := 80) C lc_X6_116 (by decide) dX6_put_81 ?_
            refine n_lcmp_le (tgt := 91) C dX6_put_84 dX6_put_85 rfl rfl (by decide) (by constructor <;> omega) ⟨by decide, by decide⟩ (fun c84 => ?_) (fun c84 => ?_)
            · refine r_iconst (v := iI 0) C dX6_put_91 rfl ?_
              refine r_istore (lo' := [(6, .int (iI 0)), (4, .long xl), (3, .int (iI x3)), (0, .ref M), (1, .long xc)]) C dX6_put_92 (by decide) rfl ?_
              have lp94 : ∀ (k : Nat) (x6 : Int) (i : Nat) (a1 : Sa) (hx6 : x6 = i) (hi : i ≤ j) (ha1 : a1 = ptC a X j i), j - i = k → Bd zp l ze (rmz 1 25) zs zm zargs zbl zmt zc 7 G base (EI Y (fun r I' L' => r = aPut a X ∧ I' = I ∧ L' = rL L (M + 1) (putA a X))) 94 [(6, .int (iI x6)), (4, .long xl), (3, .int (iI x3)), (0, .ref M), (1, .long xc)] [] Y I (rL L (M + 1) a1) 0 0 := by
                intro k
                induction k using Nat.strongRecOn with
                | _ k ih94 =>
                intro x6 i a1 hx6 hi ha1 hk94
                have h18 : a1 1825 = sz := by rw [ha1, ptC_n i (by omega)]; exact hsz
                refine r_iload C 0 dX6_put_94 rfl ?_
                refine r_iload_n C 2 dX6_put_96 rfl rfl ?_
                refine n_icmp_ge (tgt := 142) C dX6_put_97 (by decide) (by constructor <;> omega) (by constructor <;> omega) (fun c97 => ?_) (fun c97 => ?_)
                · refine r_aload_n C 3 dX6_put_142 rfl rfl ?_
                  refine r_getR C fl_X6_7 rfl dX6_put_143 hM.1.1 hM.2.1 ?_
                  refine r_sipush (v := iI 1825) C dX6_put_146 (by decide) ?_
                  refine r_dup2 C dX6_put_149 rfl rfl ?_
                  refine a_lald C (v := (a1 1825)) 1825 dX6_put_150 hM.1.2.1 ⟨rfl, by decide, by decide⟩ rfl ?_
                  refine r_iload_n C 2 dX6_put_151 rfl rfl ?_
                  refine n_i2l C dX6_put_152 (by constructor <;> omega) ?_
                  refine n_ladd C dX6_put_153 ?_
                  refine a_last C 1825 dX6_put_154 hM.1.2.1 ⟨rfl, by decide, by decide⟩ (fun a154 ea154 => ?_)
                  refine r_aload_n C 3 dX6_put_155 rfl rfl ?_
                  refine r_getR C fl_X6_7 rfl dX6_put_156 hM.1.1 hM.2.1 ?_
                  refine r_sipush (v := iI 1825) C dX6_put_159 (by decide) ?_
                  refine a_lald C (v := ((a1 1825) + x3)) 1825 dX6_put_162 hM.1.2.1 ⟨rfl, by decide, by decide⟩ (by rw [ea154, up1_s]) ?_
                  refine n_l2i C dX6_put_163 ?_
                  refine r_iret C hr hlk dX6_put_164 (Nat.zero_le _) (Nat.zero_le _) ?_
                  have hij : i = j := by omega
                  subst hij
                  refine ⟨_, rfl, rfl, ?_, rfl, ?_⟩
                  · unfold aPut
                    rw [@if_neg _ (Classical.propDecidable _) hok, hpj, if_neg (by omega)]
                    omega
                  · unfold putA
                    rw [@if_neg _ (Classical.propDecidable _) hok, hpj, if_neg (by omega), ea154, ha1, show ptC a X i i 1825 = a 1825 from ptC_n i (by omega)]
                    rw [show a 1825 + x3 = a 1825 + (i : Int) by omega]
                · refine r_aload_n C 3 dX6_put_100 rfl rfl ?_
                  refine r_getR C fl_X6_7 rfl dX6_put_101 hM.1.1 hM.2.1 ?_
                  refine r_sipush (v := iI 1745) C dX6_put_104 (by decide) ?_
                  refine r_aload_n C 3 dX6_put_107 rfl rfl ?_
                  refine r_getR C fl_X6_7 rfl dX6_put_108 hM.1.1 hM.2.1 ?_
                  refine r_sipush (v := iI 1825) C dX6_put_111 (by decide) ?_
                  refine a_lald C (v := (a1 1825)) 1825 dX6_put_114 hM.1.2.1 ⟨rfl, by decide, by decide⟩ rfl ?_
                  refine n_l2i C dX6_put_115 ?_
                  refine n_iadd C dX6_put_116 ?_
                  refine r_iload C 0 dX6_put_117 rfl ?_
                  refine n_iadd C dX6_put_119 ?_
                  refine r_lload_n C 4 dX6_put_120 rfl rfl ?_
                  refine r_bipush (v := iI 8) C dX6_put_121 (by decide) ?_
                  refine r_iload_n C 2 dX6_put_123 rfl rfl ?_
                  refine r_iconst (v := iI 1) C dX6_put_124 rfl ?_
                  refine n_isub C dX6_put_125 ?_
                  refine r_iload C 0 dX6_put_126 rfl ?_
                  refine n_isub C dX6_put_128 ?_
                  refine n_imul C dX6_put_129 ?_
                  refine r_lshr C dX6_put_130 ?_
                  refine n_ldc2 (v := 255) C lc_X6_110 (by decide) dX6_put_131 ?_
                  refine r_land C dX6_put_134 ?_
                  refine r_ceql (by rw [hxc, show (8 * ((x3 - 1) - x6) : Int) = ((8 * (j - 1 - i) : Nat) : Int) by omega]; exact byt_ar hX (by omega)) ?_
                  refine a_last C (((1745 + sz) + i)) dX6_put_135 hM.1.2.1 ⟨congrArg iI (by omega), (by omega), by decide⟩ (fun a135 ea135 => ?_)
                  refine n_iinc (lo' := [(6, .int (iI (x6 + 1))), (4, .long xl), (3, .int (iI x3)), (0, .ref M), (1, .long xc)]) C 0 dX6_put_136 rfl rfl (by decide) rfl ?_
                  refine r_goto (tgt := 94) C dX6_put_139 (by decide) ?_
                  exact ih94 _ (by first | omega | (rw [← hk94]; omega)) ((x6 + 1)) (i + 1) a135 (by omega) (by omega) (by rw [ea135, ha1]; show _ = up1 (ptC a X j i) (1745 + (a 1825).toNat + i) _; rw [show (a 1825).toNat = sz by omega]) rfl
              exact lp94 _ 0 0 a rfl (by omega) rfl rfl
            · refine r_bipush (v := iI (-4)) C dX6_put_88 (by decide) ?_
              refine r_iret C hr hlk dX6_put_90 (Nat.zero_le _) (Nat.zero_le _) ?_
              exact ⟨_, rfl, rfl, by unfold aPut; rw [@if_neg _ (Classical.propDecidable _) hok, hpj, if_pos (by omega)], rfl, by unfold putA; rw [@if_neg _ (Classical.propDecidable _) hok, hpj, if_pos (by omega)]⟩
          · refine r_bipush (v := iI (-2)) C dX6_put_67 (by decide) ?_
            refine r_iret C hr hlk dX6_put_69 (Nat.zero_le _) (Nat.zero_le _) ?_
            have hbad : ¬ putOK X := by
              unfold putOK
              rw [hpj]
              exact fun z => c63 (hx0.mpr z.2.2)
            exact ⟨_, rfl, rfl, by unfold aPut; rw [@if_pos _ (Classical.propDecidable _) hbad], rfl, by unfold putA; rw [@if_pos _ (Classical.propDecidable _) hbad]⟩
      · refine r_lload C 0 dX6_put_22 rfl ?_
        refine n_ldc2 (v := 255) C lc_X6_110 (by decide) dX6_put_24 ?_
        refine r_land C dX6_put_27 ?_
        rw [if_neg (by omega)] at hp1
        refine r_ceql (by rw [hxl]; exact byt_and hX) ?_
        refine n_ldc2 (v := 33) C lc_X6_112 (by decide) dX6_put_28 ?_
        refine n_ldc2 (v := 126) C lc_X6_114 (by decide) dX6_put_31 ?_
        refine cS3_PI C (k_X6_in (by constructor <;> omega) ⟨by decide, by decide⟩ ⟨by decide, by decide⟩) cw_X6_36 (rm_ok rfl rfl (Nat.zero_le _) (Nat.zero_le _)) (Nat.le_of_ble_eq_true rfl) dX6_put_34 ?_
        refine n_if_ne (tgt := 43) C dX6_put_37 (by decide) b2_i (fun c37 => ?_) (fun c37 => ?_)
        · rw [b2_eq0, Classical.not_not] at c37
          have c37 : 33 ≤ byt X j ∧ byt X j ≤ 126 := by omega
          have hp2 := hp1
          refine n_iinc (lo' := [(3, .int (iI (x3 + 1))), (4, .long xl), (0, .ref M), (1, .long xc)]) C 1 dX6_put_43 rfl rfl (by decide) rfl ?_
          refine r_lload C 1 dX6_put_46 rfl ?_
          refine r_bipush (v := iI 8) C dX6_put_48 (by decide) ?_
          refine r_lushr C dX6_put_50 ?_
          refine r_topl (fun x51 ex51 => ?_)
          refine r_lstore (lo' := [(4, .long x51), (3, .int (iI (x3 + 1))), (0, .ref M), (1, .long xc)]) C dX6_put_51 (by decide) rfl ?_
          refine r_goto (tgt := 5) C dX6_put_53 (by decide) ?_
          exact ih5 _ (by first | omega | (rw [← hk5]; omega)) ((x3 + 1)) (j + 1) x51 (by omega) (by omega) (by rw [ex51, hxl]; exact byt_sh hX) (by rw [← hp2]; exact (if_pos c37).symm) rfl
        · refine r_bipush (v := iI (-2)) C dX6_put_40 (by decide) ?_
          refine r_iret C hr hlk dX6_put_42 (Nat.zero_le _) (Nat.zero_le _) ?_
          rw [b2_eq0] at c37
          have hbad : ¬ putOK X := by
            unfold putOK
            rw [← hp1, if_neg (by omega)]
            omega
          exact ⟨_, rfl, rfl, by unfold aPut; rw [@if_pos _ (Classical.propDecidable _) hbad], rfl, by unfold putA; rw [@if_pos _ (Classical.propDecidable _) hbad]⟩
  exact lp5 _ 0 0 xc rfl (by omega) (by rw [hxc, show 2 ^ (8 * 0) = 1 from rfl, Nat.div_one]) rfl rfl
