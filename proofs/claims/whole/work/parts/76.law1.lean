section LW
variable {p : Program} {l : Launch} {e : Env} {R : Room} {s : State} {m : MethodId} {args : Array Value} {below : List Frame} {meth : Method} {c : Code} {cc : ByteArray} {nL : Nat} {own : String} {G : Gd} {base : Nat} {Q : State → Prop} {pc : Nat} {lo lo' : List (Nat × Value)} {st : List Value} {Y : MY} {I : MI} {L : ML} {cells slots : Nat}
theorem r_sld (C : Cx p s m args c cc nL own G base) {b Ls : Nat} {xs : Nat → Int32} (hX : va_X b Ls xs s s.heap) (hbl : b < s.heap.size) (hbb : b < base) (hLs : Ls ≤ 3072) {x : Int32} (i : Nat) (hi : x = iI i) (hin : i < Ls) (hd : decode cc pc = .ok (.iaload, 1)) (kk : Rn p l e R s m args below meth c nL G base Q (pc + 1) lo (.int (iI (xs i).toInt) :: st) Y I L cells slots) : Rn p l e R s m args below meth c nL G base Q pc lo (.int x :: .ref b :: st) Y I L cells slots := by
  intro ls H locs hl hP hS
  have hix : Ix x i Ls := ⟨hi, hin, by omega⟩
  have k2 := kk ls H locs hl hP hS
  rw [← iI_of] at k2
  refine va_sld C.1 C.2.1 hX hbl (show ¬ Ab base b by show ¬ base ≤ b; omega) hS hix.in hd ?_
  rw [hix.nat]
  exact k2
theorem r_slen (C : Cx p s m args c cc nL own G base) {b Ls : Nat} {xs : Nat → Int32} (hX : va_X b Ls xs s s.heap) (hbl : b < s.heap.size) (hbb : b < base) (hd : decode cc pc = .ok (.arraylength, 1)) (kk : Rn p l e R s m args below meth c nL G base Q (pc + 1) lo (.int (iI Ls) :: st) Y I L cells slots) : Rn p l e R s m args below meth c nL G base Q pc lo (.ref b :: st) Y I L cells slots := by
  intro ls H locs hl hP hS
  have k2 := kk ls H locs hl hP hS
  refine va_slen C.1 C.2.1 hX hbl (show ¬ Ab base b by show ¬ base ≤ b; omega) hS hd ?_
  rw [show Int32.ofNat Ls = iI Ls from Int32.ofInt_eq_ofNat.symm]
  exact k2
theorem r_wide {k n : Nat} (h1 : cells ≤ k) (h2 : slots ≤ n) (kk : Rn p l e R s m args below meth c nL G base Q pc lo st Y I L k n) : Rn p l e R s m args below meth c nL G base Q pc lo st Y I L cells slots := fun ls H locs hl hP hS => W.widen h1 h2 (kk ls H locs hl hP hS)
/-- what lies beyond the end of an array of longs is not seen -/
theorem r_rowL {x n : Nat} {g : Nat → Int64} (hx : Is base Y x (.inr (1, n))) (hg : ∀ k, k < n → L x k = g k) (kk : Rn p l e R s m args below meth c nL G base Q pc lo st Y I (up1 L x g) cells slots) : Rn p l e R s m args below meth c nL G base Q pc lo st Y I L cells slots := by
  intro ls H locs hl hP hS
  refine kk ls H locs hl ⟨hP.1, fun y d hy => ?_⟩ hS
  have h := hP.2 y d hy
  by_cases e : y = x
  · subst e
    have hd : d = .inr (1, n) := hy.2.symm.trans hx.2
    subst hd
    rw [up1_s]
    unfold hc at h ⊢
    dsimp only at h ⊢
    rw [h]
    congr 1
    unfold arrV
    congr 1
    congr 1
    funext j
    show fv 1 _ _ _ = fv 1 _ _ _
    unfold fv
    rw [hg j.val j.isLt]
  · rw [up1_n e]; exact h
end LW
theorem i32t (x : Int32) : -2147483648 ≤ x.toInt ∧ x.toInt < 2147483648 := ⟨Int32.le_toInt x, Int32.toInt_lt x⟩
theorem lN_ex (x : Int64) : ∃ X : Nat, X < 2 ^ 64 ∧ x = lN X := ⟨x.toUInt64.toNat, x.toUInt64.toNat_lt, by
  unfold lN
  rw [← UInt64.toInt64_ofNat', UInt64.ofNat_toNat, Int64.toInt64_toUInt64]⟩
def Ap (c d : Nat) : Prop := c + 206 ≤ d ∨ d + 206 ≤ c
def Geo (base F B S M : Nat) : Prop := base ≤ F ∧ F < B ∧ B + 206 ≤ S ∧ S < M
/-- the slot j: empty on both sides, or saved on both sides -/
def SlO (base S M : Nat) (N : Int) (Y : MY) (I : MI) (L : ML) (j : Nat) : Prop :=
  (Y.2.2 S j = none ∧ I (M + 4) j = iI 0) ∨ ∃ d sa W, (Y.2.2 S j = some d ∧ SLy base Y d ∧ M + 7 ≤ d) ∧ (I = cI I d W ∧ L = cL L d W ∧ Rl true sa W) ∧ (OK N 1000000 sa ∧ PcOK sa) ∧ I (M + 4) j = iI 1 ∧ ∀ k, k < 1826 → L (M + 3) (1826 * j + k) = lI (sa k)
/-- what holds between two calls of the law -/
def LI (base F B S M : Nat) (N : Int) (Y : MY) (I : MI) (L : ML) (a : Sa) : Prop :=
  (FLn base Y F B ∧ SLy base Y B ∧ Y.2.2 F 1 = some S ∧ Is base Y S (.inr (7, 2)) ∧ MLy base Y M) ∧
  ((∃ X, I = cI I B X ∧ L = cL L B X ∧ Rl true a X) ∧ (∀ k, L (M + 1) k = lI (a k)) ∧ OK N 1000000 a ∧ PcOK a) ∧
  (∀ c, Y.2.2 F 2 = some c → SLy base Y c ∧ M + 7 ≤ c) ∧ (∀ j, j < 2 → SlO base S M N Y I L j) ∧
  (∀ c d j, Y.2.2 F 2 = some c → j < 2 → Y.2.2 S j = some d → Ap c d) ∧ (∀ c d, Y.2.2 S 0 = some c → Y.2.2 S 1 = some d → Ap c d) ∧ (∀ j, 2 ≤ j → Y.2.2 S j = none)
theorem MLy.top {base M : Nat} {Y : MY} (h : MLy base Y M) : M + 7 ≤ base + Y.1 := by
  have := h.1.2.2.2.2.2.2.1
  omega
theorem mI_me (I : MI) (M : Nat) : I = mI I M 7 (fun o k => (I (M + o) k).toInt) := (mI_self (fun o _ k => iI_of _)).symm
theorem rL_me (L : ML) (x : Nat) : L = rL L x (fun k => (L x k).toInt) := (rL_self (fun k => lI_of _)).symm
theorem MB_s {I I' : MI} {M : Nat} (h : MB I M (fun o k => (I (M + o) k).toInt) I') : (∀ y, (y < M ∨ M + 7 ≤ y) → I' y = I y) ∧ I' (M + 4) = I (M + 4) := by
  obtain ⟨b', e, e4⟩ := h
  subst e
  refine ⟨fun y hy => mI_out hy, ?_⟩
  funext k
  rw [mI_at (by decide), e4, ← iI_of]
theorem MB_rf {I : MI} {M : Nat} : MB I M (fun o k => (I (M + o) k).toInt) I := ⟨_, mI_me I M, rfl⟩
theorem SlO.mono {base S M : Nat} {N N' : Int} {Y Y' : MY} {I I' : MI} {L L' : ML} {j : Nat} (h : SlO base S M N Y I L j) (hN : N ≤ N') (hN4 : N' ≤ 400000) (hY : Y.1 ≤ Y'.1) (hr : Y'.2.2 S j = Y.2.2 S j) (h4 : I' (M + 4) j = I (M + 4) j) (h3 : ∀ k, k < 1826 → L' (M + 3) (1826 * j + k) = L (M + 3) (1826 * j + k))
    (hd : ∀ d, Y.2.2 S j = some d → ∀ y, d ≤ y → y < d + 206 → Y'.2.1 y = Y.2.1 y ∧ Y'.2.2 y = Y.2.2 y ∧ I' y = I y ∧ L' y = L y) : SlO base S M N' Y' I' L' j := by
  rcases h with ⟨h1, h2⟩ | ⟨d, sa, W, ⟨h1, h2, h3'⟩, ⟨h5, h6, h7⟩, ⟨h8, h9⟩, h10, h11⟩
  · exact Or.inl ⟨hr.trans h1, h4.trans h2⟩
  · have g := hd d h1
    refine Or.inr ⟨d, sa, W, ⟨hr.trans h1, SLy.mono (fun y y1 y2 => ⟨(g y y1 y2).1, (g y y1 y2).2.1⟩) hY h2, h3'⟩, ⟨cI_same h5 (fun y y1 y2 => (g y y1 y2).2.2.1), cL_same h6 (fun y y1 y2 => (g y y1 y2).2.2.2), h7⟩, ⟨OK_N h8 hN hN4, h9⟩, h4.trans h10, fun k hk => ?_⟩
    rw [h3 k hk]; exact h11 k hk
/-- a call that writes the State and the reference's row -/
theorem LI.stepA {base F B S M : Nat} {N N' : Int} {Y : MY} {I I1 I2 : MI} {L L1 L2 : ML} {a a' X' : Sa} (h : LI base F B S M N Y I L a) (hg : Geo base F B S M) (hN : N ≤ N') (hN4 : N' ≤ 400000) (eI : I1 = cI I B X') (eL : L1 = cL L B X') (hR : Rl true a' X')
    (hm : (∀ y, (y < M ∨ M + 7 ≤ y) → I2 y = I1 y) ∧ I2 (M + 4) = I1 (M + 4)) (hL : ∀ y, y ≠ M + 1 → y ≠ M + 2 → L2 y = L1 y) (hrow : ∀ k, L2 (M + 1) k = lI (a' k)) (hO : OK N' 1000000 a') (hP : PcOK a') : LI base F B S M N' Y I2 L2 a' := by
  obtain ⟨hy, ⟨-, -, -, -⟩, hc, hs, d1, d2⟩ := h
  obtain ⟨g1, g2, g3, g4⟩ := hg
  refine ⟨hy, ⟨⟨X', ?_, ?_, hR⟩, hrow, hO, hP⟩, hc, fun j hj => ?_, d1, d2⟩
  · rw [eI] at hm
    exact cI_same (I := cI I B X') cI_idem (fun y y1 y2 => hm.1 y (by omega))
  · rw [eL] at hL
    exact cL_same (L := cL L B X') cL_idem (fun y y1 y2 => hL y (by omega) (by omega))
  · refine SlO.mono (hs j hj) hN hN4 (Nat.le_refl _) rfl ?_ ?_ (fun d hd y y1 y2 => ⟨rfl, rfl, ?_, ?_⟩)
    · rw [hm.2, eI, cI_out (by omega)]
    · intro k _
      rw [hL _ (by omega) (by omega), eL, cL_out (by omega)]
    · rcases hs j hj with q | ⟨d', sa, W, ⟨q1, q2, q3⟩, -⟩
      · rw [hd] at q; exact absurd q.1 (by simp)
      · rw [hd] at q1
        have e := Option.some.inj q1
        rw [hm.1 y (by omega), eI, cI_out (by omega)]
    · rcases hs j hj with q | ⟨d', sa, W, ⟨q1, q2, q3⟩, -⟩
      · rw [hd] at q; exact absurd q.1 (by simp)
      · rw [hd] at q1
        have e := Option.some.inj q1
        rw [hL y (by omega) (by omega), eL, cL_out (by omega)]
theorem LI.sd {base F B S M : Nat} {N : Int} {Y : MY} {I : MI} {L : ML} {a : Sa} (h : LI base F B S M N Y I L a) {j d : Nat} (hj : j < 2) (hd : Y.2.2 S j = some d) : SLy base Y d ∧ M + 7 ≤ d := by
  rcases h.2.2.2.1 j hj with q | ⟨d', sa, W, ⟨q1, q2, q3⟩, -⟩
  · rw [hd] at q; exact absurd q.1 (by simp)
  · rw [hd] at q1
    have e := Option.some.inj q1
    subst e
    exact ⟨q2, q3⟩
/-- the layout stays where the memory grows by a State at c -/
theorem ly_keep {base F B S M c : Nat} {Y Y' : MY} (hg : Geo base F B S M) (hy : FLn base Y F B ∧ SLy base Y B ∧ Y.2.2 F 1 = some S ∧ Is base Y S (.inr (7, 2)) ∧ MLy base Y M) (hle : Y.1 ≤ Y'.1) (hc : M + 7 ≤ c)
    (hk : ∀ y, y < base + Y.1 → (y < c ∨ c + 206 ≤ y) → Y'.2.1 y = Y.2.1 y) (hr : ∀ y, y < base + Y.1 → (y < c ∨ c + 206 ≤ y) → y ≠ F → y ≠ S → Y'.2.2 y = Y.2.2 y) (hF : ∀ k, k < 2 → Y'.2.2 F k = Y.2.2 F k) : FLn base Y' F B ∧ SLy base Y' B ∧ Y'.2.2 F 1 = some S ∧ Is base Y' S (.inr (7, 2)) ∧ MLy base Y' M := by
  obtain ⟨g1, g2, g3, g4⟩ := hg
  obtain ⟨h1, h2, h3, h4, h5⟩ := hy
  have ht := h5.top
  have kp : ∀ y d, Is base Y y d → y < c → Is base Y' y d := fun y d hi hy => ⟨⟨hi.1.1, by have := hi.1.2; omega⟩, by rw [hk y hi.1.2 (Or.inl hy)]; exact hi.2⟩
  refine ⟨⟨kp _ _ h1.1 (by omega), by rw [hF 0 (by decide)]; exact h1.2⟩, SLy.mono (fun y y1 y2 => ⟨hk y (by omega) (by omega), hr y (by omega) (by omega) (by omega) (by omega)⟩) hle h2, by rw [hF 1 (by decide)]; exact h3, kp _ _ h4 (by omega), ?_⟩
  have hM : Y'.2.2 M = Y.2.2 M := hr M (by omega) (by omega) (by omega) (by omega)
  obtain ⟨⟨a1, a2, a3, a4, a5, a6, a7⟩, r⟩ := h5
  refine ⟨⟨kp _ _ a1 (by omega), kp _ _ a2 (by omega), kp _ _ a3 (by omega), kp _ _ a4 (by omega), kp _ _ a5 (by omega), kp _ _ a6 (by omega), kp _ _ a7 (by omega)⟩, ?_⟩
  rw [hM]; exact r
/-- a forecast changes the copy only -/
theorem LI.grw {base F B S M c : Nat} {N : Int} {Y Y' : MY} {I I' : MI} {L L' : ML} {a : Sa} {cp : Option Nat} (h : LI base F B S M N Y I L a) (hg : Geo base F B S M) (hcp : Y.2.2 F 2 = cp) (hG : Grw base F cp Y I L Y' I' L' c) : LI base F B S M N Y' I' L' a := by
  have hle := hG.le
  have hm := h.1.2.2.2.2.top
  have hc : M + 7 ≤ c := by
    rcases hG.2.1 with ⟨e, -⟩ | ⟨-, e, -⟩
    · exact (h.2.2.1 c (hcp.trans e)).2
    · omega
  have hsl : ∀ j d, j < 2 → Y.2.2 S j = some d → Ap c d := fun j d hj hd => by
    rcases hG.2.1 with ⟨e, -⟩ | ⟨-, e, -⟩
    · exact h.2.2.2.2.1 c d j (hcp.trans e) hj hd
    · have := (h.sd hj hd).1.top
      exact Or.inr (by omega)
  obtain ⟨hf, -, hk, hF⟩ := hG
  have hg2 := hg
  obtain ⟨g1, g2, g3, g4⟩ := hg2
  have hB := h.1.2.1.top
  have hS : Y'.2.2 S = Y.2.2 S := (hk S (by omega) (by omega)).2.1 (by omega)
  refine ⟨ly_keep hg h.1 hle hc (fun y y1 y2 => (hk y y1 y2).1) (fun y y1 y2 y3 _ => (hk y y1 y2).2.1 y3) (fun k hk2 => hF k (by omega)), ⟨?_, ?_, h.2.1.2.2⟩, ?_, ?_, ?_, ?_, ?_⟩
  · obtain ⟨X, e1, e2, e3⟩ := h.2.1.1
    exact ⟨X, cI_same e1 (fun y y1 y2 => (hk y (by omega) (by omega)).2.2.1), cL_same e2 (fun y y1 y2 => (hk y (by omega) (by omega)).2.2.2), e3⟩
  · intro k
    rw [(hk (M + 1) (by omega) (by omega)).2.2.2]; exact h.2.1.2.1 k
  · intro c' hc'
    rw [hf.1] at hc'
    have e := Option.some.inj hc'
    subst e
    exact ⟨hf.2, hc⟩
  · intro j hj
    refine SlO.mono (h.2.2.2.1 j hj) (Int.le_refl _) ?_ hle (by rw [hS]) (by rw [(hk (M + 4) (by omega) (by omega)).2.2.1]) (fun k _ => by rw [(hk (M + 3) (by omega) (by omega)).2.2.2]) (fun d hd y y1 y2 => ?_)
    · exact h.2.1.2.2.1.1.1.2.2.2.2.2.2.2.1.2.2
    · have ha := hsl j d hj hd
      unfold Ap at ha
      have hd2 := h.sd hj hd
      have hd3 := hd2.1.top
      have q := hk y (by omega) (by omega)
      exact ⟨q.1, q.2.1 (by omega), q.2.2⟩
  · intro c' d j hc' hj hd
    rw [hf.1] at hc'
    have e := Option.some.inj hc'
    subst e
    rw [hS] at hd
    exact hsl j d hj hd
  · intro c' d hc' hd
    rw [hS] at hc' hd
    exact h.2.2.2.2.2.1 c' d hc' hd
  · intro j hj
    rw [hS]; exact h.2.2.2.2.2.2 j hj
theorem rL_two {L : ML} {M x : Nat} {a : Sa} (h : ∀ k, L (M + 1) k = lI (a k)) : L = rL (rL L x (fun k => (L x k).toInt)) (M + 1) a := by
  rw [← rL_me L x]
  exact (rL_self h).symm
/-- a call of save that saved -/
theorem LI.save {base F B S M j d : Nat} {N : Int} {Y Y' : MY} {I I' I2 : MI} {L L' L2 : ML} {a X X2 : Sa} {op : Option Nat} (h : LI base F B S M N Y I L a) (hg : Geo base F B S M) (hj : j < 2) (hop : Y.2.2 S j = op) (hG : Grs base S j op Y I L Y' I' L' d) (jB : I' = cI I' B X) (kB : L' = cL L' B X) (hRX : Rl true a X) (jd : I' = cI I' d X2) (kd : L' = cL L' d X2) (hR2 : Rl true a X2)
    (h2 : ∀ y, (y < M ∨ M + 7 ≤ y) → I2 y = I' y) (h4 : ∀ k, I2 (M + 4) k = if k = j then iI 1 else I' (M + 4) k) (hL2 : ∀ y, y ≠ M + 1 → y ≠ M + 3 → L2 y = L' y) (hrow : ∀ k, L2 (M + 1) k = lI (a k)) (h3 : ∀ k, L2 (M + 3) k = if 1826 * j ≤ k ∧ k < 1826 * j + 1826 then lI (a (k - 1826 * j)) else L' (M + 3) k) : LI base F B S M N Y' I2 L2 a := by
  have hle : Y.1 ≤ Y'.1 := by
    rcases hG.2.1 with ⟨-, e⟩ | ⟨-, -, e⟩
    · rw [e]; exact Nat.le_refl _
    · omega
  have hm := h.1.2.2.2.2.top
  have hd : M + 7 ≤ d := by
    rcases hG.2.1 with ⟨e, -⟩ | ⟨-, e, -⟩
    · exact (h.sd hj (hop.trans e)).2
    · omega
  have hcp : ∀ c, Y.2.2 F 2 = some c → Ap c d := fun c hc => by
    rcases hG.2.1 with ⟨e, -⟩ | ⟨-, e, -⟩
    · exact h.2.2.2.2.1 c d j hc hj (hop.trans e)
    · have := (h.2.2.1 c hc).1.top
      exact Or.inl (by omega)
  have hot : ∀ i d', i < 2 → i ≠ j → Y.2.2 S i = some d' → Ap d d' := fun i d' hi hij hd' => by
    rcases hG.2.1 with ⟨e, -⟩ | ⟨-, e, -⟩
    · have e2 := hop.trans e
      have q := h.2.2.2.2.2.1
      rcases (show i = 0 ∨ i = 1 by omega) with rfl | rfl
      · have ej : j = 1 := by omega
        subst ej
        have w := q d' d hd' e2
        unfold Ap at w ⊢
        omega
      · have ej : j = 0 := by omega
        subst ej
        exact q d d' e2 hd'
    · have := (h.sd hi hd').1.top
      exact Or.inr (by omega)
  obtain ⟨hf, -, hk, hF⟩ := hG
  have hg2 := hg
  obtain ⟨g1, g2, g3, g4⟩ := hg2
  have hB := h.1.2.1.top
  have hFF : Y'.2.2 F = Y.2.2 F := (hk F (by omega) (by omega)).2.1 (by omega)
  refine ⟨ly_keep hg h.1 hle hd (fun y y1 y2 => (hk y y1 y2).1) (fun y y1 y2 _ y3 => (hk y y1 y2).2.1 y3) (fun k _ => by rw [hFF]), ⟨⟨X, ?_, ?_, hRX⟩, hrow, h.2.1.2.2⟩, ?_, ?_, ?_, ?_, ?_⟩
  · exact cI_same jB (fun y y1 y2 => h2 y (by omega))
  · exact cL_same kB (fun y y1 y2 => hL2 y (by omega) (by omega))
  · intro c hc
    rw [hFF] at hc
    have q := h.2.2.1 c hc
    have q2 := hcp c hc
    unfold Ap at q2
    have q3 := q.1.top
    exact ⟨SLy.mono (fun y y1 y2 => ⟨(hk y (by omega) (by omega)).1, (hk y (by omega) (by omega)).2.1 (by omega)⟩) hle q.1, q.2⟩
  · intro i hi
    by_cases e : i = j
    · subst e
      refine Or.inr ⟨d, a, X2, ⟨hf.1, hf.2, hd⟩, ⟨cI_same jd (fun y y1 y2 => h2 y (by omega)), cL_same kd (fun y y1 y2 => hL2 y (by omega) (by omega)), hR2⟩, h.2.1.2.2, ?_, fun k hk2 => ?_⟩
      · rw [h4, if_pos rfl]
      · rw [h3, if_pos (by omega), show 1826 * i + k - 1826 * i = k by omega]
    · refine SlO.mono (h.2.2.2.1 i hi) (Int.le_refl _) h.2.1.2.2.1.1.1.2.2.2.2.2.2.2.1.2.2 hle (hF i e) ?_ (fun k hk2 => ?_) (fun d' hd' y y1 y2 => ?_)
      · rw [h4, if_neg e, (hk (M + 4) (by omega) (by omega)).2.2.1]
      · rw [h3, if_neg (by omega), (hk (M + 3) (by omega) (by omega)).2.2.2]
      · have q := hot i d' hi e hd'
        unfold Ap at q
        have q2 := h.sd hi hd'
        have q3 := q2.1.top
        have w := hk y (by omega) (by omega)
        exact ⟨w.1, w.2.1 (by omega), by rw [h2 y (by omega), w.2.2.1], by rw [hL2 y (by omega) (by omega), w.2.2.2]⟩
  · intro c d' i hc hi hd'
    rw [hFF] at hc
    by_cases e : i = j
    · subst e
      rw [hf.1] at hd'
      have e := Option.some.inj hd'
      subst e
      exact hcp c hc
    · rw [hF i e] at hd'
      exact h.2.2.2.2.1 c d' i hc hi hd'
  · intro c d' hc hd'
    rcases (show j = 0 ∨ j = 1 by omega) with rfl | rfl
    · rw [hf.1] at hc
      have e := Option.some.inj hc
      subst e
      rw [hF 1 (by decide)] at hd'
      exact hot 1 d' (by decide) (by decide) hd'
    · rw [hf.1] at hd'
      have e := Option.some.inj hd'
      subst e
      rw [hF 0 (by decide)] at hc
      have w := hot 0 c (by decide) (by decide) hc
      unfold Ap at w ⊢
      omega
  · intro i hi
    rw [hF i (by omega)]; exact h.2.2.2.2.2.2 i hi
theorem AddR_det {a a1 a2 : Sa} {w r r' : Int} (h1 : AddR a w r a1) (h2 : AddR a w r' a2) : r = r' ∧ a1 = a2 := by
  rcases h1 with ⟨p1, p2, p3⟩ | ⟨p1, p2, p4, p3⟩ | ⟨p1, p2, p4, p3⟩ <;> rcases h2 with ⟨q1, q2, q3⟩ | ⟨q1, q2, q4, q3⟩ | ⟨q1, q2, q4, q3⟩ <;> first | exact ⟨by omega, p3.trans q3.symm⟩ | (exfalso; omega)
theorem SetR_det {a a1 a2 : Sa} {f k v r r' : Int} (h1 : SetR a f k v r a1) (h2 : SetR a f k v r' a2) : r = r' ∧ a1 = a2 := by
  rcases h1 with ⟨p1, p2, p3⟩ | ⟨p1, p2, p4, p3⟩ | ⟨p1, p2, p4, p3⟩ <;> rcases h2 with ⟨q1, q2, q3⟩ | ⟨q1, q2, q4, q3⟩ | ⟨q1, q2, q4, q3⟩ <;> first | exact ⟨by omega, p3.trans q3.symm⟩ | exact absurd q2 p2 | exact absurd p2 q2 | (exfalso; omega)
theorem RulR_det {a a1 a2 : Sa} {k v r r' : Int} (h1 : RulR a k v r a1) (h2 : RulR a k v r' a2) : r = r' ∧ a1 = a2 := by
  rcases h1 with ⟨p1, p2, p3⟩ | ⟨p1, p2, p3⟩ <;> rcases h2 with ⟨q1, q2, q3⟩ | ⟨q1, q2, q3⟩ <;> first | exact ⟨by omega, p3.trans q3.symm⟩ | exact absurd q1 p1 | exact absurd p1 q1
theorem AdvR_det {a a1 a2 : Sa} {t r r' : Int} (h1 : AdvR a t r a1) (h2 : AdvR a t r' a2) : r = r' ∧ a1 = a2 := by
  rcases h1 with ⟨p1, p2, p3⟩ | ⟨p1, p2, p4, p3⟩ | ⟨p1, p2, p4, p3⟩ <;> rcases h2 with ⟨q1, q2, q3⟩ | ⟨q1, q2, q4, q3⟩ | ⟨q1, q2, q4, q3⟩ <;> first | exact ⟨by omega, p3.trans q3.symm⟩ | (exfalso; omega)
theorem AwdR_det {a a1 a2 : Sa} {t r r' : Int} (h1 : AwdR a t r a1) (h2 : AwdR a t r' a2) : r = r' ∧ a1 = a2 := by
  rcases h1 with ⟨p1, p2, p3⟩ | ⟨p1, p2, p4, p3⟩ | ⟨p1, p2, p4, p3⟩ <;> rcases h2 with ⟨q1, q2, q3⟩ | ⟨q1, q2, q4, q3⟩ | ⟨q1, q2, q4, q3⟩ <;> first | exact ⟨by omega, p3.trans q3.symm⟩ | (exfalso; omega)
theorem AddR_ok {a a' : Sa} {N T w r : Int} (hO : OK N T a) (hP : PcOK a) (h : AddR a w r a') : OK N T a' ∧ PcOK a' := by
  have hT := hO.1.1
  unfold TopOK at hT
  rcases h with ⟨p1, p2, p3⟩ | ⟨p1, p2, p4, p3⟩ | ⟨p1, p2, p4, p3⟩
  · rw [p3]; exact ⟨hO, hP⟩
  · rw [p3]; exact ⟨hO, hP⟩
  · rw [p3]; exact ⟨add_OK hO (by omega) (by omega) p1, Pc_add hP (by omega)⟩
theorem SetR_ok {a a' : Sa} {N T f k v r : Int} (hO : OK N T a) (hP : PcOK a) (h : SetR a f k v r a') : OK N T a' ∧ PcOK a' := by
  have hT := hO.1.1
  unfold TopOK at hT
  rcases h with ⟨p1, p2, p3⟩ | ⟨p1, p2, p4, p3⟩ | ⟨p1, p2, p4, p3⟩
  · rw [p3]; exact ⟨hO, hP⟩
  · rw [p3]; exact ⟨hO, hP⟩
  · have hk : 0 ≤ k ∧ k ≤ 4 := by unfold setOK at p2; omega
    rw [p3]
    exact ⟨set_OK hO (by omega) (by rw [show ((k.toNat : Nat) : Int) = k by omega]; exact p2), Pc_up hP (by omega)⟩
theorem RulR_ok {a a' : Sa} {N T k v r : Int} (hO : OK N T a) (hP : PcOK a) (h : RulR a k v r a') : OK N T a' ∧ PcOK a' := by
  rcases h with ⟨p1, p2, p3⟩ | ⟨p1, p2, p3⟩
  · rw [p3]; exact ⟨hO, hP⟩
  · have hk : 0 ≤ k ∧ k ≤ 3 := by unfold rulOK at p1; omega
    rw [p3]
    exact ⟨rul_OK hO (by rw [show ((k.toNat : Nat) : Int) = k by omega]; exact p1), Pc_up hP (by omega)⟩
theorem AdvR_ok {a a' : Sa} {N t r : Int} (hO : OK N 1000000 a) (hP : PcOK a) (h : AdvR a t r a') : OK N 1000000 a' ∧ PcOK a' := by
  rcases h with ⟨p1, p2, p3⟩ | ⟨p1, p2, p4, p3⟩ | ⟨p1, p2, p4, p3⟩
  · rw [p3]; exact ⟨hO, hP⟩
  · rw [p3]; exact ⟨hO, hP⟩
  · have hk := tkN_OK hO t.toNat (by omega)
    rw [p3]
    exact ⟨OK_T hk.1 (by rw [hk.2]; omega) (by decide), Pc_tkN hO hP _ (by omega)⟩
theorem AwdR_ok {a a' : Sa} {N t r : Int} (hO : OK N 1000000 a) (hP : PcOK a) (h : AwdR a t r a') : OK N 1000000 a' ∧ PcOK a' := by
  rcases h with ⟨p1, p2, p3⟩ | ⟨p1, p2, p4, p3⟩ | ⟨p1, p2, p4, p3⟩
  · rw [p3]; exact ⟨hO, hP⟩
  · rw [p3]; exact ⟨hO, hP⟩
  · have hk := awR_OK t.toNat (-6) hO (by omega)
    rw [p3]
    exact ⟨OK_T hk.1 (by omega) (by decide), Pc_awR _ _ hO hP (by omega)⟩
