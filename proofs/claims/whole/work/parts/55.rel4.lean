/-- all places of the cell o are set -/
def upC (X : Sa) (o : Nat) (g : Nat → Int) : Sa := fun q => if (yek q).1 = o ∧ key o (yek q).2 = q then g (yek q).2 else X q
theorem upC_s {X : Sa} {o k : Nat} {g : Nat → Int} (ho : o < 206) : upC X o g (key o k) = g k := by
  unfold upC
  rw [yek_key ho k, if_pos ⟨rfl, rfl⟩]
theorem upC_n {X : Sa} {o q : Nat} {g : Nat → Int} (h : (yek q).1 ≠ o) : upC X o g q = X q := if_neg (fun z => h z.1)
theorem upC_o {X : Sa} {o o' k : Nat} {g : Nat → Int} (ho : o' < 206) (h : o' ≠ o) : upC X o g (key o' k) = X (key o' k) := upC_n (by rw [yek_key ho k]; exact h)
theorem upC_j {X : Sa} {o o' k' : Nat} {g : Nat → Int} (ho : o < 206) : upC X o g (jk2 o' k') = X (jk2 o' k') := if_neg (fun z => key_j2 ho _ _ _ z.2.symm)
theorem cI_C {I : MI} {B o : Nat} {X : Sa} {g : Nat → Int} (ho : o < 206) (hl : ∀ k, ¬ lng o k) : up1 (cI I B X) (B + o) (fun k => iI (g k)) = cI I B (upC X o g) := by
  funext x k
  by_cases e : x = B + o
  · subst e
    rw [up1_s]
    unfold cI
    rw [mI_at ho, bI_n (hl k), upC_s ho]
  · rw [up1_n e]
    unfold cI mI
    split
    · rename_i h
      dsimp only
      by_cases hlg : lng (x - B) k
      · rw [bI_y hlg, bI_y hlg, upC_j ho]
      · rw [bI_n hlg, bI_n hlg, upC_o (by omega) (by omega)]
    · rfl
theorem cL_C {L : ML} {B o : Nat} {X : Sa} {g : Nat → Int} (ho : o < 206) (hl : ∀ k, ¬ lng o k) : cL L B (upC X o g) = cL L B X := by
  unfold cL
  refine mL_ex (fun o' ho' k' => ?_)
  by_cases hlg : lng o' k'
  · rw [dL_y hlg, dL_y hlg, upC_o (o := o) ho' (fun e => hl k' (by rw [← e]; exact hlg))]
  · rw [dL_n hlg, dL_n hlg, upC_j ho]
theorem yF1 (f r : Nat) (hr : ¬ r < 5) : (yF f r).1 = 3 + 3 * f ∨ 18 ≤ r := by
  by_cases h : 18 ≤ r
  · exact Or.inr h
  · left
    have h2 : r = 5 ∨ r = 6 ∨ r = 7 ∨ r = 8 ∨ r = 9 ∨ r = 10 ∨ r = 11 ∨ r = 12 ∨ r = 13 ∨ r = 14 ∨ r = 15 ∨ r = 16 ∨ r = 17 := by omega
    rcases h2 with rfl | rfl | rfl | rfl | rfl | rfl | rfl | rfl | rfl | rfl | rfl | rfl | rfl <;> rfl
theorem yF2 (f r : Nat) (hr : r < 5) : yF f r = (4 + 3 * f, r) := by
  unfold yF
  rw [if_neg (by omega), if_neg (by omega), if_neg (by omega), if_neg (by omega), if_neg (by omega), if_neg (by omega), if_neg (by omega), if_neg (by omega), if_neg (by omega), if_neg (by omega), if_neg (by omega), if_neg (by omega), if_neg (by omega)]
/-- a key's cell -/
theorem yk1_N {k : Nat} (h : k < 17) : (yek k).1 = 0 ∨ (yek k).1 = 203 ∨ (yek k).1 = 1 := by
  have h2 : k = 0 ∨ k = 1 ∨ k = 2 ∨ k = 3 ∨ k = 4 ∨ k = 5 ∨ k = 6 ∨ k = 7 ∨ k = 8 ∨ k = 9 ∨ k = 10 ∨ k = 11 ∨ k = 12 ∨ k = 13 ∨ k = 14 ∨ k = 15 ∨ k = 16 := by omega
  rcases h2 with rfl | rfl | rfl | rfl | rfl | rfl | rfl | rfl | rfl | rfl | rfl | rfl | rfl | rfl | rfl | rfl | rfl <;> decide
theorem yk1_F {f k : Nat} (hf : f < 6) (hk : k < 18) : (yek (17 + 18 * f + k)).1 = 3 + 3 * f ∨ (yek (17 + 18 * f + k)).1 = 4 + 3 * f := by
  rw [y_F hf hk]
  by_cases h : k < 5
  · rw [yF2 f k h]; exact Or.inr rfl
  · exact Or.inl ((yF1 f k h).resolve_right (by omega))
theorem yk1_Fs {f k : Nat} (hf : f < 6) (hk : k < 18) (h5 : ¬ k < 5) : (yek (17 + 18 * f + k)).1 = 3 + 3 * f := by
  rw [y_F hf hk]
  exact (yF1 f k h5).resolve_right (by omega)
theorem yk1_P {p k : Nat} (hk : k < 11) : (yek (125 + 11 * (p % 120) + k)).1 = 22 + p % 120 := by
  rw [y_P (Nat.mod_lt _ (by decide)) hk]
  rfl
theorem yk1_R {r k : Nat} (hk : k < 5) : (yek (1445 + 5 * (r % 60) + k)).1 = 143 + r % 60 := by
  rw [y_R (Nat.mod_lt _ (by decide)) hk]
  rfl
theorem yk1_T {k : Nat} (h : 1745 ≤ k ∧ k ≤ 1825) : (yek k).1 = 205 ∨ (yek k).1 = 204 := by
  unfold yek
  rw [if_neg (by omega), if_neg (by omega), if_neg (by omega), if_neg (by omega)]
  by_cases e : k < 1825
  · rw [if_pos e]; exact Or.inl rfl
  · rw [if_neg e, if_pos (by omega)]; exact Or.inr rfl
theorem yk1_Q {f i : Nat} (hf : f < 6) (hi : i < 20) : (yek (2000 + 20 * f + i)).1 = 5 + 3 * f := by rw [y_Q hf hi]
theorem yk1_C : (yek 3818).1 = 203 := by decide
theorem yk1_L : (yek 8356).1 = 0 := by decide
theorem pBg_n {X : Sa} {j k : Nat} {f n t d s : Int} (h : k < 125 + 11 * j ∨ 125 + 11 * j + 11 ≤ k) : pBg X j f n t d s k = X k := by
  unfold pBg
  rw [up1_n (by omega), up1_n (by omega), up1_n (by omega), up1_n (by omega), up1_n (by omega), up1_n (by omega), up1_n (by omega), up1_n (by omega), up1_n (by omega), up1_n (by omega), up1_n (by omega)]
theorem pBg_v {X : Sa} {j k : Nat} {f n t d s : Int} (hk : k < 10) : pBg X j f n t d s (125 + 11 * j + k) = if k = 0 then f else if k = 1 then n else if k = 2 then t else if k = 3 then d else if k < 8 then 0 else if k = 8 then -6 else s := by
  unfold pBg
  match k, hk with

  | 0, _ =>
    rw [up1_n (by omega), up1_n (by omega), up1_n (by omega), up1_n (by omega), up1_n (by omega), up1_n (by omega), up1_n (by omega), up1_n (by omega), up1_n (by omega), up1_n (by omega), up1_s]
    rfl
  | 1, _ =>
    rw [up1_n (by omega), up1_n (by omega), up1_n (by omega), up1_n (by omega), up1_n (by omega), up1_n (by omega), up1_n (by omega), up1_n (by omega), up1_n (by omega), up1_s]
    rfl
  | 2, _ =>
    rw [up1_n (by omega), up1_n (by omega), up1_n (by omega), up1_n (by omega), up1_n (by omega), up1_n (by omega), up1_n (by omega), up1_n (by omega), up1_s]
    rfl
  | 3, _ =>
    rw [up1_n (by omega), up1_n (by omega), up1_n (by omega), up1_n (by omega), up1_n (by omega), up1_n (by omega), up1_n (by omega), up1_s]
    rfl
  | 4, _ =>
    rw [up1_n (by omega), up1_n (by omega), up1_n (by omega), up1_n (by omega), up1_n (by omega), up1_n (by omega), up1_s]
    rfl
  | 5, _ =>
    rw [up1_n (by omega), up1_n (by omega), up1_n (by omega), up1_n (by omega), up1_n (by omega), up1_s]
    rfl
  | 6, _ =>
    rw [up1_n (by omega), up1_n (by omega), up1_n (by omega), up1_n (by omega), up1_s]
    rfl
  | 7, _ =>
    rw [up1_n (by omega), up1_n (by omega), up1_n (by omega), up1_s]
    rfl
  | 8, _ =>
    rw [up1_n (by omega), up1_s]
    rfl
  | 9, _ =>
    rw [up1_s]
    rfl
def jqX (X : Sa) (f qn : Nat) (p : Int) : Sa := up1 (up1 X (2000 + 20 * f + qn) p) (17 + 18 * f + 17) (qn + 1)
theorem jqX_n {X : Sa} {f qn k : Nat} {p : Int} (h : ¬ k = 2000 + 20 * f + qn ∧ ¬ k = 17 + 18 * f + 17) : jqX X f qn p k = X k := by
  unfold jqX
  rw [up1_n (by omega), up1_n (by omega)]
/-- the class's row when a packet has come -/
def tkX (X : Sa) (f p qn : Nat) (n t d s g14 g11 e : Int) : Sa := up1 (jqX (up1 (up1 (up1 (pBg X (p % 120) f n t d s) (17 + 18 * f + 12) e) (17 + 18 * f + 14) g14) (17 + 18 * f + 11) g11) f qn p) 7 (p + 1)
theorem tkX_n {X : Sa} {f p qn k : Nat} {n t d s g14 g11 e : Int} (h : ¬ k = 7 ∧ ¬ k = 2000 + 20 * f + qn ∧ ¬ k = 17 + 18 * f + 17 ∧ ¬ k = 17 + 18 * f + 12 ∧ ¬ k = 17 + 18 * f + 14 ∧ ¬ k = 17 + 18 * f + 11) (hp : k < 125 + 11 * (p % 120) ∨ 125 + 11 * (p % 120) + 11 ≤ k) : tkX X f p qn n t d s g14 g11 e k = X k := by
  unfold tkX
  rw [up1_n (by omega), jqX_n (by omega), up1_n (by omega), up1_n (by omega), up1_n (by omega), pBg_n hp]
theorem Rl.tk {a X : Sa} {N T : Int} (hI : Inv N T a) (hN : NowOK a) (hR : Rl true a X) {f p qn : Nat} {n d dv : Int} (hp : a 7 = p) (hf : (f : Int) < a 2) (hr : hasR a f = 1) (hq : a (17 + 18 * f + 17) = qn) (hq20 : qn < 20) (hdv : dv = if d = 0 then -6 else a 0 + d) : Rl true (take a f n d) (tkX X f p qn n (a 0) dv (tkS a f) (a (17 + 18 * f + 14) + n * 720720) (a (17 + 18 * f + 11) + 1) (tkS a f + n * 720720 / a (17 + 18 * f + 0))) := by
  have hT := hI.1
  unfold TopOK at hT
  have hf6 : f < 6 := by omega
  have hm : p % 120 < 120 := Nat.mod_lt _ (by decide)
  unfold take
  rw [show (a 7).toNat = p by omega]
  have g7 : tkA a f p n d 7 = a 7 + 1 := tkA_7
  have g2 : tkA a f p n d 2 = a 2 := tkA_n (by omega) (by omega)
  have g8 : tkA a f p n d 8 = a 8 := tkA_n (by omega) (by omega)
  have g15 : tkA a f p n d 15 = a 15 := tkA_n (by omega) (by omega)
  have hr1 := hasR_1 hr
  have ho : old a = (a 7 - 120).toNat := rfl
  have hoA : old (tkA a f p n d) = (a 7 + 1 - 120).toNat := by unfold old; rw [g7]
  refine ⟨fun k k1 k2 => ?_, fun g hg k hk => ?_, fun q p1 p2 => ?_, fun q r1 r2 k hk => ?_, fun k k1 k2 => ?_, fun g hg i q hi => ?_, fun q hp8 => ?_⟩
  · by_cases e : k = 7
    · subst e
      rw [g7, hp]
      unfold tkX
      rw [up1_s]
    · rw [tkX_n (by omega) (by omega), tkA_n (by omega) (by omega)]
      exact hR.n k k1 k2
  · rw [g2] at hg
    have hk1 := hk.1
    have hg6 : g < 6 := by omega
    by_cases e : g = f
    · subst e
      by_cases e12 : k = 12
      · subst e12
        rw [tkA_f12]
        unfold tkX
        rw [up1_n (by omega), jqX_n (by omega), up1_n (by omega), up1_n (by omega), up1_s]
      by_cases e14 : k = 14
      · subst e14
        rw [tkA_f14]
        unfold tkX
        rw [up1_n (by omega), jqX_n (by omega), up1_n (by omega), up1_s]
      by_cases e11 : k = 11
      · subst e11
        rw [tkA_f11]
        unfold tkX
        rw [up1_n (by omega), jqX_n (by omega), up1_s]
      by_cases e17 : k = 17
      · subst e17
        rw [tkA_f17, hq]
        unfold tkX jqX
        rw [up1_n (by omega), up1_s]
      rw [tkX_n (by omega) (by omega), tkA_n (by omega) (by omega)]
      exact hR.f hg hk
    · rw [tkX_n (by omega) (by omega), tkA_n (by omega) (by omega)]
      exact hR.f hg hk
  · rw [hoA] at p1
    rw [g7] at p2
    by_cases e : q = p
    · subst e
      refine ⟨fun k hk => ?_, fun z => ?_⟩
      · have hx : tkX X f q qn n (a 0) dv (tkS a f) (a (17 + 18 * f + 14) + n * 720720) (a (17 + 18 * f + 11) + 1) (tkS a f + n * 720720 / a (17 + 18 * f + 0)) (125 + 11 * (q % 120) + k) = pBg X (q % 120) f n (a 0) dv (tkS a f) (125 + 11 * (q % 120) + k) := by
          unfold tkX
          rw [up1_n (by omega), jqX_n (by omega), up1_n (by omega), up1_n (by omega), up1_n (by omega)]
        rw [hx, pBg_v hk, hdv]
        match k, hk with
        | 0, _ => rw [tkA_p0 hf6]; rfl
        | 1, _ => rw [tkA_p1 hf6]; rfl
        | 2, _ => rw [tkA_p2 hf6]; rfl
        | 3, _ => rw [tkA_p3 hf6]; rfl
        | 4, _ => rw [tkA_p4 hf6]; rfl
        | 5, _ => rw [tkA_p5 hf6]; rfl
        | 6, _ => rw [tkA_p6 hf6]; rfl
        | 7, _ => rw [tkA_p7 hf6]; rfl
        | 8, _ => rw [tkA_p8 hf6]; rfl
        | 9, _ => rw [tkA_p9 hf6]; rfl
      · rw [tkA_p4 hf6] at z
        exact absurd z (by decide)
    · have hne : q % 120 ≠ p % 120 := by omega
      have hkq : old a ≤ q ∧ (q : Int) < a 7 := by omega
      refine ⟨fun k hk => ?_, fun z => ?_⟩
      · rw [tkX_n (by omega) (by omega), tkA_q hf6 hne (by omega)]
        exact hR.p hkq hk
      · rw [tkA_q hf6 hne (by decide)] at z
        rw [tkX_n (by omega) (by omega), tkA_q hf6 hne (by decide)]
        exact hR.p10 hkq z
  · rw [g15] at r1 r2
    have hm2 : q % 60 < 60 := Nat.mod_lt _ (by decide)
    rw [tkX_n (by omega) (by omega), tkA_n (by omega) (by omega)]
    exact hR.r r1 r2 hk
  · rw [tkX_n (by omega) (by omega), tkA_n (by omega) (by omega)]
    exact hR.t k k1 k2
  · rw [g2] at hg
    have hg6 : g < 6 := by omega
    rw [Qs_take hI hp hf6 hr g] at hi
    have hlen := (hI.2.1 f hf).2
    by_cases e : f = g
    · subst e
      rw [if_pos rfl] at hi
      rcases app_get hi with ⟨h1, h2⟩ | ⟨h1, h2⟩
      · rw [tkX_n (by omega) (by omega)]
        exact hR.q hg h2
      · rw [h2, h1]
        unfold tkX jqX
        rw [up1_n (by omega), up1_n (by omega), show qn = (Qs a f).length by omega, up1_s]
    · rw [if_neg e, List.append_nil] at hi
      have h20 := Inv.q20 hI g hg
      have hil := (List.getElem?_eq_some_iff.mp hi).1
      rw [tkX_n (by omega) (by omega)]
      exact hR.q hg hi
  · rw [g8] at hp8
    have hc := hR.c hp8
    rcases hN.2 with h | ⟨z, h1, h2, h3, h4, -⟩
    · omega
    · have e : z = q := by omega
      subst e
      have hne : z % 120 ≠ p % 120 := by
        intro hz
        have hzo : z = old a := by omega
        refine hr1.2 ⟨by omega, ?_⟩
        rw [← hzo, h4]
        decide
      rw [tkX_n (by omega) (by omega), tkX_n (by omega) (by omega), tkA_n (by omega) (by omega), tkA_q hf6 hne (by decide)]
      exact hc
