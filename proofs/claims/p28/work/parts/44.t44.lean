/-! the reference's rows -/
theorem RW_m {B : Nat → Int} {n : Nat} {o : Int} {m q : Nat} {st' : Nat → Int} {P Q : Int32 → zSto → Prop} (h : RW B n o m q st' P) (hm : ∀ r σ, (r = 0 ∨ r = 1) → P r σ → Q r σ) : RW B n o m q st' Q :=
  ⟨fun c σ2 a b => hm _ _ (Or.inr rfl) (h.1 c σ2 a b), fun c σ2 a b => hm _ _ (Or.inl rfl) (h.2 c σ2 a b)⟩
theorem f_keep2 (c fr wd most N : Nat) (x1 x2 x3 x4 x5 : Int32) (hc : ti x1 = c) (h2 : ti x2 = fr) (h3 : ti x3 = wd) (h4 : ti x4 = most) (hN : ti x5 = N) (hcf : c < fr) (hN6 : N ≤ 6) (hwd : wd ≤ 6) {σ : zSto} (hk : 0 ≤ ti (σ.1 232 c) ∧ ti (σ.1 232 c) ≤ most) (hm : most ≤ 16) (hfit : fr + wd * (most - 1) + N ≤ 123) (hc1 : c < 123) {P : zSto → Prop} (h0 : ti (σ.1 232 c) = most → P σ) (hP : ∀ (k : Nat), ti (σ.1 232 c) = k → k < most → ∀ σ2, (∀ q j, σ2.1 q j = if q = 232 ∧ j = c then σ.1 232 c + 1 else if q = 232 ∧ fr + wd * k ≤ j ∧ j < fr + wd * k + N then σ.1 233 (j - (fr + wd * k)) else σ.1 q j) → P σ2) : w_X10_keep x1 x2 x3 x4 x5 σ P := by
  unfold w_X10_keep
  have tc := tn_eq x1
  refine ⟨vin (by omega), fun y ey => ⟨fun q => ?_, fun q => h0 ?_⟩⟩
  · rw [show x1.toNatClampNeg = c by omega] at ey
    have cy := eq_t ey
    have cq := ne_t q
    obtain ⟨k, hk'⟩ : ∃ k : Nat, k = (ti (σ.1 232 c)).toNat := ⟨_, rfl⟩
    have hkk : ti y = (k : Int) := by omega
    have hkm : k < most := by omega
    have b1 : wd * k ≤ wd * (most - 1) := Nat.mul_le_mul_left _ (by omega)
    have b2 : wd * k ≤ 6 * 16 := Nat.mul_le_mul hwd (by omega)
    have em : ti x3 * ti y = ((wd * k : Nat) : Int) := by rw [h3, hkk]; simp
    have m1 : ti (x3 * y) = ((wd * k : Nat) : Int) := by rw [tmul (by rw [em]; omega), em]
    have m2 := tadd (x := x2) (y := x3 * y) (by omega)
    exact ⟨100, f_keep_19 c (fr + wd * k) N x1 x2 x3 x5 y hc (by omega) hN hN6 (by omega) (by omega) ⟨hk.1, by omega⟩ (hP k (by omega) hkm) 100 0 (0 : Int32) σ (by rw [lit_0]; rfl) (by omega) (fun q j => by rw [if_neg (by omega)]) (by omega)⟩
  · rw [show x1.toNatClampNeg = c by omega] at ey
    have cy := eq_t ey
    have cq := eq_t q
    omega
/-- told by keep -/
def wr (st : Nat → Int) (base N : Nat) (v : Nat → Int) (c : Nat) : Nat → Int := fun s => if s = c then st c + 1 else if base ≤ s ∧ s < base + N then v (s - base) else st s
theorem RR_keep {st st' : Nat → Int} {σ σ2 : zSto} {c base N : Nat} {v : Nat → Int} (h : RR 0 st σ) (hs : ∀ s, s < 123 → st' s = wr st base N v c s) (hσ : ∀ q j, σ2.1 q j = if q = 232 ∧ j = c then σ.1 232 c + 1 else if q = 232 ∧ base ≤ j ∧ j < base + N then σ.1 233 (j - base) else σ.1 q j) (hv : ∀ i, i < N → ti (σ.1 233 i) = v i) (hc : c < 7) (hcb : c < base) (hk : 0 ≤ st c ∧ st c ≤ 100) (hb : ∀ i, i < N → 7 ≤ base + i ∧ (87 ≤ base + i ∨ (base + i - 7) % 5 < 3)) : RR 0 st' σ2 := by
  refine ⟨fun z => ⟨fun s a b => ?_, fun p a => ?_⟩, fun z => absurd rfl z⟩
  · rw [hσ, hs s a]
    unfold wr
    by_cases c1 : s = c
    · rw [if_pos ⟨rfl, c1⟩, if_pos c1]
      have e := (h.1 z).1 c (by omega) (by omega)
      have := tadd (x := σ.1 232 c) (y := (1 : Int32)) (by rw [lit_1]; omega)
      rw [this, lit_1, e]
    · rw [if_neg (by omega), if_neg c1]
      by_cases c2 : base ≤ s ∧ s < base + N
      · rw [if_pos ⟨rfl, c2⟩, if_pos c2]
        exact hv _ (by omega)
      · rw [if_neg (by omega), if_neg c2]
        exact (h.1 z).1 s a b
  · have w3 : ∀ r, r = 3 ∨ r = 4 → st' (7 + 5 * p + r) = st (7 + 5 * p + r) := by
      intro r hr
      rw [hs _ (by omega)]
      unfold wr
      rw [if_neg (by omega), if_neg]
      intro c2
      have := hb (7 + 5 * p + r - base) (by omega)
      omega
    rw [hσ, hσ, if_neg (by omega), if_neg (by omega), if_neg (by omega), if_neg (by omega), w3 3 (by omega), w3 4 (by omega)]
    exact (h.1 z).2 p a
theorem RR_keepP {o : Int} (ho : o ≠ 0) {st st' : Nat → Int} {σ σ2 : zSto} {base N : Nat} {v : Nat → Int} (h : RR o st σ) (hs : ∀ j, j < 33 → st' (300 + j) = wr st (300 + base) N v 300 (300 + j)) (hσ : ∀ q j, σ2.1 q j = if q = 232 ∧ j = 0 then σ.1 232 0 + 1 else if q = 232 ∧ base ≤ j ∧ j < base + N then σ.1 233 (j - base) else σ.1 q j) (hv : ∀ i, i < N → ti (σ.1 233 i) = v i) (hcb : 0 < base) (hk : 0 ≤ st 300 ∧ st 300 ≤ 100) : RR o st' σ2 := by
  refine ⟨fun z => absurd z ho, fun z j a => ?_⟩
  rw [hσ, hs j a]
  unfold wr
  by_cases c1 : j = 0
  · subst c1
    rw [if_pos ⟨rfl, rfl⟩, if_pos rfl]
    have e := h.2 z 0 (by omega)
    have := tadd (x := σ.1 232 0) (y := (1 : Int32)) (by rw [lit_1, e]; show -2147483648 ≤ st 300 + 1 ∧ st 300 + 1 ≤ 2147483647; omega)
    rw [this, lit_1, e]
  · rw [if_neg (show ¬ (232 = 232 ∧ j = 0) by omega), if_neg (show ¬ 300 + j = 300 by omega)]
    by_cases c2 : base ≤ j ∧ j < base + N
    · rw [if_pos ⟨rfl, c2⟩, if_pos (by omega), show 300 + j - (300 + base) = j - base by omega]
      exact hv _ (by omega)
    · rw [if_neg (show ¬ (232 = 232 ∧ base ≤ j ∧ j < base + N) by omega), if_neg (show ¬ (300 + base ≤ 300 + j ∧ 300 + j < 300 + base + N) by omega)]
      exact h.2 z j a
theorem kp_fr {σ σ2 : zSto} {c base N : Nat} (hσ : ∀ q j, σ2.1 q j = if q = 232 ∧ j = c then σ.1 232 c + 1 else if q = 232 ∧ base ≤ j ∧ j < base + N then σ.1 233 (j - base) else σ.1 q j) : ∀ q j, q ≠ 232 → q ≠ 234 → q ≠ 235 → σ2.1 q j = σ.1 q j := fun q j a _ _ => by rw [hσ, if_neg (by omega), if_neg (by omega)]
/-- v, place of the NUMBERS behind q -/
def vlN (B : Nat → Int) (n q : Nat) : Nat → Int := fun i => tkV B n (nP B n q i)
def plN (B : Nat → Int) (n q : Nat) : Nat → Int := fun i => ((tkF B n (nP B n q i) : Nat) : Int)
/-- full: FAULT 3 at the word -/
def ful (st : Nat → Int) (c : Nat) (m w : Int) : Nat → Int := if st c = m then nte st 3 w else st
theorem f_full {B : Nat → Int} {n : Nat} {o : Int} {st : Nat → Int} {b G m : Int} {σ : zSto} {c cs : Nat} (C : RC B n o st b G σ) (a1 a2 a3 : Int32) (h1 : ti a1 = (c : Int)) (hc : c < 2) (h2 : ti a2 = m) (hs : ti (σ.1 232 c) = st cs) (hb : b ≤ ti a3) {P : zSto → Prop} (hP : ∀ σ2, RC B n o (ful st cs m (ti a3)) (ti a3 + 1) G σ2 → ti (σ2.1 223 9) = ti (σ.1 223 9) → P σ2) : w_X10_full a1 a2 a3 σ P := by
  unfold w_X10_full
  have tn := tn_eq a1
  have l3 := lit_3
  refine ⟨vin (by omega), ?_⟩
  rw [show a1.toNatClampNeg = c by omega]
  refine ⟨fun q => hP σ ?_ rfl, fun q => ?_⟩
  · have := ne_t q
    unfold ful
    rw [if_neg (by omega)]
    exact RC_b C (by omega)
  · have := eq_t q
    refine f_X10_later C _ _ (by omega) hb (fun σ2 C2 f2 g2 => hP σ2 ?_ (by rw [f2 _ _ (by omega)]))
    unfold ful
    rw [if_pos (by omega), ← l3]
    exact C2
theorem chk_200 {st : Nat → Int} {v p l h : Int} (hn : st 200 ≠ 0) : chk st v p l h 200 ≠ 0 := by rw [chk_nz hn]; exact hn
theorem f_X10_postLine {B : Nat → Int} {n q : Nat} {st : Nat → Int} {w G : Int} {σ : zSto} (C : RC B n 0 (ful st 0 16 w) (q : Int) (st 202) σ) (T : TKs B n q σ) {P : Int32 → zSto → Prop} (W : RW B n 0 3 q (apP st (vlN B n q) (plN B n q) w) P) : w_X10_postLine σ P := by
  have l0 := lit_0
  have l1 := lit_1
  have l3 := lit_3
  have l5 := lit_5
  have l7 := lit_7
  have l16 := lit_16
  have l30 := lit_30
  have l2 := lit_2
  have g := fun p => tkF_ge B n p
  unfold w_X10_postLine
  refine f_take C T (by have := g q; omega) _ _ _ (k := 0) l0 (by omega) l1 l30 W (fun σ2 h _ => ⟨fun _ => h, fun c => absurd rfl c⟩) (fun σ1 W1 C1 T1 v1 u1 => fun _ => ⟨fun c => absurd c (by decide), fun _ => ?_⟩)
  refine f_take C1 T1 (by have := g (tkE B n q); omega) _ _ _ (k := 1) l1 (by omega) l0 l3 W1 (fun σ2 h _ => ⟨fun _ => h, fun c => absurd rfl c⟩) (fun σ2 W2 C2 T2 v2 u2 => fun _ => ⟨fun c => absurd c (by decide), fun _ => ?_⟩)
  refine f_take C2 T2 (by have := g (tkE B n (tkE B n q)); omega) _ _ _ (k := 2) l2 (by omega) l0 l30 W2 (fun σ2 h _ => ⟨fun c => absurd rfl c, fun _ => h⟩) (fun σ3 W3 C3 T3 v3 u3 => fun _ => ⟨fun _ => ?_, fun c => absurd c (by decide)⟩)
  have hb := C3.2.2.2.2.2.2.2.1 rfl
  have hr := (C3.2.2.2.2.2.2.1.1 rfl).1 0 (by omega) (by omega)
  have e0 : ∀ s, s < 123 → (chk (chk (chk (ful st 0 16 w) (tkV B n q) (tkF B n q : Nat) 1 30) (tkV B n (tkE B n q)) (tkF B n (tkE B n q) : Nat) 0 3) (tkV B n (tkE B n (tkE B n q))) (tkF B n (tkE B n (tkE B n q)) : Nat) 0 30) s = st s := fun s hs => by
    rw [chk_s (by omega), chk_s (by omega), chk_s (by omega)]
    unfold ful
    split
    · exact nte_s (by omega)
    · rfl
  have ez := e0 0 (by omega)
  rw [ez] at hb hr
  refine f_keep2 0 7 5 16 3 _ _ _ _ _ l0 l7 l5 l16 l3 (by omega) (by omega) (by omega) ⟨by omega, by omega⟩ (by omega) (by omega) (by omega) (fun c => RW_0 W3 σ3 ?_ T3) (fun k hk hk2 σ4 e4 => RW_0 W3 σ4 ?_ (TKs_w T3 (kp_fr e4)))
  · have c2 : st 0 = 16 := by omega
    have ef : ful st 0 16 w = nte st 3 w := if_pos c2
    have ea : apP st (vlN B n q) (plN B n q) w = nte st 3 w := if_neg (by omega)
    have nz : nte st 3 w 200 ≠ 0 := nte_200 (by decide)
    rw [ef, chk_nz nz, chk_nz nz, chk_nz nz] at C3
    rw [ea]
    exact RC_w C3 (fun _ _ _ _ _ => rfl) rfl rfl (fun z => absurd z nz) C3.2.2.2.2.2.2.1 C3.2.2.2.2.2.2.2
  · have ef : ful st 0 16 w = st := if_neg (by omega)
    rw [ef] at C3 e0
    have hk3 : st 0 = (k : Int) := by omega
    have ea : apP st (vlN B n q) (plN B n q) w = up (up (up (up (chk (chk (chk st (tkV B n q) (tkF B n q : Nat) 1 30) (tkV B n (tkE B n q)) (tkF B n (tkE B n q) : Nat) 0 3) (tkV B n (tkE B n (tkE B n q))) (tkF B n (tkE B n (tkE B n q)) : Nat) 0 30) (7 + 5 * k + 0) (tkV B n q)) (7 + 5 * k + 1) (tkV B n (tkE B n q))) (7 + 5 * k + 2) (tkV B n (tkE B n (tkE B n q)))) 0 (st 0 + 1) := by
      unfold apP
      rw [if_pos (by omega), hk3, Int.toNat_natCast]
      rfl
    rw [ea]
    have u' : ∀ {f : Nat → Int} {a b c d : Nat} {x y z t : Int} {j : Nat}, j ≠ a → j ≠ b → j ≠ c → j ≠ d → up (up (up (up f a x) b y) c z) d t j = f j := fun h1 h2 h3 h4 => by rw [up_q h4, up_q h3, up_q h2, up_q h1]
    refine RC_w C3 (kp_fr e4) (u' (by omega) (by omega) (by omega) (by omega)) (u' (by omega) (by omega) (by omega) (by omega)) (fun _ => ?_) (RR_keep (c := 0) (base := 7 + 5 * k) (N := 3) (v := vlN B n q) C3.2.2.2.2.2.2.1 (fun s hs => ?_) e4 (fun i hi => ?_) (by omega) (by omega) (by rw [ez.symm.trans (by rw [ef])] at hb; omega) (fun i hi => by omega)) ?_
    · rw [u' (by omega) (by omega) (by omega) (by omega), chk_q (by omega) (by omega), chk_q (by omega) (by omega), chk_q (by omega) (by omega)]
    · unfold wr
      by_cases c0 : s = 0
      · rw [c0, up_s, if_pos rfl, e0 0 (by omega)]
      · rw [up_q c0, if_neg c0]
        by_cases c2 : 7 + 5 * k ≤ s ∧ s < 7 + 5 * k + 3
        · rw [if_pos c2]
          rcases (show s = 7 + 5 * k + 0 ∨ s = 7 + 5 * k + 1 ∨ s = 7 + 5 * k + 2 by omega) with r | r | r
          · rw [r, up_q (by omega), up_q (by omega), up_s, show 7 + 5 * k + 0 - (7 + 5 * k) = 0 by omega]; rfl
          · rw [r, up_q (by omega), up_s, show 7 + 5 * k + 1 - (7 + 5 * k) = 1 by omega]; rfl
          · rw [r, up_s, show 7 + 5 * k + 2 - (7 + 5 * k) = 2 by omega]; rfl
        · rw [if_neg c2, up_q (by omega), up_q (by omega), up_q (by omega)]
    · rcases (show i = 0 ∨ i = 1 ∨ i = 2 by omega) with r | r | r <;> subst r
      · rw [u3 0 (by omega), u2 0 (by omega)]; exact v1
      · rw [u3 1 (by omega)]; exact v2
      · exact v3
    · have := C3.2.2.2.2.2.2.2
      refine ⟨fun _ => ?_, fun z => absurd z (by decide), fun z => absurd z (by decide)⟩
      have h1 := (this.1 rfl).2.2
      rw [up_s, up_q (by omega), up_q (by omega), up_q (by omega), up_q (by omega)]
      exact ⟨by omega, by omega, h1.1, h1.2⟩
