/-! purse on both sides; a store with an empty set of no COSTS -/
theorem bF_low {b : Nat → Bool} {p k : Nat} : bF b (p + 1) 0 k = true ↔ bF b p 0 k = true ∧ (k / 2 ^ p % 2 = 1 → b p = true) := by
  rw [bF_iff, bF_iff]
  refine ⟨fun z => ⟨fun i hi hk => z i (by omega) hk, fun hk => by
    have y := z p (by omega) hk
    rw [Nat.zero_add] at y
    exact y⟩, fun z i hi hk => ?_⟩
  by_cases d : i = p
  · subst d
    rw [Nat.zero_add]
    exact z.2 hk
  · exact z.1 i (by omega) hk
/-- a set of the POSTS ahead of p that have POUNDS -/
def vS (b : Nat → Bool) (p k : Nat) : Prop := k < 2 ^ p ∧ bF b p 0 k = true
theorem vS_up {b : Nat → Bool} {p k : Nat} (h : vS b p k) : vS b (p + 1) k := by
  have pw : 2 ^ (p + 1) = 2 ^ p * 2 := Nat.pow_succ 2 p
  refine ⟨by have := h.1; omega, bF_low.mpr ⟨h.2, fun z => ?_⟩⟩
  rw [Nat.div_eq_of_lt h.1] at z
  omega
theorem vS_sp {b : Nat → Bool} {p k : Nat} (h : vS b (p + 1) k) : vS b p k ∨ (b p = true ∧ ∃ k0, vS b p k0 ∧ k = k0 + 2 ^ p * 1) := by
  have pw : 2 ^ (p + 1) = 2 ^ p * 2 := Nat.pow_succ 2 p
  have po : 0 < 2 ^ p := Nat.pow_pos (by decide)
  obtain ⟨h1, h2⟩ := h
  rw [bF_low] at h2
  by_cases c : k < 2 ^ p
  · exact Or.inl ⟨c, h2.1⟩
  · right
    have e : k / 2 ^ p = 1 := by
      have a := Nat.div_lt_of_lt_mul (m := k) (n := 2 ^ p) (k := 2) (by omega)
      have b' : 0 < k / 2 ^ p := Nat.div_pos (by omega) po
      omega
    refine ⟨h2.2 (by rw [e]), k % 2 ^ p, ⟨Nat.mod_lt _ po, ?_⟩, ?_⟩
    · rw [bF_iff]
      intro i hi hk
      rw [bit_lo hi] at hk
      exact (bF_iff p 0 k).mp h2.1 i hi hk
    · have y := Nat.mod_add_div k (2 ^ p)
      rw [e] at y
      omega
theorem vS_jn {b : Nat → Bool} {p k0 : Nat} (hb : b p = true) (h : vS b p k0) : vS b (p + 1) (k0 + 2 ^ p * 1) := by
  have lt := jn_lt (R := 1) (s := 1) h.1 (by decide)
  have jm := jn_mod (s := 1) h.1
  refine ⟨lt, bF_low.mpr ⟨?_, fun _ => hb⟩⟩
  rw [bF_iff]
  intro i hi hk
  rw [← bit_lo hi, jm.1] at hk
  exact (bF_iff p 0 k0).mp h.2 i hi hk
theorem sF_lo {f : Nat → Int} {p k : Nat} (h : k < 2 ^ p) : sF f (p + 1) 0 k = sF f p 0 k := by
  rw [sF_s, Nat.div_eq_of_lt h]
  show _ + 0 = _
  omega
theorem sF_jn {f : Nat → Int} {p k0 : Nat} (h : k0 < 2 ^ p) : sF f (p + 1) 0 (k0 + 2 ^ p * 1) = sF f p 0 k0 + f p := by
  have jm := jn_mod (s := 1) h
  rw [sF_s, jm.2, ← sF_pre (Nat.le_refl p) (k0 + 2 ^ p * 1), jm.1]
  rfl
/-- the best of the sets that have just x COSTS: its POUNDS v, the set A -/
def BsP (b : Nat → Bool) (a c : Nat → Int) (p : Nat) (x : Int) (v A : Int32) : Prop := (ti v = -1 ∧ ∀ k, vS b p k → ¬ sF c p 0 k = x) ∨ ∃ k, vS b p k ∧ sF c p 0 k = x ∧ sF a p 0 k = ti v ∧ A = Int32.ofNat k ∧ ∀ k', vS b p k' → sF c p 0 k' = x → sF a p 0 k' < sF a p 0 k ∨ (sF a p 0 k' = sF a p 0 k ∧ k ≤ k')
theorem BsP_no {b : Nat → Bool} {a c : Nat → Int} {p : Nat} {x : Int} {v A : Int32} (h : BsP b a c p x v A) (hn : ∀ k0, b p = true → vS b p k0 → ¬ sF c p 0 k0 + c p = x) : BsP b a c (p + 1) x v A := by
  have old : ∀ k, vS b (p + 1) k → sF c (p + 1) 0 k = x → vS b p k := fun k hk hx => by
    rcases vS_sp hk with y | ⟨hb, k0, y1, y2⟩
    · exact y
    · rw [y2, sF_jn y1.1] at hx
      exact absurd hx (hn k0 hb y1)
  rcases h with ⟨h1, h2⟩ | ⟨k, h1, h2, h3, h4, h5⟩
  · refine Or.inl ⟨h1, fun k hk hx => ?_⟩
    have o := old k hk hx
    rw [sF_lo o.1] at hx
    exact h2 k o hx
  · refine Or.inr ⟨k, vS_up h1, by rw [sF_lo h1.1]; exact h2, by rw [sF_lo h1.1]; exact h3, h4, fun k' hk hx => ?_⟩
    have o := old k' hk hx
    rw [sF_lo o.1] at hx
    rw [sF_lo o.1, sF_lo h1.1]
    exact h5 k' o hx
/-- POST p is not taken in -/
theorem BsP_k {b : Nat → Bool} {a c : Nat → Int} {p : Nat} {x : Int} {v A v0 A0 : Int32} (ha : 0 ≤ a p) (hna : ∀ k, 0 ≤ sF a p 0 k) (h : BsP b a c p x v A) (h0 : BsP b a c p (x - c p) v0 A0) (hle : ti v0 + a p ≤ ti v) (hv0 : ¬ ti v0 = -1) : BsP b a c (p + 1) x v A := by
  rcases h0 with ⟨g1, g2⟩ | ⟨k0, g1, g2, g3, g4, g5⟩
  · exact absurd g1 hv0
  · have n0 := hna k0
    rcases h with ⟨h1, h2⟩ | ⟨k, h1, h2, h3, h4, h5⟩
    · omega
    · refine Or.inr ⟨k, vS_up h1, by rw [sF_lo h1.1]; exact h2, by rw [sF_lo h1.1]; exact h3, h4, fun k' hk hx => ?_⟩
      rw [sF_lo h1.1]
      rcases vS_sp hk with y | ⟨hb, k1, y1, y2⟩
      · rw [sF_lo y.1] at hx ⊢
        exact h5 k' y hx
      · rw [y2, sF_jn y1.1] at hx
        have w := g5 k1 y1 (by omega)
        rw [y2, sF_jn y1.1]
        have lt := h1.1
        omega
/-- POST p is taken in -/
theorem BsP_n {b : Nat → Bool} {a c : Nat → Int} {p : Nat} (hp : p ≤ 15) {x : Int} {v A v0 A0 v' A' : Int32} (hb : b p = true) (h : BsP b a c p x v A) (h0 : BsP b a c p (x - c p) v0 A0) (hgt : ti v < ti v0 + a p) (hv0 : ¬ ti v0 = -1) (hv' : ti v' = ti v0 + a p) (hA' : A' = A0 ||| ((1 : Int32) <<< (Int32.ofNat p &&& 31))) : BsP b a c (p + 1) x v' A' := by
  have one : (1 : Int32) <<< (Int32.ofNat p &&& 31) = Int32.ofNat (2 ^ p * 1) := by
    have y := i_shl 1 (show p < 32 by omega)
    rw [Nat.one_mul] at y
    rw [Nat.mul_one]
    exact y
  rcases h0 with ⟨g1, g2⟩ | ⟨k0, g1, g2, g3, g4, g5⟩
  · exact absurd g1 hv0
  · refine Or.inr ⟨k0 + 2 ^ p * 1, vS_jn hb g1, by rw [sF_jn g1.1]; omega, by rw [sF_jn g1.1, hv']; omega, ?_, fun k' hk hx => ?_⟩
    · rw [hA', g4, one]
      exact or_jn (R := 1) (by omega) g1.1 (by decide)
    · rw [sF_jn g1.1]
      rcases vS_sp hk with y | ⟨hb', k1, y1, y2⟩
      · rw [sF_lo y.1] at hx ⊢
        left
        rcases h with ⟨h1, h2⟩ | ⟨k, h1, h2, h3, h4, h5⟩
        · exact absurd hx (h2 k' y)
        · have w := h5 k' y hx
          omega
      · rw [y2, sF_jn y1.1] at hx
        have w := g5 k1 y1 (by omega)
        rw [y2, sF_jn y1.1]
        omega
def PuS (b : Nat → Bool) (a c : Nat → Int) (p Lm : Nat) (σ : zSto) : Prop := ∀ x : Nat, x ≤ Lm → BsP b a c p (x : Int) (σ.1 208 x) (σ.1 209 x)
def FrU (σ σ2 : zSto) : Prop := (∀ k j, k ≠ 208 → k ≠ 209 → σ2.1 k j = σ.1 k j) ∧ σ2.1 209 0 = σ.1 209 0
theorem FrU.tr {a b c : zSto} (h : FrU a b) (h2 : FrU b c) : FrU a c := ⟨fun k j x y => (h2.1 k j x y).trans (h.1 k j x y), h2.2.trans h.2⟩
set_option maxHeartbeats 4000000 in
theorem f_addPost {b : Nat → Bool} {a c : Nat → Int} {p Lm : Nat} (hp : p ≤ 15) (hb : b p = true) (ha : 0 ≤ a p ∧ a p ≤ 30) (hc : 1 ≤ c p ∧ c p ≤ 75) (hna : ∀ k, 0 ≤ sF a p 0 k ∧ sF a p 0 k ≤ 30000) (hnc : ∀ k, 0 ≤ sF c p 0 k) (hL : Lm ≤ 999) {σ : zSto} (S : PuS b a c p Lm σ) (a1 a2 a3 a4 : Int32) (h1 : a1 = Int32.ofNat p) (h2 : ti a2 = a p) (h3 : ti a3 = c p) (h4 : ti a4 = (Lm : Int)) {P : zSto → Prop} (hP : ∀ σ2, FrU σ σ2 → PuS b a c (p + 1) Lm σ2 → P σ2) : w_X3_addPost a1 a2 a3 a4 σ P := by
  have l0 := lit_0
  have l1 := lit_1
  have lm := lit_m1
  have l999 := lit_999
  have rv : ∀ x : Nat, x ≤ Lm → -1 ≤ ti (σ.1 208 x) ∧ ti (σ.1 208 x) ≤ 30000 := fun x hx => by
    rcases S x hx with ⟨y, _⟩ | ⟨k, _, _, y, _, _⟩
    · omega
    · have := hna k
      omega
  have go : ∀ (m y : Nat) (x_5 : Int32) (σ3 : zSto), FrU σ σ3 → ti x_5 + 1 = (y : Int) → y ≤ Lm + 1 → (∀ x, x < y → σ3.1 208 x = σ.1 208 x ∧ σ3.1 209 x = σ.1 209 x) → (∀ x, y ≤ x → x ≤ Lm → BsP b a c (p + 1) (x : Int) (σ3.1 208 x) (σ3.1 209 x)) → y < m → w_X3_addPost_10 a1 a2 a3 P m x_5 σ3 := by
    intro m
    induction m with
    | zero => intro y x_5 σ3 _ _ _ _ _ h; omega
    | succ m ih =>
      intro y x_5 σ3 fr hy hyL lo up hm
      unfold w_X3_addPost_10
      refine ⟨fun q => ?_, fun q => ⟨fun q2 => by have := lt_t q2; omega, fun _ => ?_⟩⟩
      · have cc := lt_t q
        refine hP σ3 fr (fun x hx => ?_)
        by_cases d : y ≤ x
        · exact up x d hx
        · rw [(lo x (by omega)).1, (lo x (by omega)).2]
          refine BsP_no (S x hx) (fun k0 _ _ => ?_)
          have := hnc k0
          omega
      · have cc := nlt_t q
        have ty := tadd (x := x_5) (y := (-1 : Int32)) (by omega)
        have ts := tsub (x := x_5) (y := a3) (by omega)
        have tn := tn_eq x_5
        have tn' := tn_eq (x_5 - a3)
        obtain ⟨w, hw⟩ : ∃ w : Nat, y = w + 1 := ⟨y - 1, by omega⟩
        subst hw
        obtain ⟨u, hu⟩ : ∃ u : Nat, (u : Int) = (w : Int) - c p := ⟨((w : Int) - c p).toNat, by omega⟩
        have Sw := S w (by omega)
        have Su := S u (by omega)
        rw [hu] at Su
        have rw' := rv w (by omega)
        have ru := rv u (by omega)
        rw [show (x_5 - a3).toNatClampNeg = u by omega, show x_5.toNatClampNeg = w by omega, (lo u (by omega)).1, (lo w (by omega)).1]
        have nxt : ∀ (σ4 : zSto) (x4 : Int32), FrU σ σ4 → (∀ x, x < w → σ4.1 208 x = σ3.1 208 x ∧ σ4.1 209 x = σ3.1 209 x) → (∀ x, w < x → σ4.1 208 x = σ3.1 208 x ∧ σ4.1 209 x = σ3.1 209 x) → BsP b a c (p + 1) (w : Int) (σ4.1 208 w) (σ4.1 209 w) → x4 = x_5 + (-1 : Int32) → w_X3_addPost_10 a1 a2 a3 P m x4 σ4 := fun σ4 x4 fr4 lo4 up4 Bw e4 => by
          have f := eq_t e4
          refine ih w x4 σ4 fr4 (by omega) (by omega) (fun x hx => ?_) (fun x h1 h2 => ?_) (by omega)
          · rw [(lo4 x hx).1, (lo4 x hx).2]
            exact lo x (by omega)
          · by_cases d : x = w
            · subst d; exact Bw
            · rw [(up4 x (by omega)).1, (up4 x (by omega)).2]
              exact up x (by omega) h2
        have kept : BsP b a c (p + 1) (w : Int) (σ.1 208 w) (σ.1 209 w) → ∀ x4 : Int32, x4 = x_5 + (-1 : Int32) → w_X3_addPost_10 a1 a2 a3 P m x4 σ3 := fun B x4 e4 => nxt σ3 x4 fr (fun _ _ => ⟨rfl, rfl⟩) (fun _ _ => ⟨rfl, rfl⟩) (by rw [(lo w (by omega)).1, (lo w (by omega)).2]; exact B) e4
        refine ⟨vin (by omega), fun x3 e3 => ?_⟩
        subst e3
        refine ⟨fun z => kept ?_, fun z => ⟨vin (by omega), fun z2 => kept ?_, fun z2 => ⟨vin (by omega), fun σ8 e8 => ⟨vin (by omega), vin (by omega), fun σ11 e11 x12 e12 => ?_⟩⟩⟩⟩
        · have zt := eq_t z
          refine BsP_no Sw (fun k0 _ hk0 hx => ?_)
          rcases Su with ⟨_, y2⟩ | ⟨k, _, _, y3, _, _⟩
          · exact y2 k0 hk0 (by omega)
          · have := hna k
            omega
        · have zt := ne_t z
          have ta := tadd (x := σ.1 208 u) (y := a2) (by omega)
          have z2t := le_t z2
          exact BsP_k ha.1 (fun k => (hna k).1) Sw Su (by omega) (by omega)
        · have zt := ne_t z
          have ta := tadd (x := σ.1 208 u) (y := a2) (by omega)
          have z2t := nle_t z2
          rw [zI_q' e8 (by omega), (lo u (by omega)).2] at e11
          have fr11 : FrU σ σ11 := ⟨fun k j x y => by rw [zI_q' e11 (by omega), zI_q' e8 (by omega), fr.1 k j x y], by rw [zI_q' e11 (by omega), zI_q' e8 (by omega), fr.2]⟩
          refine nxt σ11 x12 fr11 (fun x hx => by rw [zI_q' e11 (by omega), zI_q' e8 (by omega), zI_q' e11 (by omega), zI_q' e8 (by omega)]; exact ⟨rfl, rfl⟩) (fun x hx => by rw [zI_q' e11 (by omega), zI_q' e8 (by omega), zI_q' e11 (by omega), zI_q' e8 (by omega)]; exact ⟨rfl, rfl⟩) ?_ e12
          refine BsP_n hp hb Sw Su (by omega) (by omega) ?_ ?_
          · rw [zI_q' e11 (by omega), e8, zI_s, ta, h2]
          · rw [e11, zI_s, h1]
  unfold w_X3_addPost
  intro x1 e1
  rw [if_neg (fun z => by have := lt_t z; omega)] at e1
  exact ⟨2000, go 2000 (Lm + 1) x1 σ ⟨fun _ _ _ _ => rfl, rfl⟩ (by rw [e1, h4]; omega) (Nat.le_refl _) (fun _ _ => ⟨rfl, rfl⟩) (fun x h1 h2 => by omega) (by omega)⟩
set_option maxHeartbeats 4000000 in
theorem f_fill {t N R n Lm : Nat} {G : Nat → Int32} {b : Nat → Bool} {a c : Nat → Int} (ht : t + 12 ≤ 190) {σ : zSto} (L : LnR t G σ) (ln : LnN N R G) (hN : ti (G 0) = (N : Int)) (hN1 : 1 ≤ N) (hn : n = N - 1) (a2 a3 : Int32) (hw : 0 ≤ ti a2 ∧ ti a2 ≤ 9) (h3 : ti a3 = (Lm : Int)) (hL : Lm ≤ 999) (hb : ∀ p, (b p = true ↔ p < n ∧ ¬ pdI G p a2 ≤ 0)) (ha : ∀ p, a p = ti (pdI G p a2)) (hc : ∀ p, c p = ti (csI G p)) (h90 : σ.1 209 0 = 0) {P : zSto → Prop} (hP : ∀ σ2, FrU σ σ2 → PuS b a c n Lm σ2 → P σ2) : w_X3_fill t a2 a3 σ P := by
  have l0 := lit_0
  have l1 := lit_1
  have lm := lit_m1
  have l999 := lit_999
  have N16 := ln.1
  have ra : ∀ p, p < n → 0 ≤ a p ∧ a p ≤ 30 := fun p hp => by
    have := pdI_rg ln hw (p := p) (by omega)
    rw [ha]; omega
  have rc : ∀ p, p < n → 1 ≤ c p ∧ c p ≤ 75 := fun p hp => by
    have := csI_rg ln (p := p) (by omega)
    rw [hc]; omega
  have go2 : ∀ (m i : Nat) (x_4 : Int32) (σ3 : zSto), FrU σ σ3 → ti x_4 = (i : Int) → i ≤ n → PuS b a c i Lm σ3 → n - i < m → w_X3_fill_41 t a2 a3 P m x_4 σ3 := by
    intro m
    induction m with
    | zero => intro i x_4 σ3 _ _ _ _ h; omega
    | succ m ih =>
      intro i x_4 σ3 fr hi hin S hm
      have L3 : LnR t G σ3 := LnR_fr L (fun k j x y => fr.1 k j (by omega) (by omega))
      have e11 : ti (σ3.1 t 11) = (N : Int) := by rw [L3.1 0 (by omega)]; exact hN
      have ts := tsub (x := σ3.1 t 11) (y := (1 : Int32)) (by omega)
      unfold w_X3_fill_41
      refine ⟨fun q => ?_, fun q => ?_⟩
      · have cc := le_t q
        have e : i = n := by omega
        subst e
        exact hP σ3 fr S
      · have cc := nle_t q
        have tx := tadd (x := x_4) (y := (1 : Int32)) (by omega)
        have e4 := nI_x hi (by omega)
        refine f_X0_poundsIn L3 x_4 a2 hi (by omega) (by omega) ⟨fun k x4 e4' => ?_, fun k => ?_⟩
        · have f := eq_t e4'
          exact ih (i + 1) x4 σ3 fr (by omega) (by omega) (fun x hx => BsP_no (S x hx) (fun k0 hb' _ => absurd k ((hb i).mp hb').2)) (by omega)
        · refine f_X0_cost L3 x_4 hi (by omega) (by omega) ?_
          refine f_addPost (by omega) ((hb i).mpr ⟨by omega, k⟩) (ra i (by omega)) (rc i (by omega)) (fun k => ?_) (fun k => ?_) hL S x_4 _ _ a3 e4 (ha i).symm (hc i).symm h3 (fun σ7 f7 S7 => fun x8 e8 => ?_)
          · have y := sF_rg (f := a) (M := n) (fun p hp => by have := ra p hp; omega) i 0 k (by omega)
            omega
          · exact (sF_rg (f := c) (M := n) (fun p hp => by have := rc p hp; omega) i 0 k (by omega)).1
          · have f := eq_t e8
            exact ih (i + 1) x8 σ7 (fr.tr f7) (by omega) (by omega) S7 (by omega)
  have go1 : ∀ (m i : Nat) (x_4 : Int32) (σ3 : zSto), FrU σ σ3 → ti x_4 = (i : Int) → i ≤ Lm + 1 → (∀ x, x < i → σ3.1 208 x = -1) → Lm + 1 - i < m → w_X3_fill_3 t a2 a3 P m x_4 σ3 := by
    intro m
    induction m with
    | zero => intro i x_4 σ3 _ _ _ _ h; omega
    | succ m ih =>
      intro i x_4 σ3 fr hi hiL hz hm
      have fin : i = Lm + 1 → ∀ σ1 : zSto, σ1 = zI σ3 208 0 (0 : Int32) → ∃ n2 : Nat, w_X3_fill_41 t a2 a3 P n2 (0 : Int32) σ1 := fun e σ1 e1 => by
        refine ⟨100, go2 100 0 (0 : Int32) σ1 (fr.tr ⟨fun k j x y => zI_q' e1 (by omega), zI_q' e1 (by omega)⟩) lit_0 (by omega) (fun x hx => ?_) (by omega)⟩
        by_cases d : x = 0
        · subst d
          refine Or.inr ⟨0, ⟨by decide, rfl⟩, rfl, ?_, ?_, fun k' hk _ => Or.inr ⟨rfl, Nat.zero_le _⟩⟩
          · rw [e1, zI_s, l0]
            rfl
          · rw [zI_q' e1 (by omega), fr.2, h90]
            rfl
        · refine Or.inl ⟨by rw [zI_q' e1 (by omega), hz x (by omega)]; exact lm, fun k _ z => ?_⟩
          have z' : (0 : Int) = (x : Int) := z
          omega
      unfold w_X3_fill_3
      refine ⟨fun q => fin (by have := lt_t q; omega), fun q => ⟨fun q2 => fin (by have := lt_t q2; have := nlt_t q; omega), fun q2 => ?_⟩⟩
      have cc := nlt_t q
      have tx := tadd (x := x_4) (y := (1 : Int32)) (by omega)
      have tn := tn_eq x_4
      rw [show x_4.toNatClampNeg = i by omega]
      refine ⟨vin (by omega), fun σ11 e11 x12 e12 => ?_⟩
      have f := eq_t e12
      refine ih (i + 1) x12 σ11 (fr.tr ⟨fun k j x y => zI_q' e11 (by omega), zI_q' e11 (by omega)⟩) (by omega) (by omega) (fun x hx => ?_) (by omega)
      by_cases d : x = i
      · subst d
        rw [e11, zI_s]
      · rw [zI_q' e11 (by omega)]
        exact hz x (by omega)
  unfold w_X3_fill
  exact ⟨2000, go1 2000 0 (0 : Int32) σ ⟨fun _ _ _ _ => rfl, rfl⟩ lit_0 (by omega) (fun x hx => absurd hx (Nat.not_lt_zero x)) (by omega)⟩
/-- the set of the most POUNDS, then the least COSTS, then the least, of those below m -/
def OpQ (b : Nat → Bool) (a c : Nat → Int) (n : Nat) (Lm : Int) (m k : Nat) : Prop := k < m ∧ bF b n 0 k = true ∧ sF c n 0 k ≤ Lm ∧ ∀ k', k' < m → bF b n 0 k' = true → sF c n 0 k' ≤ Lm → sF a n 0 k' < sF a n 0 k ∨ (sF a n 0 k' = sF a n 0 k ∧ (sF c n 0 k < sF c n 0 k' ∨ (sF c n 0 k = sF c n 0 k' ∧ k ≤ k')))
theorem OpQ_s {b : Nat → Bool} {a c : Nat → Int} {n m k : Nat} {Lm : Int} (h : OpQ b a c n Lm m k) (hs : bF b n 0 m = true → sF c n 0 m ≤ Lm → sF a n 0 m < sF a n 0 k ∨ (sF a n 0 m = sF a n 0 k ∧ sF c n 0 k ≤ sF c n 0 m)) : OpQ b a c n Lm (m + 1) k := by
  obtain ⟨h1, h2, h3, h4⟩ := h
  refine ⟨by omega, h2, h3, fun k' hk hv hc => ?_⟩
  by_cases d : k' = m
  · subst d
    have := hs hv hc
    omega
  · exact h4 k' (by omega) hv hc
theorem OpQ_n {b : Nat → Bool} {a c : Nat → Int} {n m k : Nat} {Lm : Int} (h : OpQ b a c n Lm m k) (hv : bF b n 0 m = true) (hc : sF c n 0 m ≤ Lm) (hb : sF a n 0 k < sF a n 0 m ∨ (sF a n 0 m = sF a n 0 k ∧ sF c n 0 m < sF c n 0 k)) : OpQ b a c n Lm (m + 1) m := by
  obtain ⟨h1, h2, h3, h4⟩ := h
  refine ⟨by omega, hv, hc, fun k' hk hv' hc' => ?_⟩
  by_cases d : k' = m
  · subst d
    exact Or.inr ⟨rfl, Or.inr ⟨rfl, Nat.le_refl _⟩⟩
  · have := h4 k' (by omega) hv' hc'
    omega
theorem OpQ_ex {b : Nat → Bool} {a c : Nat → Int} {n : Nat} {Lm : Int} (h0 : OpQ b a c n Lm 1 0) : ∀ m, ∃ k, OpQ b a c n Lm (m + 1) k := by
  intro m
  induction m with
  | zero => exact ⟨0, h0⟩
  | succ m ih =>
    obtain ⟨k, hk⟩ := ih
    by_cases g : bF b n 0 (m + 1) = true ∧ sF c n 0 (m + 1) ≤ Lm ∧ (sF a n 0 k < sF a n 0 (m + 1) ∨ (sF a n 0 (m + 1) = sF a n 0 k ∧ sF c n 0 (m + 1) < sF c n 0 k))
    · exact ⟨m + 1, OpQ_n hk g.1 g.2.1 g.2.2⟩
    · exact ⟨k, OpQ_s hk (fun hv hc => by
        have w : ¬ (sF a n 0 k < sF a n 0 (m + 1) ∨ (sF a n 0 (m + 1) = sF a n 0 k ∧ sF c n 0 (m + 1) < sF c n 0 k)) := fun z => g ⟨hv, hc, z⟩
        omega)⟩
theorem OpQ_u {b : Nat → Bool} {a c : Nat → Int} {n m k k' : Nat} {Lm : Int} (h : OpQ b a c n Lm m k) (h' : OpQ b a c n Lm m k') : k = k' := by
  have x := h.2.2.2 k' h'.1 h'.2.1 h'.2.2.1
  have y := h'.2.2.2 k h.1 h.2.1 h.2.2.1
  omega
/-- the LINE's numbers that PURSE rests on -/
def puA (a c : Nat → Int) (n k : Nat) (a4 : Int32) : Int32 := if a4 = 0 then Int32.ofNat (sF a n 0 k).toNat else if a4 = 1 then Int32.ofNat k else Int32.ofNat (sF c n 0 k).toNat
set_option maxHeartbeats 8000000 in
theorem al_purse {σ : zSto} (H : Lz σ) (a1 a2 a3 a4 : Int32) : ∃ A : Int32, w_X9_purse a1 a2 a3 a4 σ (fun r σ2 => r = A ∧ zInv AC σ.1 3 σ2) ∧ ∀ σa, SmR σ σa → w_X10_purse a1 a2 a3 a4 σa (fun r _ => r = A) := by
  have I0 : zInv AC σ.1 3 σ := inv_any H.1
  have h90 : σ.1 209 0 = 0 := by
    have y := H.1.1 209 0
    rw [kd_209, show lo 19 0 = 0 from rfl, show hi 19 0 = 0 from rfl] at y
    exact t_inj (by rw [lit_0]; omega)
  have l0 := lit_0
  have l1 := lit_1
  have l2 := lit_2
  have l999 := lit_999
  have d : 0 ≤ ti (σ.1 42 0) ∧ ti (σ.1 42 0) ≤ 2 := rdg H.1.1 kd_42 rfl rfl
  by_cases ex : exW σ a1 a2 ∧ (0 ≤ ti a3 ∧ ti a3 ≤ 999) ∧ (0 ≤ ti a4 ∧ ti a4 ≤ 2)
  · obtain ⟨ex, x3, x4⟩ := ex
    obtain ⟨l, hl⟩ : ∃ l : Nat, ti a1 = (l : Int) := ⟨(ti a1).toNat, by have := ex.1; omega⟩
    obtain ⟨Lm, hLm⟩ : ∃ Lm : Nat, ti a3 = (Lm : Int) := ⟨(ti a3).toNat, by omega⟩
    obtain ⟨N, R, G, tl⟩ := tlL_of H (l := l) (by have := ex.2.1; omega) (by have := ex.2.1; omega)
    obtain ⟨t1, t2, t3, t4, t5, t6, t7, t8, t9⟩ := id tl
    have ln := LnN_of H tl
    have hw : 0 ≤ ti a2 ∧ ti a2 ≤ 9 := ⟨ex.2.2.1, ex.2.2.2⟩
    obtain ⟨n, hn⟩ : ∃ n, n = N - 1 := ⟨_, rfl⟩
    have pw15 : 2 ^ n ≤ 2 ^ 15 := Nat.pow_le_pow_right (by decide) (by omega)
    have p1 : 0 < 2 ^ n := Nat.pow_pos (by decide)
    obtain ⟨b, hb⟩ : ∃ b : Nat → Bool, ∀ p, (b p = true ↔ p < n ∧ ¬ pdI G p a2 ≤ 0) := ⟨fun p => decide (p < n ∧ ¬ pdI G p a2 ≤ 0), fun p => ⟨of_decide_eq_true, decide_eq_true⟩⟩
    obtain ⟨a, ha⟩ : ∃ a : Nat → Int, ∀ p, a p = ti (pdI G p a2) := ⟨fun p => ti (pdI G p a2), fun _ => rfl⟩
    obtain ⟨c, hc⟩ : ∃ c : Nat → Int, ∀ p, c p = ti (csI G p) := ⟨fun p => ti (csI G p), fun _ => rfl⟩
    have ra : ∀ p, p < n → 0 ≤ a p ∧ a p ≤ 1000 := fun p hp => by
      have := pdI_rg ln hw (p := p) (by omega)
      rw [ha]; omega
    have rc : ∀ p, p < n → 0 ≤ c p ∧ c p ≤ 1000 := fun p hp => by
      have := csI_rg ln (p := p) (by omega)
      rw [hc]; omega
    have sa : ∀ k, 0 ≤ sF a n 0 k ∧ sF a n 0 k ≤ 1000 * (n : Int) := fun k => sF_rg ra n 0 k (by omega)
    have sc : ∀ k, 0 ≤ sF c n 0 k ∧ sF c n 0 k ≤ 1000 * (n : Int) := fun k => sF_rg rc n 0 k (by omega)
    have z00 : ∀ (f : Nat → Int) (r p : Nat), sF f r p 0 = 0 := fun f r => by
      induction r with
      | zero => intro p; rfl
      | succ r ih =>
        intro p
        show (if 0 % 2 = 0 then 0 else f p) + sF f r (p + 1) (0 / 2) = 0
        rw [if_pos rfl, show 0 / 2 = 0 from rfl, ih]
        rfl
    have b00 : bF b n 0 0 = true := (bF_iff n 0 0).mpr (fun i _ hk => by rw [Nat.zero_div] at hk; omega)
    have op0 : OpQ b a c n (Lm : Int) 1 0 := ⟨by omega, b00, by rw [z00]; omega, fun k' hk _ _ => by
      have e : k' = 0 := by omega
      subst e
      exact Or.inr ⟨rfl, Or.inr ⟨rfl, Nat.le_refl _⟩⟩⟩
    obtain ⟨ks, hks⟩ := OpQ_ex op0 (2 ^ n - 1)
    rw [show 2 ^ n - 1 + 1 = 2 ^ n by omega] at hks
    have ta : ti (Int32.ofNat (sF a n 0 ks).toNat) = sF a n 0 ks := by
      have := sa ks
      rw [show ti (Int32.ofNat (sF a n 0 ks).toNat) = (((sF a n 0 ks).toNat : Nat) : Int) from nI_t (by omega)]
      omega
    have tc : ti (Int32.ofNat (sF c n 0 ks).toNat) = sF c n 0 ks := by
      have := sc ks
      rw [show ti (Int32.ofNat (sF c n 0 ks).toNat) = (((sF c n 0 ks).toNat : Nat) : Int) from nI_t (by omega)]
      omega
    refine ⟨puA a c n ks a4, ?_, ?_⟩
    · unfold w_X9_purse
      refine f_X8_lineAt a1 H.1 (fun z => absurd ⟨ex.1, ex.2.1⟩ z) (fun l' hl' hl2 hc' => ⟨fun z => (by cases z), fun j3 e3 => ?_⟩)
      have e3' := Option.some.inj e3
      subst e3'
      have el : l' = l := by omega
      subst el
      refine ⟨isT_L (isN_T (by unfold isN; omega)), f_X9_isWeek a2 (fun r5 z5 => fun _ => ⟨fun q5 => absurd q5 (z5.mpr hw), fun _ => ⟨fun k => by have := lt_t k; omega, fun _ => ⟨fun _ => ⟨fun k => by have := lt_t k; omega, fun _ => ⟨fun _ => ?_, fun k => by have := nle_t k; omega⟩⟩, fun k => by have := nle_t k; omega⟩⟩⟩)⟩
      refine cj_X3_fill (P := fun σ6 => zInv AC σ.1 3 σ6) (Q := fun σ6 => PuS b a c n Lm σ6) (fun σ6 g90 S6 => ?_) (s_X3_fill (A := AC) (F := σ.1) ac_c _ ⟨by unfold AC; omega, by rw [show σ.1 _ 13 = G 2 from t9.1 2 (by omega)]; exact ln.2.2.1.1⟩ a2 a3 (isN_T (by unfold isN; omega)) (by omega) I0 (fun _ i => i)) (f_fill (b := b) (by omega) t9 ln t4 t6 hn a2 a3 hw hLm (by omega) hb ha hc h90 (fun _ _ S => S))
      have go : ∀ (m i bs : Nat) (x_2 x_3 : Int32), ti x_3 = (i : Int) → i ≤ Lm + 1 → ti x_2 = (bs : Int) → bs < i → (∀ x, x < i → ti (σ6.1 208 x) ≤ ti (σ6.1 208 bs)) → (∀ x, x < bs → ti (σ6.1 208 x) < ti (σ6.1 208 bs)) → Lm + 1 - i < m → w_X3_bestCosts_4 a3 (fun (r8 : Int32) (σ7 : zSto) => ((¬ a4 = 0 → ((¬ a4 = (1 : Int32) → (fun (r : Int32) (σ2 : zSto) => r = puA a c n ks a4 ∧ zInv AC σ.1 3 σ2) r8 σ7) ∧ (a4 = (1 : Int32) → (vp_in r8 1000 ∧ (fun (r : Int32) (σ2 : zSto) => r = puA a c n ks a4 ∧ zInv AC σ.1 3 σ2) (σ7.1 209 (r8).toNatClampNeg) σ7)))) ∧ (a4 = 0 → (vp_in r8 1000 ∧ (fun (r : Int32) (σ2 : zSto) => r = puA a c n ks a4 ∧ zInv AC σ.1 3 σ2) (σ7.1 208 (r8).toNatClampNeg) σ7)))) m x_2 x_3 σ6 := by
        intro m
        induction m with
        | zero => intro i bs x_2 x_3 _ _ _ _ _ _ h; omega
        | succ m ih =>
          intro i bs x_2 x_3 hi hiL h2 hbs le lt hm
          have tn2 := tn_eq x_2
          have tn3 := tn_eq x_3
          -- the end
          have fin : i = Lm + 1 → ((¬ a4 = 0 → ((¬ a4 = (1 : Int32) → (fun (r : Int32) (σ2 : zSto) => r = puA a c n ks a4 ∧ zInv AC σ.1 3 σ2) x_2 σ6) ∧ (a4 = (1 : Int32) → (vp_in x_2 1000 ∧ (fun (r : Int32) (σ2 : zSto) => r = puA a c n ks a4 ∧ zInv AC σ.1 3 σ2) (σ6.1 209 (x_2).toNatClampNeg) σ6)))) ∧ (a4 = 0 → (vp_in x_2 1000 ∧ (fun (r : Int32) (σ2 : zSto) => r = puA a c n ks a4 ∧ zInv AC σ.1 3 σ2) (σ6.1 208 (x_2).toNatClampNeg) σ6))) := fun e => by
            have nn : 0 ≤ ti (σ6.1 208 bs) := by
              have y := le 0 (by omega)
              rcases S6 0 (by omega) with ⟨_, w⟩ | ⟨k, w1, w2, w3, _, _⟩
              · exact absurd (z00 c n 0) (w 0 ⟨p1, b00⟩)
              · have := (sa k).1
                omega
            rcases S6 bs (by omega) with ⟨w, _⟩ | ⟨k, w1, w2, w3, w4, w5⟩
            · omega
            · have opk : OpQ b a c n (Lm : Int) (2 ^ n) k := ⟨w1.1, w1.2, by omega, fun k' hk hv hcc => by
                have c0 := (sc k').1
                obtain ⟨x, hx⟩ : ∃ x : Nat, (x : Int) = sF c n 0 k' := ⟨(sF c n 0 k').toNat, by omega⟩
                have lx := le x (by omega)
                rcases S6 x (by omega) with ⟨_, u⟩ | ⟨k2, u1, u2, u3, u4, u5⟩
                · exact absurd hx.symm (u k' ⟨hk, hv⟩)
                · have y := u5 k' ⟨hk, hv⟩ hx.symm
                  by_cases g : x = bs
                  · subst g
                    have y2 := w5 k' ⟨hk, hv⟩ hx.symm
                    omega
                  · by_cases g2 : x < bs
                    · have := lt x g2
                      omega
                    · omega⟩
              have ek := OpQ_u opk hks
              subst ek
              have eb : x_2 = Int32.ofNat (sF c n 0 k).toNat := t_inj (by rw [tc]; omega)
              refine ⟨fun z => ⟨fun z2 => ⟨?_, g90⟩, fun z2 => ⟨vin (by omega), ?_, g90⟩⟩, fun z => ⟨vin (by omega), ?_, g90⟩⟩
              · unfold puA
                rw [if_neg z, if_neg z2]
                exact eb
              · unfold puA
                rw [if_neg z, if_pos z2, show x_2.toNatClampNeg = bs by omega]
                exact w4
              · unfold puA
                rw [if_pos z, show x_2.toNatClampNeg = bs by omega]
                exact t_inj (by rw [ta]; exact w3.symm)
          unfold w_X3_bestCosts_4
          refine ⟨fun q => fin (by have := lt_t q; omega), fun q => ⟨fun q2 => fin (by have := lt_t q2; have := nlt_t q; omega), fun q2 => ?_⟩⟩
          have cc := nlt_t q
          have tx := tadd (x := x_3) (y := (1 : Int32)) (by omega)
          rw [show x_3.toNatClampNeg = i by omega, show x_2.toNatClampNeg = bs by omega]
          refine ⟨vin (by omega), vin (by omega), fun k x3 e3 => ?_, fun k x4 e4 => ?_⟩
          · have k1 := le_t k
            have f := eq_t e3
            refine ih (i + 1) bs x_2 x3 (by omega) (by omega) h2 (by omega) (fun x hx => ?_) lt (by omega)
            by_cases g : x = i
            · subst g; exact k1
            · exact le x (by omega)
          · have k1 := nle_t k
            have f := eq_t e4
            refine ih (i + 1) i x_3 x4 (by omega) (by omega) hi (by omega) (fun x hx => ?_) (fun x hx => ?_) (by omega)
            · by_cases g : x = i
              · subst g; exact Int.le_refl _
              · have := le x (by omega)
                omega
            · have := le x hx
              omega
      unfold w_X3_bestCosts
      exact ⟨2000, go 2000 1 0 (0 : Int32) (1 : Int32) lit_1 (by omega) lit_0 (by omega) (fun x hx => by
        have e : x = 0 := by omega
        subst e
        exact Int.le_refl _) (fun x hx => absurd hx (Nat.not_lt_zero x)) (by omega)⟩
    · intro σa sm
      unfold w_X10_purse
      intro σ1 e1
      obtain ⟨H1, u1⟩ := SmR_223 sm e1
      refine b_X10_in a3 (0 : Int32) (999 : Int32) (fun r3 z3 => fun _ => ⟨fun q => absurd q (z3.mpr ⟨by omega, by omega⟩), fun _ => ?_⟩)
      refine b_X10_in a4 (0 : Int32) (2 : Int32) (fun r5 z5 => fun _ => ⟨fun q => absurd q (z5.mpr ⟨by omega, by omega⟩), fun _ => ?_⟩)
      refine f_handX H1 a1 a2 (fun z => absurd ((exW_eq1 u1).mpr ex) z) (fun _ l' N' R' G' hl' tl' σ2 f2 X2 => fun _ => ⟨fun _ => ?_, fun c => absurd c (by decide)⟩)
      have el : l' = l := by omega
      subst el
      obtain ⟨eN, eR, eG⟩ := tlL_eq tl tl' (fun j => u1 229 j (by omega) (by omega))
      subst eN
      subst eR
      subst eG
      refine f_X10_bearing X2 (b := b) (fun p hp => by rw [hb]; exact ⟨fun z => z.2, fun z => ⟨by omega, z⟩⟩) (fun may hmay => ?_)
      rw [← hn] at hmay
      obtain ⟨m, hm, em⟩ := bt_num (x := may) (n := n) (by omega) (fun j h1 h2 => by rw [hmay j h2, decide_eq_false (by omega)]; rfl)
      have tm : ti may = (m : Int) := by rw [em]; exact nI_t (by omega)
      have sub : ∀ k, k < 2 ^ n → bF b n 0 k = true → k ≤ m := fun k hk hv => by
        rw [bF_iff] at hv
        have s1 : ∀ j, j < 32 → bt (Int32.ofNat k) j = true → bt may j = true := fun j hj hb' => by
          rw [bt_nat (by omega) hj] at hb'
          have y := of_decide_eq_true hb'
          by_cases cj : j < n
          · have w := hv j cj y
            rw [Nat.zero_add] at w
            rw [hmay j hj, decide_eq_true cj, w]
            rfl
          · rw [bt_hi hk (by omega)] at y
            omega
        have e : k &&& m = k := Nat.eq_of_testBit_eq (fun i => by
          rw [Nat.testBit_and]
          by_cases ci : i < 32
          · cases hk2 : k.testBit i
            · rfl
            · have y : bt (Int32.ofNat k) i = true := by
                rw [bt_nat (by omega) ci, ← Nat.testBit_eq_decide_div_mod_eq]
                exact hk2
              have z := s1 i ci y
              rw [em, bt_nat (by omega) ci, ← Nat.testBit_eq_decide_div_mod_eq] at z
              rw [z]
              rfl
          · have z : k.testBit i = false := by
              rw [Nat.testBit_eq_decide_div_mod_eq, bt_hi hk (by omega)]
              rfl
            rw [z]
            rfl)
        rw [← e]
        exact Nat.and_le_right
      have go : ∀ (f i kb : Nat) (x_6 x_7 x_8 x_9 : Int32), ti x_9 = (i : Int) → i ≤ m + 1 → OpQ b a c n (Lm : Int) i kb → x_6 = Int32.ofNat kb → ti x_7 = sF a n 0 kb → ti x_8 = sF c n 0 kb → m + 1 - i < f → w_X10_purse_55 a3 a4 may (fun r _ => r = puA a c n ks a4) f x_6 x_7 x_8 x_9 σ2 := by
        intro f
        induction f with
        | zero => intro i kb x_6 x_7 x_8 x_9 _ _ _ _ _ _ h; omega
        | succ f ih =>
          intro i kb x_6 x_7 x_8 x_9 hi him hO h6 h7 h8 hf
          unfold w_X10_purse_55
          refine ⟨fun q => ?_, fun q => ?_⟩
          · have cc := lt_t q
            have e : i = m + 1 := by omega
            subst e
            have opk : OpQ b a c n (Lm : Int) (2 ^ n) kb := ⟨by have := hO.1; omega, hO.2.1, hO.2.2.1, fun k' hk hv hcc => hO.2.2.2 k' (by have := sub k' hk hv; omega) hv hcc⟩
            have ek := OpQ_u opk hks
            subst ek
            refine ⟨fun z => ⟨fun z2 => ?_, fun z2 => ?_⟩, fun z => ?_⟩
            · unfold puA
              rw [if_neg z, if_neg z2]
              exact t_inj (by rw [tc]; exact h8)
            · unfold puA
              rw [if_neg z, if_pos z2]
              exact h6
            · unfold puA
              rw [if_pos z]
              exact t_inj (by rw [ta]; exact h7)
          · have cc := nlt_t q
            have tx := tadd (x := x_9) (y := (1 : Int32)) (by omega)
            have e9 : x_9 = Int32.ofNat i := t_inj (by rw [hi]; exact (nI_t (by omega)).symm)
            have skip : (bF b n 0 i = true → sF c n 0 i ≤ (Lm : Int) → sF a n 0 i < sF a n 0 kb ∨ (sF a n 0 i = sF a n 0 kb ∧ sF c n 0 kb ≤ sF c n 0 i)) → ∀ x10 : Int32, x10 = x_9 + (1 : Int32) → w_X10_purse_55 a3 a4 may (fun r _ => r = puA a c n ks a4) f x_6 x_7 x_8 x10 σ2 := fun z x10 e10 => by
              have g := eq_t e10
              exact ih (i + 1) kb x_6 x_7 x_8 x10 (by omega) (by omega) (OpQ_s hO z) h6 h7 h8 (by omega)
            have iff0 : (x_9 &&& (may ^^^ (-1 : Int32))) = 0 ↔ bF b n 0 i = true := by
              rw [bF_iff]
              refine ⟨fun z j hj hk => ?_, fun z => bt_ex (fun j hj => ?_)⟩
              · have y : bt (x_9 &&& (may ^^^ (-1 : Int32))) j = false := by rw [z]; exact bt_z j
                rw [bt_an, bt_no may (by omega), e9, bt_nat (by omega) (by omega), decide_eq_true hk, Bool.true_and, hmay j (by omega), decide_eq_true hj, Bool.true_and] at y
                rw [Nat.zero_add]
                cases hbj : b j
                · rw [hbj] at y; cases y
                · rfl
              · rw [bt_z, bt_an, bt_no may hj, e9, bt_nat (by omega) hj]
                by_cases hk : i / 2 ^ j % 2 = 1
                · by_cases cj : j < n
                  · have w := z j cj hk
                    rw [Nat.zero_add] at w
                    rw [hmay j hj, decide_eq_true cj, w]
                    cases decide (i / 2 ^ j % 2 = 1) <;> rfl
                  · rw [bt_hi (show i < 2 ^ n by omega) (by omega)] at hk
                    omega
                · rw [decide_eq_false hk]
                  rfl
            refine ⟨fun k => skip (fun w _ => absurd (iff0.mpr w) k), fun k => ?_⟩
            have k1 := iff0.mp k
            refine f_X10_poundsOf X2 (a := a) (fun p hp => ⟨(ha p).symm, ra p (by omega)⟩) x_9 e9 (by omega) (fun r12 hr12 => ?_)
            refine f_X10_costsOf X2 (a := c) (fun p hp => ⟨(hc p).symm, rc p (by omega)⟩) x_9 e9 (by omega) (fun r14 hr14 => ?_)
            rw [← hn] at hr12 hr14
            have new : sF c n 0 i ≤ (Lm : Int) → (sF a n 0 kb < sF a n 0 i ∨ (sF a n 0 i = sF a n 0 kb ∧ sF c n 0 i < sF c n 0 kb)) → ∀ x16 : Int32, x16 = x_9 + (1 : Int32) → w_X10_purse_55 a3 a4 may (fun r _ => r = puA a c n ks a4) f x_9 r12 r14 x16 σ2 := fun z1 z2 x16 e16 => by
              have g := eq_t e16
              exact ih (i + 1) i x_9 r12 r14 x16 (by omega) (by omega) (OpQ_n hO k1 z1 z2) e9 hr12 hr14 (by omega)
            refine ⟨fun k2 => skip (fun _ w => by have := lt_t k2; omega), fun k2 => ⟨fun k3 => new (by have := nlt_t k2; omega) (by have := lt_t k3; omega), fun k3 => ⟨fun k4 => skip (fun _ _ => by have := nlt_t k3; have := ne_t k4; omega), fun k4 => ⟨fun k5 => skip (fun _ _ => by have := eq_t k4; have := le_t k5; omega), fun k5 => new (by have := nlt_t k2; omega) (by have := eq_t k4; have := nle_t k5; omega)⟩⟩⟩⟩
      exact ⟨100000, go 100000 1 0 (0 : Int32) (0 : Int32) (0 : Int32) (1 : Int32) lit_1 (by omega) op0 rfl (by rw [l0, z00]) (by rw [l0, z00]) (by omega)⟩
  · refine ⟨-1, ?_, ?_⟩
    · unfold w_X9_purse
      refine f_X8_lineAt a1 H.1 (fun _ => ⟨fun _ => ⟨rfl, I0⟩, fun j3 e3 => (by cases e3)⟩) (fun l' hl' hl2 hc => ⟨fun z => (by cases z), fun j3 e3 => ?_⟩)
      have e3' := Option.some.inj e3
      subst e3'
      refine ⟨isT_L (isN_T (by unfold isN; omega)), f_X9_isWeek a2 (fun r5 z5 => fun _ => ⟨fun _ => ⟨rfl, I0⟩, fun q5 => ⟨fun _ => ⟨rfl, I0⟩, fun k1 => ⟨fun k2 => ⟨fun _ => ⟨rfl, I0⟩, fun k3 => ⟨fun k4 => ?_, fun _ => ⟨rfl, I0⟩⟩⟩, fun _ => ⟨rfl, I0⟩⟩⟩⟩)⟩
      have w := z5.mp q5
      have y1 := nlt_t k1
      have y2 := le_t k2
      have y3 := nlt_t k3
      have y4 := le_t k4
      exact absurd ⟨⟨by omega, by omega, w.1, w.2⟩, ⟨by omega, by omega⟩, ⟨by omega, by omega⟩⟩ ex
    · intro σa sm
      unfold w_X10_purse
      intro σ1 e1
      obtain ⟨H1, u1⟩ := SmR_223 sm e1
      refine b_X10_in a3 (0 : Int32) (999 : Int32) (fun r3 z3 => fun _ => ⟨fun _ => rfl, fun q3 => ?_⟩)
      refine b_X10_in a4 (0 : Int32) (2 : Int32) (fun r5 z5 => fun _ => ⟨fun _ => rfl, fun q5 => ?_⟩)
      have w3 := z3.mp q3
      have w5 := z5.mp q5
      exact f_handX H1 a1 a2 (fun _ => fun _ => ⟨fun c => absurd rfl c, fun _ => rfl⟩) (fun e => absurd ⟨(exW_eq1 u1).mp e, ⟨by omega, by omega⟩, ⟨by omega, by omega⟩⟩ ex)

theorem m_purse {σ : zSto} (H : Lz σ) (a1 a2 a3 a4 : Int32) {P : Int32 → zSto → Prop} (hP : ∀ r σa, (∀ Q : Int32 → zSto → Prop, (∀ σ2, Lz σ2 → Q r σ2) → w_X10_purse a1 a2 a3 a4 σa Q) → P r σa) : w_X9_purse a1 a2 a3 a4 σ P := by
  obtain ⟨A, hc, hr⟩ := al_purse H a1 a2 a3 a4
  exact cj_X9_purse (P := fun r σa => r = A ∧ zInv AC σ.1 3 σa) (Q := fun r σa => r = A ∧ zInv AC σ.1 3 σa) (fun r σa q _ => by
    obtain ⟨e2, i⟩ := q
    subst e2
    have sm := SmR_C H i
    exact hP _ _ (fun Q hQ => cj_X10_purse (P := fun _ σb => zInv AR2 σa.1 3 σb) (Q := fun r' _ => r' = r) (fun r' σb i e => by
      subst e
      exact hQ σb (Lz_R sm.1 i)) (s_X10_purse (A := AR2) (F := σa.1) ar2_r a1 a2 a3 a4 (inv_any sm.1.1) (fun _ _ i => i)) (hr σa sm))) hc hc
