/-! ODDS on both sides -/
theorem i64_t {n : Nat} (h : n < 2 ^ 63) : tl (Int64.ofNat n) = (n : Int) := by rw [tl_eq]; exact Int64.toInt_ofNat_of_lt (by omega)
theorem lgc_c (x y : Int64) : (lg_cmp x y < 0 ↔ tl x < tl y) ∧ (0 ≤ lg_cmp x y ↔ tl y ≤ tl x) := by
  have gt : x > y ↔ tl y < tl x := by rw [tl_eq, tl_eq]; exact Int64.lt_iff_toInt_lt
  unfold lg_cmp
  by_cases a : x > y
  · rw [if_pos a]
    have := gt.mp a
    exact ⟨⟨fun z => absurd z (by decide), fun z => by omega⟩, ⟨fun _ => by omega, fun _ => by decide⟩⟩
  · rw [if_neg a]
    have na : ¬ tl y < tl x := fun z => a (gt.mpr z)
    by_cases b : x = y
    · rw [if_pos b, b]
      exact ⟨⟨fun z => absurd z (by decide), fun z => by omega⟩, ⟨fun _ => by omega, fun _ => by decide⟩⟩
    · rw [if_neg b]
      have nb : tl x ≠ tl y := fun z => b (tl_inj z)
      exact ⟨⟨fun _ => by omega, fun _ => by decide⟩, ⟨fun z => absurd z (by decide), fun z => by omega⟩⟩
theorem fst_ex (C : Nat → Prop) : ∀ n, C n → ∃ m, m ≤ n ∧ C m ∧ ∀ j, j < m → ¬ C j := by
  intro n
  induction n using Nat.strongRecOn with
  | _ n ih =>
    intro hn
    by_cases h : ∃ k, k < n ∧ C k
    · obtain ⟨k, hk, ck⟩ := h
      obtain ⟨m, a, b, c⟩ := ih k hk ck
      exact ⟨m, by omega, b, c⟩
    · exact ⟨n, Nat.le_refl n, hn, fun j hj cj => h ⟨j, hj, cj⟩⟩
/-! Euclid's steps: both sides make the same -/
theorem half_y {x y r : Int} (hy : 0 < y) (hr : r = x % y) (hr0 : 0 < r) : 2 * (y % r) < y := by
  have a := Int.emod_lt_of_pos x hy
  have b := Int.emod_lt_of_pos y hr0
  have c := Int.emod_nonneg y (show r ≠ 0 by omega)
  rw [← hr] at a
  by_cases d : 2 * r ≤ y
  · omega
  · have e : y % r = y - r := by
      have : y = (y - r) + r := by omega
      rw [this, Int.add_emod_right]
      have f : y - r + r - r = y - r := by omega
      rw [f]
      exact Int.emod_eq_of_lt (by omega) (by omega)
    omega
theorem eu_ex : ∀ (k : Nat) (x y : Int64), 0 ≤ tl x → 0 ≤ tl y → (0 < tl x ∨ 0 < tl y) → tl y < 2 ^ k → ∃ g, 0 < tl g ∧ (∀ (P : Int64 → zSto → Prop) (σ : zSto) (n : Nat), tl y < n → P g σ → w_X10_common_6 P n x y σ) ∧ (∀ (P : Int64 → zSto → Prop) (σ : zSto) (n i : Nat) (st : Int32), ti st = (i : Int) → i + 2 * k ≤ 100 → 100 - i < n → P g σ → w_X9_commonDivisor_9 P n x y st σ) := by
  have l1 := lit_1
  have l100 := lit_100
  have z0 : ∀ (x y : Int64), 0 ≤ tl x → 0 ≤ tl y → (0 < tl x ∨ 0 < tl y) → tl y = 0 → ∃ g, 0 < tl g ∧ (∀ (P : Int64 → zSto → Prop) (σ : zSto) (n : Nat), tl y < n → P g σ → w_X10_common_6 P n x y σ) ∧ (∀ (P : Int64 → zSto → Prop) (σ : zSto) (n i : Nat) (st : Int32), ti st = (i : Int) → i ≤ 100 → 100 - i < n → P g σ → w_X9_commonDivisor_9 P n x y st σ) := by
    intro x y hx hy hxy h
    have e : y = 0 := tl_inj (h.trans tl_0.symm)
    have c0 : lg_cmp y (0 : Int64) = 0 := by rw [e]; decide
    refine ⟨x, by omega, fun P σ n hn hP => ?_, fun P σ n i st hi hi2 hn hP => ?_⟩
    · obtain ⟨m, hm⟩ : ∃ m, n = m + 1 := ⟨n - 1, by omega⟩
      subst hm
      unfold w_X10_common_6
      exact ⟨fun _ => hP, fun q => absurd c0 q⟩
    · obtain ⟨m, hm⟩ : ∃ m, n = m + 1 := ⟨n - 1, by omega⟩
      subst hm
      unfold w_X9_commonDivisor_9
      exact ⟨fun _ => hP, fun _ => ⟨fun _ => hP, fun q => absurd c0 q⟩⟩
  -- one step more
  have s1 : ∀ (x y : Int64) (m : Nat), 0 ≤ tl x → 0 < tl y → (∃ g, 0 < tl g ∧ (∀ (P : Int64 → zSto → Prop) (σ : zSto) (n : Nat), tl (x - x / y * y) < n → P g σ → w_X10_common_6 P n y (x - x / y * y) σ) ∧ (∀ (P : Int64 → zSto → Prop) (σ : zSto) (n i : Nat) (st : Int32), ti st = (i : Int) → i + m ≤ 100 → 100 - i < n → P g σ → w_X9_commonDivisor_9 P n y (x - x / y * y) st σ)) → ∃ g, 0 < tl g ∧ (∀ (P : Int64 → zSto → Prop) (σ : zSto) (n : Nat), tl y < n → P g σ → w_X10_common_6 P n x y σ) ∧ (∀ (P : Int64 → zSto → Prop) (σ : zSto) (n i : Nat) (st : Int32), ti st = (i : Int) → i + (m + 1) ≤ 100 → 100 - i < n → P g σ → w_X9_commonDivisor_9 P n x y st σ) := by
    intro x y m hx hy h
    obtain ⟨g, g0, g1, g2⟩ := h
    have c0 : ¬ lg_cmp y (0 : Int64) = 0 := fun z => by
      have := lgc_0 z
      rw [this, tl_0] at hy
      omega
    have md := tl_mod hx hy
    have m2 := Int.emod_lt_of_pos (tl x) hy
    refine ⟨g, g0, fun P σ n hn hP => ?_, fun P σ n i st hi hi2 hn hP => ?_⟩
    · obtain ⟨m, hm⟩ : ∃ m, n = m + 1 := ⟨n - 1, by omega⟩
      subst hm
      unfold w_X10_common_6
      refine ⟨fun q => absurd q c0, fun q => ⟨lgc_ne q, fun x2 e2 => ?_⟩⟩
      subst e2
      exact g1 P σ m (by omega) hP
    · obtain ⟨n', hm⟩ : ∃ m, n = m + 1 := ⟨n - 1, by omega⟩
      subst hm
      unfold w_X9_commonDivisor_9
      refine ⟨fun q => by have := le_t q; omega, fun _ => ⟨fun q => absurd q c0, fun q => ⟨lgc_ne q, fun x2 e2 x3 e3 => ?_⟩⟩⟩
      have tx := tadd (x := st) (y := (1 : Int32)) (by omega)
      have f := eq_t e3
      subst e2
      exact g2 P σ n' (i + 1) x3 (by omega) (by omega) (by omega) hP
  intro k
  induction k with
  | zero =>
    intro x y hx hy hxy hk
    have hk' : tl y < 1 := hk
    obtain ⟨g, a, b, c⟩ := z0 x y hx hy hxy (by omega)
    exact ⟨g, a, b, fun P σ n i st h1 h2 => c P σ n i st h1 (by omega)⟩
  | succ k ih =>
    intro x y hx hy hxy hk
    by_cases y0 : tl y = 0
    · obtain ⟨g, a, b, c⟩ := z0 x y hx hy hxy y0
      exact ⟨g, a, b, fun P σ n i st h1 h2 => c P σ n i st h1 (by omega)⟩
    · have hy' : 0 < tl y := by omega
      have md := tl_mod hx hy'
      have m1 := Int.emod_nonneg (tl x) (show tl y ≠ 0 by omega)
      have key : ∃ g, 0 < tl g ∧ (∀ (P : Int64 → zSto → Prop) (σ : zSto) (n : Nat), tl (x - x / y * y) < n → P g σ → w_X10_common_6 P n y (x - x / y * y) σ) ∧ (∀ (P : Int64 → zSto → Prop) (σ : zSto) (n i : Nat) (st : Int32), ti st = (i : Int) → i + (2 * k + 1) ≤ 100 → 100 - i < n → P g σ → w_X9_commonDivisor_9 P n y (x - x / y * y) st σ) := by
        by_cases r0 : tl (x - x / y * y) = 0
        · obtain ⟨g, a, b, c⟩ := z0 y (x - x / y * y) hy (by omega) (Or.inl hy') r0
          exact ⟨g, a, b, fun P σ n i st h1 h2 => c P σ n i st h1 (by omega)⟩
        · have r1 : 0 < tl (x - x / y * y) := by omega
          have md2 := tl_mod hy r1
          have hh := half_y hy' md r1
          have m3 := Int.emod_nonneg (tl y) (show tl (x - x / y * y) ≠ 0 by omega)
          have pw : (2 : Int) ^ (k + 1) = 2 ^ k * 2 := Int.pow_succ _ _
          refine s1 y (x - x / y * y) (2 * k) hy r1 (ih (x - x / y * y) _ (by omega) (by omega) (Or.inl r1) (by omega))
      obtain ⟨g, a, b, c⟩ := s1 x y (2 * k + 1) hx hy' key
      exact ⟨g, a, b, fun P σ n i st h1 h2 => c P σ n i st h1 (by omega)⟩
theorem eu_part (a b : Int64) (h1 : 0 ≤ tl a) (h2 : 0 < tl b) (h3 : tl b < 2 ^ 50) (a3 : Int32) : ∃ A, (∀ (P : Int64 → zSto → Prop) (σ : zSto), P A σ → w_X9_leastTerm a b a3 σ P) ∧ (∀ (P : Int64 → zSto → Prop) (σ : zSto), P A σ → w_X10_part a b a3 σ P) := by
  obtain ⟨g, g0, g1, g2⟩ := eu_ex 50 a b h1 (by omega) (Or.inr h2) h3
  have gn := tl_ne g0
  have gc : ¬ lg_cmp g (0 : Int64) = 0 := fun z => gn (lgc_0 z)
  refine ⟨if a3 = 0 then a / g else b / g, fun P σ hP => ?_, fun P σ hP => ?_⟩
  · unfold w_X9_leastTerm w_X9_commonDivisor
    refine ⟨200, g2 _ σ 200 0 (0 : Int32) lit_0 (by omega) (by omega) ⟨fun k => ⟨fun _ => ⟨gn, ?_⟩, fun q => absurd q gc⟩, fun k => ⟨fun _ => ⟨gn, ?_⟩, fun q => absurd q gc⟩⟩⟩
    · rw [if_pos k] at hP; exact hP
    · rw [if_neg k] at hP; exact hP
  · unfold w_X10_part w_X10_common
    refine ⟨(tl b).toNat + 1, g1 _ σ _ (by omega) ⟨fun k => ⟨gn, ?_⟩, fun k => ⟨gn, ?_⟩⟩⟩
    · rw [if_pos k] at hP; exact hP
    · rw [if_neg k] at hP; exact hP
/-! the ways, as numbers -/
noncomputable def csN (G : Nat → Int32) (p : Nat) : Nat := (ti (csI G p)).toNat
noncomputable def odI (G : Nat → Int32) (p : Nat) : Int := ti (G (7 + 5 * p + 3))
noncomputable def wyF (G : Nat → Int32) : Nat → Nat → Int
  | 0 => fun m => if m = 0 then 1 else 0
  | p + 1 => fun m => wyF G p m * (10 - odI G p) + (if csN G p ≤ m then wyF G p (m - csN G p) * odI G p else 0)
noncomputable def tpF (G : Nat → Int32) : Nat → Nat
  | 0 => 0
  | p + 1 => tpF G p + csN G p
theorem cs_r {N R : Nat} {G : Nat → Int32} (ln : LnN N R G) {p : Nat} (hp : p < N) : 1 ≤ csN G p ∧ csN G p ≤ 75 ∧ ti (csI G p) = (csN G p : Int) ∧ 0 ≤ odI G p ∧ odI G p ≤ 10 := by
  have c := csI_rg ln hp
  have o := (ln.2.2.2.2.2.1 p hp).2.2.2.1
  unfold csN odI
  omega
theorem tp_r {N R : Nat} {G : Nat → Int32} (ln : LnN N R G) : ∀ p, p ≤ N → tpF G p ≤ 75 * p := by
  intro p
  induction p with
  | zero => intro _; exact Nat.le_refl 0
  | succ p ih =>
    intro hp
    have a := ih (by omega)
    have c := cs_r ln (p := p) (by omega)
    show tpF G p + csN G p ≤ _
    omega
theorem wy_1 (G : Nat → Int32) (p m : Nat) : wyF G (p + 1) m = wyF G p m * (10 - odI G p) + (if csN G p ≤ m then wyF G p (m - csN G p) * odI G p else 0) := rfl
theorem wy_0 {N R : Nat} {G : Nat → Int32} (ln : LnN N R G) : ∀ p, p ≤ N → ∀ j, 0 ≤ wyF G p j ∧ (tpF G p < j → wyF G p j = 0) := by
  intro p
  induction p with
  | zero =>
    intro _ j
    show 0 ≤ (if j = 0 then (1 : Int) else 0) ∧ (0 < j → (if j = 0 then (1 : Int) else 0) = 0)
    by_cases c : j = 0
    · rw [if_pos c]; omega
    · rw [if_neg c]; omega
  | succ p ih =>
    intro hp j
    have h := ih (by omega)
    have c := cs_r ln (p := p) (by omega)
    have n1 := Int.mul_nonneg (h j).1 (show 0 ≤ 10 - odI G p by omega)
    have n2 := Int.mul_nonneg (h (j - csN G p)).1 c.2.2.2.1
    rw [wy_1]
    refine ⟨?_, fun hj => ?_⟩
    · by_cases d : csN G p ≤ j
      · rw [if_pos d]; omega
      · rw [if_neg d]; omega
    · have hj' : tpF G p + csN G p < j := hj
      rw [(h j).2 (by omega), if_pos (by omega), (h (j - csN G p)).2 (by omega), Int.zero_mul, Int.zero_mul]
      rfl
theorem wy_s {N R : Nat} {G : Nat → Int32} (ln : LnN N R G) : ∀ p, p ≤ N → ∀ n, tpF G p < n → smI (wyF G p) n = 10 ^ p := by
  intro p
  induction p with
  | zero =>
    intro _ n hn
    have hn' : 0 < n := hn
    rw [smI_tail (t := 1) (f := wyF G 0) n (fun j h1 _ => ((wy_0 ln 0 (by omega)) j).2 h1) hn']
    rfl
  | succ p ih =>
    intro hp n hn
    have hn' : tpF G p + csN G p < n := hn
    have e := smI_lin (f := wyF G p) (a := 10 - odI G p) (o := odI G p) (c := csN G p) n
    rw [ih (by omega) n (by omega), ih (by omega) (n - csN G p) (by omega), ← Int.mul_add, show 10 - odI G p + odI G p = 10 by omega] at e
    exact e.trans (Int.pow_succ _ _).symm
theorem wy_b {N R : Nat} {G : Nat → Int32} (ln : LnN N R G) {p : Nat} (hp : p ≤ N) (j : Nat) : wyF G p j ≤ 10 ^ p := by
  have y := smI_le (f := wyF G p) (tpF G p + j + 1) (fun i _ => ((wy_0 ln p hp) i).1) j (by omega)
  rw [wy_s ln p hp _ (by omega)] at y
  exact y
set_option maxHeartbeats 4000000 in
theorem f_findOdds_65 (x_1 x_2 x_3 : Int32) (hx2 : 0 ≤ ti x_2 ∧ ti x_2 ≤ 14) (h3 : 0 ≤ ti x_3 ∧ ti x_3 ≤ 10) {P : zSto → Prop} {K : Int32 → zSto → Prop} {σ0 : zSto} (c : Nat) (hc : ti (σ0.1 237 x_2.toNatClampNeg) = (c : Int)) (hc2 : c ≤ 75) (hB : ∀ j, j < 1200 → 0 ≤ tl (σ0.2 245 j) ∧ tl (σ0.2 245 j) ≤ 100000000000000) (hK : ∀ z σ2, z = x_2 + (1 : Int32) → σ2.1 = σ0.1 → (∀ k j, k ≠ 245 → σ2.2 k j = σ0.2 k j) → (∀ j, j < 1200 → tl (σ2.2 245 j) = tl (σ0.2 245 j) * (10 - ti x_3) + (if c ≤ j then tl (σ0.2 245 (j - c)) * ti x_3 else 0)) → K z σ2) : ∀ (n : Nat) (x_4 : Int32) (σ : zSto), σ.1 = σ0.1 → (∀ k j, k ≠ 245 → σ.2 k j = σ0.2 k j) → (∀ j : Nat, (j : Int) ≤ ti x_4 → σ.2 245 j = σ0.2 245 j) → (∀ j : Nat, j < 1200 → ti x_4 < j → tl (σ.2 245 j) = tl (σ0.2 245 j) * (10 - ti x_3) + (if c ≤ j then tl (σ0.2 245 (j - c)) * ti x_3 else 0)) → (-1 ≤ ti x_4 ∧ ti x_4 ≤ 1199) → (ti x_4 + 1 < n) → w_X10_findOdds_65 x_1 x_2 x_3 P K n x_4 σ := by
  have l0 := lit_0
  have l10 := lit_10
  have lm := lit_m1
  have t10 := tsub (x := (10 : Int32)) (y := x_3) (by omega)
  intro n
  induction n with
  | zero => intro x_4 σ g1 g2 g3 g4 h hm; exfalso; omega
  | succ n ih =>
    intro x_4 σ g1 g2 g3 g4 h hm
    unfold w_X10_findOdds_65
    refine ⟨fun q x6 e6 => ?_, fun q => ?_⟩
    · have c1 := lt_t q
      exact hK x6 σ e6 g1 g2 (fun j hj => g4 j hj (by omega))
    · have c1 := nlt_t q
      have t4 := tadd (x := x_4) (y := (-1 : Int32)) (by omega)
      have n4 := tn_eq x_4
      obtain ⟨m, hm4⟩ : ∃ m, m = x_4.toNatClampNeg := ⟨_, rfl⟩
      have e0 : σ.2 245 m = σ0.2 245 m := g3 m (by omega)
      have b0 := hB m (by omega)
      have p0 := mul_bd b0.1 b0.2 (show 0 ≤ 10 - ti x_3 by omega) (by omega)
      have v1 : tl (σ.2 245 m * ((10 : Int32) - x_3).toInt64) = tl (σ0.2 245 m) * (10 - ti x_3) := by
        have e : tl (σ.2 245 m) * tl ((10 : Int32) - x_3).toInt64 = tl (σ0.2 245 m) * (10 - ti x_3) := by rw [e0, tl_i, t10, l10]
        rw [tl_mul (by rw [e]; omega), e]
      have step : ∀ (σ' : zSto) (v : Int64) (x' : Int32), σ' = zJ σ 245 m v → tl v = tl (σ0.2 245 m) * (10 - ti x_3) + (if c ≤ m then tl (σ0.2 245 (m - c)) * ti x_3 else 0) → x' = x_4 + (-1 : Int32) → w_X10_findOdds_65 x_1 x_2 x_3 P K n x' σ' := by
        intro σ' v x' e' hv ex'
        have t5 := eq_t ex'
        refine ih x' σ' (by rw [e']; exact g1) (fun k j hk => ?_) (fun j hj => ?_) (fun j hj hj2 => ?_) (by omega) (by omega)
        · rw [e', zJ_q (Or.inl hk)]; exact g2 k j hk
        · rw [e', zJ_q (Or.inr (by omega))]; exact g3 j (by omega)
        · by_cases c3 : j = m
          · subst c3; rw [e', zJ_s]; exact hv
          · rw [e', zJ_q (Or.inr c3)]; exact g4 j hj (by omega)
      refine ⟨vin (by omega), vin (by omega), fun q2 => ⟨vin (by omega), fun σ10 e10 x11 e11 => ?_⟩, fun q2 => ?_⟩
      · have c2 := lt_t q2
        rw [g1, hc] at c2
        rw [← hm4] at e10
        refine step σ10 _ x11 e10 ?_ e11
        rw [tl_add (by rw [v1, tl_0]; omega), v1, tl_0, if_neg (by omega)]
      · have c2 := nlt_t q2
        rw [g1, hc] at c2
        have ts : ti (x_4 - σ.1 237 x_2.toNatClampNeg) = ti x_4 - (c : Int) := by rw [tsub (by rw [g1, hc]; omega), g1, hc]
        have ns := tn_eq (x_4 - σ.1 237 x_2.toNatClampNeg)
        refine ⟨vin (by omega), vin (by omega), vin (by omega), fun σ15 e15 x16 e16 => ?_⟩
        rw [← hm4, show (x_4 - σ.1 237 x_2.toNatClampNeg).toNatClampNeg = m - c by omega] at e15
        refine step σ15 _ x16 e15 ?_ e16
        have b1 := hB (m - c) (by omega)
        have p1 := mul_bd b1.1 b1.2 h3.1 h3.2
        have v2 : tl (σ.2 245 (m - c) * x_3.toInt64) = tl (σ0.2 245 (m - c)) * ti x_3 := by
          have e : tl (σ.2 245 (m - c)) * tl x_3.toInt64 = tl (σ0.2 245 (m - c)) * ti x_3 := by rw [g3 (m - c) (by omega), tl_i]
          rw [tl_mul (by rw [e]; omega), e]
        rw [tl_add (by rw [v1, v2]; omega), v1, v2, if_pos (by omega)]

set_option maxHeartbeats 4000000 in
theorem f_findOdds {l R N : Nat} {G pd : Nat → Int32} {σ : zSto} (X : RfX l R N G (csI G) pd σ) (ln : LnN N R G) (a1 : Int32) {b : Nat} (h1 : ti a1 = (b : Int)) (hb : b < N) {P : zSto → Prop} (hP : ∀ σ2, σ2.1 = σ.1 → (∀ j, j < 1200 → tl (σ2.2 245 j) = wyF G b j) → tl (σ2.2 223 42) = 10 ^ b → P σ2) : w_X10_findOdds a1 σ P := by
  have l0 := lit_0
  have l1 := lit_1
  have l1199 := lit_1199
  have l1200 := lit_1200
  have N16 := ln.1
  have go2 : ∀ (n p : Nat) (x_2 : Int32) (σ3 : zSto), σ3.1 = σ.1 → ti x_2 = (p : Int) → p ≤ b → (∀ j, j < 1200 → tl (σ3.2 245 j) = wyF G p j) → tl (σ3.2 223 42) = 10 ^ p → b - p < n → w_X10_findOdds_36 a1 P n x_2 σ3 := by
    intro n
    induction n with
    | zero => intro p x_2 σ3 _ _ _ _ _ h; omega
    | succ n ih =>
      intro p x_2 σ3 g1 hp hpb hW hD hn
      have X3 : RfX l R N G (csI G) pd σ3 := RfX_fr X (fun j _ _ => by rw [g1]) (fun k j _ => by rw [g1])
      unfold w_X10_findOdds_36
      refine ⟨fun q => ?_, fun q => ?_⟩
      · have c := le_t q
        have e : p = b := by omega
        subst e
        exact hP σ3 g1 hW hD
      · have c := nle_t q
        have tn := tn_eq x_2
        have cr := cs_r ln (p := p) (by omega)
        refine f_postOf (p := p) (c := 3) X3.1 X3.2.1 _ _ hp (by omega) lit_3 (by omega) ?_
        rw [X3.2.2.2.2.2.2.2.2.1 _ (by omega)]
        intro σ5 e5
        have f5 : σ5.1 = σ.1 := by rw [e5]; exact g1
        have k5 : ∀ j, σ5.2 245 j = σ3.2 245 j := fun j => by rw [e5, zJ_q (Or.inl (by decide))]
        have pb : (10 : Int) ^ p ≤ 100000000000000 := p10' ⟨p, by omega⟩
        have pc : (1 : Int) ≤ 10 ^ p := (p10 ⟨p, by omega⟩).1
        have pw : (10 : Int) ^ (p + 1) = 10 ^ p * 10 := Int.pow_succ _ _
        have a5 : tl (σ5.2 223 42) = 10 ^ (p + 1) := by
          rw [e5, zJ_s, tl_mul (by rw [hD, tl_10]; omega), hD, tl_10, pw]
        have hc : ti (σ5.1 237 x_2.toNatClampNeg) = (csN G p : Int) := by
          rw [show x_2.toNatClampNeg = p by omega, f5, (X.2.2.2.2.2.2.2.2.2 p (by omega)).1]
          exact cr.2.2.1
        have hr : 0 ≤ ti (G (7 + 5 * p + 3)) ∧ ti (G (7 + 5 * p + 3)) ≤ 10 := cr.2.2.2
        refine ⟨2000, f_findOdds_65 a1 x_2 (G (7 + 5 * p + 3)) (by omega) hr (csN G p) hc cr.2.1 (fun j hj => ?_) (fun z σ2 hz g1' g2' g3' => ?_) 2000 (1199 : Int32) σ5 rfl (fun _ _ _ => rfl) (fun _ _ => rfl) (fun j hj h2 => by omega) (by omega) (by omega)⟩
        · rw [k5 j, hW j hj]
          have := wy_b ln (p := p) (by omega) j
          exact ⟨((wy_0 ln p (by omega)) j).1, by omega⟩
        · have t := tadd (x := x_2) (y := (1 : Int32)) (by omega)
          have t2 := eq_t hz
          refine ih (p + 1) z σ2 (by rw [g1', f5]) (by omega) (by omega) (fun j hj => ?_) ?_ (by omega)
          · rw [g3' j hj, k5, hW j hj, wy_1]
            by_cases d : csN G p ≤ j
            · rw [if_pos d, if_pos d, k5, hW _ (by omega)]
              rfl
            · rw [if_neg d, if_neg d]
              rfl
          · rw [g2' 223 42 (by decide)]
            exact a5
  have go1 : ∀ (n i : Nat) (x_2 : Int32) (σ3 : zSto), σ3.1 = σ.1 → ti x_2 = (i : Int) → i ≤ 1200 → (∀ j, j < i → tl (σ3.2 245 j) = 0) → 1200 - i < n → w_X10_findOdds_2 a1 P n x_2 σ3 := by
    intro n
    induction n with
    | zero => intro i x_2 σ3 _ _ _ _ h; omega
    | succ n ih =>
      intro i x_2 σ3 g1 hi hi2 hz hn
      unfold w_X10_findOdds_2
      refine ⟨fun q σ1 e1 σ2 e2 => ?_, fun q => ?_⟩
      · have c := le_t q
        refine ⟨100, go2 100 0 (0 : Int32) σ2 (by rw [e2, e1]; exact g1) lit_0 (by omega) (fun j hj => ?_) (by rw [e2, zJ_s]; exact tl_1) (by omega)⟩
        show _ = if j = 0 then (1 : Int) else 0
        rw [e2, zJ_q (Or.inl (by decide))]
        by_cases d : j = 0
        · subst d
          rw [if_pos rfl, e1, zJ_s]
          exact tl_1
        · rw [if_neg d, e1, zJ_q (Or.inr d)]
          exact hz j (by omega)
      · have c := nle_t q
        have tx := tadd (x := x_2) (y := (1 : Int32)) (by omega)
        have tn := tn_eq x_2
        refine ⟨vin (by omega), fun σ18 e18 x19 e19 => ?_⟩
        have f := eq_t e19
        rw [show x_2.toNatClampNeg = i by omega] at e18
        refine ih (i + 1) x19 σ18 (by rw [e18]; exact g1) (by omega) (by omega) (fun j hj => ?_) (by omega)
        by_cases d : j = i
        · subst d
          rw [e18, zJ_s]
          exact tl_0
        · rw [e18, zJ_q (Or.inr d)]
          exact hz j (by omega)
  unfold w_X10_findOdds
  exact ⟨2000, go1 2000 0 (0 : Int32) σ rfl lit_0 (by omega) (fun j hj => absurd hj (Nat.not_lt_zero j)) (by omega)⟩
/-! the class's ways -/
set_option maxHeartbeats 4000000 in
theorem f_addStop {σ : zSto} (a1 a2 : Int32) {c tp : Nat} {o D : Int} {W : Nat → Int} (h1 : ti a1 = (c : Int)) (hc : 1 ≤ c ∧ c ≤ 75) (h2 : ti a2 = o) (ho : 0 ≤ o ∧ o ≤ 10) (ht : ti (σ.1 198 1) = (tp : Int)) (htc : tp + c ≤ 1125) (hW : ∀ j, j ≤ tp → tl (σ.2 199 j) = W j) (hz : ∀ j, tp < j → W j = 0) (hB : ∀ j, 0 ≤ W j ∧ W j ≤ 100000000000000) (hD : tl (σ.2 198 2) = D) (hD2 : 0 ≤ D ∧ D ≤ 100000000000000) {P : zSto → Prop} (hP : ∀ σ2, (∀ k j, ¬ (k = 198 ∧ j = 1) → σ2.1 k j = σ.1 k j) → ti (σ2.1 198 1) = ((tp + c : Nat) : Int) → (∀ j, j ≤ tp + c → tl (σ2.2 199 j) = W j * (10 - o) + (if c ≤ j then W (j - c) * o else 0)) → tl (σ2.2 198 2) = D * 10 → P σ2) : w_X7_addStop a1 a2 σ P := by
  have l0 := lit_0
  have l1 := lit_1
  have l10 := lit_10
  have lm := lit_m1
  have l1125 := lit_1125
  have t10 := tsub (x := (10 : Int32)) (y := a2) (by omega)
  have go2 : ∀ (n : Nat) (x_3 x_4 : Int32) (σ3 : zSto), ti x_3 = ((tp + c : Nat) : Int) → σ3.1 = σ.1 → (∀ k j, k ≠ 199 → σ3.2 k j = σ.2 k j) → (∀ j : Nat, (j : Int) ≤ ti x_4 → tl (σ3.2 199 j) = W j) → (∀ j : Nat, ti x_4 < j → j ≤ tp + c → tl (σ3.2 199 j) = W j * (10 - o) + (if c ≤ j then W (j - c) * o else 0)) → (-1 ≤ ti x_4 ∧ ti x_4 ≤ ((tp + c : Nat) : Int)) → ti x_4 + 1 < n → w_X7_addStop_44 a1 a2 x_3 P n x_4 σ3 := by
    intro n
    induction n with
    | zero => intro x_3 x_4 σ3 _ _ _ _ _ _ h; omega
    | succ n ih =>
      intro x_3 x_4 σ3 h3 g1 g2 lo up hi hn
      unfold w_X7_addStop_44
      refine ⟨fun q σ4 e4 σ5 e5 => ?_, fun q => ?_⟩
      · have c1 := lt_t q
        have f5 : σ5.1 = σ4.1 := by rw [e5]; rfl
        have g4 : σ4.2 = σ3.2 := by rw [e4]; rfl
        refine hP σ5 (fun k j h => ?_) ?_ (fun j hj => ?_) ?_
        · rw [f5, zI_q' e4 (by omega), g1]
        · rw [f5, e4, zI_s]
          exact h3
        · rw [e5, zJ_q (Or.inl (by decide)), g4]
          exact up j (by omega) hj
        · rw [e5, zJ_s, g4, tl_mul (by rw [g2 198 2 (by decide), hD, tl_10]; omega), g2 198 2 (by decide), hD, tl_10]
      · have c1 := nlt_t q
        have t4 := tadd (x := x_4) (y := (-1 : Int32)) (by omega)
        have n4 := tn_eq x_4
        obtain ⟨m, hm4⟩ : ∃ m, m = x_4.toNatClampNeg := ⟨_, rfl⟩
        have e0 : tl (σ3.2 199 m) = W m := lo m (by omega)
        have b0 := hB m
        have p0 := mul_bd b0.1 b0.2 (show 0 ≤ 10 - o by omega) (by omega)
        have v1 : tl (σ3.2 199 m * ((10 : Int32) - a2).toInt64) = W m * (10 - o) := by
          have e : tl (σ3.2 199 m) * tl ((10 : Int32) - a2).toInt64 = W m * (10 - o) := by rw [e0, tl_i, t10, l10, h2]
          rw [tl_mul (by rw [e]; omega), e]
        have step : ∀ (σ' : zSto) (v : Int64) (x' : Int32), σ' = zJ σ3 199 m v → tl v = W m * (10 - o) + (if c ≤ m then W (m - c) * o else 0) → x' = x_4 + (-1 : Int32) → w_X7_addStop_44 a1 a2 x_3 P n x' σ' := by
          intro σ' v x' e' hv ex'
          have t5 := eq_t ex'
          refine ih x_3 x' σ' h3 (by rw [e']; exact g1) (fun k j hk => ?_) (fun j hj => ?_) (fun j hj hj2 => ?_) (by omega) (by omega)
          · rw [e', zJ_q (Or.inl hk)]; exact g2 k j hk
          · rw [e', zJ_q (Or.inr (by omega))]; exact lo j (by omega)
          · by_cases c3 : j = m
            · subst c3; rw [e', zJ_s]; exact hv
            · rw [e', zJ_q (Or.inr c3)]; exact up j (by omega) hj2
        rw [← hm4]
        refine ⟨fun q2 => ⟨vin (by omega), vin (by omega), fun σ7 e7 x8 e8 => ?_⟩, fun q2 => ?_⟩
        · have c2 := lt_t q2
          refine step σ7 _ x8 e7 ?_ e8
          rw [tl_add (by rw [v1, tl_0]; omega), v1, tl_0, if_neg (by omega)]
        · have c2 := nlt_t q2
          have ts := tsub (x := x_4) (y := a1) (by omega)
          have ns := tn_eq (x_4 - a1)
          rw [show (x_4 - a1).toNatClampNeg = m - c by omega]
          refine ⟨vin (by omega), fun x10 e10 => ⟨vin (by omega), vin (by omega), fun σ13 e13 x14 e14 => ?_⟩⟩
          refine step σ13 _ x14 e13 ?_ e14
          have b1 := hB (m - c)
          have p1 := mul_bd b1.1 b1.2 ho.1 ho.2
          have v2 : tl x10 = W (m - c) * o := by
            have e : tl (σ3.2 199 (m - c)) * tl a2.toInt64 = W (m - c) * o := by rw [lo (m - c) (by omega), tl_i, h2]
            rw [e10, tl_mul (by rw [e]; omega), e]
          rw [tl_add (by rw [v1, v2]; omega), v1, v2, if_pos (by omega)]
  have go1 : ∀ (n i : Nat) (x_3 x_4 : Int32) (σ3 : zSto), ti x_3 = ((tp + c : Nat) : Int) → σ3.1 = σ.1 → (∀ k j, k ≠ 199 → σ3.2 k j = σ.2 k j) → ti x_4 = (i : Int) → i ≤ tp + c + 1 → (∀ j, j < i → tl (σ3.2 199 j) = W j) → tp < i → tp + c + 1 - i < n → w_X7_addStop_21 a1 a2 x_3 P n x_4 σ3 := by
    intro n
    induction n with
    | zero => intro i x_3 x_4 σ3 _ _ _ _ _ _ _ h; omega
    | succ n ih =>
      intro i x_3 x_4 σ3 h3 g1 g2 hi hi2 lo hti hn
      unfold w_X7_addStop_21
      refine ⟨fun q => ?_, fun q => ?_⟩
      · have c1 := lt_t q
        refine ⟨2000, go2 2000 x_3 x_3 σ3 h3 g1 g2 (fun j hj => lo j (by omega)) (fun j hj hj2 => by omega) (by omega) (by omega)⟩
      · have c1 := nlt_t q
        have tx := tadd (x := x_4) (y := (1 : Int32)) (by omega)
        have tn := tn_eq x_4
        refine ⟨vin (by omega), fun σ16 e16 x17 e17 => ?_⟩
        have f := eq_t e17
        rw [show x_4.toNatClampNeg = i by omega] at e16
        refine ih (i + 1) x_3 x17 σ16 h3 (by rw [e16]; exact g1) (fun k j hk => by rw [e16, zJ_q (Or.inl hk)]; exact g2 k j hk) (by omega) (by omega) (fun j hj => ?_) (by omega) (by omega)
        by_cases d : j = i
        · subst d
          rw [e16, zJ_s, hz j hti]
          exact tl_0
        · rw [e16, zJ_q (Or.inr d)]
          exact lo j (by omega)
  unfold w_X7_addStop
  intro x1 e1 x2 e2
  have ta := tadd (x := σ.1 198 1) (y := a1) (by omega)
  have tb := tadd (x := σ.1 198 1) (y := (1 : Int32)) (by omega)
  rw [if_neg (fun z => by have := lt_t z; omega)] at e1
  have f1 := eq_t e1
  have f2 := eq_t e2
  exact ⟨2000, go1 2000 (tp + 1) x1 x2 σ (by omega) rfl (fun _ _ _ => rfl) (by omega) (by omega) (fun j hj => hW j (by omega)) (by omega) (by omega)⟩
set_option maxHeartbeats 4000000 in
theorem f_overPosts {t N R : Nat} {G : Nat → Int32} (ht : t + 12 ≤ 190) {σ : zSto} (L : LnR t G σ) (ln : LnN N R G) (hN : ti (G 0) = (N : Int)) (a2 : Int32) {b : Nat} (h2 : ti a2 = (b : Int)) (hb : b < N) {P : zSto → Prop} (hP : ∀ σ2, (∀ k j, k ≠ 198 → σ2.1 k j = σ.1 k j) → ti (σ2.1 198 1) = (tpF G b : Int) → (∀ j, j ≤ tpF G b → tl (σ2.2 199 j) = wyF G b j) → tl (σ2.2 198 2) = 10 ^ b → P σ2) : w_X7_overPosts t a2 σ P := by
  have l1 := lit_1
  have l15 := lit_15
  have N16 := ln.1
  have go : ∀ (n p : Nat) (x_3 : Int32) (σ3 : zSto), (∀ k j, k ≠ 198 → σ3.1 k j = σ.1 k j) → ti x_3 = (p : Int) → p ≤ b → ti (σ3.1 198 1) = (tpF G p : Int) → (∀ j, j ≤ tpF G p → tl (σ3.2 199 j) = wyF G p j) → tl (σ3.2 198 2) = 10 ^ p → b - p < n → w_X7_overPosts_19 t a2 P n x_3 σ3 := by
    intro n
    induction n with
    | zero => intro p x_3 σ3 _ _ _ _ _ _ h; omega
    | succ n ih =>
      intro p x_3 σ3 fr hp hpb ht1 hW hD hn
      have L3 : LnR t G σ3 := LnR_fr L (fun k j a b => fr k j (by omega))
      unfold w_X7_overPosts_19
      have fin : p = b → P σ3 := fun e => by
        subst e
        exact hP σ3 fr ht1 hW hD
      refine ⟨fun q => fin (by have := le_t q; omega), fun q => ⟨fun q2 => fin (by have := le_t q2; have := nle_t q; omega), fun q2 => ?_⟩⟩
      have c := nle_t q
      have tx := tadd (x := x_3) (y := (1 : Int32)) (by omega)
      have tn := tn_eq x_3
      have cr := cs_r ln (p := p) (by omega)
      have tr := tp_r ln p (by omega)
      have pb : (10 : Int) ^ p ≤ 100000000000000 := p10' ⟨p, by omega⟩
      have pc : (1 : Int) ≤ 10 ^ p := (p10 ⟨p, by omega⟩).1
      refine f_X0_cost L3 x_3 hp (by omega) (by omega) ⟨vin (by omega), ?_⟩
      have eo : σ3.1 (t + 4) x_3.toNatClampNeg = G (7 + 5 * p + 3) := by
        rw [show x_3.toNatClampNeg = p by omega]
        exact L3.2.1 p 3 (by omega) (by omega) (Or.inl (by omega))
      rw [eo]
      refine f_addStop (csI G p) (G (7 + 5 * p + 3)) (c := csN G p) (tp := tpF G p) (o := odI G p) (D := 10 ^ p) (W := wyF G p) cr.2.2.1 ⟨cr.1, cr.2.1⟩ rfl cr.2.2.2 ht1 (by omega) hW (fun j hj => ((wy_0 ln p (by omega)) j).2 hj) (fun j => ⟨((wy_0 ln p (by omega)) j).1, by have := wy_b ln (p := p) (by omega) j; omega⟩) hD (by omega) (fun σ7 f7 t7 w7 d7 => fun x8 e8 => ?_)
      have f := eq_t e8
      refine ih (p + 1) x8 σ7 (fun k j h => by rw [f7 k j (by omega), fr k j h]) (by omega) (by omega) t7 (fun j hj => ?_) ?_ (by omega)
      · rw [w7 j hj, wy_1]
      · rw [d7]
        exact (Int.pow_succ _ _).symm
  unfold w_X7_overPosts
  intro σ1 e1 σ2 e2 σ3 e3
  have g1 : σ3.1 = σ1.1 := by rw [e3, e2]; rfl
  refine ⟨100, go 100 0 (0 : Int32) σ3 (fun k j h => by rw [g1, zI_q' e1 (by omega)]) lit_0 (by omega) (by rw [g1, e1, zI_s]; exact lit_0) (fun j hj => ?_) (by rw [e3, zJ_q (Or.inl (by decide)), e2, zJ_s]; exact tl_1) (by omega)⟩
  have j0 : j = 0 := Nat.le_zero.mp hj
  subst j0
  rw [e3, zJ_s]
  exact tl_1
