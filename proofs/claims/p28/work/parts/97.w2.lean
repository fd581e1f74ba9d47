/-! the sets of POSTS: the class's list, the reference's numbers -/
def sF (f : Nat → Int) : Nat → Nat → Nat → Int
  | 0, _, _ => 0
  | r + 1, p, k => (if k % 2 = 0 then 0 else f p) + sF f r (p + 1) (k / 2)
def bF (b : Nat → Bool) : Nat → Nat → Nat → Bool
  | 0, _, _ => true
  | r + 1, p, k => (decide (k % 2 = 0) || b p) && bF b r (p + 1) (k / 2)
theorem fm_E {b : Nat → Bool} {a c : Nat → Int} : ∀ (r p : Nat) (P C : Int) (k : Nat), fmE b a c r p P C k = true ↔ (bF b r p k = true ∧ sF a r p k = P ∧ sF c r p k = C) := by
  intro r
  induction r with
  | zero =>
    intro p P C k
    show decide (P = 0 ∧ C = 0) = true ↔ (true = true ∧ (0 : Int) = P ∧ (0 : Int) = C)
    exact ⟨fun z => by have := of_decide_eq_true z; exact ⟨rfl, by omega, by omega⟩, fun z => decide_eq_true ⟨by omega, by omega⟩⟩
  | succ r ih =>
    intro p P C k
    show (if k % 2 = 0 then fmE b a c r (p + 1) P C (k / 2) else (b p && fmE b a c r (p + 1) (P - a p) (C - c p) (k / 2))) = true ↔ (((decide (k % 2 = 0) || b p) && bF b r (p + 1) (k / 2)) = true ∧ (if k % 2 = 0 then 0 else a p) + sF a r (p + 1) (k / 2) = P ∧ (if k % 2 = 0 then 0 else c p) + sF c r (p + 1) (k / 2) = C)
    by_cases h : k % 2 = 0
    · rw [if_pos h, if_pos h, if_pos h, decide_eq_true h, Bool.true_or, Bool.true_and, ih, Int.zero_add, Int.zero_add]
    · rw [if_neg h, if_neg h, if_neg h, decide_eq_false h, Bool.false_or, Bool.and_eq_true, Bool.and_eq_true, ih]
      exact ⟨fun z => ⟨⟨z.1, z.2.1⟩, by omega, by omega⟩, fun z => ⟨z.1.1, z.1.2, by omega, by omega⟩⟩
theorem bF_iff {b : Nat → Bool} : ∀ (r p k : Nat), bF b r p k = true ↔ ∀ i, i < r → k / 2 ^ i % 2 = 1 → b (p + i) = true := by
  intro r
  induction r with
  | zero => intro p k; exact ⟨fun _ i hi => absurd hi (Nat.not_lt_zero i), fun _ => rfl⟩
  | succ r ih =>
    intro p k
    show ((decide (k % 2 = 0) || b p) && bF b r (p + 1) (k / 2)) = true ↔ _
    rw [Bool.and_eq_true, Bool.or_eq_true, ih]
    refine ⟨fun z i hi hk => ?_, fun z => ⟨?_, fun i hi hk => ?_⟩⟩
    · by_cases c : i = 0
      · subst c
        rw [Nat.pow_zero, Nat.div_one] at hk
        rcases z.1 with y | y
        · have := of_decide_eq_true y
          omega
        · exact y
      · obtain ⟨m, hm⟩ : ∃ m, i = m + 1 := ⟨i - 1, by omega⟩
        subst hm
        rw [Nat.pow_succ, Nat.mul_comm, ← Nat.div_div_eq_div_mul] at hk
        have y := z.2 m (by omega) hk
        rw [show p + 1 + m = p + (m + 1) by omega] at y
        exact y
    · by_cases c : k % 2 = 0
      · exact Or.inl (decide_eq_true c)
      · exact Or.inr (z 0 (by omega) (by rw [Nat.pow_zero, Nat.div_one]; omega))
    · have y := z (i + 1) (by omega) (by rw [Nat.pow_succ, Nat.mul_comm, ← Nat.div_div_eq_div_mul]; exact hk)
      rw [show p + 1 + i = p + (i + 1) by omega]
      exact y
theorem sF_rg {f : Nat → Int} {M : Nat} (h : ∀ p, p < M → 0 ≤ f p ∧ f p ≤ 1000) : ∀ r p k, p + r ≤ M → 0 ≤ sF f r p k ∧ sF f r p k ≤ 1000 * (r : Int) := by
  intro r
  induction r with
  | zero => intro p k _; show (0 : Int) ≤ 0 ∧ (0 : Int) ≤ _; omega
  | succ r ih =>
    intro p k hp
    have y := ih (p + 1) (k / 2) (by omega)
    have w := h p (by omega)
    show 0 ≤ (if k % 2 = 0 then 0 else f p) + sF f r (p + 1) (k / 2) ∧ (if k % 2 = 0 then 0 else f p) + sF f r (p + 1) (k / 2) ≤ _
    by_cases c : k % 2 = 0
    · rw [if_pos c]; omega
    · rw [if_neg c]; omega
theorem bt_nat {k j : Nat} (hk : k < 2147483648) (hj : j < 32) : bt (Int32.ofNat k) j = decide (k / 2 ^ j % 2 = 1) := by
  show (BitVec.ofNat 32 k).getLsbD j = _
  rw [BitVec.getLsbD_ofNat, decide_eq_true hj, Bool.true_and, Nat.testBit_eq_decide_div_mod_eq]
theorem bt_hi {k n j : Nat} (hk : k < 2 ^ n) (hj : n ≤ j) : k / 2 ^ j = 0 := Nat.div_eq_of_lt (Nat.lt_of_lt_of_le hk (Nat.pow_le_pow_right (by decide) hj))
theorem bt_num {x : Int32} {n : Nat} (hn : n ≤ 31) (h : ∀ j, n ≤ j → j < 32 → bt x j = false) : ∃ k, k < 2 ^ n ∧ x = Int32.ofNat k := by
  refine ⟨x.toBitVec.toNat, Nat.lt_pow_two_of_testBit _ (fun i hi => ?_), ?_⟩
  · by_cases c : i < 32
    · exact h i hi c
    · exact Nat.testBit_lt_two_pow (Nat.lt_of_lt_of_le x.toBitVec.isLt (Nat.pow_le_pow_right (by decide) (by omega)))
  · apply Int32.toBitVec_inj.mp
    show x.toBitVec = BitVec.ofNat 32 x.toBitVec.toNat
    simp
theorem rk_bt {q : Nat → Bool} : ∀ m, m ≤ 32 → ∀ j, j < 32 → bt (rkF q m) j = (decide (j < m) && q j) := by
  intro m
  induction m with
  | zero => intro _ j _; show bt 0 j = _; rw [bt_z, decide_eq_false (Nat.not_lt_zero j)]; rfl
  | succ m ih =>
    intro hm j hj
    show bt (rkF q m ||| (if q m = true then (1 : Int32) <<< (Int32.ofNat m &&& 31) else 0)) j = _
    rw [bt_or, ih (by omega) j hj]
    by_cases c : q m = true
    · rw [if_pos c, bt_sl m (by omega) j hj]
      by_cases d : j = m
      · subst d
        rw [c, decide_eq_true (rfl : j = j), decide_eq_true (show j < j + 1 by omega), Bool.or_true]
        rfl
      · rw [decide_eq_false d, Bool.or_false]
        by_cases e : j < m
        · rw [decide_eq_true e, decide_eq_true (show j < m + 1 by omega)]
        · rw [decide_eq_false e, decide_eq_false (show ¬ j < m + 1 by omega)]
    · rw [if_neg c, bt_z, Bool.or_false]
      by_cases d : j = m
      · subst d
        rw [decide_eq_false (Nat.lt_irrefl j), Bool.false_and]
        cases hq : q j
        · rw [Bool.and_false]
        · exact absurd hq c
      · by_cases e : j < m
        · rw [decide_eq_true e, decide_eq_true (show j < m + 1 by omega)]
        · rw [decide_eq_false e, decide_eq_false (show ¬ j < m + 1 by omega)]
/-- the list holds just the numbers -/
theorem fm_nat {b : Nat → Bool} {a c : Nat → Int} {n : Nat} (hn : n ≤ 30) {P C : Int} {x : Int32} : x ∈ fmX b a c n 0 P C 0 ↔ ∃ k, k < 2 ^ n ∧ fmE b a c n 0 P C k = true ∧ x = Int32.ofNat k := by
  have pw : 2 ^ n ≤ 2 ^ 30 := Nat.pow_le_pow_right (by decide) hn
  have key : ∀ k, k < 2 ^ n → ∀ j, j < 32 → (bt 0 j || bkF n 0 k j) = bt (Int32.ofNat k) j := fun k hk j hj => by
    rw [bt_z, Bool.false_or, bt_nat (by omega) hj]
    unfold bkF
    by_cases g : j < n
    · rw [decide_eq_true (show 0 ≤ j ∧ j < 0 + n by omega), Bool.true_and, Nat.sub_zero]
    · rw [decide_eq_false (show ¬ (0 ≤ j ∧ j < 0 + n) by omega), Bool.false_and, bt_hi hk (by omega)]
      rfl
  rw [fm_mem n 0 P C 0 x (by omega)]
  refine ⟨fun ⟨k, hk, he, hb⟩ => ⟨k, hk, he, bt_ex (fun j hj => by rw [hb j hj, key k hk j hj])⟩, fun ⟨k, hk, he, e⟩ => ⟨k, hk, he, fun j hj => by rw [e, key k hk j hj]⟩⟩
/-! the class: items are laid, then searched -/
theorem cn_inv {W : Nat → Bool} : ∀ R e, e < cnF W R → ∃ i, i < R ∧ W i = true ∧ cnF W i = e := by
  intro R
  induction R with
  | zero => intro e h; exact absurd h (Nat.not_lt_zero e)
  | succ R ih =>
    intro e h
    rw [cnF_1] at h
    by_cases c : e < cnF W R
    · obtain ⟨i, a, b, d⟩ := ih e c
      exact ⟨i, by omega, b, d⟩
    · by_cases w : W R = true
      · rw [if_pos w] at h
        exact ⟨R, by omega, w, by omega⟩
      · rw [if_neg w] at h
        omega
theorem ItS_fr {b : Nat → Bool} {a c : Nat → Int} {o R : Nat} {σ σ2 : zSto} (h : ItS b a c o R σ) (f0 : σ2.1 200 6 = σ.1 200 6) (f : ∀ k j, 201 ≤ k → k ≤ 203 → σ2.1 k j = σ.1 k j) : ItS b a c o R σ2 := ⟨by rw [f0]; exact h.1, fun i hi hb => by rw [f 201 _ (by omega) (by omega), f 202 _ (by omega) (by omega), f 203 _ (by omega) (by omega)]; exact h.2 i hi hb⟩
theorem ItS_0 {b : Nat → Bool} {a c : Nat → Int} {o : Nat} {σ : zSto} (h : σ.1 200 6 = 0) : ItS b a c o 0 σ := ⟨by rw [h, lit_0]; rfl, fun i hi => absurd hi (Nat.not_lt_zero i)⟩
theorem ItS_skip {b : Nat → Bool} {a c : Nat → Int} {o i : Nat} {σ : zSto} (h : ItS b a c o i σ) (hb : ¬ b (o + i) = true) : ItS b a c o (i + 1) σ := by
  have e : cnF (fun i => b (o + i)) (i + 1) = cnF (fun i => b (o + i)) i := by
    rw [cnF_1, if_neg hb]
    rfl
  refine ⟨by rw [e]; exact h.1, fun q hq hb' => ?_⟩
  by_cases d : q = i
  · subst d
    exact absurd hb' hb
  · exact h.2 q (by omega) hb'
theorem f_X6_add {b : Nat → Bool} {a c : Nat → Int} {o i : Nat} {σ : zSto} (h : ItS b a c o i σ) (hi : i < 16) (hb : b (o + i) = true) (a1 a2 a3 : Int32) (h1 : a1 = Int32.ofNat (o + i)) (h2 : ti a2 = a (o + i)) (h3 : ti a3 = c (o + i)) {P : zSto → Prop} (hP : ∀ σ2, (∀ k j, ¬ (201 ≤ k ∧ k ≤ 203) → ¬ (k = 200 ∧ j = 6) → σ2.1 k j = σ.1 k j) → ItS b a c o (i + 1) σ2 → P σ2) : w_X6_add a1 a2 a3 σ P := by
  have l1 := lit_1
  have l16 := lit_16
  obtain ⟨s, it⟩ := h
  have cl := cnF_le (fun i => b (o + i)) i
  have tn := tn_eq (σ.1 200 6)
  have n6 : (σ.1 200 6).toNatClampNeg = cnF (fun i => b (o + i)) i := by omega
  have cs1 : cnF (fun i => b (o + i)) (i + 1) = cnF (fun i => b (o + i)) i + 1 := by rw [cnF_1, if_pos hb]
  unfold w_X6_add
  refine ⟨fun q => by have := le_t q; omega, fun _ => ?_⟩
  rw [n6]
  refine ⟨vin (by omega), fun σ2 e2 => ?_⟩
  have g2 : σ2.1 200 6 = σ.1 200 6 := zI_q' e2 (by omega)
  rw [g2, n6]
  refine ⟨vin (by omega), fun σ4 e4 => ?_⟩
  have g4 : σ4.1 200 6 = σ.1 200 6 := by rw [zI_q' e4 (by omega), g2]
  rw [g4, n6]
  refine ⟨vin (by omega), fun σ6 e6 σ7 e7 => ?_⟩
  have g6 : σ6.1 200 6 = σ.1 200 6 := by rw [zI_q' e6 (by omega), g4]
  rw [g6] at e7
  have ta := tadd (x := σ.1 200 6) (y := (1 : Int32)) (by omega)
  refine hP σ7 (fun k j x y => by rw [zI_q' e7 (by omega), zI_q' e6 (by omega), zI_q' e4 (by omega), zI_q' e2 (by omega)]) ⟨?_, fun q hq hb' => ?_⟩
  · rw [e7, zI_s, ta, cs1]
    omega
  · by_cases d : q = i
    · subst d
      refine ⟨?_, ?_, ?_⟩
      · rw [zI_q' e7 (by omega), zI_q' e6 (by omega), zI_q' e4 (by omega), e2, zI_s, h1]
      · rw [zI_q' e7 (by omega), zI_q' e6 (by omega), e4, zI_s, h2]
      · rw [zI_q' e7 (by omega), e6, zI_s, h3]
    · have mono := cnF_mono (W := fun i => b (o + i)) (i - (q + 1)) (q + 1)
      rw [show q + 1 + (i - (q + 1)) = i by omega, cnF_1, if_pos hb'] at mono
      rw [zI_q' e7 (by omega), zI_q' e6 (by omega), zI_q' e4 (by omega), zI_q' e2 (by omega), zI_q' e7 (by omega), zI_q' e6 (by omega), zI_q' e4 (by omega), zI_q' e2 (by omega), zI_q' e7 (by omega), zI_q' e6 (by omega), zI_q' e4 (by omega), zI_q' e2 (by omega)]
      exact it q (by omega) hb'
def rsF (f : Nat → Int) (s : Nat) : Nat → Int
  | 0 => 0
  | m + 1 => rsF f s m + f (s - (m + 1))
theorem rs_rg {f : Nat → Int} {s : Nat} (h : ∀ e, e < s → 0 ≤ f e ∧ f e ≤ 1000) : ∀ m, m ≤ s → 0 ≤ rsF f s m ∧ rsF f s m ≤ 1000 * (m : Int) := by
  intro m
  induction m with
  | zero => intro _; show (0 : Int) ≤ 0 ∧ (0 : Int) ≤ _; omega
  | succ m ih =>
    intro hm
    have y := ih (by omega)
    have w := h (s - (m + 1)) (by omega)
    show 0 ≤ rsF f s m + f (s - (m + 1)) ∧ rsF f s m + f (s - (m + 1)) ≤ _
    omega
theorem rs_sG {b : Nat → Bool} {f g : Nat → Int} {o R : Nat} (h : ∀ i, i < R → b (o + i) = true → g (cnF (fun i => b (o + i)) i) = f (o + i)) : ∀ r i, i + r = R → rsF g (cnF (fun i => b (o + i)) R) (cnF (fun i => b (o + i)) R - cnF (fun i => b (o + i)) i) = sG b f r (o + i) := by
  intro r
  induction r with
  | zero =>
    intro i hi
    have ei : i = R := by omega
    subst ei
    rw [Nat.sub_self]
    rfl
  | succ r ih =>
    intro i hi
    have y := ih (i + 1) (by omega)
    show _ = (if b (o + i) = true then f (o + i) else 0) + sG b f r (o + i + 1)
    rw [show o + i + 1 = o + (i + 1) by omega, ← y]
    by_cases hb : b (o + i) = true
    · have c1 : cnF (fun j => b (o + j)) (i + 1) = cnF (fun j => b (o + j)) i + 1 := by rw [cnF_1, if_pos hb]
      have cm := cnF_mono (W := fun j => b (o + j)) r (i + 1)
      rw [show i + 1 + r = R by omega] at cm
      rw [if_pos hb, c1]
      obtain ⟨m, hm⟩ : ∃ m, m = cnF (fun j => b (o + j)) R - (cnF (fun j => b (o + j)) i + 1) := ⟨_, rfl⟩
      rw [show cnF (fun j => b (o + j)) R - cnF (fun j => b (o + j)) i = m + 1 by omega, ← hm]
      show rsF g (cnF (fun j => b (o + j)) R) m + g (cnF (fun j => b (o + j)) R - (m + 1)) = _
      rw [show cnF (fun j => b (o + j)) R - (m + 1) = cnF (fun j => b (o + j)) i by omega, h i (by omega) hb]
      omega
    · have c1 : cnF (fun j => b (o + j)) (i + 1) = cnF (fun j => b (o + j)) i := by
        rw [cnF_1, if_neg hb]
        rfl
      rw [if_neg hb, c1]
      omega
def FrD (σ σ2 : zSto) : Prop := ∀ k j, k ≠ 204 → k ≠ 205 → ¬ (k = 200 ∧ 7 ≤ j ∧ j ≤ 10) → σ2.1 k j = σ.1 k j
set_option maxHeartbeats 8000000 in
theorem f_X6_find {b : Nat → Bool} {a c : Nat → Int} {o R : Nat} (ha : ∀ p, b p = true → 0 ≤ a p ∧ a p ≤ 1000) (hc : ∀ p, b p = true → 0 ≤ c p ∧ c p ≤ 1000) (hR : R ≤ 15 ∧ o + R ≤ 16) {σ : zSto} (it : ItS b a c o R σ) (a1 a2 : Int32) {P : zSto → Prop} (hP : ∀ σ2, FrD σ σ2 → StK (fmX b a c R o (ti a1) (ti a2) 0) σ2 → P σ2) : w_X6_find a1 a2 σ P := by
  have l0 := lit_0
  have l1 := lit_1
  have lm := lit_m1
  obtain ⟨s, hs⟩ : ∃ s, s = cnF (fun i => b (o + i)) R := ⟨_, rfl⟩
  have s15 : s ≤ 15 := by
    have := cnF_le (fun i => b (o + i)) R
    omega
  obtain ⟨f2, hf2⟩ : ∃ f2 : Nat → Int, ∀ e, f2 e = ti (σ.1 202 e) := ⟨fun e => ti (σ.1 202 e), fun _ => rfl⟩
  obtain ⟨f3, hf3⟩ : ∃ f3 : Nat → Int, ∀ e, f3 e = ti (σ.1 203 e) := ⟨fun e => ti (σ.1 203 e), fun _ => rfl⟩
  have r2 : ∀ e, e < s → 0 ≤ f2 e ∧ f2 e ≤ 1000 := fun e he => by
    obtain ⟨i, h1, h2, h3⟩ := cn_inv R e (by rw [← hs]; exact he)
    have y := (it.2 i h1 h2).2.1
    rw [h3] at y
    rw [hf2, y]
    exact ha _ h2
  have r3 : ∀ e, e < s → 0 ≤ f3 e ∧ f3 e ≤ 1000 := fun e he => by
    obtain ⟨i, h1, h2, h3⟩ := cn_inv R e (by rw [← hs]; exact he)
    have y := (it.2 i h1 h2).2.2
    rw [h3] at y
    rw [hf3, y]
    exact hc _ h2
  have go : ∀ (n m : Nat) (x_3 : Int32) (σ3 : zSto), (∀ k j, k ≠ 204 → k ≠ 205 → ¬ (k = 200 ∧ 7 ≤ j ∧ j ≤ 10) → σ3.1 k j = σ.1 k j) → ti x_3 + 1 = (m : Int) → m ≤ s → (∀ e, m ≤ e → e ≤ s → ti (σ3.1 204 e) = rsF f2 s (s - e) ∧ ti (σ3.1 205 e) = rsF f3 s (s - e)) → StK [] σ3 → m < n → w_X6_find_47 a1 a2 P n x_3 σ3 := by
    intro n
    induction n with
    | zero => intro m x_3 σ3 _ _ _ _ _ h; omega
    | succ n ih =>
      intro m x_3 σ3 fr hm hms hr hK hn
      unfold w_X6_find_47
      refine ⟨fun q => ?_, fun q => ?_⟩
      · have c1 := lt_t q
        have m0 : m = 0 := by omega
        subst m0
        have it3 : ItS b a c o R σ3 := ItS_fr it (fr 200 6 (by omega) (by omega) (by omega)) (fun k j x y => fr k j (by omega) (by omega) (by omega))
        have rs3 : RsS b a c o R σ3 := fun i hi => by
          have cm := cnF_mono (W := fun j => b (o + j)) (R - i) i
          rw [show i + (R - i) = R by omega] at cm
          have y := hr (cnF (fun i => b (o + i)) i) (Nat.zero_le _) (by omega)
          rw [y.1, y.2, hs]
          refine ⟨rs_sG (g := f2) (fun q hq hb => ?_) (R - i) i (by omega), rs_sG (g := f3) (fun q hq hb => ?_) (R - i) i (by omega)⟩
          · rw [hf2]; exact (it.2 q hq hb).2.1
          · rw [hf3]; exact (it.2 q hq hb).2.2
        refine f_X6_search ha hc hR it3 rs3 R 0 18 (0 : Int32) a1 a2 (0 : Int32) σ3 [] _ (by omega) (fun _ _ _ => rfl) (by rw [l0]; rfl) (by rw [← hs]; show s - 0 < 18; omega) hK ?_ (fun σ10 f10 K10 => ?_)
        · have : 2 ^ R ≤ 2 ^ 15 := Nat.pow_le_pow_right (by decide) hR.1
          show 0 + 2 ^ R ≤ _
          omega
        · rw [List.nil_append, Nat.add_zero] at K10
          exact hP σ10 (fun k j x y z => by rw [f10 k j z, fr k j x y z]) K10
      · have c1 := nlt_t q
        have tx := tadd (x := x_3) (y := (1 : Int32)) (by omega)
        have ty := tadd (x := x_3) (y := (-1 : Int32)) (by omega)
        have tn := tn_eq x_3
        have tn' := tn_eq (x_3 + (1 : Int32))
        obtain ⟨m', hm'⟩ : ∃ m', m = m' + 1 := ⟨m - 1, by omega⟩
        subst hm'
        have y := hr (m' + 1) (by omega) hms
        have e1 : s - m' = (s - (m' + 1)) + 1 := by omega
        have g2 : rsF f2 s (s - m') = rsF f2 s (s - (m' + 1)) + f2 m' := by
          rw [e1]
          show rsF f2 s (s - (m' + 1)) + f2 (s - (s - (m' + 1) + 1)) = _
          rw [show s - (s - (m' + 1) + 1) = m' by omega]
        have g3 : rsF f3 s (s - m') = rsF f3 s (s - (m' + 1)) + f3 m' := by
          rw [e1]
          show rsF f3 s (s - (m' + 1)) + f3 (s - (s - (m' + 1) + 1)) = _
          rw [show s - (s - (m' + 1) + 1) = m' by omega]
        have b2 := rs_rg r2 (s - (m' + 1)) (by omega)
        have b3 := rs_rg r3 (s - (m' + 1)) (by omega)
        have d2 := r2 m' (by omega)
        have d3 := r3 m' (by omega)
        have v2 : ti (σ3.1 202 m') = f2 m' := by rw [hf2, fr 202 m' (by omega) (by omega) (by omega)]
        have v3 : ti (σ3.1 203 m') = f3 m' := by rw [hf3, fr 203 m' (by omega) (by omega) (by omega)]
        rw [show x_3.toNatClampNeg = m' by omega, show (x_3 + (1 : Int32)).toNatClampNeg = m' + 1 by omega]
        refine ⟨vin (by omega), vin (by omega), vin (by omega), fun σ14 e14 => ⟨vin (by omega), vin (by omega), vin (by omega), fun σ18 e18 x19 e19 => ?_⟩⟩
        have f := eq_t e19
        rw [zI_q' e14 (by omega), zI_q' e14 (by omega)] at e18
        have ta := tadd (x := σ3.1 204 (m' + 1)) (y := σ3.1 202 m') (by omega)
        have tb := tadd (x := σ3.1 205 (m' + 1)) (y := σ3.1 203 m') (by omega)
        refine ih m' x19 σ18 (fun k j x y z => by rw [zI_q' e18 (by omega), zI_q' e14 (by omega), fr k j x y z]) (by omega) (by omega) (fun e h1 h2 => ?_) ?_ (by omega)
        · by_cases d : e = m'
          · subst d
            refine ⟨?_, ?_⟩
            · rw [zI_q' e18 (by omega), e14, zI_s, ta, y.1, v2, g2]
            · rw [e18, zI_s, tb, y.2, v3, g3]
          · rw [zI_q' e18 (by omega), zI_q' e14 (by omega), zI_q' e18 (by omega), zI_q' e14 (by omega)]
            exact hr e (by omega) h2
        · obtain ⟨k1, k2, k3, k4⟩ := hK
          refine ⟨by rw [zI_q' e18 (by omega), zI_q' e14 (by omega)]; exact k1, fun j hj => by rw [zI_q' e18 (by omega), zI_q' e14 (by omega)]; exact k2 j hj, fun j hj => by rw [zI_q' e18 (by omega), zI_q' e14 (by omega)]; exact k3 j hj, fun z => absurd rfl z⟩
  unfold w_X6_find
  intro σ1 e1 σ2 e2 σ3 e3 σ4 e4
  have g4 : σ4.1 200 6 = σ.1 200 6 := by rw [zI_q' e4 (by omega), zI_q' e3 (by omega), zI_q' e2 (by omega), zI_q' e1 (by omega)]
  have t6 : ti (σ.1 200 6) = (s : Int) := by rw [it.1, hs]
  have tn := tn_eq (σ.1 200 6)
  rw [g4, show (σ.1 200 6).toNatClampNeg = s by omega]
  refine ⟨vin (by omega), fun σ6 e6 => ?_⟩
  have g6 : σ6.1 200 6 = σ.1 200 6 := by rw [zI_q' e6 (by omega), g4]
  rw [g6, show (σ.1 200 6).toNatClampNeg = s by omega]
  refine ⟨vin (by omega), fun σ8 e8 x9 e9 => ?_⟩
  have g8 : σ8.1 200 6 = σ.1 200 6 := by rw [zI_q' e8 (by omega), g6]
  rw [g8] at e9
  have ts := tsub (x := σ.1 200 6) (y := (1 : Int32)) (by omega)
  have f9 := eq_t e9
  have fr8 : ∀ k j, k ≠ 204 → k ≠ 205 → ¬ (k = 200 ∧ 7 ≤ j ∧ j ≤ 10) → σ8.1 k j = σ.1 k j := fun k j x y z => by rw [zI_q' e8 (by omega), zI_q' e6 (by omega), zI_q' e4 (by omega), zI_q' e3 (by omega), zI_q' e2 (by omega), zI_q' e1 (by omega)]
  refine ⟨100, go 100 s x9 σ8 fr8 (by omega) (Nat.le_refl s) (fun e h1 h2 => ?_) ⟨?_, fun j hj => ?_, fun j hj => ?_, fun z => absurd rfl z⟩ (by omega)⟩
  · have ee : e = s := by omega
    rw [ee, Nat.sub_self]
    refine ⟨?_, ?_⟩
    · rw [zI_q' e8 (by omega), e6, zI_s, l0]
      rfl
    · rw [e8, zI_s, l0]
      rfl
  · rw [zI_q' e8 (by omega), zI_q' e6 (by omega), zI_q' e4 (by omega), zI_q' e3 (by omega), zI_q' e2 (by omega), e1, zI_s]
    rfl
  · rw [zI_q' e8 (by omega), zI_q' e6 (by omega), zI_q' e4 (by omega), zI_q' e3 (by omega), e2, zI_s, bt_m1 hj]
    exact ⟨fun _ x hx => absurd hx (List.not_mem_nil), fun _ => rfl⟩
  · rw [zI_q' e8 (by omega), zI_q' e6 (by omega), zI_q' e4 (by omega), e3, zI_s, bt_z]
    exact ⟨fun z => absurd z (by decide), fun ⟨x, hx, _⟩ => absurd hx (List.not_mem_nil)⟩
/-! the reference: sums of a set -/
theorem f_X10_poundsOf {l R N : Nat} {G cs pd : Nat → Int32} {σ : zSto} (X : RfX l R N G cs pd σ) {a : Nat → Int} (ha : ∀ p, p < N - 1 → ti (pd p) = a p ∧ 0 ≤ a p ∧ a p ≤ 1000) (a1 : Int32) {k : Nat} (h1 : a1 = Int32.ofNat k) (hk : k < 2147483648) {P : Int32 → zSto → Prop} (hP : ∀ r, ti r = sF a (N - 1) 0 k → P r σ) : w_X10_poundsOf a1 σ P := by
  have l1 := lit_1
  have N16 := X.2.2.2.2.2.2.1
  have h25 := X.2.2.2.1
  have go : ∀ (n i : Nat) (x_2 x_3 : Int32), ti x_3 = (i : Int) → i ≤ N - 1 → ti x_2 + sF a (N - 1 - i) i (k / 2 ^ i) = sF a (N - 1) 0 k → (0 ≤ ti x_2 ∧ ti x_2 ≤ 1000 * (i : Int)) → N - 1 - i < n → w_X10_poundsOf_4 a1 P n x_2 x_3 σ := by
    intro n
    induction n with
    | zero => intro i x_2 x_3 _ _ _ _ h; omega
    | succ n ih =>
      intro i x_2 x_3 hi hiN h2 hr hn
      unfold w_X10_poundsOf_4
      refine ⟨fun q => ?_, fun q => ?_⟩
      · have c := le_t q
        have e : i = N - 1 := by omega
        subst e
        rw [Nat.sub_self] at h2
        have h2' : ti x_2 + 0 = sF a (N - 1) 0 k := h2
        exact hP x_2 (by omega)
      · have c := nle_t q
        have tx := tadd (x := x_3) (y := (1 : Int32)) (by omega)
        have tn := tn_eq x_3
        have w := ha i (by omega)
        have em : N - 1 - i = (N - 1 - (i + 1)) + 1 := by omega
        rw [em] at h2
        have h2' : ti x_2 + ((if k / 2 ^ i % 2 = 0 then 0 else a i) + sF a (N - 1 - (i + 1)) (i + 1) (k / 2 ^ i / 2)) = sF a (N - 1) 0 k := h2
        rw [show k / 2 ^ i / 2 = k / 2 ^ (i + 1) from (Nat.div_div_eq_div_mul k (2 ^ i) 2).trans (congrArg (k / ·) (Nat.pow_succ 2 i).symm)] at h2'
        refine f_X10_has a1 x_3 hi (by omega) (fun r2 z2 => fun _ => ⟨fun q2 x3 e3 x4 e4 => ?_, fun q2 => ?_⟩)
        · have f := eq_t e4
          have nb : k / 2 ^ i % 2 = 0 := by
            have y : ¬ bt a1 i = true := fun y => z2.mpr y q2
            rw [h1, bt_nat hk (by omega)] at y
            have y2 : ¬ k / 2 ^ i % 2 = 1 := fun z => y (decide_eq_true z)
            omega
          rw [if_pos nb] at h2'
          rw [Int32.add_zero] at e3
          have f3 := eq_t e3
          exact ih (i + 1) x3 x4 (by omega) (by omega) (by omega) (by omega) (by omega)
        · have nb : ¬ k / 2 ^ i % 2 = 0 := by
            have y := z2.mp q2
            rw [h1, bt_nat hk (by omega)] at y
            have y2 := of_decide_eq_true y
            omega
          rw [if_neg nb] at h2'
          rw [show x_3.toNatClampNeg = i by omega, (X.2.2.2.2.2.2.2.2.2 i (by omega)).2.1]
          refine ⟨vin (by omega), fun x6 e6 x7 e7 => ?_⟩
          have f := eq_t e7
          have ta := tadd (x := x_2) (y := pd i) (by omega)
          have f6 := eq_t e6
          exact ih (i + 1) x6 x7 (by omega) (by omega) (by omega) (by omega) (by omega)
  exact ⟨100, go 100 0 (0 : Int32) (0 : Int32) lit_0 (by omega) (by rw [lit_0, Nat.pow_zero, Nat.div_one, Nat.sub_zero]; omega) (by rw [lit_0]; omega) (by omega)⟩
theorem f_X10_costsOf {l R N : Nat} {G cs pd : Nat → Int32} {σ : zSto} (X : RfX l R N G cs pd σ) {a : Nat → Int} (ha : ∀ p, p < N - 1 → ti (cs p) = a p ∧ 0 ≤ a p ∧ a p ≤ 1000) (a1 : Int32) {k : Nat} (h1 : a1 = Int32.ofNat k) (hk : k < 2147483648) {P : Int32 → zSto → Prop} (hP : ∀ r, ti r = sF a (N - 1) 0 k → P r σ) : w_X10_costsOf a1 σ P := by
  have l1 := lit_1
  have N16 := X.2.2.2.2.2.2.1
  have h25 := X.2.2.2.1
  have go : ∀ (n i : Nat) (x_2 x_3 : Int32), ti x_3 = (i : Int) → i ≤ N - 1 → ti x_2 + sF a (N - 1 - i) i (k / 2 ^ i) = sF a (N - 1) 0 k → (0 ≤ ti x_2 ∧ ti x_2 ≤ 1000 * (i : Int)) → N - 1 - i < n → w_X10_costsOf_4 a1 P n x_2 x_3 σ := by
    intro n
    induction n with
    | zero => intro i x_2 x_3 _ _ _ _ h; omega
    | succ n ih =>
      intro i x_2 x_3 hi hiN h2 hr hn
      unfold w_X10_costsOf_4
      refine ⟨fun q => ?_, fun q => ?_⟩
      · have c := le_t q
        have e : i = N - 1 := by omega
        subst e
        rw [Nat.sub_self] at h2
        have h2' : ti x_2 + 0 = sF a (N - 1) 0 k := h2
        exact hP x_2 (by omega)
      · have c := nle_t q
        have tx := tadd (x := x_3) (y := (1 : Int32)) (by omega)
        have tn := tn_eq x_3
        have w := ha i (by omega)
        have em : N - 1 - i = (N - 1 - (i + 1)) + 1 := by omega
        rw [em] at h2
        have h2' : ti x_2 + ((if k / 2 ^ i % 2 = 0 then 0 else a i) + sF a (N - 1 - (i + 1)) (i + 1) (k / 2 ^ i / 2)) = sF a (N - 1) 0 k := h2
        rw [show k / 2 ^ i / 2 = k / 2 ^ (i + 1) from (Nat.div_div_eq_div_mul k (2 ^ i) 2).trans (congrArg (k / ·) (Nat.pow_succ 2 i).symm)] at h2'
        refine f_X10_has a1 x_3 hi (by omega) (fun r2 z2 => fun _ => ⟨fun q2 x3 e3 x4 e4 => ?_, fun q2 => ?_⟩)
        · have f := eq_t e4
          have nb : k / 2 ^ i % 2 = 0 := by
            have y : ¬ bt a1 i = true := fun y => z2.mpr y q2
            rw [h1, bt_nat hk (by omega)] at y
            have y2 : ¬ k / 2 ^ i % 2 = 1 := fun z => y (decide_eq_true z)
            omega
          rw [if_pos nb] at h2'
          rw [Int32.add_zero] at e3
          have f3 := eq_t e3
          exact ih (i + 1) x3 x4 (by omega) (by omega) (by omega) (by omega) (by omega)
        · have nb : ¬ k / 2 ^ i % 2 = 0 := by
            have y := z2.mp q2
            rw [h1, bt_nat hk (by omega)] at y
            have y2 := of_decide_eq_true y
            omega
          rw [if_neg nb] at h2'
          rw [show x_3.toNatClampNeg = i by omega, (X.2.2.2.2.2.2.2.2.2 i (by omega)).1]
          refine ⟨vin (by omega), fun x6 e6 x7 e7 => ?_⟩
          have f := eq_t e7
          have ta := tadd (x := x_2) (y := cs i) (by omega)
          have f6 := eq_t e6
          exact ih (i + 1) x6 x7 (by omega) (by omega) (by omega) (by omega) (by omega)
  exact ⟨100, go 100 0 (0 : Int32) (0 : Int32) lit_0 (by omega) (by rw [lit_0, Nat.pow_zero, Nat.div_one, Nat.sub_zero]; omega) (by rw [lit_0]; omega) (by omega)⟩
theorem f_X10_bearing {l R N : Nat} {G cs pd : Nat → Int32} {σ : zSto} (X : RfX l R N G cs pd σ) {b : Nat → Bool} (hb : ∀ p, p < N - 1 → (b p = true ↔ ¬ pd p ≤ 0)) {P : Int32 → zSto → Prop} (hP : ∀ x, (∀ j, j < 32 → bt x j = (decide (j < N - 1) && b j)) → P x σ) : w_X10_bearing σ P := by
  have l1 := lit_1
  have N16 := X.2.2.2.2.2.2.1
  have h25 := X.2.2.2.1
  have go : ∀ (n i : Nat) (x_1 x_2 : Int32), ti x_2 = (i : Int) → i ≤ N - 1 → x_1 = rkF b i → N - 1 - i < n → w_X10_bearing_4 P n x_1 x_2 σ := by
    intro n
    induction n with
    | zero => intro i x_1 x_2 _ _ _ h; omega
    | succ n ih =>
      intro i x_1 x_2 hi hiN h1 hn
      unfold w_X10_bearing_4
      refine ⟨fun q => ?_, fun q => ?_⟩
      · have c := le_t q
        have e : i = N - 1 := by omega
        subst e
        refine hP x_1 (fun j hj => ?_)
        rw [h1, rk_bt (N - 1) (by omega) j hj]
      · have c := nle_t q
        have tx := tadd (x := x_2) (y := (1 : Int32)) (by omega)
        have tn := tn_eq x_2
        have e2 := nI_x hi (by omega)
        have w := hb i (by omega)
        rw [show x_2.toNatClampNeg = i by omega, (X.2.2.2.2.2.2.2.2.2 i (by omega)).2.1]
        refine ⟨vin (by omega), fun k x2 e2' x3 e3 => ?_, fun k x4 e4 x5 e5 => ?_⟩
        · have f := eq_t e3
          refine ih (i + 1) x2 x3 (by omega) (by omega) ?_ (by omega)
          rw [e2', h1]
          show _ = rkF b i ||| (if b i = true then (1 : Int32) <<< (Int32.ofNat i &&& 31) else 0)
          rw [if_neg (fun z => w.mp z k)]
        · have f := eq_t e5
          refine ih (i + 1) x4 x5 (by omega) (by omega) ?_ (by omega)
          rw [e4, h1, e2]
          show _ = rkF b i ||| (if b i = true then (1 : Int32) <<< (Int32.ofNat i &&& 31) else 0)
          rw [if_pos (w.mpr k)]
  exact ⟨100, go 100 0 (0 : Int32) (0 : Int32) lit_0 (by omega) rfl (by omega)⟩
