/-! feed and end, just -/
theorem zI_q' {σ σ2 : zSto} {k k' j j' : Nat} {v : Int32} (e : σ2 = zI σ k j v) (h : k' ≠ k ∨ j' ≠ j) : σ2.1 k' j' = σ.1 k' j' := by subst e; exact zI_q h
set_option maxHeartbeats 4000000 in
theorem e_X8_append_3 {A : Nat → Nat → Prop} {F : Nat → Nat → Int32} {w : Nat} (pn : okN A) (x_1 : Int32) {L : Int} (hL : L ≤ 600) {P : zSto → Prop} (hP : ∀ σ2, zInv A F w σ2 → ti (σ2.1 1 5) = L → P σ2) : ∀ (n m : Nat) (x_2 : Int32) (σ : zSto), zInv A F w σ → ti x_2 = 8 * (m : Int) - 8 → ti (σ.1 1 5) + m = L → m ≤ 4 → m < n → w_X8_append_3 1 x_1 P n x_2 σ := by
  have l0 := lit_0
  have l1 := lit_1
  have l8 := lit_m8
  have l600 := lit_600
  intro n
  induction n with
  | zero => intro m x_2 σ I h1 h2 h4 h3; exfalso; omega
  | succ n ih =>
    intro m x_2 σ I h1 h2 h4 h3
    unfold w_X8_append_3
    have d : 0 ≤ ti (σ.1 1 5) ∧ ti (σ.1 1 5) ≤ 600 := rdr I kd_1 rfl rfl
    refine ⟨fun q => hP σ I (by have := lt_t q; omega), fun q => ⟨fun q2 => ?_, fun q2 => ?_⟩⟩
    · have c := nlt_t q
      have c2 := le_t q2
      exfalso
      omega
    · have c := nlt_t q
      have c2 := nle_t q2
      refine ⟨vin (by omega), fun σ2 e2 σ3 e3 x4 e4 => ?_⟩
      have I2 : zInv A F w σ2 := by rw [e2]; exact wIr (a := -128) (b := 127) I (pN pn (by decide)) (rl0 rk_2) kd_2 rfl rfl (nar_b _)
      have f2 : ti (σ2.1 1 5) = ti (σ.1 1 5) := congrArg ti (zI_q' e2 (Or.inl (by decide)))
      have t2 := tadd (x := σ2.1 1 5) (y := (1 : Int32)) (by omega)
      have I3 : zInv A F w σ3 := by rw [e3]; exact wIr (a := 0) (b := 600) I2 (pN pn (by decide)) (rl0 rk_1) kd_1 rfl rfl (by omega)
      have f3 : ti (σ3.1 1 5) = ti (σ.1 1 5) + 1 := by rw [e3, zI_s]; omega
      have t4 := tadd (x := x_2) (y := (-8 : Int32)) (by omega)
      have t5 := eq_t e4
      exact ih (m - 1) x4 σ3 I3 (by omega) (by omega) (by omega) (by omega)
theorem e_X8_append {A : Nat → Nat → Prop} {F : Nat → Nat → Int32} {w : Nat} (pn : okN A) (a1 : Int32) {σ : zSto} (I : zInv A F w σ) (h : ti (σ.1 1 5) + 4 ≤ 600) {P : zSto → Prop} (hP : ∀ σ2, zInv A F w σ2 → ti (σ2.1 1 5) = ti (σ.1 1 5) + 4 → P σ2) : w_X8_append 1 a1 σ P := by
  unfold w_X8_append
  exact ⟨10, e_X8_append_3 pn a1 h hP 10 4 (24 : Int32) σ I (by rw [lit_24]; decide) (by omega) (by decide) (by decide)⟩
theorem e_X9_feed {A : Nat → Nat → Prop} {F : Nat → Nat → Int32} {w : Nat} (pn : okN A) (a1 a2 a3 a4 a5 : Int32) {σ : zSto} (I : zInv A F w σ) {P : Int32 → zSto → Prop} (h0 : 600 < ti (σ.1 1 5) + 20 → P (-1 : Int32) σ) (hP : ti (σ.1 1 5) + 20 ≤ 600 → ∀ r σ2, zInv A F w σ2 → ti (σ2.1 1 5) = ti (σ.1 1 5) + 20 → ti r = ti (σ.1 1 5) + 20 → P r σ2) : w_X9_feed a1 a2 a3 a4 a5 σ P := by
  unfold w_X9_feed
  have l20 := lit_20
  have l600 := lit_600
  have d : 0 ≤ ti (σ.1 1 5) ∧ ti (σ.1 1 5) ≤ 600 := rdr I kd_1 rfl rfl
  have t := tadd (x := σ.1 1 5) (y := (20 : Int32)) (by omega)
  refine ⟨fun q => ?_, fun q => h0 (by have := nle_t q; omega)⟩
  have c := le_t q
  refine e_X8_append pn a1 I (by omega) (fun σ1 I1 g1 => ?_)
  refine e_X8_append pn a2 I1 (by omega) (fun σ2 I2 g2 => ?_)
  refine e_X8_append pn a3 I2 (by omega) (fun σ3 I3 g3 => ?_)
  refine e_X8_append pn a4 I3 (by omega) (fun σ4 I4 g4 => ?_)
  refine e_X8_append pn a5 I4 (by omega) (fun σ5 I5 g5 => ?_)
  exact hP (by omega) _ σ5 I5 (by omega) (by omega)
theorem e_X9_end {A : Nat → Nat → Prop} {F : Nat → Nat → Int32} {w : Nat} (pn : okN A) (a1 : Int32) {σ : zSto} (I : zInv A F w σ) {P : Int32 → zSto → Prop} (h0 : ¬ (0 ≤ ti a1 ∧ ti a1 ≤ ti (σ.1 1 5)) → P (-1 : Int32) σ) (hP : (0 ≤ ti a1 ∧ ti a1 ≤ ti (σ.1 1 5)) → ∀ σ2, zInv A F w σ2 → σ2.1 1 5 = a1 → P a1 σ2) : w_X9_end a1 σ P := by
  unfold w_X9_end
  have l0 := lit_0
  have d : 0 ≤ ti (σ.1 1 5) ∧ ti (σ.1 1 5) ≤ 600 := rdr I kd_1 rfl rfl
  refine ⟨fun q => h0 (by have := lt_t q; omega), fun q => ⟨fun q2 => ?_, fun q2 => h0 (by have := nle_t q2; omega)⟩⟩
  have c := nlt_t q
  have c2 := le_t q2
  intro σ1 e1
  refine hP (by omega) σ1 (by rw [e1]; exact wIr (a := 0) (b := 600) I (pN pn (by decide)) (rl0 rk_1) kd_1 rfl rfl (by omega)) (by rw [e1, zI_s])
set_option maxHeartbeats 4000000 in
theorem e_X10_four_3 {A : Nat → Nat → Prop} {F : Nat → Nat → Int32} {w : Nat} (p4 : ∀ j, ¬ A 224 j) (p5 : ¬ A 225 0) (x_1 : Int32) {L : Int} (hL : L ≤ 600) {P : zSto → Prop} (hP : ∀ σ2, zInv A F w σ2 → ti (σ2.1 225 0) = L → P σ2) : ∀ (n m : Nat) (x_2 : Int32) (σ : zSto), zInv A F w σ → ti x_2 = 8 * (m : Int) - 8 → ti (σ.1 225 0) + m = L → m ≤ 4 → m < n → w_X10_four_3 x_1 P n x_2 σ := by
  have l0 := lit_0
  have l1 := lit_1
  have l8 := lit_m8
  intro n
  induction n with
  | zero => intro m x_2 σ I h1 h2 h4 h3; exfalso; omega
  | succ n ih =>
    intro m x_2 σ I h1 h2 h4 h3
    unfold w_X10_four_3
    have d : 0 ≤ ti (σ.1 225 0) ∧ ti (σ.1 225 0) ≤ 600 := rdr I kd_225 rfl rfl
    refine ⟨fun q => hP σ I (by have := lt_t q; omega), fun q => ?_⟩
    have c := nlt_t q
    refine ⟨vin (by omega), fun σ2 e2 σ3 e3 x4 e4 => ?_⟩
    have I2 : zInv A F w σ2 := by rw [e2]; exact wIr (a := -128) (b := 127) I (p4 _) (rl0 rk_224) kd_224 rfl rfl (nar_b _)
    have f2 : ti (σ2.1 225 0) = ti (σ.1 225 0) := congrArg ti (zI_q' e2 (Or.inl (by decide)))
    have t2 := tadd (x := σ2.1 225 0) (y := (1 : Int32)) (by omega)
    have I3 : zInv A F w σ3 := by rw [e3]; exact wIr (a := 0) (b := 600) I2 p5 (rl0 rk_225) kd_225 rfl rfl (by omega)
    have f3 : ti (σ3.1 225 0) = ti (σ.1 225 0) + 1 := by rw [e3, zI_s]; omega
    have t4 := tadd (x := x_2) (y := (-8 : Int32)) (by omega)
    have t5 := eq_t e4
    exact ih (m - 1) x4 σ3 I3 (by omega) (by omega) (by omega) (by omega)
theorem e_X10_four {A : Nat → Nat → Prop} {F : Nat → Nat → Int32} {w : Nat} (p4 : ∀ j, ¬ A 224 j) (p5 : ¬ A 225 0) (a1 : Int32) {σ : zSto} (I : zInv A F w σ) (h : ti (σ.1 225 0) + 4 ≤ 600) {P : zSto → Prop} (hP : ∀ σ2, zInv A F w σ2 → ti (σ2.1 225 0) = ti (σ.1 225 0) + 4 → P σ2) : w_X10_four a1 σ P := by
  unfold w_X10_four
  exact ⟨10, e_X10_four_3 p4 p5 a1 h hP 10 4 (24 : Int32) σ I (by rw [lit_24]; decide) (by omega) (by decide) (by decide)⟩
theorem e_X10_feed {A : Nat → Nat → Prop} {F : Nat → Nat → Int32} {w : Nat} (p3 : ¬ A 223 0) (p4 : ∀ j, ¬ A 224 j) (p5 : ¬ A 225 0) (a1 a2 a3 a4 a5 : Int32) {σ : zSto} (I : zInv A F w σ) {P : Int32 → zSto → Prop} (h0 : 600 < ti (σ.1 225 0) + 20 → ∀ σ2, zInv A F w σ2 → σ2.1 225 0 = σ.1 225 0 → P (-1 : Int32) σ2) (hP : ti (σ.1 225 0) + 20 ≤ 600 → ∀ r σ2, zInv A F w σ2 → ti (σ2.1 225 0) = ti (σ.1 225 0) + 20 → ti r = ti (σ.1 225 0) + 20 → P r σ2) : w_X10_feed a1 a2 a3 a4 a5 σ P := by
  unfold w_X10_feed
  have l20 := lit_20
  have l600 := lit_600
  intro σ1 e1
  have I1 : zInv A F w σ1 := by rw [e1]; exact wIr I p3 (by decide) kd_223 rfl rfl (full32 _)
  have g : σ1.1 225 0 = σ.1 225 0 := zI_q' e1 (Or.inl (by decide))
  have g' := eq_t g
  have d : 0 ≤ ti (σ.1 225 0) ∧ ti (σ.1 225 0) ≤ 600 := rdr I kd_225 rfl rfl
  have t := tadd (x := σ1.1 225 0) (y := (20 : Int32)) (by omega)
  refine ⟨fun q => ?_, fun q => h0 (by have := nle_t q; omega) σ1 I1 g⟩
  have c := le_t q
  refine e_X10_four p4 p5 a1 I1 (by omega) (fun σ2 I2 g2 => ?_)
  refine e_X10_four p4 p5 a2 I2 (by omega) (fun σ3 I3 g3 => ?_)
  refine e_X10_four p4 p5 a3 I3 (by omega) (fun σ4 I4 g4 => ?_)
  refine e_X10_four p4 p5 a4 I4 (by omega) (fun σ5 I5 g5 => ?_)
  refine e_X10_four p4 p5 a5 I5 (by omega) (fun σ6 I6 g6 => ?_)
  exact hP (by omega) _ σ6 I6 (by omega) (by omega)
theorem b_X10_in {σ : zSto} (a1 a2 a3 : Int32) {P : Int32 → zSto → Prop} (hP : ∀ r, (¬ r = 0 ↔ (ti a2 ≤ ti a1 ∧ ti a1 ≤ ti a3)) → P r σ) : w_X10_in a1 a2 a3 σ P := by
  unfold w_X10_in
  refine ⟨fun q => ?_, fun q => ⟨fun q2 => ?_, fun q2 => ?_⟩⟩
  all_goals refine hP _ ⟨fun h => ?_, fun h => ?_⟩
  all_goals first | (exact absurd rfl h) | (have := lt_t q; omega) | (have := nlt_t q; have := lt_t q2; omega) | (have := nlt_t q; have := nlt_t q2; omega) | decide
theorem e_X10_end {A : Nat → Nat → Prop} {F : Nat → Nat → Int32} {w : Nat} (p3 : ¬ A 223 0) (p5 : ¬ A 225 0) (a1 : Int32) {σ : zSto} (I : zInv A F w σ) {P : Int32 → zSto → Prop} (h0 : ¬ (0 ≤ ti a1 ∧ ti a1 ≤ ti (σ.1 225 0)) → ∀ σ2, zInv A F w σ2 → σ2.1 225 0 = σ.1 225 0 → P (-1 : Int32) σ2) (hP : (0 ≤ ti a1 ∧ ti a1 ≤ ti (σ.1 225 0)) → ∀ σ2, zInv A F w σ2 → σ2.1 225 0 = a1 → P a1 σ2) : w_X10_end a1 σ P := by
  unfold w_X10_end
  have l0 := lit_0
  intro σ1 e1
  have I1 : zInv A F w σ1 := by rw [e1]; exact wIr I p3 (by decide) kd_223 rfl rfl (full32 _)
  have g : σ1.1 225 0 = σ.1 225 0 := zI_q' e1 (Or.inl (by decide))
  have d : 0 ≤ ti (σ.1 225 0) ∧ ti (σ.1 225 0) ≤ 600 := rdr I kd_225 rfl rfl
  refine b_X10_in a1 (0 : Int32) (σ1.1 225 0) (fun r z => ?_)
  intro b
  rw [g] at z
  refine ⟨fun q σ4 e4 => ?_, fun q => h0 (fun h => ?_) σ1 I1 g⟩
  · have hz := z.mp q
    refine hP (by omega) σ4 (by rw [e4]; exact wIr (a := 0) (b := 600) I1 p5 (rl0 rk_225) kd_225 rfl rfl (by omega)) (by rw [e4, zI_s])
  · exact z.mpr (by omega) q
/-! the reference's images -/
/-- a piece of a row copied within the row -/
def cpr (c a b N : Nat) (σ σ2 : zSto) : Prop := ∀ q j, σ2.1 q j = if q = c ∧ b ≤ j ∧ j < b + N then σ.1 c (a + (j - b)) else σ.1 q j
set_option maxHeartbeats 4000000 in
theorem f_copyRow_3 (c M N a b : Nat) (x1 x2 x3 : Int32) (e1 : ti x1 = N) (ea : ti (x1 * x2) = a) (eb : ti (x1 * x3) = b) (hM : M ≤ 1000) (ha : a + N ≤ M) (hb : b + N ≤ M) (hd : a + N ≤ b ∨ b + N ≤ a) {σ0 : zSto} {P : zSto → Prop} (hP : ∀ σ2, cpr c a b N σ0 σ2 → P σ2) : ∀ (n k : Nat) (x_4 : Int32) (σ : zSto), ti x_4 = k → k ≤ N → cpr c a b k σ0 σ → N - k < n → w_X10_copyRow_3 c M x1 x2 x3 P n x_4 σ := by
  have l1 := lit_1
  intro n
  induction n with
  | zero => intro k x_4 σ h1 h2 h3 h4; exfalso; omega
  | succ n ih =>
    intro k x_4 σ h1 h2 h3 h4
    unfold w_X10_copyRow_3
    refine ⟨fun q => ?_, fun q => ?_⟩
    · have c1 := le_t q
      have : k = N := by omega
      subst this
      exact hP σ h3
    · have c1 := nle_t q
      have ta := tadd (x := x1 * x2) (y := x_4) (by omega)
      have tb := tadd (x := x1 * x3) (y := x_4) (by omega)
      have na := tn_eq (x1 * x2 + x_4)
      have nb := tn_eq (x1 * x3 + x_4)
      refine ⟨vin (by omega), vin (by omega), fun σ3 e3 x4 e4 => ?_⟩
      have t4 := tadd (x := x_4) (y := (1 : Int32)) (by omega)
      have t5 := eq_t e4
      rw [show (x1 * x3 + x_4).toNatClampNeg = b + k by omega, show (x1 * x2 + x_4).toNatClampNeg = a + k by omega] at e3
      refine ih (k + 1) x4 σ3 (by omega) (by omega) (fun q' j => ?_) (by omega)
      have s1 : σ.1 c (a + k) = σ0.1 c (a + k) := by rw [h3 c (a + k), if_neg (by omega)]
      by_cases c2 : q' = c ∧ j = b + k
      · obtain ⟨u1, u2⟩ := c2
        subst u1
        subst u2
        rw [e3, zI_s, if_pos (by omega), s1, show a + (b + k - b) = a + k by omega]
      · rw [e3, zI_q (by omega), h3 q' j]
        by_cases c3 : q' = c ∧ b ≤ j ∧ j < b + k
        · rw [if_pos c3, if_pos (by omega)]
        · rw [if_neg c3, if_neg (by omega)]
theorem f_copyRow (c M N a b : Nat) (x1 x2 x3 : Int32) (e1 : ti x1 = N) (ea : ti (x1 * x2) = a) (eb : ti (x1 * x3) = b) (hM : M ≤ 1000) (ha : a + N ≤ M) (hb : b + N ≤ M) (hd : a + N ≤ b ∨ b + N ≤ a) {σ : zSto} {P : zSto → Prop} (hP : ∀ σ2, cpr c a b N σ σ2 → P σ2) : w_X10_copyRow c M x1 x2 x3 σ P := by
  unfold w_X10_copyRow
  exact ⟨2000, f_copyRow_3 c M N a b x1 x2 x3 e1 ea eb hM ha hb hd hP 2000 0 (0 : Int32) σ (by rw [lit_0]; rfl) (by omega) (fun q j => by rw [if_neg (by omega)]) (by omega)⟩
theorem nar_id {v : Int32} (h : -128 ≤ ti v ∧ ti v ≤ 127) : vp_nar .byte v = v := by
  rw [ti_eq] at h
  apply Int32.toInt_inj.mp
  show (v.toInt8.toInt32).toInt = v.toInt
  rw [Int8.toInt_toInt32, Int32.toInt_toInt8]
  exact Int.bmod_eq_of_le (by omega) (by omega)
/-- how wide a piece of each row is -/
def Wd (q : Nat) : Nat := if q = 224 then 600 else if q = 228 then 3 else if q = 229 then 246 else if q = 230 then 66 else if q = 231 then 42 else 1
def cpa (f t : Nat) (σ σ2 : zSto) : Prop := ∀ q j, σ2.1 q j = if (224 ≤ q ∧ q ≤ 231) ∧ Wd q * t ≤ j ∧ j < Wd q * t + Wd q then σ.1 q (Wd q * f + (j - Wd q * t)) else σ.1 q j
theorem cpr_o {c a b N : Nat} {σ σ2 : zSto} (h : cpr c a b N σ σ2) {q : Nat} (hq : q ≠ c) (j : Nat) : σ2.1 q j = σ.1 q j := by rw [h q j, if_neg (by omega)]
theorem mul_t {x y : Int32} {N f : Nat} (h1 : ti x = N) (h2 : ti y = f) (hN : N ≤ 600) (hf : f ≤ 3) : ti (x * y) = ((N * f : Nat) : Int) := by
  have : N * f ≤ 600 * 3 := Nat.mul_le_mul hN hf
  have e : ti x * ti y = ((N * f : Nat) : Int) := by rw [h1, h2]; simp
  rw [tmul (by rw [e]; omega), e]
set_option maxHeartbeats 4000000 in
theorem f_copyAll_2 (f t : Nat) (hf : f ≤ 3) (ht : t ≤ 3) (hne : f ≠ t) (x1 x2 : Int32) (e1 : ti x1 = f) (e2 : ti x2 = t) {σ0 : zSto} (hb : ∀ j, -128 ≤ ti (σ0.1 224 j) ∧ ti (σ0.1 224 j) ≤ 127) {P : zSto → Prop} (hP : ∀ σ2, cpa f t σ0 σ2 → P σ2) : ∀ (n k : Nat) (x_3 : Int32) (σ : zSto), ti x_3 = k → k ≤ 600 → cpr 224 (600 * f) (600 * t) k σ0 σ → 600 - k < n → w_X10_copyAll_2 x1 x2 P n x_3 σ := by
  have l1 := lit_1
  have l3 := lit_3
  have l600 := lit_600
  have l246 := lit_246
  have l66 := lit_66
  have l42 := lit_42
  have hd : ∀ N : Nat, N * f + N ≤ N * t ∨ N * t + N ≤ N * f := by
    intro N
    rcases Nat.lt_or_ge f t with h | h
    · left
      have := Nat.mul_le_mul_left N (show f + 1 ≤ t from h)
      rw [Nat.mul_add] at this
      omega
    · right
      have := Nat.mul_le_mul_left N (show t + 1 ≤ f by omega)
      rw [Nat.mul_add] at this
      omega
  intro n
  induction n with
  | zero => intro k x_3 σ h1 h2 h3 h4; exfalso; omega
  | succ n ih =>
    intro k x_3 σ h1 h2 h3 h4
    unfold w_X10_copyAll_2
    refine ⟨fun q => ?_, fun q => ?_⟩
    · have c1 := le_t q
      have : k = 600 := by omega
      subst this
      refine f_copyRow 225 4 1 (1 * f) (1 * t) _ _ _ l1 (mul_t l1 e1 (by decide) hf) (mul_t l1 e2 (by decide) ht) (by decide) (by omega) (by omega) (by omega) (fun σ1 g1 => ?_)
      refine f_copyRow 226 4 1 (1 * f) (1 * t) _ _ _ l1 (mul_t l1 e1 (by decide) hf) (mul_t l1 e2 (by decide) ht) (by decide) (by omega) (by omega) (by omega) (fun σ2 g2 => ?_)
      refine f_copyRow 227 4 1 (1 * f) (1 * t) _ _ _ l1 (mul_t l1 e1 (by decide) hf) (mul_t l1 e2 (by decide) ht) (by decide) (by omega) (by omega) (by omega) (fun σ3 g3 => ?_)
      refine f_copyRow 228 12 3 (3 * f) (3 * t) _ _ _ l3 (mul_t l3 e1 (by decide) hf) (mul_t l3 e2 (by decide) ht) (by decide) (by omega) (by omega) (hd 3) (fun σ4 g4 => ?_)
      refine f_copyRow 229 984 246 (246 * f) (246 * t) _ _ _ l246 (mul_t l246 e1 (by decide) hf) (mul_t l246 e2 (by decide) ht) (by decide) (by omega) (by omega) (hd 246) (fun σ5 g5 => ?_)
      refine f_copyRow 230 264 66 (66 * f) (66 * t) _ _ _ l66 (mul_t l66 e1 (by decide) hf) (mul_t l66 e2 (by decide) ht) (by decide) (by omega) (by omega) (hd 66) (fun σ6 g6 => ?_)
      refine f_copyRow 231 168 42 (42 * f) (42 * t) _ _ _ l42 (mul_t l42 e1 (by decide) hf) (mul_t l42 e2 (by decide) ht) (by decide) (by omega) (by omega) (hd 42) (fun σ7 g7 => ?_)
      refine hP σ7 (fun q' j => ?_)
      by_cases c4 : q' = 224
      · subst c4
        rw [cpr_o g7 (by decide), cpr_o g6 (by decide), cpr_o g5 (by decide), cpr_o g4 (by decide), cpr_o g3 (by decide), cpr_o g2 (by decide), cpr_o g1 (by decide), h3 224 j]
        simp [Wd]
      · by_cases c5 : q' = 225
        · subst c5
          rw [cpr_o g7 (by decide), cpr_o g6 (by decide), cpr_o g5 (by decide), cpr_o g4 (by decide), cpr_o g3 (by decide), cpr_o g2 (by decide), g1 225 j, cpr_o h3 (by decide), cpr_o h3 (by decide)]
          simp [Wd]
        · by_cases c6 : q' = 226
          · subst c6
            rw [cpr_o g7 (by decide), cpr_o g6 (by decide), cpr_o g5 (by decide), cpr_o g4 (by decide), cpr_o g3 (by decide), g2 226 j, cpr_o g1 (by decide), cpr_o g1 (by decide), cpr_o h3 (by decide), cpr_o h3 (by decide)]
            simp [Wd]
          · by_cases c7 : q' = 227
            · subst c7
              rw [cpr_o g7 (by decide), cpr_o g6 (by decide), cpr_o g5 (by decide), cpr_o g4 (by decide), g3 227 j, cpr_o g2 (by decide), cpr_o g2 (by decide), cpr_o g1 (by decide), cpr_o g1 (by decide), cpr_o h3 (by decide), cpr_o h3 (by decide)]
              simp [Wd]
            · by_cases c8 : q' = 228
              · subst c8
                rw [cpr_o g7 (by decide), cpr_o g6 (by decide), cpr_o g5 (by decide), g4 228 j, cpr_o g3 (by decide), cpr_o g3 (by decide), cpr_o g2 (by decide), cpr_o g2 (by decide), cpr_o g1 (by decide), cpr_o g1 (by decide), cpr_o h3 (by decide), cpr_o h3 (by decide)]
                simp [Wd]
              · by_cases c9 : q' = 229
                · subst c9
                  rw [cpr_o g7 (by decide), cpr_o g6 (by decide), g5 229 j, cpr_o g4 (by decide), cpr_o g4 (by decide), cpr_o g3 (by decide), cpr_o g3 (by decide), cpr_o g2 (by decide), cpr_o g2 (by decide), cpr_o g1 (by decide), cpr_o g1 (by decide), cpr_o h3 (by decide), cpr_o h3 (by decide)]
                  simp [Wd]
                · by_cases c10 : q' = 230
                  · subst c10
                    rw [cpr_o g7 (by decide), g6 230 j, cpr_o g5 (by decide), cpr_o g5 (by decide), cpr_o g4 (by decide), cpr_o g4 (by decide), cpr_o g3 (by decide), cpr_o g3 (by decide), cpr_o g2 (by decide), cpr_o g2 (by decide), cpr_o g1 (by decide), cpr_o g1 (by decide), cpr_o h3 (by decide), cpr_o h3 (by decide)]
                    simp [Wd]
                  · by_cases c11 : q' = 231
                    · subst c11
                      rw [g7 231 j, cpr_o g6 (by decide), cpr_o g6 (by decide), cpr_o g5 (by decide), cpr_o g5 (by decide), cpr_o g4 (by decide), cpr_o g4 (by decide), cpr_o g3 (by decide), cpr_o g3 (by decide), cpr_o g2 (by decide), cpr_o g2 (by decide), cpr_o g1 (by decide), cpr_o g1 (by decide), cpr_o h3 (by decide), cpr_o h3 (by decide)]
                      simp [Wd]
                    · rw [cpr_o g7 c11, cpr_o g6 c10, cpr_o g5 c9, cpr_o g4 c8, cpr_o g3 c7, cpr_o g2 c6, cpr_o g1 c5, cpr_o h3 c4, if_neg (by omega)]
    · have c1 := nle_t q
      have m1 : ti ((600 : Int32) * x1) = ((600 * f : Nat) : Int) := mul_t l600 e1 (by decide) hf
      have m2 : ti ((600 : Int32) * x2) = ((600 * t : Nat) : Int) := mul_t l600 e2 (by decide) ht
      have h600 := hd 600
      have ta := tadd (x := (600 : Int32) * x1) (y := x_3) (by omega)
      have tb := tadd (x := (600 : Int32) * x2) (y := x_3) (by omega)
      have na := tn_eq ((600 : Int32) * x1 + x_3)
      have nb := tn_eq ((600 : Int32) * x2 + x_3)
      refine ⟨vin (by omega), vin (by omega), fun σ3 e3 x4 e4 => ?_⟩
      have t4 := tadd (x := x_3) (y := (1 : Int32)) (by omega)
      have t5 := eq_t e4
      rw [show ((600 : Int32) * x2 + x_3).toNatClampNeg = 600 * t + k by omega, show ((600 : Int32) * x1 + x_3).toNatClampNeg = 600 * f + k by omega] at e3
      have s1 : σ.1 224 (600 * f + k) = σ0.1 224 (600 * f + k) := by rw [h3 224 (600 * f + k), if_neg (by omega)]
      rw [s1, nar_id (hb _)] at e3
      refine ih (k + 1) x4 σ3 (by omega) (by omega) (fun q' j => ?_) (by omega)
      by_cases c2 : q' = 224 ∧ j = 600 * t + k
      · obtain ⟨u1, u2⟩ := c2
        subst u1
        subst u2
        rw [e3, zI_s, if_pos (by omega), show 600 * f + (600 * t + k - 600 * t) = 600 * f + k by omega]
      · rw [e3, zI_q (by omega), h3 q' j]
        by_cases c3 : q' = 224 ∧ 600 * t ≤ j ∧ j < 600 * t + k
        · rw [if_pos c3, if_pos (by omega)]
        · rw [if_neg c3, if_neg (by omega)]
theorem f_copyAll (f t : Nat) (hf : f ≤ 3) (ht : t ≤ 3) (hne : f ≠ t) (x1 x2 : Int32) (e1 : ti x1 = f) (e2 : ti x2 = t) {σ : zSto} (hb : ∀ j, -128 ≤ ti (σ.1 224 j) ∧ ti (σ.1 224 j) ≤ 127) {P : zSto → Prop} (hP : ∀ σ2, cpa f t σ σ2 → P σ2) : w_X10_copyAll x1 x2 σ P := by
  unfold w_X10_copyAll
  exact ⟨2000, f_copyAll_2 f t hf ht hne x1 x2 e1 e2 hb hP 2000 0 (0 : Int32) σ (by rw [lit_0]; rfl) (by omega) (fun q j => by rw [if_neg (by omega)]) (by omega)⟩
theorem cpa_o {f t : Nat} {σ σ2 : zSto} (h : cpa f t σ σ2) {q : Nat} (hq : q < 224 ∨ 231 < q) (j : Nat) : σ2.1 q j = σ.1 q j := by rw [h q j, if_neg (by omega)]
set_option maxHeartbeats 4000000 in
theorem inv_cpa {A : Nat → Nat → Prop} {F : Nat → Nat → Int32} {w f t : Nat} {σ σ2 : zSto} (hA : ∀ q j, (224 ≤ q ∧ q ≤ 231) → Wd q * t ≤ j → j < Wd q * t + Wd q → ¬ A q j) (I : zInv A F w σ) (hf : f ≤ 3) (ht : t ≤ 3) (h : cpa f t σ σ2) : zInv A F w σ2 := by
  obtain ⟨R1, R2, R3, R4, R5⟩ := I.2.2
  have h8 : ∀ j, σ2.1 228 j = if 3 * t ≤ j ∧ j < 3 * t + 3 then σ.1 228 (3 * f + (j - 3 * t)) else σ.1 228 j := by
    intro j
    rw [h 228 j]
    by_cases c : 3 * t ≤ j ∧ j < 3 * t + 3
    · rw [if_pos c, if_pos ⟨by decide, c⟩]; rfl
    · rw [if_neg c, if_neg (fun z => c z.2)]
  have h9 : ∀ j, σ2.1 229 j = if 246 * t ≤ j ∧ j < 246 * t + 246 then σ.1 229 (246 * f + (j - 246 * t)) else σ.1 229 j := by
    intro j
    rw [h 229 j]
    by_cases c : 246 * t ≤ j ∧ j < 246 * t + 246
    · rw [if_pos c, if_pos ⟨by decide, c⟩]; rfl
    · rw [if_neg c, if_neg (fun z => c z.2)]
  refine ⟨fun q j => ?_, fun q j a => ?_, fun S hS l hl q => ?_, fun t' ht' r q => ?_, fun hw q r q2 => ?_, fun i l hi hl q => ?_, ?_⟩
  · by_cases c : (224 ≤ q ∧ q ≤ 231) ∧ Wd q * t ≤ j ∧ j < Wd q * t + Wd q
    · rw [h q j, if_pos c]
      have e : lo (kd q) (Wd q * f + (j - Wd q * t)) = lo (kd q) j ∧ hi (kd q) (Wd q * f + (j - Wd q * t)) = hi (kd q) j := by
        rcases (show q = 224 ∨ q = 225 ∨ q = 226 ∨ q = 227 ∨ q = 228 ∨ q = 229 ∨ q = 230 ∨ q = 231 by omega) with e | e | e | e | e | e | e | e <;> subst e
        · rw [kd_224]; exact ⟨rfl, rfl⟩
        · rw [kd_225]; exact ⟨rfl, rfl⟩
        · rw [kd_226]; exact ⟨rfl, rfl⟩
        · rw [kd_227]; exact ⟨rfl, rfl⟩
        · rw [kd_228]; exact ⟨rfl, rfl⟩
        · rw [kd_229]
          have c2 : 246 * t ≤ j ∧ j < 246 * t + 246 := c.2
          have e3 : (Wd 229 * f + (j - Wd 229 * t)) % 123 = j % 123 := by
            show (246 * f + (j - 246 * t)) % 123 = j % 123
            omega
          show lo14 _ = lo14 _ ∧ hi14 _ = hi14 _
          rw [e3]
          exact ⟨rfl, rfl⟩
        · rw [kd_230]
          have c2 : 66 * t ≤ j ∧ j < 66 * t + 66 := c.2
          have e3 : (Wd 230 * f + (j - Wd 230 * t)) % 33 = j % 33 := by
            show (66 * f + (j - 66 * t)) % 33 = j % 33
            omega
          simp only [lo, hi, e3]
          exact ⟨rfl, rfl⟩
        · rw [kd_231]
          have c2 : 42 * t ≤ j ∧ j < 42 * t + 42 := c.2
          have e3 : (Wd 231 * f + (j - Wd 231 * t)) % 21 = j % 21 := by
            show (42 * f + (j - 42 * t)) % 21 = j % 21
            omega
          simp only [lo, hi, e3]
          exact ⟨rfl, rfl⟩
      rw [← e.1, ← e.2]
      exact I.1 q _
    · rw [h q j, if_neg c]
      exact I.1 q j
  · rw [h q j, if_neg (fun c => hA q j c.1 c.2.1 c.2.2 a)]
    exact I.2.1 q j a
  · rw [cpa_o h (by unfold isZ at hS; omega)] at q
    rw [cpa_o h (by unfold isZ at hS; omega)]
    exact R1 S hS l hl q
  · rw [cpa_o h (by unfold isS at ht'; omega)] at q
    rw [cpa_o h (by unfold isS at ht'; omega)]
    exact R2 t' ht' r q
  · rw [cpa_o h (by decide)] at q q2
    rw [cpa_o h (by decide)]
    exact R3 hw q r q2
  · by_cases c : i = t
    · subst c
      rw [h8, if_pos (by omega), show 3 * f + (3 * i - 3 * i) = 3 * f by omega] at q
      rw [h9, if_pos (by omega), show 246 * f + (123 * (2 * i + l) - 246 * i) = 123 * (2 * f + l) by omega]
      exact R4 f l (by omega) hl q
    · rw [h8, if_neg (by omega)] at q
      rw [h9, if_neg (by omega)]
      exact R4 i l hi hl q
  · refine ⟨fun z => ?_, fun z => ?_, fun z => ?_⟩
    · rw [cpa_o h (by decide), cpa_o h (by decide), cpa_o h (by decide)]
      refine ⟨(R5.1 z).1, fun z2 => ⟨fun j hj => ?_, fun p hp => ?_⟩⟩
      · rw [cpa_o h (by decide)]; exact ((R5.1 z).2 z2).1 j hj
      · rw [cpa_o h (by decide)]; exact ((R5.1 z).2 z2).2 p hp
    · rw [cpa_o h (by decide)]; exact R5.2.1 z
    · rw [cpa_o h (by decide)]; exact R5.2.2 z
set_option maxHeartbeats 4000000 in
theorem s_X10_image {A : Nat → Nat → Prop} {F : Nat → Nat → Int32} {w : Nat} (p3 : ¬ A 223 0) (a1 : Int32) (pA : ∀ q j, 224 ≤ q → q ≤ 231 → (q = 225 → j ≠ 0) → ¬ A q j) (pv : okV A) {σ : zSto} (I : zInv A F w σ) {P : Int32 → zSto → Prop} (h0 : ¬ (0 ≤ ti a1 ∧ ti a1 ≤ 2) → ∀ σ2, zInv A F w σ2 → (∀ k j, k ≠ 223 → σ2.1 k j = σ.1 k j) → P 0 σ2) (hP : (0 ≤ ti a1 ∧ ti a1 ≤ 2) → ∀ σ2, zInv A F w σ2 → (∀ j, σ2.1 225 j = if j = a1.toNatClampNeg + 1 then σ.1 225 0 else σ.1 225 j) → (∀ j, σ2.1 249 j = if j = a1.toNatClampNeg then 1 else σ.1 249 j) → P 1 σ2) : w_X10_image a1 σ P := by
  unfold w_X10_image
  have l0 := lit_0
  have l1 := lit_1
  have l2 := lit_2
  have tn := tn_eq a1
  intro σ1 e1
  have I1 : zInv A F w σ1 := by rw [e1]; exact wIr I p3 (by decide) kd_223 rfl rfl (full32 _)
  refine b_X10_in a1 (0 : Int32) (2 : Int32) (fun r z => ?_)
  intro b
  refine ⟨fun q => ?_, fun q => h0 (fun hh => z.mpr (by omega) q) σ1 I1 (fun k j hk => zI_q' e1 (Or.inl hk))⟩
  have hz := z.mp q
  have ta := tadd (x := a1) (y := (1 : Int32)) (by omega)
  refine f_copyAll 0 (a1.toNatClampNeg + 1) (by decide) (by omega) (by omega) (0 : Int32) _ l0 (by omega) (fun j => rdr I1 kd_224 rfl rfl) (fun σ4 h4 => ⟨vin (by omega), fun σ6 e6 => ?_⟩)
  have I4 : zInv A F w σ4 := by
    refine inv_cpa (fun q' j c1 c2 c3 => pA q' j c1.1 c1.2 (fun e => ?_)) I1 (by decide) (by omega) h4
    subst e
    have c4 : 1 * (a1.toNatClampNeg + 1) ≤ j := c2
    omega
  have hv : vp_nar .boolean (1 : Int32) = 1 := by decide
  rw [hv] at e6
  refine hP (by omega) σ6 ?_ (fun j => ?_) (fun j => ?_)
  · rw [e6]; exact wIr (a := 0) (b := 1) I4 (pv _) (rl0 rk_249) kd_249 rfl rfl (by omega)
  · rw [e6, zI_q (Or.inl (by decide)), h4 225 j]
    by_cases c : j = a1.toNatClampNeg + 1
    · subst c
      rw [if_pos rfl, if_pos ⟨by decide, by show 1 * (a1.toNatClampNeg + 1) ≤ _; omega, by show _ < 1 * (a1.toNatClampNeg + 1) + 1; omega⟩]
      rw [show Wd 225 * 0 + (a1.toNatClampNeg + 1 - Wd 225 * (a1.toNatClampNeg + 1)) = 0 by show 1 * 0 + (a1.toNatClampNeg + 1 - 1 * (a1.toNatClampNeg + 1)) = 0; omega]
      exact zI_q' e1 (Or.inl (by decide))
    · rw [if_neg c, if_neg]
      · exact zI_q' e1 (Or.inl (by decide))
      · rintro ⟨_, c2, c3⟩
        have c4 : 1 * (a1.toNatClampNeg + 1) ≤ j := c2
        have c5 : j < 1 * (a1.toNatClampNeg + 1) + 1 := c3
        omega
  · by_cases c : j = a1.toNatClampNeg
    · subst c; rw [e6, zI_s, if_pos rfl]
    · rw [e6, zI_q (Or.inr c), if_neg c, cpa_o h4 (by decide)]
      exact zI_q' e1 (Or.inl (by decide))
set_option maxHeartbeats 4000000 in
theorem s_X10_again {A : Nat → Nat → Prop} {F : Nat → Nat → Int32} {w : Nat} (p3 : ¬ A 223 0) (a1 : Int32) (pA : ∀ q j, 224 ≤ q → q ≤ 231 → (q = 225 → j = 0) → ¬ A q j) {σ : zSto} (I : zInv A F w σ) {P : Int32 → zSto → Prop} (h0 : ¬ (0 ≤ ti a1 ∧ ti a1 ≤ 2 ∧ σ.1 249 a1.toNatClampNeg ≠ 0) → ∀ σ2, zInv A F w σ2 → (∀ k j, k ≠ 223 → σ2.1 k j = σ.1 k j) → P 0 σ2) (hP : (0 ≤ ti a1 ∧ ti a1 ≤ 2 ∧ σ.1 249 a1.toNatClampNeg ≠ 0) → ∀ σ2, zInv A F w σ2 → (∀ j, σ2.1 225 j = if j = 0 then σ.1 225 (a1.toNatClampNeg + 1) else σ.1 225 j) → P 1 σ2) : w_X10_again a1 σ P := by
  unfold w_X10_again
  have l0 := lit_0
  have l1 := lit_1
  have l2 := lit_2
  have tn := tn_eq a1
  intro σ1 e1
  have I1 : zInv A F w σ1 := by rw [e1]; exact wIr I p3 (by decide) kd_223 rfl rfl (full32 _)
  have g1 : ∀ k j, k ≠ 223 → σ1.1 k j = σ.1 k j := fun k j hk => zI_q' e1 (Or.inl hk)
  refine b_X10_in a1 (0 : Int32) (2 : Int32) (fun r z => ?_)
  intro b
  refine ⟨fun q => h0 (fun hh => z.mpr (by omega) q) σ1 I1 g1, fun q => ?_⟩
  have hz := z.mp q
  have ta := tadd (x := a1) (y := (1 : Int32)) (by omega)
  refine ⟨vin (by omega), fun q2 => ?_, fun q2 => h0 (fun hh => hh.2.2 (by rw [← g1 249 _ (by decide)]; exact q2)) σ1 I1 g1⟩
  refine f_copyAll (a1.toNatClampNeg + 1) 0 (by omega) (by decide) (by omega) _ (0 : Int32) (by omega) l0 (fun j => rdr I1 kd_224 rfl rfl) (fun σ4 h4 => ?_)
  have I4 : zInv A F w σ4 := by
    refine inv_cpa (fun q' j c1 c2 c3 => pA q' j c1.1 c1.2 (fun e => ?_)) I1 (by omega) (by decide) h4
    subst e
    have c5 : j < 1 * 0 + 1 := c3
    omega
  refine hP ⟨by omega, by omega, by rw [← g1 249 _ (by decide)]; exact q2⟩ σ4 I4 (fun j => ?_)
  rw [h4 225 j]
  by_cases c : j = 0
  · subst c
    rw [if_pos rfl, if_pos ⟨by decide, by show 1 * 0 ≤ _; omega, by show _ < 1 * 0 + 1; omega⟩]
    rw [show Wd 225 * (a1.toNatClampNeg + 1) + (0 - Wd 225 * 0) = a1.toNatClampNeg + 1 by show 1 * (a1.toNatClampNeg + 1) + (0 - 1 * 0) = _; omega]
    exact g1 225 _ (by decide)
  · rw [if_neg c, if_neg]
    · exact g1 225 _ (by decide)
    · rintro ⟨_, c2, c3⟩
      have c5 : j < 1 * 0 + 1 := c3
      omega
