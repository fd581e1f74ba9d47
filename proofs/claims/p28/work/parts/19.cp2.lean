/-! a State copied -/
def mskI0 (i j : Nat) : Bool := (((decide (3 ≤ i) && decide (i < 3 + 12) && mskL (i - 3) j) || (decide (28 ≤ i) && decide (i < 28 + 3) && mskP (i - 28) j)) || (decide (35 ≤ i) && decide (i < 35 + 3) && mskP (i - 35) j))
def mskI1 (i j : Nat) : Bool := (((decide (15 ≤ i) && decide (i < 15 + 12) && mskL (i - 15) j) || (decide (31 ≤ i) && decide (i < 31 + 3) && mskP (i - 31) j)) || (decide (38 ≤ i) && decide (i < 38 + 3) && mskP (i - 38) j))
def mskE (i j : Nat) : Bool := ((((decide (i = 41) && decide (j < 3)) || (decide (i = 0) && decide (j = 5))) || (decide (i = 0) && decide (j = 6))) || (decide (i = 0) && decide (j = 7)))
def mskS (i j : Nat) : Bool := ((((decide (i = 1) && decide (j < 600)) || mskI0 i j) || mskI1 i j) || mskE i j)
theorem f_X8_end (q0 q1 : Nat) (hd : q0 + 42 ≤ q1 ∨ q1 + 42 ≤ q0) (x : Int32) (hx : ti x = 2) (n : Nat) {σ : zSto} {P : zSto → Prop} (hP : ∀ σ2, cpM 42 q0 q1 mskE σ σ2 → P σ2) : w_X8_copyFrom_18 q0 q1 P (n + 1) x σ := by
  unfold w_X8_copyFrom_18
  have l2 := lit_2
  refine ⟨fun _ => ?_, fun q => ?_⟩
  · intro σ3 e3 σ4 e4 σ5 e5 σ6 e6
    have h1 := cp_R (N := 42) (S := q0) (B := q1) (i := 41) (by decide) e3
    have h2 := cp_comp hd h1 (cp_I (N := 42) (S := q0) (B := q1) (i := 0) (by decide) e4)
    have h3 := cp_comp hd h2 (cp_I (N := 42) (S := q0) (B := q1) (i := 0) (by decide) e5)
    have h4 := cp_comp hd h3 (cp_I (N := 42) (S := q0) (B := q1) (i := 0) (by decide) e6)
    exact hP _ h4
  · have := nle_t q
    omega
set_option maxHeartbeats 4000000 in
theorem f_X8_0 (q0 q1 : Nat) (s0 : zIsState q0) (s1 : zIsState q1) (hd : q0 + 42 ≤ q1 ∨ q1 + 42 ≤ q0) (x : Int32) (hx : ti x = 0) (n : Nat) {σ : zSto} {P : zSto → Prop} (hP : ∀ σ2 x', ti x' = 1 → cpM 42 q0 q1 mskI0 σ σ2 → w_X8_copyFrom_18 q0 q1 P n x' σ2) : w_X8_copyFrom_18 q0 q1 P (n + 1) x σ := by
  unfold w_X8_copyFrom_18
  have l2 := lit_2
  have l1 := lit_1
  refine ⟨fun q => ?_, fun q => ?_⟩
  · have := le_t q
    omega
  · refine ⟨vin (by omega), ?_⟩
    intro j8 e8
    have f8 : j8 = q0 + 3 := by rw [e8, zel_of hx]; rfl
    subst f8
    refine ⟨s0.2.2.2.2.2.2.1, vin (by omega), ?_⟩
    intro j10 e10
    have f10 : j10 = q1 + 3 := by rw [e10, zel_of hx]; rfl
    subst f10
    refine ⟨s1.2.2.2.2.2.2.1, f_X0_copyFrom (q0 + 3) (q1 + 3) (by omega) (fun σ11 h11 => ⟨vin (by omega), ?_⟩)⟩
    intro j13 e13
    have f13 : j13 = q0 + 28 := by rw [e13, zel_of hx]; rfl
    subst f13
    refine ⟨s0.2.2.2.2.2.2.2.2.1, vin (by omega), ?_⟩
    intro j15 e15
    have f15 : j15 = q1 + 28 := by rw [e15, zel_of hx]; rfl
    subst f15
    refine ⟨s1.2.2.2.2.2.2.2.2.1, f_X2_copyFrom (q0 + 28) (q1 + 28) (by omega) (fun σ16 h16 => ⟨vin (by omega), ?_⟩)⟩
    intro j18 e18
    have f18 : j18 = q0 + 35 := by rw [e18, zel_of hx]; rfl
    subst f18
    refine ⟨s0.2.2.2.2.2.2.2.2.2.2.1, vin (by omega), ?_⟩
    intro j20 e20
    have f20 : j20 = q1 + 35 := by rw [e20, zel_of hx]; rfl
    subst f20
    refine ⟨s1.2.2.2.2.2.2.2.2.2.2.1, f_X2_copyFrom (q0 + 35) (q1 + 35) (by omega) (fun σ21 h21 => ?_)⟩
    intro x22 e22
    have t := tadd (x := x) (y := (1 : Int32)) (by omega)
    have t2 := eq_t e22
    exact hP σ21 x22 (by omega) (cp_comp hd (cp_comp hd (cp_lift (M := 42) (by decide) h11) (cp_lift (M := 42) (by decide) h16)) (cp_lift (M := 42) (by decide) h21))
set_option maxHeartbeats 4000000 in
theorem f_X8_1 (q0 q1 : Nat) (s0 : zIsState q0) (s1 : zIsState q1) (hd : q0 + 42 ≤ q1 ∨ q1 + 42 ≤ q0) (x : Int32) (hx : ti x = 1) (n : Nat) {σ : zSto} {P : zSto → Prop} (hP : ∀ σ2 x', ti x' = 2 → cpM 42 q0 q1 mskI1 σ σ2 → w_X8_copyFrom_18 q0 q1 P n x' σ2) : w_X8_copyFrom_18 q0 q1 P (n + 1) x σ := by
  unfold w_X8_copyFrom_18
  have l2 := lit_2
  have l1 := lit_1
  refine ⟨fun q => ?_, fun q => ?_⟩
  · have := le_t q
    omega
  · refine ⟨vin (by omega), ?_⟩
    intro j8 e8
    have f8 : j8 = q0 + 15 := by rw [e8, zel_of hx]; rfl
    subst f8
    refine ⟨s0.2.2.2.2.2.2.2.1, vin (by omega), ?_⟩
    intro j10 e10
    have f10 : j10 = q1 + 15 := by rw [e10, zel_of hx]; rfl
    subst f10
    refine ⟨s1.2.2.2.2.2.2.2.1, f_X0_copyFrom (q0 + 15) (q1 + 15) (by omega) (fun σ11 h11 => ⟨vin (by omega), ?_⟩)⟩
    intro j13 e13
    have f13 : j13 = q0 + 31 := by rw [e13, zel_of hx]; rfl
    subst f13
    refine ⟨s0.2.2.2.2.2.2.2.2.2.1, vin (by omega), ?_⟩
    intro j15 e15
    have f15 : j15 = q1 + 31 := by rw [e15, zel_of hx]; rfl
    subst f15
    refine ⟨s1.2.2.2.2.2.2.2.2.2.1, f_X2_copyFrom (q0 + 31) (q1 + 31) (by omega) (fun σ16 h16 => ⟨vin (by omega), ?_⟩)⟩
    intro j18 e18
    have f18 : j18 = q0 + 38 := by rw [e18, zel_of hx]; rfl
    subst f18
    refine ⟨s0.2.2.2.2.2.2.2.2.2.2.2, vin (by omega), ?_⟩
    intro j20 e20
    have f20 : j20 = q1 + 38 := by rw [e20, zel_of hx]; rfl
    subst f20
    refine ⟨s1.2.2.2.2.2.2.2.2.2.2.2, f_X2_copyFrom (q0 + 38) (q1 + 38) (by omega) (fun σ21 h21 => ?_)⟩
    intro x22 e22
    have t := tadd (x := x) (y := (1 : Int32)) (by omega)
    have t2 := eq_t e22
    exact hP σ21 x22 (by omega) (cp_comp hd (cp_comp hd (cp_lift (M := 42) (by decide) h11) (cp_lift (M := 42) (by decide) h16)) (cp_lift (M := 42) (by decide) h21))
theorem fits_b {v : Int32} (h : -128 ≤ ti v ∧ ti v ≤ 127) : fits .byte (.int v) = true := by
  have a : ti (-128 : Int32) = -128 := by rw [ti_eq]; decide
  have b : ti (127 : Int32) = 127 := by rw [ti_eq]; decide
  have h1 : (-128 : Int32) ≤ v := t_le (by omega)
  have h2 : v ≤ (127 : Int32) := t_le (by omega)
  show (decide ((-128 : Int32) ≤ v) && decide (v ≤ (127 : Int32))) = true
  rw [decide_eq_true h1, decide_eq_true h2]
  rfl
theorem f_X8_copyFrom (q0 q1 : Nat) (s0 : zIsState q0) (s1 : zIsState q1) (hd : q0 + 42 ≤ q1 ∨ q1 + 42 ≤ q0) {σ : zSto} (hb : ∀ i, -128 ≤ ti (σ.1 (q1 + 1) i) ∧ ti (σ.1 (q1 + 1) i) ≤ 127) {P : zSto → Prop} (hP : ∀ σ2, cpM 42 q0 q1 mskS σ σ2 → P σ2) : w_X8_copyFrom q0 q1 σ P := by
  unfold w_X8_copyFrom
  refine ⟨fun i _ => fits_b (hb (0 + i)), fun σ1 e1 => ⟨3, ?_⟩⟩
  have h1 := cp_R (N := 42) (S := q0) (B := q1) (i := 1) (by decide) e1
  refine f_X8_0 q0 q1 s0 s1 hd (0 : Int32) lit_0 2 (fun σ2 x2 hx2 h2 => ?_)
  refine f_X8_1 q0 q1 s0 s1 hd x2 hx2 1 (fun σ3 x3 hx3 h3 => ?_)
  refine f_X8_end q0 q1 hd x3 hx3 0 (fun σ4 h4 => ?_)
  exact hP σ4 (cp_comp hd (cp_comp hd (cp_comp hd h1 h2) h3) h4)
theorem mskS_off0 {r : Nat} (h : r < 6) : mskS 10 r = true := by simp [mskS, mskI0, mskL, h]
theorem mskS_off1 {r : Nat} (h : r < 6) : mskS 22 r = true := by simp [mskS, mskI1, mskL, h]
set_option maxHeartbeats 4000000 in
theorem zRel_S {A : Nat → Nat → Prop} {F : Nat → Nat → Int32} {w : Nat} {σ σ2 : zSto} {S B : Nat} (I : zInv A F w σ) (hS : isZ S) (hB : isZ B) (hne : S ≠ B) (h : cpM 42 S B mskS σ σ2) : zRel w σ2 := by
  obtain ⟨R1, R2, R3, R4, R5⟩ := I.2.2
  have c0 : σ2.1 (S + 41) 0 = σ.1 (B + 41) 0 := cp_in (i := 41) h (by decide) (by decide)
  have cp0 : σ2.1 (S + 3) 11 = σ.1 (B + 3) 11 := cp_in (i := 3) h (by decide) (by decide)
  have cp1 : σ2.1 (S + 15) 11 = σ.1 (B + 15) 11 := cp_in (i := 15) h (by decide) (by decide)
  have cr0 : σ2.1 (S + 3) 12 = σ.1 (B + 3) 12 := cp_in (i := 3) h (by decide) (by decide)
  have cr1 : σ2.1 (S + 15) 12 = σ.1 (B + 15) 12 := cp_in (i := 15) h (by decide) (by decide)
  have kr : ∀ k, k = B + 3 ∨ k = B + 15 → ti (σ.1 k 12) ≤ 6 := by
    intro k hk
    have : kd k = 1 := by rcases hB with e | e | e | e <;> subst e <;> rcases hk with e | e <;> subst e <;> decide
    have d : 0 ≤ ti (σ.1 k 12) ∧ ti (σ.1 k 12) ≤ 6 := rdr I this rfl rfl
    exact d.2
  refine ⟨fun S' hS' l hl q => ?_, fun t ht r q => ?_, fun hw q r q2 => ?_, fun i l hi hl q => ?_, zTold_of' (fun k j _ b => cp_out h (by unfold isZ at hS; omega) j) R5⟩
  · by_cases c : S' = S
    · subst c
      rw [c0] at q
      have := R1 B hB l hl q
      rcases (show l = 0 ∨ l = 1 by omega) with e | e <;> subst e
      · rw [show S' + 3 + 12 * 0 = S' + 3 by omega, cp0]; exact this
      · rw [show S' + 3 + 12 * 1 = S' + 15 by omega, cp1]; exact this
    · rw [cp_out h (by unfold isZ at hS hS'; omega)] at q
      rw [cp_out h (by unfold isZ at hS hS'; omega)]
      exact R1 S' hS' l hl q
  · by_cases c : t = S + 3
    · subst c
      rw [cr0] at q
      have hr := kr (B + 3) (Or.inl rfl)
      have e := cp_in (i := 10) h (by decide) (mskS_off0 (r := r) (by omega))
      rw [show S + 3 + 7 = S + 10 by omega, e]
      exact R2 (B + 3) (by unfold isZ at hB; unfold isS; omega) r q
    · by_cases c2 : t = S + 15
      · subst c2
        rw [cr1] at q
        have hr := kr (B + 15) (Or.inr rfl)
        have e := cp_in (i := 22) h (by decide) (mskS_off1 (r := r) (by omega))
        rw [show S + 15 + 7 = S + 22 by omega, e]
        exact R2 (B + 15) (by unfold isZ at hB; unfold isS; omega) r q
      · rw [cp_out h (by unfold isZ at hS; unfold isS at ht; omega)] at q
        rw [cp_out h (by unfold isZ at hS; unfold isS at ht; omega)]
        exact R2 t ht r q
  · rw [cp_out h (by unfold isZ at hS; omega)] at q q2
    rw [cp_out h (by unfold isZ at hS; omega)]
    exact R3 hw q r q2
  · rw [cp_out h (by unfold isZ at hS; omega)] at q
    rw [cp_out h (by unfold isZ at hS; omega)]
    exact R4 i l hi hl q
theorem isZ_st {S : Nat} (h : isZ S) : zIsState S := by
  rcases h with h | h | h | h <;> subst h
  · exact zIsState_1
  · exact zIsState_44
  · exact zIsState_86
  · exact zIsState_128
theorem isZ_kd {S B : Nat} (hS : isZ S) (hB : isZ B) : ∀ i, i < 42 → kd (S + i) = kd (B + i) := by
  rcases hS with h | h | h | h <;> rcases hB with h2 | h2 | h2 | h2 <;> subst h <;> subst h2 <;> decide
theorem s_X8_copyFrom {A : Nat → Nat → Prop} {F : Nat → Nat → Int32} {w : Nat} {S B : Nat} (hS : isZ S) (hB : isZ B) (hne : S ≠ B) (hA : ∀ i j, i < 42 → ¬ A (S + i) j) {σ : zSto} (I : zInv A F w σ) {P : zSto → Prop} (hP : ∀ σ2, zInv A F w σ2 → cpM 42 S B mskS σ σ2 → P σ2) : w_X8_copyFrom S B σ P := by
  refine f_X8_copyFrom S B (isZ_st hS) (isZ_st hB) (by unfold isZ at hS hB; omega) (fun i => ?_) (fun σ2 h => hP σ2 (inv_cp I h (isZ_kd hS hB) hA (zRel_S I hS hB hne h)) h)
  have : kd (B + 1) = 6 := by rcases hB with e | e | e | e <;> subst e <;> decide
  exact rdr I this rfl rfl
/-- image and again of the class -/
def BK (s : Nat) : Nat → Nat → Prop := fun k _ => k < 171 ∧ ¬ (s ≤ k ∧ k < s + 42) ∧ k ≠ 170
set_option maxHeartbeats 4000000 in
theorem s_X9_image {A : Nat → Nat → Prop} {F : Nat → Nat → Int32} {w : Nat} (pi : okI A) (a1 : Int32) {σ : zSto} (I : zInv A F w σ) {P : Int32 → zSto → Prop} (h0 : ¬ (0 ≤ ti a1 ∧ ti a1 ≤ 2) → P 0 σ) (hP : (0 ≤ ti a1 ∧ ti a1 ≤ 2) → ∀ σ2, zInv A F w σ2 → (∀ k j, k < 44 + 42 * a1.toNatClampNeg ∨ 44 + 42 * a1.toNatClampNeg + 42 ≤ k → (k = 170 → j ≠ a1.toNatClampNeg) → σ2.1 k j = σ.1 k j) → σ2.1 170 a1.toNatClampNeg = 1 → σ2.1 (44 + 42 * a1.toNatClampNeg) 5 = σ.1 1 5 → P 1 σ2) : w_X9_image a1 σ P := by
  unfold w_X9_image
  have l0 := lit_0
  have l3 := lit_3
  refine ⟨fun q => h0 (by have := lt_t q; omega), fun q => ⟨fun q2 => ?_, fun q2 => h0 (by have := nlt_t q2; omega)⟩⟩
  have c1 := nlt_t q
  have c2 := lt_t q2
  have tn := tn_eq a1
  refine ⟨vin (by omega), ?_⟩
  intro j2 e2
  have f2 : j2 = 44 + 42 * a1.toNatClampNeg := by
    rcases (show ti a1 = 0 ∨ ti a1 = 1 ∨ ti a1 = 2 by omega) with z | z | z
    · rw [e2, zel_of z, tn, z]; rfl
    · rw [e2, zel_of z, tn, z]; rfl
    · rw [e2, zel_of z, tn, z]; rfl
  have hS : isZ j2 := by unfold isZ; omega
  refine ⟨isZ_st hS, s_X8_copyFrom hS (Or.inl rfl) (by unfold isZ at hS; omega) (fun i j hi => pI pi (by unfold isZ at hS; omega)) I (fun σ3 I3 h3 => ⟨vin (by omega), fun σ5 e5 => ?_⟩)⟩
  have hv : vp_nar .boolean (1 : Int32) = 1 := by decide
  rw [hv] at e5
  refine hP (by omega) σ5 ?_ (fun k j hk hj => ?_) ?_ ?_
  · rw [e5]
    exact wIr (a := 0) (b := 1) I3 (pI pi (by decide)) (rl0 rk_170) kd_170 rfl rfl (by rw [lit_1]; decide)
  · rw [e5, zI_q (by omega)]
    exact cp_out h3 (by omega) j
  · rw [e5, zI_s]
  · rw [e5, zI_q (Or.inl (by omega)), ← f2]
    exact cp_in (i := 0) h3 (by decide) (by decide)
set_option maxHeartbeats 4000000 in
theorem s_X9_again {A : Nat → Nat → Prop} {F : Nat → Nat → Int32} {w : Nat} (pn : okN A) (a1 : Int32) {σ : zSto} (I : zInv A F w σ) {P : Int32 → zSto → Prop} (h0 : ¬ (0 ≤ ti a1 ∧ ti a1 ≤ 2 ∧ σ.1 170 a1.toNatClampNeg ≠ 0) → P 0 σ) (hP : (0 ≤ ti a1 ∧ ti a1 ≤ 2 ∧ σ.1 170 a1.toNatClampNeg ≠ 0) → ∀ σ2, zInv A F w σ2 → (∀ k j, k < 1 ∨ 43 ≤ k → σ2.1 k j = σ.1 k j) → σ2.1 1 5 = σ.1 (44 + 42 * a1.toNatClampNeg) 5 → P 1 σ2) : w_X9_again a1 σ P := by
  unfold w_X9_again
  have l0 := lit_0
  have l3 := lit_3
  have tn := tn_eq a1
  refine ⟨fun q => h0 (by have := lt_t q; omega), fun q => ⟨fun q2 => h0 (by have := le_t q2; omega), fun q2 => ?_⟩⟩
  have c1 := nlt_t q
  have c2 := nle_t q2
  refine ⟨vin (by omega), fun q3 => ⟨vin (by omega), ?_⟩, fun q3 => h0 (fun h => h.2.2 q3)⟩
  intro j3 e3
  have f3 : j3 = 44 + 42 * a1.toNatClampNeg := by
    rcases (show ti a1 = 0 ∨ ti a1 = 1 ∨ ti a1 = 2 by omega) with z | z | z
    · rw [e3, zel_of z, tn, z]; rfl
    · rw [e3, zel_of z, tn, z]; rfl
    · rw [e3, zel_of z, tn, z]; rfl
  have hS : isZ j3 := by unfold isZ; omega
  refine ⟨isZ_st hS, s_X8_copyFrom (Or.inl rfl) hS (by unfold isZ at hS; omega) (fun i j hi => pN pn (by omega)) I (fun σ3 I3 h3 => hP ⟨by omega, by omega, q3⟩ σ3 I3 (fun k j hk => cp_out h3 (by omega) j) ?_)⟩
  rw [← f3]
  exact cp_in (i := 0) (S := 1) h3 (by decide) (by decide)
