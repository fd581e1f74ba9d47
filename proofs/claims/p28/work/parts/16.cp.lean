/-! COPYING: N cells from B to S, where the mask says so -/
def cpM (N S B : Nat) (m : Nat → Nat → Bool) (σ σ2 : zSto) : Prop := σ2.2 = σ.2 ∧ ∀ k j, σ2.1 k j = if S ≤ k ∧ k < S + N ∧ m (k - S) j = true then σ.1 (B + (k - S)) j else σ.1 k j
theorem cp_comp {N S B : Nat} {m1 m2 : Nat → Nat → Bool} {σ σ1 σ2 : zSto} (hd : S + N ≤ B ∨ B + N ≤ S) (h1 : cpM N S B m1 σ σ1) (h2 : cpM N S B m2 σ1 σ2) : cpM N S B (fun i j => m1 i j || m2 i j) σ σ2 := by
  refine ⟨h2.1.trans h1.1, fun k j => ?_⟩
  rw [h2.2 k j]
  by_cases c : S ≤ k ∧ k < S + N
  · have e : σ1.1 (B + (k - S)) j = σ.1 (B + (k - S)) j := by
      rw [h1.2, if_neg (by omega)]
    rw [e, h1.2 k j]
    cases a : m1 (k - S) j <;> cases b : m2 (k - S) j <;> simp [c, a, b]
  · rw [if_neg (by omega), if_neg (by omega), h1.2 k j, if_neg (by omega)]
theorem cp_R {N S B i n : Nat} {σ σ2 : zSto} (hi : i < N) (e : σ2 = zR σ (S + i) (va_cpy (σ.1 (B + i)) (σ.1 (S + i)) 0 0 n)) : cpM N S B (fun a b => decide (a = i) && decide (b < n)) σ σ2 := by
  subst e
  refine ⟨rfl, fun k j => ?_⟩
  by_cases c : k = S + i
  · subst c
    rw [zR_s]
    have e2 : S + i - S = i := by omega
    rw [e2]
    by_cases c2 : j < n
    · rw [if_pos ⟨by omega, by omega, by simp [c2]⟩]
      simp [va_cpy, c2]
    · rw [if_neg (by simp [c2])]
      simp [va_cpy, c2]
  · rw [zR_k c, if_neg]
    rintro ⟨q1, q2, q3⟩
    have : k - S = i := by simp at q3; exact q3.1
    omega
theorem cp_I {N S B i j0 : Nat} {σ σ2 : zSto} (hi : i < N) (e : σ2 = zI σ (S + i) j0 (σ.1 (B + i) j0)) : cpM N S B (fun a b => decide (a = i) && decide (b = j0)) σ σ2 := by
  subst e
  refine ⟨rfl, fun k j => ?_⟩
  by_cases c : k = S + i ∧ j = j0
  · obtain ⟨c1, c2⟩ := c
    subst c1
    subst c2
    have e2 : S + i - S = i := by omega
    rw [zI_s, e2, if_pos ⟨by omega, by omega, by simp⟩]
  · rw [zI_q (by omega), if_neg]
    rintro ⟨q1, q2, q3⟩
    have q4 : k - S = i ∧ j = j0 := by simpa using q3
    omega
theorem cp_lift {N M S B o : Nat} {m : Nat → Nat → Bool} {σ σ2 : zSto} (ho : o + N ≤ M) (h : cpM N (S + o) (B + o) m σ σ2) : cpM M S B (fun i j => decide (o ≤ i) && decide (i < o + N) && m (i - o) j) σ σ2 := by
  refine ⟨h.1, fun k j => ?_⟩
  rw [h.2 k j]
  by_cases c : S + o ≤ k ∧ k < S + o + N
  · have e1 : k - (S + o) = k - S - o := by omega
    have e2 : B + o + (k - (S + o)) = B + (k - S) := by omega
    rw [e2, e1]
    cases a : m (k - S - o) j
    · rw [if_neg (by simp), if_neg (by simp [a])]
    · rw [if_pos ⟨c.1, by omega, rfl⟩, if_pos ⟨by omega, by omega, by simp [a]; omega⟩]
  · rw [if_neg (by omega), if_neg]
    rintro ⟨q1, q2, q3⟩
    simp at q3
    omega
theorem cp_mask {N S B : Nat} {m m' : Nat → Nat → Bool} {σ σ2 : zSto} (e : ∀ i j, m i j = m' i j) (h : cpM N S B m σ σ2) : cpM N S B m' σ σ2 := by
  have : m = m' := by funext i j; exact e i j
  rw [← this]
  exact h
def mskL (i j : Nat) : Bool := ((((((((((((((((((decide (i = 1) && decide (j < 16)) || (decide (i = 2) && decide (j < 16))) || (decide (i = 3) && decide (j < 16))) || (decide (i = 4) && decide (j < 16))) || (decide (i = 5) && decide (j < 16))) || (decide (i = 6) && decide (j < 6))) || (decide (i = 7) && decide (j < 6))) || (decide (i = 8) && decide (j < 6))) || (decide (i = 9) && decide (j < 6))) || (decide (i = 10) && decide (j < 6))) || (decide (i = 11) && decide (j < 6))) || (decide (i = 0) && decide (j = 11))) || (decide (i = 0) && decide (j = 12))) || (decide (i = 0) && decide (j = 13))) || (decide (i = 0) && decide (j = 14))) || (decide (i = 0) && decide (j = 15))) || (decide (i = 0) && decide (j = 16))) || (decide (i = 0) && decide (j = 17)))
def mskP (i j : Nat) : Bool := (((decide (i = 1) && decide (j < 16)) || (decide (i = 2) && decide (j < 16))) || (decide (i = 0) && decide (j = 2)))
set_option maxRecDepth 10000 in
theorem f_X0_copyFrom (t b1 : Nat) (hd : t + 12 ≤ b1 ∨ b1 + 12 ≤ t) {σ : zSto} {P : zSto → Prop} (hP : ∀ σ2, cpM 12 t b1 mskL σ σ2 → P σ2) : w_X0_copyFrom t b1 σ P := by
  unfold w_X0_copyFrom
  intro σ1 e1
  have h1 := cp_R (N := 12) (S := t) (B := b1) (i := 1) (by decide) e1
  intro σ2 e2
  have h2 := cp_comp hd h1 (cp_R (N := 12) (S := t) (B := b1) (i := 2) (by decide) e2)
  intro σ3 e3
  have h3 := cp_comp hd h2 (cp_R (N := 12) (S := t) (B := b1) (i := 3) (by decide) e3)
  intro σ4 e4
  have h4 := cp_comp hd h3 (cp_R (N := 12) (S := t) (B := b1) (i := 4) (by decide) e4)
  intro σ5 e5
  have h5 := cp_comp hd h4 (cp_R (N := 12) (S := t) (B := b1) (i := 5) (by decide) e5)
  intro σ6 e6
  have h6 := cp_comp hd h5 (cp_R (N := 12) (S := t) (B := b1) (i := 6) (by decide) e6)
  intro σ7 e7
  have h7 := cp_comp hd h6 (cp_R (N := 12) (S := t) (B := b1) (i := 7) (by decide) e7)
  intro σ8 e8
  have h8 := cp_comp hd h7 (cp_R (N := 12) (S := t) (B := b1) (i := 8) (by decide) e8)
  intro σ9 e9
  have h9 := cp_comp hd h8 (cp_R (N := 12) (S := t) (B := b1) (i := 9) (by decide) e9)
  intro σ10 e10
  have h10 := cp_comp hd h9 (cp_R (N := 12) (S := t) (B := b1) (i := 10) (by decide) e10)
  intro σ11 e11
  have h11 := cp_comp hd h10 (cp_R (N := 12) (S := t) (B := b1) (i := 11) (by decide) e11)
  intro σ12 e12
  have h12 := cp_comp hd h11 (cp_I (N := 12) (S := t) (B := b1) (i := 0) (by decide) e12)
  intro σ13 e13
  have h13 := cp_comp hd h12 (cp_I (N := 12) (S := t) (B := b1) (i := 0) (by decide) e13)
  intro σ14 e14
  have h14 := cp_comp hd h13 (cp_I (N := 12) (S := t) (B := b1) (i := 0) (by decide) e14)
  intro σ15 e15
  have h15 := cp_comp hd h14 (cp_I (N := 12) (S := t) (B := b1) (i := 0) (by decide) e15)
  intro σ16 e16
  have h16 := cp_comp hd h15 (cp_I (N := 12) (S := t) (B := b1) (i := 0) (by decide) e16)
  intro σ17 e17
  have h17 := cp_comp hd h16 (cp_I (N := 12) (S := t) (B := b1) (i := 0) (by decide) e17)
  intro σ18 e18
  have h18 := cp_comp hd h17 (cp_I (N := 12) (S := t) (B := b1) (i := 0) (by decide) e18)
  exact hP _ h18
set_option maxRecDepth 10000 in
theorem f_X2_copyFrom (t b1 : Nat) (hd : t + 3 ≤ b1 ∨ b1 + 3 ≤ t) {σ : zSto} {P : zSto → Prop} (hP : ∀ σ2, cpM 3 t b1 mskP σ σ2 → P σ2) : w_X2_copyFrom t b1 σ P := by
  unfold w_X2_copyFrom
  intro σ1 e1
  have h1 := cp_R (N := 3) (S := t) (B := b1) (i := 1) (by decide) e1
  intro σ2 e2
  have h2 := cp_comp hd h1 (cp_R (N := 3) (S := t) (B := b1) (i := 2) (by decide) e2)
  intro σ3 e3
  have h3 := cp_comp hd h2 (cp_I (N := 3) (S := t) (B := b1) (i := 0) (by decide) e3)
  exact hP _ h3
/-- the invariant over a copying: kinds agree, what is written may be written -/
theorem inv_cp {A : Nat → Nat → Prop} {F : Nat → Nat → Int32} {w : Nat} {N S B : Nat} {m : Nat → Nat → Bool} {σ σ2 : zSto} (I : zInv A F w σ) (h : cpM N S B m σ σ2) (hk : ∀ i, i < N → kd (S + i) = kd (B + i)) (hA : ∀ i j, i < N → ¬ A (S + i) j) (hz : zRel w σ2) : zInv A F w σ2 := by
  refine ⟨fun k j => ?_, fun k j a => ?_, hz⟩
  · rw [h.2 k j]
    by_cases c : S ≤ k ∧ k < S + N ∧ m (k - S) j = true
    · rw [if_pos c]
      have e := hk (k - S) (by omega)
      rw [show S + (k - S) = k by omega] at e
      rw [e]
      exact I.1 _ j
    · rw [if_neg c]
      exact I.1 k j
  · rw [h.2 k j, if_neg]
    · exact I.2.1 k j a
    · rintro ⟨c1, c2, c3⟩
      have := hA (k - S) j (by omega)
      rw [show S + (k - S) = k by omega] at this
      exact this a
theorem cp_out {N S B : Nat} {m : Nat → Nat → Bool} {σ σ2 : zSto} (h : cpM N S B m σ σ2) {k : Nat} (hk : k < S ∨ S + N ≤ k) (j : Nat) : σ2.1 k j = σ.1 k j := by rw [h.2 k j, if_neg (by omega)]
theorem cp_in {N S B : Nat} {m : Nat → Nat → Bool} {σ σ2 : zSto} (h : cpM N S B m σ σ2) {i : Nat} (hi : i < N) {j : Nat} (hm : m i j = true) : σ2.1 (S + i) j = σ.1 (B + i) j := by
  have e : S + i - S = i := by omega
  rw [h.2 (S + i) j, e, if_pos ⟨by omega, by omega, hm⟩]
theorem mskL_7 {r : Nat} (h : r < 6) : mskL 7 r = true := by simp [mskL, h]
/-- a Line copied to a Line that holds what is told (or the trial) -/
theorem zRel_L {w : Nat} {σ σ2 : zSto} {t b : Nat} (R : zRel w σ) (ht : isS t) (h : cpM 12 t b mskL σ σ2) (hr : ti (σ.1 b 12) ≤ 6) (h1 : ∀ S l, isZ S → l < 2 → t = S + 3 + 12 * l → (l : Int) < ti (σ.1 (S + 41) 0) → 1 ≤ ti (σ.1 b 11)) (h2 : ∀ r : Nat, (r : Int) < ti (σ.1 b 12) → ti (σ.1 (b + 7) r) ≤ 15) : zRel w σ2 := by
  have p11 : σ2.1 t 11 = σ.1 b 11 := cp_in (i := 0) h (by decide) (by decide)
  have p12 : σ2.1 t 12 = σ.1 b 12 := cp_in (i := 0) h (by decide) (by decide)
  obtain ⟨R1, R2, R3, R4, R5⟩ := R
  refine ⟨fun S hS l hl q => ?_, fun t' ht' r q => ?_, fun hw q r q2 => ?_, fun i l hi hl q => ?_, zTold_of' (fun k j _ b => cp_out h (by unfold isS at ht; omega) j) R5⟩
  · rw [cp_out h (by unfold isS at ht; unfold isZ at hS; omega)] at q
    by_cases c : t = S + 3 + 12 * l
    · rw [← c, p11]
      exact h1 S l hS hl c q
    · rw [cp_out h (by unfold isS at ht; unfold isZ at hS; omega)]
      exact R1 S hS l hl q
  · by_cases c : t' = t
    · subst c
      rw [p12] at q
      rw [cp_in (i := 7) h (by decide) (mskL_7 (by omega))]
      exact h2 r q
    · rw [cp_out h (by unfold isS at ht ht'; omega)] at q
      rw [cp_out h (by unfold isS at ht ht'; omega)]
      exact R2 t' ht' r q
  · rw [cp_out h (by unfold isS at ht; omega)] at q q2
    rw [cp_out h (by unfold isS at ht; omega)]
    exact R3 hw q r q2
  · rw [cp_out h (by unfold isS at ht; omega)] at q
    rw [cp_out h (by unfold isS at ht; omega)]
    exact R4 i l hi hl q
theorem zRel_out {w : Nat} {σ σ2 : zSto} (R : zRel w σ) (h : ∀ k j, rl k j = true → σ2.1 k j = σ.1 k j) : zRel w σ2 := zRel_of h R
/-- the trial -/
theorem s_copyTrial {A : Nat → Nat → Prop} {F : Nat → Nat → Int32} {w : Nat} (pc : okC A) (t : Nat) (ht : isN t) {σ : zSto} (I : zInv A F w σ) {P : zSto → Prop} (hP : ∀ σ2, zInv A F w σ2 → P σ2) : w_X0_copyFrom 210 t σ P := by
  refine f_X0_copyFrom 210 t (by unfold isN at ht; omega) (fun σ2 h => hP σ2 ?_)
  have hr : 0 ≤ ti (σ.1 t 12) ∧ ti (σ.1 t 12) ≤ 6 := rdr I (isT_0 (isN_T ht)) rfl rfl
  refine inv_cp I h ?_ (fun i j hi => pC pc (by omega)) (zRel_L I.2.2 (by unfold isS; omega) h hr.2 (fun S l hS hl e => by unfold isZ at hS; omega) (fun r q => I.2.2.2.1 t (isT_S (isN_T ht)) r q))
  intro i hi
  rcases ht with e | e <;> subst e
  · revert i; decide
  · revert i; decide
set_option maxHeartbeats 4000000 in
theorem s_X9_bestChoice_11 {A : Nat → Nat → Prop} {F : Nat → Nat → Int32} {w : Nat} (pc : okC A) (x_1 x_2 x_3 : Int32) (q_4 : Nat) (hb : q_4 = 218 ∨ q_4 = 220 ∨ q_4 = 221) (x_6 : Int32) (h2 : 0 ≤ ti x_2 ∧ ti x_2 ≤ 5) (h6 : ti x_6 ≤ 200) {P : Int32 → zSto → Prop} (hP : ∀ r σ2, zInv A F w σ2 → P r σ2) : ∀ (n : Nat) (x_7 x_8 x_9 : Int32) (σ : zSto), zInv A F w σ → (0 ≤ ti x_9 ∧ ti x_9 ≤ 201) → (201 - ti x_9 < n) → w_X9_bestChoice_11 x_1 x_2 x_3 q_4 6 x_6 P n x_7 x_8 x_9 σ := by
  have l1 := lit_1
  intro n
  induction n with
  | zero => intro x_7 x_8 x_9 σ I h hm; exfalso; omega
  | succ n ih =>
    intro x_7 x_8 x_9 σ I h hm
    unfold w_X9_bestChoice_11
    refine ⟨fun _ => hP _ σ I, fun q => ⟨vin (by omega), fun σ2 e2 => ?_⟩⟩
    have c := nlt_t q
    have t := tadd (x := x_9) (y := (1 : Int32)) (by omega)
    have I2 : zInv A F w σ2 := by
      rw [e2]
      rcases hb with e | e | e <;> subst e
      · exact wI0 I (pC pc (by decide)) rk_218 kd_218
      · exact wI0 I (pC pc (by decide)) rk_220 kd_220
      · exact wI0 I (pC pc (by decide)) rk_221 kd_221
    refine s_X5_byLaw pc 210 x_3 (0 : Int32) x_1 (-1 : Int32) (by unfold isT; omega) I2 (fun σ3 I3 => ?_)
    refine ⟨vin (by omega), fun q2 x5 e5 => ?_, fun q2 => ⟨vin (by omega), fun x7 e7 x8 e8 => ?_⟩⟩
    · have := eq_t e5
      exact ih x_7 x_8 x5 σ3 I3 (by omega) (by omega)
    · have := eq_t e8
      exact ih x_9 x7 x8 σ3 I3 (by omega) (by omega)
theorem s_X9_bestChoice {A : Nat → Nat → Prop} {F : Nat → Nat → Int32} {w : Nat} (pc : okC A) (a1 a2 a3 : Int32) (b4 : Nat) (a5 a6 : Int32) (hb : b4 = 218 ∨ b4 = 220 ∨ b4 = 221) (h2 : 0 ≤ ti a2 ∧ ti a2 ≤ 5) (h5 : 0 ≤ ti a5 ∧ ti a5 ≤ 201) (h6 : ti a6 ≤ 200) {σ : zSto} (I : zInv A F w σ) {P : Int32 → zSto → Prop} (hP : ∀ r σ2, zInv A F w σ2 → P r σ2) : w_X9_bestChoice a1 a2 a3 b4 6 a5 a6 σ P := by
  unfold w_X9_bestChoice
  exact ⟨1000, s_X9_bestChoice_11 pc a1 a2 a3 b4 hb a6 h2 h6 hP 1000 a5 (-1 : Int32) a5 σ I h5 (by omega)⟩
