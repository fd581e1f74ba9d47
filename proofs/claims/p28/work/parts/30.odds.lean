theorem mul_bd {x y : Int} (h1 : 0 ≤ x) (h2 : x ≤ 100000000000000) (h3 : 0 ≤ y) (h4 : y ≤ 10) : 0 ≤ x * y ∧ x * y ≤ 1000000000000000 := by
  refine ⟨Int.mul_nonneg h1 h3, ?_⟩
  have := Int.mul_le_mul h2 h4 h3 (by decide)
  omega
theorem p10 : ∀ p : Fin 16, (1 : Int) ≤ 10 ^ p.val ∧ (10 : Int) ^ p.val ≤ 1000000000000000 := by decide
theorem p10' : ∀ p : Fin 15, (10 : Int) ^ p.val ≤ 100000000000000 := by decide
set_option maxHeartbeats 4000000 in
theorem s_X10_findOdds_65 {A : Nat → Nat → Prop} {F : Nat → Nat → Int32} {w : Nat} (x_1 x_2 x_3 : Int32) (hx2 : 0 ≤ ti x_2 ∧ ti x_2 ≤ 14) (h3 : 0 ≤ ti x_3 ∧ ti x_3 ≤ 10) {P : zSto → Prop} {K : Int32 → zSto → Prop} {σ0 : zSto} (I0 : zInv A F w σ0) (c : Nat) (hc : ti (σ0.1 237 x_2.toNatClampNeg) = (c : Int)) (hc2 : c ≤ 75) (hB : ∀ j, j < 1200 → 0 ≤ tl (σ0.2 245 j) ∧ tl (σ0.2 245 j) ≤ 100000000000000) (hK : ∀ z σ2, z = x_2 + (1 : Int32) → σ2.1 = σ0.1 → (∀ k j, k ≠ 245 → σ2.2 k j = σ0.2 k j) → (∀ j, j < 1200 → tl (σ2.2 245 j) = tl (σ0.2 245 j) * (10 - ti x_3) + (if c ≤ j then tl (σ0.2 245 (j - c)) * ti x_3 else 0)) → K z σ2) : ∀ (n : Nat) (x_4 : Int32) (σ : zSto), σ.1 = σ0.1 → (∀ k j, k ≠ 245 → σ.2 k j = σ0.2 k j) → (∀ j : Nat, (j : Int) ≤ ti x_4 → σ.2 245 j = σ0.2 245 j) → (∀ j : Nat, j < 1200 → ti x_4 < j → tl (σ.2 245 j) = tl (σ0.2 245 j) * (10 - ti x_3) + (if c ≤ j then tl (σ0.2 245 (j - c)) * ti x_3 else 0)) → (-1 ≤ ti x_4 ∧ ti x_4 ≤ 1199) → (ti x_4 + 1 < n) → w_X10_findOdds_65 x_1 x_2 x_3 P K n x_4 σ := by
  have l0 := lit_0
  have l10 := lit_10
  have lm := lit_m1
  have t10 := tsub (x := (10 : Int32)) (y := x_3) (by omega)
  intro n
  induction n with
  | zero => intro x_4 σ g1 g2 g3 g4 h hm; exfalso; omega
  | succ n ih =>
    intro x_4 σ g1 g2 g3 g4 h hm
    unfold w_X10_findOdds_65
    refine ⟨fun q x6 e6 => ?_, fun q => ?_⟩
    · have c1 := lt_t q
      exact hK x6 σ e6 g1 g2 (fun j hj => g4 j hj (by omega))
    · have c1 := nlt_t q
      have t4 := tadd (x := x_4) (y := (-1 : Int32)) (by omega)
      have n4 := tn_eq x_4
      obtain ⟨m, hm4⟩ : ∃ m, m = x_4.toNatClampNeg := ⟨_, rfl⟩
      have e0 : σ.2 245 m = σ0.2 245 m := g3 m (by omega)
      have b0 := hB m (by omega)
      have p0 := mul_bd b0.1 b0.2 (show 0 ≤ 10 - ti x_3 by omega) (by omega)
      have v1 : tl (σ.2 245 m * ((10 : Int32) - x_3).toInt64) = tl (σ0.2 245 m) * (10 - ti x_3) := by
        have e : tl (σ.2 245 m) * tl ((10 : Int32) - x_3).toInt64 = tl (σ0.2 245 m) * (10 - ti x_3) := by rw [e0, tl_i, t10, l10]
        rw [tl_mul (by rw [e]; omega), e]
      have step : ∀ (σ' : zSto) (v : Int64) (x' : Int32), σ' = zJ σ 245 m v → tl v = tl (σ0.2 245 m) * (10 - ti x_3) + (if c ≤ m then tl (σ0.2 245 (m - c)) * ti x_3 else 0) → x' = x_4 + (-1 : Int32) → w_X10_findOdds_65 x_1 x_2 x_3 P K n x' σ' := by
        intro σ' v x' e' hv ex'
        have t5 := eq_t ex'
        refine ih x' σ' (by rw [e']; exact g1) (fun k j hk => ?_) (fun j hj => ?_) (fun j hj hj2 => ?_) (by omega) (by omega)
        · rw [e', zJ_q (Or.inl hk)]; exact g2 k j hk
        · rw [e', zJ_q (Or.inr (by omega))]; exact g3 j (by omega)
        · by_cases c3 : j = m
          · subst c3; rw [e', zJ_s]; exact hv
          · rw [e', zJ_q (Or.inr c3)]; exact g4 j hj (by omega)
      refine ⟨vin (by omega), vin (by omega), fun q2 => ⟨vin (by omega), fun σ10 e10 x11 e11 => ?_⟩, fun q2 => ?_⟩
      · have c2 := lt_t q2
        rw [g1, hc] at c2
        rw [← hm4] at e10
        refine step σ10 _ x11 e10 ?_ e11
        rw [tl_add (by rw [v1, tl_0]; omega), v1, tl_0, if_neg (by omega)]
      · have c2 := nlt_t q2
        rw [g1, hc] at c2
        have ts : ti (x_4 - σ.1 237 x_2.toNatClampNeg) = ti x_4 - (c : Int) := by rw [tsub (by rw [g1, hc]; omega), g1, hc]
        have ns := tn_eq (x_4 - σ.1 237 x_2.toNatClampNeg)
        refine ⟨vin (by omega), vin (by omega), vin (by omega), fun σ15 e15 x16 e16 => ?_⟩
        rw [← hm4, show (x_4 - σ.1 237 x_2.toNatClampNeg).toNatClampNeg = m - c by omega] at e15
        refine step σ15 _ x16 e15 ?_ e16
        have b1 := hB (m - c) (by omega)
        have p1 := mul_bd b1.1 b1.2 h3.1 h3.2
        have v2 : tl (σ.2 245 (m - c) * x_3.toInt64) = tl (σ0.2 245 (m - c)) * ti x_3 := by
          have e : tl (σ.2 245 (m - c)) * tl x_3.toInt64 = tl (σ0.2 245 (m - c)) * ti x_3 := by rw [g3 (m - c) (by omega), tl_i]
          rw [tl_mul (by rw [e]; omega), e]
        rw [tl_add (by rw [v1, v2]; omega), v1, v2, if_pos (by omega)]
/-- the ways, POSTS ahead of p taken in -/
def Od (p : Nat) (σ : zSto) : Prop := tl (σ.2 223 42) = 10 ^ p ∧ (∀ j, j < 1200 → 0 ≤ tl (σ.2 245 j)) ∧ (∀ j, 75 * p < j → j < 1200 → tl (σ.2 245 j) = 0) ∧ smI (fun j => tl (σ.2 245 j)) 1200 = 10 ^ p
set_option maxHeartbeats 4000000 in
theorem s_X10_findOdds_36 {A : Nat → Nat → Prop} {F : Nat → Nat → Int32} {w : Nat} (x_1 : Int32) (h1 : 0 ≤ ti x_1 ∧ ti x_1 ≤ 15) {P : zSto → Prop} {σ0 : zSto} (I0 : zInv A F w σ0) (hP : ∀ σ2, σ2.1 = σ0.1 → (∃ p, p ≤ 15 ∧ Od p σ2) → P σ2) : ∀ (n : Nat) (x_2 : Int32) (p : Nat) (σ : zSto), ti x_2 = (p : Int) → (p : Int) ≤ ti x_1 → σ.1 = σ0.1 → Od p σ → (15 - (p : Int) < n) → w_X10_findOdds_36 x_1 P n x_2 σ := by
  have l1 := lit_1
  have l3 := lit_3
  intro n
  induction n with
  | zero => intro x_2 p σ hp hp2 g1 O hm; exfalso; omega
  | succ n ih =>
    intro x_2 p σ hp hp2 g1 O hm
    unfold w_X10_findOdds_36
    have Iσ : zInv A F w σ := by
      have : σ = (σ.1, σ.2) := rfl
      rw [this, g1]
      exact I0
    refine ⟨fun q => hP σ g1 ⟨p, by omega, O⟩, fun q => ?_⟩
    have c := nle_t q
    obtain ⟨O1, O2, O3, O4⟩ := O
    refine s_X10_postOf x_2 (3 : Int32) (by omega) (by omega) Iσ (fun r4 _ _ p3 => ?_)
    have hr := p3 l3
    intro σ5 e5
    have f5 : σ5.1 = σ.1 := by rw [e5]; rfl
    have k5 : ∀ j, σ5.2 245 j = σ.2 245 j := fun j => by rw [e5, zJ_q (Or.inl (by decide))]
    have pb := p10' ⟨p, by omega⟩
    have pb' : (10 : Int) ^ p ≤ 100000000000000 := pb
    have pc := (p10 ⟨p, by omega⟩).1
    have pc' : (1 : Int) ≤ 10 ^ p := pc
    have a5 : tl (σ5.2 223 42) = 10 ^ (p + 1) := by
      have e : tl (σ.2 223 42) * tl (10 : Int64) = 10 ^ (p + 1) := by rw [O1, tl_10, Int.pow_succ]
      have b : (10 : Int) ^ (p + 1) = 10 ^ p * 10 := Int.pow_succ _ _
      rw [e5, zJ_s, tl_mul (by rw [e, b]; omega), e]
    have I5 : zInv A F w σ5 := by rw [e5]; exact wJ Iσ
    have dc : 0 ≤ ti (σ5.1 237 x_2.toNatClampNeg) ∧ ti (σ5.1 237 x_2.toNatClampNeg) ≤ 75 := rdr I5 kd_237 rfl rfl
    obtain ⟨cc, hcc⟩ : ∃ cc : Nat, ti (σ5.1 237 x_2.toNatClampNeg) = (cc : Int) := ⟨(ti (σ5.1 237 x_2.toNatClampNeg)).toNat, by omega⟩
    refine ⟨2000, s_X10_findOdds_65 x_1 x_2 r4 (by omega) hr I5 cc hcc (by omega) (fun j hj => ?_) (fun z σ2 hz g1' g2' g3' => ?_) 2000 (1199 : Int32) σ5 rfl (fun _ _ _ => rfl) (fun _ _ => rfl) (fun j hj h2 => by rw [lit_1199] at h2; omega) (by rw [lit_1199]; omega) (by rw [lit_1199]; omega)⟩
    · rw [k5 j]
      have := smI_le 1200 O2 j hj
      exact ⟨O2 j hj, by omega⟩
    · have t := tadd (x := x_2) (y := (1 : Int32)) (by omega)
      have t2 := eq_t hz
      have g4' : ∀ j, j < 1200 → tl (σ2.2 245 j) = tl (σ.2 245 j) * (10 - ti r4) + (if cc ≤ j then tl (σ.2 245 (j - cc)) * ti r4 else 0) := by
        intro j hj
        rw [g3' j hj, k5 j, k5 (j - cc)]
      refine ih z (p + 1) σ2 (by omega) (by omega) (by rw [g1', f5]; exact g1) ⟨?_, fun j hj => ?_, fun j hj hj2 => ?_, ?_⟩ (by omega)
      · rw [g2' 223 42 (by decide)]; exact a5
      · rw [g4' j hj]
        have q1 := Int.mul_nonneg (O2 j hj) (show 0 ≤ 10 - ti r4 by omega)
        by_cases c3 : cc ≤ j
        · rw [if_pos c3]
          have q2 := Int.mul_nonneg (O2 (j - cc) (by omega)) hr.1
          omega
        · rw [if_neg c3]; omega
      · rw [g4' j hj2, O3 j (by omega) hj2]
        by_cases c3 : cc ≤ j
        · rw [if_pos c3, O3 (j - cc) (by omega) (by omega)]
          simp
        · rw [if_neg c3]; simp
      · rw [smI_congr 1200 g4', smI_lin (f := fun j => tl (σ.2 245 j)) 1200, O4, smI_tail (t := 75 * p + 1) (f := fun j => tl (σ.2 245 j)) (1200 - cc) (fun j h1 h2 => O3 j (by omega) (by omega)) (by omega), ← smI_tail (t := 75 * p + 1) (f := fun j => tl (σ.2 245 j)) 1200 (fun j h1 h2 => O3 j (by omega) h2) (by omega), O4, Int.pow_succ, ← Int.mul_add]
        rw [show 10 - ti r4 + ti r4 = 10 by omega]
set_option maxHeartbeats 4000000 in
theorem s_X10_findOdds_2 {A : Nat → Nat → Prop} {F : Nat → Nat → Int32} {w : Nat} (x_1 : Int32) (h1 : 0 ≤ ti x_1 ∧ ti x_1 ≤ 15) {P : zSto → Prop} {σ0 : zSto} (I0 : zInv A F w σ0) (hP : ∀ σ2, σ2.1 = σ0.1 → (∃ p, p ≤ 15 ∧ Od p σ2) → P σ2) : ∀ (n : Nat) (x_2 : Int32) (σ : zSto), σ.1 = σ0.1 → (0 ≤ ti x_2 ∧ ti x_2 ≤ 1200) → (∀ j : Nat, (j : Int) < ti x_2 → tl (σ.2 245 j) = 0) → (1200 - ti x_2 < n) → w_X10_findOdds_2 x_1 P n x_2 σ := by
  have l0 := lit_0
  have l1 := lit_1
  have l1200 := lit_1200
  intro n
  induction n with
  | zero => intro x_2 σ g1 h hz hm; exfalso; omega
  | succ n ih =>
    intro x_2 σ g1 h hz hm
    unfold w_X10_findOdds_2
    refine ⟨fun q σ1 e1 σ2 e2 => ⟨100, ?_⟩, fun q => ⟨?_, fun σ18 e18 x19 e19 => ?_⟩⟩
    · have c := le_t q
      have f0 : tl (σ2.2 245 0) = 1 := by rw [e2, zJ_q (Or.inl (by decide)), e1, zJ_s]; exact tl_1
      have fj : ∀ j, 0 < j → j < 1200 → tl (σ2.2 245 j) = 0 := fun j hj hj2 => by rw [e2, zJ_q (Or.inl (by decide)), e1, zJ_q (Or.inr (by omega))]; exact hz j (by omega)
      refine s_X10_findOdds_36 x_1 h1 I0 hP 100 (0 : Int32) 0 σ2 l0 (by omega) (by rw [e2, e1]; exact g1) ⟨?_, fun j hj => ?_, fun j hj hj2 => fj j (by omega) hj2, ?_⟩ (by omega)
      · rw [e2, zJ_s]; exact tl_1
      · by_cases c2 : j = 0
        · subst c2; rw [f0]; decide
        · rw [fj j (by omega) hj]; decide
      · rw [smI_tail (t := 1) (f := fun j => tl (σ2.2 245 j)) 1200 (fun j h1 h2 => fj j (by omega) h2) (by decide)]
        show 0 + tl (σ2.2 245 0) = 1
        rw [f0]; rfl
    · have c := nle_t q
      exact vin (by omega)
    · have c := nle_t q
      have t := tadd (x := x_2) (y := (1 : Int32)) (by omega)
      have t2 := eq_t e19
      have nx := tn_eq x_2
      refine ih x19 σ18 (by rw [e18]; exact g1) (by omega) (fun j hj => ?_) (by omega)
      rw [e18]
      by_cases c2 : j = x_2.toNatClampNeg
      · subst c2; rw [zJ_s]; exact tl_0
      · rw [zJ_q (Or.inr c2)]; exact hz j (by omega)
theorem s_X10_findOdds {A : Nat → Nat → Prop} {F : Nat → Nat → Int32} {w : Nat} (a1 : Int32) (h1 : 0 ≤ ti a1 ∧ ti a1 ≤ 15) {σ : zSto} (I : zInv A F w σ) {P : zSto → Prop} (hP : ∀ σ2, zInv A F w σ2 → (∃ p, p ≤ 15 ∧ Od p σ2) → P σ2) : w_X10_findOdds a1 σ P := by
  unfold w_X10_findOdds
  have l0 := lit_0
  refine ⟨2000, s_X10_findOdds_2 a1 h1 I (fun σ2 g O => hP σ2 ?_ O) 2000 (0 : Int32) σ rfl (by omega) (fun j hj => by omega) (by omega)⟩
  have : σ2 = (σ2.1, σ2.2) := rfl
  rw [this, g]
  exact I
set_option maxHeartbeats 4000000 in
theorem s_X10_enough_10 {σ : zSto} (x_1 : Int32) (h1 : 0 ≤ ti x_1 ∧ ti x_1 ≤ 100) (p : Nat) (hp : p ≤ 15) (O : Od p σ) {P : Int32 → zSto → Prop} (hP : ∀ r, P r σ) : ∀ (n : Nat) (x_2 : Int64) (x_4 : Int32) (m : Nat), ti x_4 = (m : Int) → m < 1200 → tl x_2 = smI (fun j => tl (σ.2 245 j)) (m + 1) → (1200 - (m : Int) < n) → w_X10_enough_10 x_1 P n x_2 x_4 σ := by
  have l1 := lit_1
  obtain ⟨O1, O2, O3, O4⟩ := O
  have pb := p10 ⟨p, by omega⟩
  have pb1 : (1 : Int) ≤ 10 ^ p := pb.1
  have pb2 : (10 : Int) ^ p ≤ 1000000000000000 := pb.2
  intro n
  induction n with
  | zero => intro x_2 x_4 m h2 h3 h4 hm; exfalso; omega
  | succ n ih =>
    intro x_2 x_4 m h2 h3 h4 hm
    unfold w_X10_enough_10
    refine ⟨fun _ => hP _, fun q x2 e2 => ?_⟩
    have c := lgc_lt q
    have u1 := smI_nn (f := fun j => tl (σ.2 245 j)) (m + 1) (fun j hj => O2 j (by omega))
    have u2 := smI_mono (f := fun j => tl (σ.2 245 j)) 1200 (m + 1) (by omega) O2
    have t := tadd (x := x_4) (y := (1 : Int32)) (by omega)
    have t2 := eq_t e2
    have nx := tn_eq x2
    have e100 : tl (x_2 * (100 : Int64)) = tl x_2 * 100 := by rw [tl_mul (by rw [tl_100]; omega), tl_100]
    have q0 : 0 ≤ (10 : Int) ^ p * ti x_1 := Int.mul_nonneg (by omega) h1.1
    have q1 : (10 : Int) ^ p * ti x_1 ≤ 10 ^ p * 100 := Int.mul_le_mul_of_nonneg_left h1.2 (by omega)
    have eq : tl (σ.2 223 42 * x_1.toInt64) = 10 ^ p * ti x_1 := by rw [tl_mul (by rw [O1, tl_i]; omega), O1, tl_i]
    rw [e100, eq] at c
    have hm2 : m + 1 < 1200 := by
      by_cases c2 : m + 1 < 1200
      · exact c2
      · exfalso
        have : m + 1 = 1200 := by omega
        rw [this, O4] at h4
        omega
    refine ⟨vin (by omega), fun x4 e4 => ?_⟩
    have v0 := O2 (m + 1) (by omega)
    have v1 := smI_mono (f := fun j => tl (σ.2 245 j)) 1200 (m + 2) (by omega) O2
    have v2 : smI (fun j => tl (σ.2 245 j)) (m + 2) = smI (fun j => tl (σ.2 245 j)) (m + 1) + tl (σ.2 245 (m + 1)) := rfl
    rw [show x2.toNatClampNeg = m + 1 by omega] at e4
    refine ih x4 x2 (m + 1) (by omega) hm2 ?_ (by omega)
    rw [e4, tl_add (by omega), h4]
    rfl
theorem s_X10_enough {A : Nat → Nat → Prop} {F : Nat → Nat → Int32} {w : Nat} (a1 : Int32) (h1 : 0 ≤ ti a1 ∧ ti a1 ≤ 100) {σ : zSto} (_I : zInv A F w σ) (O : ∃ p, p ≤ 15 ∧ Od p σ) {P : Int32 → zSto → Prop} (hP : ∀ r, P r σ) : w_X10_enough a1 σ P := by
  obtain ⟨p, hp, O⟩ := O
  unfold w_X10_enough
  intro x1 e1
  refine ⟨2000, s_X10_enough_10 a1 h1 p hp O hP 2000 x1 (0 : Int32) 0 lit_0 (by decide) ?_ (by decide)⟩
  rw [e1]
  show _ = 0 + tl (σ.2 245 0)
  omega
set_option maxHeartbeats 4000000 in
theorem s_X10_chance_98 {A : Nat → Nat → Prop} {F : Nat → Nat → Int32} {w : Nat} (x_2 x_3 : Int32) (h2 : ti x_2 ≤ 999) {σ : zSto} (I : zInv A F w σ) (p : Nat) (hp : p ≤ 15) (O : Od p σ) {P : Int64 → zSto → Prop} (hP : ∀ r σ2, zInv A F w σ2 → P r σ2) : ∀ (n : Nat) (x_4 : Int64) (x_6 : Int32) (m : Nat), ti x_6 = (m : Int) → m ≤ 1000 → tl x_4 = smI (fun j => tl (σ.2 245 j)) m → (1000 - (m : Int) < n) → w_X10_chance_98 x_2 x_3 P n x_4 x_6 σ := by
  have l1 := lit_1
  obtain ⟨O1, O2, O3, O4⟩ := O
  have pb := p10 ⟨p, by omega⟩
  have pb1 : (1 : Int) ≤ 10 ^ p := pb.1
  have pb2 : (10 : Int) ^ p ≤ 1000000000000000 := pb.2
  intro n
  induction n with
  | zero => intro x_4 x_6 m g1 g2 g3 hm; exfalso; omega
  | succ n ih =>
    intro x_4 x_6 m g1 g2 g3 hm
    unfold w_X10_chance_98
    have u1 := smI_nn (f := fun j => tl (σ.2 245 j)) m (fun j hj => O2 j (by omega))
    refine ⟨fun q => s_X10_part _ _ _ (by omega) (by omega) (fun r => hP _ σ I), fun q => ?_⟩
    have c := nlt_t q
    have t := tadd (x := x_6) (y := (1 : Int32)) (by omega)
    have nx := tn_eq x_6
    refine ⟨vin (by omega), fun x10 e10 x11 e11 => ?_⟩
    have t2 := eq_t e11
    have v0 := O2 m (by omega)
    have v1 := smI_mono (f := fun j => tl (σ.2 245 j)) 1200 (m + 1) (by omega) O2
    have v2 : smI (fun j => tl (σ.2 245 j)) (m + 1) = smI (fun j => tl (σ.2 245 j)) m + tl (σ.2 245 m) := rfl
    rw [show x_6.toNatClampNeg = m by omega] at e10
    refine ih x10 x11 (m + 1) (by omega) (by omega) ?_ (by omega)
    rw [e10, tl_add (by omega), g3]
    rfl
set_option maxHeartbeats 4000000 in
theorem s_X10_chance_40 {A : Nat → Nat → Prop} {F : Nat → Nat → Int32} {w : Nat} (x_3 : Int32) {σ : zSto} (I : zInv A F w σ) {P : Int64 → zSto → Prop} (hP : ∀ r σ2, zInv A F w σ2 → P r σ2) : ∀ (n : Nat) (x_4 : Int64) (x_6 : Int32), (0 ≤ ti x_6 ∧ ti x_6 ≤ 15) → (0 ≤ tl x_4 ∧ tl x_4 ≤ 750 * ti x_6) → (15 - ti x_6 < n) → w_X10_chance_40 x_3 P n x_4 x_6 σ := by
  have l1 := lit_1
  have l3 := lit_3
  have d25 : 0 ≤ ti (σ.1 223 25) ∧ ti (σ.1 223 25) ≤ 15 := rdr I kd_223 rfl rfl
  intro n
  induction n with
  | zero => intro x_4 x_6 g1 g2 hm; exfalso; omega
  | succ n ih =>
    intro x_4 x_6 g1 g2 hm
    unfold w_X10_chance_40
    refine ⟨fun q => s_X10_part _ _ _ g2.1 (by rw [tl_10]; decide) (fun r => hP _ σ I), fun q => ?_⟩
    have c := nle_t q
    have t := tadd (x := x_6) (y := (1 : Int32)) (by omega)
    refine ⟨vin (by omega), s_X10_postOf x_6 (3 : Int32) (by omega) (by omega) I (fun r16 _ _ p3 => ?_)⟩
    have hr := p3 l3
    intro x17 e17 x18 e18
    have t2 := eq_t e18
    have d : 0 ≤ ti (σ.1 237 x_6.toNatClampNeg) ∧ ti (σ.1 237 x_6.toNatClampNeg) ≤ 75 := rdr I kd_237 rfl rfl
    have q1 := Int.mul_nonneg d.1 hr.1
    have q2 := Int.mul_le_mul d.2 hr.2 hr.1 (show (0 : Int) ≤ 75 by decide)
    have e : tl ((σ.1 237 x_6.toNatClampNeg).toInt64 * r16.toInt64) = ti (σ.1 237 x_6.toNatClampNeg) * ti r16 := by
      rw [tl_mul (by rw [tl_i, tl_i]; omega), tl_i, tl_i]
    have e2 : tl x17 = tl x_4 + ti (σ.1 237 x_6.toNatClampNeg) * ti r16 := by rw [e17, tl_add (by rw [e]; omega), e]
    exact ih x17 x18 (by omega) (by omega) (by omega)
set_option maxHeartbeats 4000000 in
theorem s_X10_slack {A : Nat → Nat → Prop} {F : Nat → Nat → Int32} {w : Nat} (pr : okR A) (a1 a2 : Int32) {σ : zSto} (I : zInv A F w σ) {P : Int32 → zSto → Prop} (hP : ∀ r σ2, zInv A F w σ2 → P r σ2) : w_X10_slack a1 a2 σ P := by
  unfold w_X10_slack
  have l0 := lit_0
  have l100 := lit_100
  intro σ1 e1
  have I1 : zInv A F w σ1 := by rw [e1]; exact wIr I (pRo pr (by decide)) (by decide) kd_223 rfl rfl (full32 _)
  refine s_X10_in a2 (0 : Int32) (100 : Int32) I1 (fun r3 z3 => ?_)
  intro b3
  refine ⟨fun q => hP _ σ1 I1, fun q3 => ?_⟩
  have hz := z3 q3
  refine s_X10_hand pr a1 (0 : Int32) I1 (fun r5 σ4 I4 _ => ?_)
  intro b5
  refine ⟨fun q => ?_, fun q => hP _ σ4 I4⟩
  have d25 : 0 ≤ ti (σ4.1 223 25) ∧ ti (σ4.1 223 25) ≤ 15 := rdr I4 kd_223 rfl rfl
  refine s_X10_findOdds _ d25 I4 (fun σ6 I6 O => ?_)
  exact s_X10_enough a2 (by omega) I6 O (fun r => hP _ σ6 I6)
set_option maxHeartbeats 4000000 in
theorem s_X10_print_59 {A : Nat → Nat → Prop} {F : Nat → Nat → Int32} {w : Nat} (x_2 : Int32) (h2 : ti x_2 ≤ 15) {σ : zSto} (I : zInv A F w σ) {P : Int32 → zSto → Prop} (hP : ∀ r σ2, zInv A F w σ2 → P r σ2) : ∀ (n : Nat) (x_4 x_5 : Int32), (0 ≤ ti x_5 ∧ ti x_5 ≤ 15) → (15 - ti x_5 < n) → w_X10_print_59 x_2 P n x_4 x_5 σ := by
  have l1 := lit_1
  intro n
  induction n with
  | zero => intro x_4 x_5 h hm; exfalso; omega
  | succ n ih =>
    intro x_4 x_5 h hm
    unfold w_X10_print_59
    refine ⟨fun q => hP _ σ I, fun q => ?_⟩
    have c := nle_t q
    have t := tadd (x := x_5) (y := (1 : Int32)) (by omega)
    refine ⟨vin (by omega), fun x14 e14 x15 e15 => ?_⟩
    have t2 := eq_t e15
    exact ih x14 x15 (by omega) (by omega)
set_option maxHeartbeats 4000000 in
theorem s_X10_print {A : Nat → Nat → Prop} {F : Nat → Nat → Int32} {w : Nat} (pr : okR A) (a1 a2 a3 : Int32) {σ : zSto} (I : zInv A F w σ) {P : Int32 → zSto → Prop} (hP : ∀ r σ2, zInv A F w σ2 → P r σ2) : w_X10_print a1 a2 a3 σ P := by
  unfold w_X10_print
  have l0 := lit_0
  have l4 := lit_4
  have l100 := lit_100
  intro σ1 e1
  have I1 : zInv A F w σ1 := by rw [e1]; exact wIr I (pRo pr (by decide)) (by decide) kd_223 rfl rfl (full32 _)
  refine s_X10_in a3 (0 : Int32) (100 : Int32) I1 (fun r3 z3 => ?_)
  intro b3
  refine ⟨fun q => hP _ σ1 I1, fun q3 => ?_⟩
  have hz := z3 q3
  refine s_X10_hand pr a1 (0 : Int32) I1 (fun r5 σ4 I4 _ => ?_)
  intro b5
  refine ⟨fun q => hP _ σ4 I4, fun q => ?_⟩
  refine s_X10_isPost a2 I4 (fun r7 z7 => ?_)
  intro b7
  refine ⟨fun q => hP _ σ4 I4, fun q7 => ?_⟩
  have h7 := z7 q7
  refine s_X10_postOf a2 (4 : Int32) (by omega) (by omega) I4 (fun r9 _ _ _ => ⟨fun _ => ?_, fun _ => hP _ σ4 I4⟩)
  refine s_X10_findOdds a2 (by omega) I4 (fun σ10 I10 O => ?_)
  exact s_X10_enough a3 (by omega) I10 O (fun r => ⟨100, s_X10_print_59 a2 (by omega) I10 hP 100 r (0 : Int32) (by omega) (by omega)⟩)
set_option maxHeartbeats 4000000 in
theorem s_X10_chance {A : Nat → Nat → Prop} {F : Nat → Nat → Int32} {w : Nat} (pr : okR A) (a1 a2 a3 : Int32) {σ : zSto} (I : zInv A F w σ) {P : Int64 → zSto → Prop} (hP : ∀ r σ2, zInv A F w σ2 → P r σ2) : w_X10_chance a1 a2 a3 σ P := by
  unfold w_X10_chance
  have l0 := lit_0
  have l999 := lit_999
  intro σ1 e1
  have I1 : zInv A F w σ1 := by rw [e1]; exact wIr I (pRo pr (by decide)) (by decide) kd_223 rfl rfl (full32 _)
  refine s_X10_in a2 (-1 : Int32) (999 : Int32) I1 (fun r3 z3 => ?_)
  intro b3
  refine ⟨fun q => hP _ σ1 I1, fun q3 => ?_⟩
  have hz := z3 q3
  refine s_X10_hand pr a1 (0 : Int32) I1 (fun r5 σ4 I4 _ => ?_)
  intro b5
  refine ⟨fun q => ⟨fun q2 => ?_, fun q2 => ⟨100, s_X10_chance_40 a3 I4 hP 100 (0 : Int64) (0 : Int32) (by omega) (by rw [tl_0]; omega) (by omega)⟩⟩, fun q => hP _ σ4 I4⟩
  have d25 : 0 ≤ ti (σ4.1 223 25) ∧ ti (σ4.1 223 25) ≤ 15 := rdr I4 kd_223 rfl rfl
  refine s_X10_findOdds _ d25 I4 (fun σ6 I6 O => ?_)
  obtain ⟨p, hp, O⟩ := O
  exact ⟨2000, s_X10_chance_98 a2 a3 (by omega) I6 p hp O hP 2000 (0 : Int64) (0 : Int32) 0 lit_0 (by decide) tl_0 (by decide)⟩
