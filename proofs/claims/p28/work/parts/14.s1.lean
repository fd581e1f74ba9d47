set_option maxHeartbeats 4000000 in
theorem s_X5_begin_37 {A : Nat → Nat → Prop} {F : Nat → Nat → Int32} {w : Nat} (pc : okC A) (q_1 : Nat) (hT_q_1 : isT q_1) {P : zSto → Prop} (hP : ∀ (σ2 : zSto), zInv A F w σ2 → P σ2) : ∀ (n : Nat) (x_3 : Int32) (σ : zSto), zInv A F w σ → (0 ≤ ti (x_3) ∧ ti (x_3) ≤ 6) → (6 - (ti (x_3)) < n) → w_X5_begin_37 q_1 P n x_3 σ := by
  intro n
  induction n with
  | zero =>
    intro x_3 σ I h_x_3 hm
    exfalso
    omega
  | succ n ih =>
    intro x_3 σ I h_x_3 hm
    unfold w_X5_begin_37
    refine ⟨?_, ?_⟩
    · intro uq1
      have ud2 : 0 ≤ ti ((σ.1 q_1 12)) ∧ ti ((σ.1 q_1 12)) ≤ 6 := rdr I (isT_0 hT_q_1) rfl rfl
      have uc3 := le_t uq1
      intro σ1 eσ1
      have uI4 : zInv A F w σ1 := by rw [eσ1]; exact wI0 I (pC pc (by decide)) rk_190 kd_190
      intro σ2 eσ2
      have uI5 : zInv A F w σ2 := by rw [eσ2]; exact wI0 uI4 (pC pc (by decide)) rk_190 kd_190
      intro σ3 eσ3
      have uI6 : zInv A F w σ3 := by rw [eσ3]; exact wI0 uI5 (pC pc (by decide)) rk_190 kd_190
      intro σ4 eσ4
      have uI7 : zInv A F w σ4 := by rw [eσ4]; exact wI0 uI6 (pC pc (by decide)) rk_190 kd_190
      intro σ5 eσ5
      have uI8 : zInv A F w σ5 := by rw [eσ5]; exact wI0 uI7 (pC pc (by decide)) rk_190 kd_190
      intro σ6 eσ6
      have uI9 : zInv A F w σ6 := by rw [eσ6]; exact wI0 uI8 (pC pc (by decide)) rk_190 kd_190
      intro σ7 eσ7
      have uI10 : zInv A F w σ7 := by rw [eσ7]; exact wI0 uI9 (pC pc (by decide)) rk_190 kd_190
      exact hP σ7 uI10
    · intro uq11
      have ud12 : 0 ≤ ti ((σ.1 q_1 12)) ∧ ti ((σ.1 q_1 12)) ≤ 6 := rdr I (isT_0 hT_q_1) rfl rfl
      have uc13 := nle_t uq11
      refine ⟨vin (by omega), ?_⟩
      refine ⟨vin (by omega), ?_⟩
      intro σ10 eσ10
      have uI14 : zInv A F w σ10 := by rw [eσ10]; exact wI0 I (pC pc (by decide)) rk_194 kd_194
      refine ⟨vin (by omega), ?_⟩
      intro σ12 eσ12
      have uI15 : zInv A F w σ12 := by rw [eσ12]; exact wI0 uI14 (pC pc (by decide)) rk_193 kd_193
      intro x13 ex13
      have ul16 := lit_1
      have ut17 := tadd (x := x_3) (y := (1 : Int32)) (by omega)
      have ut18 := eq_t ex13
      exact ih x13 σ12 uI15 (by omega) (by omega)
set_option maxHeartbeats 4000000 in
theorem s_X5_begin_2 {A : Nat → Nat → Prop} {F : Nat → Nat → Int32} {w : Nat} (pc : okC A) (q_1 : Nat) (x_2 : Int32) (hT_q_1 : isT q_1) {P : zSto → Prop} (hP : ∀ (σ2 : zSto), zInv A F w σ2 → P σ2) : ∀ (n : Nat) (x_3 : Int32) (σ : zSto), zInv A F w σ → (0 ≤ ti (x_3) ∧ ti (x_3) ≤ 16) → (16 - (ti (x_3)) < n) → w_X5_begin_2 q_1 x_2 P n x_3 σ := by
  intro n
  induction n with
  | zero =>
    intro x_3 σ I h_x_3 hm
    exfalso
    omega
  | succ n ih =>
    intro x_3 σ I h_x_3 hm
    unfold w_X5_begin_2
    refine ⟨?_, ?_⟩
    · intro uq1
      have ud2 : 0 ≤ ti ((σ.1 q_1 11)) ∧ ti ((σ.1 q_1 11)) ≤ 16 := rdr I (isT_0 hT_q_1) rfl rfl
      have uc3 := le_t uq1
      refine ⟨70000, ?_⟩
      have ul4 := lit_0
      exact s_X5_begin_37 pc q_1 hT_q_1 hP 70000 (0 : Int32) σ I (by omega) (by omega)
    · intro uq5
      have ud6 : 0 ≤ ti ((σ.1 q_1 11)) ∧ ti ((σ.1 q_1 11)) ≤ 16 := rdr I (isT_0 hT_q_1) rfl rfl
      have uc7 := nle_t uq5
      refine ⟨vin (by omega), ?_⟩
      intro σ15 eσ15
      have uI8 : zInv A F w σ15 := by rw [eσ15]; exact wI0 I (pC pc (by decide)) rk_191 kd_191
      refine s_X0_poundsIn q_1 x_3 x_2 hT_q_1 (by omega) uI8 (fun r17 => ?_)
      refine ⟨vin (by omega), ?_⟩
      intro σ19 eσ19
      have uI9 : zInv A F w σ19 := by rw [eσ19]; exact wI0 uI8 (pC pc (by decide)) rk_192 kd_192
      intro x20 ex20
      have ul10 := lit_1
      have ut11 := tadd (x := x_3) (y := (1 : Int32)) (by omega)
      have ut12 := eq_t ex20
      exact ih x20 σ19 uI9 (by omega) (by omega)
set_option maxHeartbeats 4000000 in
theorem s_X5_begin {A : Nat → Nat → Prop} {F : Nat → Nat → Int32} {w : Nat} (pc : okC A) (b1 : Nat) (a2 : Int32) (hT_b1 : isT b1) {σ : zSto} (I : zInv A F w σ) {P : zSto → Prop} (hP : ∀ (σ2 : zSto), zInv A F w σ2 → P σ2) : w_X5_begin b1 a2 σ P := by
  unfold w_X5_begin
  refine ⟨70000, ?_⟩
  have ul1 := lit_0
  exact s_X5_begin_2 pc b1 a2 hT_b1 hP 70000 (0 : Int32) σ I (by omega) (by omega)
set_option maxHeartbeats 4000000 in
theorem s_X5_canPull {A : Nat → Nat → Prop} {F : Nat → Nat → Int32} {w : Nat} (b1 : Nat) (a2 : Int32) (a3 : Int32) (hT_b1 : isT b1) {σ : zSto} (I : zInv A F w σ) {P : Int32 → zSto → Prop} (hP : ∀ (r : Int32), (¬ r = 0 → 0 ≤ (ti a2) ∧ (ti a2) ≤ 15) → (¬ r = 0 → 0 ≤ (ti a3) ∧ (ti a3) ≤ 5) → P r σ) : w_X5_canPull b1 a2 a3 σ P := by
  unfold w_X5_canPull
  refine ⟨?_, ?_⟩
  · intro uq1
    have ul2 := lit_0
    have uc3 := lt_t uq1
    exact hP (0 : Int32) (fun q => absurd rfl q) (fun q => absurd rfl q)
  · intro uq4
    have ul5 := lit_0
    have uc6 := nlt_t uq4
    refine ⟨?_, ?_⟩
    · intro uq7
      have ud8 : 0 ≤ ti ((σ.1 b1 11)) ∧ ti ((σ.1 b1 11)) ≤ 16 := rdr I (isT_0 hT_b1) rfl rfl
      have ul9 := lit_1
      have ut10 := tsub (x := (σ.1 b1 11)) (y := (1 : Int32)) (by omega)
      have uc11 := le_t uq7
      exact hP (0 : Int32) (fun q => absurd rfl q) (fun q => absurd rfl q)
    · intro uq12
      have ud13 : 0 ≤ ti ((σ.1 b1 11)) ∧ ti ((σ.1 b1 11)) ≤ 16 := rdr I (isT_0 hT_b1) rfl rfl
      have ul14 := lit_1
      have ut15 := tsub (x := (σ.1 b1 11)) (y := (1 : Int32)) (by omega)
      have uc16 := nle_t uq12
      refine s_X0_hasRider b1 a3 hT_b1 I (fun r2 uz17 => ?_)
      intro ub18
      have uc19 := bool_t ub18
      refine ⟨?_, ?_⟩
      · intro uq20
        have uc21 := eq_t uq20
        exact hP (0 : Int32) (fun q => absurd rfl q) (fun q => absurd rfl q)
      · intro uq22
        have uc23 := uz17 uq22
        have uc24 := ne_t uq22
        refine s_X0_carries b1 a3 a2 hT_b1 (by omega) I (fun r4 => ?_)
        intro ub25
        have uc26 := bool_t ub25
        refine ⟨?_, ?_⟩
        · intro uq27
          have uc28 := eq_t uq27
          exact hP (0 : Int32) (fun q => absurd rfl q) (fun q => absurd rfl q)
        · intro uq29
          have uc30 := ne_t uq29
          refine ⟨vin (by omega), ?_⟩
          refine ⟨?_, ?_⟩
          · intro uq31
            have uc32 := le_t uq31
            exact hP (0 : Int32) (fun q => absurd rfl q) (fun q => absurd rfl q)
          · intro uq33
            have uc34 := nle_t uq33
            refine ⟨vin (by omega), ?_⟩
            refine ⟨?_, ?_⟩
            · intro uq35
              have uc36 := le_t uq35
              exact hP (0 : Int32) (fun q => absurd rfl q) (fun q => absurd rfl q)
            · intro uq37
              have uc38 := nle_t uq37
              exact hP (1 : Int32) (fun _ => by omega) (fun _ => by omega)
set_option maxHeartbeats 4000000 in
theorem s_X5_wantingAt_17 {A : Nat → Nat → Prop} {F : Nat → Nat → Int32} {w : Nat} (q_1 : Nat) (x_2 : Int32) (x_3 : Int32) (hT_q_1 : isT q_1) (h_x_2 : 0 ≤ ti (x_2) ∧ ti (x_2) ≤ 15) {σ : zSto} (I : zInv A F w σ) {P : Int32 → zSto → Prop} (hP : ∀ (r : Int32), P r σ) : ∀ (n : Nat) (x_4 : Int32) (x_5 : Int32), (0 ≤ ti (x_5) ∧ ti (x_5) ≤ 6) → (6 - (ti (x_5)) < n) → w_X5_wantingAt_17 q_1 x_2 x_3 P n x_4 x_5 σ := by
  intro n
  induction n with
  | zero =>
    intro x_4 x_5 h_x_5 hm
    exfalso
    omega
  | succ n ih =>
    intro x_4 x_5 h_x_5 hm
    unfold w_X5_wantingAt_17
    refine ⟨?_, ?_⟩
    · intro uq1
      have ud2 : 0 ≤ ti ((σ.1 q_1 12)) ∧ ti ((σ.1 q_1 12)) ≤ 6 := rdr I (isT_0 hT_q_1) rfl rfl
      have uc3 := le_t uq1
      exact hP x_4
    · intro uq4
      have ud5 : 0 ≤ ti ((σ.1 q_1 12)) ∧ ti ((σ.1 q_1 12)) ≤ 6 := rdr I (isT_0 hT_q_1) rfl rfl
      have uc6 := nle_t uq4
      refine s_X5_canPull q_1 x_2 x_5 hT_q_1 I (fun r5 uz7 uz8 => ?_)
      intro ub9
      have uc10 := bool_t ub9
      refine ⟨?_, ?_⟩
      · intro uq11
        have ul12 := lit_0
        have uc13 := eq_t uq11
        intro x6 ex6
        have ul14 := lit_1
        have ut15 := tadd (x := x_5) (y := (1 : Int32)) (by omega)
        have ut16 := eq_t ex6
        exact ih x_4 x6 (by omega) (by omega)
      · intro uq17
        have uc18 := uz7 uq17
        have uc19 := uz8 uq17
        have ul20 := lit_0
        have uc21 := ne_t uq17
        refine ⟨vin (by omega), ?_⟩
        refine ⟨vin (by omega), ?_⟩
        refine ⟨?_, ?_⟩
        · intro uq22
          have uc23 := lt_t uq22
          intro x9 ex9
          have ul24 := lit_1
          have ut25 := tadd (x := x_5) (y := (1 : Int32)) (by omega)
          have ut26 := eq_t ex9
          exact ih x_4 x9 (by omega) (by omega)
        · intro uq27
          have uc28 := nlt_t uq27
          refine ⟨vin (by omega), ?_⟩
          refine ⟨?_, ?_⟩
          · intro uq29
            have uc30 := lt_t uq29
            intro x11 ex11
            have ul31 := lit_1
            have ut32 := tadd (x := x_5) (y := (1 : Int32)) (by omega)
            have ut33 := eq_t ex11
            exact ih x_4 x11 (by omega) (by omega)
          · intro uq34
            have uc35 := nlt_t uq34
            intro x12 ex12
            intro x13 ex13
            have ul36 := lit_1
            have ut37 := tadd (x := x_5) (y := (1 : Int32)) (by omega)
            have ut38 := eq_t ex13
            exact ih x12 x13 (by omega) (by omega)
set_option maxHeartbeats 4000000 in
theorem s_X5_wantingAt {A : Nat → Nat → Prop} {F : Nat → Nat → Int32} {w : Nat} (b1 : Nat) (a2 : Int32) (hT_b1 : isT b1) (h_a2 : 0 ≤ ti (a2) ∧ ti (a2) ≤ 15) {σ : zSto} (I : zInv A F w σ) {P : Int32 → zSto → Prop} (hP : ∀ (r : Int32), P r σ) : w_X5_wantingAt b1 a2 σ P := by
  unfold w_X5_wantingAt
  refine s_X0_cost b1 a2 hT_b1 (by omega) I (fun r2 hr2 => ?_)
  intro x3 ex3
  refine ⟨70000, ?_⟩
  have ul1 := lit_0
  exact s_X5_wantingAt_17 b1 a2 x3 hT_b1 (by omega) I hP 70000 (0 : Int32) (0 : Int32) (by omega) (by omega)
set_option maxHeartbeats 4000000 in
theorem s_X5_nthOf_4 {A : Nat → Nat → Prop} {F : Nat → Nat → Int32} {w : Nat} (x_0 : Int32) (x_1 : Int32) {σ : zSto} (I : zInv A F w σ) {P : Int32 → zSto → Prop} (hP : ∀ (r : Int32), (-1) ≤ ti (r) ∧ ti (r) ≤ 5 → P r σ) : ∀ (n : Nat) (x_2 : Int32) (x_3 : Int32), (0 ≤ ti (x_3) ∧ ti (x_3) ≤ 6) → (6 - (ti (x_3)) < n) → w_X5_nthOf_4 x_0 x_1 P n x_2 x_3 σ := by
  intro n
  induction n with
  | zero =>
    intro x_2 x_3 h_x_3 hm
    exfalso
    omega
  | succ n ih =>
    intro x_2 x_3 h_x_3 hm
    unfold w_X5_nthOf_4
    refine ⟨?_, ?_⟩
    · intro uq1
      have ul2 := lit_6
      have uc3 := le_t uq1
      have ul4 := lit_m1
      exact hP (-1 : Int32) (by omega)
    · intro uq5
      have ul6 := lit_6
      have uc7 := nle_t uq5
      refine ⟨?_, ?_⟩
      · intro uq8
        have ut9 := and_rg (x_0 >>> (x_3 &&& 31)) (m := (1 : Int32)) 1 2 (by decide) (by decide) (by decide)
        have ul10 := lit_0
        have uc11 := eq_t uq8
        intro x1 ex1
        have ul12 := lit_1
        have ut13 := tadd (x := x_3) (y := (1 : Int32)) (by omega)
        have ut14 := eq_t ex1
        exact ih x_2 x1 (by omega) (by omega)
      · intro uq15
        have ut16 := and_rg (x_0 >>> (x_3 &&& 31)) (m := (1 : Int32)) 1 2 (by decide) (by decide) (by decide)
        have ul17 := lit_0
        have uc18 := ne_t uq15
        refine ⟨?_, ?_⟩
        · intro uq19
          intro x2 ex2
          intro x3 ex3
          have ul20 := lit_1
          have ut21 := tadd (x := x_3) (y := (1 : Int32)) (by omega)
          have ut22 := eq_t ex3
          exact ih x2 x3 (by omega) (by omega)
        · intro uq23
          have uc24 := eq_t uq23
          exact hP x_3 (by omega)
set_option maxHeartbeats 4000000 in
theorem s_X5_nthOf {A : Nat → Nat → Prop} {F : Nat → Nat → Int32} {w : Nat} (a1 : Int32) (a2 : Int32) {σ : zSto} (I : zInv A F w σ) {P : Int32 → zSto → Prop} (hP : ∀ (r : Int32), (-1) ≤ ti (r) ∧ ti (r) ≤ 5 → P r σ) : w_X5_nthOf a1 a2 σ P := by
  unfold w_X5_nthOf
  refine ⟨70000, ?_⟩
  have ul1 := lit_0
  exact s_X5_nthOf_4 a1 a2 I hP 70000 (0 : Int32) (0 : Int32) (by omega) (by omega)
set_option maxHeartbeats 4000000 in
theorem s_X5_leastOf {A : Nat → Nat → Prop} {F : Nat → Nat → Int32} {w : Nat} (a1 : Int32) {σ : zSto} (I : zInv A F w σ) {P : Int32 → zSto → Prop} (hP : ∀ (r : Int32), (-1) ≤ ti (r) ∧ ti (r) ≤ 5 → P r σ) : w_X5_leastOf a1 σ P := by
  unfold w_X5_leastOf
  refine s_X5_nthOf a1 (0 : Int32) I (fun r2 hr2 => ?_)
  exact hP r2 (by omega)
set_option maxHeartbeats 4000000 in
theorem s_J6_bitCount_0f7a4 {A : Nat → Nat → Prop} {F : Nat → Nat → Int32} {w : Nat} (a1 : Int32) {σ : zSto} (I : zInv A F w σ) {P : Int32 → zSto → Prop} (hP : ∀ (r : Int32), P r σ) : w_J6_bitCount_0f7a4 a1 σ P := by
  unfold w_J6_bitCount_0f7a4
  intro x1 ex1
  intro x2 ex2
  intro x3 ex3
  intro x4 ex4
  intro x5 ex5
  exact hP (x5 &&& (63 : Int32))
set_option maxHeartbeats 4000000 in
theorem s_X5_drawBelow {A : Nat → Nat → Prop} {F : Nat → Nat → Int32} {w : Nat} (pc : okC A) (a1 : Int32) {σ : zSto} (I : zInv A F w σ) {P : Int32 → zSto → Prop} (hP : ∀ (r : Int32) (σ2 : zSto), zInv A F w σ2 → P r σ2) : w_X5_drawBelow a1 σ P := by
  unfold w_X5_drawBelow
  intro σ1 eσ1
  have uI1 : zInv A F w σ1 := by rw [eσ1]; exact wI0 I (pC pc (by decide)) rk_190 kd_190
  refine ⟨?_, ?_⟩
  · intro uq2
    have ul3 := lit_0
    have uc4 := lt_t uq2
    refine ⟨ne_of_t (by omega), ?_⟩
    exact hP (((((σ1.1 190 5)).toUInt32 >>> (((16 : Int32)).toUInt32 &&& (Int32.toUInt32 31)))).toInt32 - ((((((σ1.1 190 5)).toUInt32 >>> (((16 : Int32)).toUInt32 &&& (Int32.toUInt32 31)))).toInt32 / a1) * a1)) σ1 uI1
  · intro uq5
    have ul6 := lit_0
    have uc7 := nlt_t uq5
    exact hP (0 : Int32) σ1 uI1
set_option maxHeartbeats 4000000 in
theorem s_X5_highestFare_4 {A : Nat → Nat → Prop} {F : Nat → Nat → Int32} {w : Nat} (q_0 : Nat) (x_1 : Int32) (hT_q_0 : isT q_0) {σ : zSto} (I : zInv A F w σ) {P : Int32 → zSto → Prop} (hP : ∀ (r : Int32), (-1) ≤ ti (r) ∧ ti (r) ≤ 5 → P r σ) : ∀ (n : Nat) (x_2 : Int32) (x_3 : Int32), ((-1) ≤ ti (x_2) ∧ ti (x_2) ≤ 5) → (0 ≤ ti (x_3) ∧ ti (x_3) ≤ 6) → (6 - (ti (x_3)) < n) → w_X5_highestFare_4 q_0 x_1 P n x_2 x_3 σ := by
  intro n
  induction n with
  | zero =>
    intro x_2 x_3 h_x_2 h_x_3 hm
    exfalso
    omega
  | succ n ih =>
    intro x_2 x_3 h_x_2 h_x_3 hm
    unfold w_X5_highestFare_4
    refine ⟨?_, ?_⟩
    · intro uq1
      have ud2 : 0 ≤ ti ((σ.1 q_0 12)) ∧ ti ((σ.1 q_0 12)) ≤ 6 := rdr I (isT_0 hT_q_0) rfl rfl
      have uc3 := le_t uq1
      exact hP x_2 (by omega)
    · intro uq4
      have ud5 : 0 ≤ ti ((σ.1 q_0 12)) ∧ ti ((σ.1 q_0 12)) ≤ 6 := rdr I (isT_0 hT_q_0) rfl rfl
      have uc6 := nle_t uq4
      refine ⟨?_, ?_⟩
      · intro uq7
        have ut8 := and_rg (x_1 >>> (x_3 &&& 31)) (m := (1 : Int32)) 1 2 (by decide) (by decide) (by decide)
        have ul9 := lit_0
        have uc10 := eq_t uq7
        intro x1 ex1
        have ul11 := lit_1
        have ut12 := tadd (x := x_3) (y := (1 : Int32)) (by omega)
        have ut13 := eq_t ex1
        exact ih x_2 x1 (by omega) (by omega) (by omega)
      · intro uq14
        have ut15 := and_rg (x_1 >>> (x_3 &&& 31)) (m := (1 : Int32)) 1 2 (by decide) (by decide) (by decide)
        have ul16 := lit_0
        have uc17 := ne_t uq14
        refine ⟨?_, ?_⟩
        · intro uq18
          have ul19 := lit_m1
          have uc20 := eq_t uq18
          intro x2 ex2
          have ul21 := lit_1
          have ut22 := tadd (x := x_3) (y := (1 : Int32)) (by omega)
          have ut23 := eq_t ex2
          exact ih x_3 x2 (by omega) (by omega) (by omega)
        · intro uq24
          have ul25 := lit_m1
          have uc26 := ne_t uq24
          refine ⟨vin (by omega), ?_⟩
          refine ⟨vin (by omega), ?_⟩
          refine ⟨?_, ?_⟩
          · intro uq27
            have uc28 := le_t uq27
            intro x5 ex5
            have ul29 := lit_1
            have ut30 := tadd (x := x_3) (y := (1 : Int32)) (by omega)
            have ut31 := eq_t ex5
            exact ih x_2 x5 (by omega) (by omega) (by omega)
          · intro uq32
            have uc33 := nle_t uq32
            intro x6 ex6
            have ul34 := lit_1
            have ut35 := tadd (x := x_3) (y := (1 : Int32)) (by omega)
            have ut36 := eq_t ex6
            exact ih x_3 x6 (by omega) (by omega) (by omega)
set_option maxHeartbeats 4000000 in
theorem s_X5_highestFare {A : Nat → Nat → Prop} {F : Nat → Nat → Int32} {w : Nat} (b1 : Nat) (a2 : Int32) (hT_b1 : isT b1) {σ : zSto} (I : zInv A F w σ) {P : Int32 → zSto → Prop} (hP : ∀ (r : Int32), (-1) ≤ ti (r) ∧ ti (r) ≤ 5 → P r σ) : w_X5_highestFare b1 a2 σ P := by
  unfold w_X5_highestFare
  refine ⟨70000, ?_⟩
  have ul1 := lit_m1
  have ul2 := lit_0
  exact s_X5_highestFare_4 b1 a2 hT_b1 I hP 70000 (-1 : Int32) (0 : Int32) (by omega) (by omega) (by omega)
set_option maxHeartbeats 4000000 in
theorem s_X5_chosen {A : Nat → Nat → Prop} {F : Nat → Nat → Int32} {w : Nat} (pc : okC A) (b1 : Nat) (a2 : Int32) (a3 : Int32) (hT_b1 : isT b1) {σ : zSto} (I : zInv A F w σ) {P : Int32 → zSto → Prop} (hP : ∀ (r : Int32) (σ2 : zSto), zInv A F w σ2 → (-1) ≤ ti (r) ∧ ti (r) ≤ 5 → P r σ2) : w_X5_chosen b1 a2 a3 σ P := by
  unfold w_X5_chosen
  refine ⟨?_, ?_⟩
  · intro uq1
    have ul2 := lit_0
    refine ⟨?_, ?_⟩
    · intro uq3
      have uc4 := eq_t uq3
      refine s_X5_leastOf a3 I (fun r2 hr2 => ?_)
      exact hP r2 σ I (by omega)
    · refine ⟨?_, ?_⟩
      · intro uq5
        have ul6 := lit_1
        have uc7 := eq_t uq5
        refine s_X5_leastOf (a3 &&& ((σ.1 190 4) ^^^ (-1 : Int32))) I (fun r4 hr4 => ?_)
        exact hP r4 σ I (by omega)
      · refine ⟨?_, ?_⟩
        · intro uq8
          have ul9 := lit_2
          have uc10 := eq_t uq8
          refine s_J6_bitCount_0f7a4 a3 I (fun r6 => ?_)
          refine s_X5_drawBelow pc r6 I (fun r8 σ7 uI11 => ?_)
          refine s_X5_nthOf a3 r8 uI11 (fun r10 hr10 => ?_)
          exact hP r10 σ7 uI11 (by omega)
        · refine ⟨?_, ?_⟩
          · intro uq12
            have ul13 := lit_3
            have uc14 := eq_t uq12
            refine s_X5_highestFare b1 a3 hT_b1 I (fun r12 hr12 => ?_)
            exact hP r12 σ I (by omega)
          · intro uq15
            rw [← ti_eq] at uq15
            have ul16 := lit_m1
            exact hP (-1 : Int32) σ I (by omega)
  · intro uq17
    have ul18 := lit_0
    have uc19 := eq_t uq17
    have ul20 := lit_m1
    exact hP (-1 : Int32) σ I (by omega)
set_option maxHeartbeats 4000000 in
theorem s_X5_stopAt {A : Nat → Nat → Prop} {F : Nat → Nat → Int32} {w : Nat} (pc : okC A) (b1 : Nat) (a2 : Int32) (a3 : Int32) (hT_b1 : isT b1) (h_a2 : 0 ≤ ti (a2) ∧ ti (a2) ≤ 15) (h_a3 : 0 ≤ ti (a3) ∧ ti (a3) ≤ 5) {σ : zSto} (I : zInv A F w σ) {P : zSto → Prop} (hP : ∀ (σ2 : zSto), zInv A F w σ2 → P σ2) : w_X5_stopAt b1 a2 a3 σ P := by
  unfold w_X5_stopAt
  refine ⟨vin (by omega), ?_⟩
  refine ⟨vin (by omega), ?_⟩
  intro x3 ex3
  intro x4 ex4
  refine ⟨vin (by omega), ?_⟩
  refine ⟨vin (by omega), ?_⟩
  intro σ7 eσ7
  have uI1 : zInv A F w σ7 := by rw [eσ7]; exact wI0 I (pC pc (by decide)) rk_192 kd_192
  refine ⟨vin (by omega), ?_⟩
  refine ⟨vin (by omega), ?_⟩
  intro σ10 eσ10
  have uI2 : zInv A F w σ10 := by rw [eσ10]; exact wI0 uI1 (pC pc (by decide)) rk_194 kd_194
  refine ⟨vin (by omega), ?_⟩
  refine ⟨vin (by omega), ?_⟩
  intro σ13 eσ13
  have uI3 : zInv A F w σ13 := by rw [eσ13]; exact wI0 uI2 (pC pc (by decide)) rk_193 kd_193
  intro σ14 eσ14
  have uI4 : zInv A F w σ14 := by rw [eσ14]; exact wI0 uI3 (pC pc (by decide)) rk_190 kd_190
  intro σ15 eσ15
  have uI5 : zInv A F w σ15 := by rw [eσ15]; exact wI0 uI4 (pC pc (by decide)) rk_190 kd_190
  refine s_X0_cost b1 a2 hT_b1 (by omega) uI5 (fun r17 hr17 => ?_)
  intro σ18 eσ18
  have uI6 : zInv A F w σ18 := by rw [eσ18]; exact wI0 uI5 (pC pc (by decide)) rk_190 kd_190
  refine ⟨vin (by omega), ?_⟩
  intro σ20 eσ20
  have uI7 : zInv A F w σ20 := by rw [eσ20]; exact wI0 uI6 (pC pc (by decide)) rk_191 kd_191
  intro σ21 eσ21
  have uI8 : zInv A F w σ21 := by rw [eσ21]; exact wI0 uI7 (pC pc (by decide)) rk_190 kd_190
  intro σ22 eσ22
  have uI9 : zInv A F w σ22 := by rw [eσ22]; exact wI0 uI8 (pC pc (by decide)) rk_190 kd_190
  intro σ23 eσ23
  have uI10 : zInv A F w σ23 := by rw [eσ23]; exact wI0 uI9 (pC pc (by decide)) rk_190 kd_190
  refine ⟨?_, ?_⟩
  · intro uq11
    have ue12 : ti ((σ23.1 190 7)) = ti (((σ22.1 190 7) + (1 : Int32))) := by rw [eσ23]; exact congrArg ti zI_s
    have ue13 : ti ((σ22.1 190 7)) = ti ((σ21.1 190 7)) := by rw [eσ22]; exact congrArg ti (zI_q (Or.inr (by decide)))
    have ue14 : ti ((σ21.1 190 7)) = ti ((σ20.1 190 7)) := by rw [eσ21]; exact congrArg ti (zI_q (Or.inr (by decide)))
    have ue15 : ti ((σ20.1 190 7)) = ti ((σ18.1 190 7)) := by rw [eσ20]; exact congrArg ti (zI_q (Or.inl (by omega)))
    have ue16 : ti ((σ18.1 190 7)) = ti ((σ15.1 190 7)) := by rw [eσ18]; exact congrArg ti (zI_q (Or.inr (by decide)))
    have ue17 : ti ((σ15.1 190 7)) = ti ((σ14.1 190 7)) := by rw [eσ15]; exact congrArg ti (zI_q (Or.inr (by decide)))
    have ue18 : ti ((σ14.1 190 7)) = ti ((σ13.1 190 7)) := by rw [eσ14]; exact congrArg ti (zI_q (Or.inr (by decide)))
    have ue19 : ti ((σ13.1 190 7)) = ti ((σ10.1 190 7)) := by rw [eσ13]; exact congrArg ti (zI_q (Or.inl (by omega)))
    have ue20 : ti ((σ10.1 190 7)) = ti ((σ7.1 190 7)) := by rw [eσ10]; exact congrArg ti (zI_q (Or.inl (by omega)))
    have ue21 : ti ((σ7.1 190 7)) = ti ((σ.1 190 7)) := by rw [eσ7]; exact congrArg ti (zI_q (Or.inl (by omega)))
    have ul22 := lit_1
    try have ut23 := tadd (x := (σ22.1 190 7)) (y := (1 : Int32)) (by omega)
    have ue24 : ti ((σ23.1 b1 16)) = ti ((σ22.1 b1 16)) := by rw [eσ23]; exact congrArg ti (zI_q (Or.inl (by rcases hT_b1 with h | h | h <;> omega)))
    have ue25 : ti ((σ22.1 b1 16)) = ti ((σ21.1 b1 16)) := by rw [eσ22]; exact congrArg ti (zI_q (Or.inl (by rcases hT_b1 with h | h | h <;> omega)))
    have ue26 : ti ((σ21.1 b1 16)) = ti ((σ20.1 b1 16)) := by rw [eσ21]; exact congrArg ti (zI_q (Or.inl (by rcases hT_b1 with h | h | h <;> omega)))
    have ue27 : ti ((σ20.1 b1 16)) = ti ((σ18.1 b1 16)) := by rw [eσ20]; exact congrArg ti (zI_q (Or.inl (by rcases hT_b1 with h | h | h <;> omega)))
    have ue28 : ti ((σ18.1 b1 16)) = ti ((σ15.1 b1 16)) := by rw [eσ18]; exact congrArg ti (zI_q (Or.inl (by rcases hT_b1 with h | h | h <;> omega)))
    have ue29 : ti ((σ15.1 b1 16)) = ti ((σ14.1 b1 16)) := by rw [eσ15]; exact congrArg ti (zI_q (Or.inl (by rcases hT_b1 with h | h | h <;> omega)))
    have ue30 : ti ((σ14.1 b1 16)) = ti ((σ13.1 b1 16)) := by rw [eσ14]; exact congrArg ti (zI_q (Or.inl (by rcases hT_b1 with h | h | h <;> omega)))
    have ue31 : ti ((σ13.1 b1 16)) = ti ((σ10.1 b1 16)) := by rw [eσ13]; exact congrArg ti (zI_q (Or.inl (by rcases hT_b1 with h | h | h <;> omega)))
    have ue32 : ti ((σ10.1 b1 16)) = ti ((σ7.1 b1 16)) := by rw [eσ10]; exact congrArg ti (zI_q (Or.inl (by rcases hT_b1 with h | h | h <;> omega)))
    have ue33 : ti ((σ7.1 b1 16)) = ti ((σ.1 b1 16)) := by rw [eσ7]; exact congrArg ti (zI_q (Or.inl (by rcases hT_b1 with h | h | h <;> omega)))
    exact hP σ23 uI10
  · intro uq34
    have ue35 : ti ((σ23.1 190 7)) = ti (((σ22.1 190 7) + (1 : Int32))) := by rw [eσ23]; exact congrArg ti zI_s
    have ue36 : ti ((σ22.1 190 7)) = ti ((σ21.1 190 7)) := by rw [eσ22]; exact congrArg ti (zI_q (Or.inr (by decide)))
    have ue37 : ti ((σ21.1 190 7)) = ti ((σ20.1 190 7)) := by rw [eσ21]; exact congrArg ti (zI_q (Or.inr (by decide)))
    have ue38 : ti ((σ20.1 190 7)) = ti ((σ18.1 190 7)) := by rw [eσ20]; exact congrArg ti (zI_q (Or.inl (by omega)))
    have ue39 : ti ((σ18.1 190 7)) = ti ((σ15.1 190 7)) := by rw [eσ18]; exact congrArg ti (zI_q (Or.inr (by decide)))
    have ue40 : ti ((σ15.1 190 7)) = ti ((σ14.1 190 7)) := by rw [eσ15]; exact congrArg ti (zI_q (Or.inr (by decide)))
    have ue41 : ti ((σ14.1 190 7)) = ti ((σ13.1 190 7)) := by rw [eσ14]; exact congrArg ti (zI_q (Or.inr (by decide)))
    have ue42 : ti ((σ13.1 190 7)) = ti ((σ10.1 190 7)) := by rw [eσ13]; exact congrArg ti (zI_q (Or.inl (by omega)))
    have ue43 : ti ((σ10.1 190 7)) = ti ((σ7.1 190 7)) := by rw [eσ10]; exact congrArg ti (zI_q (Or.inl (by omega)))
    have ue44 : ti ((σ7.1 190 7)) = ti ((σ.1 190 7)) := by rw [eσ7]; exact congrArg ti (zI_q (Or.inl (by omega)))
    have ul45 := lit_1
    try have ut46 := tadd (x := (σ22.1 190 7)) (y := (1 : Int32)) (by omega)
    have ue47 : ti ((σ23.1 b1 16)) = ti ((σ22.1 b1 16)) := by rw [eσ23]; exact congrArg ti (zI_q (Or.inl (by rcases hT_b1 with h | h | h <;> omega)))
    have ue48 : ti ((σ22.1 b1 16)) = ti ((σ21.1 b1 16)) := by rw [eσ22]; exact congrArg ti (zI_q (Or.inl (by rcases hT_b1 with h | h | h <;> omega)))
    have ue49 : ti ((σ21.1 b1 16)) = ti ((σ20.1 b1 16)) := by rw [eσ21]; exact congrArg ti (zI_q (Or.inl (by rcases hT_b1 with h | h | h <;> omega)))
    have ue50 : ti ((σ20.1 b1 16)) = ti ((σ18.1 b1 16)) := by rw [eσ20]; exact congrArg ti (zI_q (Or.inl (by rcases hT_b1 with h | h | h <;> omega)))
    have ue51 : ti ((σ18.1 b1 16)) = ti ((σ15.1 b1 16)) := by rw [eσ18]; exact congrArg ti (zI_q (Or.inl (by rcases hT_b1 with h | h | h <;> omega)))
    have ue52 : ti ((σ15.1 b1 16)) = ti ((σ14.1 b1 16)) := by rw [eσ15]; exact congrArg ti (zI_q (Or.inl (by rcases hT_b1 with h | h | h <;> omega)))
    have ue53 : ti ((σ14.1 b1 16)) = ti ((σ13.1 b1 16)) := by rw [eσ14]; exact congrArg ti (zI_q (Or.inl (by rcases hT_b1 with h | h | h <;> omega)))
    have ue54 : ti ((σ13.1 b1 16)) = ti ((σ10.1 b1 16)) := by rw [eσ13]; exact congrArg ti (zI_q (Or.inl (by rcases hT_b1 with h | h | h <;> omega)))
    have ue55 : ti ((σ10.1 b1 16)) = ti ((σ7.1 b1 16)) := by rw [eσ10]; exact congrArg ti (zI_q (Or.inl (by rcases hT_b1 with h | h | h <;> omega)))
    have ue56 : ti ((σ7.1 b1 16)) = ti ((σ.1 b1 16)) := by rw [eσ7]; exact congrArg ti (zI_q (Or.inl (by rcases hT_b1 with h | h | h <;> omega)))
    have uc57 := eq_t uq34
    intro σ24 eσ24
    have uI58 : zInv A F w σ24 := by rw [eσ24]; exact wI0 uI10 (pC pc (by decide)) rk_190 kd_190
    exact hP σ24 uI58
set_option maxHeartbeats 4000000 in
theorem s_X5_byLaw_21 {A : Nat → Nat → Prop} {F : Nat → Nat → Int32} {w : Nat} (pc : okC A) (q_1 : Nat) (x_2 : Int32) (x_5 : Int32) (hT_q_1 : isT q_1) {P : zSto → Prop} (hP : ∀ (σ2 : zSto), zInv A F w σ2 → P σ2) : ∀ (n : Nat) (x_6 : Int32) (σ : zSto), zInv A F w σ → (0 ≤ ti (x_6) ∧ ti (x_6) ≤ 16) → (16 - (ti (x_6)) < n) → w_X5_byLaw_21 q_1 x_2 x_5 P n x_6 σ := by
  intro n
  induction n with
  | zero =>
    intro x_6 σ I h_x_6 hm
    exfalso
    omega
  | succ n ih =>
    intro x_6 σ I h_x_6 hm
    unfold w_X5_byLaw_21
    refine ⟨?_, ?_⟩
    · intro uq1
      have ud2 : 0 ≤ ti ((σ.1 q_1 11)) ∧ ti ((σ.1 q_1 11)) ≤ 16 := rdr I (isT_0 hT_q_1) rfl rfl
      have ul3 := lit_1
      have ut4 := tsub (x := (σ.1 q_1 11)) (y := (1 : Int32)) (by omega)
      have uc5 := le_t uq1
      exact hP σ I
    · intro uq6
      have ud7 : 0 ≤ ti ((σ.1 q_1 11)) ∧ ti ((σ.1 q_1 11)) ≤ 16 := rdr I (isT_0 hT_q_1) rfl rfl
      have ul8 := lit_1
      have ut9 := tsub (x := (σ.1 q_1 11)) (y := (1 : Int32)) (by omega)
      have uc10 := nle_t uq6
      refine s_X5_wantingAt q_1 x_6 hT_q_1 (by omega) I (fun r4 => ?_)
      refine s_X5_chosen pc q_1 x_2 (r4 &&& x_5) hT_q_1 I (fun r6 σ5 uI11 hr6 => ?_)
      refine ⟨?_, ?_⟩
      · intro uq12
        have ul13 := lit_m1
        have uc14 := eq_t uq12
        intro x7 ex7
        have ut15 := tadd (x := x_6) (y := (1 : Int32)) (by omega)
        have ut16 := eq_t ex7
        exact ih x7 σ5 uI11 (by omega) (by omega)
      · intro uq17
        have ul18 := lit_m1
        have uc19 := ne_t uq17
        refine s_X5_stopAt pc q_1 x_6 r6 hT_q_1 (by omega) (by omega) uI11 (fun σ8 uI20 => ?_)
        intro x9 ex9
        have ut21 := tadd (x := x_6) (y := (1 : Int32)) (by omega)
        have ut22 := eq_t ex9
        exact ih x9 σ8 uI20 (by omega) (by omega)
set_option maxHeartbeats 4000000 in
theorem s_X5_byLaw {A : Nat → Nat → Prop} {F : Nat → Nat → Int32} {w : Nat} (pc : okC A) (b1 : Nat) (a2 : Int32) (a3 : Int32) (a4 : Int32) (a5 : Int32) (hT_b1 : isT b1) {σ : zSto} (I : zInv A F w σ) {P : zSto → Prop} (hP : ∀ (σ2 : zSto), zInv A F w σ2 → P σ2) : w_X5_byLaw b1 a2 a3 a4 a5 σ P := by
  unfold w_X5_byLaw
  refine s_X5_begin pc b1 a4 hT_b1 I (fun σ1 uI1 => ?_)
  intro σ2 eσ2
  have uI2 : zInv A F w σ2 := by rw [eσ2]; exact wI0 uI1 (pC pc (by decide)) rk_190 kd_190
  refine ⟨?_, ?_⟩
  · intro uq3
    have ul4 := lit_m1
    refine ⟨70000, ?_⟩
    have ul5 := lit_0
    exact s_X5_byLaw_21 pc b1 a2 a5 hT_b1 hP 70000 (0 : Int32) σ2 uI2 (by omega) (by omega)
  · intro uq6
    have ul7 := lit_m1
    have uc8 := eq_t uq6
    exact hP σ2 uI2
set_option maxHeartbeats 4000000 in
theorem s_X5_byPlan_12 {A : Nat → Nat → Prop} {F : Nat → Nat → Int32} {w : Nat} (pc : okC A) (q_1 : Nat) (q_2 : Nat) (hT_q_1 : isT q_1) (hP_q_2 : isP q_2) {P : Int32 → zSto → Prop} (hP : ∀ (r : Int32) (σ2 : zSto), zInv A F w σ2 → P r σ2) : ∀ (n : Nat) (x_4 : Int32) (x_5 : Int32) (σ : zSto), zInv A F w σ → (0 ≤ ti (x_5) ∧ ti (x_5) ≤ 16) → (16 - (ti (x_5)) < n) → w_X5_byPlan_12 q_1 q_2 P n x_4 x_5 σ := by
  intro n
  induction n with
  | zero =>
    intro x_4 x_5 σ I h_x_5 hm
    exfalso
    omega
  | succ n ih =>
    intro x_4 x_5 σ I h_x_5 hm
    unfold w_X5_byPlan_12
    refine ⟨?_, ?_⟩
    · intro uq1
      have ud2 : 0 ≤ ti ((σ.1 q_2 2)) ∧ ti ((σ.1 q_2 2)) ≤ 16 := rdr I (isP_0 hP_q_2) rfl rfl
      have uc3 := le_t uq1
      exact hP (σ.1 q_2 2) σ I
    · intro uq4
      have ud5 : 0 ≤ ti ((σ.1 q_2 2)) ∧ ti ((σ.1 q_2 2)) ≤ 16 := rdr I (isP_0 hP_q_2) rfl rfl
      have uc6 := nle_t uq4
      refine ⟨vin (by omega), ?_⟩
      intro x3 ex3
      refine ⟨vin (by omega), ?_⟩
      intro x5 ex5
      refine ⟨?_, ?_⟩
      · intro uq7
        have uc8 := le_t uq7
        exact hP x_5 σ I
      · intro uq9
        have uc10 := nle_t uq9
        refine s_X5_canPull q_1 x3 x5 hT_q_1 I (fun r7 uz11 uz12 => ?_)
        intro ub13
        have uc14 := bool_t ub13
        refine ⟨?_, ?_⟩
        · intro uq15
          have uc16 := uz11 uq15
          have uc17 := uz12 uq15
          have ul18 := lit_0
          have uc19 := ne_t uq15
          refine s_X5_stopAt pc q_1 x3 x5 hT_q_1 (by omega) (by omega) I (fun σ8 uI20 => ?_)
          intro x9 ex9
          have ul21 := lit_1
          have ut22 := tadd (x := x_5) (y := (1 : Int32)) (by omega)
          have ut23 := eq_t ex9
          exact ih x3 x9 σ8 uI20 (by omega) (by omega)
        · intro uq24
          have ul25 := lit_0
          have uc26 := eq_t uq24
          exact hP x_5 σ I
set_option maxHeartbeats 4000000 in
theorem s_X5_byPlan {A : Nat → Nat → Prop} {F : Nat → Nat → Int32} {w : Nat} (pc : okC A) (b1 : Nat) (b2 : Nat) (a3 : Int32) (hT_b1 : isT b1) (hP_b2 : isP b2) {σ : zSto} (I : zInv A F w σ) {P : Int32 → zSto → Prop} (hP : ∀ (r : Int32) (σ2 : zSto), zInv A F w σ2 → P r σ2) : w_X5_byPlan b1 b2 a3 σ P := by
  unfold w_X5_byPlan
  refine s_X5_begin pc b1 a3 hT_b1 I (fun σ1 uI1 => ?_)
  refine ⟨70000, ?_⟩
  have ul2 := lit_0
  have ul3 := lit_m1
  exact s_X5_byPlan_12 pc b1 b2 hT_b1 hP_b2 hP 70000 (-1 : Int32) (0 : Int32) σ1 uI1 (by omega) (by omega)
set_option maxHeartbeats 4000000 in
theorem s_X5_arrival {A : Nat → Nat → Prop} {F : Nat → Nat → Int32} {w : Nat} (b1 : Nat) (a2 : Int32) (hT_b1 : isT b1) (h_a2 : (-1) ≤ ti (a2) ∧ ti (a2) ≤ 16) {σ : zSto} (I : zInv A F w σ) {P : Int32 → zSto → Prop} (hP : ∀ (r : Int32), P r σ) : w_X5_arrival b1 a2 σ P := by
  unfold w_X5_arrival
  refine s_X0_minutesTo b1 a2 hT_b1 (by omega) I (fun r2 => ?_)
  refine s_X0_costsBefore b1 a2 (σ.1 190 6) hT_b1 (by omega) I (fun r4 => ?_)
  exact hP (r2 + r4)
set_option maxHeartbeats 4000000 in
theorem s_X5_lateAt {A : Nat → Nat → Prop} {F : Nat → Nat → Int32} {w : Nat} (b1 : Nat) (a2 : Int32) (hT_b1 : isT b1) (h_a2 : 0 ≤ ti (a2) ∧ ti (a2) ≤ 15) {σ : zSto} (I : zInv A F w σ) {P : Int32 → zSto → Prop} (hP : ∀ (r : Int32), P r σ) : w_X5_lateAt b1 a2 σ P := by
  unfold w_X5_lateAt
  refine s_X5_arrival b1 a2 hT_b1 (by omega) I (fun r2 => ?_)
  refine ⟨vin (by omega), ?_⟩
  exact hP (if (0 : Int32) < (r2 - (σ.1 (b1 + 5) ((a2).toNatClampNeg))) then (r2 - (σ.1 (b1 + 5) ((a2).toNatClampNeg))) else (0 : Int32))
set_option maxHeartbeats 4000000 in
theorem s_X5_fines_4 {A : Nat → Nat → Prop} {F : Nat → Nat → Int32} {w : Nat} (q_1 : Nat) (hT_q_1 : isT q_1) {σ : zSto} (I : zInv A F w σ) {P : Int32 → zSto → Prop} (hP : ∀ (r : Int32), P r σ) : ∀ (n : Nat) (x_2 : Int32) (x_3 : Int32), (0 ≤ ti (x_3) ∧ ti (x_3) ≤ 16) → (16 - (ti (x_3)) < n) → w_X5_fines_4 q_1 P n x_2 x_3 σ := by
  intro n
  induction n with
  | zero =>
    intro x_2 x_3 h_x_3 hm
    exfalso
    omega
  | succ n ih =>
    intro x_2 x_3 h_x_3 hm
    unfold w_X5_fines_4
    refine ⟨?_, ?_⟩
    · intro uq1
      have ud2 : 0 ≤ ti ((σ.1 q_1 11)) ∧ ti ((σ.1 q_1 11)) ≤ 16 := rdr I (isT_0 hT_q_1) rfl rfl
      have uc3 := le_t uq1
      exact hP x_2
    · intro uq4
      have ud5 : 0 ≤ ti ((σ.1 q_1 11)) ∧ ti ((σ.1 q_1 11)) ≤ 16 := rdr I (isT_0 hT_q_1) rfl rfl
      have uc6 := nle_t uq4
      refine s_X0_isStation q_1 x_3 hT_q_1 I (fun r2 uz7 => ?_)
      intro ub8
      have uc9 := bool_t ub8
      refine ⟨?_, ?_⟩
      · intro uq10
        have ul11 := lit_0
        have uc12 := eq_t uq10
        intro x3 ex3
        have ul13 := lit_1
        have ut14 := tadd (x := x_3) (y := (1 : Int32)) (by omega)
        have ut15 := eq_t ex3
        exact ih x_2 x3 (by omega) (by omega)
      · intro uq16
        have uc17 := uz7 uq16
        have ul18 := lit_0
        have uc19 := ne_t uq16
        refine s_X5_lateAt q_1 x_3 hT_q_1 (by omega) I (fun r5 => ?_)
        intro x6 ex6
        intro x7 ex7
        have ul20 := lit_1
        have ut21 := tadd (x := x_3) (y := (1 : Int32)) (by omega)
        have ut22 := eq_t ex7
        exact ih x6 x7 (by omega) (by omega)
set_option maxHeartbeats 4000000 in
theorem s_X5_fines {A : Nat → Nat → Prop} {F : Nat → Nat → Int32} {w : Nat} (b1 : Nat) (hT_b1 : isT b1) {σ : zSto} (I : zInv A F w σ) {P : Int32 → zSto → Prop} (hP : ∀ (r : Int32), P r σ) : w_X5_fines b1 σ P := by
  unfold w_X5_fines
  refine ⟨70000, ?_⟩
  have ul1 := lit_0
  exact s_X5_fines_4 b1 hT_b1 I hP 70000 (0 : Int32) (0 : Int32) (by omega) (by omega)
set_option maxHeartbeats 4000000 in
theorem s_X5_gainOf {A : Nat → Nat → Prop} {F : Nat → Nat → Int32} {w : Nat} (b1 : Nat) (a2 : Int32) (hT_b1 : isT b1) (h_a2 : 0 ≤ ti (a2) ∧ ti (a2) ≤ 5) {σ : zSto} (I : zInv A F w σ) (pre0 : ((ti a2) < (ti (σ.1 b1 12)))) {P : Int32 → zSto → Prop} (hP : ∀ (r : Int32), P r σ) : w_X5_gainOf b1 a2 σ P := by
  unfold w_X5_gainOf
  have ho := off_le I (isT_S hT_b1) h_a2.1 pre0
  have hf := full32 (σ.1 (b1 + 7) (a2).toNatClampNeg)
  refine ⟨vin (by omega), ?_⟩
  refine ⟨vin (by omega), ?_⟩
  refine s_X0_costsBefore b1 (σ.1 (b1 + 7) ((a2).toNatClampNeg)) (σ.1 190 6) hT_b1 (by omega) I (fun r4 => ?_)
  exact hP (((10 : Int32) * (σ.1 193 ((a2).toNatClampNeg))) - r4)
set_option maxHeartbeats 4000000 in
theorem s_X5_richest_7 {A : Nat → Nat → Prop} {F : Nat → Nat → Int32} {w : Nat} (q_1 : Nat) (hT_q_1 : isT q_1) {σ : zSto} (I : zInv A F w σ) {P : Int32 → zSto → Prop} (hP : ∀ (r : Int32), P r σ) : ∀ (n : Nat) (x_2 : Int32) (x_3 : Int32) (x_4 : Int32), (0 ≤ ti (x_4) ∧ ti (x_4) ≤ 6) → (6 - (ti (x_4)) < n) → w_X5_richest_7 q_1 P n x_2 x_3 x_4 σ := by
  intro n
  induction n with
  | zero =>
    intro x_2 x_3 x_4 h_x_4 hm
    exfalso
    omega
  | succ n ih =>
    intro x_2 x_3 x_4 h_x_4 hm
    unfold w_X5_richest_7
    refine ⟨?_, ?_⟩
    · intro uq1
      have ud2 : 0 ≤ ti ((σ.1 q_1 12)) ∧ ti ((σ.1 q_1 12)) ≤ 6 := rdr I (isT_0 hT_q_1) rfl rfl
      have uc3 := le_t uq1
      exact hP x_2
    · intro uq4
      have ud5 : 0 ≤ ti ((σ.1 q_1 12)) ∧ ti ((σ.1 q_1 12)) ≤ 6 := rdr I (isT_0 hT_q_1) rfl rfl
      have uc6 := nle_t uq4
      refine ⟨vin (by omega), ?_⟩
      refine ⟨?_, ?_⟩
      · intro uq7
        have uc8 := le_t uq7
        intro x2 ex2
        have ul9 := lit_1
        have ut10 := tadd (x := x_4) (y := (1 : Int32)) (by omega)
        have ut11 := eq_t ex2
        exact ih x_2 x_3 x2 (by omega) (by omega)
      · intro uq12
        have uc13 := nle_t uq12
        refine ⟨vin (by omega), ?_⟩
        intro x4 ex4
        intro x5 ex5
        have ul14 := lit_1
        have ut15 := tadd (x := x_4) (y := (1 : Int32)) (by omega)
        have ut16 := eq_t ex5
        exact ih x_4 x4 x5 (by omega) (by omega)
set_option maxHeartbeats 4000000 in
theorem s_X5_richest {A : Nat → Nat → Prop} {F : Nat → Nat → Int32} {w : Nat} (b1 : Nat) (hT_b1 : isT b1) {σ : zSto} (I : zInv A F w σ) {P : Int32 → zSto → Prop} (hP : ∀ (r : Int32), P r σ) : w_X5_richest b1 σ P := by
  unfold w_X5_richest
  refine ⟨70000, ?_⟩
  have ul1 := lit_0
  have ul2 := lit_m1
  exact s_X5_richest_7 b1 hT_b1 I hP 70000 (-1 : Int32) (0 : Int32) (0 : Int32) (by omega) (by omega)
set_option maxHeartbeats 4000000 in
theorem s_X5_remainsInAll_4 {A : Nat → Nat → Prop} {F : Nat → Nat → Int32} {w : Nat} (q_1 : Nat) (hT_q_1 : isT q_1) {σ : zSto} (I : zInv A F w σ) {P : Int32 → zSto → Prop} (hP : ∀ (r : Int32), P r σ) : ∀ (n : Nat) (x_2 : Int32) (x_3 : Int32), (0 ≤ ti (x_3) ∧ ti (x_3) ≤ 16) → (16 - (ti (x_3)) < n) → w_X5_remainsInAll_4 q_1 P n x_2 x_3 σ := by
  intro n
  induction n with
  | zero =>
    intro x_2 x_3 h_x_3 hm
    exfalso
    omega
  | succ n ih =>
    intro x_2 x_3 h_x_3 hm
    unfold w_X5_remainsInAll_4
    refine ⟨?_, ?_⟩
    · intro uq1
      have ud2 : 0 ≤ ti ((σ.1 q_1 11)) ∧ ti ((σ.1 q_1 11)) ≤ 16 := rdr I (isT_0 hT_q_1) rfl rfl
      have uc3 := le_t uq1
      exact hP x_2
    · intro uq4
      have ud5 : 0 ≤ ti ((σ.1 q_1 11)) ∧ ti ((σ.1 q_1 11)) ≤ 16 := rdr I (isT_0 hT_q_1) rfl rfl
      have uc6 := nle_t uq4
      refine ⟨vin (by omega), ?_⟩
      intro x2 ex2
      intro x3 ex3
      have ul7 := lit_1
      have ut8 := tadd (x := x_3) (y := (1 : Int32)) (by omega)
      have ut9 := eq_t ex3
      exact ih x2 x3 (by omega) (by omega)
set_option maxHeartbeats 4000000 in
theorem s_X5_remainsInAll {A : Nat → Nat → Prop} {F : Nat → Nat → Int32} {w : Nat} (b1 : Nat) (hT_b1 : isT b1) {σ : zSto} (I : zInv A F w σ) {P : Int32 → zSto → Prop} (hP : ∀ (r : Int32), P r σ) : w_X5_remainsInAll b1 σ P := by
  unfold w_X5_remainsInAll
  refine ⟨70000, ?_⟩
  have ul1 := lit_0
  exact s_X5_remainsInAll_4 b1 hT_b1 I hP 70000 (0 : Int32) (0 : Int32) (by omega) (by omega)
set_option maxHeartbeats 4000000 in
theorem s_X6_clear {A : Nat → Nat → Prop} {F : Nat → Nat → Int32} {w : Nat} (pc : okC A) {σ : zSto} (I : zInv A F w σ) {P : zSto → Prop} (hP : ∀ (σ2 : zSto), zInv A F w σ2 → P σ2) : w_X6_clear σ P := by
  unfold w_X6_clear
  intro σ1 eσ1
  have ul2 := lit_0
  have uI1 : zInv A F w σ1 := by rw [eσ1]; exact wIr (a := 0) (b := 16) I (pC pc (by decide)) (rl0 rk_200) kd_200 rfl rfl (by omega)
  exact hP σ1 uI1
set_option maxHeartbeats 4000000 in
theorem s_X6_add {A : Nat → Nat → Prop} {F : Nat → Nat → Int32} {w : Nat} (pc : okC A) (a1 : Int32) (a2 : Int32) (a3 : Int32) (h_a1 : 0 ≤ ti (a1) ∧ ti (a1) ≤ 15) {σ : zSto} (I : zInv A F w σ) {P : zSto → Prop} (hP : ∀ (σ2 : zSto), zInv A F w σ2 → P σ2) : w_X6_add a1 a2 a3 σ P := by
  unfold w_X6_add
  refine ⟨?_, ?_⟩
  · intro uq1
    have ul2 := lit_16
    have ud3 : 0 ≤ ti ((σ.1 200 6)) ∧ ti ((σ.1 200 6)) ≤ 16 := rdr I kd_200 rfl rfl
    have uc4 := le_t uq1
    exact hP σ I
  · intro uq5
    have ul6 := lit_16
    have ud7 : 0 ≤ ti ((σ.1 200 6)) ∧ ti ((σ.1 200 6)) ≤ 16 := rdr I kd_200 rfl rfl
    have uc8 := nle_t uq5
    refine ⟨vin (by omega), ?_⟩
    intro σ2 eσ2
    have uI9 : zInv A F w σ2 := by rw [eσ2]; exact wI0 I (pC pc (by decide)) rk_201 kd_201
    have ue10 : ti ((σ2.1 200 6)) = ti ((σ.1 200 6)) := by rw [eσ2]; exact congrArg ti (zI_q (Or.inl (by omega)))
    have ud11 : 0 ≤ ti ((σ2.1 200 6)) ∧ ti ((σ2.1 200 6)) ≤ 16 := rdr uI9 kd_200 rfl rfl
    refine ⟨vin (by omega), ?_⟩
    intro σ4 eσ4
    have uI12 : zInv A F w σ4 := by rw [eσ4]; exact wI0 uI9 (pC pc (by decide)) rk_202 kd_202
    have ue13 : ti ((σ4.1 200 6)) = ti ((σ2.1 200 6)) := by rw [eσ4]; exact congrArg ti (zI_q (Or.inl (by omega)))
    have ud14 : 0 ≤ ti ((σ4.1 200 6)) ∧ ti ((σ4.1 200 6)) ≤ 16 := rdr uI12 kd_200 rfl rfl
    refine ⟨vin (by omega), ?_⟩
    intro σ6 eσ6
    have uI15 : zInv A F w σ6 := by rw [eσ6]; exact wI0 uI12 (pC pc (by decide)) rk_203 kd_203
    intro σ7 eσ7
    have ue17 : ti ((σ6.1 200 6)) = ti ((σ4.1 200 6)) := by rw [eσ6]; exact congrArg ti (zI_q (Or.inl (by omega)))
    have ud18 : 0 ≤ ti ((σ6.1 200 6)) ∧ ti ((σ6.1 200 6)) ≤ 16 := rdr uI15 kd_200 rfl rfl
    have ul19 := lit_1
    have ut20 := tadd (x := (σ6.1 200 6)) (y := (1 : Int32)) (by omega)
    have uI16 : zInv A F w σ7 := by rw [eσ7]; exact wIr (a := 0) (b := 16) uI15 (pC pc (by decide)) (rl0 rk_200) kd_200 rfl rfl (by omega)
    exact hP σ7 uI16
set_option maxHeartbeats 4000000 in
theorem s_X6_surePosts {A : Nat → Nat → Prop} {F : Nat → Nat → Int32} {w : Nat} {σ : zSto} (I : zInv A F w σ) {P : Int32 → zSto → Prop} (hP : ∀ (r : Int32), P r σ) : w_X6_surePosts σ P := by
  unfold w_X6_surePosts
  refine ⟨?_, ?_⟩
  · intro uq1
    have ul2 := lit_0
    exact hP (σ.1 200 8)
  · intro uq3
    have ul4 := lit_0
    have uc5 := eq_t uq3
    exact hP (-1 : Int32)
set_option maxHeartbeats 4000000 in
theorem s_X6_keep {A : Nat → Nat → Prop} {F : Nat → Nat → Int32} {w : Nat} (pc : okC A) (a1 : Int32) {σ : zSto} (I : zInv A F w σ) {P : zSto → Prop} (hP : ∀ (σ2 : zSto), zInv A F w σ2 → P σ2) : w_X6_keep a1 σ P := by
  unfold w_X6_keep
  intro σ1 eσ1
  have uI1 : zInv A F w σ1 := by rw [eσ1]; exact wIr I (pC pc (by decide)) (rl0 rk_200) kd_200 rfl rfl (full32 _)
  intro σ2 eσ2
  have uI2 : zInv A F w σ2 := by rw [eσ2]; exact wIr uI1 (pC pc (by decide)) (rl0 rk_200) kd_200 rfl rfl (full32 _)
  intro σ3 eσ3
  have uI3 : zInv A F w σ3 := by rw [eσ3]; exact wIr uI2 (pC pc (by decide)) (rl0 rk_200) kd_200 rfl rfl (full32 _)
  refine ⟨?_, ?_⟩
  · intro uq4
    have ue5 : ti ((σ3.1 200 7)) = ti ((σ2.1 200 7)) := by rw [eσ3]; exact congrArg ti (zI_q (Or.inr (by decide)))
    have ue6 : ti ((σ2.1 200 7)) = ti ((σ1.1 200 7)) := by rw [eσ2]; exact congrArg ti (zI_q (Or.inr (by decide)))
    have ue7 : ti ((σ1.1 200 7)) = ti (((σ.1 200 7) + (1 : Int32))) := by rw [eσ1]; exact congrArg ti zI_s
    have ul8 := lit_1
    try have ut9 := tadd (x := (σ.1 200 7)) (y := (1 : Int32)) (by omega)
    intro σ4 eσ4
    have uI10 : zInv A F w σ4 := by rw [eσ4]; exact wIr uI3 (pC pc (by decide)) (rl0 rk_200) kd_200 rfl rfl (full32 _)
    exact hP σ4 uI10
  · intro uq11
    have ue12 : ti ((σ3.1 200 7)) = ti ((σ2.1 200 7)) := by rw [eσ3]; exact congrArg ti (zI_q (Or.inr (by decide)))
    have ue13 : ti ((σ2.1 200 7)) = ti ((σ1.1 200 7)) := by rw [eσ2]; exact congrArg ti (zI_q (Or.inr (by decide)))
    have ue14 : ti ((σ1.1 200 7)) = ti (((σ.1 200 7) + (1 : Int32))) := by rw [eσ1]; exact congrArg ti zI_s
    have ul15 := lit_1
    try have ut16 := tadd (x := (σ.1 200 7)) (y := (1 : Int32)) (by omega)
    have uc17 := eq_t uq11
    intro σ5 eσ5
    have uI18 : zInv A F w σ5 := by rw [eσ5]; exact wIr uI3 (pC pc (by decide)) (rl0 rk_200) kd_200 rfl rfl (full32 _)
    exact hP σ5 uI18
