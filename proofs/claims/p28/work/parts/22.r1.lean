set_option maxHeartbeats 4000000 in
theorem s_X10_poundsOf_4 {A : Nat → Nat → Prop} {F : Nat → Nat → Int32} {w : Nat} (x_1 : Int32) {σ : zSto} (I : zInv A F w σ) {P : Int32 → zSto → Prop} (hP : ∀ (r : Int32), P r σ) : ∀ (n : Nat) (x_2 : Int32) (x_3 : Int32), (0 ≤ ti (x_3) ∧ ti (x_3) ≤ 15) → (15 - (ti (x_3)) < n) → w_X10_poundsOf_4 x_1 P n x_2 x_3 σ := by
  intro n
  induction n with
  | zero =>
    intro x_2 x_3 h_x_3 hm
    exfalso
    omega
  | succ n ih =>
    intro x_2 x_3 h_x_3 hm
    unfold w_X10_poundsOf_4
    refine ⟨?_, ?_⟩
    · intro uq1
      have ud2 : 0 ≤ ti ((σ.1 223 25)) ∧ ti ((σ.1 223 25)) ≤ 15 := rdr I kd_223 rfl rfl
      have uc3 := le_t uq1
      exact hP x_2
    · intro uq4
      have ud5 : 0 ≤ ti ((σ.1 223 25)) ∧ ti ((σ.1 223 25)) ≤ 15 := rdr I kd_223 rfl rfl
      have uc6 := nle_t uq4
      refine s_X10_has x_1 x_3 I (fun r2 => ?_)
      intro ub7
      have uc8 := bool_t ub7
      refine ⟨?_, ?_⟩
      · intro uq9
        have ul10 := lit_0
        have uc11 := eq_t uq9
        intro x3 ex3
        intro x4 ex4
        have ul12 := lit_1
        have ut13 := tadd (x := x_3) (y := (1 : Int32)) (by omega)
        have ut14 := eq_t ex4
        exact ih x3 x4 (by omega) (by omega)
      · intro uq15
        have ul16 := lit_0
        have uc17 := ne_t uq15
        refine ⟨vin (by omega), ?_⟩
        intro x6 ex6
        intro x7 ex7
        have ul18 := lit_1
        have ut19 := tadd (x := x_3) (y := (1 : Int32)) (by omega)
        have ut20 := eq_t ex7
        exact ih x6 x7 (by omega) (by omega)
set_option maxHeartbeats 4000000 in
theorem s_X10_poundsOf {A : Nat → Nat → Prop} {F : Nat → Nat → Int32} {w : Nat} (a1 : Int32) {σ : zSto} (I : zInv A F w σ) {P : Int32 → zSto → Prop} (hP : ∀ (r : Int32), P r σ) : w_X10_poundsOf a1 σ P := by
  unfold w_X10_poundsOf
  refine ⟨70000, ?_⟩
  have ul1 := lit_0
  exact s_X10_poundsOf_4 a1 I hP 70000 (0 : Int32) (0 : Int32) (by omega) (by omega)
set_option maxHeartbeats 4000000 in
theorem s_X10_costsOf_4 {A : Nat → Nat → Prop} {F : Nat → Nat → Int32} {w : Nat} (x_1 : Int32) {σ : zSto} (I : zInv A F w σ) {P : Int32 → zSto → Prop} (hP : ∀ (r : Int32), P r σ) : ∀ (n : Nat) (x_2 : Int32) (x_3 : Int32), (0 ≤ ti (x_3) ∧ ti (x_3) ≤ 15) → (15 - (ti (x_3)) < n) → w_X10_costsOf_4 x_1 P n x_2 x_3 σ := by
  intro n
  induction n with
  | zero =>
    intro x_2 x_3 h_x_3 hm
    exfalso
    omega
  | succ n ih =>
    intro x_2 x_3 h_x_3 hm
    unfold w_X10_costsOf_4
    refine ⟨?_, ?_⟩
    · intro uq1
      have ud2 : 0 ≤ ti ((σ.1 223 25)) ∧ ti ((σ.1 223 25)) ≤ 15 := rdr I kd_223 rfl rfl
      have uc3 := le_t uq1
      exact hP x_2
    · intro uq4
      have ud5 : 0 ≤ ti ((σ.1 223 25)) ∧ ti ((σ.1 223 25)) ≤ 15 := rdr I kd_223 rfl rfl
      have uc6 := nle_t uq4
      refine s_X10_has x_1 x_3 I (fun r2 => ?_)
      intro ub7
      have uc8 := bool_t ub7
      refine ⟨?_, ?_⟩
      · intro uq9
        have ul10 := lit_0
        have uc11 := eq_t uq9
        intro x3 ex3
        intro x4 ex4
        have ul12 := lit_1
        have ut13 := tadd (x := x_3) (y := (1 : Int32)) (by omega)
        have ut14 := eq_t ex4
        exact ih x3 x4 (by omega) (by omega)
      · intro uq15
        have ul16 := lit_0
        have uc17 := ne_t uq15
        refine ⟨vin (by omega), ?_⟩
        intro x6 ex6
        intro x7 ex7
        have ul18 := lit_1
        have ut19 := tadd (x := x_3) (y := (1 : Int32)) (by omega)
        have ut20 := eq_t ex7
        exact ih x6 x7 (by omega) (by omega)
set_option maxHeartbeats 4000000 in
theorem s_X10_costsOf {A : Nat → Nat → Prop} {F : Nat → Nat → Int32} {w : Nat} (a1 : Int32) {σ : zSto} (I : zInv A F w σ) {P : Int32 → zSto → Prop} (hP : ∀ (r : Int32), P r σ) : w_X10_costsOf a1 σ P := by
  unfold w_X10_costsOf
  refine ⟨70000, ?_⟩
  have ul1 := lit_0
  exact s_X10_costsOf_4 a1 I hP 70000 (0 : Int32) (0 : Int32) (by omega) (by omega)
set_option maxHeartbeats 4000000 in
theorem s_X10_bearing_4 {A : Nat → Nat → Prop} {F : Nat → Nat → Int32} {w : Nat} {σ : zSto} (I : zInv A F w σ) {P : Int32 → zSto → Prop} (hP : ∀ (r : Int32), 0 ≤ ti (r) ∧ ti (r) ≤ 65535 → P r σ) : ∀ (n : Nat) (x_1 : Int32) (x_2 : Int32), (0 ≤ ti (x_1) ∧ ti (x_1) ≤ 65535) → (0 ≤ ti (x_2) ∧ ti (x_2) ≤ 15) → (15 - (ti (x_2)) < n) → w_X10_bearing_4 P n x_1 x_2 σ := by
  intro n
  induction n with
  | zero =>
    intro x_1 x_2 h_x_1 h_x_2 hm
    exfalso
    omega
  | succ n ih =>
    intro x_1 x_2 h_x_1 h_x_2 hm
    unfold w_X10_bearing_4
    refine ⟨?_, ?_⟩
    · intro uq1
      have ud2 : 0 ≤ ti ((σ.1 223 25)) ∧ ti ((σ.1 223 25)) ≤ 15 := rdr I kd_223 rfl rfl
      have uc3 := le_t uq1
      exact hP x_1 (by omega)
    · intro uq4
      have ud5 : 0 ≤ ti ((σ.1 223 25)) ∧ ti ((σ.1 223 25)) ≤ 15 := rdr I kd_223 rfl rfl
      have uc6 := nle_t uq4
      refine ⟨vin (by omega), ?_⟩
      refine ⟨?_, ?_⟩
      · intro uq7
        have ul8 := lit_0
        have uc9 := le_t uq7
        intro x2 ex2
        intro x3 ex3
        have ut10 := or_rg (x := x_1) (y := (0 : Int32)) (by omega) (by omega)
        have ut11 := eq_t ex2
        have ul12 := lit_1
        have ut13 := tadd (x := x_2) (y := (1 : Int32)) (by omega)
        have ut14 := eq_t ex3
        exact ih x2 x3 (by omega) (by omega) (by omega)
      · intro uq15
        have ul16 := lit_0
        have uc17 := nle_t uq15
        intro x4 ex4
        intro x5 ex5
        have ut18 := shl1_15 (x := x_2) (by omega)
        have ut19 := or_rg (x := x_1) (y := ((1 : Int32) <<< (x_2 &&& 31))) (by omega) (by omega)
        have ut20 := eq_t ex4
        have ul21 := lit_1
        have ut22 := tadd (x := x_2) (y := (1 : Int32)) (by omega)
        have ut23 := eq_t ex5
        exact ih x4 x5 (by omega) (by omega) (by omega)
set_option maxHeartbeats 4000000 in
theorem s_X10_bearing {A : Nat → Nat → Prop} {F : Nat → Nat → Int32} {w : Nat} {σ : zSto} (I : zInv A F w σ) {P : Int32 → zSto → Prop} (hP : ∀ (r : Int32), 0 ≤ ti (r) ∧ ti (r) ≤ 65535 → P r σ) : w_X10_bearing σ P := by
  unfold w_X10_bearing
  refine ⟨70000, ?_⟩
  have ul1 := lit_0
  exact s_X10_bearing_4 I hP 70000 (0 : Int32) (0 : Int32) (by omega) (by omega) (by omega)
set_option maxHeartbeats 4000000 in
theorem s_X10_purse_55 {A : Nat → Nat → Prop} {F : Nat → Nat → Int32} {w : Nat} (x_3 : Int32) (x_4 : Int32) (x_5 : Int32) (h_x_5 : 0 ≤ ti (x_5) ∧ ti (x_5) ≤ 65535) {σ : zSto} (I : zInv A F w σ) {P : Int32 → zSto → Prop} (hP : ∀ (r : Int32) (σ2 : zSto), zInv A F w σ2 → P r σ2) : ∀ (n : Nat) (x_6 : Int32) (x_7 : Int32) (x_8 : Int32) (x_9 : Int32), (1 ≤ ti (x_9) ∧ ti (x_9) ≤ 65536) → (65536 - (ti (x_9)) < n) → w_X10_purse_55 x_3 x_4 x_5 P n x_6 x_7 x_8 x_9 σ := by
  intro n
  induction n with
  | zero =>
    intro x_6 x_7 x_8 x_9 h_x_9 hm
    exfalso
    omega
  | succ n ih =>
    intro x_6 x_7 x_8 x_9 h_x_9 hm
    unfold w_X10_purse_55
    refine ⟨?_, ?_⟩
    · intro uq1
      have uc2 := lt_t uq1
      refine ⟨?_, ?_⟩
      · intro uq3
        have ul4 := lit_0
        refine ⟨?_, ?_⟩
        · intro uq5
          have ul6 := lit_1
          exact hP x_8 σ I
        · intro uq7
          have ul8 := lit_1
          have uc9 := eq_t uq7
          exact hP x_6 σ I
      · intro uq10
        have ul11 := lit_0
        have uc12 := eq_t uq10
        exact hP x_7 σ I
    · intro uq13
      have uc14 := nlt_t uq13
      refine ⟨?_, ?_⟩
      · intro uq15
        intro x10 ex10
        have ul16 := lit_1
        have ut17 := tadd (x := x_9) (y := (1 : Int32)) (by omega)
        have ut18 := eq_t ex10
        exact ih x_6 x_7 x_8 x10 (by omega) (by omega)
      · intro uq19
        refine s_X10_poundsOf x_9 I (fun r12 => ?_)
        refine s_X10_costsOf x_9 I (fun r14 => ?_)
        refine ⟨?_, ?_⟩
        · intro uq20
          have uc21 := lt_t uq20
          intro x15 ex15
          have ul22 := lit_1
          have ut23 := tadd (x := x_9) (y := (1 : Int32)) (by omega)
          have ut24 := eq_t ex15
          exact ih x_6 x_7 x_8 x15 (by omega) (by omega)
        · intro uq25
          have uc26 := nlt_t uq25
          refine ⟨?_, ?_⟩
          · intro uq27
            have uc28 := lt_t uq27
            intro x16 ex16
            have ul29 := lit_1
            have ut30 := tadd (x := x_9) (y := (1 : Int32)) (by omega)
            have ut31 := eq_t ex16
            exact ih x_9 r12 r14 x16 (by omega) (by omega)
          · intro uq32
            have uc33 := nlt_t uq32
            refine ⟨?_, ?_⟩
            · intro uq34
              intro x17 ex17
              have ul35 := lit_1
              have ut36 := tadd (x := x_9) (y := (1 : Int32)) (by omega)
              have ut37 := eq_t ex17
              exact ih x_6 x_7 x_8 x17 (by omega) (by omega)
            · intro uq38
              have uc39 := eq_t uq38
              refine ⟨?_, ?_⟩
              · intro uq40
                have uc41 := le_t uq40
                intro x18 ex18
                have ul42 := lit_1
                have ut43 := tadd (x := x_9) (y := (1 : Int32)) (by omega)
                have ut44 := eq_t ex18
                exact ih x_6 x_7 x_8 x18 (by omega) (by omega)
              · intro uq45
                have uc46 := nle_t uq45
                intro x19 ex19
                have ul47 := lit_1
                have ut48 := tadd (x := x_9) (y := (1 : Int32)) (by omega)
                have ut49 := eq_t ex19
                exact ih x_9 r12 r14 x19 (by omega) (by omega)
set_option maxHeartbeats 4000000 in
theorem s_X10_purse {A : Nat → Nat → Prop} {F : Nat → Nat → Int32} {w : Nat} (pr : okR A) (a1 : Int32) (a2 : Int32) (a3 : Int32) (a4 : Int32) {σ : zSto} (I : zInv A F w σ) {P : Int32 → zSto → Prop} (hP : ∀ (r : Int32) (σ2 : zSto), zInv A F w σ2 → P r σ2) : w_X10_purse a1 a2 a3 a4 σ P := by
  unfold w_X10_purse
  intro σ1 eσ1
  have uI1 : zInv A F w σ1 := by rw [eσ1]; exact wIr I (pRo pr (by decide)) (by decide) kd_223 rfl rfl (full32 _)
  have ul2 := lit_0
  have ul3 := lit_999
  refine s_X10_in a3 (0 : Int32) (999 : Int32) uI1 (fun r3 uz4 => ?_)
  intro ub5
  have uc6 := bool_t ub5
  refine ⟨?_, ?_⟩
  · intro uq7
    have uc8 := eq_t uq7
    exact hP (-1 : Int32) σ1 uI1
  · intro uq9
    have uc10 := uz4 uq9
    have uc11 := ne_t uq9
    have ul12 := lit_2
    refine s_X10_in a4 (0 : Int32) (2 : Int32) uI1 (fun r5 uz13 => ?_)
    intro ub14
    have uc15 := bool_t ub14
    refine ⟨?_, ?_⟩
    · intro uq16
      have uc17 := eq_t uq16
      exact hP (-1 : Int32) σ1 uI1
    · intro uq18
      have uc19 := uz13 uq18
      have uc20 := ne_t uq18
      refine s_X10_hand pr a1 a2 uI1 (fun r7 σ6 uI21 uz22 => ?_)
      intro ub23
      have uc24 := bool_t ub23
      refine ⟨?_, ?_⟩
      · intro uq25
        have uc26 := uz22 uq25
        have uc27 := ne_t uq25
        refine s_X10_bearing uI21 (fun r9 hr9 => ?_)
        refine ⟨70000, ?_⟩
        have ul28 := lit_1
        exact s_X10_purse_55 a3 a4 r9 (by omega) uI21 hP 70000 (0 : Int32) (0 : Int32) (0 : Int32) (1 : Int32) (by omega) (by omega)
      · intro uq29
        have uc30 := eq_t uq29
        exact hP (-1 : Int32) σ6 uI21
set_option maxHeartbeats 4000000 in
theorem s_X10_gainNow_4 {A : Nat → Nat → Prop} {F : Nat → Nat → Int32} {w : Nat} (x_1 : Int32) (h_x_1 : 0 ≤ ti (x_1) ∧ ti (x_1) ≤ 5) {σ : zSto} (I : zInv A F w σ) {P : Int32 → zSto → Prop} (hP : ∀ (r : Int32), P r σ) : ∀ (n : Nat) (x_2 : Int32) (x_3 : Int32), (0 ≤ ti (x_3) ∧ ti (x_3) ≤ 15) → (15 - (ti (x_3)) < n) → w_X10_gainNow_4 x_1 P n x_2 x_3 σ := by
  intro n
  induction n with
  | zero =>
    intro x_2 x_3 h_x_3 hm
    exfalso
    omega
  | succ n ih =>
    intro x_2 x_3 h_x_3 hm
    unfold w_X10_gainNow_4
    have ul1 := lit_1
    refine s_X10_riderOf x_1 (1 : Int32) (by omega) (by omega) I (fun r2 uy2 uy3 => ?_)
    have ur4 : 0 ≤ ti (r2) ∧ ti (r2) ≤ 15 := by omega
    refine ⟨?_, ?_⟩
    · intro uq5
      have uc6 := le_t uq5
      refine ⟨vin (by omega), ?_⟩
      exact hP (((10 : Int32) * (σ.1 243 ((x_1).toNatClampNeg))) - x_2)
    · intro uq7
      have uc8 := nle_t uq7
      refine ⟨vin (by omega), ?_⟩
      refine ⟨?_, ?_⟩
      · intro uq9
        have ul10 := lit_m1
        have uc11 := eq_t uq9
        intro x5 ex5
        intro x6 ex6
        have ut12 := tadd (x := x_3) (y := (1 : Int32)) (by omega)
        have ut13 := eq_t ex6
        exact ih x5 x6 (by omega) (by omega)
      · intro uq14
        have ul15 := lit_m1
        refine ⟨vin (by omega), ?_⟩
        intro x8 ex8
        intro x9 ex9
        have ut16 := tadd (x := x_3) (y := (1 : Int32)) (by omega)
        have ut17 := eq_t ex9
        exact ih x8 x9 (by omega) (by omega)
set_option maxHeartbeats 4000000 in
theorem s_X10_gainNow {A : Nat → Nat → Prop} {F : Nat → Nat → Int32} {w : Nat} (a1 : Int32) (h_a1 : 0 ≤ ti (a1) ∧ ti (a1) ≤ 5) {σ : zSto} (I : zInv A F w σ) {P : Int32 → zSto → Prop} (hP : ∀ (r : Int32), P r σ) : w_X10_gainNow a1 σ P := by
  unfold w_X10_gainNow
  refine ⟨70000, ?_⟩
  have ul1 := lit_0
  exact s_X10_gainNow_4 a1 (by omega) I hP 70000 (0 : Int32) (0 : Int32) (by omega) (by omega)
set_option maxHeartbeats 4000000 in
theorem s_X10_gainOf {A : Nat → Nat → Prop} {F : Nat → Nat → Int32} {w : Nat} (pr : okR A) (a1 : Int32) (a2 : Int32) (h_a2 : 0 ≤ ti (a2) ∧ ti (a2) ≤ 5) {σ : zSto} (I : zInv A F w σ) {P : Int32 → zSto → Prop} (hP : ∀ (r : Int32) (σ2 : zSto), zInv A F w σ2 → P r σ2) : w_X10_gainOf a1 a2 σ P := by
  unfold w_X10_gainOf
  refine s_X10_go pr (0 : Int32) (0 : Int32) a1 I (fun σ1 uI1 => ?_)
  refine s_X10_gainNow a2 (by omega) uI1 (fun r3 => ?_)
  exact hP r3 σ1 uI1
set_option maxHeartbeats 4000000 in
theorem s_X10_isRest_2 {A : Nat → Nat → Prop} {F : Nat → Nat → Int32} {w : Nat} (pr : okR A) (x_1 : Int32) {P : Int32 → zSto → Prop} (hP : ∀ (r : Int32) (σ2 : zSto), zInv A F w σ2 → P r σ2) : ∀ (n : Nat) (x_2 : Int32) (σ : zSto), zInv A F w σ → (0 ≤ ti (x_2) ∧ ti (x_2) ≤ 6) → (6 - (ti (x_2)) < n) → w_X10_isRest_2 x_1 P n x_2 σ := by
  intro n
  induction n with
  | zero =>
    intro x_2 σ I h_x_2 hm
    exfalso
    omega
  | succ n ih =>
    intro x_2 σ I h_x_2 hm
    unfold w_X10_isRest_2
    refine ⟨?_, ?_⟩
    · intro uq1
      have ud2 : 0 ≤ ti ((σ.1 223 26)) ∧ ti ((σ.1 223 26)) ≤ 6 := rdr I kd_223 rfl rfl
      have uc3 := le_t uq1
      exact hP (1 : Int32) σ I
    · intro uq4
      have ud5 : 0 ≤ ti ((σ.1 223 26)) ∧ ti ((σ.1 223 26)) ≤ 6 := rdr I kd_223 rfl rfl
      have uc6 := nle_t uq4
      refine s_X10_gainOf pr (x_1 ^^^ ((1 : Int32) <<< (x_2 &&& 31))) x_2 (by omega) I (fun r2 σ1 uI7 => ?_)
      refine s_X10_gainOf pr x_1 x_2 (by omega) uI7 (fun r4 σ3 uI8 => ?_)
      refine ⟨?_, ?_⟩
      · intro uq9
        have uc10 := le_t uq9
        intro x5 ex5
        have ul11 := lit_1
        have ut12 := tadd (x := x_2) (y := (1 : Int32)) (by omega)
        have ut13 := eq_t ex5
        exact ih x5 σ3 uI8 (by omega) (by omega)
      · intro uq14
        have uc15 := nle_t uq14
        exact hP (0 : Int32) σ3 uI8
set_option maxHeartbeats 4000000 in
theorem s_X10_isRest {A : Nat → Nat → Prop} {F : Nat → Nat → Int32} {w : Nat} (pr : okR A) (a1 : Int32) {σ : zSto} (I : zInv A F w σ) {P : Int32 → zSto → Prop} (hP : ∀ (r : Int32) (σ2 : zSto), zInv A F w σ2 → P r σ2) : w_X10_isRest a1 σ P := by
  unfold w_X10_isRest
  refine ⟨70000, ?_⟩
  have ul1 := lit_0
  exact s_X10_isRest_2 pr a1 hP 70000 (0 : Int32) σ I (by omega) (by omega)
set_option maxHeartbeats 4000000 in
theorem s_X10_rest_23 {A : Nat → Nat → Prop} {F : Nat → Nat → Int32} {w : Nat} (pr : okR A) (x_3 : Int32) {P : Int32 → zSto → Prop} (hP : ∀ (r : Int32) (σ2 : zSto), zInv A F w σ2 → P r σ2) : ∀ (n : Nat) (x_4 : Int32) (x_5 : Int32) (σ : zSto), zInv A F w σ → (0 ≤ ti (x_5) ∧ ti (x_5) ≤ 64) → (64 - (ti (x_5)) < n) → w_X10_rest_23 x_3 P n x_4 x_5 σ := by
  intro n
  induction n with
  | zero =>
    intro x_4 x_5 σ I h_x_5 hm
    exfalso
    omega
  | succ n ih =>
    intro x_4 x_5 σ I h_x_5 hm
    unfold w_X10_rest_23
    refine s_X10_everyone I (fun r5 hr5 => ?_)
    refine ⟨?_, ?_⟩
    · intro uq1
      have uc2 := lt_t uq1
      refine ⟨?_, ?_⟩
      · intro uq3
        have ul4 := lit_m1
        exact hP (-2 : Int32) σ I
      · intro uq5
        have ul6 := lit_m1
        have uc7 := eq_t uq5
        exact hP x_4 σ I
    · intro uq8
      have uc9 := nlt_t uq8
      refine s_X10_isRest pr x_5 I (fun r7 σ6 uI10 => ?_)
      intro ub11
      have uc12 := bool_t ub11
      refine ⟨?_, ?_⟩
      · intro uq13
        have ul14 := lit_0
        have uc15 := eq_t uq13
        intro x8 ex8
        have ul16 := lit_1
        have ut17 := tadd (x := x_5) (y := (1 : Int32)) (by omega)
        have ut18 := eq_t ex8
        exact ih x_4 x8 σ6 uI10 (by omega) (by omega)
      · intro uq19
        have ul20 := lit_0
        have uc21 := ne_t uq19
        refine ⟨?_, ?_⟩
        · intro uq22
          intro x9 ex9
          intro x10 ex10
          have ul23 := lit_1
          have ut24 := tadd (x := x_5) (y := (1 : Int32)) (by omega)
          have ut25 := eq_t ex10
          exact ih x9 x10 σ6 uI10 (by omega) (by omega)
        · intro uq26
          have uc27 := eq_t uq26
          exact hP x_5 σ6 uI10
set_option maxHeartbeats 4000000 in
theorem s_X10_rest {A : Nat → Nat → Prop} {F : Nat → Nat → Int32} {w : Nat} (pr : okR A) (a1 : Int32) (a2 : Int32) (a3 : Int32) {σ : zSto} (I : zInv A F w σ) {P : Int32 → zSto → Prop} (hP : ∀ (r : Int32) (σ2 : zSto), zInv A F w σ2 → P r σ2) : w_X10_rest a1 a2 a3 σ P := by
  unfold w_X10_rest
  intro σ1 eσ1
  have uI1 : zInv A F w σ1 := by rw [eσ1]; exact wIr I (pRo pr (by decide)) (by decide) kd_223 rfl rfl (full32 _)
  refine s_X10_hand pr a1 a2 uI1 (fun r3 σ2 uI2 uz3 => ?_)
  intro ub4
  have uc5 := bool_t ub4
  refine ⟨?_, ?_⟩
  · intro uq6
    have uc7 := uz3 uq6
    have ul8 := lit_0
    have uc9 := ne_t uq6
    refine ⟨70000, ?_⟩
    exact s_X10_rest_23 pr a3 hP 70000 (0 : Int32) (0 : Int32) σ2 uI2 (by omega) (by omega)
  · intro uq10
    have ul11 := lit_0
    have uc12 := eq_t uq10
    exact hP (-2 : Int32) σ2 uI2
set_option maxHeartbeats 4000000 in
theorem s_X10_gain {A : Nat → Nat → Prop} {F : Nat → Nat → Int32} {w : Nat} (pr : okR A) (a1 : Int32) (a2 : Int32) (a3 : Int32) (a4 : Int32) {σ : zSto} (I : zInv A F w σ) {P : Int32 → zSto → Prop} (hP : ∀ (r : Int32) (σ2 : zSto), zInv A F w σ2 → P r σ2) : w_X10_gain a1 a2 a3 a4 σ P := by
  unfold w_X10_gain
  intro σ1 eσ1
  have uI1 : zInv A F w σ1 := by rw [eσ1]; exact wIr I (pRo pr (by decide)) (by decide) kd_223 rfl rfl (full32 _)
  refine s_X10_hand pr a1 a2 uI1 (fun r3 σ2 uI2 uz3 => ?_)
  intro ub4
  have uc5 := bool_t ub4
  refine ⟨?_, ?_⟩
  · intro uq6
    have ul7 := lit_0
    have uc8 := eq_t uq6
    exact hP (-1000000 : Int32) σ2 uI2
  · intro uq9
    have uc10 := uz3 uq9
    have ul11 := lit_0
    have uc12 := ne_t uq9
    refine s_X10_everyone uI2 (fun r5 hr5 => ?_)
    refine s_X10_in a3 (0 : Int32) r5 uI2 (fun r7 uz13 => ?_)
    intro ub14
    have uc15 := bool_t ub14
    refine ⟨?_, ?_⟩
    · intro uq16
      have uc17 := eq_t uq16
      exact hP (-1000000 : Int32) σ2 uI2
    · intro uq18
      have uc19 := uz13 uq18
      have uc20 := ne_t uq18
      refine s_X10_isRider a4 uI2 (fun r9 uz21 => ?_)
      intro ub22
      have uc23 := bool_t ub22
      refine ⟨?_, ?_⟩
      · intro uq24
        have uc25 := eq_t uq24
        exact hP (-1000000 : Int32) σ2 uI2
      · intro uq26
        have uc27 := uz21 uq26
        have uc28 := ne_t uq26
        refine s_X10_gainOf pr a3 a4 (by omega) uI2 (fun r11 σ10 uI29 => ?_)
        exact hP r11 σ10 uI29
set_option maxHeartbeats 4000000 in
theorem s_X10_shells_45 {A : Nat → Nat → Prop} {F : Nat → Nat → Int32} {w : Nat} (x_3 : Int32) (x_4 : Int32) (x_5 : Int32) (x_6 : Int32) (h_x_6 : 0 ≤ ti (x_6) ∧ ti (x_6) ≤ 65535) {σ : zSto} (I : zInv A F w σ) {P : Int32 → zSto → Prop} (hP : ∀ (r : Int32) (σ2 : zSto), zInv A F w σ2 → P r σ2) : ∀ (n : Nat) (x_7 : Int32) (x_8 : Int32) (x_9 : Int32) (x_10 : Int32), (0 ≤ ti (x_10) ∧ ti (x_10) ≤ 65536) → (65536 - (ti (x_10)) < n) → w_X10_shells_45 x_3 x_4 x_5 x_6 P n x_7 x_8 x_9 x_10 σ := by
  intro n
  induction n with
  | zero =>
    intro x_7 x_8 x_9 x_10 h_x_10 hm
    exfalso
    omega
  | succ n ih =>
    intro x_7 x_8 x_9 x_10 h_x_10 hm
    unfold w_X10_shells_45
    refine ⟨?_, ?_⟩
    · intro uq1
      have uc2 := lt_t uq1
      refine ⟨?_, ?_⟩
      · intro uq3
        have ul4 := lit_0
        refine ⟨?_, ?_⟩
        · intro uq5
          have ul6 := lit_2
          refine ⟨?_, ?_⟩
          · intro uq7
            exact hP x_8 σ I
          · intro uq8
            have uc9 := eq_t uq8
            exact hP (-1 : Int32) σ I
        · intro uq10
          have ul11 := lit_2
          have uc12 := eq_t uq10
          exact hP x_9 σ I
      · intro uq13
        have ul14 := lit_0
        have uc15 := eq_t uq13
        exact hP x_7 σ I
    · intro uq16
      have uc17 := nlt_t uq16
      refine ⟨?_, ?_⟩
      · intro uq18
        intro x8 ex8
        have ul19 := lit_1
        have ut20 := tadd (x := x_10) (y := (1 : Int32)) (by omega)
        have ut21 := eq_t ex8
        exact ih x_7 x_8 x_9 x8 (by omega) (by omega)
      · intro uq22
        refine s_X10_poundsOf x_10 I (fun r10 => ?_)
        refine ⟨?_, ?_⟩
        · intro uq23
          intro x11 ex11
          have ul24 := lit_1
          have ut25 := tadd (x := x_10) (y := (1 : Int32)) (by omega)
          have ut26 := eq_t ex11
          exact ih x_7 x_8 x_9 x11 (by omega) (by omega)
        · intro uq27
          have uc28 := eq_t uq27
          refine s_X10_costsOf x_10 I (fun r13 => ?_)
          refine ⟨?_, ?_⟩
          · intro uq29
            intro x14 ex14
            have ul30 := lit_1
            have ut31 := tadd (x := x_10) (y := (1 : Int32)) (by omega)
            have ut32 := eq_t ex14
            exact ih x_7 x_8 x_9 x14 (by omega) (by omega)
          · intro uq33
            have uc34 := eq_t uq33
            intro x15 ex15
            intro x16 ex16
            intro x17 ex17
            intro x18 ex18
            have ul35 := lit_1
            have ut36 := tadd (x := x_10) (y := (1 : Int32)) (by omega)
            have ut37 := eq_t ex18
            exact ih x15 x16 x17 x18 (by omega) (by omega)
set_option maxHeartbeats 4000000 in
theorem s_X10_shells {A : Nat → Nat → Prop} {F : Nat → Nat → Int32} {w : Nat} (pr : okR A) (a1 : Int32) (a2 : Int32) (a3 : Int32) (a4 : Int32) (a5 : Int32) {σ : zSto} (I : zInv A F w σ) {P : Int32 → zSto → Prop} (hP : ∀ (r : Int32) (σ2 : zSto), zInv A F w σ2 → P r σ2) : w_X10_shells a1 a2 a3 a4 a5 σ P := by
  unfold w_X10_shells
  intro σ1 eσ1
  have uI1 : zInv A F w σ1 := by rw [eσ1]; exact wIr I (pRo pr (by decide)) (by decide) kd_223 rfl rfl (full32 _)
  have ul2 := lit_0
  have ul3 := lit_2
  refine s_X10_in a5 (0 : Int32) (2 : Int32) uI1 (fun r3 uz4 => ?_)
  intro ub5
  have uc6 := bool_t ub5
  refine ⟨?_, ?_⟩
  · intro uq7
    have uc8 := eq_t uq7
    exact hP (-1 : Int32) σ1 uI1
  · intro uq9
    have uc10 := uz4 uq9
    have uc11 := ne_t uq9
    refine s_X10_hand pr a1 a2 uI1 (fun r5 σ4 uI12 uz13 => ?_)
    intro ub14
    have uc15 := bool_t ub14
    refine ⟨?_, ?_⟩
    · intro uq16
      have uc17 := uz13 uq16
      have uc18 := ne_t uq16
      refine s_X10_bearing uI12 (fun r7 hr7 => ?_)
      refine ⟨70000, ?_⟩
      exact s_X10_shells_45 a3 a4 a5 r7 (by omega) uI12 hP 70000 (0 : Int32) r7 (0 : Int32) (0 : Int32) (by omega) (by omega)
    · intro uq19
      have uc20 := eq_t uq19
      exact hP (-1 : Int32) σ4 uI12
set_option maxHeartbeats 4000000 in
theorem s_X10_nextStation_4 {A : Nat → Nat → Prop} {F : Nat → Nat → Int32} {w : Nat} {σ : zSto} (I : zInv A F w σ) {P : Int32 → zSto → Prop} (hP : ∀ (r : Int32), (-1) ≤ ti (r) ∧ ti (r) ≤ 15 → P r σ) : ∀ (n : Nat) (x_2 : Int32), (1 ≤ ti (x_2) ∧ ti (x_2) ≤ 16) → (16 - (ti (x_2)) < n) → w_X10_nextStation_4 P n x_2 σ := by
  intro n
  induction n with
  | zero =>
    intro x_2 h_x_2 hm
    exfalso
    omega
  | succ n ih =>
    intro x_2 h_x_2 hm
    unfold w_X10_nextStation_4
    refine ⟨?_, ?_⟩
    · intro uq1
      have ud2 : 0 ≤ ti ((σ.1 223 24)) ∧ ti ((σ.1 223 24)) ≤ 16 := rdr I kd_223 rfl rfl
      have uc3 := le_t uq1
      have ul4 := lit_m1
      exact hP (-1 : Int32) (by omega)
    · intro uq5
      have ud6 : 0 ≤ ti ((σ.1 223 24)) ∧ ti ((σ.1 223 24)) ≤ 16 := rdr I kd_223 rfl rfl
      have uc7 := nle_t uq5
      have ul8 := lit_4
      refine s_X10_postOf x_2 (4 : Int32) (by omega) (by omega) I (fun r3 uy9 uy10 uy11 => ?_)
      refine ⟨?_, ?_⟩
      · intro uq12
        have ul13 := lit_m1
        have uc14 := eq_t uq12
        intro x4 ex4
        have ul15 := lit_1
        have ut16 := tadd (x := x_2) (y := (1 : Int32)) (by omega)
        have ut17 := eq_t ex4
        exact ih x4 (by omega) (by omega)
      · intro uq18
        have ul19 := lit_m1
        exact hP x_2 (by omega)
set_option maxHeartbeats 4000000 in
theorem s_X10_nextStation {A : Nat → Nat → Prop} {F : Nat → Nat → Int32} {w : Nat} (a1 : Int32) (h_a1 : 0 ≤ ti (a1) ∧ ti (a1) ≤ 15) {σ : zSto} (I : zInv A F w σ) {P : Int32 → zSto → Prop} (hP : ∀ (r : Int32), (-1) ≤ ti (r) ∧ ti (r) ≤ 15 → P r σ) : w_X10_nextStation a1 σ P := by
  unfold w_X10_nextStation
  intro x1 ex1
  refine ⟨70000, ?_⟩
  have ul1 := lit_1
  have ut2 := tadd (x := a1) (y := (1 : Int32)) (by omega)
  have ut3 := eq_t ex1
  exact s_X10_nextStation_4 I hP 70000 x1 (by omega) (by omega)
set_option maxHeartbeats 4000000 in
theorem s_X10_waitAt_43 {A : Nat → Nat → Prop} {F : Nat → Nat → Int32} {w : Nat} (x_1 : Int32) (x_2 : Int32) (x_3 : Int32) (h_x_1 : 0 ≤ ti (x_1) ∧ ti (x_1) ≤ 15) (h_x_3 : 0 ≤ ti (x_3) ∧ ti (x_3) ≤ 15) {σ : zSto} (I : zInv A F w σ) {P : Int32 → zSto → Prop} (hP : ∀ (r : Int32), P r σ) : ∀ (n : Nat) (x_4 : Int32) (x_5 : Int32), (0 ≤ ti (x_5) ∧ ti (x_5) ≤ 15) → (15 - (ti (x_5)) < n) → w_X10_waitAt_43 x_1 x_2 x_3 P n x_4 x_5 σ := by
  intro n
  induction n with
  | zero =>
    intro x_4 x_5 h_x_5 hm
    exfalso
    omega
  | succ n ih =>
    intro x_4 x_5 h_x_5 hm
    unfold w_X10_waitAt_43
    refine ⟨?_, ?_⟩
    · intro uq1
      have uc2 := le_t uq1
      refine ⟨vin (by omega), ?_⟩
      refine ⟨?_, ?_⟩
      · intro uq3
        have uc4 := le_t uq3
        exact hP (0 : Int32)
      · intro uq5
        have uc6 := nle_t uq5
        refine ⟨vin (by omega), ?_⟩
        exact hP ((σ.1 247 ((x_1).toNatClampNeg)) - x_2)
    · intro uq7
      have uc8 := nle_t uq7
      refine ⟨vin (by omega), ?_⟩
      intro x9 ex9
      intro x10 ex10
      have ul9 := lit_1
      have ut10 := tadd (x := x_5) (y := (1 : Int32)) (by omega)
      have ut11 := eq_t ex10
      exact ih x9 x10 (by omega) (by omega)
set_option maxHeartbeats 4000000 in
theorem s_X10_waitAt {A : Nat → Nat → Prop} {F : Nat → Nat → Int32} {w : Nat} (a1 : Int32) (a2 : Int32) (h_a1 : 0 ≤ ti (a1) ∧ ti (a1) ≤ 15) {σ : zSto} (I : zInv A F w σ) {P : Int32 → zSto → Prop} (hP : ∀ (r : Int32), P r σ) : w_X10_waitAt a1 a2 σ P := by
  unfold w_X10_waitAt
  have ul1 := lit_4
  refine s_X10_postOf a1 (4 : Int32) (by omega) (by omega) I (fun r2 uy2 uy3 uy4 => ?_)
  refine ⟨?_, ?_⟩
  · intro uq5
    have ul6 := lit_m1
    refine s_X10_nextStation a1 (by omega) I (fun r4 hr4 => ?_)
    refine ⟨?_, ?_⟩
    · intro uq7
      have uc8 := eq_t uq7
      exact hP (0 : Int32)
    · intro uq9
      have uc10 := ne_t uq9
      refine ⟨vin (by omega), ?_⟩
      refine ⟨?_, ?_⟩
      · intro uq11
        have uc12 := lt_t uq11
        refine ⟨70000, ?_⟩
        exact s_X10_waitAt_43 a1 a2 r4 (by omega) (by omega) I hP 70000 a2 a1 (by omega) (by omega)
      · intro uq13
        have uc14 := nlt_t uq13
        exact hP (0 : Int32)
  · intro uq15
    have ul16 := lit_m1
    have uc17 := eq_t uq15
    exact hP (0 : Int32)
set_option maxHeartbeats 4000000 in
theorem s_X10_meetOther_62 {A : Nat → Nat → Prop} {F : Nat → Nat → Int32} {w : Nat} (pr : okR A) {P : zSto → Prop} (hP : ∀ (σ2 : zSto), zInv A F w σ2 → P σ2) : ∀ (n : Nat) (x_1 : Int32) (x_2 : Int32) (σ : zSto), zInv A F w σ → (0 ≤ ti (x_2) ∧ ti (x_2) ≤ 16) → (16 - (ti (x_2)) < n) → w_X10_meetOther_62 P n x_1 x_2 σ := by
  intro n
  induction n with
  | zero =>
    intro x_1 x_2 σ I h_x_2 hm
    exfalso
    omega
  | succ n ih =>
    intro x_1 x_2 σ I h_x_2 hm
    unfold w_X10_meetOther_62
    refine ⟨?_, ?_⟩
    · intro uq1
      have ud2 : 0 ≤ ti ((σ.1 223 24)) ∧ ti ((σ.1 223 24)) ≤ 16 := rdr I kd_223 rfl rfl
      have uc3 := le_t uq1
      exact hP σ I
    · intro uq4
      have ud5 : 0 ≤ ti ((σ.1 223 24)) ∧ ti ((σ.1 223 24)) ≤ 16 := rdr I kd_223 rfl rfl
      have uc6 := nle_t uq4
      refine ⟨vin (by omega), ?_⟩
      intro σ8 eσ8
      have uI7 : zInv A F w σ8 := by rw [eσ8]; exact wI0 I (pR pr (by decide)) rk_239 kd_239
      refine ⟨vin (by omega), ?_⟩
      intro σ10 eσ10
      have uI8 : zInv A F w σ10 := by rw [eσ10]; exact wI0 uI7 (pR pr (by decide)) rk_246 kd_246
      refine ⟨?_, ?_⟩
      · intro uq9
        have ue10 : ti ((σ10.1 223 25)) = ti ((σ8.1 223 25)) := by rw [eσ10]; exact congrArg ti (zI_q (Or.inl (by omega)))
        have ue11 : ti ((σ8.1 223 25)) = ti ((σ.1 223 25)) := by rw [eσ8]; exact congrArg ti (zI_q (Or.inl (by omega)))
        have ud12 : 0 ≤ ti ((σ.1 223 25)) ∧ ti ((σ.1 223 25)) ≤ 15 := rdr I kd_223 rfl rfl
        have ud13 : 0 ≤ ti ((σ8.1 223 25)) ∧ ti ((σ8.1 223 25)) ≤ 15 := rdr uI7 kd_223 rfl rfl
        have ud14 : 0 ≤ ti ((σ10.1 223 25)) ∧ ti ((σ10.1 223 25)) ≤ 15 := rdr uI8 kd_223 rfl rfl
        have uc15 := le_t uq9
        intro x11 ex11
        have ul16 := lit_1
        have ut17 := tadd (x := x_2) (y := (1 : Int32)) (by omega)
        have ut18 := eq_t ex11
        exact ih x_1 x11 σ10 uI8 (by omega) (by omega)
      · intro uq19
        have ue20 : ti ((σ10.1 223 25)) = ti ((σ8.1 223 25)) := by rw [eσ10]; exact congrArg ti (zI_q (Or.inl (by omega)))
        have ue21 : ti ((σ8.1 223 25)) = ti ((σ.1 223 25)) := by rw [eσ8]; exact congrArg ti (zI_q (Or.inl (by omega)))
        have ud22 : 0 ≤ ti ((σ.1 223 25)) ∧ ti ((σ.1 223 25)) ≤ 15 := rdr I kd_223 rfl rfl
        have ud23 : 0 ≤ ti ((σ8.1 223 25)) ∧ ti ((σ8.1 223 25)) ≤ 15 := rdr uI7 kd_223 rfl rfl
        have ud24 : 0 ≤ ti ((σ10.1 223 25)) ∧ ti ((σ10.1 223 25)) ≤ 15 := rdr uI8 kd_223 rfl rfl
        have uc25 := nle_t uq19
        refine ⟨vin (by omega), ?_⟩
        refine ⟨?_, ?_⟩
        · intro uq26
          have ue27 : ti ((σ10.1 240 ((x_2).toNatClampNeg))) = ti ((σ8.1 240 ((x_2).toNatClampNeg))) := by rw [eσ10]; exact congrArg ti (zI_q (Or.inl (by omega)))
          have ue28 : ti ((σ8.1 240 ((x_2).toNatClampNeg))) = ti ((σ.1 240 ((x_2).toNatClampNeg))) := by rw [eσ8]; exact congrArg ti (zI_q (Or.inl (by omega)))
          have ul29 := lit_m1
          have uc30 := eq_t uq26
          intro x13 ex13
          refine s_X10_waitAt x_2 x13 (by omega) uI8 (fun r15 => ?_)
          refine ⟨vin (by omega), ?_⟩
          intro σ17 eσ17
          have uI31 : zInv A F w σ17 := by rw [eσ17]; exact wI0 uI8 (pR pr (by decide)) rk_246 kd_246
          refine ⟨vin (by omega), ?_⟩
          intro x19 ex19
          refine ⟨vin (by omega), ?_⟩
          intro x21 ex21
          refine ⟨?_, ?_⟩
          · intro uq32
            have ue33 : ti ((σ17.1 223 43)) = ti ((σ10.1 223 43)) := by rw [eσ17]; exact congrArg ti (zI_q (Or.inl (by omega)))
            have ue34 : ti ((σ10.1 223 43)) = ti ((σ8.1 223 43)) := by rw [eσ10]; exact congrArg ti (zI_q (Or.inl (by omega)))
            have ue35 : ti ((σ8.1 223 43)) = ti ((σ.1 223 43)) := by rw [eσ8]; exact congrArg ti (zI_q (Or.inl (by omega)))
            intro σ22 eσ22
            have uI36 : zInv A F w σ22 := by rw [eσ22]; exact wIr uI31 (pRo pr (by decide)) (by decide) kd_223 rfl rfl (full32 _)
            intro x23 ex23
            have ul37 := lit_1
            have ut38 := tadd (x := x_2) (y := (1 : Int32)) (by omega)
            have ut39 := eq_t ex23
            exact ih x21 x23 σ22 uI36 (by omega) (by omega)
          · intro uq40
            have ue41 : ti ((σ17.1 223 43)) = ti ((σ10.1 223 43)) := by rw [eσ17]; exact congrArg ti (zI_q (Or.inl (by omega)))
            have ue42 : ti ((σ10.1 223 43)) = ti ((σ8.1 223 43)) := by rw [eσ10]; exact congrArg ti (zI_q (Or.inl (by omega)))
            have ue43 : ti ((σ8.1 223 43)) = ti ((σ.1 223 43)) := by rw [eσ8]; exact congrArg ti (zI_q (Or.inl (by omega)))
            have uc44 := eq_t uq40
            refine ⟨vin (by omega), ?_⟩
            refine ⟨?_, ?_⟩
            · intro uq45
              have ue46 : ti ((σ17.1 247 ((x_2).toNatClampNeg))) = ti ((σ10.1 247 ((x_2).toNatClampNeg))) := by rw [eσ17]; exact congrArg ti (zI_q (Or.inl (by omega)))
              have ue47 : ti ((σ10.1 247 ((x_2).toNatClampNeg))) = ti ((σ8.1 247 ((x_2).toNatClampNeg))) := by rw [eσ10]; exact congrArg ti (zI_q (Or.inl (by omega)))
              have ue48 : ti ((σ8.1 247 ((x_2).toNatClampNeg))) = ti ((σ.1 247 ((x_2).toNatClampNeg))) := by rw [eσ8]; exact congrArg ti (zI_q (Or.inl (by omega)))
              have uc49 := le_t uq45
              intro σ25 eσ25
              have uI50 : zInv A F w σ25 := by rw [eσ25]; exact wIr uI31 (pRo pr (by decide)) (by decide) kd_223 rfl rfl (full32 _)
              intro x26 ex26
              have ul51 := lit_1
              have ut52 := tadd (x := x_2) (y := (1 : Int32)) (by omega)
              have ut53 := eq_t ex26
              exact ih x21 x26 σ25 uI50 (by omega) (by omega)
            · intro uq54
              have ue55 : ti ((σ17.1 247 ((x_2).toNatClampNeg))) = ti ((σ10.1 247 ((x_2).toNatClampNeg))) := by rw [eσ17]; exact congrArg ti (zI_q (Or.inl (by omega)))
              have ue56 : ti ((σ10.1 247 ((x_2).toNatClampNeg))) = ti ((σ8.1 247 ((x_2).toNatClampNeg))) := by rw [eσ10]; exact congrArg ti (zI_q (Or.inl (by omega)))
              have ue57 : ti ((σ8.1 247 ((x_2).toNatClampNeg))) = ti ((σ.1 247 ((x_2).toNatClampNeg))) := by rw [eσ8]; exact congrArg ti (zI_q (Or.inl (by omega)))
              have uc58 := nle_t uq54
              have ul59 := lit_1
              have ut60 := tadd (x := x_2) (y := (1 : Int32)) (by omega)
              refine ⟨vin (by omega), ?_⟩
              refine ⟨?_, ?_⟩
              · intro uq61
                have ue62 : ti ((σ17.1 247 (((x_2 + (1 : Int32))).toNatClampNeg))) = ti ((σ10.1 247 (((x_2 + (1 : Int32))).toNatClampNeg))) := by rw [eσ17]; exact congrArg ti (zI_q (Or.inl (by omega)))
                have ue63 : ti ((σ10.1 247 (((x_2 + (1 : Int32))).toNatClampNeg))) = ti ((σ8.1 247 (((x_2 + (1 : Int32))).toNatClampNeg))) := by rw [eσ10]; exact congrArg ti (zI_q (Or.inl (by omega)))
                have ue64 : ti ((σ8.1 247 (((x_2 + (1 : Int32))).toNatClampNeg))) = ti ((σ.1 247 (((x_2 + (1 : Int32))).toNatClampNeg))) := by rw [eσ8]; exact congrArg ti (zI_q (Or.inl (by omega)))
                have uc65 := le_t uq61
                intro σ28 eσ28
                have uI66 : zInv A F w σ28 := by rw [eσ28]; exact wIr uI31 (pRo pr (by decide)) (by decide) kd_223 rfl rfl (full32 _)
                intro x29 ex29
                have ut67 := eq_t ex29
                exact ih x21 x29 σ28 uI66 (by omega) (by omega)
              · intro uq68
                have ue69 : ti ((σ17.1 247 (((x_2 + (1 : Int32))).toNatClampNeg))) = ti ((σ10.1 247 (((x_2 + (1 : Int32))).toNatClampNeg))) := by rw [eσ17]; exact congrArg ti (zI_q (Or.inl (by omega)))
                have ue70 : ti ((σ10.1 247 (((x_2 + (1 : Int32))).toNatClampNeg))) = ti ((σ8.1 247 (((x_2 + (1 : Int32))).toNatClampNeg))) := by rw [eσ10]; exact congrArg ti (zI_q (Or.inl (by omega)))
                have ue71 : ti ((σ8.1 247 (((x_2 + (1 : Int32))).toNatClampNeg))) = ti ((σ.1 247 (((x_2 + (1 : Int32))).toNatClampNeg))) := by rw [eσ8]; exact congrArg ti (zI_q (Or.inl (by omega)))
                have uc72 := nle_t uq68
                intro σ30 eσ30
                have uI73 : zInv A F w σ30 := by rw [eσ30]; exact wIr uI31 (pRo pr (by decide)) (by decide) kd_223 rfl rfl (full32 _)
                intro x31 ex31
                have ut74 := eq_t ex31
                exact ih x21 x31 σ30 uI73 (by omega) (by omega)
        · intro uq75
          have ue76 : ti ((σ10.1 240 ((x_2).toNatClampNeg))) = ti ((σ8.1 240 ((x_2).toNatClampNeg))) := by rw [eσ10]; exact congrArg ti (zI_q (Or.inl (by omega)))
          have ue77 : ti ((σ8.1 240 ((x_2).toNatClampNeg))) = ti ((σ.1 240 ((x_2).toNatClampNeg))) := by rw [eσ8]; exact congrArg ti (zI_q (Or.inl (by omega)))
          have ul78 := lit_m1
          refine ⟨vin (by omega), ?_⟩
          intro x33 ex33
          refine s_X10_waitAt x_2 x33 (by omega) uI8 (fun r35 => ?_)
          refine ⟨vin (by omega), ?_⟩
          intro σ37 eσ37
          have uI79 : zInv A F w σ37 := by rw [eσ37]; exact wI0 uI8 (pR pr (by decide)) rk_246 kd_246
          refine ⟨vin (by omega), ?_⟩
          intro x39 ex39
          refine ⟨vin (by omega), ?_⟩
          intro x41 ex41
          refine ⟨?_, ?_⟩
          · intro uq80
            have ue81 : ti ((σ37.1 223 43)) = ti ((σ10.1 223 43)) := by rw [eσ37]; exact congrArg ti (zI_q (Or.inl (by omega)))
            have ue82 : ti ((σ10.1 223 43)) = ti ((σ8.1 223 43)) := by rw [eσ10]; exact congrArg ti (zI_q (Or.inl (by omega)))
            have ue83 : ti ((σ8.1 223 43)) = ti ((σ.1 223 43)) := by rw [eσ8]; exact congrArg ti (zI_q (Or.inl (by omega)))
            intro σ42 eσ42
            have uI84 : zInv A F w σ42 := by rw [eσ42]; exact wIr uI79 (pRo pr (by decide)) (by decide) kd_223 rfl rfl (full32 _)
            intro x43 ex43
            have ul85 := lit_1
            have ut86 := tadd (x := x_2) (y := (1 : Int32)) (by omega)
            have ut87 := eq_t ex43
            exact ih x41 x43 σ42 uI84 (by omega) (by omega)
          · intro uq88
            have ue89 : ti ((σ37.1 223 43)) = ti ((σ10.1 223 43)) := by rw [eσ37]; exact congrArg ti (zI_q (Or.inl (by omega)))
            have ue90 : ti ((σ10.1 223 43)) = ti ((σ8.1 223 43)) := by rw [eσ10]; exact congrArg ti (zI_q (Or.inl (by omega)))
            have ue91 : ti ((σ8.1 223 43)) = ti ((σ.1 223 43)) := by rw [eσ8]; exact congrArg ti (zI_q (Or.inl (by omega)))
            have uc92 := eq_t uq88
            refine ⟨vin (by omega), ?_⟩
            refine ⟨?_, ?_⟩
            · intro uq93
              have ue94 : ti ((σ37.1 247 ((x_2).toNatClampNeg))) = ti ((σ10.1 247 ((x_2).toNatClampNeg))) := by rw [eσ37]; exact congrArg ti (zI_q (Or.inl (by omega)))
              have ue95 : ti ((σ10.1 247 ((x_2).toNatClampNeg))) = ti ((σ8.1 247 ((x_2).toNatClampNeg))) := by rw [eσ10]; exact congrArg ti (zI_q (Or.inl (by omega)))
              have ue96 : ti ((σ8.1 247 ((x_2).toNatClampNeg))) = ti ((σ.1 247 ((x_2).toNatClampNeg))) := by rw [eσ8]; exact congrArg ti (zI_q (Or.inl (by omega)))
              have uc97 := le_t uq93
              intro σ45 eσ45
              have uI98 : zInv A F w σ45 := by rw [eσ45]; exact wIr uI79 (pRo pr (by decide)) (by decide) kd_223 rfl rfl (full32 _)
              intro x46 ex46
              have ul99 := lit_1
              have ut100 := tadd (x := x_2) (y := (1 : Int32)) (by omega)
              have ut101 := eq_t ex46
              exact ih x41 x46 σ45 uI98 (by omega) (by omega)
            · intro uq102
              have ue103 : ti ((σ37.1 247 ((x_2).toNatClampNeg))) = ti ((σ10.1 247 ((x_2).toNatClampNeg))) := by rw [eσ37]; exact congrArg ti (zI_q (Or.inl (by omega)))
              have ue104 : ti ((σ10.1 247 ((x_2).toNatClampNeg))) = ti ((σ8.1 247 ((x_2).toNatClampNeg))) := by rw [eσ10]; exact congrArg ti (zI_q (Or.inl (by omega)))
              have ue105 : ti ((σ8.1 247 ((x_2).toNatClampNeg))) = ti ((σ.1 247 ((x_2).toNatClampNeg))) := by rw [eσ8]; exact congrArg ti (zI_q (Or.inl (by omega)))
              have uc106 := nle_t uq102
              have ul107 := lit_1
              have ut108 := tadd (x := x_2) (y := (1 : Int32)) (by omega)
              refine ⟨vin (by omega), ?_⟩
              refine ⟨?_, ?_⟩
              · intro uq109
                have ue110 : ti ((σ37.1 247 (((x_2 + (1 : Int32))).toNatClampNeg))) = ti ((σ10.1 247 (((x_2 + (1 : Int32))).toNatClampNeg))) := by rw [eσ37]; exact congrArg ti (zI_q (Or.inl (by omega)))
                have ue111 : ti ((σ10.1 247 (((x_2 + (1 : Int32))).toNatClampNeg))) = ti ((σ8.1 247 (((x_2 + (1 : Int32))).toNatClampNeg))) := by rw [eσ10]; exact congrArg ti (zI_q (Or.inl (by omega)))
                have ue112 : ti ((σ8.1 247 (((x_2 + (1 : Int32))).toNatClampNeg))) = ti ((σ.1 247 (((x_2 + (1 : Int32))).toNatClampNeg))) := by rw [eσ8]; exact congrArg ti (zI_q (Or.inl (by omega)))
                have uc113 := le_t uq109
                intro σ48 eσ48
                have uI114 : zInv A F w σ48 := by rw [eσ48]; exact wIr uI79 (pRo pr (by decide)) (by decide) kd_223 rfl rfl (full32 _)
                intro x49 ex49
                have ut115 := eq_t ex49
                exact ih x41 x49 σ48 uI114 (by omega) (by omega)
              · intro uq116
                have ue117 : ti ((σ37.1 247 (((x_2 + (1 : Int32))).toNatClampNeg))) = ti ((σ10.1 247 (((x_2 + (1 : Int32))).toNatClampNeg))) := by rw [eσ37]; exact congrArg ti (zI_q (Or.inl (by omega)))
                have ue118 : ti ((σ10.1 247 (((x_2 + (1 : Int32))).toNatClampNeg))) = ti ((σ8.1 247 (((x_2 + (1 : Int32))).toNatClampNeg))) := by rw [eσ10]; exact congrArg ti (zI_q (Or.inl (by omega)))
                have ue119 : ti ((σ8.1 247 (((x_2 + (1 : Int32))).toNatClampNeg))) = ti ((σ.1 247 (((x_2 + (1 : Int32))).toNatClampNeg))) := by rw [eσ8]; exact congrArg ti (zI_q (Or.inl (by omega)))
                have uc120 := nle_t uq116
                intro σ50 eσ50
                have uI121 : zInv A F w σ50 := by rw [eσ50]; exact wIr uI79 (pRo pr (by decide)) (by decide) kd_223 rfl rfl (full32 _)
                intro x51 ex51
                have ut122 := eq_t ex51
                exact ih x41 x51 σ50 uI121 (by omega) (by omega)
set_option maxHeartbeats 4000000 in
theorem s_X10_meetOther_22 {A : Nat → Nat → Prop} {F : Nat → Nat → Int32} {w : Nat} (pr : okR A) {P : zSto → Prop} (hP : ∀ (σ2 : zSto), zInv A F w σ2 → P σ2) : ∀ (n : Nat) (x_1 : Int32) (σ : zSto), zInv A F w σ → ((-1) ≤ ti (x_1) ∧ ti (x_1) ≤ 14) → ((ti (x_1)) - (-1) < n) → w_X10_meetOther_22 P n x_1 σ := by
  intro n
  induction n with
  | zero =>
    intro x_1 σ I h_x_1 hm
    exfalso
    omega
  | succ n ih =>
    intro x_1 σ I h_x_1 hm
    unfold w_X10_meetOther_22
    refine ⟨?_, ?_⟩
    · intro uq1
      have ul2 := lit_0
      have uc3 := lt_t uq1
      intro σ6 eσ6
      have uI4 : zInv A F w σ6 := by rw [eσ6]; exact wIr I (pRo pr (by decide)) (by decide) kd_223 rfl rfl (full32 _)
      refine ⟨70000, ?_⟩
      exact s_X10_meetOther_62 pr hP 70000 (0 : Int32) (0 : Int32) σ6 uI4 (by omega) (by omega)
    · intro uq5
      have ul6 := lit_0
      have uc7 := nlt_t uq5
      have ul8 := lit_1
      have ut9 := tadd (x := x_1) (y := (1 : Int32)) (by omega)
      refine ⟨vin (by omega), ?_⟩
      refine ⟨vin (by omega), ?_⟩
      refine ⟨vin (by omega), ?_⟩
      intro σ55 eσ55
      have uI10 : zInv A F w σ55 := by rw [eσ55]; exact wI0 I (pR pr (by decide)) rk_247 kd_247
      intro x56 ex56
      have ul11 := lit_m1
      have ut12 := tadd (x := x_1) (y := (-1 : Int32)) (by omega)
      have ut13 := eq_t ex56
      exact ih x56 σ55 uI10 (by omega) (by omega)
set_option maxHeartbeats 4000000 in
theorem s_X10_meetOther {A : Nat → Nat → Prop} {F : Nat → Nat → Int32} {w : Nat} (pr : okR A) {σ : zSto} (I : zInv A F w σ) {P : zSto → Prop} (hP : ∀ (σ2 : zSto), zInv A F w σ2 → P σ2) : w_X10_meetOther σ P := by
  unfold w_X10_meetOther
  have ul1 := lit_6
  refine s_X10_of (6 : Int32) (by omega) I (fun r2 uy2 uy3 uy4 => ?_)
  have ud5 : 0 ≤ ti ((σ.1 223 25)) ∧ ti ((σ.1 223 25)) ≤ 15 := rdr I kd_223 rfl rfl
  refine ⟨vin (by omega), ?_⟩
  intro σ4 eσ4
  have uI6 : zInv A F w σ4 := by rw [eσ4]; exact wI0 I (pR pr (by decide)) rk_247 kd_247
  intro x5 ex5
  refine ⟨70000, ?_⟩
  have ue7 : ti ((σ4.1 223 25)) = ti ((σ.1 223 25)) := by rw [eσ4]; exact congrArg ti (zI_q (Or.inl (by omega)))
  have ud8 : 0 ≤ ti ((σ4.1 223 25)) ∧ ti ((σ4.1 223 25)) ≤ 15 := rdr uI6 kd_223 rfl rfl
  have ul9 := lit_1
  have ut10 := tsub (x := (σ4.1 223 25)) (y := (1 : Int32)) (by omega)
  have ut11 := eq_t ex5
  exact s_X10_meetOther_22 pr hP 70000 x5 σ4 uI6 (by omega) (by omega)
set_option maxHeartbeats 4000000 in
theorem s_X10_meet_99 {A : Nat → Nat → Prop} {F : Nat → Nat → Int32} {w : Nat} (x_5 : Int32) {σ : zSto} (I : zInv A F w σ) {P : Int32 → zSto → Prop} (hP : ∀ (r : Int32) (σ2 : zSto), zInv A F w σ2 → P r σ2) : ∀ (n : Nat) (x_6 : Int32) (x_7 : Int32), (0 ≤ ti (x_7) ∧ ti (x_7) ≤ 16) → (16 - (ti (x_7)) < n) → w_X10_meet_99 x_5 P n x_6 x_7 σ := by
  intro n
  induction n with
  | zero =>
    intro x_6 x_7 h_x_7 hm
    exfalso
    omega
  | succ n ih =>
    intro x_6 x_7 h_x_7 hm
    unfold w_X10_meet_99
    refine ⟨?_, ?_⟩
    · intro uq1
      have ud2 : 0 ≤ ti ((σ.1 223 24)) ∧ ti ((σ.1 223 24)) ≤ 16 := rdr I kd_223 rfl rfl
      have uc3 := le_t uq1
      refine ⟨?_, ?_⟩
      · intro uq4
        have ul5 := lit_0
        refine ⟨?_, ?_⟩
        · intro uq6
          have ul7 := lit_1
          refine ⟨?_, ?_⟩
          · intro uq8
            have ul9 := lit_2
            exact hP (-2 : Int32) σ I
          · intro uq10
            have ul11 := lit_2
            have uc12 := eq_t uq10
            exact hP (σ.1 223 43) σ I
        · intro uq13
          have ul14 := lit_1
          have uc15 := eq_t uq13
          exact hP x_6 σ I
      · intro uq16
        have ul17 := lit_0
        have uc18 := eq_t uq16
        have ud19 : 0 ≤ ti ((σ.1 223 25)) ∧ ti ((σ.1 223 25)) ≤ 15 := rdr I kd_223 rfl rfl
        refine ⟨vin (by omega), ?_⟩
        exact hP (σ.1 239 (((σ.1 223 25)).toNatClampNeg)) σ I
    · intro uq20
      have ud21 : 0 ≤ ti ((σ.1 223 24)) ∧ ti ((σ.1 223 24)) ≤ 16 := rdr I kd_223 rfl rfl
      have uc22 := nle_t uq20
      refine ⟨vin (by omega), ?_⟩
      intro x13 ex13
      intro x14 ex14
      have ul23 := lit_1
      have ut24 := tadd (x := x_7) (y := (1 : Int32)) (by omega)
      have ut25 := eq_t ex14
      exact ih x13 x14 (by omega) (by omega)
set_option maxHeartbeats 4000000 in
theorem s_X10_meet {A : Nat → Nat → Prop} {F : Nat → Nat → Int32} {w : Nat} (pr : okR A) (a1 : Int32) (a2 : Int32) (a3 : Int32) (a4 : Int32) (a5 : Int32) {σ : zSto} (I : zInv A F w σ) {P : Int32 → zSto → Prop} (hP : ∀ (r : Int32) (σ2 : zSto), zInv A F w σ2 → P r σ2) : w_X10_meet a1 a2 a3 a4 a5 σ P := by
  unfold w_X10_meet
  intro σ1 eσ1
  have uI1 : zInv A F w σ1 := by rw [eσ1]; exact wIr I (pRo pr (by decide)) (by decide) kd_223 rfl rfl (full32 _)
  refine s_X10_layRun pr a1 a2 a3 a4 uI1 (fun r3 σ2 uI2 => ?_)
  intro ub3
  have uc4 := bool_t ub3
  refine ⟨?_, ?_⟩
  · intro uq5
    have ul6 := lit_0
    have uc7 := eq_t uq5
    exact hP (-2 : Int32) σ2 uI2
  · intro uq8
    have ul9 := lit_0
    have uc10 := ne_t uq8
    have ul11 := lit_6
    refine s_X10_of (6 : Int32) (by omega) uI2 (fun r5 uy12 uy13 uy14 => ?_)
    refine ⟨?_, ?_⟩
    · intro uq15
      have ul16 := lit_m1
      refine s_X10_meetOther pr uI2 (fun σ6 uI17 => ?_)
      have ul18 := lit_100
      have ud19 : 0 ≤ ti ((σ6.1 223 25)) ∧ ti ((σ6.1 223 25)) ≤ 15 := rdr uI17 kd_223 rfl rfl
      have ut20 := tadd (x := (100 : Int32)) (y := (σ6.1 223 25)) (by omega)
      refine s_X10_in a5 (100 : Int32) ((100 : Int32) + (σ6.1 223 25)) uI17 (fun r8 uz21 => ?_)
      intro ub22
      have uc23 := bool_t ub22
      refine ⟨?_, ?_⟩
      · intro uq24
        have uc25 := eq_t uq24
        have ul26 := lit_200
        have ut27 := tadd (x := (200 : Int32)) (y := (σ6.1 223 25)) (by omega)
        refine s_X10_in a5 (200 : Int32) ((200 : Int32) + (σ6.1 223 25)) uI17 (fun r10 uz28 => ?_)
        intro ub29
        have uc30 := bool_t ub29
        refine ⟨?_, ?_⟩
        · intro uq31
          have uc32 := eq_t uq31
          refine ⟨70000, ?_⟩
          exact s_X10_meet_99 a5 uI17 hP 70000 (0 : Int32) (0 : Int32) (by omega) (by omega)
        · intro uq33
          have uc34 := uz28 uq33
          have uc35 := ne_t uq33
          try have ut36 := tsub (x := a5) (y := (200 : Int32)) (by omega)
          refine ⟨vin (by omega), ?_⟩
          exact hP (σ6.1 246 (((a5 - (200 : Int32))).toNatClampNeg)) σ6 uI17
      · intro uq37
        have uc38 := uz21 uq37
        have uc39 := ne_t uq37
        try have ut40 := tsub (x := a5) (y := (100 : Int32)) (by omega)
        refine ⟨vin (by omega), ?_⟩
        exact hP (σ6.1 239 (((a5 - (100 : Int32))).toNatClampNeg)) σ6 uI17
    · intro uq41
      have ul42 := lit_m1
      have uc43 := eq_t uq41
      exact hP (-2 : Int32) σ2 uI2
set_option maxHeartbeats 4000000 in
theorem s_X10_pulls {A : Nat → Nat → Prop} {F : Nat → Nat → Int32} {w : Nat} {σ : zSto} (I : zInv A F w σ) (pre0 : 0 ≤ ti (σ.1 223 46) ∧ ti (σ.1 223 46) ≤ 1) {P : Int32 → zSto → Prop} (hP : ∀ (r : Int32), 0 ≤ ti (r) ∧ ti (r) ≤ 16 → P r σ) : w_X10_pulls σ P := by
  unfold w_X10_pulls
  have ul1 := lit_33
  have ut2 := tmull (x := (33 : Int32)) (y := (σ.1 223 46)) (33) lit_33 (by omega)
  refine ⟨vin (by omega), ?_⟩
  have ud3 := plan_le I (x := (σ.1 223 46)) (by omega)
  exact hP (σ.1 230 ((((33 : Int32) * (σ.1 223 46))).toNatClampNeg)) (by omega)
set_option maxHeartbeats 4000000 in
theorem s_X10_pullOf {A : Nat → Nat → Prop} {F : Nat → Nat → Int32} {w : Nat} (a1 : Int32) (a2 : Int32) (h_a1 : 0 ≤ ti (a1) ∧ ti (a1) ≤ 15) (h_a2 : 0 ≤ ti (a2) ∧ ti (a2) ≤ 1) {σ : zSto} (I : zInv A F w σ) (pre0 : 0 ≤ ti (σ.1 223 46) ∧ ti (σ.1 223 46) ≤ 1) {P : Int32 → zSto → Prop} (hP : ∀ (r : Int32), (ti r = ti (plr σ a1 a2)) → P r σ) : w_X10_pullOf a1 a2 σ P := by
  unfold w_X10_pullOf
  have ul1 := lit_33
  have ut2 := tmull (x := (33 : Int32)) (y := (σ.1 223 46)) (33) lit_33 (by omega)
  have ul3 := lit_1
  have ut4 := tadd (x := ((33 : Int32) * (σ.1 223 46))) (y := (1 : Int32)) (by omega)
  have ul5 := lit_2
  have ut6 := tmull (x := (2 : Int32)) (y := a1) (2) lit_2 (by omega)
  have ut7 := tadd (x := (((33 : Int32) * (σ.1 223 46)) + (1 : Int32))) (y := ((2 : Int32) * a1)) (by omega)
  have ut8 := tadd (x := ((((33 : Int32) * (σ.1 223 46)) + (1 : Int32)) + ((2 : Int32) * a1))) (y := a2) (by omega)
  refine ⟨vin (by omega), ?_⟩
  exact hP (σ.1 230 (((((((33 : Int32) * (σ.1 223 46)) + (1 : Int32)) + ((2 : Int32) * a1)) + a2)).toNatClampNeg)) rfl
set_option maxHeartbeats 4000000 in
theorem s_X10_hasPlan {A : Nat → Nat → Prop} {F : Nat → Nat → Int32} {w : Nat} (ph : okH A) (a1 : Int32) {σ : zSto} (I : zInv A F w σ) {P : Int32 → zSto → Prop} (hP : ∀ (r : Int32) (σ2 : zSto), zInv A F w σ2 → (¬ r = 0 → 0 ≤ ti (σ2.1 223 46) ∧ ti (σ2.1 223 46) ≤ 1 ∧ 0 ≤ ti a1 ∧ ti a1 ≤ 1) → P r σ2) : w_X10_hasPlan a1 σ P := by
  unfold w_X10_hasPlan
  intro σ1 eσ1
  have uI1 : zInv A F w σ1 := by rw [eσ1]; exact wIr I (ph _ (by decide)) (by decide) kd_223 rfl rfl (full32 _)
  have ul2 := lit_1
  refine s_X10_is (1 : Int32) a1 (by omega) uI1 (fun r3 uz3 => ?_)
  intro ub4
  have uc5 := bool_t ub4
  refine ⟨ub4, ?_⟩
  have ue6 : ti ((σ1.1 223 46)) = ti (a1) := by rw [eσ1]; exact congrArg ti zI_s
  exact hP r3 σ1 uI1 (fun q => by have := uz3 q; omega)
set_option maxHeartbeats 4000000 in
theorem s_X10_pull {A : Nat → Nat → Prop} {F : Nat → Nat → Int32} {w : Nat} (pr : okR A) (ph : okH A) (a1 : Int32) (a2 : Int32) (a3 : Int32) {σ : zSto} (I : zInv A F w σ) {P : Int32 → zSto → Prop} (hP : ∀ (r : Int32) (σ2 : zSto), zInv A F w σ2 → P r σ2) : w_X10_pull a1 a2 a3 σ P := by
  unfold w_X10_pull
  intro σ1 eσ1
  have uI1 : zInv A F w σ1 := by rw [eσ1]; exact wIr I (pRo pr (by decide)) (by decide) kd_223 rfl rfl (full32 _)
  refine s_X10_hasPlan ph a1 uI1 (fun r3 σ2 uI2 uz3 => ?_)
  intro ub4
  have uc5 := bool_t ub4
  refine ⟨?_, ?_⟩
  · intro uq6
    have uc7 := uz3 uq6
    have ul8 := lit_0
    have uc9 := ne_t uq6
    refine ⟨?_, ?_⟩
    · intro uq10
      have ul11 := lit_m1
      refine s_X10_pulls uI2 (by omega) (fun r5 hr5 => ?_)
      have ul12 := lit_1
      have ut13 := tsub (x := r5) (y := (1 : Int32)) (by omega)
      refine s_X10_in a2 (0 : Int32) (r5 - (1 : Int32)) uI2 (fun r7 uz14 => ?_)
      intro ub15
      have uc16 := bool_t ub15
      refine ⟨?_, ?_⟩
      · intro uq17
        have uc18 := eq_t uq17
        exact hP (-2 : Int32) σ2 uI2
      · intro uq19
        have uc20 := uz14 uq19
        have uc21 := ne_t uq19
        refine s_X10_in a3 (0 : Int32) (1 : Int32) uI2 (fun r9 uz22 => ?_)
        intro ub23
        have uc24 := bool_t ub23
        refine ⟨?_, ?_⟩
        · intro uq25
          have uc26 := eq_t uq25
          exact hP (-2 : Int32) σ2 uI2
        · intro uq27
          have uc28 := uz22 uq27
          have uc29 := ne_t uq27
          refine s_X10_pullOf a2 a3 (by omega) (by omega) uI2 (by omega) (fun r11 uy30 => ?_)
          exact hP r11 σ2 uI2
    · intro uq31
      have ul32 := lit_m1
      have uc33 := eq_t uq31
      refine ⟨?_, ?_⟩
      · intro uq34
        exact hP (-2 : Int32) σ2 uI2
      · intro uq35
        have uc36 := eq_t uq35
        refine s_X10_pulls uI2 (by omega) (fun r13 hr13 => ?_)
        exact hP r13 σ2 uI2
  · intro uq37
    have ul38 := lit_0
    have uc39 := eq_t uq37
    exact hP (-2 : Int32) σ2 uI2
set_option maxHeartbeats 4000000 in
theorem s_X10_canPull {A : Nat → Nat → Prop} {F : Nat → Nat → Int32} {w : Nat} (a1 : Int32) (h_a1 : 0 ≤ ti (a1) ∧ ti (a1) ≤ 15) {σ : zSto} (I : zInv A F w σ) (pre0 : 0 ≤ ti (σ.1 223 46) ∧ ti (σ.1 223 46) ≤ 1) {P : Int32 → zSto → Prop} (hP : ∀ (r : Int32), (¬ r = 0 → 0 ≤ ti (plr σ a1 0) ∧ ti (plr σ a1 0) ≤ 15) → (¬ r = 0 → 0 ≤ ti (plr σ a1 1) ∧ ti (plr σ a1 1) ≤ 5) → P r σ) : w_X10_canPull a1 σ P := by
  unfold w_X10_canPull
  have ul1 := lit_0
  refine s_X10_pullOf a1 (0 : Int32) (by omega) (by omega) I (by omega) (fun r2 uy2 => ?_)
  have ul3 := lit_1
  refine s_X10_pullOf a1 (1 : Int32) (by omega) (by omega) I (by omega) (fun r4 uy4 => ?_)
  refine ⟨?_, ?_⟩
  · intro uq5
    have ud6 : 0 ≤ ti ((σ.1 223 25)) ∧ ti ((σ.1 223 25)) ≤ 15 := rdr I kd_223 rfl rfl
    have uc7 := le_t uq5
    exact hP (0 : Int32) (fun q => absurd rfl q) (fun q => absurd rfl q)
  · intro uq8
    have ud9 : 0 ≤ ti ((σ.1 223 25)) ∧ ti ((σ.1 223 25)) ≤ 15 := rdr I kd_223 rfl rfl
    have uc10 := nle_t uq8
    refine ⟨?_, ?_⟩
    · intro uq11
      have uc12 := le_t uq11
      refine s_X10_isRider r4 I (fun r6 uz13 => ?_)
      intro ub14
      have uc15 := bool_t ub14
      refine ⟨?_, ?_⟩
      · intro uq16
        have uc17 := eq_t uq16
        exact hP (0 : Int32) (fun q => absurd rfl q) (fun q => absurd rfl q)
      · intro uq18
        have uc19 := uz13 uq18
        have uc20 := ne_t uq18
        refine s_X10_isOn r4 r2 (by omega) I (fun r8 uz21 => ?_)
        intro ub22
        have uc23 := bool_t ub22
        refine ⟨?_, ?_⟩
        · intro uq24
          have uc25 := eq_t uq24
          exact hP (0 : Int32) (fun q => absurd rfl q) (fun q => absurd rfl q)
        · intro uq26
          have uc27 := uz21 uq26
          have uc28 := ne_t uq26
          refine ⟨vin (by omega), ?_⟩
          have ul29 := lit_2
          refine s_X10_riderOf r4 (2 : Int32) (by omega) (by omega) I (fun r11 uy30 uy31 => ?_)
          refine ⟨?_, ?_⟩
          · intro uq32
            have uc33 := le_t uq32
            exact hP (0 : Int32) (fun q => absurd rfl q) (fun q => absurd rfl q)
          · intro uq34
            have uc35 := nle_t uq34
            refine ⟨vin (by omega), ?_⟩
            refine ⟨?_, ?_⟩
            · intro uq36
              have uc37 := le_t uq36
              exact hP (0 : Int32) (fun q => absurd rfl q) (fun q => absurd rfl q)
            · intro uq38
              have uc39 := nle_t uq38
              exact hP (1 : Int32) (fun _ => by omega) (fun _ => by omega)
    · intro uq40
      have uc41 := nle_t uq40
      have ut42 := tsub (x := a1) (y := (1 : Int32)) (by omega)
      refine s_X10_pullOf (a1 - (1 : Int32)) (0 : Int32) (by omega) (by omega) I (by omega) (fun r14 uy43 => ?_)
      refine ⟨?_, ?_⟩
      · intro uq44
        have uc45 := lt_t uq44
        refine s_X10_isRider r4 I (fun r16 uz46 => ?_)
        intro ub47
        have uc48 := bool_t ub47
        refine ⟨?_, ?_⟩
        · intro uq49
          have uc50 := eq_t uq49
          exact hP (0 : Int32) (fun q => absurd rfl q) (fun q => absurd rfl q)
        · intro uq51
          have uc52 := uz46 uq51
          have uc53 := ne_t uq51
          refine s_X10_isOn r4 r2 (by omega) I (fun r18 uz54 => ?_)
          intro ub55
          have uc56 := bool_t ub55
          refine ⟨?_, ?_⟩
          · intro uq57
            have uc58 := eq_t uq57
            exact hP (0 : Int32) (fun q => absurd rfl q) (fun q => absurd rfl q)
          · intro uq59
            have uc60 := uz54 uq59
            have uc61 := ne_t uq59
            refine ⟨vin (by omega), ?_⟩
            have ul62 := lit_2
            refine s_X10_riderOf r4 (2 : Int32) (by omega) (by omega) I (fun r21 uy63 uy64 => ?_)
            refine ⟨?_, ?_⟩
            · intro uq65
              have uc66 := le_t uq65
              exact hP (0 : Int32) (fun q => absurd rfl q) (fun q => absurd rfl q)
            · intro uq67
              have uc68 := nle_t uq67
              refine ⟨vin (by omega), ?_⟩
              refine ⟨?_, ?_⟩
              · intro uq69
                have uc70 := le_t uq69
                exact hP (0 : Int32) (fun q => absurd rfl q) (fun q => absurd rfl q)
              · intro uq71
                have uc72 := nle_t uq71
                exact hP (1 : Int32) (fun _ => by omega) (fun _ => by omega)
      · intro uq73
        have uc74 := nlt_t uq73
        exact hP (0 : Int32) (fun q => absurd rfl q) (fun q => absurd rfl q)
set_option maxHeartbeats 4000000 in
theorem s_X10_doPlan_29 {A : Nat → Nat → Prop} {F : Nat → Nat → Int32} {w : Nat} (pr : okR A) {P : Int32 → zSto → Prop} (hP : ∀ (r : Int32) (σ2 : zSto), zInv A F w σ2 → P r σ2) : ∀ (n : Nat) (x_1 : Int32) (σ : zSto), zInv A F w σ → (0 ≤ ti (x_1) ∧ ti (x_1) ≤ 16) → (0 ≤ ti (σ.1 223 46) ∧ ti (σ.1 223 46) ≤ 1) → (16 - (ti (x_1)) < n) → w_X10_doPlan_29 P n x_1 σ := by
  intro n
  induction n with
  | zero =>
    intro x_1 σ I h_x_1 pre0 hm
    exfalso
    omega
  | succ n ih =>
    intro x_1 σ I h_x_1 pre0 hm
    unfold w_X10_doPlan_29
    refine s_X10_pulls I (by omega) (fun r3 hr3 => ?_)
    refine ⟨?_, ?_⟩
    · intro uq1
      have uc2 := le_t uq1
      refine s_X10_timesBy (A := Ax A B46) (F := σ.1) (okR_46 pr) (inv_x I) (fun σ4 uI3x => ?_)
      have uI3 := inv_y I uI3x
      have uf4 : ti (σ4.1 223 46) = ti (σ.1 223 46) := congrArg ti (inv_e uI3x (show B46 223 46 from ⟨rfl, rfl⟩))
      exact hP x_1 σ4 uI3
    · intro uq5
      have uc6 := nle_t uq5
      refine s_X10_canPull x_1 (by omega) I (by omega) (fun r6 uz7 uz8 => ?_)
      intro ub9
      have uc10 := bool_t ub9
      refine ⟨?_, ?_⟩
      · intro uq11
        have ul12 := lit_0
        have uc13 := eq_t uq11
        refine s_X10_timesBy (A := Ax A B46) (F := σ.1) (okR_46 pr) (inv_x I) (fun σ7 uI14x => ?_)
        have uI14 := inv_y I uI14x
        have uf15 : ti (σ7.1 223 46) = ti (σ.1 223 46) := congrArg ti (inv_e uI14x (show B46 223 46 from ⟨rfl, rfl⟩))
        exact hP x_1 σ7 uI14
      · intro uq16
        have uc17 := uz7 uq16
        have uc18 := uz8 uq16
        have ul19 := lit_0
        have uc20 := ne_t uq16
        refine s_X10_pullOf x_1 (0 : Int32) (by omega) (by omega) I (by omega) (fun r9 uy21 => ?_)
        have ul22 := lit_1
        refine s_X10_pullOf x_1 (1 : Int32) (by omega) (by omega) I (by omega) (fun r11 uy23 => ?_)
        refine s_X10_pullsAt (A := Ax A B46) (F := σ.1) (okR_46 pr) r9 r11 (by omega) (by omega) (inv_x I) (fun σ12 uI24x => ?_)
        have uI24 := inv_y I uI24x
        have uf25 : ti (σ12.1 223 46) = ti (σ.1 223 46) := congrArg ti (inv_e uI24x (show B46 223 46 from ⟨rfl, rfl⟩))
        intro x13 ex13
        have ut26 := tadd (x := x_1) (y := (1 : Int32)) (by omega)
        have ut27 := eq_t ex13
        exact ih x13 σ12 uI24 (by omega) (by omega) (by omega)
set_option maxHeartbeats 4000000 in
theorem s_X10_doPlan_6 {A : Nat → Nat → Prop} {F : Nat → Nat → Int32} {w : Nat} (pr : okR A) {P : Int32 → zSto → Prop} (hP : ∀ (r : Int32) (σ2 : zSto), zInv A F w σ2 → P r σ2) : ∀ (n : Nat) (x_1 : Int32) (σ : zSto), zInv A F w σ → (0 ≤ ti (x_1) ∧ ti (x_1) ≤ 16) → (0 ≤ ti (σ.1 223 46) ∧ ti (σ.1 223 46) ≤ 1) → (16 - (ti (x_1)) < n) → w_X10_doPlan_6 P n x_1 σ := by
  intro n
  induction n with
  | zero =>
    intro x_1 σ I h_x_1 pre0 hm
    exfalso
    omega
  | succ n ih =>
    intro x_1 σ I h_x_1 pre0 hm
    unfold w_X10_doPlan_6
    refine ⟨?_, ?_⟩
    · intro uq1
      have ud2 : 0 ≤ ti ((σ.1 223 24)) ∧ ti ((σ.1 223 24)) ≤ 16 := rdr I kd_223 rfl rfl
      have uc3 := le_t uq1
      refine ⟨70000, ?_⟩
      have ul4 := lit_0
      exact s_X10_doPlan_29 pr hP 70000 (0 : Int32) σ I (by omega) (by omega) (by omega)
    · intro uq5
      have ud6 : 0 ≤ ti ((σ.1 223 24)) ∧ ti ((σ.1 223 24)) ≤ 16 := rdr I kd_223 rfl rfl
      have uc7 := nle_t uq5
      refine ⟨vin (by omega), ?_⟩
      intro σ15 eσ15
      have uI8 : zInv A F w σ15 := by rw [eσ15]; exact wI0 I (pR pr (by decide)) rk_240 kd_240
      intro x16 ex16
      have ul9 := lit_1
      have ut10 := tadd (x := x_1) (y := (1 : Int32)) (by omega)
      have ut11 := eq_t ex16
      have ue12 : ti ((σ15.1 223 46)) = ti ((σ.1 223 46)) := by rw [eσ15]; exact congrArg ti (zI_q (Or.inl (by omega)))
      exact ih x16 σ15 uI8 (by omega) (by omega) (by omega)
set_option maxHeartbeats 4000000 in
theorem s_X10_doPlan {A : Nat → Nat → Prop} {F : Nat → Nat → Int32} {w : Nat} (pr : okR A) {σ : zSto} (I : zInv A F w σ) (pre0 : 0 ≤ ti (σ.1 223 46) ∧ ti (σ.1 223 46) ≤ 1) {P : Int32 → zSto → Prop} (hP : ∀ (r : Int32) (σ2 : zSto), zInv A F w σ2 → P r σ2) : w_X10_doPlan σ P := by
  unfold w_X10_doPlan
  refine s_X10_begin (A := Ax A B46) (F := σ.1) (okR_46 pr) (inv_x I) (fun σ1 uI1x => ?_)
  have uI1 := inv_y I uI1x
  have uf2 : ti (σ1.1 223 46) = ti (σ.1 223 46) := congrArg ti (inv_e uI1x (show B46 223 46 from ⟨rfl, rfl⟩))
  refine ⟨70000, ?_⟩
  have ul3 := lit_0
  exact s_X10_doPlan_6 pr hP 70000 (0 : Int32) σ1 uI1 (by omega) (by omega) (by omega)
set_option maxHeartbeats 4000000 in
theorem s_X10_played {A : Nat → Nat → Prop} {F : Nat → Nat → Int32} {w : Nat} (pr : okR A) (ph : okH A) (a1 : Int32) (a2 : Int32) (a3 : Int32) (a4 : Int32) {σ : zSto} (I : zInv A F w σ) {P : Int32 → zSto → Prop} (hP : ∀ (r : Int32) (σ2 : zSto), zInv A F w σ2 → P r σ2) : w_X10_played a1 a2 a3 a4 σ P := by
  unfold w_X10_played
  intro σ1 eσ1
  have uI1 : zInv A F w σ1 := by rw [eσ1]; exact wIr I (pRo pr (by decide)) (by decide) kd_223 rfl rfl (full32 _)
  refine s_X10_hasPlan ph a2 uI1 (fun r3 σ2 uI2 uz3 => ?_)
  intro ub4
  have uc5 := bool_t ub4
  refine ⟨?_, ?_⟩
  · intro uq6
    have ul7 := lit_0
    have uc8 := eq_t uq6
    exact hP (-2 : Int32) σ2 uI2
  · intro uq9
    have uc10 := uz3 uq9
    have ul11 := lit_0
    have uc12 := ne_t uq9
    refine s_X10_hand (A := Ax A B46) (F := σ2.1) (okR_46 pr) a1 a3 (inv_x uI2) (fun r5 σ4 uI13x uz14 => ?_)
    have uI13 := inv_y uI2 uI13x
    have uf15 : ti (σ4.1 223 46) = ti (σ2.1 223 46) := congrArg ti (inv_e uI13x (show B46 223 46 from ⟨rfl, rfl⟩))
    intro ub16
    have uc17 := bool_t ub16
    refine ⟨?_, ?_⟩
    · intro uq18
      have uc19 := uz14 uq18
      have uc20 := ne_t uq18
      refine s_X10_doPlan (A := Ax A B46) (F := σ4.1) (okR_46 pr) (inv_x uI13) (by omega) (fun r7 σ6 uI21x => ?_)
      have uI21 := inv_y uI13 uI21x
      have uf22 : ti (σ6.1 223 46) = ti (σ4.1 223 46) := congrArg ti (inv_e uI21x (show B46 223 46 from ⟨rfl, rfl⟩))
      have ul23 := lit_200
      have ul24 := lit_199
      have ud25 : 0 ≤ ti ((σ6.1 223 26)) ∧ ti ((σ6.1 223 26)) ≤ 6 := rdr uI21 kd_223 rfl rfl
      have ut26 := tadd (x := (199 : Int32)) (y := (σ6.1 223 26)) (by omega)
      refine s_X10_in a4 (200 : Int32) ((199 : Int32) + (σ6.1 223 26)) uI21 (fun r9 uz27 => ?_)
      intro ub28
      have uc29 := bool_t ub28
      refine ⟨?_, ?_⟩
      · intro uq30
        have uc31 := eq_t uq30
        refine ⟨?_, ?_⟩
        · intro uq32
          have uc33 := eq_t uq32
          exact hP r7 σ6 uI21
        · refine ⟨?_, ?_⟩
          · intro uq34
            have ul35 := lit_1
            have uc36 := eq_t uq34
            refine s_X10_gathered uI21 (fun r11 => ?_)
            exact hP r11 σ6 uI21
          · refine ⟨?_, ?_⟩
            · intro uq37
              have ul38 := lit_2
              have uc39 := eq_t uq37
              exact hP (σ6.1 223 31) σ6 uI21
            · refine ⟨?_, ?_⟩
              · intro uq40
                have ul41 := lit_3
                have uc42 := eq_t uq40
                exact hP (σ6.1 223 33) σ6 uI21
              · refine ⟨?_, ?_⟩
                · intro uq43
                  have ul44 := lit_4
                  have uc45 := eq_t uq43
                  exact hP (σ6.1 223 32) σ6 uI21
                · intro uq46
                  rw [← ti_eq] at uq46
                  exact hP (-2 : Int32) σ6 uI21
      · intro uq47
        have uc48 := uz27 uq47
        have uc49 := ne_t uq47
        try have ut50 := tsub (x := a4) (y := (200 : Int32)) (by omega)
        refine ⟨vin (by omega), ?_⟩
        exact hP (σ6.1 243 (((a4 - (200 : Int32))).toNatClampNeg)) σ6 uI21
    · intro uq51
      have uc52 := eq_t uq51
      exact hP (-2 : Int32) σ4 uI13
set_option maxHeartbeats 4000000 in
theorem s_X10_most_25 {A : Nat → Nat → Prop} {F : Nat → Nat → Int32} {w : Nat} (pr : okR A) (x_2 : Int32) (x_4 : Int32) {P : Int32 → zSto → Prop} (hP : ∀ (r : Int32) (σ2 : zSto), zInv A F w σ2 → P r σ2) : ∀ (n : Nat) (x_5 : Int32) (x_6 : Int32) (x_7 : Int32) (σ : zSto), zInv A F w σ → (0 ≤ ti (x_7) ∧ ti (x_7) ≤ 4) → (4 - (ti (x_7)) < n) → w_X10_most_25 x_2 x_4 P n x_5 x_6 x_7 σ := by
  intro n
  induction n with
  | zero =>
    intro x_5 x_6 x_7 σ I h_x_7 hm
    exfalso
    omega
  | succ n ih =>
    intro x_5 x_6 x_7 σ I h_x_7 hm
    unfold w_X10_most_25
    refine ⟨?_, ?_⟩
    · intro uq1
      have ul2 := lit_4
      have uc3 := le_t uq1
      exact hP x_5 σ I
    · intro uq4
      have ul5 := lit_4
      have uc6 := nle_t uq4
      refine s_X10_everyone I (fun r5 hr5 => ?_)
      refine s_X10_go pr x_7 x_2 r5 I (fun σ6 uI7 => ?_)
      refine ⟨?_, ?_⟩
      · intro uq8
        have ul9 := lit_0
        have uc10 := eq_t uq8
        refine s_X10_gathered uI7 (fun r8 => ?_)
        refine ⟨?_, ?_⟩
        · intro uq11
          have ul12 := lit_m1
          have uc13 := eq_t uq11
          refine ⟨?_, ?_⟩
          · intro uq14
            intro x9 ex9
            have ul15 := lit_1
            have ut16 := tadd (x := x_7) (y := (1 : Int32)) (by omega)
            have ut17 := eq_t ex9
            exact ih x_7 x_6 x9 σ6 uI7 (by omega) (by omega)
          · intro uq18
            have uc19 := eq_t uq18
            intro x10 ex10
            have ul20 := lit_1
            have ut21 := tadd (x := x_7) (y := (1 : Int32)) (by omega)
            have ut22 := eq_t ex10
            exact ih x_7 r8 x10 σ6 uI7 (by omega) (by omega)
        · intro uq23
          have ul24 := lit_m1
          refine ⟨?_, ?_⟩
          · intro uq25
            have uc26 := le_t uq25
            refine ⟨?_, ?_⟩
            · intro uq27
              intro x11 ex11
              have ul28 := lit_1
              have ut29 := tadd (x := x_7) (y := (1 : Int32)) (by omega)
              have ut30 := eq_t ex11
              exact ih x_5 x_6 x11 σ6 uI7 (by omega) (by omega)
            · intro uq31
              have uc32 := eq_t uq31
              intro x12 ex12
              have ul33 := lit_1
              have ut34 := tadd (x := x_7) (y := (1 : Int32)) (by omega)
              have ut35 := eq_t ex12
              exact ih x_5 r8 x12 σ6 uI7 (by omega) (by omega)
          · intro uq36
            have uc37 := nle_t uq36
            refine ⟨?_, ?_⟩
            · intro uq38
              intro x13 ex13
              have ul39 := lit_1
              have ut40 := tadd (x := x_7) (y := (1 : Int32)) (by omega)
              have ut41 := eq_t ex13
              exact ih x_7 x_6 x13 σ6 uI7 (by omega) (by omega)
            · intro uq42
              have uc43 := eq_t uq42
              intro x14 ex14
              have ul44 := lit_1
              have ut45 := tadd (x := x_7) (y := (1 : Int32)) (by omega)
              have ut46 := eq_t ex14
              exact ih x_7 r8 x14 σ6 uI7 (by omega) (by omega)
      · intro uq47
        have ul48 := lit_0
        intro x15 ex15
        refine ⟨?_, ?_⟩
        · intro uq49
          have ul50 := lit_m1
          have uc51 := eq_t uq49
          refine ⟨?_, ?_⟩
          · intro uq52
            intro x16 ex16
            have ul53 := lit_1
            have ut54 := tadd (x := x_7) (y := (1 : Int32)) (by omega)
            have ut55 := eq_t ex16
            exact ih x_7 x_6 x16 σ6 uI7 (by omega) (by omega)
          · intro uq56
            have uc57 := eq_t uq56
            intro x17 ex17
            have ul58 := lit_1
            have ut59 := tadd (x := x_7) (y := (1 : Int32)) (by omega)
            have ut60 := eq_t ex17
            exact ih x_7 x15 x17 σ6 uI7 (by omega) (by omega)
        · intro uq61
          have ul62 := lit_m1
          refine ⟨?_, ?_⟩
          · intro uq63
            have uc64 := le_t uq63
            refine ⟨?_, ?_⟩
            · intro uq65
              intro x18 ex18
              have ul66 := lit_1
              have ut67 := tadd (x := x_7) (y := (1 : Int32)) (by omega)
              have ut68 := eq_t ex18
              exact ih x_5 x_6 x18 σ6 uI7 (by omega) (by omega)
            · intro uq69
              have uc70 := eq_t uq69
              intro x19 ex19
              have ul71 := lit_1
              have ut72 := tadd (x := x_7) (y := (1 : Int32)) (by omega)
              have ut73 := eq_t ex19
              exact ih x_5 x15 x19 σ6 uI7 (by omega) (by omega)
          · intro uq74
            have uc75 := nle_t uq74
            refine ⟨?_, ?_⟩
            · intro uq76
              intro x20 ex20
              have ul77 := lit_1
              have ut78 := tadd (x := x_7) (y := (1 : Int32)) (by omega)
              have ut79 := eq_t ex20
              exact ih x_7 x_6 x20 σ6 uI7 (by omega) (by omega)
            · intro uq80
              have uc81 := eq_t uq80
              intro x21 ex21
              have ul82 := lit_1
              have ut83 := tadd (x := x_7) (y := (1 : Int32)) (by omega)
              have ut84 := eq_t ex21
              exact ih x_7 x15 x21 σ6 uI7 (by omega) (by omega)
set_option maxHeartbeats 4000000 in
theorem s_X10_most {A : Nat → Nat → Prop} {F : Nat → Nat → Int32} {w : Nat} (pr : okR A) (a1 : Int32) (a2 : Int32) (a3 : Int32) (a4 : Int32) {σ : zSto} (I : zInv A F w σ) {P : Int32 → zSto → Prop} (hP : ∀ (r : Int32) (σ2 : zSto), zInv A F w σ2 → P r σ2) : w_X10_most a1 a2 a3 a4 σ P := by
  unfold w_X10_most
  intro σ1 eσ1
  have uI1 : zInv A F w σ1 := by rw [eσ1]; exact wIr I (pRo pr (by decide)) (by decide) kd_223 rfl rfl (full32 _)
  refine s_X10_hand pr a1 a3 uI1 (fun r3 σ2 uI2 uz3 => ?_)
  intro ub4
  have uc5 := bool_t ub4
  refine ⟨?_, ?_⟩
  · intro uq6
    have uc7 := uz3 uq6
    have ul8 := lit_0
    have uc9 := ne_t uq6
    refine ⟨70000, ?_⟩
    have ul10 := lit_m1
    exact s_X10_most_25 pr a2 a4 hP 70000 (-1 : Int32) (0 : Int32) (0 : Int32) σ2 uI2 (by omega) (by omega)
  · intro uq11
    have ul12 := lit_0
    have uc13 := eq_t uq11
    exact hP (-1 : Int32) σ2 uI2
set_option maxHeartbeats 4000000 in
theorem s_X10_weeks_37 {A : Nat → Nat → Prop} {F : Nat → Nat → Int32} {w : Nat} (pr : okR A) (x_1 : Int32) (x_2 : Int32) (x_3 : Int32) (x_4 : Int32) {P : Int32 → zSto → Prop} (hP : ∀ (r : Int32) (σ2 : zSto), zInv A F w σ2 → P r σ2) : ∀ (n : Nat) (x_5 : Int32) (x_6 : Int32) (x_7 : Int32) (x_8 : Int32) (σ : zSto), zInv A F w σ → (0 ≤ ti (x_8) ∧ ti (x_8) ≤ 10) → (10 - (ti (x_8)) < n) → w_X10_weeks_37 x_1 x_2 x_3 x_4 P n x_5 x_6 x_7 x_8 σ := by
  intro n
  induction n with
  | zero =>
    intro x_5 x_6 x_7 x_8 σ I h_x_8 hm
    exfalso
    omega
  | succ n ih =>
    intro x_5 x_6 x_7 x_8 σ I h_x_8 hm
    unfold w_X10_weeks_37
    refine ⟨?_, ?_⟩
    · intro uq1
      have ul2 := lit_10
      have uc3 := le_t uq1
      refine ⟨?_, ?_⟩
      · intro uq4
        have ul5 := lit_0
        have uc6 := eq_t uq4
        exact hP x_5 σ I
      · intro uq7
        have ul8 := lit_0
        exact hP x_7 σ I
    · intro uq9
      have ul10 := lit_10
      have uc11 := nle_t uq9
      refine s_X10_layRun pr x_1 x_2 x_3 x_8 I (fun r7 σ6 uI12 => ?_)
      intro ub13
      have uc14 := bool_t ub13
      refine s_X10_gathered uI12 (fun r9 => ?_)
      intro x10 ex10
      refine ⟨?_, ?_⟩
      · intro uq15
        have uc16 := le_t uq15
        refine s_X10_greater x_6 r9 uI12 (fun r12 => ?_)
        intro x13 ex13
        have ul17 := lit_1
        have ut18 := tadd (x := x_8) (y := (1 : Int32)) (by omega)
        have ut19 := eq_t ex13
        exact ih x_5 r12 x10 x13 σ6 uI12 (by omega) (by omega)
      · intro uq20
        have uc21 := nle_t uq20
        refine s_X10_greater x_6 r9 uI12 (fun r15 => ?_)
        intro x16 ex16
        have ul22 := lit_1
        have ut23 := tadd (x := x_8) (y := (1 : Int32)) (by omega)
        have ut24 := eq_t ex16
        exact ih x_8 r15 x10 x16 σ6 uI12 (by omega) (by omega)
set_option maxHeartbeats 4000000 in
theorem s_X10_weeks {A : Nat → Nat → Prop} {F : Nat → Nat → Int32} {w : Nat} (pr : okR A) (a1 : Int32) (a2 : Int32) (a3 : Int32) (a4 : Int32) {σ : zSto} (I : zInv A F w σ) {P : Int32 → zSto → Prop} (hP : ∀ (r : Int32) (σ2 : zSto), zInv A F w σ2 → P r σ2) : w_X10_weeks a1 a2 a3 a4 σ P := by
  unfold w_X10_weeks
  intro σ1 eσ1
  have uI1 : zInv A F w σ1 := by rw [eσ1]; exact wIr I (pRo pr (by decide)) (by decide) kd_223 rfl rfl (full32 _)
  have ul2 := lit_0
  have ul3 := lit_3
  refine s_X10_in a2 (0 : Int32) (3 : Int32) uI1 (fun r3 uz4 => ?_)
  intro ub5
  have uc6 := bool_t ub5
  refine ⟨?_, ?_⟩
  · intro uq7
    have uc8 := eq_t uq7
    exact hP (-1 : Int32) σ1 uI1
  · intro uq9
    have uc10 := uz4 uq9
    have uc11 := ne_t uq9
    refine s_X10_is (0 : Int32) a1 (by omega) uI1 (fun r5 uz12 => ?_)
    intro ub13
    have uc14 := bool_t ub13
    refine ⟨?_, ?_⟩
    · intro uq15
      have uc16 := uz12 uq15
      have uc17 := ne_t uq15
      refine ⟨70000, ?_⟩
      have ul18 := lit_m1
      exact s_X10_weeks_37 pr a1 a2 a3 a4 hP 70000 (0 : Int32) (-1 : Int32) (0 : Int32) (0 : Int32) σ1 uI1 (by omega) (by omega)
    · intro uq19
      have uc20 := eq_t uq19
      exact hP (-1 : Int32) σ1 uI1
set_option maxHeartbeats 4000000 in
theorem s_X10_isCalm {A : Nat → Nat → Prop} {F : Nat → Nat → Int32} {w : Nat} (pr : okR A) (a1 : Int32) (a2 : Int32) {σ : zSto} (I : zInv A F w σ) {P : Int32 → zSto → Prop} (hP : ∀ (r : Int32) (σ2 : zSto), zInv A F w σ2 → P r σ2) : w_X10_isCalm a1 a2 σ P := by
  unfold w_X10_isCalm
  refine s_X10_go pr (0 : Int32) (0 : Int32) a1 I (fun σ1 uI1 => ?_)
  refine ⟨?_, ?_⟩
  · intro uq2
    have ul3 := lit_m1
    refine ⟨?_, ?_⟩
    · intro uq4
      have uc5 := lt_t uq4
      exact hP (0 : Int32) σ1 uI1
    · intro uq6
      have uc7 := nlt_t uq6
      exact hP (1 : Int32) σ1 uI1
  · intro uq8
    have ul9 := lit_m1
    have uc10 := eq_t uq8
    refine ⟨?_, ?_⟩
    · intro uq11
      exact hP (0 : Int32) σ1 uI1
    · intro uq12
      have uc13 := eq_t uq12
      exact hP (1 : Int32) σ1 uI1
set_option maxHeartbeats 4000000 in
theorem s_X10_calm_42 {A : Nat → Nat → Prop} {F : Nat → Nat → Int32} {w : Nat} (pr : okR A) (x_3 x_4 : Int32) {P K : Int32 → zSto → Prop} (hP : ∀ r σ2, zInv A F w σ2 → P r σ2) (hK : ∀ z σ2, zInv A F w σ2 → z = x_4 + (1 : Int32) → K z σ2) : ∀ (n : Nat) (x_5 : Int32) (σ : zSto), zInv A F w σ → (0 ≤ ti x_5 ∧ ti x_5 ≤ 64) → (64 - ti x_5 < n) → w_X10_calm_42 x_3 x_4 P K n x_5 σ := by
  have l1 := lit_1
  intro n
  induction n with
  | zero => intro x_5 σ I h hm; exfalso; omega
  | succ n ih =>
    intro x_5 σ I h hm
    unfold w_X10_calm_42
    refine s_X10_everyone I (fun r7 hr7 => ?_)
    refine ⟨fun q x8 e8 => hK x8 σ I e8, fun q => ?_⟩
    have c := nlt_t q
    have t := tadd (x := x_5) (y := (1 : Int32)) (by omega)
    refine s_X10_ones x_5 I (fun r10 => ⟨fun q2 x11 e11 => ?_, fun q2 => ?_⟩)
    · have := eq_t e11
      exact ih x11 σ I (by omega) (by omega)
    · refine s_X10_everyone I (fun r13 hr13 => ?_)
      refine s_X10_isCalm pr _ x_3 I (fun r15 σ14 I14 => ?_)
      intro b
      refine ⟨fun q3 x16 e16 => ?_, fun q3 => hP _ σ14 I14⟩
      have := eq_t e16
      exact ih x16 σ14 I14 (by omega) (by omega)
set_option maxHeartbeats 4000000 in
theorem s_X10_calm_30 {A : Nat → Nat → Prop} {F : Nat → Nat → Int32} {w : Nat} (pr : okR A) (x_3 : Int32) {P : Int32 → zSto → Prop} (hP : ∀ r σ2, zInv A F w σ2 → P r σ2) : ∀ (n : Nat) (x_4 : Int32) (σ : zSto), zInv A F w σ → (0 ≤ ti x_4 ∧ ti x_4 ≤ 7) → (7 - ti x_4 < n) → w_X10_calm_30 x_3 P n x_4 σ := by
  have l1 := lit_1
  have l0 := lit_0
  intro n
  induction n with
  | zero => intro x_4 σ I h hm; exfalso; omega
  | succ n ih =>
    intro x_4 σ I h hm
    unfold w_X10_calm_30
    have d : 0 ≤ ti (σ.1 223 26) ∧ ti (σ.1 223 26) ≤ 6 := rdr I kd_223 rfl rfl
    refine ⟨fun q => hP _ σ I, fun q => ⟨100, ?_⟩⟩
    have c := nlt_t q
    have t := tadd (x := x_4) (y := (1 : Int32)) (by omega)
    exact s_X10_calm_42 pr x_3 x_4 hP (fun z σ2 I2 e => by have := eq_t e; exact ih z σ2 I2 (by omega) (by omega)) 100 (0 : Int32) σ I (by omega) (by omega)
set_option maxHeartbeats 4000000 in
theorem s_X10_calm {A : Nat → Nat → Prop} {F : Nat → Nat → Int32} {w : Nat} (pr : okR A) (a1 : Int32) (a2 : Int32) (a3 : Int32) {σ : zSto} (I : zInv A F w σ) {P : Int32 → zSto → Prop} (hP : ∀ (r : Int32) (σ2 : zSto), zInv A F w σ2 → P r σ2) : w_X10_calm a1 a2 a3 σ P := by
  unfold w_X10_calm
  intro σ1 eσ1
  have uI1 : zInv A F w σ1 := by rw [eσ1]; exact wIr I (pRo pr (by decide)) (by decide) kd_223 rfl rfl (full32 _)
  have ul2 := lit_m1
  have ul3 := lit_999
  refine s_X10_in a3 (-1 : Int32) (999 : Int32) uI1 (fun r3 uz4 => ?_)
  intro ub5
  have uc6 := bool_t ub5
  refine ⟨?_, ?_⟩
  · intro uq7
    have ul8 := lit_0
    have uc9 := eq_t uq7
    exact hP (-1 : Int32) σ1 uI1
  · intro uq10
    have uc11 := uz4 uq10
    have ul12 := lit_0
    have uc13 := ne_t uq10
    refine s_X10_hand pr a1 a2 uI1 (fun r5 σ4 uI14 uz15 => ?_)
    intro ub16
    have uc17 := bool_t ub16
    refine ⟨?_, ?_⟩
    · intro uq18
      have uc19 := uz15 uq18
      have uc20 := ne_t uq18
      refine ⟨70000, ?_⟩
      exact s_X10_calm_30 pr a3 hP 70000 (0 : Int32) σ4 uI14 (by omega) (by omega)
    · intro uq21
      have uc22 := eq_t uq21
      exact hP (-1 : Int32) σ4 uI14
set_option maxHeartbeats 4000000 in
theorem s_X10_fault {A : Nat → Nat → Prop} {F : Nat → Nat → Int32} {w : Nat} (pr : okR A) (a1 : Int32) {σ : zSto} (I : zInv A F w σ) {P : Int32 → zSto → Prop} (hP : ∀ (r : Int32) (σ2 : zSto), zInv A F w σ2 → P r σ2) : w_X10_fault a1 σ P := by
  unfold w_X10_fault
  intro σ1 eσ1
  have uI1 : zInv A F w σ1 := by rw [eσ1]; exact wIr I (pRo pr (by decide)) (by decide) kd_223 rfl rfl (full32 _)
  refine ⟨?_, ?_⟩
  · intro uq2
    have ul3 := lit_0
    refine ⟨?_, ?_⟩
    · intro uq4
      have ul5 := lit_1
      exact hP (-1 : Int32) σ1 uI1
    · intro uq6
      have ul7 := lit_1
      have uc8 := eq_t uq6
      exact hP (σ1.1 227 0) σ1 uI1
  · intro uq9
    have ul10 := lit_0
    have uc11 := eq_t uq9
    exact hP (σ1.1 226 0) σ1 uI1
set_option maxHeartbeats 4000000 in
theorem s_X10_richest_6 {A : Nat → Nat → Prop} {F : Nat → Nat → Int32} {w : Nat} {σ : zSto} (I : zInv A F w σ) {P : Int32 → zSto → Prop} (hP : ∀ (r : Int32), P r σ) : ∀ (n : Nat) (x_1 : Int32) (x_2 : Int32) (x_3 : Int32), (0 ≤ ti (x_3) ∧ ti (x_3) ≤ 6) → (6 - (ti (x_3)) < n) → w_X10_richest_6 P n x_1 x_2 x_3 σ := by
  intro n
  induction n with
  | zero =>
    intro x_1 x_2 x_3 h_x_3 hm
    exfalso
    omega
  | succ n ih =>
    intro x_1 x_2 x_3 h_x_3 hm
    unfold w_X10_richest_6
    refine ⟨?_, ?_⟩
    · intro uq1
      have ud2 : 0 ≤ ti ((σ.1 223 26)) ∧ ti ((σ.1 223 26)) ≤ 6 := rdr I kd_223 rfl rfl
      have uc3 := le_t uq1
      exact hP x_1
    · intro uq4
      have ud5 : 0 ≤ ti ((σ.1 223 26)) ∧ ti ((σ.1 223 26)) ≤ 6 := rdr I kd_223 rfl rfl
      have uc6 := nle_t uq4
      refine ⟨vin (by omega), ?_⟩
      refine ⟨?_, ?_⟩
      · intro uq7
        have uc8 := le_t uq7
        refine ⟨vin (by omega), ?_⟩
        refine s_X10_greater x_2 (σ.1 243 ((x_3).toNatClampNeg)) I (fun r4 => ?_)
        intro x5 ex5
        have ul9 := lit_1
        have ut10 := tadd (x := x_3) (y := (1 : Int32)) (by omega)
        have ut11 := eq_t ex5
        exact ih x_1 r4 x5 (by omega) (by omega)
      · intro uq12
        have uc13 := nle_t uq12
        refine ⟨vin (by omega), ?_⟩
        refine s_X10_greater x_2 (σ.1 243 ((x_3).toNatClampNeg)) I (fun r8 => ?_)
        intro x9 ex9
        have ul14 := lit_1
        have ut15 := tadd (x := x_3) (y := (1 : Int32)) (by omega)
        have ut16 := eq_t ex9
        exact ih x_3 r8 x9 (by omega) (by omega)
set_option maxHeartbeats 4000000 in
theorem s_X10_richest {A : Nat → Nat → Prop} {F : Nat → Nat → Int32} {w : Nat} {σ : zSto} (I : zInv A F w σ) {P : Int32 → zSto → Prop} (hP : ∀ (r : Int32), P r σ) : w_X10_richest σ P := by
  unfold w_X10_richest
  refine ⟨70000, ?_⟩
  have ul1 := lit_0
  have ul2 := lit_m1
  exact s_X10_richest_6 I hP 70000 (-1 : Int32) (0 : Int32) (0 : Int32) (by omega) (by omega)
set_option maxHeartbeats 4000000 in
theorem s_X10_spare_11 {A : Nat → Nat → Prop} {F : Nat → Nat → Int32} {w : Nat} (pr : okR A) (x_1 : Int32) (x_2 : Int32) {P : Int32 → zSto → Prop} (hP : ∀ (r : Int32) (σ2 : zSto), zInv A F w σ2 → P r σ2) : ∀ (n : Nat) (x_3 : Int32) (x_4 : Int32) (x_5 : Int32) (σ : zSto), zInv A F w σ → (0 ≤ ti (x_5) ∧ ti (x_5) ≤ 15) → (15 - (ti (x_5)) < n) → w_X10_spare_11 x_1 x_2 P n x_3 x_4 x_5 σ := by
  intro n
  induction n with
  | zero =>
    intro x_3 x_4 x_5 σ I h_x_5 hm
    exfalso
    omega
  | succ n ih =>
    intro x_3 x_4 x_5 σ I h_x_5 hm
    unfold w_X10_spare_11
    refine ⟨?_, ?_⟩
    · intro uq1
      have ud2 : 0 ≤ ti ((σ.1 223 25)) ∧ ti ((σ.1 223 25)) ≤ 15 := rdr I kd_223 rfl rfl
      have uc3 := le_t uq1
      exact hP x_3 σ I
    · intro uq4
      have ud5 : 0 ≤ ti ((σ.1 223 25)) ∧ ti ((σ.1 223 25)) ≤ 15 := rdr I kd_223 rfl rfl
      have uc6 := nle_t uq4
      refine ⟨vin (by omega), ?_⟩
      intro x3 ex3
      refine ⟨vin (by omega), ?_⟩
      intro σ5 eσ5
      have uI7 : zInv A F w σ5 := by rw [eσ5]; exact wI0 I (pR pr (by decide)) rk_238 kd_238
      refine s_X10_everyone uI7 (fun r7 hr7 => ?_)
      refine s_X10_go pr x_1 x_2 r7 uI7 (fun σ8 uI8 => ?_)
      refine ⟨vin (by omega), ?_⟩
      intro σ10 eσ10
      have uI9 : zInv A F w σ10 := by rw [eσ10]; exact wI0 uI8 (pR pr (by decide)) rk_238 kd_238
      refine ⟨?_, ?_⟩
      · intro uq10
        have ue11 : ti ((σ10.1 223 31)) = ti ((σ8.1 223 31)) := by rw [eσ10]; exact congrArg ti (zI_q (Or.inl (by omega)))
        have uc12 := le_t uq10
        refine ⟨?_, ?_⟩
        · intro uq13
          have uc14 := le_t uq13
          intro x11 ex11
          have ul15 := lit_1
          have ut16 := tadd (x := x_5) (y := (1 : Int32)) (by omega)
          have ut17 := eq_t ex11
          exact ih x_3 x_4 x11 σ10 uI9 (by omega) (by omega)
        · intro uq18
          have uc19 := nle_t uq18
          intro x12 ex12
          intro x13 ex13
          have ul20 := lit_1
          have ut21 := tadd (x := x_5) (y := (1 : Int32)) (by omega)
          have ut22 := eq_t ex13
          exact ih x_3 x12 x13 σ10 uI9 (by omega) (by omega)
      · intro uq23
        have ue24 : ti ((σ10.1 223 31)) = ti ((σ8.1 223 31)) := by rw [eσ10]; exact congrArg ti (zI_q (Or.inl (by omega)))
        have uc25 := nle_t uq23
        refine ⟨?_, ?_⟩
        · intro uq26
          have uc27 := le_t uq26
          intro x14 ex14
          have ul28 := lit_1
          have ut29 := tadd (x := x_5) (y := (1 : Int32)) (by omega)
          have ut30 := eq_t ex14
          exact ih x_5 x_4 x14 σ10 uI9 (by omega) (by omega)
        · intro uq31
          have uc32 := nle_t uq31
          intro x15 ex15
          intro x16 ex16
          have ul33 := lit_1
          have ut34 := tadd (x := x_5) (y := (1 : Int32)) (by omega)
          have ut35 := eq_t ex16
          exact ih x_5 x15 x16 σ10 uI9 (by omega) (by omega)
set_option maxHeartbeats 4000000 in
theorem s_X10_spare {A : Nat → Nat → Prop} {F : Nat → Nat → Int32} {w : Nat} (pr : okR A) (a1 : Int32) (a2 : Int32) {σ : zSto} (I : zInv A F w σ) {P : Int32 → zSto → Prop} (hP : ∀ (r : Int32) (σ2 : zSto), zInv A F w σ2 → P r σ2) : w_X10_spare a1 a2 σ P := by
  unfold w_X10_spare
  intro x1 ex1
  refine ⟨70000, ?_⟩
  have ul1 := lit_0
  have ul2 := lit_m1
  exact s_X10_spare_11 pr a1 a2 hP 70000 (-1 : Int32) x1 (0 : Int32) σ I (by omega) (by omega)
set_option maxHeartbeats 4000000 in
theorem s_X10_rich {A : Nat → Nat → Prop} {F : Nat → Nat → Int32} {w : Nat} (pr : okR A) (a1 : Int32) (a2 : Int32) (a3 : Int32) (a4 : Int32) (a5 : Int32) {σ : zSto} (I : zInv A F w σ) {P : Int32 → zSto → Prop} (hP : ∀ (r : Int32) (σ2 : zSto), zInv A F w σ2 → P r σ2) : w_X10_rich a1 a2 a3 a4 a5 σ P := by
  unfold w_X10_rich
  intro σ1 eσ1
  have uI1 : zInv A F w σ1 := by rw [eσ1]; exact wIr I (pRo pr (by decide)) (by decide) kd_223 rfl rfl (full32 _)
  refine s_X10_layRun pr a1 a2 a3 a4 uI1 (fun r3 σ2 uI2 => ?_)
  intro ub3
  have uc4 := bool_t ub3
  refine ⟨?_, ?_⟩
  · intro uq5
    have ul6 := lit_0
    have uc7 := ne_t uq5
    refine ⟨?_, ?_⟩
    · intro uq8
      have uc9 := eq_t uq8
      refine s_X10_richest uI2 (fun r5 => ?_)
      exact hP r5 σ2 uI2
    · intro uq10
      refine s_X10_spare pr a2 a3 uI2 (fun r7 σ6 uI11 => ?_)
      exact hP r7 σ6 uI11
  · intro uq12
    have ul13 := lit_0
    have uc14 := eq_t uq12
    exact hP (-1 : Int32) σ2 uI2
set_option maxHeartbeats 4000000 in
theorem s_X10_lots_43 {A : Nat → Nat → Prop} {F : Nat → Nat → Int32} {w : Nat} (pr : okR A) (x_3 : Int32) (x_4 : Int32) (x_5 : Int32) (h_x_4 : 1 ≤ ti (x_4) ∧ ti (x_4) ≤ 20) {P : Int32 → zSto → Prop} (hP : ∀ (r : Int32) (σ2 : zSto), zInv A F w σ2 → P r σ2) : ∀ (n : Nat) (x_6 : Int32) (x_7 : Int32) (σ : zSto), zInv A F w σ → (0 ≤ ti (x_7) ∧ ti (x_7) ≤ 20) → (20 - (ti (x_7)) < n) → w_X10_lots_43 x_3 x_4 x_5 P n x_6 x_7 σ := by
  intro n
  induction n with
  | zero =>
    intro x_6 x_7 σ I h_x_7 hm
    exfalso
    omega
  | succ n ih =>
    intro x_6 x_7 σ I h_x_7 hm
    unfold w_X10_lots_43
    refine ⟨?_, ?_⟩
    · intro uq1
      have uc2 := le_t uq1
      exact hP x_6 σ I
    · intro uq3
      have uc4 := nle_t uq3
      refine s_X10_everyone I (fun r9 hr9 => ?_)
      refine s_X10_go pr (2 : Int32) (x_3 + x_7) r9 I (fun σ10 uI5 => ?_)
      refine ⟨?_, ?_⟩
      · intro uq6
        have ul7 := lit_0
        refine ⟨?_, ?_⟩
        · intro uq8
          have ul9 := lit_1
          refine ⟨?_, ?_⟩
          · intro uq10
            have ul11 := lit_m1
            have uc12 := eq_t uq10
            intro x11 ex11
            intro x12 ex12
            have ut13 := tadd (x := x_7) (y := (1 : Int32)) (by omega)
            have ut14 := eq_t ex12
            exact ih x11 x12 σ10 uI5 (by omega) (by omega)
          · intro uq15
            have ul16 := lit_m1
            intro x13 ex13
            intro x14 ex14
            have ut17 := tadd (x := x_7) (y := (1 : Int32)) (by omega)
            have ut18 := eq_t ex14
            exact ih x13 x14 σ10 uI5 (by omega) (by omega)
        · intro uq19
          have ul20 := lit_1
          have uc21 := eq_t uq19
          intro x15 ex15
          intro x16 ex16
          have ut22 := tadd (x := x_7) (y := (1 : Int32)) (by omega)
          have ut23 := eq_t ex16
          exact ih x15 x16 σ10 uI5 (by omega) (by omega)
      · intro uq24
        have ul25 := lit_0
        have uc26 := eq_t uq24
        refine s_X10_gathered uI5 (fun r18 => ?_)
        intro x19 ex19
        intro x20 ex20
        have ul27 := lit_1
        have ut28 := tadd (x := x_7) (y := (1 : Int32)) (by omega)
        have ut29 := eq_t ex20
        exact ih x19 x20 σ10 uI5 (by omega) (by omega)
set_option maxHeartbeats 4000000 in
theorem s_X10_lots {A : Nat → Nat → Prop} {F : Nat → Nat → Int32} {w : Nat} (pr : okR A) (a1 : Int32) (a2 : Int32) (a3 : Int32) (a4 : Int32) (a5 : Int32) {σ : zSto} (I : zInv A F w σ) {P : Int32 → zSto → Prop} (hP : ∀ (r : Int32) (σ2 : zSto), zInv A F w σ2 → P r σ2) : w_X10_lots a1 a2 a3 a4 a5 σ P := by
  unfold w_X10_lots
  intro σ1 eσ1
  have uI1 : zInv A F w σ1 := by rw [eσ1]; exact wIr I (pRo pr (by decide)) (by decide) kd_223 rfl rfl (full32 _)
  have ul2 := lit_1
  have ul3 := lit_20
  refine s_X10_in a4 (1 : Int32) (20 : Int32) uI1 (fun r3 uz4 => ?_)
  intro ub5
  have uc6 := bool_t ub5
  refine ⟨?_, ?_⟩
  · intro uq7
    have ul8 := lit_0
    have uc9 := eq_t uq7
    exact hP (-1 : Int32) σ1 uI1
  · intro uq10
    have uc11 := uz4 uq10
    have ul12 := lit_0
    have uc13 := ne_t uq10
    have ul14 := lit_2
    refine s_X10_in a5 (0 : Int32) (2 : Int32) uI1 (fun r5 uz15 => ?_)
    intro ub16
    have uc17 := bool_t ub16
    refine ⟨?_, ?_⟩
    · intro uq18
      have uc19 := eq_t uq18
      exact hP (-1 : Int32) σ1 uI1
    · intro uq20
      have uc21 := uz15 uq20
      have uc22 := ne_t uq20
      refine s_X10_hand pr a1 a2 uI1 (fun r7 σ6 uI23 uz24 => ?_)
      intro ub25
      have uc26 := bool_t ub25
      refine ⟨?_, ?_⟩
      · intro uq27
        have uc28 := uz24 uq27
        have uc29 := ne_t uq27
        refine ⟨70000, ?_⟩
        exact s_X10_lots_43 pr a3 a4 a5 (by omega) hP 70000 (0 : Int32) (0 : Int32) σ6 uI23 (by omega) (by omega)
      · intro uq30
        have uc31 := eq_t uq30
        exact hP (-1 : Int32) σ6 uI23
set_option maxHeartbeats 4000000 in
theorem s_X10_hasLog {A : Nat → Nat → Prop} {F : Nat → Nat → Int32} {w : Nat} (ph : okH A) (a1 : Int32) {σ : zSto} (I : zInv A F w σ) {P : Int32 → zSto → Prop} (hP : ∀ (r : Int32) (σ2 : zSto), zInv A F w σ2 → (¬ r = 0 → 0 ≤ ti (σ2.1 223 47) ∧ ti (σ2.1 223 47) ≤ 1 ∧ 0 ≤ ti a1 ∧ ti a1 ≤ 1) → P r σ2) : w_X10_hasLog a1 σ P := by
  unfold w_X10_hasLog
  intro σ1 eσ1
  have uI1 : zInv A F w σ1 := by rw [eσ1]; exact wIr I (ph _ (by decide)) (by decide) kd_223 rfl rfl (full32 _)
  have ul2 := lit_2
  refine s_X10_is (2 : Int32) a1 (by omega) uI1 (fun r3 uz3 => ?_)
  intro ub4
  have uc5 := bool_t ub4
  refine ⟨ub4, ?_⟩
  have ue6 : ti ((σ1.1 223 47)) = ti (a1) := by rw [eσ1]; exact congrArg ti zI_s
  exact hP r3 σ1 uI1 (fun q => by have := uz3 q; omega)
set_option maxHeartbeats 4000000 in
theorem s_X10_seenOf {A : Nat → Nat → Prop} {F : Nat → Nat → Int32} {w : Nat} (a1 : Int32) (a2 : Int32) (h_a1 : 0 ≤ ti (a1) ∧ ti (a1) ≤ 9) (h_a2 : 0 ≤ ti (a2) ∧ ti (a2) ≤ 1) {σ : zSto} (I : zInv A F w σ) (pre0 : 0 ≤ ti (σ.1 223 47) ∧ ti (σ.1 223 47) ≤ 1) {P : Int32 → zSto → Prop} (hP : ∀ (r : Int32), (ti r = ti (sor σ a1 a2)) → P r σ) : w_X10_seenOf a1 a2 σ P := by
  unfold w_X10_seenOf
  have ul1 := lit_21
  have ut2 := tmull (x := (21 : Int32)) (y := (σ.1 223 47)) (21) lit_21 (by omega)
  have ul3 := lit_1
  have ut4 := tadd (x := ((21 : Int32) * (σ.1 223 47))) (y := (1 : Int32)) (by omega)
  have ul5 := lit_2
  have ut6 := tmull (x := (2 : Int32)) (y := a1) (2) lit_2 (by omega)
  have ut7 := tadd (x := (((21 : Int32) * (σ.1 223 47)) + (1 : Int32))) (y := ((2 : Int32) * a1)) (by omega)
  have ut8 := tadd (x := ((((21 : Int32) * (σ.1 223 47)) + (1 : Int32)) + ((2 : Int32) * a1))) (y := a2) (by omega)
  refine ⟨vin (by omega), ?_⟩
  exact hP (σ.1 231 (((((((21 : Int32) * (σ.1 223 47)) + (1 : Int32)) + ((2 : Int32) * a1)) + a2)).toNatClampNeg)) rfl
set_option maxHeartbeats 4000000 in
theorem s_X10_seen {A : Nat → Nat → Prop} {F : Nat → Nat → Int32} {w : Nat} (pr : okR A) (ph : okH A) (a1 : Int32) (a2 : Int32) (a3 : Int32) {σ : zSto} (I : zInv A F w σ) {P : Int32 → zSto → Prop} (hP : ∀ (r : Int32) (σ2 : zSto), zInv A F w σ2 → P r σ2) : w_X10_seen a1 a2 a3 σ P := by
  unfold w_X10_seen
  intro σ1 eσ1
  have uI1 : zInv A F w σ1 := by rw [eσ1]; exact wIr I (pRo pr (by decide)) (by decide) kd_223 rfl rfl (full32 _)
  refine s_X10_hasLog ph a1 uI1 (fun r3 σ2 uI2 uz3 => ?_)
  intro ub4
  have uc5 := bool_t ub4
  refine ⟨?_, ?_⟩
  · intro uq6
    have uc7 := uz3 uq6
    have ul8 := lit_0
    have uc9 := ne_t uq6
    have ul10 := lit_21
    have ut11 := tmull (x := (21 : Int32)) (y := a1) (21) lit_21 (by omega)
    refine ⟨vin (by omega), ?_⟩
    intro x5 ex5
    refine ⟨?_, ?_⟩
    · intro uq12
      have ul13 := lit_m1
      have ud14 := log_le uI2 (x := a1) (by omega)
      have ut15 := eq_t ex5
      have ul16 := lit_1
      have ut17 := tsub (x := x5) (y := (1 : Int32)) (by omega)
      refine s_X10_in a2 (0 : Int32) (x5 - (1 : Int32)) uI2 (fun r7 uz18 => ?_)
      intro ub19
      have uc20 := bool_t ub19
      refine ⟨?_, ?_⟩
      · intro uq21
        have uc22 := eq_t uq21
        exact hP (-2 : Int32) σ2 uI2
      · intro uq23
        have uc24 := uz18 uq23
        have uc25 := ne_t uq23
        refine s_X10_in a3 (0 : Int32) (1 : Int32) uI2 (fun r9 uz26 => ?_)
        intro ub27
        have uc28 := bool_t ub27
        refine ⟨?_, ?_⟩
        · intro uq29
          have uc30 := eq_t uq29
          exact hP (-2 : Int32) σ2 uI2
        · intro uq31
          have uc32 := uz26 uq31
          have uc33 := ne_t uq31
          refine s_X10_seenOf a2 a3 (by omega) (by omega) uI2 (by omega) (fun r11 uy34 => ?_)
          exact hP r11 σ2 uI2
    · intro uq35
      have ul36 := lit_m1
      have uc37 := eq_t uq35
      refine ⟨?_, ?_⟩
      · intro uq38
        exact hP (-2 : Int32) σ2 uI2
      · intro uq39
        have uc40 := eq_t uq39
        exact hP x5 σ2 uI2
  · intro uq41
    have ul42 := lit_0
    have uc43 := eq_t uq41
    exact hP (-2 : Int32) σ2 uI2
set_option maxHeartbeats 4000000 in
theorem s_X10_holds_55 {A : Nat → Nat → Prop} {F : Nat → Nat → Int32} {w : Nat} {σ : zSto} (I : zInv A F w σ) {P : Int32 → zSto → Prop} (hP : ∀ (r : Int32) (σ2 : zSto), zInv A F w σ2 → P r σ2) : ∀ (n : Nat) (x_3 : Int32), (0 ≤ ti (x_3) ∧ ti (x_3) ≤ 10) → (0 ≤ ti (σ.1 223 47) ∧ ti (σ.1 223 47) ≤ 1) → (10 - (ti (x_3)) < n) → w_X10_holds_55 P n x_3 σ := by
  intro n
  induction n with
  | zero =>
    intro x_3 h_x_3 pre0 hm
    exfalso
    omega
  | succ n ih =>
    intro x_3 h_x_3 pre0 hm
    unfold w_X10_holds_55
    have ul1 := lit_21
    have ut2 := tmull (x := (21 : Int32)) (y := (σ.1 223 47)) (21) lit_21 (by omega)
    refine ⟨vin (by omega), ?_⟩
    refine ⟨?_, ?_⟩
    · intro uq3
      have ud4 := log_le I (x := (σ.1 223 47)) (by omega)
      have uc5 := le_t uq3
      exact hP (1 : Int32) σ I
    · intro uq6
      have ud7 := log_le I (x := (σ.1 223 47)) (by omega)
      have uc8 := nle_t uq6
      have ul9 := lit_0
      refine s_X10_seenOf x_3 (0 : Int32) (by omega) (by omega) I (by omega) (fun r3 uy10 => ?_)
      refine s_X10_isPost r3 I (fun r5 uz11 => ?_)
      intro ub12
      have uc13 := bool_t ub12
      refine ⟨?_, ?_⟩
      · intro uq14
        have uc15 := eq_t uq14
        exact hP (0 : Int32) σ I
      · intro uq16
        have uc17 := uz11 uq16
        have uc18 := ne_t uq16
        refine s_X10_seenOf x_3 (0 : Int32) (by omega) (by omega) I (by omega) (fun r7 uy19 => ?_)
        refine ⟨vin (by omega), ?_⟩
        have ul20 := lit_1
        refine s_X10_seenOf x_3 (1 : Int32) (by omega) (by omega) I (by omega) (fun r10 uy21 => ?_)
        refine ⟨?_, ?_⟩
        · intro uq22
          have uc23 := eq_t uq22
          intro x11 ex11
          have ut24 := tadd (x := x_3) (y := (1 : Int32)) (by omega)
          have ut25 := eq_t ex11
          exact ih x11 (by omega) (by omega) (by omega)
        · intro uq26
          exact hP (0 : Int32) σ I
set_option maxHeartbeats 4000000 in
theorem s_X10_holds_4 {A : Nat → Nat → Prop} {F : Nat → Nat → Int32} {w : Nat} (pr : okR A) (x_1 : Int32) {P : Int32 → zSto → Prop} (hP : ∀ (r : Int32) (σ2 : zSto), zInv A F w σ2 → P r σ2) : ∀ (n : Nat) (x_2 : Int32) (x_3 : Int32) (σ : zSto), zInv A F w σ → (0 ≤ ti (x_3) ∧ ti (x_3) ≤ 16) → (0 ≤ ti (σ.1 223 47) ∧ ti (σ.1 223 47) ≤ 1) → (16 - (ti (x_3)) < n) → w_X10_holds_4 x_1 P n x_2 x_3 σ := by
  intro n
  induction n with
  | zero =>
    intro x_2 x_3 σ I h_x_3 pre0 hm
    exfalso
    omega
  | succ n ih =>
    intro x_2 x_3 σ I h_x_3 pre0 hm
    unfold w_X10_holds_4
    refine ⟨?_, ?_⟩
    · intro uq1
      have ud2 : 0 ≤ ti ((σ.1 223 24)) ∧ ti ((σ.1 223 24)) ≤ 16 := rdr I kd_223 rfl rfl
      have uc3 := le_t uq1
      refine ⟨70000, ?_⟩
      have ul4 := lit_0
      exact s_X10_holds_55 I hP 70000 (0 : Int32) (by omega) (by omega) (by omega)
    · intro uq5
      have ud6 : 0 ≤ ti ((σ.1 223 24)) ∧ ti ((σ.1 223 24)) ≤ 16 := rdr I kd_223 rfl rfl
      have uc7 := nle_t uq5
      refine ⟨vin (by omega), ?_⟩
      intro σ13 eσ13
      have uI8 : zInv A F w σ13 := by rw [eσ13]; exact wI0 I (pR pr (by decide)) rk_239 kd_239
      refine ⟨vin (by omega), ?_⟩
      refine s_X10_has x_1 x_3 uI8 (fun r16 => ?_)
      intro ub9
      have uc10 := bool_t ub9
      refine ⟨?_, ?_⟩
      · intro uq11
        have ul12 := lit_0
        have uc13 := eq_t uq11
        intro x17 ex17
        intro x18 ex18
        have ul14 := lit_1
        have ut15 := tadd (x := x_3) (y := (1 : Int32)) (by omega)
        have ut16 := eq_t ex18
        have ue17 : ti ((σ13.1 223 47)) = ti ((σ.1 223 47)) := by rw [eσ13]; exact congrArg ti (zI_q (Or.inl (by omega)))
        exact ih x17 x18 σ13 uI8 (by omega) (by omega) (by omega)
      · intro uq18
        have ul19 := lit_0
        have uc20 := ne_t uq18
        refine ⟨vin (by omega), ?_⟩
        intro x20 ex20
        intro x21 ex21
        have ul21 := lit_1
        have ut22 := tadd (x := x_3) (y := (1 : Int32)) (by omega)
        have ut23 := eq_t ex21
        have ue24 : ti ((σ13.1 223 47)) = ti ((σ.1 223 47)) := by rw [eσ13]; exact congrArg ti (zI_q (Or.inl (by omega)))
        exact ih x20 x21 σ13 uI8 (by omega) (by omega) (by omega)
set_option maxHeartbeats 4000000 in
theorem s_X10_holds {A : Nat → Nat → Prop} {F : Nat → Nat → Int32} {w : Nat} (pr : okR A) (a1 : Int32) {σ : zSto} (I : zInv A F w σ) (pre0 : 0 ≤ ti (σ.1 223 47) ∧ ti (σ.1 223 47) ≤ 1) {P : Int32 → zSto → Prop} (hP : ∀ (r : Int32) (σ2 : zSto), zInv A F w σ2 → P r σ2) : w_X10_holds a1 σ P := by
  unfold w_X10_holds
  refine ⟨70000, ?_⟩
  have ul1 := lit_0
  exact s_X10_holds_4 pr a1 hP 70000 (0 : Int32) (0 : Int32) σ I (by omega) (by omega) (by omega)
set_option maxHeartbeats 4000000 in
theorem s_X10_hold_56 {A : Nat → Nat → Prop} {F : Nat → Nat → Int32} {w : Nat} (pr : okR A) (x_3 : Int32) {P : Int32 → zSto → Prop} (hP : ∀ (r : Int32) (σ2 : zSto), zInv A F w σ2 → P r σ2) : ∀ (n : Nat) (x_4 : Int32) (x_5 : Int32) (x_6 : Int32) (x_7 : Int32) (x_8 : Int32) (σ : zSto), zInv A F w σ → (0 ≤ ti (x_8) ∧ ti (x_8) ≤ 32768) → (0 ≤ ti (σ.1 223 47) ∧ ti (σ.1 223 47) ≤ 1) → (32768 - (ti (x_8)) < n) → w_X10_hold_56 x_3 P n x_4 x_5 x_6 x_7 x_8 σ := by
  intro n
  induction n with
  | zero =>
    intro x_4 x_5 x_6 x_7 x_8 σ I h_x_8 pre0 hm
    exfalso
    omega
  | succ n ih =>
    intro x_4 x_5 x_6 x_7 x_8 σ I h_x_8 pre0 hm
    unfold w_X10_hold_56
    refine ⟨?_, ?_⟩
    · intro uq1
      have ud2 : 0 ≤ ti ((σ.1 223 25)) ∧ ti ((σ.1 223 25)) ≤ 15 := rdr I kd_223 rfl rfl
      have ut3 := shl1_15 (x := (σ.1 223 25)) (by omega)
      have uc4 := le_t uq1
      refine ⟨?_, ?_⟩
      · intro uq5
        have ul6 := lit_0
        refine ⟨?_, ?_⟩
        · intro uq7
          have ul8 := lit_1
          refine ⟨?_, ?_⟩
          · intro uq9
            have ul10 := lit_2
            exact hP x_5 σ I
          · intro uq11
            have ul12 := lit_2
            have uc13 := eq_t uq11
            exact hP x_7 σ I
        · intro uq14
          have ul15 := lit_1
          have uc16 := eq_t uq14
          refine ⟨?_, ?_⟩
          · intro uq17
            exact hP x_6 σ I
          · intro uq18
            have uc19 := eq_t uq18
            exact hP (-1 : Int32) σ I
      · intro uq20
        have ul21 := lit_0
        have uc22 := eq_t uq20
        exact hP x_4 σ I
    · intro uq23
      have ud24 : 0 ≤ ti ((σ.1 223 25)) ∧ ti ((σ.1 223 25)) ≤ 15 := rdr I kd_223 rfl rfl
      have ut25 := shl1_15 (x := (σ.1 223 25)) (by omega)
      have uc26 := nle_t uq23
      refine s_X10_holds (A := Ax A B47) (F := σ.1) (okR_47 pr) x_8 (inv_x I) (by omega) (fun r10 σ9 uI27x => ?_)
      have uI27 := inv_y I uI27x
      have uf28 : ti (σ9.1 223 47) = ti (σ.1 223 47) := congrArg ti (inv_e uI27x (show B47 223 47 from ⟨rfl, rfl⟩))
      intro ub29
      have uc30 := bool_t ub29
      refine ⟨?_, ?_⟩
      · intro uq31
        have ul32 := lit_0
        have uc33 := eq_t uq31
        intro x11 ex11
        have ul34 := lit_1
        have ut35 := tadd (x := x_8) (y := (1 : Int32)) (by omega)
        have ut36 := eq_t ex11
        exact ih x_4 x_5 x_6 x_7 x11 σ9 uI27 (by omega) (by omega) (by omega)
      · intro uq37
        have ul38 := lit_0
        have uc39 := ne_t uq37
        refine ⟨?_, ?_⟩
        · intro uq40
          have ul41 := lit_m1
          intro x12 ex12
          intro x13 ex13
          intro x14 ex14
          intro x15 ex15
          have ul42 := lit_1
          have ut43 := tadd (x := x_8) (y := (1 : Int32)) (by omega)
          have ut44 := eq_t ex15
          exact ih x12 x_5 x13 x14 x15 σ9 uI27 (by omega) (by omega) (by omega)
        · intro uq45
          have ul46 := lit_m1
          have uc47 := eq_t uq45
          intro x16 ex16
          intro x17 ex17
          intro x18 ex18
          intro x19 ex19
          have ul48 := lit_1
          have ut49 := tadd (x := x_8) (y := (1 : Int32)) (by omega)
          have ut50 := eq_t ex19
          exact ih x16 x_8 x17 x18 x19 σ9 uI27 (by omega) (by omega) (by omega)
set_option maxHeartbeats 4000000 in
theorem s_X10_hold {A : Nat → Nat → Prop} {F : Nat → Nat → Int32} {w : Nat} (pr : okR A) (ph : okH A) (a1 : Int32) (a2 : Int32) (a3 : Int32) {σ : zSto} (I : zInv A F w σ) {P : Int32 → zSto → Prop} (hP : ∀ (r : Int32) (σ2 : zSto), zInv A F w σ2 → P r σ2) : w_X10_hold a1 a2 a3 σ P := by
  unfold w_X10_hold
  intro σ1 eσ1
  have uI1 : zInv A F w σ1 := by rw [eσ1]; exact wIr I (pRo pr (by decide)) (by decide) kd_223 rfl rfl (full32 _)
  refine s_X10_hasLog ph a2 uI1 (fun r3 σ2 uI2 uz3 => ?_)
  intro ub4
  have uc5 := bool_t ub4
  refine ⟨?_, ?_⟩
  · intro uq6
    have ul7 := lit_0
    have uc8 := eq_t uq6
    exact hP (-2 : Int32) σ2 uI2
  · intro uq9
    have uc10 := uz3 uq9
    have ul11 := lit_0
    have uc12 := ne_t uq9
    refine s_X10_hand (A := Ax A B47) (F := σ2.1) (okR_47 pr) a1 (0 : Int32) (inv_x uI2) (fun r5 σ4 uI13x uz14 => ?_)
    have uI13 := inv_y uI2 uI13x
    have uf15 : ti (σ4.1 223 47) = ti (σ2.1 223 47) := congrArg ti (inv_e uI13x (show B47 223 47 from ⟨rfl, rfl⟩))
    intro ub16
    have uc17 := bool_t ub16
    refine ⟨?_, ?_⟩
    · intro uq18
      have uc19 := eq_t uq18
      exact hP (-2 : Int32) σ4 uI13
    · intro uq20
      have uc21 := uz14 uq20
      have uc22 := ne_t uq20
      have ul23 := lit_3
      refine s_X10_in a3 (0 : Int32) (3 : Int32) uI13 (fun r7 uz24 => ?_)
      intro ub25
      have uc26 := bool_t ub25
      refine ⟨?_, ?_⟩
      · intro uq27
        have uc28 := uz24 uq27
        have uc29 := ne_t uq27
        intro x8 ex8
        refine ⟨70000, ?_⟩
        have ul30 := lit_m1
        exact s_X10_hold_56 pr a3 hP 70000 (0 : Int32) (-1 : Int32) x8 (0 : Int32) (0 : Int32) σ4 uI13 (by omega) (by omega) (by omega)
      · intro uq31
        have uc32 := eq_t uq31
        exact hP (-2 : Int32) σ4 uI13
set_option maxHeartbeats 4000000 in
theorem s_X10_allWaits_4 {A : Nat → Nat → Prop} {F : Nat → Nat → Int32} {w : Nat} {σ : zSto} (I : zInv A F w σ) {P : Int32 → zSto → Prop} (hP : ∀ (r : Int32), P r σ) : ∀ (n : Nat) (x_1 : Int32) (x_2 : Int32), (0 ≤ ti (x_2) ∧ ti (x_2) ≤ 16) → (16 - (ti (x_2)) < n) → w_X10_allWaits_4 P n x_1 x_2 σ := by
  intro n
  induction n with
  | zero =>
    intro x_1 x_2 h_x_2 hm
    exfalso
    omega
  | succ n ih =>
    intro x_1 x_2 h_x_2 hm
    unfold w_X10_allWaits_4
    refine ⟨?_, ?_⟩
    · intro uq1
      have ud2 : 0 ≤ ti ((σ.1 223 24)) ∧ ti ((σ.1 223 24)) ≤ 16 := rdr I kd_223 rfl rfl
      have uc3 := le_t uq1
      exact hP x_1
    · intro uq4
      have ud5 : 0 ≤ ti ((σ.1 223 24)) ∧ ti ((σ.1 223 24)) ≤ 16 := rdr I kd_223 rfl rfl
      have uc6 := nle_t uq4
      refine ⟨vin (by omega), ?_⟩
      intro x2 ex2
      intro x3 ex3
      have ul7 := lit_1
      have ut8 := tadd (x := x_2) (y := (1 : Int32)) (by omega)
      have ut9 := eq_t ex3
      exact ih x2 x3 (by omega) (by omega)
set_option maxHeartbeats 4000000 in
theorem s_X10_allWaits {A : Nat → Nat → Prop} {F : Nat → Nat → Int32} {w : Nat} {σ : zSto} (I : zInv A F w σ) {P : Int32 → zSto → Prop} (hP : ∀ (r : Int32), P r σ) : w_X10_allWaits σ P := by
  unfold w_X10_allWaits
  refine ⟨70000, ?_⟩
  have ul1 := lit_0
  exact s_X10_allWaits_4 I hP 70000 (0 : Int32) (0 : Int32) (by omega) (by omega)
set_option maxHeartbeats 4000000 in
theorem s_X10_risk_73 {A : Nat → Nat → Prop} {F : Nat → Nat → Int32} {w : Nat} (pr : okR A) (x_2 : Int32) (x_3 : Int32) {P : Int32 → zSto → Prop} (hP : ∀ (r : Int32) (σ2 : zSto), zInv A F w σ2 → P r σ2) : ∀ (n : Nat) (x_4 : Int32) (x_5 : Int32) (σ : zSto), zInv A F w σ → (0 ≤ ti (x_5) ∧ ti (x_5) ≤ 15) → (15 - (ti (x_5)) < n) → w_X10_risk_73 x_2 x_3 P n x_4 x_5 σ := by
  intro n
  induction n with
  | zero =>
    intro x_4 x_5 σ I h_x_5 hm
    exfalso
    omega
  | succ n ih =>
    intro x_4 x_5 σ I h_x_5 hm
    unfold w_X10_risk_73
    refine ⟨?_, ?_⟩
    · intro uq1
      have ud2 : 0 ≤ ti ((σ.1 223 25)) ∧ ti ((σ.1 223 25)) ≤ 15 := rdr I kd_223 rfl rfl
      have uc3 := le_t uq1
      exact hP x_4 σ I
    · intro uq4
      have ud5 : 0 ≤ ti ((σ.1 223 25)) ∧ ti ((σ.1 223 25)) ≤ 15 := rdr I kd_223 rfl rfl
      have uc6 := nle_t uq4
      refine ⟨vin (by omega), ?_⟩
      intro σ12 eσ12
      have uI7 : zInv A F w σ12 := by rw [eσ12]; exact wI0 I (pR pr (by decide)) rk_240 kd_240
      refine s_X10_meetOther pr uI7 (fun σ13 uI8 => ?_)
      refine ⟨vin (by omega), ?_⟩
      intro σ15 eσ15
      have uI9 : zInv A F w σ15 := by rw [eσ15]; exact wI0 uI8 (pR pr (by decide)) rk_240 kd_240
      refine ⟨?_, ?_⟩
      · intro uq10
        have ul11 := lit_0
        refine s_X10_allWaits uI9 (fun r17 => ?_)
        refine ⟨?_, ?_⟩
        · intro uq12
          have uc13 := le_t uq12
          intro x18 ex18
          intro x19 ex19
          have ul14 := lit_1
          have ut15 := tadd (x := x_5) (y := (1 : Int32)) (by omega)
          have ut16 := eq_t ex19
          exact ih x18 x19 σ15 uI9 (by omega) (by omega)
        · intro uq17
          have uc18 := nle_t uq17
          intro x20 ex20
          intro x21 ex21
          have ul19 := lit_1
          have ut20 := tadd (x := x_5) (y := (1 : Int32)) (by omega)
          have ut21 := eq_t ex21
          exact ih x20 x21 σ15 uI9 (by omega) (by omega)
      · intro uq22
        have ul23 := lit_0
        have uc24 := eq_t uq22
        refine ⟨?_, ?_⟩
        · intro uq25
          have ue26 : ti ((σ15.1 223 43)) = ti ((σ13.1 223 43)) := by rw [eσ15]; exact congrArg ti (zI_q (Or.inl (by omega)))
          have ul27 := lit_m1
          have uc28 := eq_t uq25
          intro x22 ex22
          intro x23 ex23
          have ul29 := lit_1
          have ut30 := tadd (x := x_5) (y := (1 : Int32)) (by omega)
          have ut31 := eq_t ex23
          exact ih x22 x23 σ15 uI9 (by omega) (by omega)
        · intro uq32
          have ue33 : ti ((σ15.1 223 43)) = ti ((σ13.1 223 43)) := by rw [eσ15]; exact congrArg ti (zI_q (Or.inl (by omega)))
          have ul34 := lit_m1
          intro x24 ex24
          intro x25 ex25
          have ul35 := lit_1
          have ut36 := tadd (x := x_5) (y := (1 : Int32)) (by omega)
          have ut37 := eq_t ex25
          exact ih x24 x25 σ15 uI9 (by omega) (by omega)
set_option maxHeartbeats 4000000 in
theorem s_X10_risk_37 {A : Nat → Nat → Prop} {F : Nat → Nat → Int32} {w : Nat} (pr : okR A) (x_2 : Int32) {P : Int32 → zSto → Prop} (hP : ∀ (r : Int32) (σ2 : zSto), zInv A F w σ2 → P r σ2) : ∀ (n : Nat) (x_3 : Int32) (σ : zSto), zInv A F w σ → (0 ≤ ti (x_3) ∧ ti (x_3) ≤ 16) → (16 - (ti (x_3)) < n) → w_X10_risk_37 x_2 P n x_3 σ := by
  intro n
  induction n with
  | zero =>
    intro x_3 σ I h_x_3 hm
    exfalso
    omega
  | succ n ih =>
    intro x_3 σ I h_x_3 hm
    unfold w_X10_risk_37
    refine ⟨?_, ?_⟩
    · intro uq1
      have ud2 : 0 ≤ ti ((σ.1 223 24)) ∧ ti ((σ.1 223 24)) ≤ 16 := rdr I kd_223 rfl rfl
      have uc3 := le_t uq1
      refine s_X10_meetOther pr I (fun σ8 uI4 => ?_)
      refine s_X10_allWaits uI4 (fun r10 => ?_)
      refine ⟨70000, ?_⟩
      have ul5 := lit_0
      exact s_X10_risk_73 pr x_2 r10 hP 70000 (0 : Int32) (0 : Int32) σ8 uI4 (by omega) (by omega)
    · intro uq6
      have ud7 : 0 ≤ ti ((σ.1 223 24)) ∧ ti ((σ.1 223 24)) ≤ 16 := rdr I kd_223 rfl rfl
      have uc8 := nle_t uq6
      refine ⟨vin (by omega), ?_⟩
      intro σ27 eσ27
      have uI9 : zInv A F w σ27 := by rw [eσ27]; exact wI0 I (pR pr (by decide)) rk_240 kd_240
      intro x28 ex28
      have ul10 := lit_1
      have ut11 := tadd (x := x_3) (y := (1 : Int32)) (by omega)
      have ut12 := eq_t ex28
      exact ih x28 σ27 uI9 (by omega) (by omega)
set_option maxHeartbeats 4000000 in
theorem s_X10_risk {A : Nat → Nat → Prop} {F : Nat → Nat → Int32} {w : Nat} (pr : okR A) (a1 : Int32) (a2 : Int32) {σ : zSto} (I : zInv A F w σ) {P : Int32 → zSto → Prop} (hP : ∀ (r : Int32) (σ2 : zSto), zInv A F w σ2 → P r σ2) : w_X10_risk a1 a2 σ P := by
  unfold w_X10_risk
  intro σ1 eσ1
  have uI1 : zInv A F w σ1 := by rw [eσ1]; exact wIr I (pRo pr (by decide)) (by decide) kd_223 rfl rfl (full32 _)
  have ul2 := lit_0
  have ul3 := lit_1
  refine s_X10_in a2 (0 : Int32) (1 : Int32) uI1 (fun r3 uz4 => ?_)
  intro ub5
  have uc6 := bool_t ub5
  refine ⟨?_, ?_⟩
  · intro uq7
    have uc8 := eq_t uq7
    exact hP (-1 : Int32) σ1 uI1
  · intro uq9
    have uc10 := uz4 uq9
    have uc11 := ne_t uq9
    refine s_X10_hand pr a1 (0 : Int32) uI1 (fun r5 σ4 uI12 uz13 => ?_)
    intro ub14
    have uc15 := bool_t ub14
    refine ⟨?_, ?_⟩
    · intro uq16
      have uc17 := eq_t uq16
      exact hP (-1 : Int32) σ4 uI12
    · intro uq18
      have uc19 := uz13 uq18
      have uc20 := ne_t uq18
      have ul21 := lit_6
      refine s_X10_of (6 : Int32) (by omega) uI12 (fun r7 uy22 uy23 uy24 => ?_)
      refine ⟨?_, ?_⟩
      · intro uq25
        have ul26 := lit_m1
        refine ⟨70000, ?_⟩
        exact s_X10_risk_37 pr a2 hP 70000 (0 : Int32) σ4 uI12 (by omega) (by omega)
      · intro uq27
        have ul28 := lit_m1
        have uc29 := eq_t uq27
        exact hP (-1 : Int32) σ4 uI12
set_option maxHeartbeats 4000000 in
theorem s_X10_lawFor_10 {A : Nat → Nat → Prop} {F : Nat → Nat → Int32} {w : Nat} (pr : okR A) (x_1 : Int32) (x_2 : Int32) (h_x_1 : 0 ≤ ti (x_1) ∧ ti (x_1) ≤ 5) {P : Int32 → zSto → Prop} (hP : ∀ (r : Int32) (σ2 : zSto), zInv A F w σ2 → 0 ≤ ti (r) ∧ ti (r) ≤ 3 → P r σ2) : ∀ (n : Nat) (x_3 : Int32) (x_4 : Int32) (x_5 : Int32) (σ : zSto), zInv A F w σ → (0 ≤ ti (x_3) ∧ ti (x_3) ≤ 3) → (0 ≤ ti (x_5) ∧ ti (x_5) ≤ 4) → (4 - (ti (x_5)) < n) → w_X10_lawFor_10 x_1 x_2 P n x_3 x_4 x_5 σ := by
  intro n
  induction n with
  | zero =>
    intro x_3 x_4 x_5 σ I h_x_3 h_x_5 hm
    exfalso
    omega
  | succ n ih =>
    intro x_3 x_4 x_5 σ I h_x_3 h_x_5 hm
    unfold w_X10_lawFor_10
    refine ⟨?_, ?_⟩
    · intro uq1
      have ul2 := lit_4
      have uc3 := le_t uq1
      exact hP x_3 σ I (by omega)
    · intro uq4
      have ul5 := lit_4
      have uc6 := nle_t uq4
      refine s_X10_everyone I (fun r2 hr2 => ?_)
      refine s_X10_go pr x_5 x_2 r2 I (fun σ3 uI7 => ?_)
      refine s_X10_gainNow x_1 (by omega) uI7 (fun r5 => ?_)
      refine ⟨?_, ?_⟩
      · intro uq8
        have uc9 := le_t uq8
        refine s_X10_greater x_4 r5 uI7 (fun r7 => ?_)
        intro x8 ex8
        have ul10 := lit_1
        have ut11 := tadd (x := x_5) (y := (1 : Int32)) (by omega)
        have ut12 := eq_t ex8
        exact ih x_3 r7 x8 σ3 uI7 (by omega) (by omega) (by omega)
      · intro uq13
        have uc14 := nle_t uq13
        refine s_X10_greater x_4 r5 uI7 (fun r10 => ?_)
        intro x11 ex11
        have ul15 := lit_1
        have ut16 := tadd (x := x_5) (y := (1 : Int32)) (by omega)
        have ut17 := eq_t ex11
        exact ih x_5 r10 x11 σ3 uI7 (by omega) (by omega) (by omega)
set_option maxHeartbeats 4000000 in
theorem s_X10_lawFor {A : Nat → Nat → Prop} {F : Nat → Nat → Int32} {w : Nat} (pr : okR A) (a1 : Int32) (a2 : Int32) (h_a1 : 0 ≤ ti (a1) ∧ ti (a1) ≤ 5) {σ : zSto} (I : zInv A F w σ) {P : Int32 → zSto → Prop} (hP : ∀ (r : Int32) (σ2 : zSto), zInv A F w σ2 → 0 ≤ ti (r) ∧ ti (r) ≤ 3 → P r σ2) : w_X10_lawFor a1 a2 σ P := by
  unfold w_X10_lawFor
  refine ⟨70000, ?_⟩
  have ul1 := lit_0
  have ul2 := lit_m1000000
  exact s_X10_lawFor_10 pr a1 a2 (by omega) hP 70000 (0 : Int32) (-1000000 : Int32) (0 : Int32) σ I (by omega) (by omega) (by omega)
set_option maxHeartbeats 4000000 in
theorem s_X10_vote_86 {A : Nat → Nat → Prop} {F : Nat → Nat → Int32} {w : Nat} (x_4 : Int32) {σ : zSto} (I : zInv A F w σ) {P : Int32 → zSto → Prop} (hP : ∀ (r : Int32) (σ2 : zSto), zInv A F w σ2 → P r σ2) : ∀ (n : Nat) (x_5 : Int32) (x_6 : Int32), (0 ≤ ti (x_5) ∧ ti (x_5) ≤ 3) → (1 ≤ ti (x_6) ∧ ti (x_6) ≤ 4) → (4 - (ti (x_6)) < n) → w_X10_vote_86 x_4 P n x_5 x_6 σ := by
  intro n
  induction n with
  | zero =>
    intro x_5 x_6 h_x_5 h_x_6 hm
    exfalso
    omega
  | succ n ih =>
    intro x_5 x_6 h_x_5 h_x_6 hm
    unfold w_X10_vote_86
    refine ⟨?_, ?_⟩
    · intro uq1
      have ul2 := lit_4
      have uc3 := le_t uq1
      refine ⟨?_, ?_⟩
      · intro uq4
        have ul5 := lit_0
        have uc6 := eq_t uq4
        exact hP x_5 σ I
      · intro uq7
        have ul8 := lit_0
        refine ⟨vin (by omega), ?_⟩
        exact hP (σ.1 248 ((x_5).toNatClampNeg)) σ I
    · intro uq9
      have ul10 := lit_4
      have uc11 := nle_t uq9
      refine ⟨vin (by omega), ?_⟩
      refine ⟨vin (by omega), ?_⟩
      refine ⟨?_, ?_⟩
      · intro uq12
        have uc13 := le_t uq12
        intro x7 ex7
        have ul14 := lit_1
        have ut15 := tadd (x := x_6) (y := (1 : Int32)) (by omega)
        have ut16 := eq_t ex7
        exact ih x_5 x7 (by omega) (by omega) (by omega)
      · intro uq17
        have uc18 := nle_t uq17
        intro x8 ex8
        have ul19 := lit_1
        have ut20 := tadd (x := x_6) (y := (1 : Int32)) (by omega)
        have ut21 := eq_t ex8
        exact ih x_6 x8 (by omega) (by omega) (by omega)
set_option maxHeartbeats 4000000 in
theorem s_X10_vote_49 {A : Nat → Nat → Prop} {F : Nat → Nat → Int32} {w : Nat} (pr : okR A) (x_2 : Int32) (x_4 : Int32) {P : Int32 → zSto → Prop} (hP : ∀ (r : Int32) (σ2 : zSto), zInv A F w σ2 → P r σ2) : ∀ (n : Nat) (x_5 : Int32) (σ : zSto), zInv A F w σ → (0 ≤ ti (x_5) ∧ ti (x_5) ≤ 6) → (6 - (ti (x_5)) < n) → w_X10_vote_49 x_2 x_4 P n x_5 σ := by
  intro n
  induction n with
  | zero =>
    intro x_5 σ I h_x_5 hm
    exfalso
    omega
  | succ n ih =>
    intro x_5 σ I h_x_5 hm
    unfold w_X10_vote_49
    refine ⟨?_, ?_⟩
    · intro uq1
      have ud2 : 0 ≤ ti ((σ.1 223 26)) ∧ ti ((σ.1 223 26)) ≤ 6 := rdr I kd_223 rfl rfl
      have uc3 := le_t uq1
      refine ⟨70000, ?_⟩
      have ul4 := lit_0
      have ul5 := lit_1
      exact s_X10_vote_86 x_4 I hP 70000 (0 : Int32) (1 : Int32) (by omega) (by omega) (by omega)
    · intro uq6
      have ud7 : 0 ≤ ti ((σ.1 223 26)) ∧ ti ((σ.1 223 26)) ≤ 6 := rdr I kd_223 rfl rfl
      have uc8 := nle_t uq6
      refine s_X10_lawFor pr x_5 x_2 (by omega) I (fun r10 σ9 uI9 hr10 => ?_)
      refine ⟨vin (by omega), ?_⟩
      refine ⟨vin (by omega), ?_⟩
      intro σ13 eσ13
      have uI10 : zInv A F w σ13 := by rw [eσ13]; exact wI0 uI9 (pR pr (by decide)) rk_248 kd_248
      intro x14 ex14
      have ul11 := lit_1
      have ut12 := tadd (x := x_5) (y := (1 : Int32)) (by omega)
      have ut13 := eq_t ex14
      exact ih x14 σ13 uI10 (by omega) (by omega)
set_option maxHeartbeats 4000000 in
theorem s_X10_vote_26 {A : Nat → Nat → Prop} {F : Nat → Nat → Int32} {w : Nat} (pr : okR A) (x_2 : Int32) (x_4 : Int32) {P : Int32 → zSto → Prop} (hP : ∀ (r : Int32) (σ2 : zSto), zInv A F w σ2 → P r σ2) : ∀ (n : Nat) (x_5 : Int32) (σ : zSto), zInv A F w σ → (0 ≤ ti (x_5) ∧ ti (x_5) ≤ 4) → (4 - (ti (x_5)) < n) → w_X10_vote_26 x_2 x_4 P n x_5 σ := by
  intro n
  induction n with
  | zero =>
    intro x_5 σ I h_x_5 hm
    exfalso
    omega
  | succ n ih =>
    intro x_5 σ I h_x_5 hm
    unfold w_X10_vote_26
    refine ⟨?_, ?_⟩
    · intro uq1
      have ul2 := lit_4
      have uc3 := le_t uq1
      refine ⟨70000, ?_⟩
      have ul4 := lit_0
      exact s_X10_vote_49 pr x_2 x_4 hP 70000 (0 : Int32) σ I (by omega) (by omega)
    · intro uq5
      have ul6 := lit_4
      have uc7 := nle_t uq5
      refine ⟨vin (by omega), ?_⟩
      intro σ16 eσ16
      have uI8 : zInv A F w σ16 := by rw [eσ16]; exact wI0 I (pR pr (by decide)) rk_248 kd_248
      intro x17 ex17
      have ul9 := lit_1
      have ut10 := tadd (x := x_5) (y := (1 : Int32)) (by omega)
      have ut11 := eq_t ex17
      exact ih x17 σ16 uI8 (by omega) (by omega)
set_option maxHeartbeats 4000000 in
theorem s_X10_vote {A : Nat → Nat → Prop} {F : Nat → Nat → Int32} {w : Nat} (pr : okR A) (a1 : Int32) (a2 : Int32) (a3 : Int32) (a4 : Int32) {σ : zSto} (I : zInv A F w σ) {P : Int32 → zSto → Prop} (hP : ∀ (r : Int32) (σ2 : zSto), zInv A F w σ2 → P r σ2) : w_X10_vote a1 a2 a3 a4 σ P := by
  unfold w_X10_vote
  intro σ1 eσ1
  have uI1 : zInv A F w σ1 := by rw [eσ1]; exact wIr I (pRo pr (by decide)) (by decide) kd_223 rfl rfl (full32 _)
  refine s_X10_hand pr a1 a3 uI1 (fun r3 σ2 uI2 uz3 => ?_)
  intro ub4
  have uc5 := bool_t ub4
  refine ⟨?_, ?_⟩
  · intro uq6
    have ul7 := lit_0
    have uc8 := eq_t uq6
    exact hP (-1 : Int32) σ2 uI2
  · intro uq9
    have uc10 := uz3 uq9
    have ul11 := lit_0
    have uc12 := ne_t uq9
    refine ⟨?_, ?_⟩
    · intro uq13
      have ud14 : 0 ≤ ti ((σ2.1 223 26)) ∧ ti ((σ2.1 223 26)) ≤ 6 := rdr uI2 kd_223 rfl rfl
      have uc15 := ne_t uq13
      refine ⟨70000, ?_⟩
      exact s_X10_vote_26 pr a2 a4 hP 70000 (0 : Int32) σ2 uI2 (by omega) (by omega)
    · intro uq16
      have ud17 : 0 ≤ ti ((σ2.1 223 26)) ∧ ti ((σ2.1 223 26)) ≤ 6 := rdr uI2 kd_223 rfl rfl
      have uc18 := eq_t uq16
      exact hP (-1 : Int32) σ2 uI2
set_option maxHeartbeats 4000000 in
theorem s_X10_left_41 {A : Nat → Nat → Prop} {F : Nat → Nat → Int32} {w : Nat} (x_5 : Int32) {σ : zSto} (I : zInv A F w σ) {P : Int32 → zSto → Prop} (hP : ∀ (r : Int32) (σ2 : zSto), zInv A F w σ2 → P r σ2) : ∀ (n : Nat) (x_6 : Int32) (x_7 : Int32), (0 ≤ ti (x_7) ∧ ti (x_7) ≤ 16) → (16 - (ti (x_7)) < n) → w_X10_left_41 x_5 P n x_6 x_7 σ := by
  intro n
  induction n with
  | zero =>
    intro x_6 x_7 h_x_7 hm
    exfalso
    omega
  | succ n ih =>
    intro x_6 x_7 h_x_7 hm
    unfold w_X10_left_41
    refine ⟨?_, ?_⟩
    · intro uq1
      have ud2 : 0 ≤ ti ((σ.1 223 24)) ∧ ti ((σ.1 223 24)) ≤ 16 := rdr I kd_223 rfl rfl
      have uc3 := le_t uq1
      exact hP x_6 σ I
    · intro uq4
      have ud5 : 0 ≤ ti ((σ.1 223 24)) ∧ ti ((σ.1 223 24)) ≤ 16 := rdr I kd_223 rfl rfl
      have uc6 := nle_t uq4
      refine ⟨?_, ?_⟩
      · intro uq7
        have ul8 := lit_m1
        have uc9 := eq_t uq7
        refine ⟨vin (by omega), ?_⟩
        refine ⟨vin (by omega), ?_⟩
        intro x6 ex6
        intro x7 ex7
        have ul10 := lit_1
        have ut11 := tadd (x := x_7) (y := (1 : Int32)) (by omega)
        have ut12 := eq_t ex7
        exact ih x6 x7 (by omega) (by omega)
      · intro uq13
        have ul14 := lit_m1
        refine ⟨?_, ?_⟩
        · intro uq15
          intro x8 ex8
          intro x9 ex9
          have ul16 := lit_1
          have ut17 := tadd (x := x_7) (y := (1 : Int32)) (by omega)
          have ut18 := eq_t ex9
          exact ih x8 x9 (by omega) (by omega)
        · intro uq19
          have uc20 := eq_t uq19
          refine ⟨vin (by omega), ?_⟩
          refine ⟨vin (by omega), ?_⟩
          intro x12 ex12
          intro x13 ex13
          have ul21 := lit_1
          have ut22 := tadd (x := x_7) (y := (1 : Int32)) (by omega)
          have ut23 := eq_t ex13
          exact ih x12 x13 (by omega) (by omega)
set_option maxHeartbeats 4000000 in
theorem s_X10_left {A : Nat → Nat → Prop} {F : Nat → Nat → Int32} {w : Nat} (pr : okR A) (a1 : Int32) (a2 : Int32) (a3 : Int32) (a4 : Int32) (a5 : Int32) {σ : zSto} (I : zInv A F w σ) {P : Int32 → zSto → Prop} (hP : ∀ (r : Int32) (σ2 : zSto), zInv A F w σ2 → P r σ2) : w_X10_left a1 a2 a3 a4 a5 σ P := by
  unfold w_X10_left
  intro σ1 eσ1
  have uI1 : zInv A F w σ1 := by rw [eσ1]; exact wIr I (pRo pr (by decide)) (by decide) kd_223 rfl rfl (full32 _)
  refine s_X10_layRun pr a1 a2 a3 a4 uI1 (fun r3 σ2 uI2 => ?_)
  intro ub3
  have uc4 := bool_t ub3
  refine ⟨?_, ?_⟩
  · intro uq5
    have ul6 := lit_0
    have uc7 := eq_t uq5
    exact hP (-2 : Int32) σ2 uI2
  · intro uq8
    have ul9 := lit_0
    have uc10 := ne_t uq8
    refine ⟨?_, ?_⟩
    · intro uq11
      have ul12 := lit_m1
      have uc13 := eq_t uq11
      refine ⟨70000, ?_⟩
      exact s_X10_left_41 a5 uI2 hP 70000 (0 : Int32) (0 : Int32) (by omega) (by omega)
    · intro uq14
      have ul15 := lit_m1
      refine s_X10_isPost a5 uI2 (fun r15 uz16 => ?_)
      intro ub17
      have uc18 := bool_t ub17
      refine ⟨?_, ?_⟩
      · intro uq19
        have uc20 := uz16 uq19
        have uc21 := ne_t uq19
        refine ⟨70000, ?_⟩
        exact s_X10_left_41 a5 uI2 hP 70000 (0 : Int32) (0 : Int32) (by omega) (by omega)
      · intro uq22
        have uc23 := eq_t uq22
        exact hP (-2 : Int32) σ2 uI2
set_option maxHeartbeats 4000000 in
theorem s_X10_count {A : Nat → Nat → Prop} {F : Nat → Nat → Int32} {w : Nat} (pr : okR A) (a1 : Int32) {σ : zSto} (I : zInv A F w σ) {P : Int32 → zSto → Prop} (hP : ∀ (r : Int32) (σ2 : zSto), zInv A F w σ2 → P r σ2) : w_X10_count a1 σ P := by
  unfold w_X10_count
  intro σ1 eσ1
  have uI1 : zInv A F w σ1 := by rw [eσ1]; exact wIr I (pRo pr (by decide)) (by decide) kd_223 rfl rfl (full32 _)
  have ul2 := lit_0
  have ul3 := lit_2
  refine s_X10_in a1 (0 : Int32) (2 : Int32) uI1 (fun r3 uz4 => ?_)
  intro ub5
  have uc6 := bool_t ub5
  refine ⟨?_, ?_⟩
  · intro uq7
    have uc8 := eq_t uq7
    exact hP (-2 : Int32) σ1 uI1
  · intro uq9
    have uc10 := uz4 uq9
    have uc11 := ne_t uq9
    refine ⟨vin (by omega), ?_⟩
    exact hP (σ1.1 228 ((a1).toNatClampNeg)) σ1 uI1
