set_option maxHeartbeats 4000000 in
theorem s_X6_search {A : Nat → Nat → Prop} {F : Nat → Nat → Int32} {w : Nat} (pc : okC A) : ∀ (d : Nat) (a2 a3 a4 a5 : Int32) (σ : zSto), zInv A F w σ → ∀ (P : zSto → Prop), (0 ≤ ti a2 ∧ ti a2 ≤ 17) → (17 - ti a2 < d) → (∀ σ2, zInv A F w σ2 → P σ2) → w_X6_search d a2 a3 a4 a5 σ P := by
  intro d
  induction d with
  | zero =>
    intro a2 a3 a4 a5 σ I P h hm hP
    exfalso
    omega
  | succ d ih =>
    intro a2 a3 a4 a5 σ I P h hm hP
    unfold w_X6_search
    have d6 : 0 ≤ ti (σ.1 200 6) ∧ ti (σ.1 200 6) ≤ 16 := rdr I kd_200 rfl rfl
    have l16 := lit_16
    refine ⟨fun _ => hP σ I, fun q1 => ⟨fun _ => hP σ I, fun q2 => ⟨fun _ => hP σ I, fun q3 => ⟨fun q4 => ?_, fun _ => hP σ I⟩⟩⟩⟩
    have c1 := nlt_t q1
    have c2 := nlt_t q2
    refine ⟨vin (by omega), fun _ => hP σ I, fun q5 => ⟨vin (by omega), fun q6 => ⟨fun q7 => ?_, fun q7 => ?_⟩, fun _ => hP σ I⟩⟩
    · have c7 := ne_t q7
      have l1 := lit_1
      have t := tadd (x := a2) (y := (1 : Int32)) (by omega)
      refine ih (a2 + 1) a3 a4 a5 σ I _ (by omega) (by omega) (fun σ3 I3 => ?_)
      refine ⟨vin (by omega), vin (by omega), vin (by omega), ?_⟩
      exact ih (a2 + 1) _ _ _ σ3 I3 _ (by omega) (by omega) (fun σ7 I7 => hP σ7 I7)
    · exact s_X6_keep pc a5 I (fun σ8 I8 => hP σ8 I8)
set_option maxHeartbeats 4000000 in
theorem s_X6_find_47 {A : Nat → Nat → Prop} {F : Nat → Nat → Int32} {w : Nat} (pc : okC A) (x_1 : Int32) (x_2 : Int32) {P : zSto → Prop} (hP : ∀ (σ2 : zSto), zInv A F w σ2 → P σ2) : ∀ (n : Nat) (x_3 : Int32) (σ : zSto), zInv A F w σ → ((-1) ≤ ti (x_3) ∧ ti (x_3) ≤ 15) → ((ti (x_3)) - (-1) < n) → w_X6_find_47 x_1 x_2 P n x_3 σ := by
  intro n
  induction n with
  | zero =>
    intro x_3 σ I h_x_3 hm
    exfalso
    omega
  | succ n ih =>
    intro x_3 σ I h_x_3 hm
    unfold w_X6_find_47
    refine ⟨?_, ?_⟩
    · intro uq1
      have ul2 := lit_0
      have uc3 := lt_t uq1
      refine s_X6_search pc 18 (0 : Int32) x_1 x_2 (0 : Int32) σ I _ (by omega) (by omega) (fun σ10 uI4 => ?_)
      exact hP σ10 uI4
    · intro uq5
      have ul6 := lit_0
      have uc7 := nlt_t uq5
      have ul8 := lit_1
      have ut9 := tadd (x := x_3) (y := (1 : Int32)) (by omega)
      refine ⟨vin (by omega), ?_⟩
      refine ⟨vin (by omega), ?_⟩
      refine ⟨vin (by omega), ?_⟩
      intro σ14 eσ14
      have uI10 : zInv A F w σ14 := by rw [eσ14]; exact wI0 I (pC pc (by decide)) rk_204 kd_204
      refine ⟨vin (by omega), ?_⟩
      refine ⟨vin (by omega), ?_⟩
      refine ⟨vin (by omega), ?_⟩
      intro σ18 eσ18
      have uI11 : zInv A F w σ18 := by rw [eσ18]; exact wI0 uI10 (pC pc (by decide)) rk_205 kd_205
      intro x19 ex19
      have ul12 := lit_m1
      have ut13 := tadd (x := x_3) (y := (-1 : Int32)) (by omega)
      have ut14 := eq_t ex19
      exact ih x19 σ18 uI11 (by omega) (by omega)
set_option maxHeartbeats 4000000 in
theorem s_X6_find {A : Nat → Nat → Prop} {F : Nat → Nat → Int32} {w : Nat} (pc : okC A) (a1 : Int32) (a2 : Int32) {σ : zSto} (I : zInv A F w σ) {P : zSto → Prop} (hP : ∀ (σ2 : zSto), zInv A F w σ2 → P σ2) : w_X6_find a1 a2 σ P := by
  unfold w_X6_find
  intro σ1 eσ1
  have uI1 : zInv A F w σ1 := by rw [eσ1]; exact wIr I (pC pc (by decide)) (rl0 rk_200) kd_200 rfl rfl (full32 _)
  intro σ2 eσ2
  have uI2 : zInv A F w σ2 := by rw [eσ2]; exact wIr uI1 (pC pc (by decide)) (rl0 rk_200) kd_200 rfl rfl (full32 _)
  intro σ3 eσ3
  have uI3 : zInv A F w σ3 := by rw [eσ3]; exact wIr uI2 (pC pc (by decide)) (rl0 rk_200) kd_200 rfl rfl (full32 _)
  intro σ4 eσ4
  have uI4 : zInv A F w σ4 := by rw [eσ4]; exact wIr uI3 (pC pc (by decide)) (rl0 rk_200) kd_200 rfl rfl (full32 _)
  have ue5 : ti ((σ4.1 200 6)) = ti ((σ3.1 200 6)) := by rw [eσ4]; exact congrArg ti (zI_q (Or.inr (by decide)))
  have ue6 : ti ((σ3.1 200 6)) = ti ((σ2.1 200 6)) := by rw [eσ3]; exact congrArg ti (zI_q (Or.inr (by decide)))
  have ue7 : ti ((σ2.1 200 6)) = ti ((σ1.1 200 6)) := by rw [eσ2]; exact congrArg ti (zI_q (Or.inr (by decide)))
  have ue8 : ti ((σ1.1 200 6)) = ti ((σ.1 200 6)) := by rw [eσ1]; exact congrArg ti (zI_q (Or.inr (by decide)))
  have ud9 : 0 ≤ ti ((σ.1 200 6)) ∧ ti ((σ.1 200 6)) ≤ 16 := rdr I kd_200 rfl rfl
  have ud10 : 0 ≤ ti ((σ1.1 200 6)) ∧ ti ((σ1.1 200 6)) ≤ 16 := rdr uI1 kd_200 rfl rfl
  have ud11 : 0 ≤ ti ((σ2.1 200 6)) ∧ ti ((σ2.1 200 6)) ≤ 16 := rdr uI2 kd_200 rfl rfl
  have ud12 : 0 ≤ ti ((σ3.1 200 6)) ∧ ti ((σ3.1 200 6)) ≤ 16 := rdr uI3 kd_200 rfl rfl
  have ud13 : 0 ≤ ti ((σ4.1 200 6)) ∧ ti ((σ4.1 200 6)) ≤ 16 := rdr uI4 kd_200 rfl rfl
  refine ⟨vin (by omega), ?_⟩
  intro σ6 eσ6
  have uI14 : zInv A F w σ6 := by rw [eσ6]; exact wI0 uI4 (pC pc (by decide)) rk_204 kd_204
  have ue15 : ti ((σ6.1 200 6)) = ti ((σ4.1 200 6)) := by rw [eσ6]; exact congrArg ti (zI_q (Or.inl (by omega)))
  have ud16 : 0 ≤ ti ((σ6.1 200 6)) ∧ ti ((σ6.1 200 6)) ≤ 16 := rdr uI14 kd_200 rfl rfl
  refine ⟨vin (by omega), ?_⟩
  intro σ8 eσ8
  have uI17 : zInv A F w σ8 := by rw [eσ8]; exact wI0 uI14 (pC pc (by decide)) rk_205 kd_205
  intro x9 ex9
  refine ⟨70000, ?_⟩
  have ue18 : ti ((σ8.1 200 6)) = ti ((σ6.1 200 6)) := by rw [eσ8]; exact congrArg ti (zI_q (Or.inl (by omega)))
  have ud19 : 0 ≤ ti ((σ8.1 200 6)) ∧ ti ((σ8.1 200 6)) ≤ 16 := rdr uI17 kd_200 rfl rfl
  have ul20 := lit_1
  have ut21 := tsub (x := (σ8.1 200 6)) (y := (1 : Int32)) (by omega)
  have ut22 := eq_t ex9
  exact s_X6_find_47 pc a1 a2 hP 70000 x9 σ8 uI17 (by omega) (by omega)
set_option maxHeartbeats 4000000 in
theorem s_X6_fillDues_23 {A : Nat → Nat → Prop} {F : Nat → Nat → Int32} {w : Nat} (pc : okC A) (q_1 : Nat) (q_2 : Nat) (hT_q_1 : isT q_1) (hP_q_2 : isP q_2) {P : Int32 → zSto → Prop} (hP : ∀ (r : Int32) (σ2 : zSto), zInv A F w σ2 → P r σ2) : ∀ (n : Nat) (x_3 : Int32) (σ : zSto), zInv A F w σ → (0 ≤ ti (x_3) ∧ ti (x_3) ≤ 16) → (16 - (ti (x_3)) < n) → w_X6_fillDues_23 q_1 q_2 P n x_3 σ := by
  intro n
  induction n with
  | zero =>
    intro x_3 σ I h_x_3 hm
    exfalso
    omega
  | succ n ih =>
    intro x_3 σ I h_x_3 hm
    unfold w_X6_fillDues_23
    refine ⟨?_, ?_⟩
    · intro uq1
      have ud2 : 0 ≤ ti ((σ.1 q_2 2)) ∧ ti ((σ.1 q_2 2)) ≤ 16 := rdr I (isP_0 hP_q_2) rfl rfl
      have uc3 := le_t uq1
      exact hP (1 : Int32) σ I
    · intro uq4
      have ud5 : 0 ≤ ti ((σ.1 q_2 2)) ∧ ti ((σ.1 q_2 2)) ≤ 16 := rdr I (isP_0 hP_q_2) rfl rfl
      have uc6 := nle_t uq4
      refine ⟨vin (by omega), ?_⟩
      intro x2 ex2
      refine s_X0_hasPost q_1 x2 hT_q_1 I (fun r4 uz7 => ?_)
      intro ub8
      have uc9 := bool_t ub8
      refine ⟨?_, ?_⟩
      · intro uq10
        have uc11 := uz7 uq10
        have ul12 := lit_0
        have uc13 := ne_t uq10
        refine ⟨vin (by omega), ?_⟩
        refine ⟨?_, ?_⟩
        · intro uq14
          have ul15 := lit_m1
          have uc16 := eq_t uq14
          refine ⟨vin (by omega), ?_⟩
          refine ⟨vin (by omega), ?_⟩
          intro σ8 eσ8
          have uI17 : zInv A F w σ8 := by rw [eσ8]; exact wI0 I (pC pc (by decide)) rk_206 kd_206
          intro x9 ex9
          have ul18 := lit_1
          have ut19 := tadd (x := x_3) (y := (1 : Int32)) (by omega)
          have ut20 := eq_t ex9
          exact ih x9 σ8 uI17 (by omega) (by omega)
        · intro uq21
          have ul22 := lit_m1
          refine ⟨vin (by omega), ?_⟩
          refine ⟨vin (by omega), ?_⟩
          refine ⟨?_, ?_⟩
          · intro uq23
            have uc24 := eq_t uq23
            refine ⟨vin (by omega), ?_⟩
            refine ⟨vin (by omega), ?_⟩
            intro σ14 eσ14
            have uI25 : zInv A F w σ14 := by rw [eσ14]; exact wI0 I (pC pc (by decide)) rk_206 kd_206
            intro x15 ex15
            have ul26 := lit_1
            have ut27 := tadd (x := x_3) (y := (1 : Int32)) (by omega)
            have ut28 := eq_t ex15
            exact ih x15 σ14 uI25 (by omega) (by omega)
          · intro uq29
            exact hP (0 : Int32) σ I
      · intro uq30
        have ul31 := lit_0
        have uc32 := eq_t uq30
        exact hP (0 : Int32) σ I
set_option maxHeartbeats 4000000 in
theorem s_X6_fillDues_2 {A : Nat → Nat → Prop} {F : Nat → Nat → Int32} {w : Nat} (pc : okC A) (q_1 : Nat) (q_2 : Nat) (hT_q_1 : isT q_1) (hP_q_2 : isP q_2) {P : Int32 → zSto → Prop} (hP : ∀ (r : Int32) (σ2 : zSto), zInv A F w σ2 → P r σ2) : ∀ (n : Nat) (x_3 : Int32) (σ : zSto), zInv A F w σ → (0 ≤ ti (x_3) ∧ ti (x_3) ≤ 16) → (16 - (ti (x_3)) < n) → w_X6_fillDues_2 q_1 q_2 P n x_3 σ := by
  intro n
  induction n with
  | zero =>
    intro x_3 σ I h_x_3 hm
    exfalso
    omega
  | succ n ih =>
    intro x_3 σ I h_x_3 hm
    unfold w_X6_fillDues_2
    refine ⟨?_, ?_⟩
    · intro uq1
      have ul2 := lit_16
      have uc3 := le_t uq1
      refine ⟨70000, ?_⟩
      have ul4 := lit_0
      exact s_X6_fillDues_23 pc q_1 q_2 hT_q_1 hP_q_2 hP 70000 (0 : Int32) σ I (by omega) (by omega)
    · intro uq5
      have ul6 := lit_16
      have uc7 := nle_t uq5
      refine ⟨vin (by omega), ?_⟩
      intro σ17 eσ17
      have uI8 : zInv A F w σ17 := by rw [eσ17]; exact wI0 I (pC pc (by decide)) rk_206 kd_206
      intro x18 ex18
      have ul9 := lit_1
      have ut10 := tadd (x := x_3) (y := (1 : Int32)) (by omega)
      have ut11 := eq_t ex18
      exact ih x18 σ17 uI8 (by omega) (by omega)
set_option maxHeartbeats 4000000 in
theorem s_X6_fillDues {A : Nat → Nat → Prop} {F : Nat → Nat → Int32} {w : Nat} (pc : okC A) (b1 : Nat) (b2 : Nat) (hT_b1 : isT b1) (hP_b2 : isP b2) {σ : zSto} (I : zInv A F w σ) {P : Int32 → zSto → Prop} (hP : ∀ (r : Int32) (σ2 : zSto), zInv A F w σ2 → P r σ2) : w_X6_fillDues b1 b2 σ P := by
  unfold w_X6_fillDues
  refine ⟨70000, ?_⟩
  have ul1 := lit_0
  exact s_X6_fillDues_2 pc b1 b2 hT_b1 hP_b2 hP 70000 (0 : Int32) σ I (by omega) (by omega)
set_option maxHeartbeats 4000000 in
theorem s_X6_allBits_4 {A : Nat → Nat → Prop} {F : Nat → Nat → Int32} {w : Nat} {σ : zSto} (I : zInv A F w σ) {P : Int32 → zSto → Prop} (hP : ∀ (r : Int32), P r σ) : ∀ (n : Nat) (x_1 : Int32) (x_2 : Int32), (0 ≤ ti (x_2) ∧ ti (x_2) ≤ 16) → (16 - (ti (x_2)) < n) → w_X6_allBits_4 P n x_1 x_2 σ := by
  intro n
  induction n with
  | zero =>
    intro x_1 x_2 h_x_2 hm
    exfalso
    omega
  | succ n ih =>
    intro x_1 x_2 h_x_2 hm
    unfold w_X6_allBits_4
    refine ⟨?_, ?_⟩
    · intro uq1
      have ud2 : 0 ≤ ti ((σ.1 200 6)) ∧ ti ((σ.1 200 6)) ≤ 16 := rdr I kd_200 rfl rfl
      have uc3 := le_t uq1
      exact hP x_1
    · intro uq4
      have ud5 : 0 ≤ ti ((σ.1 200 6)) ∧ ti ((σ.1 200 6)) ≤ 16 := rdr I kd_200 rfl rfl
      have uc6 := nle_t uq4
      refine ⟨vin (by omega), ?_⟩
      intro x2 ex2
      intro x3 ex3
      have ul7 := lit_1
      have ut8 := tadd (x := x_2) (y := (1 : Int32)) (by omega)
      have ut9 := eq_t ex3
      exact ih x2 x3 (by omega) (by omega)
set_option maxHeartbeats 4000000 in
theorem s_X6_allBits {A : Nat → Nat → Prop} {F : Nat → Nat → Int32} {w : Nat} {σ : zSto} (I : zInv A F w σ) {P : Int32 → zSto → Prop} (hP : ∀ (r : Int32), P r σ) : w_X6_allBits σ P := by
  unfold w_X6_allBits
  refine ⟨70000, ?_⟩
  have ul1 := lit_0
  exact s_X6_allBits_4 I hP 70000 (0 : Int32) (0 : Int32) (by omega) (by omega)
set_option maxHeartbeats 4000000 in
theorem s_X6_findHolding_34 {A : Nat → Nat → Prop} {F : Nat → Nat → Int32} {w : Nat} (pc : okC A) (q_1 : Nat) (hT_q_1 : isT q_1) {P : zSto → Prop} (hP : ∀ (σ2 : zSto), zInv A F w σ2 → P σ2) : ∀ (n : Nat) (x_3 : Int32) (x_4 : Int32) (x_5 : Int32) (x_6 : Int32) (x_7 : Int32) (x_8 : Int32) (σ : zSto), zInv A F w σ → (0 ≤ ti (x_8) ∧ ti (x_8) ≤ 16) → (16 - (ti (x_8)) < n) → w_X6_findHolding_34 q_1 P n x_3 x_4 x_5 x_6 x_7 x_8 σ := by
  intro n
  induction n with
  | zero =>
    intro x_3 x_4 x_5 x_6 x_7 x_8 σ I h_x_8 hm
    exfalso
    omega
  | succ n ih =>
    intro x_3 x_4 x_5 x_6 x_7 x_8 σ I h_x_8 hm
    unfold w_X6_findHolding_34
    refine ⟨?_, ?_⟩
    · intro uq1
      have ud2 : 0 ≤ ti ((σ.1 q_1 11)) ∧ ti ((σ.1 q_1 11)) ≤ 16 := rdr I (isT_0 hT_q_1) rfl rfl
      have uc3 := le_t uq1
      intro σ4 eσ4
      have uI4 : zInv A F w σ4 := by rw [eσ4]; exact wIr I (pC pc (by decide)) (rl0 rk_200) kd_200 rfl rfl (full32 _)
      intro σ5 eσ5
      have uI5 : zInv A F w σ5 := by rw [eσ5]; exact wIr uI4 (pC pc (by decide)) (rl0 rk_200) kd_200 rfl rfl (full32 _)
      refine ⟨?_, ?_⟩
      · intro uq6
        have ul7 := lit_0
        refine s_X6_allBits uI5 (fun r7 => ?_)
        intro σ8 eσ8
        have uI8 : zInv A F w σ8 := by rw [eσ8]; exact wIr uI5 (pC pc (by decide)) (rl0 rk_200) kd_200 rfl rfl (full32 _)
        intro σ9 eσ9
        have uI9 : zInv A F w σ9 := by rw [eσ9]; exact wIr uI8 (pC pc (by decide)) (rl0 rk_200) kd_200 rfl rfl (full32 _)
        exact hP σ9 uI9
      · intro uq10
        have ul11 := lit_0
        have uc12 := eq_t uq10
        intro σ10 eσ10
        have uI13 : zInv A F w σ10 := by rw [eσ10]; exact wIr uI5 (pC pc (by decide)) (rl0 rk_200) kd_200 rfl rfl (full32 _)
        intro σ11 eσ11
        have uI14 : zInv A F w σ11 := by rw [eσ11]; exact wIr uI13 (pC pc (by decide)) (rl0 rk_200) kd_200 rfl rfl (full32 _)
        exact hP σ11 uI14
    · intro uq15
      have ud16 : 0 ≤ ti ((σ.1 q_1 11)) ∧ ti ((σ.1 q_1 11)) ≤ 16 := rdr I (isT_0 hT_q_1) rfl rfl
      have uc17 := nle_t uq15
      refine ⟨?_, ?_⟩
      · intro uq18
        have ul19 := lit_0
        have uc20 := le_t uq18
        intro σ12 eσ12
        have uI21 : zInv A F w σ12 := by rw [eσ12]; exact wIr I (pC pc (by decide)) (rl0 rk_200) kd_200 rfl rfl (full32 _)
        intro σ13 eσ13
        have uI22 : zInv A F w σ13 := by rw [eσ13]; exact wIr uI21 (pC pc (by decide)) (rl0 rk_200) kd_200 rfl rfl (full32 _)
        refine ⟨?_, ?_⟩
        · intro uq23
          have uc24 := ne_t uq23
          refine s_X6_allBits uI22 (fun r15 => ?_)
          intro σ16 eσ16
          have uI25 : zInv A F w σ16 := by rw [eσ16]; exact wIr uI22 (pC pc (by decide)) (rl0 rk_200) kd_200 rfl rfl (full32 _)
          intro σ17 eσ17
          have uI26 : zInv A F w σ17 := by rw [eσ17]; exact wIr uI25 (pC pc (by decide)) (rl0 rk_200) kd_200 rfl rfl (full32 _)
          exact hP σ17 uI26
        · intro uq27
          have uc28 := eq_t uq27
          intro σ18 eσ18
          have uI29 : zInv A F w σ18 := by rw [eσ18]; exact wIr uI22 (pC pc (by decide)) (rl0 rk_200) kd_200 rfl rfl (full32 _)
          intro σ19 eσ19
          have uI30 : zInv A F w σ19 := by rw [eσ19]; exact wIr uI29 (pC pc (by decide)) (rl0 rk_200) kd_200 rfl rfl (full32 _)
          exact hP σ19 uI30
      · intro uq31
        have ul32 := lit_0
        have uc33 := nle_t uq31
        refine ⟨vin (by omega), ?_⟩
        refine ⟨?_, ?_⟩
        · intro uq34
          have ul35 := lit_m1
          have uc36 := eq_t uq34
          refine ⟨?_, ?_⟩
          · intro uq37
            have ul38 := lit_1
            have ut39 := tsub (x := (σ.1 q_1 11)) (y := (1 : Int32)) (by omega)
            have uc40 := le_t uq37
            intro x21 ex21
            have ut41 := tadd (x := x_8) (y := (1 : Int32)) (by omega)
            have ut42 := eq_t ex21
            exact ih x_3 x_4 x_5 x_6 x_7 x21 σ I (by omega) (by omega)
          · intro uq43
            have ul44 := lit_1
            have ut45 := tsub (x := (σ.1 q_1 11)) (y := (1 : Int32)) (by omega)
            have uc46 := nle_t uq43
            refine s_X0_cost q_1 x_8 hT_q_1 (by omega) I (fun r23 hr23 => ?_)
            refine s_X6_add pc x_8 (0 : Int32) r23 (by omega) I (fun σ24 uI47 => ?_)
            intro x25 ex25
            have ut48 := tadd (x := x_8) (y := (1 : Int32)) (by omega)
            have ut49 := eq_t ex25
            exact ih x_3 x_4 x_5 x_6 x_7 x25 σ24 uI47 (by omega) (by omega)
        · intro uq50
          have ul51 := lit_m1
          refine ⟨vin (by omega), ?_⟩
          refine s_X0_minutesTo q_1 x_8 hT_q_1 (by omega) I (fun r28 => ?_)
          refine s_X6_find pc (0 : Int32) (((σ.1 206 ((x_8).toNatClampNeg)) - r28) - x_7) I (fun σ29 uI52 => ?_)
          intro x30 ex30
          intro x31 ex31
          intro x32 ex32
          intro x33 ex33
          refine ⟨vin (by omega), ?_⟩
          refine s_X0_minutesTo q_1 x_8 hT_q_1 (by omega) uI52 (fun r36 => ?_)
          intro x37 ex37
          refine s_X6_clear pc uI52 (fun σ38 uI53 => ?_)
          refine ⟨?_, ?_⟩
          · intro uq54
            have ud55 : 0 ≤ ti ((σ38.1 q_1 11)) ∧ ti ((σ38.1 q_1 11)) ≤ 16 := rdr uI53 (isT_0 hT_q_1) rfl rfl
            have ul56 := lit_1
            have ut57 := tsub (x := (σ38.1 q_1 11)) (y := (1 : Int32)) (by omega)
            have uc58 := le_t uq54
            intro x39 ex39
            have ut59 := tadd (x := x_8) (y := (1 : Int32)) (by omega)
            have ut60 := eq_t ex39
            exact ih x30 x31 x32 x33 x37 x39 σ38 uI53 (by omega) (by omega)
          · intro uq61
            have ud62 : 0 ≤ ti ((σ38.1 q_1 11)) ∧ ti ((σ38.1 q_1 11)) ≤ 16 := rdr uI53 (isT_0 hT_q_1) rfl rfl
            have ul63 := lit_1
            have ut64 := tsub (x := (σ38.1 q_1 11)) (y := (1 : Int32)) (by omega)
            have uc65 := nle_t uq61
            refine s_X0_cost q_1 x_8 hT_q_1 (by omega) uI53 (fun r41 hr41 => ?_)
            refine s_X6_add pc x_8 (0 : Int32) r41 (by omega) uI53 (fun σ42 uI66 => ?_)
            intro x43 ex43
            have ut67 := tadd (x := x_8) (y := (1 : Int32)) (by omega)
            have ut68 := eq_t ex43
            exact ih x30 x31 x32 x33 x37 x43 σ42 uI66 (by omega) (by omega)
set_option maxHeartbeats 4000000 in
theorem s_X6_findHolding {A : Nat → Nat → Prop} {F : Nat → Nat → Int32} {w : Nat} (pc : okC A) (b1 : Nat) (b2 : Nat) (hT_b1 : isT b1) (hP_b2 : isP b2) {σ : zSto} (I : zInv A F w σ) {P : zSto → Prop} (hP : ∀ (σ2 : zSto), zInv A F w σ2 → P σ2) : w_X6_findHolding b1 b2 σ P := by
  unfold w_X6_findHolding
  refine s_X6_fillDues pc b1 b2 hT_b1 hP_b2 I (fun r2 σ1 uI1 => ?_)
  intro ub2
  have uc3 := bool_t ub2
  refine ⟨?_, ?_⟩
  · intro uq4
    have ul5 := lit_0
    have uc6 := eq_t uq4
    refine s_X6_clear pc uI1 (fun σ3 uI7 => ?_)
    refine ⟨70000, ?_⟩
    exact s_X6_findHolding_34 pc b1 hT_b1 hP 70000 (0 : Int32) (0 : Int32) (0 : Int32) (0 : Int32) (0 : Int32) (0 : Int32) σ3 uI7 (by omega) (by omega)
  · intro uq8
    have ul9 := lit_0
    have uc10 := ne_t uq8
    refine s_X6_clear pc uI1 (fun σ44 uI11 => ?_)
    refine ⟨70000, ?_⟩
    have ul12 := lit_1
    exact s_X6_findHolding_34 pc b1 hT_b1 hP 70000 (1 : Int32) (0 : Int32) (0 : Int32) (0 : Int32) (0 : Int32) (0 : Int32) σ44 uI11 (by omega) (by omega)
set_option maxHeartbeats 4000000 in
theorem s_X7_addStop_44 {A : Nat → Nat → Prop} {F : Nat → Nat → Int32} {w : Nat} (pc : okC A) (x_1 : Int32) (x_2 : Int32) (x_3 : Int32) (h_x_1 : 0 ≤ ti (x_1) ∧ ti (x_1) ≤ 5000) (h_x_3 : 0 ≤ ti (x_3) ∧ ti (x_3) ≤ 1125) {P : zSto → Prop} (hP : ∀ (σ2 : zSto), zInv A F w σ2 → P σ2) : ∀ (n : Nat) (x_4 : Int32) (σ : zSto), zInv A F w σ → ((-1) ≤ ti (x_4) ∧ ti (x_4) ≤ 1125) → ((ti (x_4)) - (-1) < n) → w_X7_addStop_44 x_1 x_2 x_3 P n x_4 σ := by
  intro n
  induction n with
  | zero =>
    intro x_4 σ I h_x_4 hm
    exfalso
    omega
  | succ n ih =>
    intro x_4 σ I h_x_4 hm
    unfold w_X7_addStop_44
    refine ⟨?_, ?_⟩
    · intro uq1
      have ul2 := lit_0
      have uc3 := lt_t uq1
      intro σ3 eσ3
      have uI4 : zInv A F w σ3 := by rw [eσ3]; exact wIr (a := 0) (b := 1125) I (pC pc (by decide)) (rl0 rk_198) kd_198 rfl rfl (by omega)
      intro σ4 eσ4
      have uI5 : zInv A F w σ4 := by rw [eσ4]; exact wJ uI4
      exact hP σ4 uI5
    · intro uq6
      have ul7 := lit_0
      have uc8 := nlt_t uq6
      refine ⟨?_, ?_⟩
      · intro uq9
        have uc10 := lt_t uq9
        refine ⟨vin (by omega), ?_⟩
        refine ⟨vin (by omega), ?_⟩
        intro σ7 eσ7
        have uI11 : zInv A F w σ7 := by rw [eσ7]; exact wJ I
        intro x8 ex8
        have ul12 := lit_m1
        have ut13 := tadd (x := x_4) (y := (-1 : Int32)) (by omega)
        have ut14 := eq_t ex8
        exact ih x8 σ7 uI11 (by omega) (by omega)
      · intro uq15
        have uc16 := nlt_t uq15
        have ut17 := tsub (x := x_4) (y := x_1) (by omega)
        refine ⟨vin (by omega), ?_⟩
        intro x10 ex10
        refine ⟨vin (by omega), ?_⟩
        refine ⟨vin (by omega), ?_⟩
        intro σ13 eσ13
        have uI18 : zInv A F w σ13 := by rw [eσ13]; exact wJ I
        intro x14 ex14
        have ul19 := lit_m1
        have ut20 := tadd (x := x_4) (y := (-1 : Int32)) (by omega)
        have ut21 := eq_t ex14
        exact ih x14 σ13 uI18 (by omega) (by omega)
set_option maxHeartbeats 4000000 in
theorem s_X7_addStop_21 {A : Nat → Nat → Prop} {F : Nat → Nat → Int32} {w : Nat} (pc : okC A) (x_1 : Int32) (x_2 : Int32) (x_3 : Int32) (h_x_1 : 0 ≤ ti (x_1) ∧ ti (x_1) ≤ 5000) (h_x_3 : 0 ≤ ti (x_3) ∧ ti (x_3) ≤ 1125) {P : zSto → Prop} (hP : ∀ (σ2 : zSto), zInv A F w σ2 → P σ2) : ∀ (n : Nat) (x_4 : Int32) (σ : zSto), zInv A F w σ → (1 ≤ ti (x_4) ∧ ti (x_4) ≤ 1126) → (1126 - (ti (x_4)) < n) → w_X7_addStop_21 x_1 x_2 x_3 P n x_4 σ := by
  intro n
  induction n with
  | zero =>
    intro x_4 σ I h_x_4 hm
    exfalso
    omega
  | succ n ih =>
    intro x_4 σ I h_x_4 hm
    unfold w_X7_addStop_21
    refine ⟨?_, ?_⟩
    · intro uq1
      have uc2 := lt_t uq1
      refine ⟨70000, ?_⟩
      exact s_X7_addStop_44 pc x_1 x_2 x_3 (by omega) (by omega) hP 70000 x_3 σ I (by omega) (by omega)
    · intro uq3
      have uc4 := nlt_t uq3
      refine ⟨vin (by omega), ?_⟩
      intro σ16 eσ16
      have uI5 : zInv A F w σ16 := by rw [eσ16]; exact wJ I
      intro x17 ex17
      have ul6 := lit_1
      have ut7 := tadd (x := x_4) (y := (1 : Int32)) (by omega)
      have ut8 := eq_t ex17
      exact ih x17 σ16 uI5 (by omega) (by omega)
set_option maxHeartbeats 4000000 in
theorem s_X7_addStop {A : Nat → Nat → Prop} {F : Nat → Nat → Int32} {w : Nat} (pc : okC A) (a1 : Int32) (a2 : Int32) (h_a1 : 0 ≤ ti (a1) ∧ ti (a1) ≤ 5000) {σ : zSto} (I : zInv A F w σ) {P : zSto → Prop} (hP : ∀ (σ2 : zSto), zInv A F w σ2 → P σ2) : w_X7_addStop a1 a2 σ P := by
  unfold w_X7_addStop
  intro x1 ex1
  intro x2 ex2
  refine ⟨70000, ?_⟩
  have ut9 : 0 ≤ ti (x1) ∧ ti (x1) ≤ 1125 := by rw [ex1]; exact (tite (Q := fun z => 0 ≤ ti (z) ∧ ti (z) ≤ 1125) (fun q => by
      have ul1 := lit_1125
      have ud2 : 0 ≤ ti ((σ.1 198 1)) ∧ ti ((σ.1 198 1)) ≤ 1125 := rdr I kd_198 rfl rfl
      have ut3 := tadd (x := (σ.1 198 1)) (y := a1) (by omega)
      have uc4 := lt_t q
      exact (by omega)) (fun q => by
      have ul5 := lit_1125
      have ud6 : 0 ≤ ti ((σ.1 198 1)) ∧ ti ((σ.1 198 1)) ≤ 1125 := rdr I kd_198 rfl rfl
      have ut7 := tadd (x := (σ.1 198 1)) (y := a1) (by omega)
      have uc8 := nlt_t q
      exact (by omega)))
  have ud10 : 0 ≤ ti ((σ.1 198 1)) ∧ ti ((σ.1 198 1)) ≤ 1125 := rdr I kd_198 rfl rfl
  have ul11 := lit_1
  have ut12 := tadd (x := (σ.1 198 1)) (y := (1 : Int32)) (by omega)
  have ut13 := eq_t ex2
  exact s_X7_addStop_21 pc a1 a2 x1 (by omega) (by omega) hP 70000 x2 σ I (by omega) (by omega)
set_option maxHeartbeats 4000000 in
theorem s_X7_overPosts_19 {A : Nat → Nat → Prop} {F : Nat → Nat → Int32} {w : Nat} (pc : okC A) (q_1 : Nat) (x_2 : Int32) (hT_q_1 : isT q_1) {P : zSto → Prop} (hP : ∀ (σ2 : zSto), zInv A F w σ2 → P σ2) : ∀ (n : Nat) (x_3 : Int32) (σ : zSto), zInv A F w σ → (0 ≤ ti (x_3) ∧ ti (x_3) ≤ 15) → (15 - (ti (x_3)) < n) → w_X7_overPosts_19 q_1 x_2 P n x_3 σ := by
  intro n
  induction n with
  | zero =>
    intro x_3 σ I h_x_3 hm
    exfalso
    omega
  | succ n ih =>
    intro x_3 σ I h_x_3 hm
    unfold w_X7_overPosts_19
    refine ⟨?_, ?_⟩
    · intro uq1
      have uc2 := le_t uq1
      exact hP σ I
    · intro uq3
      have uc4 := nle_t uq3
      refine ⟨?_, ?_⟩
      · intro uq5
        have ul6 := lit_15
        have uc7 := le_t uq5
        exact hP σ I
      · intro uq8
        have ul9 := lit_15
        have uc10 := nle_t uq8
        refine s_X0_cost q_1 x_3 hT_q_1 (by omega) I (fun r5 hr5 => ?_)
        refine ⟨vin (by omega), ?_⟩
        refine s_X7_addStop pc r5 (σ.1 (q_1 + 4) ((x_3).toNatClampNeg)) (by omega) I (fun σ7 uI11 => ?_)
        intro x8 ex8
        have ul12 := lit_1
        have ut13 := tadd (x := x_3) (y := (1 : Int32)) (by omega)
        have ut14 := eq_t ex8
        exact ih x8 σ7 uI11 (by omega) (by omega)
set_option maxHeartbeats 4000000 in
theorem s_X7_overPosts {A : Nat → Nat → Prop} {F : Nat → Nat → Int32} {w : Nat} (pc : okC A) (b1 : Nat) (a2 : Int32) (hT_b1 : isT b1) {σ : zSto} (I : zInv A F w σ) {P : zSto → Prop} (hP : ∀ (σ2 : zSto), zInv A F w σ2 → P σ2) : w_X7_overPosts b1 a2 σ P := by
  unfold w_X7_overPosts
  intro σ1 eσ1
  have ul2 := lit_0
  have uI1 : zInv A F w σ1 := by rw [eσ1]; exact wIr (a := 0) (b := 1125) I (pC pc (by decide)) (rl0 rk_198) kd_198 rfl rfl (by omega)
  intro σ2 eσ2
  have uI3 : zInv A F w σ2 := by rw [eσ2]; exact wJ uI1
  intro σ3 eσ3
  have uI4 : zInv A F w σ3 := by rw [eσ3]; exact wJ uI3
  refine ⟨70000, ?_⟩
  exact s_X7_overPosts_19 pc b1 a2 hT_b1 hP 70000 (0 : Int32) σ3 uI4 (by omega) (by omega)
set_option maxHeartbeats 4000000 in
theorem s_X7_weightUpTo_5 {A : Nat → Nat → Prop} {F : Nat → Nat → Int32} {w : Nat} (x_1 : Int32) {σ : zSto} (I : zInv A F w σ) {P : Int64 → zSto → Prop} (hP : ∀ (r : Int64), P r σ) : ∀ (n : Nat) (x_2 : Int64) (x_4 : Int32), (0 ≤ ti (x_4) ∧ ti (x_4) ≤ 1126) → (1126 - (ti (x_4)) < n) → w_X7_weightUpTo_5 x_1 P n x_2 x_4 σ := by
  intro n
  induction n with
  | zero =>
    intro x_2 x_4 h_x_4 hm
    exfalso
    omega
  | succ n ih =>
    intro x_2 x_4 h_x_4 hm
    unfold w_X7_weightUpTo_5
    refine ⟨?_, ?_⟩
    · intro uq1
      have ud2 : 0 ≤ ti ((σ.1 198 1)) ∧ ti ((σ.1 198 1)) ≤ 1125 := rdr I kd_198 rfl rfl
      have uc3 := lt_t uq1
      exact hP x_2
    · intro uq4
      have ud5 : 0 ≤ ti ((σ.1 198 1)) ∧ ti ((σ.1 198 1)) ≤ 1125 := rdr I kd_198 rfl rfl
      have uc6 := nlt_t uq4
      refine ⟨?_, ?_⟩
      · intro uq7
        have uc8 := lt_t uq7
        exact hP x_2
      · intro uq9
        have uc10 := nlt_t uq9
        refine ⟨vin (by omega), ?_⟩
        intro x2 ex2
        intro x3 ex3
        have ul11 := lit_1
        have ut12 := tadd (x := x_4) (y := (1 : Int32)) (by omega)
        have ut13 := eq_t ex3
        exact ih x2 x3 (by omega) (by omega)
set_option maxHeartbeats 4000000 in
theorem s_X7_weightUpTo {A : Nat → Nat → Prop} {F : Nat → Nat → Int32} {w : Nat} (a1 : Int32) {σ : zSto} (I : zInv A F w σ) {P : Int64 → zSto → Prop} (hP : ∀ (r : Int64), P r σ) : w_X7_weightUpTo a1 σ P := by
  unfold w_X7_weightUpTo
  refine ⟨70000, ?_⟩
  have ul1 := lit_0
  exact s_X7_weightUpTo_5 a1 I hP 70000 (0 : Int64) (0 : Int32) (by omega) (by omega)
set_option maxHeartbeats 4000000 in
theorem s_X7_leastCosts_5 {A : Nat → Nat → Prop} {F : Nat → Nat → Int32} {w : Nat} (x_1 : Int32) {σ : zSto} (I : zInv A F w σ) {P : Int32 → zSto → Prop} (hP : ∀ (r : Int32), P r σ) : ∀ (n : Nat) (x_2 : Int64) (x_4 : Int32), (0 ≤ ti (x_4) ∧ ti (x_4) ≤ 1125) → (1125 - (ti (x_4)) < n) → w_X7_leastCosts_5 x_1 P n x_2 x_4 σ := by
  intro n
  induction n with
  | zero =>
    intro x_2 x_4 h_x_4 hm
    exfalso
    omega
  | succ n ih =>
    intro x_2 x_4 h_x_4 hm
    unfold w_X7_leastCosts_5
    refine ⟨?_, ?_⟩
    · intro uq1
      have ud2 : 0 ≤ ti ((σ.1 198 1)) ∧ ti ((σ.1 198 1)) ≤ 1125 := rdr I kd_198 rfl rfl
      have uc3 := le_t uq1
      exact hP (σ.1 198 1)
    · intro uq4
      have ud5 : 0 ≤ ti ((σ.1 198 1)) ∧ ti ((σ.1 198 1)) ≤ 1125 := rdr I kd_198 rfl rfl
      have uc6 := nle_t uq4
      refine ⟨vin (by omega), ?_⟩
      intro x2 ex2
      refine ⟨?_, ?_⟩
      · intro uq7
        intro x3 ex3
        have ul8 := lit_1
        have ut9 := tadd (x := x_4) (y := (1 : Int32)) (by omega)
        have ut10 := eq_t ex3
        exact ih x2 x3 (by omega) (by omega)
      · intro uq11
        exact hP x_4
set_option maxHeartbeats 4000000 in
theorem s_X7_leastCosts {A : Nat → Nat → Prop} {F : Nat → Nat → Int32} {w : Nat} (a1 : Int32) {σ : zSto} (I : zInv A F w σ) {P : Int32 → zSto → Prop} (hP : ∀ (r : Int32), P r σ) : w_X7_leastCosts a1 σ P := by
  unfold w_X7_leastCosts
  refine ⟨70000, ?_⟩
  have ul1 := lit_0
  exact s_X7_leastCosts_5 a1 I hP 70000 (0 : Int64) (0 : Int32) (by omega) (by omega)
set_option maxHeartbeats 4000000 in
theorem s_X8_append_3 {A : Nat → Nat → Prop} {F : Nat → Nat → Int32} {w : Nat} (pn : okN A) (x_1 : Int32) {P : zSto → Prop} (hP : ∀ (σ2 : zSto), zInv A F w σ2 → P σ2) : ∀ (n : Nat) (x_2 : Int32) (σ : zSto), zInv A F w σ → ((-8) ≤ ti (x_2) ∧ ti (x_2) ≤ 24) → ((ti (x_2)) - (-8) < n) → w_X8_append_3 1 x_1 P n x_2 σ := by
  intro n
  induction n with
  | zero =>
    intro x_2 σ I h_x_2 hm
    exfalso
    omega
  | succ n ih =>
    intro x_2 σ I h_x_2 hm
    unfold w_X8_append_3
    refine ⟨?_, ?_⟩
    · intro uq1
      have ul2 := lit_0
      have uc3 := lt_t uq1
      exact hP σ I
    · intro uq4
      have ul5 := lit_0
      have uc6 := nlt_t uq4
      refine ⟨?_, ?_⟩
      · intro uq7
        have ul8 := lit_600
        have ud9 : 0 ≤ ti ((σ.1 1 5)) ∧ ti ((σ.1 1 5)) ≤ 600 := rdr I kd_1 rfl rfl
        have uc10 := le_t uq7
        exact hP σ I
      · intro uq11
        have ul12 := lit_600
        have ud13 : 0 ≤ ti ((σ.1 1 5)) ∧ ti ((σ.1 1 5)) ≤ 600 := rdr I kd_1 rfl rfl
        have uc14 := nle_t uq11
        refine ⟨vin (by omega), ?_⟩
        intro σ2 eσ2
        have ut16 := nar_b ((((((x_1).toUInt32 >>> ((x_2).toUInt32 &&& (Int32.toUInt32 31)))).toInt32).toInt8).toInt32)
        have uI15 : zInv A F w σ2 := by rw [eσ2]; exact wIr (a := -128) (b := 127) I (pN pn (by decide)) (rl0 rk_2) kd_2 rfl rfl (by omega)
        intro σ3 eσ3
        have ue18 : ti ((σ2.1 1 5)) = ti ((σ.1 1 5)) := by rw [eσ2]; exact congrArg ti (zI_q (Or.inl (by omega)))
        have ud19 : 0 ≤ ti ((σ2.1 1 5)) ∧ ti ((σ2.1 1 5)) ≤ 600 := rdr uI15 kd_1 rfl rfl
        have ul20 := lit_1
        have ut21 := tadd (x := (σ2.1 1 5)) (y := (1 : Int32)) (by omega)
        have uI17 : zInv A F w σ3 := by rw [eσ3]; exact wIr (a := 0) (b := 600) uI15 (pN pn (by decide)) (rl0 rk_1) kd_1 rfl rfl (by omega)
        intro x4 ex4
        have ul22 := lit_m8
        have ut23 := tadd (x := x_2) (y := (-8 : Int32)) (by omega)
        have ut24 := eq_t ex4
        exact ih x4 σ3 uI17 (by omega) (by omega)
set_option maxHeartbeats 4000000 in
theorem s_X8_append {A : Nat → Nat → Prop} {F : Nat → Nat → Int32} {w : Nat} (pn : okN A) (a1 : Int32) {σ : zSto} (I : zInv A F w σ) {P : zSto → Prop} (hP : ∀ (σ2 : zSto), zInv A F w σ2 → P σ2) : w_X8_append 1 a1 σ P := by
  unfold w_X8_append
  refine ⟨70000, ?_⟩
  have ul1 := lit_24
  exact s_X8_append_3 pn a1 hP 70000 (24 : Int32) σ I (by omega) (by omega)
set_option maxHeartbeats 4000000 in
theorem s_X9_isSort {A : Nat → Nat → Prop} {F : Nat → Nat → Int32} {w : Nat} (a1 : Int32) {σ : zSto} (I : zInv A F w σ) {P : Int32 → zSto → Prop} (hP : ∀ (r : Int32), (¬ r = 0 → 0 ≤ (ti a1) ∧ (ti a1) ≤ 2) → (r = 0 → (ti a1 < 0 ∨ 2 < ti a1)) → P r σ) : w_X9_isSort a1 σ P := by
  unfold w_X9_isSort
  refine ⟨?_, ?_⟩
  · intro uq1
    have ul2 := lit_0
    have uc3 := lt_t uq1
    exact hP (0 : Int32) (fun q => absurd rfl q) (fun _ => by omega)
  · intro uq4
    have ul5 := lit_0
    have uc6 := nlt_t uq4
    refine ⟨?_, ?_⟩
    · intro uq7
      have ul8 := lit_2
      have uc9 := lt_t uq7
      exact hP (0 : Int32) (fun q => absurd rfl q) (fun _ => by omega)
    · intro uq10
      have ul11 := lit_2
      have uc12 := nlt_t uq10
      exact hP (1 : Int32) (fun _ => by omega) (fun q => absurd q (by decide))
set_option maxHeartbeats 4000000 in
theorem s_X8_howMany {A : Nat → Nat → Prop} {F : Nat → Nat → Int32} {w : Nat} (a1 : Int32) {σ : zSto} (I : zInv A F w σ) {P : Int32 → zSto → Prop} (hP : ∀ (r : Int32), 0 ≤ ti (r) ∧ ti (r) ≤ 2 → (0 ≤ ti a1 ∧ ti a1 ≤ 2 → ti r = ti (σ.1 (1 + 41) a1.toNatClampNeg)) → P r σ) : w_X8_howMany 1 a1 σ P := by
  unfold w_X8_howMany
  refine s_X9_isSort a1 I (fun r2 uz1 uz2 => ?_)
  intro ub3
  have uc4 := bool_t ub3
  refine ⟨?_, ?_⟩
  · intro uq5
    have uc6 := uz2 uq5
    have ul7 := lit_0
    have uc8 := eq_t uq5
    exact hP (0 : Int32) (by omega) (by omega)
  · intro uq9
    have uc10 := uz1 uq9
    have ul11 := lit_0
    have uc12 := ne_t uq9
    refine ⟨vin (by omega), ?_⟩
    have ud13 : 0 ≤ ti ((σ.1 (1 + 41) ((a1).toNatClampNeg))) ∧ ti ((σ.1 (1 + 41) ((a1).toNatClampNeg))) ≤ 2 := rdr I kd_42 rfl rfl
    exact hP (σ.1 (1 + 41) ((a1).toNatClampNeg)) (by omega) (by omega)
set_option maxHeartbeats 4000000 in
theorem s_X8_has {A : Nat → Nat → Prop} {F : Nat → Nat → Int32} {w : Nat} (a1 : Int32) (a2 : Int32) (h_a1 : 0 ≤ ti (a1) ∧ ti (a1) ≤ 2) {σ : zSto} (I : zInv A F w σ) {P : Int32 → zSto → Prop} (hP : ∀ (r : Int32), (¬ r = 0 → 0 ≤ (ti a2) ∧ (ti a2) ≤ 1 ∧ (ti a2) < (ti (σ.1 (1 + 41) a1.toNatClampNeg))) → P r σ) : w_X8_has 1 a1 a2 σ P := by
  unfold w_X8_has
  refine ⟨?_, ?_⟩
  · intro uq1
    have ul2 := lit_0
    have uc3 := lt_t uq1
    exact hP (0 : Int32) (fun q => absurd rfl q)
  · intro uq4
    have ul5 := lit_0
    have uc6 := nlt_t uq4
    refine ⟨vin (by omega), ?_⟩
    refine ⟨?_, ?_⟩
    · intro uq7
      have ud8 : 0 ≤ ti ((σ.1 (1 + 41) ((a1).toNatClampNeg))) ∧ ti ((σ.1 (1 + 41) ((a1).toNatClampNeg))) ≤ 2 := rdr I kd_42 rfl rfl
      have uc9 := le_t uq7
      exact hP (0 : Int32) (fun q => absurd rfl q)
    · intro uq10
      have ud11 : 0 ≤ ti ((σ.1 (1 + 41) ((a1).toNatClampNeg))) ∧ ti ((σ.1 (1 + 41) ((a1).toNatClampNeg))) ≤ 2 := rdr I kd_42 rfl rfl
      have uc12 := nle_t uq10
      refine ⟨?_, ?_⟩
      · intro uq13
        have ul14 := lit_2
        have uc15 := le_t uq13
        exact hP (0 : Int32) (fun q => absurd rfl q)
      · intro uq16
        have ul17 := lit_2
        have uc18 := nle_t uq16
        exact hP (1 : Int32) (fun _ => by omega)
theorem now_posts {A : Nat → Nat → Prop} {F : Nat → Nat → Int32} {w : Nat} {σ : zSto} (I : zInv A F w σ) {a : Int32} (h : ti a < ti (σ.1 (1 + 41) 0)) (h0 : ti a = 0 ∨ ti a = 1) : 1 ≤ ti (σ.1 (1 + 3 + 12 * (ti a).toNat) 11) := I.2.2.1 1 (Or.inl rfl) (ti a).toNat (by omega) (by omega)
set_option maxHeartbeats 4000000 in
theorem s_X8_lineAt {A : Nat → Nat → Prop} {F : Nat → Nat → Int32} {w : Nat} (a1 : Int32) {σ : zSto} (I : zInv A F w σ) {P : Option Nat → zSto → Prop} (hP : ∀ (r : Option Nat), (∀ t, r = some t → isN t ∧ 1 ≤ ti (σ.1 t 11)) → P r σ) : w_X8_lineAt 1 a1 σ P := by
  unfold w_X8_lineAt
  have l0 := lit_0
  refine s_X8_has (0 : Int32) a1 (by omega) I (fun r2 z => ?_)
  intro b
  refine ⟨fun q => hP none (fun _ h => nomatch h), fun q => ?_⟩
  obtain ⟨c1, c2, c3⟩ := z q
  have c4 : ti a1 < ti (σ.1 (1 + 41) 0) := c3
  refine ⟨vin (by omega), ?_⟩
  intro j4 e4
  have hp := now_posts I c4 (by omega)
  rcases (show ti a1 = 0 ∨ ti a1 = 1 by omega) with z1 | z1
  · have e5 : j4 = 4 := by rw [e4, zel_of z1]; rfl
    rw [z1] at hp
    subst e5
    exact ⟨zIsLine_4, hP (some 4) (fun t h => by cases h; exact ⟨Or.inl rfl, hp⟩)⟩
  · have e5 : j4 = 16 := by rw [e4, zel_of z1]; rfl
    rw [z1] at hp
    subst e5
    exact ⟨zIsLine_16, hP (some 16) (fun t h => by cases h; exact ⟨Or.inr rfl, hp⟩)⟩
