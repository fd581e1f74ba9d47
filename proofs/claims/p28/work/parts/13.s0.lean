set_option maxHeartbeats 4000000 in
theorem s_X0_clear_37 {A : Nat → Nat → Prop} {F : Nat → Nat → Int32} {w : Nat} (pc : okC A) {P : zSto → Prop} (hP : ∀ (σ2 : zSto), zInv A F w σ2 → (ti (σ2.1 172 12) = 0) → P σ2) : ∀ (n : Nat) (x_1 : Int32) (σ : zSto), zInv A F w σ → (0 ≤ ti (x_1) ∧ ti (x_1) ≤ 16) → (ti (σ.1 172 12) = 0) → (16 - (ti (x_1)) < n) → w_X0_clear_37 172 P n x_1 σ := by
  intro n
  induction n with
  | zero =>
    intro x_1 σ I h_x_1 pre0 hm
    have ud1 : 0 ≤ ti (σ.1 172 12) ∧ ti (σ.1 172 12) ≤ 6 := rdr I kd_172 rfl rfl
    exfalso
    omega
  | succ n ih =>
    intro x_1 σ I h_x_1 pre0 hm
    unfold w_X0_clear_37
    refine ⟨?_, ?_⟩
    · intro uq2
      have ul3 := lit_16
      have uc4 := le_t uq2
      have ud5 : 0 ≤ ti ((σ.1 172 12)) ∧ ti ((σ.1 172 12)) ≤ 6 := rdr I kd_172 rfl rfl
      exact hP σ I (by omega)
    · intro uq6
      have ul7 := lit_16
      have uc8 := nle_t uq6
      refine ⟨vin (by omega), ?_⟩
      intro σ9 eσ9
      have uI9 : zInv A F w σ9 := by rw [eσ9]; exact wI0 I (pC pc (by decide)) rk_176 kd_176
      refine ⟨vin (by omega), ?_⟩
      intro σ11 eσ11
      have uI10 : zInv A F w σ11 := by rw [eσ11]; exact wI0 uI9 (pC pc (by decide)) rk_177 kd_177
      intro x12 ex12
      have ul11 := lit_1
      have ut12 := tadd (x := x_1) (y := (1 : Int32)) (by omega)
      have ut13 := eq_t ex12
      have ue14 : ti ((σ11.1 172 12)) = ti ((σ9.1 172 12)) := by rw [eσ11]; exact congrArg ti (zI_q (Or.inl (by omega)))
      have ue15 : ti ((σ9.1 172 12)) = ti ((σ.1 172 12)) := by rw [eσ9]; exact congrArg ti (zI_q (Or.inl (by omega)))
      have ud16 : 0 ≤ ti ((σ.1 172 12)) ∧ ti ((σ.1 172 12)) ≤ 6 := rdr I kd_172 rfl rfl
      have ud17 : 0 ≤ ti ((σ9.1 172 12)) ∧ ti ((σ9.1 172 12)) ≤ 6 := rdr uI9 kd_172 rfl rfl
      have ud18 : 0 ≤ ti ((σ11.1 172 12)) ∧ ti ((σ11.1 172 12)) ≤ 6 := rdr uI10 kd_172 rfl rfl
      exact ih x12 σ11 uI10 (by omega) (by omega) (by omega)
set_option maxHeartbeats 4000000 in
theorem s_X0_clear {A : Nat → Nat → Prop} {F : Nat → Nat → Int32} {w : Nat} (pc : okC A) {σ : zSto} (I : zInv A F w σ) {P : zSto → Prop} (hP : ∀ (σ2 : zSto), zInv A F w σ2 → (ti (σ2.1 172 12) = 0) → P σ2) : w_X0_clear 172 σ P := by
  unfold w_X0_clear
  intro σ1 eσ1
  have ul2 := lit_0
  have uI1 : zInv A F w σ1 := by rw [eσ1]; exact wIr (a := 0) (b := 16) I (pC pc (by decide)) (by decide) kd_172 rfl rfl (by omega)
  intro σ2 eσ2
  have uI3 : zInv A F w σ2 := by rw [eσ2]; exact inv172_12 uI1 (pC pc (by decide)) rfl
  intro σ3 eσ3
  have ul5 := lit_2
  have uI4 : zInv A F w σ3 := by rw [eσ3]; exact wIr (a := 0) (b := 999) uI3 (pC pc (by decide)) (by decide) kd_172 rfl rfl (by omega)
  intro σ4 eσ4
  have uI6 : zInv A F w σ4 := by rw [eσ4]; exact wIr uI4 (pC pc (by decide)) (by decide) kd_172 rfl rfl (full32 _)
  intro σ5 eσ5
  have uI7 : zInv A F w σ5 := by rw [eσ5]; exact wIr uI6 (pC pc (by decide)) (by decide) kd_172 rfl rfl (full32 _)
  intro σ6 eσ6
  have uI8 : zInv A F w σ6 := by rw [eσ6]; exact wIr uI7 (pC pc (by decide)) (by decide) kd_172 rfl rfl (full32 _)
  intro σ7 eσ7
  have uI9 : zInv A F w σ7 := by rw [eσ7]; exact wIr uI8 (pC pc (by decide)) (by decide) kd_172 rfl rfl (full32 _)
  refine ⟨70000, ?_⟩
  have ue10 : ti ((σ7.1 172 12)) = ti ((σ6.1 172 12)) := by rw [eσ7]; exact congrArg ti (zI_q (Or.inr (by decide)))
  have ue11 : ti ((σ6.1 172 12)) = ti ((σ5.1 172 12)) := by rw [eσ6]; exact congrArg ti (zI_q (Or.inr (by decide)))
  have ue12 : ti ((σ5.1 172 12)) = ti ((σ4.1 172 12)) := by rw [eσ5]; exact congrArg ti (zI_q (Or.inr (by decide)))
  have ue13 : ti ((σ4.1 172 12)) = ti ((σ3.1 172 12)) := by rw [eσ4]; exact congrArg ti (zI_q (Or.inr (by decide)))
  have ue14 : ti ((σ3.1 172 12)) = ti ((σ2.1 172 12)) := by rw [eσ3]; exact congrArg ti (zI_q (Or.inr (by decide)))
  have ue15 : ti ((σ2.1 172 12)) = ti ((0 : Int32)) := by rw [eσ2]; exact congrArg ti zI_s
  have ud16 : 0 ≤ ti ((σ2.1 172 12)) ∧ ti ((σ2.1 172 12)) ≤ 6 := rdr uI3 kd_172 rfl rfl
  have ud17 : 0 ≤ ti ((σ3.1 172 12)) ∧ ti ((σ3.1 172 12)) ≤ 6 := rdr uI4 kd_172 rfl rfl
  have ud18 : 0 ≤ ti ((σ4.1 172 12)) ∧ ti ((σ4.1 172 12)) ≤ 6 := rdr uI6 kd_172 rfl rfl
  have ud19 : 0 ≤ ti ((σ5.1 172 12)) ∧ ti ((σ5.1 172 12)) ≤ 6 := rdr uI7 kd_172 rfl rfl
  have ud20 : 0 ≤ ti ((σ6.1 172 12)) ∧ ti ((σ6.1 172 12)) ≤ 6 := rdr uI8 kd_172 rfl rfl
  have ud21 : 0 ≤ ti ((σ7.1 172 12)) ∧ ti ((σ7.1 172 12)) ≤ 6 := rdr uI9 kd_172 rfl rfl
  exact s_X0_clear_37 pc hP 70000 (0 : Int32) σ7 uI9 (by omega) (by omega) (by omega)
set_option maxHeartbeats 4000000 in
theorem s_X0_hasPost {A : Nat → Nat → Prop} {F : Nat → Nat → Int32} {w : Nat} (t : Nat) (a1 : Int32) (hT_t : isT t) {σ : zSto} (I : zInv A F w σ) {P : Int32 → zSto → Prop} (hP : ∀ (r : Int32), (¬ r = 0 → 0 ≤ (ti a1) ∧ (ti a1) < (ti (σ.1 t 11)) ∧ (ti a1) ≤ 15) → P r σ) : w_X0_hasPost t a1 σ P := by
  unfold w_X0_hasPost
  refine ⟨?_, ?_⟩
  · intro uq1
    have ul2 := lit_0
    have uc3 := lt_t uq1
    exact hP (0 : Int32) (fun q => absurd rfl q)
  · intro uq4
    have ul5 := lit_0
    have uc6 := nlt_t uq4
    refine ⟨?_, ?_⟩
    · intro uq7
      have ud8 : 0 ≤ ti ((σ.1 t 11)) ∧ ti ((σ.1 t 11)) ≤ 16 := rdr I (isT_0 hT_t) rfl rfl
      have uc9 := le_t uq7
      exact hP (0 : Int32) (fun q => absurd rfl q)
    · intro uq10
      have ud11 : 0 ≤ ti ((σ.1 t 11)) ∧ ti ((σ.1 t 11)) ≤ 16 := rdr I (isT_0 hT_t) rfl rfl
      have uc12 := nle_t uq10
      exact hP (1 : Int32) (fun _ => by omega)
set_option maxHeartbeats 4000000 in
theorem s_X0_hasRider {A : Nat → Nat → Prop} {F : Nat → Nat → Int32} {w : Nat} (t : Nat) (a1 : Int32) (hT_t : isT t) {σ : zSto} (I : zInv A F w σ) {P : Int32 → zSto → Prop} (hP : ∀ (r : Int32), (¬ r = 0 → 0 ≤ (ti a1) ∧ (ti a1) < (ti (σ.1 t 12)) ∧ (ti a1) ≤ 5) → P r σ) : w_X0_hasRider t a1 σ P := by
  unfold w_X0_hasRider
  refine ⟨?_, ?_⟩
  · intro uq1
    have ul2 := lit_0
    have uc3 := lt_t uq1
    exact hP (0 : Int32) (fun q => absurd rfl q)
  · intro uq4
    have ul5 := lit_0
    have uc6 := nlt_t uq4
    refine ⟨?_, ?_⟩
    · intro uq7
      have ud8 : 0 ≤ ti ((σ.1 t 12)) ∧ ti ((σ.1 t 12)) ≤ 6 := rdr I (isT_0 hT_t) rfl rfl
      have uc9 := le_t uq7
      exact hP (0 : Int32) (fun q => absurd rfl q)
    · intro uq10
      have ud11 : 0 ≤ ti ((σ.1 t 12)) ∧ ti ((σ.1 t 12)) ≤ 6 := rdr I (isT_0 hT_t) rfl rfl
      have uc12 := nle_t uq10
      exact hP (1 : Int32) (fun _ => by omega)
set_option maxHeartbeats 4000000 in
theorem s_X0_isStation {A : Nat → Nat → Prop} {F : Nat → Nat → Int32} {w : Nat} (t : Nat) (a1 : Int32) (hT_t : isT t) {σ : zSto} (I : zInv A F w σ) {P : Int32 → zSto → Prop} (hP : ∀ (r : Int32), (¬ r = 0 → 0 ≤ (ti a1) ∧ (ti a1) < (ti (σ.1 t 11)) ∧ (ti a1) ≤ 15) → P r σ) : w_X0_isStation t a1 σ P := by
  unfold w_X0_isStation
  refine s_X0_hasPost t a1 hT_t I (fun r2 uz1 => ?_)
  intro ub2
  have uc3 := bool_t ub2
  refine ⟨?_, ?_⟩
  · intro uq4
    have ul5 := lit_0
    have uc6 := eq_t uq4
    exact hP (0 : Int32) (fun q => absurd rfl q)
  · intro uq7
    have uc8 := uz1 uq7
    have ul9 := lit_0
    have uc10 := ne_t uq7
    refine ⟨vin (by omega), ?_⟩
    refine ⟨?_, ?_⟩
    · intro uq11
      have ul12 := lit_m1
      have uc13 := eq_t uq11
      exact hP (0 : Int32) (fun q => absurd rfl q)
    · intro uq14
      have ul15 := lit_m1
      exact hP (1 : Int32) (fun _ => by omega)
set_option maxHeartbeats 4000000 in
theorem s_X0_carries {A : Nat → Nat → Prop} {F : Nat → Nat → Int32} {w : Nat} (t : Nat) (a1 : Int32) (a2 : Int32) (hT_t : isT t) (h_a1 : 0 ≤ ti (a1) ∧ ti (a1) ≤ 5) {σ : zSto} (I : zInv A F w σ) {P : Int32 → zSto → Prop} (hP : ∀ (r : Int32), P r σ) : w_X0_carries t a1 a2 σ P := by
  unfold w_X0_carries
  refine ⟨vin (by omega), ?_⟩
  refine ⟨?_, ?_⟩
  · intro uq1
    have uc2 := lt_t uq1
    exact hP (0 : Int32)
  · intro uq3
    have uc4 := nlt_t uq3
    refine ⟨vin (by omega), ?_⟩
    refine ⟨?_, ?_⟩
    · intro uq5
      have uc6 := le_t uq5
      exact hP (0 : Int32)
    · intro uq7
      have uc8 := nle_t uq7
      exact hP (1 : Int32)
set_option maxHeartbeats 4000000 in
theorem s_X0_riderSets {A : Nat → Nat → Prop} {F : Nat → Nat → Int32} {w : Nat} (t : Nat) (hT_t : isT t) {σ : zSto} (I : zInv A F w σ) {P : Int32 → zSto → Prop} (hP : ∀ (r : Int32), 1 ≤ ti (r) ∧ ti (r) ≤ 64 → P r σ) : w_X0_riderSets t σ P := by
  unfold w_X0_riderSets
  have ud1 : 0 ≤ ti ((σ.1 t 12)) ∧ ti ((σ.1 t 12)) ≤ 6 := rdr I (isT_0 hT_t) rfl rfl
  have ut2 := shl1_6 (x := (σ.1 t 12)) (by omega)
  exact hP ((1 : Int32) <<< ((σ.1 t 12) &&& 31)) (by omega)
set_option maxHeartbeats 4000000 in
theorem s_X0_stations_4 {A : Nat → Nat → Prop} {F : Nat → Nat → Int32} {w : Nat} (q_0 : Nat) (hT_q_0 : isT q_0) {σ : zSto} (I : zInv A F w σ) {P : Int32 → zSto → Prop} (hP : ∀ (r : Int32), P r σ) : ∀ (n : Nat) (x_1 : Int32) (x_2 : Int32), (0 ≤ ti (x_2) ∧ ti (x_2) ≤ 16) → (16 - (ti (x_2)) < n) → w_X0_stations_4 q_0 P n x_1 x_2 σ := by
  intro n
  induction n with
  | zero =>
    intro x_1 x_2 h_x_2 hm
    exfalso
    omega
  | succ n ih =>
    intro x_1 x_2 h_x_2 hm
    unfold w_X0_stations_4
    refine ⟨?_, ?_⟩
    · intro uq1
      have ud2 : 0 ≤ ti ((σ.1 q_0 11)) ∧ ti ((σ.1 q_0 11)) ≤ 16 := rdr I (isT_0 hT_q_0) rfl rfl
      have uc3 := le_t uq1
      exact hP x_1
    · intro uq4
      have ud5 : 0 ≤ ti ((σ.1 q_0 11)) ∧ ti ((σ.1 q_0 11)) ≤ 16 := rdr I (isT_0 hT_q_0) rfl rfl
      have uc6 := nle_t uq4
      refine ⟨vin (by omega), ?_⟩
      refine ⟨?_, ?_⟩
      · intro uq7
        have ul8 := lit_m1
        intro x2 ex2
        intro x3 ex3
        have ul9 := lit_1
        have ut10 := tadd (x := x_2) (y := (1 : Int32)) (by omega)
        have ut11 := eq_t ex3
        exact ih x2 x3 (by omega) (by omega)
      · intro uq12
        have ul13 := lit_m1
        have uc14 := eq_t uq12
        intro x4 ex4
        intro x5 ex5
        have ul15 := lit_1
        have ut16 := tadd (x := x_2) (y := (1 : Int32)) (by omega)
        have ut17 := eq_t ex5
        exact ih x4 x5 (by omega) (by omega)
set_option maxHeartbeats 4000000 in
theorem s_X0_stations {A : Nat → Nat → Prop} {F : Nat → Nat → Int32} {w : Nat} (t : Nat) (hT_t : isT t) {σ : zSto} (I : zInv A F w σ) {P : Int32 → zSto → Prop} (hP : ∀ (r : Int32), P r σ) : w_X0_stations t σ P := by
  unfold w_X0_stations
  refine ⟨70000, ?_⟩
  have ul1 := lit_0
  exact s_X0_stations_4 t hT_t I hP 70000 (0 : Int32) (0 : Int32) (by omega) (by omega)
set_option maxHeartbeats 4000000 in
theorem s_X0_stationBehind_4 {A : Nat → Nat → Prop} {F : Nat → Nat → Int32} {w : Nat} (q_0 : Nat) (hT_q_0 : isT q_0) {σ : zSto} (I : zInv A F w σ) {P : Int32 → zSto → Prop} (hP : ∀ (r : Int32), (-1) ≤ ti (r) ∧ ti (r) ≤ 15 → P r σ) : ∀ (n : Nat) (x_2 : Int32), (1 ≤ ti (x_2) ∧ ti (x_2) ≤ 16) → (16 - (ti (x_2)) < n) → w_X0_stationBehind_4 q_0 P n x_2 σ := by
  intro n
  induction n with
  | zero =>
    intro x_2 h_x_2 hm
    exfalso
    omega
  | succ n ih =>
    intro x_2 h_x_2 hm
    unfold w_X0_stationBehind_4
    refine ⟨?_, ?_⟩
    · intro uq1
      have ud2 : 0 ≤ ti ((σ.1 q_0 11)) ∧ ti ((σ.1 q_0 11)) ≤ 16 := rdr I (isT_0 hT_q_0) rfl rfl
      have uc3 := le_t uq1
      have ul4 := lit_m1
      exact hP (-1 : Int32) (by omega)
    · intro uq5
      have ud6 : 0 ≤ ti ((σ.1 q_0 11)) ∧ ti ((σ.1 q_0 11)) ≤ 16 := rdr I (isT_0 hT_q_0) rfl rfl
      have uc7 := nle_t uq5
      refine ⟨vin (by omega), ?_⟩
      refine ⟨?_, ?_⟩
      · intro uq8
        have ul9 := lit_m1
        have uc10 := eq_t uq8
        intro x3 ex3
        have ul11 := lit_1
        have ut12 := tadd (x := x_2) (y := (1 : Int32)) (by omega)
        have ut13 := eq_t ex3
        exact ih x3 (by omega) (by omega)
      · intro uq14
        have ul15 := lit_m1
        exact hP x_2 (by omega)
set_option maxHeartbeats 4000000 in
theorem s_X0_stationBehind {A : Nat → Nat → Prop} {F : Nat → Nat → Int32} {w : Nat} (t : Nat) (a1 : Int32) (hT_t : isT t) (h_a1 : 0 ≤ ti (a1) ∧ ti (a1) ≤ 15) {σ : zSto} (I : zInv A F w σ) {P : Int32 → zSto → Prop} (hP : ∀ (r : Int32), (-1) ≤ ti (r) ∧ ti (r) ≤ 15 → P r σ) : w_X0_stationBehind t a1 σ P := by
  unfold w_X0_stationBehind
  intro x1 ex1
  refine ⟨70000, ?_⟩
  have ul1 := lit_1
  have ut2 := tadd (x := a1) (y := (1 : Int32)) (by omega)
  have ut3 := eq_t ex1
  exact s_X0_stationBehind_4 t hT_t I hP 70000 x1 (by omega) (by omega)
set_option maxHeartbeats 4000000 in
theorem s_X0_cost {A : Nat → Nat → Prop} {F : Nat → Nat → Int32} {w : Nat} (t : Nat) (a1 : Int32) (hT_t : isT t) (h_a1 : 0 ≤ ti (a1) ∧ ti (a1) ≤ 15) {σ : zSto} (I : zInv A F w σ) {P : Int32 → zSto → Prop} (hP : ∀ (r : Int32), 0 ≤ ti (r) ∧ ti (r) ≤ 4995 → P r σ) : w_X0_cost t a1 σ P := by
  unfold w_X0_cost
  refine ⟨vin (by omega), ?_⟩
  intro x2 ex2
  refine ⟨vin (by omega), ?_⟩
  refine ⟨?_, ?_⟩
  · intro uq1
    have ud2 : 0 ≤ ti ((σ.1 (t + 2) ((a1).toNatClampNeg))) ∧ ti ((σ.1 (t + 2) ((a1).toNatClampNeg))) ≤ 999 := rdr I (isT_2 hT_t) rfl rfl
    have ul3 := lit_3
    have ud4 : 0 ≤ ti ((σ.1 t 13)) ∧ ti ((σ.1 t 13)) ≤ 999 := rdr I (isT_0 hT_t) rfl rfl
    have ul5 := lit_2
    have ut6 := tmull (x := (2 : Int32)) (y := (σ.1 (t + 2) ((a1).toNatClampNeg))) (2) lit_2 (by omega)
    have ut7 := tadd (x := (σ.1 t 13)) (y := ((2 : Int32) * (σ.1 (t + 2) ((a1).toNatClampNeg)))) (by omega)
    have ut8 := eq_t ex2
    exact hP x2 (by omega)
  · intro uq9
    have ud10 : 0 ≤ ti ((σ.1 (t + 2) ((a1).toNatClampNeg))) ∧ ti ((σ.1 (t + 2) ((a1).toNatClampNeg))) ≤ 999 := rdr I (isT_2 hT_t) rfl rfl
    have ul11 := lit_3
    have uc12 := eq_t uq9
    refine ⟨?_, ?_⟩
    · intro uq13
      have ul14 := lit_0
      have uc15 := le_t uq13
      have ud16 : 0 ≤ ti ((σ.1 t 13)) ∧ ti ((σ.1 t 13)) ≤ 999 := rdr I (isT_0 hT_t) rfl rfl
      have ul17 := lit_2
      have ut18 := tmull (x := (2 : Int32)) (y := (σ.1 (t + 2) ((a1).toNatClampNeg))) (2) lit_2 (by omega)
      have ut19 := tadd (x := (σ.1 t 13)) (y := ((2 : Int32) * (σ.1 (t + 2) ((a1).toNatClampNeg)))) (by omega)
      have ut20 := eq_t ex2
      exact hP x2 (by omega)
    · intro uq21
      have ul22 := lit_0
      have uc23 := nle_t uq21
      have ul24 := lit_1
      have ut25 := tsub (x := a1) (y := (1 : Int32)) (by omega)
      refine ⟨vin (by omega), ?_⟩
      intro x5 ex5
      have ud26 : 0 ≤ ti ((σ.1 t 13)) ∧ ti ((σ.1 t 13)) ≤ 999 := rdr I (isT_0 hT_t) rfl rfl
      have ul27 := lit_2
      have ut28 := tmull (x := (2 : Int32)) (y := (σ.1 (t + 2) ((a1).toNatClampNeg))) (2) lit_2 (by omega)
      have ut29 := tadd (x := (σ.1 t 13)) (y := ((2 : Int32) * (σ.1 (t + 2) ((a1).toNatClampNeg)))) (by omega)
      have ut30 := eq_t ex2
      have ud31 : 0 ≤ ti ((σ.1 (t + 1) (((a1 - (1 : Int32))).toNatClampNeg))) ∧ ti ((σ.1 (t + 1) (((a1 - (1 : Int32))).toNatClampNeg))) ≤ 999 := rdr I (isT_1 hT_t) rfl rfl
      have ut32 := tmull (x := (2 : Int32)) (y := (σ.1 (t + 1) (((a1 - (1 : Int32))).toNatClampNeg))) (2) lit_2 (by omega)
      have ut33 := tadd (x := x2) (y := ((2 : Int32) * (σ.1 (t + 1) (((a1 - (1 : Int32))).toNatClampNeg)))) (by omega)
      have ut34 := eq_t ex5
      exact hP x5 (by omega)
set_option maxHeartbeats 4000000 in
theorem s_X0_poundsIn {A : Nat → Nat → Prop} {F : Nat → Nat → Int32} {w : Nat} (t : Nat) (a1 : Int32) (a2 : Int32) (hT_t : isT t) (h_a1 : 0 ≤ ti (a1) ∧ ti (a1) ≤ 15) {σ : zSto} (I : zInv A F w σ) {P : Int32 → zSto → Prop} (hP : ∀ (r : Int32), P r σ) : w_X0_poundsIn t a1 a2 σ P := by
  unfold w_X0_poundsIn
  refine ⟨vin (by omega), ?_⟩
  exact hP (if (0 : Int32) < ((σ.1 (t + 3) ((a1).toNatClampNeg)) - ((σ.1 t 14) * a2)) then ((σ.1 (t + 3) ((a1).toNatClampNeg)) - ((σ.1 t 14) * a2)) else (0 : Int32))
set_option maxHeartbeats 4000000 in
theorem s_X0_minutesTo_4 {A : Nat → Nat → Prop} {F : Nat → Nat → Int32} {w : Nat} (q_0 : Nat) (x_1 : Int32) (hT_q_0 : isT q_0) (h_x_1 : (-2147483648) ≤ ti (x_1) ∧ ti (x_1) ≤ 16) {σ : zSto} (I : zInv A F w σ) {P : Int32 → zSto → Prop} (hP : ∀ (r : Int32), P r σ) : ∀ (n : Nat) (x_2 : Int32) (x_3 : Int32), (0 ≤ ti (x_3) ∧ ti (x_3) ≤ 16) → (16 - (ti (x_3)) < n) → w_X0_minutesTo_4 q_0 x_1 P n x_2 x_3 σ := by
  intro n
  induction n with
  | zero =>
    intro x_2 x_3 h_x_3 hm
    exfalso
    omega
  | succ n ih =>
    intro x_2 x_3 h_x_3 hm
    unfold w_X0_minutesTo_4
    refine ⟨?_, ?_⟩
    · intro uq1
      have uc2 := le_t uq1
      exact hP x_2
    · intro uq3
      have uc4 := nle_t uq3
      refine ⟨vin (by omega), ?_⟩
      intro x2 ex2
      intro x3 ex3
      have ul5 := lit_1
      have ut6 := tadd (x := x_3) (y := (1 : Int32)) (by omega)
      have ut7 := eq_t ex3
      exact ih x2 x3 (by omega) (by omega)
set_option maxHeartbeats 4000000 in
theorem s_X0_minutesTo {A : Nat → Nat → Prop} {F : Nat → Nat → Int32} {w : Nat} (t : Nat) (a1 : Int32) (hT_t : isT t) (h_a1 : (-2147483648) ≤ ti (a1) ∧ ti (a1) ≤ 16) {σ : zSto} (I : zInv A F w σ) {P : Int32 → zSto → Prop} (hP : ∀ (r : Int32), P r σ) : w_X0_minutesTo t a1 σ P := by
  unfold w_X0_minutesTo
  refine ⟨70000, ?_⟩
  have ul1 := lit_0
  exact s_X0_minutesTo_4 t a1 hT_t (by omega) I hP 70000 (0 : Int32) (0 : Int32) (by omega) (by omega)
set_option maxHeartbeats 4000000 in
theorem s_X0_costsBefore_5 {A : Nat → Nat → Prop} {F : Nat → Nat → Int32} {w : Nat} (q_0 : Nat) (x_1 : Int32) (x_2 : Int32) (hT_q_0 : isT q_0) (h_x_1 : (-2147483648) ≤ ti (x_1) ∧ ti (x_1) ≤ 16) {σ : zSto} (I : zInv A F w σ) {P : Int32 → zSto → Prop} (hP : ∀ (r : Int32), P r σ) : ∀ (n : Nat) (x_3 : Int32) (x_4 : Int32), (0 ≤ ti (x_4) ∧ ti (x_4) ≤ 16) → (16 - (ti (x_4)) < n) → w_X0_costsBefore_5 q_0 x_1 x_2 P n x_3 x_4 σ := by
  intro n
  induction n with
  | zero =>
    intro x_3 x_4 h_x_4 hm
    exfalso
    omega
  | succ n ih =>
    intro x_3 x_4 h_x_4 hm
    unfold w_X0_costsBefore_5
    refine ⟨?_, ?_⟩
    · intro uq1
      have uc2 := le_t uq1
      exact hP x_3
    · intro uq3
      have uc4 := nle_t uq3
      refine ⟨?_, ?_⟩
      · intro uq5
        have ut6 := and_rg (x_2 >>> (x_4 &&& 31)) (m := (1 : Int32)) 1 2 (by decide) (by decide) (by decide)
        have ul7 := lit_0
        have uc8 := eq_t uq5
        intro x1 ex1
        have ul9 := lit_1
        have ut10 := tadd (x := x_4) (y := (1 : Int32)) (by omega)
        have ut11 := eq_t ex1
        exact ih x_3 x1 (by omega) (by omega)
      · intro uq12
        have ut13 := and_rg (x_2 >>> (x_4 &&& 31)) (m := (1 : Int32)) 1 2 (by decide) (by decide) (by decide)
        have ul14 := lit_0
        have uc15 := ne_t uq12
        refine s_X0_cost q_0 x_4 hT_q_0 (by omega) I (fun r3 hr3 => ?_)
        intro x4 ex4
        intro x5 ex5
        have ul16 := lit_1
        have ut17 := tadd (x := x_4) (y := (1 : Int32)) (by omega)
        have ut18 := eq_t ex5
        exact ih x4 x5 (by omega) (by omega)
set_option maxHeartbeats 4000000 in
theorem s_X0_costsBefore {A : Nat → Nat → Prop} {F : Nat → Nat → Int32} {w : Nat} (t : Nat) (a1 : Int32) (a2 : Int32) (hT_t : isT t) (h_a1 : (-2147483648) ≤ ti (a1) ∧ ti (a1) ≤ 16) {σ : zSto} (I : zInv A F w σ) {P : Int32 → zSto → Prop} (hP : ∀ (r : Int32), P r σ) : w_X0_costsBefore t a1 a2 σ P := by
  unfold w_X0_costsBefore
  refine ⟨70000, ?_⟩
  have ul1 := lit_0
  exact s_X0_costsBefore_5 t a1 a2 hT_t (by omega) I hP 70000 (0 : Int32) (0 : Int32) (by omega) (by omega)
set_option maxHeartbeats 4000000 in
theorem s_X1_waitAt {A : Nat → Nat → Prop} {F : Nat → Nat → Int32} {w : Nat} (b1 : Nat) (a2 : Int32) (a3 : Int32) (a4 : Int32) (hT_b1 : isT b1) (h_a2 : 0 ≤ ti (a2) ∧ ti (a2) ≤ 15) {σ : zSto} (I : zInv A F w σ) {P : Int32 → zSto → Prop} (hP : ∀ (r : Int32), P r σ) : w_X1_waitAt b1 a2 a3 a4 σ P := by
  unfold w_X1_waitAt
  refine s_X0_isStation b1 a2 hT_b1 I (fun r2 uz1 => ?_)
  intro ub2
  have uc3 := bool_t ub2
  refine ⟨?_, ?_⟩
  · intro uq4
    have ul5 := lit_0
    have uc6 := eq_t uq4
    exact hP (0 : Int32)
  · intro uq7
    have uc8 := uz1 uq7
    have ul9 := lit_0
    have uc10 := ne_t uq7
    refine s_X0_stationBehind b1 a2 hT_b1 (by omega) I (fun r4 hr4 => ?_)
    refine ⟨?_, ?_⟩
    · intro uq11
      have ul12 := lit_m1
      have uc13 := ne_t uq11
      refine s_X0_minutesTo b1 r4 hT_b1 (by omega) I (fun r6 => ?_)
      refine s_X0_minutesTo b1 a2 hT_b1 (by omega) I (fun r8 => ?_)
      intro x9 ex9
      refine ⟨?_, ?_⟩
      · intro uq14
        have uc15 := le_t uq14
        exact hP (0 : Int32)
      · intro uq16
        have uc17 := nle_t uq16
        refine ⟨?_, ?_⟩
        · intro uq18
          exact hP (0 : Int32)
        · intro uq19
          exact hP (a4 - a3)
    · intro uq20
      have ul21 := lit_m1
      have uc22 := eq_t uq20
      exact hP (0 : Int32)
set_option maxHeartbeats 4000000 in
theorem s_X1_follow_32 {A : Nat → Nat → Prop} {F : Nat → Nat → Int32} {w : Nat} (pc : okC A) (q_1 : Nat) (x_2 : Int32) (hT_q_1 : isT q_1) {P : zSto → Prop} (hP : ∀ (σ2 : zSto), zInv A F w σ2 → P σ2) : ∀ (n : Nat) (x_3 : Int32) (x_4 : Int32) (x_5 : Int32) (σ : zSto), zInv A F w σ → (0 ≤ ti (x_5) ∧ ti (x_5) ≤ 16) → (16 - (ti (x_5)) < n) → w_X1_follow_32 q_1 x_2 P n x_3 x_4 x_5 σ := by
  intro n
  induction n with
  | zero =>
    intro x_3 x_4 x_5 σ I h_x_5 hm
    exfalso
    omega
  | succ n ih =>
    intro x_3 x_4 x_5 σ I h_x_5 hm
    unfold w_X1_follow_32
    refine ⟨?_, ?_⟩
    · intro uq1
      have ud2 : 0 ≤ ti ((σ.1 q_1 11)) ∧ ti ((σ.1 q_1 11)) ≤ 16 := rdr I (isT_0 hT_q_1) rfl rfl
      have uc3 := le_t uq1
      exact hP σ I
    · intro uq4
      have ud5 : 0 ≤ ti ((σ.1 q_1 11)) ∧ ti ((σ.1 q_1 11)) ≤ 16 := rdr I (isT_0 hT_q_1) rfl rfl
      have uc6 := nle_t uq4
      refine ⟨?_, ?_⟩
      · intro uq7
        have ut8 := and_rg (x_2 >>> (x_5 &&& 31)) (m := (1 : Int32)) 1 2 (by decide) (by decide) (by decide)
        have ul9 := lit_0
        have uc10 := eq_t uq7
        intro x6 ex6
        refine ⟨vin (by omega), ?_⟩
        intro σ8 eσ8
        have uI11 : zInv A F w σ8 := by rw [eσ8]; exact wI0 I (pC pc (by decide)) rk_196 kd_196
        refine s_X1_waitAt q_1 x_5 x6 x_4 hT_q_1 (by omega) uI11 (fun r10 => ?_)
        refine ⟨vin (by omega), ?_⟩
        intro σ12 eσ12
        have uI12 : zInv A F w σ12 := by rw [eσ12]; exact wI0 uI11 (pC pc (by decide)) rk_197 kd_197
        refine ⟨vin (by omega), ?_⟩
        intro σ14 eσ14
        have uI13 : zInv A F w σ14 := by rw [eσ14]; exact wI0 uI12 (pC pc (by decide)) rk_195 kd_195
        refine ⟨vin (by omega), ?_⟩
        intro x16 ex16
        refine ⟨vin (by omega), ?_⟩
        intro x18 ex18
        refine ⟨vin (by omega), ?_⟩
        intro x20 ex20
        refine ⟨?_, ?_⟩
        · intro uq14
          have ue15 : ti ((σ14.1 195 3)) = ti ((σ12.1 195 3)) := by rw [eσ14]; exact congrArg ti (zI_q (Or.inr (by decide)))
          have ue16 : ti ((σ12.1 195 3)) = ti ((σ8.1 195 3)) := by rw [eσ12]; exact congrArg ti (zI_q (Or.inl (by omega)))
          have ue17 : ti ((σ8.1 195 3)) = ti ((σ.1 195 3)) := by rw [eσ8]; exact congrArg ti (zI_q (Or.inl (by omega)))
          have ul18 := lit_m1
          intro x21 ex21
          have ul19 := lit_1
          have ut20 := tadd (x := x_5) (y := (1 : Int32)) (by omega)
          have ut21 := eq_t ex21
          exact ih x18 x20 x21 σ14 uI13 (by omega) (by omega)
        · intro uq22
          have ue23 : ti ((σ14.1 195 3)) = ti ((σ12.1 195 3)) := by rw [eσ14]; exact congrArg ti (zI_q (Or.inr (by decide)))
          have ue24 : ti ((σ12.1 195 3)) = ti ((σ8.1 195 3)) := by rw [eσ12]; exact congrArg ti (zI_q (Or.inl (by omega)))
          have ue25 : ti ((σ8.1 195 3)) = ti ((σ.1 195 3)) := by rw [eσ8]; exact congrArg ti (zI_q (Or.inl (by omega)))
          have ul26 := lit_m1
          have uc27 := eq_t uq22
          refine ⟨?_, ?_⟩
          · intro uq28
            have ue29 : ti ((σ14.1 q_1 11)) = ti ((σ12.1 q_1 11)) := by rw [eσ14]; exact congrArg ti (zI_q (Or.inl (by rcases hT_q_1 with h | h | h <;> omega)))
            have ue30 : ti ((σ12.1 q_1 11)) = ti ((σ8.1 q_1 11)) := by rw [eσ12]; exact congrArg ti (zI_q (Or.inl (by rcases hT_q_1 with h | h | h <;> omega)))
            have ue31 : ti ((σ8.1 q_1 11)) = ti ((σ.1 q_1 11)) := by rw [eσ8]; exact congrArg ti (zI_q (Or.inl (by rcases hT_q_1 with h | h | h <;> omega)))
            have ud32 : 0 ≤ ti ((σ8.1 q_1 11)) ∧ ti ((σ8.1 q_1 11)) ≤ 16 := rdr uI11 (isT_0 hT_q_1) rfl rfl
            have ud33 : 0 ≤ ti ((σ12.1 q_1 11)) ∧ ti ((σ12.1 q_1 11)) ≤ 16 := rdr uI12 (isT_0 hT_q_1) rfl rfl
            have ud34 : 0 ≤ ti ((σ14.1 q_1 11)) ∧ ti ((σ14.1 q_1 11)) ≤ 16 := rdr uI13 (isT_0 hT_q_1) rfl rfl
            have ul35 := lit_1
            have ut36 := tsub (x := (σ14.1 q_1 11)) (y := (1 : Int32)) (by omega)
            have uc37 := le_t uq28
            intro x22 ex22
            have ut38 := tadd (x := x_5) (y := (1 : Int32)) (by omega)
            have ut39 := eq_t ex22
            exact ih x18 x20 x22 σ14 uI13 (by omega) (by omega)
          · intro uq40
            have ue41 : ti ((σ14.1 q_1 11)) = ti ((σ12.1 q_1 11)) := by rw [eσ14]; exact congrArg ti (zI_q (Or.inl (by rcases hT_q_1 with h | h | h <;> omega)))
            have ue42 : ti ((σ12.1 q_1 11)) = ti ((σ8.1 q_1 11)) := by rw [eσ12]; exact congrArg ti (zI_q (Or.inl (by rcases hT_q_1 with h | h | h <;> omega)))
            have ue43 : ti ((σ8.1 q_1 11)) = ti ((σ.1 q_1 11)) := by rw [eσ8]; exact congrArg ti (zI_q (Or.inl (by rcases hT_q_1 with h | h | h <;> omega)))
            have ud44 : 0 ≤ ti ((σ8.1 q_1 11)) ∧ ti ((σ8.1 q_1 11)) ≤ 16 := rdr uI11 (isT_0 hT_q_1) rfl rfl
            have ud45 : 0 ≤ ti ((σ12.1 q_1 11)) ∧ ti ((σ12.1 q_1 11)) ≤ 16 := rdr uI12 (isT_0 hT_q_1) rfl rfl
            have ud46 : 0 ≤ ti ((σ14.1 q_1 11)) ∧ ti ((σ14.1 q_1 11)) ≤ 16 := rdr uI13 (isT_0 hT_q_1) rfl rfl
            have ul47 := lit_1
            have ut48 := tsub (x := (σ14.1 q_1 11)) (y := (1 : Int32)) (by omega)
            have uc49 := nle_t uq40
            refine ⟨?_, ?_⟩
            · intro uq50
              have uc51 := le_t uq50
              intro x23 ex23
              have ut52 := tadd (x := x_5) (y := (1 : Int32)) (by omega)
              have ut53 := eq_t ex23
              exact ih x18 x20 x23 σ14 uI13 (by omega) (by omega)
            · intro uq54
              have uc55 := nle_t uq54
              refine ⟨?_, ?_⟩
              · intro uq56
                have uc57 := le_t uq56
                intro x24 ex24
                have ut58 := tadd (x := x_5) (y := (1 : Int32)) (by omega)
                have ut59 := eq_t ex24
                exact ih x18 x20 x24 σ14 uI13 (by omega) (by omega)
              · intro uq60
                have uc61 := nle_t uq60
                intro σ25 eσ25
                have uI62 : zInv A F w σ25 := by rw [eσ25]; exact wI0 uI13 (pC pc (by decide)) rk_195 kd_195
                intro x26 ex26
                have ut63 := tadd (x := x_5) (y := (1 : Int32)) (by omega)
                have ut64 := eq_t ex26
                exact ih x18 x20 x26 σ25 uI62 (by omega) (by omega)
      · intro uq65
        have ut66 := and_rg (x_2 >>> (x_5 &&& 31)) (m := (1 : Int32)) 1 2 (by decide) (by decide) (by decide)
        have ul67 := lit_0
        have uc68 := ne_t uq65
        refine s_X0_cost q_1 x_5 hT_q_1 (by omega) I (fun r28 hr28 => ?_)
        intro x29 ex29
        refine ⟨vin (by omega), ?_⟩
        intro σ31 eσ31
        have uI69 : zInv A F w σ31 := by rw [eσ31]; exact wI0 I (pC pc (by decide)) rk_196 kd_196
        refine s_X1_waitAt q_1 x_5 x29 x_4 hT_q_1 (by omega) uI69 (fun r33 => ?_)
        refine ⟨vin (by omega), ?_⟩
        intro σ35 eσ35
        have uI70 : zInv A F w σ35 := by rw [eσ35]; exact wI0 uI69 (pC pc (by decide)) rk_197 kd_197
        refine ⟨vin (by omega), ?_⟩
        intro σ37 eσ37
        have uI71 : zInv A F w σ37 := by rw [eσ37]; exact wI0 uI70 (pC pc (by decide)) rk_195 kd_195
        refine ⟨vin (by omega), ?_⟩
        intro x39 ex39
        refine ⟨vin (by omega), ?_⟩
        intro x41 ex41
        refine ⟨vin (by omega), ?_⟩
        intro x43 ex43
        refine ⟨?_, ?_⟩
        · intro uq72
          have ue73 : ti ((σ37.1 195 3)) = ti ((σ35.1 195 3)) := by rw [eσ37]; exact congrArg ti (zI_q (Or.inr (by decide)))
          have ue74 : ti ((σ35.1 195 3)) = ti ((σ31.1 195 3)) := by rw [eσ35]; exact congrArg ti (zI_q (Or.inl (by omega)))
          have ue75 : ti ((σ31.1 195 3)) = ti ((σ.1 195 3)) := by rw [eσ31]; exact congrArg ti (zI_q (Or.inl (by omega)))
          have ul76 := lit_m1
          intro x44 ex44
          have ul77 := lit_1
          have ut78 := tadd (x := x_5) (y := (1 : Int32)) (by omega)
          have ut79 := eq_t ex44
          exact ih x41 x43 x44 σ37 uI71 (by omega) (by omega)
        · intro uq80
          have ue81 : ti ((σ37.1 195 3)) = ti ((σ35.1 195 3)) := by rw [eσ37]; exact congrArg ti (zI_q (Or.inr (by decide)))
          have ue82 : ti ((σ35.1 195 3)) = ti ((σ31.1 195 3)) := by rw [eσ35]; exact congrArg ti (zI_q (Or.inl (by omega)))
          have ue83 : ti ((σ31.1 195 3)) = ti ((σ.1 195 3)) := by rw [eσ31]; exact congrArg ti (zI_q (Or.inl (by omega)))
          have ul84 := lit_m1
          have uc85 := eq_t uq80
          refine ⟨?_, ?_⟩
          · intro uq86
            have ue87 : ti ((σ37.1 q_1 11)) = ti ((σ35.1 q_1 11)) := by rw [eσ37]; exact congrArg ti (zI_q (Or.inl (by rcases hT_q_1 with h | h | h <;> omega)))
            have ue88 : ti ((σ35.1 q_1 11)) = ti ((σ31.1 q_1 11)) := by rw [eσ35]; exact congrArg ti (zI_q (Or.inl (by rcases hT_q_1 with h | h | h <;> omega)))
            have ue89 : ti ((σ31.1 q_1 11)) = ti ((σ.1 q_1 11)) := by rw [eσ31]; exact congrArg ti (zI_q (Or.inl (by rcases hT_q_1 with h | h | h <;> omega)))
            have ud90 : 0 ≤ ti ((σ31.1 q_1 11)) ∧ ti ((σ31.1 q_1 11)) ≤ 16 := rdr uI69 (isT_0 hT_q_1) rfl rfl
            have ud91 : 0 ≤ ti ((σ35.1 q_1 11)) ∧ ti ((σ35.1 q_1 11)) ≤ 16 := rdr uI70 (isT_0 hT_q_1) rfl rfl
            have ud92 : 0 ≤ ti ((σ37.1 q_1 11)) ∧ ti ((σ37.1 q_1 11)) ≤ 16 := rdr uI71 (isT_0 hT_q_1) rfl rfl
            have ul93 := lit_1
            have ut94 := tsub (x := (σ37.1 q_1 11)) (y := (1 : Int32)) (by omega)
            have uc95 := le_t uq86
            intro x45 ex45
            have ut96 := tadd (x := x_5) (y := (1 : Int32)) (by omega)
            have ut97 := eq_t ex45
            exact ih x41 x43 x45 σ37 uI71 (by omega) (by omega)
          · intro uq98
            have ue99 : ti ((σ37.1 q_1 11)) = ti ((σ35.1 q_1 11)) := by rw [eσ37]; exact congrArg ti (zI_q (Or.inl (by rcases hT_q_1 with h | h | h <;> omega)))
            have ue100 : ti ((σ35.1 q_1 11)) = ti ((σ31.1 q_1 11)) := by rw [eσ35]; exact congrArg ti (zI_q (Or.inl (by rcases hT_q_1 with h | h | h <;> omega)))
            have ue101 : ti ((σ31.1 q_1 11)) = ti ((σ.1 q_1 11)) := by rw [eσ31]; exact congrArg ti (zI_q (Or.inl (by rcases hT_q_1 with h | h | h <;> omega)))
            have ud102 : 0 ≤ ti ((σ31.1 q_1 11)) ∧ ti ((σ31.1 q_1 11)) ≤ 16 := rdr uI69 (isT_0 hT_q_1) rfl rfl
            have ud103 : 0 ≤ ti ((σ35.1 q_1 11)) ∧ ti ((σ35.1 q_1 11)) ≤ 16 := rdr uI70 (isT_0 hT_q_1) rfl rfl
            have ud104 : 0 ≤ ti ((σ37.1 q_1 11)) ∧ ti ((σ37.1 q_1 11)) ≤ 16 := rdr uI71 (isT_0 hT_q_1) rfl rfl
            have ul105 := lit_1
            have ut106 := tsub (x := (σ37.1 q_1 11)) (y := (1 : Int32)) (by omega)
            have uc107 := nle_t uq98
            refine ⟨?_, ?_⟩
            · intro uq108
              have uc109 := le_t uq108
              intro x46 ex46
              have ut110 := tadd (x := x_5) (y := (1 : Int32)) (by omega)
              have ut111 := eq_t ex46
              exact ih x41 x43 x46 σ37 uI71 (by omega) (by omega)
            · intro uq112
              have uc113 := nle_t uq112
              refine ⟨?_, ?_⟩
              · intro uq114
                have uc115 := le_t uq114
                intro x47 ex47
                have ut116 := tadd (x := x_5) (y := (1 : Int32)) (by omega)
                have ut117 := eq_t ex47
                exact ih x41 x43 x47 σ37 uI71 (by omega) (by omega)
              · intro uq118
                have uc119 := nle_t uq118
                intro σ48 eσ48
                have uI120 : zInv A F w σ48 := by rw [eσ48]; exact wI0 uI71 (pC pc (by decide)) rk_195 kd_195
                intro x49 ex49
                have ut121 := tadd (x := x_5) (y := (1 : Int32)) (by omega)
                have ut122 := eq_t ex49
                exact ih x41 x43 x49 σ48 uI120 (by omega) (by omega)
set_option maxHeartbeats 4000000 in
theorem s_X1_follow {A : Nat → Nat → Prop} {F : Nat → Nat → Int32} {w : Nat} (pc : okC A) (b1 : Nat) (a2 : Int32) (hT_b1 : isT b1) {σ : zSto} (I : zInv A F w σ) {P : zSto → Prop} (hP : ∀ (σ2 : zSto), zInv A F w σ2 → P σ2) : w_X1_follow b1 a2 σ P := by
  unfold w_X1_follow
  have ud1 : 0 ≤ ti ((σ.1 b1 11)) ∧ ti ((σ.1 b1 11)) ≤ 16 := rdr I (isT_0 hT_b1) rfl rfl
  have ul2 := lit_1
  have ut3 := tsub (x := (σ.1 b1 11)) (y := (1 : Int32)) (by omega)
  refine s_X0_minutesTo b1 ((σ.1 b1 11) - (1 : Int32)) hT_b1 (by omega) I (fun r2 => ?_)
  intro x3 ex3
  intro σ4 eσ4
  have uI4 : zInv A F w σ4 := by rw [eσ4]; exact wI0 I (pC pc (by decide)) rk_195 kd_195
  intro σ5 eσ5
  have uI5 : zInv A F w σ5 := by rw [eσ5]; exact wI0 uI4 (pC pc (by decide)) rk_195 kd_195
  refine ⟨70000, ?_⟩
  have ul6 := lit_0
  exact s_X1_follow_32 pc b1 a2 hT_b1 hP 70000 (0 : Int32) x3 (0 : Int32) σ5 uI5 (by omega) (by omega)
set_option maxHeartbeats 4000000 in
theorem s_X2_add {A : Nat → Nat → Prop} {F : Nat → Nat → Int32} {w : Nat} (pc : okC A) (a1 : Int32) (a2 : Int32) {σ : zSto} (I : zInv A F w σ) {P : zSto → Prop} (hP : ∀ (σ2 : zSto), zInv A F w σ2 → P σ2) : w_X2_add 184 a1 a2 σ P := by
  unfold w_X2_add
  refine ⟨?_, ?_⟩
  · intro uq1
    have ul2 := lit_16
    have ud3 : 0 ≤ ti ((σ.1 184 2)) ∧ ti ((σ.1 184 2)) ≤ 16 := rdr I kd_184 rfl rfl
    have uc4 := le_t uq1
    exact hP σ I
  · intro uq5
    have ul6 := lit_16
    have ud7 : 0 ≤ ti ((σ.1 184 2)) ∧ ti ((σ.1 184 2)) ≤ 16 := rdr I kd_184 rfl rfl
    have uc8 := nle_t uq5
    refine ⟨vin (by omega), ?_⟩
    intro σ2 eσ2
    have uI9 : zInv A F w σ2 := by rw [eσ2]; exact wI0 I (pC pc (by decide)) rk_185 kd_185
    have ue10 : ti ((σ2.1 184 2)) = ti ((σ.1 184 2)) := by rw [eσ2]; exact congrArg ti (zI_q (Or.inl (by omega)))
    have ud11 : 0 ≤ ti ((σ2.1 184 2)) ∧ ti ((σ2.1 184 2)) ≤ 16 := rdr uI9 kd_184 rfl rfl
    refine ⟨vin (by omega), ?_⟩
    intro σ4 eσ4
    have uI12 : zInv A F w σ4 := by rw [eσ4]; exact wI0 uI9 (pC pc (by decide)) rk_186 kd_186
    intro σ5 eσ5
    have ue14 : ti ((σ4.1 184 2)) = ti ((σ2.1 184 2)) := by rw [eσ4]; exact congrArg ti (zI_q (Or.inl (by omega)))
    have ud15 : 0 ≤ ti ((σ4.1 184 2)) ∧ ti ((σ4.1 184 2)) ≤ 16 := rdr uI12 kd_184 rfl rfl
    have ul16 := lit_1
    have ut17 := tadd (x := (σ4.1 184 2)) (y := (1 : Int32)) (by omega)
    have uI13 : zInv A F w σ5 := by rw [eσ5]; exact wIr (a := 0) (b := 16) uI12 (pC pc (by decide)) (rl0 rk_184) kd_184 rfl rfl (by omega)
    exact hP σ5 uI13
set_option maxHeartbeats 4000000 in
theorem s_X3_addPost_10 {A : Nat → Nat → Prop} {F : Nat → Nat → Int32} {w : Nat} (pc : okC A) (x_1 : Int32) (x_2 : Int32) (x_3 : Int32) {P : zSto → Prop} (hP : ∀ (σ2 : zSto), zInv A F w σ2 → P σ2) : ∀ (n : Nat) (x_5 : Int32) (σ : zSto), zInv A F w σ → ((-1) ≤ ti (x_5) ∧ ti (x_5) ≤ 999) → ((ti (x_5)) - (-1) < n) → w_X3_addPost_10 x_1 x_2 x_3 P n x_5 σ := by
  intro n
  induction n with
  | zero =>
    intro x_5 σ I h_x_5 hm
    exfalso
    omega
  | succ n ih =>
    intro x_5 σ I h_x_5 hm
    unfold w_X3_addPost_10
    refine ⟨?_, ?_⟩
    · intro uq1
      have uc2 := lt_t uq1
      exact hP σ I
    · intro uq3
      have uc4 := nlt_t uq3
      refine ⟨?_, ?_⟩
      · intro uq5
        have ul6 := lit_0
        have uc7 := lt_t uq5
        exact hP σ I
      · intro uq8
        have ul9 := lit_0
        have uc10 := nlt_t uq8
        have ut11 := tsub (x := x_5) (y := x_3) (by omega)
        refine ⟨vin (by omega), ?_⟩
        intro x3 ex3
        refine ⟨?_, ?_⟩
        · intro uq12
          have ul13 := lit_m1
          have uc14 := eq_t uq12
          intro x4 ex4
          have ut15 := tadd (x := x_5) (y := (-1 : Int32)) (by omega)
          have ut16 := eq_t ex4
          exact ih x4 σ I (by omega) (by omega)
        · intro uq17
          have ul18 := lit_m1
          refine ⟨vin (by omega), ?_⟩
          refine ⟨?_, ?_⟩
          · intro uq19
            intro x6 ex6
            have ut20 := tadd (x := x_5) (y := (-1 : Int32)) (by omega)
            have ut21 := eq_t ex6
            exact ih x6 σ I (by omega) (by omega)
          · intro uq22
            refine ⟨vin (by omega), ?_⟩
            intro σ8 eσ8
            have uI23 : zInv A F w σ8 := by rw [eσ8]; exact wI0 I (pC pc (by decide)) rk_208 kd_208
            refine ⟨vin (by omega), ?_⟩
            refine ⟨vin (by omega), ?_⟩
            intro σ11 eσ11
            have uI24 : zInv A F w σ11 := by rw [eσ11]; exact wI0 uI23 (pC pc (by decide)) rk_209 kd_209
            intro x12 ex12
            have ut25 := tadd (x := x_5) (y := (-1 : Int32)) (by omega)
            have ut26 := eq_t ex12
            exact ih x12 σ11 uI24 (by omega) (by omega)
set_option maxHeartbeats 4000000 in
theorem s_X3_addPost {A : Nat → Nat → Prop} {F : Nat → Nat → Int32} {w : Nat} (pc : okC A) (a1 : Int32) (a2 : Int32) (a3 : Int32) (a4 : Int32) (h_a4 : 0 ≤ ti (a4) ∧ ti (a4) ≤ 999) {σ : zSto} (I : zInv A F w σ) {P : zSto → Prop} (hP : ∀ (σ2 : zSto), zInv A F w σ2 → P σ2) : w_X3_addPost a1 a2 a3 a4 σ P := by
  unfold w_X3_addPost
  intro x1 ex1
  refine ⟨70000, ?_⟩
  have ut5 : 0 ≤ ti (x1) ∧ ti (x1) ≤ 999 := by rw [ex1]; exact (tite (Q := fun z => 0 ≤ ti (z) ∧ ti (z) ≤ 999) (fun q => by
      have ul1 := lit_999
      have uc2 := lt_t q
      exact (by omega)) (fun q => by
      have ul3 := lit_999
      have uc4 := nlt_t q
      exact (by omega)))
  exact s_X3_addPost_10 pc a1 a2 a3 hP 70000 x1 σ I (by omega) (by omega)
set_option maxHeartbeats 4000000 in
theorem s_X3_fill_41 {A : Nat → Nat → Prop} {F : Nat → Nat → Int32} {w : Nat} (pc : okC A) (q_1 : Nat) (x_2 : Int32) (x_3 : Int32) (hT_q_1 : isT q_1) (h_x_3 : 0 ≤ ti (x_3) ∧ ti (x_3) ≤ 999) {P : zSto → Prop} (hP : ∀ (σ2 : zSto), zInv A F w σ2 → P σ2) : ∀ (n : Nat) (x_4 : Int32) (σ : zSto), zInv A F w σ → (0 ≤ ti (x_4) ∧ ti (x_4) ≤ 15) → (15 - (ti (x_4)) < n) → w_X3_fill_41 q_1 x_2 x_3 P n x_4 σ := by
  intro n
  induction n with
  | zero =>
    intro x_4 σ I h_x_4 hm
    exfalso
    omega
  | succ n ih =>
    intro x_4 σ I h_x_4 hm
    unfold w_X3_fill_41
    refine ⟨?_, ?_⟩
    · intro uq1
      have ud2 : 0 ≤ ti ((σ.1 q_1 11)) ∧ ti ((σ.1 q_1 11)) ≤ 16 := rdr I (isT_0 hT_q_1) rfl rfl
      have ul3 := lit_1
      have ut4 := tsub (x := (σ.1 q_1 11)) (y := (1 : Int32)) (by omega)
      have uc5 := le_t uq1
      exact hP σ I
    · intro uq6
      have ud7 : 0 ≤ ti ((σ.1 q_1 11)) ∧ ti ((σ.1 q_1 11)) ≤ 16 := rdr I (isT_0 hT_q_1) rfl rfl
      have ul8 := lit_1
      have ut9 := tsub (x := (σ.1 q_1 11)) (y := (1 : Int32)) (by omega)
      have uc10 := nle_t uq6
      refine s_X0_poundsIn q_1 x_4 x_2 hT_q_1 (by omega) I (fun r3 => ?_)
      refine ⟨?_, ?_⟩
      · intro uq11
        have ul12 := lit_0
        have uc13 := le_t uq11
        intro x4 ex4
        have ut14 := tadd (x := x_4) (y := (1 : Int32)) (by omega)
        have ut15 := eq_t ex4
        exact ih x4 σ I (by omega) (by omega)
      · intro uq16
        have ul17 := lit_0
        have uc18 := nle_t uq16
        refine s_X0_cost q_1 x_4 hT_q_1 (by omega) I (fun r6 hr6 => ?_)
        refine s_X3_addPost pc x_4 r3 r6 x_3 (by omega) I (fun σ7 uI19 => ?_)
        intro x8 ex8
        have ut20 := tadd (x := x_4) (y := (1 : Int32)) (by omega)
        have ut21 := eq_t ex8
        exact ih x8 σ7 uI19 (by omega) (by omega)
set_option maxHeartbeats 4000000 in
theorem s_X3_fill_3 {A : Nat → Nat → Prop} {F : Nat → Nat → Int32} {w : Nat} (pc : okC A) (q_1 : Nat) (x_2 : Int32) (x_3 : Int32) (hT_q_1 : isT q_1) (h_x_3 : 0 ≤ ti (x_3) ∧ ti (x_3) ≤ 999) {P : zSto → Prop} (hP : ∀ (σ2 : zSto), zInv A F w σ2 → P σ2) : ∀ (n : Nat) (x_4 : Int32) (σ : zSto), zInv A F w σ → (0 ≤ ti (x_4) ∧ ti (x_4) ≤ 1000) → (1000 - (ti (x_4)) < n) → w_X3_fill_3 q_1 x_2 x_3 P n x_4 σ := by
  intro n
  induction n with
  | zero =>
    intro x_4 σ I h_x_4 hm
    exfalso
    omega
  | succ n ih =>
    intro x_4 σ I h_x_4 hm
    unfold w_X3_fill_3
    refine ⟨?_, ?_⟩
    · intro uq1
      have uc2 := lt_t uq1
      intro σ1 eσ1
      have uI3 : zInv A F w σ1 := by rw [eσ1]; exact wI0 I (pC pc (by decide)) rk_208 kd_208
      refine ⟨70000, ?_⟩
      have ul4 := lit_0
      exact s_X3_fill_41 pc q_1 x_2 x_3 hT_q_1 (by omega) hP 70000 (0 : Int32) σ1 uI3 (by omega) (by omega)
    · intro uq5
      have uc6 := nlt_t uq5
      refine ⟨?_, ?_⟩
      · intro uq7
        have ul8 := lit_999
        have uc9 := lt_t uq7
        intro σ9 eσ9
        have uI10 : zInv A F w σ9 := by rw [eσ9]; exact wI0 I (pC pc (by decide)) rk_208 kd_208
        refine ⟨70000, ?_⟩
        have ul11 := lit_0
        exact s_X3_fill_41 pc q_1 x_2 x_3 hT_q_1 (by omega) hP 70000 (0 : Int32) σ9 uI10 (by omega) (by omega)
      · intro uq12
        have ul13 := lit_999
        have uc14 := nlt_t uq12
        refine ⟨vin (by omega), ?_⟩
        intro σ11 eσ11
        have uI15 : zInv A F w σ11 := by rw [eσ11]; exact wI0 I (pC pc (by decide)) rk_208 kd_208
        intro x12 ex12
        have ul16 := lit_1
        have ut17 := tadd (x := x_4) (y := (1 : Int32)) (by omega)
        have ut18 := eq_t ex12
        exact ih x12 σ11 uI15 (by omega) (by omega)
set_option maxHeartbeats 4000000 in
theorem s_X3_fill {A : Nat → Nat → Prop} {F : Nat → Nat → Int32} {w : Nat} (pc : okC A) (b1 : Nat) (a2 : Int32) (a3 : Int32) (hT_b1 : isT b1) (h_a3 : 0 ≤ ti (a3) ∧ ti (a3) ≤ 999) {σ : zSto} (I : zInv A F w σ) {P : zSto → Prop} (hP : ∀ (σ2 : zSto), zInv A F w σ2 → P σ2) : w_X3_fill b1 a2 a3 σ P := by
  unfold w_X3_fill
  refine ⟨70000, ?_⟩
  have ul1 := lit_0
  exact s_X3_fill_3 pc b1 a2 a3 hT_b1 (by omega) hP 70000 (0 : Int32) σ I (by omega) (by omega)
set_option maxHeartbeats 4000000 in
theorem s_X3_bestCosts_4 {A : Nat → Nat → Prop} {F : Nat → Nat → Int32} {w : Nat} (x_1 : Int32) (h_x_1 : 0 ≤ ti (x_1) ∧ ti (x_1) ≤ 999) {σ : zSto} (I : zInv A F w σ) {P : Int32 → zSto → Prop} (hP : ∀ (r : Int32), 0 ≤ ti (r) ∧ ti (r) ≤ 999 → P r σ) : ∀ (n : Nat) (x_2 : Int32) (x_3 : Int32), (0 ≤ ti (x_2) ∧ ti (x_2) ≤ 999) → (1 ≤ ti (x_3) ∧ ti (x_3) ≤ 1000) → (1000 - (ti (x_3)) < n) → w_X3_bestCosts_4 x_1 P n x_2 x_3 σ := by
  intro n
  induction n with
  | zero =>
    intro x_2 x_3 h_x_2 h_x_3 hm
    exfalso
    omega
  | succ n ih =>
    intro x_2 x_3 h_x_2 h_x_3 hm
    unfold w_X3_bestCosts_4
    refine ⟨?_, ?_⟩
    · intro uq1
      have uc2 := lt_t uq1
      exact hP x_2 (by omega)
    · intro uq3
      have uc4 := nlt_t uq3
      refine ⟨?_, ?_⟩
      · intro uq5
        have ul6 := lit_999
        have uc7 := lt_t uq5
        exact hP x_2 (by omega)
      · intro uq8
        have ul9 := lit_999
        have uc10 := nlt_t uq8
        refine ⟨vin (by omega), ?_⟩
        refine ⟨vin (by omega), ?_⟩
        refine ⟨?_, ?_⟩
        · intro uq11
          have uc12 := le_t uq11
          intro x3 ex3
          have ul13 := lit_1
          have ut14 := tadd (x := x_3) (y := (1 : Int32)) (by omega)
          have ut15 := eq_t ex3
          exact ih x_2 x3 (by omega) (by omega) (by omega)
        · intro uq16
          have uc17 := nle_t uq16
          intro x4 ex4
          have ul18 := lit_1
          have ut19 := tadd (x := x_3) (y := (1 : Int32)) (by omega)
          have ut20 := eq_t ex4
          exact ih x_3 x4 (by omega) (by omega) (by omega)
set_option maxHeartbeats 4000000 in
theorem s_X3_bestCosts {A : Nat → Nat → Prop} {F : Nat → Nat → Int32} {w : Nat} (a1 : Int32) (h_a1 : 0 ≤ ti (a1) ∧ ti (a1) ≤ 999) {σ : zSto} (I : zInv A F w σ) {P : Int32 → zSto → Prop} (hP : ∀ (r : Int32), 0 ≤ ti (r) ∧ ti (r) ≤ 999 → P r σ) : w_X3_bestCosts a1 σ P := by
  unfold w_X3_bestCosts
  refine ⟨70000, ?_⟩
  have ul1 := lit_0
  have ul2 := lit_1
  exact s_X3_bestCosts_4 a1 (by omega) I hP 70000 (0 : Int32) (1 : Int32) (by omega) (by omega) (by omega)
