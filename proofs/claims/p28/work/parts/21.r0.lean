set_option maxHeartbeats 4000000 in
theorem s_X10_in {A : Nat → Nat → Prop} {F : Nat → Nat → Int32} {w : Nat} (a1 : Int32) (a2 : Int32) (a3 : Int32) {σ : zSto} (I : zInv A F w σ) {P : Int32 → zSto → Prop} (hP : ∀ (r : Int32), (¬ r = 0 → ti a2 ≤ ti a1 ∧ ti a1 ≤ ti a3) → P r σ) : w_X10_in a1 a2 a3 σ P := by
  unfold w_X10_in
  refine ⟨?_, ?_⟩
  · intro uq1
    have uc2 := lt_t uq1
    exact hP (0 : Int32) (fun q => absurd rfl q)
  · intro uq3
    have uc4 := nlt_t uq3
    refine ⟨?_, ?_⟩
    · intro uq5
      have uc6 := lt_t uq5
      exact hP (0 : Int32) (fun q => absurd rfl q)
    · intro uq7
      have uc8 := nlt_t uq7
      exact hP (1 : Int32) (fun _ => by omega)
set_option maxHeartbeats 4000000 in
theorem s_X10_has {A : Nat → Nat → Prop} {F : Nat → Nat → Int32} {w : Nat} (a1 : Int32) (a2 : Int32) {σ : zSto} (I : zInv A F w σ) {P : Int32 → zSto → Prop} (hP : ∀ (r : Int32), P r σ) : w_X10_has a1 a2 σ P := by
  unfold w_X10_has
  refine ⟨?_, ?_⟩
  · intro uq1
    have ut2 := and_rg (a1 >>> (a2 &&& 31)) (m := (1 : Int32)) 1 2 (by decide) (by decide) (by decide)
    have ul3 := lit_1
    have uc4 := ne_t uq1
    exact hP (0 : Int32)
  · intro uq5
    have ut6 := and_rg (a1 >>> (a2 &&& 31)) (m := (1 : Int32)) 1 2 (by decide) (by decide) (by decide)
    have ul7 := lit_1
    have uc8 := eq_t uq5
    exact hP (1 : Int32)
set_option maxHeartbeats 4000000 in
theorem s_X10_ones_4 {A : Nat → Nat → Prop} {F : Nat → Nat → Int32} {w : Nat} (x_0 : Int32) {σ : zSto} (I : zInv A F w σ) {P : Int32 → zSto → Prop} (hP : ∀ (r : Int32), P r σ) : ∀ (n : Nat) (x_1 : Int32) (x_2 : Int32), (0 ≤ ti (x_2) ∧ ti (x_2) ≤ 16) → (16 - (ti (x_2)) < n) → w_X10_ones_4 x_0 P n x_1 x_2 σ := by
  intro n
  induction n with
  | zero =>
    intro x_1 x_2 h_x_2 hm
    exfalso
    omega
  | succ n ih =>
    intro x_1 x_2 h_x_2 hm
    unfold w_X10_ones_4
    refine ⟨?_, ?_⟩
    · intro uq1
      have ul2 := lit_16
      have uc3 := le_t uq1
      exact hP x_1
    · intro uq4
      have ul5 := lit_16
      have uc6 := nle_t uq4
      refine s_X10_has x_0 x_2 I (fun r2 => ?_)
      intro ub7
      have uc8 := bool_t ub7
      refine ⟨?_, ?_⟩
      · intro uq9
        have ul10 := lit_0
        have uc11 := eq_t uq9
        intro x3 ex3
        intro x4 ex4
        have ul12 := lit_1
        have ut13 := tadd (x := x_2) (y := (1 : Int32)) (by omega)
        have ut14 := eq_t ex4
        exact ih x3 x4 (by omega) (by omega)
      · intro uq15
        have ul16 := lit_0
        have uc17 := ne_t uq15
        intro x5 ex5
        intro x6 ex6
        have ul18 := lit_1
        have ut19 := tadd (x := x_2) (y := (1 : Int32)) (by omega)
        have ut20 := eq_t ex6
        exact ih x5 x6 (by omega) (by omega)
set_option maxHeartbeats 4000000 in
theorem s_X10_ones {A : Nat → Nat → Prop} {F : Nat → Nat → Int32} {w : Nat} (a1 : Int32) {σ : zSto} (I : zInv A F w σ) {P : Int32 → zSto → Prop} (hP : ∀ (r : Int32), P r σ) : w_X10_ones a1 σ P := by
  unfold w_X10_ones
  refine ⟨70000, ?_⟩
  have ul1 := lit_0
  exact s_X10_ones_4 a1 I hP 70000 (0 : Int32) (0 : Int32) (by omega) (by omega)
set_option maxHeartbeats 4000000 in
theorem s_X10_greater {A : Nat → Nat → Prop} {F : Nat → Nat → Int32} {w : Nat} (a1 : Int32) (a2 : Int32) {σ : zSto} (I : zInv A F w σ) {P : Int32 → zSto → Prop} (hP : ∀ (r : Int32), P r σ) : w_X10_greater a1 a2 σ P := by
  unfold w_X10_greater
  refine ⟨?_, ?_⟩
  · intro uq1
    have uc2 := le_t uq1
    exact hP a2
  · intro uq3
    have uc4 := nle_t uq3
    exact hP a1
set_option maxHeartbeats 4000000 in
theorem s_X10_is {A : Nat → Nat → Prop} {F : Nat → Nat → Int32} {w : Nat} (a1 : Int32) (a2 : Int32) (h_a1 : 0 ≤ ti (a1) ∧ ti (a1) ≤ 2) {σ : zSto} (I : zInv A F w σ) {P : Int32 → zSto → Prop} (hP : ∀ (r : Int32), (¬ r = 0 → 0 ≤ ti a2 ∧ ti a2 < ti (σ.1 228 a1.toNatClampNeg) ∧ ti a2 ≤ 1) → P r σ) : w_X10_is a1 a2 σ P := by
  unfold w_X10_is
  refine ⟨vin (by omega), ?_⟩
  have ul1 := lit_0
  have ud2 : 0 ≤ ti ((σ.1 228 ((a1).toNatClampNeg))) ∧ ti ((σ.1 228 ((a1).toNatClampNeg))) ≤ 2 := rdr I kd_228 rfl rfl
  have ul3 := lit_1
  have ut4 := tsub (x := (σ.1 228 ((a1).toNatClampNeg))) (y := (1 : Int32)) (by omega)
  refine s_X10_in a2 (0 : Int32) ((σ.1 228 ((a1).toNatClampNeg)) - (1 : Int32)) I (fun r3 uz5 => ?_)
  intro ub6
  have uc7 := bool_t ub6
  refine ⟨ub6, ?_⟩
  exact hP r3 (fun q => by have := uz5 q; omega)
set_option maxHeartbeats 4000000 in
theorem s_X10_see {A : Nat → Nat → Prop} {F : Nat → Nat → Int32} {w : Nat} {σ : zSto} (I : zInv A F w σ) {P : Int32 → zSto → Prop} (hP : ∀ (r : Int32), (-1) ≤ ti (r) ∧ ti (r) ≤ 255 → (0 ≤ ti r → ti (σ.1 223 9) < 600 ∧ ti (σ.1 223 9) < ti (σ.1 223 10)) → (ti r = ti (sev σ)) → P r σ) : w_X10_see σ P := by
  unfold w_X10_see
  refine ⟨?_, ?_⟩
  · intro uq1
    have ud2 : 0 ≤ ti ((σ.1 223 10)) ∧ ti ((σ.1 223 10)) ≤ 600 := rdr I kd_223 rfl rfl
    have ud3 : 0 ≤ ti ((σ.1 223 9)) ∧ ti ((σ.1 223 9)) ≤ 600 := rdr I kd_223 rfl rfl
    have uc4 := le_t uq1
    have ul5 := lit_m1
    exact hP (-1 : Int32) (by omega) (by omega) (by unfold sev; first | rw [if_pos (by assumption)] | rw [if_neg (by assumption)])
  · intro uq6
    have ud7 : 0 ≤ ti ((σ.1 223 10)) ∧ ti ((σ.1 223 10)) ≤ 600 := rdr I kd_223 rfl rfl
    have ud8 : 0 ≤ ti ((σ.1 223 9)) ∧ ti ((σ.1 223 9)) ≤ 600 := rdr I kd_223 rfl rfl
    have uc9 := nle_t uq6
    refine ⟨vin (by omega), ?_⟩
    have ut10 := and_rg (σ.1 224 (((σ.1 223 9)).toNatClampNeg)) (m := (255 : Int32)) 8 256 (by decide) (by decide) (by decide)
    exact hP ((σ.1 224 (((σ.1 223 9)).toNatClampNeg)) &&& (255 : Int32)) (by omega) (by omega) (by unfold sev; first | rw [if_pos (by assumption)] | rw [if_neg (by assumption)])
theorem ln229 {A : Nat → Nat → Prop} {F : Nat → Nat → Int32} {w : Nat} {σ : zSto} (I : zInv A F w σ) {j s : Nat} (h : j % 123 = s) : lo14 s ≤ ti (σ.1 229 j) ∧ ti (σ.1 229 j) ≤ hi14 s := by
  have d := I.1 229 j
  rw [kd_229] at d
  subst h
  exact d
theorem o_X10_of {A : Nat → Nat → Prop} {F : Nat → Nat → Int32} {w : Nat} (a1 : Int32) (h : 0 ≤ ti a1 ∧ ti a1 ≤ 122) {σ : zSto} (I : zInv A F w σ) {P : Int32 → zSto → Prop} (hP : ∀ r, r = σ.1 229 (123 * (ti (σ.1 223 23)).toNat + (ti a1).toNat) → P r σ) : w_X10_of a1 σ P := by
  unfold w_X10_of
  have d : 0 ≤ ti (σ.1 223 23) ∧ ti (σ.1 223 23) ≤ 1 := rdr I kd_223 rfl rfl
  have t1 := tmull (x := (123 : Int32)) (y := σ.1 223 23) 123 lit_123 (by omega)
  have t2 := tadd (x := (123 : Int32) * σ.1 223 23) (y := a1) (by omega)
  have tn := tn_eq ((123 : Int32) * σ.1 223 23 + a1)
  refine ⟨vin (by omega), hP _ ?_⟩
  rw [show ((123 : Int32) * σ.1 223 23 + a1).toNatClampNeg = 123 * (ti (σ.1 223 23)).toNat + (ti a1).toNat by omega]
theorem s_X10_of {A : Nat → Nat → Prop} {F : Nat → Nat → Int32} {w : Nat} (a1 : Int32) (h : 0 ≤ ti a1 ∧ ti a1 ≤ 122) {σ : zSto} (I : zInv A F w σ) {P : Int32 → zSto → Prop} (hP : ∀ r, (ti a1 = 0 → 0 ≤ ti r ∧ ti r ≤ 16) → (ti a1 = 1 → 0 ≤ ti r ∧ ti r ≤ 6) → (ti a1 = 2 → 0 ≤ ti r ∧ ti r ≤ 9) → P r σ) : w_X10_of a1 σ P := by
  refine o_X10_of a1 h I (fun r e => hP r (fun z => ?_) (fun z => ?_) (fun z => ?_))
  · rw [e]; exact ln229 I (s := 0) (by omega)
  · rw [e]; exact ln229 I (s := 1) (by omega)
  · rw [e]; exact ln229 I (s := 2) (by omega)
theorem lh_p : ∀ p : Fin 16, (lo14 (7 + 5 * p.val) = 0 ∧ hi14 (7 + 5 * p.val) = 30) ∧ (lo14 (7 + 5 * p.val + 1) = 0 ∧ hi14 (7 + 5 * p.val + 1) = 3) ∧ (lo14 (7 + 5 * p.val + 3) = 0 ∧ hi14 (7 + 5 * p.val + 3) = 10) := by decide
theorem lh_r : ∀ p : Fin 6, (lo14 (87 + 6 * p.val) = 0 ∧ hi14 (87 + 6 * p.val) = 15) ∧ (lo14 (87 + 6 * p.val + 1) = 0 ∧ hi14 (87 + 6 * p.val + 1) = 15) := by decide
theorem s_X10_postOf {A : Nat → Nat → Prop} {F : Nat → Nat → Int32} {w : Nat} (a1 a2 : Int32) (h1 : 0 ≤ ti a1 ∧ ti a1 ≤ 15) (h2 : 0 ≤ ti a2 ∧ ti a2 ≤ 4) {σ : zSto} (I : zInv A F w σ) {P : Int32 → zSto → Prop} (hP : ∀ r, (ti a2 = 0 → 0 ≤ ti r ∧ ti r ≤ 30) → (ti a2 = 1 → 0 ≤ ti r ∧ ti r ≤ 3) → (ti a2 = 3 → 0 ≤ ti r ∧ ti r ≤ 10) → P r σ) : w_X10_postOf a1 a2 σ P := by
  unfold w_X10_postOf
  have t1 := tmull (x := (5 : Int32)) (y := a1) 5 lit_5 (by omega)
  have l7 := lit_7
  have t2 := tadd (x := (7 : Int32)) (y := (5 : Int32) * a1) (by omega)
  have t3 := tadd (x := (7 : Int32) + (5 : Int32) * a1) (y := a2) (by omega)
  have q := lh_p ⟨(ti a1).toNat, by omega⟩
  refine o_X10_of _ (by omega) I (fun r e => hP r (fun z => ?_) (fun z => ?_) (fun z => ?_))
  · rw [e, ← q.1.1, ← q.1.2]; exact ln229 I (by show _ = 7 + 5 * (ti a1).toNat; omega)
  · rw [e, ← q.2.1.1, ← q.2.1.2]; exact ln229 I (by show _ = 7 + 5 * (ti a1).toNat + 1; omega)
  · rw [e, ← q.2.2.1, ← q.2.2.2]; exact ln229 I (by show _ = 7 + 5 * (ti a1).toNat + 3; omega)
theorem s_X10_riderOf {A : Nat → Nat → Prop} {F : Nat → Nat → Int32} {w : Nat} (a1 a2 : Int32) (h1 : 0 ≤ ti a1 ∧ ti a1 ≤ 5) (h2 : 0 ≤ ti a2 ∧ ti a2 ≤ 5) {σ : zSto} (I : zInv A F w σ) {P : Int32 → zSto → Prop} (hP : ∀ r, (ti a2 = 0 → 0 ≤ ti r ∧ ti r ≤ 15) → (ti a2 = 1 → 0 ≤ ti r ∧ ti r ≤ 15) → P r σ) : w_X10_riderOf a1 a2 σ P := by
  unfold w_X10_riderOf
  have t1 := tmull (x := (6 : Int32)) (y := a1) 6 lit_6 (by omega)
  have l87 := lit_87
  have t2 := tadd (x := (87 : Int32)) (y := (6 : Int32) * a1) (by omega)
  have t3 := tadd (x := (87 : Int32) + (6 : Int32) * a1) (y := a2) (by omega)
  have q := lh_r ⟨(ti a1).toNat, by omega⟩
  refine o_X10_of _ (by omega) I (fun r e => hP r (fun z => ?_) (fun z => ?_))
  · rw [e, ← q.1.1, ← q.1.2]; exact ln229 I (by show _ = 87 + 6 * (ti a1).toNat; omega)
  · rw [e, ← q.2.1, ← q.2.2]; exact ln229 I (by show _ = 87 + 6 * (ti a1).toNat + 1; omega)
set_option maxHeartbeats 4000000 in
theorem s_X10_poundsIn {A : Nat → Nat → Prop} {F : Nat → Nat → Int32} {w : Nat} (a1 : Int32) (a2 : Int32) (h_a1 : 0 ≤ ti (a1) ∧ ti (a1) ≤ 15) {σ : zSto} (I : zInv A F w σ) {P : Int32 → zSto → Prop} (hP : ∀ (r : Int32), P r σ) : w_X10_poundsIn a1 a2 σ P := by
  unfold w_X10_poundsIn
  have ul1 := lit_2
  refine s_X10_postOf a1 (2 : Int32) (by omega) (by omega) I (fun r2 uy2 uy3 uy4 => ?_)
  have ul5 := lit_3
  refine s_X10_of (3 : Int32) (by omega) I (fun r4 uy6 uy7 uy8 => ?_)
  refine s_X10_greater (0 : Int32) (r2 - (r4 * a2)) I (fun r6 => ?_)
  exact hP r6
set_option maxHeartbeats 4000000 in
theorem s_X10_hand_56 {A : Nat → Nat → Prop} {F : Nat → Nat → Int32} {w : Nat} (pr : okR A) (x_2 : Int32) {P : Int32 → zSto → Prop} (hP : ∀ (r : Int32) (σ2 : zSto), zInv A F w σ2 → P r σ2) : ∀ (n : Nat) (x_3 : Int32) (σ : zSto), zInv A F w σ → (0 ≤ ti (x_3) ∧ ti (x_3) ≤ 16) → (16 - (ti (x_3)) < n) → w_X10_hand_56 x_2 P n x_3 σ := by
  intro n
  induction n with
  | zero =>
    intro x_3 σ I h_x_3 hm
    exfalso
    omega
  | succ n ih =>
    intro x_3 σ I h_x_3 hm
    unfold w_X10_hand_56
    refine ⟨?_, ?_⟩
    · intro uq1
      have ud2 : 0 ≤ ti ((σ.1 223 24)) ∧ ti ((σ.1 223 24)) ≤ 16 := rdr I kd_223 rfl rfl
      have uc3 := le_t uq1
      exact hP (1 : Int32) σ I
    · intro uq4
      have ud5 : 0 ≤ ti ((σ.1 223 24)) ∧ ti ((σ.1 223 24)) ≤ 16 := rdr I kd_223 rfl rfl
      have uc6 := nle_t uq4
      have ul7 := lit_0
      refine s_X10_postOf x_3 (0 : Int32) (by omega) (by omega) I (fun r14 uy8 uy9 uy10 => ?_)
      have ur11 : 0 ≤ ti (r14) ∧ ti (r14) ≤ 30 := by omega
      refine ⟨vin (by omega), ?_⟩
      intro σ16 eσ16
      have uI12 : zInv A F w σ16 := by rw [eσ16]; exact wIr (a := 0) (b := 30) I (pR pr (by decide)) (rl0 rk_236) kd_236 rfl rfl (by omega)
      refine s_X10_poundsIn x_3 x_2 (by omega) uI12 (fun r18 => ?_)
      refine ⟨vin (by omega), ?_⟩
      intro σ20 eσ20
      have uI13 : zInv A F w σ20 := by rw [eσ20]; exact wI0 uI12 (pR pr (by decide)) rk_238 kd_238
      have ul14 := lit_2
      refine s_X10_of (2 : Int32) (by omega) uI13 (fun r22 uy15 uy16 uy17 => ?_)
      have ur18 : 0 ≤ ti (r22) ∧ ti (r22) ≤ 9 := by omega
      have ul19 := lit_1
      refine s_X10_postOf x_3 (1 : Int32) (by omega) (by omega) uI13 (fun r24 uy20 uy21 uy22 => ?_)
      have ur23 : 0 ≤ ti (r24) ∧ ti (r24) ≤ 3 := by omega
      refine s_X10_postOf x_3 (1 : Int32) (by omega) (by omega) uI13 (fun r26 uy24 uy25 uy26 => ?_)
      have ur27 : 0 ≤ ti (r26) ∧ ti (r26) ≤ 3 := by omega
      refine ⟨?_, ?_⟩
      · intro uq28
        have ul29 := lit_3
        have uc30 := ne_t uq28
        refine ⟨vin (by omega), ?_⟩
        intro σ28 eσ28
        have ut32 := tmull (x := (2 : Int32)) (y := r24) (2) lit_2 (by omega)
        have ut33 := tadd (x := r22) (y := ((2 : Int32) * r24)) (by omega)
        have ut34 := tadd (x := (r22 + ((2 : Int32) * r24))) (y := (0 : Int32)) (by omega)
        have uI31 : zInv A F w σ28 := by rw [eσ28]; exact wIr (a := 0) (b := 75) uI13 (pR pr (by decide)) (rl0 rk_237) kd_237 rfl rfl (by omega)
        intro x29 ex29
        have ut35 := tadd (x := x_3) (y := (1 : Int32)) (by omega)
        have ut36 := eq_t ex29
        exact ih x29 σ28 uI31 (by omega) (by omega)
      · intro uq37
        have ul38 := lit_3
        have uc39 := eq_t uq37
        refine ⟨?_, ?_⟩
        · intro uq40
          have uc41 := le_t uq40
          refine ⟨vin (by omega), ?_⟩
          intro σ31 eσ31
          have ut43 := tmull (x := (2 : Int32)) (y := r24) (2) lit_2 (by omega)
          have ut44 := tadd (x := r22) (y := ((2 : Int32) * r24)) (by omega)
          have ut45 := tadd (x := (r22 + ((2 : Int32) * r24))) (y := (0 : Int32)) (by omega)
          have uI42 : zInv A F w σ31 := by rw [eσ31]; exact wIr (a := 0) (b := 75) uI13 (pR pr (by decide)) (rl0 rk_237) kd_237 rfl rfl (by omega)
          intro x32 ex32
          have ut46 := tadd (x := x_3) (y := (1 : Int32)) (by omega)
          have ut47 := eq_t ex32
          exact ih x32 σ31 uI42 (by omega) (by omega)
        · intro uq48
          have uc49 := nle_t uq48
          have ut50 := tsub (x := x_3) (y := (1 : Int32)) (by omega)
          refine s_X10_postOf (x_3 - (1 : Int32)) (0 : Int32) (by omega) (by omega) uI13 (fun r34 uy51 uy52 uy53 => ?_)
          have ur54 : 0 ≤ ti (r34) ∧ ti (r34) ≤ 30 := by omega
          refine ⟨vin (by omega), ?_⟩
          intro σ36 eσ36
          have ut56 := tmull (x := (2 : Int32)) (y := r24) (2) lit_2 (by omega)
          have ut57 := tadd (x := r22) (y := ((2 : Int32) * r24)) (by omega)
          have ut58 := tmull (x := (2 : Int32)) (y := r34) (2) lit_2 (by omega)
          have ut59 := tadd (x := (r22 + ((2 : Int32) * r24))) (y := ((2 : Int32) * r34)) (by omega)
          have uI55 : zInv A F w σ36 := by rw [eσ36]; exact wIr (a := 0) (b := 75) uI13 (pR pr (by decide)) (rl0 rk_237) kd_237 rfl rfl (by omega)
          intro x37 ex37
          have ut60 := tadd (x := x_3) (y := (1 : Int32)) (by omega)
          have ut61 := eq_t ex37
          exact ih x37 σ36 uI55 (by omega) (by omega)
set_option maxHeartbeats 4000000 in
theorem s_X10_hand {A : Nat → Nat → Prop} {F : Nat → Nat → Int32} {w : Nat} (pr : okR A) (a1 a2 : Int32) {σ : zSto} (I : zInv A F w σ) {P : Int32 → zSto → Prop} (hP : ∀ r σ2, zInv A F w σ2 → (¬ r = 0 → 0 ≤ ti a1 ∧ ti a1 ≤ 1) → P r σ2) : w_X10_hand a1 a2 σ P := by
  unfold w_X10_hand
  have l0 := lit_0
  have l1 := lit_1
  refine s_X10_is (0 : Int32) a1 (by omega) I (fun r2 z2 => ?_)
  intro b2
  refine ⟨fun q => hP _ σ I (fun h => absurd rfl h), fun q => ?_⟩
  obtain ⟨c1, c2, c3⟩ := z2 q
  have c4 : ti a1 < ti (σ.1 228 0) := c2
  refine s_X10_in a2 (0 : Int32) (9 : Int32) I (fun r4 z4 => ?_)
  intro b4
  refine ⟨fun q4 => ?_, fun q4 => hP _ σ I (fun h => absurd rfl h)⟩
  intro σ5 e5
  have I5 : zInv A F w σ5 := by rw [e5]; exact wIr (a := 0) (b := 1) I (pRo pr (by decide)) (by decide) kd_223 rfl rfl (by omega)
  refine o_X10_of (0 : Int32) (by omega) I5 (fun r7 e7 => ?_)
  have d7 : 1 ≤ ti r7 ∧ ti r7 ≤ 16 := by
    have g := I.2.2.2.2.2.1 0 (ti a1).toNat (by decide) (by omega) (by rw [Nat.mul_zero]; omega)
    have e8 : r7 = σ.1 229 (123 * (2 * 0 + (ti a1).toNat)) := by
      rw [e7, e5, zI_s, zI_q (Or.inl (by decide))]
      rw [show 123 * (ti a1).toNat + (ti 0).toNat = 123 * (2 * 0 + (ti a1).toNat) by omega]
    have u : 0 ≤ ti (σ.1 229 (123 * (2 * 0 + (ti a1).toNat))) ∧ ti (σ.1 229 (123 * (2 * 0 + (ti a1).toNat))) ≤ 16 := ln229 I (s := 0) (by omega)
    rw [e8]
    omega
  intro σ8 e8 σ9 e9
  have I8 : zInv A F w σ8 := by rw [e8]; exact wIr (a := 0) (b := 16) I5 (pRo pr (by decide)) (by decide) kd_223 rfl rfl (by omega)
  have f8 : ti (σ8.1 223 24) = ti r7 := by rw [e8, zI_s]
  have t9 := tsub (x := σ8.1 223 24) (y := (1 : Int32)) (by omega)
  have I9 : zInv A F w σ9 := by rw [e9]; exact wIr (a := 0) (b := 15) I8 (pRo pr (by decide)) (by decide) kd_223 rfl rfl (by omega)
  refine s_X10_of (1 : Int32) (by omega) I9 (fun r11 _ p1 _ => ?_)
  have d11 := p1 l1
  intro σ12 e12
  have I12 : zInv A F w σ12 := by rw [e12]; exact wIr (a := 0) (b := 6) I9 (pRo pr (by decide)) (by decide) kd_223 rfl rfl d11
  exact ⟨70000, s_X10_hand_56 pr a2 (fun r σ2 I2 => hP r σ2 I2 (fun _ => by omega)) 70000 (0 : Int32) σ12 I12 (by omega) (by omega)⟩
set_option maxHeartbeats 4000000 in
theorem s_X10_line_28 {A : Nat → Nat → Prop} {F : Nat → Nat → Int32} {w : Nat} {σ : zSto} (I : zInv A F w σ) {P : Int32 → zSto → Prop} (hP : ∀ (r : Int32) (σ2 : zSto), zInv A F w σ2 → P r σ2) : ∀ (n : Nat) (x_3 : Int32) (x_4 : Int32), (0 ≤ ti (x_4) ∧ ti (x_4) ≤ 16) → (16 - (ti (x_4)) < n) → w_X10_line_28 P n x_3 x_4 σ := by
  intro n
  induction n with
  | zero =>
    intro x_3 x_4 h_x_4 hm
    exfalso
    omega
  | succ n ih =>
    intro x_3 x_4 h_x_4 hm
    unfold w_X10_line_28
    refine ⟨?_, ?_⟩
    · intro uq1
      have ud2 : 0 ≤ ti ((σ.1 223 24)) ∧ ti ((σ.1 223 24)) ≤ 16 := rdr I kd_223 rfl rfl
      have uc3 := le_t uq1
      exact hP x_3 σ I
    · intro uq4
      have ud5 : 0 ≤ ti ((σ.1 223 24)) ∧ ti ((σ.1 223 24)) ≤ 16 := rdr I kd_223 rfl rfl
      have uc6 := nle_t uq4
      have ul7 := lit_4
      refine s_X10_postOf x_4 (4 : Int32) (by omega) (by omega) I (fun r9 uy8 uy9 uy10 => ?_)
      refine ⟨?_, ?_⟩
      · intro uq11
        have ul12 := lit_m1
        have uc13 := eq_t uq11
        intro x10 ex10
        intro x11 ex11
        have ul14 := lit_1
        have ut15 := tadd (x := x_4) (y := (1 : Int32)) (by omega)
        have ut16 := eq_t ex11
        exact ih x10 x11 (by omega) (by omega)
      · intro uq17
        have ul18 := lit_m1
        intro x12 ex12
        intro x13 ex13
        have ul19 := lit_1
        have ut20 := tadd (x := x_4) (y := (1 : Int32)) (by omega)
        have ut21 := eq_t ex13
        exact ih x12 x13 (by omega) (by omega)
set_option maxHeartbeats 4000000 in
theorem s_X10_line {A : Nat → Nat → Prop} {F : Nat → Nat → Int32} {w : Nat} (pr : okR A) (a1 : Int32) (a2 : Int32) {σ : zSto} (I : zInv A F w σ) {P : Int32 → zSto → Prop} (hP : ∀ (r : Int32) (σ2 : zSto), zInv A F w σ2 → P r σ2) : w_X10_line a1 a2 σ P := by
  unfold w_X10_line
  intro σ1 eσ1
  have uI1 : zInv A F w σ1 := by rw [eσ1]; exact wIr I (pRo pr (by decide)) (by decide) kd_223 rfl rfl (full32 _)
  refine s_X10_hand pr a1 (0 : Int32) uI1 (fun r3 σ2 uI2 uz3 => ?_)
  intro ub4
  have uc5 := bool_t ub4
  refine ⟨?_, ?_⟩
  · intro uq6
    have uc7 := uz3 uq6
    have ul8 := lit_0
    have uc9 := ne_t uq6
    refine ⟨?_, ?_⟩
    · intro uq10
      have ul11 := lit_7
      have ul12 := lit_6
      refine s_X10_in a2 (0 : Int32) (6 : Int32) uI2 (fun r5 uz13 => ?_)
      intro ub14
      have uc15 := bool_t ub14
      refine ⟨?_, ?_⟩
      · intro uq16
        have uc17 := eq_t uq16
        exact hP (-2 : Int32) σ2 uI2
      · intro uq18
        have uc19 := uz13 uq18
        have uc20 := ne_t uq18
        refine s_X10_of a2 (by omega) uI2 (fun r7 uy21 uy22 uy23 => ?_)
        exact hP r7 σ2 uI2
    · intro uq24
      have ul25 := lit_7
      have uc26 := eq_t uq24
      refine ⟨70000, ?_⟩
      exact s_X10_line_28 uI2 hP 70000 (0 : Int32) (0 : Int32) (by omega) (by omega)
  · intro uq27
    have ul28 := lit_0
    have uc29 := eq_t uq27
    exact hP (-2 : Int32) σ2 uI2
set_option maxHeartbeats 4000000 in
theorem s_X10_isPost {A : Nat → Nat → Prop} {F : Nat → Nat → Int32} {w : Nat} (a1 : Int32) {σ : zSto} (I : zInv A F w σ) {P : Int32 → zSto → Prop} (hP : ∀ (r : Int32), (¬ r = 0 → 0 ≤ ti a1 ∧ ti a1 ≤ ti (σ.1 223 25) ∧ ti a1 ≤ 15) → P r σ) : w_X10_isPost a1 σ P := by
  unfold w_X10_isPost
  have ul1 := lit_0
  have ud2 : 0 ≤ ti ((σ.1 223 25)) ∧ ti ((σ.1 223 25)) ≤ 15 := rdr I kd_223 rfl rfl
  refine s_X10_in a1 (0 : Int32) (σ.1 223 25) I (fun r2 uz3 => ?_)
  intro ub4
  have uc5 := bool_t ub4
  refine ⟨ub4, ?_⟩
  exact hP r2 (fun q => by have := uz3 q; omega)
set_option maxHeartbeats 4000000 in
theorem s_X10_isRider {A : Nat → Nat → Prop} {F : Nat → Nat → Int32} {w : Nat} (a1 : Int32) {σ : zSto} (I : zInv A F w σ) {P : Int32 → zSto → Prop} (hP : ∀ (r : Int32), (¬ r = 0 → 0 ≤ ti a1 ∧ ti a1 ≤ 5) → P r σ) : w_X10_isRider a1 σ P := by
  unfold w_X10_isRider
  have ul1 := lit_0
  have ud2 : 0 ≤ ti ((σ.1 223 26)) ∧ ti ((σ.1 223 26)) ≤ 6 := rdr I kd_223 rfl rfl
  have ul3 := lit_1
  have ut4 := tsub (x := (σ.1 223 26)) (y := (1 : Int32)) (by omega)
  refine s_X10_in a1 (0 : Int32) ((σ.1 223 26) - (1 : Int32)) I (fun r2 uz5 => ?_)
  intro ub6
  have uc7 := bool_t ub6
  refine ⟨ub6, ?_⟩
  exact hP r2 (fun q => by have := uz5 q; omega)
set_option maxHeartbeats 4000000 in
theorem s_X10_post {A : Nat → Nat → Prop} {F : Nat → Nat → Int32} {w : Nat} (pr : okR A) (a1 : Int32) (a2 : Int32) (a3 : Int32) {σ : zSto} (I : zInv A F w σ) {P : Int32 → zSto → Prop} (hP : ∀ (r : Int32) (σ2 : zSto), zInv A F w σ2 → P r σ2) : w_X10_post a1 a2 a3 σ P := by
  unfold w_X10_post
  intro σ1 eσ1
  have uI1 : zInv A F w σ1 := by rw [eσ1]; exact wIr I (pRo pr (by decide)) (by decide) kd_223 rfl rfl (full32 _)
  refine s_X10_hand pr a1 (0 : Int32) uI1 (fun r3 σ2 uI2 uz3 => ?_)
  intro ub4
  have uc5 := bool_t ub4
  refine ⟨?_, ?_⟩
  · intro uq6
    have ul7 := lit_0
    have uc8 := eq_t uq6
    exact hP (-2 : Int32) σ2 uI2
  · intro uq9
    have uc10 := uz3 uq9
    have ul11 := lit_0
    have uc12 := ne_t uq9
    refine s_X10_isPost a2 uI2 (fun r5 uz13 => ?_)
    intro ub14
    have uc15 := bool_t ub14
    refine ⟨?_, ?_⟩
    · intro uq16
      have uc17 := uz13 uq16
      have uc18 := ne_t uq16
      have ul19 := lit_4
      refine s_X10_in a3 (0 : Int32) (4 : Int32) uI2 (fun r7 uz20 => ?_)
      intro ub21
      have uc22 := bool_t ub21
      refine ⟨?_, ?_⟩
      · intro uq23
        have uc24 := eq_t uq23
        refine ⟨?_, ?_⟩
        · intro uq25
          have ul26 := lit_5
          have ul27 := lit_10
          have ul28 := lit_19
          refine s_X10_in a3 (10 : Int32) (19 : Int32) uI2 (fun r9 uz29 => ?_)
          intro ub30
          have uc31 := bool_t ub30
          refine ⟨?_, ?_⟩
          · intro uq32
            have uc33 := eq_t uq32
            exact hP (-2 : Int32) σ2 uI2
          · intro uq34
            have uc35 := uz29 uq34
            have uc36 := ne_t uq34
            refine s_X10_poundsIn a2 (a3 - (10 : Int32)) (by omega) uI2 (fun r11 => ?_)
            exact hP r11 σ2 uI2
        · intro uq37
          have ul38 := lit_5
          have uc39 := eq_t uq37
          refine ⟨?_, ?_⟩
          · intro uq40
            have ud41 : 0 ≤ ti ((σ2.1 223 25)) ∧ ti ((σ2.1 223 25)) ≤ 15 := rdr uI2 kd_223 rfl rfl
            refine ⟨vin (by omega), ?_⟩
            exact hP (σ2.1 237 ((a2).toNatClampNeg)) σ2 uI2
          · intro uq42
            have ud43 : 0 ≤ ti ((σ2.1 223 25)) ∧ ti ((σ2.1 223 25)) ≤ 15 := rdr uI2 kd_223 rfl rfl
            have uc44 := eq_t uq42
            exact hP (-1 : Int32) σ2 uI2
      · intro uq45
        have uc46 := uz20 uq45
        have uc47 := ne_t uq45
        refine s_X10_postOf a2 a3 (by omega) (by omega) uI2 (fun r14 uy48 uy49 uy50 => ?_)
        exact hP r14 σ2 uI2
    · intro uq51
      have uc52 := eq_t uq51
      exact hP (-2 : Int32) σ2 uI2
set_option maxHeartbeats 4000000 in
theorem s_X10_rider {A : Nat → Nat → Prop} {F : Nat → Nat → Int32} {w : Nat} (pr : okR A) (a1 : Int32) (a2 : Int32) (a3 : Int32) {σ : zSto} (I : zInv A F w σ) {P : Int32 → zSto → Prop} (hP : ∀ (r : Int32) (σ2 : zSto), zInv A F w σ2 → P r σ2) : w_X10_rider a1 a2 a3 σ P := by
  unfold w_X10_rider
  intro σ1 eσ1
  have uI1 : zInv A F w σ1 := by rw [eσ1]; exact wIr I (pRo pr (by decide)) (by decide) kd_223 rfl rfl (full32 _)
  refine s_X10_hand pr a1 (0 : Int32) uI1 (fun r3 σ2 uI2 uz3 => ?_)
  intro ub4
  have uc5 := bool_t ub4
  refine ⟨?_, ?_⟩
  · intro uq6
    have ul7 := lit_0
    have uc8 := eq_t uq6
    exact hP (-1 : Int32) σ2 uI2
  · intro uq9
    have uc10 := uz3 uq9
    have ul11 := lit_0
    have uc12 := ne_t uq9
    refine s_X10_isRider a2 uI2 (fun r5 uz13 => ?_)
    intro ub14
    have uc15 := bool_t ub14
    refine ⟨?_, ?_⟩
    · intro uq16
      have uc17 := eq_t uq16
      exact hP (-1 : Int32) σ2 uI2
    · intro uq18
      have uc19 := uz13 uq18
      have uc20 := ne_t uq18
      have ul21 := lit_5
      refine s_X10_in a3 (0 : Int32) (5 : Int32) uI2 (fun r7 uz22 => ?_)
      intro ub23
      have uc24 := bool_t ub23
      refine ⟨?_, ?_⟩
      · intro uq25
        have uc26 := eq_t uq25
        exact hP (-1 : Int32) σ2 uI2
      · intro uq27
        have uc28 := uz22 uq27
        have uc29 := ne_t uq27
        refine s_X10_riderOf a2 a3 (by omega) (by omega) uI2 (fun r9 uy30 uy31 => ?_)
        exact hP r9 σ2 uI2
set_option maxHeartbeats 4000000 in
theorem s_X10_draw {A : Nat → Nat → Prop} {F : Nat → Nat → Int32} {w : Nat} (pr : okR A) (a1 : Int32) (h_a1 : 1 ≤ ti (a1) ∧ ti (a1) ≤ 6) {σ : zSto} (I : zInv A F w σ) {P : Int32 → zSto → Prop} (hP : ∀ (r : Int32) (σ2 : zSto), zInv A F w σ2 → P r σ2) : w_X10_draw a1 σ P := by
  unfold w_X10_draw
  intro σ1 eσ1
  have uI1 : zInv A F w σ1 := by rw [eσ1]; exact wIr I (pRo pr (by decide)) (by decide) kd_223 rfl rfl (full32 _)
  have ul2 := lit_0
  refine ⟨ne_of_t (by omega), ?_⟩
  exact hP (((((σ1.1 223 30)).toUInt32 >>> (((16 : Int32)).toUInt32 &&& (Int32.toUInt32 31)))).toInt32 - ((((((σ1.1 223 30)).toUInt32 >>> (((16 : Int32)).toUInt32 &&& (Int32.toUInt32 31)))).toInt32 / a1) * a1)) σ1 uI1
set_option maxHeartbeats 4000000 in
theorem s_X10_isOn {A : Nat → Nat → Prop} {F : Nat → Nat → Int32} {w : Nat} (a1 : Int32) (a2 : Int32) (h_a1 : 0 ≤ ti (a1) ∧ ti (a1) ≤ 5) {σ : zSto} (I : zInv A F w σ) {P : Int32 → zSto → Prop} (hP : ∀ (r : Int32), (¬ r = 0 → 0 ≤ ti a2) → P r σ) : w_X10_isOn a1 a2 σ P := by
  unfold w_X10_isOn
  have ul1 := lit_0
  refine s_X10_riderOf a1 (0 : Int32) (by omega) (by omega) I (fun r2 uy2 uy3 => ?_)
  have ur4 : 0 ≤ ti (r2) ∧ ti (r2) ≤ 15 := by omega
  refine ⟨?_, ?_⟩
  · intro uq5
    have uc6 := lt_t uq5
    exact hP (0 : Int32) (fun q => absurd rfl q)
  · intro uq7
    have uc8 := nlt_t uq7
    have ul9 := lit_1
    refine s_X10_riderOf a1 (1 : Int32) (by omega) (by omega) I (fun r4 uy10 uy11 => ?_)
    have ur12 : 0 ≤ ti (r4) ∧ ti (r4) ≤ 15 := by omega
    refine ⟨?_, ?_⟩
    · intro uq13
      have uc14 := le_t uq13
      exact hP (0 : Int32) (fun q => absurd rfl q)
    · intro uq15
      have uc16 := nle_t uq15
      exact hP (1 : Int32) (fun _ => by omega)
set_option maxHeartbeats 4000000 in
theorem s_X10_wants {A : Nat → Nat → Prop} {F : Nat → Nat → Int32} {w : Nat} (a1 : Int32) (a2 : Int32) (h_a1 : 0 ≤ ti (a1) ∧ ti (a1) ≤ 5) (h_a2 : 0 ≤ ti (a2) ∧ ti (a2) ≤ 15) {σ : zSto} (I : zInv A F w σ) {P : Int32 → zSto → Prop} (hP : ∀ (r : Int32), P r σ) : w_X10_wants a1 a2 σ P := by
  unfold w_X10_wants
  refine s_X10_isOn a1 a2 (by omega) I (fun r2 uz1 => ?_)
  intro ub2
  have uc3 := bool_t ub2
  refine ⟨?_, ?_⟩
  · intro uq4
    have ul5 := lit_0
    have uc6 := eq_t uq4
    exact hP (0 : Int32)
  · intro uq7
    have uc8 := uz1 uq7
    have ul9 := lit_0
    have uc10 := ne_t uq7
    refine ⟨vin (by omega), ?_⟩
    refine ⟨?_, ?_⟩
    · intro uq11
      have uc12 := le_t uq11
      exact hP (0 : Int32)
    · intro uq13
      have uc14 := nle_t uq13
      have ul15 := lit_3
      refine s_X10_riderOf a1 (3 : Int32) (by omega) (by omega) I (fun r5 uy16 uy17 => ?_)
      refine ⟨vin (by omega), ?_⟩
      refine ⟨?_, ?_⟩
      · intro uq18
        have uc19 := lt_t uq18
        exact hP (0 : Int32)
      · intro uq20
        have uc21 := nlt_t uq20
        refine ⟨vin (by omega), ?_⟩
        have ul22 := lit_2
        refine s_X10_riderOf a1 (2 : Int32) (by omega) (by omega) I (fun r9 uy23 uy24 => ?_)
        refine ⟨?_, ?_⟩
        · intro uq25
          have uc26 := le_t uq25
          exact hP (0 : Int32)
        · intro uq27
          have uc28 := nle_t uq27
          have ul29 := lit_4
          refine s_X10_riderOf a1 (4 : Int32) (by omega) (by omega) I (fun r11 uy30 uy31 => ?_)
          refine ⟨vin (by omega), ?_⟩
          refine ⟨?_, ?_⟩
          · intro uq32
            exact hP (0 : Int32)
          · intro uq33
            exact hP (1 : Int32)
set_option maxHeartbeats 4000000 in
theorem s_X10_pullerAt_150 {A : Nat → Nat → Prop} {F : Nat → Nat → Int32} {w : Nat} (x_1 : Int32) (x_3 : Int32) (h_x_1 : 0 ≤ ti (x_1) ∧ ti (x_1) ≤ 15) {σ : zSto} (I : zInv A F w σ) {P : Int32 → zSto → Prop} (hP : ∀ (r : Int32) (σ2 : zSto), zInv A F w σ2 → (-1) ≤ ti (r) ∧ ti (r) ≤ 5 → P r σ2) : ∀ (n : Nat) (x_7 : Int32) (x_8 : Int32), (0 ≤ ti (x_8) ∧ ti (x_8) ≤ 6) → (6 - (ti (x_8)) < n) → w_X10_pullerAt_150 x_1 x_3 P n x_7 x_8 σ := by
  intro n
  induction n with
  | zero =>
    intro x_7 x_8 h_x_8 hm
    exfalso
    omega
  | succ n ih =>
    intro x_7 x_8 h_x_8 hm
    unfold w_X10_pullerAt_150
    refine ⟨?_, ?_⟩
    · intro uq1
      have ud2 : 0 ≤ ti ((σ.1 223 26)) ∧ ti ((σ.1 223 26)) ≤ 6 := rdr I kd_223 rfl rfl
      have uc3 := le_t uq1
      have ul4 := lit_m1
      exact hP (-1 : Int32) σ I (by omega)
    · intro uq5
      have ud6 : 0 ≤ ti ((σ.1 223 26)) ∧ ti ((σ.1 223 26)) ≤ 6 := rdr I kd_223 rfl rfl
      have uc7 := nle_t uq5
      refine s_X10_has x_3 x_8 I (fun r4 => ?_)
      intro ub8
      have uc9 := bool_t ub8
      refine ⟨?_, ?_⟩
      · intro uq10
        have ul11 := lit_0
        have uc12 := eq_t uq10
        intro x5 ex5
        have ul13 := lit_1
        have ut14 := tadd (x := x_8) (y := (1 : Int32)) (by omega)
        have ut15 := eq_t ex5
        exact ih x_7 x5 (by omega) (by omega)
      · intro uq16
        have ul17 := lit_0
        have uc18 := ne_t uq16
        refine s_X10_wants x_8 x_1 (by omega) (by omega) I (fun r7 => ?_)
        intro ub19
        have uc20 := bool_t ub19
        refine ⟨?_, ?_⟩
        · intro uq21
          have uc22 := eq_t uq21
          intro x8 ex8
          have ul23 := lit_1
          have ut24 := tadd (x := x_8) (y := (1 : Int32)) (by omega)
          have ut25 := eq_t ex8
          exact ih x_7 x8 (by omega) (by omega)
        · intro uq26
          have uc27 := ne_t uq26
          refine ⟨?_, ?_⟩
          · intro uq28
            intro x9 ex9
            intro x10 ex10
            have ul29 := lit_1
            have ut30 := tadd (x := x_8) (y := (1 : Int32)) (by omega)
            have ut31 := eq_t ex10
            exact ih x9 x10 (by omega) (by omega)
          · intro uq32
            have uc33 := eq_t uq32
            exact hP x_8 σ I (by omega)
set_option maxHeartbeats 4000000 in
theorem s_X10_pullerAt_12 {A : Nat → Nat → Prop} {F : Nat → Nat → Int32} {w : Nat} (pr : okR A) (x_1 : Int32) (x_2 : Int32) (x_3 : Int32) (h_x_1 : 0 ≤ ti (x_1) ∧ ti (x_1) ≤ 15) {P : Int32 → zSto → Prop} (hP : ∀ (r : Int32) (σ2 : zSto), zInv A F w σ2 → (-1) ≤ ti (r) ∧ ti (r) ≤ 5 → P r σ2) : ∀ (n : Nat) (x_4 : Int32) (x_5 : Int32) (x_6 : Int32) (x_7 : Int32) (σ : zSto), zInv A F w σ → ((-1) ≤ ti (x_4) ∧ ti (x_4) ≤ 5) → ((-1) ≤ ti (x_5) ∧ ti (x_5) ≤ 5) → (0 ≤ ti (x_6) ∧ ti (x_6) ≤ 6) → (0 ≤ ti (x_7) ∧ ti (x_7) ≤ 6) → (ti x_6 ≤ ti x_7) → (6 - (ti (x_7)) < n) → w_X10_pullerAt_12 x_1 x_2 x_3 P n x_4 x_5 x_6 x_7 σ := by
  intro n
  induction n with
  | zero =>
    intro x_4 x_5 x_6 x_7 σ I h_x_4 h_x_5 h_x_6 h_x_7 pre0 hm
    exfalso
    omega
  | succ n ih =>
    intro x_4 x_5 x_6 x_7 σ I h_x_4 h_x_5 h_x_6 h_x_7 pre0 hm
    unfold w_X10_pullerAt_12
    refine ⟨?_, ?_⟩
    · intro uq1
      have ud2 : 0 ≤ ti ((σ.1 223 26)) ∧ ti ((σ.1 223 26)) ≤ 6 := rdr I kd_223 rfl rfl
      have uc3 := le_t uq1
      refine ⟨?_, ?_⟩
      · intro uq4
        have ul5 := lit_2
        refine ⟨?_, ?_⟩
        · intro uq6
          have ul7 := lit_3
          exact hP x_4 σ I (by omega)
        · intro uq8
          have ul9 := lit_3
          have uc10 := eq_t uq8
          exact hP x_5 σ I (by omega)
      · intro uq11
        have ul12 := lit_2
        have uc13 := eq_t uq11
        refine ⟨?_, ?_⟩
        · intro uq14
          have ul15 := lit_0
          have uc16 := ne_t uq14
          refine s_X10_draw pr x_6 (by omega) I (fun r2 σ1 uI17 => ?_)
          refine ⟨70000, ?_⟩
          exact s_X10_pullerAt_150 x_1 x_3 (by omega) uI17 hP 70000 r2 (0 : Int32) (by omega) (by omega)
        · intro uq18
          have ul19 := lit_0
          have uc20 := eq_t uq18
          refine ⟨?_, ?_⟩
          · intro uq21
            have ul22 := lit_3
            exact hP x_4 σ I (by omega)
          · intro uq23
            have ul24 := lit_3
            have uc25 := eq_t uq23
            exact hP x_5 σ I (by omega)
    · intro uq26
      have ud27 : 0 ≤ ti ((σ.1 223 26)) ∧ ti ((σ.1 223 26)) ≤ 6 := rdr I kd_223 rfl rfl
      have uc28 := nle_t uq26
      refine ⟨?_, ?_⟩
      · intro uq29
        have ul30 := lit_m1
        have uc31 := eq_t uq29
        refine ⟨?_, ?_⟩
        · intro uq32
          have ul33 := lit_2
          refine ⟨?_, ?_⟩
          · intro uq34
            have ul35 := lit_3
            exact hP x_4 σ I (by omega)
          · intro uq36
            have ul37 := lit_3
            have uc38 := eq_t uq36
            exact hP x_5 σ I (by omega)
        · intro uq39
          have ul40 := lit_2
          have uc41 := eq_t uq39
          refine ⟨?_, ?_⟩
          · intro uq42
            have ul43 := lit_0
            have uc44 := ne_t uq42
            refine s_X10_draw pr x_6 (by omega) I (fun r12 σ11 uI45 => ?_)
            refine ⟨70000, ?_⟩
            exact s_X10_pullerAt_150 x_1 x_3 (by omega) uI45 hP 70000 r12 (0 : Int32) (by omega) (by omega)
          · intro uq46
            have ul47 := lit_0
            have uc48 := eq_t uq46
            refine ⟨?_, ?_⟩
            · intro uq49
              have ul50 := lit_3
              exact hP x_4 σ I (by omega)
            · intro uq51
              have ul52 := lit_3
              have uc53 := eq_t uq51
              exact hP x_5 σ I (by omega)
      · intro uq54
        have ul55 := lit_m1
        refine s_X10_has x_3 x_7 I (fun r14 => ?_)
        intro ub56
        have uc57 := bool_t ub56
        refine ⟨?_, ?_⟩
        · intro uq58
          have ul59 := lit_0
          have uc60 := eq_t uq58
          intro x15 ex15
          have ul61 := lit_1
          have ut62 := tadd (x := x_7) (y := (1 : Int32)) (by omega)
          have ut63 := eq_t ex15
          exact ih x_4 x_5 x_6 x15 σ I (by omega) (by omega) (by omega) (by omega) (by omega) (by omega)
        · intro uq64
          have ul65 := lit_0
          have uc66 := ne_t uq64
          refine s_X10_wants x_7 x_1 (by omega) (by omega) I (fun r17 => ?_)
          intro ub67
          have uc68 := bool_t ub67
          refine ⟨?_, ?_⟩
          · intro uq69
            have uc70 := eq_t uq69
            intro x18 ex18
            have ul71 := lit_1
            have ut72 := tadd (x := x_7) (y := (1 : Int32)) (by omega)
            have ut73 := eq_t ex18
            exact ih x_4 x_5 x_6 x18 σ I (by omega) (by omega) (by omega) (by omega) (by omega) (by omega)
          · intro uq74
            have uc75 := ne_t uq74
            refine ⟨?_, ?_⟩
            · intro uq76
              have ul77 := lit_1
              refine ⟨?_, ?_⟩
              · intro uq78
                have uc79 := ne_t uq78
                refine ⟨?_, ?_⟩
                · intro uq80
                  have uc81 := eq_t uq80
                  intro x19 ex19
                  intro x20 ex20
                  have ut82 := tadd (x := x_6) (y := (1 : Int32)) (by omega)
                  have ut83 := eq_t ex19
                  have ut84 := tadd (x := x_7) (y := (1 : Int32)) (by omega)
                  have ut85 := eq_t ex20
                  exact ih x_4 x_7 x19 x20 σ I (by omega) (by omega) (by omega) (by omega) (by omega) (by omega)
                · intro uq86
                  have uc87 := ne_t uq86
                  have ul88 := lit_5
                  refine s_X10_riderOf x_7 (5 : Int32) (by omega) (by omega) I (fun r22 uy89 uy90 => ?_)
                  refine s_X10_riderOf x_5 (5 : Int32) (by omega) (by omega) I (fun r24 uy91 uy92 => ?_)
                  refine ⟨?_, ?_⟩
                  · intro uq93
                    have uc94 := le_t uq93
                    intro x25 ex25
                    intro x26 ex26
                    have ut95 := tadd (x := x_6) (y := (1 : Int32)) (by omega)
                    have ut96 := eq_t ex25
                    have ut97 := tadd (x := x_7) (y := (1 : Int32)) (by omega)
                    have ut98 := eq_t ex26
                    exact ih x_4 x_5 x25 x26 σ I (by omega) (by omega) (by omega) (by omega) (by omega) (by omega)
                  · intro uq99
                    have uc100 := nle_t uq99
                    intro x27 ex27
                    intro x28 ex28
                    have ut101 := tadd (x := x_6) (y := (1 : Int32)) (by omega)
                    have ut102 := eq_t ex27
                    have ut103 := tadd (x := x_7) (y := (1 : Int32)) (by omega)
                    have ut104 := eq_t ex28
                    exact ih x_4 x_7 x27 x28 σ I (by omega) (by omega) (by omega) (by omega) (by omega) (by omega)
              · intro uq105
                have uc106 := eq_t uq105
                refine ⟨?_, ?_⟩
                · intro uq107
                  have uc108 := eq_t uq107
                  intro x29 ex29
                  intro x30 ex30
                  have ut109 := tadd (x := x_6) (y := (1 : Int32)) (by omega)
                  have ut110 := eq_t ex29
                  have ut111 := tadd (x := x_7) (y := (1 : Int32)) (by omega)
                  have ut112 := eq_t ex30
                  exact ih x_7 x_7 x29 x30 σ I (by omega) (by omega) (by omega) (by omega) (by omega) (by omega)
                · intro uq113
                  have uc114 := ne_t uq113
                  have ul115 := lit_5
                  refine s_X10_riderOf x_7 (5 : Int32) (by omega) (by omega) I (fun r32 uy116 uy117 => ?_)
                  refine s_X10_riderOf x_5 (5 : Int32) (by omega) (by omega) I (fun r34 uy118 uy119 => ?_)
                  refine ⟨?_, ?_⟩
                  · intro uq120
                    have uc121 := le_t uq120
                    intro x35 ex35
                    intro x36 ex36
                    have ut122 := tadd (x := x_6) (y := (1 : Int32)) (by omega)
                    have ut123 := eq_t ex35
                    have ut124 := tadd (x := x_7) (y := (1 : Int32)) (by omega)
                    have ut125 := eq_t ex36
                    exact ih x_7 x_5 x35 x36 σ I (by omega) (by omega) (by omega) (by omega) (by omega) (by omega)
                  · intro uq126
                    have uc127 := nle_t uq126
                    intro x37 ex37
                    intro x38 ex38
                    have ut128 := tadd (x := x_6) (y := (1 : Int32)) (by omega)
                    have ut129 := eq_t ex37
                    have ut130 := tadd (x := x_7) (y := (1 : Int32)) (by omega)
                    have ut131 := eq_t ex38
                    exact ih x_7 x_7 x37 x38 σ I (by omega) (by omega) (by omega) (by omega) (by omega) (by omega)
            · intro uq132
              have ul133 := lit_1
              have uc134 := eq_t uq132
              refine ⟨vin (by omega), ?_⟩
              refine ⟨?_, ?_⟩
              · intro uq135
                have ud136 : 0 ≤ ti ((σ.1 244 ((x_7).toNatClampNeg))) ∧ ti ((σ.1 244 ((x_7).toNatClampNeg))) ≤ 1 := rdr I kd_244 rfl rfl
                have uc137 := ne_t uq135
                intro x40 ex40
                have ut138 := tadd (x := x_7) (y := (1 : Int32)) (by omega)
                have ut139 := eq_t ex40
                exact ih x_4 x_5 x_6 x40 σ I (by omega) (by omega) (by omega) (by omega) (by omega) (by omega)
              · intro uq140
                have ud141 : 0 ≤ ti ((σ.1 244 ((x_7).toNatClampNeg))) ∧ ti ((σ.1 244 ((x_7).toNatClampNeg))) ≤ 1 := rdr I kd_244 rfl rfl
                have uc142 := eq_t uq140
                refine ⟨?_, ?_⟩
                · intro uq143
                  have uc144 := ne_t uq143
                  refine ⟨?_, ?_⟩
                  · intro uq145
                    have uc146 := eq_t uq145
                    intro x41 ex41
                    intro x42 ex42
                    have ut147 := tadd (x := x_6) (y := (1 : Int32)) (by omega)
                    have ut148 := eq_t ex41
                    have ut149 := tadd (x := x_7) (y := (1 : Int32)) (by omega)
                    have ut150 := eq_t ex42
                    exact ih x_4 x_7 x41 x42 σ I (by omega) (by omega) (by omega) (by omega) (by omega) (by omega)
                  · intro uq151
                    have uc152 := ne_t uq151
                    have ul153 := lit_5
                    refine s_X10_riderOf x_7 (5 : Int32) (by omega) (by omega) I (fun r44 uy154 uy155 => ?_)
                    refine s_X10_riderOf x_5 (5 : Int32) (by omega) (by omega) I (fun r46 uy156 uy157 => ?_)
                    refine ⟨?_, ?_⟩
                    · intro uq158
                      have uc159 := le_t uq158
                      intro x47 ex47
                      intro x48 ex48
                      have ut160 := tadd (x := x_6) (y := (1 : Int32)) (by omega)
                      have ut161 := eq_t ex47
                      have ut162 := tadd (x := x_7) (y := (1 : Int32)) (by omega)
                      have ut163 := eq_t ex48
                      exact ih x_4 x_5 x47 x48 σ I (by omega) (by omega) (by omega) (by omega) (by omega) (by omega)
                    · intro uq164
                      have uc165 := nle_t uq164
                      intro x49 ex49
                      intro x50 ex50
                      have ut166 := tadd (x := x_6) (y := (1 : Int32)) (by omega)
                      have ut167 := eq_t ex49
                      have ut168 := tadd (x := x_7) (y := (1 : Int32)) (by omega)
                      have ut169 := eq_t ex50
                      exact ih x_4 x_7 x49 x50 σ I (by omega) (by omega) (by omega) (by omega) (by omega) (by omega)
                · intro uq170
                  have uc171 := eq_t uq170
                  refine ⟨?_, ?_⟩
                  · intro uq172
                    have uc173 := eq_t uq172
                    intro x51 ex51
                    intro x52 ex52
                    have ut174 := tadd (x := x_6) (y := (1 : Int32)) (by omega)
                    have ut175 := eq_t ex51
                    have ut176 := tadd (x := x_7) (y := (1 : Int32)) (by omega)
                    have ut177 := eq_t ex52
                    exact ih x_7 x_7 x51 x52 σ I (by omega) (by omega) (by omega) (by omega) (by omega) (by omega)
                  · intro uq178
                    have uc179 := ne_t uq178
                    have ul180 := lit_5
                    refine s_X10_riderOf x_7 (5 : Int32) (by omega) (by omega) I (fun r54 uy181 uy182 => ?_)
                    refine s_X10_riderOf x_5 (5 : Int32) (by omega) (by omega) I (fun r56 uy183 uy184 => ?_)
                    refine ⟨?_, ?_⟩
                    · intro uq185
                      have uc186 := le_t uq185
                      intro x57 ex57
                      intro x58 ex58
                      have ut187 := tadd (x := x_6) (y := (1 : Int32)) (by omega)
                      have ut188 := eq_t ex57
                      have ut189 := tadd (x := x_7) (y := (1 : Int32)) (by omega)
                      have ut190 := eq_t ex58
                      exact ih x_7 x_5 x57 x58 σ I (by omega) (by omega) (by omega) (by omega) (by omega) (by omega)
                    · intro uq191
                      have uc192 := nle_t uq191
                      intro x59 ex59
                      intro x60 ex60
                      have ut193 := tadd (x := x_6) (y := (1 : Int32)) (by omega)
                      have ut194 := eq_t ex59
                      have ut195 := tadd (x := x_7) (y := (1 : Int32)) (by omega)
                      have ut196 := eq_t ex60
                      exact ih x_7 x_7 x59 x60 σ I (by omega) (by omega) (by omega) (by omega) (by omega) (by omega)
set_option maxHeartbeats 4000000 in
theorem s_X10_pullerAt {A : Nat → Nat → Prop} {F : Nat → Nat → Int32} {w : Nat} (pr : okR A) (a1 : Int32) (a2 : Int32) (a3 : Int32) (h_a1 : 0 ≤ ti (a1) ∧ ti (a1) ≤ 15) {σ : zSto} (I : zInv A F w σ) {P : Int32 → zSto → Prop} (hP : ∀ (r : Int32) (σ2 : zSto), zInv A F w σ2 → (-1) ≤ ti (r) ∧ ti (r) ≤ 5 → P r σ2) : w_X10_pullerAt a1 a2 a3 σ P := by
  unfold w_X10_pullerAt
  refine ⟨70000, ?_⟩
  have ul1 := lit_m1
  have ul2 := lit_0
  exact s_X10_pullerAt_12 pr a1 a2 a3 (by omega) hP 70000 (-1 : Int32) (-1 : Int32) (0 : Int32) (0 : Int32) σ I (by omega) (by omega) (by omega) (by omega) (by omega) (by omega)
set_option maxHeartbeats 4000000 in
theorem s_X10_begin_12 {A : Nat → Nat → Prop} {F : Nat → Nat → Int32} {w : Nat} (pr : okR A) {P : zSto → Prop} (hP : ∀ (σ2 : zSto), zInv A F w σ2 → P σ2) : ∀ (n : Nat) (x_1 : Int32) (σ : zSto), zInv A F w σ → (0 ≤ ti (x_1) ∧ ti (x_1) ≤ 6) → (6 - (ti (x_1)) < n) → w_X10_begin_12 P n x_1 σ := by
  intro n
  induction n with
  | zero =>
    intro x_1 σ I h_x_1 hm
    exfalso
    omega
  | succ n ih =>
    intro x_1 σ I h_x_1 hm
    unfold w_X10_begin_12
    refine ⟨?_, ?_⟩
    · intro uq1
      have ul2 := lit_6
      have uc3 := le_t uq1
      exact hP σ I
    · intro uq4
      have ul5 := lit_6
      have uc6 := nle_t uq4
      refine ⟨vin (by omega), ?_⟩
      intro σ4 eσ4
      have uI7 : zInv A F w σ4 := by rw [eσ4]; exact wI0 I (pR pr (by decide)) rk_241 kd_241
      refine ⟨vin (by omega), ?_⟩
      intro σ6 eσ6
      have uI8 : zInv A F w σ6 := by rw [eσ6]; exact wI0 uI7 (pR pr (by decide)) rk_243 kd_243
      refine ⟨vin (by omega), ?_⟩
      intro σ8 eσ8
      have ut10 : ti ((vp_nar .boolean (0 : Int32))) = 0 := by rw [ti_eq]; decide
      have uI9 : zInv A F w σ8 := by rw [eσ8]; exact wIr (a := 0) (b := 1) uI8 (pR pr (by decide)) (rl0 rk_244) kd_244 rfl rfl (by omega)
      intro x9 ex9
      have ul11 := lit_1
      have ut12 := tadd (x := x_1) (y := (1 : Int32)) (by omega)
      have ut13 := eq_t ex9
      exact ih x9 σ8 uI9 (by omega) (by omega)
set_option maxHeartbeats 4000000 in
theorem s_X10_begin {A : Nat → Nat → Prop} {F : Nat → Nat → Int32} {w : Nat} (pr : okR A) {σ : zSto} (I : zInv A F w σ) {P : zSto → Prop} (hP : ∀ (σ2 : zSto), zInv A F w σ2 → P σ2) : w_X10_begin σ P := by
  unfold w_X10_begin
  intro σ1 eσ1
  have uI1 : zInv A F w σ1 := by rw [eσ1]; exact wIr I (pRo pr (by decide)) (by decide) kd_223 rfl rfl (full32 _)
  intro σ2 eσ2
  have uI2 : zInv A F w σ2 := by rw [eσ2]; exact wIr uI1 (pRo pr (by decide)) (by decide) kd_223 rfl rfl (full32 _)
  refine ⟨70000, ?_⟩
  have ul3 := lit_0
  exact s_X10_begin_12 pr hP 70000 (0 : Int32) σ2 uI2 (by omega) (by omega)
set_option maxHeartbeats 4000000 in
theorem s_X10_pullsAt {A : Nat → Nat → Prop} {F : Nat → Nat → Int32} {w : Nat} (pr : okR A) (a1 : Int32) (a2 : Int32) (h_a1 : 0 ≤ ti (a1) ∧ ti (a1) ≤ 15) (h_a2 : (-1) ≤ ti (a2) ∧ ti (a2) ≤ 5) {σ : zSto} (I : zInv A F w σ) {P : zSto → Prop} (hP : ∀ (σ2 : zSto), zInv A F w σ2 → P σ2) : w_X10_pullsAt a1 a2 σ P := by
  unfold w_X10_pullsAt
  refine ⟨vin (by omega), ?_⟩
  intro σ2 eσ2
  have uI1 : zInv A F w σ2 := by rw [eσ2]; exact wI0 I (pR pr (by decide)) rk_240 kd_240
  refine ⟨vin (by omega), ?_⟩
  intro σ4 eσ4
  have uI2 : zInv A F w σ4 := by rw [eσ4]; exact wI0 uI1 (pR pr (by decide)) rk_242 kd_242
  refine ⟨?_, ?_⟩
  · intro uq3
    have ul4 := lit_m1
    have uc5 := ne_t uq3
    have ul6 := lit_2
    refine s_X10_riderOf a2 (2 : Int32) (by omega) (by omega) uI2 (fun r6 uy7 uy8 => ?_)
    refine ⟨vin (by omega), ?_⟩
    intro x8 ex8
    refine ⟨vin (by omega), ?_⟩
    refine ⟨?_, ?_⟩
    · intro uq9
      have ue10 : ti ((σ4.1 238 ((a1).toNatClampNeg))) = ti ((σ2.1 238 ((a1).toNatClampNeg))) := by rw [eσ4]; exact congrArg ti (zI_q (Or.inl (by omega)))
      have ue11 : ti ((σ2.1 238 ((a1).toNatClampNeg))) = ti ((σ.1 238 ((a1).toNatClampNeg))) := by rw [eσ2]; exact congrArg ti (zI_q (Or.inl (by omega)))
      have uc12 := le_t uq9
      refine ⟨vin (by omega), ?_⟩
      refine ⟨vin (by omega), ?_⟩
      intro σ12 eσ12
      have uI13 : zInv A F w σ12 := by rw [eσ12]; exact wI0 uI2 (pR pr (by decide)) rk_241 kd_241
      refine ⟨vin (by omega), ?_⟩
      intro σ14 eσ14
      have uI14 : zInv A F w σ14 := by rw [eσ14]; exact wI0 uI13 (pR pr (by decide)) rk_242 kd_242
      refine ⟨vin (by omega), ?_⟩
      refine ⟨vin (by omega), ?_⟩
      intro σ17 eσ17
      have uI15 : zInv A F w σ17 := by rw [eσ17]; exact wI0 uI14 (pR pr (by decide)) rk_243 kd_243
      intro σ18 eσ18
      have uI16 : zInv A F w σ18 := by rw [eσ18]; exact wIr uI15 (pRo pr (by decide)) (by decide) kd_223 rfl rfl (full32 _)
      refine ⟨vin (by omega), ?_⟩
      intro σ20 eσ20
      have ut18 : ti ((vp_nar .boolean (1 : Int32))) = 1 := by rw [ti_eq]; decide
      have uI17 : zInv A F w σ20 := by rw [eσ20]; exact wIr (a := 0) (b := 1) uI16 (pR pr (by decide)) (rl0 rk_244) kd_244 rfl rfl (by omega)
      refine ⟨vin (by omega), ?_⟩
      intro σ22 eσ22
      have uI19 : zInv A F w σ22 := by rw [eσ22]; exact wIr uI17 (pRo pr (by decide)) (by decide) kd_223 rfl rfl (full32 _)
      exact hP σ22 uI19
    · intro uq20
      have ue21 : ti ((σ4.1 238 ((a1).toNatClampNeg))) = ti ((σ2.1 238 ((a1).toNatClampNeg))) := by rw [eσ4]; exact congrArg ti (zI_q (Or.inl (by omega)))
      have ue22 : ti ((σ2.1 238 ((a1).toNatClampNeg))) = ti ((σ.1 238 ((a1).toNatClampNeg))) := by rw [eσ2]; exact congrArg ti (zI_q (Or.inl (by omega)))
      have uc23 := nle_t uq20
      refine ⟨vin (by omega), ?_⟩
      intro x24 ex24
      refine ⟨vin (by omega), ?_⟩
      refine ⟨vin (by omega), ?_⟩
      intro σ27 eσ27
      have uI24 : zInv A F w σ27 := by rw [eσ27]; exact wI0 uI2 (pR pr (by decide)) rk_241 kd_241
      refine ⟨vin (by omega), ?_⟩
      intro σ29 eσ29
      have uI25 : zInv A F w σ29 := by rw [eσ29]; exact wI0 uI24 (pR pr (by decide)) rk_242 kd_242
      refine ⟨vin (by omega), ?_⟩
      refine ⟨vin (by omega), ?_⟩
      intro σ32 eσ32
      have uI26 : zInv A F w σ32 := by rw [eσ32]; exact wI0 uI25 (pR pr (by decide)) rk_243 kd_243
      intro σ33 eσ33
      have uI27 : zInv A F w σ33 := by rw [eσ33]; exact wIr uI26 (pRo pr (by decide)) (by decide) kd_223 rfl rfl (full32 _)
      refine ⟨vin (by omega), ?_⟩
      intro σ35 eσ35
      have ut29 : ti ((vp_nar .boolean (1 : Int32))) = 1 := by rw [ti_eq]; decide
      have uI28 : zInv A F w σ35 := by rw [eσ35]; exact wIr (a := 0) (b := 1) uI27 (pR pr (by decide)) (rl0 rk_244) kd_244 rfl rfl (by omega)
      refine ⟨vin (by omega), ?_⟩
      intro σ37 eσ37
      have uI30 : zInv A F w σ37 := by rw [eσ37]; exact wIr uI28 (pRo pr (by decide)) (by decide) kd_223 rfl rfl (full32 _)
      exact hP σ37 uI30
  · intro uq31
    have ul32 := lit_m1
    have uc33 := eq_t uq31
    exact hP σ4 uI2
set_option maxHeartbeats 4000000 in
theorem s_X10_timesBy_16 {A : Nat → Nat → Prop} {F : Nat → Nat → Int32} {w : Nat} (pr : okR A) {P : zSto → Prop} (hP : ∀ (σ2 : zSto), zInv A F w σ2 → P σ2) : ∀ (n : Nat) (x_1 : Int32) (x_2 : Int32) (x_3 : Int32) (σ : zSto), zInv A F w σ → (0 ≤ ti (x_3) ∧ ti (x_3) ≤ 16) → (16 - (ti (x_3)) < n) → w_X10_timesBy_16 P n x_1 x_2 x_3 σ := by
  intro n
  induction n with
  | zero =>
    intro x_1 x_2 x_3 σ I h_x_3 hm
    exfalso
    omega
  | succ n ih =>
    intro x_1 x_2 x_3 σ I h_x_3 hm
    unfold w_X10_timesBy_16
    refine ⟨?_, ?_⟩
    · intro uq1
      have ud2 : 0 ≤ ti ((σ.1 223 24)) ∧ ti ((σ.1 223 24)) ≤ 16 := rdr I kd_223 rfl rfl
      have uc3 := le_t uq1
      exact hP σ I
    · intro uq4
      have ud5 : 0 ≤ ti ((σ.1 223 24)) ∧ ti ((σ.1 223 24)) ≤ 16 := rdr I kd_223 rfl rfl
      have uc6 := nle_t uq4
      refine ⟨vin (by omega), ?_⟩
      intro σ4 eσ4
      have uI7 : zInv A F w σ4 := by rw [eσ4]; exact wI0 I (pR pr (by decide)) rk_239 kd_239
      have ul8 := lit_4
      refine s_X10_postOf x_3 (4 : Int32) (by omega) (by omega) uI7 (fun r6 uy9 uy10 uy11 => ?_)
      refine ⟨?_, ?_⟩
      · intro uq12
        have ul13 := lit_m1
        have uc14 := eq_t uq12
        refine ⟨vin (by omega), ?_⟩
        refine ⟨?_, ?_⟩
        · intro uq15
          have ue16 : ti ((σ4.1 240 ((x_3).toNatClampNeg))) = ti ((σ.1 240 ((x_3).toNatClampNeg))) := by rw [eσ4]; exact congrArg ti (zI_q (Or.inl (by omega)))
          have uc17 := eq_t uq15
          refine ⟨vin (by omega), ?_⟩
          intro x9 ex9
          intro x10 ex10
          have ul18 := lit_1
          have ut19 := tadd (x := x_3) (y := (1 : Int32)) (by omega)
          have ut20 := eq_t ex10
          exact ih x9 x_2 x10 σ4 uI7 (by omega) (by omega)
        · intro uq21
          have ue22 : ti ((σ4.1 240 ((x_3).toNatClampNeg))) = ti ((σ.1 240 ((x_3).toNatClampNeg))) := by rw [eσ4]; exact congrArg ti (zI_q (Or.inl (by omega)))
          intro x11 ex11
          have ul23 := lit_5
          refine s_X10_of (5 : Int32) (by omega) uI7 (fun r13 uy24 uy25 uy26 => ?_)
          refine ⟨?_, ?_⟩
          · intro uq27
            intro σ14 eσ14
            have uI28 : zInv A F w σ14 := by rw [eσ14]; exact wIr uI7 (pRo pr (by decide)) (by decide) kd_223 rfl rfl (full32 _)
            refine ⟨vin (by omega), ?_⟩
            intro x16 ex16
            refine ⟨vin (by omega), ?_⟩
            intro x18 ex18
            intro x19 ex19
            have ul29 := lit_1
            have ut30 := tadd (x := x_3) (y := (1 : Int32)) (by omega)
            have ut31 := eq_t ex19
            exact ih x18 x11 x19 σ14 uI28 (by omega) (by omega)
          · intro uq32
            have uc33 := eq_t uq32
            intro σ20 eσ20
            have uI34 : zInv A F w σ20 := by rw [eσ20]; exact wIr uI7 (pRo pr (by decide)) (by decide) kd_223 rfl rfl (full32 _)
            refine ⟨vin (by omega), ?_⟩
            intro x22 ex22
            refine ⟨vin (by omega), ?_⟩
            intro x24 ex24
            intro x25 ex25
            have ul35 := lit_1
            have ut36 := tadd (x := x_3) (y := (1 : Int32)) (by omega)
            have ut37 := eq_t ex25
            exact ih x24 x11 x25 σ20 uI34 (by omega) (by omega)
      · intro uq38
        have ul39 := lit_m1
        refine s_X10_postOf x_3 (4 : Int32) (by omega) (by omega) uI7 (fun r27 uy40 uy41 uy42 => ?_)
        refine s_X10_of (4 : Int32) (by omega) uI7 (fun r29 uy43 uy44 uy45 => ?_)
        refine s_X10_greater (0 : Int32) ((x_1 - r27) - r29) uI7 (fun r31 => ?_)
        intro σ32 eσ32
        have uI46 : zInv A F w σ32 := by rw [eσ32]; exact wIr uI7 (pRo pr (by decide)) (by decide) kd_223 rfl rfl (full32 _)
        refine ⟨vin (by omega), ?_⟩
        refine ⟨?_, ?_⟩
        · intro uq47
          have ue48 : ti ((σ32.1 240 ((x_3).toNatClampNeg))) = ti ((σ4.1 240 ((x_3).toNatClampNeg))) := by rw [eσ32]; exact congrArg ti (zI_q (Or.inl (by omega)))
          have ue49 : ti ((σ4.1 240 ((x_3).toNatClampNeg))) = ti ((σ.1 240 ((x_3).toNatClampNeg))) := by rw [eσ4]; exact congrArg ti (zI_q (Or.inl (by omega)))
          have uc50 := eq_t uq47
          refine ⟨vin (by omega), ?_⟩
          intro x35 ex35
          intro x36 ex36
          have ul51 := lit_1
          have ut52 := tadd (x := x_3) (y := (1 : Int32)) (by omega)
          have ut53 := eq_t ex36
          exact ih x35 x_2 x36 σ32 uI46 (by omega) (by omega)
        · intro uq54
          have ue55 : ti ((σ32.1 240 ((x_3).toNatClampNeg))) = ti ((σ4.1 240 ((x_3).toNatClampNeg))) := by rw [eσ32]; exact congrArg ti (zI_q (Or.inl (by omega)))
          have ue56 : ti ((σ4.1 240 ((x_3).toNatClampNeg))) = ti ((σ.1 240 ((x_3).toNatClampNeg))) := by rw [eσ4]; exact congrArg ti (zI_q (Or.inl (by omega)))
          intro x37 ex37
          have ul57 := lit_5
          refine s_X10_of (5 : Int32) (by omega) uI46 (fun r39 uy58 uy59 uy60 => ?_)
          refine ⟨?_, ?_⟩
          · intro uq61
            intro σ40 eσ40
            have uI62 : zInv A F w σ40 := by rw [eσ40]; exact wIr uI46 (pRo pr (by decide)) (by decide) kd_223 rfl rfl (full32 _)
            refine ⟨vin (by omega), ?_⟩
            intro x42 ex42
            refine ⟨vin (by omega), ?_⟩
            intro x44 ex44
            intro x45 ex45
            have ul63 := lit_1
            have ut64 := tadd (x := x_3) (y := (1 : Int32)) (by omega)
            have ut65 := eq_t ex45
            exact ih x44 x37 x45 σ40 uI62 (by omega) (by omega)
          · intro uq66
            have uc67 := eq_t uq66
            intro σ46 eσ46
            have uI68 : zInv A F w σ46 := by rw [eσ46]; exact wIr uI46 (pRo pr (by decide)) (by decide) kd_223 rfl rfl (full32 _)
            refine ⟨vin (by omega), ?_⟩
            intro x48 ex48
            refine ⟨vin (by omega), ?_⟩
            intro x50 ex50
            intro x51 ex51
            have ul69 := lit_1
            have ut70 := tadd (x := x_3) (y := (1 : Int32)) (by omega)
            have ut71 := eq_t ex51
            exact ih x50 x37 x51 σ46 uI68 (by omega) (by omega)
set_option maxHeartbeats 4000000 in
theorem s_X10_timesBy {A : Nat → Nat → Prop} {F : Nat → Nat → Int32} {w : Nat} (pr : okR A) {σ : zSto} (I : zInv A F w σ) {P : zSto → Prop} (hP : ∀ (σ2 : zSto), zInv A F w σ2 → P σ2) : w_X10_timesBy σ P := by
  unfold w_X10_timesBy
  intro σ1 eσ1
  have uI1 : zInv A F w σ1 := by rw [eσ1]; exact wIr I (pRo pr (by decide)) (by decide) kd_223 rfl rfl (full32 _)
  intro σ2 eσ2
  have uI2 : zInv A F w σ2 := by rw [eσ2]; exact wIr uI1 (pRo pr (by decide)) (by decide) kd_223 rfl rfl (full32 _)
  refine ⟨70000, ?_⟩
  have ul3 := lit_0
  exact s_X10_timesBy_16 pr hP 70000 (0 : Int32) (0 : Int32) (0 : Int32) σ2 uI2 (by omega) (by omega)
set_option maxHeartbeats 4000000 in
theorem s_X10_go_12 {A : Nat → Nat → Prop} {F : Nat → Nat → Int32} {w : Nat} (pr : okR A) (x_1 : Int32) (x_3 : Int32) {P : zSto → Prop} (hP : ∀ (σ2 : zSto), zInv A F w σ2 → P σ2) : ∀ (n : Nat) (x_4 : Int32) (σ : zSto), zInv A F w σ → (0 ≤ ti (x_4) ∧ ti (x_4) ≤ 15) → (15 - (ti (x_4)) < n) → w_X10_go_12 x_1 x_3 P n x_4 σ := by
  intro n
  induction n with
  | zero =>
    intro x_4 σ I h_x_4 hm
    exfalso
    omega
  | succ n ih =>
    intro x_4 σ I h_x_4 hm
    unfold w_X10_go_12
    refine ⟨?_, ?_⟩
    · intro uq1
      have ud2 : 0 ≤ ti ((σ.1 223 25)) ∧ ti ((σ.1 223 25)) ≤ 15 := rdr I kd_223 rfl rfl
      have uc3 := le_t uq1
      refine ⟨vin (by omega), ?_⟩
      intro σ4 eσ4
      have uI4 : zInv A F w σ4 := by rw [eσ4]; exact wI0 I (pR pr (by decide)) rk_240 kd_240
      have ue5 : ti ((σ4.1 223 25)) = ti ((σ.1 223 25)) := by rw [eσ4]; exact congrArg ti (zI_q (Or.inl (by omega)))
      have ud6 : 0 ≤ ti ((σ4.1 223 25)) ∧ ti ((σ4.1 223 25)) ≤ 15 := rdr uI4 kd_223 rfl rfl
      refine ⟨vin (by omega), ?_⟩
      intro σ6 eσ6
      have uI7 : zInv A F w σ6 := by rw [eσ6]; exact wI0 uI4 (pR pr (by decide)) rk_242 kd_242
      refine s_X10_timesBy pr uI7 (fun σ7 uI8 => ?_)
      exact hP σ7 uI8
    · intro uq9
      have ud10 : 0 ≤ ti ((σ.1 223 25)) ∧ ti ((σ.1 223 25)) ≤ 15 := rdr I kd_223 rfl rfl
      have uc11 := nle_t uq9
      refine s_X10_pullerAt pr x_4 x_1 x_3 (by omega) I (fun r9 σ8 uI12 hr9 => ?_)
      refine s_X10_pullsAt pr x_4 r9 (by omega) (by omega) uI12 (fun σ10 uI13 => ?_)
      intro x11 ex11
      have ul14 := lit_1
      have ut15 := tadd (x := x_4) (y := (1 : Int32)) (by omega)
      have ut16 := eq_t ex11
      exact ih x11 σ10 uI13 (by omega) (by omega)
set_option maxHeartbeats 4000000 in
theorem s_X10_go {A : Nat → Nat → Prop} {F : Nat → Nat → Int32} {w : Nat} (pr : okR A) (a1 : Int32) (a2 : Int32) (a3 : Int32) {σ : zSto} (I : zInv A F w σ) {P : zSto → Prop} (hP : ∀ (σ2 : zSto), zInv A F w σ2 → P σ2) : w_X10_go a1 a2 a3 σ P := by
  unfold w_X10_go
  intro σ1 eσ1
  have uI1 : zInv A F w σ1 := by rw [eσ1]; exact wIr I (pRo pr (by decide)) (by decide) kd_223 rfl rfl (full32 _)
  refine s_X10_begin pr uI1 (fun σ2 uI2 => ?_)
  refine ⟨70000, ?_⟩
  have ul3 := lit_0
  exact s_X10_go_12 pr a1 a3 hP 70000 (0 : Int32) σ2 uI2 (by omega) (by omega)
set_option maxHeartbeats 4000000 in
theorem s_X10_everyone {A : Nat → Nat → Prop} {F : Nat → Nat → Int32} {w : Nat} {σ : zSto} (I : zInv A F w σ) {P : Int32 → zSto → Prop} (hP : ∀ (r : Int32), 0 ≤ ti (r) ∧ ti (r) ≤ 63 → P r σ) : w_X10_everyone σ P := by
  unfold w_X10_everyone
  have ud1 : 0 ≤ ti ((σ.1 223 26)) ∧ ti ((σ.1 223 26)) ≤ 6 := rdr I kd_223 rfl rfl
  have ut2 := shl1_6 (x := (σ.1 223 26)) (by omega)
  have ul3 := lit_1
  have ut4 := tsub (x := ((1 : Int32) <<< ((σ.1 223 26) &&& 31))) (y := (1 : Int32)) (by omega)
  exact hP (((1 : Int32) <<< ((σ.1 223 26) &&& 31)) - (1 : Int32)) (by omega)
set_option maxHeartbeats 4000000 in
theorem s_X10_layRun {A : Nat → Nat → Prop} {F : Nat → Nat → Int32} {w : Nat} (pr : okR A) (a1 : Int32) (a2 : Int32) (a3 : Int32) (a4 : Int32) {σ : zSto} (I : zInv A F w σ) {P : Int32 → zSto → Prop} (hP : ∀ (r : Int32) (σ2 : zSto), zInv A F w σ2 → P r σ2) : w_X10_layRun a1 a2 a3 a4 σ P := by
  unfold w_X10_layRun
  have ul1 := lit_m1
  have ul2 := lit_3
  refine s_X10_in a2 (-1 : Int32) (3 : Int32) I (fun r2 uz3 => ?_)
  intro ub4
  have uc5 := bool_t ub4
  refine ⟨?_, ?_⟩
  · intro uq6
    have ul7 := lit_0
    have uc8 := eq_t uq6
    exact hP (0 : Int32) σ I
  · intro uq9
    have uc10 := uz3 uq9
    have ul11 := lit_0
    have uc12 := ne_t uq9
    refine s_X10_hand pr a1 a4 I (fun r4 σ3 uI13 uz14 => ?_)
    intro ub15
    have uc16 := bool_t ub15
    refine ⟨?_, ?_⟩
    · intro uq17
      have uc18 := uz14 uq17
      have uc19 := ne_t uq17
      refine s_X10_everyone uI13 (fun r6 hr6 => ?_)
      refine s_X10_go pr a2 a3 r6 uI13 (fun σ7 uI20 => ?_)
      exact hP (1 : Int32) σ7 uI20
    · intro uq21
      have uc22 := eq_t uq21
      exact hP (0 : Int32) σ3 uI13
set_option maxHeartbeats 4000000 in
theorem s_X10_gathered_4 {A : Nat → Nat → Prop} {F : Nat → Nat → Int32} {w : Nat} {σ : zSto} (I : zInv A F w σ) {P : Int32 → zSto → Prop} (hP : ∀ (r : Int32), P r σ) : ∀ (n : Nat) (x_1 : Int32) (x_2 : Int32), (0 ≤ ti (x_2) ∧ ti (x_2) ≤ 6) → (6 - (ti (x_2)) < n) → w_X10_gathered_4 P n x_1 x_2 σ := by
  intro n
  induction n with
  | zero =>
    intro x_1 x_2 h_x_2 hm
    exfalso
    omega
  | succ n ih =>
    intro x_1 x_2 h_x_2 hm
    unfold w_X10_gathered_4
    refine ⟨?_, ?_⟩
    · intro uq1
      have ud2 : 0 ≤ ti ((σ.1 223 26)) ∧ ti ((σ.1 223 26)) ≤ 6 := rdr I kd_223 rfl rfl
      have uc3 := le_t uq1
      exact hP x_1
    · intro uq4
      have ud5 : 0 ≤ ti ((σ.1 223 26)) ∧ ti ((σ.1 223 26)) ≤ 6 := rdr I kd_223 rfl rfl
      have uc6 := nle_t uq4
      refine ⟨vin (by omega), ?_⟩
      intro x2 ex2
      intro x3 ex3
      have ul7 := lit_1
      have ut8 := tadd (x := x_2) (y := (1 : Int32)) (by omega)
      have ut9 := eq_t ex3
      exact ih x2 x3 (by omega) (by omega)
set_option maxHeartbeats 4000000 in
theorem s_X10_gathered {A : Nat → Nat → Prop} {F : Nat → Nat → Int32} {w : Nat} {σ : zSto} (I : zInv A F w σ) {P : Int32 → zSto → Prop} (hP : ∀ (r : Int32), P r σ) : w_X10_gathered σ P := by
  unfold w_X10_gathered
  refine ⟨70000, ?_⟩
  have ul1 := lit_0
  exact s_X10_gathered_4 I hP 70000 (0 : Int32) (0 : Int32) (by omega) (by omega)
set_option maxHeartbeats 4000000 in
theorem s_X10_stopsOf_4 {A : Nat → Nat → Prop} {F : Nat → Nat → Int32} {w : Nat} {σ : zSto} (I : zInv A F w σ) {P : Int32 → zSto → Prop} (hP : ∀ (r : Int32), P r σ) : ∀ (n : Nat) (x_1 : Int32) (x_2 : Int32), (0 ≤ ti (x_2) ∧ ti (x_2) ≤ 16) → (16 - (ti (x_2)) < n) → w_X10_stopsOf_4 P n x_1 x_2 σ := by
  intro n
  induction n with
  | zero =>
    intro x_1 x_2 h_x_2 hm
    exfalso
    omega
  | succ n ih =>
    intro x_1 x_2 h_x_2 hm
    unfold w_X10_stopsOf_4
    refine ⟨?_, ?_⟩
    · intro uq1
      have ud2 : 0 ≤ ti ((σ.1 223 24)) ∧ ti ((σ.1 223 24)) ≤ 16 := rdr I kd_223 rfl rfl
      have uc3 := le_t uq1
      exact hP x_1
    · intro uq4
      have ud5 : 0 ≤ ti ((σ.1 223 24)) ∧ ti ((σ.1 223 24)) ≤ 16 := rdr I kd_223 rfl rfl
      have uc6 := nle_t uq4
      refine ⟨vin (by omega), ?_⟩
      refine ⟨?_, ?_⟩
      · intro uq7
        have ul8 := lit_m1
        have uc9 := eq_t uq7
        intro x2 ex2
        intro x3 ex3
        have ul10 := lit_1
        have ut11 := tadd (x := x_2) (y := (1 : Int32)) (by omega)
        have ut12 := eq_t ex3
        exact ih x2 x3 (by omega) (by omega)
      · intro uq13
        have ul14 := lit_m1
        intro x4 ex4
        intro x5 ex5
        have ul15 := lit_1
        have ut16 := tadd (x := x_2) (y := (1 : Int32)) (by omega)
        have ut17 := eq_t ex5
        exact ih x4 x5 (by omega) (by omega)
set_option maxHeartbeats 4000000 in
theorem s_X10_stopsOf {A : Nat → Nat → Prop} {F : Nat → Nat → Int32} {w : Nat} {σ : zSto} (I : zInv A F w σ) {P : Int32 → zSto → Prop} (hP : ∀ (r : Int32), P r σ) : w_X10_stopsOf σ P := by
  unfold w_X10_stopsOf
  refine ⟨70000, ?_⟩
  have ul1 := lit_0
  exact s_X10_stopsOf_4 I hP 70000 (0 : Int32) (0 : Int32) (by omega) (by omega)
set_option maxHeartbeats 4000000 in
theorem s_X10_run {A : Nat → Nat → Prop} {F : Nat → Nat → Int32} {w : Nat} (pr : okR A) (a1 : Int32) (a2 : Int32) (a3 : Int32) (a4 : Int32) (a5 : Int32) {σ : zSto} (I : zInv A F w σ) {P : Int32 → zSto → Prop} (hP : ∀ (r : Int32) (σ2 : zSto), zInv A F w σ2 → P r σ2) : w_X10_run a1 a2 a3 a4 a5 σ P := by
  unfold w_X10_run
  intro σ1 eσ1
  have uI1 : zInv A F w σ1 := by rw [eσ1]; exact wIr I (pRo pr (by decide)) (by decide) kd_223 rfl rfl (full32 _)
  refine s_X10_layRun pr a1 a2 a3 a4 uI1 (fun r3 σ2 uI2 => ?_)
  intro ub3
  have uc4 := bool_t ub3
  refine ⟨?_, ?_⟩
  · intro uq5
    have ul6 := lit_0
    have uc7 := ne_t uq5
    have ul8 := lit_100
    have ud9 : 0 ≤ ti ((σ2.1 223 25)) ∧ ti ((σ2.1 223 25)) ≤ 15 := rdr uI2 kd_223 rfl rfl
    have ut10 := tadd (x := (100 : Int32)) (y := (σ2.1 223 25)) (by omega)
    refine s_X10_in a5 (100 : Int32) ((100 : Int32) + (σ2.1 223 25)) uI2 (fun r5 uz11 => ?_)
    intro ub12
    have uc13 := bool_t ub12
    refine ⟨?_, ?_⟩
    · intro uq14
      have uc15 := eq_t uq14
      have ul16 := lit_200
      have ul17 := lit_199
      have ud18 : 0 ≤ ti ((σ2.1 223 26)) ∧ ti ((σ2.1 223 26)) ≤ 6 := rdr uI2 kd_223 rfl rfl
      have ut19 := tadd (x := (199 : Int32)) (y := (σ2.1 223 26)) (by omega)
      refine s_X10_in a5 (200 : Int32) ((199 : Int32) + (σ2.1 223 26)) uI2 (fun r7 uz20 => ?_)
      intro ub21
      have uc22 := bool_t ub21
      refine ⟨?_, ?_⟩
      · intro uq23
        have uc24 := eq_t uq23
        refine ⟨?_, ?_⟩
        · intro uq25
          have uc26 := eq_t uq25
          refine ⟨vin (by omega), ?_⟩
          exact hP (σ2.1 239 (((σ2.1 223 25)).toNatClampNeg)) σ2 uI2
        · refine ⟨?_, ?_⟩
          · intro uq27
            have ul28 := lit_1
            have uc29 := eq_t uq27
            refine s_X10_gathered uI2 (fun r10 => ?_)
            exact hP r10 σ2 uI2
          · refine ⟨?_, ?_⟩
            · intro uq30
              have ul31 := lit_2
              have uc32 := eq_t uq30
              refine s_X10_stopsOf uI2 (fun r12 => ?_)
              refine s_X10_ones r12 uI2 (fun r14 => ?_)
              exact hP r14 σ2 uI2
            · refine ⟨?_, ?_⟩
              · intro uq33
                have ul34 := lit_3
                have uc35 := eq_t uq33
                exact hP (σ2.1 223 31) σ2 uI2
              · refine ⟨?_, ?_⟩
                · intro uq36
                  have ul37 := lit_4
                  have uc38 := eq_t uq36
                  exact hP (σ2.1 223 32) σ2 uI2
                · refine ⟨?_, ?_⟩
                  · intro uq39
                    have ul40 := lit_5
                    have uc41 := eq_t uq39
                    exact hP (σ2.1 223 33) σ2 uI2
                  · refine ⟨?_, ?_⟩
                    · intro uq42
                      have ul43 := lit_6
                      have uc44 := eq_t uq42
                      exact hP (σ2.1 223 34) σ2 uI2
                    · refine ⟨?_, ?_⟩
                      · intro uq45
                        have ul46 := lit_7
                        have uc47 := eq_t uq45
                        refine s_X10_stopsOf uI2 (fun r16 => ?_)
                        exact hP r16 σ2 uI2
                      · intro uq48
                        rw [← ti_eq] at uq48
                        exact hP (-2 : Int32) σ2 uI2
      · intro uq49
        have uc50 := uz20 uq49
        have uc51 := ne_t uq49
        try have ut52 := tsub (x := a5) (y := (200 : Int32)) (by omega)
        refine ⟨vin (by omega), ?_⟩
        exact hP (σ2.1 243 (((a5 - (200 : Int32))).toNatClampNeg)) σ2 uI2
    · intro uq53
      have uc54 := uz11 uq53
      have uc55 := ne_t uq53
      try have ut56 := tsub (x := a5) (y := (100 : Int32)) (by omega)
      refine ⟨vin (by omega), ?_⟩
      exact hP (σ2.1 239 (((a5 - (100 : Int32))).toNatClampNeg)) σ2 uI2
  · intro uq57
    have ul58 := lit_0
    have uc59 := eq_t uq57
    exact hP (-2 : Int32) σ2 uI2
set_option maxHeartbeats 4000000 in
theorem s_X10_who {A : Nat → Nat → Prop} {F : Nat → Nat → Int32} {w : Nat} (pr : okR A) (a1 : Int32) (a2 : Int32) (a3 : Int32) (a4 : Int32) (a5 : Int32) {σ : zSto} (I : zInv A F w σ) {P : Int32 → zSto → Prop} (hP : ∀ (r : Int32) (σ2 : zSto), zInv A F w σ2 → P r σ2) : w_X10_who a1 a2 a3 a4 a5 σ P := by
  unfold w_X10_who
  intro σ1 eσ1
  have uI1 : zInv A F w σ1 := by rw [eσ1]; exact wIr I (pRo pr (by decide)) (by decide) kd_223 rfl rfl (full32 _)
  refine s_X10_layRun pr a1 a2 a3 a4 uI1 (fun r3 σ2 uI2 => ?_)
  intro ub3
  have uc4 := bool_t ub3
  refine ⟨?_, ?_⟩
  · intro uq5
    have ul6 := lit_0
    have uc7 := eq_t uq5
    exact hP (-2 : Int32) σ2 uI2
  · intro uq8
    have ul9 := lit_0
    have uc10 := ne_t uq8
    refine s_X10_isPost a5 uI2 (fun r5 uz11 => ?_)
    intro ub12
    have uc13 := bool_t ub12
    refine ⟨?_, ?_⟩
    · intro uq14
      have uc15 := eq_t uq14
      exact hP (-2 : Int32) σ2 uI2
    · intro uq16
      have uc17 := uz11 uq16
      have uc18 := ne_t uq16
      refine ⟨vin (by omega), ?_⟩
      exact hP (σ2.1 240 ((a5).toNatClampNeg)) σ2 uI2
set_option maxHeartbeats 4000000 in
theorem s_X10_late {A : Nat → Nat → Prop} {F : Nat → Nat → Int32} {w : Nat} (pr : okR A) (a1 : Int32) (a2 : Int32) (a3 : Int32) (a4 : Int32) (a5 : Int32) {σ : zSto} (I : zInv A F w σ) {P : Int32 → zSto → Prop} (hP : ∀ (r : Int32) (σ2 : zSto), zInv A F w σ2 → P r σ2) : w_X10_late a1 a2 a3 a4 a5 σ P := by
  unfold w_X10_late
  intro σ1 eσ1
  have uI1 : zInv A F w σ1 := by rw [eσ1]; exact wIr I (pRo pr (by decide)) (by decide) kd_223 rfl rfl (full32 _)
  refine s_X10_layRun pr a1 a2 a3 a4 uI1 (fun r3 σ2 uI2 => ?_)
  intro ub3
  have uc4 := bool_t ub3
  refine ⟨?_, ?_⟩
  · intro uq5
    have ul6 := lit_0
    have uc7 := eq_t uq5
    exact hP (-1 : Int32) σ2 uI2
  · intro uq8
    have ul9 := lit_0
    have uc10 := ne_t uq8
    refine s_X10_isPost a5 uI2 (fun r5 uz11 => ?_)
    intro ub12
    have uc13 := bool_t ub12
    refine ⟨?_, ?_⟩
    · intro uq14
      have uc15 := eq_t uq14
      exact hP (-1 : Int32) σ2 uI2
    · intro uq16
      have uc17 := uz11 uq16
      have uc18 := ne_t uq16
      have ul19 := lit_4
      refine s_X10_postOf a5 (4 : Int32) (by omega) (by omega) uI2 (fun r7 uy20 uy21 uy22 => ?_)
      refine ⟨?_, ?_⟩
      · intro uq23
        have ul24 := lit_m1
        refine ⟨vin (by omega), ?_⟩
        refine s_X10_postOf a5 (4 : Int32) (by omega) (by omega) uI2 (fun r10 uy25 uy26 uy27 => ?_)
        refine s_X10_greater (0 : Int32) ((σ2.1 239 ((a5).toNatClampNeg)) - r10) uI2 (fun r12 => ?_)
        exact hP r12 σ2 uI2
      · intro uq28
        have ul29 := lit_m1
        have uc30 := eq_t uq28
        exact hP (-1 : Int32) σ2 uI2
