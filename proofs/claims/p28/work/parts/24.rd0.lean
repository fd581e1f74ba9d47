/-- what is told of the reference's reader, when only the FAULT found later changes -/
theorem inv223_16 {A : Nat → Nat → Prop} {F : Nat → Nat → Int32} {w : Nat} {σ : zSto} {v : Int32} (I : zInv A F w σ) (hA : ¬ A 223 16) (hv : ti v ≠ 0) : zInv A F w (zI σ 223 16 v) := by
  obtain ⟨R1, R2, R3, R4, R5⟩ := I.2.2
  refine wIx I hA (full32 v) ⟨fun S hS l hl q => ?_, fun t ht r q => ?_, fun hw q r q2 => ?_, fun i l hi hl q => ?_, fun z => ?_, fun z => ?_, fun z => ?_⟩
  · rw [zI_q (Or.inl (by unfold isZ at hS; omega))] at q
    rw [zI_q (Or.inl (by unfold isZ at hS; omega))]
    exact R1 S hS l hl q
  · rw [zI_q (Or.inl (by unfold isS at ht; omega))] at q
    rw [zI_q (Or.inl (by unfold isS at ht; omega))]
    exact R2 t ht r q
  · rw [zI_q (Or.inl (by decide))] at q q2
    rw [zI_q (Or.inl (by decide))]
    exact R3 hw q r q2
  · rw [zI_q (Or.inl (by decide))] at q
    rw [zI_q (Or.inl (by decide))]
    exact R4 i l hi hl q
  · rw [zI_q (Or.inl (by decide)), zI_q (Or.inl (by decide)), zI_s]
    exact ⟨(R5.1 z).1, fun h => absurd h hv⟩
  · rw [zI_q (Or.inl (by decide))]; exact R5.2.1 z
  · rw [zI_q (Or.inl (by decide))]; exact R5.2.2 z
set_option maxHeartbeats 4000000 in
theorem s_X10_token_163 {A : Nat → Nat → Prop} {F : Nat → Nat → Int32} {w : Nat} (pk : okK A) (b : Int) {P : zSto → Prop} (hP : ∀ (σ2 : zSto), zInv A F w σ2 → (b ≤ ti (σ2.1 223 9)) → (ti (σ2.1 223 12) = 4 → b < ti (σ2.1 223 9)) → P σ2) : ∀ (n : Nat) (x_2 : Int32) (σ : zSto), zInv A F w σ → (0 ≤ ti (x_2) ∧ ti (x_2) ≤ 600) → (b ≤ ti (σ.1 223 9)) → (ti x_2 ≤ ti (σ.1 223 9)) → ((ti x_2 = 0 → ti (σ.1 223 13) ≤ 0)) → ((ti x_2 = 1 → ti (σ.1 223 13) ≤ 9)) → ((ti x_2 = 2 → ti (σ.1 223 13) ≤ 99)) → (600 - ti (σ.1 223 9) < n) → w_X10_token_163 P n x_2 σ := by
  intro n
  induction n with
  | zero =>
    intro x_2 σ I h_x_2 pre0 pre1 pre2 pre3 pre4 hm
    have ud1 : 0 ≤ ti (σ.1 223 9) ∧ ti (σ.1 223 9) ≤ 600 := rdr I kd_223 rfl rfl
    have ud2 : 0 ≤ ti (σ.1 223 13) ∧ ti (σ.1 223 13) ≤ 999 := rdr I kd_223 rfl rfl
    exfalso
    omega
  | succ n ih =>
    intro x_2 σ I h_x_2 pre0 pre1 pre2 pre3 pre4 hm
    unfold w_X10_token_163
    refine s_X10_see I (fun r19 hr19 uy3 uy4 => ?_)
    have ul5 := lit_48
    have ul6 := lit_57
    refine s_X10_in r19 (48 : Int32) (57 : Int32) I (fun r21 uz7 => ?_)
    intro ub8
    have uc9 := bool_t ub8
    refine ⟨?_, ?_⟩
    · intro uq10
      have ul11 := lit_0
      have uc12 := eq_t uq10
      refine ⟨?_, ?_⟩
      · intro uq13
        have ul14 := lit_3
        have uc15 := le_t uq13
        intro σ22 eσ22
        have uI16 : zInv A F w σ22 := by rw [eσ22]; exact wIr I (pk _ (by decide)) (by decide) kd_223 rfl rfl (full32 _)
        have ue17 : ti ((σ22.1 223 9)) = ti ((σ.1 223 9)) := by rw [eσ22]; exact congrArg ti (zI_q (Or.inr (by decide)))
        have ud18 : 0 ≤ ti ((σ.1 223 9)) ∧ ti ((σ.1 223 9)) ≤ 600 := rdr I kd_223 rfl rfl
        have ud19 : 0 ≤ ti ((σ22.1 223 9)) ∧ ti ((σ22.1 223 9)) ≤ 600 := rdr uI16 kd_223 rfl rfl
        have ue20 : ti ((σ22.1 223 12)) = ti ((3 : Int32)) := by rw [eσ22]; exact congrArg ti zI_s
        exact hP σ22 uI16 (by omega) (by omega)
      · intro uq21
        have ul22 := lit_3
        have uc23 := nle_t uq21
        intro σ23 eσ23
        have uI24 : zInv A F w σ23 := by rw [eσ23]; exact wIr I (pk _ (by decide)) (by decide) kd_223 rfl rfl (full32 _)
        have ue25 : ti ((σ23.1 223 9)) = ti ((σ.1 223 9)) := by rw [eσ23]; exact congrArg ti (zI_q (Or.inr (by decide)))
        have ud26 : 0 ≤ ti ((σ.1 223 9)) ∧ ti ((σ.1 223 9)) ≤ 600 := rdr I kd_223 rfl rfl
        have ud27 : 0 ≤ ti ((σ23.1 223 9)) ∧ ti ((σ23.1 223 9)) ≤ 600 := rdr uI24 kd_223 rfl rfl
        have ue28 : ti ((σ23.1 223 12)) = ti ((1 : Int32)) := by rw [eσ23]; exact congrArg ti zI_s
        have ul29 := lit_1
        exact hP σ23 uI24 (by omega) (by omega)
    · intro uq30
      have uc31 := uz7 uq30
      have ul32 := lit_0
      have uc33 := ne_t uq30
      refine ⟨?_, ?_⟩
      · intro uq34
        have ul35 := lit_3
        have uc36 := le_t uq34
        intro σ24 eσ24
        have ud38 : 0 ≤ ti ((σ.1 223 13)) ∧ ti ((σ.1 223 13)) ≤ 999 := rdr I kd_223 rfl rfl
        have uI37 : zInv A F w σ24 := by rw [eσ24]; exact wIr (a := 0) (b := 999) I (pk _ (by decide)) (by decide) kd_223 rfl rfl (by omega)
        intro σ25 eσ25
        have ue40 : ti ((σ24.1 223 9)) = ti ((σ.1 223 9)) := by rw [eσ24]; exact congrArg ti (zI_q (Or.inr (by decide)))
        have ud41 : 0 ≤ ti ((σ.1 223 9)) ∧ ti ((σ.1 223 9)) ≤ 600 := rdr I kd_223 rfl rfl
        have ud42 : 0 ≤ ti ((σ24.1 223 9)) ∧ ti ((σ24.1 223 9)) ≤ 600 := rdr uI37 kd_223 rfl rfl
        have ul43 := lit_1
        have ut44 := tadd (x := (σ24.1 223 9)) (y := (1 : Int32)) (by omega)
        have uI39 : zInv A F w σ25 := by rw [eσ25]; exact wIr (a := 0) (b := 600) uI37 (pk _ (by decide)) (by decide) kd_223 rfl rfl (by omega)
        intro x26 ex26
        have ut45 := tadd (x := x_2) (y := (1 : Int32)) (by omega)
        have ut46 := eq_t ex26
        have ue47 : ti ((σ25.1 223 9)) = ti (((σ24.1 223 9) + (1 : Int32))) := by rw [eσ25]; exact congrArg ti zI_s
        have ud48 : 0 ≤ ti ((σ25.1 223 9)) ∧ ti ((σ25.1 223 9)) ≤ 600 := rdr uI39 kd_223 rfl rfl
        have ue49 : ti ((σ25.1 223 13)) = ti ((σ24.1 223 13)) := by rw [eσ25]; exact congrArg ti (zI_q (Or.inr (by decide)))
        have ue50 : ti ((σ24.1 223 13)) = ti ((σ.1 223 13)) := by rw [eσ24]; exact congrArg ti zI_s
        have ud51 : 0 ≤ ti ((σ24.1 223 13)) ∧ ti ((σ24.1 223 13)) ≤ 999 := rdr uI37 kd_223 rfl rfl
        have ud52 : 0 ≤ ti ((σ25.1 223 13)) ∧ ti ((σ25.1 223 13)) ≤ 999 := rdr uI39 kd_223 rfl rfl
        exact ih x26 σ25 uI39 (by omega) (by omega) (by omega) (by omega) (by omega) (by omega) (by omega)
      · intro uq53
        have ul54 := lit_3
        have uc55 := nle_t uq53
        refine s_X10_see I (fun r28 hr28 uy56 uy57 => ?_)
        intro σ29 eσ29
        have ul59 := lit_10
        have ud60 : 0 ≤ ti ((σ.1 223 13)) ∧ ti ((σ.1 223 13)) ≤ 999 := rdr I kd_223 rfl rfl
        have ut61 := tmull (x := (10 : Int32)) (y := (σ.1 223 13)) (10) lit_10 (by omega)
        have ut62 := tadd (x := ((10 : Int32) * (σ.1 223 13))) (y := r28) (by omega)
        have ut63 := tsub (x := (((10 : Int32) * (σ.1 223 13)) + r28)) (y := (48 : Int32)) (by omega)
        have uI58 : zInv A F w σ29 := by rw [eσ29]; exact wIr (a := 0) (b := 999) I (pk _ (by decide)) (by decide) kd_223 rfl rfl (by omega)
        intro σ30 eσ30
        have ue65 : ti ((σ29.1 223 9)) = ti ((σ.1 223 9)) := by rw [eσ29]; exact congrArg ti (zI_q (Or.inr (by decide)))
        have ud66 : 0 ≤ ti ((σ.1 223 9)) ∧ ti ((σ.1 223 9)) ≤ 600 := rdr I kd_223 rfl rfl
        have ud67 : 0 ≤ ti ((σ29.1 223 9)) ∧ ti ((σ29.1 223 9)) ≤ 600 := rdr uI58 kd_223 rfl rfl
        have ul68 := lit_1
        have ut69 := tadd (x := (σ29.1 223 9)) (y := (1 : Int32)) (by omega)
        have uI64 : zInv A F w σ30 := by rw [eσ30]; exact wIr (a := 0) (b := 600) uI58 (pk _ (by decide)) (by decide) kd_223 rfl rfl (by omega)
        intro x31 ex31
        have ut70 := tadd (x := x_2) (y := (1 : Int32)) (by omega)
        have ut71 := eq_t ex31
        have ue72 : ti ((σ30.1 223 9)) = ti (((σ29.1 223 9) + (1 : Int32))) := by rw [eσ30]; exact congrArg ti zI_s
        have ud73 : 0 ≤ ti ((σ30.1 223 9)) ∧ ti ((σ30.1 223 9)) ≤ 600 := rdr uI64 kd_223 rfl rfl
        have ue74 : ti ((σ30.1 223 13)) = ti ((σ29.1 223 13)) := by rw [eσ30]; exact congrArg ti (zI_q (Or.inr (by decide)))
        have ue75 : ti ((σ29.1 223 13)) = ti (((((10 : Int32) * (σ.1 223 13)) + r28) - (48 : Int32))) := by rw [eσ29]; exact congrArg ti zI_s
        have ud76 : 0 ≤ ti ((σ29.1 223 13)) ∧ ti ((σ29.1 223 13)) ≤ 999 := rdr uI58 kd_223 rfl rfl
        have ud77 : 0 ≤ ti ((σ30.1 223 13)) ∧ ti ((σ30.1 223 13)) ≤ 999 := rdr uI64 kd_223 rfl rfl
        exact ih x31 σ30 uI64 (by omega) (by omega) (by omega) (by omega) (by omega) (by omega) (by omega)
set_option maxHeartbeats 4000000 in
theorem s_X10_token_74 {A : Nat → Nat → Prop} {F : Nat → Nat → Int32} {w : Nat} (pk : okK A) (b : Int) {P : zSto → Prop} (hP : ∀ (σ2 : zSto), zInv A F w σ2 → (b ≤ ti (σ2.1 223 9)) → (ti (σ2.1 223 12) = 4 → b < ti (σ2.1 223 9)) → P σ2) : ∀ (n : Nat) (x_2 : Int32) (σ : zSto), zInv A F w σ → (b ≤ ti (σ.1 223 9)) → (600 - ti (σ.1 223 9) < n) → w_X10_token_74 P n x_2 σ := by
  intro n
  induction n with
  | zero =>
    intro x_2 σ I pre0 hm
    have ud1 : 0 ≤ ti (σ.1 223 9) ∧ ti (σ.1 223 9) ≤ 600 := rdr I kd_223 rfl rfl
    exfalso
    omega
  | succ n ih =>
    intro x_2 σ I pre0 hm
    unfold w_X10_token_74
    refine s_X10_see I (fun r33 hr33 uy2 uy3 => ?_)
    have ul4 := lit_97
    have ul5 := lit_122
    refine s_X10_in r33 (97 : Int32) (122 : Int32) I (fun r35 uz6 => ?_)
    intro ub7
    have uc8 := bool_t ub7
    refine ⟨?_, ?_⟩
    · intro uq9
      have ul10 := lit_0
      have uc11 := eq_t uq9
      refine ⟨?_, ?_⟩
      · intro uq12
        have ul13 := lit_8
        have uc14 := le_t uq12
        intro σ36 eσ36
        have uI15 : zInv A F w σ36 := by rw [eσ36]; exact wJ I
        intro σ37 eσ37
        have uI16 : zInv A F w σ37 := by rw [eσ37]; exact wIr uI15 (pk _ (by decide)) (by decide) kd_223 rfl rfl (full32 _)
        have ue17 : ti ((σ37.1 223 9)) = ti ((σ36.1 223 9)) := by rw [eσ37]; exact congrArg ti (zI_q (Or.inr (by decide)))
        have ue18 : ti (σ36.1 223 9) = ti (σ.1 223 9) := by rw [eσ36]; rfl
        have ud19 : 0 ≤ ti ((σ.1 223 9)) ∧ ti ((σ.1 223 9)) ≤ 600 := rdr I kd_223 rfl rfl
        have ud20 : 0 ≤ ti ((σ36.1 223 9)) ∧ ti ((σ36.1 223 9)) ≤ 600 := rdr uI15 kd_223 rfl rfl
        have ud21 : 0 ≤ ti ((σ37.1 223 9)) ∧ ti ((σ37.1 223 9)) ≤ 600 := rdr uI16 kd_223 rfl rfl
        have ue22 : ti ((σ37.1 223 12)) = ti ((2 : Int32)) := by rw [eσ37]; exact congrArg ti zI_s
        have ul23 := lit_2
        exact hP σ37 uI16 (by omega) (by omega)
      · intro uq24
        have ul25 := lit_8
        have uc26 := nle_t uq24
        intro σ38 eσ38
        have uI27 : zInv A F w σ38 := by rw [eσ38]; exact wJ I
        intro σ39 eσ39
        have uI28 : zInv A F w σ39 := by rw [eσ39]; exact wIr uI27 (pk _ (by decide)) (by decide) kd_223 rfl rfl (full32 _)
        have ue29 : ti ((σ39.1 223 9)) = ti ((σ38.1 223 9)) := by rw [eσ39]; exact congrArg ti (zI_q (Or.inr (by decide)))
        have ue30 : ti (σ38.1 223 9) = ti (σ.1 223 9) := by rw [eσ38]; rfl
        have ud31 : 0 ≤ ti ((σ.1 223 9)) ∧ ti ((σ.1 223 9)) ≤ 600 := rdr I kd_223 rfl rfl
        have ud32 : 0 ≤ ti ((σ38.1 223 9)) ∧ ti ((σ38.1 223 9)) ≤ 600 := rdr uI27 kd_223 rfl rfl
        have ud33 : 0 ≤ ti ((σ39.1 223 9)) ∧ ti ((σ39.1 223 9)) ≤ 600 := rdr uI28 kd_223 rfl rfl
        have ue34 : ti ((σ39.1 223 12)) = ti ((2 : Int32)) := by rw [eσ39]; exact congrArg ti zI_s
        have ul35 := lit_2
        exact hP σ39 uI28 (by omega) (by omega)
    · intro uq36
      have uc37 := uz6 uq36
      have ul38 := lit_0
      have uc39 := ne_t uq36
      refine s_X10_see I (fun r41 hr41 uy40 uy41 => ?_)
      intro σ42 eσ42
      have uI42 : zInv A F w σ42 := by rw [eσ42]; exact wJ I
      intro σ43 eσ43
      have ue44 : ti (σ42.1 223 9) = ti (σ.1 223 9) := by rw [eσ42]; rfl
      have ud45 : 0 ≤ ti ((σ.1 223 9)) ∧ ti ((σ.1 223 9)) ≤ 600 := rdr I kd_223 rfl rfl
      have ud46 : 0 ≤ ti ((σ42.1 223 9)) ∧ ti ((σ42.1 223 9)) ≤ 600 := rdr uI42 kd_223 rfl rfl
      have ul47 := lit_1
      have ut48 := tadd (x := (σ42.1 223 9)) (y := (1 : Int32)) (by omega)
      have uI43 : zInv A F w σ43 := by rw [eσ43]; exact wIr (a := 0) (b := 600) uI42 (pk _ (by decide)) (by decide) kd_223 rfl rfl (by omega)
      intro x44 ex44
      have ue49 : ti ((σ43.1 223 9)) = ti (((σ42.1 223 9) + (1 : Int32))) := by rw [eσ43]; exact congrArg ti zI_s
      have ud50 : 0 ≤ ti ((σ43.1 223 9)) ∧ ti ((σ43.1 223 9)) ≤ 600 := rdr uI43 kd_223 rfl rfl
      exact ih x44 σ43 uI43 (by omega) (by omega)
set_option maxHeartbeats 4000000 in
theorem s_X10_token_0 {A : Nat → Nat → Prop} {F : Nat → Nat → Int32} {w : Nat} (pk : okK A) (b : Int) {P : zSto → Prop} (hP : ∀ (σ2 : zSto), zInv A F w σ2 → (b ≤ ti (σ2.1 223 9)) → (ti (σ2.1 223 12) = 4 → b < ti (σ2.1 223 9)) → P σ2) : ∀ (n : Nat) (σ : zSto), zInv A F w σ → (b ≤ ti (σ.1 223 9)) → (600 - ti (σ.1 223 9) < n) → w_X10_token_0 P n  σ := by
  intro n
  induction n with
  | zero =>
    intro σ I pre0 hm
    have ud1 : 0 ≤ ti (σ.1 223 9) ∧ ti (σ.1 223 9) ≤ 600 := rdr I kd_223 rfl rfl
    exfalso
    omega
  | succ n ih =>
    intro σ I pre0 hm
    unfold w_X10_token_0
    refine s_X10_see I (fun r2 hr2 uy2 uy3 => ?_)
    refine ⟨?_, ?_⟩
    · intro uq4
      have ul5 := lit_10
      have uc6 := eq_t uq4
      intro σ3 eσ3
      have ud8 : 0 ≤ ti ((σ.1 223 9)) ∧ ti ((σ.1 223 9)) ≤ 600 := rdr I kd_223 rfl rfl
      have ul9 := lit_1
      have ut10 := tadd (x := (σ.1 223 9)) (y := (1 : Int32)) (by omega)
      have uI7 : zInv A F w σ3 := by rw [eσ3]; exact wIr (a := 0) (b := 600) I (pk _ (by decide)) (by decide) kd_223 rfl rfl (by omega)
      have ue11 : ti ((σ3.1 223 9)) = ti (((σ.1 223 9) + (1 : Int32))) := by rw [eσ3]; exact congrArg ti zI_s
      have ud12 : 0 ≤ ti ((σ3.1 223 9)) ∧ ti ((σ3.1 223 9)) ≤ 600 := rdr uI7 kd_223 rfl rfl
      exact ih  σ3 uI7 (by omega) (by omega)
    · intro uq13
      have ul14 := lit_10
      refine s_X10_see I (fun r5 hr5 uy15 uy16 => ?_)
      refine ⟨?_, ?_⟩
      · intro uq17
        have ul18 := lit_32
        intro σ6 eσ6
        have ud20 : 0 ≤ ti ((σ.1 223 9)) ∧ ti ((σ.1 223 9)) ≤ 600 := rdr I kd_223 rfl rfl
        have uI19 : zInv A F w σ6 := by rw [eσ6]; exact wIr (a := 0) (b := 600) I (pk _ (by decide)) (by decide) kd_223 rfl rfl (by omega)
        refine s_X10_see uI19 (fun r8 hr8 uy21 uy22 => ?_)
        intro σ9 eσ9
        have uI23 : zInv A F w σ9 := by rw [eσ9]; exact wJ uI19
        refine ⟨?_, ?_⟩
        · intro uq24
          have ul25 := lit_0
          have uc26 := le_t uq24
          have ul27 := lit_97
          have ul28 := lit_122
          refine s_X10_in r8 (97 : Int32) (122 : Int32) uI23 (fun r11 uz29 => ?_)
          intro ub30
          have uc31 := bool_t ub30
          refine ⟨?_, ?_⟩
          · intro uq32
            have uc33 := eq_t uq32
            have ul34 := lit_48
            have ul35 := lit_57
            refine s_X10_in r8 (48 : Int32) (57 : Int32) uI23 (fun r13 uz36 => ?_)
            intro ub37
            have uc38 := bool_t ub37
            refine ⟨?_, ?_⟩
            · intro uq39
              have uc40 := eq_t uq39
              intro σ14 eσ14
              have ue42 : ti (σ9.1 223 9) = ti (σ6.1 223 9) := by rw [eσ9]; rfl
              have ue43 : ti ((σ6.1 223 9)) = ti ((σ.1 223 9)) := by rw [eσ6]; exact congrArg ti (zI_q (Or.inr (by decide)))
              have ud44 : 0 ≤ ti ((σ6.1 223 9)) ∧ ti ((σ6.1 223 9)) ≤ 600 := rdr uI19 kd_223 rfl rfl
              have ud45 : 0 ≤ ti ((σ9.1 223 9)) ∧ ti ((σ9.1 223 9)) ≤ 600 := rdr uI23 kd_223 rfl rfl
              have ul46 := lit_1
              have ut47 := tadd (x := (σ9.1 223 9)) (y := (1 : Int32)) (by omega)
              have uI41 : zInv A F w σ14 := by rw [eσ14]; exact wIr (a := 0) (b := 600) uI23 (pk _ (by decide)) (by decide) kd_223 rfl rfl (by omega)
              refine ⟨?_, ?_⟩
              · intro uq48
                have ul49 := lit_59
                intro σ15 eσ15
                have uI50 : zInv A F w σ15 := by rw [eσ15]; exact wIr uI41 (pk _ (by decide)) (by decide) kd_223 rfl rfl (full32 _)
                have ue51 : ti ((σ15.1 223 9)) = ti ((σ14.1 223 9)) := by rw [eσ15]; exact congrArg ti (zI_q (Or.inr (by decide)))
                have ue52 : ti ((σ14.1 223 9)) = ti (((σ9.1 223 9) + (1 : Int32))) := by rw [eσ14]; exact congrArg ti zI_s
                have ud53 : 0 ≤ ti ((σ14.1 223 9)) ∧ ti ((σ14.1 223 9)) ≤ 600 := rdr uI41 kd_223 rfl rfl
                have ud54 : 0 ≤ ti ((σ15.1 223 9)) ∧ ti ((σ15.1 223 9)) ≤ 600 := rdr uI50 kd_223 rfl rfl
                have ue55 : ti ((σ15.1 223 12)) = ti ((1 : Int32)) := by rw [eσ15]; exact congrArg ti zI_s
                exact hP σ15 uI50 (by omega) (by omega)
              · intro uq56
                have ul57 := lit_59
                have uc58 := eq_t uq56
                intro σ16 eσ16
                have uI59 : zInv A F w σ16 := by rw [eσ16]; exact wIr uI41 (pk _ (by decide)) (by decide) kd_223 rfl rfl (full32 _)
                have ue60 : ti ((σ16.1 223 9)) = ti ((σ14.1 223 9)) := by rw [eσ16]; exact congrArg ti (zI_q (Or.inr (by decide)))
                have ue61 : ti ((σ14.1 223 9)) = ti (((σ9.1 223 9) + (1 : Int32))) := by rw [eσ14]; exact congrArg ti zI_s
                have ud62 : 0 ≤ ti ((σ14.1 223 9)) ∧ ti ((σ14.1 223 9)) ≤ 600 := rdr uI41 kd_223 rfl rfl
                have ud63 : 0 ≤ ti ((σ16.1 223 9)) ∧ ti ((σ16.1 223 9)) ≤ 600 := rdr uI59 kd_223 rfl rfl
                have ue64 : ti ((σ16.1 223 12)) = ti ((4 : Int32)) := by rw [eσ16]; exact congrArg ti zI_s
                have ul65 := lit_4
                exact hP σ16 uI59 (by omega) (by omega)
            · intro uq66
              have uc67 := uz36 uq66
              have uc68 := ne_t uq66
              intro σ17 eσ17
              have uI69 : zInv A F w σ17 := by rw [eσ17]; exact wIr (a := 0) (b := 999) uI23 (pk _ (by decide)) (by decide) kd_223 rfl rfl (by omega)
              refine ⟨70000, ?_⟩
              have ue70 : ti ((σ17.1 223 9)) = ti ((σ9.1 223 9)) := by rw [eσ17]; exact congrArg ti (zI_q (Or.inr (by decide)))
              have ue71 : ti (σ9.1 223 9) = ti (σ6.1 223 9) := by rw [eσ9]; rfl
              have ue72 : ti ((σ6.1 223 9)) = ti ((σ.1 223 9)) := by rw [eσ6]; exact congrArg ti (zI_q (Or.inr (by decide)))
              have ud73 : 0 ≤ ti ((σ6.1 223 9)) ∧ ti ((σ6.1 223 9)) ≤ 600 := rdr uI19 kd_223 rfl rfl
              have ud74 : 0 ≤ ti ((σ9.1 223 9)) ∧ ti ((σ9.1 223 9)) ≤ 600 := rdr uI23 kd_223 rfl rfl
              have ud75 : 0 ≤ ti ((σ17.1 223 9)) ∧ ti ((σ17.1 223 9)) ≤ 600 := rdr uI69 kd_223 rfl rfl
              have ue76 : ti ((σ17.1 223 13)) = ti ((0 : Int32)) := by rw [eσ17]; exact congrArg ti zI_s
              have ud77 : 0 ≤ ti ((σ17.1 223 13)) ∧ ti ((σ17.1 223 13)) ≤ 999 := rdr uI69 kd_223 rfl rfl
              exact s_X10_token_163 pk b hP 70000 (0 : Int32) σ17 uI69 (by omega) (by omega) (by omega) (by omega) (by omega) (by omega) (by omega)
          · intro uq78
            have uc79 := uz29 uq78
            have uc80 := ne_t uq78
            refine ⟨70000, ?_⟩
            have ue81 : ti (σ9.1 223 9) = ti (σ6.1 223 9) := by rw [eσ9]; rfl
            have ue82 : ti ((σ6.1 223 9)) = ti ((σ.1 223 9)) := by rw [eσ6]; exact congrArg ti (zI_q (Or.inr (by decide)))
            have ud83 : 0 ≤ ti ((σ6.1 223 9)) ∧ ti ((σ6.1 223 9)) ≤ 600 := rdr uI19 kd_223 rfl rfl
            have ud84 : 0 ≤ ti ((σ9.1 223 9)) ∧ ti ((σ9.1 223 9)) ≤ 600 := rdr uI23 kd_223 rfl rfl
            exact s_X10_token_74 pk b hP 70000 (0 : Int32) σ9 uI23 (by omega) (by omega)
        · intro uq85
          have ul86 := lit_0
          have uc87 := nle_t uq85
          intro σ45 eσ45
          have uI88 : zInv A F w σ45 := by rw [eσ45]; exact wIr uI23 (pk _ (by decide)) (by decide) kd_223 rfl rfl (full32 _)
          have ue89 : ti ((σ45.1 223 9)) = ti ((σ9.1 223 9)) := by rw [eσ45]; exact congrArg ti (zI_q (Or.inr (by decide)))
          have ue90 : ti (σ9.1 223 9) = ti (σ6.1 223 9) := by rw [eσ9]; rfl
          have ue91 : ti ((σ6.1 223 9)) = ti ((σ.1 223 9)) := by rw [eσ6]; exact congrArg ti (zI_q (Or.inr (by decide)))
          have ud92 : 0 ≤ ti ((σ6.1 223 9)) ∧ ti ((σ6.1 223 9)) ≤ 600 := rdr uI19 kd_223 rfl rfl
          have ud93 : 0 ≤ ti ((σ9.1 223 9)) ∧ ti ((σ9.1 223 9)) ≤ 600 := rdr uI23 kd_223 rfl rfl
          have ud94 : 0 ≤ ti ((σ45.1 223 9)) ∧ ti ((σ45.1 223 9)) ≤ 600 := rdr uI88 kd_223 rfl rfl
          have ue95 : ti ((σ45.1 223 12)) = ti ((0 : Int32)) := by rw [eσ45]; exact congrArg ti zI_s
          exact hP σ45 uI88 (by omega) (by omega)
      · intro uq96
        have ul97 := lit_32
        have uc98 := eq_t uq96
        intro σ46 eσ46
        have ud100 : 0 ≤ ti ((σ.1 223 9)) ∧ ti ((σ.1 223 9)) ≤ 600 := rdr I kd_223 rfl rfl
        have ul101 := lit_1
        have ut102 := tadd (x := (σ.1 223 9)) (y := (1 : Int32)) (by omega)
        have uI99 : zInv A F w σ46 := by rw [eσ46]; exact wIr (a := 0) (b := 600) I (pk _ (by decide)) (by decide) kd_223 rfl rfl (by omega)
        have ue103 : ti ((σ46.1 223 9)) = ti (((σ.1 223 9) + (1 : Int32))) := by rw [eσ46]; exact congrArg ti zI_s
        have ud104 : 0 ≤ ti ((σ46.1 223 9)) ∧ ti ((σ46.1 223 9)) ≤ 600 := rdr uI99 kd_223 rfl rfl
        exact ih  σ46 uI99 (by omega) (by omega)
set_option maxHeartbeats 4000000 in
theorem s_X10_token {A : Nat → Nat → Prop} {F : Nat → Nat → Int32} {w : Nat} (pk : okK A) (b : Int) {σ : zSto} (I : zInv A F w σ) (pre0 : b ≤ ti (σ.1 223 9)) {P : zSto → Prop} (hP : ∀ (σ2 : zSto), zInv A F w σ2 → (b ≤ ti (σ2.1 223 9)) → (ti (σ2.1 223 12) = 4 → b < ti (σ2.1 223 9)) → P σ2) : w_X10_token σ P := by
  unfold w_X10_token
  refine ⟨70000, ?_⟩
  have ud1 : 0 ≤ ti ((σ.1 223 9)) ∧ ti ((σ.1 223 9)) ≤ 600 := rdr I kd_223 rfl rfl
  exact s_X10_token_0 pk b hP 70000  σ I (by omega) (by omega)
set_option maxHeartbeats 4000000 in
theorem s_X10_fails {A : Nat → Nat → Prop} {F : Nat → Nat → Int32} {w : Nat} (pr : okR A) {σ : zSto} (I : zInv A F w σ) {P : Int32 → zSto → Prop} (hP : ∀ (r : Int32) (σ2 : zSto), zInv A F w σ2 → (¬ r = 0 → (0 : Int) = 1) → P r σ2) : w_X10_fails σ P := by
  unfold w_X10_fails
  intro σ1 eσ1
  have uI1 : zInv A F w σ1 := by rw [eσ1]; exact wIr I (pRo pr (by decide)) (by decide) kd_223 rfl rfl (full32 _)
  exact hP (0 : Int32) σ1 uI1 (fun q => absurd rfl q)
set_option maxHeartbeats 4000000 in
theorem s_X10_later {A : Nat → Nat → Prop} {F : Nat → Nat → Int32} {w : Nat} (pj : okJ A) (a1 : Int32) (a2 : Int32) (h_a1 : 2 ≤ ti (a1) ∧ ti (a1) ≤ 4) {σ : zSto} (I : zInv A F w σ) {P : zSto → Prop} (hP : ∀ (σ2 : zSto), zInv A F w σ2 → (ti (σ2.1 223 16) ≠ 0) → (ti (σ2.1 223 9) = ti (σ.1 223 9)) → P σ2) : w_X10_later a1 a2 σ P := by
  unfold w_X10_later
  refine ⟨?_, ?_⟩
  · intro uq1
    have ul2 := lit_0
    have uc3 := eq_t uq1
    intro σ1 eσ1
    have uI4 : zInv A F w σ1 := by rw [eσ1]; exact inv223_16 I (pj _ (by decide)) (by omega)
    intro σ2 eσ2
    have uI5 : zInv A F w σ2 := by rw [eσ2]; exact wIr uI4 (pj _ (by decide)) (by decide) kd_223 rfl rfl (full32 _)
    have ue6 : ti ((σ2.1 223 16)) = ti ((σ1.1 223 16)) := by rw [eσ2]; exact congrArg ti (zI_q (Or.inr (by decide)))
    have ue7 : ti ((σ1.1 223 16)) = ti (a1) := by rw [eσ1]; exact congrArg ti zI_s
    have ue8 : ti ((σ2.1 223 9)) = ti ((σ1.1 223 9)) := by rw [eσ2]; exact congrArg ti (zI_q (Or.inr (by decide)))
    have ue9 : ti ((σ1.1 223 9)) = ti ((σ.1 223 9)) := by rw [eσ1]; exact congrArg ti (zI_q (Or.inr (by decide)))
    have ud10 : 0 ≤ ti ((σ.1 223 9)) ∧ ti ((σ.1 223 9)) ≤ 600 := rdr I kd_223 rfl rfl
    have ud11 : 0 ≤ ti ((σ1.1 223 9)) ∧ ti ((σ1.1 223 9)) ≤ 600 := rdr uI4 kd_223 rfl rfl
    have ud12 : 0 ≤ ti ((σ2.1 223 9)) ∧ ti ((σ2.1 223 9)) ≤ 600 := rdr uI5 kd_223 rfl rfl
    exact hP σ2 uI5 (by omega) (by omega)
  · intro uq13
    have ul14 := lit_0
    have uc15 := ne_t uq13
    refine ⟨?_, ?_⟩
    · intro uq16
      have uc17 := lt_t uq16
      intro σ3 eσ3
      have uI18 : zInv A F w σ3 := by rw [eσ3]; exact inv223_16 I (pj _ (by decide)) (by omega)
      intro σ4 eσ4
      have uI19 : zInv A F w σ4 := by rw [eσ4]; exact wIr uI18 (pj _ (by decide)) (by decide) kd_223 rfl rfl (full32 _)
      have ue20 : ti ((σ4.1 223 16)) = ti ((σ3.1 223 16)) := by rw [eσ4]; exact congrArg ti (zI_q (Or.inr (by decide)))
      have ue21 : ti ((σ3.1 223 16)) = ti (a1) := by rw [eσ3]; exact congrArg ti zI_s
      have ue22 : ti ((σ4.1 223 9)) = ti ((σ3.1 223 9)) := by rw [eσ4]; exact congrArg ti (zI_q (Or.inr (by decide)))
      have ue23 : ti ((σ3.1 223 9)) = ti ((σ.1 223 9)) := by rw [eσ3]; exact congrArg ti (zI_q (Or.inr (by decide)))
      have ud24 : 0 ≤ ti ((σ.1 223 9)) ∧ ti ((σ.1 223 9)) ≤ 600 := rdr I kd_223 rfl rfl
      have ud25 : 0 ≤ ti ((σ3.1 223 9)) ∧ ti ((σ3.1 223 9)) ≤ 600 := rdr uI18 kd_223 rfl rfl
      have ud26 : 0 ≤ ti ((σ4.1 223 9)) ∧ ti ((σ4.1 223 9)) ≤ 600 := rdr uI19 kd_223 rfl rfl
      exact hP σ4 uI19 (by omega) (by omega)
    · intro uq27
      have uc28 := nlt_t uq27
      refine ⟨?_, ?_⟩
      · intro uq29
        have uc30 := ne_t uq29
        have ud31 : 0 ≤ ti ((σ.1 223 9)) ∧ ti ((σ.1 223 9)) ≤ 600 := rdr I kd_223 rfl rfl
        exact hP σ I (by omega) (by omega)
      · intro uq32
        have uc33 := eq_t uq32
        refine ⟨?_, ?_⟩
        · intro uq34
          have uc35 := le_t uq34
          have ud36 : 0 ≤ ti ((σ.1 223 9)) ∧ ti ((σ.1 223 9)) ≤ 600 := rdr I kd_223 rfl rfl
          exact hP σ I (by omega) (by omega)
        · intro uq37
          have uc38 := nle_t uq37
          intro σ5 eσ5
          have uI39 : zInv A F w σ5 := by rw [eσ5]; exact inv223_16 I (pj _ (by decide)) (by omega)
          intro σ6 eσ6
          have uI40 : zInv A F w σ6 := by rw [eσ6]; exact wIr uI39 (pj _ (by decide)) (by decide) kd_223 rfl rfl (full32 _)
          have ue41 : ti ((σ6.1 223 16)) = ti ((σ5.1 223 16)) := by rw [eσ6]; exact congrArg ti (zI_q (Or.inr (by decide)))
          have ue42 : ti ((σ5.1 223 16)) = ti (a1) := by rw [eσ5]; exact congrArg ti zI_s
          have ue43 : ti ((σ6.1 223 9)) = ti ((σ5.1 223 9)) := by rw [eσ6]; exact congrArg ti (zI_q (Or.inr (by decide)))
          have ue44 : ti ((σ5.1 223 9)) = ti ((σ.1 223 9)) := by rw [eσ5]; exact congrArg ti (zI_q (Or.inr (by decide)))
          have ud45 : 0 ≤ ti ((σ.1 223 9)) ∧ ti ((σ.1 223 9)) ≤ 600 := rdr I kd_223 rfl rfl
          have ud46 : 0 ≤ ti ((σ5.1 223 9)) ∧ ti ((σ5.1 223 9)) ≤ 600 := rdr uI39 kd_223 rfl rfl
          have ud47 : 0 ≤ ti ((σ6.1 223 9)) ∧ ti ((σ6.1 223 9)) ≤ 600 := rdr uI40 kd_223 rfl rfl
          exact hP σ6 uI40 (by omega) (by omega)
set_option maxHeartbeats 4000000 in
theorem s_X10_full {A : Nat → Nat → Prop} {F : Nat → Nat → Int32} {w : Nat} (pj : okJ A) (a1 : Int32) (a2 : Int32) (a3 : Int32) (h_a1 : 0 ≤ ti (a1) ∧ ti (a1) ≤ 122) {σ : zSto} (I : zInv A F w σ) {P : zSto → Prop} (hP : ∀ (σ2 : zSto), zInv A F w σ2 → (ti (σ2.1 223 9) = ti (σ.1 223 9)) → P σ2) : w_X10_full a1 a2 a3 σ P := by
  unfold w_X10_full
  refine ⟨vin (by omega), ?_⟩
  refine ⟨?_, ?_⟩
  · intro uq1
    have ud2 : 0 ≤ ti ((σ.1 223 9)) ∧ ti ((σ.1 223 9)) ≤ 600 := rdr I kd_223 rfl rfl
    exact hP σ I (by omega)
  · intro uq3
    have uc4 := eq_t uq3
    have ul5 := lit_3
    refine s_X10_later pj (3 : Int32) a3 (by omega) I (fun σ2 uI6 uy7 uy8 => ?_)
    have ud9 : 0 ≤ ti ((σ2.1 223 9)) ∧ ti ((σ2.1 223 9)) ≤ 600 := rdr uI6 kd_223 rfl rfl
    exact hP σ2 uI6 (by omega)
set_option maxHeartbeats 4000000 in
theorem s_X10_plainOf {A : Nat → Nat → Prop} {F : Nat → Nat → Int32} {w : Nat} (a1 : Int64) {σ : zSto} (I : zInv A F w σ) {P : Int32 → zSto → Prop} (hP : ∀ (r : Int32), (-1) ≤ ti (r) ∧ ti (r) ≤ 6 → (ti r = -1 ∨ 2 ≤ ti r) → P r σ) : w_X10_plainOf a1 σ P := by
  unfold w_X10_plainOf
  refine ⟨?_, ?_⟩
  · intro uq1
    refine ⟨?_, ?_⟩
    · intro uq2
      refine ⟨?_, ?_⟩
      · intro uq3
        refine ⟨?_, ?_⟩
        · intro uq4
          refine ⟨?_, ?_⟩
          · intro uq5
            have ul6 := lit_m1
            exact hP (-1 : Int32) (by omega) (by omega)
          · intro uq7
            have ul8 := lit_6
            exact hP (6 : Int32) (by omega) (by omega)
        · intro uq9
          have ul10 := lit_5
          exact hP (5 : Int32) (by omega) (by omega)
      · intro uq11
        have ul12 := lit_4
        exact hP (4 : Int32) (by omega) (by omega)
    · intro uq13
      have ul14 := lit_3
      exact hP (3 : Int32) (by omega) (by omega)
  · intro uq15
    have ul16 := lit_2
    exact hP (2 : Int32) (by omega) (by omega)
set_option maxHeartbeats 4000000 in
theorem s_X10_take {A : Nat → Nat → Prop} {F : Nat → Nat → Int32} {w : Nat} (pr : okR A) (b : Int) (a1 a2 a3 : Int32) (h1 : 0 ≤ ti a1 ∧ ti a1 ≤ 5) {σ : zSto} (I : zInv A F w σ) (hb : b ≤ ti (σ.1 223 9)) {P : Int32 → zSto → Prop} (hP : ∀ r σ2, zInv A F w σ2 → (¬ r = 0 → b ≤ ti (σ2.1 223 9) ∧ (ti (σ2.1 223 12) = 4 → b < ti (σ2.1 223 9)) ∧ (ti (σ2.1 223 16) = 0 → ti (σ.1 223 16) = 0 ∧ ti a2 ≤ ti (σ2.1 233 (ti a1).toNat) ∧ ti (σ2.1 233 (ti a1).toNat) ≤ ti a3) ∧ (∀ j, j ≠ (ti a1).toNat → σ2.1 233 j = σ.1 233 j)) → P r σ2) : w_X10_take a1 a2 a3 σ P := by
  unfold w_X10_take
  have tn := tn_eq a1
  have l2 := lit_2
  refine ⟨fun q => ?_, fun q => ?_⟩
  · refine ⟨vin (by omega), fun σ2 e2 => ?_⟩
    rw [tn] at e2
    have d13 : 0 ≤ ti (σ.1 223 13) ∧ ti (σ.1 223 13) ≤ 999 := rdr I kd_223 rfl rfl
    have I2 : zInv A F w σ2 := by rw [e2]; exact wIr (a := 0) (b := 999) I (pR pr (by decide)) (rl0 rk_233) kd_233 rfl rfl d13
    have f9 : ti (σ2.1 223 9) = ti (σ.1 223 9) := congrArg ti (zI_q' e2 (Or.inl (by decide)))
    have f16 : σ2.1 223 16 = σ.1 223 16 := zI_q' e2 (Or.inl (by decide))
    have f13 : σ2.1 223 13 = σ.1 223 13 := zI_q' e2 (Or.inl (by decide))
    have fk : σ2.1 233 (ti a1).toNat = σ.1 223 13 := by rw [e2, zI_s]
    have fj : ∀ j, j ≠ (ti a1).toNat → σ2.1 233 j = σ.1 233 j := fun j hj => zI_q' e2 (Or.inr hj)
    refine b_X10_in _ a2 a3 (fun r4 z4 => ?_)
    rw [f13] at z4
    intro b4
    refine ⟨fun q4 => ?_, fun q4 => ?_⟩
    · have hz := z4.mp q4
      refine s_X10_token (A := Ax A BT) (F := σ2.1) (okK_T (okR_K pr)) b (inv_x I2) (by omega) (fun σ5 I5x y1 y2 => hP _ σ5 (inv_y I2 I5x) (fun _ => ⟨y1, y2, fun z => ?_, fun j hj => ?_⟩))
      · have g16 : σ5.1 223 16 = σ2.1 223 16 := inv_e I5x (Or.inl ⟨rfl, rfl⟩)
        have gk : σ5.1 233 (ti a1).toNat = σ2.1 233 (ti a1).toNat := inv_e I5x (Or.inr (by decide))
        rw [gk, fk]
        rw [g16, f16] at z
        exact ⟨z, hz⟩
      · have gj : σ5.1 233 j = σ2.1 233 j := inv_e I5x (Or.inr (by decide))
        rw [gj, fj j hj]
    · refine s_X10_later (A := Ax A BF) (F := σ2.1) (okJ_F (okR_J pr)) (2 : Int32) _ (by omega) (inv_x I2) (fun σ6 I6x y _ => ?_)
      have I6 := inv_y I2 I6x
      have g9 : σ6.1 223 9 = σ2.1 223 9 := inv_e I6x (Or.inl ⟨rfl, Or.inl rfl⟩)
      have g9' := eq_t g9
      refine s_X10_token (A := Ax A BT) (F := σ6.1) (okK_T (okR_K pr)) b (inv_x I6) (by omega) (fun σ5 I5x y1 y2 => hP _ σ5 (inv_y I6 I5x) (fun _ => ⟨y1, y2, fun z => ?_, fun j hj => ?_⟩))
      · have g16 : σ5.1 223 16 = σ6.1 223 16 := inv_e I5x (Or.inl ⟨rfl, rfl⟩)
        rw [g16] at z
        exact absurd z y
      · have gj : σ5.1 233 j = σ6.1 233 j := inv_e I5x (Or.inr (by decide))
        have gj2 : σ6.1 233 j = σ2.1 233 j := inv_e I6x (Or.inr (by decide))
        rw [gj, gj2, fj j hj]
  · unfold w_X10_fails
    intro σ8 e8
    intro b8
    refine ⟨b8, hP _ σ8 (by rw [e8]; exact wIr I (pRo pr (by decide)) (by decide) kd_223 rfl rfl (full32 _)) (fun h => absurd rfl h)⟩
set_option maxHeartbeats 4000000 in
theorem s_X10_takePost {A : Nat → Nat → Prop} {F : Nat → Nat → Int32} {w : Nat} (pr : okR A) (b : Int) (a1 a2 : Int32) (h1 : 0 ≤ ti a1 ∧ ti a1 ≤ 5) {σ : zSto} (I : zInv A F w σ) (hb : b ≤ ti (σ.1 223 9)) {P : Int32 → zSto → Prop} (hP : ∀ r σ2, zInv A F w σ2 → (¬ r = 0 → b ≤ ti (σ2.1 223 9) ∧ (ti (σ2.1 223 12) = 4 → b < ti (σ2.1 223 9)) ∧ (ti (σ2.1 223 16) = 0 → ti (σ.1 223 16) = 0 ∧ ti a2 ≤ ti (σ2.1 233 (ti a1).toNat) ∧ ti (σ2.1 233 (ti a1).toNat) ≤ 15) ∧ (∀ j, j ≠ (ti a1).toNat → σ2.1 233 j = σ.1 233 j)) → P r σ2) : w_X10_takePost a1 a2 σ P := by
  unfold w_X10_takePost
  refine s_X10_take pr b a1 a2 (15 : Int32) h1 I hb (fun r2 σ1 I1 z => ?_)
  intro b2
  have l15 := lit_15
  refine ⟨fun q σ3 e3 => ⟨b2, hP _ σ3 (by rw [e3]; exact wIr I1 (pRo pr (by decide)) (by decide) kd_223 rfl rfl (full32 _)) (fun h => absurd q h)⟩, fun q => ⟨vin (by omega), ?_⟩⟩
  obtain ⟨z1, z2, z3, z4⟩ := z q
  refine s_X10_greater _ _ I1 (fun r6 => ?_)
  intro σ7 e7
  have k7 : ∀ k j, (k ≠ 223 ∨ j ≠ 22) → σ7.1 k j = σ1.1 k j := fun k j h => zI_q' e7 h
  refine ⟨b2, hP _ σ7 (by rw [e7]; exact wIr I1 (pRo pr (by decide)) (by decide) kd_223 rfl rfl (full32 _)) (fun _ => ?_)⟩
  rw [k7 223 9 (Or.inr (by decide)), k7 223 12 (Or.inr (by decide)), k7 223 16 (Or.inr (by decide)), k7 233 _ (Or.inl (by decide))]
  rw [l15] at z3
  exact ⟨z1, z2, z3, fun j hj => by rw [k7 233 j (Or.inl (by decide))]; exact z4 j hj⟩
/-- a row told: its NUMBERS behind each other, one more of them -/
def kpr (c base N : Nat) (σ σ2 : zSto) : Prop := ∀ q j, σ2.1 q j = if q = 232 ∧ base ≤ j ∧ j < base + N then σ.1 233 (j - base) else σ.1 q j
set_option maxHeartbeats 4000000 in
theorem f_keep_19 (c base N : Nat) (x1 x2 x3 x5 x6 : Int32) (hc : ti x1 = c) (hcb : c < base) (hN : ti x5 = N) (hN6 : N ≤ 6) (hbN : base + N ≤ 123) (e1 : ti (x2 + x3 * x6) = base) {σ0 : zSto} (hk : 0 ≤ ti (σ0.1 232 c) ∧ ti (σ0.1 232 c) ≤ 100) {P : zSto → Prop} (hP : ∀ σ2, (∀ q j, σ2.1 q j = if q = 232 ∧ j = c then σ0.1 232 c + 1 else if q = 232 ∧ base ≤ j ∧ j < base + N then σ0.1 233 (j - base) else σ0.1 q j) → P σ2) : ∀ (n k : Nat) (x_7 : Int32) (σ : zSto), ti x_7 = k → k ≤ N → kpr c base k σ0 σ → N - k < n → w_X10_keep_19 x1 x2 x3 x5 x6 P n x_7 σ := by
  have l1 := lit_1
  have tc := tn_eq x1
  intro n
  induction n with
  | zero => intro k x_7 σ h1 h2 h3 h4; exfalso; omega
  | succ n ih =>
    intro k x_7 σ h1 h2 h3 h4
    unfold w_X10_keep_19
    refine ⟨fun q => ?_, fun q => ?_⟩
    · have c1 := le_t q
      have : k = N := by omega
      subst this
      refine ⟨vin (by omega), vin (by omega), fun σ5 e5 => hP σ5 (fun q' j => ?_)⟩
      rw [show x1.toNatClampNeg = c by omega] at e5
      have s1 : σ.1 232 c = σ0.1 232 c := by rw [h3 232 c, if_neg (by omega)]
      by_cases c2 : q' = 232 ∧ j = c
      · obtain ⟨u1, u2⟩ := c2
        subst u1
        subst u2
        rw [e5, zI_s, if_pos ⟨rfl, rfl⟩, s1]
      · rw [e5, zI_q (by omega), if_neg c2]
        exact h3 q' j
    · have c1 := nle_t q
      have tb := tadd (x := x2 + x3 * x6) (y := x_7) (by omega)
      have nb := tn_eq (x2 + x3 * x6 + x_7)
      have n7 := tn_eq x_7
      refine ⟨vin (by omega), vin (by omega), fun σ3 e3 x4 e4 => ?_⟩
      have t4 := tadd (x := x_7) (y := (1 : Int32)) (by omega)
      have t5 := eq_t e4
      rw [show (x2 + x3 * x6 + x_7).toNatClampNeg = base + k by omega, show x_7.toNatClampNeg = k by omega] at e3
      refine ih (k + 1) x4 σ3 (by omega) (by omega) (fun q' j => ?_) (by omega)
      have s1 : σ.1 233 k = σ0.1 233 k := by rw [h3 233 k, if_neg (by omega)]
      by_cases c2 : q' = 232 ∧ j = base + k
      · obtain ⟨u1, u2⟩ := c2
        subst u1
        subst u2
        rw [e3, zI_s, if_pos (by omega), s1, show base + k - base = k by omega]
      · rw [e3, zI_q (by omega), h3 q' j]
        by_cases c3 : q' = 232 ∧ base ≤ j ∧ j < base + k
        · rw [if_pos c3, if_pos (by omega)]
        · rw [if_neg c3, if_neg (by omega)]
theorem f_keep (c fr wd most N : Nat) (x1 x2 x3 x4 x5 : Int32) (hc : ti x1 = c) (h2 : ti x2 = fr) (h3 : ti x3 = wd) (h4 : ti x4 = most) (hN : ti x5 = N) (hcf : c < fr) (hN6 : N ≤ 6) (hwd : wd ≤ 6) {σ : zSto} (hk : 0 ≤ ti (σ.1 232 c) ∧ ti (σ.1 232 c) ≤ most) (hm : most ≤ 16) (hfit : fr + wd * (most - 1) + N ≤ 123) (hc1 : c < 123) {P : zSto → Prop} (h0 : P σ) (hP : ∀ (k : Nat), ti (σ.1 232 c) = k → k < most → ∀ σ2, (∀ q j, σ2.1 q j = if q = 232 ∧ j = c then σ.1 232 c + 1 else if q = 232 ∧ fr + wd * k ≤ j ∧ j < fr + wd * k + N then σ.1 233 (j - (fr + wd * k)) else σ.1 q j) → P σ2) : w_X10_keep x1 x2 x3 x4 x5 σ P := by
  unfold w_X10_keep
  have tc := tn_eq x1
  refine ⟨vin (by omega), fun y ey => ⟨fun q => ?_, fun _ => h0⟩⟩
  rw [show x1.toNatClampNeg = c by omega] at ey
  have cy := eq_t ey
  have cq := ne_t q
  obtain ⟨k, hk'⟩ : ∃ k : Nat, k = (ti (σ.1 232 c)).toNat := ⟨_, rfl⟩
  have hkk : ti y = (k : Int) := by omega
  have hkm : k < most := by omega
  have b1 : wd * k ≤ wd * (most - 1) := Nat.mul_le_mul_left _ (by omega)
  have b2 : wd * k ≤ 6 * 16 := Nat.mul_le_mul hwd (by omega)
  have em : ti x3 * ti y = ((wd * k : Nat) : Int) := by rw [h3, hkk]; simp
  have m1 : ti (x3 * y) = ((wd * k : Nat) : Int) := by rw [tmul (by rw [em]; omega), em]
  have m2 := tadd (x := x2) (y := x3 * y) (by omega)
  exact ⟨100, f_keep_19 c (fr + wd * k) N x1 x2 x3 x5 y hc (by omega) hN hN6 (by omega) (by omega) ⟨hk.1, by omega⟩ (hP k (by omega) hkm) 100 0 (0 : Int32) σ (by rw [lit_0]; rfl) (by omega) (fun q j => by rw [if_neg (by omega)]) (by omega)⟩
