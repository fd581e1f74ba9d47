set_option maxHeartbeats 4000000 in
theorem s_X4_isLetter {A : Nat → Nat → Prop} {F : Nat → Nat → Int32} {w : Nat} (a1 : Int32) (h_a1 : 0 ≤ ti (a1) ∧ ti (a1) ≤ 599) {σ : zSto} (I : zInv A F w σ) {P : Int32 → zSto → Prop} (hP : ∀ (r : Int32), P r σ) : w_X4_isLetter a1 σ P := by
  unfold w_X4_isLetter
  refine ⟨vin (by omega), ?_⟩
  refine ⟨?_, ?_⟩
  · intro uq1
    have ud2 : (-128) ≤ ti ((σ.1 189 ((a1).toNatClampNeg))) ∧ ti ((σ.1 189 ((a1).toNatClampNeg))) ≤ 127 := rdr I kd_189 rfl rfl
    have ul3 := lit_97
    have uc4 := lt_t uq1
    exact hP (0 : Int32)
  · intro uq5
    have ud6 : (-128) ≤ ti ((σ.1 189 ((a1).toNatClampNeg))) ∧ ti ((σ.1 189 ((a1).toNatClampNeg))) ≤ 127 := rdr I kd_189 rfl rfl
    have ul7 := lit_97
    have uc8 := nlt_t uq5
    refine ⟨vin (by omega), ?_⟩
    refine ⟨?_, ?_⟩
    · intro uq9
      have ul10 := lit_122
      have uc11 := lt_t uq9
      exact hP (0 : Int32)
    · intro uq12
      have ul13 := lit_122
      have uc14 := nlt_t uq12
      exact hP (1 : Int32)
set_option maxHeartbeats 4000000 in
theorem s_X4_isDigit {A : Nat → Nat → Prop} {F : Nat → Nat → Int32} {w : Nat} (a1 : Int32) (h_a1 : 0 ≤ ti (a1) ∧ ti (a1) ≤ 599) {σ : zSto} (I : zInv A F w σ) {P : Int32 → zSto → Prop} (hP : ∀ (r : Int32), (¬ r = 0 → 48 ≤ ti (σ.1 189 a1.toNatClampNeg) ∧ ti (σ.1 189 a1.toNatClampNeg) ≤ 57) → P r σ) : w_X4_isDigit a1 σ P := by
  unfold w_X4_isDigit
  refine ⟨vin (by omega), ?_⟩
  refine ⟨?_, ?_⟩
  · intro uq1
    have ud2 : (-128) ≤ ti ((σ.1 189 ((a1).toNatClampNeg))) ∧ ti ((σ.1 189 ((a1).toNatClampNeg))) ≤ 127 := rdr I kd_189 rfl rfl
    have ul3 := lit_48
    have uc4 := lt_t uq1
    exact hP (0 : Int32) (fun q => absurd rfl q)
  · intro uq5
    have ud6 : (-128) ≤ ti ((σ.1 189 ((a1).toNatClampNeg))) ∧ ti ((σ.1 189 ((a1).toNatClampNeg))) ≤ 127 := rdr I kd_189 rfl rfl
    have ul7 := lit_48
    have uc8 := nlt_t uq5
    refine ⟨vin (by omega), ?_⟩
    refine ⟨?_, ?_⟩
    · intro uq9
      have ul10 := lit_57
      have uc11 := lt_t uq9
      exact hP (0 : Int32) (fun q => absurd rfl q)
    · intro uq12
      have ul13 := lit_57
      have uc14 := nlt_t uq12
      exact hP (1 : Int32) (fun _ => by omega)
theorem zlen_rg {i : Nat} (h : i < 11) : 3 ≤ zlen.getD i 0 ∧ zlen.getD i 0 ≤ 7 := by
  have : ∀ i : Fin 11, 3 ≤ zlen.getD i.val 0 ∧ zlen.getD i.val 0 ≤ 7 := by decide
  exact this ⟨i, h⟩
theorem s_J0_length {σ : zSto} (i0 : Nat) (h : i0 < 11) {P : Int32 → zSto → Prop} (hP : ∀ r, ti r = ((zlen.getD i0 0 : Nat) : Int) → P r σ) : w_J0_length_8abf5 i0 σ P := by
  have e : ∀ i : Fin 11, ((Int32.ofNat (zlen.getD i.val 0)) >>> ((0 : Int32) &&& 31)).toInt = ((zlen.getD i.val 0 : Nat) : Int) := by decide
  exact hP _ (by rw [ti_eq]; exact e ⟨i0, h⟩)
theorem s_J0_charAt {σ : zSto} (i0 : Nat) (h : i0 < 11) (a1 : Int32) (h1 : 0 ≤ ti a1) (h2 : ti a1 < ((zlen.getD i0 0 : Nat) : Int)) {P : Int32 → zSto → Prop} (hP : ∀ r, P r σ) : w_J0_charAt_5068e i0 a1 σ P := by
  have z := zlen_rg h
  have l0 := lit_0
  have e : ti (Int32.ofNat (zlen.getD i0 0)) = ((zlen.getD i0 0 : Nat) : Int) := nI_t (by omega)
  unfold w_J0_charAt_5068e w_J0_isLatin1_aae02
  intro b
  refine ⟨fun q => absurd q (by decide), fun _ => ?_⟩
  unfold w_J1_charAt_3b067 w_J0_checkIndex_df160 w_J3_checkIndex_8e157
  intro o1
  refine ⟨fun q => ?_, fun q => ⟨fun q2 => ?_, fun q2 => ?_⟩⟩
  · have := lt_t q; omega
  · refine ⟨vin (by omega), ?_, ?_, ?_⟩
    · rw [sc_c2]; exact sc_nar _
    · rw [sc_c2]; exact sc_nar _
    · exact hP _
  · have := nlt_t q2; omega
set_option maxHeartbeats 4000000 in
theorem s_X4_isWord_20 {A : Nat → Nat → Prop} {F : Nat → Nat → Int32} {w : Nat} (q_1 : Nat) (h : q_1 < 11) {σ : zSto} (I : zInv A F w σ) {P : Int32 → zSto → Prop} (hP : ∀ r, P r σ) : ∀ (n : Nat) (x_2 : Int32), (0 ≤ ti x_2 ∧ ti x_2 ≤ 7) → (7 - ti x_2 < n) → w_X4_isWord_20 q_1 P n x_2 σ := by
  have z := zlen_rg h
  have l1 := lit_1
  intro n
  induction n with
  | zero => intro x h1 h2; exfalso; omega
  | succ n ih =>
    intro x_2 h1 h2
    unfold w_X4_isWord_20
    refine s_J0_length q_1 h (fun r4 e4 => ?_)
    refine ⟨fun _ => hP _, fun q1 => ⟨fun _ => hP _, fun q2 => ?_⟩⟩
    have c1 := nle_t q1
    have c2 := nle_t q2
    have d1 : 0 ≤ ti (σ.1 171 8) ∧ ti (σ.1 171 8) ≤ 600 := rdr I kd_171 rfl rfl
    have d2 : 0 ≤ ti (σ.1 171 5) ∧ ti (σ.1 171 5) ≤ 600 := rdr I kd_171 rfl rfl
    have t1 := tadd (x := σ.1 171 8) (y := x_2) (by omega)
    have t2 := tadd (x := x_2) (y := (1 : Int32)) (by omega)
    refine ⟨vin (by omega), s_J0_charAt q_1 h x_2 h1.1 (by omega) (fun r7 => ⟨fun _ x8 e8 => ?_, fun _ => hP _⟩)⟩
    have t3 := eq_t e8
    exact ih x8 (by omega) (by omega)
theorem s_X4_isWord {A : Nat → Nat → Prop} {F : Nat → Nat → Int32} {w : Nat} (i1 : Nat) (h : i1 < 11) {σ : zSto} (I : zInv A F w σ) {P : Int32 → zSto → Prop} (hP : ∀ r, P r σ) : w_X4_isWord i1 σ P := by
  unfold w_X4_isWord
  have l0 := lit_0
  exact s_J0_length i1 h (fun r2 e2 => ⟨fun _ => ⟨100, s_X4_isWord_20 i1 h I hP 100 (0 : Int32) (by omega) (by omega)⟩, fun _ => hP _⟩)
set_option maxHeartbeats 4000000 in
theorem s_X4_takeDigits_5 {A : Nat → Nat → Prop} {F : Nat → Nat → Int32} {w : Nat} (pc : okC A) {P : zSto → Prop} (hP : ∀ σ2, zInv A F w σ2 → (ti (σ2.1 171 7) = 2 → 0 ≤ ti (σ2.1 171 9) ∧ ti (σ2.1 171 9) ≤ 999) → P σ2) : ∀ (n : Nat) (σ : zSto), zInv A F w σ → (ti (σ.1 171 8) ≤ ti (σ.1 171 6)) → (ti (σ.1 171 6) - ti (σ.1 171 8) ≤ 3 → 0 ≤ ti (σ.1 171 9) ∧ (ti (σ.1 171 6) - ti (σ.1 171 8) = 0 → ti (σ.1 171 9) ≤ 0) ∧ (ti (σ.1 171 6) - ti (σ.1 171 8) = 1 → ti (σ.1 171 9) ≤ 9) ∧ (ti (σ.1 171 6) - ti (σ.1 171 8) = 2 → ti (σ.1 171 9) ≤ 99) ∧ ti (σ.1 171 9) ≤ 999) → (600 - ti (σ.1 171 6) < n) → w_X4_takeDigits_5 P n σ := by
  have l4 := lit_4
  have l2 := lit_2
  have l3 := lit_3
  have l1 := lit_1
  have l10 := lit_10
  have l48 := lit_48
  have fin : ∀ σ : zSto, zInv A F w σ → ti (σ.1 171 8) ≤ ti (σ.1 171 6) → (ti (σ.1 171 6) - ti (σ.1 171 8) ≤ 3 → 0 ≤ ti (σ.1 171 9) ∧ ti (σ.1 171 9) ≤ 999) → ((3 : Int32) < ((σ.1 171 6) - (σ.1 171 8)) → (∀ σ2 : zSto, σ2 = zI σ 171 7 (4 : Int32) → P σ2)) ∧ (¬ (3 : Int32) < ((σ.1 171 6) - (σ.1 171 8)) → (∀ σ3 : zSto, σ3 = zI σ 171 7 (2 : Int32) → P σ3)) := by
    intro σ I h1 h2
    have d1 : 0 ≤ ti (σ.1 171 8) ∧ ti (σ.1 171 8) ≤ 600 := rdr I kd_171 rfl rfl
    have d2 : 0 ≤ ti (σ.1 171 6) ∧ ti (σ.1 171 6) ≤ 600 := rdr I kd_171 rfl rfl
    have t1 := tsub (x := σ.1 171 6) (y := σ.1 171 8) (by omega)
    refine ⟨fun q σ2 e => hP σ2 (by rw [e]; exact wIr I (pC pc (by decide)) (by decide) kd_171 rfl rfl (full32 _)) (fun z => ?_), fun q σ2 e => hP σ2 (by rw [e]; exact wIr I (pC pc (by decide)) (by decide) kd_171 rfl rfl (full32 _)) (fun z => ?_)⟩
    · rw [e, zI_s] at z; omega
    · rw [e, zI_q (Or.inr (by decide))]
      have c := nlt_t q
      exact h2 (by omega)
  intro n
  induction n with
  | zero =>
    intro σ I h1 h2 hm
    have d2 : 0 ≤ ti (σ.1 171 6) ∧ ti (σ.1 171 6) ≤ 600 := rdr I kd_171 rfl rfl
    exfalso; omega
  | succ n ih =>
    intro σ I h1 h2 hm
    unfold w_X4_takeDigits_5
    have d1 : 0 ≤ ti (σ.1 171 8) ∧ ti (σ.1 171 8) ≤ 600 := rdr I kd_171 rfl rfl
    have d2 : 0 ≤ ti (σ.1 171 6) ∧ ti (σ.1 171 6) ≤ 600 := rdr I kd_171 rfl rfl
    have d3 : 0 ≤ ti (σ.1 171 5) ∧ ti (σ.1 171 5) ≤ 600 := rdr I kd_171 rfl rfl
    refine ⟨fun q => fin σ I h1 (by omega), fun q => ?_⟩
    have c := nle_t q
    refine s_X4_isDigit _ (by omega) I (fun r5 z => ?_)
    intro b
    refine ⟨fun q => fin σ I h1 (by omega), fun q => ?_⟩
    have c2 := z q
    refine ⟨vin (by omega), fun σ9 e9 σ10 e10 => ?_⟩
    have I9 : zInv A F w σ9 := by rw [e9]; exact wIr I (pC pc (by decide)) (by decide) kd_171 rfl rfl (full32 _)
    have g6 : ti (σ9.1 171 6) = ti (σ.1 171 6) := by rw [e9, zI_q (Or.inr (by decide))]
    have t6 := tadd (x := σ9.1 171 6) (y := (1 : Int32)) (by omega)
    have I10 : zInv A F w σ10 := by rw [e10]; exact wIr (a := 0) (b := 600) I9 (pC pc (by decide)) (by decide) kd_171 rfl rfl (by omega)
    have f6 : ti (σ10.1 171 6) = ti (σ.1 171 6) + 1 := by rw [e10, zI_s]; omega
    have f8 : ti (σ10.1 171 8) = ti (σ.1 171 8) := by rw [e10, zI_q (Or.inr (by decide)), e9, zI_q (Or.inr (by decide))]
    refine ih σ10 I10 (by omega) (fun q3 => ?_) (by omega)
    have h3 := h2 (by omega)
    have v1 := tsub (x := σ.1 189 (σ.1 171 6).toNatClampNeg) (y := (48 : Int32)) (by omega)
    have v2 := tmulr (x := σ.1 171 9) (y := (10 : Int32)) (10) lit_10 (by omega)
    have v3 := tadd (x := σ.1 171 9 * (10 : Int32)) (y := σ.1 189 (σ.1 171 6).toNatClampNeg - (48 : Int32)) (by omega)
    have f9 : ti (σ10.1 171 9) = ti (σ.1 171 9) * 10 + (ti (σ.1 189 (σ.1 171 6).toNatClampNeg) - 48) := by
      rw [e10, zI_q (Or.inr (by decide)), e9, zI_s]; omega
    omega
theorem s_X4_takeDigits {A : Nat → Nat → Prop} {F : Nat → Nat → Int32} {w : Nat} (pc : okC A) {σ : zSto} (I : zInv A F w σ) (h : ti (σ.1 171 8) = ti (σ.1 171 6)) {P : zSto → Prop} (hP : ∀ σ2, zInv A F w σ2 → (ti (σ2.1 171 7) = 2 → 0 ≤ ti (σ2.1 171 9) ∧ ti (σ2.1 171 9) ≤ 999) → P σ2) : w_X4_takeDigits σ P := by
  unfold w_X4_takeDigits
  intro σ1 e1
  have I1 : zInv A F w σ1 := by rw [e1]; exact wIr I (pC pc (by decide)) (by decide) kd_171 rfl rfl (full32 _)
  have f6 : ti (σ1.1 171 6) = ti (σ.1 171 6) := by rw [e1, zI_q (Or.inr (by decide))]
  have f8 : ti (σ1.1 171 8) = ti (σ.1 171 8) := by rw [e1, zI_q (Or.inr (by decide))]
  have f9 : ti (σ1.1 171 9) = 0 := by rw [e1, zI_s]; exact lit_0
  have d2 : 0 ≤ ti (σ.1 171 6) ∧ ti (σ.1 171 6) ≤ 600 := rdr I kd_171 rfl rfl
  exact ⟨1000, s_X4_takeDigits_5 pc hP 1000 σ1 I1 (by omega) (by omega) (by omega)⟩
set_option maxHeartbeats 4000000 in
theorem s_X4_nextToken_95 {A : Nat → Nat → Prop} {F : Nat → Nat → Int32} {w : Nat} (pc : okC A) {P : zSto → Prop} (hP : ∀ (σ2 : zSto), zInv A F w σ2 → (ti (σ2.1 171 7) = 2 → 0 ≤ ti (σ2.1 171 9) ∧ ti (σ2.1 171 9) ≤ 999) → P σ2) : ∀ (n : Nat) (σ : zSto), zInv A F w σ → (ti (σ.1 171 7) = 1) → (600 - ti (σ.1 171 6) < n) → w_X4_nextToken_95 P n  σ := by
  intro n
  induction n with
  | zero =>
    intro σ I pre0 hm
    have ud1 : 0 ≤ ti (σ.1 171 6) ∧ ti (σ.1 171 6) ≤ 600 := rdr I kd_171 rfl rfl
    exfalso
    omega
  | succ n ih =>
    intro σ I pre0 hm
    unfold w_X4_nextToken_95
    refine ⟨?_, ?_⟩
    · intro uq2
      have ud3 : 0 ≤ ti ((σ.1 171 5)) ∧ ti ((σ.1 171 5)) ≤ 600 := rdr I kd_171 rfl rfl
      have ud4 : 0 ≤ ti ((σ.1 171 6)) ∧ ti ((σ.1 171 6)) ≤ 600 := rdr I kd_171 rfl rfl
      have uc5 := le_t uq2
      exact hP σ I (by omega)
    · intro uq6
      have ud7 : 0 ≤ ti ((σ.1 171 5)) ∧ ti ((σ.1 171 5)) ≤ 600 := rdr I kd_171 rfl rfl
      have ud8 : 0 ≤ ti ((σ.1 171 6)) ∧ ti ((σ.1 171 6)) ≤ 600 := rdr I kd_171 rfl rfl
      have uc9 := nle_t uq6
      refine s_X4_isLetter (σ.1 171 6) (by omega) I (fun r14 => ?_)
      intro ub10
      have uc11 := bool_t ub10
      refine ⟨?_, ?_⟩
      · intro uq12
        have ul13 := lit_0
        have uc14 := eq_t uq12
        exact hP σ I (by omega)
      · intro uq15
        have ul16 := lit_0
        have uc17 := ne_t uq15
        intro σ15 eσ15
        have ul19 := lit_1
        have ut20 := tadd (x := (σ.1 171 6)) (y := (1 : Int32)) (by omega)
        have uI18 : zInv A F w σ15 := by rw [eσ15]; exact wIr (a := 0) (b := 600) I (pC pc (by decide)) (by decide) kd_171 rfl rfl (by omega)
        have ue21 : ti ((σ15.1 171 6)) = ti (((σ.1 171 6) + (1 : Int32))) := by rw [eσ15]; exact congrArg ti zI_s
        have ud22 : 0 ≤ ti ((σ15.1 171 6)) ∧ ti ((σ15.1 171 6)) ≤ 600 := rdr uI18 kd_171 rfl rfl
        have ue23 : ti ((σ15.1 171 7)) = ti ((σ.1 171 7)) := by rw [eσ15]; exact congrArg ti (zI_q (Or.inr (by decide)))
        exact ih  σ15 uI18 (by omega) (by omega)
set_option maxHeartbeats 4000000 in
theorem s_X4_nextToken_0 {A : Nat → Nat → Prop} {F : Nat → Nat → Int32} {w : Nat} (pc : okC A) {P : zSto → Prop} (hP : ∀ (σ2 : zSto), zInv A F w σ2 → (ti (σ2.1 171 7) = 2 → 0 ≤ ti (σ2.1 171 9) ∧ ti (σ2.1 171 9) ≤ 999) → P σ2) : ∀ (n : Nat) (σ : zSto), zInv A F w σ → (600 - ti (σ.1 171 6) < n) → w_X4_nextToken_0 P n  σ := by
  intro n
  induction n with
  | zero =>
    intro σ I hm
    have ud1 : 0 ≤ ti (σ.1 171 6) ∧ ti (σ.1 171 6) ≤ 600 := rdr I kd_171 rfl rfl
    exfalso
    omega
  | succ n ih =>
    intro σ I hm
    unfold w_X4_nextToken_0
    refine ⟨?_, ?_⟩
    · intro uq2
      have ud3 : 0 ≤ ti ((σ.1 171 5)) ∧ ti ((σ.1 171 5)) ≤ 600 := rdr I kd_171 rfl rfl
      have ud4 : 0 ≤ ti ((σ.1 171 6)) ∧ ti ((σ.1 171 6)) ≤ 600 := rdr I kd_171 rfl rfl
      have uc5 := le_t uq2
      intro σ1 eσ1
      have uI6 : zInv A F w σ1 := by rw [eσ1]; exact wIr (a := 0) (b := 600) I (pC pc (by decide)) (by decide) kd_171 rfl rfl (by omega)
      refine ⟨?_, ?_⟩
      · intro uq7
        have ue8 : ti ((σ1.1 171 6)) = ti ((σ.1 171 6)) := by rw [eσ1]; exact congrArg ti (zI_q (Or.inr (by decide)))
        have ud9 : 0 ≤ ti ((σ1.1 171 6)) ∧ ti ((σ1.1 171 6)) ≤ 600 := rdr uI6 kd_171 rfl rfl
        have ue10 : ti ((σ1.1 171 5)) = ti ((σ.1 171 5)) := by rw [eσ1]; exact congrArg ti (zI_q (Or.inr (by decide)))
        have ud11 : 0 ≤ ti ((σ1.1 171 5)) ∧ ti ((σ1.1 171 5)) ≤ 600 := rdr uI6 kd_171 rfl rfl
        have uc12 := lt_t uq7
        refine s_X4_isLetter (σ1.1 171 6) (by omega) uI6 (fun r3 => ?_)
        intro ub13
        have uc14 := bool_t ub13
        refine ⟨?_, ?_⟩
        · intro uq15
          have ul16 := lit_0
          have uc17 := eq_t uq15
          refine s_X4_isDigit (σ1.1 171 6) (by omega) uI6 (fun r5 uz18 => ?_)
          intro ub19
          have uc20 := bool_t ub19
          refine ⟨?_, ?_⟩
          · intro uq21
            have uc22 := eq_t uq21
            refine ⟨vin (by omega), ?_⟩
            refine ⟨?_, ?_⟩
            · intro uq23
              have ue24 : ti ((σ1.1 189 (((σ1.1 171 6)).toNatClampNeg))) = ti ((σ.1 189 (((σ1.1 171 6)).toNatClampNeg))) := by rw [eσ1]; exact congrArg ti (zI_q (Or.inl (by omega)))
              have ud25 : (-128) ≤ ti ((σ.1 189 (((σ1.1 171 6)).toNatClampNeg))) ∧ ti ((σ.1 189 (((σ1.1 171 6)).toNatClampNeg))) ≤ 127 := rdr I kd_189 rfl rfl
              have ud26 : (-128) ≤ ti ((σ1.1 189 (((σ1.1 171 6)).toNatClampNeg))) ∧ ti ((σ1.1 189 (((σ1.1 171 6)).toNatClampNeg))) ≤ 127 := rdr uI6 kd_189 rfl rfl
              have ul27 := lit_59
              intro σ7 eσ7
              have uI28 : zInv A F w σ7 := by rw [eσ7]; exact wIr uI6 (pC pc (by decide)) (by decide) kd_171 rfl rfl (full32 _)
              intro σ8 eσ8
              have ue30 : ti ((σ7.1 171 6)) = ti ((σ1.1 171 6)) := by rw [eσ7]; exact congrArg ti (zI_q (Or.inr (by decide)))
              have ud31 : 0 ≤ ti ((σ7.1 171 6)) ∧ ti ((σ7.1 171 6)) ≤ 600 := rdr uI28 kd_171 rfl rfl
              have ul32 := lit_1
              have ut33 := tadd (x := (σ7.1 171 6)) (y := (1 : Int32)) (by omega)
              have uI29 : zInv A F w σ8 := by rw [eσ8]; exact wIr (a := 0) (b := 600) uI28 (pC pc (by decide)) (by decide) kd_171 rfl rfl (by omega)
              have ue34 : ti ((σ8.1 171 7)) = ti ((σ7.1 171 7)) := by rw [eσ8]; exact congrArg ti (zI_q (Or.inr (by decide)))
              have ue35 : ti ((σ7.1 171 7)) = ti ((4 : Int32)) := by rw [eσ7]; exact congrArg ti zI_s
              have ul36 := lit_4
              exact hP σ8 uI29 (by omega)
            · intro uq37
              have ue38 : ti ((σ1.1 189 (((σ1.1 171 6)).toNatClampNeg))) = ti ((σ.1 189 (((σ1.1 171 6)).toNatClampNeg))) := by rw [eσ1]; exact congrArg ti (zI_q (Or.inl (by omega)))
              have ud39 : (-128) ≤ ti ((σ.1 189 (((σ1.1 171 6)).toNatClampNeg))) ∧ ti ((σ.1 189 (((σ1.1 171 6)).toNatClampNeg))) ≤ 127 := rdr I kd_189 rfl rfl
              have ud40 : (-128) ≤ ti ((σ1.1 189 (((σ1.1 171 6)).toNatClampNeg))) ∧ ti ((σ1.1 189 (((σ1.1 171 6)).toNatClampNeg))) ≤ 127 := rdr uI6 kd_189 rfl rfl
              have ul41 := lit_59
              have uc42 := eq_t uq37
              intro σ9 eσ9
              have uI43 : zInv A F w σ9 := by rw [eσ9]; exact wIr uI6 (pC pc (by decide)) (by decide) kd_171 rfl rfl (full32 _)
              intro σ10 eσ10
              have ue45 : ti ((σ9.1 171 6)) = ti ((σ1.1 171 6)) := by rw [eσ9]; exact congrArg ti (zI_q (Or.inr (by decide)))
              have ud46 : 0 ≤ ti ((σ9.1 171 6)) ∧ ti ((σ9.1 171 6)) ≤ 600 := rdr uI43 kd_171 rfl rfl
              have ul47 := lit_1
              have ut48 := tadd (x := (σ9.1 171 6)) (y := (1 : Int32)) (by omega)
              have uI44 : zInv A F w σ10 := by rw [eσ10]; exact wIr (a := 0) (b := 600) uI43 (pC pc (by decide)) (by decide) kd_171 rfl rfl (by omega)
              have ue49 : ti ((σ10.1 171 7)) = ti ((σ9.1 171 7)) := by rw [eσ10]; exact congrArg ti (zI_q (Or.inr (by decide)))
              have ue50 : ti ((σ9.1 171 7)) = ti ((3 : Int32)) := by rw [eσ9]; exact congrArg ti zI_s
              have ul51 := lit_3
              exact hP σ10 uI44 (by omega)
          · intro uq52
            have uc53 := uz18 uq52
            have uc54 := ne_t uq52
            have ue55 : ti ((σ1.1 171 8)) = ti ((σ.1 171 6)) := by rw [eσ1]; exact congrArg ti zI_s
            have ud56 : 0 ≤ ti ((σ1.1 171 8)) ∧ ti ((σ1.1 171 8)) ≤ 600 := rdr uI6 kd_171 rfl rfl
            refine s_X4_takeDigits pc uI6 (by omega) (fun σ11 uI57 uy58 => ?_)
            exact hP σ11 uI57 (by omega)
        · intro uq59
          have ul60 := lit_0
          have uc61 := ne_t uq59
          intro σ12 eσ12
          have uI62 : zInv A F w σ12 := by rw [eσ12]; exact wIr uI6 (pC pc (by decide)) (by decide) kd_171 rfl rfl (full32 _)
          refine ⟨70000, ?_⟩
          have ue63 : ti ((σ12.1 171 6)) = ti ((σ1.1 171 6)) := by rw [eσ12]; exact congrArg ti (zI_q (Or.inr (by decide)))
          have ud64 : 0 ≤ ti ((σ12.1 171 6)) ∧ ti ((σ12.1 171 6)) ≤ 600 := rdr uI62 kd_171 rfl rfl
          have ue65 : ti ((σ12.1 171 7)) = ti ((1 : Int32)) := by rw [eσ12]; exact congrArg ti zI_s
          have ul66 := lit_1
          exact s_X4_nextToken_95 pc hP 70000  σ12 uI62 (by omega) (by omega)
      · intro uq67
        have ue68 : ti ((σ1.1 171 6)) = ti ((σ.1 171 6)) := by rw [eσ1]; exact congrArg ti (zI_q (Or.inr (by decide)))
        have ud69 : 0 ≤ ti ((σ1.1 171 6)) ∧ ti ((σ1.1 171 6)) ≤ 600 := rdr uI6 kd_171 rfl rfl
        have ue70 : ti ((σ1.1 171 5)) = ti ((σ.1 171 5)) := by rw [eσ1]; exact congrArg ti (zI_q (Or.inr (by decide)))
        have ud71 : 0 ≤ ti ((σ1.1 171 5)) ∧ ti ((σ1.1 171 5)) ≤ 600 := rdr uI6 kd_171 rfl rfl
        have uc72 := nlt_t uq67
        intro σ16 eσ16
        have uI73 : zInv A F w σ16 := by rw [eσ16]; exact wIr uI6 (pC pc (by decide)) (by decide) kd_171 rfl rfl (full32 _)
        have ue74 : ti ((σ16.1 171 7)) = ti ((0 : Int32)) := by rw [eσ16]; exact congrArg ti zI_s
        have ul75 := lit_0
        exact hP σ16 uI73 (by omega)
    · intro uq76
      have ud77 : 0 ≤ ti ((σ.1 171 5)) ∧ ti ((σ.1 171 5)) ≤ 600 := rdr I kd_171 rfl rfl
      have ud78 : 0 ≤ ti ((σ.1 171 6)) ∧ ti ((σ.1 171 6)) ≤ 600 := rdr I kd_171 rfl rfl
      have uc79 := nle_t uq76
      refine ⟨vin (by omega), ?_⟩
      refine ⟨?_, ?_⟩
      · intro uq80
        have ud81 : (-128) ≤ ti ((σ.1 189 (((σ.1 171 6)).toNatClampNeg))) ∧ ti ((σ.1 189 (((σ.1 171 6)).toNatClampNeg))) ≤ 127 := rdr I kd_189 rfl rfl
        have ul82 := lit_32
        have uc83 := eq_t uq80
        intro σ18 eσ18
        have ul85 := lit_1
        have ut86 := tadd (x := (σ.1 171 6)) (y := (1 : Int32)) (by omega)
        have uI84 : zInv A F w σ18 := by rw [eσ18]; exact wIr (a := 0) (b := 600) I (pC pc (by decide)) (by decide) kd_171 rfl rfl (by omega)
        have ue87 : ti ((σ18.1 171 6)) = ti (((σ.1 171 6) + (1 : Int32))) := by rw [eσ18]; exact congrArg ti zI_s
        have ud88 : 0 ≤ ti ((σ18.1 171 6)) ∧ ti ((σ18.1 171 6)) ≤ 600 := rdr uI84 kd_171 rfl rfl
        exact ih  σ18 uI84 (by omega)
      · intro uq89
        have ud90 : (-128) ≤ ti ((σ.1 189 (((σ.1 171 6)).toNatClampNeg))) ∧ ti ((σ.1 189 (((σ.1 171 6)).toNatClampNeg))) ≤ 127 := rdr I kd_189 rfl rfl
        have ul91 := lit_32
        refine ⟨vin (by omega), ?_⟩
        refine ⟨?_, ?_⟩
        · intro uq92
          have ul93 := lit_10
          intro σ20 eσ20
          have uI94 : zInv A F w σ20 := by rw [eσ20]; exact wIr (a := 0) (b := 600) I (pC pc (by decide)) (by decide) kd_171 rfl rfl (by omega)
          refine ⟨?_, ?_⟩
          · intro uq95
            have ue96 : ti ((σ20.1 171 6)) = ti ((σ.1 171 6)) := by rw [eσ20]; exact congrArg ti (zI_q (Or.inr (by decide)))
            have ud97 : 0 ≤ ti ((σ20.1 171 6)) ∧ ti ((σ20.1 171 6)) ≤ 600 := rdr uI94 kd_171 rfl rfl
            have ue98 : ti ((σ20.1 171 5)) = ti ((σ.1 171 5)) := by rw [eσ20]; exact congrArg ti (zI_q (Or.inr (by decide)))
            have ud99 : 0 ≤ ti ((σ20.1 171 5)) ∧ ti ((σ20.1 171 5)) ≤ 600 := rdr uI94 kd_171 rfl rfl
            have uc100 := lt_t uq95
            refine s_X4_isLetter (σ20.1 171 6) (by omega) uI94 (fun r22 => ?_)
            intro ub101
            have uc102 := bool_t ub101
            refine ⟨?_, ?_⟩
            · intro uq103
              have ul104 := lit_0
              have uc105 := eq_t uq103
              refine s_X4_isDigit (σ20.1 171 6) (by omega) uI94 (fun r24 uz106 => ?_)
              intro ub107
              have uc108 := bool_t ub107
              refine ⟨?_, ?_⟩
              · intro uq109
                have uc110 := eq_t uq109
                refine ⟨vin (by omega), ?_⟩
                refine ⟨?_, ?_⟩
                · intro uq111
                  have ue112 : ti ((σ20.1 189 (((σ20.1 171 6)).toNatClampNeg))) = ti ((σ.1 189 (((σ20.1 171 6)).toNatClampNeg))) := by rw [eσ20]; exact congrArg ti (zI_q (Or.inl (by omega)))
                  have ud113 : (-128) ≤ ti ((σ.1 189 (((σ20.1 171 6)).toNatClampNeg))) ∧ ti ((σ.1 189 (((σ20.1 171 6)).toNatClampNeg))) ≤ 127 := rdr I kd_189 rfl rfl
                  have ud114 : (-128) ≤ ti ((σ20.1 189 (((σ20.1 171 6)).toNatClampNeg))) ∧ ti ((σ20.1 189 (((σ20.1 171 6)).toNatClampNeg))) ≤ 127 := rdr uI94 kd_189 rfl rfl
                  have ul115 := lit_59
                  intro σ26 eσ26
                  have uI116 : zInv A F w σ26 := by rw [eσ26]; exact wIr uI94 (pC pc (by decide)) (by decide) kd_171 rfl rfl (full32 _)
                  intro σ27 eσ27
                  have ue118 : ti ((σ26.1 171 6)) = ti ((σ20.1 171 6)) := by rw [eσ26]; exact congrArg ti (zI_q (Or.inr (by decide)))
                  have ud119 : 0 ≤ ti ((σ26.1 171 6)) ∧ ti ((σ26.1 171 6)) ≤ 600 := rdr uI116 kd_171 rfl rfl
                  have ul120 := lit_1
                  have ut121 := tadd (x := (σ26.1 171 6)) (y := (1 : Int32)) (by omega)
                  have uI117 : zInv A F w σ27 := by rw [eσ27]; exact wIr (a := 0) (b := 600) uI116 (pC pc (by decide)) (by decide) kd_171 rfl rfl (by omega)
                  have ue122 : ti ((σ27.1 171 7)) = ti ((σ26.1 171 7)) := by rw [eσ27]; exact congrArg ti (zI_q (Or.inr (by decide)))
                  have ue123 : ti ((σ26.1 171 7)) = ti ((4 : Int32)) := by rw [eσ26]; exact congrArg ti zI_s
                  have ul124 := lit_4
                  exact hP σ27 uI117 (by omega)
                · intro uq125
                  have ue126 : ti ((σ20.1 189 (((σ20.1 171 6)).toNatClampNeg))) = ti ((σ.1 189 (((σ20.1 171 6)).toNatClampNeg))) := by rw [eσ20]; exact congrArg ti (zI_q (Or.inl (by omega)))
                  have ud127 : (-128) ≤ ti ((σ.1 189 (((σ20.1 171 6)).toNatClampNeg))) ∧ ti ((σ.1 189 (((σ20.1 171 6)).toNatClampNeg))) ≤ 127 := rdr I kd_189 rfl rfl
                  have ud128 : (-128) ≤ ti ((σ20.1 189 (((σ20.1 171 6)).toNatClampNeg))) ∧ ti ((σ20.1 189 (((σ20.1 171 6)).toNatClampNeg))) ≤ 127 := rdr uI94 kd_189 rfl rfl
                  have ul129 := lit_59
                  have uc130 := eq_t uq125
                  intro σ28 eσ28
                  have uI131 : zInv A F w σ28 := by rw [eσ28]; exact wIr uI94 (pC pc (by decide)) (by decide) kd_171 rfl rfl (full32 _)
                  intro σ29 eσ29
                  have ue133 : ti ((σ28.1 171 6)) = ti ((σ20.1 171 6)) := by rw [eσ28]; exact congrArg ti (zI_q (Or.inr (by decide)))
                  have ud134 : 0 ≤ ti ((σ28.1 171 6)) ∧ ti ((σ28.1 171 6)) ≤ 600 := rdr uI131 kd_171 rfl rfl
                  have ul135 := lit_1
                  have ut136 := tadd (x := (σ28.1 171 6)) (y := (1 : Int32)) (by omega)
                  have uI132 : zInv A F w σ29 := by rw [eσ29]; exact wIr (a := 0) (b := 600) uI131 (pC pc (by decide)) (by decide) kd_171 rfl rfl (by omega)
                  have ue137 : ti ((σ29.1 171 7)) = ti ((σ28.1 171 7)) := by rw [eσ29]; exact congrArg ti (zI_q (Or.inr (by decide)))
                  have ue138 : ti ((σ28.1 171 7)) = ti ((3 : Int32)) := by rw [eσ28]; exact congrArg ti zI_s
                  have ul139 := lit_3
                  exact hP σ29 uI132 (by omega)
              · intro uq140
                have uc141 := uz106 uq140
                have uc142 := ne_t uq140
                have ue143 : ti ((σ20.1 171 8)) = ti ((σ.1 171 6)) := by rw [eσ20]; exact congrArg ti zI_s
                have ud144 : 0 ≤ ti ((σ20.1 171 8)) ∧ ti ((σ20.1 171 8)) ≤ 600 := rdr uI94 kd_171 rfl rfl
                refine s_X4_takeDigits pc uI94 (by omega) (fun σ30 uI145 uy146 => ?_)
                exact hP σ30 uI145 (by omega)
            · intro uq147
              have ul148 := lit_0
              have uc149 := ne_t uq147
              intro σ31 eσ31
              have uI150 : zInv A F w σ31 := by rw [eσ31]; exact wIr uI94 (pC pc (by decide)) (by decide) kd_171 rfl rfl (full32 _)
              refine ⟨70000, ?_⟩
              have ue151 : ti ((σ31.1 171 6)) = ti ((σ20.1 171 6)) := by rw [eσ31]; exact congrArg ti (zI_q (Or.inr (by decide)))
              have ud152 : 0 ≤ ti ((σ31.1 171 6)) ∧ ti ((σ31.1 171 6)) ≤ 600 := rdr uI150 kd_171 rfl rfl
              have ue153 : ti ((σ31.1 171 7)) = ti ((1 : Int32)) := by rw [eσ31]; exact congrArg ti zI_s
              have ul154 := lit_1
              exact s_X4_nextToken_95 pc hP 70000  σ31 uI150 (by omega) (by omega)
          · intro uq155
            have ue156 : ti ((σ20.1 171 6)) = ti ((σ.1 171 6)) := by rw [eσ20]; exact congrArg ti (zI_q (Or.inr (by decide)))
            have ud157 : 0 ≤ ti ((σ20.1 171 6)) ∧ ti ((σ20.1 171 6)) ≤ 600 := rdr uI94 kd_171 rfl rfl
            have ue158 : ti ((σ20.1 171 5)) = ti ((σ.1 171 5)) := by rw [eσ20]; exact congrArg ti (zI_q (Or.inr (by decide)))
            have ud159 : 0 ≤ ti ((σ20.1 171 5)) ∧ ti ((σ20.1 171 5)) ≤ 600 := rdr uI94 kd_171 rfl rfl
            have uc160 := nlt_t uq155
            intro σ32 eσ32
            have uI161 : zInv A F w σ32 := by rw [eσ32]; exact wIr uI94 (pC pc (by decide)) (by decide) kd_171 rfl rfl (full32 _)
            have ue162 : ti ((σ32.1 171 7)) = ti ((0 : Int32)) := by rw [eσ32]; exact congrArg ti zI_s
            have ul163 := lit_0
            exact hP σ32 uI161 (by omega)
        · intro uq164
          have ul165 := lit_10
          have uc166 := eq_t uq164
          intro σ33 eσ33
          have ul168 := lit_1
          have ut169 := tadd (x := (σ.1 171 6)) (y := (1 : Int32)) (by omega)
          have uI167 : zInv A F w σ33 := by rw [eσ33]; exact wIr (a := 0) (b := 600) I (pC pc (by decide)) (by decide) kd_171 rfl rfl (by omega)
          have ue170 : ti ((σ33.1 171 6)) = ti (((σ.1 171 6) + (1 : Int32))) := by rw [eσ33]; exact congrArg ti zI_s
          have ud171 : 0 ≤ ti ((σ33.1 171 6)) ∧ ti ((σ33.1 171 6)) ≤ 600 := rdr uI167 kd_171 rfl rfl
          exact ih  σ33 uI167 (by omega)
set_option maxHeartbeats 4000000 in
theorem s_X4_nextToken {A : Nat → Nat → Prop} {F : Nat → Nat → Int32} {w : Nat} (pc : okC A) {σ : zSto} (I : zInv A F w σ) {P : zSto → Prop} (hP : ∀ (σ2 : zSto), zInv A F w σ2 → (ti (σ2.1 171 7) = 2 → 0 ≤ ti (σ2.1 171 9) ∧ ti (σ2.1 171 9) ≤ 999) → P σ2) : w_X4_nextToken σ P := by
  unfold w_X4_nextToken
  refine ⟨70000, ?_⟩
  have ud1 : 0 ≤ ti ((σ.1 171 6)) ∧ ti ((σ.1 171 6)) ≤ 600 := rdr I kd_171 rfl rfl
  exact s_X4_nextToken_0 pc hP 70000  σ I (by omega)
set_option maxHeartbeats 4000000 in
theorem s_X4_lineWord {A : Nat → Nat → Prop} {F : Nat → Nat → Int32} {w : Nat} {σ : zSto} (I : zInv A F w σ) {P : Int32 → zSto → Prop} (hP : ∀ (r : Int32), P r σ) : w_X4_lineWord σ P := by
  unfold w_X4_lineWord
  refine s_X4_isWord 2 (by omega) I (fun r2 => ?_)
  intro ub1
  have uc2 := bool_t ub1
  refine ⟨?_, ?_⟩
  · intro uq3
    have ul4 := lit_0
    have uc5 := eq_t uq3
    refine s_X4_isWord 3 (by omega) I (fun r4 => ?_)
    intro ub6
    have uc7 := bool_t ub6
    refine ⟨?_, ?_⟩
    · intro uq8
      have uc9 := eq_t uq8
      refine s_X4_isWord 4 (by omega) I (fun r6 => ?_)
      intro ub10
      have uc11 := bool_t ub10
      refine ⟨?_, ?_⟩
      · intro uq12
        have uc13 := eq_t uq12
        refine s_X4_isWord 5 (by omega) I (fun r8 => ?_)
        intro ub14
        have uc15 := bool_t ub14
        refine ⟨?_, ?_⟩
        · intro uq16
          have uc17 := eq_t uq16
          refine s_X4_isWord 6 (by omega) I (fun r10 => ?_)
          intro ub18
          have uc19 := bool_t ub18
          refine ⟨?_, ?_⟩
          · intro uq20
            have uc21 := eq_t uq20
            refine s_X4_isWord 7 (by omega) I (fun r12 => ?_)
            intro ub22
            have uc23 := bool_t ub22
            refine ⟨?_, ?_⟩
            · intro uq24
              have uc25 := eq_t uq24
              refine s_X4_isWord 8 (by omega) I (fun r14 => ?_)
              intro ub26
              have uc27 := bool_t ub26
              refine ⟨?_, ?_⟩
              · intro uq28
                have uc29 := eq_t uq28
                refine s_X4_isWord 9 (by omega) I (fun r16 => ?_)
                intro ub30
                have uc31 := bool_t ub30
                refine ⟨?_, ?_⟩
                · intro uq32
                  have uc33 := eq_t uq32
                  refine s_X4_isWord 10 (by omega) I (fun r18 => ?_)
                  intro ub34
                  have uc35 := bool_t ub34
                  refine ⟨?_, ?_⟩
                  · intro uq36
                    have uc37 := eq_t uq36
                    exact hP (-1 : Int32)
                  · intro uq38
                    have uc39 := ne_t uq38
                    exact hP (8 : Int32)
                · intro uq40
                  have uc41 := ne_t uq40
                  exact hP (7 : Int32)
              · intro uq42
                have uc43 := ne_t uq42
                exact hP (6 : Int32)
            · intro uq44
              have uc45 := ne_t uq44
              exact hP (5 : Int32)
          · intro uq46
            have uc47 := ne_t uq46
            exact hP (4 : Int32)
        · intro uq48
          have uc49 := ne_t uq48
          exact hP (3 : Int32)
      · intro uq50
        have uc51 := ne_t uq50
        exact hP (2 : Int32)
    · intro uq52
      have uc53 := ne_t uq52
      exact hP (1 : Int32)
  · intro uq54
    have ul55 := lit_0
    have uc56 := ne_t uq54
    exact hP (0 : Int32)
set_option maxHeartbeats 4000000 in
theorem s_X4_wordOf {A : Nat → Nat → Prop} {F : Nat → Nat → Int32} {w : Nat} (a1 : Int32) {σ : zSto} (I : zInv A F w σ) {P : Int32 → zSto → Prop} (hP : ∀ (r : Int32), P r σ) : w_X4_wordOf a1 σ P := by
  unfold w_X4_wordOf
  refine ⟨?_, ?_⟩
  · intro uq1
    have ul2 := lit_1
    refine ⟨?_, ?_⟩
    · intro uq3
      have ul4 := lit_2
      refine s_X4_lineWord I (fun r2 => ?_)
      exact hP r2
    · intro uq5
      have ul6 := lit_2
      have uc7 := eq_t uq5
      refine s_X4_isWord 1 (by omega) I (fun r4 => ?_)
      intro ub8
      have uc9 := bool_t ub8
      refine ⟨?_, ?_⟩
      · intro uq10
        have ul11 := lit_0
        have uc12 := eq_t uq10
        exact hP (-1 : Int32)
      · intro uq13
        have ul14 := lit_0
        have uc15 := ne_t uq13
        exact hP (10 : Int32)
  · intro uq16
    have ul17 := lit_1
    have uc18 := eq_t uq16
    refine s_X4_isWord 0 (by omega) I (fun r6 => ?_)
    intro ub19
    have uc20 := bool_t ub19
    refine ⟨?_, ?_⟩
    · intro uq21
      have ul22 := lit_0
      have uc23 := eq_t uq21
      exact hP (-1 : Int32)
    · intro uq24
      have ul25 := lit_0
      have uc26 := ne_t uq24
      exact hP (9 : Int32)
set_option maxHeartbeats 4000000 in
theorem s_X4_howManyNumbers {A : Nat → Nat → Prop} {F : Nat → Nat → Int32} {w : Nat} (a1 : Int32) {σ : zSto} (I : zInv A F w σ) {P : Int32 → zSto → Prop} (hP : ∀ (r : Int32), P r σ) : w_X4_howManyNumbers a1 σ P := by
  unfold w_X4_howManyNumbers
  refine ⟨?_, ?_⟩
  · intro uq1
    have ul2 := lit_0
    have uc3 := eq_t uq1
    exact hP (3 : Int32)
  · refine ⟨?_, ?_⟩
    · intro uq4
      have ul5 := lit_1
      have uc6 := eq_t uq4
      exact hP (6 : Int32)
    · refine ⟨?_, ?_⟩
      · intro uq7
        have ul8 := lit_2
        have uc9 := eq_t uq7
        exact hP (2 : Int32)
      · refine ⟨?_, ?_⟩
        · intro uq10
          have ul11 := lit_3
          have uc12 := eq_t uq10
          exact hP (2 : Int32)
        · refine ⟨?_, ?_⟩
          · intro uq13
            have ul14 := lit_4
            have uc15 := eq_t uq13
            exact hP (1 : Int32)
          · refine ⟨?_, ?_⟩
            · intro uq16
              have ul17 := lit_5
              have uc18 := eq_t uq16
              exact hP (1 : Int32)
            · refine ⟨?_, ?_⟩
              · intro uq19
                have ul20 := lit_6
                have uc21 := eq_t uq19
                exact hP (1 : Int32)
              · refine ⟨?_, ?_⟩
                · intro uq22
                  have ul23 := lit_7
                  have uc24 := eq_t uq22
                  exact hP (1 : Int32)
                · refine ⟨?_, ?_⟩
                  · intro uq25
                    have ul26 := lit_8
                    have uc27 := eq_t uq25
                    exact hP (1 : Int32)
                  · refine ⟨?_, ?_⟩
                    · intro uq28
                      have ul29 := lit_9
                      have uc30 := eq_t uq28
                      exact hP (2 : Int32)
                    · refine ⟨?_, ?_⟩
                      · intro uq31
                        have ul32 := lit_10
                        have uc33 := eq_t uq31
                        exact hP (2 : Int32)
                      · intro uq34
                        rw [← ti_eq] at uq34
                        exact hP (1 : Int32)
set_option maxHeartbeats 4000000 in
theorem s_X4_readNumbers_7 {A : Nat → Nat → Prop} {F : Nat → Nat → Int32} {w : Nat} (pc : okC A) (x_2 : Int32) {P : Int32 → zSto → Prop} (hP : ∀ (r : Int32) (σ2 : zSto), zInv A F w σ2 → P r σ2) : ∀ (n : Nat) (x_3 : Int32) (σ : zSto), zInv A F w σ → (0 ≤ ti (x_3) ∧ ti (x_3) ≤ 6) → (6 - (ti (x_3)) < n) → w_X4_readNumbers_7 x_2 P n x_3 σ := by
  intro n
  induction n with
  | zero =>
    intro x_3 σ I h_x_3 hm
    exfalso
    omega
  | succ n ih =>
    intro x_3 σ I h_x_3 hm
    unfold w_X4_readNumbers_7
    refine ⟨?_, ?_⟩
    · intro uq1
      have uc2 := le_t uq1
      refine s_X4_nextToken pc I (fun σ3 uI3 uy4 => ?_)
      refine ⟨?_, ?_⟩
      · intro uq5
        have ul6 := lit_3
        exact hP (0 : Int32) σ3 uI3
      · intro uq7
        have ul8 := lit_3
        have uc9 := eq_t uq7
        exact hP (1 : Int32) σ3 uI3
    · intro uq10
      have uc11 := nle_t uq10
      refine ⟨?_, ?_⟩
      · intro uq12
        have ul13 := lit_6
        have uc14 := le_t uq12
        refine s_X4_nextToken pc I (fun σ4 uI15 uy16 => ?_)
        refine ⟨?_, ?_⟩
        · intro uq17
          have ul18 := lit_3
          exact hP (0 : Int32) σ4 uI15
        · intro uq19
          have ul20 := lit_3
          have uc21 := eq_t uq19
          exact hP (1 : Int32) σ4 uI15
      · intro uq22
        have ul23 := lit_6
        have uc24 := nle_t uq22
        refine s_X4_nextToken pc I (fun σ5 uI25 uy26 => ?_)
        refine ⟨?_, ?_⟩
        · intro uq27
          have ul28 := lit_2
          have uc29 := eq_t uq27
          refine ⟨vin (by omega), ?_⟩
          intro σ7 eσ7
          have uI30 : zInv A F w σ7 := by rw [eσ7]; exact wIr (a := 0) (b := 999) uI25 (pC pc (by decide)) (rl0 rk_187) kd_187 rfl rfl (by omega)
          refine ⟨vin (by omega), ?_⟩
          intro σ9 eσ9
          have uI31 : zInv A F w σ9 := by rw [eσ9]; exact wI0 uI30 (pC pc (by decide)) rk_188 kd_188
          intro x10 ex10
          have ul32 := lit_1
          have ut33 := tadd (x := x_3) (y := (1 : Int32)) (by omega)
          have ut34 := eq_t ex10
          exact ih x10 σ9 uI31 (by omega) (by omega)
        · intro uq35
          have ul36 := lit_2
          exact hP (0 : Int32) σ5 uI25
set_option maxHeartbeats 4000000 in
theorem s_X4_readNumbers {A : Nat → Nat → Prop} {F : Nat → Nat → Int32} {w : Nat} (pc : okC A) (a1 : Int32) {σ : zSto} (I : zInv A F w σ) {P : Int32 → zSto → Prop} (hP : ∀ (r : Int32) (σ2 : zSto), zInv A F w σ2 → P r σ2) : w_X4_readNumbers a1 σ P := by
  unfold w_X4_readNumbers
  refine s_X4_howManyNumbers a1 I (fun r2 => ?_)
  refine ⟨70000, ?_⟩
  have ul1 := lit_0
  exact s_X4_readNumbers_7 pc r2 hP 70000 (0 : Int32) σ I (by omega) (by omega)
set_option maxHeartbeats 4000000 in
theorem s_X4_note {A : Nat → Nat → Prop} {F : Nat → Nat → Int32} {w : Nat} (pq : okQ A) (a1 : Int32) (a2 : Int32) (h_a1 : 1 ≤ ti (a1) ∧ ti (a1) ≤ 4) {σ : zSto} (I : zInv A F w σ) {P : zSto → Prop} (hP : ∀ (σ2 : zSto), zInv A F w σ2 → (ti (σ2.1 171 11) ≠ 0) → P σ2) : w_X4_note a1 a2 σ P := by
  unfold w_X4_note
  refine ⟨?_, ?_⟩
  · intro uq1
    have ul2 := lit_0
    have uc3 := ne_t uq1
    exact hP σ I (by omega)
  · intro uq4
    have ul5 := lit_0
    have uc6 := eq_t uq4
    intro σ1 eσ1
    have uI7 : zInv A F w σ1 := by rw [eσ1]; exact inv171_11 I (pq _) (by omega)
    intro σ2 eσ2
    have uI8 : zInv A F w σ2 := by rw [eσ2]; exact wIr uI7 (pq _) (by decide) kd_171 rfl rfl (full32 _)
    have ue9 : ti ((σ2.1 171 11)) = ti ((σ1.1 171 11)) := by rw [eσ2]; exact congrArg ti (zI_q (Or.inr (by decide)))
    have ue10 : ti ((σ1.1 171 11)) = ti (a1) := by rw [eσ1]; exact congrArg ti zI_s
    exact hP σ2 uI8 (by omega)
set_option maxHeartbeats 4000000 in
theorem s_X4_number {A : Nat → Nat → Prop} {F : Nat → Nat → Int32} {w : Nat} (pq : okQ A) (a1 : Int32) (a2 : Int32) (a3 : Int32) (h_a1 : 0 ≤ ti (a1) ∧ ti (a1) ≤ 5) {σ : zSto} (I : zInv A F w σ) {P : Int32 → zSto → Prop} (hP : ∀ (r : Int32) (σ2 : zSto), zInv A F w σ2 → 0 ≤ ti (r) ∧ ti (r) ≤ 999 → (ti (σ2.1 171 11) = 0 → ti (σ.1 171 11) = 0 ∧ ti a2 ≤ ti r ∧ ti r ≤ ti a3) → P r σ2) : w_X4_number a1 a2 a3 σ P := by
  unfold w_X4_number
  refine ⟨?_, ?_⟩
  · intro uq1
    have ul2 := lit_0
    have uc3 := lt_t uq1
    have ul4 := lit_m1
    exact hP (-1 : Int32) σ I (by omega) (by omega)
  · intro uq5
    have ul6 := lit_0
    have uc7 := nlt_t uq5
    refine ⟨?_, ?_⟩
    · intro uq8
      have ul9 := lit_6
      have uc10 := lt_t uq8
      refine ⟨vin (by omega), ?_⟩
      refine ⟨?_, ?_⟩
      · intro uq11
        have ud12 : 0 ≤ ti ((σ.1 187 ((a1).toNatClampNeg))) ∧ ti ((σ.1 187 ((a1).toNatClampNeg))) ≤ 999 := rdr I kd_187 rfl rfl
        have uc13 := lt_t uq11
        refine ⟨vin (by omega), ?_⟩
        have ul14 := lit_2
        refine s_X4_note pq (2 : Int32) (σ.1 188 ((a1).toNatClampNeg)) (by omega) I (fun σ3 uI15 uy16 => ?_)
        refine ⟨vin (by omega), ?_⟩
        have ud17 : 0 ≤ ti ((σ3.1 187 ((a1).toNatClampNeg))) ∧ ti ((σ3.1 187 ((a1).toNatClampNeg))) ≤ 999 := rdr uI15 kd_187 rfl rfl
        exact hP (σ3.1 187 ((a1).toNatClampNeg)) σ3 uI15 (by omega) (by omega)
      · intro uq18
        have ud19 : 0 ≤ ti ((σ.1 187 ((a1).toNatClampNeg))) ∧ ti ((σ.1 187 ((a1).toNatClampNeg))) ≤ 999 := rdr I kd_187 rfl rfl
        have uc20 := nlt_t uq18
        refine ⟨vin (by omega), ?_⟩
        refine ⟨?_, ?_⟩
        · intro uq21
          have uc22 := le_t uq21
          refine ⟨vin (by omega), ?_⟩
          exact hP (σ.1 187 ((a1).toNatClampNeg)) σ I (by omega) (by omega)
        · intro uq23
          have uc24 := nle_t uq23
          refine ⟨vin (by omega), ?_⟩
          have ul25 := lit_2
          refine s_X4_note pq (2 : Int32) (σ.1 188 ((a1).toNatClampNeg)) (by omega) I (fun σ8 uI26 uy27 => ?_)
          refine ⟨vin (by omega), ?_⟩
          have ud28 : 0 ≤ ti ((σ8.1 187 ((a1).toNatClampNeg))) ∧ ti ((σ8.1 187 ((a1).toNatClampNeg))) ≤ 999 := rdr uI26 kd_187 rfl rfl
          exact hP (σ8.1 187 ((a1).toNatClampNeg)) σ8 uI26 (by omega) (by omega)
    · intro uq29
      have ul30 := lit_6
      have uc31 := nlt_t uq29
      have ul32 := lit_m1
      exact hP (-1 : Int32) σ I (by omega) (by omega)
set_option maxHeartbeats 4000000 in
theorem s_X4_tellPost {A : Nat → Nat → Prop} {F : Nat → Nat → Int32} {w : Nat} (pc : okC A) (a1 : Int32) {σ : zSto} (I : zInv A F w σ) {P : zSto → Prop} (hP : ∀ (σ2 : zSto), zInv A F w σ2 → P σ2) : w_X4_tellPost a1 σ P := by
  unfold w_X4_tellPost
  refine ⟨?_, ?_⟩
  · intro uq1
    have ud2 : 0 ≤ ti ((σ.1 172 11)) ∧ ti ((σ.1 172 11)) ≤ 16 := rdr I kd_172 rfl rfl
    have ul3 := lit_16
    have uc4 := lt_t uq1
    intro x1 ex1
    have ul5 := lit_0
    have ul6 := lit_1
    have ul7 := lit_30
    refine s_X4_number (A := Ax A BL) (F := σ.1) (okQ_L (okC_Q pc)) (0 : Int32) (1 : Int32) (30 : Int32) (by omega) (inv_x I) (fun r3 σ2 uI8x hr3 uy9 => ?_)
    have uI8 := inv_y I uI8x
    have uf10 : ti (σ2.1 172 11) = ti (σ.1 172 11) := congrArg ti (inv_e uI8x (show BL 172 11 from ⟨by decide, by decide⟩))
    have ut11 := eq_t ex1
    refine ⟨vin (by omega), ?_⟩
    intro σ5 eσ5
    have uI12 : zInv A F w σ5 := by rw [eσ5]; exact wIr (a := 0) (b := 999) uI8 (pC pc (by decide)) (rl0 rk_173) kd_173 rfl rfl (by omega)
    have ul13 := lit_3
    refine s_X4_number (A := Ax A BL) (F := σ5.1) (okQ_L (okC_Q pc)) (1 : Int32) (0 : Int32) (3 : Int32) (by omega) (inv_x uI12) (fun r7 σ6 uI14x hr7 uy15 => ?_)
    have uI14 := inv_y uI12 uI14x
    have uf16 : ti (σ6.1 172 11) = ti (σ5.1 172 11) := congrArg ti (inv_e uI14x (show BL 172 11 from ⟨by decide, by decide⟩))
    have ue17 : ti ((σ5.1 172 11)) = ti ((σ2.1 172 11)) := by rw [eσ5]; exact congrArg ti (zI_q (Or.inl (by omega)))
    have ud18 : 0 ≤ ti ((σ2.1 172 11)) ∧ ti ((σ2.1 172 11)) ≤ 16 := rdr uI8 kd_172 rfl rfl
    have ud19 : 0 ≤ ti ((σ5.1 172 11)) ∧ ti ((σ5.1 172 11)) ≤ 16 := rdr uI12 kd_172 rfl rfl
    refine ⟨vin (by omega), ?_⟩
    intro σ9 eσ9
    have uI20 : zInv A F w σ9 := by rw [eσ9]; exact wIr (a := 0) (b := 999) uI14 (pC pc (by decide)) (rl0 rk_174) kd_174 rfl rfl (by omega)
    have ul21 := lit_2
    refine s_X4_number (A := Ax A BL) (F := σ9.1) (okQ_L (okC_Q pc)) (2 : Int32) (0 : Int32) (30 : Int32) (by omega) (inv_x uI20) (fun r11 σ10 uI22x hr11 uy23 => ?_)
    have uI22 := inv_y uI20 uI22x
    have uf24 : ti (σ10.1 172 11) = ti (σ9.1 172 11) := congrArg ti (inv_e uI22x (show BL 172 11 from ⟨by decide, by decide⟩))
    have ue25 : ti ((σ9.1 172 11)) = ti ((σ6.1 172 11)) := by rw [eσ9]; exact congrArg ti (zI_q (Or.inl (by omega)))
    have ud26 : 0 ≤ ti ((σ6.1 172 11)) ∧ ti ((σ6.1 172 11)) ≤ 16 := rdr uI14 kd_172 rfl rfl
    have ud27 : 0 ≤ ti ((σ9.1 172 11)) ∧ ti ((σ9.1 172 11)) ≤ 16 := rdr uI20 kd_172 rfl rfl
    refine ⟨vin (by omega), ?_⟩
    intro σ13 eσ13
    have uI28 : zInv A F w σ13 := by rw [eσ13]; exact wI0 uI22 (pC pc (by decide)) rk_175 kd_175
    intro σ14 eσ14
    have ue30 : ti ((σ13.1 172 11)) = ti ((σ10.1 172 11)) := by rw [eσ13]; exact congrArg ti (zI_q (Or.inl (by omega)))
    have ud31 : 0 ≤ ti ((σ10.1 172 11)) ∧ ti ((σ10.1 172 11)) ≤ 16 := rdr uI22 kd_172 rfl rfl
    have ud32 : 0 ≤ ti ((σ13.1 172 11)) ∧ ti ((σ13.1 172 11)) ≤ 16 := rdr uI28 kd_172 rfl rfl
    have ut33 := tadd (x := (σ13.1 172 11)) (y := (1 : Int32)) (by omega)
    have uI29 : zInv A F w σ14 := by rw [eσ14]; exact wIr (a := 0) (b := 16) uI28 (pC pc (by decide)) (by decide) kd_172 rfl rfl (by omega)
    exact hP σ14 uI29
  · intro uq34
    have ud35 : 0 ≤ ti ((σ.1 172 11)) ∧ ti ((σ.1 172 11)) ≤ 16 := rdr I kd_172 rfl rfl
    have ul36 := lit_16
    have uc37 := nlt_t uq34
    have ul38 := lit_3
    refine s_X4_note (A := Ax A BL) (F := σ.1) (okQ_L (okC_Q pc)) (3 : Int32) a1 (by omega) (inv_x I) (fun σ15 uI39x uy40 => ?_)
    have uI39 := inv_y I uI39x
    have uf41 : ti (σ15.1 172 11) = ti (σ.1 172 11) := congrArg ti (inv_e uI39x (show BL 172 11 from ⟨by decide, by decide⟩))
    exact hP σ15 uI39
set_option maxHeartbeats 4000000 in
theorem s_X4_tellPair {A : Nat → Nat → Prop} {F : Nat → Nat → Int32} {w : Nat} (pc : okC A) (a1 : Int32) (a2 : Int32) (a3 : Int32) {σ : zSto} (I : zInv A F w σ) {P : zSto → Prop} (hP : ∀ (σ2 : zSto), zInv A F w σ2 → P σ2) : w_X4_tellPair a1 a2 a3 σ P := by
  unfold w_X4_tellPair
  refine ⟨?_, ?_⟩
  · intro uq1
    have ud2 : 0 ≤ ti ((σ.1 184 2)) ∧ ti ((σ.1 184 2)) ≤ 16 := rdr I kd_184 rfl rfl
    have uc3 := lt_t uq1
    have ul4 := lit_0
    have ul5 := lit_15
    refine s_X4_number (okC_Q pc) (0 : Int32) (0 : Int32) (15 : Int32) (by omega) I (fun r2 σ1 uI6 hr2 uy7 => ?_)
    have ul8 := lit_1
    refine s_X4_number (okC_Q pc) (1 : Int32) (0 : Int32) a3 (by omega) uI6 (fun r4 σ3 uI9 hr4 uy10 => ?_)
    refine s_X2_add pc r2 r4 uI9 (fun σ5 uI11 => ?_)
    exact hP σ5 uI11
  · intro uq12
    have ud13 : 0 ≤ ti ((σ.1 184 2)) ∧ ti ((σ.1 184 2)) ≤ 16 := rdr I kd_184 rfl rfl
    have uc14 := nlt_t uq12
    have ul15 := lit_3
    refine s_X4_note (okC_Q pc) (3 : Int32) a1 (by omega) I (fun σ6 uI16 uy17 => ?_)
    exact hP σ6 uI16
/-- tellOfPost over one of the two rows -/
theorem s_X4_tellOfPost {A : Nat → Nat → Prop} {F : Nat → Nat → Int32} {w : Nat} (pc : okC A) (b1 : Nat) (hb : b1 = 176 ∨ b1 = 177) (a2 : Int32) {σ : zSto} (I : zInv A F w σ) {P : zSto → Prop} (hP : ∀ σ2, zInv A F w σ2 → P σ2) : w_X4_tellOfPost b1 16 a2 σ P := by
  unfold w_X4_tellOfPost
  have l0 := lit_0
  have l1 := lit_1
  refine s_X4_number (okC_Q pc) (0 : Int32) (0 : Int32) (15 : Int32) (by omega) I (fun r2 σ1 I1 hr2 _ => ?_)
  refine s_X4_number (okC_Q pc) (1 : Int32) (0 : Int32) a2 (by omega) I1 (fun r4 σ3 I3 hr4 _ => ?_)
  intro σ5 e5
  have I5 : zInv A F w σ5 := by rw [e5]; exact wIr I3 (pC pc (by decide)) (by decide) kd_171 rfl rfl (full32 _)
  refine ⟨fun _ => hP σ5 I5, fun q1 => ⟨fun _ => hP σ5 I5, fun q2 => ?_⟩⟩
  have c1 := nlt_t q1
  have c2 := nle_t q2
  have e16 : ti (Int32.ofNat 16) = 16 := by rw [ti_eq]; decide
  refine ⟨vin (by omega), fun σ7 e7 => hP σ7 ?_⟩
  rw [e7]
  rcases hb with e | e <;> subst e
  · exact wI0 I5 (pC pc (by decide)) rk_176 kd_176
  · exact wI0 I5 (pC pc (by decide)) rk_177 kd_177
/-- while a RIDER is told -/
def TR (A : Nat → Nat → Prop) (F : Nat → Nat → Int32) (w : Nat) (x : Int32) (σ : zSto) : Prop := zInv A F w σ ∧ ti (σ.1 172 12) = ti x ∧ (ti (σ.1 171 11) = 0 → ti (σ.1 179 x.toNatClampNeg) ≤ 15)
theorem numTR {A : Nat → Nat → Prop} {F : Nat → Nat → Int32} {w : Nat} (pc : okC A) {x : Int32} (a1 a2 a3 : Int32) (h : 0 ≤ ti a1 ∧ ti a1 ≤ 5) {σ : zSto} (H : TR A F w x σ) {P : Int32 → zSto → Prop} (hP : ∀ r σ2, TR A F w x σ2 → P r σ2) : w_X4_number a1 a2 a3 σ P := by
  obtain ⟨I, h1, h2⟩ := H
  refine s_X4_number (A := Ax A BL) (F := σ.1) (okQ_L (okC_Q pc)) a1 a2 a3 h (inv_x I) (fun r σ2 I2 hr p => hP r σ2 ⟨inv_y I I2, ?_, fun q => ?_⟩)
  · rw [inv_e I2 (show BL 172 12 from ⟨by decide, by decide⟩)]
    exact h1
  · rw [inv_e I2 (show BL 179 x.toNatClampNeg from ⟨by decide, by decide⟩)]
    exact h2 (p q).1
theorem TR_w {A : Nat → Nat → Prop} {F : Nat → Nat → Int32} {w : Nat} (pc : okC A) {x : Int32} {σ σ2 : zSto} (H : TR A F w x σ) {k j : Nat} {v : Int32} (e : σ2 = zI σ k j v) (hk : 180 ≤ k ∧ k < 184) (h0 : kd k = 0) (h1 : rk k = 0) : TR A F w x σ2 := by
  subst e
  obtain ⟨I, h2, h3⟩ := H
  refine ⟨wI0 I (pC pc (by omega)) h1 h0, ?_, ?_⟩
  · rw [zI_q (Or.inl (by omega))]; exact h2
  · rw [zI_q (Or.inl (by omega)), zI_q (Or.inl (by omega))]; exact h3
set_option maxHeartbeats 4000000 in
theorem s_X4_tellRider {A : Nat → Nat → Prop} {F : Nat → Nat → Int32} {w : Nat} (pc : okC A) (a1 : Int32) {σ : zSto} (I : zInv A F w σ) {P : zSto → Prop} (hP : ∀ σ2, zInv A F w σ2 → P σ2) : w_X4_tellRider a1 σ P := by
  unfold w_X4_tellRider
  have l0 := lit_0
  have l1 := lit_1
  have l2 := lit_2
  have l3 := lit_3
  have l4 := lit_4
  have l5 := lit_5
  have l6 := lit_6
  have d : 0 ≤ ti (σ.1 172 12) ∧ ti (σ.1 172 12) ≤ 6 := rdr I kd_172 rfl rfl
  refine ⟨fun q => ?_, fun q => s_X4_note (okC_Q pc) (3 : Int32) a1 (by omega) I (fun σ2 I2 _ => hP σ2 I2)⟩
  have c := lt_t q
  intro x1 ex1
  have t1 := eq_t ex1
  refine s_X4_number (A := Ax A BL) (F := σ.1) (okQ_L (okC_Q pc)) (0 : Int32) (0 : Int32) (15 : Int32) (by omega) (inv_x I) (fun r3 σ2 I2x hr3 _ => ?_)
  have I2 := inv_y I I2x
  have f2 : ti (σ2.1 172 12) = ti x1 := by rw [inv_e I2x (show BL 172 12 from ⟨by decide, by decide⟩)]; omega
  refine ⟨vin (by omega), fun σ5 e5 => ⟨vin (by omega), ?_⟩⟩
  have I5 : zInv A F w σ5 := by rw [e5]; exact wI0 I2 (pC pc (by decide)) rk_178 kd_178
  have f5 : ti (σ5.1 172 12) = ti x1 := by rw [e5, zI_q (Or.inl (by decide))]; exact f2
  refine s_X4_number (A := Ax A BL) (F := σ5.1) (okQ_L (okC_Q pc)) (1 : Int32) _ (15 : Int32) (by omega) (inv_x I5) (fun r8 σ7 I7x hr8 p8 => ?_)
  have I7 := inv_y I5 I7x
  have f7 : ti (σ7.1 172 12) = ti x1 := by rw [inv_e I7x (show BL 172 12 from ⟨by decide, by decide⟩)]; exact f5
  have l15 := lit_15
  refine ⟨vin (by omega), fun σ10 e10 => ⟨vin (by omega), ?_⟩⟩
  have tn := tn_eq x1
  have H10 : TR A F w x1 σ10 := by
    subst e10
    refine ⟨wIx I7 (pC pc (by decide)) (by rw [kd_179]; exact full32 _) (zRel_3 (fun k j _ _ _ h3 => zI_q (Or.inl h3)) I7.2.2 (fun hw q0 r q1 => ?_)), ?_, fun q0 => ?_⟩
    · rw [zI_q (Or.inl (by decide))] at q0 q1
      rw [zI_q (Or.inr (by omega))]
      exact I7.2.2.2.2.1 hw q0 r q1
    · rw [zI_q (Or.inl (by decide))]; exact f7
    · rw [zI_q (Or.inl (by decide))] at q0
      rw [zI_s]
      have := p8 q0
      omega
  intro σ12 e12
  have H12 : TR A F w x1 σ12 := by
    subst e12
    obtain ⟨Ia, ha, hb⟩ := H10
    refine ⟨wIr Ia (pC pc (by decide)) (by decide) kd_171 rfl rfl (full32 _), ?_, ?_⟩
    · rw [zI_q (Or.inl (by decide))]; exact ha
    · rw [zI_q (Or.inr (by decide)), zI_q (Or.inl (by decide))]; exact hb
  refine numTR pc (2 : Int32) (1 : Int32) (60 : Int32) (by omega) H12 (fun r14 σ13 H13 => ⟨vin (by omega), fun σ16 e16 => ?_⟩)
  have H16 := TR_w pc H13 e16 (by decide) kd_180 rk_180
  refine numTR pc (3 : Int32) (1 : Int32) (30 : Int32) (by omega) H16 (fun r18 σ17 H17 => ⟨vin (by omega), fun σ20 e20 => ?_⟩)
  have H20 := TR_w pc H17 e20 (by decide) kd_181 rk_181
  refine numTR pc (4 : Int32) (0 : Int32) (200 : Int32) (by omega) H20 (fun r22 σ21 H21 => ⟨vin (by omega), fun σ24 e24 => ?_⟩)
  have H24 := TR_w pc H21 e24 (by decide) kd_182 rk_182
  refine numTR pc (5 : Int32) (0 : Int32) (9 : Int32) (by omega) H24 (fun r26 σ25 H25 => ⟨vin (by omega), fun σ28 e28 => ?_⟩)
  have H28 := TR_w pc H25 e28 (by decide) kd_183 rk_183
  intro σ29 e29
  refine hP σ29 ?_
  subst e29
  obtain ⟨Ia, ha, hb⟩ := H28
  have t29 := tadd (x := σ28.1 172 12) (y := (1 : Int32)) (by omega)
  refine wIx Ia (pC pc (by decide)) ?_ (zRel_3 (fun k j _ _ h2 _ => zI_q (Or.inl h2)) Ia.2.2 (fun hw q0 r q1 => ?_))
  · rw [kd_172]
    show (0 : Int) ≤ _ ∧ _ ≤ (6 : Int)
    omega
  · rw [zI_q (Or.inl (by decide))] at q0
    rw [zI_s] at q1
    rw [zI_q (Or.inl (by decide))]
    by_cases c2 : r = x1.toNatClampNeg
    · subst c2; exact hb q0
    · exact Ia.2.2.2.2.1 hw q0 r (by omega)
set_option maxHeartbeats 4000000 in
theorem s_X4_tell {A : Nat → Nat → Prop} {F : Nat → Nat → Int32} {w : Nat} (pc : okC A) (a1 : Int32) (a2 : Int32) {σ : zSto} (I : zInv A F w σ) {P : zSto → Prop} (hP : ∀ (σ2 : zSto), zInv A F w σ2 → P σ2) : w_X4_tell a1 a2 σ P := by
  unfold w_X4_tell
  refine ⟨?_, ?_⟩
  · intro uq1
    have ul2 := lit_0
    have uc3 := eq_t uq1
    refine s_X4_tellPost pc a2 I (fun σ1 uI4 => ?_)
    exact hP σ1 uI4
  · refine ⟨?_, ?_⟩
    · intro uq5
      have ul6 := lit_1
      have uc7 := eq_t uq5
      refine s_X4_tellRider pc a2 I (fun σ2 uI8 => ?_)
      exact hP σ2 uI8
    · refine ⟨?_, ?_⟩
      · intro uq9
        have ul10 := lit_2
        have uc11 := eq_t uq9
        have ul13 := lit_999
        refine s_X4_tellOfPost pc 177 (by omega) (999 : Int32) I (fun σ3 uI12 => ?_)
        exact hP σ3 uI12
      · refine ⟨?_, ?_⟩
        · intro uq14
          have ul15 := lit_3
          have uc16 := eq_t uq14
          have ul18 := lit_10
          refine s_X4_tellOfPost pc 176 (by omega) (10 : Int32) I (fun σ4 uI17 => ?_)
          exact hP σ4 uI17
        · refine ⟨?_, ?_⟩
          · intro uq19
            have ul20 := lit_4
            have uc21 := eq_t uq19
            have ul22 := lit_0
            have ul23 := lit_1
            have ul24 := lit_9
            refine s_X4_number (okC_Q pc) (0 : Int32) (1 : Int32) (9 : Int32) (by omega) I (fun r6 σ5 uI25 hr6 uy26 => ?_)
            intro σ7 eσ7
            have uI27 : zInv A F w σ7 := by rw [eσ7]; exact wIr (a := 0) (b := 999) uI25 (pC pc (by decide)) (by decide) kd_172 rfl rfl (by omega)
            exact hP σ7 uI27
          · refine ⟨?_, ?_⟩
            · intro uq28
              have ul29 := lit_5
              have uc30 := eq_t uq28
              have ul31 := lit_0
              have ul32 := lit_9
              refine s_X4_number (okC_Q pc) (0 : Int32) (0 : Int32) (9 : Int32) (by omega) I (fun r9 σ8 uI33 hr9 uy34 => ?_)
              intro σ10 eσ10
              have uI35 : zInv A F w σ10 := by rw [eσ10]; exact wIr uI33 (pC pc (by decide)) (by decide) kd_172 rfl rfl (full32 _)
              exact hP σ10 uI35
            · refine ⟨?_, ?_⟩
              · intro uq36
                have ul37 := lit_6
                have uc38 := eq_t uq36
                have ul39 := lit_0
                have ul40 := lit_60
                refine s_X4_number (okC_Q pc) (0 : Int32) (0 : Int32) (60 : Int32) (by omega) I (fun r12 σ11 uI41 hr12 uy42 => ?_)
                intro σ13 eσ13
                have uI43 : zInv A F w σ13 := by rw [eσ13]; exact wIr uI41 (pC pc (by decide)) (by decide) kd_172 rfl rfl (full32 _)
                exact hP σ13 uI43
              · refine ⟨?_, ?_⟩
                · intro uq44
                  have ul45 := lit_7
                  have uc46 := eq_t uq44
                  have ul47 := lit_0
                  have ul48 := lit_9
                  refine s_X4_number (okC_Q pc) (0 : Int32) (0 : Int32) (9 : Int32) (by omega) I (fun r15 σ14 uI49 hr15 uy50 => ?_)
                  intro σ16 eσ16
                  have uI51 : zInv A F w σ16 := by rw [eσ16]; exact wIr uI49 (pC pc (by decide)) (by decide) kd_172 rfl rfl (full32 _)
                  exact hP σ16 uI51
                · refine ⟨?_, ?_⟩
                  · intro uq52
                    have ul53 := lit_8
                    have uc54 := eq_t uq52
                    have ul55 := lit_0
                    have ul56 := lit_999
                    refine s_X4_number (okC_Q pc) (0 : Int32) (0 : Int32) (999 : Int32) (by omega) I (fun r18 σ17 uI57 hr18 uy58 => ?_)
                    intro σ19 eσ19
                    have uI59 : zInv A F w σ19 := by rw [eσ19]; exact wIr uI57 (pC pc (by decide)) (by decide) kd_172 rfl rfl (full32 _)
                    exact hP σ19 uI59
                  · refine ⟨?_, ?_⟩
                    · intro uq60
                      have ul61 := lit_9
                      have uc62 := eq_t uq60
                      refine s_X4_tellPair pc a2 (16 : Int32) (5 : Int32) I (fun σ20 uI63 => ?_)
                      exact hP σ20 uI63
                    · intro uq64
                      rw [← ti_eq] at uq64
                      refine s_X4_tellPair pc a2 (10 : Int32) (999 : Int32) I (fun σ21 uI65 => ?_)
                      exact hP σ21 uI65
set_option maxHeartbeats 4000000 in
theorem s_X4_readRows_2 {A : Nat → Nat → Prop} {F : Nat → Nat → Int32} {w : Nat} (pc : okC A) (x_1 : Int32) {P : zSto → Prop} (hP : ∀ (σ2 : zSto), zInv A F w σ2 → P σ2) : ∀ (n : Nat) (x_2 : Int32) (σ : zSto), zInv A F w σ → (0 ≤ ti (x_2) ∧ ti (x_2) ≤ 601) → (601 - (ti (x_2)) < n) → w_X4_readRows_2 x_1 P n x_2 σ := by
  intro n
  induction n with
  | zero =>
    intro x_2 σ I h_x_2 hm
    exfalso
    omega
  | succ n ih =>
    intro x_2 σ I h_x_2 hm
    unfold w_X4_readRows_2
    refine ⟨?_, ?_⟩
    · intro uq1
      have ul2 := lit_600
      have uc3 := lt_t uq1
      exact hP σ I
    · intro uq4
      have ul5 := lit_600
      have uc6 := nlt_t uq4
      refine s_X4_nextToken pc I (fun σ1 uI7 uy8 => ?_)
      refine ⟨?_, ?_⟩
      · intro uq9
        have ul10 := lit_0
        intro x2 ex2
        refine ⟨?_, ?_⟩
        · intro uq11
          have ul12 := lit_1
          intro σ3 eσ3
          have uI13 : zInv A F w σ3 := by rw [eσ3]; exact inv171_11 uI7 (pC pc (by decide)) (by rw [lit_1]; decide)
          intro σ4 eσ4
          have uI14 : zInv A F w σ4 := by rw [eσ4]; exact wIr uI13 (pC pc (by decide)) (by decide) kd_171 rfl rfl (full32 _)
          exact hP σ4 uI14
        · intro uq15
          have ul16 := lit_1
          have uc17 := eq_t uq15
          refine s_X4_wordOf x_1 uI7 (fun r6 => ?_)
          refine ⟨?_, ?_⟩
          · intro uq18
            have ul19 := lit_m1
            have uc20 := eq_t uq18
            intro σ7 eσ7
            have uI21 : zInv A F w σ7 := by rw [eσ7]; exact inv171_11 uI7 (pC pc (by decide)) (by rw [lit_1]; decide)
            intro σ8 eσ8
            have uI22 : zInv A F w σ8 := by rw [eσ8]; exact wIr uI21 (pC pc (by decide)) (by decide) kd_171 rfl rfl (full32 _)
            exact hP σ8 uI22
          · intro uq23
            have ul24 := lit_m1
            refine s_X4_readNumbers pc r6 uI7 (fun r10 σ9 uI25 => ?_)
            intro ub26
            have uc27 := bool_t ub26
            refine ⟨?_, ?_⟩
            · intro uq28
              have uc29 := ne_t uq28
              refine s_X4_tell pc r6 x2 uI25 (fun σ11 uI30 => ?_)
              intro x12 ex12
              have ut31 := tadd (x := x_2) (y := (1 : Int32)) (by omega)
              have ut32 := eq_t ex12
              exact ih x12 σ11 uI30 (by omega) (by omega)
            · intro uq33
              have uc34 := eq_t uq33
              intro σ13 eσ13
              have uI35 : zInv A F w σ13 := by rw [eσ13]; exact inv171_11 uI25 (pC pc (by decide)) (by rw [lit_1]; decide)
              intro σ14 eσ14
              have uI36 : zInv A F w σ14 := by rw [eσ14]; exact wIr uI35 (pC pc (by decide)) (by decide) kd_171 rfl rfl (full32 _)
              exact hP σ14 uI36
      · intro uq37
        have ul38 := lit_0
        have uc39 := eq_t uq37
        exact hP σ1 uI7
set_option maxHeartbeats 4000000 in
theorem s_X4_readRows {A : Nat → Nat → Prop} {F : Nat → Nat → Int32} {w : Nat} (pc : okC A) (a1 : Int32) {σ : zSto} (I : zInv A F w σ) {P : zSto → Prop} (hP : ∀ (σ2 : zSto), zInv A F w σ2 → P σ2) : w_X4_readRows a1 σ P := by
  unfold w_X4_readRows
  refine ⟨70000, ?_⟩
  have ul1 := lit_0
  exact s_X4_readRows_2 pc a1 hP 70000 (0 : Int32) σ I (by omega) (by omega)
