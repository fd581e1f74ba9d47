set_option maxHeartbeats 4000000 in
theorem s_X8_planAt {A : Nat → Nat → Prop} {F : Nat → Nat → Int32} {w : Nat} (a1 : Int32) {σ : zSto} (I : zInv A F w σ) {P : Option Nat → zSto → Prop} (hP : ∀ (r : Option Nat), (∀ t, r = some t → isP t) → P r σ) : w_X8_planAt 1 a1 σ P := by
  unfold w_X8_planAt
  have ul1 := lit_1
  refine s_X8_has (1 : Int32) a1 (by omega) I (fun r2 uz2 => ?_)
  intro ub3
  have uc4 := bool_t ub3
  refine ⟨?_, ?_⟩
  · intro uq5
    have ul6 := lit_0
    have uc7 := eq_t uq5
    exact hP none (fun _ h => nomatch h)
  · intro uq8
    have uc9 := uz2 uq8
    have ul10 := lit_0
    have uc11 := ne_t uq8
    refine ⟨vin (by omega), ?_⟩
    intro j4 ej4
    have kj4 : j4 = 29 ∨ j4 = 32 := by
      rcases (show ti (a1) = 0 ∨ ti (a1) = 1 by omega) with z | z
      · left; rw [ej4, zel_of z]; rfl
      · right; rw [ej4, zel_of z]; rfl
    have hP_j4 : isP j4 := by unfold isP; omega
    refine ⟨isP_P hP_j4, ?_⟩
    exact hP (some j4) (fun t h => by cases h; exact hP_j4)
set_option maxHeartbeats 4000000 in
theorem s_X8_logAt {A : Nat → Nat → Prop} {F : Nat → Nat → Int32} {w : Nat} (a1 : Int32) {σ : zSto} (I : zInv A F w σ) {P : Option Nat → zSto → Prop} (hP : ∀ (r : Option Nat), (∀ t, r = some t → isP t) → P r σ) : w_X8_logAt 1 a1 σ P := by
  unfold w_X8_logAt
  have ul1 := lit_2
  refine s_X8_has (2 : Int32) a1 (by omega) I (fun r2 uz2 => ?_)
  intro ub3
  have uc4 := bool_t ub3
  refine ⟨?_, ?_⟩
  · intro uq5
    have ul6 := lit_0
    have uc7 := eq_t uq5
    exact hP none (fun _ h => nomatch h)
  · intro uq8
    have uc9 := uz2 uq8
    have ul10 := lit_0
    have uc11 := ne_t uq8
    refine ⟨vin (by omega), ?_⟩
    intro j4 ej4
    have kj4 : j4 = 36 ∨ j4 = 39 := by
      rcases (show ti (a1) = 0 ∨ ti (a1) = 1 by omega) with z | z
      · left; rw [ej4, zel_of z]; rfl
      · right; rw [ej4, zel_of z]; rfl
    have hP_j4 : isP j4 := by unfold isP; omega
    refine ⟨isP_P hP_j4, ?_⟩
    exact hP (some j4) (fun t h => by cases h; exact hP_j4)
set_option maxHeartbeats 4000000 in
theorem s_X9_feed {A : Nat → Nat → Prop} {F : Nat → Nat → Int32} {w : Nat} (pn : okN A) (a1 : Int32) (a2 : Int32) (a3 : Int32) (a4 : Int32) (a5 : Int32) {σ : zSto} (I : zInv A F w σ) {P : Int32 → zSto → Prop} (hP : ∀ (r : Int32) (σ2 : zSto), zInv A F w σ2 → P r σ2) : w_X9_feed a1 a2 a3 a4 a5 σ P := by
  unfold w_X9_feed
  refine ⟨?_, ?_⟩
  · intro uq1
    have ud2 : 0 ≤ ti ((σ.1 1 5)) ∧ ti ((σ.1 1 5)) ≤ 600 := rdr I kd_1 rfl rfl
    have ul3 := lit_20
    have ut4 := tadd (x := (σ.1 1 5)) (y := (20 : Int32)) (by omega)
    have ul5 := lit_600
    have uc6 := le_t uq1
    refine s_X8_append pn a1 I (fun σ1 uI7 => ?_)
    refine s_X8_append pn a2 uI7 (fun σ2 uI8 => ?_)
    refine s_X8_append pn a3 uI8 (fun σ3 uI9 => ?_)
    refine s_X8_append pn a4 uI9 (fun σ4 uI10 => ?_)
    refine s_X8_append pn a5 uI10 (fun σ5 uI11 => ?_)
    exact hP (σ5.1 1 5) σ5 uI11
  · intro uq12
    have ud13 : 0 ≤ ti ((σ.1 1 5)) ∧ ti ((σ.1 1 5)) ≤ 600 := rdr I kd_1 rfl rfl
    have ul14 := lit_20
    have ut15 := tadd (x := (σ.1 1 5)) (y := (20 : Int32)) (by omega)
    have ul16 := lit_600
    have uc17 := nle_t uq12
    exact hP (-1 : Int32) σ I
set_option maxHeartbeats 4000000 in
theorem s_X9_end {A : Nat → Nat → Prop} {F : Nat → Nat → Int32} {w : Nat} (pn : okN A) (a1 : Int32) {σ : zSto} (I : zInv A F w σ) {P : Int32 → zSto → Prop} (hP : ∀ (r : Int32) (σ2 : zSto), zInv A F w σ2 → P r σ2) : w_X9_end a1 σ P := by
  unfold w_X9_end
  refine ⟨?_, ?_⟩
  · intro uq1
    have ul2 := lit_0
    have uc3 := lt_t uq1
    exact hP (-1 : Int32) σ I
  · intro uq4
    have ul5 := lit_0
    have uc6 := nlt_t uq4
    refine ⟨?_, ?_⟩
    · intro uq7
      have ud8 : 0 ≤ ti ((σ.1 1 5)) ∧ ti ((σ.1 1 5)) ≤ 600 := rdr I kd_1 rfl rfl
      have uc9 := le_t uq7
      intro σ1 eσ1
      have uI10 : zInv A F w σ1 := by rw [eσ1]; exact wIr (a := 0) (b := 600) I (pN pn (by decide)) (rl0 rk_1) kd_1 rfl rfl (by omega)
      exact hP a1 σ1 uI10
    · intro uq11
      have ud12 : 0 ≤ ti ((σ.1 1 5)) ∧ ti ((σ.1 1 5)) ≤ 600 := rdr I kd_1 rfl rfl
      have uc13 := nle_t uq11
      exact hP (-1 : Int32) σ I
set_option maxHeartbeats 4000000 in
theorem s_X9_placeFor {A : Nat → Nat → Prop} {F : Nat → Nat → Int32} {w : Nat} (a1 : Int32) (a2 : Int32) {σ : zSto} (I : zInv A F w σ) {P : Int32 → zSto → Prop} (hP : ∀ (r : Int32), (ti r ≠ -2 → 0 ≤ ti a1 ∧ ti a1 ≤ 2 ∧ 0 ≤ ti r ∧ ti r ≤ 1 ∧ ti r ≤ ti (σ.1 (1 + 41) a1.toNatClampNeg)) → P r σ) : w_X9_placeFor a1 a2 σ P := by
  unfold w_X9_placeFor
  refine s_X9_isSort a1 I (fun r2 uz1 uz2 => ?_)
  intro ub3
  have uc4 := bool_t ub3
  refine ⟨?_, ?_⟩
  · intro uq5
    have uc6 := uz1 uq5
    have ul7 := lit_0
    have uc8 := ne_t uq5
    refine s_X8_howMany a1 I (fun r4 hr4 uy9 => ?_)
    refine ⟨?_, ?_⟩
    · intro uq10
      have ul11 := lit_m1
      refine ⟨?_, ?_⟩
      · intro uq12
        have uc13 := lt_t uq12
        have ul14 := lit_m2
        exact hP (-2 : Int32) (by omega)
      · intro uq15
        have uc16 := nlt_t uq15
        refine ⟨?_, ?_⟩
        · intro uq17
          have uc18 := le_t uq17
          have ul19 := lit_m2
          exact hP (-2 : Int32) (by omega)
        · intro uq20
          have uc21 := nle_t uq20
          exact hP a2 (by omega)
    · intro uq22
      have ul23 := lit_m1
      have uc24 := eq_t uq22
      refine ⟨?_, ?_⟩
      · intro uq25
        have ul26 := lit_2
        have uc27 := le_t uq25
        have ul28 := lit_m2
        exact hP (-2 : Int32) (by omega)
      · intro uq29
        have ul30 := lit_2
        have uc31 := nle_t uq29
        exact hP r4 (by omega)
  · intro uq32
    have uc33 := uz2 uq32
    have ul34 := lit_0
    have uc35 := eq_t uq32
    have ul36 := lit_m2
    exact hP (-2 : Int32) (by omega)
set_option maxHeartbeats 4000000 in
theorem s_X9_fault {A : Nat → Nat → Prop} {F : Nat → Nat → Int32} {w : Nat} (a1 : Int32) {σ : zSto} (I : zInv A F w σ) {P : Int32 → zSto → Prop} (hP : ∀ (r : Int32), P r σ) : w_X9_fault a1 σ P := by
  unfold w_X9_fault
  refine ⟨?_, ?_⟩
  · intro uq1
    have ul2 := lit_0
    refine ⟨?_, ?_⟩
    · intro uq3
      have ul4 := lit_1
      exact hP (-1 : Int32)
    · intro uq5
      have ul6 := lit_1
      have uc7 := eq_t uq5
      exact hP (σ.1 1 7)
  · intro uq8
    have ul9 := lit_0
    have uc10 := eq_t uq8
    exact hP (σ.1 1 6)
set_option maxHeartbeats 4000000 in
theorem s_X9_count {A : Nat → Nat → Prop} {F : Nat → Nat → Int32} {w : Nat} (a1 : Int32) {σ : zSto} (I : zInv A F w σ) {P : Int32 → zSto → Prop} (hP : ∀ (r : Int32), P r σ) : w_X9_count a1 σ P := by
  unfold w_X9_count
  refine s_X9_isSort a1 I (fun r2 uz1 uz2 => ?_)
  intro ub3
  have uc4 := bool_t ub3
  refine ⟨?_, ?_⟩
  · intro uq5
    have uc6 := uz2 uq5
    have ul7 := lit_0
    have uc8 := eq_t uq5
    exact hP (-2 : Int32)
  · intro uq9
    have uc10 := uz1 uq9
    have ul11 := lit_0
    have uc12 := ne_t uq9
    refine s_X8_howMany a1 I (fun r4 hr4 uy13 => ?_)
    exact hP r4
set_option maxHeartbeats 4000000 in
theorem s_X9_line {A : Nat → Nat → Prop} {F : Nat → Nat → Int32} {w : Nat} (a1 : Int32) (a2 : Int32) {σ : zSto} (I : zInv A F w σ) {P : Int32 → zSto → Prop} (hP : ∀ (r : Int32), P r σ) : w_X9_line a1 a2 σ P := by
  unfold w_X9_line
  refine s_X8_lineAt a1 I (fun q2 uo1 => ?_)
  refine ⟨?_, ?_⟩
  · intro uq2
    exact hP (-2 : Int32)
  · intro j3 uq3
    have hN_j3 := (uo1 j3 uq3).1
    have hT_j3 := isN_T hN_j3
    have hG_j3 := (uo1 j3 uq3).2
    refine ⟨isT_L hT_j3, ?_⟩
    refine ⟨?_, ?_⟩
    · intro uq4
      have ul5 := lit_0
      have uc6 := eq_t uq4
      exact hP (σ.1 j3 11)
    · refine ⟨?_, ?_⟩
      · intro uq7
        have ul8 := lit_1
        have uc9 := eq_t uq7
        exact hP (σ.1 j3 12)
      · refine ⟨?_, ?_⟩
        · intro uq10
          have ul11 := lit_2
          have uc12 := eq_t uq10
          exact hP (σ.1 j3 13)
        · refine ⟨?_, ?_⟩
          · intro uq13
            have ul14 := lit_3
            have uc15 := eq_t uq13
            exact hP (σ.1 j3 14)
          · refine ⟨?_, ?_⟩
            · intro uq16
              have ul17 := lit_4
              have uc18 := eq_t uq16
              exact hP (σ.1 j3 15)
            · refine ⟨?_, ?_⟩
              · intro uq19
                have ul20 := lit_5
                have uc21 := eq_t uq19
                exact hP (σ.1 j3 16)
              · refine ⟨?_, ?_⟩
                · intro uq22
                  have ul23 := lit_6
                  have uc24 := eq_t uq22
                  exact hP (σ.1 j3 17)
                · refine ⟨?_, ?_⟩
                  · intro uq25
                    have ul26 := lit_7
                    have uc27 := eq_t uq25
                    refine s_X0_stations j3 hT_j3 I (fun r5 => ?_)
                    exact hP r5
                  · intro uq28
                    rw [← ti_eq] at uq28
                    exact hP (-2 : Int32)
set_option maxHeartbeats 4000000 in
theorem s_X9_post {A : Nat → Nat → Prop} {F : Nat → Nat → Int32} {w : Nat} (a1 : Int32) (a2 : Int32) (a3 : Int32) {σ : zSto} (I : zInv A F w σ) {P : Int32 → zSto → Prop} (hP : ∀ (r : Int32), P r σ) : w_X9_post a1 a2 a3 σ P := by
  unfold w_X9_post
  refine s_X8_lineAt a1 I (fun q2 uo1 => ?_)
  refine ⟨?_, ?_⟩
  · intro uq2
    exact hP (-2 : Int32)
  · intro j3 uq3
    have hN_j3 := (uo1 j3 uq3).1
    have hT_j3 := isN_T hN_j3
    have hG_j3 := (uo1 j3 uq3).2
    refine ⟨isT_L hT_j3, ?_⟩
    refine s_X0_hasPost j3 a2 hT_j3 I (fun r5 uz4 => ?_)
    intro ub5
    have uc6 := bool_t ub5
    refine ⟨?_, ?_⟩
    · intro uq7
      have uc8 := uz4 uq7
      have ul9 := lit_0
      have uc10 := ne_t uq7
      refine ⟨?_, ?_⟩
      · intro uq11
        have ul12 := lit_10
        have uc13 := lt_t uq11
        refine ⟨?_, ?_⟩
        · intro uq14
          have uc15 := eq_t uq14
          refine ⟨vin (by omega), ?_⟩
          exact hP (σ.1 (j3 + 1) ((a2).toNatClampNeg))
        · refine ⟨?_, ?_⟩
          · intro uq16
            have ul17 := lit_1
            have uc18 := eq_t uq16
            refine ⟨vin (by omega), ?_⟩
            exact hP (σ.1 (j3 + 2) ((a2).toNatClampNeg))
          · refine ⟨?_, ?_⟩
            · intro uq19
              have ul20 := lit_2
              have uc21 := eq_t uq19
              refine ⟨vin (by omega), ?_⟩
              exact hP (σ.1 (j3 + 3) ((a2).toNatClampNeg))
            · refine ⟨?_, ?_⟩
              · intro uq22
                have ul23 := lit_3
                have uc24 := eq_t uq22
                refine ⟨vin (by omega), ?_⟩
                exact hP (σ.1 (j3 + 4) ((a2).toNatClampNeg))
              · refine ⟨?_, ?_⟩
                · intro uq25
                  have ul26 := lit_4
                  have uc27 := eq_t uq25
                  refine ⟨vin (by omega), ?_⟩
                  exact hP (σ.1 (j3 + 5) ((a2).toNatClampNeg))
                · refine ⟨?_, ?_⟩
                  · intro uq28
                    have ul29 := lit_5
                    have uc30 := eq_t uq28
                    refine ⟨?_, ?_⟩
                    · intro uq31
                      have ud32 : 0 ≤ ti ((σ.1 j3 11)) ∧ ti ((σ.1 j3 11)) ≤ 16 := rdr I (isT_0 hT_j3) rfl rfl
                      have ul33 := lit_1
                      have ut34 := tsub (x := (σ.1 j3 11)) (y := (1 : Int32)) (by omega)
                      refine s_X0_cost j3 a2 hT_j3 (by omega) I (fun r12 hr12 => ?_)
                      exact hP r12
                    · intro uq35
                      have ud36 : 0 ≤ ti ((σ.1 j3 11)) ∧ ti ((σ.1 j3 11)) ≤ 16 := rdr I (isT_0 hT_j3) rfl rfl
                      have ul37 := lit_1
                      have ut38 := tsub (x := (σ.1 j3 11)) (y := (1 : Int32)) (by omega)
                      have uc39 := eq_t uq35
                      exact hP (-1 : Int32)
                  · intro uq40
                    rw [← ti_eq] at uq40
                    exact hP (-2 : Int32)
      · intro uq41
        have ul42 := lit_10
        have uc43 := nlt_t uq41
        refine ⟨?_, ?_⟩
        · intro uq44
          have ul45 := lit_20
          have uc46 := le_t uq44
          refine ⟨?_, ?_⟩
          · intro uq47
            have uc48 := eq_t uq47
            refine ⟨vin (by omega), ?_⟩
            exact hP (σ.1 (j3 + 1) ((a2).toNatClampNeg))
          · refine ⟨?_, ?_⟩
            · intro uq49
              have ul50 := lit_1
              have uc51 := eq_t uq49
              refine ⟨vin (by omega), ?_⟩
              exact hP (σ.1 (j3 + 2) ((a2).toNatClampNeg))
            · refine ⟨?_, ?_⟩
              · intro uq52
                have ul53 := lit_2
                have uc54 := eq_t uq52
                refine ⟨vin (by omega), ?_⟩
                exact hP (σ.1 (j3 + 3) ((a2).toNatClampNeg))
              · refine ⟨?_, ?_⟩
                · intro uq55
                  have ul56 := lit_3
                  have uc57 := eq_t uq55
                  refine ⟨vin (by omega), ?_⟩
                  exact hP (σ.1 (j3 + 4) ((a2).toNatClampNeg))
                · refine ⟨?_, ?_⟩
                  · intro uq58
                    have ul59 := lit_4
                    have uc60 := eq_t uq58
                    refine ⟨vin (by omega), ?_⟩
                    exact hP (σ.1 (j3 + 5) ((a2).toNatClampNeg))
                  · refine ⟨?_, ?_⟩
                    · intro uq61
                      have ul62 := lit_5
                      have uc63 := eq_t uq61
                      refine ⟨?_, ?_⟩
                      · intro uq64
                        have ud65 : 0 ≤ ti ((σ.1 j3 11)) ∧ ti ((σ.1 j3 11)) ≤ 16 := rdr I (isT_0 hT_j3) rfl rfl
                        have ul66 := lit_1
                        have ut67 := tsub (x := (σ.1 j3 11)) (y := (1 : Int32)) (by omega)
                        refine s_X0_cost j3 a2 hT_j3 (by omega) I (fun r19 hr19 => ?_)
                        exact hP r19
                      · intro uq68
                        have ud69 : 0 ≤ ti ((σ.1 j3 11)) ∧ ti ((σ.1 j3 11)) ≤ 16 := rdr I (isT_0 hT_j3) rfl rfl
                        have ul70 := lit_1
                        have ut71 := tsub (x := (σ.1 j3 11)) (y := (1 : Int32)) (by omega)
                        have uc72 := eq_t uq68
                        exact hP (-1 : Int32)
                    · intro uq73
                      rw [← ti_eq] at uq73
                      exact hP (-2 : Int32)
        · intro uq74
          have ul75 := lit_20
          have uc76 := nle_t uq74
          refine s_X0_poundsIn j3 a2 (a3 - (10 : Int32)) hT_j3 (by omega) I (fun r21 => ?_)
          exact hP r21
    · intro uq77
      have ul78 := lit_0
      have uc79 := eq_t uq77
      exact hP (-2 : Int32)
set_option maxHeartbeats 4000000 in
theorem s_X9_rider {A : Nat → Nat → Prop} {F : Nat → Nat → Int32} {w : Nat} (a1 : Int32) (a2 : Int32) (a3 : Int32) {σ : zSto} (I : zInv A F w σ) {P : Int32 → zSto → Prop} (hP : ∀ (r : Int32), P r σ) : w_X9_rider a1 a2 a3 σ P := by
  unfold w_X9_rider
  refine s_X8_lineAt a1 I (fun q2 uo1 => ?_)
  refine ⟨?_, ?_⟩
  · intro uq2
    exact hP (-1 : Int32)
  · intro j3 uq3
    have hN_j3 := (uo1 j3 uq3).1
    have hT_j3 := isN_T hN_j3
    have hG_j3 := (uo1 j3 uq3).2
    refine ⟨isT_L hT_j3, ?_⟩
    refine s_X0_hasRider j3 a2 hT_j3 I (fun r5 uz4 => ?_)
    intro ub5
    have uc6 := bool_t ub5
    refine ⟨?_, ?_⟩
    · intro uq7
      have uc8 := uz4 uq7
      have ul9 := lit_0
      have uc10 := ne_t uq7
      refine ⟨?_, ?_⟩
      · intro uq11
        have uc12 := eq_t uq11
        refine ⟨vin (by omega), ?_⟩
        exact hP (σ.1 (j3 + 6) ((a2).toNatClampNeg))
      · refine ⟨?_, ?_⟩
        · intro uq13
          have ul14 := lit_1
          have uc15 := eq_t uq13
          refine ⟨vin (by omega), ?_⟩
          exact hP (σ.1 (j3 + 7) ((a2).toNatClampNeg))
        · refine ⟨?_, ?_⟩
          · intro uq16
            have ul17 := lit_2
            have uc18 := eq_t uq16
            refine ⟨vin (by omega), ?_⟩
            exact hP (σ.1 (j3 + 8) ((a2).toNatClampNeg))
          · refine ⟨?_, ?_⟩
            · intro uq19
              have ul20 := lit_3
              have uc21 := eq_t uq19
              refine ⟨vin (by omega), ?_⟩
              exact hP (σ.1 (j3 + 9) ((a2).toNatClampNeg))
            · refine ⟨?_, ?_⟩
              · intro uq22
                have ul23 := lit_4
                have uc24 := eq_t uq22
                refine ⟨vin (by omega), ?_⟩
                exact hP (σ.1 (j3 + 10) ((a2).toNatClampNeg))
              · refine ⟨?_, ?_⟩
                · intro uq25
                  have ul26 := lit_5
                  have uc27 := eq_t uq25
                  refine ⟨vin (by omega), ?_⟩
                  exact hP (σ.1 (j3 + 11) ((a2).toNatClampNeg))
                · intro uq28
                  rw [← ti_eq] at uq28
                  exact hP (-1 : Int32)
    · intro uq29
      have ul30 := lit_0
      have uc31 := eq_t uq29
      exact hP (-1 : Int32)
set_option maxHeartbeats 4000000 in
theorem s_X9_pairAnswer {A : Nat → Nat → Prop} {F : Nat → Nat → Int32} {w : Nat} (o1 : Option Nat) (a2 : Int32) (a3 : Int32) (ho_o1 : ∀ t, o1 = some t → isP t) {σ : zSto} (I : zInv A F w σ) {P : Int32 → zSto → Prop} (hP : ∀ (r : Int32), P r σ) : w_X9_pairAnswer o1 a2 a3 σ P := by
  unfold w_X9_pairAnswer
  refine ⟨?_, ?_⟩
  · intro uq1
    exact hP (-2 : Int32)
  · intro kk uq2
    have hP_kk := ho_o1 kk uq2
    refine ⟨isP_P hP_kk, ?_⟩
    refine ⟨?_, ?_⟩
    · intro uq3
      have ul4 := lit_m1
      refine ⟨?_, ?_⟩
      · intro uq5
        have ul6 := lit_0
        have uc7 := lt_t uq5
        exact hP (-2 : Int32)
      · intro uq8
        have ul9 := lit_0
        have uc10 := nlt_t uq8
        refine ⟨?_, ?_⟩
        · intro uq11
          have ud12 : 0 ≤ ti ((σ.1 kk 2)) ∧ ti ((σ.1 kk 2)) ≤ 16 := rdr I (isP_0 hP_kk) rfl rfl
          have uc13 := le_t uq11
          exact hP (-2 : Int32)
        · intro uq14
          have ud15 : 0 ≤ ti ((σ.1 kk 2)) ∧ ti ((σ.1 kk 2)) ≤ 16 := rdr I (isP_0 hP_kk) rfl rfl
          have uc16 := nle_t uq14
          refine ⟨?_, ?_⟩
          · intro uq17
            have uc18 := lt_t uq17
            exact hP (-2 : Int32)
          · intro uq19
            have uc20 := nlt_t uq19
            refine ⟨?_, ?_⟩
            · intro uq21
              have ul22 := lit_1
              have uc23 := le_t uq21
              refine ⟨?_, ?_⟩
              · intro uq24
                have uc25 := ne_t uq24
                refine ⟨vin (by omega), ?_⟩
                exact hP (σ.1 (kk + 2) ((a2).toNatClampNeg))
              · intro uq26
                have uc27 := eq_t uq26
                refine ⟨vin (by omega), ?_⟩
                exact hP (σ.1 (kk + 1) ((a2).toNatClampNeg))
            · intro uq28
              have ul29 := lit_1
              have uc30 := nle_t uq28
              exact hP (-2 : Int32)
    · intro uq31
      have ul32 := lit_m1
      have uc33 := eq_t uq31
      refine ⟨?_, ?_⟩
      · intro uq34
        have ul35 := lit_0
        exact hP (-2 : Int32)
      · intro uq36
        have ul37 := lit_0
        have uc38 := eq_t uq36
        exact hP (σ.1 kk 2)
set_option maxHeartbeats 4000000 in
theorem s_X9_pull {A : Nat → Nat → Prop} {F : Nat → Nat → Int32} {w : Nat} (a1 : Int32) (a2 : Int32) (a3 : Int32) {σ : zSto} (I : zInv A F w σ) {P : Int32 → zSto → Prop} (hP : ∀ (r : Int32), P r σ) : w_X9_pull a1 a2 a3 σ P := by
  unfold w_X9_pull
  refine s_X8_planAt a1 I (fun q2 uo1 => ?_)
  refine ⟨?_, ?_⟩
  · intro uq2
    refine s_X9_pairAnswer none a2 a3 (fun _ h => nomatch h) I (fun r5 => ?_)
    exact hP r5
  · intro j3 uq3
    have hP_j3 := uo1 j3 uq3
    refine ⟨isP_P hP_j3, ?_⟩
    refine s_X9_pairAnswer (some j3) a2 a3 (fun t h => by cases h; exact hP_j3) I (fun r7 => ?_)
    exact hP r7
set_option maxHeartbeats 4000000 in
theorem s_X9_seen {A : Nat → Nat → Prop} {F : Nat → Nat → Int32} {w : Nat} (a1 : Int32) (a2 : Int32) (a3 : Int32) {σ : zSto} (I : zInv A F w σ) {P : Int32 → zSto → Prop} (hP : ∀ (r : Int32), P r σ) : w_X9_seen a1 a2 a3 σ P := by
  unfold w_X9_seen
  refine s_X8_logAt a1 I (fun q2 uo1 => ?_)
  refine ⟨?_, ?_⟩
  · intro uq2
    refine s_X9_pairAnswer none a2 a3 (fun _ h => nomatch h) I (fun r5 => ?_)
    exact hP r5
  · intro j3 uq3
    have hP_j3 := uo1 j3 uq3
    refine ⟨isP_P hP_j3, ?_⟩
    refine s_X9_pairAnswer (some j3) a2 a3 (fun t h => by cases h; exact hP_j3) I (fun r7 => ?_)
    exact hP r7
set_option maxHeartbeats 4000000 in
theorem s_X9_isWeek {A : Nat → Nat → Prop} {F : Nat → Nat → Int32} {w : Nat} (a1 : Int32) {σ : zSto} (I : zInv A F w σ) {P : Int32 → zSto → Prop} (hP : ∀ (r : Int32), P r σ) : w_X9_isWeek a1 σ P := by
  unfold w_X9_isWeek
  refine ⟨?_, ?_⟩
  · intro uq1
    have ul2 := lit_0
    have uc3 := lt_t uq1
    exact hP (0 : Int32)
  · intro uq4
    have ul5 := lit_0
    have uc6 := nlt_t uq4
    refine ⟨?_, ?_⟩
    · intro uq7
      have ul8 := lit_10
      have uc9 := le_t uq7
      exact hP (0 : Int32)
    · intro uq10
      have ul11 := lit_10
      have uc12 := nle_t uq10
      exact hP (1 : Int32)
set_option maxHeartbeats 4000000 in
theorem s_X9_ridden {A : Nat → Nat → Prop} {F : Nat → Nat → Int32} {w : Nat} (pc : okC A) (a1 : Int32) (a2 : Int32) (a3 : Int32) (a4 : Int32) {σ : zSto} (I : zInv A F w σ) {P : Option Nat → zSto → Prop} (hP : ∀ (r : Option Nat) (σ2 : zSto), zInv A F w σ2 → (∀ t, r = some t → isN t ∧ 1 ≤ ti (σ2.1 t 11)) → P r σ2) : w_X9_ridden a1 a2 a3 a4 σ P := by
  unfold w_X9_ridden
  refine s_X8_lineAt a1 I (fun q2 uo1 => ?_)
  refine ⟨?_, ?_⟩
  · intro uq2
    exact hP none σ I (fun _ h => nomatch h)
  · intro j3 uq3
    have hN_j3 := (uo1 j3 uq3).1
    have hT_j3 := isN_T hN_j3
    have hG_j3 := (uo1 j3 uq3).2
    refine ⟨isT_L hT_j3, ?_⟩
    refine ⟨?_, ?_⟩
    · intro uq4
      have ul5 := lit_m1
      have uc6 := lt_t uq4
      exact hP none σ I (fun _ h => nomatch h)
    · intro uq7
      have ul8 := lit_m1
      have uc9 := nlt_t uq7
      refine ⟨?_, ?_⟩
      · intro uq10
        have ul11 := lit_4
        have uc12 := le_t uq10
        exact hP none σ I (fun _ h => nomatch h)
      · intro uq13
        have ul14 := lit_4
        have uc15 := nle_t uq13
        refine s_X9_isWeek a4 I (fun r5 => ?_)
        intro ub16
        have uc17 := bool_t ub16
        refine ⟨?_, ?_⟩
        · intro uq18
          have ul19 := lit_0
          have uc20 := ne_t uq18
          refine s_X5_byLaw (A := Ax A BN) (F := σ.1) (okC_N pc) j3 a2 a3 a4 (-1 : Int32) hT_j3 (inv_x I) (fun σ6 uI21x => ?_)
          have uI21 := inv_y I uI21x
          have uf22 : ti (σ6.1 j3 11) = ti (σ.1 j3 11) := congrArg ti (inv_e uI21x (show BN j3 11 from isN_lt hN_j3))
          have ud23 : 0 ≤ ti ((σ.1 j3 11)) ∧ ti ((σ.1 j3 11)) ≤ 16 := rdr I (isT_0 hT_j3) rfl rfl
          exact hP (some j3) σ6 uI21 (fun t h => by cases h; exact ⟨hN_j3, by omega⟩)
        · intro uq24
          have ul25 := lit_0
          have uc26 := eq_t uq24
          exact hP none σ I (fun _ h => nomatch h)
set_option maxHeartbeats 4000000 in
theorem s_X9_run {A : Nat → Nat → Prop} {F : Nat → Nat → Int32} {w : Nat} (pc : okC A) (a1 : Int32) (a2 : Int32) (a3 : Int32) (a4 : Int32) (a5 : Int32) {σ : zSto} (I : zInv A F w σ) {P : Int32 → zSto → Prop} (hP : ∀ (r : Int32) (σ2 : zSto), zInv A F w σ2 → P r σ2) : w_X9_run a1 a2 a3 a4 a5 σ P := by
  unfold w_X9_run
  refine s_X9_ridden pc a1 a2 a3 a4 I (fun q2 σ1 uI1 uo2 => ?_)
  refine ⟨?_, ?_⟩
  · intro uq3
    exact hP (-2 : Int32) σ1 uI1
  · intro j3 uq4
    have hN_j3 := (uo2 j3 uq4).1
    have hT_j3 := isN_T hN_j3
    have hG_j3 := (uo2 j3 uq4).2
    refine ⟨isT_L hT_j3, ?_⟩
    refine ⟨?_, ?_⟩
    · intro uq5
      have ul6 := lit_100
      have uc7 := lt_t uq5
      refine ⟨?_, ?_⟩
      · intro uq8
        have ul9 := lit_200
        have uc10 := lt_t uq8
        refine ⟨?_, ?_⟩
        · intro uq11
          have ul12 := lit_0
          have uc13 := eq_t uq11
          have ud14 : 0 ≤ ti ((σ1.1 j3 11)) ∧ ti ((σ1.1 j3 11)) ≤ 16 := rdr uI1 (isT_0 hT_j3) rfl rfl
          have ul15 := lit_1
          have ut16 := tsub (x := (σ1.1 j3 11)) (y := (1 : Int32)) (by omega)
          refine s_X5_arrival j3 ((σ1.1 j3 11) - (1 : Int32)) hT_j3 (by omega) uI1 (fun r5 => ?_)
          exact hP r5 σ1 uI1
        · refine ⟨?_, ?_⟩
          · intro uq17
            have ul18 := lit_1
            have uc19 := eq_t uq17
            exact hP (σ1.1 190 9) σ1 uI1
          · refine ⟨?_, ?_⟩
            · intro uq20
              have ul21 := lit_2
              have uc22 := eq_t uq20
              exact hP (σ1.1 190 7) σ1 uI1
            · refine ⟨?_, ?_⟩
              · intro uq23
                have ul24 := lit_3
                have uc25 := eq_t uq23
                exact hP (σ1.1 190 8) σ1 uI1
              · refine ⟨?_, ?_⟩
                · intro uq26
                  have ul27 := lit_4
                  have uc28 := eq_t uq26
                  exact hP (σ1.1 190 10) σ1 uI1
                · refine ⟨?_, ?_⟩
                  · intro uq29
                    have ul30 := lit_5
                    have uc31 := eq_t uq29
                    refine s_X5_fines j3 hT_j3 uI1 (fun r7 => ?_)
                    exact hP r7 σ1 uI1
                  · refine ⟨?_, ?_⟩
                    · intro uq32
                      have ul33 := lit_6
                      have uc34 := eq_t uq32
                      exact hP (σ1.1 190 11) σ1 uI1
                    · refine ⟨?_, ?_⟩
                      · intro uq35
                        have ul36 := lit_7
                        have uc37 := eq_t uq35
                        exact hP (σ1.1 190 6) σ1 uI1
                      · intro uq38
                        rw [← ti_eq] at uq38
                        exact hP (-2 : Int32) σ1 uI1
      · intro uq39
        have ul40 := lit_200
        have uc41 := nlt_t uq39
        refine ⟨?_, ?_⟩
        · intro uq42
          have ud43 : 0 ≤ ti ((σ1.1 j3 12)) ∧ ti ((σ1.1 j3 12)) ≤ 6 := rdr uI1 (isT_0 hT_j3) rfl rfl
          have ut44 := tadd (x := (200 : Int32)) (y := (σ1.1 j3 12)) (by omega)
          have uc45 := le_t uq42
          refine ⟨?_, ?_⟩
          · intro uq46
            have ul47 := lit_0
            have uc48 := eq_t uq46
            have ud49 : 0 ≤ ti ((σ1.1 j3 11)) ∧ ti ((σ1.1 j3 11)) ≤ 16 := rdr uI1 (isT_0 hT_j3) rfl rfl
            have ul50 := lit_1
            have ut51 := tsub (x := (σ1.1 j3 11)) (y := (1 : Int32)) (by omega)
            refine s_X5_arrival j3 ((σ1.1 j3 11) - (1 : Int32)) hT_j3 (by omega) uI1 (fun r9 => ?_)
            exact hP r9 σ1 uI1
          · refine ⟨?_, ?_⟩
            · intro uq52
              have ul53 := lit_1
              have uc54 := eq_t uq52
              exact hP (σ1.1 190 9) σ1 uI1
            · refine ⟨?_, ?_⟩
              · intro uq55
                have ul56 := lit_2
                have uc57 := eq_t uq55
                exact hP (σ1.1 190 7) σ1 uI1
              · refine ⟨?_, ?_⟩
                · intro uq58
                  have ul59 := lit_3
                  have uc60 := eq_t uq58
                  exact hP (σ1.1 190 8) σ1 uI1
                · refine ⟨?_, ?_⟩
                  · intro uq61
                    have ul62 := lit_4
                    have uc63 := eq_t uq61
                    exact hP (σ1.1 190 10) σ1 uI1
                  · refine ⟨?_, ?_⟩
                    · intro uq64
                      have ul65 := lit_5
                      have uc66 := eq_t uq64
                      refine s_X5_fines j3 hT_j3 uI1 (fun r11 => ?_)
                      exact hP r11 σ1 uI1
                    · refine ⟨?_, ?_⟩
                      · intro uq67
                        have ul68 := lit_6
                        have uc69 := eq_t uq67
                        exact hP (σ1.1 190 11) σ1 uI1
                      · refine ⟨?_, ?_⟩
                        · intro uq70
                          have ul71 := lit_7
                          have uc72 := eq_t uq70
                          exact hP (σ1.1 190 6) σ1 uI1
                        · intro uq73
                          rw [← ti_eq] at uq73
                          exact hP (-2 : Int32) σ1 uI1
        · intro uq74
          have ud75 : 0 ≤ ti ((σ1.1 j3 12)) ∧ ti ((σ1.1 j3 12)) ≤ 6 := rdr uI1 (isT_0 hT_j3) rfl rfl
          have ut76 := tadd (x := (200 : Int32)) (y := (σ1.1 j3 12)) (by omega)
          have uc77 := nle_t uq74
          have ut78 := tsub (x := a5) (y := (200 : Int32)) (by omega)
          refine ⟨vin (by omega), ?_⟩
          exact hP (σ1.1 193 (((a5 - (200 : Int32))).toNatClampNeg)) σ1 uI1
    · intro uq79
      have ul80 := lit_100
      have uc81 := nlt_t uq79
      refine ⟨?_, ?_⟩
      · intro uq82
        have ud83 : 0 ≤ ti ((σ1.1 j3 11)) ∧ ti ((σ1.1 j3 11)) ≤ 16 := rdr uI1 (isT_0 hT_j3) rfl rfl
        have ut84 := tadd (x := (100 : Int32)) (y := (σ1.1 j3 11)) (by omega)
        have uc85 := le_t uq82
        refine ⟨?_, ?_⟩
        · intro uq86
          have ul87 := lit_200
          have uc88 := lt_t uq86
          refine ⟨?_, ?_⟩
          · intro uq89
            have ul90 := lit_0
            have uc91 := eq_t uq89
            have ul92 := lit_1
            have ut93 := tsub (x := (σ1.1 j3 11)) (y := (1 : Int32)) (by omega)
            refine s_X5_arrival j3 ((σ1.1 j3 11) - (1 : Int32)) hT_j3 (by omega) uI1 (fun r14 => ?_)
            exact hP r14 σ1 uI1
          · refine ⟨?_, ?_⟩
            · intro uq94
              have ul95 := lit_1
              have uc96 := eq_t uq94
              exact hP (σ1.1 190 9) σ1 uI1
            · refine ⟨?_, ?_⟩
              · intro uq97
                have ul98 := lit_2
                have uc99 := eq_t uq97
                exact hP (σ1.1 190 7) σ1 uI1
              · refine ⟨?_, ?_⟩
                · intro uq100
                  have ul101 := lit_3
                  have uc102 := eq_t uq100
                  exact hP (σ1.1 190 8) σ1 uI1
                · refine ⟨?_, ?_⟩
                  · intro uq103
                    have ul104 := lit_4
                    have uc105 := eq_t uq103
                    exact hP (σ1.1 190 10) σ1 uI1
                  · refine ⟨?_, ?_⟩
                    · intro uq106
                      have ul107 := lit_5
                      have uc108 := eq_t uq106
                      refine s_X5_fines j3 hT_j3 uI1 (fun r16 => ?_)
                      exact hP r16 σ1 uI1
                    · refine ⟨?_, ?_⟩
                      · intro uq109
                        have ul110 := lit_6
                        have uc111 := eq_t uq109
                        exact hP (σ1.1 190 11) σ1 uI1
                      · refine ⟨?_, ?_⟩
                        · intro uq112
                          have ul113 := lit_7
                          have uc114 := eq_t uq112
                          exact hP (σ1.1 190 6) σ1 uI1
                        · intro uq115
                          rw [← ti_eq] at uq115
                          exact hP (-2 : Int32) σ1 uI1
        · intro uq116
          have ul117 := lit_200
          have uc118 := nlt_t uq116
          refine ⟨?_, ?_⟩
          · intro uq119
            have ud120 : 0 ≤ ti ((σ1.1 j3 12)) ∧ ti ((σ1.1 j3 12)) ≤ 6 := rdr uI1 (isT_0 hT_j3) rfl rfl
            have ut121 := tadd (x := (200 : Int32)) (y := (σ1.1 j3 12)) (by omega)
            have uc122 := le_t uq119
            refine ⟨?_, ?_⟩
            · intro uq123
              have ul124 := lit_0
              have uc125 := eq_t uq123
              have ul126 := lit_1
              have ut127 := tsub (x := (σ1.1 j3 11)) (y := (1 : Int32)) (by omega)
              refine s_X5_arrival j3 ((σ1.1 j3 11) - (1 : Int32)) hT_j3 (by omega) uI1 (fun r18 => ?_)
              exact hP r18 σ1 uI1
            · refine ⟨?_, ?_⟩
              · intro uq128
                have ul129 := lit_1
                have uc130 := eq_t uq128
                exact hP (σ1.1 190 9) σ1 uI1
              · refine ⟨?_, ?_⟩
                · intro uq131
                  have ul132 := lit_2
                  have uc133 := eq_t uq131
                  exact hP (σ1.1 190 7) σ1 uI1
                · refine ⟨?_, ?_⟩
                  · intro uq134
                    have ul135 := lit_3
                    have uc136 := eq_t uq134
                    exact hP (σ1.1 190 8) σ1 uI1
                  · refine ⟨?_, ?_⟩
                    · intro uq137
                      have ul138 := lit_4
                      have uc139 := eq_t uq137
                      exact hP (σ1.1 190 10) σ1 uI1
                    · refine ⟨?_, ?_⟩
                      · intro uq140
                        have ul141 := lit_5
                        have uc142 := eq_t uq140
                        refine s_X5_fines j3 hT_j3 uI1 (fun r20 => ?_)
                        exact hP r20 σ1 uI1
                      · refine ⟨?_, ?_⟩
                        · intro uq143
                          have ul144 := lit_6
                          have uc145 := eq_t uq143
                          exact hP (σ1.1 190 11) σ1 uI1
                        · refine ⟨?_, ?_⟩
                          · intro uq146
                            have ul147 := lit_7
                            have uc148 := eq_t uq146
                            exact hP (σ1.1 190 6) σ1 uI1
                          · intro uq149
                            rw [← ti_eq] at uq149
                            exact hP (-2 : Int32) σ1 uI1
          · intro uq150
            have ud151 : 0 ≤ ti ((σ1.1 j3 12)) ∧ ti ((σ1.1 j3 12)) ≤ 6 := rdr uI1 (isT_0 hT_j3) rfl rfl
            have ut152 := tadd (x := (200 : Int32)) (y := (σ1.1 j3 12)) (by omega)
            have uc153 := nle_t uq150
            have ut154 := tsub (x := a5) (y := (200 : Int32)) (by omega)
            refine ⟨vin (by omega), ?_⟩
            exact hP (σ1.1 193 (((a5 - (200 : Int32))).toNatClampNeg)) σ1 uI1
      · intro uq155
        have ud156 : 0 ≤ ti ((σ1.1 j3 11)) ∧ ti ((σ1.1 j3 11)) ≤ 16 := rdr uI1 (isT_0 hT_j3) rfl rfl
        have ut157 := tadd (x := (100 : Int32)) (y := (σ1.1 j3 11)) (by omega)
        have uc158 := nle_t uq155
        have ut159 := tsub (x := a5) (y := (100 : Int32)) (by omega)
        refine s_X5_arrival j3 (a5 - (100 : Int32)) hT_j3 (by omega) uI1 (fun r23 => ?_)
        exact hP r23 σ1 uI1
set_option maxHeartbeats 4000000 in
theorem s_X9_who {A : Nat → Nat → Prop} {F : Nat → Nat → Int32} {w : Nat} (pc : okC A) (a1 : Int32) (a2 : Int32) (a3 : Int32) (a4 : Int32) (a5 : Int32) {σ : zSto} (I : zInv A F w σ) {P : Int32 → zSto → Prop} (hP : ∀ (r : Int32) (σ2 : zSto), zInv A F w σ2 → P r σ2) : w_X9_who a1 a2 a3 a4 a5 σ P := by
  unfold w_X9_who
  refine s_X9_ridden pc a1 a2 a3 a4 I (fun q2 σ1 uI1 uo2 => ?_)
  refine ⟨?_, ?_⟩
  · intro uq3
    exact hP (-2 : Int32) σ1 uI1
  · intro j3 uq4
    have hN_j3 := (uo2 j3 uq4).1
    have hT_j3 := isN_T hN_j3
    have hG_j3 := (uo2 j3 uq4).2
    refine ⟨isT_L hT_j3, ?_⟩
    refine s_X0_hasPost j3 a5 hT_j3 uI1 (fun r5 uz5 => ?_)
    intro ub6
    have uc7 := bool_t ub6
    refine ⟨?_, ?_⟩
    · intro uq8
      have uc9 := uz5 uq8
      have ul10 := lit_0
      have uc11 := ne_t uq8
      refine ⟨vin (by omega), ?_⟩
      exact hP (σ1.1 191 ((a5).toNatClampNeg)) σ1 uI1
    · intro uq12
      have ul13 := lit_0
      have uc14 := eq_t uq12
      exact hP (-2 : Int32) σ1 uI1
set_option maxHeartbeats 4000000 in
theorem s_X9_late {A : Nat → Nat → Prop} {F : Nat → Nat → Int32} {w : Nat} (pc : okC A) (a1 : Int32) (a2 : Int32) (a3 : Int32) (a4 : Int32) (a5 : Int32) {σ : zSto} (I : zInv A F w σ) {P : Int32 → zSto → Prop} (hP : ∀ (r : Int32) (σ2 : zSto), zInv A F w σ2 → P r σ2) : w_X9_late a1 a2 a3 a4 a5 σ P := by
  unfold w_X9_late
  refine s_X9_ridden pc a1 a2 a3 a4 I (fun q2 σ1 uI1 uo2 => ?_)
  refine ⟨?_, ?_⟩
  · intro uq3
    exact hP (-1 : Int32) σ1 uI1
  · intro j3 uq4
    have hN_j3 := (uo2 j3 uq4).1
    have hT_j3 := isN_T hN_j3
    have hG_j3 := (uo2 j3 uq4).2
    refine ⟨isT_L hT_j3, ?_⟩
    refine s_X0_isStation j3 a5 hT_j3 uI1 (fun r5 uz5 => ?_)
    intro ub6
    have uc7 := bool_t ub6
    refine ⟨?_, ?_⟩
    · intro uq8
      have uc9 := uz5 uq8
      have ul10 := lit_0
      have uc11 := ne_t uq8
      refine s_X5_lateAt j3 a5 hT_j3 (by omega) uI1 (fun r7 => ?_)
      exact hP r7 σ1 uI1
    · intro uq12
      have ul13 := lit_0
      have uc14 := eq_t uq12
      exact hP (-1 : Int32) σ1 uI1
set_option maxHeartbeats 4000000 in
theorem s_X9_left {A : Nat → Nat → Prop} {F : Nat → Nat → Int32} {w : Nat} (pc : okC A) (a1 : Int32) (a2 : Int32) (a3 : Int32) (a4 : Int32) (a5 : Int32) {σ : zSto} (I : zInv A F w σ) {P : Int32 → zSto → Prop} (hP : ∀ (r : Int32) (σ2 : zSto), zInv A F w σ2 → P r σ2) : w_X9_left a1 a2 a3 a4 a5 σ P := by
  unfold w_X9_left
  refine s_X9_ridden pc a1 a2 a3 a4 I (fun q2 σ1 uI1 uo2 => ?_)
  refine ⟨?_, ?_⟩
  · intro uq3
    exact hP (-2 : Int32) σ1 uI1
  · intro j3 uq4
    have hN_j3 := (uo2 j3 uq4).1
    have hT_j3 := isN_T hN_j3
    have hG_j3 := (uo2 j3 uq4).2
    refine ⟨isT_L hT_j3, ?_⟩
    refine ⟨?_, ?_⟩
    · intro uq5
      have ul6 := lit_m1
      refine s_X0_hasPost j3 a5 hT_j3 uI1 (fun r5 uz7 => ?_)
      intro ub8
      have uc9 := bool_t ub8
      refine ⟨?_, ?_⟩
      · intro uq10
        have ul11 := lit_0
        have uc12 := eq_t uq10
        exact hP (-2 : Int32) σ1 uI1
      · intro uq13
        have uc14 := uz7 uq13
        have ul15 := lit_0
        have uc16 := ne_t uq13
        refine ⟨vin (by omega), ?_⟩
        exact hP (σ1.1 192 ((a5).toNatClampNeg)) σ1 uI1
    · intro uq17
      have ul18 := lit_m1
      have uc19 := eq_t uq17
      refine s_X5_remainsInAll j3 hT_j3 uI1 (fun r8 => ?_)
      exact hP r8 σ1 uI1
set_option maxHeartbeats 4000000 in
theorem s_X9_played {A : Nat → Nat → Prop} {F : Nat → Nat → Int32} {w : Nat} (pc : okC A) (a1 : Int32) (a2 : Int32) (a3 : Int32) (a4 : Int32) {σ : zSto} (I : zInv A F w σ) {P : Int32 → zSto → Prop} (hP : ∀ (r : Int32) (σ2 : zSto), zInv A F w σ2 → P r σ2) : w_X9_played a1 a2 a3 a4 σ P := by
  unfold w_X9_played
  refine s_X8_lineAt a1 I (fun q2 uo1 => ?_)
  refine ⟨?_, ?_⟩
  · intro uq2
    refine s_X8_planAt a2 I (fun q5 uo3 => ?_)
    refine ⟨?_, ?_⟩
    · intro uq4
      exact hP (-2 : Int32) σ I
    · intro j6 uq5
      have hP_j6 := uo3 j6 uq5
      refine ⟨isP_P hP_j6, ?_⟩
      exact hP (-2 : Int32) σ I
  · intro j3 uq6
    have hN_j3 := (uo1 j3 uq6).1
    have hT_j3 := isN_T hN_j3
    have hG_j3 := (uo1 j3 uq6).2
    refine ⟨isT_L hT_j3, ?_⟩
    refine s_X8_planAt a2 I (fun q8 uo7 => ?_)
    refine ⟨?_, ?_⟩
    · intro uq8
      exact hP (-2 : Int32) σ I
    · intro j9 uq9
      have hP_j9 := uo7 j9 uq9
      refine ⟨isP_P hP_j9, ?_⟩
      refine s_X9_isWeek a3 I (fun r11 => ?_)
      intro ub10
      have uc11 := bool_t ub10
      refine ⟨?_, ?_⟩
      · intro uq12
        have ul13 := lit_0
        have uc14 := ne_t uq12
        refine s_X5_byPlan pc j3 j9 a3 hT_j3 hP_j9 I (fun r13 σ12 uI15 => ?_)
        refine ⟨?_, ?_⟩
        · intro uq16
          have ul17 := lit_200
          have uc18 := lt_t uq16
          refine ⟨?_, ?_⟩
          · intro uq19
            have uc20 := eq_t uq19
            exact hP r13 σ12 uI15
          · refine ⟨?_, ?_⟩
            · intro uq21
              have ul22 := lit_1
              have uc23 := eq_t uq21
              exact hP (σ12.1 190 9) σ12 uI15
            · refine ⟨?_, ?_⟩
              · intro uq24
                have ul25 := lit_2
                have uc26 := eq_t uq24
                exact hP (σ12.1 190 8) σ12 uI15
              · refine ⟨?_, ?_⟩
                · intro uq27
                  have ul28 := lit_3
                  have uc29 := eq_t uq27
                  refine s_X5_fines j3 hT_j3 uI15 (fun r15 => ?_)
                  exact hP r15 σ12 uI15
                · refine ⟨?_, ?_⟩
                  · intro uq30
                    have ul31 := lit_4
                    have uc32 := eq_t uq30
                    exact hP (σ12.1 190 10) σ12 uI15
                  · intro uq33
                    rw [← ti_eq] at uq33
                    exact hP (-2 : Int32) σ12 uI15
        · intro uq34
          have ul35 := lit_200
          have uc36 := nlt_t uq34
          refine ⟨?_, ?_⟩
          · intro uq37
            have ud38 : 0 ≤ ti ((σ12.1 j3 12)) ∧ ti ((σ12.1 j3 12)) ≤ 6 := rdr uI15 (isT_0 hT_j3) rfl rfl
            have ut39 := tadd (x := (200 : Int32)) (y := (σ12.1 j3 12)) (by omega)
            have uc40 := le_t uq37
            refine ⟨?_, ?_⟩
            · intro uq41
              have uc42 := eq_t uq41
              exact hP r13 σ12 uI15
            · refine ⟨?_, ?_⟩
              · intro uq43
                have ul44 := lit_1
                have uc45 := eq_t uq43
                exact hP (σ12.1 190 9) σ12 uI15
              · refine ⟨?_, ?_⟩
                · intro uq46
                  have ul47 := lit_2
                  have uc48 := eq_t uq46
                  exact hP (σ12.1 190 8) σ12 uI15
                · refine ⟨?_, ?_⟩
                  · intro uq49
                    have ul50 := lit_3
                    have uc51 := eq_t uq49
                    refine s_X5_fines j3 hT_j3 uI15 (fun r17 => ?_)
                    exact hP r17 σ12 uI15
                  · refine ⟨?_, ?_⟩
                    · intro uq52
                      have ul53 := lit_4
                      have uc54 := eq_t uq52
                      exact hP (σ12.1 190 10) σ12 uI15
                    · intro uq55
                      rw [← ti_eq] at uq55
                      exact hP (-2 : Int32) σ12 uI15
          · intro uq56
            have ud57 : 0 ≤ ti ((σ12.1 j3 12)) ∧ ti ((σ12.1 j3 12)) ≤ 6 := rdr uI15 (isT_0 hT_j3) rfl rfl
            have ut58 := tadd (x := (200 : Int32)) (y := (σ12.1 j3 12)) (by omega)
            have uc59 := nle_t uq56
            have ut60 := tsub (x := a4) (y := (200 : Int32)) (by omega)
            refine ⟨vin (by omega), ?_⟩
            exact hP (σ12.1 193 (((a4 - (200 : Int32))).toNatClampNeg)) σ12 uI15
      · intro uq61
        have ul62 := lit_0
        have uc63 := eq_t uq61
        exact hP (-2 : Int32) σ I
set_option maxHeartbeats 4000000 in
theorem s_X9_most_33 {A : Nat → Nat → Prop} {F : Nat → Nat → Int32} {w : Nat} (pc : okC A) (x_2 : Int32) (x_3 : Int32) (x_4 : Int32) (q_5 : Nat) (hT_q_5 : isT q_5) {P : Int32 → zSto → Prop} (hP : ∀ (r : Int32) (σ2 : zSto), zInv A F w σ2 → P r σ2) : ∀ (n : Nat) (x_6 : Int32) (x_7 : Int32) (x_8 : Int32) (σ : zSto), zInv A F w σ → (0 ≤ ti (x_8) ∧ ti (x_8) ≤ 4) → (4 - (ti (x_8)) < n) → w_X9_most_33 x_2 x_3 x_4 q_5 P n x_6 x_7 x_8 σ := by
  intro n
  induction n with
  | zero =>
    intro x_6 x_7 x_8 σ I h_x_8 hm
    exfalso
    omega
  | succ n ih =>
    intro x_6 x_7 x_8 σ I h_x_8 hm
    unfold w_X9_most_33
    refine ⟨?_, ?_⟩
    · intro uq1
      have ul2 := lit_4
      have uc3 := le_t uq1
      exact hP x_6 σ I
    · intro uq4
      have ul5 := lit_4
      have uc6 := nle_t uq4
      refine s_X5_byLaw pc q_5 x_8 x_2 x_3 (-1 : Int32) hT_q_5 I (fun σ6 uI7 => ?_)
      refine ⟨?_, ?_⟩
      · intro uq8
        have ul9 := lit_0
        have uc10 := eq_t uq8
        intro x7 ex7
        refine ⟨?_, ?_⟩
        · intro uq11
          have ul12 := lit_m1
          have uc13 := eq_t uq11
          intro x8 ex8
          have ul14 := lit_1
          have ut15 := tadd (x := x_8) (y := (1 : Int32)) (by omega)
          have ut16 := eq_t ex8
          exact ih x_8 x7 x8 σ6 uI7 (by omega) (by omega)
        · intro uq17
          have ul18 := lit_m1
          refine ⟨?_, ?_⟩
          · intro uq19
            have uc20 := le_t uq19
            intro x9 ex9
            have ul21 := lit_1
            have ut22 := tadd (x := x_8) (y := (1 : Int32)) (by omega)
            have ut23 := eq_t ex9
            exact ih x_6 x_7 x9 σ6 uI7 (by omega) (by omega)
          · intro uq24
            have uc25 := nle_t uq24
            intro x10 ex10
            have ul26 := lit_1
            have ut27 := tadd (x := x_8) (y := (1 : Int32)) (by omega)
            have ut28 := eq_t ex10
            exact ih x_8 x7 x10 σ6 uI7 (by omega) (by omega)
      · intro uq29
        have ul30 := lit_0
        intro x11 ex11
        refine ⟨?_, ?_⟩
        · intro uq31
          have ul32 := lit_m1
          have uc33 := eq_t uq31
          intro x12 ex12
          have ul34 := lit_1
          have ut35 := tadd (x := x_8) (y := (1 : Int32)) (by omega)
          have ut36 := eq_t ex12
          exact ih x_8 x11 x12 σ6 uI7 (by omega) (by omega)
        · intro uq37
          have ul38 := lit_m1
          refine ⟨?_, ?_⟩
          · intro uq39
            have uc40 := le_t uq39
            intro x13 ex13
            have ul41 := lit_1
            have ut42 := tadd (x := x_8) (y := (1 : Int32)) (by omega)
            have ut43 := eq_t ex13
            exact ih x_6 x_7 x13 σ6 uI7 (by omega) (by omega)
          · intro uq44
            have uc45 := nle_t uq44
            intro x14 ex14
            have ul46 := lit_1
            have ut47 := tadd (x := x_8) (y := (1 : Int32)) (by omega)
            have ut48 := eq_t ex14
            exact ih x_8 x11 x14 σ6 uI7 (by omega) (by omega)
set_option maxHeartbeats 4000000 in
theorem s_X9_most {A : Nat → Nat → Prop} {F : Nat → Nat → Int32} {w : Nat} (pc : okC A) (a1 : Int32) (a2 : Int32) (a3 : Int32) (a4 : Int32) {σ : zSto} (I : zInv A F w σ) {P : Int32 → zSto → Prop} (hP : ∀ (r : Int32) (σ2 : zSto), zInv A F w σ2 → P r σ2) : w_X9_most a1 a2 a3 a4 σ P := by
  unfold w_X9_most
  refine s_X8_lineAt a1 I (fun q2 uo1 => ?_)
  refine ⟨?_, ?_⟩
  · intro uq2
    exact hP (-1 : Int32) σ I
  · intro j3 uq3
    have hN_j3 := (uo1 j3 uq3).1
    have hT_j3 := isN_T hN_j3
    have hG_j3 := (uo1 j3 uq3).2
    refine ⟨isT_L hT_j3, ?_⟩
    refine s_X9_isWeek a3 I (fun r5 => ?_)
    intro ub4
    have uc5 := bool_t ub4
    refine ⟨?_, ?_⟩
    · intro uq6
      have ul7 := lit_0
      have uc8 := ne_t uq6
      refine ⟨70000, ?_⟩
      have ul9 := lit_m1
      exact s_X9_most_33 pc a2 a3 a4 j3 hT_j3 hP 70000 (-1 : Int32) (0 : Int32) (0 : Int32) σ I (by omega) (by omega)
    · intro uq10
      have ul11 := lit_0
      have uc12 := eq_t uq10
      exact hP (-1 : Int32) σ I
set_option maxHeartbeats 4000000 in
theorem s_X9_weeks_38 {A : Nat → Nat → Prop} {F : Nat → Nat → Int32} {w : Nat} (pc : okC A) (x_2 : Int32) (x_3 : Int32) (x_4 : Int32) (q_5 : Nat) (hT_q_5 : isT q_5) {P : Int32 → zSto → Prop} (hP : ∀ (r : Int32) (σ2 : zSto), zInv A F w σ2 → P r σ2) : ∀ (n : Nat) (x_6 : Int32) (x_7 : Int32) (x_8 : Int32) (x_9 : Int32) (σ : zSto), zInv A F w σ → (0 ≤ ti (x_9) ∧ ti (x_9) ≤ 10) → (10 - (ti (x_9)) < n) → w_X9_weeks_38 x_2 x_3 x_4 q_5 P n x_6 x_7 x_8 x_9 σ := by
  intro n
  induction n with
  | zero =>
    intro x_6 x_7 x_8 x_9 σ I h_x_9 hm
    exfalso
    omega
  | succ n ih =>
    intro x_6 x_7 x_8 x_9 σ I h_x_9 hm
    unfold w_X9_weeks_38
    refine ⟨?_, ?_⟩
    · intro uq1
      have ul2 := lit_10
      have uc3 := le_t uq1
      refine ⟨?_, ?_⟩
      · intro uq4
        have ul5 := lit_0
        have uc6 := eq_t uq4
        exact hP x_6 σ I
      · intro uq7
        have ul8 := lit_0
        exact hP x_8 σ I
    · intro uq9
      have ul10 := lit_10
      have uc11 := nle_t uq9
      refine s_X5_byLaw pc q_5 x_2 x_3 x_9 (-1 : Int32) hT_q_5 I (fun σ4 uI12 => ?_)
      intro x5 ex5
      refine ⟨?_, ?_⟩
      · intro uq13
        have uc14 := le_t uq13
        intro x6 ex6
        have ul15 := lit_1
        have ut16 := tadd (x := x_9) (y := (1 : Int32)) (by omega)
        have ut17 := eq_t ex6
        exact ih x_6 x_7 x5 x6 σ4 uI12 (by omega) (by omega)
      · intro uq18
        have uc19 := nle_t uq18
        intro x7 ex7
        intro x8 ex8
        have ul20 := lit_1
        have ut21 := tadd (x := x_9) (y := (1 : Int32)) (by omega)
        have ut22 := eq_t ex8
        exact ih x_9 x7 x5 x8 σ4 uI12 (by omega) (by omega)
set_option maxHeartbeats 4000000 in
theorem s_X9_weeks {A : Nat → Nat → Prop} {F : Nat → Nat → Int32} {w : Nat} (pc : okC A) (a1 : Int32) (a2 : Int32) (a3 : Int32) (a4 : Int32) {σ : zSto} (I : zInv A F w σ) {P : Int32 → zSto → Prop} (hP : ∀ (r : Int32) (σ2 : zSto), zInv A F w σ2 → P r σ2) : w_X9_weeks a1 a2 a3 a4 σ P := by
  unfold w_X9_weeks
  refine s_X8_lineAt a1 I (fun q2 uo1 => ?_)
  refine ⟨?_, ?_⟩
  · intro uq2
    exact hP (-1 : Int32) σ I
  · intro j3 uq3
    have hN_j3 := (uo1 j3 uq3).1
    have hT_j3 := isN_T hN_j3
    have hG_j3 := (uo1 j3 uq3).2
    refine ⟨isT_L hT_j3, ?_⟩
    refine ⟨?_, ?_⟩
    · intro uq4
      have ul5 := lit_0
      have uc6 := lt_t uq4
      exact hP (-1 : Int32) σ I
    · intro uq7
      have ul8 := lit_0
      have uc9 := nlt_t uq7
      refine ⟨?_, ?_⟩
      · intro uq10
        have ul11 := lit_4
        have uc12 := lt_t uq10
        refine ⟨70000, ?_⟩
        have ul13 := lit_m1
        exact s_X9_weeks_38 pc a2 a3 a4 j3 hT_j3 hP 70000 (0 : Int32) (-1 : Int32) (0 : Int32) (0 : Int32) σ I (by omega) (by omega)
      · intro uq14
        have ul15 := lit_4
        have uc16 := nlt_t uq14
        exact hP (-1 : Int32) σ I
set_option maxHeartbeats 4000000 in
theorem s_X9_lots_60 {A : Nat → Nat → Prop} {F : Nat → Nat → Int32} {w : Nat} (pc : okC A) (x_2 : Int32) (x_3 : Int32) (x_4 : Int32) (x_5 : Int32) (q_6 : Nat) (h_x_4 : 1 ≤ ti (x_4) ∧ ti (x_4) ≤ 20) (hT_q_6 : isT q_6) {P : Int32 → zSto → Prop} (hP : ∀ (r : Int32) (σ2 : zSto), zInv A F w σ2 → P r σ2) : ∀ (n : Nat) (x_7 : Int32) (x_8 : Int32) (x_9 : Int32) (x_10 : Int32) (σ : zSto), zInv A F w σ → (0 ≤ ti (x_10) ∧ ti (x_10) ≤ 20) → (20 - (ti (x_10)) < n) → w_X9_lots_60 x_2 x_3 x_4 x_5 q_6 P n x_7 x_8 x_9 x_10 σ := by
  intro n
  induction n with
  | zero =>
    intro x_7 x_8 x_9 x_10 σ I h_x_10 hm
    exfalso
    omega
  | succ n ih =>
    intro x_7 x_8 x_9 x_10 σ I h_x_10 hm
    unfold w_X9_lots_60
    refine ⟨?_, ?_⟩
    · intro uq1
      have uc2 := le_t uq1
      refine ⟨?_, ?_⟩
      · intro uq3
        have ul4 := lit_0
        refine ⟨?_, ?_⟩
        · intro uq5
          have ul6 := lit_1
          exact hP x_9 σ I
        · intro uq7
          have ul8 := lit_1
          have uc9 := eq_t uq7
          exact hP x_8 σ I
      · intro uq10
        have ul11 := lit_0
        have uc12 := eq_t uq10
        exact hP x_7 σ I
    · intro uq13
      have uc14 := nle_t uq13
      refine s_X5_byLaw pc q_6 (2 : Int32) (x_3 + x_10) x_2 (-1 : Int32) hT_q_6 I (fun σ6 uI15 => ?_)
      intro x7 ex7
      intro x8 ex8
      refine ⟨?_, ?_⟩
      · intro uq16
        have ul17 := lit_m1
        intro x9 ex9
        intro x10 ex10
        have ul18 := lit_1
        have ut19 := tadd (x := x_10) (y := (1 : Int32)) (by omega)
        have ut20 := eq_t ex10
        exact ih x7 x8 x9 x10 σ6 uI15 (by omega) (by omega)
      · intro uq21
        have ul22 := lit_m1
        have uc23 := eq_t uq21
        intro x11 ex11
        intro x12 ex12
        have ul24 := lit_1
        have ut25 := tadd (x := x_10) (y := (1 : Int32)) (by omega)
        have ut26 := eq_t ex12
        exact ih x7 x8 x11 x12 σ6 uI15 (by omega) (by omega)
set_option maxHeartbeats 4000000 in
theorem s_X9_lots {A : Nat → Nat → Prop} {F : Nat → Nat → Int32} {w : Nat} (pc : okC A) (a1 : Int32) (a2 : Int32) (a3 : Int32) (a4 : Int32) (a5 : Int32) {σ : zSto} (I : zInv A F w σ) {P : Int32 → zSto → Prop} (hP : ∀ (r : Int32) (σ2 : zSto), zInv A F w σ2 → P r σ2) : w_X9_lots a1 a2 a3 a4 a5 σ P := by
  unfold w_X9_lots
  refine s_X8_lineAt a1 I (fun q2 uo1 => ?_)
  refine ⟨?_, ?_⟩
  · intro uq2
    exact hP (-1 : Int32) σ I
  · intro j3 uq3
    have hN_j3 := (uo1 j3 uq3).1
    have hT_j3 := isN_T hN_j3
    have hG_j3 := (uo1 j3 uq3).2
    refine ⟨isT_L hT_j3, ?_⟩
    refine s_X9_isWeek a2 I (fun r5 => ?_)
    intro ub4
    have uc5 := bool_t ub4
    refine ⟨?_, ?_⟩
    · intro uq6
      have ul7 := lit_0
      have uc8 := eq_t uq6
      exact hP (-1 : Int32) σ I
    · intro uq9
      have ul10 := lit_0
      have uc11 := ne_t uq9
      refine ⟨?_, ?_⟩
      · intro uq12
        have ul13 := lit_1
        have uc14 := lt_t uq12
        exact hP (-1 : Int32) σ I
      · intro uq15
        have ul16 := lit_1
        have uc17 := nlt_t uq15
        refine ⟨?_, ?_⟩
        · intro uq18
          have ul19 := lit_20
          have uc20 := lt_t uq18
          exact hP (-1 : Int32) σ I
        · intro uq21
          have ul22 := lit_20
          have uc23 := nlt_t uq21
          refine ⟨?_, ?_⟩
          · intro uq24
            have uc25 := lt_t uq24
            exact hP (-1 : Int32) σ I
          · intro uq26
            have uc27 := nlt_t uq26
            refine ⟨?_, ?_⟩
            · intro uq28
              have ul29 := lit_2
              have uc30 := le_t uq28
              refine ⟨70000, ?_⟩
              exact s_X9_lots_60 pc a2 a3 a4 a5 j3 (by omega) hT_j3 hP 70000 (0 : Int32) (0 : Int32) (0 : Int32) (0 : Int32) σ I (by omega) (by omega)
            · intro uq31
              have ul32 := lit_2
              have uc33 := nle_t uq31
              exact hP (-1 : Int32) σ I
set_option maxHeartbeats 4000000 in
theorem s_X9_keepGains_2 {A : Nat → Nat → Prop} {F : Nat → Nat → Int32} {w : Nat} (pc : okC A) (q_1 : Nat) (x_2 : Int32) (hT_q_1 : isT q_1) (h_x_2 : 0 ≤ ti (x_2) ∧ ti (x_2) ≤ 63) {P : zSto → Prop} (hP : ∀ (σ2 : zSto), zInv A F w σ2 → P σ2) : ∀ (n : Nat) (x_3 : Int32) (σ : zSto), zInv A F w σ → (0 ≤ ti (x_3) ∧ ti (x_3) ≤ 6) → (6 - (ti (x_3)) < n) → w_X9_keepGains_2 q_1 x_2 P n x_3 σ := by
  intro n
  induction n with
  | zero =>
    intro x_3 σ I h_x_3 hm
    exfalso
    omega
  | succ n ih =>
    intro x_3 σ I h_x_3 hm
    unfold w_X9_keepGains_2
    refine ⟨?_, ?_⟩
    · intro uq1
      have ud2 : 0 ≤ ti ((σ.1 q_1 12)) ∧ ti ((σ.1 q_1 12)) ≤ 6 := rdr I (isT_0 hT_q_1) rfl rfl
      have uc3 := le_t uq1
      exact hP σ I
    · intro uq4
      have ud5 : 0 ≤ ti ((σ.1 q_1 12)) ∧ ti ((σ.1 q_1 12)) ≤ 6 := rdr I (isT_0 hT_q_1) rfl rfl
      have uc6 := nle_t uq4
      refine s_X5_gainOf q_1 x_3 hT_q_1 (by omega) I (by omega) (fun r2 => ?_)
      have ul7 := lit_6
      have ut8 := tmulr (x := x_2) (y := (6 : Int32)) (6) lit_6 (by omega)
      have ut9 := tadd (x := (x_2 * (6 : Int32))) (y := x_3) (by omega)
      refine ⟨vin (by omega), ?_⟩
      intro σ4 eσ4
      have uI10 : zInv A F w σ4 := by rw [eσ4]; exact wI0 I (pC pc (by decide)) rk_222 kd_222
      intro x5 ex5
      have ul11 := lit_1
      have ut12 := tadd (x := x_3) (y := (1 : Int32)) (by omega)
      have ut13 := eq_t ex5
      exact ih x5 σ4 uI10 (by omega) (by omega)
set_option maxHeartbeats 4000000 in
theorem s_X9_keepGains {A : Nat → Nat → Prop} {F : Nat → Nat → Int32} {w : Nat} (pc : okC A) (b1 : Nat) (a2 : Int32) (hT_b1 : isT b1) (h_a2 : 0 ≤ ti (a2) ∧ ti (a2) ≤ 63) {σ : zSto} (I : zInv A F w σ) {P : zSto → Prop} (hP : ∀ (σ2 : zSto), zInv A F w σ2 → P σ2) : w_X9_keepGains b1 a2 σ P := by
  unfold w_X9_keepGains
  refine ⟨70000, ?_⟩
  have ul1 := lit_0
  exact s_X9_keepGains_2 pc b1 a2 hT_b1 (by omega) hP 70000 (0 : Int32) σ I (by omega) (by omega)
set_option maxHeartbeats 4000000 in
theorem s_X9_fillGains_2 {A : Nat → Nat → Prop} {F : Nat → Nat → Int32} {w : Nat} (pc : okC A) (q_1 : Nat) (x_2 : Int32) (hT_q_1 : isT q_1) {P : zSto → Prop} (hP : ∀ (σ2 : zSto), zInv A F w σ2 → P σ2) : ∀ (n : Nat) (x_3 : Int32) (σ : zSto), zInv A F w σ → (0 ≤ ti (x_3) ∧ ti (x_3) ≤ 64) → (64 - (ti (x_3)) < n) → w_X9_fillGains_2 q_1 x_2 P n x_3 σ := by
  intro n
  induction n with
  | zero =>
    intro x_3 σ I h_x_3 hm
    exfalso
    omega
  | succ n ih =>
    intro x_3 σ I h_x_3 hm
    unfold w_X9_fillGains_2
    refine s_X0_riderSets q_1 hT_q_1 I (fun r2 hr2 => ?_)
    refine ⟨?_, ?_⟩
    · intro uq1
      have uc2 := le_t uq1
      exact hP σ I
    · intro uq3
      have uc4 := nle_t uq3
      refine s_X5_byLaw pc q_1 (0 : Int32) (0 : Int32) x_2 x_3 hT_q_1 I (fun σ3 uI5 => ?_)
      refine s_X9_keepGains pc q_1 x_3 hT_q_1 (by omega) uI5 (fun σ4 uI6 => ?_)
      intro x5 ex5
      have ul7 := lit_1
      have ut8 := tadd (x := x_3) (y := (1 : Int32)) (by omega)
      have ut9 := eq_t ex5
      exact ih x5 σ4 uI6 (by omega) (by omega)
set_option maxHeartbeats 4000000 in
theorem s_X9_fillGains {A : Nat → Nat → Prop} {F : Nat → Nat → Int32} {w : Nat} (pc : okC A) (b1 : Nat) (a2 : Int32) (hT_b1 : isT b1) {σ : zSto} (I : zInv A F w σ) {P : zSto → Prop} (hP : ∀ (σ2 : zSto), zInv A F w σ2 → P σ2) : w_X9_fillGains b1 a2 σ P := by
  unfold w_X9_fillGains
  refine ⟨70000, ?_⟩
  have ul1 := lit_0
  exact s_X9_fillGains_2 pc b1 a2 hT_b1 hP 70000 (0 : Int32) σ I (by omega) (by omega)
set_option maxHeartbeats 4000000 in
theorem s_X9_isAtRest_2 {A : Nat → Nat → Prop} {F : Nat → Nat → Int32} {w : Nat} (q_1 : Nat) (x_2 : Int32) (hT_q_1 : isT q_1) (h_x_2 : 0 ≤ ti (x_2) ∧ ti (x_2) ≤ 63) {σ : zSto} (I : zInv A F w σ) {P : Int32 → zSto → Prop} (hP : ∀ (r : Int32), P r σ) : ∀ (n : Nat) (x_3 : Int32), (0 ≤ ti (x_3) ∧ ti (x_3) ≤ 6) → (6 - (ti (x_3)) < n) → w_X9_isAtRest_2 q_1 x_2 P n x_3 σ := by
  intro n
  induction n with
  | zero =>
    intro x_3 h_x_3 hm
    exfalso
    omega
  | succ n ih =>
    intro x_3 h_x_3 hm
    unfold w_X9_isAtRest_2
    refine ⟨?_, ?_⟩
    · intro uq1
      have ud2 : 0 ≤ ti ((σ.1 q_1 12)) ∧ ti ((σ.1 q_1 12)) ≤ 6 := rdr I (isT_0 hT_q_1) rfl rfl
      have uc3 := le_t uq1
      exact hP (1 : Int32)
    · intro uq4
      have ud5 : 0 ≤ ti ((σ.1 q_1 12)) ∧ ti ((σ.1 q_1 12)) ≤ 6 := rdr I (isT_0 hT_q_1) rfl rfl
      have uc6 := nle_t uq4
      intro x1 ex1
      have ut7 := shl1_5 (x := x_3) (by omega)
      have ut8 := xor_rg (x := x_2) (y := ((1 : Int32) <<< (x_3 &&& 31))) (by omega) (by omega)
      have ut9 := eq_t ex1
      have ul10 := lit_6
      have ut11 := tmulr (x := x1) (y := (6 : Int32)) (6) lit_6 (by omega)
      have ut12 := tadd (x := (x1 * (6 : Int32))) (y := x_3) (by omega)
      refine ⟨vin (by omega), ?_⟩
      have ut13 := tmulr (x := x_2) (y := (6 : Int32)) (6) lit_6 (by omega)
      have ut14 := tadd (x := (x_2 * (6 : Int32))) (y := x_3) (by omega)
      refine ⟨vin (by omega), ?_⟩
      refine ⟨?_, ?_⟩
      · intro uq15
        have uc16 := le_t uq15
        intro x4 ex4
        have ul17 := lit_1
        have ut18 := tadd (x := x_3) (y := (1 : Int32)) (by omega)
        have ut19 := eq_t ex4
        exact ih x4 (by omega) (by omega)
      · intro uq20
        have uc21 := nle_t uq20
        exact hP (0 : Int32)
set_option maxHeartbeats 4000000 in
theorem s_X9_isAtRest {A : Nat → Nat → Prop} {F : Nat → Nat → Int32} {w : Nat} (b1 : Nat) (a2 : Int32) (hT_b1 : isT b1) (h_a2 : 0 ≤ ti (a2) ∧ ti (a2) ≤ 63) {σ : zSto} (I : zInv A F w σ) {P : Int32 → zSto → Prop} (hP : ∀ (r : Int32), P r σ) : w_X9_isAtRest b1 a2 σ P := by
  unfold w_X9_isAtRest
  refine ⟨70000, ?_⟩
  have ul1 := lit_0
  exact s_X9_isAtRest_2 b1 a2 hT_b1 (by omega) I hP 70000 (0 : Int32) (by omega) (by omega)
set_option maxHeartbeats 4000000 in
theorem s_X9_rest_43 {A : Nat → Nat → Prop} {F : Nat → Nat → Int32} {w : Nat} (x_3 : Int32) (q_4 : Nat) (hT_q_4 : isT q_4) {σ : zSto} (I : zInv A F w σ) {P : Int32 → zSto → Prop} (hP : ∀ (r : Int32) (σ2 : zSto), zInv A F w σ2 → P r σ2) : ∀ (n : Nat) (x_5 : Int32) (x_6 : Int32), (0 ≤ ti (x_6) ∧ ti (x_6) ≤ 64) → (64 - (ti (x_6)) < n) → w_X9_rest_43 x_3 q_4 P n x_5 x_6 σ := by
  intro n
  induction n with
  | zero =>
    intro x_5 x_6 h_x_6 hm
    exfalso
    omega
  | succ n ih =>
    intro x_5 x_6 h_x_6 hm
    unfold w_X9_rest_43
    refine s_X0_riderSets q_4 hT_q_4 I (fun r8 hr8 => ?_)
    refine ⟨?_, ?_⟩
    · intro uq1
      have uc2 := le_t uq1
      refine ⟨?_, ?_⟩
      · intro uq3
        have ul4 := lit_m1
        exact hP (-2 : Int32) σ I
      · intro uq5
        have ul6 := lit_m1
        have uc7 := eq_t uq5
        exact hP x_5 σ I
    · intro uq8
      have uc9 := nle_t uq8
      refine s_X9_isAtRest q_4 x_6 hT_q_4 (by omega) I (fun r10 => ?_)
      intro ub10
      have uc11 := bool_t ub10
      refine ⟨?_, ?_⟩
      · intro uq12
        have ul13 := lit_0
        have uc14 := eq_t uq12
        intro x11 ex11
        have ul15 := lit_1
        have ut16 := tadd (x := x_6) (y := (1 : Int32)) (by omega)
        have ut17 := eq_t ex11
        exact ih x_5 x11 (by omega) (by omega)
      · intro uq18
        have ul19 := lit_0
        have uc20 := ne_t uq18
        refine ⟨?_, ?_⟩
        · intro uq21
          intro x12 ex12
          intro x13 ex13
          have ul22 := lit_1
          have ut23 := tadd (x := x_6) (y := (1 : Int32)) (by omega)
          have ut24 := eq_t ex13
          exact ih x12 x13 (by omega) (by omega)
        · intro uq25
          have uc26 := eq_t uq25
          exact hP x_6 σ I
set_option maxHeartbeats 4000000 in
theorem s_X9_rest {A : Nat → Nat → Prop} {F : Nat → Nat → Int32} {w : Nat} (pc : okC A) (a1 : Int32) (a2 : Int32) (a3 : Int32) {σ : zSto} (I : zInv A F w σ) {P : Int32 → zSto → Prop} (hP : ∀ (r : Int32) (σ2 : zSto), zInv A F w σ2 → P r σ2) : w_X9_rest a1 a2 a3 σ P := by
  unfold w_X9_rest
  refine s_X8_lineAt a1 I (fun q2 uo1 => ?_)
  refine ⟨?_, ?_⟩
  · intro uq2
    exact hP (-2 : Int32) σ I
  · intro j3 uq3
    have hN_j3 := (uo1 j3 uq3).1
    have hT_j3 := isN_T hN_j3
    have hG_j3 := (uo1 j3 uq3).2
    refine ⟨isT_L hT_j3, ?_⟩
    refine s_X9_isWeek a2 I (fun r5 => ?_)
    intro ub4
    have uc5 := bool_t ub4
    refine ⟨?_, ?_⟩
    · intro uq6
      have ul7 := lit_0
      have uc8 := eq_t uq6
      exact hP (-2 : Int32) σ I
    · intro uq9
      have ul10 := lit_0
      have uc11 := ne_t uq9
      refine ⟨?_, ?_⟩
      · intro uq12
        have ul13 := lit_m1
        have uc14 := le_t uq12
        refine s_X9_fillGains pc j3 a2 hT_j3 I (fun σ6 uI15 => ?_)
        refine ⟨70000, ?_⟩
        exact s_X9_rest_43 a3 j3 hT_j3 uI15 hP 70000 (0 : Int32) (0 : Int32) (by omega) (by omega)
      · intro uq16
        have ul17 := lit_m1
        have uc18 := nle_t uq16
        exact hP (-2 : Int32) σ I
set_option maxHeartbeats 4000000 in
theorem s_X9_gain {A : Nat → Nat → Prop} {F : Nat → Nat → Int32} {w : Nat} (pc : okC A) (a1 : Int32) (a2 : Int32) (a3 : Int32) (a4 : Int32) {σ : zSto} (I : zInv A F w σ) {P : Int32 → zSto → Prop} (hP : ∀ (r : Int32) (σ2 : zSto), zInv A F w σ2 → P r σ2) : w_X9_gain a1 a2 a3 a4 σ P := by
  unfold w_X9_gain
  refine s_X8_lineAt a1 I (fun q2 uo1 => ?_)
  refine ⟨?_, ?_⟩
  · intro uq2
    exact hP (-1000000 : Int32) σ I
  · intro j3 uq3
    have hN_j3 := (uo1 j3 uq3).1
    have hT_j3 := isN_T hN_j3
    have hG_j3 := (uo1 j3 uq3).2
    refine ⟨isT_L hT_j3, ?_⟩
    refine s_X9_isWeek a2 I (fun r5 => ?_)
    intro ub4
    have uc5 := bool_t ub4
    refine ⟨?_, ?_⟩
    · intro uq6
      have ul7 := lit_0
      have uc8 := eq_t uq6
      exact hP (-1000000 : Int32) σ I
    · intro uq9
      have ul10 := lit_0
      have uc11 := ne_t uq9
      refine s_X0_hasRider j3 a4 hT_j3 I (fun r7 uz12 => ?_)
      intro ub13
      have uc14 := bool_t ub13
      refine ⟨?_, ?_⟩
      · intro uq15
        have uc16 := uz12 uq15
        have uc17 := ne_t uq15
        refine ⟨?_, ?_⟩
        · intro uq18
          have uc19 := lt_t uq18
          exact hP (-1000000 : Int32) σ I
        · intro uq20
          have uc21 := nlt_t uq20
          refine s_X0_riderSets j3 hT_j3 I (fun r9 hr9 => ?_)
          refine ⟨?_, ?_⟩
          · intro uq22
            have uc23 := lt_t uq22
            refine s_X5_byLaw (A := Ax A BN) (F := σ.1) (okC_N pc) j3 (0 : Int32) (0 : Int32) a2 a3 hT_j3 (inv_x I) (fun σ10 uI24x => ?_)
            have uI24 := inv_y I uI24x
            have uf25 : ti (σ10.1 j3 12) = ti (σ.1 j3 12) := congrArg ti (inv_e uI24x (show BN j3 12 from isN_lt hN_j3))
            have ud26 : 0 ≤ ti ((σ.1 j3 12)) ∧ ti ((σ.1 j3 12)) ≤ 6 := rdr I (isT_0 hT_j3) rfl rfl
            refine s_X5_gainOf j3 a4 hT_j3 (by omega) uI24 (by omega) (fun r12 => ?_)
            exact hP r12 σ10 uI24
          · intro uq27
            have uc28 := nlt_t uq27
            exact hP (-1000000 : Int32) σ I
      · intro uq29
        have uc30 := eq_t uq29
        exact hP (-1000000 : Int32) σ I
set_option maxHeartbeats 4000000 in
theorem s_X9_isCalm {A : Nat → Nat → Prop} {F : Nat → Nat → Int32} {w : Nat} (pc : okC A) (b1 : Nat) (a2 : Int32) (a3 : Int32) (a4 : Int32) (hT_b1 : isT b1) {σ : zSto} (I : zInv A F w σ) {P : Int32 → zSto → Prop} (hP : ∀ (r : Int32) (σ2 : zSto), zInv A F w σ2 → P r σ2) : w_X9_isCalm b1 a2 a3 a4 σ P := by
  unfold w_X9_isCalm
  refine s_X5_byLaw pc b1 (0 : Int32) (0 : Int32) a2 (a4 ^^^ (-1 : Int32)) hT_b1 I (fun σ1 uI1 => ?_)
  refine ⟨?_, ?_⟩
  · intro uq2
    have ul3 := lit_m1
    refine ⟨?_, ?_⟩
    · intro uq4
      have uc5 := lt_t uq4
      exact hP (0 : Int32) σ1 uI1
    · intro uq6
      have uc7 := nlt_t uq6
      exact hP (1 : Int32) σ1 uI1
  · intro uq8
    have ul9 := lit_m1
    have uc10 := eq_t uq8
    refine ⟨?_, ?_⟩
    · intro uq11
      exact hP (0 : Int32) σ1 uI1
    · intro uq12
      have uc13 := eq_t uq12
      exact hP (1 : Int32) σ1 uI1
set_option maxHeartbeats 4000000 in
theorem s_X9_calm_51 {A : Nat → Nat → Prop} {F : Nat → Nat → Int32} {w : Nat} (pc : okC A) (x_2 : Int32) (x_3 : Int32) (q_4 : Nat) (hT_q_4 : isT q_4) {P : Int32 → zSto → Prop} (hP : ∀ (r : Int32) (σ2 : zSto), zInv A F w σ2 → P r σ2) : ∀ (n : Nat) (x_5 : Int32) (x_6 : Int32) (x_7 : Int32) (σ : zSto), zInv A F w σ → (0 ≤ ti (x_7) ∧ ti (x_7) ≤ 64) → (64 - (ti (x_7)) < n) → w_X9_calm_51 x_2 x_3 q_4 P n x_5 x_6 x_7 σ := by
  intro n
  induction n with
  | zero =>
    intro x_5 x_6 x_7 σ I h_x_7 hm
    exfalso
    omega
  | succ n ih =>
    intro x_5 x_6 x_7 σ I h_x_7 hm
    unfold w_X9_calm_51
    refine s_X0_riderSets q_4 hT_q_4 I (fun r8 hr8 => ?_)
    refine ⟨?_, ?_⟩
    · intro uq1
      have uc2 := le_t uq1
      exact hP x_6 σ I
    · intro uq3
      have uc4 := nle_t uq3
      refine s_J6_bitCount_0f7a4 x_7 I (fun r10 => ?_)
      refine ⟨?_, ?_⟩
      · intro uq5
        have uc6 := le_t uq5
        intro x11 ex11
        have ul7 := lit_1
        have ut8 := tadd (x := x_7) (y := (1 : Int32)) (by omega)
        have ut9 := eq_t ex11
        exact ih x_5 x_6 x11 σ I (by omega) (by omega)
      · intro uq10
        have uc11 := nle_t uq10
        refine s_X9_isCalm pc q_4 x_2 x_3 x_7 hT_q_4 I (fun r13 σ12 uI12 => ?_)
        intro ub13
        have uc14 := bool_t ub13
        refine ⟨?_, ?_⟩
        · intro uq15
          have ul16 := lit_0
          have uc17 := eq_t uq15
          intro x14 ex14
          have ul18 := lit_1
          have ut19 := tadd (x := x_7) (y := (1 : Int32)) (by omega)
          have ut20 := eq_t ex14
          exact ih x_5 x_6 x14 σ12 uI12 (by omega) (by omega)
        · intro uq21
          have ul22 := lit_0
          have uc23 := ne_t uq21
          refine s_J6_bitCount_0f7a4 x_7 uI12 (fun r16 => ?_)
          intro x17 ex17
          have ul24 := lit_1
          have ut25 := tadd (x := x_7) (y := (1 : Int32)) (by omega)
          have ut26 := eq_t ex17
          exact ih r16 x_7 x17 σ12 uI12 (by omega) (by omega)
set_option maxHeartbeats 4000000 in
theorem s_X9_calm {A : Nat → Nat → Prop} {F : Nat → Nat → Int32} {w : Nat} (pc : okC A) (a1 : Int32) (a2 : Int32) (a3 : Int32) {σ : zSto} (I : zInv A F w σ) {P : Int32 → zSto → Prop} (hP : ∀ (r : Int32) (σ2 : zSto), zInv A F w σ2 → P r σ2) : w_X9_calm a1 a2 a3 σ P := by
  unfold w_X9_calm
  refine s_X8_lineAt a1 I (fun q2 uo1 => ?_)
  refine ⟨?_, ?_⟩
  · intro uq2
    exact hP (-1 : Int32) σ I
  · intro j3 uq3
    have hN_j3 := (uo1 j3 uq3).1
    have hT_j3 := isN_T hN_j3
    have hG_j3 := (uo1 j3 uq3).2
    refine ⟨isT_L hT_j3, ?_⟩
    refine s_X9_isWeek a2 I (fun r5 => ?_)
    intro ub4
    have uc5 := bool_t ub4
    refine ⟨?_, ?_⟩
    · intro uq6
      have ul7 := lit_0
      have uc8 := eq_t uq6
      exact hP (-1 : Int32) σ I
    · intro uq9
      have ul10 := lit_0
      have uc11 := ne_t uq9
      refine ⟨?_, ?_⟩
      · intro uq12
        have ul13 := lit_m1
        have uc14 := lt_t uq12
        exact hP (-1 : Int32) σ I
      · intro uq15
        have ul16 := lit_m1
        have uc17 := nlt_t uq15
        refine ⟨?_, ?_⟩
        · intro uq18
          have ul19 := lit_999
          have uc20 := le_t uq18
          intro x6 ex6
          refine ⟨70000, ?_⟩
          exact s_X9_calm_51 pc a2 a3 j3 hT_j3 hP 70000 x6 (-1 : Int32) (0 : Int32) σ I (by omega) (by omega)
        · intro uq21
          have ul22 := lit_999
          have uc23 := nle_t uq21
          exact hP (-1 : Int32) σ I
set_option maxHeartbeats 4000000 in
theorem s_X9_sparePost_23 {A : Nat → Nat → Prop} {F : Nat → Nat → Int32} {w : Nat} (pc : okC A) (q_1 : Nat) (x_2 : Int32) (x_3 : Int32) (x_4 : Int32) (hT_q_1 : isT q_1) {P : Int32 → zSto → Prop} (hP : ∀ (r : Int32) (σ2 : zSto), zInv A F w σ2 → P r σ2) : ∀ (n : Nat) (x_5 : Int32) (x_6 : Int32) (x_7 : Int32) (σ : zSto), zInv A F w σ → (0 ≤ ti (x_7) ∧ ti (x_7) ≤ 16) → (16 - (ti (x_7)) < n) → w_X9_sparePost_23 q_1 x_2 x_3 x_4 P n x_5 x_6 x_7 σ := by
  intro n
  induction n with
  | zero =>
    intro x_5 x_6 x_7 σ I h_x_7 hm
    exfalso
    omega
  | succ n ih =>
    intro x_5 x_6 x_7 σ I h_x_7 hm
    unfold w_X9_sparePost_23
    refine ⟨?_, ?_⟩
    · intro uq1
      have ud2 : 0 ≤ ti ((σ.1 q_1 11)) ∧ ti ((σ.1 q_1 11)) ≤ 16 := rdr I (isT_0 hT_q_1) rfl rfl
      have uc3 := le_t uq1
      exact hP x_5 σ I
    · intro uq4
      have ud5 : 0 ≤ ti ((σ.1 q_1 11)) ∧ ti ((σ.1 q_1 11)) ≤ 16 := rdr I (isT_0 hT_q_1) rfl rfl
      have uc6 := nle_t uq4
      refine ⟨vin (by omega), ?_⟩
      intro σ4 eσ4
      have uI7 : zInv A F w σ4 := by rw [eσ4]; exact wI0 I (pC pc (by decide)) rk_213 kd_213
      refine s_X5_byLaw pc 210 x_2 x_3 x_4 (-1 : Int32) (by unfold isT; omega) uI7 (fun σ5 uI8 => ?_)
      refine ⟨vin (by omega), ?_⟩
      refine ⟨vin (by omega), ?_⟩
      intro σ8 eσ8
      have uI9 : zInv A F w σ8 := by rw [eσ8]; exact wI0 uI8 (pC pc (by decide)) rk_213 kd_213
      refine ⟨?_, ?_⟩
      · intro uq10
        have ue11 : ti ((σ8.1 190 8)) = ti ((σ5.1 190 8)) := by rw [eσ8]; exact congrArg ti (zI_q (Or.inl (by omega)))
        have uc12 := le_t uq10
        intro x9 ex9
        have ul13 := lit_1
        have ut14 := tadd (x := x_7) (y := (1 : Int32)) (by omega)
        have ut15 := eq_t ex9
        exact ih x_5 x_6 x9 σ8 uI9 (by omega) (by omega)
      · intro uq16
        have ue17 : ti ((σ8.1 190 8)) = ti ((σ5.1 190 8)) := by rw [eσ8]; exact congrArg ti (zI_q (Or.inl (by omega)))
        have uc18 := nle_t uq16
        intro x10 ex10
        intro x11 ex11
        have ul19 := lit_1
        have ut20 := tadd (x := x_7) (y := (1 : Int32)) (by omega)
        have ut21 := eq_t ex11
        exact ih x_7 x10 x11 σ8 uI9 (by omega) (by omega)
set_option maxHeartbeats 4000000 in
theorem s_X9_sparePost {A : Nat → Nat → Prop} {F : Nat → Nat → Int32} {w : Nat} (pc : okC A) (b1 : Nat) (a2 : Int32) (a3 : Int32) (a4 : Int32) (hN_b1 : isN b1) {σ : zSto} (I : zInv A F w σ) {P : Int32 → zSto → Prop} (hP : ∀ (r : Int32) (σ2 : zSto), zInv A F w σ2 → P r σ2) : w_X9_sparePost b1 a2 a3 a4 σ P := by
  unfold w_X9_sparePost
  have hT_b1 := isN_T hN_b1
  intro x1 ex1
  refine s_copyTrial pc b1 hN_b1 I (fun σ2 uI1 => ?_)
  refine ⟨70000, ?_⟩
  have ul2 := lit_0
  have ul3 := lit_m1
  exact s_X9_sparePost_23 pc b1 a2 a3 a4 hT_b1 hP 70000 (-1 : Int32) x1 (0 : Int32) σ2 uI1 (by omega) (by omega)
set_option maxHeartbeats 4000000 in
theorem s_X9_rich {A : Nat → Nat → Prop} {F : Nat → Nat → Int32} {w : Nat} (pc : okC A) (a1 : Int32) (a2 : Int32) (a3 : Int32) (a4 : Int32) (a5 : Int32) {σ : zSto} (I : zInv A F w σ) {P : Int32 → zSto → Prop} (hP : ∀ (r : Int32) (σ2 : zSto), zInv A F w σ2 → P r σ2) : w_X9_rich a1 a2 a3 a4 a5 σ P := by
  unfold w_X9_rich
  refine s_X9_ridden pc a1 a2 a3 a4 I (fun q2 σ1 uI1 uo2 => ?_)
  refine ⟨?_, ?_⟩
  · intro uq3
    exact hP (-1 : Int32) σ1 uI1
  · intro j3 uq4
    have hN_j3 := (uo2 j3 uq4).1
    have hT_j3 := isN_T hN_j3
    have hG_j3 := (uo2 j3 uq4).2
    refine ⟨isT_L hT_j3, ?_⟩
    refine ⟨?_, ?_⟩
    · intro uq5
      have ul6 := lit_0
      have uc7 := eq_t uq5
      refine s_X5_richest j3 hT_j3 uI1 (fun r5 => ?_)
      exact hP r5 σ1 uI1
    · intro uq8
      have ul9 := lit_0
      refine s_X9_sparePost pc j3 a2 a3 a4 hN_j3 uI1 (fun r7 σ6 uI10 => ?_)
      exact hP r7 σ6 uI10
set_option maxHeartbeats 4000000 in
theorem s_X9_fillGainsByLaw_3 {A : Nat → Nat → Prop} {F : Nat → Nat → Int32} {w : Nat} (pc : okC A) (q_1 : Nat) (x_2 : Int32) (x_3 : Int32) (hT_q_1 : isT q_1) {P : zSto → Prop} (hP : ∀ (σ2 : zSto), zInv A F w σ2 → P σ2) : ∀ (n : Nat) (x_4 : Int32) (σ : zSto), zInv A F w σ → (0 ≤ ti (x_4) ∧ ti (x_4) ≤ 4) → (4 - (ti (x_4)) < n) → w_X9_fillGainsByLaw_3 q_1 x_2 x_3 P n x_4 σ := by
  intro n
  induction n with
  | zero =>
    intro x_4 σ I h_x_4 hm
    exfalso
    omega
  | succ n ih =>
    intro x_4 σ I h_x_4 hm
    unfold w_X9_fillGainsByLaw_3
    refine ⟨?_, ?_⟩
    · intro uq1
      have ul2 := lit_4
      have uc3 := le_t uq1
      exact hP σ I
    · intro uq4
      have ul5 := lit_4
      have uc6 := nle_t uq4
      refine s_X5_byLaw pc q_1 x_4 x_2 x_3 (-1 : Int32) hT_q_1 I (fun σ1 uI7 => ?_)
      refine s_X9_keepGains pc q_1 x_4 hT_q_1 (by omega) uI7 (fun σ2 uI8 => ?_)
      intro x3 ex3
      have ul9 := lit_1
      have ut10 := tadd (x := x_4) (y := (1 : Int32)) (by omega)
      have ut11 := eq_t ex3
      exact ih x3 σ2 uI8 (by omega) (by omega)
set_option maxHeartbeats 4000000 in
theorem s_X9_fillGainsByLaw {A : Nat → Nat → Prop} {F : Nat → Nat → Int32} {w : Nat} (pc : okC A) (b1 : Nat) (a2 : Int32) (a3 : Int32) (hT_b1 : isT b1) {σ : zSto} (I : zInv A F w σ) {P : zSto → Prop} (hP : ∀ (σ2 : zSto), zInv A F w σ2 → P σ2) : w_X9_fillGainsByLaw b1 a2 a3 σ P := by
  unfold w_X9_fillGainsByLaw
  refine ⟨70000, ?_⟩
  have ul1 := lit_0
  exact s_X9_fillGainsByLaw_3 pc b1 a2 a3 hT_b1 hP 70000 (0 : Int32) σ I (by omega) (by omega)
set_option maxHeartbeats 4000000 in
theorem s_X9_lawOf_4 {A : Nat → Nat → Prop} {F : Nat → Nat → Int32} {w : Nat} (x_1 : Int32) (h_x_1 : 0 ≤ ti (x_1) ∧ ti (x_1) ≤ 5) {σ : zSto} (I : zInv A F w σ) {P : Int32 → zSto → Prop} (hP : ∀ (r : Int32), P r σ) : ∀ (n : Nat) (x_2 : Int32) (x_3 : Int32), (0 ≤ ti (x_2) ∧ ti (x_2) ≤ 3) → (1 ≤ ti (x_3) ∧ ti (x_3) ≤ 4) → (4 - (ti (x_3)) < n) → w_X9_lawOf_4 x_1 P n x_2 x_3 σ := by
  intro n
  induction n with
  | zero =>
    intro x_2 x_3 h_x_2 h_x_3 hm
    exfalso
    omega
  | succ n ih =>
    intro x_2 x_3 h_x_2 h_x_3 hm
    unfold w_X9_lawOf_4
    refine ⟨?_, ?_⟩
    · intro uq1
      have ul2 := lit_4
      have uc3 := le_t uq1
      exact hP x_2
    · intro uq4
      have ul5 := lit_4
      have uc6 := nle_t uq4
      have ul7 := lit_6
      have ut8 := tmulr (x := x_3) (y := (6 : Int32)) (6) lit_6 (by omega)
      have ut9 := tadd (x := (x_3 * (6 : Int32))) (y := x_1) (by omega)
      refine ⟨vin (by omega), ?_⟩
      have ut10 := tmulr (x := x_2) (y := (6 : Int32)) (6) lit_6 (by omega)
      have ut11 := tadd (x := (x_2 * (6 : Int32))) (y := x_1) (by omega)
      refine ⟨vin (by omega), ?_⟩
      refine ⟨?_, ?_⟩
      · intro uq12
        have uc13 := le_t uq12
        intro x3 ex3
        have ul14 := lit_1
        have ut15 := tadd (x := x_3) (y := (1 : Int32)) (by omega)
        have ut16 := eq_t ex3
        exact ih x_2 x3 (by omega) (by omega) (by omega)
      · intro uq17
        have uc18 := nle_t uq17
        intro x4 ex4
        have ul19 := lit_1
        have ut20 := tadd (x := x_3) (y := (1 : Int32)) (by omega)
        have ut21 := eq_t ex4
        exact ih x_3 x4 (by omega) (by omega) (by omega)
set_option maxHeartbeats 4000000 in
theorem s_X9_lawOf {A : Nat → Nat → Prop} {F : Nat → Nat → Int32} {w : Nat} (a1 : Int32) (h_a1 : 0 ≤ ti (a1) ∧ ti (a1) ≤ 5) {σ : zSto} (I : zInv A F w σ) {P : Int32 → zSto → Prop} (hP : ∀ (r : Int32), P r σ) : w_X9_lawOf a1 σ P := by
  unfold w_X9_lawOf
  refine ⟨70000, ?_⟩
  have ul1 := lit_0
  have ul2 := lit_1
  exact s_X9_lawOf_4 a1 (by omega) I hP 70000 (0 : Int32) (1 : Int32) (by omega) (by omega) (by omega)
set_option maxHeartbeats 4000000 in
theorem s_X9_votesFor_5 {A : Nat → Nat → Prop} {F : Nat → Nat → Int32} {w : Nat} (q_1 : Nat) (x_2 : Int32) (hT_q_1 : isT q_1) {σ : zSto} (I : zInv A F w σ) {P : Int32 → zSto → Prop} (hP : ∀ (r : Int32), P r σ) : ∀ (n : Nat) (x_3 : Int32) (x_4 : Int32), (0 ≤ ti (x_4) ∧ ti (x_4) ≤ 6) → (6 - (ti (x_4)) < n) → w_X9_votesFor_5 q_1 x_2 P n x_3 x_4 σ := by
  intro n
  induction n with
  | zero =>
    intro x_3 x_4 h_x_4 hm
    exfalso
    omega
  | succ n ih =>
    intro x_3 x_4 h_x_4 hm
    unfold w_X9_votesFor_5
    refine ⟨?_, ?_⟩
    · intro uq1
      have ud2 : 0 ≤ ti ((σ.1 q_1 12)) ∧ ti ((σ.1 q_1 12)) ≤ 6 := rdr I (isT_0 hT_q_1) rfl rfl
      have uc3 := le_t uq1
      exact hP x_3
    · intro uq4
      have ud5 : 0 ≤ ti ((σ.1 q_1 12)) ∧ ti ((σ.1 q_1 12)) ≤ 6 := rdr I (isT_0 hT_q_1) rfl rfl
      have uc6 := nle_t uq4
      refine s_X9_lawOf x_4 (by omega) I (fun r2 => ?_)
      refine ⟨?_, ?_⟩
      · intro uq7
        intro x3 ex3
        intro x4 ex4
        have ul8 := lit_1
        have ut9 := tadd (x := x_4) (y := (1 : Int32)) (by omega)
        have ut10 := eq_t ex4
        exact ih x3 x4 (by omega) (by omega)
      · intro uq11
        have uc12 := eq_t uq11
        intro x5 ex5
        intro x6 ex6
        have ul13 := lit_1
        have ut14 := tadd (x := x_4) (y := (1 : Int32)) (by omega)
        have ut15 := eq_t ex6
        exact ih x5 x6 (by omega) (by omega)
set_option maxHeartbeats 4000000 in
theorem s_X9_votesFor {A : Nat → Nat → Prop} {F : Nat → Nat → Int32} {w : Nat} (b1 : Nat) (a2 : Int32) (hT_b1 : isT b1) {σ : zSto} (I : zInv A F w σ) {P : Int32 → zSto → Prop} (hP : ∀ (r : Int32), P r σ) : w_X9_votesFor b1 a2 σ P := by
  unfold w_X9_votesFor
  refine ⟨70000, ?_⟩
  have ul1 := lit_0
  exact s_X9_votesFor_5 b1 a2 hT_b1 I hP 70000 (0 : Int32) (0 : Int32) (by omega) (by omega)
set_option maxHeartbeats 4000000 in
theorem s_X9_vote_49 {A : Nat → Nat → Prop} {F : Nat → Nat → Int32} {w : Nat} (x_4 : Int32) (q_5 : Nat) (hT_q_5 : isT q_5) {σ : zSto} (I : zInv A F w σ) {P : Int32 → zSto → Prop} (hP : ∀ (r : Int32) (σ2 : zSto), zInv A F w σ2 → P r σ2) : ∀ (n : Nat) (x_6 : Int32) (x_7 : Int32) (x_8 : Int32), (0 ≤ ti (x_8) ∧ ti (x_8) ≤ 4) → (4 - (ti (x_8)) < n) → w_X9_vote_49 x_4 q_5 P n x_6 x_7 x_8 σ := by
  intro n
  induction n with
  | zero =>
    intro x_6 x_7 x_8 h_x_8 hm
    exfalso
    omega
  | succ n ih =>
    intro x_6 x_7 x_8 h_x_8 hm
    unfold w_X9_vote_49
    refine ⟨?_, ?_⟩
    · intro uq1
      have ul2 := lit_4
      have uc3 := le_t uq1
      refine ⟨?_, ?_⟩
      · intro uq4
        have ul5 := lit_0
        have uc6 := eq_t uq4
        exact hP x_6 σ I
      · intro uq7
        have ul8 := lit_0
        exact hP x_7 σ I
    · intro uq9
      have ul10 := lit_4
      have uc11 := nle_t uq9
      refine s_X9_votesFor q_5 x_8 hT_q_5 I (fun r8 => ?_)
      refine ⟨?_, ?_⟩
      · intro uq12
        have uc13 := le_t uq12
        intro x9 ex9
        have ul14 := lit_1
        have ut15 := tadd (x := x_8) (y := (1 : Int32)) (by omega)
        have ut16 := eq_t ex9
        exact ih x_6 x_7 x9 (by omega) (by omega)
      · intro uq17
        have uc18 := nle_t uq17
        intro x10 ex10
        have ul19 := lit_1
        have ut20 := tadd (x := x_8) (y := (1 : Int32)) (by omega)
        have ut21 := eq_t ex10
        exact ih x_8 r8 x10 (by omega) (by omega)
set_option maxHeartbeats 4000000 in
theorem s_X9_vote {A : Nat → Nat → Prop} {F : Nat → Nat → Int32} {w : Nat} (pc : okC A) (a1 : Int32) (a2 : Int32) (a3 : Int32) (a4 : Int32) {σ : zSto} (I : zInv A F w σ) {P : Int32 → zSto → Prop} (hP : ∀ (r : Int32) (σ2 : zSto), zInv A F w σ2 → P r σ2) : w_X9_vote a1 a2 a3 a4 σ P := by
  unfold w_X9_vote
  refine s_X8_lineAt a1 I (fun q2 uo1 => ?_)
  refine ⟨?_, ?_⟩
  · intro uq2
    exact hP (-1 : Int32) σ I
  · intro j3 uq3
    have hN_j3 := (uo1 j3 uq3).1
    have hT_j3 := isN_T hN_j3
    have hG_j3 := (uo1 j3 uq3).2
    refine ⟨isT_L hT_j3, ?_⟩
    refine ⟨?_, ?_⟩
    · intro uq4
      have ud5 : 0 ≤ ti ((σ.1 j3 12)) ∧ ti ((σ.1 j3 12)) ≤ 6 := rdr I (isT_0 hT_j3) rfl rfl
      have ul6 := lit_0
      have uc7 := eq_t uq4
      exact hP (-1 : Int32) σ I
    · intro uq8
      have ud9 : 0 ≤ ti ((σ.1 j3 12)) ∧ ti ((σ.1 j3 12)) ≤ 6 := rdr I (isT_0 hT_j3) rfl rfl
      have ul10 := lit_0
      have uc11 := ne_t uq8
      refine s_X9_isWeek a3 I (fun r5 => ?_)
      intro ub12
      have uc13 := bool_t ub12
      refine ⟨?_, ?_⟩
      · intro uq14
        have uc15 := ne_t uq14
        refine s_X9_fillGainsByLaw pc j3 a2 a3 hT_j3 I (fun σ6 uI16 => ?_)
        refine ⟨70000, ?_⟩
        have ul17 := lit_m1
        exact s_X9_vote_49 a4 j3 hT_j3 uI16 hP 70000 (0 : Int32) (-1 : Int32) (0 : Int32) (by omega) (by omega)
      · intro uq18
        have uc19 := eq_t uq18
        exact hP (-1 : Int32) σ I
set_option maxHeartbeats 4000000 in
theorem s_X9_bid {A : Nat → Nat → Prop} {F : Nat → Nat → Int32} {w : Nat} (pc : okC A) (a1 : Int32) (a2 : Int32) (a3 : Int32) (a4 : Int32) {σ : zSto} (I : zInv A F w σ) {P : Int32 → zSto → Prop} (hP : ∀ (r : Int32) (σ2 : zSto), zInv A F w σ2 → P r σ2) : w_X9_bid a1 a2 a3 a4 σ P := by
  unfold w_X9_bid
  refine s_X8_lineAt a1 I (fun q2 uo1 => ?_)
  refine ⟨?_, ?_⟩
  · intro uq2
    exact hP (-1 : Int32) σ I
  · intro j3 uq3
    have hN_j3 := (uo1 j3 uq3).1
    have hT_j3 := isN_T hN_j3
    have hG_j3 := (uo1 j3 uq3).2
    refine ⟨isT_L hT_j3, ?_⟩
    refine s_X9_isWeek a2 I (fun r5 => ?_)
    intro ub4
    have uc5 := bool_t ub4
    refine ⟨?_, ?_⟩
    · intro uq6
      have ul7 := lit_0
      have uc8 := eq_t uq6
      exact hP (-1 : Int32) σ I
    · intro uq9
      have ul10 := lit_0
      have uc11 := ne_t uq9
      refine s_X0_hasRider j3 a3 hT_j3 I (fun r7 uz12 => ?_)
      intro ub13
      have uc14 := bool_t ub13
      refine ⟨?_, ?_⟩
      · intro uq15
        have uc16 := uz12 uq15
        have uc17 := ne_t uq15
        refine s_copyTrial pc j3 hN_j3 I (fun σ8 uI18 => ?_)
        refine ⟨?_, ?_⟩
        · intro uq19
          have uc20 := eq_t uq19
          have ul22 := lit_3
          have ul23 := lit_9
          refine s_X9_bestChoice pc a2 a3 (3 : Int32) 221 (0 : Int32) (9 : Int32) (by omega) (by omega) (by omega) (by omega) uI18 (fun r10 σ9 uI21 => ?_)
          exact hP r10 σ9 uI21
        · refine ⟨?_, ?_⟩
          · intro uq24
            have ul25 := lit_1
            have uc26 := eq_t uq24
            have ul28 := lit_60
            refine s_X9_bestChoice pc a2 a3 (0 : Int32) 218 (1 : Int32) (60 : Int32) (by omega) (by omega) (by omega) (by omega) uI18 (fun r12 σ11 uI27 => ?_)
            exact hP r12 σ11 uI27
          · refine ⟨?_, ?_⟩
            · intro uq29
              have ul30 := lit_2
              have uc31 := eq_t uq29
              have ul33 := lit_200
              refine s_X9_bestChoice pc a2 a3 (0 : Int32) 220 (0 : Int32) (200 : Int32) (by omega) (by omega) (by omega) (by omega) uI18 (fun r14 σ13 uI32 => ?_)
              exact hP r14 σ13 uI32
            · intro uq34
              rw [← ti_eq] at uq34
              exact hP (-1 : Int32) σ8 uI18
      · intro uq35
        have uc36 := eq_t uq35
        exact hP (-1 : Int32) σ I
set_option maxHeartbeats 4000000 in
theorem s_X9_purse {A : Nat → Nat → Prop} {F : Nat → Nat → Int32} {w : Nat} (pc : okC A) (a1 : Int32) (a2 : Int32) (a3 : Int32) (a4 : Int32) {σ : zSto} (I : zInv A F w σ) {P : Int32 → zSto → Prop} (hP : ∀ (r : Int32) (σ2 : zSto), zInv A F w σ2 → P r σ2) : w_X9_purse a1 a2 a3 a4 σ P := by
  unfold w_X9_purse
  refine s_X8_lineAt a1 I (fun q2 uo1 => ?_)
  refine ⟨?_, ?_⟩
  · intro uq2
    exact hP (-1 : Int32) σ I
  · intro j3 uq3
    have hN_j3 := (uo1 j3 uq3).1
    have hT_j3 := isN_T hN_j3
    have hG_j3 := (uo1 j3 uq3).2
    refine ⟨isT_L hT_j3, ?_⟩
    refine s_X9_isWeek a2 I (fun r5 => ?_)
    intro ub4
    have uc5 := bool_t ub4
    refine ⟨?_, ?_⟩
    · intro uq6
      have ul7 := lit_0
      have uc8 := eq_t uq6
      exact hP (-1 : Int32) σ I
    · intro uq9
      have ul10 := lit_0
      have uc11 := ne_t uq9
      refine ⟨?_, ?_⟩
      · intro uq12
        have uc13 := lt_t uq12
        exact hP (-1 : Int32) σ I
      · intro uq14
        have uc15 := nlt_t uq14
        refine ⟨?_, ?_⟩
        · intro uq16
          have ul17 := lit_999
          have uc18 := le_t uq16
          refine ⟨?_, ?_⟩
          · intro uq19
            have uc20 := lt_t uq19
            exact hP (-1 : Int32) σ I
          · intro uq21
            have uc22 := nlt_t uq21
            refine ⟨?_, ?_⟩
            · intro uq23
              have ul24 := lit_2
              have uc25 := le_t uq23
              refine s_X3_fill pc j3 a2 a3 hT_j3 (by omega) I (fun σ6 uI26 => ?_)
              refine s_X3_bestCosts a3 (by omega) uI26 (fun r8 hr8 => ?_)
              refine ⟨?_, ?_⟩
              · intro uq27
                have uc28 := ne_t uq27
                refine ⟨?_, ?_⟩
                · intro uq29
                  have ul30 := lit_1
                  have uc31 := ne_t uq29
                  exact hP r8 σ6 uI26
                · intro uq32
                  have ul33 := lit_1
                  have uc34 := eq_t uq32
                  refine ⟨vin (by omega), ?_⟩
                  exact hP (σ6.1 209 ((r8).toNatClampNeg)) σ6 uI26
              · intro uq35
                have uc36 := eq_t uq35
                refine ⟨vin (by omega), ?_⟩
                exact hP (σ6.1 208 ((r8).toNatClampNeg)) σ6 uI26
            · intro uq37
              have ul38 := lit_2
              have uc39 := nle_t uq37
              exact hP (-1 : Int32) σ I
        · intro uq40
          have ul41 := lit_999
          have uc42 := nle_t uq40
          exact hP (-1 : Int32) σ I
set_option maxHeartbeats 4000000 in
theorem s_X9_shells_45 {A : Nat → Nat → Prop} {F : Nat → Nat → Int32} {w : Nat} (pc : okC A) (x_2 : Int32) (x_3 : Int32) (x_4 : Int32) (x_5 : Int32) (q_6 : Nat) (hT_q_6 : isT q_6) {P : Int32 → zSto → Prop} (hP : ∀ (r : Int32) (σ2 : zSto), zInv A F w σ2 → P r σ2) : ∀ (n : Nat) (x_7 : Int32) (σ : zSto), zInv A F w σ → (0 ≤ ti (x_7) ∧ ti (x_7) ≤ 16) → (16 - (ti (x_7)) < n) → w_X9_shells_45 x_2 x_3 x_4 x_5 q_6 P n x_7 σ := by
  intro n
  induction n with
  | zero =>
    intro x_7 σ I h_x_7 hm
    exfalso
    omega
  | succ n ih =>
    intro x_7 σ I h_x_7 hm
    unfold w_X9_shells_45
    refine ⟨?_, ?_⟩
    · intro uq1
      have ud2 : 0 ≤ ti ((σ.1 q_6 11)) ∧ ti ((σ.1 q_6 11)) ≤ 16 := rdr I (isT_0 hT_q_6) rfl rfl
      have ul3 := lit_1
      have ut4 := tsub (x := (σ.1 q_6 11)) (y := (1 : Int32)) (by omega)
      have uc5 := le_t uq1
      refine s_X6_find pc x_3 x_4 I (fun σ7 uI6 => ?_)
      refine ⟨?_, ?_⟩
      · intro uq7
        have ul8 := lit_0
        refine ⟨?_, ?_⟩
        · intro uq9
          exact hP (σ7.1 200 9) σ7 uI6
        · intro uq10
          have uc11 := eq_t uq10
          refine s_X6_surePosts uI6 (fun r9 => ?_)
          exact hP r9 σ7 uI6
      · intro uq12
        have ul13 := lit_0
        have uc14 := eq_t uq12
        exact hP (σ7.1 200 7) σ7 uI6
    · intro uq15
      have ud16 : 0 ≤ ti ((σ.1 q_6 11)) ∧ ti ((σ.1 q_6 11)) ≤ 16 := rdr I (isT_0 hT_q_6) rfl rfl
      have ul17 := lit_1
      have ut18 := tsub (x := (σ.1 q_6 11)) (y := (1 : Int32)) (by omega)
      have uc19 := nle_t uq15
      refine s_X0_poundsIn q_6 x_7 x_2 hT_q_6 (by omega) I (fun r11 => ?_)
      refine ⟨?_, ?_⟩
      · intro uq20
        have ul21 := lit_0
        have uc22 := le_t uq20
        intro x12 ex12
        have ut23 := tadd (x := x_7) (y := (1 : Int32)) (by omega)
        have ut24 := eq_t ex12
        exact ih x12 σ I (by omega) (by omega)
      · intro uq25
        have ul26 := lit_0
        have uc27 := nle_t uq25
        refine s_X0_cost q_6 x_7 hT_q_6 (by omega) I (fun r14 hr14 => ?_)
        refine s_X6_add pc x_7 r11 r14 (by omega) I (fun σ15 uI28 => ?_)
        intro x16 ex16
        have ut29 := tadd (x := x_7) (y := (1 : Int32)) (by omega)
        have ut30 := eq_t ex16
        exact ih x16 σ15 uI28 (by omega) (by omega)
set_option maxHeartbeats 4000000 in
theorem s_X9_shells {A : Nat → Nat → Prop} {F : Nat → Nat → Int32} {w : Nat} (pc : okC A) (a1 : Int32) (a2 : Int32) (a3 : Int32) (a4 : Int32) (a5 : Int32) {σ : zSto} (I : zInv A F w σ) {P : Int32 → zSto → Prop} (hP : ∀ (r : Int32) (σ2 : zSto), zInv A F w σ2 → P r σ2) : w_X9_shells a1 a2 a3 a4 a5 σ P := by
  unfold w_X9_shells
  refine s_X8_lineAt a1 I (fun q2 uo1 => ?_)
  refine ⟨?_, ?_⟩
  · intro uq2
    exact hP (-1 : Int32) σ I
  · intro j3 uq3
    have hN_j3 := (uo1 j3 uq3).1
    have hT_j3 := isN_T hN_j3
    have hG_j3 := (uo1 j3 uq3).2
    refine ⟨isT_L hT_j3, ?_⟩
    refine s_X9_isWeek a2 I (fun r5 => ?_)
    intro ub4
    have uc5 := bool_t ub4
    refine ⟨?_, ?_⟩
    · intro uq6
      have ul7 := lit_0
      have uc8 := eq_t uq6
      exact hP (-1 : Int32) σ I
    · intro uq9
      have ul10 := lit_0
      have uc11 := ne_t uq9
      refine ⟨?_, ?_⟩
      · intro uq12
        have uc13 := lt_t uq12
        exact hP (-1 : Int32) σ I
      · intro uq14
        have uc15 := nlt_t uq14
        refine ⟨?_, ?_⟩
        · intro uq16
          have ul17 := lit_2
          have uc18 := le_t uq16
          refine s_X6_clear pc I (fun σ6 uI19 => ?_)
          refine ⟨70000, ?_⟩
          exact s_X9_shells_45 pc a2 a3 a4 a5 j3 hT_j3 hP 70000 (0 : Int32) σ6 uI19 (by omega) (by omega)
        · intro uq20
          have ul21 := lit_2
          have uc22 := nle_t uq20
          exact hP (-1 : Int32) σ I
set_option maxHeartbeats 4000000 in
theorem s_X9_hold {A : Nat → Nat → Prop} {F : Nat → Nat → Int32} {w : Nat} (pc : okC A) (a1 : Int32) (a2 : Int32) (a3 : Int32) {σ : zSto} (I : zInv A F w σ) {P : Int32 → zSto → Prop} (hP : ∀ (r : Int32) (σ2 : zSto), zInv A F w σ2 → P r σ2) : w_X9_hold a1 a2 a3 σ P := by
  unfold w_X9_hold
  refine s_X8_lineAt a1 I (fun q2 uo1 => ?_)
  refine ⟨?_, ?_⟩
  · intro uq2
    refine s_X8_logAt a2 I (fun q5 uo3 => ?_)
    refine ⟨?_, ?_⟩
    · intro uq4
      exact hP (-2 : Int32) σ I
    · intro j6 uq5
      have hP_j6 := uo3 j6 uq5
      refine ⟨isP_P hP_j6, ?_⟩
      exact hP (-2 : Int32) σ I
  · intro j3 uq6
    have hN_j3 := (uo1 j3 uq6).1
    have hT_j3 := isN_T hN_j3
    have hG_j3 := (uo1 j3 uq6).2
    refine ⟨isT_L hT_j3, ?_⟩
    refine s_X8_logAt a2 I (fun q8 uo7 => ?_)
    refine ⟨?_, ?_⟩
    · intro uq8
      exact hP (-2 : Int32) σ I
    · intro j9 uq9
      have hP_j9 := uo7 j9 uq9
      refine ⟨isP_P hP_j9, ?_⟩
      refine ⟨?_, ?_⟩
      · intro uq10
        have ul11 := lit_0
        have uc12 := lt_t uq10
        exact hP (-2 : Int32) σ I
      · intro uq13
        have ul14 := lit_0
        have uc15 := nlt_t uq13
        refine ⟨?_, ?_⟩
        · intro uq16
          have ul17 := lit_3
          have uc18 := le_t uq16
          refine s_X6_findHolding pc j3 j9 hT_j3 hP_j9 I (fun σ10 uI19 => ?_)
          refine ⟨?_, ?_⟩
          · intro uq20
            have uc21 := eq_t uq20
            exact hP (σ10.1 200 7) σ10 uI19
          · refine ⟨?_, ?_⟩
            · intro uq22
              have ul23 := lit_1
              have uc24 := eq_t uq22
              refine s_X6_surePosts uI19 (fun r12 => ?_)
              exact hP r12 σ10 uI19
            · refine ⟨?_, ?_⟩
              · intro uq25
                have ul26 := lit_2
                have uc27 := eq_t uq25
                exact hP (σ10.1 200 9) σ10 uI19
              · intro uq28
                rw [← ti_eq] at uq28
                refine ⟨?_, ?_⟩
                · intro uq29
                  exact hP (σ10.1 200 10) σ10 uI19
                · intro uq30
                  have uc31 := eq_t uq30
                  exact hP (-1 : Int32) σ10 uI19
        · intro uq32
          have ul33 := lit_3
          have uc34 := nle_t uq32
          exact hP (-2 : Int32) σ I
set_option maxHeartbeats 4000000 in
theorem s_X9_tenfoldMean_4 {A : Nat → Nat → Prop} {F : Nat → Nat → Int32} {w : Nat} (q_0 : Nat) (hT_q_0 : isT q_0) {σ : zSto} (I : zInv A F w σ) {P : Int64 → zSto → Prop} (hP : ∀ (r : Int64), P r σ) : ∀ (n : Nat) (x_1 : Int64) (x_3 : Int32), (0 ≤ ti (x_3) ∧ ti (x_3) ≤ 16) → (16 - (ti (x_3)) < n) → w_X9_tenfoldMean_4 q_0 P n x_1 x_3 σ := by
  intro n
  induction n with
  | zero =>
    intro x_1 x_3 h_x_3 hm
    exfalso
    omega
  | succ n ih =>
    intro x_1 x_3 h_x_3 hm
    unfold w_X9_tenfoldMean_4
    refine ⟨?_, ?_⟩
    · intro uq1
      have ud2 : 0 ≤ ti ((σ.1 q_0 11)) ∧ ti ((σ.1 q_0 11)) ≤ 16 := rdr I (isT_0 hT_q_0) rfl rfl
      have ul3 := lit_1
      have ut4 := tsub (x := (σ.1 q_0 11)) (y := (1 : Int32)) (by omega)
      have uc5 := le_t uq1
      exact hP x_1
    · intro uq6
      have ud7 : 0 ≤ ti ((σ.1 q_0 11)) ∧ ti ((σ.1 q_0 11)) ≤ 16 := rdr I (isT_0 hT_q_0) rfl rfl
      have ul8 := lit_1
      have ut9 := tsub (x := (σ.1 q_0 11)) (y := (1 : Int32)) (by omega)
      have uc10 := nle_t uq6
      refine ⟨vin (by omega), ?_⟩
      refine s_X0_cost q_0 x_3 hT_q_0 (by omega) I (fun r3 hr3 => ?_)
      intro x4 ex4
      intro x5 ex5
      have ut11 := tadd (x := x_3) (y := (1 : Int32)) (by omega)
      have ut12 := eq_t ex5
      exact ih x4 x5 (by omega) (by omega)
set_option maxHeartbeats 4000000 in
theorem s_X9_tenfoldMean {A : Nat → Nat → Prop} {F : Nat → Nat → Int32} {w : Nat} (b1 : Nat) (hT_b1 : isT b1) {σ : zSto} (I : zInv A F w σ) {P : Int64 → zSto → Prop} (hP : ∀ (r : Int64), P r σ) : w_X9_tenfoldMean b1 σ P := by
  unfold w_X9_tenfoldMean
  refine ⟨70000, ?_⟩
  have ul1 := lit_0
  exact s_X9_tenfoldMean_4 b1 hT_b1 I hP 70000 (0 : Int64) (0 : Int32) (by omega) (by omega)
set_option maxHeartbeats 4000000 in
theorem s_X9_commonDivisor_9 {A : Nat → Nat → Prop} {F : Nat → Nat → Int32} {w : Nat} {σ : zSto} (I : zInv A F w σ) {P : Int64 → zSto → Prop} (hP : ∀ (r : Int64), P r σ) : ∀ (n : Nat) (x_4 : Int64) (x_6 : Int64) (x_8 : Int32), (0 ≤ ti (x_8) ∧ ti (x_8) ≤ 100) → (100 - (ti (x_8)) < n) → w_X9_commonDivisor_9 P n x_4 x_6 x_8 σ := by
  intro n
  induction n with
  | zero =>
    intro x_4 x_6 x_8 h_x_8 hm
    exfalso
    omega
  | succ n ih =>
    intro x_4 x_6 x_8 h_x_8 hm
    unfold w_X9_commonDivisor_9
    refine ⟨?_, ?_⟩
    · intro uq1
      have ul2 := lit_100
      have uc3 := le_t uq1
      exact hP x_4
    · intro uq4
      have ul5 := lit_100
      have uc6 := nle_t uq4
      refine ⟨?_, ?_⟩
      · intro uq7
        exact hP x_4
      · intro uq8
        refine ⟨lgc_ne uq8, ?_⟩
        intro x2 ex2
        intro x3 ex3
        have ul9 := lit_1
        have ut10 := tadd (x := x_8) (y := (1 : Int32)) (by omega)
        have ut11 := eq_t ex3
        exact ih x_6 x2 x3 (by omega) (by omega)
set_option maxHeartbeats 4000000 in
theorem s_X9_commonDivisor {A : Nat → Nat → Prop} {F : Nat → Nat → Int32} {w : Nat} (a1 : Int64) (a2 : Int64) {σ : zSto} (I : zInv A F w σ) {P : Int64 → zSto → Prop} (hP : ∀ (r : Int64), P r σ) : w_X9_commonDivisor a1 a2 σ P := by
  unfold w_X9_commonDivisor
  refine ⟨70000, ?_⟩
  have ul1 := lit_0
  exact s_X9_commonDivisor_9 I hP 70000 a1 a2 (0 : Int32) (by omega) (by omega)
set_option maxHeartbeats 4000000 in
theorem s_X9_leastTerm {A : Nat → Nat → Prop} {F : Nat → Nat → Int32} {w : Nat} (a1 : Int64) (a2 : Int64) (a3 : Int32) {σ : zSto} (I : zInv A F w σ) {P : Int64 → zSto → Prop} (hP : ∀ (r : Int64), P r σ) : w_X9_leastTerm a1 a2 a3 σ P := by
  unfold w_X9_leastTerm
  refine s_X9_commonDivisor a1 a2 I (fun r2 => ?_)
  refine ⟨?_, ?_⟩
  · intro uq1
    have ul2 := lit_0
    have uc3 := eq_t uq1
    refine ⟨?_, ?_⟩
    · intro uq4
      refine ⟨lgc_ne uq4, ?_⟩
      exact hP (a1 / r2)
    · intro uq5
      exact hP a1
  · intro uq6
    have ul7 := lit_0
    refine ⟨?_, ?_⟩
    · intro uq8
      refine ⟨lgc_ne uq8, ?_⟩
      exact hP (a2 / r2)
    · intro uq9
      exact hP a2
set_option maxHeartbeats 4000000 in
theorem s_X9_chance {A : Nat → Nat → Prop} {F : Nat → Nat → Int32} {w : Nat} (pc : okC A) (a1 : Int32) (a2 : Int32) (a3 : Int32) {σ : zSto} (I : zInv A F w σ) {P : Int64 → zSto → Prop} (hP : ∀ (r : Int64) (σ2 : zSto), zInv A F w σ2 → P r σ2) : w_X9_chance a1 a2 a3 σ P := by
  unfold w_X9_chance
  refine s_X8_lineAt a1 I (fun q2 uo1 => ?_)
  refine ⟨?_, ?_⟩
  · intro uq2
    exact hP (-1 : Int64) σ I
  · intro j3 uq3
    have hN_j3 := (uo1 j3 uq3).1
    have hT_j3 := isN_T hN_j3
    have hG_j3 := (uo1 j3 uq3).2
    refine ⟨isT_L hT_j3, ?_⟩
    refine ⟨?_, ?_⟩
    · intro uq4
      have ul5 := lit_m1
      have uc6 := lt_t uq4
      exact hP (-1 : Int64) σ I
    · intro uq7
      have ul8 := lit_m1
      have uc9 := nlt_t uq7
      refine ⟨?_, ?_⟩
      · intro uq10
        have ul11 := lit_999
        have uc12 := le_t uq10
        refine ⟨?_, ?_⟩
        · intro uq13
          have uc14 := ne_t uq13
          refine s_X7_overPosts pc j3 ((σ.1 j3 11) - (1 : Int32)) hT_j3 I (fun σ4 uI15 => ?_)
          refine s_X7_weightUpTo a2 uI15 (fun r6 => ?_)
          refine s_X9_leastTerm r6 (σ4.2 198 2) a3 uI15 (fun r8 => ?_)
          exact hP r8 σ4 uI15
        · intro uq16
          have uc17 := eq_t uq16
          refine s_X9_tenfoldMean j3 hT_j3 I (fun r10 => ?_)
          refine s_X9_leastTerm r10 (10 : Int64) a3 I (fun r12 => ?_)
          exact hP r12 σ I
      · intro uq18
        have ul19 := lit_999
        have uc20 := nle_t uq18
        exact hP (-1 : Int64) σ I
set_option maxHeartbeats 4000000 in
theorem s_X9_isHundredths {A : Nat → Nat → Prop} {F : Nat → Nat → Int32} {w : Nat} (a1 : Int32) {σ : zSto} (I : zInv A F w σ) {P : Int32 → zSto → Prop} (hP : ∀ (r : Int32), P r σ) : w_X9_isHundredths a1 σ P := by
  unfold w_X9_isHundredths
  refine ⟨?_, ?_⟩
  · intro uq1
    have ul2 := lit_0
    have uc3 := lt_t uq1
    exact hP (0 : Int32)
  · intro uq4
    have ul5 := lit_0
    have uc6 := nlt_t uq4
    refine ⟨?_, ?_⟩
    · intro uq7
      have ul8 := lit_100
      have uc9 := lt_t uq7
      exact hP (0 : Int32)
    · intro uq10
      have ul11 := lit_100
      have uc12 := nlt_t uq10
      exact hP (1 : Int32)
set_option maxHeartbeats 4000000 in
theorem s_X9_slack {A : Nat → Nat → Prop} {F : Nat → Nat → Int32} {w : Nat} (pc : okC A) (a1 : Int32) (a2 : Int32) {σ : zSto} (I : zInv A F w σ) {P : Int32 → zSto → Prop} (hP : ∀ (r : Int32) (σ2 : zSto), zInv A F w σ2 → P r σ2) : w_X9_slack a1 a2 σ P := by
  unfold w_X9_slack
  refine s_X8_lineAt a1 I (fun q2 uo1 => ?_)
  refine ⟨?_, ?_⟩
  · intro uq2
    exact hP (-1 : Int32) σ I
  · intro j3 uq3
    have hN_j3 := (uo1 j3 uq3).1
    have hT_j3 := isN_T hN_j3
    have hG_j3 := (uo1 j3 uq3).2
    refine ⟨isT_L hT_j3, ?_⟩
    refine s_X9_isHundredths a2 I (fun r5 => ?_)
    intro ub4
    have uc5 := bool_t ub4
    refine ⟨?_, ?_⟩
    · intro uq6
      have ul7 := lit_0
      have uc8 := ne_t uq6
      refine s_X7_overPosts pc j3 ((σ.1 j3 11) - (1 : Int32)) hT_j3 I (fun σ6 uI9 => ?_)
      refine s_X7_leastCosts a2 uI9 (fun r8 => ?_)
      exact hP r8 σ6 uI9
    · intro uq10
      have ul11 := lit_0
      have uc12 := eq_t uq10
      exact hP (-1 : Int32) σ I
set_option maxHeartbeats 4000000 in
theorem s_X9_print {A : Nat → Nat → Prop} {F : Nat → Nat → Int32} {w : Nat} (pc : okC A) (a1 : Int32) (a2 : Int32) (a3 : Int32) {σ : zSto} (I : zInv A F w σ) {P : Int32 → zSto → Prop} (hP : ∀ (r : Int32) (σ2 : zSto), zInv A F w σ2 → P r σ2) : w_X9_print a1 a2 a3 σ P := by
  unfold w_X9_print
  refine s_X8_lineAt a1 I (fun q2 uo1 => ?_)
  refine ⟨?_, ?_⟩
  · intro uq2
    exact hP (-1 : Int32) σ I
  · intro j3 uq3
    have hN_j3 := (uo1 j3 uq3).1
    have hT_j3 := isN_T hN_j3
    have hG_j3 := (uo1 j3 uq3).2
    refine ⟨isT_L hT_j3, ?_⟩
    refine s_X0_isStation j3 a2 hT_j3 I (fun r5 uz4 => ?_)
    intro ub5
    have uc6 := bool_t ub5
    refine ⟨?_, ?_⟩
    · intro uq7
      have ul8 := lit_0
      have uc9 := eq_t uq7
      exact hP (-1 : Int32) σ I
    · intro uq10
      have uc11 := uz4 uq10
      have ul12 := lit_0
      have uc13 := ne_t uq10
      refine s_X9_isHundredths a3 I (fun r7 => ?_)
      intro ub14
      have uc15 := bool_t ub14
      refine ⟨?_, ?_⟩
      · intro uq16
        have uc17 := ne_t uq16
        refine ⟨?_, ?_⟩
        · intro uq18
          refine s_X7_overPosts pc j3 a2 hT_j3 I (fun σ8 uI19 => ?_)
          refine s_X0_minutesTo j3 a2 hT_j3 (by omega) uI19 (fun r10 => ?_)
          refine s_X7_leastCosts a3 uI19 (fun r12 => ?_)
          exact hP (r10 + r12) σ8 uI19
        · intro uq20
          have uc21 := eq_t uq20
          exact hP (0 : Int32) σ I
      · intro uq22
        have uc23 := eq_t uq22
        exact hP (-1 : Int32) σ I
set_option maxHeartbeats 4000000 in
theorem s_X9_meet {A : Nat → Nat → Prop} {F : Nat → Nat → Int32} {w : Nat} (pc : okC A) (a1 : Int32) (a2 : Int32) (a3 : Int32) (a4 : Int32) (a5 : Int32) {σ : zSto} (I : zInv A F w σ) {P : Int32 → zSto → Prop} (hP : ∀ (r : Int32) (σ2 : zSto), zInv A F w σ2 → P r σ2) : w_X9_meet a1 a2 a3 a4 a5 σ P := by
  unfold w_X9_meet
  refine s_X9_ridden pc a1 a2 a3 a4 I (fun q2 σ1 uI1 uo2 => ?_)
  refine ⟨?_, ?_⟩
  · intro uq3
    exact hP (-2 : Int32) σ1 uI1
  · intro j3 uq4
    have hN_j3 := (uo2 j3 uq4).1
    have hT_j3 := isN_T hN_j3
    have hG_j3 := (uo2 j3 uq4).2
    refine ⟨isT_L hT_j3, ?_⟩
    refine ⟨?_, ?_⟩
    · intro uq5
      have ul6 := lit_m1
      refine s_X1_follow (A := Ax A BN) (F := σ1.1) (okC_N pc) j3 (σ1.1 190 6) hT_j3 (inv_x uI1) (fun σ4 uI7x => ?_)
      have uI7 := inv_y uI1 uI7x
      have uf8 : ti (σ4.1 j3 11) = ti (σ1.1 j3 11) := congrArg ti (inv_e uI7x (show BN j3 11 from isN_lt hN_j3))
      have ud9 : 0 ≤ ti ((σ1.1 j3 11)) ∧ ti ((σ1.1 j3 11)) ≤ 16 := rdr uI1 (isT_0 hT_j3) rfl rfl
      refine ⟨?_, ?_⟩
      · intro uq10
        have ul11 := lit_100
        have uc12 := lt_t uq10
        refine ⟨?_, ?_⟩
        · intro uq13
          have ul14 := lit_200
          have uc15 := lt_t uq13
          refine ⟨?_, ?_⟩
          · intro uq16
            have ul17 := lit_0
            have uc18 := eq_t uq16
            have ud19 : 0 ≤ ti ((σ4.1 j3 11)) ∧ ti ((σ4.1 j3 11)) ≤ 16 := rdr uI7 (isT_0 hT_j3) rfl rfl
            have ul20 := lit_1
            have ut21 := tsub (x := (σ4.1 j3 11)) (y := (1 : Int32)) (by omega)
            refine ⟨vin (by omega), ?_⟩
            exact hP (σ4.1 196 ((((σ4.1 j3 11) - (1 : Int32))).toNatClampNeg)) σ4 uI7
          · refine ⟨?_, ?_⟩
            · intro uq22
              have ul23 := lit_1
              have uc24 := eq_t uq22
              exact hP (σ4.1 195 2) σ4 uI7
            · refine ⟨?_, ?_⟩
              · intro uq25
                have ul26 := lit_2
                have uc27 := eq_t uq25
                exact hP (σ4.1 195 3) σ4 uI7
              · intro uq28
                rw [← ti_eq] at uq28
                exact hP (-2 : Int32) σ4 uI7
        · intro uq29
          have ul30 := lit_200
          have uc31 := nlt_t uq29
          refine ⟨?_, ?_⟩
          · intro uq32
            have ud33 : 0 ≤ ti ((σ4.1 j3 11)) ∧ ti ((σ4.1 j3 11)) ≤ 16 := rdr uI7 (isT_0 hT_j3) rfl rfl
            have ut34 := tadd (x := (200 : Int32)) (y := (σ4.1 j3 11)) (by omega)
            have uc35 := le_t uq32
            refine ⟨?_, ?_⟩
            · intro uq36
              have ul37 := lit_0
              have uc38 := eq_t uq36
              have ul39 := lit_1
              have ut40 := tsub (x := (σ4.1 j3 11)) (y := (1 : Int32)) (by omega)
              refine ⟨vin (by omega), ?_⟩
              exact hP (σ4.1 196 ((((σ4.1 j3 11) - (1 : Int32))).toNatClampNeg)) σ4 uI7
            · refine ⟨?_, ?_⟩
              · intro uq41
                have ul42 := lit_1
                have uc43 := eq_t uq41
                exact hP (σ4.1 195 2) σ4 uI7
              · refine ⟨?_, ?_⟩
                · intro uq44
                  have ul45 := lit_2
                  have uc46 := eq_t uq44
                  exact hP (σ4.1 195 3) σ4 uI7
                · intro uq47
                  rw [← ti_eq] at uq47
                  exact hP (-2 : Int32) σ4 uI7
          · intro uq48
            have ud49 : 0 ≤ ti ((σ4.1 j3 11)) ∧ ti ((σ4.1 j3 11)) ≤ 16 := rdr uI7 (isT_0 hT_j3) rfl rfl
            have ut50 := tadd (x := (200 : Int32)) (y := (σ4.1 j3 11)) (by omega)
            have uc51 := nle_t uq48
            have ut52 := tsub (x := a5) (y := (200 : Int32)) (by omega)
            refine ⟨vin (by omega), ?_⟩
            exact hP (σ4.1 197 (((a5 - (200 : Int32))).toNatClampNeg)) σ4 uI7
      · intro uq53
        have ul54 := lit_100
        have uc55 := nlt_t uq53
        refine ⟨?_, ?_⟩
        · intro uq56
          have ud57 : 0 ≤ ti ((σ4.1 j3 11)) ∧ ti ((σ4.1 j3 11)) ≤ 16 := rdr uI7 (isT_0 hT_j3) rfl rfl
          have ut58 := tadd (x := (100 : Int32)) (y := (σ4.1 j3 11)) (by omega)
          have uc59 := le_t uq56
          refine ⟨?_, ?_⟩
          · intro uq60
            have ul61 := lit_200
            have uc62 := lt_t uq60
            refine ⟨?_, ?_⟩
            · intro uq63
              have ul64 := lit_0
              have uc65 := eq_t uq63
              have ul66 := lit_1
              have ut67 := tsub (x := (σ4.1 j3 11)) (y := (1 : Int32)) (by omega)
              refine ⟨vin (by omega), ?_⟩
              exact hP (σ4.1 196 ((((σ4.1 j3 11) - (1 : Int32))).toNatClampNeg)) σ4 uI7
            · refine ⟨?_, ?_⟩
              · intro uq68
                have ul69 := lit_1
                have uc70 := eq_t uq68
                exact hP (σ4.1 195 2) σ4 uI7
              · refine ⟨?_, ?_⟩
                · intro uq71
                  have ul72 := lit_2
                  have uc73 := eq_t uq71
                  exact hP (σ4.1 195 3) σ4 uI7
                · intro uq74
                  rw [← ti_eq] at uq74
                  exact hP (-2 : Int32) σ4 uI7
          · intro uq75
            have ul76 := lit_200
            have uc77 := nlt_t uq75
            refine ⟨?_, ?_⟩
            · intro uq78
              have ut79 := tadd (x := (200 : Int32)) (y := (σ4.1 j3 11)) (by omega)
              have uc80 := le_t uq78
              refine ⟨?_, ?_⟩
              · intro uq81
                have ul82 := lit_0
                have uc83 := eq_t uq81
                have ul84 := lit_1
                have ut85 := tsub (x := (σ4.1 j3 11)) (y := (1 : Int32)) (by omega)
                refine ⟨vin (by omega), ?_⟩
                exact hP (σ4.1 196 ((((σ4.1 j3 11) - (1 : Int32))).toNatClampNeg)) σ4 uI7
              · refine ⟨?_, ?_⟩
                · intro uq86
                  have ul87 := lit_1
                  have uc88 := eq_t uq86
                  exact hP (σ4.1 195 2) σ4 uI7
                · refine ⟨?_, ?_⟩
                  · intro uq89
                    have ul90 := lit_2
                    have uc91 := eq_t uq89
                    exact hP (σ4.1 195 3) σ4 uI7
                  · intro uq92
                    rw [← ti_eq] at uq92
                    exact hP (-2 : Int32) σ4 uI7
            · intro uq93
              have ut94 := tadd (x := (200 : Int32)) (y := (σ4.1 j3 11)) (by omega)
              have uc95 := nle_t uq93
              have ut96 := tsub (x := a5) (y := (200 : Int32)) (by omega)
              refine ⟨vin (by omega), ?_⟩
              exact hP (σ4.1 197 (((a5 - (200 : Int32))).toNatClampNeg)) σ4 uI7
        · intro uq97
          have ud98 : 0 ≤ ti ((σ4.1 j3 11)) ∧ ti ((σ4.1 j3 11)) ≤ 16 := rdr uI7 (isT_0 hT_j3) rfl rfl
          have ut99 := tadd (x := (100 : Int32)) (y := (σ4.1 j3 11)) (by omega)
          have uc100 := nle_t uq97
          have ut101 := tsub (x := a5) (y := (100 : Int32)) (by omega)
          refine ⟨vin (by omega), ?_⟩
          exact hP (σ4.1 196 (((a5 - (100 : Int32))).toNatClampNeg)) σ4 uI7
    · intro uq102
      have ul103 := lit_m1
      have uc104 := eq_t uq102
      exact hP (-2 : Int32) σ1 uI1
set_option maxHeartbeats 4000000 in
theorem s_X9_risk_59 {A : Nat → Nat → Prop} {F : Nat → Nat → Int32} {w : Nat} (pc : okC A) (x_2 : Int32) (q_3 : Nat) (x_4 : Int32) (hT_q_3 : isT q_3) {P : Int32 → zSto → Prop} (hP : ∀ (r : Int32) (σ2 : zSto), zInv A F w σ2 → P r σ2) : ∀ (n : Nat) (x_5 : Int32) (x_6 : Int32) (x_7 : Int32) (σ : zSto), zInv A F w σ → (0 ≤ ti (x_7) ∧ ti (x_7) ≤ 16) → (16 - (ti (x_7)) < n) → w_X9_risk_59 x_2 q_3 x_4 P n x_5 x_6 x_7 σ := by
  intro n
  induction n with
  | zero =>
    intro x_5 x_6 x_7 σ I h_x_7 hm
    exfalso
    omega
  | succ n ih =>
    intro x_5 x_6 x_7 σ I h_x_7 hm
    unfold w_X9_risk_59
    refine ⟨?_, ?_⟩
    · intro uq1
      have ud2 : 0 ≤ ti ((σ.1 q_3 11)) ∧ ti ((σ.1 q_3 11)) ≤ 16 := rdr I (isT_0 hT_q_3) rfl rfl
      have ul3 := lit_1
      have ut4 := tsub (x := (σ.1 q_3 11)) (y := (1 : Int32)) (by omega)
      have uc5 := le_t uq1
      refine ⟨?_, ?_⟩
      · intro uq6
        have ul7 := lit_0
        exact hP x_6 σ I
      · intro uq8
        have ul9 := lit_0
        have uc10 := eq_t uq8
        exact hP x_5 σ I
    · intro uq11
      have ud12 : 0 ≤ ti ((σ.1 q_3 11)) ∧ ti ((σ.1 q_3 11)) ≤ 16 := rdr I (isT_0 hT_q_3) rfl rfl
      have ul13 := lit_1
      have ut14 := tsub (x := (σ.1 q_3 11)) (y := (1 : Int32)) (by omega)
      have uc15 := nle_t uq11
      refine s_X1_follow pc q_3 ((1 : Int32) <<< (x_7 &&& 31)) hT_q_3 I (fun σ6 uI16 => ?_)
      refine ⟨?_, ?_⟩
      · intro uq17
        have ul18 := lit_m1
        intro x7 ex7
        refine ⟨?_, ?_⟩
        · intro uq19
          have uc20 := le_t uq19
          intro x8 ex8
          intro x9 ex9
          have ut21 := tadd (x := x_7) (y := (1 : Int32)) (by omega)
          have ut22 := eq_t ex9
          exact ih x7 x8 x9 σ6 uI16 (by omega) (by omega)
        · intro uq23
          have uc24 := nle_t uq23
          intro x10 ex10
          intro x11 ex11
          have ut25 := tadd (x := x_7) (y := (1 : Int32)) (by omega)
          have ut26 := eq_t ex11
          exact ih x7 x10 x11 σ6 uI16 (by omega) (by omega)
      · intro uq27
        have ul28 := lit_m1
        have uc29 := eq_t uq27
        intro x12 ex12
        refine ⟨?_, ?_⟩
        · intro uq30
          have uc31 := le_t uq30
          intro x13 ex13
          intro x14 ex14
          have ut32 := tadd (x := x_7) (y := (1 : Int32)) (by omega)
          have ut33 := eq_t ex14
          exact ih x12 x13 x14 σ6 uI16 (by omega) (by omega)
        · intro uq34
          have uc35 := nle_t uq34
          intro x15 ex15
          intro x16 ex16
          have ut36 := tadd (x := x_7) (y := (1 : Int32)) (by omega)
          have ut37 := eq_t ex16
          exact ih x12 x15 x16 σ6 uI16 (by omega) (by omega)
set_option maxHeartbeats 4000000 in
theorem s_X9_risk {A : Nat → Nat → Prop} {F : Nat → Nat → Int32} {w : Nat} (pc : okC A) (a1 : Int32) (a2 : Int32) {σ : zSto} (I : zInv A F w σ) {P : Int32 → zSto → Prop} (hP : ∀ (r : Int32) (σ2 : zSto), zInv A F w σ2 → P r σ2) : w_X9_risk a1 a2 σ P := by
  unfold w_X9_risk
  refine s_X8_lineAt a1 I (fun q2 uo1 => ?_)
  refine ⟨?_, ?_⟩
  · intro uq2
    exact hP (-1 : Int32) σ I
  · intro j3 uq3
    have hN_j3 := (uo1 j3 uq3).1
    have hT_j3 := isN_T hN_j3
    have hG_j3 := (uo1 j3 uq3).2
    refine ⟨isT_L hT_j3, ?_⟩
    refine ⟨?_, ?_⟩
    · intro uq4
      have ul5 := lit_m1
      have uc6 := eq_t uq4
      exact hP (-1 : Int32) σ I
    · intro uq7
      have ul8 := lit_m1
      refine ⟨?_, ?_⟩
      · intro uq9
        have ul10 := lit_0
        have uc11 := lt_t uq9
        exact hP (-1 : Int32) σ I
      · intro uq12
        have ul13 := lit_0
        have uc14 := nlt_t uq12
        refine ⟨?_, ?_⟩
        · intro uq15
          have ul16 := lit_1
          have uc17 := le_t uq15
          refine s_X1_follow pc j3 (0 : Int32) hT_j3 I (fun σ4 uI18 => ?_)
          intro x5 ex5
          refine ⟨70000, ?_⟩
          exact s_X9_risk_59 pc a2 j3 x5 hT_j3 hP 70000 (0 : Int32) (0 : Int32) (0 : Int32) σ4 uI18 (by omega) (by omega)
        · intro uq19
          have ul20 := lit_1
          have uc21 := nle_t uq19
          exact hP (-1 : Int32) σ I
