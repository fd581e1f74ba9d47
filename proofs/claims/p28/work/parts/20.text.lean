set_option maxHeartbeats 4000000 in
theorem s_X4_readTape {A : Nat → Nat → Prop} {F : Nat → Nat → Int32} (pc : okC A) (a2 a3 : Int32) (h2 : 0 ≤ ti a2 ∧ ti a2 ≤ 600) {σ : zSto} (I : zInv A F 3 σ) {P : zSto → Prop} (hP : ∀ σ2, zInv A F 3 σ2 → (ti a3 = 0 → ti (σ2.1 171 11) = 0 → 2 ≤ ti (σ2.1 172 11)) → P σ2) : w_X4_readTape 2 600 a2 a3 σ P := by
  unfold w_X4_readTape
  have l0 := lit_0
  have l2 := lit_2
  have l4 := lit_4
  have l600 := lit_600
  have lm := lit_m1
  have e600 : (if (600 : Int32) < (Int32.ofNat 600) then (600 : Int32) else (Int32.ofNat 600)) = 600 := by decide
  intro σ1 e1
  simp only [e600] at e1
  rw [if_neg (show ¬ (600 : Int32) < a2 from fun q => by have := lt_t q; omega)] at e1
  have hv : 0 ≤ ti (if (0 : Int32) < a2 then a2 else 0) ∧ ti (if (0 : Int32) < a2 then a2 else 0) ≤ 600 := tite (Q := fun z => 0 ≤ ti z ∧ ti z ≤ 600) (fun _ => by omega) (fun _ => by omega)
  have I1 : zInv A F 3 σ1 := by rw [e1]; exact wIr (a := 0) (b := 600) I (pC pc (by decide)) (by decide) kd_171 rfl rfl hv
  have d5 : 0 ≤ ti (σ1.1 171 5) ∧ ti (σ1.1 171 5) ≤ 600 := rdr I1 kd_171 rfl rfl
  have tn := tn_eq (σ1.1 171 5)
  refine ⟨fun q => by have := lt_t q; omega, by omega, by omega, fun i _ => fits_b (rdr I1 kd_2 rfl rfl), ?_⟩
  intro σ2 e2
  have I2 : zInv A F 3 σ2 := by
    rw [e2]
    refine wR I1 (fun j => pC pc (by decide)) rk_189 (fun j => ?_)
    rw [kd_189]
    show -128 ≤ ti _ ∧ ti _ ≤ 127
    unfold va_cpy
    exact tite (Q := fun z => -128 ≤ ti z ∧ ti z ≤ 127) (fun _ => rdr I1 kd_2 rfl rfl) (fun _ => rdr I1 kd_189 rfl rfl)
  intro σ7 e7
  have I7 : zInv A F 3 σ7 := by rw [e7]; exact wIr (a := 0) (b := 600) I2 (pC pc (by decide)) (by decide) kd_171 rfl rfl (by omega)
  intro σ8 e8
  have I8 : zInv A F 4 σ8 := by rw [e8]; exact inv4_171 (inv_34 I7) (pC pc (by decide))
  intro σ9 e9
  have I9 : zInv A F 4 σ9 := by rw [e9]; exact wIr I8 (pC pc (by decide)) (by decide) kd_171 rfl rfl (full32 _)
  intro σ10 e10
  have I10 : zInv A F 4 σ10 := by rw [e10]; exact wIr I9 (pC pc (by decide)) (by decide) kd_171 rfl rfl (full32 _)
  refine s_X0_clear pc I10 (fun σ11 I11 h11 => ?_)
  have J11 := inv_43 I11 h11
  intro σ12 e12
  have I12 : zInv A F 3 σ12 := by rw [e12]; exact wIr (a := 0) (b := 16) J11 (pC pc (by decide)) (by decide) kd_184 rfl rfl (by omega)
  refine s_X4_readRows pc a3 I12 (fun σ13 I13 => ?_)
  refine ⟨fun q => hP σ13 I13 (fun z => absurd (t_inj (z.trans l0.symm)) q), fun q => ⟨fun q2 => ?_, fun q2 => ⟨fun q3 => ?_, fun q3 => ?_⟩⟩⟩
  · exact s_X4_note (okC_Q pc) (4 : Int32) _ (by omega) I13 (fun σ14 I14 h14 => hP σ14 I14 (fun _ z => absurd z h14))
  · have c := nlt_t q2
    exact hP σ13 I13 (fun _ _ => by omega)
  · exact s_X4_note (okC_Q pc) (4 : Int32) _ (by omega) I13 (fun σ14 I14 h14 => hP σ14 I14 (fun _ z => absurd z h14))
/-- Pairs copied: nothing that goes together is touched -/
theorem inv_P {A : Nat → Nat → Prop} {F : Nat → Nat → Int32} {w : Nat} {σ σ2 : zSto} {t : Nat} (pn : okN A) (I : zInv A F w σ) (ht : isP t) (h : cpM 3 t 184 mskP σ σ2) : zInv A F w σ2 := by
  have hk : ∀ i, i < 3 → kd (t + i) = kd (184 + i) ∧ rk (t + i) = 0 := by
    rcases ht with e | e | e | e <;> subst e <;> decide
  refine inv_cp I h (fun i hi => (hk i hi).1) (fun i j hi => pN pn (by unfold isP at ht; omega)) (zRel_of (fun k j q => ?_) I.2.2)
  by_cases c : t ≤ k ∧ k < t + 3
  · have := (hk (k - t) (by omega)).2
    rw [show t + (k - t) = k by omega] at this
    rw [rl0 this] at q
    cases q
  · exact cp_out h (by omega) j
/-- how many there are, anew: of PLANS and LOGS -/
theorem inv42 {A : Nat → Nat → Prop} {F : Nat → Nat → Int32} {w : Nat} {σ : zSto} {j : Nat} {v : Int32} (pn : okN A) (I : zInv A F w σ) (hj : j = 1 ∨ j = 2) (hv : 0 ≤ ti v ∧ ti v ≤ 2) : zInv A F w (zI σ (1 + 41) j v) := by
  refine wIr (a := 0) (b := 2) I (pN pn (by decide)) ?_ (show kd (1 + 41) = 7 from kd_42) rfl rfl hv
  rcases hj with e | e <;> subst e <;> decide
set_option maxHeartbeats 4000000 in
theorem s_X8_put {A : Nat → Nat → Prop} {F : Nat → Nat → Int32} (pn : okN A) (a1 a2 : Int32) {σ : zSto} (h1 : 0 ≤ ti a1 ∧ ti a1 ≤ 2) (h2 : 0 ≤ ti a2 ∧ ti a2 ≤ 1) (h3 : ti a2 ≤ ti (σ.1 (1 + 41) a1.toNatClampNeg)) (h4 : ti (σ.1 171 11) = 0) (h5 : ti a1 = 0 → 2 ≤ ti (σ.1 172 11)) (I : zInv A F 3 σ) {P : zSto → Prop} (hP : ∀ σ2, zInv A F 3 σ2 → (∀ j, σ2.1 1 j = σ.1 1 j) → P σ2) : w_X8_put 1 a1 a2 σ P := by
  unfold w_X8_put
  have l0 := lit_0
  have l1 := lit_1
  have l2 := lit_2
  have t2 := tadd (x := a2) (y := (1 : Int32)) (by omega)
  have tn := tn_eq a1
  refine s_X9_isSort a1 I (fun r2 z1 z0 => ?_)
  intro b
  refine ⟨fun q => by have := z0 q; omega, fun q => ⟨fun q2 => by have := lt_t q2; omega, fun q2 => ⟨fun q3 => ?_, fun q3 => by have := nlt_t q3; omega⟩⟩⟩
  refine ⟨fun q4 => ⟨fun q5 => ?_, fun q5 => ?_⟩, fun q4 => ?_⟩
  · have c4 := ne_t q4
    have c5 := ne_t q5
    refine ⟨vin (by omega), ?_⟩
    intro j4 e4
    have hj : isP j4 := by
      rcases (show ti a2 = 0 ∨ ti a2 = 1 by omega) with z | z
      · have : j4 = 36 := by rw [e4, zel_of z]; rfl
        unfold isP; omega
      · have : j4 = 39 := by rw [e4, zel_of z]; rfl
        unfold isP; omega
    refine ⟨isP_P hj, f_X2_copyFrom j4 184 (by unfold isP at hj; omega) (fun σ5 h5' => ⟨vin (by omega), vin (by omega), fun σ8 e8 => ?_⟩)⟩
    have I5 := inv_P pn I hj h5'
    have d : 0 ≤ ti (σ5.1 (1 + 41) a1.toNatClampNeg) ∧ ti (σ5.1 (1 + 41) a1.toNatClampNeg) ≤ 2 := rdr I5 (show kd (1 + 41) = 7 from kd_42) rfl rfl
    refine hP σ8 ?_ (fun j => ?_)
    · rw [e8]
      exact inv42 pn I5 (by omega) (tite (Q := fun z => 0 ≤ ti z ∧ ti z ≤ 2) (fun _ => by omega) (fun _ => d))
    · rw [e8, zI_q (Or.inl (by decide))]
      exact cp_out h5' (by unfold isP at hj; omega) j
  · have c5 := eq_t q5
    refine ⟨vin (by omega), ?_⟩
    intro j4 e4
    have hj : isP j4 := by
      rcases (show ti a2 = 0 ∨ ti a2 = 1 by omega) with z | z
      · have : j4 = 29 := by rw [e4, zel_of z]; rfl
        unfold isP; omega
      · have : j4 = 32 := by rw [e4, zel_of z]; rfl
        unfold isP; omega
    refine ⟨isP_P hj, f_X2_copyFrom j4 184 (by unfold isP at hj; omega) (fun σ5 h5' => ⟨vin (by omega), vin (by omega), fun σ8 e8 => ?_⟩)⟩
    have I5 := inv_P pn I hj h5'
    have d : 0 ≤ ti (σ5.1 (1 + 41) a1.toNatClampNeg) ∧ ti (σ5.1 (1 + 41) a1.toNatClampNeg) ≤ 2 := rdr I5 (show kd (1 + 41) = 7 from kd_42) rfl rfl
    refine hP σ8 ?_ (fun j => ?_)
    · rw [e8]
      exact inv42 pn I5 (by omega) (tite (Q := fun z => 0 ≤ ti z ∧ ti z ≤ 2) (fun _ => by omega) (fun _ => d))
    · rw [e8, zI_q (Or.inl (by decide))]
      exact cp_out h5' (by unfold isP at hj; omega) j
  · have c4 := eq_t q4
    have ej : a1.toNatClampNeg = 0 := by omega
    have hp := h5 (by omega)
    rw [ej] at h3
    refine ⟨vin (by omega), ?_⟩
    intro j16 e16
    obtain ⟨l, hl, hla, hj⟩ : ∃ l : Nat, l < 2 ∧ ti a2 = l ∧ j16 = 1 + 3 + 12 * l := by
      rcases (show ti a2 = 0 ∨ ti a2 = 1 by omega) with z | z
      · exact ⟨0, by decide, z, by rw [e16, zel_of z]; rfl⟩
      · exact ⟨1, by decide, z, by rw [e16, zel_of z]; rfl⟩
    have hS : isS j16 := by unfold isS; omega
    have hN : isN j16 := by unfold isN; omega
    refine ⟨isT_L (isN_T hN), f_X0_copyFrom j16 172 (by omega) (fun σ17 h17 => ⟨vin (by omega), vin (by omega), fun σ20 e20 => ?_⟩)⟩
    have d12 : 0 ≤ ti (σ.1 172 12) ∧ ti (σ.1 172 12) ≤ 6 := rdr I kd_172 rfl rfl
    have I17 : zInv A F 3 σ17 := by
      refine inv_cp I h17 (fun i hi => ?_) (fun i j hi => pN pn (by omega)) (zRel_L I.2.2 hS h17 d12.2 (fun _ _ _ _ _ _ => by omega) (fun r q => I.2.2.2.2.1 (by decide) h4 r q))
      rcases hN with e | e
      · rw [e]; revert i; decide
      · rw [e]; revert i; decide
    have p17 : σ17.1 j16 11 = σ.1 172 11 := cp_in (i := 0) (S := j16) h17 (by decide) (by decide)
    have c17 : σ17.1 (1 + 41) 0 = σ.1 (1 + 41) 0 := cp_out h17 (by omega) 0
    rw [ej] at e20
    have d : 0 ≤ ti (σ17.1 (1 + 41) 0) ∧ ti (σ17.1 (1 + 41) 0) ≤ 2 := rdr I17 (show kd (1 + 41) = 7 from kd_42) rfl rfl
    have hv : 0 ≤ ti (if (σ17.1 (1 + 41) 0) < (a2 + (1 : Int32)) then (a2 + (1 : Int32)) else (σ17.1 (1 + 41) 0)) ∧ ti (if (σ17.1 (1 + 41) 0) < (a2 + (1 : Int32)) then (a2 + (1 : Int32)) else (σ17.1 (1 + 41) 0)) ≤ 2 ∧ (ti (if (σ17.1 (1 + 41) 0) < (a2 + (1 : Int32)) then (a2 + (1 : Int32)) else (σ17.1 (1 + 41) 0)) = ti a2 + 1 ∨ ti (if (σ17.1 (1 + 41) 0) < (a2 + (1 : Int32)) then (a2 + (1 : Int32)) else (σ17.1 (1 + 41) 0)) = ti (σ17.1 (1 + 41) 0)) := tite (Q := fun z => 0 ≤ ti z ∧ ti z ≤ 2 ∧ (ti z = ti a2 + 1 ∨ ti z = ti (σ17.1 (1 + 41) 0))) (fun _ => by omega) (fun _ => by omega)
    generalize (if (σ17.1 (1 + 41) 0) < (a2 + (1 : Int32)) then (a2 + (1 : Int32)) else (σ17.1 (1 + 41) 0)) = v at e20 hv
    refine hP σ20 ?_ (fun j => ?_)
    · rw [e20]
      refine wIx I17 (pN pn (by decide)) (by rw [show kd (1 + 41) = 7 from kd_42]; exact ⟨hv.1, hv.2.1⟩) ?_
      obtain ⟨R1, R2, R3, R4, R5⟩ := I17.2.2
      refine ⟨fun S' hS' l' hl' q => ?_, fun t ht r q => ?_, fun hw q r q2 => ?_, fun i l' hi hl' q => ?_, zTold_of' (fun k j _ b => zI_q (Or.inl (by omega))) R5⟩
      · by_cases c : S' = 1
        · subst c
          rw [zI_s] at q
          rw [zI_q (Or.inl (by omega))]
          by_cases c2 : l' = l
          · rw [c2, ← hj, p17]; omega
          · have c18 := congrArg ti c17
            exact R1 1 (Or.inl rfl) l' hl' (by omega)
        · rw [zI_q (Or.inl (by unfold isZ at hS'; omega))] at q
          rw [zI_q (Or.inl (by unfold isZ at hS'; omega))]
          exact R1 S' hS' l' hl' q
      · rw [zI_q (Or.inl (by unfold isS at ht; omega))] at q
        rw [zI_q (Or.inl (by unfold isS at ht; omega))]
        exact R2 t ht r q
      · rw [zI_q (Or.inl (by decide))] at q q2
        rw [zI_q (Or.inl (by decide))]
        exact R3 hw q r q2
      · rw [zI_q (Or.inl (by decide))] at q
        rw [zI_q (Or.inl (by decide))]
        exact R4 i l' hi hl' q
    · rw [e20, zI_q (Or.inl (by decide))]
      exact cp_out h17 (by omega) j
set_option maxHeartbeats 4000000 in
theorem s_X9_text {A : Nat → Nat → Prop} {F : Nat → Nat → Int32} (pc : okC A) (pn : okN A) (a1 a2 : Int32) {σ : zSto} (I : zInv A F 3 σ) {P : Int32 → zSto → Prop} (hP : ∀ r σ2, zInv A F 3 σ2 → ti (σ2.1 1 5) = 0 → P r σ2) : w_X9_text a1 a2 σ P := by
  unfold w_X9_text
  have l0 := lit_0
  have lm := lit_m1
  have lm2 := lit_m2
  intro x1 e1
  have t1 := eq_t e1
  have d5 : 0 ≤ ti (σ.1 1 5) ∧ ti (σ.1 1 5) ≤ 600 := rdr I kd_1 rfl rfl
  refine s_X9_placeFor a1 a2 I (fun r3 h3 => ?_)
  intro σ4 e4 σ5 e5 σ6 e6
  have I4 : zInv A F 3 σ4 := by rw [e4]; exact wIr (a := 0) (b := 600) I (pN pn (by decide)) (rl0 rk_1) kd_1 rfl rfl (by omega)
  have I5 : zInv A F 3 σ5 := by rw [e5]; exact wIr I4 (pN pn (by decide)) (rl0 rk_1) kd_1 rfl rfl (full32 _)
  have I6 : zInv A F 3 σ6 := by rw [e6]; exact wIr I5 (pN pn (by decide)) (rl0 rk_1) kd_1 rfl rfl (full32 _)
  have f6 : ti (σ6.1 1 5) = 0 := by rw [e6, zI_q (Or.inr (by decide)), e5, zI_q (Or.inr (by decide)), e4, zI_s]; exact l0
  have k6 : ∀ j, σ6.1 (1 + 41) j = σ.1 (1 + 41) j := fun j => by rw [e6, zI_q (Or.inl (by decide)), e5, zI_q (Or.inl (by decide)), e4, zI_q (Or.inl (by decide))]
  refine ⟨fun q => ?_, fun q => hP _ σ6 I6 f6⟩
  have c := ne_t q
  have h4 := h3 (by omega)
  refine s_X4_readTape (A := Ax A BN) (F := σ6.1) (okC_N pc) x1 a1 (by omega) (inv_x I6) (fun σ7 I7x h7 => ?_)
  have I7 := inv_y I6 I7x
  have f7 : ti (σ7.1 1 5) = 0 := by rw [inv_e I7x (show BN 1 5 from by show 1 < 171; decide)]; exact f6
  have k7 : ∀ j, σ7.1 (1 + 41) j = σ.1 (1 + 41) j := fun j => by rw [inv_e I7x (show BN (1 + 41) j from by show 1 + 41 < 171; decide)]; exact k6 j
  intro σ8 e8 σ9 e9
  have I8 : zInv A F 3 σ8 := by rw [e8]; exact wIr I7 (pN pn (by decide)) (rl0 rk_1) kd_1 rfl rfl (full32 _)
  have I9 : zInv A F 3 σ9 := by rw [e9]; exact wIr I8 (pN pn (by decide)) (rl0 rk_1) kd_1 rfl rfl (full32 _)
  have f9 : ti (σ9.1 1 5) = 0 := by rw [e9, zI_q (Or.inr (by decide)), e8, zI_q (Or.inr (by decide))]; exact f7
  have k9 : ∀ k j, k ≠ 1 → σ9.1 k j = σ7.1 k j := fun k j hk => by rw [e9, zI_q (Or.inl hk), e8, zI_q (Or.inl hk)]
  refine ⟨fun q2 => ?_, fun q2 => hP _ σ9 I9 f9⟩
  have c2 := eq_t q2
  rw [k9 171 11 (by decide)] at c2
  refine s_X8_put pn a1 r3 (by omega) (by omega) ?_ ?_ (fun z => ?_) I9 (fun σ10 I10 h10 => hP _ σ10 I10 (by rw [h10]; exact f9))
  · rw [k9 (1 + 41) _ (by decide), k7]; omega
  · rw [k9 171 11 (by decide)]; omega
  · rw [k9 172 11 (by decide)]; exact h7 z (by omega)
