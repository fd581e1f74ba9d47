/-! the class's text, as it begins and ends -/
set_option maxHeartbeats 4000000 in
theorem f_X0_clear_37 {σ0 : zSto} {P : zSto → Prop} (hP : ∀ σ2, zRg σ2 → (∀ k j, ¬ ((k = 176 ∨ k = 177) ∧ j < 16) → σ2.1 k j = σ0.1 k j) → (∀ p, p < 16 → ti (σ2.1 176 p) = 0 ∧ ti (σ2.1 177 p) = -1) → P σ2) : ∀ (k q : Nat) (x_1 : Int32) (σ : zSto), zRg σ → ti x_1 = (q : Int) → q ≤ 16 → (∀ k j, ¬ ((k = 176 ∨ k = 177) ∧ j < 16) → σ.1 k j = σ0.1 k j) → (∀ p, p < q → ti (σ.1 176 p) = 0 ∧ ti (σ.1 177 p) = -1) → 16 - q < k → w_X0_clear_37 172 P k x_1 σ := by
  have l1 := lit_1
  have l0 := lit_0
  have lm := lit_m1
  have l16 := lit_16
  intro k
  induction k with
  | zero => intro q x σ h1 h2 h3 h4 h5 h6; exfalso; omega
  | succ k ih =>
    intro q x_1 σ h1 h2 h3 h4 h5 h6
    unfold w_X0_clear_37
    refine ⟨fun q1 => hP σ h1 h4 (fun p hp => h5 p (by have := le_t q1; omega)), fun q1 => ?_⟩
    have c := nle_t q1
    have tn := tn_eq x_1
    have en : x_1.toNatClampNeg = q := by omega
    refine ⟨vin (by omega), fun σ9 e9 => ⟨vin (by omega), fun σ11 e11 x12 e12 => ?_⟩⟩
    rw [en] at e9 e11
    have t12 := eq_t e12
    have ta := tadd (x := x_1) (y := (1 : Int32)) (by omega)
    have r9 : zRg σ9 := by rw [e9]; exact wIg (k := 176) h1 kd_176 rfl rfl (full32 _)
    have r11 : zRg σ11 := by rw [e11]; exact wIg (k := 177) r9 kd_177 rfl rfl (full32 _)
    refine ih (q + 1) x12 σ11 r11 (by omega) (by omega) (fun k j hk => ?_) (fun p hp => ?_) (by omega)
    · rw [e11, zI_q (by omega), e9, zI_q (by omega)]
      exact h4 k j hk
    · by_cases cp : p = q
      · subst cp
        constructor
        · rw [e11, zI_q (Or.inl (by decide)), e9, zI_s]; exact l0
        · rw [e11, zI_s]; exact lm
      · constructor
        · rw [e11, zI_q (Or.inl (by decide)), e9, zI_q (Or.inr cp)]; exact (h5 p (by omega)).1
        · rw [e11, zI_q (Or.inr cp), e9, zI_q (Or.inl (by decide))]; exact (h5 p (by omega)).2
theorem f_X0_clear {σ : zSto} (h : zRg σ) {P : zSto → Prop} (hP : ∀ σ2, zRg σ2 → (∀ k j, ¬ ((k = 176 ∨ k = 177) ∧ j < 16) → k ≠ 172 → σ2.1 k j = σ.1 k j) → (∀ p, p < 16 → ti (σ2.1 176 p) = 0 ∧ ti (σ2.1 177 p) = -1) → ti (σ2.1 172 11) = 0 → ti (σ2.1 172 12) = 0 → ti (σ2.1 172 13) = 2 → ti (σ2.1 172 14) = 0 → ti (σ2.1 172 15) = 0 → ti (σ2.1 172 16) = 0 → ti (σ2.1 172 17) = -1 → P σ2) : w_X0_clear 172 σ P := by
  have l0 := lit_0
  have l2 := lit_2
  have lm := lit_m1
  unfold w_X0_clear
  intro σ1 e1 σ2 e2 σ3 e3 σ4 e4 σ5 e5 σ6 e6 σ7 e7
  have r1 : zRg σ1 := by rw [e1]; exact wIg (a := 0) (b := 16) h kd_172 rfl rfl (by omega)
  have r2 : zRg σ2 := by rw [e2]; exact wIg (a := 0) (b := 6) r1 kd_172 rfl rfl (by omega)
  have r3 : zRg σ3 := by rw [e3]; exact wIg (a := 0) (b := 999) r2 kd_172 rfl rfl (by omega)
  have r4 : zRg σ4 := by rw [e4]; exact wIg r3 kd_172 rfl rfl (full32 _)
  have r5 : zRg σ5 := by rw [e5]; exact wIg r4 kd_172 rfl rfl (full32 _)
  have r6 : zRg σ6 := by rw [e6]; exact wIg r5 kd_172 rfl rfl (full32 _)
  have r7 : zRg σ7 := by rw [e7]; exact wIg r6 kd_172 rfl rfl (full32 _)
  have k7 : ∀ k j, k ≠ 172 → σ7.1 k j = σ.1 k j := fun k j hk => by rw [e7, zI_q (Or.inl hk), e6, zI_q (Or.inl hk), e5, zI_q (Or.inl hk), e4, zI_q (Or.inl hk), e3, zI_q (Or.inl hk), e2, zI_q (Or.inl hk), e1, zI_q (Or.inl hk)]
  have g7 : ti (σ7.1 172 17) = -1 := by rw [e7, zI_s]; exact lm
  have g6 : ti (σ7.1 172 16) = 0 := by rw [e7, zI_q (Or.inr (by decide)), e6, zI_s]; exact l0
  have g5 : ti (σ7.1 172 15) = 0 := by rw [e7, zI_q (Or.inr (by decide)), e6, zI_q (Or.inr (by decide)), e5, zI_s]; exact l0
  have g4 : ti (σ7.1 172 14) = 0 := by rw [e7, zI_q (Or.inr (by decide)), e6, zI_q (Or.inr (by decide)), e5, zI_q (Or.inr (by decide)), e4, zI_s]; exact l0
  have g3 : ti (σ7.1 172 13) = 2 := by rw [e7, zI_q (Or.inr (by decide)), e6, zI_q (Or.inr (by decide)), e5, zI_q (Or.inr (by decide)), e4, zI_q (Or.inr (by decide)), e3, zI_s]; exact l2
  have g2 : ti (σ7.1 172 12) = 0 := by rw [e7, zI_q (Or.inr (by decide)), e6, zI_q (Or.inr (by decide)), e5, zI_q (Or.inr (by decide)), e4, zI_q (Or.inr (by decide)), e3, zI_q (Or.inr (by decide)), e2, zI_s]; exact l0
  have g1 : ti (σ7.1 172 11) = 0 := by rw [e7, zI_q (Or.inr (by decide)), e6, zI_q (Or.inr (by decide)), e5, zI_q (Or.inr (by decide)), e4, zI_q (Or.inr (by decide)), e3, zI_q (Or.inr (by decide)), e2, zI_q (Or.inr (by decide)), e1, zI_s]; exact l0
  refine ⟨100, f_X0_clear_37 (σ0 := σ7) (fun σ8 r8 k8 v8 => hP σ8 r8 (fun k j hk h2 => (k8 k j hk).trans (k7 k j h2)) v8 ?_ ?_ ?_ ?_ ?_ ?_ ?_) 100 0 (0 : Int32) σ7 r7 l0 (by omega) (fun _ _ _ => rfl) (fun p hp => by omega) (by omega)⟩
  · rw [k8 172 11 (by omega)]; exact g1
  · rw [k8 172 12 (by omega)]; exact g2
  · rw [k8 172 13 (by omega)]; exact g3
  · rw [k8 172 14 (by omega)]; exact g4
  · rw [k8 172 15 (by omega)]; exact g5
  · rw [k8 172 16 (by omega)]; exact g6
  · rw [k8 172 17 (by omega)]; exact g7
set_option maxHeartbeats 4000000 in
theorem f_X4_readTape (a2 a3 : Int32) {B : Nat → Int} {n : Nat} (h2 : ti a2 = (n : Int)) (hn : n ≤ 600) {σ : zSto} (I : zRg σ) (hB : ∀ j, j < n → ti (σ.1 2 j) = B j) {P : zSto → Prop} (hP : ∀ σ2 st, Ini st → CR (FN (ti a3) n (RD (ti a3) B n 601 0 st)) σ2 → P σ2) : w_X4_readTape 2 600 a2 a3 σ P := by
  unfold w_X4_readTape
  have l0 := lit_0
  have l2 := lit_2
  have l4 := lit_4
  have l600 := lit_600
  have lm := lit_m1
  have e600 : (if (600 : Int32) < (Int32.ofNat 600) then (600 : Int32) else (Int32.ofNat 600)) = 600 := by decide
  intro σ1 e1
  simp only [e600] at e1
  rw [if_neg (show ¬ (600 : Int32) < a2 from fun q => by have := lt_t q; omega)] at e1
  have hv : ti (if (0 : Int32) < a2 then a2 else 0) = (n : Int) := by
    by_cases c : (0 : Int32) < a2
    · rw [if_pos c]; exact h2
    · rw [if_neg c]; have := nlt_t c; omega
  have I1 : zRg σ1 := by rw [e1]; exact wIg (a := 0) (b := 600) I kd_171 rfl rfl (by omega)
  have d5 : ti (σ1.1 171 5) = (n : Int) := by rw [e1, zI_s]; exact hv
  have tn := tn_eq (σ1.1 171 5)
  have en : (σ1.1 171 5).toNatClampNeg = n := by omega
  refine ⟨fun q => by have := lt_t q; omega, by omega, by omega, fun i _ => fits_b (rdg I1 kd_2 rfl rfl), ?_⟩
  intro σ2 e2
  rw [en] at e2
  have I2 : zRg σ2 := by
    rw [e2]
    intro k j
    by_cases c : k = 189
    · subst c
      rw [zR_s, kd_189]
      show -128 ≤ ti _ ∧ ti _ ≤ 127
      unfold va_cpy
      exact tite (Q := fun z => -128 ≤ ti z ∧ ti z ≤ 127) (fun _ => rdg I1 kd_2 rfl rfl) (fun _ => rdg I1 kd_189 rfl rfl)
    · rw [zR_k c]; exact I1 k j
  have b2 : ∀ j, j < n → rB σ2 j = B j := by
    intro j hj
    show ti (σ2.1 189 j) = B j
    rw [e2, zR_s]
    unfold va_cpy
    rw [if_pos (by omega), e1, zI_q (Or.inl (by decide))]
    rw [show 0 + (j - 0) = j by omega]
    exact hB j hj
  have k2 : ∀ k j, k ≠ 189 → σ2.1 k j = σ1.1 k j := fun k j hk => by rw [e2, zR_k hk]
  intro σ7 e7 σ8 e8 σ9 e9 σ10 e10
  have I7 : zRg σ7 := by rw [e7]; exact wIg (a := 0) (b := 600) I2 kd_171 rfl rfl (by omega)
  have I8 : zRg σ8 := by rw [e8]; exact wIg I7 kd_171 rfl rfl (full32 _)
  have I9 : zRg σ9 := by rw [e9]; exact wIg I8 kd_171 rfl rfl (full32 _)
  have I10 : zRg σ10 := by rw [e10]; exact wIg I9 kd_171 rfl rfl (full32 _)
  have k10 : ∀ k j, (k ≠ 171 ∨ (j ≠ 6 ∧ j ≠ 11 ∧ j ≠ 12 ∧ j ≠ 10)) → σ10.1 k j = σ2.1 k j := fun k j hk => by rw [e10, zI_q (by omega), e9, zI_q (by omega), e8, zI_q (by omega), e7, zI_q (by omega)]
  have v10 : ti (σ10.1 171 10) = -1 := by rw [e10, zI_s]; exact lm
  have v12 : ti (σ10.1 171 12) = -1 := by rw [e10, zI_q (Or.inr (by decide)), e9, zI_s]; exact lm
  have v11 : ti (σ10.1 171 11) = 0 := by rw [e10, zI_q (Or.inr (by decide)), e9, zI_q (Or.inr (by decide)), e8, zI_s]; exact l0
  have v6 : ti (σ10.1 171 6) = 0 := by rw [e10, zI_q (Or.inr (by decide)), e9, zI_q (Or.inr (by decide)), e8, zI_q (Or.inr (by decide)), e7, zI_s]; exact l0
  refine f_X0_clear I10 (fun σ11 I11 k11 o11 y11 y12 y13 y14 y15 y16 y17 => ?_)
  intro σ12 e12
  have I12 : zRg σ12 := by rw [e12]; exact wIg (a := 0) (b := 16) I11 kd_184 rfl rfl (by omega)
  have k12 : ∀ k j, k ≠ 184 → σ12.1 k j = σ11.1 k j := fun k j hk => by rw [e12, zI_q (Or.inl hk)]
  obtain ⟨st, hst⟩ : ∃ st : Nat → Int, ∀ s, st s = ti (σ12.1 (cK s) (cJ s)) := ⟨fun s => ti (σ12.1 (cK s) (cJ s)), fun _ => rfl⟩
  have hC : CR st σ12 := fun s _ => (hst s).symm
  have eB : ∀ j, rB σ12 j = rB σ2 j := fun j => by
    show ti (σ12.1 189 j) = ti (σ2.1 189 j)
    rw [k12 189 j (by decide), k11 189 j (by omega) (by decide), k10 189 j (by omega)]
  have hI : Ini st := by
    refine ⟨?_, ?_, ?_, ?_, ?_, ?_, ?_, fun p hp => ⟨?_, ?_⟩, ?_, ?_, ?_, ?_⟩
    · rw [hst]; show ti (σ12.1 172 11) = 0; rw [k12 172 11 (by decide)]; exact y11
    · rw [hst]; show ti (σ12.1 172 12) = 0; rw [k12 172 12 (by decide)]; exact y12
    · rw [hst]; show ti (σ12.1 172 13) = 2; rw [k12 172 13 (by decide)]; exact y13
    · rw [hst]; show ti (σ12.1 172 14) = 0; rw [k12 172 14 (by decide)]; exact y14
    · rw [hst]; show ti (σ12.1 172 15) = 0; rw [k12 172 15 (by decide)]; exact y15
    · rw [hst]; show ti (σ12.1 172 16) = 0; rw [k12 172 16 (by decide)]; exact y16
    · rw [hst]; show ti (σ12.1 172 17) = -1; rw [k12 172 17 (by decide)]; exact y17
    · have k0 := cK_a p 3 (by decide) hp
      rw [hst, k0.1, k0.2, k12 _ p (by omega)]; exact (o11 p hp).1
    · have k0 := cK_a p 4 (by decide) hp
      rw [hst, k0.1, k0.2, k12 _ p (by omega)]; exact (o11 p hp).2
    · rw [hst]; show ti (σ12.1 171 11) = 0; rw [k12 171 11 (by decide), k11 171 11 (by omega) (by decide)]; exact v11
    · rw [hst]; show ti (σ12.1 171 12) = -1; rw [k12 171 12 (by decide), k11 171 12 (by omega) (by decide)]; exact v12
    · rw [hst]; show ti (σ12.1 171 10) = -1; rw [k12 171 10 (by decide), k11 171 10 (by omega) (by decide)]; exact v10
    · rw [hst]; show ti (σ12.1 184 2) = 0; rw [e12, zI_s]; exact l0
  have c12 : CX (rB σ12) n 0 (fun _ => 0) (fun _ => 0) 0 st σ12 := by
    refine ⟨I12, rfl, ?_, ?_, fun i hi => absurd hi (Nat.not_lt_zero i), hC⟩
    · rw [k12 171 5 (by decide), k11 171 5 (by omega) (by decide), k10 171 5 (by omega), k2 171 5 (by decide)]; exact d5
    · rw [k12 171 6 (by decide), k11 171 6 (by omega) (by decide)]; exact v6
  have eR : RD (ti a3) (rB σ12) n 601 0 st = RD (ti a3) B n 601 0 st := RD_cg (fun j hj => by rw [eB j]; exact b2 j hj) 601 0 st (Nat.zero_le n)
  obtain ⟨fin, hfin⟩ : ∃ fin, fin = RD (ti a3) B n 601 0 st := ⟨_, rfl⟩
  have hP' := fun σ2 => hP σ2 st hI
  rw [← hfin] at hP'
  unfold w_X4_readRows
  refine ⟨1000, f_X4_readRows_2 hn a3 fin (fun σ13 r13 c13 d13 => ?_) 1000 601 0 (0 : Int32) st _ _ 0 σ12 (by omega) (by omega) (Nat.zero_le n) c12 (eR.trans hfin.symm) (by omega)⟩
  have g0 : ti (σ13.1 172 11) = fin 0 := c13 0 (by unfold sD; omega)
  have g2 : ti (σ13.1 171 10) = fin 202 := c13 202 (by unfold sD; omega)
  have c13x : CX (rB σ13) n ((ti (σ13.1 171 6)).toNat) (fun _ => 0) (fun _ => 0) 0 fin σ13 := ⟨r13, rfl, d13, by have : 0 ≤ ti (σ13.1 171 6) ∧ ti (σ13.1 171 6) ≤ 600 := rdg r13 kd_171 rfl rfl; omega, fun i hi => absurd hi (Nat.not_lt_zero i), c13⟩
  have nt : (ti a3 = 0 ∧ (fin 0 < 2 ∨ ¬ fin 202 < fin 0)) → w_X4_note (4 : Int32) (σ13.1 171 5) σ13 P := fun z => f_X4_note _ _ c13x (fun σ14 c14 => hP' σ14 (by
    unfold FN
    rw [if_pos z, ← l4, ← d13]
    exact c14.2.2.2.2.2))
  refine ⟨fun q => hP' σ13 ?_, fun q => ⟨fun q2 => nt ⟨by rw [q]; exact l0, Or.inl ?_⟩, fun q2 => ⟨fun q3 => hP' σ13 ?_, fun q3 => nt ⟨by rw [q]; exact l0, Or.inr ?_⟩⟩⟩⟩
  · unfold FN
    rw [if_neg (fun z => q (t_inj (z.1.trans l0.symm)))]
    exact c13
  · have := lt_t q2; omega
  · unfold FN
    have u2 := nlt_t q2
    have u3 := lt_t q3
    rw [if_neg (by omega)]
    exact c13
  · have := nlt_t q3; omega
