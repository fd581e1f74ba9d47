/-! a text laid to the others -/
set_option maxHeartbeats 4000000 in
theorem inv_st0 {A : Nat → Nat → Prop} {F : Nat → Nat → Int32} {σ σ1 σ2 : zSto} {k : Nat} {v : Int32} (hA : ∀ q j, 226 ≤ q → q ≤ 231 → ¬ A q j) (I : zInv A F 3 σ) (T : Told 0 σ) (hk : k ≤ 1) (e1 : σ1 = zI σ 228 0 v) (h2 : stR 229 (123 * k) 123 σ1 σ2) (hv : 0 ≤ ti v ∧ ti v ≤ 2) (hl : ∀ l : Nat, (l : Int) < ti v → l ≠ k → (l : Int) < ti (σ.1 228 0)) : zInv A F 3 σ2 := by
  obtain ⟨R1, R2, R3, R4, R5⟩ := I.2.2
  obtain ⟨T1, T2⟩ := T.1 rfl
  have ko : ∀ q j, q ≠ 228 → q ≠ 229 → σ2.1 q j = σ.1 q j := fun q j a b => by rw [h2 q j, if_neg (by omega), e1, zI_q (Or.inl a)]
  have k8 : ∀ j, j ≠ 0 → σ2.1 228 j = σ.1 228 j := fun j a => by rw [h2 228 j, if_neg (by omega), e1, zI_q (Or.inr a)]
  have k80 : σ2.1 228 0 = v := by rw [h2 228 0, if_neg (by omega), e1, zI_s]
  have k9 : ∀ j, ¬ (123 * k ≤ j ∧ j < 123 * k + 123) → σ2.1 229 j = σ.1 229 j := fun j a => by rw [h2 229 j, if_neg (by omega), e1, zI_q (Or.inl (by decide))]
  have k9i : ∀ j, (123 * k ≤ j ∧ j < 123 * k + 123) → σ2.1 229 j = σ.1 232 (j - 123 * k) := fun j a => by rw [h2 229 j, if_pos ⟨rfl, a⟩, e1, zI_q (Or.inl (by decide))]
  refine ⟨fun q j => ?_, fun q j a => ?_, fun S hS l hl q => ?_, fun t ht r q => ?_, fun hw q r q2 => ?_, fun i l hi hl2 q => ?_, ⟨fun z => absurd z (by decide), fun z => absurd z (by decide), fun z => absurd z (by decide)⟩⟩
  · by_cases c8 : q = 228
    · subst c8
      by_cases c : j = 0
      · subst c; rw [k80, kd_228]; exact hv
      · rw [k8 j c]; exact I.1 228 j
    · by_cases c9 : q = 229
      · subst c9
        by_cases c : 123 * k ≤ j ∧ j < 123 * k + 123
        · rw [k9i j c, kd_229]
          have u := T1 (j - 123 * k) (by omega)
          rw [(lo_14 (show j - 123 * k < 123 by omega)).1, (lo_14 (show j - 123 * k < 123 by omega)).2] at u
          show lo14 (j % 123) ≤ _ ∧ _ ≤ hi14 (j % 123)
          rw [show j % 123 = j - 123 * k by omega]
          exact u
        · rw [k9 j c]; exact I.1 229 j
      · rw [ko q j c8 c9]; exact I.1 q j
  · by_cases c8 : q = 228
    · subst c8; exact absurd a (hA 228 j (by decide) (by decide))
    · by_cases c9 : q = 229
      · subst c9; exact absurd a (hA 229 j (by decide) (by decide))
      · rw [ko q j c8 c9]; exact I.2.1 q j a
  · rw [ko _ _ (by unfold isZ at hS; omega) (by unfold isZ at hS; omega)] at q
    rw [ko _ _ (by unfold isZ at hS; omega) (by unfold isZ at hS; omega)]
    exact R1 S hS l hl q
  · rw [ko _ _ (by unfold isS at ht; omega) (by unfold isS at ht; omega)] at q
    rw [ko _ _ (by unfold isS at ht; omega) (by unfold isS at ht; omega)]
    exact R2 t ht r q
  · rw [ko _ _ (by decide) (by decide)] at q q2
    rw [ko _ _ (by decide) (by decide)]
    exact R3 hw q r q2
  · by_cases c : i = 0
    · subst c
      rw [k80] at q
      by_cases c2 : l = k
      · subst c2
        rw [k9i _ (by omega), show 123 * (2 * 0 + l) - 123 * l = 0 by omega]
        omega
      · rw [k9 _ (by omega)]
        exact R4 0 l hi hl2 (hl l q c2)
    · rw [k8 _ (by omega)] at q
      rw [k9 _ (by omega)]
      exact R4 i l hi hl2 q
set_option maxHeartbeats 4000000 in
theorem inv_st1 {A : Nat → Nat → Prop} {F : Nat → Nat → Int32} {σ σ1 σ2 : zSto} {k s c W : Nat} {v : Int32} (hs : (s = 1 ∧ c = 230 ∧ W = 33) ∨ (s = 2 ∧ c = 231 ∧ W = 21)) (hA : ∀ q j, 226 ≤ q → q ≤ 231 → ¬ A q j) (I : zInv A F 3 σ) (T : Told s σ) (hk : k ≤ 1) (e1 : σ1 = zI σ 228 s v) (h2 : stR c (W * k) W σ1 σ2) (hv : 0 ≤ ti v ∧ ti v ≤ 2) : zInv A F 3 σ2 := by
  have I1 : zInv A F 3 σ1 := by
    rw [e1]
    refine wIr (a := 0) (b := 2) I (hA _ _ (by decide) (by decide)) ?_ kd_228 rfl rfl hv
    rw [rl_228]
    exact decide_eq_false (by omega)
  have ko : ∀ q j, q ≠ c → σ2.1 q j = σ1.1 q j := fun q j a => by rw [h2 q j, if_neg (by omega)]
  have kt : ∀ j, σ1.1 232 j = σ.1 232 j := fun j => zI_q' e1 (Or.inl (by decide))
  have hr : rk c = 0 := by rcases hs with ⟨_, h, _⟩ | ⟨_, h, _⟩ <;> subst h <;> decide
  refine ⟨fun q j => ?_, fun q j a => ?_, zRel_of (fun q j z => ?_) I1.2.2⟩
  · by_cases cc : q = c
    · subst cc
      rw [h2 q j]
      by_cases c3 : q = q ∧ W * k ≤ j ∧ j < W * k + W
      · rw [if_pos c3, kt]
        have c4 := c3.2
        rcases hs with ⟨h1, h, h3⟩ | ⟨h1, h, h3⟩ <;> subst h1 <;> subst h <;> subst h3
        · rw [kd_230]
          by_cases c5 : j = 33 * k
          · subst c5
            have u := T.2.1 rfl
            simp only [lo, hi, show 33 * k % 33 = 0 by omega, show 33 * k - 33 * k = 0 by omega]
            exact u
          · simp only [lo, hi, show ¬ j % 33 = 0 by omega]
            exact full32 _
        · rw [kd_231]
          by_cases c5 : j = 21 * k
          · subst c5
            have u := T.2.2 rfl
            simp only [lo, hi, show 21 * k % 21 = 0 by omega, show 21 * k - 21 * k = 0 by omega]
            exact u
          · simp only [lo, hi, show ¬ j % 21 = 0 by omega]
            exact full32 _
      · rw [if_neg c3]; exact I1.1 q j
    · rw [ko q j cc]; exact I1.1 q j
  · by_cases cc : q = c
    · subst cc; exact absurd a (hA q j (by omega) (by omega))
    · rw [ko q j cc]; exact I1.2.1 q j a
  · by_cases cc : q = c
    · subst cc; rw [rl0 hr] at z; cases z
    · exact ko q j cc
/-- what reading a text leaves -/
def BM : Nat → Nat → Prop := fun k _ => k = 225 ∨ k = 228 ∨ k = 229 ∨ k = 230 ∨ k = 231
theorem okR_M {A : Nat → Nat → Prop} (h : okR A) : okR (Ax A BM) := by
  rintro k j (a | b) q
  · exact h k j a q
  · unfold BM at b; omega
set_option maxHeartbeats 4000000 in
theorem s_X10_text {A : Nat → Nat → Prop} {F : Nat → Nat → Int32} (pr : okR A) (p5 : ¬ A 225 0) (hA : ∀ q j, 226 ≤ q → q ≤ 231 → ¬ A q j) (a1 a2 : Int32) {σ : zSto} (I : zInv A F 3 σ) {P : Int32 → zSto → Prop} (hP : ∀ r σ2, zInv A F 3 σ2 → ti (σ2.1 225 0) = 0 → P r σ2) : w_X10_text a1 a2 σ P := by
  unfold w_X10_text
  have l0 := lit_0
  have l1 := lit_1
  have l2 := lit_2
  have lm := lit_m1
  intro σ1 e1 σ2 e2 σ3 e3 σ4 e4 σ5 e5
  have I1 : zInv A F 3 σ1 := by rw [e1]; exact wIr I (pRo pr (by decide)) (by decide) kd_223 rfl rfl (full32 _)
  have I2 : zInv A F 3 σ2 := by rw [e2]; exact wIr (a := 0) (b := 600) I1 (pRo pr (by decide)) (by decide) kd_223 rfl rfl (rdr I1 kd_225 rfl rfl)
  have I3 : zInv A F 3 σ3 := by rw [e3]; exact wIr (a := 0) (b := 600) I2 p5 (rl0 rk_225) kd_225 rfl rfl (by omega)
  have I4 : zInv A F 3 σ4 := by rw [e4]; exact wI0 I3 (hA _ _ (by decide) (by decide)) rk_226 kd_226
  have I5 : zInv A F 3 σ5 := by rw [e5]; exact wI0 I4 (hA _ _ (by decide) (by decide)) rk_227 kd_227
  have f5 : ti (σ5.1 225 0) = 0 := by rw [e5, zI_q (Or.inl (by decide)), e4, zI_q (Or.inl (by decide)), e3, zI_s]; exact l0
  refine b_X10_in a1 (0 : Int32) (2 : Int32) (fun r7 z7 => ?_)
  intro b7
  refine ⟨fun q => hP _ σ5 I5 f5, fun q7 => ?_⟩
  have hz := z7.mp q7
  have tn := tn_eq a1
  obtain ⟨s, hs⟩ : ∃ s, s = (ti a1).toNat := ⟨_, rfl⟩
  have es : a1.toNatClampNeg = s := by omega
  rw [es]
  have dm : ∀ σ', zInv A F 3 σ' → 0 ≤ ti (σ'.1 228 s) ∧ ti (σ'.1 228 s) ≤ 2 := fun σ' I' => rdr I' kd_228 rfl rfl
  have fin : ∀ (k : Nat) (x v r : Int32) (σ10 σ14 : zSto), zInv A F 3 σ10 → Told s σ10 → ti (σ10.1 225 0) = 0 → ti x = (k : Int) → k ≤ 1 → σ14 = zI σ10 228 s v → (0 ≤ ti v ∧ ti v ≤ 2) → (∀ l : Nat, (l : Int) < ti v → l ≠ k → (l : Int) < ti (σ10.1 228 s)) → ((¬ a1 = 0 → ((¬ a1 = (1 : Int32) → (w_X10_store 231 168 (21 : Int32) x σ14 (fun (σ15 : zSto) => P r σ15))) ∧ (a1 = (1 : Int32) → (w_X10_store 230 264 (33 : Int32) x σ14 (fun (σ16 : zSto) => P r σ16))))) ∧ (a1 = 0 → (w_X10_store 229 984 (123 : Int32) x σ14 (fun (σ17 : zSto) => P r σ17)))) := by
    intro k x v r σ10 σ14 I10 T10 f10 hx hk e14 hv hl
    have g : ∀ c b W σ15, c ≠ 225 → stR c b W σ14 σ15 → ti (σ15.1 225 0) = 0 := fun c b W σ15 hc h => by rw [h 225 0, if_neg (by omega), e14, zI_q (Or.inl (by decide))]; exact f10
    refine ⟨fun qa => ⟨fun qb => ?_, fun qb => ?_⟩, fun qa => ?_⟩
    · have c1 := ne_t qa
      have c2 := ne_t qb
      have hs2 : s = 2 := by omega
      subst hs2
      exact f_store 231 168 k 21 (by decide) _ x lit_21 (by decide) hx hk (by decide) (by omega) (fun σ15 h => hP _ σ15 (inv_st1 (Or.inr ⟨rfl, rfl, rfl⟩) hA I10 T10 hk e14 h hv) (g _ _ _ _ (by decide) h))
    · have c2 := eq_t qb
      have hs2 : s = 1 := by omega
      subst hs2
      exact f_store 230 264 k 33 (by decide) _ x lit_33 (by decide) hx hk (by decide) (by omega) (fun σ15 h => hP _ σ15 (inv_st1 (Or.inl ⟨rfl, rfl, rfl⟩) hA I10 T10 hk e14 h hv) (g _ _ _ _ (by decide) h))
    · have c2 := eq_t qa
      have hs2 : s = 0 := by omega
      subst hs2
      exact f_store 229 984 k 123 (by decide) _ x lit_123 (by decide) hx hk (by decide) (by omega) (fun σ15 h => hP _ σ15 (inv_st0 hA I10 T10 hk e14 h hv hl) (g _ _ _ _ (by decide) h))
  have p6 : ¬ (Ax A BM) 226 0 := by
    rintro (a | b)
    · exact hA 226 0 (by decide) (by decide) a
    · unfold BM at b; omega
  have p7 : ¬ (Ax A BM) 227 0 := by
    rintro (a | b)
    · exact hA 227 0 (by decide) (by decide) a
    · unfold BM at b; omega
  refine ⟨fun q8 => ?_, fun q8 => ⟨vin (by omega), ?_⟩⟩
  · refine s_X10_is a1 a2 (by omega) I5 (fun r9 z9 => ?_)
    intro b9
    refine ⟨fun q9 => ?_, fun q9 => hP _ σ5 I5 f5⟩
    obtain ⟨y1, y2, y3⟩ := z9 q9
    rw [es] at y2
    refine s_X10_readText (A := Ax A BM) (F := σ5.1) s (okR_M pr) p6 p7 a1 (by omega) (by omega) (inv_x I5) (fun r11 σ10 I10x T10 => ?_)
    have I10 := inv_y I5 I10x
    have f10 : ti (σ10.1 225 0) = 0 := by rw [inv_e I10x (show BM 225 0 from Or.inl rfl)]; exact f5
    have g10 : σ10.1 228 s = σ5.1 228 s := inv_e I10x (show BM 228 s from Or.inr (Or.inl rfl))
    have g10' := eq_t g10
    have d10 := dm σ10 I10
    intro b11
    refine ⟨fun q11 => ⟨fun _ => ⟨vin (by omega), fun _ => ⟨vin (by omega), fun σ14 e14 => ?_⟩, fun qq => absurd qq q8⟩, fun qq => absurd qq q8⟩, fun q11 => hP _ σ10 I10 f10⟩
    have t0 := tadd (x := σ10.1 228 s) (y := (0 : Int32)) (by omega)
    exact fin (ti a2).toNat a2 _ _ σ10 σ14 I10 (T10 q11) f10 (by omega) (by omega) e14 (by omega) (fun l h1 h2 => by omega)
  · have c8 := eq_t q8
    refine ⟨fun q9 => ?_, fun q9 => hP _ σ5 I5 f5⟩
    have c9 := ne_t q9
    refine s_X10_readText (A := Ax A BM) (F := σ5.1) s (okR_M pr) p6 p7 a1 (by omega) (by omega) (inv_x I5) (fun r11 σ10 I10x T10 => ?_)
    have I10 := inv_y I5 I10x
    have f10 : ti (σ10.1 225 0) = 0 := by rw [inv_e I10x (show BM 225 0 from Or.inl rfl)]; exact f5
    have g10 : σ10.1 228 s = σ5.1 228 s := inv_e I10x (show BM 228 s from Or.inr (Or.inl rfl))
    have g10' := eq_t g10
    have d10 := dm σ10 I10
    intro b11
    refine ⟨fun q11 => ⟨fun qq => absurd q8 qq, fun _ => ⟨vin (by omega), fun x24 e24 => ⟨vin (by omega), fun qq => absurd q8 qq, fun _ => ⟨vin (by omega), fun σ14 e14 => ?_⟩⟩⟩⟩, fun q11 => hP _ σ10 I10 f10⟩
    have t24 := eq_t e24
    have t0 := tadd (x := σ10.1 228 s) (y := (1 : Int32)) (by omega)
    exact fin (ti x24).toNat x24 _ _ σ10 σ14 I10 (T10 q11) f10 (by omega) (by omega) e14 (by omega) (fun l h1 h2 => by omega)
