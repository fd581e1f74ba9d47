theorem z14 : ∀ j : Fin 123, lo14 j.val ≤ 0 ∧ 0 ≤ hi14 j.val := by decide
/-- as a text begins -/
def HZ (w : Nat) (σ : zSto) : Prop := ti (σ.1 232 0) = 0 ∧ ti (σ.1 232 1) = 0 ∧ (w = 0 → ∀ j, j < 123 → lo 14 j ≤ ti (σ.1 232 j) ∧ ti (σ.1 232 j) ≤ hi 14 j) ∧ (∀ p, p < 16 → ti (σ.1 234 p) = 0)
set_option maxHeartbeats 4000000 in
theorem rt_tail {A : Nat → Nat → Prop} {F : Nat → Nat → Int32} {w : Nat} (pr : okR A) (p6 : ¬ A 226 0) (p7 : ¬ A 227 0) (x_1 : Int32) (hw : ti x_1 = (w : Int)) (hw2 : w ≤ 2) {P : Int32 → zSto → Prop} (hP : ∀ r σ2, zInv A F 3 σ2 → (¬ r = 0 → Told w σ2) → P r σ2) {σ2 : zSto} (I : zInv A F 3 σ2) (hz : HZ w σ2) : (∀ σ3 : zSto, σ3 = zI σ2 223 22 (-1 : Int32) → (∀ σ4 : zSto, σ4 = zI σ3 223 9 (0 : Int32) → (∀ σ5 : zSto, σ5 = zI σ4 223 16 (0 : Int32) → (w_X10_token  σ5 (fun (σ6 : zSto) => (w_X10_textLines x_1 σ6 (fun (r8 : Int32) (σ7 : zSto) => (r8 = 0 ∨ r8 = 1) → ((r8 = 0 → (∃ n2 : Nat, w_X10_readText_154 x_1 r8 P  n2 (0 : Int32) σ7)) ∧ (¬ r8 = 0 → ((¬ x_1 = 0 → (∃ n2 : Nat, w_X10_readText_154 x_1 r8 P  n2 (0 : Int32) σ7)) ∧ (x_1 = 0 → ((¬ (σ7.1 223 16) = 0 → (∃ n2 : Nat, w_X10_readText_154 x_1 r8 P  n2 (0 : Int32) σ7)) ∧ ((σ7.1 223 16) = 0 → (((σ7.1 232 0) ≤ (σ7.1 223 22) → (w_X10_later (4 : Int32) (σ7.1 223 11) σ7 (fun (σ32 : zSto) => (∃ n2 : Nat, w_X10_readText_154 x_1 r8 P  n2 (0 : Int32) σ32)))) ∧ (¬ (σ7.1 232 0) ≤ (σ7.1 223 22) → (((2 : Int32) ≤ (σ7.1 232 0) → (∃ n2 : Nat, w_X10_readText_154 x_1 r8 P  n2 (0 : Int32) σ7)) ∧ (¬ (2 : Int32) ≤ (σ7.1 232 0) → (w_X10_later (4 : Int32) (σ7.1 223 11) σ7 (fun (σ33 : zSto) => (∃ n2 : Nat, w_X10_readText_154 x_1 r8 P  n2 (0 : Int32) σ33)))))))))))))))))))) := by
  have l0 := lit_0
  have l2 := lit_2
  have l4 := lit_4
  intro σ3 e3 σ4 e4 σ5 e5
  have I3 : zInv A F 3 σ3 := by rw [e3]; exact wIr I (pRo pr (by decide)) (by decide) kd_223 rfl rfl (full32 _)
  have I4 : zInv A F 3 σ4 := by rw [e4]; exact wIr (a := 0) (b := 600) I3 (pRo pr (by decide)) (by decide) kd_223 rfl rfl (by omega)
  have J5 : zInv A F 3 σ5 := by
    rw [e5]
    refine wIx I4 (pRo pr (by decide)) (by rw [kd_223]; exact full32 _) ?_
    obtain ⟨R1, R2, R3, R4, R5⟩ := I4.2.2
    refine ⟨fun S hS l hl q => ?_, fun t ht r q => ?_, fun hw q r q2 => ?_, fun i l hi hl q => ?_, ⟨fun z => absurd z (by decide), fun z => absurd z (by decide), fun z => absurd z (by decide)⟩⟩
    · rw [zI_q (Or.inl (by unfold isZ at hS; omega))] at q
      rw [zI_q (Or.inl (by unfold isZ at hS; omega))]
      exact R1 S hS l hl q
    · rw [zI_q (Or.inl (by unfold isS at ht; omega))] at q
      rw [zI_q (Or.inl (by unfold isS at ht; omega))]
      exact R2 t ht r q
    · rw [zI_q (Or.inl (by decide))] at q q2
      rw [zI_q (Or.inl (by decide))]
      exact R3 hw q r q2
    · rw [zI_q (Or.inl (by decide))] at q
      rw [zI_q (Or.inl (by decide))]
      exact R4 i l hi hl q
  have k5 : ∀ k j, k ≠ 223 → σ5.1 k j = σ2.1 k j := fun k j hk => by rw [e5, zI_q (Or.inl hk), e4, zI_q (Or.inl hk), e3, zI_q (Or.inl hk)]
  have I5 : zInv A F w σ5 := by
    refine inv_3w J5 ⟨fun z => ⟨?_, fun _ => ⟨fun j hj => ?_, fun p hp => ?_⟩⟩, fun z => ?_, fun z => ?_⟩
    · rw [k5 232 0 (by decide), k5 232 1 (by decide), hz.1, hz.2.1]; decide
    · rw [k5 232 j (by decide)]; exact hz.2.2.1 z j hj
    · rw [k5 234 p (by decide), hz.2.2.2 p hp]; decide
    · rw [k5 232 0 (by decide), hz.1]; decide
    · rw [k5 232 0 (by decide), hz.1]; decide
  have d9 : 0 ≤ ti (σ5.1 223 9) ∧ ti (σ5.1 223 9) ≤ 600 := rdr I5 kd_223 rfl rfl
  refine s_X10_token (okR_K pr) 0 I5 d9.1 (fun σ6 I6 _ _ => ?_)
  refine s_X10_textLines pr x_1 hw hw2 I6 (fun r8 σ7 I7 => ?_)
  intro b8
  have go : ∀ σ, zInv A F w σ → (¬ r8 = 0 → ti x_1 = 0 → ti (σ.1 223 16) = 0 → 2 ≤ ti (σ.1 232 0)) → ∃ n2 : Nat, w_X10_readText_154 x_1 r8 P n2 (0 : Int32) σ := fun σ Iσ h => ⟨100, s_X10_readText_154 pr p6 p7 x_1 r8 hw hw2 hP 100 (0 : Int32) σ Iσ (by omega) h (by omega)⟩
  refine ⟨fun q => go σ7 I7 (fun h => absurd q h), fun q => ⟨fun q2 => go σ7 I7 (fun _ h => absurd (t_inj (h.trans l0.symm)) q2), fun q2 => ⟨fun q3 => go σ7 I7 (fun _ _ h => absurd (t_inj (h.trans l0.symm)) q3), fun q3 => ⟨fun q4 => ?_, fun q4 => ⟨fun q5 => ?_, fun q5 => ?_⟩⟩⟩⟩⟩
  · exact s_X10_later (okR_J pr) (4 : Int32) _ (by omega) I7 (fun σ32 I32 y _ => go σ32 I32 (fun _ _ h => absurd h y))
  · exact go σ7 I7 (fun _ _ _ => by have := le_t q5; omega)
  · exact s_X10_later (okR_J pr) (4 : Int32) _ (by omega) I7 (fun σ32 I32 y _ => go σ32 I32 (fun _ _ h => absurd h y))
theorem inv234_3 {A : Nat → Nat → Prop} {F : Nat → Nat → Int32} {σ : zSto} {k j0 : Nat} {v : Int32} (hk : k = 232 ∨ k = 234) (I : zInv A F 3 σ) (hA : ¬ A k j0) : zInv A F 3 (zI σ k j0 v) := by
  obtain ⟨R1, R2, R3, R4, R5⟩ := I.2.2
  have hd : kd k = 0 := by rcases hk with h | h <;> subst h <;> decide
  refine wIx I hA (by rw [hd]; exact full32 v) ⟨fun S hS l hl q => ?_, fun t ht r q => ?_, fun hw q r q2 => ?_, fun i l hi hl q => ?_, fun z => absurd z (by decide), fun z => absurd z (by decide), fun z => absurd z (by decide)⟩
  · rw [zI_q (Or.inl (by unfold isZ at hS; omega))] at q
    rw [zI_q (Or.inl (by unfold isZ at hS; omega))]
    exact R1 S hS l hl q
  · rw [zI_q (Or.inl (by unfold isS at ht; omega))] at q
    rw [zI_q (Or.inl (by unfold isS at ht; omega))]
    exact R2 t ht r q
  · rw [zI_q (Or.inl (by omega))] at q q2
    rw [zI_q (Or.inl (by omega))]
    exact R3 hw q r q2
  · rw [zI_q (Or.inl (by omega))] at q
    rw [zI_q (Or.inl (by omega))]
    exact R4 i l hi hl q
set_option maxHeartbeats 4000000 in
theorem s_X10_readText_23 {A : Nat → Nat → Prop} {F : Nat → Nat → Int32} {w : Nat} (pr : okR A) (p6 : ¬ A 226 0) (p7 : ¬ A 227 0) (x_1 : Int32) (hw : ti x_1 = (w : Int)) (hw2 : w ≤ 2) {P : Int32 → zSto → Prop} (hP : ∀ r σ2, zInv A F 3 σ2 → (¬ r = 0 → Told w σ2) → P r σ2) : ∀ (n : Nat) (x_2 : Int32) (σ : zSto), zInv A F 3 σ → (0 ≤ ti x_2 ∧ ti x_2 ≤ 16) → (∀ j, j < 123 → ti (σ.1 232 j) = 0) → (∀ p : Nat, (p : Int) < ti x_2 → ti (σ.1 234 p) = 0) → (16 - ti x_2 < n) → w_X10_readText_23 x_1 P n x_2 σ := by
  have l0 := lit_0
  have l1 := lit_1
  have l2 := lit_2
  have lm := lit_m1
  have l16 := lit_16
  intro n
  induction n with
  | zero => intro x_2 σ I h h1 h2 hm; exfalso; omega
  | succ n ih =>
    intro x_2 σ I h h1 h2 hm
    unfold w_X10_readText_23
    refine ⟨fun q => ?_, fun q => ?_⟩
    · have c := le_t q
      have o2 : ∀ p, p < 16 → ti (σ.1 234 p) = 0 := fun p hp => h2 p (by omega)
      have tl : ∀ (u v : Int32) (σ1 σ2 : zSto), σ1 = zI σ 232 2 u → σ2 = zI σ1 232 6 v → (0 ≤ ti u ∧ ti u ≤ 9) → zInv A F 3 σ2 ∧ HZ w σ2 := by
        intro u v σ1 σ2 e1 e2 hu
        have k : ∀ q j, (q ≠ 232 ∨ (j ≠ 2 ∧ j ≠ 6)) → σ2.1 q j = σ.1 q j := fun q j hq => by rw [e2, zI_q (by omega), e1, zI_q (by omega)]
        refine ⟨by rw [e2, e1]; exact inv234_3 (Or.inl rfl) (inv234_3 (Or.inl rfl) I (pR pr (by decide))) (pR pr (by decide)), ?_, ?_, fun _ j hj => ?_, fun p hp => ?_⟩
        · rw [k 232 0 (Or.inr (by decide))]; exact h1 0 (by decide)
        · rw [k 232 1 (Or.inr (by decide))]; exact h1 1 (by decide)
        · by_cases c2 : j = 2
          · subst c2
            rw [e2, zI_q (Or.inr (by decide)), e1, zI_s]
            exact hu
          · by_cases c6 : j = 6
            · subst c6
              rw [e2, zI_s]
              exact full32 v
            · rw [k 232 j (Or.inr ⟨c2, c6⟩), h1 j hj, (lo_14 hj).1, (lo_14 hj).2]
              exact z14 ⟨j, hj⟩
        · rw [k 234 p (Or.inl (by decide))]; exact o2 p hp
      refine ⟨fun q1 σ1 e1 => ⟨fun q2 σ2 e2 => ?_, fun q2 => absurd q2 q1⟩, fun q1 σ1 e1 => ⟨fun q2 => absurd q1 q2, fun q2 σ2 e2 => ?_⟩⟩
      · obtain ⟨Ia, Ha⟩ := tl _ _ σ1 σ2 e1 e2 (by omega)
        exact rt_tail pr p6 p7 x_1 hw hw2 hP Ia Ha
      · obtain ⟨Ia, Ha⟩ := tl _ _ σ1 σ2 e1 e2 (by omega)
        exact rt_tail pr p6 p7 x_1 hw hw2 hP Ia Ha
    · have c := nle_t q
      have nx := tn_eq x_2
      refine ⟨vin (by omega), fun σa ea => ⟨vin (by omega), fun σb eb x' e' => ?_⟩⟩
      have t1 := tadd (x := x_2) (y := (1 : Int32)) (by omega)
      have t2 := eq_t e'
      have Ia : zInv A F 3 σa := by rw [ea]; exact inv234_3 (Or.inr rfl) I (pR pr (by decide))
      have Ib : zInv A F 3 σb := by rw [eb]; exact wI0 Ia (pR pr (by decide)) rk_235 kd_235
      refine ih x' σb Ib (by omega) (fun j hj => ?_) (fun p hp => ?_) (by omega)
      · rw [eb, zI_q (Or.inl (by decide)), ea, zI_q (Or.inl (by decide))]; exact h1 j hj
      · rw [eb, zI_q (Or.inl (by decide)), ea]
        by_cases c2 : p = x_2.toNatClampNeg
        · subst c2; rw [zI_s]; exact l0
        · rw [zI_q (Or.inr c2)]; exact h2 p (by omega)
set_option maxHeartbeats 4000000 in
theorem s_X10_readText_2 {A : Nat → Nat → Prop} {F : Nat → Nat → Int32} {w : Nat} (pr : okR A) (p6 : ¬ A 226 0) (p7 : ¬ A 227 0) (x_1 : Int32) (hw : ti x_1 = (w : Int)) (hw2 : w ≤ 2) {P : Int32 → zSto → Prop} (hP : ∀ r σ2, zInv A F 3 σ2 → (¬ r = 0 → Told w σ2) → P r σ2) : ∀ (n : Nat) (x_2 : Int32) (σ : zSto), zInv A F 3 σ → (0 ≤ ti x_2 ∧ ti x_2 ≤ 123) → (∀ j : Nat, (j : Int) < ti x_2 → ti (σ.1 232 j) = 0) → (123 - ti x_2 < n) → w_X10_readText_2 x_1 P n x_2 σ := by
  have l0 := lit_0
  have l1 := lit_1
  have l123 := lit_123
  intro n
  induction n with
  | zero => intro x_2 σ I h h1 hm; exfalso; omega
  | succ n ih =>
    intro x_2 σ I h h1 hm
    unfold w_X10_readText_2
    refine ⟨fun q => ⟨100, ?_⟩, fun q => ?_⟩
    · have c := le_t q
      exact s_X10_readText_23 pr p6 p7 x_1 hw hw2 hP 100 (0 : Int32) σ I (by omega) (fun j hj => h1 j (by omega)) (fun p hp => by omega) (by omega)
    · have c := nle_t q
      have nx := tn_eq x_2
      refine ⟨vin (by omega), fun σa ea x' e' => ?_⟩
      have t1 := tadd (x := x_2) (y := (1 : Int32)) (by omega)
      have t2 := eq_t e'
      refine ih x' σa (by rw [ea]; exact inv234_3 (Or.inl rfl) I (pR pr (by decide))) (by omega) (fun j hj => ?_) (by omega)
      rw [ea]
      by_cases c2 : j = x_2.toNatClampNeg
      · subst c2; rw [zI_s]; exact l0
      · rw [zI_q (Or.inr c2)]; exact h1 j (by omega)
theorem s_X10_readText {A : Nat → Nat → Prop} {F : Nat → Nat → Int32} (w : Nat) (pr : okR A) (p6 : ¬ A 226 0) (p7 : ¬ A 227 0) (a1 : Int32) (hw : ti a1 = (w : Int)) (hw2 : w ≤ 2) {σ : zSto} (I : zInv A F 3 σ) {P : Int32 → zSto → Prop} (hP : ∀ r σ2, zInv A F 3 σ2 → (¬ r = 0 → Told w σ2) → P r σ2) : w_X10_readText a1 σ P := by
  unfold w_X10_readText
  have l0 := lit_0
  exact ⟨200, s_X10_readText_2 pr p6 p7 a1 hw hw2 hP 200 (0 : Int32) σ I (by omega) (fun j hj => by omega) (by omega)⟩
/-! store -/
def stR (c b W : Nat) (σ σ2 : zSto) : Prop := ∀ q j, σ2.1 q j = if q = c ∧ b ≤ j ∧ j < b + W then σ.1 232 (j - b) else σ.1 q j
set_option maxHeartbeats 4000000 in
theorem f_store_3 (c M b W : Nat) (hc : c ≠ 232) (x2 x3 : Int32) (hW : ti x2 = W) (hW2 : W ≤ 123) (eb : ti (x2 * x3) = b) (hM : M ≤ 1000) (hb : b + W ≤ M) {σ0 : zSto} {P : zSto → Prop} (hP : ∀ σ2, stR c b W σ0 σ2 → P σ2) : ∀ (n k : Nat) (x_4 : Int32) (σ : zSto), ti x_4 = k → k ≤ W → stR c b k σ0 σ → W - k < n → w_X10_store_3 c M x2 x3 P n x_4 σ := by
  have l1 := lit_1
  intro n
  induction n with
  | zero => intro k x_4 σ h1 h2 h3 h4; exfalso; omega
  | succ n ih =>
    intro k x_4 σ h1 h2 h3 h4
    unfold w_X10_store_3
    refine ⟨fun q => ?_, fun q => ?_⟩
    · have c1 := le_t q
      have : k = W := by omega
      subst this
      exact hP σ h3
    · have c1 := nle_t q
      have tb := tadd (x := x2 * x3) (y := x_4) (by omega)
      have nb := tn_eq (x2 * x3 + x_4)
      have n4 := tn_eq x_4
      refine ⟨vin (by omega), vin (by omega), fun σ3 e3 x4 e4 => ?_⟩
      have t4 := tadd (x := x_4) (y := (1 : Int32)) (by omega)
      have t5 := eq_t e4
      rw [show (x2 * x3 + x_4).toNatClampNeg = b + k by omega, show x_4.toNatClampNeg = k by omega] at e3
      refine ih (k + 1) x4 σ3 (by omega) (by omega) (fun q' j => ?_) (by omega)
      have s1 : σ.1 232 k = σ0.1 232 k := by rw [h3 232 k, if_neg (by omega)]
      by_cases c2 : q' = c ∧ j = b + k
      · obtain ⟨u1, u2⟩ := c2
        subst u1
        subst u2
        rw [e3, zI_s, if_pos (by omega), s1, show b + k - b = k by omega]
      · rw [e3, zI_q (by omega), h3 q' j]
        by_cases c3 : q' = c ∧ b ≤ j ∧ j < b + k
        · rw [if_pos c3, if_pos (by omega)]
        · rw [if_neg c3, if_neg (by omega)]
theorem f_store (c M k W : Nat) (hc : c ≠ 232) (x2 x3 : Int32) (hW : ti x2 = W) (hW2 : W ≤ 123) (h3 : ti x3 = k) (hk : k ≤ 1) (hM : M ≤ 1000) (hb : W * k + W ≤ M) {σ : zSto} {P : zSto → Prop} (hP : ∀ σ2, stR c (W * k) W σ σ2 → P σ2) : w_X10_store c M x2 x3 σ P := by
  unfold w_X10_store
  exact ⟨200, f_store_3 c M (W * k) W hc x2 x3 hW hW2 (mul_t hW h3 (by omega) (by omega)) hM hb hP 200 0 (0 : Int32) σ (by rw [lit_0]; rfl) (by omega) (fun q j => by rw [if_neg (by omega)]) (by omega)⟩
