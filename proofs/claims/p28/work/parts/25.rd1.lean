theorem t_take {A : Nat → Nat → Prop} {F : Nat → Nat → Int32} {w : Nat} (pr : okR A) (b : Int) (k : Nat) (a1 a2 a3 : Int32) (hk : ti a1 = (k : Int)) (h5 : k ≤ 5) {σ : zSto} (I : zInv A F w σ) (hb : b ≤ ti (σ.1 223 9)) {P : Int32 → zSto → Prop} (hP : ∀ r σ2, zInv A F w σ2 → (¬ r = 0 → b ≤ ti (σ2.1 223 9) ∧ (ti (σ2.1 223 12) = 4 → b < ti (σ2.1 223 9)) ∧ (ti (σ2.1 223 16) = 0 → ti (σ.1 223 16) = 0 ∧ ti a2 ≤ ti (σ2.1 233 k) ∧ ti (σ2.1 233 k) ≤ ti a3) ∧ (∀ j, j ≠ k → σ2.1 233 j = σ.1 233 j)) → P r σ2) : w_X10_take a1 a2 a3 σ P := by
  refine s_X10_take pr b a1 a2 a3 (by omega) I hb (fun r σ2 I2 z => hP r σ2 I2 ?_)
  rw [show (ti a1).toNat = k by omega] at z
  exact z
theorem t_takePost {A : Nat → Nat → Prop} {F : Nat → Nat → Int32} {w : Nat} (pr : okR A) (b : Int) (k : Nat) (a1 a2 : Int32) (hk : ti a1 = (k : Int)) (h5 : k ≤ 5) {σ : zSto} (I : zInv A F w σ) (hb : b ≤ ti (σ.1 223 9)) {P : Int32 → zSto → Prop} (hP : ∀ r σ2, zInv A F w σ2 → (¬ r = 0 → b ≤ ti (σ2.1 223 9) ∧ (ti (σ2.1 223 12) = 4 → b < ti (σ2.1 223 9)) ∧ (ti (σ2.1 223 16) = 0 → ti (σ.1 223 16) = 0 ∧ ti a2 ≤ ti (σ2.1 233 k) ∧ ti (σ2.1 233 k) ≤ 15) ∧ (∀ j, j ≠ k → σ2.1 233 j = σ.1 233 j)) → P r σ2) : w_X10_takePost a1 a2 σ P := by
  refine s_X10_takePost pr b a1 a2 (by omega) I hb (fun r σ2 I2 z => hP r σ2 I2 ?_)
  rw [show (ti a1).toNat = k by omega] at z
  exact z
theorem s_X10_take0 {A : Nat → Nat → Prop} {F : Nat → Nat → Int32} {w : Nat} (pr : okR A) (b : Int) (a2 a3 : Int32) {σ : zSto} (I : zInv A F w σ) (hb : b ≤ ti (σ.1 223 9)) {P : Int32 → zSto → Prop} (hP : ∀ r σ2, zInv A F w σ2 → (¬ r = 0 → b ≤ ti (σ2.1 223 9) ∧ (ti (σ2.1 223 12) = 4 → b < ti (σ2.1 223 9))) → (¬ r = 0 → ti (σ2.1 223 16) = 0 → ti (σ.1 223 16) = 0 ∧ ti a2 ≤ ti (σ2.1 233 0) ∧ ti (σ2.1 233 0) ≤ ti a3) → P r σ2) : w_X10_take (0 : Int32) a2 a3 σ P :=
  t_take pr b 0 (0 : Int32) a2 a3 lit_0 (by decide) I hb (fun r σ2 I2 z => hP r σ2 I2 (fun q => ⟨(z q).1, (z q).2.1⟩) (fun q => (z q).2.2.1))
theorem lo_14 {j : Nat} (h : j < 123) : lo 14 j = lo14 j ∧ hi 14 j = hi14 j := by
  have e : j % 123 = j := by omega
  constructor
  · show lo14 (j % 123) = _
    rw [e]
  · show hi14 (j % 123) = _
    rw [e]
theorem lh_p2 : ∀ p : Fin 16, lo14 (7 + 5 * p.val + 2) = -2147483648 ∧ hi14 (7 + 5 * p.val + 2) = 2147483647 ∧ lo14 (7 + 5 * p.val + 4) = -2147483648 ∧ hi14 (7 + 5 * p.val + 4) = 2147483647 := by decide
theorem lh_r2 : ∀ p : Fin 6, ∀ i : Fin 4, lo14 (87 + 6 * p.val + 2 + i.val) = -2147483648 ∧ hi14 (87 + 6 * p.val + 2 + i.val) = 2147483647 := by decide
/-- only the row told changes -/
theorem inv_232 {A : Nat → Nat → Prop} {F : Nat → Nat → Int32} {w w' : Nat} {σ σ2 : zSto} (I : zInv A F w σ) (hw : w < 4) (hA : ∀ j, ¬ A 232 j) (h : ∀ q j, q ≠ 232 → σ2.1 q j = σ.1 q j) (hz : zTold w' σ2) : zInv A F w' σ2 := by
  obtain ⟨R1, R2, R3, R4, R5⟩ := I.2.2
  refine ⟨fun q j => ?_, fun q j a => ?_, fun S hS l hl q => ?_, fun t ht r q => ?_, fun _ q r q2 => ?_, fun i l hi hl q => ?_, hz⟩
  · by_cases c : q = 232
    · subst c; rw [kd_232]; exact full32 _
    · rw [h q j c]; exact I.1 q j
  · rw [h q j (fun e => hA j (by rw [← e]; exact a))]; exact I.2.1 q j a
  · rw [h _ _ (by unfold isZ at hS; omega)] at q
    rw [h _ _ (by unfold isZ at hS; omega)]
    exact R1 S hS l hl q
  · rw [h _ _ (by unfold isS at ht; omega)] at q
    rw [h _ _ (by unfold isS at ht; omega)]
    exact R2 t ht r q
  · rw [h _ _ (by decide)] at q q2
    rw [h _ _ (by decide)]
    exact R3 hw q r q2
  · rw [h _ _ (by decide)] at q
    rw [h _ _ (by decide)]
    exact R4 i l hi hl q
theorem inv232p {A : Nat → Nat → Prop} {F : Nat → Nat → Int32} {σ : zSto} {r v : Int32} (I : zInv A F 0 σ) (hA : ¬ A 232 r.toNatClampNeg) (h : 2 ≤ ti r ∧ ti r ≤ 6) (hv : ti r = 2 → ti (σ.1 223 16) = 0 → 0 ≤ ti v ∧ ti v ≤ 9) : zInv A F 0 (zI σ 232 r.toNatClampNeg v) := by
  obtain ⟨R1, R2, R3, R4, R5⟩ := I.2.2
  have tn := tn_eq r
  refine wIx I hA (by rw [kd_232]; exact full32 v) ⟨fun S hS l hl q => ?_, fun t ht r q => ?_, fun hw q r q2 => ?_, fun i l hi hl q => ?_, fun z => ?_, fun z => absurd z (by decide), fun z => absurd z (by decide)⟩
  · rw [zI_q (Or.inl (by unfold isZ at hS; omega))] at q
    rw [zI_q (Or.inl (by unfold isZ at hS; omega))]
    exact R1 S hS l hl q
  · rw [zI_q (Or.inl (by unfold isS at ht; omega))] at q
    rw [zI_q (Or.inl (by unfold isS at ht; omega))]
    exact R2 t ht r q
  · rw [zI_q (Or.inl (by decide))] at q q2
    rw [zI_q (Or.inl (by decide))]
    exact R3 hw q r q2
  · rw [zI_q (Or.inl (by decide))] at q
    rw [zI_q (Or.inl (by decide))]
    exact R4 i l hi hl q
  · rw [zI_q (Or.inr (by omega)), zI_q (Or.inr (by omega)), zI_q (Or.inl (by decide))]
    refine ⟨(R5.1 z).1, fun z2 => ⟨fun j hj => ?_, fun p hp => ?_⟩⟩
    · by_cases c : j = r.toNatClampNeg
      · subst c
        rw [zI_s]
        rcases (show ti r = 2 ∨ ti r = 3 ∨ ti r = 4 ∨ ti r = 5 ∨ ti r = 6 by omega) with e | e | e | e | e
        · rw [tn, e]; exact hv e z2
        · rw [tn, e]; exact full32 v
        · rw [tn, e]; exact full32 v
        · rw [tn, e]; exact full32 v
        · rw [tn, e]; exact full32 v
      · rw [zI_q (Or.inr c)]; exact ((R5.1 z).2 z2).1 j hj
    · rw [zI_q (Or.inl (by decide))]; exact ((R5.1 z).2 z2).2 p hp
theorem inv234 {A : Nat → Nat → Prop} {F : Nat → Nat → Int32} {σ : zSto} {j0 : Nat} {v : Int32} (I : zInv A F 0 σ) (hA : ¬ A 234 j0) (hv : ti (σ.1 223 16) = 0 → 0 ≤ ti v ∧ ti v ≤ 10) : zInv A F 0 (zI σ 234 j0 v) := by
  obtain ⟨R1, R2, R3, R4, R5⟩ := I.2.2
  refine wIx I hA (by rw [kd_234]; exact full32 v) ⟨fun S hS l hl q => ?_, fun t ht r q => ?_, fun hw q r q2 => ?_, fun i l hi hl q => ?_, fun z => ?_, fun z => absurd z (by decide), fun z => absurd z (by decide)⟩
  · rw [zI_q (Or.inl (by unfold isZ at hS; omega))] at q
    rw [zI_q (Or.inl (by unfold isZ at hS; omega))]
    exact R1 S hS l hl q
  · rw [zI_q (Or.inl (by unfold isS at ht; omega))] at q
    rw [zI_q (Or.inl (by unfold isS at ht; omega))]
    exact R2 t ht r q
  · rw [zI_q (Or.inl (by decide))] at q q2
    rw [zI_q (Or.inl (by decide))]
    exact R3 hw q r q2
  · rw [zI_q (Or.inl (by decide))] at q
    rw [zI_q (Or.inl (by decide))]
    exact R4 i l hi hl q
  · rw [zI_q (Or.inl (by decide)), zI_q (Or.inl (by decide)), zI_q (Or.inl (by decide))]
    refine ⟨(R5.1 z).1, fun z2 => ⟨fun j hj => ?_, fun p hp => ?_⟩⟩
    · rw [zI_q (Or.inl (by decide))]; exact ((R5.1 z).2 z2).1 j hj
    · by_cases c : p = j0
      · subst c; rw [zI_s]; exact hv z2
      · rw [zI_q (Or.inr c)]; exact ((R5.1 z).2 z2).2 p hp
set_option maxHeartbeats 4000000 in
theorem s_X10_postLine {A : Nat → Nat → Prop} {F : Nat → Nat → Int32} (pr : okR A) (b : Int) {σ : zSto} (I : zInv A F 0 σ) (hb : b ≤ ti (σ.1 223 9)) {P : Int32 → zSto → Prop} (hP : ∀ r σ2, zInv A F 0 σ2 → (¬ r = 0 → b ≤ ti (σ2.1 223 9) ∧ (ti (σ2.1 223 12) = 4 → b < ti (σ2.1 223 9))) → P r σ2) : w_X10_postLine σ P := by
  unfold w_X10_postLine
  have l0 := lit_0
  have l1 := lit_1
  have l2 := lit_2
  have l3 := lit_3
  have l5 := lit_5
  have l7 := lit_7
  have l16 := lit_16
  have l30 := lit_30
  refine t_take pr b 0 (0 : Int32) _ _ l0 (by decide) I hb (fun r2 σ1 I1 z1 => ?_)
  intro b1
  refine ⟨fun q => hP _ σ1 I1 (fun h => absurd rfl h), fun q => ?_⟩
  obtain ⟨y1, -, v1, -⟩ := z1 q
  refine t_take pr b 1 (1 : Int32) _ _ l1 (by decide) I1 y1 (fun r4 σ3 I3 z3 => ?_)
  intro b3
  refine ⟨fun q => hP _ σ3 I3 (fun h => absurd rfl h), fun q => ?_⟩
  obtain ⟨y3, -, v3, k3⟩ := z3 q
  refine t_take pr b 2 (2 : Int32) _ _ l2 (by decide) I3 y3 (fun r6 σ5 I5 z5 => ?_)
  intro b5
  refine ⟨fun q => ?_, fun q => hP _ σ5 I5 (fun h => absurd rfl h)⟩
  obtain ⟨y5, s5, v5, k5⟩ := z5 q
  have g0 : σ5.1 233 0 = σ1.1 233 0 := (k5 0 (by decide)).trans (k3 0 (by decide))
  have g1 : σ5.1 233 1 = σ3.1 233 1 := k5 1 (by decide)
  have T := I5.2.2.2.2.2.2.1 rfl
  refine f_keep 0 7 5 16 3 _ _ _ _ _ l0 l7 l5 l16 l3 (by decide) (by decide) (by decide) ⟨T.1.1, T.1.2.1⟩ (by decide) (by decide) (by decide) (hP _ σ5 I5 (fun _ => ⟨y5, s5⟩)) (fun k hk hk2 σ7 h7 => ?_)
  have m : ∀ q j, q ≠ 232 → σ7.1 q j = σ5.1 q j := fun q j hq => by rw [h7 q j, if_neg (by omega), if_neg (by omega)]
  refine hP _ σ7 (inv_232 I5 (by decide) (fun j => pR pr (by decide)) m ⟨fun _ => ⟨?_, fun z => ⟨fun j hj => ?_, fun p hp => ?_⟩⟩, fun z => absurd z (by decide), fun z => absurd z (by decide)⟩) (fun _ => by rw [m 223 9 (by decide), m 223 12 (by decide)]; exact ⟨y5, s5⟩)
  · have t1 := tadd (x := σ5.1 232 0) (y := (1 : Int32)) (by omega)
    rw [h7 232 0, if_pos ⟨rfl, rfl⟩, h7 232 1, if_neg (by omega), if_neg (by omega)]
    omega
  · rw [m 223 16 (by decide)] at z
    obtain ⟨u1, u2⟩ := T.2 z
    have w5 := v5 z
    have w3 := v3 w5.1
    have w1 := v1 w3.1
    rw [h7 232 j]
    by_cases c : j = 0
    · subst c
      rw [if_pos ⟨rfl, rfl⟩]
      have t1 := tadd (x := σ5.1 232 0) (y := (1 : Int32)) (by omega)
      show (0 : Int) ≤ _ ∧ _ ≤ (16 : Int)
      omega
    · rw [if_neg (by omega)]
      by_cases c2 : 7 + 5 * k ≤ j ∧ j < 7 + 5 * k + 3
      · rw [if_pos ⟨rfl, c2⟩, (lo_14 hj).1, (lo_14 hj).2]
        have q1 := lh_p ⟨k, hk2⟩
        have q2 := lh_p2 ⟨k, hk2⟩
        rcases (show j = 7 + 5 * k ∨ j = 7 + 5 * k + 1 ∨ j = 7 + 5 * k + 2 by omega) with e | e | e
        · subst e
          rw [q1.1.1, q1.1.2, show 7 + 5 * k - (7 + 5 * k) = 0 by omega, g0]
          omega
        · subst e
          rw [q1.2.1.1, q1.2.1.2, show 7 + 5 * k + 1 - (7 + 5 * k) = 1 by omega, g1]
          omega
        · subst e
          rw [q2.1, q2.2.1]
          exact full32 _
      · rw [if_neg (by omega)]
        exact u1 j hj
  · rw [m 223 16 (by decide)] at z
    rw [m 234 p (by decide)]
    exact (T.2 z).2 p hp
set_option maxHeartbeats 4000000 in
theorem s_X10_riderLine {A : Nat → Nat → Prop} {F : Nat → Nat → Int32} (pr : okR A) (b : Int) {σ : zSto} (I : zInv A F 0 σ) (hb : b ≤ ti (σ.1 223 9)) {P : Int32 → zSto → Prop} (hP : ∀ r σ2, zInv A F 0 σ2 → (¬ r = 0 → b ≤ ti (σ2.1 223 9) ∧ (ti (σ2.1 223 12) = 4 → b < ti (σ2.1 223 9))) → P r σ2) : w_X10_riderLine σ P := by
  unfold w_X10_riderLine
  have l0 := lit_0
  have l1 := lit_1
  have l2 := lit_2
  have l3 := lit_3
  have l4 := lit_4
  have l5 := lit_5
  have l6 := lit_6
  have l87 := lit_87
  refine t_takePost pr b 0 (0 : Int32) _ l0 (by decide) I hb (fun r2 σ1 I1 z1 => ?_)
  intro b1
  refine ⟨fun q => hP _ σ1 I1 (fun h => absurd rfl h), fun q => ?_⟩
  obtain ⟨y1, -, v1, -⟩ := z1 q
  have d0 : 0 ≤ ti (σ1.1 233 0) ∧ ti (σ1.1 233 0) ≤ 999 := rdr I1 kd_233 rfl rfl
  have t0 := tadd (x := σ1.1 233 0) (y := (1 : Int32)) (by omega)
  refine t_takePost pr b 1 (1 : Int32) _ l1 (by decide) I1 y1 (fun r4 σ3 I3 z3 => ?_)
  intro b3
  refine ⟨fun q => hP _ σ3 I3 (fun h => absurd rfl h), fun q => ?_⟩
  obtain ⟨y3, -, v3, k3⟩ := z3 q
  refine t_take pr b 2 (2 : Int32) _ _ l2 (by decide) I3 y3 (fun r6 σ5 I5 z5 => ?_)
  intro b5
  refine ⟨fun q => hP _ σ5 I5 (fun h => absurd rfl h), fun q => ?_⟩
  obtain ⟨y5, -, v5, k5⟩ := z5 q
  refine t_take pr b 3 (3 : Int32) _ _ l3 (by decide) I5 y5 (fun r8 σ7 I7 z7 => ?_)
  intro b7
  refine ⟨fun q => hP _ σ7 I7 (fun h => absurd rfl h), fun q => ?_⟩
  obtain ⟨y7, -, v7, k7⟩ := z7 q
  refine t_take pr b 4 (4 : Int32) _ _ l4 (by decide) I7 y7 (fun r10 σ9 I9 z9 => ?_)
  intro b9
  refine ⟨fun q => hP _ σ9 I9 (fun h => absurd rfl h), fun q => ?_⟩
  obtain ⟨y9, -, v9, k9⟩ := z9 q
  refine t_take pr b 5 (5 : Int32) _ _ l5 (by decide) I9 y9 (fun r12 σ11 I11 z11 => ?_)
  intro b11
  refine ⟨fun q => ?_, fun q => hP _ σ11 I11 (fun h => absurd rfl h)⟩
  obtain ⟨y11, s11, v11, k11⟩ := z11 q
  have g0 : σ11.1 233 0 = σ1.1 233 0 := (k11 0 (by decide)).trans ((k9 0 (by decide)).trans ((k7 0 (by decide)).trans ((k5 0 (by decide)).trans (k3 0 (by decide)))))
  have g1 : σ11.1 233 1 = σ3.1 233 1 := (k11 1 (by decide)).trans ((k9 1 (by decide)).trans ((k7 1 (by decide)).trans (k5 1 (by decide))))
  have T := I11.2.2.2.2.2.2.1 rfl
  refine f_keep 1 87 6 6 6 _ _ _ _ _ l1 l87 l6 l6 l6 (by decide) (by decide) (by decide) ⟨T.1.2.2.1, T.1.2.2.2⟩ (by decide) (by decide) (by decide) (hP _ σ11 I11 (fun _ => ⟨y11, s11⟩)) (fun k hk hk2 σ13 h13 => ?_)
  have m : ∀ q j, q ≠ 232 → σ13.1 q j = σ11.1 q j := fun q j hq => by rw [h13 q j, if_neg (by omega), if_neg (by omega)]
  refine hP _ σ13 (inv_232 I11 (by decide) (fun j => pR pr (by decide)) m ⟨fun _ => ⟨?_, fun z => ⟨fun j hj => ?_, fun p hp => ?_⟩⟩, fun z => absurd z (by decide), fun z => absurd z (by decide)⟩) (fun _ => by rw [m 223 9 (by decide), m 223 12 (by decide)]; exact ⟨y11, s11⟩)
  · have t1 := tadd (x := σ11.1 232 1) (y := (1 : Int32)) (by omega)
    rw [h13 232 1, if_pos ⟨rfl, rfl⟩, h13 232 0, if_neg (by omega), if_neg (by omega)]
    omega
  · rw [m 223 16 (by decide)] at z
    obtain ⟨u1, u2⟩ := T.2 z
    have w11 := v11 z
    have w9 := v9 w11.1
    have w7 := v7 w9.1
    have w5 := v5 w7.1
    have w3 := v3 w5.1
    have w1 := v1 w3.1
    rw [h13 232 j]
    by_cases c : j = 1
    · subst c
      rw [if_pos ⟨rfl, rfl⟩]
      have t1 := tadd (x := σ11.1 232 1) (y := (1 : Int32)) (by omega)
      show (0 : Int) ≤ _ ∧ _ ≤ (6 : Int)
      omega
    · rw [if_neg (by omega)]
      by_cases c2 : 87 + 6 * k ≤ j ∧ j < 87 + 6 * k + 6
      · rw [if_pos ⟨rfl, c2⟩, (lo_14 hj).1, (lo_14 hj).2]
        have q1 := lh_r ⟨k, hk2⟩
        rcases (show j = 87 + 6 * k ∨ j = 87 + 6 * k + 1 ∨ 87 + 6 * k + 2 ≤ j by omega) with e | e | e
        · subst e
          rw [q1.1.1, q1.1.2, show 87 + 6 * k - (87 + 6 * k) = 0 by omega, g0]
          omega
        · subst e
          rw [q1.2.1, q1.2.2, show 87 + 6 * k + 1 - (87 + 6 * k) = 1 by omega, g1]
          omega
        · have q2 := lh_r2 ⟨k, hk2⟩ ⟨j - (87 + 6 * k + 2), by omega⟩
          have e2 : 87 + 6 * k + 2 + (j - (87 + 6 * k + 2)) = j := by omega
          simp only [e2] at q2
          rw [q2.1, q2.2]
          exact full32 _
      · rw [if_neg (by omega)]
        exact u1 j hj
  · rw [m 223 16 (by decide)] at z
    rw [m 234 p (by decide)]
    exact (T.2 z).2 p hp
set_option maxHeartbeats 4000000 in
theorem s_X10_ofPost {A : Nat → Nat → Prop} {F : Nat → Nat → Int32} (pr : okR A) (b : Int) (a1 : Int32) {σ : zSto} (I : zInv A F 0 σ) (hb : b ≤ ti (σ.1 223 9)) {P : Int32 → zSto → Prop} (hP : ∀ r σ2, zInv A F 0 σ2 → (¬ r = 0 → b ≤ ti (σ2.1 223 9) ∧ (ti (σ2.1 223 12) = 4 → b < ti (σ2.1 223 9))) → P r σ2) : w_X10_ofPost a1 σ P := by
  unfold w_X10_ofPost
  have l0 := lit_0
  have l1 := lit_1
  have l10 := lit_10
  have l16 := lit_16
  refine t_takePost pr b 0 (0 : Int32) _ l0 (by decide) I hb (fun r2 σ1 I1 z1 => ?_)
  intro b1
  refine ⟨fun q => hP _ σ1 I1 (fun h => absurd rfl h), fun q => ?_⟩
  obtain ⟨y1, -, v1, -⟩ := z1 q
  refine ⟨fun qa => ?_, fun qa => ?_⟩
  · refine t_take pr b 1 (1 : Int32) _ _ l1 (by decide) I1 y1 (fun r4 σ3 I3 z3 => ?_)
    intro b3
    refine ⟨fun q => ?_, fun q => hP _ σ3 I3 (fun h => absurd rfl h)⟩
    obtain ⟨y3, s3, v3, k3⟩ := z3 q
    have d0 : 0 ≤ ti (σ3.1 233 0) ∧ ti (σ3.1 233 0) ≤ 999 := rdr I3 kd_233 rfl rfl
    refine ⟨fun _ => hP _ σ3 I3 (fun _ => ⟨y3, s3⟩), fun qb => ⟨fun _ => ⟨vin (by have := nle_t qb; omega), fun σ6 e6 => ?_⟩, fun qc => absurd qa qc⟩⟩
    refine hP _ σ6 (by rw [e6]; exact wI0 I3 (pR pr (by decide)) rk_235 kd_235) (fun _ => ?_)
    rw [zI_q' e6 (Or.inl (by decide)), zI_q' e6 (Or.inl (by decide))]
    exact ⟨y3, s3⟩
  · refine t_take pr b 1 (1 : Int32) _ _ l1 (by decide) I1 y1 (fun r4 σ3 I3 z3 => ?_)
    intro b3
    refine ⟨fun q => ?_, fun q => hP _ σ3 I3 (fun h => absurd rfl h)⟩
    obtain ⟨y3, s3, v3, k3⟩ := z3 q
    have d0 : 0 ≤ ti (σ3.1 233 0) ∧ ti (σ3.1 233 0) ≤ 999 := rdr I3 kd_233 rfl rfl
    refine ⟨fun _ => hP _ σ3 I3 (fun _ => ⟨y3, s3⟩), fun qb => ⟨fun qc => absurd qc qa, fun qc => ⟨vin (by have := nle_t qb; omega), fun σ6 e6 => ?_⟩⟩⟩
    refine hP _ σ6 (by rw [e6]; exact inv234 I3 (pR pr (by decide)) (fun z => by have := v3 z; omega)) (fun _ => ?_)
    rw [zI_q' e6 (Or.inl (by decide)), zI_q' e6 (Or.inl (by decide))]
    exact ⟨y3, s3⟩
set_option maxHeartbeats 4000000 in
theorem s_X10_lineLine {A : Nat → Nat → Prop} {F : Nat → Nat → Int32} (pr : okR A) (b : Int) (a1 : Int64) (a2 : Int32) {σ : zSto} (I : zInv A F 0 σ) (pre0 : b ≤ ti (σ.1 223 9)) {P : Int32 → zSto → Prop} (hP : ∀ (r : Int32) (σ2 : zSto), zInv A F 0 σ2 → (¬ r = 0 → b ≤ ti (σ2.1 223 9) ∧ (ti (σ2.1 223 12) = 4 → b < ti (σ2.1 223 9))) → P r σ2) : w_X10_lineLine a1 a2 σ P := by
  unfold w_X10_lineLine
  refine s_X10_plainOf a1 I (fun r2 hr2 uy1 => ?_)
  refine ⟨?_, ?_⟩
  · intro uq2
    have ul3 := lit_m1
    have uc4 := ne_t uq2
    refine ⟨?_, ?_⟩
    · intro uq5
      refine ⟨?_, ?_⟩
      · intro uq6
        have ud7 : 0 ≤ ti ((σ.1 223 9)) ∧ ti ((σ.1 223 9)) ≤ 600 := rdr I kd_223 rfl rfl
        refine s_X10_token (okR_K pr) b I (by omega) (fun σ3 uI8 uy9 uy10 => ?_)
        refine ⟨?_, ?_⟩
        · intro uq11
          have uc12 := ne_t uq11
          refine ⟨?_, ?_⟩
          · intro uq13
            have ul14 := lit_2
            have uc15 := ne_t uq13
            refine ⟨?_, ?_⟩
            · intro uq16
              have ul17 := lit_4
              have uc18 := ne_t uq16
              refine ⟨?_, ?_⟩
              · intro uq19
                have ul20 := lit_6
                have uc21 := ne_t uq19
                have ul22 := lit_0
                have ul23 := lit_9
                have ud24 : 0 ≤ ti ((σ3.1 223 9)) ∧ ti ((σ3.1 223 9)) ≤ 600 := rdr uI8 kd_223 rfl rfl
                refine s_X10_take0 pr b (0 : Int32) (9 : Int32) uI8 (by omega) (fun r5 σ4 uI25 uz26 uz27 => ?_)
                intro ub28
                have uc29 := bool_t ub28
                refine ⟨?_, ?_⟩
                · intro uq30
                  have uc31 := uz26 uq30
                  have uc32 := uz27 uq30
                  have uc33 := ne_t uq30
                  refine ⟨vin (by omega), ?_⟩
                  intro σ7 eσ7
                  have uI34 : zInv A F 0 σ7 := by rw [eσ7]; exact inv232p uI25 (pR pr (by decide)) (by omega) (by omega)
                  have ue35 : ti ((σ7.1 223 9)) = ti ((σ4.1 223 9)) := by rw [eσ7]; exact congrArg ti (zI_q (Or.inl (by omega)))
                  have ud36 : 0 ≤ ti ((σ4.1 223 9)) ∧ ti ((σ4.1 223 9)) ≤ 600 := rdr uI25 kd_223 rfl rfl
                  have ud37 : 0 ≤ ti ((σ7.1 223 9)) ∧ ti ((σ7.1 223 9)) ≤ 600 := rdr uI34 kd_223 rfl rfl
                  have ue38 : ti ((σ7.1 223 12)) = ti ((σ4.1 223 12)) := by rw [eσ7]; exact congrArg ti (zI_q (Or.inl (by omega)))
                  exact hP (1 : Int32) σ7 uI34 (fun _ => by omega)
                · intro uq39
                  have uc40 := eq_t uq39
                  have ud41 : 0 ≤ ti ((σ4.1 223 9)) ∧ ti ((σ4.1 223 9)) ≤ 600 := rdr uI25 kd_223 rfl rfl
                  exact hP (0 : Int32) σ4 uI25 (fun q => absurd rfl q)
              · intro uq42
                have ul43 := lit_6
                have uc44 := eq_t uq42
                have ul45 := lit_0
                have ul46 := lit_999
                have ud47 : 0 ≤ ti ((σ3.1 223 9)) ∧ ti ((σ3.1 223 9)) ≤ 600 := rdr uI8 kd_223 rfl rfl
                refine s_X10_take0 pr b (0 : Int32) (999 : Int32) uI8 (by omega) (fun r9 σ8 uI48 uz49 uz50 => ?_)
                intro ub51
                have uc52 := bool_t ub51
                refine ⟨?_, ?_⟩
                · intro uq53
                  have uc54 := uz49 uq53
                  have uc55 := uz50 uq53
                  have uc56 := ne_t uq53
                  refine ⟨vin (by omega), ?_⟩
                  intro σ11 eσ11
                  have uI57 : zInv A F 0 σ11 := by rw [eσ11]; exact inv232p uI48 (pR pr (by decide)) (by omega) (by omega)
                  have ue58 : ti ((σ11.1 223 9)) = ti ((σ8.1 223 9)) := by rw [eσ11]; exact congrArg ti (zI_q (Or.inl (by omega)))
                  have ud59 : 0 ≤ ti ((σ8.1 223 9)) ∧ ti ((σ8.1 223 9)) ≤ 600 := rdr uI48 kd_223 rfl rfl
                  have ud60 : 0 ≤ ti ((σ11.1 223 9)) ∧ ti ((σ11.1 223 9)) ≤ 600 := rdr uI57 kd_223 rfl rfl
                  have ue61 : ti ((σ11.1 223 12)) = ti ((σ8.1 223 12)) := by rw [eσ11]; exact congrArg ti (zI_q (Or.inl (by omega)))
                  exact hP (1 : Int32) σ11 uI57 (fun _ => by omega)
                · intro uq62
                  have uc63 := eq_t uq62
                  have ud64 : 0 ≤ ti ((σ8.1 223 9)) ∧ ti ((σ8.1 223 9)) ≤ 600 := rdr uI48 kd_223 rfl rfl
                  exact hP (0 : Int32) σ8 uI48 (fun q => absurd rfl q)
            · intro uq65
              have ul66 := lit_4
              have uc67 := eq_t uq65
              have ul68 := lit_0
              have ul69 := lit_60
              have ud70 : 0 ≤ ti ((σ3.1 223 9)) ∧ ti ((σ3.1 223 9)) ≤ 600 := rdr uI8 kd_223 rfl rfl
              refine s_X10_take0 pr b (0 : Int32) (60 : Int32) uI8 (by omega) (fun r13 σ12 uI71 uz72 uz73 => ?_)
              intro ub74
              have uc75 := bool_t ub74
              refine ⟨?_, ?_⟩
              · intro uq76
                have uc77 := uz72 uq76
                have uc78 := uz73 uq76
                have uc79 := ne_t uq76
                refine ⟨vin (by omega), ?_⟩
                intro σ15 eσ15
                have uI80 : zInv A F 0 σ15 := by rw [eσ15]; exact inv232p uI71 (pR pr (by decide)) (by omega) (by omega)
                have ue81 : ti ((σ15.1 223 9)) = ti ((σ12.1 223 9)) := by rw [eσ15]; exact congrArg ti (zI_q (Or.inl (by omega)))
                have ud82 : 0 ≤ ti ((σ12.1 223 9)) ∧ ti ((σ12.1 223 9)) ≤ 600 := rdr uI71 kd_223 rfl rfl
                have ud83 : 0 ≤ ti ((σ15.1 223 9)) ∧ ti ((σ15.1 223 9)) ≤ 600 := rdr uI80 kd_223 rfl rfl
                have ue84 : ti ((σ15.1 223 12)) = ti ((σ12.1 223 12)) := by rw [eσ15]; exact congrArg ti (zI_q (Or.inl (by omega)))
                exact hP (1 : Int32) σ15 uI80 (fun _ => by omega)
              · intro uq85
                have uc86 := eq_t uq85
                have ud87 : 0 ≤ ti ((σ12.1 223 9)) ∧ ti ((σ12.1 223 9)) ≤ 600 := rdr uI71 kd_223 rfl rfl
                exact hP (0 : Int32) σ12 uI71 (fun q => absurd rfl q)
          · intro uq88
            have ul89 := lit_2
            have uc90 := eq_t uq88
            refine ⟨?_, ?_⟩
            · intro uq91
              have ul92 := lit_4
              have uc93 := ne_t uq91
              refine ⟨?_, ?_⟩
              · intro uq94
                have ul95 := lit_6
                have uc96 := ne_t uq94
                have ul97 := lit_0
                have ul98 := lit_1
                have ul99 := lit_9
                have ud100 : 0 ≤ ti ((σ3.1 223 9)) ∧ ti ((σ3.1 223 9)) ≤ 600 := rdr uI8 kd_223 rfl rfl
                refine s_X10_take0 pr b (1 : Int32) (9 : Int32) uI8 (by omega) (fun r17 σ16 uI101 uz102 uz103 => ?_)
                intro ub104
                have uc105 := bool_t ub104
                refine ⟨?_, ?_⟩
                · intro uq106
                  have uc107 := uz102 uq106
                  have uc108 := uz103 uq106
                  have uc109 := ne_t uq106
                  refine ⟨vin (by omega), ?_⟩
                  intro σ19 eσ19
                  have uI110 : zInv A F 0 σ19 := by rw [eσ19]; exact inv232p uI101 (pR pr (by decide)) (by omega) (by omega)
                  have ue111 : ti ((σ19.1 223 9)) = ti ((σ16.1 223 9)) := by rw [eσ19]; exact congrArg ti (zI_q (Or.inl (by omega)))
                  have ud112 : 0 ≤ ti ((σ16.1 223 9)) ∧ ti ((σ16.1 223 9)) ≤ 600 := rdr uI101 kd_223 rfl rfl
                  have ud113 : 0 ≤ ti ((σ19.1 223 9)) ∧ ti ((σ19.1 223 9)) ≤ 600 := rdr uI110 kd_223 rfl rfl
                  have ue114 : ti ((σ19.1 223 12)) = ti ((σ16.1 223 12)) := by rw [eσ19]; exact congrArg ti (zI_q (Or.inl (by omega)))
                  exact hP (1 : Int32) σ19 uI110 (fun _ => by omega)
                · intro uq115
                  have uc116 := eq_t uq115
                  have ud117 : 0 ≤ ti ((σ16.1 223 9)) ∧ ti ((σ16.1 223 9)) ≤ 600 := rdr uI101 kd_223 rfl rfl
                  exact hP (0 : Int32) σ16 uI101 (fun q => absurd rfl q)
              · intro uq118
                have ul119 := lit_6
                have uc120 := eq_t uq118
                have ul121 := lit_0
                have ul122 := lit_1
                have ul123 := lit_999
                have ud124 : 0 ≤ ti ((σ3.1 223 9)) ∧ ti ((σ3.1 223 9)) ≤ 600 := rdr uI8 kd_223 rfl rfl
                refine s_X10_take0 pr b (1 : Int32) (999 : Int32) uI8 (by omega) (fun r21 σ20 uI125 uz126 uz127 => ?_)
                intro ub128
                have uc129 := bool_t ub128
                refine ⟨?_, ?_⟩
                · intro uq130
                  have uc131 := uz126 uq130
                  have uc132 := uz127 uq130
                  have uc133 := ne_t uq130
                  refine ⟨vin (by omega), ?_⟩
                  intro σ23 eσ23
                  have uI134 : zInv A F 0 σ23 := by rw [eσ23]; exact inv232p uI125 (pR pr (by decide)) (by omega) (by omega)
                  have ue135 : ti ((σ23.1 223 9)) = ti ((σ20.1 223 9)) := by rw [eσ23]; exact congrArg ti (zI_q (Or.inl (by omega)))
                  have ud136 : 0 ≤ ti ((σ20.1 223 9)) ∧ ti ((σ20.1 223 9)) ≤ 600 := rdr uI125 kd_223 rfl rfl
                  have ud137 : 0 ≤ ti ((σ23.1 223 9)) ∧ ti ((σ23.1 223 9)) ≤ 600 := rdr uI134 kd_223 rfl rfl
                  have ue138 : ti ((σ23.1 223 12)) = ti ((σ20.1 223 12)) := by rw [eσ23]; exact congrArg ti (zI_q (Or.inl (by omega)))
                  exact hP (1 : Int32) σ23 uI134 (fun _ => by omega)
                · intro uq139
                  have uc140 := eq_t uq139
                  have ud141 : 0 ≤ ti ((σ20.1 223 9)) ∧ ti ((σ20.1 223 9)) ≤ 600 := rdr uI125 kd_223 rfl rfl
                  exact hP (0 : Int32) σ20 uI125 (fun q => absurd rfl q)
            · intro uq142
              have ul143 := lit_4
              have uc144 := eq_t uq142
              have ul145 := lit_0
              have ul146 := lit_1
              have ul147 := lit_60
              have ud148 : 0 ≤ ti ((σ3.1 223 9)) ∧ ti ((σ3.1 223 9)) ≤ 600 := rdr uI8 kd_223 rfl rfl
              refine s_X10_take0 pr b (1 : Int32) (60 : Int32) uI8 (by omega) (fun r25 σ24 uI149 uz150 uz151 => ?_)
              intro ub152
              have uc153 := bool_t ub152
              refine ⟨?_, ?_⟩
              · intro uq154
                have uc155 := uz150 uq154
                have uc156 := uz151 uq154
                have uc157 := ne_t uq154
                refine ⟨vin (by omega), ?_⟩
                intro σ27 eσ27
                have uI158 : zInv A F 0 σ27 := by rw [eσ27]; exact inv232p uI149 (pR pr (by decide)) (by omega) (by omega)
                have ue159 : ti ((σ27.1 223 9)) = ti ((σ24.1 223 9)) := by rw [eσ27]; exact congrArg ti (zI_q (Or.inl (by omega)))
                have ud160 : 0 ≤ ti ((σ24.1 223 9)) ∧ ti ((σ24.1 223 9)) ≤ 600 := rdr uI149 kd_223 rfl rfl
                have ud161 : 0 ≤ ti ((σ27.1 223 9)) ∧ ti ((σ27.1 223 9)) ≤ 600 := rdr uI158 kd_223 rfl rfl
                have ue162 : ti ((σ27.1 223 12)) = ti ((σ24.1 223 12)) := by rw [eσ27]; exact congrArg ti (zI_q (Or.inl (by omega)))
                exact hP (1 : Int32) σ27 uI158 (fun _ => by omega)
              · intro uq163
                have uc164 := eq_t uq163
                have ud165 : 0 ≤ ti ((σ24.1 223 9)) ∧ ti ((σ24.1 223 9)) ≤ 600 := rdr uI149 kd_223 rfl rfl
                exact hP (0 : Int32) σ24 uI149 (fun q => absurd rfl q)
        · intro uq166
          have uc167 := eq_t uq166
          refine ⟨?_, ?_⟩
          · intro uq168
            refine ⟨?_, ?_⟩
            · intro uq169
              refine ⟨?_, ?_⟩
              · intro uq170
                have ul171 := lit_0
                have ud172 : 0 ≤ ti ((σ3.1 223 9)) ∧ ti ((σ3.1 223 9)) ≤ 600 := rdr uI8 kd_223 rfl rfl
                refine s_X10_ofPost pr b (0 : Int32) uI8 (by omega) (fun r29 σ28 uI173 uz174 => ?_)
                intro ub175
                have uc176 := bool_t ub175
                refine ⟨ub175, ?_⟩
                have ud177 : 0 ≤ ti ((σ28.1 223 9)) ∧ ti ((σ28.1 223 9)) ≤ 600 := rdr uI173 kd_223 rfl rfl
                exact hP r29 σ28 uI173 (fun q => by have := uz174 q; omega)
              · intro uq178
                have ul179 := lit_1
                have ud180 : 0 ≤ ti ((σ3.1 223 9)) ∧ ti ((σ3.1 223 9)) ≤ 600 := rdr uI8 kd_223 rfl rfl
                refine s_X10_ofPost pr b (1 : Int32) uI8 (by omega) (fun r31 σ30 uI181 uz182 => ?_)
                intro ub183
                have uc184 := bool_t ub183
                refine ⟨ub183, ?_⟩
                have ud185 : 0 ≤ ti ((σ30.1 223 9)) ∧ ti ((σ30.1 223 9)) ≤ 600 := rdr uI181 kd_223 rfl rfl
                exact hP r31 σ30 uI181 (fun q => by have := uz182 q; omega)
            · intro uq186
              have ud187 : 0 ≤ ti ((σ3.1 223 9)) ∧ ti ((σ3.1 223 9)) ≤ 600 := rdr uI8 kd_223 rfl rfl
              refine s_X10_riderLine pr b uI8 (by omega) (fun r33 σ32 uI188 uz189 => ?_)
              intro ub190
              have uc191 := bool_t ub190
              refine ⟨ub190, ?_⟩
              have ud192 : 0 ≤ ti ((σ32.1 223 9)) ∧ ti ((σ32.1 223 9)) ≤ 600 := rdr uI188 kd_223 rfl rfl
              exact hP r33 σ32 uI188 (fun q => by have := uz189 q; omega)
          · intro uq193
            have ud194 : 0 ≤ ti ((σ3.1 223 9)) ∧ ti ((σ3.1 223 9)) ≤ 600 := rdr uI8 kd_223 rfl rfl
            refine s_X10_postLine pr b uI8 (by omega) (fun r35 σ34 uI195 uz196 => ?_)
            intro ub197
            have uc198 := bool_t ub197
            refine ⟨ub197, ?_⟩
            have ud199 : 0 ≤ ti ((σ34.1 223 9)) ∧ ti ((σ34.1 223 9)) ≤ 600 := rdr uI195 kd_223 rfl rfl
            exact hP r35 σ34 uI195 (fun q => by have := uz196 q; omega)
      · intro uq200
        have ul201 := lit_1
        have ul202 := lit_6
        refine s_X10_full (okR_J pr) (1 : Int32) (6 : Int32) a2 (by omega) I (fun σ36 uI203 uy204 => ?_)
        have ud205 : 0 ≤ ti ((σ36.1 223 9)) ∧ ti ((σ36.1 223 9)) ≤ 600 := rdr uI203 kd_223 rfl rfl
        refine s_X10_token (okR_K pr) b uI203 (by omega) (fun σ37 uI206 uy207 uy208 => ?_)
        refine ⟨?_, ?_⟩
        · intro uq209
          have uc210 := ne_t uq209
          refine ⟨?_, ?_⟩
          · intro uq211
            have ul212 := lit_2
            have uc213 := ne_t uq211
            refine ⟨?_, ?_⟩
            · intro uq214
              have ul215 := lit_4
              have uc216 := ne_t uq214
              refine ⟨?_, ?_⟩
              · intro uq217
                have uc218 := ne_t uq217
                have ul219 := lit_0
                have ul220 := lit_9
                have ud221 : 0 ≤ ti ((σ37.1 223 9)) ∧ ti ((σ37.1 223 9)) ≤ 600 := rdr uI206 kd_223 rfl rfl
                refine s_X10_take0 pr b (0 : Int32) (9 : Int32) uI206 (by omega) (fun r39 σ38 uI222 uz223 uz224 => ?_)
                intro ub225
                have uc226 := bool_t ub225
                refine ⟨?_, ?_⟩
                · intro uq227
                  have uc228 := uz223 uq227
                  have uc229 := uz224 uq227
                  have uc230 := ne_t uq227
                  refine ⟨vin (by omega), ?_⟩
                  intro σ41 eσ41
                  have uI231 : zInv A F 0 σ41 := by rw [eσ41]; exact inv232p uI222 (pR pr (by decide)) (by omega) (by omega)
                  have ue232 : ti ((σ41.1 223 9)) = ti ((σ38.1 223 9)) := by rw [eσ41]; exact congrArg ti (zI_q (Or.inl (by omega)))
                  have ud233 : 0 ≤ ti ((σ38.1 223 9)) ∧ ti ((σ38.1 223 9)) ≤ 600 := rdr uI222 kd_223 rfl rfl
                  have ud234 : 0 ≤ ti ((σ41.1 223 9)) ∧ ti ((σ41.1 223 9)) ≤ 600 := rdr uI231 kd_223 rfl rfl
                  have ue235 : ti ((σ41.1 223 12)) = ti ((σ38.1 223 12)) := by rw [eσ41]; exact congrArg ti (zI_q (Or.inl (by omega)))
                  exact hP (1 : Int32) σ41 uI231 (fun _ => by omega)
                · intro uq236
                  have uc237 := eq_t uq236
                  have ud238 : 0 ≤ ti ((σ38.1 223 9)) ∧ ti ((σ38.1 223 9)) ≤ 600 := rdr uI222 kd_223 rfl rfl
                  exact hP (0 : Int32) σ38 uI222 (fun q => absurd rfl q)
              · intro uq239
                have uc240 := eq_t uq239
                have ul241 := lit_0
                have ul242 := lit_999
                have ud243 : 0 ≤ ti ((σ37.1 223 9)) ∧ ti ((σ37.1 223 9)) ≤ 600 := rdr uI206 kd_223 rfl rfl
                refine s_X10_take0 pr b (0 : Int32) (999 : Int32) uI206 (by omega) (fun r43 σ42 uI244 uz245 uz246 => ?_)
                intro ub247
                have uc248 := bool_t ub247
                refine ⟨?_, ?_⟩
                · intro uq249
                  have uc250 := uz245 uq249
                  have uc251 := uz246 uq249
                  have uc252 := ne_t uq249
                  refine ⟨vin (by omega), ?_⟩
                  intro σ45 eσ45
                  have uI253 : zInv A F 0 σ45 := by rw [eσ45]; exact inv232p uI244 (pR pr (by decide)) (by omega) (by omega)
                  have ue254 : ti ((σ45.1 223 9)) = ti ((σ42.1 223 9)) := by rw [eσ45]; exact congrArg ti (zI_q (Or.inl (by omega)))
                  have ud255 : 0 ≤ ti ((σ42.1 223 9)) ∧ ti ((σ42.1 223 9)) ≤ 600 := rdr uI244 kd_223 rfl rfl
                  have ud256 : 0 ≤ ti ((σ45.1 223 9)) ∧ ti ((σ45.1 223 9)) ≤ 600 := rdr uI253 kd_223 rfl rfl
                  have ue257 : ti ((σ45.1 223 12)) = ti ((σ42.1 223 12)) := by rw [eσ45]; exact congrArg ti (zI_q (Or.inl (by omega)))
                  exact hP (1 : Int32) σ45 uI253 (fun _ => by omega)
                · intro uq258
                  have uc259 := eq_t uq258
                  have ud260 : 0 ≤ ti ((σ42.1 223 9)) ∧ ti ((σ42.1 223 9)) ≤ 600 := rdr uI244 kd_223 rfl rfl
                  exact hP (0 : Int32) σ42 uI244 (fun q => absurd rfl q)
            · intro uq261
              have ul262 := lit_4
              have uc263 := eq_t uq261
              have ul264 := lit_0
              have ul265 := lit_60
              have ud266 : 0 ≤ ti ((σ37.1 223 9)) ∧ ti ((σ37.1 223 9)) ≤ 600 := rdr uI206 kd_223 rfl rfl
              refine s_X10_take0 pr b (0 : Int32) (60 : Int32) uI206 (by omega) (fun r47 σ46 uI267 uz268 uz269 => ?_)
              intro ub270
              have uc271 := bool_t ub270
              refine ⟨?_, ?_⟩
              · intro uq272
                have uc273 := uz268 uq272
                have uc274 := uz269 uq272
                have uc275 := ne_t uq272
                refine ⟨vin (by omega), ?_⟩
                intro σ49 eσ49
                have uI276 : zInv A F 0 σ49 := by rw [eσ49]; exact inv232p uI267 (pR pr (by decide)) (by omega) (by omega)
                have ue277 : ti ((σ49.1 223 9)) = ti ((σ46.1 223 9)) := by rw [eσ49]; exact congrArg ti (zI_q (Or.inl (by omega)))
                have ud278 : 0 ≤ ti ((σ46.1 223 9)) ∧ ti ((σ46.1 223 9)) ≤ 600 := rdr uI267 kd_223 rfl rfl
                have ud279 : 0 ≤ ti ((σ49.1 223 9)) ∧ ti ((σ49.1 223 9)) ≤ 600 := rdr uI276 kd_223 rfl rfl
                have ue280 : ti ((σ49.1 223 12)) = ti ((σ46.1 223 12)) := by rw [eσ49]; exact congrArg ti (zI_q (Or.inl (by omega)))
                exact hP (1 : Int32) σ49 uI276 (fun _ => by omega)
              · intro uq281
                have uc282 := eq_t uq281
                have ud283 : 0 ≤ ti ((σ46.1 223 9)) ∧ ti ((σ46.1 223 9)) ≤ 600 := rdr uI267 kd_223 rfl rfl
                exact hP (0 : Int32) σ46 uI267 (fun q => absurd rfl q)
          · intro uq284
            have ul285 := lit_2
            have uc286 := eq_t uq284
            refine ⟨?_, ?_⟩
            · intro uq287
              have ul288 := lit_4
              have uc289 := ne_t uq287
              refine ⟨?_, ?_⟩
              · intro uq290
                have uc291 := ne_t uq290
                have ul292 := lit_0
                have ul293 := lit_9
                have ud294 : 0 ≤ ti ((σ37.1 223 9)) ∧ ti ((σ37.1 223 9)) ≤ 600 := rdr uI206 kd_223 rfl rfl
                refine s_X10_take0 pr b (1 : Int32) (9 : Int32) uI206 (by omega) (fun r51 σ50 uI295 uz296 uz297 => ?_)
                intro ub298
                have uc299 := bool_t ub298
                refine ⟨?_, ?_⟩
                · intro uq300
                  have uc301 := uz296 uq300
                  have uc302 := uz297 uq300
                  have uc303 := ne_t uq300
                  refine ⟨vin (by omega), ?_⟩
                  intro σ53 eσ53
                  have uI304 : zInv A F 0 σ53 := by rw [eσ53]; exact inv232p uI295 (pR pr (by decide)) (by omega) (by omega)
                  have ue305 : ti ((σ53.1 223 9)) = ti ((σ50.1 223 9)) := by rw [eσ53]; exact congrArg ti (zI_q (Or.inl (by omega)))
                  have ud306 : 0 ≤ ti ((σ50.1 223 9)) ∧ ti ((σ50.1 223 9)) ≤ 600 := rdr uI295 kd_223 rfl rfl
                  have ud307 : 0 ≤ ti ((σ53.1 223 9)) ∧ ti ((σ53.1 223 9)) ≤ 600 := rdr uI304 kd_223 rfl rfl
                  have ue308 : ti ((σ53.1 223 12)) = ti ((σ50.1 223 12)) := by rw [eσ53]; exact congrArg ti (zI_q (Or.inl (by omega)))
                  exact hP (1 : Int32) σ53 uI304 (fun _ => by omega)
                · intro uq309
                  have uc310 := eq_t uq309
                  have ud311 : 0 ≤ ti ((σ50.1 223 9)) ∧ ti ((σ50.1 223 9)) ≤ 600 := rdr uI295 kd_223 rfl rfl
                  exact hP (0 : Int32) σ50 uI295 (fun q => absurd rfl q)
              · intro uq312
                have uc313 := eq_t uq312
                have ul314 := lit_0
                have ul315 := lit_999
                have ud316 : 0 ≤ ti ((σ37.1 223 9)) ∧ ti ((σ37.1 223 9)) ≤ 600 := rdr uI206 kd_223 rfl rfl
                refine s_X10_take0 pr b (1 : Int32) (999 : Int32) uI206 (by omega) (fun r55 σ54 uI317 uz318 uz319 => ?_)
                intro ub320
                have uc321 := bool_t ub320
                refine ⟨?_, ?_⟩
                · intro uq322
                  have uc323 := uz318 uq322
                  have uc324 := uz319 uq322
                  have uc325 := ne_t uq322
                  refine ⟨vin (by omega), ?_⟩
                  intro σ57 eσ57
                  have uI326 : zInv A F 0 σ57 := by rw [eσ57]; exact inv232p uI317 (pR pr (by decide)) (by omega) (by omega)
                  have ue327 : ti ((σ57.1 223 9)) = ti ((σ54.1 223 9)) := by rw [eσ57]; exact congrArg ti (zI_q (Or.inl (by omega)))
                  have ud328 : 0 ≤ ti ((σ54.1 223 9)) ∧ ti ((σ54.1 223 9)) ≤ 600 := rdr uI317 kd_223 rfl rfl
                  have ud329 : 0 ≤ ti ((σ57.1 223 9)) ∧ ti ((σ57.1 223 9)) ≤ 600 := rdr uI326 kd_223 rfl rfl
                  have ue330 : ti ((σ57.1 223 12)) = ti ((σ54.1 223 12)) := by rw [eσ57]; exact congrArg ti (zI_q (Or.inl (by omega)))
                  exact hP (1 : Int32) σ57 uI326 (fun _ => by omega)
                · intro uq331
                  have uc332 := eq_t uq331
                  have ud333 : 0 ≤ ti ((σ54.1 223 9)) ∧ ti ((σ54.1 223 9)) ≤ 600 := rdr uI317 kd_223 rfl rfl
                  exact hP (0 : Int32) σ54 uI317 (fun q => absurd rfl q)
            · intro uq334
              have ul335 := lit_4
              have uc336 := eq_t uq334
              have ul337 := lit_0
              have ul338 := lit_60
              have ud339 : 0 ≤ ti ((σ37.1 223 9)) ∧ ti ((σ37.1 223 9)) ≤ 600 := rdr uI206 kd_223 rfl rfl
              refine s_X10_take0 pr b (1 : Int32) (60 : Int32) uI206 (by omega) (fun r59 σ58 uI340 uz341 uz342 => ?_)
              intro ub343
              have uc344 := bool_t ub343
              refine ⟨?_, ?_⟩
              · intro uq345
                have uc346 := uz341 uq345
                have uc347 := uz342 uq345
                have uc348 := ne_t uq345
                refine ⟨vin (by omega), ?_⟩
                intro σ61 eσ61
                have uI349 : zInv A F 0 σ61 := by rw [eσ61]; exact inv232p uI340 (pR pr (by decide)) (by omega) (by omega)
                have ue350 : ti ((σ61.1 223 9)) = ti ((σ58.1 223 9)) := by rw [eσ61]; exact congrArg ti (zI_q (Or.inl (by omega)))
                have ud351 : 0 ≤ ti ((σ58.1 223 9)) ∧ ti ((σ58.1 223 9)) ≤ 600 := rdr uI340 kd_223 rfl rfl
                have ud352 : 0 ≤ ti ((σ61.1 223 9)) ∧ ti ((σ61.1 223 9)) ≤ 600 := rdr uI349 kd_223 rfl rfl
                have ue353 : ti ((σ61.1 223 12)) = ti ((σ58.1 223 12)) := by rw [eσ61]; exact congrArg ti (zI_q (Or.inl (by omega)))
                exact hP (1 : Int32) σ61 uI349 (fun _ => by omega)
              · intro uq354
                have uc355 := eq_t uq354
                have ud356 : 0 ≤ ti ((σ58.1 223 9)) ∧ ti ((σ58.1 223 9)) ≤ 600 := rdr uI340 kd_223 rfl rfl
                exact hP (0 : Int32) σ58 uI340 (fun q => absurd rfl q)
        · intro uq357
          have uc358 := eq_t uq357
          refine ⟨?_, ?_⟩
          · intro uq359
            refine ⟨?_, ?_⟩
            · intro uq360
              refine ⟨?_, ?_⟩
              · intro uq361
                have ul362 := lit_0
                have ud363 : 0 ≤ ti ((σ37.1 223 9)) ∧ ti ((σ37.1 223 9)) ≤ 600 := rdr uI206 kd_223 rfl rfl
                refine s_X10_ofPost pr b (0 : Int32) uI206 (by omega) (fun r63 σ62 uI364 uz365 => ?_)
                intro ub366
                have uc367 := bool_t ub366
                refine ⟨ub366, ?_⟩
                have ud368 : 0 ≤ ti ((σ62.1 223 9)) ∧ ti ((σ62.1 223 9)) ≤ 600 := rdr uI364 kd_223 rfl rfl
                exact hP r63 σ62 uI364 (fun q => by have := uz365 q; omega)
              · intro uq369
                have ud370 : 0 ≤ ti ((σ37.1 223 9)) ∧ ti ((σ37.1 223 9)) ≤ 600 := rdr uI206 kd_223 rfl rfl
                refine s_X10_ofPost pr b (1 : Int32) uI206 (by omega) (fun r65 σ64 uI371 uz372 => ?_)
                intro ub373
                have uc374 := bool_t ub373
                refine ⟨ub373, ?_⟩
                have ud375 : 0 ≤ ti ((σ64.1 223 9)) ∧ ti ((σ64.1 223 9)) ≤ 600 := rdr uI371 kd_223 rfl rfl
                exact hP r65 σ64 uI371 (fun q => by have := uz372 q; omega)
            · intro uq376
              have ud377 : 0 ≤ ti ((σ37.1 223 9)) ∧ ti ((σ37.1 223 9)) ≤ 600 := rdr uI206 kd_223 rfl rfl
              refine s_X10_riderLine pr b uI206 (by omega) (fun r67 σ66 uI378 uz379 => ?_)
              intro ub380
              have uc381 := bool_t ub380
              refine ⟨ub380, ?_⟩
              have ud382 : 0 ≤ ti ((σ66.1 223 9)) ∧ ti ((σ66.1 223 9)) ≤ 600 := rdr uI378 kd_223 rfl rfl
              exact hP r67 σ66 uI378 (fun q => by have := uz379 q; omega)
          · intro uq383
            have ud384 : 0 ≤ ti ((σ37.1 223 9)) ∧ ti ((σ37.1 223 9)) ≤ 600 := rdr uI206 kd_223 rfl rfl
            refine s_X10_postLine pr b uI206 (by omega) (fun r69 σ68 uI385 uz386 => ?_)
            intro ub387
            have uc388 := bool_t ub387
            refine ⟨ub387, ?_⟩
            have ud389 : 0 ≤ ti ((σ68.1 223 9)) ∧ ti ((σ68.1 223 9)) ≤ 600 := rdr uI385 kd_223 rfl rfl
            exact hP r69 σ68 uI385 (fun q => by have := uz386 q; omega)
    · intro uq390
      have ul391 := lit_0
      have ul392 := lit_16
      refine s_X10_full (okR_J pr) (0 : Int32) (16 : Int32) a2 (by omega) I (fun σ70 uI393 uy394 => ?_)
      have ud395 : 0 ≤ ti ((σ70.1 223 9)) ∧ ti ((σ70.1 223 9)) ≤ 600 := rdr uI393 kd_223 rfl rfl
      refine s_X10_token (okR_K pr) b uI393 (by omega) (fun σ71 uI396 uy397 uy398 => ?_)
      refine ⟨?_, ?_⟩
      · intro uq399
        have uc400 := ne_t uq399
        refine ⟨?_, ?_⟩
        · intro uq401
          have ul402 := lit_2
          have uc403 := ne_t uq401
          refine ⟨?_, ?_⟩
          · intro uq404
            have ul405 := lit_4
            have uc406 := ne_t uq404
            refine ⟨?_, ?_⟩
            · intro uq407
              have ul408 := lit_6
              have uc409 := ne_t uq407
              have ul410 := lit_9
              have ud411 : 0 ≤ ti ((σ71.1 223 9)) ∧ ti ((σ71.1 223 9)) ≤ 600 := rdr uI396 kd_223 rfl rfl
              refine s_X10_take0 pr b (0 : Int32) (9 : Int32) uI396 (by omega) (fun r73 σ72 uI412 uz413 uz414 => ?_)
              intro ub415
              have uc416 := bool_t ub415
              refine ⟨?_, ?_⟩
              · intro uq417
                have uc418 := uz413 uq417
                have uc419 := uz414 uq417
                have uc420 := ne_t uq417
                refine ⟨vin (by omega), ?_⟩
                intro σ75 eσ75
                have uI421 : zInv A F 0 σ75 := by rw [eσ75]; exact inv232p uI412 (pR pr (by decide)) (by omega) (by omega)
                have ue422 : ti ((σ75.1 223 9)) = ti ((σ72.1 223 9)) := by rw [eσ75]; exact congrArg ti (zI_q (Or.inl (by omega)))
                have ud423 : 0 ≤ ti ((σ72.1 223 9)) ∧ ti ((σ72.1 223 9)) ≤ 600 := rdr uI412 kd_223 rfl rfl
                have ud424 : 0 ≤ ti ((σ75.1 223 9)) ∧ ti ((σ75.1 223 9)) ≤ 600 := rdr uI421 kd_223 rfl rfl
                have ue425 : ti ((σ75.1 223 12)) = ti ((σ72.1 223 12)) := by rw [eσ75]; exact congrArg ti (zI_q (Or.inl (by omega)))
                exact hP (1 : Int32) σ75 uI421 (fun _ => by omega)
              · intro uq426
                have uc427 := eq_t uq426
                have ud428 : 0 ≤ ti ((σ72.1 223 9)) ∧ ti ((σ72.1 223 9)) ≤ 600 := rdr uI412 kd_223 rfl rfl
                exact hP (0 : Int32) σ72 uI412 (fun q => absurd rfl q)
            · intro uq429
              have ul430 := lit_6
              have uc431 := eq_t uq429
              have ul432 := lit_999
              have ud433 : 0 ≤ ti ((σ71.1 223 9)) ∧ ti ((σ71.1 223 9)) ≤ 600 := rdr uI396 kd_223 rfl rfl
              refine s_X10_take0 pr b (0 : Int32) (999 : Int32) uI396 (by omega) (fun r77 σ76 uI434 uz435 uz436 => ?_)
              intro ub437
              have uc438 := bool_t ub437
              refine ⟨?_, ?_⟩
              · intro uq439
                have uc440 := uz435 uq439
                have uc441 := uz436 uq439
                have uc442 := ne_t uq439
                refine ⟨vin (by omega), ?_⟩
                intro σ79 eσ79
                have uI443 : zInv A F 0 σ79 := by rw [eσ79]; exact inv232p uI434 (pR pr (by decide)) (by omega) (by omega)
                have ue444 : ti ((σ79.1 223 9)) = ti ((σ76.1 223 9)) := by rw [eσ79]; exact congrArg ti (zI_q (Or.inl (by omega)))
                have ud445 : 0 ≤ ti ((σ76.1 223 9)) ∧ ti ((σ76.1 223 9)) ≤ 600 := rdr uI434 kd_223 rfl rfl
                have ud446 : 0 ≤ ti ((σ79.1 223 9)) ∧ ti ((σ79.1 223 9)) ≤ 600 := rdr uI443 kd_223 rfl rfl
                have ue447 : ti ((σ79.1 223 12)) = ti ((σ76.1 223 12)) := by rw [eσ79]; exact congrArg ti (zI_q (Or.inl (by omega)))
                exact hP (1 : Int32) σ79 uI443 (fun _ => by omega)
              · intro uq448
                have uc449 := eq_t uq448
                have ud450 : 0 ≤ ti ((σ76.1 223 9)) ∧ ti ((σ76.1 223 9)) ≤ 600 := rdr uI434 kd_223 rfl rfl
                exact hP (0 : Int32) σ76 uI434 (fun q => absurd rfl q)
          · intro uq451
            have ul452 := lit_4
            have uc453 := eq_t uq451
            have ul454 := lit_60
            have ud455 : 0 ≤ ti ((σ71.1 223 9)) ∧ ti ((σ71.1 223 9)) ≤ 600 := rdr uI396 kd_223 rfl rfl
            refine s_X10_take0 pr b (0 : Int32) (60 : Int32) uI396 (by omega) (fun r81 σ80 uI456 uz457 uz458 => ?_)
            intro ub459
            have uc460 := bool_t ub459
            refine ⟨?_, ?_⟩
            · intro uq461
              have uc462 := uz457 uq461
              have uc463 := uz458 uq461
              have uc464 := ne_t uq461
              refine ⟨vin (by omega), ?_⟩
              intro σ83 eσ83
              have uI465 : zInv A F 0 σ83 := by rw [eσ83]; exact inv232p uI456 (pR pr (by decide)) (by omega) (by omega)
              have ue466 : ti ((σ83.1 223 9)) = ti ((σ80.1 223 9)) := by rw [eσ83]; exact congrArg ti (zI_q (Or.inl (by omega)))
              have ud467 : 0 ≤ ti ((σ80.1 223 9)) ∧ ti ((σ80.1 223 9)) ≤ 600 := rdr uI456 kd_223 rfl rfl
              have ud468 : 0 ≤ ti ((σ83.1 223 9)) ∧ ti ((σ83.1 223 9)) ≤ 600 := rdr uI465 kd_223 rfl rfl
              have ue469 : ti ((σ83.1 223 12)) = ti ((σ80.1 223 12)) := by rw [eσ83]; exact congrArg ti (zI_q (Or.inl (by omega)))
              exact hP (1 : Int32) σ83 uI465 (fun _ => by omega)
            · intro uq470
              have uc471 := eq_t uq470
              have ud472 : 0 ≤ ti ((σ80.1 223 9)) ∧ ti ((σ80.1 223 9)) ≤ 600 := rdr uI456 kd_223 rfl rfl
              exact hP (0 : Int32) σ80 uI456 (fun q => absurd rfl q)
        · intro uq473
          have ul474 := lit_2
          have uc475 := eq_t uq473
          refine ⟨?_, ?_⟩
          · intro uq476
            have ul477 := lit_4
            have uc478 := ne_t uq476
            refine ⟨?_, ?_⟩
            · intro uq479
              have ul480 := lit_6
              have uc481 := ne_t uq479
              have ul482 := lit_1
              have ul483 := lit_9
              have ud484 : 0 ≤ ti ((σ71.1 223 9)) ∧ ti ((σ71.1 223 9)) ≤ 600 := rdr uI396 kd_223 rfl rfl
              refine s_X10_take0 pr b (1 : Int32) (9 : Int32) uI396 (by omega) (fun r85 σ84 uI485 uz486 uz487 => ?_)
              intro ub488
              have uc489 := bool_t ub488
              refine ⟨?_, ?_⟩
              · intro uq490
                have uc491 := uz486 uq490
                have uc492 := uz487 uq490
                have uc493 := ne_t uq490
                refine ⟨vin (by omega), ?_⟩
                intro σ87 eσ87
                have uI494 : zInv A F 0 σ87 := by rw [eσ87]; exact inv232p uI485 (pR pr (by decide)) (by omega) (by omega)
                have ue495 : ti ((σ87.1 223 9)) = ti ((σ84.1 223 9)) := by rw [eσ87]; exact congrArg ti (zI_q (Or.inl (by omega)))
                have ud496 : 0 ≤ ti ((σ84.1 223 9)) ∧ ti ((σ84.1 223 9)) ≤ 600 := rdr uI485 kd_223 rfl rfl
                have ud497 : 0 ≤ ti ((σ87.1 223 9)) ∧ ti ((σ87.1 223 9)) ≤ 600 := rdr uI494 kd_223 rfl rfl
                have ue498 : ti ((σ87.1 223 12)) = ti ((σ84.1 223 12)) := by rw [eσ87]; exact congrArg ti (zI_q (Or.inl (by omega)))
                exact hP (1 : Int32) σ87 uI494 (fun _ => by omega)
              · intro uq499
                have uc500 := eq_t uq499
                have ud501 : 0 ≤ ti ((σ84.1 223 9)) ∧ ti ((σ84.1 223 9)) ≤ 600 := rdr uI485 kd_223 rfl rfl
                exact hP (0 : Int32) σ84 uI485 (fun q => absurd rfl q)
            · intro uq502
              have ul503 := lit_6
              have uc504 := eq_t uq502
              have ul505 := lit_1
              have ul506 := lit_999
              have ud507 : 0 ≤ ti ((σ71.1 223 9)) ∧ ti ((σ71.1 223 9)) ≤ 600 := rdr uI396 kd_223 rfl rfl
              refine s_X10_take0 pr b (1 : Int32) (999 : Int32) uI396 (by omega) (fun r89 σ88 uI508 uz509 uz510 => ?_)
              intro ub511
              have uc512 := bool_t ub511
              refine ⟨?_, ?_⟩
              · intro uq513
                have uc514 := uz509 uq513
                have uc515 := uz510 uq513
                have uc516 := ne_t uq513
                refine ⟨vin (by omega), ?_⟩
                intro σ91 eσ91
                have uI517 : zInv A F 0 σ91 := by rw [eσ91]; exact inv232p uI508 (pR pr (by decide)) (by omega) (by omega)
                have ue518 : ti ((σ91.1 223 9)) = ti ((σ88.1 223 9)) := by rw [eσ91]; exact congrArg ti (zI_q (Or.inl (by omega)))
                have ud519 : 0 ≤ ti ((σ88.1 223 9)) ∧ ti ((σ88.1 223 9)) ≤ 600 := rdr uI508 kd_223 rfl rfl
                have ud520 : 0 ≤ ti ((σ91.1 223 9)) ∧ ti ((σ91.1 223 9)) ≤ 600 := rdr uI517 kd_223 rfl rfl
                have ue521 : ti ((σ91.1 223 12)) = ti ((σ88.1 223 12)) := by rw [eσ91]; exact congrArg ti (zI_q (Or.inl (by omega)))
                exact hP (1 : Int32) σ91 uI517 (fun _ => by omega)
              · intro uq522
                have uc523 := eq_t uq522
                have ud524 : 0 ≤ ti ((σ88.1 223 9)) ∧ ti ((σ88.1 223 9)) ≤ 600 := rdr uI508 kd_223 rfl rfl
                exact hP (0 : Int32) σ88 uI508 (fun q => absurd rfl q)
          · intro uq525
            have ul526 := lit_4
            have uc527 := eq_t uq525
            have ul528 := lit_1
            have ul529 := lit_60
            have ud530 : 0 ≤ ti ((σ71.1 223 9)) ∧ ti ((σ71.1 223 9)) ≤ 600 := rdr uI396 kd_223 rfl rfl
            refine s_X10_take0 pr b (1 : Int32) (60 : Int32) uI396 (by omega) (fun r93 σ92 uI531 uz532 uz533 => ?_)
            intro ub534
            have uc535 := bool_t ub534
            refine ⟨?_, ?_⟩
            · intro uq536
              have uc537 := uz532 uq536
              have uc538 := uz533 uq536
              have uc539 := ne_t uq536
              refine ⟨vin (by omega), ?_⟩
              intro σ95 eσ95
              have uI540 : zInv A F 0 σ95 := by rw [eσ95]; exact inv232p uI531 (pR pr (by decide)) (by omega) (by omega)
              have ue541 : ti ((σ95.1 223 9)) = ti ((σ92.1 223 9)) := by rw [eσ95]; exact congrArg ti (zI_q (Or.inl (by omega)))
              have ud542 : 0 ≤ ti ((σ92.1 223 9)) ∧ ti ((σ92.1 223 9)) ≤ 600 := rdr uI531 kd_223 rfl rfl
              have ud543 : 0 ≤ ti ((σ95.1 223 9)) ∧ ti ((σ95.1 223 9)) ≤ 600 := rdr uI540 kd_223 rfl rfl
              have ue544 : ti ((σ95.1 223 12)) = ti ((σ92.1 223 12)) := by rw [eσ95]; exact congrArg ti (zI_q (Or.inl (by omega)))
              exact hP (1 : Int32) σ95 uI540 (fun _ => by omega)
            · intro uq545
              have uc546 := eq_t uq545
              have ud547 : 0 ≤ ti ((σ92.1 223 9)) ∧ ti ((σ92.1 223 9)) ≤ 600 := rdr uI531 kd_223 rfl rfl
              exact hP (0 : Int32) σ92 uI531 (fun q => absurd rfl q)
      · intro uq548
        have uc549 := eq_t uq548
        refine ⟨?_, ?_⟩
        · intro uq550
          refine ⟨?_, ?_⟩
          · intro uq551
            refine ⟨?_, ?_⟩
            · intro uq552
              have ud553 : 0 ≤ ti ((σ71.1 223 9)) ∧ ti ((σ71.1 223 9)) ≤ 600 := rdr uI396 kd_223 rfl rfl
              refine s_X10_ofPost pr b (0 : Int32) uI396 (by omega) (fun r97 σ96 uI554 uz555 => ?_)
              intro ub556
              have uc557 := bool_t ub556
              refine ⟨ub556, ?_⟩
              have ud558 : 0 ≤ ti ((σ96.1 223 9)) ∧ ti ((σ96.1 223 9)) ≤ 600 := rdr uI554 kd_223 rfl rfl
              exact hP r97 σ96 uI554 (fun q => by have := uz555 q; omega)
            · intro uq559
              have ul560 := lit_1
              have ud561 : 0 ≤ ti ((σ71.1 223 9)) ∧ ti ((σ71.1 223 9)) ≤ 600 := rdr uI396 kd_223 rfl rfl
              refine s_X10_ofPost pr b (1 : Int32) uI396 (by omega) (fun r99 σ98 uI562 uz563 => ?_)
              intro ub564
              have uc565 := bool_t ub564
              refine ⟨ub564, ?_⟩
              have ud566 : 0 ≤ ti ((σ98.1 223 9)) ∧ ti ((σ98.1 223 9)) ≤ 600 := rdr uI562 kd_223 rfl rfl
              exact hP r99 σ98 uI562 (fun q => by have := uz563 q; omega)
          · intro uq567
            have ud568 : 0 ≤ ti ((σ71.1 223 9)) ∧ ti ((σ71.1 223 9)) ≤ 600 := rdr uI396 kd_223 rfl rfl
            refine s_X10_riderLine pr b uI396 (by omega) (fun r101 σ100 uI569 uz570 => ?_)
            intro ub571
            have uc572 := bool_t ub571
            refine ⟨ub571, ?_⟩
            have ud573 : 0 ≤ ti ((σ100.1 223 9)) ∧ ti ((σ100.1 223 9)) ≤ 600 := rdr uI569 kd_223 rfl rfl
            exact hP r101 σ100 uI569 (fun q => by have := uz570 q; omega)
        · intro uq574
          have ud575 : 0 ≤ ti ((σ71.1 223 9)) ∧ ti ((σ71.1 223 9)) ≤ 600 := rdr uI396 kd_223 rfl rfl
          refine s_X10_postLine pr b uI396 (by omega) (fun r103 σ102 uI576 uz577 => ?_)
          intro ub578
          have uc579 := bool_t ub578
          refine ⟨ub578, ?_⟩
          have ud580 : 0 ≤ ti ((σ102.1 223 9)) ∧ ti ((σ102.1 223 9)) ≤ 600 := rdr uI576 kd_223 rfl rfl
          exact hP r103 σ102 uI576 (fun q => by have := uz577 q; omega)
  · intro uq581
    have ul582 := lit_m1
    have uc583 := eq_t uq581
    refine ⟨?_, ?_⟩
    · intro uq584
      refine ⟨?_, ?_⟩
      · intro uq585
        refine ⟨?_, ?_⟩
        · intro uq586
          have ud587 : 0 ≤ ti ((σ.1 223 9)) ∧ ti ((σ.1 223 9)) ≤ 600 := rdr I kd_223 rfl rfl
          refine s_X10_token (okR_K pr) b I (by omega) (fun σ104 uI588 uy589 uy590 => ?_)
          refine ⟨?_, ?_⟩
          · intro uq591
            have uc592 := ne_t uq591
            refine ⟨?_, ?_⟩
            · intro uq593
              have ul594 := lit_2
              have uc595 := ne_t uq593
              refine ⟨?_, ?_⟩
              · intro uq596
                have ul597 := lit_4
                have uc598 := ne_t uq596
                refine ⟨?_, ?_⟩
                · intro uq599
                  have ul600 := lit_6
                  have uc601 := ne_t uq599
                  have ul602 := lit_0
                  have ul603 := lit_9
                  have ud604 : 0 ≤ ti ((σ104.1 223 9)) ∧ ti ((σ104.1 223 9)) ≤ 600 := rdr uI588 kd_223 rfl rfl
                  refine s_X10_take0 pr b (0 : Int32) (9 : Int32) uI588 (by omega) (fun r106 σ105 uI605 uz606 uz607 => ?_)
                  intro ub608
                  have uc609 := bool_t ub608
                  refine ⟨?_, ?_⟩
                  · intro uq610
                    have uc611 := uz606 uq610
                    have uc612 := uz607 uq610
                    have uc613 := ne_t uq610
                    refine ⟨vin (by omega), ?_⟩
                    intro σ108 eσ108
                    have uI614 : zInv A F 0 σ108 := by rw [eσ108]; exact inv232p uI605 (pR pr (by decide)) (by omega) (by omega)
                    have ue615 : ti ((σ108.1 223 9)) = ti ((σ105.1 223 9)) := by rw [eσ108]; exact congrArg ti (zI_q (Or.inl (by omega)))
                    have ud616 : 0 ≤ ti ((σ105.1 223 9)) ∧ ti ((σ105.1 223 9)) ≤ 600 := rdr uI605 kd_223 rfl rfl
                    have ud617 : 0 ≤ ti ((σ108.1 223 9)) ∧ ti ((σ108.1 223 9)) ≤ 600 := rdr uI614 kd_223 rfl rfl
                    have ue618 : ti ((σ108.1 223 12)) = ti ((σ105.1 223 12)) := by rw [eσ108]; exact congrArg ti (zI_q (Or.inl (by omega)))
                    exact hP (1 : Int32) σ108 uI614 (fun _ => by omega)
                  · intro uq619
                    have uc620 := eq_t uq619
                    have ud621 : 0 ≤ ti ((σ105.1 223 9)) ∧ ti ((σ105.1 223 9)) ≤ 600 := rdr uI605 kd_223 rfl rfl
                    exact hP (0 : Int32) σ105 uI605 (fun q => absurd rfl q)
                · intro uq622
                  have ul623 := lit_6
                  have uc624 := eq_t uq622
                  have ul625 := lit_0
                  have ul626 := lit_999
                  have ud627 : 0 ≤ ti ((σ104.1 223 9)) ∧ ti ((σ104.1 223 9)) ≤ 600 := rdr uI588 kd_223 rfl rfl
                  refine s_X10_take0 pr b (0 : Int32) (999 : Int32) uI588 (by omega) (fun r110 σ109 uI628 uz629 uz630 => ?_)
                  intro ub631
                  have uc632 := bool_t ub631
                  refine ⟨?_, ?_⟩
                  · intro uq633
                    have uc634 := uz629 uq633
                    have uc635 := uz630 uq633
                    have uc636 := ne_t uq633
                    refine ⟨vin (by omega), ?_⟩
                    intro σ112 eσ112
                    have uI637 : zInv A F 0 σ112 := by rw [eσ112]; exact inv232p uI628 (pR pr (by decide)) (by omega) (by omega)
                    have ue638 : ti ((σ112.1 223 9)) = ti ((σ109.1 223 9)) := by rw [eσ112]; exact congrArg ti (zI_q (Or.inl (by omega)))
                    have ud639 : 0 ≤ ti ((σ109.1 223 9)) ∧ ti ((σ109.1 223 9)) ≤ 600 := rdr uI628 kd_223 rfl rfl
                    have ud640 : 0 ≤ ti ((σ112.1 223 9)) ∧ ti ((σ112.1 223 9)) ≤ 600 := rdr uI637 kd_223 rfl rfl
                    have ue641 : ti ((σ112.1 223 12)) = ti ((σ109.1 223 12)) := by rw [eσ112]; exact congrArg ti (zI_q (Or.inl (by omega)))
                    exact hP (1 : Int32) σ112 uI637 (fun _ => by omega)
                  · intro uq642
                    have uc643 := eq_t uq642
                    have ud644 : 0 ≤ ti ((σ109.1 223 9)) ∧ ti ((σ109.1 223 9)) ≤ 600 := rdr uI628 kd_223 rfl rfl
                    exact hP (0 : Int32) σ109 uI628 (fun q => absurd rfl q)
              · intro uq645
                have ul646 := lit_4
                have uc647 := eq_t uq645
                have ul648 := lit_0
                have ul649 := lit_60
                have ud650 : 0 ≤ ti ((σ104.1 223 9)) ∧ ti ((σ104.1 223 9)) ≤ 600 := rdr uI588 kd_223 rfl rfl
                refine s_X10_take0 pr b (0 : Int32) (60 : Int32) uI588 (by omega) (fun r114 σ113 uI651 uz652 uz653 => ?_)
                intro ub654
                have uc655 := bool_t ub654
                refine ⟨?_, ?_⟩
                · intro uq656
                  have uc657 := uz652 uq656
                  have uc658 := uz653 uq656
                  have uc659 := ne_t uq656
                  refine ⟨vin (by omega), ?_⟩
                  intro σ116 eσ116
                  have uI660 : zInv A F 0 σ116 := by rw [eσ116]; exact inv232p uI651 (pR pr (by decide)) (by omega) (by omega)
                  have ue661 : ti ((σ116.1 223 9)) = ti ((σ113.1 223 9)) := by rw [eσ116]; exact congrArg ti (zI_q (Or.inl (by omega)))
                  have ud662 : 0 ≤ ti ((σ113.1 223 9)) ∧ ti ((σ113.1 223 9)) ≤ 600 := rdr uI651 kd_223 rfl rfl
                  have ud663 : 0 ≤ ti ((σ116.1 223 9)) ∧ ti ((σ116.1 223 9)) ≤ 600 := rdr uI660 kd_223 rfl rfl
                  have ue664 : ti ((σ116.1 223 12)) = ti ((σ113.1 223 12)) := by rw [eσ116]; exact congrArg ti (zI_q (Or.inl (by omega)))
                  exact hP (1 : Int32) σ116 uI660 (fun _ => by omega)
                · intro uq665
                  have uc666 := eq_t uq665
                  have ud667 : 0 ≤ ti ((σ113.1 223 9)) ∧ ti ((σ113.1 223 9)) ≤ 600 := rdr uI651 kd_223 rfl rfl
                  exact hP (0 : Int32) σ113 uI651 (fun q => absurd rfl q)
            · intro uq668
              have ul669 := lit_2
              have uc670 := eq_t uq668
              refine ⟨?_, ?_⟩
              · intro uq671
                have ul672 := lit_4
                have uc673 := ne_t uq671
                refine ⟨?_, ?_⟩
                · intro uq674
                  have ul675 := lit_6
                  have uc676 := ne_t uq674
                  have ul677 := lit_0
                  have ul678 := lit_1
                  have ul679 := lit_9
                  have ud680 : 0 ≤ ti ((σ104.1 223 9)) ∧ ti ((σ104.1 223 9)) ≤ 600 := rdr uI588 kd_223 rfl rfl
                  refine s_X10_take0 pr b (1 : Int32) (9 : Int32) uI588 (by omega) (fun r118 σ117 uI681 uz682 uz683 => ?_)
                  intro ub684
                  have uc685 := bool_t ub684
                  refine ⟨?_, ?_⟩
                  · intro uq686
                    have uc687 := uz682 uq686
                    have uc688 := uz683 uq686
                    have uc689 := ne_t uq686
                    refine ⟨vin (by omega), ?_⟩
                    intro σ120 eσ120
                    have uI690 : zInv A F 0 σ120 := by rw [eσ120]; exact inv232p uI681 (pR pr (by decide)) (by omega) (by omega)
                    have ue691 : ti ((σ120.1 223 9)) = ti ((σ117.1 223 9)) := by rw [eσ120]; exact congrArg ti (zI_q (Or.inl (by omega)))
                    have ud692 : 0 ≤ ti ((σ117.1 223 9)) ∧ ti ((σ117.1 223 9)) ≤ 600 := rdr uI681 kd_223 rfl rfl
                    have ud693 : 0 ≤ ti ((σ120.1 223 9)) ∧ ti ((σ120.1 223 9)) ≤ 600 := rdr uI690 kd_223 rfl rfl
                    have ue694 : ti ((σ120.1 223 12)) = ti ((σ117.1 223 12)) := by rw [eσ120]; exact congrArg ti (zI_q (Or.inl (by omega)))
                    exact hP (1 : Int32) σ120 uI690 (fun _ => by omega)
                  · intro uq695
                    have uc696 := eq_t uq695
                    have ud697 : 0 ≤ ti ((σ117.1 223 9)) ∧ ti ((σ117.1 223 9)) ≤ 600 := rdr uI681 kd_223 rfl rfl
                    exact hP (0 : Int32) σ117 uI681 (fun q => absurd rfl q)
                · intro uq698
                  have ul699 := lit_6
                  have uc700 := eq_t uq698
                  have ul701 := lit_0
                  have ul702 := lit_1
                  have ul703 := lit_999
                  have ud704 : 0 ≤ ti ((σ104.1 223 9)) ∧ ti ((σ104.1 223 9)) ≤ 600 := rdr uI588 kd_223 rfl rfl
                  refine s_X10_take0 pr b (1 : Int32) (999 : Int32) uI588 (by omega) (fun r122 σ121 uI705 uz706 uz707 => ?_)
                  intro ub708
                  have uc709 := bool_t ub708
                  refine ⟨?_, ?_⟩
                  · intro uq710
                    have uc711 := uz706 uq710
                    have uc712 := uz707 uq710
                    have uc713 := ne_t uq710
                    refine ⟨vin (by omega), ?_⟩
                    intro σ124 eσ124
                    have uI714 : zInv A F 0 σ124 := by rw [eσ124]; exact inv232p uI705 (pR pr (by decide)) (by omega) (by omega)
                    have ue715 : ti ((σ124.1 223 9)) = ti ((σ121.1 223 9)) := by rw [eσ124]; exact congrArg ti (zI_q (Or.inl (by omega)))
                    have ud716 : 0 ≤ ti ((σ121.1 223 9)) ∧ ti ((σ121.1 223 9)) ≤ 600 := rdr uI705 kd_223 rfl rfl
                    have ud717 : 0 ≤ ti ((σ124.1 223 9)) ∧ ti ((σ124.1 223 9)) ≤ 600 := rdr uI714 kd_223 rfl rfl
                    have ue718 : ti ((σ124.1 223 12)) = ti ((σ121.1 223 12)) := by rw [eσ124]; exact congrArg ti (zI_q (Or.inl (by omega)))
                    exact hP (1 : Int32) σ124 uI714 (fun _ => by omega)
                  · intro uq719
                    have uc720 := eq_t uq719
                    have ud721 : 0 ≤ ti ((σ121.1 223 9)) ∧ ti ((σ121.1 223 9)) ≤ 600 := rdr uI705 kd_223 rfl rfl
                    exact hP (0 : Int32) σ121 uI705 (fun q => absurd rfl q)
              · intro uq722
                have ul723 := lit_4
                have uc724 := eq_t uq722
                have ul725 := lit_0
                have ul726 := lit_1
                have ul727 := lit_60
                have ud728 : 0 ≤ ti ((σ104.1 223 9)) ∧ ti ((σ104.1 223 9)) ≤ 600 := rdr uI588 kd_223 rfl rfl
                refine s_X10_take0 pr b (1 : Int32) (60 : Int32) uI588 (by omega) (fun r126 σ125 uI729 uz730 uz731 => ?_)
                intro ub732
                have uc733 := bool_t ub732
                refine ⟨?_, ?_⟩
                · intro uq734
                  have uc735 := uz730 uq734
                  have uc736 := uz731 uq734
                  have uc737 := ne_t uq734
                  refine ⟨vin (by omega), ?_⟩
                  intro σ128 eσ128
                  have uI738 : zInv A F 0 σ128 := by rw [eσ128]; exact inv232p uI729 (pR pr (by decide)) (by omega) (by omega)
                  have ue739 : ti ((σ128.1 223 9)) = ti ((σ125.1 223 9)) := by rw [eσ128]; exact congrArg ti (zI_q (Or.inl (by omega)))
                  have ud740 : 0 ≤ ti ((σ125.1 223 9)) ∧ ti ((σ125.1 223 9)) ≤ 600 := rdr uI729 kd_223 rfl rfl
                  have ud741 : 0 ≤ ti ((σ128.1 223 9)) ∧ ti ((σ128.1 223 9)) ≤ 600 := rdr uI738 kd_223 rfl rfl
                  have ue742 : ti ((σ128.1 223 12)) = ti ((σ125.1 223 12)) := by rw [eσ128]; exact congrArg ti (zI_q (Or.inl (by omega)))
                  exact hP (1 : Int32) σ128 uI738 (fun _ => by omega)
                · intro uq743
                  have uc744 := eq_t uq743
                  have ud745 : 0 ≤ ti ((σ125.1 223 9)) ∧ ti ((σ125.1 223 9)) ≤ 600 := rdr uI729 kd_223 rfl rfl
                  exact hP (0 : Int32) σ125 uI729 (fun q => absurd rfl q)
          · intro uq746
            have uc747 := eq_t uq746
            refine ⟨?_, ?_⟩
            · intro uq748
              refine ⟨?_, ?_⟩
              · intro uq749
                refine ⟨?_, ?_⟩
                · intro uq750
                  have ul751 := lit_0
                  have ud752 : 0 ≤ ti ((σ104.1 223 9)) ∧ ti ((σ104.1 223 9)) ≤ 600 := rdr uI588 kd_223 rfl rfl
                  refine s_X10_ofPost pr b (0 : Int32) uI588 (by omega) (fun r130 σ129 uI753 uz754 => ?_)
                  intro ub755
                  have uc756 := bool_t ub755
                  refine ⟨ub755, ?_⟩
                  have ud757 : 0 ≤ ti ((σ129.1 223 9)) ∧ ti ((σ129.1 223 9)) ≤ 600 := rdr uI753 kd_223 rfl rfl
                  exact hP r130 σ129 uI753 (fun q => by have := uz754 q; omega)
                · intro uq758
                  have ul759 := lit_1
                  have ud760 : 0 ≤ ti ((σ104.1 223 9)) ∧ ti ((σ104.1 223 9)) ≤ 600 := rdr uI588 kd_223 rfl rfl
                  refine s_X10_ofPost pr b (1 : Int32) uI588 (by omega) (fun r132 σ131 uI761 uz762 => ?_)
                  intro ub763
                  have uc764 := bool_t ub763
                  refine ⟨ub763, ?_⟩
                  have ud765 : 0 ≤ ti ((σ131.1 223 9)) ∧ ti ((σ131.1 223 9)) ≤ 600 := rdr uI761 kd_223 rfl rfl
                  exact hP r132 σ131 uI761 (fun q => by have := uz762 q; omega)
              · intro uq766
                have ud767 : 0 ≤ ti ((σ104.1 223 9)) ∧ ti ((σ104.1 223 9)) ≤ 600 := rdr uI588 kd_223 rfl rfl
                refine s_X10_riderLine pr b uI588 (by omega) (fun r134 σ133 uI768 uz769 => ?_)
                intro ub770
                have uc771 := bool_t ub770
                refine ⟨ub770, ?_⟩
                have ud772 : 0 ≤ ti ((σ133.1 223 9)) ∧ ti ((σ133.1 223 9)) ≤ 600 := rdr uI768 kd_223 rfl rfl
                exact hP r134 σ133 uI768 (fun q => by have := uz769 q; omega)
            · intro uq773
              have ud774 : 0 ≤ ti ((σ104.1 223 9)) ∧ ti ((σ104.1 223 9)) ≤ 600 := rdr uI588 kd_223 rfl rfl
              refine s_X10_postLine pr b uI588 (by omega) (fun r136 σ135 uI775 uz776 => ?_)
              intro ub777
              have uc778 := bool_t ub777
              refine ⟨ub777, ?_⟩
              have ud779 : 0 ≤ ti ((σ135.1 223 9)) ∧ ti ((σ135.1 223 9)) ≤ 600 := rdr uI775 kd_223 rfl rfl
              exact hP r136 σ135 uI775 (fun q => by have := uz776 q; omega)
        · intro uq780
          have ul781 := lit_1
          have ul782 := lit_6
          refine s_X10_full (okR_J pr) (1 : Int32) (6 : Int32) a2 (by omega) I (fun σ137 uI783 uy784 => ?_)
          have ud785 : 0 ≤ ti ((σ137.1 223 9)) ∧ ti ((σ137.1 223 9)) ≤ 600 := rdr uI783 kd_223 rfl rfl
          refine s_X10_token (okR_K pr) b uI783 (by omega) (fun σ138 uI786 uy787 uy788 => ?_)
          refine ⟨?_, ?_⟩
          · intro uq789
            have uc790 := ne_t uq789
            refine ⟨?_, ?_⟩
            · intro uq791
              have ul792 := lit_2
              have uc793 := ne_t uq791
              refine ⟨?_, ?_⟩
              · intro uq794
                have ul795 := lit_4
                have uc796 := ne_t uq794
                refine ⟨?_, ?_⟩
                · intro uq797
                  have uc798 := ne_t uq797
                  have ul799 := lit_0
                  have ul800 := lit_9
                  have ud801 : 0 ≤ ti ((σ138.1 223 9)) ∧ ti ((σ138.1 223 9)) ≤ 600 := rdr uI786 kd_223 rfl rfl
                  refine s_X10_take0 pr b (0 : Int32) (9 : Int32) uI786 (by omega) (fun r140 σ139 uI802 uz803 uz804 => ?_)
                  intro ub805
                  have uc806 := bool_t ub805
                  refine ⟨?_, ?_⟩
                  · intro uq807
                    have uc808 := uz803 uq807
                    have uc809 := uz804 uq807
                    have uc810 := ne_t uq807
                    refine ⟨vin (by omega), ?_⟩
                    intro σ142 eσ142
                    have uI811 : zInv A F 0 σ142 := by rw [eσ142]; exact inv232p uI802 (pR pr (by decide)) (by omega) (by omega)
                    have ue812 : ti ((σ142.1 223 9)) = ti ((σ139.1 223 9)) := by rw [eσ142]; exact congrArg ti (zI_q (Or.inl (by omega)))
                    have ud813 : 0 ≤ ti ((σ139.1 223 9)) ∧ ti ((σ139.1 223 9)) ≤ 600 := rdr uI802 kd_223 rfl rfl
                    have ud814 : 0 ≤ ti ((σ142.1 223 9)) ∧ ti ((σ142.1 223 9)) ≤ 600 := rdr uI811 kd_223 rfl rfl
                    have ue815 : ti ((σ142.1 223 12)) = ti ((σ139.1 223 12)) := by rw [eσ142]; exact congrArg ti (zI_q (Or.inl (by omega)))
                    exact hP (1 : Int32) σ142 uI811 (fun _ => by omega)
                  · intro uq816
                    have uc817 := eq_t uq816
                    have ud818 : 0 ≤ ti ((σ139.1 223 9)) ∧ ti ((σ139.1 223 9)) ≤ 600 := rdr uI802 kd_223 rfl rfl
                    exact hP (0 : Int32) σ139 uI802 (fun q => absurd rfl q)
                · intro uq819
                  have uc820 := eq_t uq819
                  have ul821 := lit_0
                  have ul822 := lit_999
                  have ud823 : 0 ≤ ti ((σ138.1 223 9)) ∧ ti ((σ138.1 223 9)) ≤ 600 := rdr uI786 kd_223 rfl rfl
                  refine s_X10_take0 pr b (0 : Int32) (999 : Int32) uI786 (by omega) (fun r144 σ143 uI824 uz825 uz826 => ?_)
                  intro ub827
                  have uc828 := bool_t ub827
                  refine ⟨?_, ?_⟩
                  · intro uq829
                    have uc830 := uz825 uq829
                    have uc831 := uz826 uq829
                    have uc832 := ne_t uq829
                    refine ⟨vin (by omega), ?_⟩
                    intro σ146 eσ146
                    have uI833 : zInv A F 0 σ146 := by rw [eσ146]; exact inv232p uI824 (pR pr (by decide)) (by omega) (by omega)
                    have ue834 : ti ((σ146.1 223 9)) = ti ((σ143.1 223 9)) := by rw [eσ146]; exact congrArg ti (zI_q (Or.inl (by omega)))
                    have ud835 : 0 ≤ ti ((σ143.1 223 9)) ∧ ti ((σ143.1 223 9)) ≤ 600 := rdr uI824 kd_223 rfl rfl
                    have ud836 : 0 ≤ ti ((σ146.1 223 9)) ∧ ti ((σ146.1 223 9)) ≤ 600 := rdr uI833 kd_223 rfl rfl
                    have ue837 : ti ((σ146.1 223 12)) = ti ((σ143.1 223 12)) := by rw [eσ146]; exact congrArg ti (zI_q (Or.inl (by omega)))
                    exact hP (1 : Int32) σ146 uI833 (fun _ => by omega)
                  · intro uq838
                    have uc839 := eq_t uq838
                    have ud840 : 0 ≤ ti ((σ143.1 223 9)) ∧ ti ((σ143.1 223 9)) ≤ 600 := rdr uI824 kd_223 rfl rfl
                    exact hP (0 : Int32) σ143 uI824 (fun q => absurd rfl q)
              · intro uq841
                have ul842 := lit_4
                have uc843 := eq_t uq841
                have ul844 := lit_0
                have ul845 := lit_60
                have ud846 : 0 ≤ ti ((σ138.1 223 9)) ∧ ti ((σ138.1 223 9)) ≤ 600 := rdr uI786 kd_223 rfl rfl
                refine s_X10_take0 pr b (0 : Int32) (60 : Int32) uI786 (by omega) (fun r148 σ147 uI847 uz848 uz849 => ?_)
                intro ub850
                have uc851 := bool_t ub850
                refine ⟨?_, ?_⟩
                · intro uq852
                  have uc853 := uz848 uq852
                  have uc854 := uz849 uq852
                  have uc855 := ne_t uq852
                  refine ⟨vin (by omega), ?_⟩
                  intro σ150 eσ150
                  have uI856 : zInv A F 0 σ150 := by rw [eσ150]; exact inv232p uI847 (pR pr (by decide)) (by omega) (by omega)
                  have ue857 : ti ((σ150.1 223 9)) = ti ((σ147.1 223 9)) := by rw [eσ150]; exact congrArg ti (zI_q (Or.inl (by omega)))
                  have ud858 : 0 ≤ ti ((σ147.1 223 9)) ∧ ti ((σ147.1 223 9)) ≤ 600 := rdr uI847 kd_223 rfl rfl
                  have ud859 : 0 ≤ ti ((σ150.1 223 9)) ∧ ti ((σ150.1 223 9)) ≤ 600 := rdr uI856 kd_223 rfl rfl
                  have ue860 : ti ((σ150.1 223 12)) = ti ((σ147.1 223 12)) := by rw [eσ150]; exact congrArg ti (zI_q (Or.inl (by omega)))
                  exact hP (1 : Int32) σ150 uI856 (fun _ => by omega)
                · intro uq861
                  have uc862 := eq_t uq861
                  have ud863 : 0 ≤ ti ((σ147.1 223 9)) ∧ ti ((σ147.1 223 9)) ≤ 600 := rdr uI847 kd_223 rfl rfl
                  exact hP (0 : Int32) σ147 uI847 (fun q => absurd rfl q)
            · intro uq864
              have ul865 := lit_2
              have uc866 := eq_t uq864
              refine ⟨?_, ?_⟩
              · intro uq867
                have ul868 := lit_4
                have uc869 := ne_t uq867
                refine ⟨?_, ?_⟩
                · intro uq870
                  have uc871 := ne_t uq870
                  have ul872 := lit_0
                  have ul873 := lit_9
                  have ud874 : 0 ≤ ti ((σ138.1 223 9)) ∧ ti ((σ138.1 223 9)) ≤ 600 := rdr uI786 kd_223 rfl rfl
                  refine s_X10_take0 pr b (1 : Int32) (9 : Int32) uI786 (by omega) (fun r152 σ151 uI875 uz876 uz877 => ?_)
                  intro ub878
                  have uc879 := bool_t ub878
                  refine ⟨?_, ?_⟩
                  · intro uq880
                    have uc881 := uz876 uq880
                    have uc882 := uz877 uq880
                    have uc883 := ne_t uq880
                    refine ⟨vin (by omega), ?_⟩
                    intro σ154 eσ154
                    have uI884 : zInv A F 0 σ154 := by rw [eσ154]; exact inv232p uI875 (pR pr (by decide)) (by omega) (by omega)
                    have ue885 : ti ((σ154.1 223 9)) = ti ((σ151.1 223 9)) := by rw [eσ154]; exact congrArg ti (zI_q (Or.inl (by omega)))
                    have ud886 : 0 ≤ ti ((σ151.1 223 9)) ∧ ti ((σ151.1 223 9)) ≤ 600 := rdr uI875 kd_223 rfl rfl
                    have ud887 : 0 ≤ ti ((σ154.1 223 9)) ∧ ti ((σ154.1 223 9)) ≤ 600 := rdr uI884 kd_223 rfl rfl
                    have ue888 : ti ((σ154.1 223 12)) = ti ((σ151.1 223 12)) := by rw [eσ154]; exact congrArg ti (zI_q (Or.inl (by omega)))
                    exact hP (1 : Int32) σ154 uI884 (fun _ => by omega)
                  · intro uq889
                    have uc890 := eq_t uq889
                    have ud891 : 0 ≤ ti ((σ151.1 223 9)) ∧ ti ((σ151.1 223 9)) ≤ 600 := rdr uI875 kd_223 rfl rfl
                    exact hP (0 : Int32) σ151 uI875 (fun q => absurd rfl q)
                · intro uq892
                  have uc893 := eq_t uq892
                  have ul894 := lit_0
                  have ul895 := lit_999
                  have ud896 : 0 ≤ ti ((σ138.1 223 9)) ∧ ti ((σ138.1 223 9)) ≤ 600 := rdr uI786 kd_223 rfl rfl
                  refine s_X10_take0 pr b (1 : Int32) (999 : Int32) uI786 (by omega) (fun r156 σ155 uI897 uz898 uz899 => ?_)
                  intro ub900
                  have uc901 := bool_t ub900
                  refine ⟨?_, ?_⟩
                  · intro uq902
                    have uc903 := uz898 uq902
                    have uc904 := uz899 uq902
                    have uc905 := ne_t uq902
                    refine ⟨vin (by omega), ?_⟩
                    intro σ158 eσ158
                    have uI906 : zInv A F 0 σ158 := by rw [eσ158]; exact inv232p uI897 (pR pr (by decide)) (by omega) (by omega)
                    have ue907 : ti ((σ158.1 223 9)) = ti ((σ155.1 223 9)) := by rw [eσ158]; exact congrArg ti (zI_q (Or.inl (by omega)))
                    have ud908 : 0 ≤ ti ((σ155.1 223 9)) ∧ ti ((σ155.1 223 9)) ≤ 600 := rdr uI897 kd_223 rfl rfl
                    have ud909 : 0 ≤ ti ((σ158.1 223 9)) ∧ ti ((σ158.1 223 9)) ≤ 600 := rdr uI906 kd_223 rfl rfl
                    have ue910 : ti ((σ158.1 223 12)) = ti ((σ155.1 223 12)) := by rw [eσ158]; exact congrArg ti (zI_q (Or.inl (by omega)))
                    exact hP (1 : Int32) σ158 uI906 (fun _ => by omega)
                  · intro uq911
                    have uc912 := eq_t uq911
                    have ud913 : 0 ≤ ti ((σ155.1 223 9)) ∧ ti ((σ155.1 223 9)) ≤ 600 := rdr uI897 kd_223 rfl rfl
                    exact hP (0 : Int32) σ155 uI897 (fun q => absurd rfl q)
              · intro uq914
                have ul915 := lit_4
                have uc916 := eq_t uq914
                have ul917 := lit_0
                have ul918 := lit_60
                have ud919 : 0 ≤ ti ((σ138.1 223 9)) ∧ ti ((σ138.1 223 9)) ≤ 600 := rdr uI786 kd_223 rfl rfl
                refine s_X10_take0 pr b (1 : Int32) (60 : Int32) uI786 (by omega) (fun r160 σ159 uI920 uz921 uz922 => ?_)
                intro ub923
                have uc924 := bool_t ub923
                refine ⟨?_, ?_⟩
                · intro uq925
                  have uc926 := uz921 uq925
                  have uc927 := uz922 uq925
                  have uc928 := ne_t uq925
                  refine ⟨vin (by omega), ?_⟩
                  intro σ162 eσ162
                  have uI929 : zInv A F 0 σ162 := by rw [eσ162]; exact inv232p uI920 (pR pr (by decide)) (by omega) (by omega)
                  have ue930 : ti ((σ162.1 223 9)) = ti ((σ159.1 223 9)) := by rw [eσ162]; exact congrArg ti (zI_q (Or.inl (by omega)))
                  have ud931 : 0 ≤ ti ((σ159.1 223 9)) ∧ ti ((σ159.1 223 9)) ≤ 600 := rdr uI920 kd_223 rfl rfl
                  have ud932 : 0 ≤ ti ((σ162.1 223 9)) ∧ ti ((σ162.1 223 9)) ≤ 600 := rdr uI929 kd_223 rfl rfl
                  have ue933 : ti ((σ162.1 223 12)) = ti ((σ159.1 223 12)) := by rw [eσ162]; exact congrArg ti (zI_q (Or.inl (by omega)))
                  exact hP (1 : Int32) σ162 uI929 (fun _ => by omega)
                · intro uq934
                  have uc935 := eq_t uq934
                  have ud936 : 0 ≤ ti ((σ159.1 223 9)) ∧ ti ((σ159.1 223 9)) ≤ 600 := rdr uI920 kd_223 rfl rfl
                  exact hP (0 : Int32) σ159 uI920 (fun q => absurd rfl q)
          · intro uq937
            have uc938 := eq_t uq937
            refine ⟨?_, ?_⟩
            · intro uq939
              refine ⟨?_, ?_⟩
              · intro uq940
                refine ⟨?_, ?_⟩
                · intro uq941
                  have ul942 := lit_0
                  have ud943 : 0 ≤ ti ((σ138.1 223 9)) ∧ ti ((σ138.1 223 9)) ≤ 600 := rdr uI786 kd_223 rfl rfl
                  refine s_X10_ofPost pr b (0 : Int32) uI786 (by omega) (fun r164 σ163 uI944 uz945 => ?_)
                  intro ub946
                  have uc947 := bool_t ub946
                  refine ⟨ub946, ?_⟩
                  have ud948 : 0 ≤ ti ((σ163.1 223 9)) ∧ ti ((σ163.1 223 9)) ≤ 600 := rdr uI944 kd_223 rfl rfl
                  exact hP r164 σ163 uI944 (fun q => by have := uz945 q; omega)
                · intro uq949
                  have ud950 : 0 ≤ ti ((σ138.1 223 9)) ∧ ti ((σ138.1 223 9)) ≤ 600 := rdr uI786 kd_223 rfl rfl
                  refine s_X10_ofPost pr b (1 : Int32) uI786 (by omega) (fun r166 σ165 uI951 uz952 => ?_)
                  intro ub953
                  have uc954 := bool_t ub953
                  refine ⟨ub953, ?_⟩
                  have ud955 : 0 ≤ ti ((σ165.1 223 9)) ∧ ti ((σ165.1 223 9)) ≤ 600 := rdr uI951 kd_223 rfl rfl
                  exact hP r166 σ165 uI951 (fun q => by have := uz952 q; omega)
              · intro uq956
                have ud957 : 0 ≤ ti ((σ138.1 223 9)) ∧ ti ((σ138.1 223 9)) ≤ 600 := rdr uI786 kd_223 rfl rfl
                refine s_X10_riderLine pr b uI786 (by omega) (fun r168 σ167 uI958 uz959 => ?_)
                intro ub960
                have uc961 := bool_t ub960
                refine ⟨ub960, ?_⟩
                have ud962 : 0 ≤ ti ((σ167.1 223 9)) ∧ ti ((σ167.1 223 9)) ≤ 600 := rdr uI958 kd_223 rfl rfl
                exact hP r168 σ167 uI958 (fun q => by have := uz959 q; omega)
            · intro uq963
              have ud964 : 0 ≤ ti ((σ138.1 223 9)) ∧ ti ((σ138.1 223 9)) ≤ 600 := rdr uI786 kd_223 rfl rfl
              refine s_X10_postLine pr b uI786 (by omega) (fun r170 σ169 uI965 uz966 => ?_)
              intro ub967
              have uc968 := bool_t ub967
              refine ⟨ub967, ?_⟩
              have ud969 : 0 ≤ ti ((σ169.1 223 9)) ∧ ti ((σ169.1 223 9)) ≤ 600 := rdr uI965 kd_223 rfl rfl
              exact hP r170 σ169 uI965 (fun q => by have := uz966 q; omega)
      · intro uq970
        have ul971 := lit_0
        have ul972 := lit_16
        refine s_X10_full (okR_J pr) (0 : Int32) (16 : Int32) a2 (by omega) I (fun σ171 uI973 uy974 => ?_)
        have ud975 : 0 ≤ ti ((σ171.1 223 9)) ∧ ti ((σ171.1 223 9)) ≤ 600 := rdr uI973 kd_223 rfl rfl
        refine s_X10_token (okR_K pr) b uI973 (by omega) (fun σ172 uI976 uy977 uy978 => ?_)
        refine ⟨?_, ?_⟩
        · intro uq979
          have uc980 := ne_t uq979
          refine ⟨?_, ?_⟩
          · intro uq981
            have ul982 := lit_2
            have uc983 := ne_t uq981
            refine ⟨?_, ?_⟩
            · intro uq984
              have ul985 := lit_4
              have uc986 := ne_t uq984
              refine ⟨?_, ?_⟩
              · intro uq987
                have ul988 := lit_6
                have uc989 := ne_t uq987
                have ul990 := lit_9
                have ud991 : 0 ≤ ti ((σ172.1 223 9)) ∧ ti ((σ172.1 223 9)) ≤ 600 := rdr uI976 kd_223 rfl rfl
                refine s_X10_take0 pr b (0 : Int32) (9 : Int32) uI976 (by omega) (fun r174 σ173 uI992 uz993 uz994 => ?_)
                intro ub995
                have uc996 := bool_t ub995
                refine ⟨?_, ?_⟩
                · intro uq997
                  have uc998 := uz993 uq997
                  have uc999 := uz994 uq997
                  have uc1000 := ne_t uq997
                  refine ⟨vin (by omega), ?_⟩
                  intro σ176 eσ176
                  have uI1001 : zInv A F 0 σ176 := by rw [eσ176]; exact inv232p uI992 (pR pr (by decide)) (by omega) (by omega)
                  have ue1002 : ti ((σ176.1 223 9)) = ti ((σ173.1 223 9)) := by rw [eσ176]; exact congrArg ti (zI_q (Or.inl (by omega)))
                  have ud1003 : 0 ≤ ti ((σ173.1 223 9)) ∧ ti ((σ173.1 223 9)) ≤ 600 := rdr uI992 kd_223 rfl rfl
                  have ud1004 : 0 ≤ ti ((σ176.1 223 9)) ∧ ti ((σ176.1 223 9)) ≤ 600 := rdr uI1001 kd_223 rfl rfl
                  have ue1005 : ti ((σ176.1 223 12)) = ti ((σ173.1 223 12)) := by rw [eσ176]; exact congrArg ti (zI_q (Or.inl (by omega)))
                  exact hP (1 : Int32) σ176 uI1001 (fun _ => by omega)
                · intro uq1006
                  have uc1007 := eq_t uq1006
                  have ud1008 : 0 ≤ ti ((σ173.1 223 9)) ∧ ti ((σ173.1 223 9)) ≤ 600 := rdr uI992 kd_223 rfl rfl
                  exact hP (0 : Int32) σ173 uI992 (fun q => absurd rfl q)
              · intro uq1009
                have ul1010 := lit_6
                have uc1011 := eq_t uq1009
                have ul1012 := lit_999
                have ud1013 : 0 ≤ ti ((σ172.1 223 9)) ∧ ti ((σ172.1 223 9)) ≤ 600 := rdr uI976 kd_223 rfl rfl
                refine s_X10_take0 pr b (0 : Int32) (999 : Int32) uI976 (by omega) (fun r178 σ177 uI1014 uz1015 uz1016 => ?_)
                intro ub1017
                have uc1018 := bool_t ub1017
                refine ⟨?_, ?_⟩
                · intro uq1019
                  have uc1020 := uz1015 uq1019
                  have uc1021 := uz1016 uq1019
                  have uc1022 := ne_t uq1019
                  refine ⟨vin (by omega), ?_⟩
                  intro σ180 eσ180
                  have uI1023 : zInv A F 0 σ180 := by rw [eσ180]; exact inv232p uI1014 (pR pr (by decide)) (by omega) (by omega)
                  have ue1024 : ti ((σ180.1 223 9)) = ti ((σ177.1 223 9)) := by rw [eσ180]; exact congrArg ti (zI_q (Or.inl (by omega)))
                  have ud1025 : 0 ≤ ti ((σ177.1 223 9)) ∧ ti ((σ177.1 223 9)) ≤ 600 := rdr uI1014 kd_223 rfl rfl
                  have ud1026 : 0 ≤ ti ((σ180.1 223 9)) ∧ ti ((σ180.1 223 9)) ≤ 600 := rdr uI1023 kd_223 rfl rfl
                  have ue1027 : ti ((σ180.1 223 12)) = ti ((σ177.1 223 12)) := by rw [eσ180]; exact congrArg ti (zI_q (Or.inl (by omega)))
                  exact hP (1 : Int32) σ180 uI1023 (fun _ => by omega)
                · intro uq1028
                  have uc1029 := eq_t uq1028
                  have ud1030 : 0 ≤ ti ((σ177.1 223 9)) ∧ ti ((σ177.1 223 9)) ≤ 600 := rdr uI1014 kd_223 rfl rfl
                  exact hP (0 : Int32) σ177 uI1014 (fun q => absurd rfl q)
            · intro uq1031
              have ul1032 := lit_4
              have uc1033 := eq_t uq1031
              have ul1034 := lit_60
              have ud1035 : 0 ≤ ti ((σ172.1 223 9)) ∧ ti ((σ172.1 223 9)) ≤ 600 := rdr uI976 kd_223 rfl rfl
              refine s_X10_take0 pr b (0 : Int32) (60 : Int32) uI976 (by omega) (fun r182 σ181 uI1036 uz1037 uz1038 => ?_)
              intro ub1039
              have uc1040 := bool_t ub1039
              refine ⟨?_, ?_⟩
              · intro uq1041
                have uc1042 := uz1037 uq1041
                have uc1043 := uz1038 uq1041
                have uc1044 := ne_t uq1041
                refine ⟨vin (by omega), ?_⟩
                intro σ184 eσ184
                have uI1045 : zInv A F 0 σ184 := by rw [eσ184]; exact inv232p uI1036 (pR pr (by decide)) (by omega) (by omega)
                have ue1046 : ti ((σ184.1 223 9)) = ti ((σ181.1 223 9)) := by rw [eσ184]; exact congrArg ti (zI_q (Or.inl (by omega)))
                have ud1047 : 0 ≤ ti ((σ181.1 223 9)) ∧ ti ((σ181.1 223 9)) ≤ 600 := rdr uI1036 kd_223 rfl rfl
                have ud1048 : 0 ≤ ti ((σ184.1 223 9)) ∧ ti ((σ184.1 223 9)) ≤ 600 := rdr uI1045 kd_223 rfl rfl
                have ue1049 : ti ((σ184.1 223 12)) = ti ((σ181.1 223 12)) := by rw [eσ184]; exact congrArg ti (zI_q (Or.inl (by omega)))
                exact hP (1 : Int32) σ184 uI1045 (fun _ => by omega)
              · intro uq1050
                have uc1051 := eq_t uq1050
                have ud1052 : 0 ≤ ti ((σ181.1 223 9)) ∧ ti ((σ181.1 223 9)) ≤ 600 := rdr uI1036 kd_223 rfl rfl
                exact hP (0 : Int32) σ181 uI1036 (fun q => absurd rfl q)
          · intro uq1053
            have ul1054 := lit_2
            have uc1055 := eq_t uq1053
            refine ⟨?_, ?_⟩
            · intro uq1056
              have ul1057 := lit_4
              have uc1058 := ne_t uq1056
              refine ⟨?_, ?_⟩
              · intro uq1059
                have ul1060 := lit_6
                have uc1061 := ne_t uq1059
                have ul1062 := lit_1
                have ul1063 := lit_9
                have ud1064 : 0 ≤ ti ((σ172.1 223 9)) ∧ ti ((σ172.1 223 9)) ≤ 600 := rdr uI976 kd_223 rfl rfl
                refine s_X10_take0 pr b (1 : Int32) (9 : Int32) uI976 (by omega) (fun r186 σ185 uI1065 uz1066 uz1067 => ?_)
                intro ub1068
                have uc1069 := bool_t ub1068
                refine ⟨?_, ?_⟩
                · intro uq1070
                  have uc1071 := uz1066 uq1070
                  have uc1072 := uz1067 uq1070
                  have uc1073 := ne_t uq1070
                  refine ⟨vin (by omega), ?_⟩
                  intro σ188 eσ188
                  have uI1074 : zInv A F 0 σ188 := by rw [eσ188]; exact inv232p uI1065 (pR pr (by decide)) (by omega) (by omega)
                  have ue1075 : ti ((σ188.1 223 9)) = ti ((σ185.1 223 9)) := by rw [eσ188]; exact congrArg ti (zI_q (Or.inl (by omega)))
                  have ud1076 : 0 ≤ ti ((σ185.1 223 9)) ∧ ti ((σ185.1 223 9)) ≤ 600 := rdr uI1065 kd_223 rfl rfl
                  have ud1077 : 0 ≤ ti ((σ188.1 223 9)) ∧ ti ((σ188.1 223 9)) ≤ 600 := rdr uI1074 kd_223 rfl rfl
                  have ue1078 : ti ((σ188.1 223 12)) = ti ((σ185.1 223 12)) := by rw [eσ188]; exact congrArg ti (zI_q (Or.inl (by omega)))
                  exact hP (1 : Int32) σ188 uI1074 (fun _ => by omega)
                · intro uq1079
                  have uc1080 := eq_t uq1079
                  have ud1081 : 0 ≤ ti ((σ185.1 223 9)) ∧ ti ((σ185.1 223 9)) ≤ 600 := rdr uI1065 kd_223 rfl rfl
                  exact hP (0 : Int32) σ185 uI1065 (fun q => absurd rfl q)
              · intro uq1082
                have ul1083 := lit_6
                have uc1084 := eq_t uq1082
                have ul1085 := lit_1
                have ul1086 := lit_999
                have ud1087 : 0 ≤ ti ((σ172.1 223 9)) ∧ ti ((σ172.1 223 9)) ≤ 600 := rdr uI976 kd_223 rfl rfl
                refine s_X10_take0 pr b (1 : Int32) (999 : Int32) uI976 (by omega) (fun r190 σ189 uI1088 uz1089 uz1090 => ?_)
                intro ub1091
                have uc1092 := bool_t ub1091
                refine ⟨?_, ?_⟩
                · intro uq1093
                  have uc1094 := uz1089 uq1093
                  have uc1095 := uz1090 uq1093
                  have uc1096 := ne_t uq1093
                  refine ⟨vin (by omega), ?_⟩
                  intro σ192 eσ192
                  have uI1097 : zInv A F 0 σ192 := by rw [eσ192]; exact inv232p uI1088 (pR pr (by decide)) (by omega) (by omega)
                  have ue1098 : ti ((σ192.1 223 9)) = ti ((σ189.1 223 9)) := by rw [eσ192]; exact congrArg ti (zI_q (Or.inl (by omega)))
                  have ud1099 : 0 ≤ ti ((σ189.1 223 9)) ∧ ti ((σ189.1 223 9)) ≤ 600 := rdr uI1088 kd_223 rfl rfl
                  have ud1100 : 0 ≤ ti ((σ192.1 223 9)) ∧ ti ((σ192.1 223 9)) ≤ 600 := rdr uI1097 kd_223 rfl rfl
                  have ue1101 : ti ((σ192.1 223 12)) = ti ((σ189.1 223 12)) := by rw [eσ192]; exact congrArg ti (zI_q (Or.inl (by omega)))
                  exact hP (1 : Int32) σ192 uI1097 (fun _ => by omega)
                · intro uq1102
                  have uc1103 := eq_t uq1102
                  have ud1104 : 0 ≤ ti ((σ189.1 223 9)) ∧ ti ((σ189.1 223 9)) ≤ 600 := rdr uI1088 kd_223 rfl rfl
                  exact hP (0 : Int32) σ189 uI1088 (fun q => absurd rfl q)
            · intro uq1105
              have ul1106 := lit_4
              have uc1107 := eq_t uq1105
              have ul1108 := lit_1
              have ul1109 := lit_60
              have ud1110 : 0 ≤ ti ((σ172.1 223 9)) ∧ ti ((σ172.1 223 9)) ≤ 600 := rdr uI976 kd_223 rfl rfl
              refine s_X10_take0 pr b (1 : Int32) (60 : Int32) uI976 (by omega) (fun r194 σ193 uI1111 uz1112 uz1113 => ?_)
              intro ub1114
              have uc1115 := bool_t ub1114
              refine ⟨?_, ?_⟩
              · intro uq1116
                have uc1117 := uz1112 uq1116
                have uc1118 := uz1113 uq1116
                have uc1119 := ne_t uq1116
                refine ⟨vin (by omega), ?_⟩
                intro σ196 eσ196
                have uI1120 : zInv A F 0 σ196 := by rw [eσ196]; exact inv232p uI1111 (pR pr (by decide)) (by omega) (by omega)
                have ue1121 : ti ((σ196.1 223 9)) = ti ((σ193.1 223 9)) := by rw [eσ196]; exact congrArg ti (zI_q (Or.inl (by omega)))
                have ud1122 : 0 ≤ ti ((σ193.1 223 9)) ∧ ti ((σ193.1 223 9)) ≤ 600 := rdr uI1111 kd_223 rfl rfl
                have ud1123 : 0 ≤ ti ((σ196.1 223 9)) ∧ ti ((σ196.1 223 9)) ≤ 600 := rdr uI1120 kd_223 rfl rfl
                have ue1124 : ti ((σ196.1 223 12)) = ti ((σ193.1 223 12)) := by rw [eσ196]; exact congrArg ti (zI_q (Or.inl (by omega)))
                exact hP (1 : Int32) σ196 uI1120 (fun _ => by omega)
              · intro uq1125
                have uc1126 := eq_t uq1125
                have ud1127 : 0 ≤ ti ((σ193.1 223 9)) ∧ ti ((σ193.1 223 9)) ≤ 600 := rdr uI1111 kd_223 rfl rfl
                exact hP (0 : Int32) σ193 uI1111 (fun q => absurd rfl q)
        · intro uq1128
          have uc1129 := eq_t uq1128
          refine ⟨?_, ?_⟩
          · intro uq1130
            refine ⟨?_, ?_⟩
            · intro uq1131
              refine ⟨?_, ?_⟩
              · intro uq1132
                have ud1133 : 0 ≤ ti ((σ172.1 223 9)) ∧ ti ((σ172.1 223 9)) ≤ 600 := rdr uI976 kd_223 rfl rfl
                refine s_X10_ofPost pr b (0 : Int32) uI976 (by omega) (fun r198 σ197 uI1134 uz1135 => ?_)
                intro ub1136
                have uc1137 := bool_t ub1136
                refine ⟨ub1136, ?_⟩
                have ud1138 : 0 ≤ ti ((σ197.1 223 9)) ∧ ti ((σ197.1 223 9)) ≤ 600 := rdr uI1134 kd_223 rfl rfl
                exact hP r198 σ197 uI1134 (fun q => by have := uz1135 q; omega)
              · intro uq1139
                have ul1140 := lit_1
                have ud1141 : 0 ≤ ti ((σ172.1 223 9)) ∧ ti ((σ172.1 223 9)) ≤ 600 := rdr uI976 kd_223 rfl rfl
                refine s_X10_ofPost pr b (1 : Int32) uI976 (by omega) (fun r200 σ199 uI1142 uz1143 => ?_)
                intro ub1144
                have uc1145 := bool_t ub1144
                refine ⟨ub1144, ?_⟩
                have ud1146 : 0 ≤ ti ((σ199.1 223 9)) ∧ ti ((σ199.1 223 9)) ≤ 600 := rdr uI1142 kd_223 rfl rfl
                exact hP r200 σ199 uI1142 (fun q => by have := uz1143 q; omega)
            · intro uq1147
              have ud1148 : 0 ≤ ti ((σ172.1 223 9)) ∧ ti ((σ172.1 223 9)) ≤ 600 := rdr uI976 kd_223 rfl rfl
              refine s_X10_riderLine pr b uI976 (by omega) (fun r202 σ201 uI1149 uz1150 => ?_)
              intro ub1151
              have uc1152 := bool_t ub1151
              refine ⟨ub1151, ?_⟩
              have ud1153 : 0 ≤ ti ((σ201.1 223 9)) ∧ ti ((σ201.1 223 9)) ≤ 600 := rdr uI1149 kd_223 rfl rfl
              exact hP r202 σ201 uI1149 (fun q => by have := uz1150 q; omega)
          · intro uq1154
            have ud1155 : 0 ≤ ti ((σ172.1 223 9)) ∧ ti ((σ172.1 223 9)) ≤ 600 := rdr uI976 kd_223 rfl rfl
            refine s_X10_postLine pr b uI976 (by omega) (fun r204 σ203 uI1156 uz1157 => ?_)
            intro ub1158
            have uc1159 := bool_t ub1158
            refine ⟨ub1158, ?_⟩
            have ud1160 : 0 ≤ ti ((σ203.1 223 9)) ∧ ti ((σ203.1 223 9)) ≤ 600 := rdr uI1156 kd_223 rfl rfl
            exact hP r204 σ203 uI1156 (fun q => by have := uz1157 q; omega)
    · intro uq1161
      refine ⟨?_, ?_⟩
      · intro uq1162
        refine ⟨?_, ?_⟩
        · intro uq1163
          refine ⟨?_, ?_⟩
          · intro uq1164
            have ud1165 : 0 ≤ ti ((σ.1 223 9)) ∧ ti ((σ.1 223 9)) ≤ 600 := rdr I kd_223 rfl rfl
            refine s_X10_token (okR_K pr) b I (by omega) (fun σ205 uI1166 uy1167 uy1168 => ?_)
            refine ⟨?_, ?_⟩
            · intro uq1169
              have uc1170 := ne_t uq1169
              refine ⟨?_, ?_⟩
              · intro uq1171
                have ul1172 := lit_2
                have uc1173 := ne_t uq1171
                refine ⟨?_, ?_⟩
                · intro uq1174
                  have ul1175 := lit_4
                  have uc1176 := ne_t uq1174
                  refine ⟨?_, ?_⟩
                  · intro uq1177
                    have ul1178 := lit_6
                    have uc1179 := ne_t uq1177
                    have ul1180 := lit_0
                    have ul1181 := lit_9
                    have ud1182 : 0 ≤ ti ((σ205.1 223 9)) ∧ ti ((σ205.1 223 9)) ≤ 600 := rdr uI1166 kd_223 rfl rfl
                    refine s_X10_take0 pr b (0 : Int32) (9 : Int32) uI1166 (by omega) (fun r207 σ206 uI1183 uz1184 uz1185 => ?_)
                    intro ub1186
                    have uc1187 := bool_t ub1186
                    refine ⟨?_, ?_⟩
                    · intro uq1188
                      have uc1189 := uz1184 uq1188
                      have uc1190 := uz1185 uq1188
                      have uc1191 := ne_t uq1188
                      refine ⟨vin (by omega), ?_⟩
                      intro σ209 eσ209
                      have uI1192 : zInv A F 0 σ209 := by rw [eσ209]; exact inv232p uI1183 (pR pr (by decide)) (by omega) (by omega)
                      have ue1193 : ti ((σ209.1 223 9)) = ti ((σ206.1 223 9)) := by rw [eσ209]; exact congrArg ti (zI_q (Or.inl (by omega)))
                      have ud1194 : 0 ≤ ti ((σ206.1 223 9)) ∧ ti ((σ206.1 223 9)) ≤ 600 := rdr uI1183 kd_223 rfl rfl
                      have ud1195 : 0 ≤ ti ((σ209.1 223 9)) ∧ ti ((σ209.1 223 9)) ≤ 600 := rdr uI1192 kd_223 rfl rfl
                      have ue1196 : ti ((σ209.1 223 12)) = ti ((σ206.1 223 12)) := by rw [eσ209]; exact congrArg ti (zI_q (Or.inl (by omega)))
                      exact hP (1 : Int32) σ209 uI1192 (fun _ => by omega)
                    · intro uq1197
                      have uc1198 := eq_t uq1197
                      have ud1199 : 0 ≤ ti ((σ206.1 223 9)) ∧ ti ((σ206.1 223 9)) ≤ 600 := rdr uI1183 kd_223 rfl rfl
                      exact hP (0 : Int32) σ206 uI1183 (fun q => absurd rfl q)
                  · intro uq1200
                    have ul1201 := lit_6
                    have uc1202 := eq_t uq1200
                    have ul1203 := lit_0
                    have ul1204 := lit_999
                    have ud1205 : 0 ≤ ti ((σ205.1 223 9)) ∧ ti ((σ205.1 223 9)) ≤ 600 := rdr uI1166 kd_223 rfl rfl
                    refine s_X10_take0 pr b (0 : Int32) (999 : Int32) uI1166 (by omega) (fun r211 σ210 uI1206 uz1207 uz1208 => ?_)
                    intro ub1209
                    have uc1210 := bool_t ub1209
                    refine ⟨?_, ?_⟩
                    · intro uq1211
                      have uc1212 := uz1207 uq1211
                      have uc1213 := uz1208 uq1211
                      have uc1214 := ne_t uq1211
                      refine ⟨vin (by omega), ?_⟩
                      intro σ213 eσ213
                      have uI1215 : zInv A F 0 σ213 := by rw [eσ213]; exact inv232p uI1206 (pR pr (by decide)) (by omega) (by omega)
                      have ue1216 : ti ((σ213.1 223 9)) = ti ((σ210.1 223 9)) := by rw [eσ213]; exact congrArg ti (zI_q (Or.inl (by omega)))
                      have ud1217 : 0 ≤ ti ((σ210.1 223 9)) ∧ ti ((σ210.1 223 9)) ≤ 600 := rdr uI1206 kd_223 rfl rfl
                      have ud1218 : 0 ≤ ti ((σ213.1 223 9)) ∧ ti ((σ213.1 223 9)) ≤ 600 := rdr uI1215 kd_223 rfl rfl
                      have ue1219 : ti ((σ213.1 223 12)) = ti ((σ210.1 223 12)) := by rw [eσ213]; exact congrArg ti (zI_q (Or.inl (by omega)))
                      exact hP (1 : Int32) σ213 uI1215 (fun _ => by omega)
                    · intro uq1220
                      have uc1221 := eq_t uq1220
                      have ud1222 : 0 ≤ ti ((σ210.1 223 9)) ∧ ti ((σ210.1 223 9)) ≤ 600 := rdr uI1206 kd_223 rfl rfl
                      exact hP (0 : Int32) σ210 uI1206 (fun q => absurd rfl q)
                · intro uq1223
                  have ul1224 := lit_4
                  have uc1225 := eq_t uq1223
                  have ul1226 := lit_0
                  have ul1227 := lit_60
                  have ud1228 : 0 ≤ ti ((σ205.1 223 9)) ∧ ti ((σ205.1 223 9)) ≤ 600 := rdr uI1166 kd_223 rfl rfl
                  refine s_X10_take0 pr b (0 : Int32) (60 : Int32) uI1166 (by omega) (fun r215 σ214 uI1229 uz1230 uz1231 => ?_)
                  intro ub1232
                  have uc1233 := bool_t ub1232
                  refine ⟨?_, ?_⟩
                  · intro uq1234
                    have uc1235 := uz1230 uq1234
                    have uc1236 := uz1231 uq1234
                    have uc1237 := ne_t uq1234
                    refine ⟨vin (by omega), ?_⟩
                    intro σ217 eσ217
                    have uI1238 : zInv A F 0 σ217 := by rw [eσ217]; exact inv232p uI1229 (pR pr (by decide)) (by omega) (by omega)
                    have ue1239 : ti ((σ217.1 223 9)) = ti ((σ214.1 223 9)) := by rw [eσ217]; exact congrArg ti (zI_q (Or.inl (by omega)))
                    have ud1240 : 0 ≤ ti ((σ214.1 223 9)) ∧ ti ((σ214.1 223 9)) ≤ 600 := rdr uI1229 kd_223 rfl rfl
                    have ud1241 : 0 ≤ ti ((σ217.1 223 9)) ∧ ti ((σ217.1 223 9)) ≤ 600 := rdr uI1238 kd_223 rfl rfl
                    have ue1242 : ti ((σ217.1 223 12)) = ti ((σ214.1 223 12)) := by rw [eσ217]; exact congrArg ti (zI_q (Or.inl (by omega)))
                    exact hP (1 : Int32) σ217 uI1238 (fun _ => by omega)
                  · intro uq1243
                    have uc1244 := eq_t uq1243
                    have ud1245 : 0 ≤ ti ((σ214.1 223 9)) ∧ ti ((σ214.1 223 9)) ≤ 600 := rdr uI1229 kd_223 rfl rfl
                    exact hP (0 : Int32) σ214 uI1229 (fun q => absurd rfl q)
              · intro uq1246
                have ul1247 := lit_2
                have uc1248 := eq_t uq1246
                refine ⟨?_, ?_⟩
                · intro uq1249
                  have ul1250 := lit_4
                  have uc1251 := ne_t uq1249
                  refine ⟨?_, ?_⟩
                  · intro uq1252
                    have ul1253 := lit_6
                    have uc1254 := ne_t uq1252
                    have ul1255 := lit_0
                    have ul1256 := lit_1
                    have ul1257 := lit_9
                    have ud1258 : 0 ≤ ti ((σ205.1 223 9)) ∧ ti ((σ205.1 223 9)) ≤ 600 := rdr uI1166 kd_223 rfl rfl
                    refine s_X10_take0 pr b (1 : Int32) (9 : Int32) uI1166 (by omega) (fun r219 σ218 uI1259 uz1260 uz1261 => ?_)
                    intro ub1262
                    have uc1263 := bool_t ub1262
                    refine ⟨?_, ?_⟩
                    · intro uq1264
                      have uc1265 := uz1260 uq1264
                      have uc1266 := uz1261 uq1264
                      have uc1267 := ne_t uq1264
                      refine ⟨vin (by omega), ?_⟩
                      intro σ221 eσ221
                      have uI1268 : zInv A F 0 σ221 := by rw [eσ221]; exact inv232p uI1259 (pR pr (by decide)) (by omega) (by omega)
                      have ue1269 : ti ((σ221.1 223 9)) = ti ((σ218.1 223 9)) := by rw [eσ221]; exact congrArg ti (zI_q (Or.inl (by omega)))
                      have ud1270 : 0 ≤ ti ((σ218.1 223 9)) ∧ ti ((σ218.1 223 9)) ≤ 600 := rdr uI1259 kd_223 rfl rfl
                      have ud1271 : 0 ≤ ti ((σ221.1 223 9)) ∧ ti ((σ221.1 223 9)) ≤ 600 := rdr uI1268 kd_223 rfl rfl
                      have ue1272 : ti ((σ221.1 223 12)) = ti ((σ218.1 223 12)) := by rw [eσ221]; exact congrArg ti (zI_q (Or.inl (by omega)))
                      exact hP (1 : Int32) σ221 uI1268 (fun _ => by omega)
                    · intro uq1273
                      have uc1274 := eq_t uq1273
                      have ud1275 : 0 ≤ ti ((σ218.1 223 9)) ∧ ti ((σ218.1 223 9)) ≤ 600 := rdr uI1259 kd_223 rfl rfl
                      exact hP (0 : Int32) σ218 uI1259 (fun q => absurd rfl q)
                  · intro uq1276
                    have ul1277 := lit_6
                    have uc1278 := eq_t uq1276
                    have ul1279 := lit_0
                    have ul1280 := lit_1
                    have ul1281 := lit_999
                    have ud1282 : 0 ≤ ti ((σ205.1 223 9)) ∧ ti ((σ205.1 223 9)) ≤ 600 := rdr uI1166 kd_223 rfl rfl
                    refine s_X10_take0 pr b (1 : Int32) (999 : Int32) uI1166 (by omega) (fun r223 σ222 uI1283 uz1284 uz1285 => ?_)
                    intro ub1286
                    have uc1287 := bool_t ub1286
                    refine ⟨?_, ?_⟩
                    · intro uq1288
                      have uc1289 := uz1284 uq1288
                      have uc1290 := uz1285 uq1288
                      have uc1291 := ne_t uq1288
                      refine ⟨vin (by omega), ?_⟩
                      intro σ225 eσ225
                      have uI1292 : zInv A F 0 σ225 := by rw [eσ225]; exact inv232p uI1283 (pR pr (by decide)) (by omega) (by omega)
                      have ue1293 : ti ((σ225.1 223 9)) = ti ((σ222.1 223 9)) := by rw [eσ225]; exact congrArg ti (zI_q (Or.inl (by omega)))
                      have ud1294 : 0 ≤ ti ((σ222.1 223 9)) ∧ ti ((σ222.1 223 9)) ≤ 600 := rdr uI1283 kd_223 rfl rfl
                      have ud1295 : 0 ≤ ti ((σ225.1 223 9)) ∧ ti ((σ225.1 223 9)) ≤ 600 := rdr uI1292 kd_223 rfl rfl
                      have ue1296 : ti ((σ225.1 223 12)) = ti ((σ222.1 223 12)) := by rw [eσ225]; exact congrArg ti (zI_q (Or.inl (by omega)))
                      exact hP (1 : Int32) σ225 uI1292 (fun _ => by omega)
                    · intro uq1297
                      have uc1298 := eq_t uq1297
                      have ud1299 : 0 ≤ ti ((σ222.1 223 9)) ∧ ti ((σ222.1 223 9)) ≤ 600 := rdr uI1283 kd_223 rfl rfl
                      exact hP (0 : Int32) σ222 uI1283 (fun q => absurd rfl q)
                · intro uq1300
                  have ul1301 := lit_4
                  have uc1302 := eq_t uq1300
                  have ul1303 := lit_0
                  have ul1304 := lit_1
                  have ul1305 := lit_60
                  have ud1306 : 0 ≤ ti ((σ205.1 223 9)) ∧ ti ((σ205.1 223 9)) ≤ 600 := rdr uI1166 kd_223 rfl rfl
                  refine s_X10_take0 pr b (1 : Int32) (60 : Int32) uI1166 (by omega) (fun r227 σ226 uI1307 uz1308 uz1309 => ?_)
                  intro ub1310
                  have uc1311 := bool_t ub1310
                  refine ⟨?_, ?_⟩
                  · intro uq1312
                    have uc1313 := uz1308 uq1312
                    have uc1314 := uz1309 uq1312
                    have uc1315 := ne_t uq1312
                    refine ⟨vin (by omega), ?_⟩
                    intro σ229 eσ229
                    have uI1316 : zInv A F 0 σ229 := by rw [eσ229]; exact inv232p uI1307 (pR pr (by decide)) (by omega) (by omega)
                    have ue1317 : ti ((σ229.1 223 9)) = ti ((σ226.1 223 9)) := by rw [eσ229]; exact congrArg ti (zI_q (Or.inl (by omega)))
                    have ud1318 : 0 ≤ ti ((σ226.1 223 9)) ∧ ti ((σ226.1 223 9)) ≤ 600 := rdr uI1307 kd_223 rfl rfl
                    have ud1319 : 0 ≤ ti ((σ229.1 223 9)) ∧ ti ((σ229.1 223 9)) ≤ 600 := rdr uI1316 kd_223 rfl rfl
                    have ue1320 : ti ((σ229.1 223 12)) = ti ((σ226.1 223 12)) := by rw [eσ229]; exact congrArg ti (zI_q (Or.inl (by omega)))
                    exact hP (1 : Int32) σ229 uI1316 (fun _ => by omega)
                  · intro uq1321
                    have uc1322 := eq_t uq1321
                    have ud1323 : 0 ≤ ti ((σ226.1 223 9)) ∧ ti ((σ226.1 223 9)) ≤ 600 := rdr uI1307 kd_223 rfl rfl
                    exact hP (0 : Int32) σ226 uI1307 (fun q => absurd rfl q)
            · intro uq1324
              have uc1325 := eq_t uq1324
              refine ⟨?_, ?_⟩
              · intro uq1326
                refine ⟨?_, ?_⟩
                · intro uq1327
                  refine ⟨?_, ?_⟩
                  · intro uq1328
                    have ul1329 := lit_0
                    have ud1330 : 0 ≤ ti ((σ205.1 223 9)) ∧ ti ((σ205.1 223 9)) ≤ 600 := rdr uI1166 kd_223 rfl rfl
                    refine s_X10_ofPost pr b (0 : Int32) uI1166 (by omega) (fun r231 σ230 uI1331 uz1332 => ?_)
                    intro ub1333
                    have uc1334 := bool_t ub1333
                    refine ⟨ub1333, ?_⟩
                    have ud1335 : 0 ≤ ti ((σ230.1 223 9)) ∧ ti ((σ230.1 223 9)) ≤ 600 := rdr uI1331 kd_223 rfl rfl
                    exact hP r231 σ230 uI1331 (fun q => by have := uz1332 q; omega)
                  · intro uq1336
                    have ul1337 := lit_1
                    have ud1338 : 0 ≤ ti ((σ205.1 223 9)) ∧ ti ((σ205.1 223 9)) ≤ 600 := rdr uI1166 kd_223 rfl rfl
                    refine s_X10_ofPost pr b (1 : Int32) uI1166 (by omega) (fun r233 σ232 uI1339 uz1340 => ?_)
                    intro ub1341
                    have uc1342 := bool_t ub1341
                    refine ⟨ub1341, ?_⟩
                    have ud1343 : 0 ≤ ti ((σ232.1 223 9)) ∧ ti ((σ232.1 223 9)) ≤ 600 := rdr uI1339 kd_223 rfl rfl
                    exact hP r233 σ232 uI1339 (fun q => by have := uz1340 q; omega)
                · intro uq1344
                  have ud1345 : 0 ≤ ti ((σ205.1 223 9)) ∧ ti ((σ205.1 223 9)) ≤ 600 := rdr uI1166 kd_223 rfl rfl
                  refine s_X10_riderLine pr b uI1166 (by omega) (fun r235 σ234 uI1346 uz1347 => ?_)
                  intro ub1348
                  have uc1349 := bool_t ub1348
                  refine ⟨ub1348, ?_⟩
                  have ud1350 : 0 ≤ ti ((σ234.1 223 9)) ∧ ti ((σ234.1 223 9)) ≤ 600 := rdr uI1346 kd_223 rfl rfl
                  exact hP r235 σ234 uI1346 (fun q => by have := uz1347 q; omega)
              · intro uq1351
                have ud1352 : 0 ≤ ti ((σ205.1 223 9)) ∧ ti ((σ205.1 223 9)) ≤ 600 := rdr uI1166 kd_223 rfl rfl
                refine s_X10_postLine pr b uI1166 (by omega) (fun r237 σ236 uI1353 uz1354 => ?_)
                intro ub1355
                have uc1356 := bool_t ub1355
                refine ⟨ub1355, ?_⟩
                have ud1357 : 0 ≤ ti ((σ236.1 223 9)) ∧ ti ((σ236.1 223 9)) ≤ 600 := rdr uI1353 kd_223 rfl rfl
                exact hP r237 σ236 uI1353 (fun q => by have := uz1354 q; omega)
          · intro uq1358
            have ul1359 := lit_1
            have ul1360 := lit_6
            refine s_X10_full (okR_J pr) (1 : Int32) (6 : Int32) a2 (by omega) I (fun σ238 uI1361 uy1362 => ?_)
            have ud1363 : 0 ≤ ti ((σ238.1 223 9)) ∧ ti ((σ238.1 223 9)) ≤ 600 := rdr uI1361 kd_223 rfl rfl
            refine s_X10_token (okR_K pr) b uI1361 (by omega) (fun σ239 uI1364 uy1365 uy1366 => ?_)
            refine ⟨?_, ?_⟩
            · intro uq1367
              have uc1368 := ne_t uq1367
              refine ⟨?_, ?_⟩
              · intro uq1369
                have ul1370 := lit_2
                have uc1371 := ne_t uq1369
                refine ⟨?_, ?_⟩
                · intro uq1372
                  have ul1373 := lit_4
                  have uc1374 := ne_t uq1372
                  refine ⟨?_, ?_⟩
                  · intro uq1375
                    have uc1376 := ne_t uq1375
                    have ul1377 := lit_0
                    have ul1378 := lit_9
                    have ud1379 : 0 ≤ ti ((σ239.1 223 9)) ∧ ti ((σ239.1 223 9)) ≤ 600 := rdr uI1364 kd_223 rfl rfl
                    refine s_X10_take0 pr b (0 : Int32) (9 : Int32) uI1364 (by omega) (fun r241 σ240 uI1380 uz1381 uz1382 => ?_)
                    intro ub1383
                    have uc1384 := bool_t ub1383
                    refine ⟨?_, ?_⟩
                    · intro uq1385
                      have uc1386 := uz1381 uq1385
                      have uc1387 := uz1382 uq1385
                      have uc1388 := ne_t uq1385
                      refine ⟨vin (by omega), ?_⟩
                      intro σ243 eσ243
                      have uI1389 : zInv A F 0 σ243 := by rw [eσ243]; exact inv232p uI1380 (pR pr (by decide)) (by omega) (by omega)
                      have ue1390 : ti ((σ243.1 223 9)) = ti ((σ240.1 223 9)) := by rw [eσ243]; exact congrArg ti (zI_q (Or.inl (by omega)))
                      have ud1391 : 0 ≤ ti ((σ240.1 223 9)) ∧ ti ((σ240.1 223 9)) ≤ 600 := rdr uI1380 kd_223 rfl rfl
                      have ud1392 : 0 ≤ ti ((σ243.1 223 9)) ∧ ti ((σ243.1 223 9)) ≤ 600 := rdr uI1389 kd_223 rfl rfl
                      have ue1393 : ti ((σ243.1 223 12)) = ti ((σ240.1 223 12)) := by rw [eσ243]; exact congrArg ti (zI_q (Or.inl (by omega)))
                      exact hP (1 : Int32) σ243 uI1389 (fun _ => by omega)
                    · intro uq1394
                      have uc1395 := eq_t uq1394
                      have ud1396 : 0 ≤ ti ((σ240.1 223 9)) ∧ ti ((σ240.1 223 9)) ≤ 600 := rdr uI1380 kd_223 rfl rfl
                      exact hP (0 : Int32) σ240 uI1380 (fun q => absurd rfl q)
                  · intro uq1397
                    have uc1398 := eq_t uq1397
                    have ul1399 := lit_0
                    have ul1400 := lit_999
                    have ud1401 : 0 ≤ ti ((σ239.1 223 9)) ∧ ti ((σ239.1 223 9)) ≤ 600 := rdr uI1364 kd_223 rfl rfl
                    refine s_X10_take0 pr b (0 : Int32) (999 : Int32) uI1364 (by omega) (fun r245 σ244 uI1402 uz1403 uz1404 => ?_)
                    intro ub1405
                    have uc1406 := bool_t ub1405
                    refine ⟨?_, ?_⟩
                    · intro uq1407
                      have uc1408 := uz1403 uq1407
                      have uc1409 := uz1404 uq1407
                      have uc1410 := ne_t uq1407
                      refine ⟨vin (by omega), ?_⟩
                      intro σ247 eσ247
                      have uI1411 : zInv A F 0 σ247 := by rw [eσ247]; exact inv232p uI1402 (pR pr (by decide)) (by omega) (by omega)
                      have ue1412 : ti ((σ247.1 223 9)) = ti ((σ244.1 223 9)) := by rw [eσ247]; exact congrArg ti (zI_q (Or.inl (by omega)))
                      have ud1413 : 0 ≤ ti ((σ244.1 223 9)) ∧ ti ((σ244.1 223 9)) ≤ 600 := rdr uI1402 kd_223 rfl rfl
                      have ud1414 : 0 ≤ ti ((σ247.1 223 9)) ∧ ti ((σ247.1 223 9)) ≤ 600 := rdr uI1411 kd_223 rfl rfl
                      have ue1415 : ti ((σ247.1 223 12)) = ti ((σ244.1 223 12)) := by rw [eσ247]; exact congrArg ti (zI_q (Or.inl (by omega)))
                      exact hP (1 : Int32) σ247 uI1411 (fun _ => by omega)
                    · intro uq1416
                      have uc1417 := eq_t uq1416
                      have ud1418 : 0 ≤ ti ((σ244.1 223 9)) ∧ ti ((σ244.1 223 9)) ≤ 600 := rdr uI1402 kd_223 rfl rfl
                      exact hP (0 : Int32) σ244 uI1402 (fun q => absurd rfl q)
                · intro uq1419
                  have ul1420 := lit_4
                  have uc1421 := eq_t uq1419
                  have ul1422 := lit_0
                  have ul1423 := lit_60
                  have ud1424 : 0 ≤ ti ((σ239.1 223 9)) ∧ ti ((σ239.1 223 9)) ≤ 600 := rdr uI1364 kd_223 rfl rfl
                  refine s_X10_take0 pr b (0 : Int32) (60 : Int32) uI1364 (by omega) (fun r249 σ248 uI1425 uz1426 uz1427 => ?_)
                  intro ub1428
                  have uc1429 := bool_t ub1428
                  refine ⟨?_, ?_⟩
                  · intro uq1430
                    have uc1431 := uz1426 uq1430
                    have uc1432 := uz1427 uq1430
                    have uc1433 := ne_t uq1430
                    refine ⟨vin (by omega), ?_⟩
                    intro σ251 eσ251
                    have uI1434 : zInv A F 0 σ251 := by rw [eσ251]; exact inv232p uI1425 (pR pr (by decide)) (by omega) (by omega)
                    have ue1435 : ti ((σ251.1 223 9)) = ti ((σ248.1 223 9)) := by rw [eσ251]; exact congrArg ti (zI_q (Or.inl (by omega)))
                    have ud1436 : 0 ≤ ti ((σ248.1 223 9)) ∧ ti ((σ248.1 223 9)) ≤ 600 := rdr uI1425 kd_223 rfl rfl
                    have ud1437 : 0 ≤ ti ((σ251.1 223 9)) ∧ ti ((σ251.1 223 9)) ≤ 600 := rdr uI1434 kd_223 rfl rfl
                    have ue1438 : ti ((σ251.1 223 12)) = ti ((σ248.1 223 12)) := by rw [eσ251]; exact congrArg ti (zI_q (Or.inl (by omega)))
                    exact hP (1 : Int32) σ251 uI1434 (fun _ => by omega)
                  · intro uq1439
                    have uc1440 := eq_t uq1439
                    have ud1441 : 0 ≤ ti ((σ248.1 223 9)) ∧ ti ((σ248.1 223 9)) ≤ 600 := rdr uI1425 kd_223 rfl rfl
                    exact hP (0 : Int32) σ248 uI1425 (fun q => absurd rfl q)
              · intro uq1442
                have ul1443 := lit_2
                have uc1444 := eq_t uq1442
                refine ⟨?_, ?_⟩
                · intro uq1445
                  have ul1446 := lit_4
                  have uc1447 := ne_t uq1445
                  refine ⟨?_, ?_⟩
                  · intro uq1448
                    have uc1449 := ne_t uq1448
                    have ul1450 := lit_0
                    have ul1451 := lit_9
                    have ud1452 : 0 ≤ ti ((σ239.1 223 9)) ∧ ti ((σ239.1 223 9)) ≤ 600 := rdr uI1364 kd_223 rfl rfl
                    refine s_X10_take0 pr b (1 : Int32) (9 : Int32) uI1364 (by omega) (fun r253 σ252 uI1453 uz1454 uz1455 => ?_)
                    intro ub1456
                    have uc1457 := bool_t ub1456
                    refine ⟨?_, ?_⟩
                    · intro uq1458
                      have uc1459 := uz1454 uq1458
                      have uc1460 := uz1455 uq1458
                      have uc1461 := ne_t uq1458
                      refine ⟨vin (by omega), ?_⟩
                      intro σ255 eσ255
                      have uI1462 : zInv A F 0 σ255 := by rw [eσ255]; exact inv232p uI1453 (pR pr (by decide)) (by omega) (by omega)
                      have ue1463 : ti ((σ255.1 223 9)) = ti ((σ252.1 223 9)) := by rw [eσ255]; exact congrArg ti (zI_q (Or.inl (by omega)))
                      have ud1464 : 0 ≤ ti ((σ252.1 223 9)) ∧ ti ((σ252.1 223 9)) ≤ 600 := rdr uI1453 kd_223 rfl rfl
                      have ud1465 : 0 ≤ ti ((σ255.1 223 9)) ∧ ti ((σ255.1 223 9)) ≤ 600 := rdr uI1462 kd_223 rfl rfl
                      have ue1466 : ti ((σ255.1 223 12)) = ti ((σ252.1 223 12)) := by rw [eσ255]; exact congrArg ti (zI_q (Or.inl (by omega)))
                      exact hP (1 : Int32) σ255 uI1462 (fun _ => by omega)
                    · intro uq1467
                      have uc1468 := eq_t uq1467
                      have ud1469 : 0 ≤ ti ((σ252.1 223 9)) ∧ ti ((σ252.1 223 9)) ≤ 600 := rdr uI1453 kd_223 rfl rfl
                      exact hP (0 : Int32) σ252 uI1453 (fun q => absurd rfl q)
                  · intro uq1470
                    have uc1471 := eq_t uq1470
                    have ul1472 := lit_0
                    have ul1473 := lit_999
                    have ud1474 : 0 ≤ ti ((σ239.1 223 9)) ∧ ti ((σ239.1 223 9)) ≤ 600 := rdr uI1364 kd_223 rfl rfl
                    refine s_X10_take0 pr b (1 : Int32) (999 : Int32) uI1364 (by omega) (fun r257 σ256 uI1475 uz1476 uz1477 => ?_)
                    intro ub1478
                    have uc1479 := bool_t ub1478
                    refine ⟨?_, ?_⟩
                    · intro uq1480
                      have uc1481 := uz1476 uq1480
                      have uc1482 := uz1477 uq1480
                      have uc1483 := ne_t uq1480
                      refine ⟨vin (by omega), ?_⟩
                      intro σ259 eσ259
                      have uI1484 : zInv A F 0 σ259 := by rw [eσ259]; exact inv232p uI1475 (pR pr (by decide)) (by omega) (by omega)
                      have ue1485 : ti ((σ259.1 223 9)) = ti ((σ256.1 223 9)) := by rw [eσ259]; exact congrArg ti (zI_q (Or.inl (by omega)))
                      have ud1486 : 0 ≤ ti ((σ256.1 223 9)) ∧ ti ((σ256.1 223 9)) ≤ 600 := rdr uI1475 kd_223 rfl rfl
                      have ud1487 : 0 ≤ ti ((σ259.1 223 9)) ∧ ti ((σ259.1 223 9)) ≤ 600 := rdr uI1484 kd_223 rfl rfl
                      have ue1488 : ti ((σ259.1 223 12)) = ti ((σ256.1 223 12)) := by rw [eσ259]; exact congrArg ti (zI_q (Or.inl (by omega)))
                      exact hP (1 : Int32) σ259 uI1484 (fun _ => by omega)
                    · intro uq1489
                      have uc1490 := eq_t uq1489
                      have ud1491 : 0 ≤ ti ((σ256.1 223 9)) ∧ ti ((σ256.1 223 9)) ≤ 600 := rdr uI1475 kd_223 rfl rfl
                      exact hP (0 : Int32) σ256 uI1475 (fun q => absurd rfl q)
                · intro uq1492
                  have ul1493 := lit_4
                  have uc1494 := eq_t uq1492
                  have ul1495 := lit_0
                  have ul1496 := lit_60
                  have ud1497 : 0 ≤ ti ((σ239.1 223 9)) ∧ ti ((σ239.1 223 9)) ≤ 600 := rdr uI1364 kd_223 rfl rfl
                  refine s_X10_take0 pr b (1 : Int32) (60 : Int32) uI1364 (by omega) (fun r261 σ260 uI1498 uz1499 uz1500 => ?_)
                  intro ub1501
                  have uc1502 := bool_t ub1501
                  refine ⟨?_, ?_⟩
                  · intro uq1503
                    have uc1504 := uz1499 uq1503
                    have uc1505 := uz1500 uq1503
                    have uc1506 := ne_t uq1503
                    refine ⟨vin (by omega), ?_⟩
                    intro σ263 eσ263
                    have uI1507 : zInv A F 0 σ263 := by rw [eσ263]; exact inv232p uI1498 (pR pr (by decide)) (by omega) (by omega)
                    have ue1508 : ti ((σ263.1 223 9)) = ti ((σ260.1 223 9)) := by rw [eσ263]; exact congrArg ti (zI_q (Or.inl (by omega)))
                    have ud1509 : 0 ≤ ti ((σ260.1 223 9)) ∧ ti ((σ260.1 223 9)) ≤ 600 := rdr uI1498 kd_223 rfl rfl
                    have ud1510 : 0 ≤ ti ((σ263.1 223 9)) ∧ ti ((σ263.1 223 9)) ≤ 600 := rdr uI1507 kd_223 rfl rfl
                    have ue1511 : ti ((σ263.1 223 12)) = ti ((σ260.1 223 12)) := by rw [eσ263]; exact congrArg ti (zI_q (Or.inl (by omega)))
                    exact hP (1 : Int32) σ263 uI1507 (fun _ => by omega)
                  · intro uq1512
                    have uc1513 := eq_t uq1512
                    have ud1514 : 0 ≤ ti ((σ260.1 223 9)) ∧ ti ((σ260.1 223 9)) ≤ 600 := rdr uI1498 kd_223 rfl rfl
                    exact hP (0 : Int32) σ260 uI1498 (fun q => absurd rfl q)
            · intro uq1515
              have uc1516 := eq_t uq1515
              refine ⟨?_, ?_⟩
              · intro uq1517
                refine ⟨?_, ?_⟩
                · intro uq1518
                  refine ⟨?_, ?_⟩
                  · intro uq1519
                    have ul1520 := lit_0
                    have ud1521 : 0 ≤ ti ((σ239.1 223 9)) ∧ ti ((σ239.1 223 9)) ≤ 600 := rdr uI1364 kd_223 rfl rfl
                    refine s_X10_ofPost pr b (0 : Int32) uI1364 (by omega) (fun r265 σ264 uI1522 uz1523 => ?_)
                    intro ub1524
                    have uc1525 := bool_t ub1524
                    refine ⟨ub1524, ?_⟩
                    have ud1526 : 0 ≤ ti ((σ264.1 223 9)) ∧ ti ((σ264.1 223 9)) ≤ 600 := rdr uI1522 kd_223 rfl rfl
                    exact hP r265 σ264 uI1522 (fun q => by have := uz1523 q; omega)
                  · intro uq1527
                    have ud1528 : 0 ≤ ti ((σ239.1 223 9)) ∧ ti ((σ239.1 223 9)) ≤ 600 := rdr uI1364 kd_223 rfl rfl
                    refine s_X10_ofPost pr b (1 : Int32) uI1364 (by omega) (fun r267 σ266 uI1529 uz1530 => ?_)
                    intro ub1531
                    have uc1532 := bool_t ub1531
                    refine ⟨ub1531, ?_⟩
                    have ud1533 : 0 ≤ ti ((σ266.1 223 9)) ∧ ti ((σ266.1 223 9)) ≤ 600 := rdr uI1529 kd_223 rfl rfl
                    exact hP r267 σ266 uI1529 (fun q => by have := uz1530 q; omega)
                · intro uq1534
                  have ud1535 : 0 ≤ ti ((σ239.1 223 9)) ∧ ti ((σ239.1 223 9)) ≤ 600 := rdr uI1364 kd_223 rfl rfl
                  refine s_X10_riderLine pr b uI1364 (by omega) (fun r269 σ268 uI1536 uz1537 => ?_)
                  intro ub1538
                  have uc1539 := bool_t ub1538
                  refine ⟨ub1538, ?_⟩
                  have ud1540 : 0 ≤ ti ((σ268.1 223 9)) ∧ ti ((σ268.1 223 9)) ≤ 600 := rdr uI1536 kd_223 rfl rfl
                  exact hP r269 σ268 uI1536 (fun q => by have := uz1537 q; omega)
              · intro uq1541
                have ud1542 : 0 ≤ ti ((σ239.1 223 9)) ∧ ti ((σ239.1 223 9)) ≤ 600 := rdr uI1364 kd_223 rfl rfl
                refine s_X10_postLine pr b uI1364 (by omega) (fun r271 σ270 uI1543 uz1544 => ?_)
                intro ub1545
                have uc1546 := bool_t ub1545
                refine ⟨ub1545, ?_⟩
                have ud1547 : 0 ≤ ti ((σ270.1 223 9)) ∧ ti ((σ270.1 223 9)) ≤ 600 := rdr uI1543 kd_223 rfl rfl
                exact hP r271 σ270 uI1543 (fun q => by have := uz1544 q; omega)
        · intro uq1548
          have ul1549 := lit_0
          have ul1550 := lit_16
          refine s_X10_full (okR_J pr) (0 : Int32) (16 : Int32) a2 (by omega) I (fun σ272 uI1551 uy1552 => ?_)
          have ud1553 : 0 ≤ ti ((σ272.1 223 9)) ∧ ti ((σ272.1 223 9)) ≤ 600 := rdr uI1551 kd_223 rfl rfl
          refine s_X10_token (okR_K pr) b uI1551 (by omega) (fun σ273 uI1554 uy1555 uy1556 => ?_)
          refine ⟨?_, ?_⟩
          · intro uq1557
            have uc1558 := ne_t uq1557
            refine ⟨?_, ?_⟩
            · intro uq1559
              have ul1560 := lit_2
              have uc1561 := ne_t uq1559
              refine ⟨?_, ?_⟩
              · intro uq1562
                have ul1563 := lit_4
                have uc1564 := ne_t uq1562
                refine ⟨?_, ?_⟩
                · intro uq1565
                  have ul1566 := lit_6
                  have uc1567 := ne_t uq1565
                  have ul1568 := lit_9
                  have ud1569 : 0 ≤ ti ((σ273.1 223 9)) ∧ ti ((σ273.1 223 9)) ≤ 600 := rdr uI1554 kd_223 rfl rfl
                  refine s_X10_take0 pr b (0 : Int32) (9 : Int32) uI1554 (by omega) (fun r275 σ274 uI1570 uz1571 uz1572 => ?_)
                  intro ub1573
                  have uc1574 := bool_t ub1573
                  refine ⟨?_, ?_⟩
                  · intro uq1575
                    have uc1576 := uz1571 uq1575
                    have uc1577 := uz1572 uq1575
                    have uc1578 := ne_t uq1575
                    refine ⟨vin (by omega), ?_⟩
                    intro σ277 eσ277
                    have uI1579 : zInv A F 0 σ277 := by rw [eσ277]; exact inv232p uI1570 (pR pr (by decide)) (by omega) (by omega)
                    have ue1580 : ti ((σ277.1 223 9)) = ti ((σ274.1 223 9)) := by rw [eσ277]; exact congrArg ti (zI_q (Or.inl (by omega)))
                    have ud1581 : 0 ≤ ti ((σ274.1 223 9)) ∧ ti ((σ274.1 223 9)) ≤ 600 := rdr uI1570 kd_223 rfl rfl
                    have ud1582 : 0 ≤ ti ((σ277.1 223 9)) ∧ ti ((σ277.1 223 9)) ≤ 600 := rdr uI1579 kd_223 rfl rfl
                    have ue1583 : ti ((σ277.1 223 12)) = ti ((σ274.1 223 12)) := by rw [eσ277]; exact congrArg ti (zI_q (Or.inl (by omega)))
                    exact hP (1 : Int32) σ277 uI1579 (fun _ => by omega)
                  · intro uq1584
                    have uc1585 := eq_t uq1584
                    have ud1586 : 0 ≤ ti ((σ274.1 223 9)) ∧ ti ((σ274.1 223 9)) ≤ 600 := rdr uI1570 kd_223 rfl rfl
                    exact hP (0 : Int32) σ274 uI1570 (fun q => absurd rfl q)
                · intro uq1587
                  have ul1588 := lit_6
                  have uc1589 := eq_t uq1587
                  have ul1590 := lit_999
                  have ud1591 : 0 ≤ ti ((σ273.1 223 9)) ∧ ti ((σ273.1 223 9)) ≤ 600 := rdr uI1554 kd_223 rfl rfl
                  refine s_X10_take0 pr b (0 : Int32) (999 : Int32) uI1554 (by omega) (fun r279 σ278 uI1592 uz1593 uz1594 => ?_)
                  intro ub1595
                  have uc1596 := bool_t ub1595
                  refine ⟨?_, ?_⟩
                  · intro uq1597
                    have uc1598 := uz1593 uq1597
                    have uc1599 := uz1594 uq1597
                    have uc1600 := ne_t uq1597
                    refine ⟨vin (by omega), ?_⟩
                    intro σ281 eσ281
                    have uI1601 : zInv A F 0 σ281 := by rw [eσ281]; exact inv232p uI1592 (pR pr (by decide)) (by omega) (by omega)
                    have ue1602 : ti ((σ281.1 223 9)) = ti ((σ278.1 223 9)) := by rw [eσ281]; exact congrArg ti (zI_q (Or.inl (by omega)))
                    have ud1603 : 0 ≤ ti ((σ278.1 223 9)) ∧ ti ((σ278.1 223 9)) ≤ 600 := rdr uI1592 kd_223 rfl rfl
                    have ud1604 : 0 ≤ ti ((σ281.1 223 9)) ∧ ti ((σ281.1 223 9)) ≤ 600 := rdr uI1601 kd_223 rfl rfl
                    have ue1605 : ti ((σ281.1 223 12)) = ti ((σ278.1 223 12)) := by rw [eσ281]; exact congrArg ti (zI_q (Or.inl (by omega)))
                    exact hP (1 : Int32) σ281 uI1601 (fun _ => by omega)
                  · intro uq1606
                    have uc1607 := eq_t uq1606
                    have ud1608 : 0 ≤ ti ((σ278.1 223 9)) ∧ ti ((σ278.1 223 9)) ≤ 600 := rdr uI1592 kd_223 rfl rfl
                    exact hP (0 : Int32) σ278 uI1592 (fun q => absurd rfl q)
              · intro uq1609
                have ul1610 := lit_4
                have uc1611 := eq_t uq1609
                have ul1612 := lit_60
                have ud1613 : 0 ≤ ti ((σ273.1 223 9)) ∧ ti ((σ273.1 223 9)) ≤ 600 := rdr uI1554 kd_223 rfl rfl
                refine s_X10_take0 pr b (0 : Int32) (60 : Int32) uI1554 (by omega) (fun r283 σ282 uI1614 uz1615 uz1616 => ?_)
                intro ub1617
                have uc1618 := bool_t ub1617
                refine ⟨?_, ?_⟩
                · intro uq1619
                  have uc1620 := uz1615 uq1619
                  have uc1621 := uz1616 uq1619
                  have uc1622 := ne_t uq1619
                  refine ⟨vin (by omega), ?_⟩
                  intro σ285 eσ285
                  have uI1623 : zInv A F 0 σ285 := by rw [eσ285]; exact inv232p uI1614 (pR pr (by decide)) (by omega) (by omega)
                  have ue1624 : ti ((σ285.1 223 9)) = ti ((σ282.1 223 9)) := by rw [eσ285]; exact congrArg ti (zI_q (Or.inl (by omega)))
                  have ud1625 : 0 ≤ ti ((σ282.1 223 9)) ∧ ti ((σ282.1 223 9)) ≤ 600 := rdr uI1614 kd_223 rfl rfl
                  have ud1626 : 0 ≤ ti ((σ285.1 223 9)) ∧ ti ((σ285.1 223 9)) ≤ 600 := rdr uI1623 kd_223 rfl rfl
                  have ue1627 : ti ((σ285.1 223 12)) = ti ((σ282.1 223 12)) := by rw [eσ285]; exact congrArg ti (zI_q (Or.inl (by omega)))
                  exact hP (1 : Int32) σ285 uI1623 (fun _ => by omega)
                · intro uq1628
                  have uc1629 := eq_t uq1628
                  have ud1630 : 0 ≤ ti ((σ282.1 223 9)) ∧ ti ((σ282.1 223 9)) ≤ 600 := rdr uI1614 kd_223 rfl rfl
                  exact hP (0 : Int32) σ282 uI1614 (fun q => absurd rfl q)
            · intro uq1631
              have ul1632 := lit_2
              have uc1633 := eq_t uq1631
              refine ⟨?_, ?_⟩
              · intro uq1634
                have ul1635 := lit_4
                have uc1636 := ne_t uq1634
                refine ⟨?_, ?_⟩
                · intro uq1637
                  have ul1638 := lit_6
                  have uc1639 := ne_t uq1637
                  have ul1640 := lit_1
                  have ul1641 := lit_9
                  have ud1642 : 0 ≤ ti ((σ273.1 223 9)) ∧ ti ((σ273.1 223 9)) ≤ 600 := rdr uI1554 kd_223 rfl rfl
                  refine s_X10_take0 pr b (1 : Int32) (9 : Int32) uI1554 (by omega) (fun r287 σ286 uI1643 uz1644 uz1645 => ?_)
                  intro ub1646
                  have uc1647 := bool_t ub1646
                  refine ⟨?_, ?_⟩
                  · intro uq1648
                    have uc1649 := uz1644 uq1648
                    have uc1650 := uz1645 uq1648
                    have uc1651 := ne_t uq1648
                    refine ⟨vin (by omega), ?_⟩
                    intro σ289 eσ289
                    have uI1652 : zInv A F 0 σ289 := by rw [eσ289]; exact inv232p uI1643 (pR pr (by decide)) (by omega) (by omega)
                    have ue1653 : ti ((σ289.1 223 9)) = ti ((σ286.1 223 9)) := by rw [eσ289]; exact congrArg ti (zI_q (Or.inl (by omega)))
                    have ud1654 : 0 ≤ ti ((σ286.1 223 9)) ∧ ti ((σ286.1 223 9)) ≤ 600 := rdr uI1643 kd_223 rfl rfl
                    have ud1655 : 0 ≤ ti ((σ289.1 223 9)) ∧ ti ((σ289.1 223 9)) ≤ 600 := rdr uI1652 kd_223 rfl rfl
                    have ue1656 : ti ((σ289.1 223 12)) = ti ((σ286.1 223 12)) := by rw [eσ289]; exact congrArg ti (zI_q (Or.inl (by omega)))
                    exact hP (1 : Int32) σ289 uI1652 (fun _ => by omega)
                  · intro uq1657
                    have uc1658 := eq_t uq1657
                    have ud1659 : 0 ≤ ti ((σ286.1 223 9)) ∧ ti ((σ286.1 223 9)) ≤ 600 := rdr uI1643 kd_223 rfl rfl
                    exact hP (0 : Int32) σ286 uI1643 (fun q => absurd rfl q)
                · intro uq1660
                  have ul1661 := lit_6
                  have uc1662 := eq_t uq1660
                  have ul1663 := lit_1
                  have ul1664 := lit_999
                  have ud1665 : 0 ≤ ti ((σ273.1 223 9)) ∧ ti ((σ273.1 223 9)) ≤ 600 := rdr uI1554 kd_223 rfl rfl
                  refine s_X10_take0 pr b (1 : Int32) (999 : Int32) uI1554 (by omega) (fun r291 σ290 uI1666 uz1667 uz1668 => ?_)
                  intro ub1669
                  have uc1670 := bool_t ub1669
                  refine ⟨?_, ?_⟩
                  · intro uq1671
                    have uc1672 := uz1667 uq1671
                    have uc1673 := uz1668 uq1671
                    have uc1674 := ne_t uq1671
                    refine ⟨vin (by omega), ?_⟩
                    intro σ293 eσ293
                    have uI1675 : zInv A F 0 σ293 := by rw [eσ293]; exact inv232p uI1666 (pR pr (by decide)) (by omega) (by omega)
                    have ue1676 : ti ((σ293.1 223 9)) = ti ((σ290.1 223 9)) := by rw [eσ293]; exact congrArg ti (zI_q (Or.inl (by omega)))
                    have ud1677 : 0 ≤ ti ((σ290.1 223 9)) ∧ ti ((σ290.1 223 9)) ≤ 600 := rdr uI1666 kd_223 rfl rfl
                    have ud1678 : 0 ≤ ti ((σ293.1 223 9)) ∧ ti ((σ293.1 223 9)) ≤ 600 := rdr uI1675 kd_223 rfl rfl
                    have ue1679 : ti ((σ293.1 223 12)) = ti ((σ290.1 223 12)) := by rw [eσ293]; exact congrArg ti (zI_q (Or.inl (by omega)))
                    exact hP (1 : Int32) σ293 uI1675 (fun _ => by omega)
                  · intro uq1680
                    have uc1681 := eq_t uq1680
                    have ud1682 : 0 ≤ ti ((σ290.1 223 9)) ∧ ti ((σ290.1 223 9)) ≤ 600 := rdr uI1666 kd_223 rfl rfl
                    exact hP (0 : Int32) σ290 uI1666 (fun q => absurd rfl q)
              · intro uq1683
                have ul1684 := lit_4
                have uc1685 := eq_t uq1683
                have ul1686 := lit_1
                have ul1687 := lit_60
                have ud1688 : 0 ≤ ti ((σ273.1 223 9)) ∧ ti ((σ273.1 223 9)) ≤ 600 := rdr uI1554 kd_223 rfl rfl
                refine s_X10_take0 pr b (1 : Int32) (60 : Int32) uI1554 (by omega) (fun r295 σ294 uI1689 uz1690 uz1691 => ?_)
                intro ub1692
                have uc1693 := bool_t ub1692
                refine ⟨?_, ?_⟩
                · intro uq1694
                  have uc1695 := uz1690 uq1694
                  have uc1696 := uz1691 uq1694
                  have uc1697 := ne_t uq1694
                  refine ⟨vin (by omega), ?_⟩
                  intro σ297 eσ297
                  have uI1698 : zInv A F 0 σ297 := by rw [eσ297]; exact inv232p uI1689 (pR pr (by decide)) (by omega) (by omega)
                  have ue1699 : ti ((σ297.1 223 9)) = ti ((σ294.1 223 9)) := by rw [eσ297]; exact congrArg ti (zI_q (Or.inl (by omega)))
                  have ud1700 : 0 ≤ ti ((σ294.1 223 9)) ∧ ti ((σ294.1 223 9)) ≤ 600 := rdr uI1689 kd_223 rfl rfl
                  have ud1701 : 0 ≤ ti ((σ297.1 223 9)) ∧ ti ((σ297.1 223 9)) ≤ 600 := rdr uI1698 kd_223 rfl rfl
                  have ue1702 : ti ((σ297.1 223 12)) = ti ((σ294.1 223 12)) := by rw [eσ297]; exact congrArg ti (zI_q (Or.inl (by omega)))
                  exact hP (1 : Int32) σ297 uI1698 (fun _ => by omega)
                · intro uq1703
                  have uc1704 := eq_t uq1703
                  have ud1705 : 0 ≤ ti ((σ294.1 223 9)) ∧ ti ((σ294.1 223 9)) ≤ 600 := rdr uI1689 kd_223 rfl rfl
                  exact hP (0 : Int32) σ294 uI1689 (fun q => absurd rfl q)
          · intro uq1706
            have uc1707 := eq_t uq1706
            refine ⟨?_, ?_⟩
            · intro uq1708
              refine ⟨?_, ?_⟩
              · intro uq1709
                refine ⟨?_, ?_⟩
                · intro uq1710
                  have ud1711 : 0 ≤ ti ((σ273.1 223 9)) ∧ ti ((σ273.1 223 9)) ≤ 600 := rdr uI1554 kd_223 rfl rfl
                  refine s_X10_ofPost pr b (0 : Int32) uI1554 (by omega) (fun r299 σ298 uI1712 uz1713 => ?_)
                  intro ub1714
                  have uc1715 := bool_t ub1714
                  refine ⟨ub1714, ?_⟩
                  have ud1716 : 0 ≤ ti ((σ298.1 223 9)) ∧ ti ((σ298.1 223 9)) ≤ 600 := rdr uI1712 kd_223 rfl rfl
                  exact hP r299 σ298 uI1712 (fun q => by have := uz1713 q; omega)
                · intro uq1717
                  have ul1718 := lit_1
                  have ud1719 : 0 ≤ ti ((σ273.1 223 9)) ∧ ti ((σ273.1 223 9)) ≤ 600 := rdr uI1554 kd_223 rfl rfl
                  refine s_X10_ofPost pr b (1 : Int32) uI1554 (by omega) (fun r301 σ300 uI1720 uz1721 => ?_)
                  intro ub1722
                  have uc1723 := bool_t ub1722
                  refine ⟨ub1722, ?_⟩
                  have ud1724 : 0 ≤ ti ((σ300.1 223 9)) ∧ ti ((σ300.1 223 9)) ≤ 600 := rdr uI1720 kd_223 rfl rfl
                  exact hP r301 σ300 uI1720 (fun q => by have := uz1721 q; omega)
              · intro uq1725
                have ud1726 : 0 ≤ ti ((σ273.1 223 9)) ∧ ti ((σ273.1 223 9)) ≤ 600 := rdr uI1554 kd_223 rfl rfl
                refine s_X10_riderLine pr b uI1554 (by omega) (fun r303 σ302 uI1727 uz1728 => ?_)
                intro ub1729
                have uc1730 := bool_t ub1729
                refine ⟨ub1729, ?_⟩
                have ud1731 : 0 ≤ ti ((σ302.1 223 9)) ∧ ti ((σ302.1 223 9)) ≤ 600 := rdr uI1727 kd_223 rfl rfl
                exact hP r303 σ302 uI1727 (fun q => by have := uz1728 q; omega)
            · intro uq1732
              have ud1733 : 0 ≤ ti ((σ273.1 223 9)) ∧ ti ((σ273.1 223 9)) ≤ 600 := rdr uI1554 kd_223 rfl rfl
              refine s_X10_postLine pr b uI1554 (by omega) (fun r305 σ304 uI1734 uz1735 => ?_)
              intro ub1736
              have uc1737 := bool_t ub1736
              refine ⟨ub1736, ?_⟩
              have ud1738 : 0 ≤ ti ((σ304.1 223 9)) ∧ ti ((σ304.1 223 9)) ≤ 600 := rdr uI1734 kd_223 rfl rfl
              exact hP r305 σ304 uI1734 (fun q => by have := uz1735 q; omega)
      · intro uq1739
        refine ⟨?_, ?_⟩
        · intro uq1740
          refine ⟨?_, ?_⟩
          · intro uq1741
            refine ⟨?_, ?_⟩
            · intro uq1742
              have ud1743 : 0 ≤ ti ((σ.1 223 9)) ∧ ti ((σ.1 223 9)) ≤ 600 := rdr I kd_223 rfl rfl
              refine s_X10_token (okR_K pr) b I (by omega) (fun σ306 uI1744 uy1745 uy1746 => ?_)
              refine ⟨?_, ?_⟩
              · intro uq1747
                have uc1748 := ne_t uq1747
                refine ⟨?_, ?_⟩
                · intro uq1749
                  have ul1750 := lit_2
                  have uc1751 := ne_t uq1749
                  refine ⟨?_, ?_⟩
                  · intro uq1752
                    have ul1753 := lit_4
                    have uc1754 := ne_t uq1752
                    refine ⟨?_, ?_⟩
                    · intro uq1755
                      have ul1756 := lit_6
                      have uc1757 := ne_t uq1755
                      have ul1758 := lit_0
                      have ul1759 := lit_9
                      have ud1760 : 0 ≤ ti ((σ306.1 223 9)) ∧ ti ((σ306.1 223 9)) ≤ 600 := rdr uI1744 kd_223 rfl rfl
                      refine s_X10_take0 pr b (0 : Int32) (9 : Int32) uI1744 (by omega) (fun r308 σ307 uI1761 uz1762 uz1763 => ?_)
                      intro ub1764
                      have uc1765 := bool_t ub1764
                      refine ⟨?_, ?_⟩
                      · intro uq1766
                        have uc1767 := uz1762 uq1766
                        have uc1768 := uz1763 uq1766
                        have uc1769 := ne_t uq1766
                        refine ⟨vin (by omega), ?_⟩
                        intro σ310 eσ310
                        have uI1770 : zInv A F 0 σ310 := by rw [eσ310]; exact inv232p uI1761 (pR pr (by decide)) (by omega) (by omega)
                        have ue1771 : ti ((σ310.1 223 9)) = ti ((σ307.1 223 9)) := by rw [eσ310]; exact congrArg ti (zI_q (Or.inl (by omega)))
                        have ud1772 : 0 ≤ ti ((σ307.1 223 9)) ∧ ti ((σ307.1 223 9)) ≤ 600 := rdr uI1761 kd_223 rfl rfl
                        have ud1773 : 0 ≤ ti ((σ310.1 223 9)) ∧ ti ((σ310.1 223 9)) ≤ 600 := rdr uI1770 kd_223 rfl rfl
                        have ue1774 : ti ((σ310.1 223 12)) = ti ((σ307.1 223 12)) := by rw [eσ310]; exact congrArg ti (zI_q (Or.inl (by omega)))
                        exact hP (1 : Int32) σ310 uI1770 (fun _ => by omega)
                      · intro uq1775
                        have uc1776 := eq_t uq1775
                        have ud1777 : 0 ≤ ti ((σ307.1 223 9)) ∧ ti ((σ307.1 223 9)) ≤ 600 := rdr uI1761 kd_223 rfl rfl
                        exact hP (0 : Int32) σ307 uI1761 (fun q => absurd rfl q)
                    · intro uq1778
                      have ul1779 := lit_6
                      have uc1780 := eq_t uq1778
                      have ul1781 := lit_0
                      have ul1782 := lit_999
                      have ud1783 : 0 ≤ ti ((σ306.1 223 9)) ∧ ti ((σ306.1 223 9)) ≤ 600 := rdr uI1744 kd_223 rfl rfl
                      refine s_X10_take0 pr b (0 : Int32) (999 : Int32) uI1744 (by omega) (fun r312 σ311 uI1784 uz1785 uz1786 => ?_)
                      intro ub1787
                      have uc1788 := bool_t ub1787
                      refine ⟨?_, ?_⟩
                      · intro uq1789
                        have uc1790 := uz1785 uq1789
                        have uc1791 := uz1786 uq1789
                        have uc1792 := ne_t uq1789
                        refine ⟨vin (by omega), ?_⟩
                        intro σ314 eσ314
                        have uI1793 : zInv A F 0 σ314 := by rw [eσ314]; exact inv232p uI1784 (pR pr (by decide)) (by omega) (by omega)
                        have ue1794 : ti ((σ314.1 223 9)) = ti ((σ311.1 223 9)) := by rw [eσ314]; exact congrArg ti (zI_q (Or.inl (by omega)))
                        have ud1795 : 0 ≤ ti ((σ311.1 223 9)) ∧ ti ((σ311.1 223 9)) ≤ 600 := rdr uI1784 kd_223 rfl rfl
                        have ud1796 : 0 ≤ ti ((σ314.1 223 9)) ∧ ti ((σ314.1 223 9)) ≤ 600 := rdr uI1793 kd_223 rfl rfl
                        have ue1797 : ti ((σ314.1 223 12)) = ti ((σ311.1 223 12)) := by rw [eσ314]; exact congrArg ti (zI_q (Or.inl (by omega)))
                        exact hP (1 : Int32) σ314 uI1793 (fun _ => by omega)
                      · intro uq1798
                        have uc1799 := eq_t uq1798
                        have ud1800 : 0 ≤ ti ((σ311.1 223 9)) ∧ ti ((σ311.1 223 9)) ≤ 600 := rdr uI1784 kd_223 rfl rfl
                        exact hP (0 : Int32) σ311 uI1784 (fun q => absurd rfl q)
                  · intro uq1801
                    have ul1802 := lit_4
                    have uc1803 := eq_t uq1801
                    have ul1804 := lit_0
                    have ul1805 := lit_60
                    have ud1806 : 0 ≤ ti ((σ306.1 223 9)) ∧ ti ((σ306.1 223 9)) ≤ 600 := rdr uI1744 kd_223 rfl rfl
                    refine s_X10_take0 pr b (0 : Int32) (60 : Int32) uI1744 (by omega) (fun r316 σ315 uI1807 uz1808 uz1809 => ?_)
                    intro ub1810
                    have uc1811 := bool_t ub1810
                    refine ⟨?_, ?_⟩
                    · intro uq1812
                      have uc1813 := uz1808 uq1812
                      have uc1814 := uz1809 uq1812
                      have uc1815 := ne_t uq1812
                      refine ⟨vin (by omega), ?_⟩
                      intro σ318 eσ318
                      have uI1816 : zInv A F 0 σ318 := by rw [eσ318]; exact inv232p uI1807 (pR pr (by decide)) (by omega) (by omega)
                      have ue1817 : ti ((σ318.1 223 9)) = ti ((σ315.1 223 9)) := by rw [eσ318]; exact congrArg ti (zI_q (Or.inl (by omega)))
                      have ud1818 : 0 ≤ ti ((σ315.1 223 9)) ∧ ti ((σ315.1 223 9)) ≤ 600 := rdr uI1807 kd_223 rfl rfl
                      have ud1819 : 0 ≤ ti ((σ318.1 223 9)) ∧ ti ((σ318.1 223 9)) ≤ 600 := rdr uI1816 kd_223 rfl rfl
                      have ue1820 : ti ((σ318.1 223 12)) = ti ((σ315.1 223 12)) := by rw [eσ318]; exact congrArg ti (zI_q (Or.inl (by omega)))
                      exact hP (1 : Int32) σ318 uI1816 (fun _ => by omega)
                    · intro uq1821
                      have uc1822 := eq_t uq1821
                      have ud1823 : 0 ≤ ti ((σ315.1 223 9)) ∧ ti ((σ315.1 223 9)) ≤ 600 := rdr uI1807 kd_223 rfl rfl
                      exact hP (0 : Int32) σ315 uI1807 (fun q => absurd rfl q)
                · intro uq1824
                  have ul1825 := lit_2
                  have uc1826 := eq_t uq1824
                  refine ⟨?_, ?_⟩
                  · intro uq1827
                    have ul1828 := lit_4
                    have uc1829 := ne_t uq1827
                    refine ⟨?_, ?_⟩
                    · intro uq1830
                      have ul1831 := lit_6
                      have uc1832 := ne_t uq1830
                      have ul1833 := lit_0
                      have ul1834 := lit_1
                      have ul1835 := lit_9
                      have ud1836 : 0 ≤ ti ((σ306.1 223 9)) ∧ ti ((σ306.1 223 9)) ≤ 600 := rdr uI1744 kd_223 rfl rfl
                      refine s_X10_take0 pr b (1 : Int32) (9 : Int32) uI1744 (by omega) (fun r320 σ319 uI1837 uz1838 uz1839 => ?_)
                      intro ub1840
                      have uc1841 := bool_t ub1840
                      refine ⟨?_, ?_⟩
                      · intro uq1842
                        have uc1843 := uz1838 uq1842
                        have uc1844 := uz1839 uq1842
                        have uc1845 := ne_t uq1842
                        refine ⟨vin (by omega), ?_⟩
                        intro σ322 eσ322
                        have uI1846 : zInv A F 0 σ322 := by rw [eσ322]; exact inv232p uI1837 (pR pr (by decide)) (by omega) (by omega)
                        have ue1847 : ti ((σ322.1 223 9)) = ti ((σ319.1 223 9)) := by rw [eσ322]; exact congrArg ti (zI_q (Or.inl (by omega)))
                        have ud1848 : 0 ≤ ti ((σ319.1 223 9)) ∧ ti ((σ319.1 223 9)) ≤ 600 := rdr uI1837 kd_223 rfl rfl
                        have ud1849 : 0 ≤ ti ((σ322.1 223 9)) ∧ ti ((σ322.1 223 9)) ≤ 600 := rdr uI1846 kd_223 rfl rfl
                        have ue1850 : ti ((σ322.1 223 12)) = ti ((σ319.1 223 12)) := by rw [eσ322]; exact congrArg ti (zI_q (Or.inl (by omega)))
                        exact hP (1 : Int32) σ322 uI1846 (fun _ => by omega)
                      · intro uq1851
                        have uc1852 := eq_t uq1851
                        have ud1853 : 0 ≤ ti ((σ319.1 223 9)) ∧ ti ((σ319.1 223 9)) ≤ 600 := rdr uI1837 kd_223 rfl rfl
                        exact hP (0 : Int32) σ319 uI1837 (fun q => absurd rfl q)
                    · intro uq1854
                      have ul1855 := lit_6
                      have uc1856 := eq_t uq1854
                      have ul1857 := lit_0
                      have ul1858 := lit_1
                      have ul1859 := lit_999
                      have ud1860 : 0 ≤ ti ((σ306.1 223 9)) ∧ ti ((σ306.1 223 9)) ≤ 600 := rdr uI1744 kd_223 rfl rfl
                      refine s_X10_take0 pr b (1 : Int32) (999 : Int32) uI1744 (by omega) (fun r324 σ323 uI1861 uz1862 uz1863 => ?_)
                      intro ub1864
                      have uc1865 := bool_t ub1864
                      refine ⟨?_, ?_⟩
                      · intro uq1866
                        have uc1867 := uz1862 uq1866
                        have uc1868 := uz1863 uq1866
                        have uc1869 := ne_t uq1866
                        refine ⟨vin (by omega), ?_⟩
                        intro σ326 eσ326
                        have uI1870 : zInv A F 0 σ326 := by rw [eσ326]; exact inv232p uI1861 (pR pr (by decide)) (by omega) (by omega)
                        have ue1871 : ti ((σ326.1 223 9)) = ti ((σ323.1 223 9)) := by rw [eσ326]; exact congrArg ti (zI_q (Or.inl (by omega)))
                        have ud1872 : 0 ≤ ti ((σ323.1 223 9)) ∧ ti ((σ323.1 223 9)) ≤ 600 := rdr uI1861 kd_223 rfl rfl
                        have ud1873 : 0 ≤ ti ((σ326.1 223 9)) ∧ ti ((σ326.1 223 9)) ≤ 600 := rdr uI1870 kd_223 rfl rfl
                        have ue1874 : ti ((σ326.1 223 12)) = ti ((σ323.1 223 12)) := by rw [eσ326]; exact congrArg ti (zI_q (Or.inl (by omega)))
                        exact hP (1 : Int32) σ326 uI1870 (fun _ => by omega)
                      · intro uq1875
                        have uc1876 := eq_t uq1875
                        have ud1877 : 0 ≤ ti ((σ323.1 223 9)) ∧ ti ((σ323.1 223 9)) ≤ 600 := rdr uI1861 kd_223 rfl rfl
                        exact hP (0 : Int32) σ323 uI1861 (fun q => absurd rfl q)
                  · intro uq1878
                    have ul1879 := lit_4
                    have uc1880 := eq_t uq1878
                    have ul1881 := lit_0
                    have ul1882 := lit_1
                    have ul1883 := lit_60
                    have ud1884 : 0 ≤ ti ((σ306.1 223 9)) ∧ ti ((σ306.1 223 9)) ≤ 600 := rdr uI1744 kd_223 rfl rfl
                    refine s_X10_take0 pr b (1 : Int32) (60 : Int32) uI1744 (by omega) (fun r328 σ327 uI1885 uz1886 uz1887 => ?_)
                    intro ub1888
                    have uc1889 := bool_t ub1888
                    refine ⟨?_, ?_⟩
                    · intro uq1890
                      have uc1891 := uz1886 uq1890
                      have uc1892 := uz1887 uq1890
                      have uc1893 := ne_t uq1890
                      refine ⟨vin (by omega), ?_⟩
                      intro σ330 eσ330
                      have uI1894 : zInv A F 0 σ330 := by rw [eσ330]; exact inv232p uI1885 (pR pr (by decide)) (by omega) (by omega)
                      have ue1895 : ti ((σ330.1 223 9)) = ti ((σ327.1 223 9)) := by rw [eσ330]; exact congrArg ti (zI_q (Or.inl (by omega)))
                      have ud1896 : 0 ≤ ti ((σ327.1 223 9)) ∧ ti ((σ327.1 223 9)) ≤ 600 := rdr uI1885 kd_223 rfl rfl
                      have ud1897 : 0 ≤ ti ((σ330.1 223 9)) ∧ ti ((σ330.1 223 9)) ≤ 600 := rdr uI1894 kd_223 rfl rfl
                      have ue1898 : ti ((σ330.1 223 12)) = ti ((σ327.1 223 12)) := by rw [eσ330]; exact congrArg ti (zI_q (Or.inl (by omega)))
                      exact hP (1 : Int32) σ330 uI1894 (fun _ => by omega)
                    · intro uq1899
                      have uc1900 := eq_t uq1899
                      have ud1901 : 0 ≤ ti ((σ327.1 223 9)) ∧ ti ((σ327.1 223 9)) ≤ 600 := rdr uI1885 kd_223 rfl rfl
                      exact hP (0 : Int32) σ327 uI1885 (fun q => absurd rfl q)
              · intro uq1902
                have uc1903 := eq_t uq1902
                refine ⟨?_, ?_⟩
                · intro uq1904
                  refine ⟨?_, ?_⟩
                  · intro uq1905
                    refine ⟨?_, ?_⟩
                    · intro uq1906
                      have ul1907 := lit_0
                      have ud1908 : 0 ≤ ti ((σ306.1 223 9)) ∧ ti ((σ306.1 223 9)) ≤ 600 := rdr uI1744 kd_223 rfl rfl
                      refine s_X10_ofPost pr b (0 : Int32) uI1744 (by omega) (fun r332 σ331 uI1909 uz1910 => ?_)
                      intro ub1911
                      have uc1912 := bool_t ub1911
                      refine ⟨ub1911, ?_⟩
                      have ud1913 : 0 ≤ ti ((σ331.1 223 9)) ∧ ti ((σ331.1 223 9)) ≤ 600 := rdr uI1909 kd_223 rfl rfl
                      exact hP r332 σ331 uI1909 (fun q => by have := uz1910 q; omega)
                    · intro uq1914
                      have ul1915 := lit_1
                      have ud1916 : 0 ≤ ti ((σ306.1 223 9)) ∧ ti ((σ306.1 223 9)) ≤ 600 := rdr uI1744 kd_223 rfl rfl
                      refine s_X10_ofPost pr b (1 : Int32) uI1744 (by omega) (fun r334 σ333 uI1917 uz1918 => ?_)
                      intro ub1919
                      have uc1920 := bool_t ub1919
                      refine ⟨ub1919, ?_⟩
                      have ud1921 : 0 ≤ ti ((σ333.1 223 9)) ∧ ti ((σ333.1 223 9)) ≤ 600 := rdr uI1917 kd_223 rfl rfl
                      exact hP r334 σ333 uI1917 (fun q => by have := uz1918 q; omega)
                  · intro uq1922
                    have ud1923 : 0 ≤ ti ((σ306.1 223 9)) ∧ ti ((σ306.1 223 9)) ≤ 600 := rdr uI1744 kd_223 rfl rfl
                    refine s_X10_riderLine pr b uI1744 (by omega) (fun r336 σ335 uI1924 uz1925 => ?_)
                    intro ub1926
                    have uc1927 := bool_t ub1926
                    refine ⟨ub1926, ?_⟩
                    have ud1928 : 0 ≤ ti ((σ335.1 223 9)) ∧ ti ((σ335.1 223 9)) ≤ 600 := rdr uI1924 kd_223 rfl rfl
                    exact hP r336 σ335 uI1924 (fun q => by have := uz1925 q; omega)
                · intro uq1929
                  have ud1930 : 0 ≤ ti ((σ306.1 223 9)) ∧ ti ((σ306.1 223 9)) ≤ 600 := rdr uI1744 kd_223 rfl rfl
                  refine s_X10_postLine pr b uI1744 (by omega) (fun r338 σ337 uI1931 uz1932 => ?_)
                  intro ub1933
                  have uc1934 := bool_t ub1933
                  refine ⟨ub1933, ?_⟩
                  have ud1935 : 0 ≤ ti ((σ337.1 223 9)) ∧ ti ((σ337.1 223 9)) ≤ 600 := rdr uI1931 kd_223 rfl rfl
                  exact hP r338 σ337 uI1931 (fun q => by have := uz1932 q; omega)
            · intro uq1936
              have ul1937 := lit_1
              have ul1938 := lit_6
              refine s_X10_full (okR_J pr) (1 : Int32) (6 : Int32) a2 (by omega) I (fun σ339 uI1939 uy1940 => ?_)
              have ud1941 : 0 ≤ ti ((σ339.1 223 9)) ∧ ti ((σ339.1 223 9)) ≤ 600 := rdr uI1939 kd_223 rfl rfl
              refine s_X10_token (okR_K pr) b uI1939 (by omega) (fun σ340 uI1942 uy1943 uy1944 => ?_)
              refine ⟨?_, ?_⟩
              · intro uq1945
                have uc1946 := ne_t uq1945
                refine ⟨?_, ?_⟩
                · intro uq1947
                  have ul1948 := lit_2
                  have uc1949 := ne_t uq1947
                  refine ⟨?_, ?_⟩
                  · intro uq1950
                    have ul1951 := lit_4
                    have uc1952 := ne_t uq1950
                    refine ⟨?_, ?_⟩
                    · intro uq1953
                      have uc1954 := ne_t uq1953
                      have ul1955 := lit_0
                      have ul1956 := lit_9
                      have ud1957 : 0 ≤ ti ((σ340.1 223 9)) ∧ ti ((σ340.1 223 9)) ≤ 600 := rdr uI1942 kd_223 rfl rfl
                      refine s_X10_take0 pr b (0 : Int32) (9 : Int32) uI1942 (by omega) (fun r342 σ341 uI1958 uz1959 uz1960 => ?_)
                      intro ub1961
                      have uc1962 := bool_t ub1961
                      refine ⟨?_, ?_⟩
                      · intro uq1963
                        have uc1964 := uz1959 uq1963
                        have uc1965 := uz1960 uq1963
                        have uc1966 := ne_t uq1963
                        refine ⟨vin (by omega), ?_⟩
                        intro σ344 eσ344
                        have uI1967 : zInv A F 0 σ344 := by rw [eσ344]; exact inv232p uI1958 (pR pr (by decide)) (by omega) (by omega)
                        have ue1968 : ti ((σ344.1 223 9)) = ti ((σ341.1 223 9)) := by rw [eσ344]; exact congrArg ti (zI_q (Or.inl (by omega)))
                        have ud1969 : 0 ≤ ti ((σ341.1 223 9)) ∧ ti ((σ341.1 223 9)) ≤ 600 := rdr uI1958 kd_223 rfl rfl
                        have ud1970 : 0 ≤ ti ((σ344.1 223 9)) ∧ ti ((σ344.1 223 9)) ≤ 600 := rdr uI1967 kd_223 rfl rfl
                        have ue1971 : ti ((σ344.1 223 12)) = ti ((σ341.1 223 12)) := by rw [eσ344]; exact congrArg ti (zI_q (Or.inl (by omega)))
                        exact hP (1 : Int32) σ344 uI1967 (fun _ => by omega)
                      · intro uq1972
                        have uc1973 := eq_t uq1972
                        have ud1974 : 0 ≤ ti ((σ341.1 223 9)) ∧ ti ((σ341.1 223 9)) ≤ 600 := rdr uI1958 kd_223 rfl rfl
                        exact hP (0 : Int32) σ341 uI1958 (fun q => absurd rfl q)
                    · intro uq1975
                      have uc1976 := eq_t uq1975
                      have ul1977 := lit_0
                      have ul1978 := lit_999
                      have ud1979 : 0 ≤ ti ((σ340.1 223 9)) ∧ ti ((σ340.1 223 9)) ≤ 600 := rdr uI1942 kd_223 rfl rfl
                      refine s_X10_take0 pr b (0 : Int32) (999 : Int32) uI1942 (by omega) (fun r346 σ345 uI1980 uz1981 uz1982 => ?_)
                      intro ub1983
                      have uc1984 := bool_t ub1983
                      refine ⟨?_, ?_⟩
                      · intro uq1985
                        have uc1986 := uz1981 uq1985
                        have uc1987 := uz1982 uq1985
                        have uc1988 := ne_t uq1985
                        refine ⟨vin (by omega), ?_⟩
                        intro σ348 eσ348
                        have uI1989 : zInv A F 0 σ348 := by rw [eσ348]; exact inv232p uI1980 (pR pr (by decide)) (by omega) (by omega)
                        have ue1990 : ti ((σ348.1 223 9)) = ti ((σ345.1 223 9)) := by rw [eσ348]; exact congrArg ti (zI_q (Or.inl (by omega)))
                        have ud1991 : 0 ≤ ti ((σ345.1 223 9)) ∧ ti ((σ345.1 223 9)) ≤ 600 := rdr uI1980 kd_223 rfl rfl
                        have ud1992 : 0 ≤ ti ((σ348.1 223 9)) ∧ ti ((σ348.1 223 9)) ≤ 600 := rdr uI1989 kd_223 rfl rfl
                        have ue1993 : ti ((σ348.1 223 12)) = ti ((σ345.1 223 12)) := by rw [eσ348]; exact congrArg ti (zI_q (Or.inl (by omega)))
                        exact hP (1 : Int32) σ348 uI1989 (fun _ => by omega)
                      · intro uq1994
                        have uc1995 := eq_t uq1994
                        have ud1996 : 0 ≤ ti ((σ345.1 223 9)) ∧ ti ((σ345.1 223 9)) ≤ 600 := rdr uI1980 kd_223 rfl rfl
                        exact hP (0 : Int32) σ345 uI1980 (fun q => absurd rfl q)
                  · intro uq1997
                    have ul1998 := lit_4
                    have uc1999 := eq_t uq1997
                    have ul2000 := lit_0
                    have ul2001 := lit_60
                    have ud2002 : 0 ≤ ti ((σ340.1 223 9)) ∧ ti ((σ340.1 223 9)) ≤ 600 := rdr uI1942 kd_223 rfl rfl
                    refine s_X10_take0 pr b (0 : Int32) (60 : Int32) uI1942 (by omega) (fun r350 σ349 uI2003 uz2004 uz2005 => ?_)
                    intro ub2006
                    have uc2007 := bool_t ub2006
                    refine ⟨?_, ?_⟩
                    · intro uq2008
                      have uc2009 := uz2004 uq2008
                      have uc2010 := uz2005 uq2008
                      have uc2011 := ne_t uq2008
                      refine ⟨vin (by omega), ?_⟩
                      intro σ352 eσ352
                      have uI2012 : zInv A F 0 σ352 := by rw [eσ352]; exact inv232p uI2003 (pR pr (by decide)) (by omega) (by omega)
                      have ue2013 : ti ((σ352.1 223 9)) = ti ((σ349.1 223 9)) := by rw [eσ352]; exact congrArg ti (zI_q (Or.inl (by omega)))
                      have ud2014 : 0 ≤ ti ((σ349.1 223 9)) ∧ ti ((σ349.1 223 9)) ≤ 600 := rdr uI2003 kd_223 rfl rfl
                      have ud2015 : 0 ≤ ti ((σ352.1 223 9)) ∧ ti ((σ352.1 223 9)) ≤ 600 := rdr uI2012 kd_223 rfl rfl
                      have ue2016 : ti ((σ352.1 223 12)) = ti ((σ349.1 223 12)) := by rw [eσ352]; exact congrArg ti (zI_q (Or.inl (by omega)))
                      exact hP (1 : Int32) σ352 uI2012 (fun _ => by omega)
                    · intro uq2017
                      have uc2018 := eq_t uq2017
                      have ud2019 : 0 ≤ ti ((σ349.1 223 9)) ∧ ti ((σ349.1 223 9)) ≤ 600 := rdr uI2003 kd_223 rfl rfl
                      exact hP (0 : Int32) σ349 uI2003 (fun q => absurd rfl q)
                · intro uq2020
                  have ul2021 := lit_2
                  have uc2022 := eq_t uq2020
                  refine ⟨?_, ?_⟩
                  · intro uq2023
                    have ul2024 := lit_4
                    have uc2025 := ne_t uq2023
                    refine ⟨?_, ?_⟩
                    · intro uq2026
                      have uc2027 := ne_t uq2026
                      have ul2028 := lit_0
                      have ul2029 := lit_9
                      have ud2030 : 0 ≤ ti ((σ340.1 223 9)) ∧ ti ((σ340.1 223 9)) ≤ 600 := rdr uI1942 kd_223 rfl rfl
                      refine s_X10_take0 pr b (1 : Int32) (9 : Int32) uI1942 (by omega) (fun r354 σ353 uI2031 uz2032 uz2033 => ?_)
                      intro ub2034
                      have uc2035 := bool_t ub2034
                      refine ⟨?_, ?_⟩
                      · intro uq2036
                        have uc2037 := uz2032 uq2036
                        have uc2038 := uz2033 uq2036
                        have uc2039 := ne_t uq2036
                        refine ⟨vin (by omega), ?_⟩
                        intro σ356 eσ356
                        have uI2040 : zInv A F 0 σ356 := by rw [eσ356]; exact inv232p uI2031 (pR pr (by decide)) (by omega) (by omega)
                        have ue2041 : ti ((σ356.1 223 9)) = ti ((σ353.1 223 9)) := by rw [eσ356]; exact congrArg ti (zI_q (Or.inl (by omega)))
                        have ud2042 : 0 ≤ ti ((σ353.1 223 9)) ∧ ti ((σ353.1 223 9)) ≤ 600 := rdr uI2031 kd_223 rfl rfl
                        have ud2043 : 0 ≤ ti ((σ356.1 223 9)) ∧ ti ((σ356.1 223 9)) ≤ 600 := rdr uI2040 kd_223 rfl rfl
                        have ue2044 : ti ((σ356.1 223 12)) = ti ((σ353.1 223 12)) := by rw [eσ356]; exact congrArg ti (zI_q (Or.inl (by omega)))
                        exact hP (1 : Int32) σ356 uI2040 (fun _ => by omega)
                      · intro uq2045
                        have uc2046 := eq_t uq2045
                        have ud2047 : 0 ≤ ti ((σ353.1 223 9)) ∧ ti ((σ353.1 223 9)) ≤ 600 := rdr uI2031 kd_223 rfl rfl
                        exact hP (0 : Int32) σ353 uI2031 (fun q => absurd rfl q)
                    · intro uq2048
                      have uc2049 := eq_t uq2048
                      have ul2050 := lit_0
                      have ul2051 := lit_999
                      have ud2052 : 0 ≤ ti ((σ340.1 223 9)) ∧ ti ((σ340.1 223 9)) ≤ 600 := rdr uI1942 kd_223 rfl rfl
                      refine s_X10_take0 pr b (1 : Int32) (999 : Int32) uI1942 (by omega) (fun r358 σ357 uI2053 uz2054 uz2055 => ?_)
                      intro ub2056
                      have uc2057 := bool_t ub2056
                      refine ⟨?_, ?_⟩
                      · intro uq2058
                        have uc2059 := uz2054 uq2058
                        have uc2060 := uz2055 uq2058
                        have uc2061 := ne_t uq2058
                        refine ⟨vin (by omega), ?_⟩
                        intro σ360 eσ360
                        have uI2062 : zInv A F 0 σ360 := by rw [eσ360]; exact inv232p uI2053 (pR pr (by decide)) (by omega) (by omega)
                        have ue2063 : ti ((σ360.1 223 9)) = ti ((σ357.1 223 9)) := by rw [eσ360]; exact congrArg ti (zI_q (Or.inl (by omega)))
                        have ud2064 : 0 ≤ ti ((σ357.1 223 9)) ∧ ti ((σ357.1 223 9)) ≤ 600 := rdr uI2053 kd_223 rfl rfl
                        have ud2065 : 0 ≤ ti ((σ360.1 223 9)) ∧ ti ((σ360.1 223 9)) ≤ 600 := rdr uI2062 kd_223 rfl rfl
                        have ue2066 : ti ((σ360.1 223 12)) = ti ((σ357.1 223 12)) := by rw [eσ360]; exact congrArg ti (zI_q (Or.inl (by omega)))
                        exact hP (1 : Int32) σ360 uI2062 (fun _ => by omega)
                      · intro uq2067
                        have uc2068 := eq_t uq2067
                        have ud2069 : 0 ≤ ti ((σ357.1 223 9)) ∧ ti ((σ357.1 223 9)) ≤ 600 := rdr uI2053 kd_223 rfl rfl
                        exact hP (0 : Int32) σ357 uI2053 (fun q => absurd rfl q)
                  · intro uq2070
                    have ul2071 := lit_4
                    have uc2072 := eq_t uq2070
                    have ul2073 := lit_0
                    have ul2074 := lit_60
                    have ud2075 : 0 ≤ ti ((σ340.1 223 9)) ∧ ti ((σ340.1 223 9)) ≤ 600 := rdr uI1942 kd_223 rfl rfl
                    refine s_X10_take0 pr b (1 : Int32) (60 : Int32) uI1942 (by omega) (fun r362 σ361 uI2076 uz2077 uz2078 => ?_)
                    intro ub2079
                    have uc2080 := bool_t ub2079
                    refine ⟨?_, ?_⟩
                    · intro uq2081
                      have uc2082 := uz2077 uq2081
                      have uc2083 := uz2078 uq2081
                      have uc2084 := ne_t uq2081
                      refine ⟨vin (by omega), ?_⟩
                      intro σ364 eσ364
                      have uI2085 : zInv A F 0 σ364 := by rw [eσ364]; exact inv232p uI2076 (pR pr (by decide)) (by omega) (by omega)
                      have ue2086 : ti ((σ364.1 223 9)) = ti ((σ361.1 223 9)) := by rw [eσ364]; exact congrArg ti (zI_q (Or.inl (by omega)))
                      have ud2087 : 0 ≤ ti ((σ361.1 223 9)) ∧ ti ((σ361.1 223 9)) ≤ 600 := rdr uI2076 kd_223 rfl rfl
                      have ud2088 : 0 ≤ ti ((σ364.1 223 9)) ∧ ti ((σ364.1 223 9)) ≤ 600 := rdr uI2085 kd_223 rfl rfl
                      have ue2089 : ti ((σ364.1 223 12)) = ti ((σ361.1 223 12)) := by rw [eσ364]; exact congrArg ti (zI_q (Or.inl (by omega)))
                      exact hP (1 : Int32) σ364 uI2085 (fun _ => by omega)
                    · intro uq2090
                      have uc2091 := eq_t uq2090
                      have ud2092 : 0 ≤ ti ((σ361.1 223 9)) ∧ ti ((σ361.1 223 9)) ≤ 600 := rdr uI2076 kd_223 rfl rfl
                      exact hP (0 : Int32) σ361 uI2076 (fun q => absurd rfl q)
              · intro uq2093
                have uc2094 := eq_t uq2093
                refine ⟨?_, ?_⟩
                · intro uq2095
                  refine ⟨?_, ?_⟩
                  · intro uq2096
                    refine ⟨?_, ?_⟩
                    · intro uq2097
                      have ul2098 := lit_0
                      have ud2099 : 0 ≤ ti ((σ340.1 223 9)) ∧ ti ((σ340.1 223 9)) ≤ 600 := rdr uI1942 kd_223 rfl rfl
                      refine s_X10_ofPost pr b (0 : Int32) uI1942 (by omega) (fun r366 σ365 uI2100 uz2101 => ?_)
                      intro ub2102
                      have uc2103 := bool_t ub2102
                      refine ⟨ub2102, ?_⟩
                      have ud2104 : 0 ≤ ti ((σ365.1 223 9)) ∧ ti ((σ365.1 223 9)) ≤ 600 := rdr uI2100 kd_223 rfl rfl
                      exact hP r366 σ365 uI2100 (fun q => by have := uz2101 q; omega)
                    · intro uq2105
                      have ud2106 : 0 ≤ ti ((σ340.1 223 9)) ∧ ti ((σ340.1 223 9)) ≤ 600 := rdr uI1942 kd_223 rfl rfl
                      refine s_X10_ofPost pr b (1 : Int32) uI1942 (by omega) (fun r368 σ367 uI2107 uz2108 => ?_)
                      intro ub2109
                      have uc2110 := bool_t ub2109
                      refine ⟨ub2109, ?_⟩
                      have ud2111 : 0 ≤ ti ((σ367.1 223 9)) ∧ ti ((σ367.1 223 9)) ≤ 600 := rdr uI2107 kd_223 rfl rfl
                      exact hP r368 σ367 uI2107 (fun q => by have := uz2108 q; omega)
                  · intro uq2112
                    have ud2113 : 0 ≤ ti ((σ340.1 223 9)) ∧ ti ((σ340.1 223 9)) ≤ 600 := rdr uI1942 kd_223 rfl rfl
                    refine s_X10_riderLine pr b uI1942 (by omega) (fun r370 σ369 uI2114 uz2115 => ?_)
                    intro ub2116
                    have uc2117 := bool_t ub2116
                    refine ⟨ub2116, ?_⟩
                    have ud2118 : 0 ≤ ti ((σ369.1 223 9)) ∧ ti ((σ369.1 223 9)) ≤ 600 := rdr uI2114 kd_223 rfl rfl
                    exact hP r370 σ369 uI2114 (fun q => by have := uz2115 q; omega)
                · intro uq2119
                  have ud2120 : 0 ≤ ti ((σ340.1 223 9)) ∧ ti ((σ340.1 223 9)) ≤ 600 := rdr uI1942 kd_223 rfl rfl
                  refine s_X10_postLine pr b uI1942 (by omega) (fun r372 σ371 uI2121 uz2122 => ?_)
                  intro ub2123
                  have uc2124 := bool_t ub2123
                  refine ⟨ub2123, ?_⟩
                  have ud2125 : 0 ≤ ti ((σ371.1 223 9)) ∧ ti ((σ371.1 223 9)) ≤ 600 := rdr uI2121 kd_223 rfl rfl
                  exact hP r372 σ371 uI2121 (fun q => by have := uz2122 q; omega)
          · intro uq2126
            have ul2127 := lit_0
            have ul2128 := lit_16
            refine s_X10_full (okR_J pr) (0 : Int32) (16 : Int32) a2 (by omega) I (fun σ373 uI2129 uy2130 => ?_)
            have ud2131 : 0 ≤ ti ((σ373.1 223 9)) ∧ ti ((σ373.1 223 9)) ≤ 600 := rdr uI2129 kd_223 rfl rfl
            refine s_X10_token (okR_K pr) b uI2129 (by omega) (fun σ374 uI2132 uy2133 uy2134 => ?_)
            refine ⟨?_, ?_⟩
            · intro uq2135
              have uc2136 := ne_t uq2135
              refine ⟨?_, ?_⟩
              · intro uq2137
                have ul2138 := lit_2
                have uc2139 := ne_t uq2137
                refine ⟨?_, ?_⟩
                · intro uq2140
                  have ul2141 := lit_4
                  have uc2142 := ne_t uq2140
                  refine ⟨?_, ?_⟩
                  · intro uq2143
                    have ul2144 := lit_6
                    have uc2145 := ne_t uq2143
                    have ul2146 := lit_9
                    have ud2147 : 0 ≤ ti ((σ374.1 223 9)) ∧ ti ((σ374.1 223 9)) ≤ 600 := rdr uI2132 kd_223 rfl rfl
                    refine s_X10_take0 pr b (0 : Int32) (9 : Int32) uI2132 (by omega) (fun r376 σ375 uI2148 uz2149 uz2150 => ?_)
                    intro ub2151
                    have uc2152 := bool_t ub2151
                    refine ⟨?_, ?_⟩
                    · intro uq2153
                      have uc2154 := uz2149 uq2153
                      have uc2155 := uz2150 uq2153
                      have uc2156 := ne_t uq2153
                      refine ⟨vin (by omega), ?_⟩
                      intro σ378 eσ378
                      have uI2157 : zInv A F 0 σ378 := by rw [eσ378]; exact inv232p uI2148 (pR pr (by decide)) (by omega) (by omega)
                      have ue2158 : ti ((σ378.1 223 9)) = ti ((σ375.1 223 9)) := by rw [eσ378]; exact congrArg ti (zI_q (Or.inl (by omega)))
                      have ud2159 : 0 ≤ ti ((σ375.1 223 9)) ∧ ti ((σ375.1 223 9)) ≤ 600 := rdr uI2148 kd_223 rfl rfl
                      have ud2160 : 0 ≤ ti ((σ378.1 223 9)) ∧ ti ((σ378.1 223 9)) ≤ 600 := rdr uI2157 kd_223 rfl rfl
                      have ue2161 : ti ((σ378.1 223 12)) = ti ((σ375.1 223 12)) := by rw [eσ378]; exact congrArg ti (zI_q (Or.inl (by omega)))
                      exact hP (1 : Int32) σ378 uI2157 (fun _ => by omega)
                    · intro uq2162
                      have uc2163 := eq_t uq2162
                      have ud2164 : 0 ≤ ti ((σ375.1 223 9)) ∧ ti ((σ375.1 223 9)) ≤ 600 := rdr uI2148 kd_223 rfl rfl
                      exact hP (0 : Int32) σ375 uI2148 (fun q => absurd rfl q)
                  · intro uq2165
                    have ul2166 := lit_6
                    have uc2167 := eq_t uq2165
                    have ul2168 := lit_999
                    have ud2169 : 0 ≤ ti ((σ374.1 223 9)) ∧ ti ((σ374.1 223 9)) ≤ 600 := rdr uI2132 kd_223 rfl rfl
                    refine s_X10_take0 pr b (0 : Int32) (999 : Int32) uI2132 (by omega) (fun r380 σ379 uI2170 uz2171 uz2172 => ?_)
                    intro ub2173
                    have uc2174 := bool_t ub2173
                    refine ⟨?_, ?_⟩
                    · intro uq2175
                      have uc2176 := uz2171 uq2175
                      have uc2177 := uz2172 uq2175
                      have uc2178 := ne_t uq2175
                      refine ⟨vin (by omega), ?_⟩
                      intro σ382 eσ382
                      have uI2179 : zInv A F 0 σ382 := by rw [eσ382]; exact inv232p uI2170 (pR pr (by decide)) (by omega) (by omega)
                      have ue2180 : ti ((σ382.1 223 9)) = ti ((σ379.1 223 9)) := by rw [eσ382]; exact congrArg ti (zI_q (Or.inl (by omega)))
                      have ud2181 : 0 ≤ ti ((σ379.1 223 9)) ∧ ti ((σ379.1 223 9)) ≤ 600 := rdr uI2170 kd_223 rfl rfl
                      have ud2182 : 0 ≤ ti ((σ382.1 223 9)) ∧ ti ((σ382.1 223 9)) ≤ 600 := rdr uI2179 kd_223 rfl rfl
                      have ue2183 : ti ((σ382.1 223 12)) = ti ((σ379.1 223 12)) := by rw [eσ382]; exact congrArg ti (zI_q (Or.inl (by omega)))
                      exact hP (1 : Int32) σ382 uI2179 (fun _ => by omega)
                    · intro uq2184
                      have uc2185 := eq_t uq2184
                      have ud2186 : 0 ≤ ti ((σ379.1 223 9)) ∧ ti ((σ379.1 223 9)) ≤ 600 := rdr uI2170 kd_223 rfl rfl
                      exact hP (0 : Int32) σ379 uI2170 (fun q => absurd rfl q)
                · intro uq2187
                  have ul2188 := lit_4
                  have uc2189 := eq_t uq2187
                  have ul2190 := lit_60
                  have ud2191 : 0 ≤ ti ((σ374.1 223 9)) ∧ ti ((σ374.1 223 9)) ≤ 600 := rdr uI2132 kd_223 rfl rfl
                  refine s_X10_take0 pr b (0 : Int32) (60 : Int32) uI2132 (by omega) (fun r384 σ383 uI2192 uz2193 uz2194 => ?_)
                  intro ub2195
                  have uc2196 := bool_t ub2195
                  refine ⟨?_, ?_⟩
                  · intro uq2197
                    have uc2198 := uz2193 uq2197
                    have uc2199 := uz2194 uq2197
                    have uc2200 := ne_t uq2197
                    refine ⟨vin (by omega), ?_⟩
                    intro σ386 eσ386
                    have uI2201 : zInv A F 0 σ386 := by rw [eσ386]; exact inv232p uI2192 (pR pr (by decide)) (by omega) (by omega)
                    have ue2202 : ti ((σ386.1 223 9)) = ti ((σ383.1 223 9)) := by rw [eσ386]; exact congrArg ti (zI_q (Or.inl (by omega)))
                    have ud2203 : 0 ≤ ti ((σ383.1 223 9)) ∧ ti ((σ383.1 223 9)) ≤ 600 := rdr uI2192 kd_223 rfl rfl
                    have ud2204 : 0 ≤ ti ((σ386.1 223 9)) ∧ ti ((σ386.1 223 9)) ≤ 600 := rdr uI2201 kd_223 rfl rfl
                    have ue2205 : ti ((σ386.1 223 12)) = ti ((σ383.1 223 12)) := by rw [eσ386]; exact congrArg ti (zI_q (Or.inl (by omega)))
                    exact hP (1 : Int32) σ386 uI2201 (fun _ => by omega)
                  · intro uq2206
                    have uc2207 := eq_t uq2206
                    have ud2208 : 0 ≤ ti ((σ383.1 223 9)) ∧ ti ((σ383.1 223 9)) ≤ 600 := rdr uI2192 kd_223 rfl rfl
                    exact hP (0 : Int32) σ383 uI2192 (fun q => absurd rfl q)
              · intro uq2209
                have ul2210 := lit_2
                have uc2211 := eq_t uq2209
                refine ⟨?_, ?_⟩
                · intro uq2212
                  have ul2213 := lit_4
                  have uc2214 := ne_t uq2212
                  refine ⟨?_, ?_⟩
                  · intro uq2215
                    have ul2216 := lit_6
                    have uc2217 := ne_t uq2215
                    have ul2218 := lit_1
                    have ul2219 := lit_9
                    have ud2220 : 0 ≤ ti ((σ374.1 223 9)) ∧ ti ((σ374.1 223 9)) ≤ 600 := rdr uI2132 kd_223 rfl rfl
                    refine s_X10_take0 pr b (1 : Int32) (9 : Int32) uI2132 (by omega) (fun r388 σ387 uI2221 uz2222 uz2223 => ?_)
                    intro ub2224
                    have uc2225 := bool_t ub2224
                    refine ⟨?_, ?_⟩
                    · intro uq2226
                      have uc2227 := uz2222 uq2226
                      have uc2228 := uz2223 uq2226
                      have uc2229 := ne_t uq2226
                      refine ⟨vin (by omega), ?_⟩
                      intro σ390 eσ390
                      have uI2230 : zInv A F 0 σ390 := by rw [eσ390]; exact inv232p uI2221 (pR pr (by decide)) (by omega) (by omega)
                      have ue2231 : ti ((σ390.1 223 9)) = ti ((σ387.1 223 9)) := by rw [eσ390]; exact congrArg ti (zI_q (Or.inl (by omega)))
                      have ud2232 : 0 ≤ ti ((σ387.1 223 9)) ∧ ti ((σ387.1 223 9)) ≤ 600 := rdr uI2221 kd_223 rfl rfl
                      have ud2233 : 0 ≤ ti ((σ390.1 223 9)) ∧ ti ((σ390.1 223 9)) ≤ 600 := rdr uI2230 kd_223 rfl rfl
                      have ue2234 : ti ((σ390.1 223 12)) = ti ((σ387.1 223 12)) := by rw [eσ390]; exact congrArg ti (zI_q (Or.inl (by omega)))
                      exact hP (1 : Int32) σ390 uI2230 (fun _ => by omega)
                    · intro uq2235
                      have uc2236 := eq_t uq2235
                      have ud2237 : 0 ≤ ti ((σ387.1 223 9)) ∧ ti ((σ387.1 223 9)) ≤ 600 := rdr uI2221 kd_223 rfl rfl
                      exact hP (0 : Int32) σ387 uI2221 (fun q => absurd rfl q)
                  · intro uq2238
                    have ul2239 := lit_6
                    have uc2240 := eq_t uq2238
                    have ul2241 := lit_1
                    have ul2242 := lit_999
                    have ud2243 : 0 ≤ ti ((σ374.1 223 9)) ∧ ti ((σ374.1 223 9)) ≤ 600 := rdr uI2132 kd_223 rfl rfl
                    refine s_X10_take0 pr b (1 : Int32) (999 : Int32) uI2132 (by omega) (fun r392 σ391 uI2244 uz2245 uz2246 => ?_)
                    intro ub2247
                    have uc2248 := bool_t ub2247
                    refine ⟨?_, ?_⟩
                    · intro uq2249
                      have uc2250 := uz2245 uq2249
                      have uc2251 := uz2246 uq2249
                      have uc2252 := ne_t uq2249
                      refine ⟨vin (by omega), ?_⟩
                      intro σ394 eσ394
                      have uI2253 : zInv A F 0 σ394 := by rw [eσ394]; exact inv232p uI2244 (pR pr (by decide)) (by omega) (by omega)
                      have ue2254 : ti ((σ394.1 223 9)) = ti ((σ391.1 223 9)) := by rw [eσ394]; exact congrArg ti (zI_q (Or.inl (by omega)))
                      have ud2255 : 0 ≤ ti ((σ391.1 223 9)) ∧ ti ((σ391.1 223 9)) ≤ 600 := rdr uI2244 kd_223 rfl rfl
                      have ud2256 : 0 ≤ ti ((σ394.1 223 9)) ∧ ti ((σ394.1 223 9)) ≤ 600 := rdr uI2253 kd_223 rfl rfl
                      have ue2257 : ti ((σ394.1 223 12)) = ti ((σ391.1 223 12)) := by rw [eσ394]; exact congrArg ti (zI_q (Or.inl (by omega)))
                      exact hP (1 : Int32) σ394 uI2253 (fun _ => by omega)
                    · intro uq2258
                      have uc2259 := eq_t uq2258
                      have ud2260 : 0 ≤ ti ((σ391.1 223 9)) ∧ ti ((σ391.1 223 9)) ≤ 600 := rdr uI2244 kd_223 rfl rfl
                      exact hP (0 : Int32) σ391 uI2244 (fun q => absurd rfl q)
                · intro uq2261
                  have ul2262 := lit_4
                  have uc2263 := eq_t uq2261
                  have ul2264 := lit_1
                  have ul2265 := lit_60
                  have ud2266 : 0 ≤ ti ((σ374.1 223 9)) ∧ ti ((σ374.1 223 9)) ≤ 600 := rdr uI2132 kd_223 rfl rfl
                  refine s_X10_take0 pr b (1 : Int32) (60 : Int32) uI2132 (by omega) (fun r396 σ395 uI2267 uz2268 uz2269 => ?_)
                  intro ub2270
                  have uc2271 := bool_t ub2270
                  refine ⟨?_, ?_⟩
                  · intro uq2272
                    have uc2273 := uz2268 uq2272
                    have uc2274 := uz2269 uq2272
                    have uc2275 := ne_t uq2272
                    refine ⟨vin (by omega), ?_⟩
                    intro σ398 eσ398
                    have uI2276 : zInv A F 0 σ398 := by rw [eσ398]; exact inv232p uI2267 (pR pr (by decide)) (by omega) (by omega)
                    have ue2277 : ti ((σ398.1 223 9)) = ti ((σ395.1 223 9)) := by rw [eσ398]; exact congrArg ti (zI_q (Or.inl (by omega)))
                    have ud2278 : 0 ≤ ti ((σ395.1 223 9)) ∧ ti ((σ395.1 223 9)) ≤ 600 := rdr uI2267 kd_223 rfl rfl
                    have ud2279 : 0 ≤ ti ((σ398.1 223 9)) ∧ ti ((σ398.1 223 9)) ≤ 600 := rdr uI2276 kd_223 rfl rfl
                    have ue2280 : ti ((σ398.1 223 12)) = ti ((σ395.1 223 12)) := by rw [eσ398]; exact congrArg ti (zI_q (Or.inl (by omega)))
                    exact hP (1 : Int32) σ398 uI2276 (fun _ => by omega)
                  · intro uq2281
                    have uc2282 := eq_t uq2281
                    have ud2283 : 0 ≤ ti ((σ395.1 223 9)) ∧ ti ((σ395.1 223 9)) ≤ 600 := rdr uI2267 kd_223 rfl rfl
                    exact hP (0 : Int32) σ395 uI2267 (fun q => absurd rfl q)
            · intro uq2284
              have uc2285 := eq_t uq2284
              refine ⟨?_, ?_⟩
              · intro uq2286
                refine ⟨?_, ?_⟩
                · intro uq2287
                  refine ⟨?_, ?_⟩
                  · intro uq2288
                    have ud2289 : 0 ≤ ti ((σ374.1 223 9)) ∧ ti ((σ374.1 223 9)) ≤ 600 := rdr uI2132 kd_223 rfl rfl
                    refine s_X10_ofPost pr b (0 : Int32) uI2132 (by omega) (fun r400 σ399 uI2290 uz2291 => ?_)
                    intro ub2292
                    have uc2293 := bool_t ub2292
                    refine ⟨ub2292, ?_⟩
                    have ud2294 : 0 ≤ ti ((σ399.1 223 9)) ∧ ti ((σ399.1 223 9)) ≤ 600 := rdr uI2290 kd_223 rfl rfl
                    exact hP r400 σ399 uI2290 (fun q => by have := uz2291 q; omega)
                  · intro uq2295
                    have ul2296 := lit_1
                    have ud2297 : 0 ≤ ti ((σ374.1 223 9)) ∧ ti ((σ374.1 223 9)) ≤ 600 := rdr uI2132 kd_223 rfl rfl
                    refine s_X10_ofPost pr b (1 : Int32) uI2132 (by omega) (fun r402 σ401 uI2298 uz2299 => ?_)
                    intro ub2300
                    have uc2301 := bool_t ub2300
                    refine ⟨ub2300, ?_⟩
                    have ud2302 : 0 ≤ ti ((σ401.1 223 9)) ∧ ti ((σ401.1 223 9)) ≤ 600 := rdr uI2298 kd_223 rfl rfl
                    exact hP r402 σ401 uI2298 (fun q => by have := uz2299 q; omega)
                · intro uq2303
                  have ud2304 : 0 ≤ ti ((σ374.1 223 9)) ∧ ti ((σ374.1 223 9)) ≤ 600 := rdr uI2132 kd_223 rfl rfl
                  refine s_X10_riderLine pr b uI2132 (by omega) (fun r404 σ403 uI2305 uz2306 => ?_)
                  intro ub2307
                  have uc2308 := bool_t ub2307
                  refine ⟨ub2307, ?_⟩
                  have ud2309 : 0 ≤ ti ((σ403.1 223 9)) ∧ ti ((σ403.1 223 9)) ≤ 600 := rdr uI2305 kd_223 rfl rfl
                  exact hP r404 σ403 uI2305 (fun q => by have := uz2306 q; omega)
              · intro uq2310
                have ud2311 : 0 ≤ ti ((σ374.1 223 9)) ∧ ti ((σ374.1 223 9)) ≤ 600 := rdr uI2132 kd_223 rfl rfl
                refine s_X10_postLine pr b uI2132 (by omega) (fun r406 σ405 uI2312 uz2313 => ?_)
                intro ub2314
                have uc2315 := bool_t ub2314
                refine ⟨ub2314, ?_⟩
                have ud2316 : 0 ≤ ti ((σ405.1 223 9)) ∧ ti ((σ405.1 223 9)) ≤ 600 := rdr uI2312 kd_223 rfl rfl
                exact hP r406 σ405 uI2312 (fun q => by have := uz2313 q; omega)
        · intro uq2317
          refine ⟨?_, ?_⟩
          · intro uq2318
            refine ⟨?_, ?_⟩
            · intro uq2319
              refine ⟨?_, ?_⟩
              · intro uq2320
                have ud2321 : 0 ≤ ti ((σ.1 223 9)) ∧ ti ((σ.1 223 9)) ≤ 600 := rdr I kd_223 rfl rfl
                refine s_X10_token (okR_K pr) b I (by omega) (fun σ407 uI2322 uy2323 uy2324 => ?_)
                refine ⟨?_, ?_⟩
                · intro uq2325
                  have uc2326 := ne_t uq2325
                  refine ⟨?_, ?_⟩
                  · intro uq2327
                    have ul2328 := lit_2
                    have uc2329 := ne_t uq2327
                    refine ⟨?_, ?_⟩
                    · intro uq2330
                      have ul2331 := lit_4
                      have uc2332 := ne_t uq2330
                      refine ⟨?_, ?_⟩
                      · intro uq2333
                        have ul2334 := lit_6
                        have uc2335 := ne_t uq2333
                        have ul2336 := lit_0
                        have ul2337 := lit_9
                        have ud2338 : 0 ≤ ti ((σ407.1 223 9)) ∧ ti ((σ407.1 223 9)) ≤ 600 := rdr uI2322 kd_223 rfl rfl
                        refine s_X10_take0 pr b (0 : Int32) (9 : Int32) uI2322 (by omega) (fun r409 σ408 uI2339 uz2340 uz2341 => ?_)
                        intro ub2342
                        have uc2343 := bool_t ub2342
                        refine ⟨?_, ?_⟩
                        · intro uq2344
                          have uc2345 := uz2340 uq2344
                          have uc2346 := uz2341 uq2344
                          have uc2347 := ne_t uq2344
                          refine ⟨vin (by omega), ?_⟩
                          intro σ411 eσ411
                          have uI2348 : zInv A F 0 σ411 := by rw [eσ411]; exact inv232p uI2339 (pR pr (by decide)) (by omega) (by omega)
                          have ue2349 : ti ((σ411.1 223 9)) = ti ((σ408.1 223 9)) := by rw [eσ411]; exact congrArg ti (zI_q (Or.inl (by omega)))
                          have ud2350 : 0 ≤ ti ((σ408.1 223 9)) ∧ ti ((σ408.1 223 9)) ≤ 600 := rdr uI2339 kd_223 rfl rfl
                          have ud2351 : 0 ≤ ti ((σ411.1 223 9)) ∧ ti ((σ411.1 223 9)) ≤ 600 := rdr uI2348 kd_223 rfl rfl
                          have ue2352 : ti ((σ411.1 223 12)) = ti ((σ408.1 223 12)) := by rw [eσ411]; exact congrArg ti (zI_q (Or.inl (by omega)))
                          exact hP (1 : Int32) σ411 uI2348 (fun _ => by omega)
                        · intro uq2353
                          have uc2354 := eq_t uq2353
                          have ud2355 : 0 ≤ ti ((σ408.1 223 9)) ∧ ti ((σ408.1 223 9)) ≤ 600 := rdr uI2339 kd_223 rfl rfl
                          exact hP (0 : Int32) σ408 uI2339 (fun q => absurd rfl q)
                      · intro uq2356
                        have ul2357 := lit_6
                        have uc2358 := eq_t uq2356
                        have ul2359 := lit_0
                        have ul2360 := lit_999
                        have ud2361 : 0 ≤ ti ((σ407.1 223 9)) ∧ ti ((σ407.1 223 9)) ≤ 600 := rdr uI2322 kd_223 rfl rfl
                        refine s_X10_take0 pr b (0 : Int32) (999 : Int32) uI2322 (by omega) (fun r413 σ412 uI2362 uz2363 uz2364 => ?_)
                        intro ub2365
                        have uc2366 := bool_t ub2365
                        refine ⟨?_, ?_⟩
                        · intro uq2367
                          have uc2368 := uz2363 uq2367
                          have uc2369 := uz2364 uq2367
                          have uc2370 := ne_t uq2367
                          refine ⟨vin (by omega), ?_⟩
                          intro σ415 eσ415
                          have uI2371 : zInv A F 0 σ415 := by rw [eσ415]; exact inv232p uI2362 (pR pr (by decide)) (by omega) (by omega)
                          have ue2372 : ti ((σ415.1 223 9)) = ti ((σ412.1 223 9)) := by rw [eσ415]; exact congrArg ti (zI_q (Or.inl (by omega)))
                          have ud2373 : 0 ≤ ti ((σ412.1 223 9)) ∧ ti ((σ412.1 223 9)) ≤ 600 := rdr uI2362 kd_223 rfl rfl
                          have ud2374 : 0 ≤ ti ((σ415.1 223 9)) ∧ ti ((σ415.1 223 9)) ≤ 600 := rdr uI2371 kd_223 rfl rfl
                          have ue2375 : ti ((σ415.1 223 12)) = ti ((σ412.1 223 12)) := by rw [eσ415]; exact congrArg ti (zI_q (Or.inl (by omega)))
                          exact hP (1 : Int32) σ415 uI2371 (fun _ => by omega)
                        · intro uq2376
                          have uc2377 := eq_t uq2376
                          have ud2378 : 0 ≤ ti ((σ412.1 223 9)) ∧ ti ((σ412.1 223 9)) ≤ 600 := rdr uI2362 kd_223 rfl rfl
                          exact hP (0 : Int32) σ412 uI2362 (fun q => absurd rfl q)
                    · intro uq2379
                      have ul2380 := lit_4
                      have uc2381 := eq_t uq2379
                      have ul2382 := lit_0
                      have ul2383 := lit_60
                      have ud2384 : 0 ≤ ti ((σ407.1 223 9)) ∧ ti ((σ407.1 223 9)) ≤ 600 := rdr uI2322 kd_223 rfl rfl
                      refine s_X10_take0 pr b (0 : Int32) (60 : Int32) uI2322 (by omega) (fun r417 σ416 uI2385 uz2386 uz2387 => ?_)
                      intro ub2388
                      have uc2389 := bool_t ub2388
                      refine ⟨?_, ?_⟩
                      · intro uq2390
                        have uc2391 := uz2386 uq2390
                        have uc2392 := uz2387 uq2390
                        have uc2393 := ne_t uq2390
                        refine ⟨vin (by omega), ?_⟩
                        intro σ419 eσ419
                        have uI2394 : zInv A F 0 σ419 := by rw [eσ419]; exact inv232p uI2385 (pR pr (by decide)) (by omega) (by omega)
                        have ue2395 : ti ((σ419.1 223 9)) = ti ((σ416.1 223 9)) := by rw [eσ419]; exact congrArg ti (zI_q (Or.inl (by omega)))
                        have ud2396 : 0 ≤ ti ((σ416.1 223 9)) ∧ ti ((σ416.1 223 9)) ≤ 600 := rdr uI2385 kd_223 rfl rfl
                        have ud2397 : 0 ≤ ti ((σ419.1 223 9)) ∧ ti ((σ419.1 223 9)) ≤ 600 := rdr uI2394 kd_223 rfl rfl
                        have ue2398 : ti ((σ419.1 223 12)) = ti ((σ416.1 223 12)) := by rw [eσ419]; exact congrArg ti (zI_q (Or.inl (by omega)))
                        exact hP (1 : Int32) σ419 uI2394 (fun _ => by omega)
                      · intro uq2399
                        have uc2400 := eq_t uq2399
                        have ud2401 : 0 ≤ ti ((σ416.1 223 9)) ∧ ti ((σ416.1 223 9)) ≤ 600 := rdr uI2385 kd_223 rfl rfl
                        exact hP (0 : Int32) σ416 uI2385 (fun q => absurd rfl q)
                  · intro uq2402
                    have ul2403 := lit_2
                    have uc2404 := eq_t uq2402
                    refine ⟨?_, ?_⟩
                    · intro uq2405
                      have ul2406 := lit_4
                      have uc2407 := ne_t uq2405
                      refine ⟨?_, ?_⟩
                      · intro uq2408
                        have ul2409 := lit_6
                        have uc2410 := ne_t uq2408
                        have ul2411 := lit_0
                        have ul2412 := lit_1
                        have ul2413 := lit_9
                        have ud2414 : 0 ≤ ti ((σ407.1 223 9)) ∧ ti ((σ407.1 223 9)) ≤ 600 := rdr uI2322 kd_223 rfl rfl
                        refine s_X10_take0 pr b (1 : Int32) (9 : Int32) uI2322 (by omega) (fun r421 σ420 uI2415 uz2416 uz2417 => ?_)
                        intro ub2418
                        have uc2419 := bool_t ub2418
                        refine ⟨?_, ?_⟩
                        · intro uq2420
                          have uc2421 := uz2416 uq2420
                          have uc2422 := uz2417 uq2420
                          have uc2423 := ne_t uq2420
                          refine ⟨vin (by omega), ?_⟩
                          intro σ423 eσ423
                          have uI2424 : zInv A F 0 σ423 := by rw [eσ423]; exact inv232p uI2415 (pR pr (by decide)) (by omega) (by omega)
                          have ue2425 : ti ((σ423.1 223 9)) = ti ((σ420.1 223 9)) := by rw [eσ423]; exact congrArg ti (zI_q (Or.inl (by omega)))
                          have ud2426 : 0 ≤ ti ((σ420.1 223 9)) ∧ ti ((σ420.1 223 9)) ≤ 600 := rdr uI2415 kd_223 rfl rfl
                          have ud2427 : 0 ≤ ti ((σ423.1 223 9)) ∧ ti ((σ423.1 223 9)) ≤ 600 := rdr uI2424 kd_223 rfl rfl
                          have ue2428 : ti ((σ423.1 223 12)) = ti ((σ420.1 223 12)) := by rw [eσ423]; exact congrArg ti (zI_q (Or.inl (by omega)))
                          exact hP (1 : Int32) σ423 uI2424 (fun _ => by omega)
                        · intro uq2429
                          have uc2430 := eq_t uq2429
                          have ud2431 : 0 ≤ ti ((σ420.1 223 9)) ∧ ti ((σ420.1 223 9)) ≤ 600 := rdr uI2415 kd_223 rfl rfl
                          exact hP (0 : Int32) σ420 uI2415 (fun q => absurd rfl q)
                      · intro uq2432
                        have ul2433 := lit_6
                        have uc2434 := eq_t uq2432
                        have ul2435 := lit_0
                        have ul2436 := lit_1
                        have ul2437 := lit_999
                        have ud2438 : 0 ≤ ti ((σ407.1 223 9)) ∧ ti ((σ407.1 223 9)) ≤ 600 := rdr uI2322 kd_223 rfl rfl
                        refine s_X10_take0 pr b (1 : Int32) (999 : Int32) uI2322 (by omega) (fun r425 σ424 uI2439 uz2440 uz2441 => ?_)
                        intro ub2442
                        have uc2443 := bool_t ub2442
                        refine ⟨?_, ?_⟩
                        · intro uq2444
                          have uc2445 := uz2440 uq2444
                          have uc2446 := uz2441 uq2444
                          have uc2447 := ne_t uq2444
                          refine ⟨vin (by omega), ?_⟩
                          intro σ427 eσ427
                          have uI2448 : zInv A F 0 σ427 := by rw [eσ427]; exact inv232p uI2439 (pR pr (by decide)) (by omega) (by omega)
                          have ue2449 : ti ((σ427.1 223 9)) = ti ((σ424.1 223 9)) := by rw [eσ427]; exact congrArg ti (zI_q (Or.inl (by omega)))
                          have ud2450 : 0 ≤ ti ((σ424.1 223 9)) ∧ ti ((σ424.1 223 9)) ≤ 600 := rdr uI2439 kd_223 rfl rfl
                          have ud2451 : 0 ≤ ti ((σ427.1 223 9)) ∧ ti ((σ427.1 223 9)) ≤ 600 := rdr uI2448 kd_223 rfl rfl
                          have ue2452 : ti ((σ427.1 223 12)) = ti ((σ424.1 223 12)) := by rw [eσ427]; exact congrArg ti (zI_q (Or.inl (by omega)))
                          exact hP (1 : Int32) σ427 uI2448 (fun _ => by omega)
                        · intro uq2453
                          have uc2454 := eq_t uq2453
                          have ud2455 : 0 ≤ ti ((σ424.1 223 9)) ∧ ti ((σ424.1 223 9)) ≤ 600 := rdr uI2439 kd_223 rfl rfl
                          exact hP (0 : Int32) σ424 uI2439 (fun q => absurd rfl q)
                    · intro uq2456
                      have ul2457 := lit_4
                      have uc2458 := eq_t uq2456
                      have ul2459 := lit_0
                      have ul2460 := lit_1
                      have ul2461 := lit_60
                      have ud2462 : 0 ≤ ti ((σ407.1 223 9)) ∧ ti ((σ407.1 223 9)) ≤ 600 := rdr uI2322 kd_223 rfl rfl
                      refine s_X10_take0 pr b (1 : Int32) (60 : Int32) uI2322 (by omega) (fun r429 σ428 uI2463 uz2464 uz2465 => ?_)
                      intro ub2466
                      have uc2467 := bool_t ub2466
                      refine ⟨?_, ?_⟩
                      · intro uq2468
                        have uc2469 := uz2464 uq2468
                        have uc2470 := uz2465 uq2468
                        have uc2471 := ne_t uq2468
                        refine ⟨vin (by omega), ?_⟩
                        intro σ431 eσ431
                        have uI2472 : zInv A F 0 σ431 := by rw [eσ431]; exact inv232p uI2463 (pR pr (by decide)) (by omega) (by omega)
                        have ue2473 : ti ((σ431.1 223 9)) = ti ((σ428.1 223 9)) := by rw [eσ431]; exact congrArg ti (zI_q (Or.inl (by omega)))
                        have ud2474 : 0 ≤ ti ((σ428.1 223 9)) ∧ ti ((σ428.1 223 9)) ≤ 600 := rdr uI2463 kd_223 rfl rfl
                        have ud2475 : 0 ≤ ti ((σ431.1 223 9)) ∧ ti ((σ431.1 223 9)) ≤ 600 := rdr uI2472 kd_223 rfl rfl
                        have ue2476 : ti ((σ431.1 223 12)) = ti ((σ428.1 223 12)) := by rw [eσ431]; exact congrArg ti (zI_q (Or.inl (by omega)))
                        exact hP (1 : Int32) σ431 uI2472 (fun _ => by omega)
                      · intro uq2477
                        have uc2478 := eq_t uq2477
                        have ud2479 : 0 ≤ ti ((σ428.1 223 9)) ∧ ti ((σ428.1 223 9)) ≤ 600 := rdr uI2463 kd_223 rfl rfl
                        exact hP (0 : Int32) σ428 uI2463 (fun q => absurd rfl q)
                · intro uq2480
                  have uc2481 := eq_t uq2480
                  refine ⟨?_, ?_⟩
                  · intro uq2482
                    refine ⟨?_, ?_⟩
                    · intro uq2483
                      refine ⟨?_, ?_⟩
                      · intro uq2484
                        have ul2485 := lit_0
                        have ud2486 : 0 ≤ ti ((σ407.1 223 9)) ∧ ti ((σ407.1 223 9)) ≤ 600 := rdr uI2322 kd_223 rfl rfl
                        refine s_X10_ofPost pr b (0 : Int32) uI2322 (by omega) (fun r433 σ432 uI2487 uz2488 => ?_)
                        intro ub2489
                        have uc2490 := bool_t ub2489
                        refine ⟨ub2489, ?_⟩
                        have ud2491 : 0 ≤ ti ((σ432.1 223 9)) ∧ ti ((σ432.1 223 9)) ≤ 600 := rdr uI2487 kd_223 rfl rfl
                        exact hP r433 σ432 uI2487 (fun q => by have := uz2488 q; omega)
                      · intro uq2492
                        have ul2493 := lit_1
                        have ud2494 : 0 ≤ ti ((σ407.1 223 9)) ∧ ti ((σ407.1 223 9)) ≤ 600 := rdr uI2322 kd_223 rfl rfl
                        refine s_X10_ofPost pr b (1 : Int32) uI2322 (by omega) (fun r435 σ434 uI2495 uz2496 => ?_)
                        intro ub2497
                        have uc2498 := bool_t ub2497
                        refine ⟨ub2497, ?_⟩
                        have ud2499 : 0 ≤ ti ((σ434.1 223 9)) ∧ ti ((σ434.1 223 9)) ≤ 600 := rdr uI2495 kd_223 rfl rfl
                        exact hP r435 σ434 uI2495 (fun q => by have := uz2496 q; omega)
                    · intro uq2500
                      have ud2501 : 0 ≤ ti ((σ407.1 223 9)) ∧ ti ((σ407.1 223 9)) ≤ 600 := rdr uI2322 kd_223 rfl rfl
                      refine s_X10_riderLine pr b uI2322 (by omega) (fun r437 σ436 uI2502 uz2503 => ?_)
                      intro ub2504
                      have uc2505 := bool_t ub2504
                      refine ⟨ub2504, ?_⟩
                      have ud2506 : 0 ≤ ti ((σ436.1 223 9)) ∧ ti ((σ436.1 223 9)) ≤ 600 := rdr uI2502 kd_223 rfl rfl
                      exact hP r437 σ436 uI2502 (fun q => by have := uz2503 q; omega)
                  · intro uq2507
                    have ud2508 : 0 ≤ ti ((σ407.1 223 9)) ∧ ti ((σ407.1 223 9)) ≤ 600 := rdr uI2322 kd_223 rfl rfl
                    refine s_X10_postLine pr b uI2322 (by omega) (fun r439 σ438 uI2509 uz2510 => ?_)
                    intro ub2511
                    have uc2512 := bool_t ub2511
                    refine ⟨ub2511, ?_⟩
                    have ud2513 : 0 ≤ ti ((σ438.1 223 9)) ∧ ti ((σ438.1 223 9)) ≤ 600 := rdr uI2509 kd_223 rfl rfl
                    exact hP r439 σ438 uI2509 (fun q => by have := uz2510 q; omega)
              · intro uq2514
                have ul2515 := lit_1
                have ul2516 := lit_6
                refine s_X10_full (okR_J pr) (1 : Int32) (6 : Int32) a2 (by omega) I (fun σ440 uI2517 uy2518 => ?_)
                have ud2519 : 0 ≤ ti ((σ440.1 223 9)) ∧ ti ((σ440.1 223 9)) ≤ 600 := rdr uI2517 kd_223 rfl rfl
                refine s_X10_token (okR_K pr) b uI2517 (by omega) (fun σ441 uI2520 uy2521 uy2522 => ?_)
                refine ⟨?_, ?_⟩
                · intro uq2523
                  have uc2524 := ne_t uq2523
                  refine ⟨?_, ?_⟩
                  · intro uq2525
                    have ul2526 := lit_2
                    have uc2527 := ne_t uq2525
                    refine ⟨?_, ?_⟩
                    · intro uq2528
                      have ul2529 := lit_4
                      have uc2530 := ne_t uq2528
                      refine ⟨?_, ?_⟩
                      · intro uq2531
                        have uc2532 := ne_t uq2531
                        have ul2533 := lit_0
                        have ul2534 := lit_9
                        have ud2535 : 0 ≤ ti ((σ441.1 223 9)) ∧ ti ((σ441.1 223 9)) ≤ 600 := rdr uI2520 kd_223 rfl rfl
                        refine s_X10_take0 pr b (0 : Int32) (9 : Int32) uI2520 (by omega) (fun r443 σ442 uI2536 uz2537 uz2538 => ?_)
                        intro ub2539
                        have uc2540 := bool_t ub2539
                        refine ⟨?_, ?_⟩
                        · intro uq2541
                          have uc2542 := uz2537 uq2541
                          have uc2543 := uz2538 uq2541
                          have uc2544 := ne_t uq2541
                          refine ⟨vin (by omega), ?_⟩
                          intro σ445 eσ445
                          have uI2545 : zInv A F 0 σ445 := by rw [eσ445]; exact inv232p uI2536 (pR pr (by decide)) (by omega) (by omega)
                          have ue2546 : ti ((σ445.1 223 9)) = ti ((σ442.1 223 9)) := by rw [eσ445]; exact congrArg ti (zI_q (Or.inl (by omega)))
                          have ud2547 : 0 ≤ ti ((σ442.1 223 9)) ∧ ti ((σ442.1 223 9)) ≤ 600 := rdr uI2536 kd_223 rfl rfl
                          have ud2548 : 0 ≤ ti ((σ445.1 223 9)) ∧ ti ((σ445.1 223 9)) ≤ 600 := rdr uI2545 kd_223 rfl rfl
                          have ue2549 : ti ((σ445.1 223 12)) = ti ((σ442.1 223 12)) := by rw [eσ445]; exact congrArg ti (zI_q (Or.inl (by omega)))
                          exact hP (1 : Int32) σ445 uI2545 (fun _ => by omega)
                        · intro uq2550
                          have uc2551 := eq_t uq2550
                          have ud2552 : 0 ≤ ti ((σ442.1 223 9)) ∧ ti ((σ442.1 223 9)) ≤ 600 := rdr uI2536 kd_223 rfl rfl
                          exact hP (0 : Int32) σ442 uI2536 (fun q => absurd rfl q)
                      · intro uq2553
                        have uc2554 := eq_t uq2553
                        have ul2555 := lit_0
                        have ul2556 := lit_999
                        have ud2557 : 0 ≤ ti ((σ441.1 223 9)) ∧ ti ((σ441.1 223 9)) ≤ 600 := rdr uI2520 kd_223 rfl rfl
                        refine s_X10_take0 pr b (0 : Int32) (999 : Int32) uI2520 (by omega) (fun r447 σ446 uI2558 uz2559 uz2560 => ?_)
                        intro ub2561
                        have uc2562 := bool_t ub2561
                        refine ⟨?_, ?_⟩
                        · intro uq2563
                          have uc2564 := uz2559 uq2563
                          have uc2565 := uz2560 uq2563
                          have uc2566 := ne_t uq2563
                          refine ⟨vin (by omega), ?_⟩
                          intro σ449 eσ449
                          have uI2567 : zInv A F 0 σ449 := by rw [eσ449]; exact inv232p uI2558 (pR pr (by decide)) (by omega) (by omega)
                          have ue2568 : ti ((σ449.1 223 9)) = ti ((σ446.1 223 9)) := by rw [eσ449]; exact congrArg ti (zI_q (Or.inl (by omega)))
                          have ud2569 : 0 ≤ ti ((σ446.1 223 9)) ∧ ti ((σ446.1 223 9)) ≤ 600 := rdr uI2558 kd_223 rfl rfl
                          have ud2570 : 0 ≤ ti ((σ449.1 223 9)) ∧ ti ((σ449.1 223 9)) ≤ 600 := rdr uI2567 kd_223 rfl rfl
                          have ue2571 : ti ((σ449.1 223 12)) = ti ((σ446.1 223 12)) := by rw [eσ449]; exact congrArg ti (zI_q (Or.inl (by omega)))
                          exact hP (1 : Int32) σ449 uI2567 (fun _ => by omega)
                        · intro uq2572
                          have uc2573 := eq_t uq2572
                          have ud2574 : 0 ≤ ti ((σ446.1 223 9)) ∧ ti ((σ446.1 223 9)) ≤ 600 := rdr uI2558 kd_223 rfl rfl
                          exact hP (0 : Int32) σ446 uI2558 (fun q => absurd rfl q)
                    · intro uq2575
                      have ul2576 := lit_4
                      have uc2577 := eq_t uq2575
                      have ul2578 := lit_0
                      have ul2579 := lit_60
                      have ud2580 : 0 ≤ ti ((σ441.1 223 9)) ∧ ti ((σ441.1 223 9)) ≤ 600 := rdr uI2520 kd_223 rfl rfl
                      refine s_X10_take0 pr b (0 : Int32) (60 : Int32) uI2520 (by omega) (fun r451 σ450 uI2581 uz2582 uz2583 => ?_)
                      intro ub2584
                      have uc2585 := bool_t ub2584
                      refine ⟨?_, ?_⟩
                      · intro uq2586
                        have uc2587 := uz2582 uq2586
                        have uc2588 := uz2583 uq2586
                        have uc2589 := ne_t uq2586
                        refine ⟨vin (by omega), ?_⟩
                        intro σ453 eσ453
                        have uI2590 : zInv A F 0 σ453 := by rw [eσ453]; exact inv232p uI2581 (pR pr (by decide)) (by omega) (by omega)
                        have ue2591 : ti ((σ453.1 223 9)) = ti ((σ450.1 223 9)) := by rw [eσ453]; exact congrArg ti (zI_q (Or.inl (by omega)))
                        have ud2592 : 0 ≤ ti ((σ450.1 223 9)) ∧ ti ((σ450.1 223 9)) ≤ 600 := rdr uI2581 kd_223 rfl rfl
                        have ud2593 : 0 ≤ ti ((σ453.1 223 9)) ∧ ti ((σ453.1 223 9)) ≤ 600 := rdr uI2590 kd_223 rfl rfl
                        have ue2594 : ti ((σ453.1 223 12)) = ti ((σ450.1 223 12)) := by rw [eσ453]; exact congrArg ti (zI_q (Or.inl (by omega)))
                        exact hP (1 : Int32) σ453 uI2590 (fun _ => by omega)
                      · intro uq2595
                        have uc2596 := eq_t uq2595
                        have ud2597 : 0 ≤ ti ((σ450.1 223 9)) ∧ ti ((σ450.1 223 9)) ≤ 600 := rdr uI2581 kd_223 rfl rfl
                        exact hP (0 : Int32) σ450 uI2581 (fun q => absurd rfl q)
                  · intro uq2598
                    have ul2599 := lit_2
                    have uc2600 := eq_t uq2598
                    refine ⟨?_, ?_⟩
                    · intro uq2601
                      have ul2602 := lit_4
                      have uc2603 := ne_t uq2601
                      refine ⟨?_, ?_⟩
                      · intro uq2604
                        have uc2605 := ne_t uq2604
                        have ul2606 := lit_0
                        have ul2607 := lit_9
                        have ud2608 : 0 ≤ ti ((σ441.1 223 9)) ∧ ti ((σ441.1 223 9)) ≤ 600 := rdr uI2520 kd_223 rfl rfl
                        refine s_X10_take0 pr b (1 : Int32) (9 : Int32) uI2520 (by omega) (fun r455 σ454 uI2609 uz2610 uz2611 => ?_)
                        intro ub2612
                        have uc2613 := bool_t ub2612
                        refine ⟨?_, ?_⟩
                        · intro uq2614
                          have uc2615 := uz2610 uq2614
                          have uc2616 := uz2611 uq2614
                          have uc2617 := ne_t uq2614
                          refine ⟨vin (by omega), ?_⟩
                          intro σ457 eσ457
                          have uI2618 : zInv A F 0 σ457 := by rw [eσ457]; exact inv232p uI2609 (pR pr (by decide)) (by omega) (by omega)
                          have ue2619 : ti ((σ457.1 223 9)) = ti ((σ454.1 223 9)) := by rw [eσ457]; exact congrArg ti (zI_q (Or.inl (by omega)))
                          have ud2620 : 0 ≤ ti ((σ454.1 223 9)) ∧ ti ((σ454.1 223 9)) ≤ 600 := rdr uI2609 kd_223 rfl rfl
                          have ud2621 : 0 ≤ ti ((σ457.1 223 9)) ∧ ti ((σ457.1 223 9)) ≤ 600 := rdr uI2618 kd_223 rfl rfl
                          have ue2622 : ti ((σ457.1 223 12)) = ti ((σ454.1 223 12)) := by rw [eσ457]; exact congrArg ti (zI_q (Or.inl (by omega)))
                          exact hP (1 : Int32) σ457 uI2618 (fun _ => by omega)
                        · intro uq2623
                          have uc2624 := eq_t uq2623
                          have ud2625 : 0 ≤ ti ((σ454.1 223 9)) ∧ ti ((σ454.1 223 9)) ≤ 600 := rdr uI2609 kd_223 rfl rfl
                          exact hP (0 : Int32) σ454 uI2609 (fun q => absurd rfl q)
                      · intro uq2626
                        have uc2627 := eq_t uq2626
                        have ul2628 := lit_0
                        have ul2629 := lit_999
                        have ud2630 : 0 ≤ ti ((σ441.1 223 9)) ∧ ti ((σ441.1 223 9)) ≤ 600 := rdr uI2520 kd_223 rfl rfl
                        refine s_X10_take0 pr b (1 : Int32) (999 : Int32) uI2520 (by omega) (fun r459 σ458 uI2631 uz2632 uz2633 => ?_)
                        intro ub2634
                        have uc2635 := bool_t ub2634
                        refine ⟨?_, ?_⟩
                        · intro uq2636
                          have uc2637 := uz2632 uq2636
                          have uc2638 := uz2633 uq2636
                          have uc2639 := ne_t uq2636
                          refine ⟨vin (by omega), ?_⟩
                          intro σ461 eσ461
                          have uI2640 : zInv A F 0 σ461 := by rw [eσ461]; exact inv232p uI2631 (pR pr (by decide)) (by omega) (by omega)
                          have ue2641 : ti ((σ461.1 223 9)) = ti ((σ458.1 223 9)) := by rw [eσ461]; exact congrArg ti (zI_q (Or.inl (by omega)))
                          have ud2642 : 0 ≤ ti ((σ458.1 223 9)) ∧ ti ((σ458.1 223 9)) ≤ 600 := rdr uI2631 kd_223 rfl rfl
                          have ud2643 : 0 ≤ ti ((σ461.1 223 9)) ∧ ti ((σ461.1 223 9)) ≤ 600 := rdr uI2640 kd_223 rfl rfl
                          have ue2644 : ti ((σ461.1 223 12)) = ti ((σ458.1 223 12)) := by rw [eσ461]; exact congrArg ti (zI_q (Or.inl (by omega)))
                          exact hP (1 : Int32) σ461 uI2640 (fun _ => by omega)
                        · intro uq2645
                          have uc2646 := eq_t uq2645
                          have ud2647 : 0 ≤ ti ((σ458.1 223 9)) ∧ ti ((σ458.1 223 9)) ≤ 600 := rdr uI2631 kd_223 rfl rfl
                          exact hP (0 : Int32) σ458 uI2631 (fun q => absurd rfl q)
                    · intro uq2648
                      have ul2649 := lit_4
                      have uc2650 := eq_t uq2648
                      have ul2651 := lit_0
                      have ul2652 := lit_60
                      have ud2653 : 0 ≤ ti ((σ441.1 223 9)) ∧ ti ((σ441.1 223 9)) ≤ 600 := rdr uI2520 kd_223 rfl rfl
                      refine s_X10_take0 pr b (1 : Int32) (60 : Int32) uI2520 (by omega) (fun r463 σ462 uI2654 uz2655 uz2656 => ?_)
                      intro ub2657
                      have uc2658 := bool_t ub2657
                      refine ⟨?_, ?_⟩
                      · intro uq2659
                        have uc2660 := uz2655 uq2659
                        have uc2661 := uz2656 uq2659
                        have uc2662 := ne_t uq2659
                        refine ⟨vin (by omega), ?_⟩
                        intro σ465 eσ465
                        have uI2663 : zInv A F 0 σ465 := by rw [eσ465]; exact inv232p uI2654 (pR pr (by decide)) (by omega) (by omega)
                        have ue2664 : ti ((σ465.1 223 9)) = ti ((σ462.1 223 9)) := by rw [eσ465]; exact congrArg ti (zI_q (Or.inl (by omega)))
                        have ud2665 : 0 ≤ ti ((σ462.1 223 9)) ∧ ti ((σ462.1 223 9)) ≤ 600 := rdr uI2654 kd_223 rfl rfl
                        have ud2666 : 0 ≤ ti ((σ465.1 223 9)) ∧ ti ((σ465.1 223 9)) ≤ 600 := rdr uI2663 kd_223 rfl rfl
                        have ue2667 : ti ((σ465.1 223 12)) = ti ((σ462.1 223 12)) := by rw [eσ465]; exact congrArg ti (zI_q (Or.inl (by omega)))
                        exact hP (1 : Int32) σ465 uI2663 (fun _ => by omega)
                      · intro uq2668
                        have uc2669 := eq_t uq2668
                        have ud2670 : 0 ≤ ti ((σ462.1 223 9)) ∧ ti ((σ462.1 223 9)) ≤ 600 := rdr uI2654 kd_223 rfl rfl
                        exact hP (0 : Int32) σ462 uI2654 (fun q => absurd rfl q)
                · intro uq2671
                  have uc2672 := eq_t uq2671
                  refine ⟨?_, ?_⟩
                  · intro uq2673
                    refine ⟨?_, ?_⟩
                    · intro uq2674
                      refine ⟨?_, ?_⟩
                      · intro uq2675
                        have ul2676 := lit_0
                        have ud2677 : 0 ≤ ti ((σ441.1 223 9)) ∧ ti ((σ441.1 223 9)) ≤ 600 := rdr uI2520 kd_223 rfl rfl
                        refine s_X10_ofPost pr b (0 : Int32) uI2520 (by omega) (fun r467 σ466 uI2678 uz2679 => ?_)
                        intro ub2680
                        have uc2681 := bool_t ub2680
                        refine ⟨ub2680, ?_⟩
                        have ud2682 : 0 ≤ ti ((σ466.1 223 9)) ∧ ti ((σ466.1 223 9)) ≤ 600 := rdr uI2678 kd_223 rfl rfl
                        exact hP r467 σ466 uI2678 (fun q => by have := uz2679 q; omega)
                      · intro uq2683
                        have ud2684 : 0 ≤ ti ((σ441.1 223 9)) ∧ ti ((σ441.1 223 9)) ≤ 600 := rdr uI2520 kd_223 rfl rfl
                        refine s_X10_ofPost pr b (1 : Int32) uI2520 (by omega) (fun r469 σ468 uI2685 uz2686 => ?_)
                        intro ub2687
                        have uc2688 := bool_t ub2687
                        refine ⟨ub2687, ?_⟩
                        have ud2689 : 0 ≤ ti ((σ468.1 223 9)) ∧ ti ((σ468.1 223 9)) ≤ 600 := rdr uI2685 kd_223 rfl rfl
                        exact hP r469 σ468 uI2685 (fun q => by have := uz2686 q; omega)
                    · intro uq2690
                      have ud2691 : 0 ≤ ti ((σ441.1 223 9)) ∧ ti ((σ441.1 223 9)) ≤ 600 := rdr uI2520 kd_223 rfl rfl
                      refine s_X10_riderLine pr b uI2520 (by omega) (fun r471 σ470 uI2692 uz2693 => ?_)
                      intro ub2694
                      have uc2695 := bool_t ub2694
                      refine ⟨ub2694, ?_⟩
                      have ud2696 : 0 ≤ ti ((σ470.1 223 9)) ∧ ti ((σ470.1 223 9)) ≤ 600 := rdr uI2692 kd_223 rfl rfl
                      exact hP r471 σ470 uI2692 (fun q => by have := uz2693 q; omega)
                  · intro uq2697
                    have ud2698 : 0 ≤ ti ((σ441.1 223 9)) ∧ ti ((σ441.1 223 9)) ≤ 600 := rdr uI2520 kd_223 rfl rfl
                    refine s_X10_postLine pr b uI2520 (by omega) (fun r473 σ472 uI2699 uz2700 => ?_)
                    intro ub2701
                    have uc2702 := bool_t ub2701
                    refine ⟨ub2701, ?_⟩
                    have ud2703 : 0 ≤ ti ((σ472.1 223 9)) ∧ ti ((σ472.1 223 9)) ≤ 600 := rdr uI2699 kd_223 rfl rfl
                    exact hP r473 σ472 uI2699 (fun q => by have := uz2700 q; omega)
            · intro uq2704
              have ul2705 := lit_0
              have ul2706 := lit_16
              refine s_X10_full (okR_J pr) (0 : Int32) (16 : Int32) a2 (by omega) I (fun σ474 uI2707 uy2708 => ?_)
              have ud2709 : 0 ≤ ti ((σ474.1 223 9)) ∧ ti ((σ474.1 223 9)) ≤ 600 := rdr uI2707 kd_223 rfl rfl
              refine s_X10_token (okR_K pr) b uI2707 (by omega) (fun σ475 uI2710 uy2711 uy2712 => ?_)
              refine ⟨?_, ?_⟩
              · intro uq2713
                have uc2714 := ne_t uq2713
                refine ⟨?_, ?_⟩
                · intro uq2715
                  have ul2716 := lit_2
                  have uc2717 := ne_t uq2715
                  refine ⟨?_, ?_⟩
                  · intro uq2718
                    have ul2719 := lit_4
                    have uc2720 := ne_t uq2718
                    refine ⟨?_, ?_⟩
                    · intro uq2721
                      have ul2722 := lit_6
                      have uc2723 := ne_t uq2721
                      have ul2724 := lit_9
                      have ud2725 : 0 ≤ ti ((σ475.1 223 9)) ∧ ti ((σ475.1 223 9)) ≤ 600 := rdr uI2710 kd_223 rfl rfl
                      refine s_X10_take0 pr b (0 : Int32) (9 : Int32) uI2710 (by omega) (fun r477 σ476 uI2726 uz2727 uz2728 => ?_)
                      intro ub2729
                      have uc2730 := bool_t ub2729
                      refine ⟨?_, ?_⟩
                      · intro uq2731
                        have uc2732 := uz2727 uq2731
                        have uc2733 := uz2728 uq2731
                        have uc2734 := ne_t uq2731
                        refine ⟨vin (by omega), ?_⟩
                        intro σ479 eσ479
                        have uI2735 : zInv A F 0 σ479 := by rw [eσ479]; exact inv232p uI2726 (pR pr (by decide)) (by omega) (by omega)
                        have ue2736 : ti ((σ479.1 223 9)) = ti ((σ476.1 223 9)) := by rw [eσ479]; exact congrArg ti (zI_q (Or.inl (by omega)))
                        have ud2737 : 0 ≤ ti ((σ476.1 223 9)) ∧ ti ((σ476.1 223 9)) ≤ 600 := rdr uI2726 kd_223 rfl rfl
                        have ud2738 : 0 ≤ ti ((σ479.1 223 9)) ∧ ti ((σ479.1 223 9)) ≤ 600 := rdr uI2735 kd_223 rfl rfl
                        have ue2739 : ti ((σ479.1 223 12)) = ti ((σ476.1 223 12)) := by rw [eσ479]; exact congrArg ti (zI_q (Or.inl (by omega)))
                        exact hP (1 : Int32) σ479 uI2735 (fun _ => by omega)
                      · intro uq2740
                        have uc2741 := eq_t uq2740
                        have ud2742 : 0 ≤ ti ((σ476.1 223 9)) ∧ ti ((σ476.1 223 9)) ≤ 600 := rdr uI2726 kd_223 rfl rfl
                        exact hP (0 : Int32) σ476 uI2726 (fun q => absurd rfl q)
                    · intro uq2743
                      have ul2744 := lit_6
                      have uc2745 := eq_t uq2743
                      have ul2746 := lit_999
                      have ud2747 : 0 ≤ ti ((σ475.1 223 9)) ∧ ti ((σ475.1 223 9)) ≤ 600 := rdr uI2710 kd_223 rfl rfl
                      refine s_X10_take0 pr b (0 : Int32) (999 : Int32) uI2710 (by omega) (fun r481 σ480 uI2748 uz2749 uz2750 => ?_)
                      intro ub2751
                      have uc2752 := bool_t ub2751
                      refine ⟨?_, ?_⟩
                      · intro uq2753
                        have uc2754 := uz2749 uq2753
                        have uc2755 := uz2750 uq2753
                        have uc2756 := ne_t uq2753
                        refine ⟨vin (by omega), ?_⟩
                        intro σ483 eσ483
                        have uI2757 : zInv A F 0 σ483 := by rw [eσ483]; exact inv232p uI2748 (pR pr (by decide)) (by omega) (by omega)
                        have ue2758 : ti ((σ483.1 223 9)) = ti ((σ480.1 223 9)) := by rw [eσ483]; exact congrArg ti (zI_q (Or.inl (by omega)))
                        have ud2759 : 0 ≤ ti ((σ480.1 223 9)) ∧ ti ((σ480.1 223 9)) ≤ 600 := rdr uI2748 kd_223 rfl rfl
                        have ud2760 : 0 ≤ ti ((σ483.1 223 9)) ∧ ti ((σ483.1 223 9)) ≤ 600 := rdr uI2757 kd_223 rfl rfl
                        have ue2761 : ti ((σ483.1 223 12)) = ti ((σ480.1 223 12)) := by rw [eσ483]; exact congrArg ti (zI_q (Or.inl (by omega)))
                        exact hP (1 : Int32) σ483 uI2757 (fun _ => by omega)
                      · intro uq2762
                        have uc2763 := eq_t uq2762
                        have ud2764 : 0 ≤ ti ((σ480.1 223 9)) ∧ ti ((σ480.1 223 9)) ≤ 600 := rdr uI2748 kd_223 rfl rfl
                        exact hP (0 : Int32) σ480 uI2748 (fun q => absurd rfl q)
                  · intro uq2765
                    have ul2766 := lit_4
                    have uc2767 := eq_t uq2765
                    have ul2768 := lit_60
                    have ud2769 : 0 ≤ ti ((σ475.1 223 9)) ∧ ti ((σ475.1 223 9)) ≤ 600 := rdr uI2710 kd_223 rfl rfl
                    refine s_X10_take0 pr b (0 : Int32) (60 : Int32) uI2710 (by omega) (fun r485 σ484 uI2770 uz2771 uz2772 => ?_)
                    intro ub2773
                    have uc2774 := bool_t ub2773
                    refine ⟨?_, ?_⟩
                    · intro uq2775
                      have uc2776 := uz2771 uq2775
                      have uc2777 := uz2772 uq2775
                      have uc2778 := ne_t uq2775
                      refine ⟨vin (by omega), ?_⟩
                      intro σ487 eσ487
                      have uI2779 : zInv A F 0 σ487 := by rw [eσ487]; exact inv232p uI2770 (pR pr (by decide)) (by omega) (by omega)
                      have ue2780 : ti ((σ487.1 223 9)) = ti ((σ484.1 223 9)) := by rw [eσ487]; exact congrArg ti (zI_q (Or.inl (by omega)))
                      have ud2781 : 0 ≤ ti ((σ484.1 223 9)) ∧ ti ((σ484.1 223 9)) ≤ 600 := rdr uI2770 kd_223 rfl rfl
                      have ud2782 : 0 ≤ ti ((σ487.1 223 9)) ∧ ti ((σ487.1 223 9)) ≤ 600 := rdr uI2779 kd_223 rfl rfl
                      have ue2783 : ti ((σ487.1 223 12)) = ti ((σ484.1 223 12)) := by rw [eσ487]; exact congrArg ti (zI_q (Or.inl (by omega)))
                      exact hP (1 : Int32) σ487 uI2779 (fun _ => by omega)
                    · intro uq2784
                      have uc2785 := eq_t uq2784
                      have ud2786 : 0 ≤ ti ((σ484.1 223 9)) ∧ ti ((σ484.1 223 9)) ≤ 600 := rdr uI2770 kd_223 rfl rfl
                      exact hP (0 : Int32) σ484 uI2770 (fun q => absurd rfl q)
                · intro uq2787
                  have ul2788 := lit_2
                  have uc2789 := eq_t uq2787
                  refine ⟨?_, ?_⟩
                  · intro uq2790
                    have ul2791 := lit_4
                    have uc2792 := ne_t uq2790
                    refine ⟨?_, ?_⟩
                    · intro uq2793
                      have ul2794 := lit_6
                      have uc2795 := ne_t uq2793
                      have ul2796 := lit_1
                      have ul2797 := lit_9
                      have ud2798 : 0 ≤ ti ((σ475.1 223 9)) ∧ ti ((σ475.1 223 9)) ≤ 600 := rdr uI2710 kd_223 rfl rfl
                      refine s_X10_take0 pr b (1 : Int32) (9 : Int32) uI2710 (by omega) (fun r489 σ488 uI2799 uz2800 uz2801 => ?_)
                      intro ub2802
                      have uc2803 := bool_t ub2802
                      refine ⟨?_, ?_⟩
                      · intro uq2804
                        have uc2805 := uz2800 uq2804
                        have uc2806 := uz2801 uq2804
                        have uc2807 := ne_t uq2804
                        refine ⟨vin (by omega), ?_⟩
                        intro σ491 eσ491
                        have uI2808 : zInv A F 0 σ491 := by rw [eσ491]; exact inv232p uI2799 (pR pr (by decide)) (by omega) (by omega)
                        have ue2809 : ti ((σ491.1 223 9)) = ti ((σ488.1 223 9)) := by rw [eσ491]; exact congrArg ti (zI_q (Or.inl (by omega)))
                        have ud2810 : 0 ≤ ti ((σ488.1 223 9)) ∧ ti ((σ488.1 223 9)) ≤ 600 := rdr uI2799 kd_223 rfl rfl
                        have ud2811 : 0 ≤ ti ((σ491.1 223 9)) ∧ ti ((σ491.1 223 9)) ≤ 600 := rdr uI2808 kd_223 rfl rfl
                        have ue2812 : ti ((σ491.1 223 12)) = ti ((σ488.1 223 12)) := by rw [eσ491]; exact congrArg ti (zI_q (Or.inl (by omega)))
                        exact hP (1 : Int32) σ491 uI2808 (fun _ => by omega)
                      · intro uq2813
                        have uc2814 := eq_t uq2813
                        have ud2815 : 0 ≤ ti ((σ488.1 223 9)) ∧ ti ((σ488.1 223 9)) ≤ 600 := rdr uI2799 kd_223 rfl rfl
                        exact hP (0 : Int32) σ488 uI2799 (fun q => absurd rfl q)
                    · intro uq2816
                      have ul2817 := lit_6
                      have uc2818 := eq_t uq2816
                      have ul2819 := lit_1
                      have ul2820 := lit_999
                      have ud2821 : 0 ≤ ti ((σ475.1 223 9)) ∧ ti ((σ475.1 223 9)) ≤ 600 := rdr uI2710 kd_223 rfl rfl
                      refine s_X10_take0 pr b (1 : Int32) (999 : Int32) uI2710 (by omega) (fun r493 σ492 uI2822 uz2823 uz2824 => ?_)
                      intro ub2825
                      have uc2826 := bool_t ub2825
                      refine ⟨?_, ?_⟩
                      · intro uq2827
                        have uc2828 := uz2823 uq2827
                        have uc2829 := uz2824 uq2827
                        have uc2830 := ne_t uq2827
                        refine ⟨vin (by omega), ?_⟩
                        intro σ495 eσ495
                        have uI2831 : zInv A F 0 σ495 := by rw [eσ495]; exact inv232p uI2822 (pR pr (by decide)) (by omega) (by omega)
                        have ue2832 : ti ((σ495.1 223 9)) = ti ((σ492.1 223 9)) := by rw [eσ495]; exact congrArg ti (zI_q (Or.inl (by omega)))
                        have ud2833 : 0 ≤ ti ((σ492.1 223 9)) ∧ ti ((σ492.1 223 9)) ≤ 600 := rdr uI2822 kd_223 rfl rfl
                        have ud2834 : 0 ≤ ti ((σ495.1 223 9)) ∧ ti ((σ495.1 223 9)) ≤ 600 := rdr uI2831 kd_223 rfl rfl
                        have ue2835 : ti ((σ495.1 223 12)) = ti ((σ492.1 223 12)) := by rw [eσ495]; exact congrArg ti (zI_q (Or.inl (by omega)))
                        exact hP (1 : Int32) σ495 uI2831 (fun _ => by omega)
                      · intro uq2836
                        have uc2837 := eq_t uq2836
                        have ud2838 : 0 ≤ ti ((σ492.1 223 9)) ∧ ti ((σ492.1 223 9)) ≤ 600 := rdr uI2822 kd_223 rfl rfl
                        exact hP (0 : Int32) σ492 uI2822 (fun q => absurd rfl q)
                  · intro uq2839
                    have ul2840 := lit_4
                    have uc2841 := eq_t uq2839
                    have ul2842 := lit_1
                    have ul2843 := lit_60
                    have ud2844 : 0 ≤ ti ((σ475.1 223 9)) ∧ ti ((σ475.1 223 9)) ≤ 600 := rdr uI2710 kd_223 rfl rfl
                    refine s_X10_take0 pr b (1 : Int32) (60 : Int32) uI2710 (by omega) (fun r497 σ496 uI2845 uz2846 uz2847 => ?_)
                    intro ub2848
                    have uc2849 := bool_t ub2848
                    refine ⟨?_, ?_⟩
                    · intro uq2850
                      have uc2851 := uz2846 uq2850
                      have uc2852 := uz2847 uq2850
                      have uc2853 := ne_t uq2850
                      refine ⟨vin (by omega), ?_⟩
                      intro σ499 eσ499
                      have uI2854 : zInv A F 0 σ499 := by rw [eσ499]; exact inv232p uI2845 (pR pr (by decide)) (by omega) (by omega)
                      have ue2855 : ti ((σ499.1 223 9)) = ti ((σ496.1 223 9)) := by rw [eσ499]; exact congrArg ti (zI_q (Or.inl (by omega)))
                      have ud2856 : 0 ≤ ti ((σ496.1 223 9)) ∧ ti ((σ496.1 223 9)) ≤ 600 := rdr uI2845 kd_223 rfl rfl
                      have ud2857 : 0 ≤ ti ((σ499.1 223 9)) ∧ ti ((σ499.1 223 9)) ≤ 600 := rdr uI2854 kd_223 rfl rfl
                      have ue2858 : ti ((σ499.1 223 12)) = ti ((σ496.1 223 12)) := by rw [eσ499]; exact congrArg ti (zI_q (Or.inl (by omega)))
                      exact hP (1 : Int32) σ499 uI2854 (fun _ => by omega)
                    · intro uq2859
                      have uc2860 := eq_t uq2859
                      have ud2861 : 0 ≤ ti ((σ496.1 223 9)) ∧ ti ((σ496.1 223 9)) ≤ 600 := rdr uI2845 kd_223 rfl rfl
                      exact hP (0 : Int32) σ496 uI2845 (fun q => absurd rfl q)
              · intro uq2862
                have uc2863 := eq_t uq2862
                refine ⟨?_, ?_⟩
                · intro uq2864
                  refine ⟨?_, ?_⟩
                  · intro uq2865
                    refine ⟨?_, ?_⟩
                    · intro uq2866
                      have ud2867 : 0 ≤ ti ((σ475.1 223 9)) ∧ ti ((σ475.1 223 9)) ≤ 600 := rdr uI2710 kd_223 rfl rfl
                      refine s_X10_ofPost pr b (0 : Int32) uI2710 (by omega) (fun r501 σ500 uI2868 uz2869 => ?_)
                      intro ub2870
                      have uc2871 := bool_t ub2870
                      refine ⟨ub2870, ?_⟩
                      have ud2872 : 0 ≤ ti ((σ500.1 223 9)) ∧ ti ((σ500.1 223 9)) ≤ 600 := rdr uI2868 kd_223 rfl rfl
                      exact hP r501 σ500 uI2868 (fun q => by have := uz2869 q; omega)
                    · intro uq2873
                      have ul2874 := lit_1
                      have ud2875 : 0 ≤ ti ((σ475.1 223 9)) ∧ ti ((σ475.1 223 9)) ≤ 600 := rdr uI2710 kd_223 rfl rfl
                      refine s_X10_ofPost pr b (1 : Int32) uI2710 (by omega) (fun r503 σ502 uI2876 uz2877 => ?_)
                      intro ub2878
                      have uc2879 := bool_t ub2878
                      refine ⟨ub2878, ?_⟩
                      have ud2880 : 0 ≤ ti ((σ502.1 223 9)) ∧ ti ((σ502.1 223 9)) ≤ 600 := rdr uI2876 kd_223 rfl rfl
                      exact hP r503 σ502 uI2876 (fun q => by have := uz2877 q; omega)
                  · intro uq2881
                    have ud2882 : 0 ≤ ti ((σ475.1 223 9)) ∧ ti ((σ475.1 223 9)) ≤ 600 := rdr uI2710 kd_223 rfl rfl
                    refine s_X10_riderLine pr b uI2710 (by omega) (fun r505 σ504 uI2883 uz2884 => ?_)
                    intro ub2885
                    have uc2886 := bool_t ub2885
                    refine ⟨ub2885, ?_⟩
                    have ud2887 : 0 ≤ ti ((σ504.1 223 9)) ∧ ti ((σ504.1 223 9)) ≤ 600 := rdr uI2883 kd_223 rfl rfl
                    exact hP r505 σ504 uI2883 (fun q => by have := uz2884 q; omega)
                · intro uq2888
                  have ud2889 : 0 ≤ ti ((σ475.1 223 9)) ∧ ti ((σ475.1 223 9)) ≤ 600 := rdr uI2710 kd_223 rfl rfl
                  refine s_X10_postLine pr b uI2710 (by omega) (fun r507 σ506 uI2890 uz2891 => ?_)
                  intro ub2892
                  have uc2893 := bool_t ub2892
                  refine ⟨ub2892, ?_⟩
                  have ud2894 : 0 ≤ ti ((σ506.1 223 9)) ∧ ti ((σ506.1 223 9)) ≤ 600 := rdr uI2890 kd_223 rfl rfl
                  exact hP r507 σ506 uI2890 (fun q => by have := uz2891 q; omega)
          · intro uq2895
            refine s_X10_fails pr I (fun r509 σ508 uI2896 uz2897 => ?_)
            intro ub2898
            have uc2899 := bool_t ub2898
            refine ⟨ub2898, ?_⟩
            have ud2900 : 0 ≤ ti ((σ508.1 223 9)) ∧ ti ((σ508.1 223 9)) ≤ 600 := rdr uI2896 kd_223 rfl rfl
            exact hP r509 σ508 uI2896 (fun q => by have := uz2897 q; omega)
