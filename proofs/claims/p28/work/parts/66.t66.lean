/-! pull and seen on both sides -/
def PrR (t q b W : Nat) (σ : zSto) : Prop := σ.1 t 2 = σ.1 q b ∧ ∀ (k c : Nat), 1 + 2 * k + c < W → c < 2 → k < 16 → (k : Int) < ti (σ.1 q b) → σ.1 (t + 1 + c) k = σ.1 q (b + (1 + 2 * k + c))
theorem LX_pairs {σ : zSto} (h : LX 1 0 σ) {o l : Nat} (ho : o = 1 ∨ o = 2) (hl : l < 2) (hc : (l : Int) < ti (σ.1 42 o)) : PrR (22 + 7 * o + 3 * l) (229 + o) (wdo o * l) (wdo o) σ := by
  have w2 := wdo_2 o
  have g : ∀ s, s < wdo o → (s = 0 ∨ (((s - 1) / 2 : Nat) : Int) < cv σ 1 o l 0) → σ.1 (22 + 7 * o + 3 * l + (cK (300 + s) - 184)) (cJ (300 + s)) = σ.1 (229 + o) (wdo o * l + s) := by
    intro s hs hv
    have y := (h.2.2.2.2.2.1 o l s (by omega) hl hc hs ⟨fun z => by omega, fun _ => hv⟩).1
    rcases ho with e | e
    · subst e
      have y2 : ti (σ.1 (1 + 28 + 3 * l + (cK (300 + s) - 184)) (cJ (300 + s))) = ti (σ.1 230 (66 * 0 + 33 * l + s)) := y
      rw [show 1 + 28 + 3 * l + (cK (300 + s) - 184) = 22 + 7 * 1 + 3 * l + (cK (300 + s) - 184) by omega, show 66 * 0 + 33 * l + s = 33 * l + s by omega] at y2
      exact t_inj y2
    · subst e
      have y2 : ti (σ.1 (1 + 35 + 3 * l + (cK (300 + s) - 184)) (cJ (300 + s))) = ti (σ.1 231 (42 * 0 + 21 * l + s)) := y
      rw [show 1 + 35 + 3 * l + (cK (300 + s) - 184) = 22 + 7 * 2 + 3 * l + (cK (300 + s) - 184) by omega, show 42 * 0 + 21 * l + s = 21 * l + s by omega] at y2
      exact t_inj y2
  have k0 : cK (300 + 0) = 184 ∧ cJ (300 + 0) = 2 := by decide
  have g0 : σ.1 (22 + 7 * o + 3 * l) 2 = σ.1 (229 + o) (wdo o * l) := by
    have y := g 0 (by omega) (Or.inl rfl)
    rw [k0.1, k0.2] at y
    exact y
  have v0 : cv σ 1 o l 0 = ti (σ.1 (229 + o) (wdo o * l)) := by
    rw [← g0]
    rcases ho with e | e
    · subst e
      show ti (σ.1 (1 + 28 + 3 * l + (cK (300 + 0) - 184)) (cJ (300 + 0))) = _
      rw [k0.1, k0.2, show 1 + 28 + 3 * l + (184 - 184) = 22 + 7 * 1 + 3 * l by omega]
    · subst e
      show ti (σ.1 (1 + 35 + 3 * l + (cK (300 + 0) - 184)) (cJ (300 + 0))) = _
      rw [k0.1, k0.2, show 1 + 35 + 3 * l + (184 - 184) = 22 + 7 * 2 + 3 * l by omega]
  rw [v0] at g
  refine ⟨g0, fun k c hs hc2 hk hv => ?_⟩
  have y := g (1 + 2 * k + c) hs (Or.inr (by rw [show (1 + 2 * k + c - 1) / 2 = k by omega]; exact hv))
  have kk := cK_c k c hc2 hk
  rw [show 300 + (1 + 2 * k + c) = 301 + 2 * k + c by omega, kk.1, kk.2, show 22 + 7 * o + 3 * l + (185 + c - 184) = 22 + 7 * o + 3 * l + 1 + c by omega] at y
  exact y
noncomputable def paA (sz : Int32) (g : Nat → Int32) (a2 a3 : Int32) : Int32 := if ti a2 = -1 then (if ti a3 = 0 then sz else -2) else if 0 ≤ ti a2 ∧ ti a2 < ti sz ∧ 0 ≤ ti a3 ∧ ti a3 ≤ 1 then g (1 + 2 * (ti a2).toNat + (ti a3).toNat) else -2
set_option maxHeartbeats 4000000 in
theorem f_X9_pairAnswer {t q b W : Nat} {σ : zSto} (zp : zIsPairs t) (h : PrR t q b W σ) (hW : 2 * ti (σ.1 q b) < (W : Int)) (h16 : ti (σ.1 q b) ≤ 16) (a2 a3 : Int32) {P : Int32 → zSto → Prop} (hP : P (paA (σ.1 q b) (fun s => σ.1 q (b + s)) a2 a3) σ) : w_X9_pairAnswer (some t) a2 a3 σ P := by
  have l0 := lit_0
  have l1 := lit_1
  have lm := lit_m1
  have tn := tn_eq a2
  unfold w_X9_pairAnswer
  refine ⟨fun z => (by cases z), fun kk e => ?_⟩
  have e' := Option.some.inj e
  subst e'
  rw [h.1]
  refine ⟨zp, fun z => ?_, fun z => ?_⟩
  · have z2 := ne_t z
    have no : ¬ (0 ≤ ti a2 ∧ ti a2 < ti (σ.1 q b) ∧ 0 ≤ ti a3 ∧ ti a3 ≤ 1) → P (-2 : Int32) σ := fun w => by
      unfold paA at hP
      rw [if_neg (by omega), if_neg w] at hP
      exact hP
    refine ⟨fun c => no (by have := lt_t c; omega), fun c => ⟨fun c2 => no (by have := le_t c2; omega), fun c2 => ⟨fun c3 => no (by have := lt_t c3; omega), fun c3 => ⟨fun c4 => ?_, fun c4 => no (by have := nle_t c4; omega)⟩⟩⟩⟩
    have d1 := nlt_t c
    have d2 := nle_t c2
    have d3 := nlt_t c3
    have d4 := le_t c4
    have yes : ∀ c : Nat, ti a3 = (c : Int) → P (σ.1 (t + 1 + c) a2.toNatClampNeg) σ := fun c hc => by
      unfold paA at hP
      rw [if_neg (by omega), if_pos (by omega)] at hP
      rw [show a2.toNatClampNeg = (ti a2).toNat by omega, h.2 (ti a2).toNat c (by omega) (by omega) (by omega) (by omega), show c = (ti a3).toNat by omega]
      exact hP
    refine ⟨fun c5 => ⟨vin (by omega), yes 1 (by have := ne_t c5; omega)⟩, fun c5 => ⟨vin (by omega), yes 0 (by have := eq_t c5; omega)⟩⟩
  · have z2 := eq_t z
    unfold paA at hP
    rw [if_pos (by omega)] at hP
    refine ⟨fun c => ?_, fun c => ?_⟩
    · have := ne_t c
      rw [if_neg (by omega)] at hP
      exact hP
    · have := eq_t c
      rw [if_pos (by omega)] at hP
      exact hP
theorem f_X8_planAt (a1 : Int32) {σ : zSto} (I : zInv zA0 zF0 3 σ) {P : Option Nat → zSto → Prop} (h0 : ¬ (0 ≤ ti a1 ∧ ti a1 < ti (σ.1 42 1)) → P none σ) (hP : ∀ l : Nat, ti a1 = (l : Int) → l < 2 → (l : Int) < ti (σ.1 42 1) → P (some (22 + 7 * 1 + 3 * l)) σ) : w_X8_planAt 1 a1 σ P := by
  have d : 0 ≤ ti (σ.1 42 1) ∧ ti (σ.1 42 1) ≤ 2 := rdg I.1 kd_42 rfl rfl
  unfold w_X8_planAt
  refine f_X8_has 1 (by omega) (1 : Int32) a1 lit_1 d (fun r z => ?_)
  intro b
  refine ⟨fun q => h0 (fun h => z.mpr h q), fun q => ⟨vin (by have := z.mp q; omega), fun j4 e4 => ?_⟩⟩
  have y := z.mp q
  rcases (show ti a1 = 0 ∨ ti a1 = 1 by omega) with w | w
  · have e : j4 = 22 + 7 * 1 + 3 * 0 := by rw [e4, zel_of w]; rfl
    rw [e]
    exact ⟨isP_P (Or.inl rfl), hP 0 (by omega) (by omega) (by omega)⟩
  · have e : j4 = 22 + 7 * 1 + 3 * 1 := by rw [e4, zel_of w]; rfl
    rw [e]
    exact ⟨isP_P (Or.inr (Or.inl rfl)), hP 1 (by omega) (by omega) (by omega)⟩
theorem f_X8_logAt (a1 : Int32) {σ : zSto} (I : zInv zA0 zF0 3 σ) {P : Option Nat → zSto → Prop} (h0 : ¬ (0 ≤ ti a1 ∧ ti a1 < ti (σ.1 42 2)) → P none σ) (hP : ∀ l : Nat, ti a1 = (l : Int) → l < 2 → (l : Int) < ti (σ.1 42 2) → P (some (22 + 7 * 2 + 3 * l)) σ) : w_X8_logAt 1 a1 σ P := by
  have d : 0 ≤ ti (σ.1 42 2) ∧ ti (σ.1 42 2) ≤ 2 := rdg I.1 kd_42 rfl rfl
  unfold w_X8_logAt
  refine f_X8_has 2 (by omega) (2 : Int32) a1 lit_2 d (fun r z => ?_)
  intro b
  refine ⟨fun q => h0 (fun h => z.mpr h q), fun q => ⟨vin (by have := z.mp q; omega), fun j4 e4 => ?_⟩⟩
  have y := z.mp q
  rcases (show ti a1 = 0 ∨ ti a1 = 1 by omega) with w | w
  · have e : j4 = 22 + 7 * 2 + 3 * 0 := by rw [e4, zel_of w]; rfl
    rw [e]
    exact ⟨isP_P (Or.inr (Or.inr (Or.inl rfl))), hP 0 (by omega) (by omega) (by omega)⟩
  · have e : j4 = 22 + 7 * 2 + 3 * 1 := by rw [e4, zel_of w]; rfl
    rw [e]
    exact ⟨isP_P (Or.inr (Or.inr (Or.inr rfl))), hP 1 (by omega) (by omega) (by omega)⟩
theorem rg_230 {σ : zSto} (I : zInv zA0 zF0 3 σ) {l : Nat} : 0 ≤ ti (σ.1 230 (33 * l)) ∧ ti (σ.1 230 (33 * l)) ≤ 16 := by
  have y := I.1 230 (33 * l)
  rw [kd_230] at y
  have a : lo 15 (33 * l) = 0 := by
    show (if (33 * l) % 33 = 0 then (0 : Int) else (-2147483648)) = 0
    rw [if_pos (by omega)]
  have b : hi 15 (33 * l) = 16 := by
    show (if (33 * l) % 33 = 0 then (16 : Int) else 2147483647) = 16
    rw [if_pos (by omega)]
  rw [a, b] at y
  exact y
theorem rg_231 {σ : zSto} (I : zInv zA0 zF0 3 σ) {l : Nat} : 0 ≤ ti (σ.1 231 (21 * l)) ∧ ti (σ.1 231 (21 * l)) ≤ 10 := by
  have y := I.1 231 (21 * l)
  rw [kd_231] at y
  have a : lo 16 (21 * l) = 0 := by
    show (if (21 * l) % 21 = 0 then (0 : Int) else (-2147483648)) = 0
    rw [if_pos (by omega)]
  have b : hi 16 (21 * l) = 10 := by
    show (if (21 * l) % 21 = 0 then (10 : Int) else 2147483647) = 10
    rw [if_pos (by omega)]
  rw [a, b] at y
  exact y
set_option maxHeartbeats 4000000 in
theorem al_pull {σ : zSto} (H : Lz σ) (a1 a2 a3 : Int32) : ∃ A : Int32, w_X9_pull a1 a2 a3 σ (fun r _ => r = A) ∧ w_X10_pull a1 a2 a3 σ (fun r _ => r = A) := by
  obtain ⟨I, q1, _, _⟩ := id H
  have l0 := lit_0
  have l1 := lit_1
  have lm := lit_m1
  have m0 := many0 q1 (o := 1) (by omega)
  have d : 0 ≤ ti (σ.1 42 1) ∧ ti (σ.1 42 1) ≤ 2 := rdg I.1 kd_42 rfl rfl
  by_cases ex : 0 ≤ ti a1 ∧ ti a1 < ti (σ.1 42 1)
  · obtain ⟨l, hl⟩ : ∃ l : Nat, ti a1 = (l : Int) := ⟨(ti a1).toNat, by omega⟩
    have hL := LX_pairs q1 (o := 1) (l := l) (Or.inl rfl) (by omega) (by omega)
    have hL' : PrR (22 + 7 * 1 + 3 * l) 230 (33 * l) 33 σ := hL
    have r30 := rg_230 I (l := l)
    refine ⟨paA (σ.1 230 (33 * l)) (fun s => σ.1 230 (33 * l + s)) a2 a3, ?_, ?_⟩
    · unfold w_X9_pull
      refine f_X8_planAt a1 I (fun z => absurd ex z) (fun l' hl' hl2 hc => ?_)
      have el : l' = l := by omega
      subst el
      refine ⟨fun z => (by cases z), fun j3 e3 => ?_⟩
      have e3' := Option.some.inj e3
      subst e3'
      have zp : zIsPairs (22 + 7 * 1 + 3 * l') := isP_P (by unfold isP; omega)
      exact ⟨zp, f_X9_pairAnswer zp hL' (by omega) (by omega) a2 a3 rfl⟩
    · unfold w_X10_pull
      intro σ1 e1
      unfold w_X10_hasPlan
      intro σ2 e2
      have g2 : ∀ k j, k ≠ 223 → σ2.1 k j = σ.1 k j := fun k j hk => by rw [zI_q' e2 (Or.inl hk), zI_q' e1 (Or.inl hk)]
      have v46 : ti (σ2.1 223 46) = (l : Int) := by rw [e2, zI_s]; exact hl
      refine f_X10_is (1 : Int32) a1 (o := 1) lit_1 (by omega) (by rw [g2 228 1 (by omega)]; omega) (fun r3 z3 => fun hb => ⟨hb, fun _ => ⟨fun q3 => ?_, fun q3 => ?_⟩⟩)
      · have m := tmull (x := (33 : Int32)) (y := σ2.1 223 46) 33 lit_33 (by omega)
        have n := tn_eq ((33 : Int32) * σ2.1 223 46)
        have pl : ∀ {Q : Int32 → zSto → Prop}, Q (σ.1 230 (33 * l)) σ2 → w_X10_pulls σ2 Q := fun {Q} h => by
          unfold w_X10_pulls
          rw [show ((33 : Int32) * σ2.1 223 46).toNatClampNeg = 33 * l by omega, g2 230 _ (by omega)]
          exact ⟨vin (by omega), h⟩
        refine ⟨fun q => ?_, fun q => ⟨fun q4 => ?_, fun q4 => ?_⟩⟩
        · have nq := ne_t q
          refine pl ?_
          have ts := tsub (x := σ.1 230 (33 * l)) (y := (1 : Int32)) (by omega)
          have no : ¬ (0 ≤ ti a2 ∧ ti a2 < ti (σ.1 230 (33 * l)) ∧ 0 ≤ ti a3 ∧ ti a3 ≤ 1) → (-2 : Int32) = paA (σ.1 230 (33 * l)) (fun s => σ.1 230 (33 * l + s)) a2 a3 := fun w => by
            unfold paA
            rw [if_neg (by omega), if_neg w]
          refine b_X10_in a2 (0 : Int32) _ (fun r7 z7 => fun _ => ⟨fun q7 => no (fun w => z7.mpr (by omega) q7), fun q7 => ?_⟩)
          have w7 := z7.mp q7
          refine b_X10_in a3 (0 : Int32) (1 : Int32) (fun r9 z9 => fun _ => ⟨fun q9 => no (fun w => z9.mpr (by omega) q9), fun q9 => ?_⟩)
          have w9 := z9.mp q9
          unfold w_X10_pullOf
          have t1 := tadd (x := (33 : Int32) * σ2.1 223 46) (y := (1 : Int32)) (by omega)
          have m2 := tmull (x := (2 : Int32)) (y := a2) 2 lit_2 (by omega)
          have t2 := tadd (x := (33 : Int32) * σ2.1 223 46 + (1 : Int32)) (y := (2 : Int32) * a2) (by omega)
          have t3 := tadd (x := (33 : Int32) * σ2.1 223 46 + (1 : Int32) + (2 : Int32) * a2) (y := a3) (by omega)
          have n3 := tn_eq ((33 : Int32) * σ2.1 223 46 + (1 : Int32) + (2 : Int32) * a2 + a3)
          rw [show ((33 : Int32) * σ2.1 223 46 + (1 : Int32) + (2 : Int32) * a2 + a3).toNatClampNeg = 33 * l + (1 + 2 * (ti a2).toNat + (ti a3).toNat) by omega, g2 230 _ (by omega)]
          refine ⟨vin (by omega), ?_⟩
          unfold paA
          rw [if_neg (by omega), if_pos (by omega)]
        · have := eq_t q
          have := ne_t q4
          unfold paA
          rw [if_pos (by omega), if_neg (by omega)]
        · have := eq_t q
          have := eq_t q4
          refine pl ?_
          unfold paA
          rw [if_pos (by omega), if_pos (by omega)]
      · exact absurd q3 (z3.mpr (by rw [g2 228 1 (by omega)]; omega))
  · refine ⟨-2, ?_, ?_⟩
    · unfold w_X9_pull
      exact f_X8_planAt a1 I (fun _ => ⟨fun _ => ⟨fun _ => rfl, fun kk e => (by cases e)⟩, fun j3 e3 => (by cases e3)⟩) (fun l hl _ hc => absurd ⟨by omega, by omega⟩ ex)
    · unfold w_X10_pull
      intro σ1 e1
      unfold w_X10_hasPlan
      intro σ2 e2
      have g2 : ∀ k j, k ≠ 223 → σ2.1 k j = σ.1 k j := fun k j hk => by rw [zI_q' e2 (Or.inl hk), zI_q' e1 (Or.inl hk)]
      refine f_X10_is (1 : Int32) a1 (o := 1) lit_1 (by omega) (by rw [g2 228 1 (by omega)]; omega) (fun r3 z3 => fun hb => ⟨hb, fun _ => ⟨fun q3 => ?_, fun _ => rfl⟩⟩)
      have w := z3.mp q3
      rw [g2 228 1 (by omega)] at w
      exact absurd ⟨by omega, by omega⟩ ex
theorem m_pull {σ : zSto} (H : Lz σ) (a1 a2 a3 : Int32) {P : Int32 → zSto → Prop} (hP : ∀ r σa, (∀ Q : Int32 → zSto → Prop, (∀ σ2, Lz σ2 → Q r σ2) → w_X10_pull a1 a2 a3 σa Q) → P r σa) : w_X9_pull a1 a2 a3 σ P := by
  obtain ⟨A, hc, hr⟩ := al_pull H a1 a2 a3
  exact cj_X9_pull (P := fun _ σa => σa = σ) (Q := fun r _ => r = A) (fun r σa e1 e2 => by
    subst e1
    subst e2
    exact hP _ _ (fun Q hQ => cj_X10_pull (P := fun _ σb => zInv AR2 σa.1 3 σb) (Q := fun r' _ => r' = r) (fun r' σb i e => by
      subst e
      exact hQ σb (Lz_R H i)) (s_X10_pull (A := AR2) (F := σa.1) ar2_r ar2_h a1 a2 a3 (inv_any H.1) (fun _ _ i => i)) hr)) (s_X9_pull a1 a2 a3 (inv_any (B := AC) H.1) (fun _ => rfl)) hc
set_option maxHeartbeats 4000000 in
theorem al_seen {σ : zSto} (H : Lz σ) (a1 a2 a3 : Int32) : ∃ A : Int32, w_X9_seen a1 a2 a3 σ (fun r _ => r = A) ∧ w_X10_seen a1 a2 a3 σ (fun r _ => r = A) := by
  obtain ⟨I, q1, _, _⟩ := id H
  have l0 := lit_0
  have l1 := lit_1
  have lm := lit_m1
  have m0 := many0 q1 (o := 2) (by omega)
  have d : 0 ≤ ti (σ.1 42 2) ∧ ti (σ.1 42 2) ≤ 2 := rdg I.1 kd_42 rfl rfl
  by_cases ex : 0 ≤ ti a1 ∧ ti a1 < ti (σ.1 42 2)
  · obtain ⟨l, hl⟩ : ∃ l : Nat, ti a1 = (l : Int) := ⟨(ti a1).toNat, by omega⟩
    have hL := LX_pairs q1 (o := 2) (l := l) (Or.inr rfl) (by omega) (by omega)
    have hL' : PrR (22 + 7 * 2 + 3 * l) 231 (21 * l) 21 σ := hL
    have r31 := rg_231 I (l := l)
    refine ⟨paA (σ.1 231 (21 * l)) (fun s => σ.1 231 (21 * l + s)) a2 a3, ?_, ?_⟩
    · unfold w_X9_seen
      refine f_X8_logAt a1 I (fun z => absurd ex z) (fun l' hl' hl2 hc => ?_)
      have el : l' = l := by omega
      subst el
      refine ⟨fun z => (by cases z), fun j3 e3 => ?_⟩
      have e3' := Option.some.inj e3
      subst e3'
      have zp : zIsPairs (22 + 7 * 2 + 3 * l') := isP_P (by unfold isP; omega)
      exact ⟨zp, f_X9_pairAnswer zp hL' (by omega) (by omega) a2 a3 rfl⟩
    · unfold w_X10_seen
      intro σ1 e1
      unfold w_X10_hasLog
      intro σ2 e2
      have g2 : ∀ k j, k ≠ 223 → σ2.1 k j = σ.1 k j := fun k j hk => by rw [zI_q' e2 (Or.inl hk), zI_q' e1 (Or.inl hk)]
      have v47 : ti (σ2.1 223 47) = (l : Int) := by rw [e2, zI_s]; exact hl
      refine f_X10_is (2 : Int32) a1 (o := 2) lit_2 (by omega) (by rw [g2 228 2 (by omega)]; omega) (fun r3 z3 => fun hb => ⟨hb, fun _ => ⟨fun q3 => ?_, fun q3 => ?_⟩⟩)
      · have m := tmull (x := (21 : Int32)) (y := a1) 21 lit_21 (by omega)
        have n := tn_eq ((21 : Int32) * a1)
        rw [show ((21 : Int32) * a1).toNatClampNeg = 21 * l by omega, g2 231 _ (by omega)]
        refine ⟨vin (by omega), fun x5 e5 => ?_⟩
        subst e5
        refine ⟨fun q => ?_, fun q => ⟨fun q4 => ?_, fun q4 => ?_⟩⟩
        · have nq := ne_t q
          have ts := tsub (x := σ.1 231 (21 * l)) (y := (1 : Int32)) (by omega)
          have no : ¬ (0 ≤ ti a2 ∧ ti a2 < ti (σ.1 231 (21 * l)) ∧ 0 ≤ ti a3 ∧ ti a3 ≤ 1) → (-2 : Int32) = paA (σ.1 231 (21 * l)) (fun s => σ.1 231 (21 * l + s)) a2 a3 := fun w => by
            unfold paA
            rw [if_neg (by omega), if_neg w]
          refine b_X10_in a2 (0 : Int32) _ (fun r7 z7 => fun _ => ⟨fun q7 => no (fun w => z7.mpr (by omega) q7), fun q7 => ?_⟩)
          have w7 := z7.mp q7
          refine b_X10_in a3 (0 : Int32) (1 : Int32) (fun r9 z9 => fun _ => ⟨fun q9 => no (fun w => z9.mpr (by omega) q9), fun q9 => ?_⟩)
          have w9 := z9.mp q9
          unfold w_X10_seenOf
          have mm := tmull (x := (21 : Int32)) (y := σ2.1 223 47) 21 lit_21 (by omega)
          have t1 := tadd (x := (21 : Int32) * σ2.1 223 47) (y := (1 : Int32)) (by omega)
          have m2 := tmull (x := (2 : Int32)) (y := a2) 2 lit_2 (by omega)
          have t2 := tadd (x := (21 : Int32) * σ2.1 223 47 + (1 : Int32)) (y := (2 : Int32) * a2) (by omega)
          have t3 := tadd (x := (21 : Int32) * σ2.1 223 47 + (1 : Int32) + (2 : Int32) * a2) (y := a3) (by omega)
          have n3 := tn_eq ((21 : Int32) * σ2.1 223 47 + (1 : Int32) + (2 : Int32) * a2 + a3)
          rw [show ((21 : Int32) * σ2.1 223 47 + (1 : Int32) + (2 : Int32) * a2 + a3).toNatClampNeg = 21 * l + (1 + 2 * (ti a2).toNat + (ti a3).toNat) by omega, g2 231 _ (by omega)]
          refine ⟨vin (by omega), ?_⟩
          unfold paA
          rw [if_neg (by omega), if_pos (by omega)]
        · have := eq_t q
          have := ne_t q4
          unfold paA
          rw [if_pos (by omega), if_neg (by omega)]
        · have := eq_t q
          have := eq_t q4
          unfold paA
          rw [if_pos (by omega), if_pos (by omega)]
      · exact absurd q3 (z3.mpr (by rw [g2 228 2 (by omega)]; omega))
  · refine ⟨-2, ?_, ?_⟩
    · unfold w_X9_seen
      exact f_X8_logAt a1 I (fun _ => ⟨fun _ => ⟨fun _ => rfl, fun kk e => (by cases e)⟩, fun j3 e3 => (by cases e3)⟩) (fun l hl _ hc => absurd ⟨by omega, by omega⟩ ex)
    · unfold w_X10_seen
      intro σ1 e1
      unfold w_X10_hasLog
      intro σ2 e2
      have g2 : ∀ k j, k ≠ 223 → σ2.1 k j = σ.1 k j := fun k j hk => by rw [zI_q' e2 (Or.inl hk), zI_q' e1 (Or.inl hk)]
      refine f_X10_is (2 : Int32) a1 (o := 2) lit_2 (by omega) (by rw [g2 228 2 (by omega)]; omega) (fun r3 z3 => fun hb => ⟨hb, fun _ => ⟨fun q3 => ?_, fun _ => rfl⟩⟩)
      have w := z3.mp q3
      rw [g2 228 2 (by omega)] at w
      exact absurd ⟨by omega, by omega⟩ ex
theorem m_seen {σ : zSto} (H : Lz σ) (a1 a2 a3 : Int32) {P : Int32 → zSto → Prop} (hP : ∀ r σa, (∀ Q : Int32 → zSto → Prop, (∀ σ2, Lz σ2 → Q r σ2) → w_X10_seen a1 a2 a3 σa Q) → P r σa) : w_X9_seen a1 a2 a3 σ P := by
  obtain ⟨A, hc, hr⟩ := al_seen H a1 a2 a3
  exact cj_X9_seen (P := fun _ σa => σa = σ) (Q := fun r _ => r = A) (fun r σa e1 e2 => by
    subst e1
    subst e2
    exact hP _ _ (fun Q hQ => cj_X10_seen (P := fun _ σb => zInv AR2 σa.1 3 σb) (Q := fun r' _ => r' = r) (fun r' σb i e => by
      subst e
      exact hQ σb (Lz_R H i)) (s_X10_seen (A := AR2) (F := σa.1) ar2_r ar2_h a1 a2 a3 (inv_any H.1) (fun _ _ i => i)) hr)) (s_X9_seen a1 a2 a3 (inv_any (B := AC) H.1) (fun _ => rfl)) hc
