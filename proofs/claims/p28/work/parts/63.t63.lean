/-! told LINES as rows of ints, on both sides -/
def csI (G : Nat → Int32) (p : Nat) : Int32 := if G (7 + 5 * p + 1) = 3 ∧ 0 < p then G 2 + 2 * G (7 + 5 * p + 1) + 2 * G (7 + 5 * (p - 1)) else G 2 + 2 * G (7 + 5 * p + 1)
def pdI (G : Nat → Int32) (p : Nat) (w : Int32) : Int32 := if (0 : Int32) < G (7 + 5 * p + 2) - G 3 * w then G (7 + 5 * p + 2) - G 3 * w else 0
/-- the Line at the cell t tells G -/
def LnR (t : Nat) (G : Nat → Int32) (σ : zSto) : Prop :=
  (∀ s, s < 7 → σ.1 t (11 + s) = G s) ∧
  (∀ (p c : Nat), p < 16 → c < 5 → (3 ≤ c ∨ (p : Int) < ti (G 0)) → σ.1 (t + 1 + c) p = G (7 + 5 * p + c)) ∧
  (∀ (r c : Nat), r < 6 → c < 6 → (r : Int) < ti (G 1) → σ.1 (t + 6 + c) r = G (87 + 6 * r + c))
theorem LX_line {σ : zSto} (h : LX 1 0 σ) {l : Nat} (hl : l < 2) (hc : (l : Int) < ti (σ.1 42 0)) : LnR (4 + 12 * l) (fun s => σ.1 229 (123 * l + s)) σ := by
  have g : ∀ s, s < 123 → LV (cv σ 1 0 l 0) (cv σ 1 0 l 1) 0 s → σ.1 (4 + 12 * l + (cK s - 172)) (cJ s) = σ.1 229 (123 * l + s) := by
    intro s hs hv
    have y := (h.2.2.2.2.2.1 0 l s (by omega) hl hc hs ⟨fun _ => hv, fun z => absurd rfl z⟩).1
    have y2 : ti (σ.1 (1 + 3 + 12 * l + (cK s - 172)) (cJ s)) = ti (σ.1 229 (246 * 0 + 123 * l + s)) := y
    rw [show 1 + 3 + 12 * l + (cK s - 172) = 4 + 12 * l + (cK s - 172) by omega, show 246 * 0 + 123 * l + s = 123 * l + s by omega] at y2
    exact t_inj y2
  have k7 : ∀ s, s < 7 → cK s = 172 ∧ cJ s = 11 + s := fun s hs => by
    unfold cK cJ
    rw [if_pos hs, if_pos hs]
    exact ⟨rfl, rfl⟩
  have g7 : ∀ s, s < 7 → σ.1 (4 + 12 * l) (11 + s) = σ.1 229 (123 * l + s) := by
    intro s hs
    have y := g s (by omega) (by unfold LV; omega)
    rw [(k7 s hs).1, (k7 s hs).2] at y
    exact y
  have v0 : cv σ 1 0 l 0 = ti (σ.1 229 (123 * l + 0)) := by
    rw [← g7 0 (by omega)]
    show ti (σ.1 (1 + 3 + 12 * l + (cK 0 - 172)) (cJ 0)) = _
    rw [(k7 0 (by omega)).1, (k7 0 (by omega)).2, show 1 + 3 + 12 * l + (172 - 172) = 4 + 12 * l by omega]
  have v1 : cv σ 1 0 l 1 = ti (σ.1 229 (123 * l + 1)) := by
    rw [← g7 1 (by omega)]
    show ti (σ.1 (1 + 3 + 12 * l + (cK 1 - 172)) (cJ 1)) = _
    rw [(k7 1 (by omega)).1, (k7 1 (by omega)).2, show 1 + 3 + 12 * l + (172 - 172) = 4 + 12 * l by omega]
  rw [v0, v1] at g
  refine ⟨g7, fun p c hp hc5 hv => ?_, fun r c hr hc6 hv => ?_⟩
  · have k := cK_a p c hc5 hp
    have y := g (7 + 5 * p + c) (by omega) (by
      unfold LV
      have e1 : (7 + 5 * p + c - 7) % 5 = c := by omega
      have e2 : (7 + 5 * p + c - 7) / 5 = p := by omega
      rw [e1, e2]
      have hv' : 3 ≤ c ∨ (p : Int) < ti (σ.1 229 (123 * l + 0)) := hv
      omega)
    rw [k.1, k.2, show 4 + 12 * l + (173 + c - 172) = 4 + 12 * l + 1 + c by omega] at y
    exact y
  · have k := cK_b r c hc6 hr
    have y := g (87 + 6 * r + c) (by omega) (by
      unfold LV
      have e2 : (87 + 6 * r + c - 87) / 6 = r := by omega
      rw [e2]
      have hv' : (r : Int) < ti (σ.1 229 (123 * l + 1)) := hv
      omega)
    rw [k.1, k.2, show 4 + 12 * l + (178 + c - 172) = 4 + 12 * l + 6 + c by omega] at y
    exact y
/-! how the reference reads a told LINE -/
theorem f_of {σ : zSto} {l s : Nat} (h23 : ti (σ.1 223 23) = (l : Int)) (hl : l < 2) (a1 : Int32) (h : ti a1 = (s : Int)) (hs : s < 123) {P : Int32 → zSto → Prop} (hP : P (σ.1 229 (123 * l + s)) σ) : w_X10_of a1 σ P := by
  have m := tmull (x := (123 : Int32)) (y := σ.1 223 23) 123 lit_123 (by omega)
  have t := tadd (x := (123 : Int32) * σ.1 223 23) (y := a1) (by omega)
  have n := tn_eq ((123 : Int32) * σ.1 223 23 + a1)
  refine ⟨vin (by omega), ?_⟩
  rw [show ((123 : Int32) * σ.1 223 23 + a1).toNatClampNeg = 123 * l + s by omega]
  exact hP
theorem f_postOf {σ : zSto} {l p c : Nat} (h23 : ti (σ.1 223 23) = (l : Int)) (hl : l < 2) (a1 a2 : Int32) (h1 : ti a1 = (p : Int)) (hp : p < 16) (h2 : ti a2 = (c : Int)) (hc : c < 5) {P : Int32 → zSto → Prop} (hP : P (σ.1 229 (123 * l + (7 + 5 * p + c))) σ) : w_X10_postOf a1 a2 σ P := by
  have l7 := lit_7
  have m := tmull (x := (5 : Int32)) (y := a1) 5 lit_5 (by omega)
  have t := tadd (x := (7 : Int32)) (y := (5 : Int32) * a1) (by omega)
  have t2 := tadd (x := (7 : Int32) + (5 : Int32) * a1) (y := a2) (by omega)
  exact f_of (s := 7 + 5 * p + c) h23 hl _ (by omega) (by omega) hP
theorem f_riderOf {σ : zSto} {l r c : Nat} (h23 : ti (σ.1 223 23) = (l : Int)) (hl : l < 2) (a1 a2 : Int32) (h1 : ti a1 = (r : Int)) (hr : r < 6) (h2 : ti a2 = (c : Int)) (hc : c < 6) {P : Int32 → zSto → Prop} (hP : P (σ.1 229 (123 * l + (87 + 6 * r + c))) σ) : w_X10_riderOf a1 a2 σ P := by
  have l87 := lit_87
  have m := tmull (x := (6 : Int32)) (y := a1) 6 lit_6 (by omega)
  have t := tadd (x := (87 : Int32)) (y := (6 : Int32) * a1) (by omega)
  have t2 := tadd (x := (87 : Int32) + (6 : Int32) * a1) (y := a2) (by omega)
  exact f_of (s := 87 + 6 * r + c) h23 hl _ (by omega) (by omega) hP
theorem f_greater (a1 a2 : Int32) {σ : zSto} {P : Int32 → zSto → Prop} (hP : P (if a1 < a2 then a2 else a1) σ) : w_X10_greater a1 a2 σ P := by
  refine ⟨fun q => ?_, fun q => ?_⟩
  · have c := le_t q
    by_cases d : a1 < a2
    · rw [if_pos d] at hP; exact hP
    · rw [if_neg d] at hP
      have e := nlt_t d
      have e2 : a1 = a2 := t_inj (by omega)
      rw [← e2]; exact hP
  · have c := nle_t q
    rw [if_neg (fun d => by have := lt_t d; omega)] at hP
    exact hP
theorem f_poundsIn {σ : zSto} {G : Nat → Int32} {l p : Nat} (h23 : ti (σ.1 223 23) = (l : Int)) (hl : l < 2) (hG : ∀ s, s < 123 → σ.1 229 (123 * l + s) = G s) (a1 a2 : Int32) (h1 : ti a1 = (p : Int)) (hp : p < 16) {P : Int32 → zSto → Prop} (hP : P (pdI G p a2) σ) : w_X10_poundsIn a1 a2 σ P := by
  refine f_postOf (p := p) (c := 2) h23 hl _ _ h1 hp lit_2 (by omega) ?_
  refine f_of (s := 3) h23 hl _ lit_3 (by omega) ?_
  rw [hG _ (by omega), hG _ (by omega)]
  refine f_greater _ _ ?_
  exact hP
def HQ (wk : Int32) (G : Nat → Int32) (σ0 σ : zSto) (i : Nat) : Prop := (∀ k j, k ≠ 236 → k ≠ 237 → k ≠ 238 → σ.1 k j = σ0.1 k j) ∧ (∀ p, p < i → σ.1 236 p = G (7 + 5 * p) ∧ σ.1 238 p = pdI G p wk ∧ σ.1 237 p = csI G p)
set_option maxHeartbeats 4000000 in
theorem f_hand_56 {l N : Nat} (hl : l < 2) {σ0 : zSto} {G : Nat → Int32} (h23 : ti (σ0.1 223 23) = (l : Int)) (h24 : ti (σ0.1 223 24) = (N : Int)) (hN : N ≤ 16) (hG : ∀ s, s < 123 → σ0.1 229 (123 * l + s) = G s) (x_2 : Int32) {P : Int32 → zSto → Prop} (hP : ∀ σ2, HQ x_2 G σ0 σ2 N → P 1 σ2) : ∀ (n i : Nat) (x_3 : Int32) (σ : zSto), ti x_3 = (i : Int) → i ≤ N → HQ x_2 G σ0 σ i → N - i < n → w_X10_hand_56 x_2 P n x_3 σ := by
  have l0 := lit_0
  have l1 := lit_1
  have l3 := lit_3
  intro n
  induction n with
  | zero => intro i x_3 σ _ _ _ h; omega
  | succ n ih =>
    intro i x_3 σ hi hiN hq hn
    obtain ⟨fr, fl⟩ := hq
    unfold w_X10_hand_56
    rw [fr 223 24 (by omega) (by omega) (by omega)]
    refine ⟨fun q => ?_, fun q => ?_⟩
    · have c := le_t q
      have e : i = N := by omega
      subst e
      exact hP σ ⟨fr, fl⟩
    · have c := nle_t q
      have i16 : i < 16 := by omega
      have tn := tn_eq x_3
      have en : x_3.toNatClampNeg = i := by omega
      have u23 : ti (σ.1 223 23) = (l : Int) := by rw [fr 223 23 (by omega) (by omega) (by omega)]; exact h23
      have uG : ∀ s, s < 123 → σ.1 229 (123 * l + s) = G s := fun s hs => by rw [fr 229 _ (by omega) (by omega) (by omega)]; exact hG s hs
      refine f_postOf (p := i) (c := 0) u23 hl _ _ hi i16 l0 (by omega) ?_
      refine ⟨vin (by omega), fun σ16 e16 => ?_⟩
      rw [en, uG _ (by omega)] at e16
      have w23 : ti (σ16.1 223 23) = (l : Int) := by rw [zI_q' e16 (by omega)]; exact u23
      have wG : ∀ s, s < 123 → σ16.1 229 (123 * l + s) = G s := fun s hs => by rw [zI_q' e16 (by omega)]; exact uG s hs
      refine f_poundsIn (p := i) w23 hl wG _ _ hi i16 ?_
      refine ⟨vin (by omega), fun σ20 e20 => ?_⟩
      rw [en] at e20
      have x23 : ti (σ20.1 223 23) = (l : Int) := by rw [zI_q' e20 (by omega)]; exact w23
      have xG : ∀ s, s < 123 → σ20.1 229 (123 * l + s) = G s := fun s hs => by rw [zI_q' e20 (by omega)]; exact wG s hs
      refine f_of (s := 2) x23 hl _ lit_2 (by omega) ?_
      refine f_postOf (p := i) (c := 1) x23 hl _ _ hi i16 l1 (by omega) ?_
      refine f_postOf (p := i) (c := 1) x23 hl _ _ hi i16 l1 (by omega) ?_
      rw [xG _ (by omega), xG _ (by omega)]
      have fin : ∀ (v : Int32) (σ28 : zSto) (x29 : Int32), σ28 = zI σ20 237 x_3.toNatClampNeg v → v = csI G i → x29 = x_3 + (1 : Int32) → w_X10_hand_56 x_2 P n x29 σ28 := by
        intro v σ28 x29 e28 hv e29
        rw [en] at e28
        have t1 := tadd (x := x_3) (y := (1 : Int32)) (by omega)
        have t2 := eq_t e29
        refine ih (i + 1) x29 σ28 (by omega) (by omega) ⟨fun k j y1 y2 y3 => ?_, fun p hp => ?_⟩ (by omega)
        · rw [zI_q' e28 (by omega), zI_q' e20 (by omega), zI_q' e16 (by omega)]
          exact fr k j y1 y2 y3
        · by_cases cp : p = i
          · subst cp
            refine ⟨?_, ?_, ?_⟩
            · rw [zI_q' e28 (by omega), zI_q' e20 (by omega), e16, zI_s]; rfl
            · rw [zI_q' e28 (by omega), e20, zI_s]
            · rw [e28, zI_s, hv]
          · rw [zI_q' e28 (by omega), zI_q' e28 (by omega), zI_q' e28 (by omega), zI_q' e20 (by omega), zI_q' e20 (by omega), zI_q' e20 (by omega), zI_q' e16 (by omega), zI_q' e16 (by omega), zI_q' e16 (by omega)]
            exact fl p (by omega)
      refine ⟨fun q3 => ⟨vin (by omega), fun σ28 e28 x29 e29 => fin _ σ28 x29 e28 ?_ e29⟩, fun q3 => ⟨fun q0 => ⟨vin (by omega), fun σ28 e28 x29 e29 => fin _ σ28 x29 e28 ?_ e29⟩, fun q0 => ?_⟩⟩
      · unfold csI
        rw [if_neg (fun z => q3 z.1), Int32.add_zero]
      · have := le_t q0
        unfold csI
        rw [if_neg (by omega), Int32.add_zero]
      · have c0 := nle_t q0
        have ts := tsub (x := x_3) (y := (1 : Int32)) (by omega)
        refine f_postOf (p := i - 1) (c := 0) x23 hl _ _ (by omega) (by omega) l0 (by omega) ?_
        rw [xG _ (by omega)]
        refine ⟨vin (by omega), fun σ28 e28 x29 e29 => fin _ σ28 x29 e28 ?_ e29⟩
        unfold csI
        rw [if_pos ⟨q3, by omega⟩]
        rfl
def HD (l N : Nat) (wk : Int32) (G : Nat → Int32) (σ σ2 : zSto) : Prop := (∀ k j, k ≠ 223 → k ≠ 236 → k ≠ 237 → k ≠ 238 → σ2.1 k j = σ.1 k j) ∧ (∀ j, j ≠ 23 → j ≠ 24 → j ≠ 25 → j ≠ 26 → σ2.1 223 j = σ.1 223 j) ∧ ti (σ2.1 223 23) = (l : Int) ∧ ti (σ2.1 223 24) = (N : Int) ∧ ti (σ2.1 223 25) = (N : Int) - 1 ∧ σ2.1 223 26 = G 1 ∧ (∀ p, p < N → σ2.1 236 p = G (7 + 5 * p) ∧ σ2.1 238 p = pdI G p wk ∧ σ2.1 237 p = csI G p)
theorem rg_229 {σ : zSto} (I : zInv zA0 zF0 3 σ) {l : Nat} : 0 ≤ ti (σ.1 229 (123 * l)) ∧ ti (σ.1 229 (123 * l)) ≤ 16 ∧ 0 ≤ ti (σ.1 229 (123 * l + 1)) ∧ ti (σ.1 229 (123 * l + 1)) ≤ 6 := by
  have y0 : lo14 ((123 * l) % 123) ≤ ti (σ.1 229 (123 * l)) ∧ ti (σ.1 229 (123 * l)) ≤ hi14 ((123 * l) % 123) := by
    have y := I.1 229 (123 * l)
    rw [kd_229] at y
    exact y
  have y1 : lo14 ((123 * l + 1) % 123) ≤ ti (σ.1 229 (123 * l + 1)) ∧ ti (σ.1 229 (123 * l + 1)) ≤ hi14 ((123 * l + 1) % 123) := by
    have y := I.1 229 (123 * l + 1)
    rw [kd_229] at y
    exact y
  rw [show (123 * l) % 123 = 0 by omega] at y0
  rw [show (123 * l + 1) % 123 = 1 by omega] at y1
  have a0 : lo14 0 = 0 := rfl
  have b0 : hi14 0 = 16 := rfl
  have a1 : lo14 1 = 0 := rfl
  have b1 : hi14 1 = 6 := rfl
  omega
set_option maxHeartbeats 4000000 in
theorem f_X10_hand (a1 a2 : Int32) {σ : zSto} (I : zInv zA0 zF0 3 σ) {P : Int32 → zSto → Prop} (h0 : ¬ (0 ≤ ti a1 ∧ ti a1 < ti (σ.1 228 0) ∧ 0 ≤ ti a2 ∧ ti a2 ≤ 9) → P 0 σ) (hP : ∀ l N : Nat, ti a1 = (l : Int) → l < 2 → (l : Int) < ti (σ.1 228 0) → (0 ≤ ti a2 ∧ ti a2 ≤ 9) → ti (σ.1 229 (123 * l)) = (N : Int) → 1 ≤ N → N ≤ 16 → ∀ σ2, HD l N a2 (fun s => σ.1 229 (123 * l + s)) σ σ2 → P 1 σ2) : w_X10_hand a1 a2 σ P := by
  have l0 := lit_0
  have l1 := lit_1
  have l9 := lit_9
  have dm : 0 ≤ ti (σ.1 228 0) ∧ ti (σ.1 228 0) ≤ 2 := rdg I.1 kd_228 rfl rfl
  unfold w_X10_hand
  refine f_X10_is (0 : Int32) a1 (o := 0) lit_0 (by omega) dm (fun r2 z2 => ?_)
  intro b2
  refine ⟨fun q => h0 (fun h => z2.mpr ⟨h.1, h.2.1⟩ q), fun q2 => ?_⟩
  have h2 := z2.mp q2
  refine b_X10_in a2 (0 : Int32) (9 : Int32) (fun r4 z4 => ?_)
  intro b4
  refine ⟨fun q4 => ?_, fun q => h0 (fun h => z4.mpr ⟨by omega, by omega⟩ q)⟩
  have h4 := z4.mp q4
  obtain ⟨l, hl⟩ : ∃ l : Nat, ti a1 = (l : Int) := ⟨(ti a1).toNat, by omega⟩
  have hl2 : l < 2 := by omega
  have r29 := rg_229 I (l := l)
  obtain ⟨N, hN⟩ : ∃ N : Nat, ti (σ.1 229 (123 * l)) = (N : Int) := ⟨(ti (σ.1 229 (123 * l))).toNat, by omega⟩
  have hN1 : 1 ≤ N := by
    have y := I.2.2.2.2.2.1 0 l (by omega) hl2 (by rw [show 3 * 0 = 0 by omega]; omega)
    rw [show 123 * (2 * 0 + l) = 123 * l by omega] at y
    omega
  intro σ5 e5
  have v5 : ti (σ5.1 223 23) = (l : Int) := by rw [e5, zI_s]; exact hl
  refine f_of (s := 0) v5 hl2 _ l0 (by omega) ?_
  intro σ8 e8 σ9 e9
  have v8 : ti (σ9.1 223 23) = (l : Int) := by rw [zI_q' e9 (by omega), zI_q' e8 (by omega)]; exact v5
  refine f_of (s := 1) v8 hl2 _ l1 (by omega) ?_
  intro σ12 e12
  have fr : ∀ k j, ¬ (k = 223 ∧ (j = 23 ∨ j = 24 ∨ j = 25 ∨ j = 26)) → σ12.1 k j = σ.1 k j := fun k j h => by rw [zI_q' e12 (by omega), zI_q' e9 (by omega), zI_q' e8 (by omega), zI_q' e5 (by omega)]
  have n24 : ti (σ8.1 223 24) = (N : Int) := by rw [e8, zI_s, zI_q' e5 (by omega)]; exact hN
  have w23 : ti (σ12.1 223 23) = (l : Int) := by rw [zI_q' e12 (by omega)]; exact v8
  have w24 : ti (σ12.1 223 24) = (N : Int) := by rw [zI_q' e12 (by omega), zI_q' e9 (by omega)]; exact n24
  have w25 : ti (σ12.1 223 25) = (N : Int) - 1 := by
    rw [zI_q' e12 (by omega), e9, zI_s, tsub (by omega)]
    omega
  have w26 : σ12.1 223 26 = σ.1 229 (123 * l + 1) := by
    rw [e12, zI_s, zI_q' e9 (by omega), zI_q' e8 (by omega), zI_q' e5 (by omega)]
  refine ⟨100, f_hand_56 (l := l) (N := N) (σ0 := σ12) (G := fun s => σ.1 229 (123 * l + s)) hl2 w23 w24 (by omega) (fun s hs => fr 229 _ (by omega)) a2 (fun σ2 hq => ?_) 100 0 (0 : Int32) σ12 l0 (by omega) ⟨fun _ _ _ _ _ => rfl, fun p hp => absurd hp (Nat.not_lt_zero p)⟩ (by omega)⟩
  obtain ⟨f1, f2⟩ := hq
  refine hP l N hl hl2 (by omega) (by omega) hN hN1 (by omega) σ2 ⟨fun k j y1 y2 y3 y4 => by rw [f1 k j y2 y3 y4, fr k j (by omega)], fun j y1 y2 y3 y4 => by rw [f1 223 j (by omega) (by omega) (by omega), fr 223 j (by omega)], ?_, ?_, ?_, ?_, f2⟩
  · rw [f1 223 23 (by omega) (by omega) (by omega)]; exact w23
  · rw [f1 223 24 (by omega) (by omega) (by omega)]; exact w24
  · rw [f1 223 25 (by omega) (by omega) (by omega)]; exact w25
  · rw [f1 223 26 (by omega) (by omega) (by omega)]; exact w26
