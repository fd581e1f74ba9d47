/-! line, post, rider on both sides -/
theorem f_X8_has (o : Nat) (ho : o < 3) (a1 a2 : Int32) (h1 : ti a1 = (o : Int)) {σ : zSto} (d : 0 ≤ ti (σ.1 42 o) ∧ ti (σ.1 42 o) ≤ 2) {P : Int32 → zSto → Prop} (hP : ∀ r, (¬ r = 0 ↔ (0 ≤ ti a2 ∧ ti a2 < ti (σ.1 42 o))) → P r σ) : w_X8_has 1 a1 a2 σ P := by
  have l0 := lit_0
  have l2 := lit_2
  have tn := tn_eq a1
  unfold w_X8_has
  rw [show a1.toNatClampNeg = o by omega]
  have e : σ.1 (1 + 41) o = σ.1 42 o := rfl
  rw [e]
  refine ⟨fun q => hP _ ⟨fun c => absurd rfl c, fun z => ?_⟩, fun q => ⟨vin (by omega), fun q2 => hP _ ⟨fun c => absurd rfl c, fun z => ?_⟩, fun q2 => ⟨fun q3 => hP _ ⟨fun c => absurd rfl c, fun z => ?_⟩, fun q3 => hP _ ⟨fun _ => ?_, fun _ => by decide⟩⟩⟩⟩
  · have := lt_t q; omega
  · have := le_t q2; omega
  · have := le_t q3; omega
  · have := nlt_t q
    have := nle_t q2
    exact ⟨by omega, by omega⟩
theorem f_X8_lineAt (a1 : Int32) {σ : zSto} (I : zInv zA0 zF0 3 σ) {P : Option Nat → zSto → Prop} (h0 : ¬ (0 ≤ ti a1 ∧ ti a1 < ti (σ.1 42 0)) → P none σ) (hP : ∀ l : Nat, ti a1 = (l : Int) → l < 2 → (l : Int) < ti (σ.1 42 0) → P (some (4 + 12 * l)) σ) : w_X8_lineAt 1 a1 σ P := by
  have d : 0 ≤ ti (σ.1 42 0) ∧ ti (σ.1 42 0) ≤ 2 := rdg I.1 kd_42 rfl rfl
  unfold w_X8_lineAt
  refine f_X8_has 0 (by omega) (0 : Int32) a1 lit_0 d (fun r z => ?_)
  intro b
  refine ⟨fun q => h0 (fun h => z.mpr h q), fun q => ⟨vin (by have := z.mp q; omega), fun j4 e4 => ?_⟩⟩
  have y := z.mp q
  rcases (show ti a1 = 0 ∨ ti a1 = 1 by omega) with w | w
  · have e : j4 = 4 + 12 * 0 := by rw [e4, zel_of w]; rfl
    rw [e]
    exact ⟨isT_L (isN_T (Or.inl rfl)), hP 0 (by omega) (by omega) (by omega)⟩
  · have e : j4 = 4 + 12 * 1 := by rw [e4, zel_of w]; rfl
    rw [e]
    exact ⟨isT_L (isN_T (Or.inr rfl)), hP 1 (by omega) (by omega) (by omega)⟩
theorem f_X0_hasPost (t : Nat) (a1 : Int32) {σ : zSto} {P : Int32 → zSto → Prop} (hP : ∀ r, (¬ r = 0 ↔ (0 ≤ ti a1 ∧ ti a1 < ti (σ.1 t 11))) → P r σ) : w_X0_hasPost t a1 σ P := by
  have l0 := lit_0
  refine ⟨fun q => hP _ ⟨fun c => absurd rfl c, fun z => ?_⟩, fun q => ⟨fun q2 => hP _ ⟨fun c => absurd rfl c, fun z => ?_⟩, fun q2 => hP _ ⟨fun _ => ?_, fun _ => by decide⟩⟩⟩
  · have := lt_t q; omega
  · have := le_t q2; omega
  · have := nlt_t q
    have := nle_t q2
    exact ⟨by omega, by omega⟩
theorem f_X0_hasRider (t : Nat) (a1 : Int32) {σ : zSto} {P : Int32 → zSto → Prop} (hP : ∀ r, (¬ r = 0 ↔ (0 ≤ ti a1 ∧ ti a1 < ti (σ.1 t 12))) → P r σ) : w_X0_hasRider t a1 σ P := by
  have l0 := lit_0
  refine ⟨fun q => hP _ ⟨fun c => absurd rfl c, fun z => ?_⟩, fun q => ⟨fun q2 => hP _ ⟨fun c => absurd rfl c, fun z => ?_⟩, fun q2 => hP _ ⟨fun _ => ?_, fun _ => by decide⟩⟩⟩
  · have := lt_t q; omega
  · have := le_t q2; omega
  · have := nlt_t q
    have := nle_t q2
    exact ⟨by omega, by omega⟩
theorem f_X0_cost {t : Nat} {G : Nat → Int32} {σ : zSto} (h : LnR t G σ) (a1 : Int32) {p : Nat} (h1 : ti a1 = (p : Int)) (hp : p < 16) (hG : (p : Int) < ti (G 0)) {P : Int32 → zSto → Prop} (hP : P (csI G p) σ) : w_X0_cost t a1 σ P := by
  have l0 := lit_0
  have l1 := lit_1
  have tn := tn_eq a1
  have e2 : σ.1 t 13 = G 2 := h.1 2 (by omega)
  have eg : σ.1 (t + 2) p = G (7 + 5 * p + 1) := h.2.1 p 1 hp (by omega) (Or.inr hG)
  unfold w_X0_cost
  rw [show a1.toNatClampNeg = p by omega, eg, e2]
  refine ⟨vin (by omega), fun x2 ex2 => ⟨vin (by omega), fun q => ?_, fun q => ⟨fun q2 => ?_, fun q2 => ?_⟩⟩⟩
  · rw [ex2]
    unfold csI at hP
    rw [if_neg (fun z => q z.1)] at hP
    exact hP
  · have := le_t q2
    rw [ex2]
    unfold csI at hP
    rw [if_neg (by omega)] at hP
    exact hP
  · have c := nle_t q2
    have ts := tsub (x := a1) (y := (1 : Int32)) (by omega)
    have n2 := tn_eq (a1 - (1 : Int32))
    have em : σ.1 (t + 1) (p - 1) = G (7 + 5 * (p - 1)) := h.2.1 (p - 1) 0 (by omega) (by omega) (Or.inr (by omega))
    refine ⟨vin (by omega), fun x5 ex5 => ?_⟩
    rw [show (a1 - (1 : Int32)).toNatClampNeg = p - 1 by omega, em] at ex5
    rw [ex5, ex2]
    unfold csI at hP
    rw [if_pos ⟨q, by omega⟩] at hP
    exact hP
theorem f_X0_poundsIn {t : Nat} {G : Nat → Int32} {σ : zSto} (h : LnR t G σ) (a1 a2 : Int32) {p : Nat} (h1 : ti a1 = (p : Int)) (hp : p < 16) (hG : (p : Int) < ti (G 0)) {P : Int32 → zSto → Prop} (hP : P (pdI G p a2) σ) : w_X0_poundsIn t a1 a2 σ P := by
  have tn := tn_eq a1
  have e2 : σ.1 t 14 = G 3 := h.1 3 (by omega)
  have eg : σ.1 (t + 3) p = G (7 + 5 * p + 2) := h.2.1 p 2 hp (by omega) (Or.inr hG)
  unfold w_X0_poundsIn
  rw [show a1.toNatClampNeg = p by omega, eg, e2]
  exact ⟨vin (by omega), hP⟩
/-- STATIONS as bits, up to a POST -/
def stI (G : Nat → Int32) : Nat → Int32
  | 0 => 0
  | i + 1 => if G (7 + 5 * i + 4) = -1 then stI G i ||| 0 else stI G i ||| ((1 : Int32) <<< (Int32.ofNat i &&& 31))
theorem nI_x {x : Int32} {i : Nat} (h : ti x = (i : Int)) (hi : i < 100) : x = Int32.ofNat i := t_inj (by rw [show ti (Int32.ofNat i) = (i : Int) from nI_t (by omega)]; exact h)
theorem f_X0_stations_4 {t N : Nat} {G : Nat → Int32} {σ : zSto} (h : LnR t G σ) (hN : ti (G 0) = (N : Int)) (hN16 : N ≤ 16) {P : Int32 → zSto → Prop} (hP : P (stI G N) σ) : ∀ (n i : Nat) (x_2 : Int32), ti x_2 = (i : Int) → i ≤ N → N - i < n → w_X0_stations_4 t P n (stI G i) x_2 σ := by
  have l1 := lit_1
  have e0 : σ.1 t 11 = G 0 := h.1 0 (by omega)
  intro n
  induction n with
  | zero => intro i x_2 _ _ h; omega
  | succ n ih =>
    intro i x_2 hi hiN hn
    unfold w_X0_stations_4
    rw [e0]
    refine ⟨fun q => ?_, fun q => ?_⟩
    · have c := le_t q
      have e : i = N := by omega
      subst e
      exact hP
    · have c := nle_t q
      have tn := tn_eq x_2
      have ep : σ.1 (t + 5) i = G (7 + 5 * i + 4) := h.2.1 i 4 (by omega) (by omega) (Or.inl (by omega))
      have t1 := tadd (x := x_2) (y := (1 : Int32)) (by omega)
      rw [show x_2.toNatClampNeg = i by omega, ep]
      refine ⟨vin (by omega), fun q2 x2 e2 x3 e3 => ?_, fun q2 x2 e2 x3 e3 => ?_⟩
      · have t3 := eq_t e3
        have es : x2 = stI G (i + 1) := by
          rw [e2, nI_x hi (by omega)]
          unfold stI
          rw [if_neg q2]
          cases i <;> rfl
        rw [es]
        exact ih (i + 1) x3 (by omega) (by omega) (by omega)
      · have t3 := eq_t e3
        have es : x2 = stI G (i + 1) := by
          rw [e2]
          show _ = if G (7 + 5 * i + 4) = -1 then stI G i ||| 0 else stI G i ||| ((1 : Int32) <<< (Int32.ofNat i &&& 31))
          rw [if_pos q2]
        rw [es]
        exact ih (i + 1) x3 (by omega) (by omega) (by omega)
theorem f_X10_line_28 {l N : Nat} (hl : l < 2) {σ : zSto} {G : Nat → Int32} (h23 : ti (σ.1 223 23) = (l : Int)) (h24 : ti (σ.1 223 24) = (N : Int)) (hN : N ≤ 16) (hG : ∀ s, s < 123 → σ.1 229 (123 * l + s) = G s) {P : Int32 → zSto → Prop} (hP : P (stI G N) σ) : ∀ (n i : Nat) (x_4 : Int32), ti x_4 = (i : Int) → i ≤ N → N - i < n → w_X10_line_28 P n (stI G i) x_4 σ := by
  have l1 := lit_1
  intro n
  induction n with
  | zero => intro i x_4 _ _ h; omega
  | succ n ih =>
    intro i x_4 hi hiN hn
    unfold w_X10_line_28
    refine ⟨fun q => ?_, fun q => ?_⟩
    · have c := le_t q
      have e : i = N := by omega
      subst e
      exact hP
    · have c := nle_t q
      have t1 := tadd (x := x_4) (y := (1 : Int32)) (by omega)
      refine f_postOf (p := i) (c := 4) h23 hl _ _ hi (by omega) lit_4 (by omega) ?_
      rw [hG _ (by omega)]
      refine ⟨fun q2 x2 e2 x3 e3 => ?_, fun q2 x2 e2 x3 e3 => ?_⟩
      · have t3 := eq_t e3
        have es : x2 = stI G (i + 1) := by
          rw [e2]
          show _ = if G (7 + 5 * i + 4) = -1 then stI G i ||| 0 else stI G i ||| ((1 : Int32) <<< (Int32.ofNat i &&& 31))
          rw [if_pos q2]
        rw [es]
        exact ih (i + 1) x3 (by omega) (by omega) (by omega)
      · have t3 := eq_t e3
        have es : x2 = stI G (i + 1) := by
          rw [e2, nI_x hi (by omega)]
          show _ = if G (7 + 5 * i + 4) = -1 then stI G i ||| 0 else stI G i ||| ((1 : Int32) <<< (Int32.ofNat i &&& 31))
          rw [if_neg q2]
        rw [es]
        exact ih (i + 1) x3 (by omega) (by omega) (by omega)
theorem ti_toInt (x : Int32) : x.toInt = ti x := (ti_eq x).symm
theorem many0 {σ : zSto} (q1 : LX 1 0 σ) {o : Nat} (ho : o < 3) : ti (σ.1 228 o) = ti (σ.1 42 o) := by
  have y := q1.2.2.2.2.1 o ho
  rw [show 3 * 0 + o = o by omega] at y
  exact y.symm
def lnA (G : Nat → Int32) (N : Nat) (a : Int) : Int32 := if a = 7 then stI G N else if 0 ≤ a ∧ a ≤ 6 then G a.toNat else -2
set_option maxHeartbeats 4000000 in
theorem al_line {σ : zSto} (H : Lz σ) (a1 a2 : Int32) : ∃ A : Int32, w_X9_line a1 a2 σ (fun r _ => r = A) ∧ w_X10_line a1 a2 σ (fun r _ => r = A) := by
  obtain ⟨I, q1, _, _⟩ := id H
  have l0 := lit_0
  have l9 := lit_9
  have l6 := lit_6
  have l7 := lit_7
  have m0 := many0 q1 (o := 0) (by omega)
  by_cases ex : 0 ≤ ti a1 ∧ ti a1 < ti (σ.1 42 0)
  · obtain ⟨l, hl⟩ : ∃ l : Nat, ti a1 = (l : Int) := ⟨(ti a1).toNat, by omega⟩
    have d : 0 ≤ ti (σ.1 42 0) ∧ ti (σ.1 42 0) ≤ 2 := rdg I.1 kd_42 rfl rfl
    have hL := LX_line q1 (l := l) (by omega) (by omega)
    have r29 := rg_229 I (l := l)
    obtain ⟨N, hN⟩ : ∃ N : Nat, ti (σ.1 229 (123 * l)) = (N : Int) := ⟨(ti (σ.1 229 (123 * l))).toNat, by omega⟩
    refine ⟨lnA (fun s => σ.1 229 (123 * l + s)) N (ti a2), ?_, ?_⟩
    · unfold w_X9_line
      refine f_X8_lineAt a1 I (fun z => absurd ex z) (fun l' hl' hl2 hc => ?_)
      have el : l' = l := by omega
      subst el
      refine ⟨fun z => (by cases z), fun j3 e3 => ?_⟩
      have e3' := Option.some.inj e3
      subst e3'
      have k : ∀ s : Nat, s < 7 → ti a2 = (s : Int) → σ.1 (4 + 12 * l') (11 + s) = lnA (fun s => σ.1 229 (123 * l' + s)) N (ti a2) := fun s hs z => by
        rw [hL.1 s hs, z]
        unfold lnA
        rw [if_neg (by omega), if_pos (by omega)]
        rfl
      refine ⟨isT_L (isN_T (by unfold isN; omega)), fun z => k 0 (by omega) (by rw [z]; exact lit_0), fun z => k 1 (by omega) (by rw [z]; exact lit_1), fun z => k 2 (by omega) (by rw [z]; exact lit_2), fun z => k 3 (by omega) (by rw [z]; exact lit_3), fun z => k 4 (by omega) (by rw [z]; exact lit_4), fun z => k 5 (by omega) (by rw [z]; exact lit_5), fun z => k 6 (by omega) (by rw [z]; exact lit_6), fun z => ?_, fun z => ?_⟩
      · have t7 : ti a2 = 7 := by rw [z]; exact lit_7
        refine ⟨100, f_X0_stations_4 hL hN (by omega) ?_ 100 0 (0 : Int32) lit_0 (by omega) (by omega)⟩
        unfold lnA
        rw [if_pos t7]
      · rw [ti_toInt] at z
        unfold lnA
        rw [if_neg (by omega), if_neg (by omega)]
    · unfold w_X10_line
      intro σ1 e1
      have I1 := (Lz_223 H e1).1
      have g1 : ∀ k j, k ≠ 223 → σ1.1 k j = σ.1 k j := fun k j hk => zI_q' e1 (Or.inl hk)
      refine f_X10_hand a1 (0 : Int32) I1 (fun z => absurd ⟨by omega, by rw [g1 228 0 (by omega)]; omega, by omega, by omega⟩ z) (fun l' N' hl' hl2 hc _ hN' hN1 hN16 σ2 hd => ?_)
      have el : l' = l := by omega
      subst el
      rw [g1 229 _ (by omega)] at hN'
      have eN : N' = N := by omega
      subst eN
      obtain ⟨d1, d2, d3, d4, d5, d6, d7⟩ := hd
      have hG : ∀ s, s < 123 → σ2.1 229 (123 * l' + s) = σ.1 229 (123 * l' + s) := fun s _ => by rw [d1 229 _ (by omega) (by omega) (by omega) (by omega), g1 229 _ (by omega)]
      intro _
      refine ⟨fun _ => ⟨fun q => ?_, fun q => ?_⟩, fun z => absurd z (by decide)⟩
      · refine b_X10_in a2 (0 : Int32) (6 : Int32) (fun r z => ?_)
        intro _
        have n7 : ti a2 ≠ 7 := fun z => q (t_inj (by omega))
        refine ⟨fun y => ?_, fun y => ?_⟩
        · unfold lnA
          rw [if_neg n7, if_neg (fun w => z.mpr (by omega) y)]
        · have w := z.mp y
          obtain ⟨s, hs⟩ : ∃ s : Nat, ti a2 = (s : Int) := ⟨(ti a2).toNat, by omega⟩
          refine f_of (s := s) d3 hl2 _ hs (by omega) ?_
          rw [hG s (by omega), hs]
          unfold lnA
          rw [if_neg (by omega), if_pos (by omega)]
          rfl
      · have t7 : ti a2 = 7 := by rw [q]; exact lit_7
        refine ⟨100, f_X10_line_28 hl2 (G := fun s => σ.1 229 (123 * l' + s)) d3 d4 hN16 hG ?_ 100 0 (0 : Int32) lit_0 (by omega) (by omega)⟩
        unfold lnA
        rw [if_pos t7]
  · refine ⟨-2, ?_, ?_⟩
    · unfold w_X9_line
      exact f_X8_lineAt a1 I (fun _ => ⟨fun _ => rfl, fun j3 e3 => (by cases e3)⟩) (fun l hl _ hc => absurd ⟨by omega, by omega⟩ ex)
    · unfold w_X10_line
      intro σ1 e1
      have I1 := (Lz_223 H e1).1
      have g1 : ∀ k j, k ≠ 223 → σ1.1 k j = σ.1 k j := fun k j hk => zI_q' e1 (Or.inl hk)
      refine f_X10_hand a1 (0 : Int32) I1 (fun _ => fun _ => ⟨fun z => absurd rfl z, fun _ => rfl⟩) (fun l N hl _ hc _ _ _ _ σ2 _ => ?_)
      rw [g1 228 0 (by omega)] at hc
      exact absurd ⟨by omega, by omega⟩ ex
theorem m_line {σ : zSto} (H : Lz σ) (a1 a2 : Int32) {P : Int32 → zSto → Prop} (hP : ∀ r σa, (∀ Q : Int32 → zSto → Prop, (∀ σ2, Lz σ2 → Q r σ2) → w_X10_line a1 a2 σa Q) → P r σa) : w_X9_line a1 a2 σ P := by
  obtain ⟨A, hc, hr⟩ := al_line H a1 a2
  exact cj_X9_line (P := fun _ σa => σa = σ) (Q := fun r _ => r = A) (fun r σa e1 e2 => by
    subst e1
    subst e2
    exact hP _ _ (fun Q hQ => cj_X10_line (P := fun _ σb => zInv AR2 σa.1 3 σb) (Q := fun r' _ => r' = r) (fun r' σb i e => by
      subst e
      exact hQ σb (Lz_R H i)) (s_X10_line (A := AR2) (F := σa.1) ar2_r a1 a2 (inv_any H.1) (fun _ _ i => i)) hr)) (s_X9_line a1 a2 (inv_any (B := AC) H.1) (fun _ => rfl)) hc
