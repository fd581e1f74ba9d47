/-! post and rider on both sides -/
theorem f_X10_isPost (a1 : Int32) {σ : zSto} {P : Int32 → zSto → Prop} (hP : ∀ r, (¬ r = 0 ↔ (0 ≤ ti a1 ∧ ti a1 ≤ ti (σ.1 223 25))) → P r σ) : w_X10_isPost a1 σ P := by
  have l0 := lit_0
  unfold w_X10_isPost
  refine b_X10_in a1 (0 : Int32) (σ.1 223 25) (fun r z => fun hb => ⟨hb, hP r ⟨fun h => ?_, fun h => z.mpr ?_⟩⟩)
  · have := z.mp h
    exact ⟨by omega, by omega⟩
  · exact ⟨by omega, by omega⟩
theorem f_X10_isRider (a1 : Int32) {σ : zSto} (d : 0 ≤ ti (σ.1 223 26) ∧ ti (σ.1 223 26) ≤ 6) {P : Int32 → zSto → Prop} (hP : ∀ r, (¬ r = 0 ↔ (0 ≤ ti a1 ∧ ti a1 < ti (σ.1 223 26))) → P r σ) : w_X10_isRider a1 σ P := by
  have l0 := lit_0
  have l1 := lit_1
  have t := tsub (x := σ.1 223 26) (y := (1 : Int32)) (by omega)
  unfold w_X10_isRider
  refine b_X10_in a1 (0 : Int32) (σ.1 223 26 - (1 : Int32)) (fun r z => fun hb => ⟨hb, hP r ⟨fun h => ?_, fun h => z.mpr ?_⟩⟩)
  · have := z.mp h
    exact ⟨by omega, by omega⟩
  · exact ⟨by omega, by omega⟩
noncomputable def poA (G : Nat → Int32) (N p : Nat) (a3 : Int32) : Int32 := if 10 ≤ ti a3 ∧ ti a3 ≤ 19 then pdI G p (a3 - (10 : Int32)) else if 0 ≤ ti a3 ∧ ti a3 ≤ 4 then G (7 + 5 * p + (ti a3).toNat) else if ti a3 = 5 then (if p + 1 = N then -1 else csI G p) else -2
set_option maxHeartbeats 4000000 in
theorem al_post {σ : zSto} (H : Lz σ) (a1 a2 a3 : Int32) : ∃ A : Int32, w_X9_post a1 a2 a3 σ (fun r _ => r = A) ∧ w_X10_post a1 a2 a3 σ (fun r _ => r = A) := by
  obtain ⟨I, q1, _, _⟩ := id H
  have l0 := lit_0
  have l1 := lit_1
  have l4 := lit_4
  have l5 := lit_5
  have l10 := lit_10
  have l19 := lit_19
  have l20 := lit_20
  have m0 := many0 q1 (o := 0) (by omega)
  have d : 0 ≤ ti (σ.1 42 0) ∧ ti (σ.1 42 0) ≤ 2 := rdg I.1 kd_42 rfl rfl
  -- there is no such thing
  have none1 : ¬ (0 ≤ ti a1 ∧ ti a1 < ti (σ.1 42 0)) → ∃ A : Int32, w_X9_post a1 a2 a3 σ (fun r _ => r = A) ∧ w_X10_post a1 a2 a3 σ (fun r _ => r = A) := by
    intro ex
    refine ⟨-2, ?_, ?_⟩
    · unfold w_X9_post
      exact f_X8_lineAt a1 I (fun _ => ⟨fun _ => rfl, fun j3 e3 => (by cases e3)⟩) (fun l hl _ hc => absurd ⟨by omega, by omega⟩ ex)
    · unfold w_X10_post
      intro σ1 e1
      have I1 := (Lz_223 H e1).1
      have g1 : ∀ k j, k ≠ 223 → σ1.1 k j = σ.1 k j := fun k j hk => zI_q' e1 (Or.inl hk)
      refine f_X10_hand a1 (0 : Int32) I1 (fun _ => fun _ => ⟨fun _ => rfl, fun z => absurd rfl z⟩) (fun l N hl _ hc _ _ _ _ σ2 _ => ?_)
      rw [g1 228 0 (by omega)] at hc
      exact absurd ⟨by omega, by omega⟩ ex
  by_cases ex : 0 ≤ ti a1 ∧ ti a1 < ti (σ.1 42 0)
  · obtain ⟨l, hl⟩ : ∃ l : Nat, ti a1 = (l : Int) := ⟨(ti a1).toNat, by omega⟩
    have hL := LX_line q1 (l := l) (by omega) (by omega)
    have r29 := rg_229 I (l := l)
    obtain ⟨N, hN⟩ : ∃ N : Nat, ti (σ.1 229 (123 * l)) = (N : Int) := ⟨(ti (σ.1 229 (123 * l))).toNat, by omega⟩
    have e11 : ti (σ.1 (4 + 12 * l) 11) = (N : Int) := by rw [show σ.1 (4 + 12 * l) 11 = σ.1 229 (123 * l + 0) from hL.1 0 (by omega)]; exact hN
    obtain ⟨G, hGd⟩ : ∃ G : Nat → Int32, G = fun s => σ.1 229 (123 * l + s) := ⟨_, rfl⟩
    have hG0 : ti (G 0) = (N : Int) := by rw [hGd]; exact hN
    rw [← hGd] at hL
    by_cases exp : 0 ≤ ti a2 ∧ ti a2 < (N : Int)
    · obtain ⟨p, hp⟩ : ∃ p : Nat, ti a2 = (p : Int) := ⟨(ti a2).toNat, by omega⟩
      have tn := tn_eq a2
      refine ⟨poA G N p a3, ?_, ?_⟩
      · unfold w_X9_post
        refine f_X8_lineAt a1 I (fun z => absurd ex z) (fun l' hl' hl2 hc => ?_)
        have el : l' = l := by omega
        subst el
        refine ⟨fun z => (by cases z), fun j3 e3 => ?_⟩
        have e3' := Option.some.inj e3
        subst e3'
        refine ⟨isT_L (isN_T (by unfold isN; omega)), f_X0_hasPost _ a2 (fun r5 z5 => ?_)⟩
        intro _
        refine ⟨fun q5 => ?_, fun q5 => absurd q5 (z5.mpr (by omega))⟩
        have ts := tsub (x := σ.1 (4 + 12 * l') 11) (y := (1 : Int32)) (by omega)
        have k : ∀ c : Nat, c < 5 → ti a3 = (c : Int) → σ.1 (4 + 12 * l' + 1 + c) p = poA G N p a3 := fun c hc5 z => by
          rw [hL.2.1 p c (by omega) hc5 (Or.inr (by omega))]
          unfold poA
          rw [if_neg (by omega), if_pos (by omega), z]
          rfl
        have sw : ((a3 = 0 → (vp_in a2 16 ∧ σ.1 (4 + 12 * l' + 1) a2.toNatClampNeg = poA G N p a3)) ∧ (a3 = 1 → (vp_in a2 16 ∧ σ.1 (4 + 12 * l' + 2) a2.toNatClampNeg = poA G N p a3)) ∧ (a3 = 2 → (vp_in a2 16 ∧ σ.1 (4 + 12 * l' + 3) a2.toNatClampNeg = poA G N p a3)) ∧ (a3 = 3 → (vp_in a2 16 ∧ σ.1 (4 + 12 * l' + 4) a2.toNatClampNeg = poA G N p a3)) ∧ (a3 = 4 → (vp_in a2 16 ∧ σ.1 (4 + 12 * l' + 5) a2.toNatClampNeg = poA G N p a3)) ∧ (a3 = 5 → ((¬ a2 = (σ.1 (4 + 12 * l') 11 - (1 : Int32)) → (w_X0_cost (4 + 12 * l') a2 σ (fun (r12 : Int32) (_ : zSto) => r12 = poA G N p a3))) ∧ (a2 = (σ.1 (4 + 12 * l') 11 - (1 : Int32)) → (-1 : Int32) = poA G N p a3))) ∧ ((a3.toInt < 0 ∨ 5 < a3.toInt) → (¬ (10 ≤ ti a3 ∧ ti a3 ≤ 19)) → (-2 : Int32) = poA G N p a3)) := by
          rw [show a2.toNatClampNeg = p by omega]
          refine ⟨fun z => ⟨vin (by omega), k 0 (by omega) (by rw [z]; exact lit_0)⟩, fun z => ⟨vin (by omega), k 1 (by omega) (by rw [z]; exact lit_1)⟩, fun z => ⟨vin (by omega), k 2 (by omega) (by rw [z]; exact lit_2)⟩, fun z => ⟨vin (by omega), k 3 (by omega) (by rw [z]; exact lit_3)⟩, fun z => ⟨vin (by omega), k 4 (by omega) (by rw [z]; exact lit_4)⟩, fun z => ⟨fun y => ?_, fun y => ?_⟩, fun z y => ?_⟩
          · have t5 : ti a3 = 5 := by rw [z]; exact lit_5
            have y2 := ne_t y
            refine f_X0_cost hL a2 hp (by omega) (by omega) ?_
            unfold poA
            rw [if_neg (by omega), if_neg (by omega), if_pos t5, if_neg (by omega)]
          · have t5 : ti a3 = 5 := by rw [z]; exact lit_5
            have y2 := eq_t y
            unfold poA
            rw [if_neg (by omega), if_neg (by omega), if_pos t5, if_pos (by omega)]
          · rw [ti_toInt] at z
            unfold poA
            rw [if_neg y, if_neg (by omega), if_neg (by omega)]
        obtain ⟨s0, s1, s2, s3, s4, s5, s6⟩ := sw
        refine ⟨fun c => ?_, fun c => ⟨fun c2 => ?_, fun c2 => ?_⟩⟩
        · have := lt_t c
          exact ⟨s0, s1, s2, s3, s4, s5, fun z => s6 z (by omega)⟩
        · have := le_t c2
          exact ⟨s0, s1, s2, s3, s4, s5, fun z => s6 z (by omega)⟩
        · have c3 := nlt_t c
          have c4 := nle_t c2
          refine f_X0_poundsIn hL a2 _ hp (by omega) (by omega) ?_
          unfold poA
          rw [if_pos (by omega)]
      · unfold w_X10_post
        intro σ1 e1
        have I1 := (Lz_223 H e1).1
        have g1 : ∀ k j, k ≠ 223 → σ1.1 k j = σ.1 k j := fun k j hk => zI_q' e1 (Or.inl hk)
        refine f_X10_hand a1 (0 : Int32) I1 (fun z => absurd ⟨by omega, by rw [g1 228 0 (by omega)]; omega, by omega, by omega⟩ z) (fun l' N' hl' hl2 hc _ hN' hN1 hN16 σ2 hd => ?_)
        have el : l' = l := by omega
        subst el
        rw [g1 229 _ (by omega)] at hN'
        have eN : N' = N := by omega
        subst eN
        obtain ⟨d1, d2, d3, d4, d5, d6, d7⟩ := hd
        have hG : ∀ s, s < 123 → σ2.1 229 (123 * l' + s) = G s := fun s _ => by rw [d1 229 _ (by omega) (by omega) (by omega) (by omega), g1 229 _ (by omega), hGd]
        have hcs : σ2.1 237 p = csI G p := by
          have y := (d7 p (by omega)).2.2
          rw [show (fun s => σ1.1 229 (123 * l' + s)) = G by rw [hGd]; funext s; exact g1 229 _ (by omega)] at y
          exact y
        intro _
        refine ⟨fun z => absurd z (by decide), fun _ => f_X10_isPost a2 (fun r5 z5 => fun _ => ⟨fun q5 => ?_, fun q5 => absurd q5 (z5.mpr (by omega))⟩)⟩
        refine b_X10_in a3 (0 : Int32) (4 : Int32) (fun r7 z7 => fun _ => ⟨fun q7 => ⟨fun q8 => ?_, fun q8 => ?_⟩, fun q7 => ?_⟩)
        · have n8 := ne_t q8
          refine b_X10_in a3 (10 : Int32) (19 : Int32) (fun r9 z9 => fun _ => ⟨fun q9 => ?_, fun q9 => ?_⟩)
          · unfold poA
            rw [if_neg (fun w => z9.mpr (by omega) q9), if_neg (fun w => z7.mpr (by omega) q7), if_neg (by omega)]
          · have w := z9.mp q9
            refine f_poundsIn (p := p) d3 hl2 hG _ _ hp (by omega) ?_
            unfold poA
            rw [if_pos (by omega)]
        · have t5 : ti a3 = 5 := by rw [q8]; exact lit_5
          rw [show a2.toNatClampNeg = p by omega]
          refine ⟨fun y => ⟨vin (by omega), ?_⟩, fun y => ?_⟩
          · have y2 := ne_t y
            rw [hcs]
            unfold poA
            rw [if_neg (by omega), if_neg (by omega), if_pos t5, if_neg (by omega)]
          · have y2 := eq_t y
            unfold poA
            rw [if_neg (by omega), if_neg (by omega), if_pos t5, if_pos (by omega)]
        · have w := z7.mp q7
          obtain ⟨c, hc5⟩ : ∃ c : Nat, ti a3 = (c : Int) := ⟨(ti a3).toNat, by omega⟩
          refine f_postOf (p := p) (c := c) d3 hl2 _ _ hp (by omega) hc5 (by omega) ?_
          rw [hG _ (by omega)]
          unfold poA
          rw [if_neg (by omega), if_pos (by omega), hc5]
          rfl
    · refine ⟨-2, ?_, ?_⟩
      · unfold w_X9_post
        refine f_X8_lineAt a1 I (fun z => absurd ex z) (fun l' hl' hl2 hc => ?_)
        have el : l' = l := by omega
        subst el
        refine ⟨fun z => (by cases z), fun j3 e3 => ?_⟩
        have e3' := Option.some.inj e3
        subst e3'
        refine ⟨isT_L (isN_T (by unfold isN; omega)), f_X0_hasPost _ a2 (fun r5 z5 => fun _ => ⟨fun q5 => absurd (z5.mp q5) (by omega), fun _ => rfl⟩)⟩
      · unfold w_X10_post
        intro σ1 e1
        have I1 := (Lz_223 H e1).1
        have g1 : ∀ k j, k ≠ 223 → σ1.1 k j = σ.1 k j := fun k j hk => zI_q' e1 (Or.inl hk)
        refine f_X10_hand a1 (0 : Int32) I1 (fun _ => fun _ => ⟨fun _ => rfl, fun z => absurd rfl z⟩) (fun l' N' hl' hl2 hc _ hN' hN1 hN16 σ2 hd => ?_)
        have el : l' = l := by omega
        subst el
        rw [g1 229 _ (by omega)] at hN'
        obtain ⟨d1, d2, d3, d4, d5, d6, d7⟩ := hd
        intro _
        exact ⟨fun _ => rfl, fun _ => f_X10_isPost a2 (fun r5 z5 => fun _ => ⟨fun q5 => absurd (z5.mp q5) (by omega), fun _ => rfl⟩)⟩
  · exact none1 ex
theorem m_post {σ : zSto} (H : Lz σ) (a1 a2 a3 : Int32) {P : Int32 → zSto → Prop} (hP : ∀ r σa, (∀ Q : Int32 → zSto → Prop, (∀ σ2, Lz σ2 → Q r σ2) → w_X10_post a1 a2 a3 σa Q) → P r σa) : w_X9_post a1 a2 a3 σ P := by
  obtain ⟨A, hc, hr⟩ := al_post H a1 a2 a3
  exact cj_X9_post (P := fun _ σa => σa = σ) (Q := fun r _ => r = A) (fun r σa e1 e2 => by
    subst e1
    subst e2
    exact hP _ _ (fun Q hQ => cj_X10_post (P := fun _ σb => zInv AR2 σa.1 3 σb) (Q := fun r' _ => r' = r) (fun r' σb i e => by
      subst e
      exact hQ σb (Lz_R H i)) (s_X10_post (A := AR2) (F := σa.1) ar2_r a1 a2 a3 (inv_any H.1) (fun _ _ i => i)) hr)) (s_X9_post a1 a2 a3 (inv_any (B := AC) H.1) (fun _ => rfl)) hc
def riA (G : Nat → Int32) (r : Nat) (a : Int) : Int32 := if 0 ≤ a ∧ a ≤ 5 then G (87 + 6 * r + a.toNat) else -1
set_option maxHeartbeats 4000000 in
theorem al_rider {σ : zSto} (H : Lz σ) (a1 a2 a3 : Int32) : ∃ A : Int32, w_X9_rider a1 a2 a3 σ (fun r _ => r = A) ∧ w_X10_rider a1 a2 a3 σ (fun r _ => r = A) := by
  obtain ⟨I, q1, _, _⟩ := id H
  have l0 := lit_0
  have l5 := lit_5
  have m0 := many0 q1 (o := 0) (by omega)
  have d : 0 ≤ ti (σ.1 42 0) ∧ ti (σ.1 42 0) ≤ 2 := rdg I.1 kd_42 rfl rfl
  by_cases ex : 0 ≤ ti a1 ∧ ti a1 < ti (σ.1 42 0)
  · obtain ⟨l, hl⟩ : ∃ l : Nat, ti a1 = (l : Int) := ⟨(ti a1).toNat, by omega⟩
    have hL := LX_line q1 (l := l) (by omega) (by omega)
    have r29 := rg_229 I (l := l)
    obtain ⟨R, hR⟩ : ∃ R : Nat, ti (σ.1 229 (123 * l + 1)) = (R : Int) := ⟨(ti (σ.1 229 (123 * l + 1))).toNat, by omega⟩
    have e12 : ti (σ.1 (4 + 12 * l) 12) = (R : Int) := by rw [show σ.1 (4 + 12 * l) 12 = σ.1 229 (123 * l + 1) from hL.1 1 (by omega)]; exact hR
    obtain ⟨G, hGd⟩ : ∃ G : Nat → Int32, G = fun s => σ.1 229 (123 * l + s) := ⟨_, rfl⟩
    have hG1 : ti (G 1) = (R : Int) := by rw [hGd]; exact hR
    rw [← hGd] at hL
    -- the reference, behind its hand
    have ref : ∀ A : Int32, ((0 ≤ ti a2 ∧ ti a2 < (R : Int)) → ∀ p : Nat, ti a2 = (p : Int) → A = riA G p (ti a3)) → (¬ (0 ≤ ti a2 ∧ ti a2 < (R : Int)) → A = -1) → w_X10_rider a1 a2 a3 σ (fun r _ => r = A) := by
      intro A h1 h2
      unfold w_X10_rider
      intro σ1 e1
      have I1 := (Lz_223 H e1).1
      have g1 : ∀ k j, k ≠ 223 → σ1.1 k j = σ.1 k j := fun k j hk => zI_q' e1 (Or.inl hk)
      refine f_X10_hand a1 (0 : Int32) I1 (fun z => absurd ⟨by omega, by rw [g1 228 0 (by omega)]; omega, by omega, by omega⟩ z) (fun l' N' hl' hl2 hc _ hN' hN1 hN16 σ2 hd => ?_)
      have el : l' = l := by omega
      subst el
      obtain ⟨d1, d2, d3, d4, d5, d6, d7⟩ := hd
      have hG : ∀ s, s < 123 → σ2.1 229 (123 * l' + s) = G s := fun s _ => by rw [d1 229 _ (by omega) (by omega) (by omega) (by omega), g1 229 _ (by omega), hGd]
      have d6' : ti (σ2.1 223 26) = (R : Int) := by
        rw [d6]
        show ti (σ1.1 229 (123 * l' + 1)) = (R : Int)
        rw [g1 229 _ (by omega)]
        exact hR
      intro _
      refine ⟨fun z => absurd z (by decide), fun _ => f_X10_isRider a2 (by omega) (fun r5 z5 => fun _ => ⟨fun q5 => (h2 (fun w => z5.mpr (by omega) q5)).symm, fun q5 => ?_⟩)⟩
      have w5 := z5.mp q5
      obtain ⟨p, hp⟩ : ∃ p : Nat, ti a2 = (p : Int) := ⟨(ti a2).toNat, by omega⟩
      have hA := h1 (by omega) p hp
      refine b_X10_in a3 (0 : Int32) (5 : Int32) (fun r7 z7 => fun _ => ⟨fun q7 => ?_, fun q7 => ?_⟩)
      · rw [hA]
        unfold riA
        rw [if_neg (fun w => z7.mpr (by omega) q7)]
      · have w7 := z7.mp q7
        obtain ⟨c, hc6⟩ : ∃ c : Nat, ti a3 = (c : Int) := ⟨(ti a3).toNat, by omega⟩
        refine f_riderOf (r := p) (c := c) d3 hl2 _ _ hp (by omega) hc6 (by omega) ?_
        rw [hG _ (by omega), hA]
        unfold riA
        rw [if_pos (by omega), hc6]
        rfl
    by_cases exr : 0 ≤ ti a2 ∧ ti a2 < (R : Int)
    · obtain ⟨p, hp⟩ : ∃ p : Nat, ti a2 = (p : Int) := ⟨(ti a2).toNat, by omega⟩
      have tn := tn_eq a2
      refine ⟨riA G p (ti a3), ?_, ref _ (fun _ p' hp' => by rw [show p' = p by omega]) (fun z => absurd exr z)⟩
      unfold w_X9_rider
      refine f_X8_lineAt a1 I (fun z => absurd ex z) (fun l' hl' hl2 hc => ?_)
      have el : l' = l := by omega
      subst el
      refine ⟨fun z => (by cases z), fun j3 e3 => ?_⟩
      have e3' := Option.some.inj e3
      subst e3'
      refine ⟨isT_L (isN_T (by unfold isN; omega)), f_X0_hasRider _ a2 (fun r5 z5 => ?_)⟩
      intro _
      refine ⟨fun q5 => ?_, fun q5 => absurd q5 (z5.mpr (by omega))⟩
      have k : ∀ c : Nat, c < 6 → ti a3 = (c : Int) → σ.1 (4 + 12 * l' + 6 + c) p = riA G p (ti a3) := fun c hc6 z => by
        rw [hL.2.2 p c (by omega) hc6 (by omega)]
        unfold riA
        rw [if_pos (by omega), z]
        rfl
      rw [show a2.toNatClampNeg = p by omega]
      refine ⟨fun z => ⟨vin (by omega), k 0 (by omega) (by rw [z]; exact lit_0)⟩, fun z => ⟨vin (by omega), k 1 (by omega) (by rw [z]; exact lit_1)⟩, fun z => ⟨vin (by omega), k 2 (by omega) (by rw [z]; exact lit_2)⟩, fun z => ⟨vin (by omega), k 3 (by omega) (by rw [z]; exact lit_3)⟩, fun z => ⟨vin (by omega), k 4 (by omega) (by rw [z]; exact lit_4)⟩, fun z => ⟨vin (by omega), k 5 (by omega) (by rw [z]; exact lit_5)⟩, fun z => ?_⟩
      rw [ti_toInt] at z
      unfold riA
      rw [if_neg (by omega)]
    · refine ⟨-1, ?_, ref _ (fun z => absurd z exr) (fun _ => rfl)⟩
      unfold w_X9_rider
      refine f_X8_lineAt a1 I (fun z => absurd ex z) (fun l' hl' hl2 hc => ?_)
      have el : l' = l := by omega
      subst el
      refine ⟨fun z => (by cases z), fun j3 e3 => ?_⟩
      have e3' := Option.some.inj e3
      subst e3'
      exact ⟨isT_L (isN_T (by unfold isN; omega)), f_X0_hasRider _ a2 (fun r5 z5 => fun _ => ⟨fun q5 => absurd (z5.mp q5) (by omega), fun _ => rfl⟩)⟩
  · refine ⟨-1, ?_, ?_⟩
    · unfold w_X9_rider
      exact f_X8_lineAt a1 I (fun _ => ⟨fun _ => rfl, fun j3 e3 => (by cases e3)⟩) (fun l hl _ hc => absurd ⟨by omega, by omega⟩ ex)
    · unfold w_X10_rider
      intro σ1 e1
      have I1 := (Lz_223 H e1).1
      have g1 : ∀ k j, k ≠ 223 → σ1.1 k j = σ.1 k j := fun k j hk => zI_q' e1 (Or.inl hk)
      refine f_X10_hand a1 (0 : Int32) I1 (fun _ => fun _ => ⟨fun _ => rfl, fun z => absurd rfl z⟩) (fun l N hl _ hc _ _ _ _ σ2 _ => ?_)
      rw [g1 228 0 (by omega)] at hc
      exact absurd ⟨by omega, by omega⟩ ex
theorem m_rider {σ : zSto} (H : Lz σ) (a1 a2 a3 : Int32) {P : Int32 → zSto → Prop} (hP : ∀ r σa, (∀ Q : Int32 → zSto → Prop, (∀ σ2, Lz σ2 → Q r σ2) → w_X10_rider a1 a2 a3 σa Q) → P r σa) : w_X9_rider a1 a2 a3 σ P := by
  obtain ⟨A, hc, hr⟩ := al_rider H a1 a2 a3
  exact cj_X9_rider (P := fun _ σa => σa = σ) (Q := fun r _ => r = A) (fun r σa e1 e2 => by
    subst e1
    subst e2
    exact hP _ _ (fun Q hQ => cj_X10_rider (P := fun _ σb => zInv AR2 σa.1 3 σb) (Q := fun r' _ => r' = r) (fun r' σb i e => by
      subst e
      exact hQ σb (Lz_R H i)) (s_X10_rider (A := AR2) (F := σa.1) ar2_r a1 a2 a3 (inv_any H.1) (fun _ _ i => i)) hr)) (s_X9_rider a1 a2 a3 (inv_any (B := AC) H.1) (fun _ => rfl)) hc
