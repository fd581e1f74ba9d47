/-! a RUN on both sides -/
theorem bt_ev : ∀ R, R < 7 → ∀ r, r < R → bt (((1 : Int32) <<< (Int32.ofNat R &&& 31)) - (1 : Int32)) r = true := by decide +kernel
theorem f_X9_isWeek (a1 : Int32) {σ : zSto} {P : Int32 → zSto → Prop} (hP : ∀ r, (¬ r = 0 ↔ (0 ≤ ti a1 ∧ ti a1 ≤ 9)) → P r σ) : w_X9_isWeek a1 σ P := by
  have l0 := lit_0
  have l10 := lit_10
  refine ⟨fun q => hP _ ⟨fun c => absurd rfl c, fun z => ?_⟩, fun q => ⟨fun q2 => hP _ ⟨fun c => absurd rfl c, fun z => ?_⟩, fun q2 => hP _ ⟨fun _ => ?_, fun _ => by decide⟩⟩⟩
  · have := lt_t q; omega
  · have := le_t q2; omega
  · have := nlt_t q
    have := nle_t q2
    exact ⟨by omega, by omega⟩
/-- there is such a RUN -/
def exR (σ : zSto) (a1 a2 a4 : Int32) : Prop := 0 ≤ ti a1 ∧ ti a1 < ti (σ.1 42 0) ∧ -1 ≤ ti a2 ∧ ti a2 ≤ 3 ∧ 0 ≤ ti a4 ∧ ti a4 ≤ 9
/-- a told LINE, its POSTS and RIDERS -/
def tlL (σ : zSto) (l N R : Nat) (G : Nat → Int32) : Prop := l < 2 ∧ (l : Int) < ti (σ.1 42 0) ∧ (∀ s, G s = σ.1 229 (123 * l + s)) ∧ ti (G 0) = (N : Int) ∧ ti (G 1) = (R : Int) ∧ 1 ≤ N ∧ N ≤ 16 ∧ R ≤ 6 ∧ LnR (4 + 12 * l) G σ
theorem tlL_of {σ : zSto} (H : Lz σ) {l : Nat} (hl : l < 2) (hc : (l : Int) < ti (σ.1 42 0)) : ∃ N R G, tlL σ l N R G := by
  obtain ⟨I, q1, _, _⟩ := id H
  have hL := LX_line q1 hl hc
  have r29 := rg_229 I (l := l)
  have m0 := many0 q1 (o := 0) (by omega)
  obtain ⟨N, hN⟩ : ∃ N : Nat, ti (σ.1 229 (123 * l)) = (N : Int) := ⟨(ti (σ.1 229 (123 * l))).toNat, by omega⟩
  obtain ⟨R, hR⟩ : ∃ R : Nat, ti (σ.1 229 (123 * l + 1)) = (R : Int) := ⟨(ti (σ.1 229 (123 * l + 1))).toNat, by omega⟩
  have hN1 : 1 ≤ N := by
    have y := I.2.2.2.2.2.1 0 l (by omega) hl (by rw [show 3 * 0 = 0 by omega]; omega)
    rw [show 123 * (2 * 0 + l) = 123 * l by omega] at y
    omega
  exact ⟨N, R, fun s => σ.1 229 (123 * l + s), hl, hc, fun _ => rfl, hN, hR, hN1, by omega, by omega, hL⟩
theorem okT_l {l : Nat} (h : l < 2) : okT (4 + 12 * l) := by unfold okT; omega
def rnA (a2 : Int32) (R : Nat) (so : Nat → Bool) (G : Nat → Int32) (a4 a3 : Int32) (N : Nat) : Nat → Int32 := rnF a2 R so (csI G) (fun p => pdI G p a4) (rdG G) a3 (N - 1)
theorem f_X9_ridden {σ : zSto} (H : Lz σ) (a1 a2 a3 a4 : Int32) {P : Option Nat → zSto → Prop} (h0 : ¬ exR σ a1 a2 a4 → P none σ) (hP : exR σ a1 a2 a4 → ∀ (l N R : Nat) (G : Nat → Int32), ti a1 = (l : Int) → tlL σ l N R G → ∀ σ2, FrC σ σ2 → CsS N R G (fun p => pdI G p a4) (rnA a2 R (fun _ => true) G a4 a3 N) (N - 1) σ2 → P (some (4 + 12 * l)) σ2) : w_X9_ridden a1 a2 a3 a4 σ P := by
  have lm := lit_m1
  have l4 := lit_4
  unfold w_X9_ridden
  refine f_X8_lineAt a1 H.1 (fun z => ⟨fun _ => h0 (fun e => z ⟨e.1, e.2.1⟩), fun j3 e3 => (by cases e3)⟩) (fun l hl hl2 hc => ⟨fun z => (by cases z), fun j3 e3 => ?_⟩)
  have e3' := Option.some.inj e3
  subst e3'
  refine ⟨isT_L (isN_T (by unfold isN; omega)), fun q => h0 (fun e => by have := lt_t q; have := e.2.2.1; omega), fun q => ⟨fun q2 => h0 (fun e => by have := le_t q2; have := e.2.2.2.1; omega), fun q2 => ?_⟩⟩
  have c1 := nlt_t q
  have c2 := nle_t q2
  refine f_X9_isWeek a4 (fun r5 z5 => fun _ => ⟨fun q5 => ?_, fun q5 => h0 (fun e => (z5.mpr ⟨e.2.2.2.2.1, e.2.2.2.2.2⟩) q5)⟩)
  have w := z5.mp q5
  have ex : exR σ a1 a2 a4 := ⟨by omega, by omega, by omega, by omega, w.1, w.2⟩
  obtain ⟨N, R, G, tl⟩ := tlL_of H hl2 hc
  obtain ⟨_, _, _, t4, t5, t6, t7, t8, t9⟩ := id tl
  exact f_X5_byLaw (so := fun _ => true) (okT_l hl2) t9 t4 t6 t7 t5 t8 a2 a3 a4 (-1 : Int32) (by omega) (fun r hr => (bt_m1 (by omega)).symm) (fun σ2 f2 T2 => hP ex l N R G hl tl σ2 f2 T2)
/-- what a RUN of the reference leaves as it was -/
def FrL (σ σ2 : zSto) : Prop := ∀ k j, (k < 223 ∨ (224 ≤ k ∧ k ≤ 235) ∨ 245 ≤ k) → σ2.1 k j = σ.1 k j
theorem f_X10_layRun {σ : zSto} (H : Lz σ) (a1 a2 a3 a4 : Int32) {P : Int32 → zSto → Prop} (h0 : ¬ exR σ a1 a2 a4 → P 0 σ) (hP : exR σ a1 a2 a4 → ∀ (l N R : Nat) (G : Nat → Int32), ti a1 = (l : Int) → tlL σ l N R G → ∀ σ2, FrL σ σ2 → RfX l R N G (csI G) (fun p => pdI G p a4) σ2 → RnS (rnA a2 R (fun _ => true) G a4 a3 N) N G (csI G) σ2 → P 1 σ2) : w_X10_layRun a1 a2 a3 a4 σ P := by
  have lm := lit_m1
  have l3 := lit_3
  have m0 := many0 H.2.1 (o := 0) (by omega)
  unfold w_X10_layRun
  refine b_X10_in a2 (-1 : Int32) (3 : Int32) (fun r2 z2 => fun _ => ⟨fun q => h0 (fun e => z2.mpr ⟨by have := e.2.2.1; omega, by have := e.2.2.2.1; omega⟩ q), fun q => ?_⟩)
  have w2 := z2.mp q
  refine f_X10_hand a1 a4 H.1 (fun z => fun _ => ⟨fun c => absurd rfl c, fun _ => h0 (fun e => z ⟨e.1, by have := e.2.1; omega, e.2.2.2.2.1, e.2.2.2.2.2⟩)⟩) (fun l N hl hl2 hc hw hN hN1 hN16 σ2 hd => fun _ => ⟨fun _ => ?_, fun c => absurd c (by decide)⟩)
  have ex : exR σ a1 a2 a4 := ⟨by omega, by omega, by omega, by omega, hw.1, hw.2⟩
  obtain ⟨N', R, G, tl⟩ := tlL_of H hl2 (by omega)
  obtain ⟨_, _, t3, t4, t5, t6, t7, t8, t9⟩ := id tl
  have eN : N' = N := by
    rw [t3 0] at t4
    have t4' : ti (σ.1 229 (123 * l)) = (N' : Int) := t4
    omega
  subst eN
  obtain ⟨d1, d2, d3, d4, d5, d6, d7⟩ := hd
  have eG : (fun s => σ.1 229 (123 * l + s)) = G := funext (fun s => (t3 s).symm)
  rw [eG] at d6 d7
  have X : RfX l R N' G (csI G) (fun p => pdI G p a4) σ2 := ⟨d3, hl2, d4, d5, by rw [d6]; exact t5, hN1, hN16, t8, fun s _ => by rw [d1 229 _ (by omega) (by omega) (by omega) (by omega), t3 s], fun p hp => ⟨(d7 p hp).2.2, (d7 p hp).2.1, (d7 p hp).1⟩⟩
  have e26 : σ2.1 223 26 = Int32.ofNat R := t_inj (by rw [d6, t5]; exact (nI_t (by omega)).symm)
  unfold w_X10_everyone
  refine f_X10_go (so := fun _ => true) X a2 a3 _ (by omega) (fun r hr => by rw [e26]; exact (bt_ev R (by omega) r hr).symm) (fun σ3 f3 h3 => ?_)
  exact hP ex l N' R G hl tl σ3 (fun k j x => by rw [f3.1 k j (by omega) (by omega), d1 k j (by omega) (by omega) (by omega) (by omega)]) (FrG_X X f3) h3
theorem tlL_eq {σ σa : zSto} {l N R N' R' : Nat} {G G' : Nat → Int32} (h : tlL σ l N R G) (h' : tlL σa l N' R' G') (e : ∀ j, σa.1 229 j = σ.1 229 j) : N' = N ∧ R' = R ∧ G' = G := by
  have eG : G' = G := funext (fun s => by rw [h'.2.2.1 s, h.2.2.1 s, e])
  subst eG
  have a := h.2.2.2.1
  have b := h'.2.2.2.1
  have c := h.2.2.2.2.1
  have d := h'.2.2.2.2.1
  exact ⟨by omega, by omega, rfl⟩
/-- the other side's store, when ours has run -/
def SmR (σ σa : zSto) : Prop := Lz σa ∧ ∀ k j, (k < 171 ∨ 223 ≤ k) → σa.1 k j = σ.1 k j
theorem exR_eq {σ σa : zSto} (h : SmR σ σa) {a1 a2 a4 : Int32} : exR σa a1 a2 a4 ↔ exR σ a1 a2 a4 := by
  unfold exR
  rw [h.2 42 0 (by omega)]
theorem SmR_223 {σ σa σ1 : zSto} (h : SmR σ σa) (e1 : σ1 = zI σa 223 0 (0 : Int32)) : Lz σ1 ∧ (∀ k j, k ≠ 223 → (k < 171 ∨ 223 ≤ k) → σ1.1 k j = σ.1 k j) := ⟨Lz_223 h.1 e1, fun k j a b => by rw [zI_q' e1 (by omega), h.2 k j b]⟩
theorem exR_eq1 {σ σ1 : zSto} (h : ∀ k j, k ≠ 223 → (k < 171 ∨ 223 ≤ k) → σ1.1 k j = σ.1 k j) {a1 a2 a4 : Int32} : exR σ1 a1 a2 a4 ↔ exR σ a1 a2 a4 := by
  unfold exR
  rw [h 42 0 (by omega) (by omega)]
set_option maxHeartbeats 4000000 in
theorem al_who {σ : zSto} (H : Lz σ) (a1 a2 a3 a4 a5 : Int32) : ∃ A : Int32, w_X9_who a1 a2 a3 a4 a5 σ (fun r _ => r = A) ∧ ∀ σa, SmR σ σa → w_X10_who a1 a2 a3 a4 a5 σa (fun r _ => r = A) := by
  have l0 := lit_0
  have t5 := tn_eq a5
  by_cases ex : exR σ a1 a2 a4
  · obtain ⟨l, hl⟩ : ∃ l : Nat, ti a1 = (l : Int) := ⟨(ti a1).toNat, by have := ex.1; omega⟩
    have d : 0 ≤ ti (σ.1 42 0) ∧ ti (σ.1 42 0) ≤ 2 := rdg H.1.1 kd_42 rfl rfl
    obtain ⟨N, R, G, tl⟩ := tlL_of H (l := l) (by have := ex.2.1; omega) (by have := ex.2.1; omega)
    refine ⟨if 0 ≤ ti a5 ∧ ti a5 < (N : Int) then rnA a2 R (fun _ => true) G a4 a3 N (40 + (ti a5).toNat) else -2, ?_, ?_⟩
    · unfold w_X9_who
      refine f_X9_ridden H a1 a2 a3 a4 (fun z => absurd ex z) (fun _ l' N' R' G' hl' tl' σ2 f2 T2 => ?_)
      have el : l' = l := by omega
      subst el
      obtain ⟨eN, eR, eG⟩ := tlL_eq tl tl' (fun _ => rfl)
      subst eN
      subst eR
      subst eG
      refine ⟨fun z => (by cases z), fun j3 e3 => ?_⟩
      have e3' := Option.some.inj e3
      subst e3'
      have L2 := LnR_C (okT_l tl.1) tl.2.2.2.2.2.2.2.2 f2
      have e11 : σ2.1 (4 + 12 * l') 11 = G' 0 := L2.1 0 (by omega)
      have hN := tl.2.2.2.1
      have N16 := tl.2.2.2.2.2.2.1
      refine ⟨isT_L (isN_T (by have := tl.1; unfold isN; omega)), f_X0_hasPost _ a5 (fun r5 z5 => fun _ => ⟨fun q5 => ?_, fun q5 => ?_⟩)⟩
      · have w := z5.mp q5
        rw [e11, hN] at w
        rw [if_pos w, t5]
        exact ⟨vin (by omega), ((T2.2.2.2.2.2.2.1) (ti a5).toNat (by omega)).1⟩
      · rw [if_neg (fun w => z5.mpr (by rw [e11, hN]; exact w) q5)]
    · intro σa sm
      unfold w_X10_who
      intro σ1 e1
      obtain ⟨H1, u1⟩ := SmR_223 sm e1
      refine f_X10_layRun H1 a1 a2 a3 a4 (fun z => absurd ((exR_eq1 u1).mpr ex) z) (fun _ l' N' R' G' hl' tl' σ2 f2 X2 T2 => fun _ => ⟨fun c => absurd c (by decide), fun _ => ?_⟩)
      have el : l' = l := by omega
      subst el
      obtain ⟨eN, eR, eG⟩ := tlL_eq tl tl' (fun j => u1 229 j (by omega) (by omega))
      subst eN
      subst eR
      subst eG
      have h25 := X2.2.2.2.1
      have N16 := X2.2.2.2.2.2.2.1
      refine f_X10_isPost a5 (fun r5 z5 => fun _ => ⟨fun q5 => ?_, fun q5 => ?_⟩)
      · rw [if_neg (fun w => z5.mpr (by omega) q5)]
      · have w := z5.mp q5
        rw [if_pos (by omega), t5]
        exact ⟨vin (by omega), (T2.1.2.2.2.2 (ti a5).toNat (by omega)).1⟩
  · refine ⟨-2, ?_, ?_⟩
    · unfold w_X9_who
      exact f_X9_ridden H a1 a2 a3 a4 (fun _ => ⟨fun _ => rfl, fun j3 e3 => (by cases e3)⟩) (fun e => absurd e ex)
    · intro σa sm
      unfold w_X10_who
      intro σ1 e1
      obtain ⟨H1, u1⟩ := SmR_223 sm e1
      exact f_X10_layRun H1 a1 a2 a3 a4 (fun _ => fun _ => ⟨fun _ => rfl, fun c => absurd rfl c⟩) (fun e => absurd ((exR_eq1 u1).mp e) ex)
theorem SmR_C {σ σa : zSto} (H : Lz σ) (i : zInv AC σ.1 3 σa) : SmR σ σa := ⟨Lz_C H i, fun k j h => i.2.1 k j (by unfold AC; omega)⟩
theorem m_who {σ : zSto} (H : Lz σ) (a1 a2 a3 a4 a5 : Int32) {P : Int32 → zSto → Prop} (hP : ∀ r σa, (∀ Q : Int32 → zSto → Prop, (∀ σ2, Lz σ2 → Q r σ2) → w_X10_who a1 a2 a3 a4 a5 σa Q) → P r σa) : w_X9_who a1 a2 a3 a4 a5 σ P := by
  obtain ⟨A, hc, hr⟩ := al_who H a1 a2 a3 a4 a5
  exact cj_X9_who (P := fun _ σa => zInv AC σ.1 3 σa) (Q := fun r _ => r = A) (fun r σa i e2 => by
    subst e2
    have sm := SmR_C H i
    exact hP _ _ (fun Q hQ => cj_X10_who (P := fun _ σb => zInv AR2 σa.1 3 σb) (Q := fun r' _ => r' = r) (fun r' σb i e => by
      subst e
      exact hQ σb (Lz_R sm.1 i)) (s_X10_who (A := AR2) (F := σa.1) ar2_r a1 a2 a3 a4 a5 (inv_any sm.1.1) (fun _ _ i => i)) (hr σa sm))) (s_X9_who (A := AC) (F := σ.1) ac_c a1 a2 a3 a4 a5 (inv_any H.1) (fun _ _ i => i)) hc
