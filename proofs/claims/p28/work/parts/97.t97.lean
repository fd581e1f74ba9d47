/-! played on both sides -/
theorem f_handY {σ : zSto} (H : Lz σ) (a1 a2 : Int32) {P : Int32 → zSto → Prop} (h0 : ¬ exW σ a1 a2 → P 0 σ) (hP : exW σ a1 a2 → ∀ (l N R : Nat) (G : Nat → Int32), ti a1 = (l : Int) → tlL σ l N R G → ∀ σ2, FrL σ σ2 → (∀ j, 27 ≤ j → σ2.1 223 j = σ.1 223 j) → RfX l R N G (csI G) (fun p => pdI G p a2) σ2 → P 1 σ2) : w_X10_hand a1 a2 σ P := by
  have m0 := many0 H.2.1 (o := 0) (by omega)
  refine f_X10_hand a1 a2 H.1 (fun z => h0 (fun e => z ⟨e.1, by have := e.2.1; omega, e.2.2.1, e.2.2.2⟩)) (fun l N hl hl2 hc hw hN hN1 hN16 σ2 hd => ?_)
  have ex : exW σ a1 a2 := ⟨by omega, by omega, hw.1, hw.2⟩
  obtain ⟨N', R, G, tl⟩ := tlL_of H hl2 (by omega)
  obtain ⟨_, _, t3, t4, t5, t6, t7, t8, t9⟩ := id tl
  have eN : N' = N := by
    rw [t3 0] at t4
    have t4' : ti (σ.1 229 (123 * l)) = (N' : Int) := t4
    omega
  subst eN
  obtain ⟨d1, d2, d3, d4, d5, d6, d7⟩ := hd
  have eG : (fun s => σ.1 229 (123 * l + s)) = G := funext (fun s => (t3 s).symm)
  rw [eG] at d6 d7
  exact hP ex l N' R G hl tl σ2 (fun k j x => d1 k j (by omega) (by omega) (by omega) (by omega)) (fun j hj => d2 j (by omega) (by omega) (by omega) (by omega)) ⟨d3, hl2, d4, d5, by rw [d6]; exact t5, hN1, hN16, t8, fun s _ => by rw [d1 229 _ (by omega) (by omega) (by omega) (by omega), t3 s], fun p hp => ⟨(d7 p hp).2.2, (d7 p hp).2.1, (d7 p hp).1⟩⟩
def plAns (D : Nat) (S : Nat → Int32) (R N : Nat) (G : Nat → Int32) (a4 : Int32) : Int32 := if 200 ≤ a4.toInt ∧ a4.toInt < 200 + (R : Int) then S (20 + (a4.toInt - 200).toNat) else if a4.toInt = 0 then Int32.ofNat D else if a4.toInt = 1 then S 3 else if a4.toInt = 2 then S 0 else if a4.toInt = 3 then fiT G (csI G) S N else if a4.toInt = 4 then S 1 else -2
set_option maxHeartbeats 8000000 in
theorem al_played {σ : zSto} (H : Lz σ) (a1 a2 a3 a4 : Int32) : ∃ A : Int32, w_X9_played a1 a2 a3 a4 σ (fun r _ => r = A) ∧ ∀ σa, SmR σ σa → w_X10_played a1 a2 a3 a4 σa (fun r _ => r = A) := by
  have l0 := lit_0
  have l1 := lit_1
  have l2 := lit_2
  have l3 := lit_3
  have l4 := lit_4
  have l199 := lit_199
  have l200 := lit_200
  have e4 := ti_eq a4
  have d0 : 0 ≤ ti (σ.1 42 0) ∧ ti (σ.1 42 0) ≤ 2 := rdg H.1.1 kd_42 rfl rfl
  have d1 : 0 ≤ ti (σ.1 42 1) ∧ ti (σ.1 42 1) ≤ 2 := rdg H.1.1 kd_42 rfl rfl
  by_cases ex : exW σ a1 a3 ∧ (0 ≤ ti a2 ∧ ti a2 < ti (σ.1 42 1))
  · obtain ⟨ex, x2⟩ := ex
    obtain ⟨l, hl⟩ : ∃ l : Nat, ti a1 = (l : Int) := ⟨(ti a1).toNat, by have := ex.1; omega⟩
    obtain ⟨m, hm⟩ : ∃ m : Nat, ti a2 = (m : Int) := ⟨(ti a2).toNat, by omega⟩
    obtain ⟨N, R, G, tl⟩ := tlL_of H (l := l) (by have := ex.2.1; omega) (by have := ex.2.1; omega)
    obtain ⟨t1, t2, t3, t4, t5, t6, t7, t8, t9⟩ := id tl
    have ln := LnN_of H tl
    have m2 : m < 2 := by omega
    have hpl := LX_pairs H.2.1 (o := 1) (l := m) (Or.inl rfl) m2 (by omega)
    have hpl' : PrR (22 + 7 * 1 + 3 * m) 230 (33 * m) 33 σ := hpl
    have r30 := rg_230 H.1 (l := m)
    obtain ⟨M, hM⟩ : ∃ M : Nat, ti (σ.1 230 (33 * m)) = (M : Int) := ⟨(ti (σ.1 230 (33 * m))).toNat, by omega⟩
    obtain ⟨pf, hpf⟩ : ∃ pf : Nat → Int32, ∀ k, pf k = σ.1 230 (33 * m + (1 + 2 * k + 0)) := ⟨fun k => σ.1 230 (33 * m + (1 + 2 * k + 0)), fun _ => rfl⟩
    obtain ⟨rf, hrf⟩ : ∃ rf : Nat → Int32, ∀ k, rf k = σ.1 230 (33 * m + (1 + 2 * k + 1)) := ⟨fun k => σ.1 230 (33 * m + (1 + 2 * k + 1)), fun _ => rfl⟩
    have pn : PnA M pf rf := ⟨by omega, fun k hk => by
      have ya := pr_rg H.2.1 (o := 1) (l := m) (Or.inl rfl) m2 (by omega) k 0 (by show 1 + 2 * k + 0 < 33; omega) (by omega) (by show (k : Int) < ti (σ.1 230 (33 * m)); omega)
      have yb := pr_rg H.2.1 (o := 1) (l := m) (Or.inl rfl) m2 (by omega) k 1 (by show 1 + 2 * k + 1 < 33; omega) (by omega) (by show (k : Int) < ti (σ.1 230 (33 * m)); omega)
      rw [hpf, hrf]
      exact ⟨⟨ya.1, ya.2.1 rfl⟩, yb.1, yb.2.2 rfl⟩⟩
    obtain ⟨pd, hpd⟩ : ∃ pd : Nat → Int32, pd = fun p => pdI G p a3 := ⟨_, rfl⟩
    obtain ⟨Q, hQ⟩ : ∃ Q : Nat → Nat → Int32, Q = PlS (csI G) pd (rdG G) pf rf := ⟨_, rfl⟩
    obtain ⟨C, hC⟩ : ∃ C : Nat → Bool, ∀ k, (C k = true ↔ cnQ N R G pd pf rf (Q k) k) := ⟨fun k => @decide (cnQ N R G pd pf rf (Q k) k) (Classical.propDecidable _), fun k => ⟨fun h => @of_decide_eq_true _ (Classical.propDecidable _) h, fun h => @decide_eq_true _ (Classical.propDecidable _) h⟩⟩
    obtain ⟨D, hD⟩ : ∃ D, D = dnF C M := ⟨_, rfl⟩
    have cg : ∀ S : Nat → Int32, EqS S (Q D) → plAns D S R N G a4 = plAns D (Q D) R N G a4 := fun S hE => by
      unfold plAns
      rw [hE 3 (by omega) (by omega), hE 0 (by omega) (by omega), hE 1 (by omega) (by omega), fiT_cg N (fun p hp => hE (40 + p) (by omega) (by omega))]
      by_cases c : 200 ≤ a4.toInt ∧ a4.toInt < 200 + (R : Int)
      · rw [if_pos c, if_pos c, hE _ (by omega) (by omega)]
      · rw [if_neg c, if_neg c]
    refine ⟨plAns D (Q D) R N G a4, ?_, ?_⟩
    · unfold w_X9_played
      refine f_X8_lineAt a1 H.1 (fun z => absurd ⟨ex.1, ex.2.1⟩ z) (fun l' hl' hl2 hc => ⟨fun z => (by cases z), fun j3 e3 => ?_⟩)
      have e3' := Option.some.inj e3
      subst e3'
      have el : l' = l := by omega
      subst el
      refine ⟨isT_L (isN_T (by unfold isN; omega)), f_X8_planAt a2 H.1 (fun z => absurd x2 z) (fun m' hm' hm2 hmc => ⟨fun z => (by cases z), fun j9 e9 => ?_⟩)⟩
      have e9' := Option.some.inj e9
      subst e9'
      have em : m' = m := by omega
      subst em
      refine ⟨isP_P (by unfold isP; omega), f_X9_isWeek a3 (fun r5 z5 => fun _ => ⟨fun _ => ?_, fun q5 => absurd q5 (z5.mpr ⟨ex.2.2.1, ex.2.2.2⟩)⟩)⟩
      refine f_X5_byPlan (C := C) (pf := pf) (rf := rf) (M := M) (okT_l hl2) (by omega) t9 t4 t6 t7 t5 t8 pn a3 ⟨by rw [hpl'.1]; exact hM, fun k hk => ⟨?_, ?_⟩⟩ (fun k _ => by rw [← hpd, ← hQ]; exact hC k) (fun σ2 S i f2 hE T => ?_)
      · rw [hpf]
        exact hpl'.2 k 0 (by omega) (by omega) (by omega) (by omega)
      · rw [hrf]
        exact hpl'.2 k 1 (by omega) (by omega) (by omega) (by omega)
      rw [← hpd, ← hQ, ← hD] at hE
      rw [← hpd] at T
      rw [← hD]
      have L2 := LnR_C (okT_l hl2) t9 f2
      have e12 : ti (σ2.1 (4 + 12 * l') 12) = (R : Int) := by rw [L2.1 1 (by omega)]; exact t5
      have tn := tn_eq (a4 - (200 : Int32))
      have goal : ∀ x : Int32, x = plAns D S R N G a4 → x = plAns D (Q D) R N G a4 := fun x h => h.trans (cg S hE)
      have sw : ¬ (200 ≤ a4.toInt ∧ a4.toInt < 200 + (R : Int)) → ((a4 = 0 → (fun (r : Int32) (_ : zSto) => r = plAns D (Q D) R N G a4) (Int32.ofNat D) σ2) ∧ (a4 = 1 → (fun (r : Int32) (_ : zSto) => r = plAns D (Q D) R N G a4) (σ2.1 190 9) σ2) ∧ (a4 = 2 → (fun (r : Int32) (_ : zSto) => r = plAns D (Q D) R N G a4) (σ2.1 190 8) σ2) ∧ (a4 = 3 → (w_X5_fines (4 + 12 * l') σ2 (fun (r15 : Int32) (σ14 : zSto) => (fun (r : Int32) (_ : zSto) => r = plAns D (Q D) R N G a4) r15 σ14))) ∧ (a4 = 4 → (fun (r : Int32) (_ : zSto) => r = plAns D (Q D) R N G a4) (σ2.1 190 10) σ2) ∧ ((a4.toInt < 0 ∨ 4 < a4.toInt) → (fun (r : Int32) (_ : zSto) => r = plAns D (Q D) R N G a4) (-2 : Int32) σ2)) := fun w => by
        refine ⟨fun q => goal _ ?_, fun q => goal _ ?_, fun q => goal _ ?_, fun q => ?_, fun q => goal _ ?_, fun q => goal _ ?_⟩
        · have := eq_t q
          unfold plAns
          rw [if_neg w, if_pos (by omega)]
        · have := eq_t q
          unfold plAns
          rw [if_neg w, if_neg (by omega), if_pos (by omega)]
          exact T.2.2.2.1
        · have := eq_t q
          unfold plAns
          rw [if_neg w, if_neg (by omega), if_neg (by omega), if_pos (by omega)]
          exact T.1
        · have := eq_t q
          refine f_fines L2 t4 ln T (goal _ ?_)
          unfold plAns
          rw [if_neg w, if_neg (by omega), if_neg (by omega), if_neg (by omega), if_pos (by omega)]
        · have := eq_t q
          unfold plAns
          rw [if_neg w, if_neg (by omega), if_neg (by omega), if_neg (by omega), if_neg (by omega), if_pos (by omega)]
          exact T.2.1
        · unfold plAns
          rw [if_neg w, if_neg (by omega), if_neg (by omega), if_neg (by omega), if_neg (by omega), if_neg (by omega)]
      have ts := tadd (x := (200 : Int32)) (y := σ2.1 (4 + 12 * l') 12) (by omega)
      refine ⟨fun q => sw (by have := lt_t q; omega), fun q => ?_⟩
      have c1 := nlt_t q
      refine ⟨fun q2 => sw (by have := le_t q2; omega), fun q2 => ?_⟩
      have c2 := nle_t q2
      have tsb := tsub (x := a4) (y := (200 : Int32)) (by omega)
      refine ⟨vin (by omega), goal _ ?_⟩
      unfold plAns
      rw [if_pos (by omega), show (a4 - (200 : Int32)).toNatClampNeg = (a4.toInt - 200).toNat by omega]
      exact (T.2.2.2.2.1 _ (by omega)).2
    · intro σa sm
      unfold w_X10_played
      intro σ1 e1
      obtain ⟨H1, u1⟩ := SmR_223 sm e1
      unfold w_X10_hasPlan
      intro σ1' e1'
      have H1' : Lz σ1' := Lz_of H1 (by rw [e1']; exact wIr H1.1 (fun h => h.elim) (by decide) kd_223 rfl rfl (full32 _)) (fun k j hk => zI_q' e1' (by omega))
      have u1' : ∀ k j, k ≠ 223 → (k < 171 ∨ 223 ≤ k) → σ1'.1 k j = σ.1 k j := fun k j a b => by rw [zI_q' e1' (by omega), u1 k j a b]
      have m1 := many0 H1'.2.1 (o := 1) (by omega)
      have c42 : ti (σ1'.1 42 1) = ti (σ.1 42 1) := by rw [u1' 42 1 (by omega) (by omega)]
      refine f_X10_is (1 : Int32) a2 (o := 1) lit_1 (by omega) (by omega) (fun r3 z3 => fun hb => ⟨hb, fun _ => ⟨fun q3 => absurd q3 (z3.mpr ⟨by omega, by omega⟩), fun _ => ?_⟩⟩)
      refine f_handY H1' a1 a3 (fun z => absurd ((exW_eq1 u1').mpr ex) z) (fun _ l' N' R' G' hl' tl' σ2 f2 f23 X2 => fun _ => ⟨fun _ => ?_, fun c => absurd c (by decide)⟩)
      have el : l' = l := by omega
      subst el
      obtain ⟨eN, eR, eG⟩ := tlL_eq tl tl' (fun j => u1' 229 j (by omega) (by omega))
      subst eN
      subst eR
      subst eG
      have v46 : ti (σ2.1 223 46) = (m : Int) := by rw [f23 46 (by omega), e1', zI_s]; exact hm
      have g230 : ∀ j, σ2.1 230 j = σ.1 230 j := fun j => by rw [f2 230 j (by omega), u1' 230 j (by omega) (by omega)]
      rw [← hpd] at X2
      refine f_X10_doPlan (C := C) (pf := pf) (rf := rf) (M := M) X2 m2 v46 (by rw [g230]; exact hM) (fun k _ => by rw [g230, g230, hpf, hrf]; exact ⟨rfl, rfl⟩) pn (fun k _ => by rw [← hQ]; exact hC k) (fun σ3 S X3 hE T hg h33 => ?_)
      rw [← hQ, ← hD] at hE
      rw [← hD]
      have h26 := X3.2.2.2.2.1
      have goal : ∀ x : Int32, x = plAns D S R' N' G' a4 → x = plAns D (Q D) R' N' G' a4 := fun x h => h.trans (cg S hE)
      have ts := tadd (x := (199 : Int32)) (y := σ3.1 223 26) (by omega)
      have tn := tn_eq (a4 - (200 : Int32))
      refine b_X10_in a4 (200 : Int32) _ (fun r9 z9 => fun _ => ⟨fun q9 => ?_, fun q9 => ?_⟩)
      · have w : ¬ (200 ≤ a4.toInt ∧ a4.toInt < 200 + (R' : Int)) := fun y => z9.mpr ⟨by omega, by omega⟩ q9
        refine ⟨fun q => goal _ ?_, fun q => ?_, fun q => goal _ ?_, fun q => goal _ ?_, fun q => goal _ ?_, fun q => goal _ ?_⟩
        · have := eq_t q
          unfold plAns
          rw [if_neg w, if_pos (by omega)]
        · have := eq_t q
          refine f_X10_gathered (S := S) X3 (fun r hr => (T.2.2.2.1 r hr).1) (goal _ ?_)
          unfold plAns
          rw [if_neg w, if_neg (by omega), if_pos (by omega)]
          exact hg
        · have := eq_t q
          unfold plAns
          rw [if_neg w, if_neg (by omega), if_neg (by omega), if_pos (by omega)]
          exact T.1
        · have := eq_t q
          unfold plAns
          rw [if_neg w, if_neg (by omega), if_neg (by omega), if_neg (by omega), if_pos (by omega)]
          exact h33
        · have := eq_t q
          unfold plAns
          rw [if_neg w, if_neg (by omega), if_neg (by omega), if_neg (by omega), if_neg (by omega), if_pos (by omega)]
          exact T.2.1
        · unfold plAns
          rw [if_neg w, if_neg (by omega), if_neg (by omega), if_neg (by omega), if_neg (by omega), if_neg (by omega)]
      · have w := z9.mp q9
        have tsb := tsub (x := a4) (y := (200 : Int32)) (by omega)
        refine ⟨vin (by omega), goal _ ?_⟩
        unfold plAns
        rw [if_pos (by omega), show (a4 - (200 : Int32)).toNatClampNeg = (a4.toInt - 200).toNat by omega]
        exact (T.2.2.2.1 _ (by omega)).2.1
  · refine ⟨-2, ?_, ?_⟩
    · unfold w_X9_played
      refine f_X8_lineAt a1 H.1 (fun _ => ⟨fun _ => f_X8_planAt a2 H.1 (fun _ => ⟨fun _ => rfl, fun j6 e6 => (by cases e6)⟩) (fun m' hm' hm2 hmc => ⟨fun z => (by cases z), fun j6 e6 => ?_⟩), fun j3 e3 => (by cases e3)⟩) (fun l' hl' hl2 hc => ⟨fun z => (by cases z), fun j3 e3 => ?_⟩)
      · have e6' := Option.some.inj e6
        subst e6'
        exact ⟨isP_P (by unfold isP; omega), rfl⟩
      · have e3' := Option.some.inj e3
        subst e3'
        refine ⟨isT_L (isN_T (by unfold isN; omega)), f_X8_planAt a2 H.1 (fun _ => ⟨fun _ => rfl, fun j6 e6 => (by cases e6)⟩) (fun m' hm' hm2 hmc => ⟨fun z => (by cases z), fun j9 e9 => ?_⟩)⟩
        have e9' := Option.some.inj e9
        subst e9'
        exact ⟨isP_P (by unfold isP; omega), f_X9_isWeek a3 (fun r5 z5 => fun _ => ⟨fun q5 => absurd ⟨⟨by omega, by omega, (z5.mp q5).1, (z5.mp q5).2⟩, ⟨by omega, by omega⟩⟩ ex, fun _ => rfl⟩)⟩
    · intro σa sm
      unfold w_X10_played
      intro σ1 e1
      obtain ⟨H1, u1⟩ := SmR_223 sm e1
      unfold w_X10_hasPlan
      intro σ1' e1'
      have H1' : Lz σ1' := Lz_of H1 (by rw [e1']; exact wIr H1.1 (fun h => h.elim) (by decide) kd_223 rfl rfl (full32 _)) (fun k j hk => zI_q' e1' (by omega))
      have u1' : ∀ k j, k ≠ 223 → (k < 171 ∨ 223 ≤ k) → σ1'.1 k j = σ.1 k j := fun k j a b => by rw [zI_q' e1' (by omega), u1 k j a b]
      have m1 := many0 H1'.2.1 (o := 1) (by omega)
      have c42 : ti (σ1'.1 42 1) = ti (σ.1 42 1) := by rw [u1' 42 1 (by omega) (by omega)]
      refine f_X10_is (1 : Int32) a2 (o := 1) lit_1 (by omega) (by omega) (fun r3 z3 => fun hb => ⟨hb, fun _ => ⟨fun _ => rfl, fun q3 => ?_⟩⟩)
      have w3 := z3.mp q3
      exact f_handY H1' a1 a3 (fun _ => fun _ => ⟨fun c => absurd rfl c, fun _ => rfl⟩) (fun e => absurd ⟨(exW_eq1 u1').mp e, ⟨by omega, by omega⟩⟩ ex)
theorem m_played {σ : zSto} (H : Lz σ) (a1 a2 a3 a4 : Int32) {P : Int32 → zSto → Prop} (hP : ∀ r σa, (∀ Q : Int32 → zSto → Prop, (∀ σ2, Lz σ2 → Q r σ2) → w_X10_played a1 a2 a3 a4 σa Q) → P r σa) : w_X9_played a1 a2 a3 a4 σ P := by
  obtain ⟨A, hc, hr⟩ := al_played H a1 a2 a3 a4
  exact cj_X9_played (P := fun _ σa => zInv AC σ.1 3 σa) (Q := fun r _ => r = A) (fun r σa i e2 => by
    subst e2
    have sm := SmR_C H i
    exact hP _ _ (fun Q hQ => cj_X10_played (P := fun _ σb => zInv AR2 σa.1 3 σb) (Q := fun r' _ => r' = r) (fun r' σb i e => by
      subst e
      exact hQ σb (Lz_R sm.1 i)) (s_X10_played (A := AR2) (F := σa.1) ar2_r ar2_h a1 a2 a3 a4 (inv_any sm.1.1) (fun _ _ i => i)) (hr σa sm))) (s_X9_played (A := AC) (F := σ.1) ac_c a1 a2 a3 a4 (inv_any H.1) (fun _ _ i => i)) hc
