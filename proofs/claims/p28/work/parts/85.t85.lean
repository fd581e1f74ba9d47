/-! weeks on both sides -/
def byF (w : Nat → Int32) : Nat → Int32
  | 0 => -1
  | n + 1 => if w n ≤ byF w n then byF w n else w n
def bwF (w : Nat → Int32) : Nat → Int32
  | 0 => 0
  | n + 1 => if w n ≤ byF w n then bwF w n else Int32.ofNat n
theorem gr_le {a b : Int32} : (if a < b then b else a) = if b ≤ a then a else b := by
  by_cases c : a < b
  · have := lt_t c
    rw [if_pos c, if_neg (fun d => by have := le_t d; omega)]
  · have := nlt_t c
    rw [if_neg c, if_pos (Classical.byContradiction (fun d => by have := nle_t d; omega))]
set_option maxHeartbeats 8000000 in
theorem al_weeks {σ : zSto} (H : Lz σ) (a1 a2 a3 a4 : Int32) : ∃ A : Int32, w_X9_weeks a1 a2 a3 a4 σ (fun r _ => r = A) ∧ ∀ σa, SmR σ σa → w_X10_weeks a1 a2 a3 a4 σa (fun r _ => r = A) := by
  have l0 := lit_0
  have l1 := lit_1
  have l3 := lit_3
  have l4 := lit_4
  have l10 := lit_10
  have d : 0 ≤ ti (σ.1 42 0) ∧ ti (σ.1 42 0) ≤ 2 := rdg H.1.1 kd_42 rfl rfl
  by_cases ex : (0 ≤ ti a1 ∧ ti a1 < ti (σ.1 42 0)) ∧ (0 ≤ ti a2 ∧ ti a2 ≤ 3)
  · obtain ⟨ex, x2⟩ := ex
    obtain ⟨l, hl⟩ : ∃ l : Nat, ti a1 = (l : Int) := ⟨(ti a1).toNat, by omega⟩
    obtain ⟨N, R, G, tl⟩ := tlL_of H (l := l) (by omega) (by omega)
    obtain ⟨t1, t2, t3, t4, t5, t6, t7, t8, t9⟩ := id tl
    obtain ⟨F, hF⟩ : ∃ F : Nat → Nat → Int32, F = fun k => rnA a2 R (fun _ => true) G (Int32.ofNat k) a3 N := ⟨_, rfl⟩
    obtain ⟨w, hw⟩ : ∃ w : Nat → Int32, w = fun k => F k 3 := ⟨_, rfl⟩
    refine ⟨if a4 = 0 then bwF w 10 else smT w 10, ?_, ?_⟩
    · unfold w_X9_weeks
      refine f_X8_lineAt a1 H.1 (fun z => absurd ex z) (fun l' hl' hl2 hc => ⟨fun z => (by cases z), fun j3 e3 => ?_⟩)
      have e3' := Option.some.inj e3
      subst e3'
      have el : l' = l := by omega
      subst el
      refine ⟨isT_L (isN_T (by unfold isN; omega)), fun k => by have := lt_t k; omega, fun _ => ⟨fun _ => ?_, fun k => by have := nlt_t k; omega⟩⟩
      have go : ∀ (n i : Nat) (x_6 x_7 x_8 x_9 : Int32) (σ2 : zSto), LnR (4 + 12 * l') G σ2 → ti x_9 = (i : Int) → i ≤ 10 → x_6 = bwF w i → x_7 = byF w i → x_8 = smT w i → 10 - i < n → w_X9_weeks_38 a2 a3 a4 (4 + 12 * l') (fun r _ => r = if a4 = 0 then bwF w 10 else smT w 10) n x_6 x_7 x_8 x_9 σ2 := by
        intro n
        induction n with
        | zero => intro i x_6 x_7 x_8 x_9 σ2 _ _ _ _ _ _ h; omega
        | succ n ih =>
          intro i x_6 x_7 x_8 x_9 σ2 L2 hi hi10 h6 h7 h8 hn
          unfold w_X9_weeks_38
          refine ⟨fun q => ?_, fun q => ?_⟩
          · have c := le_t q
            have e : i = 10 := by omega
            subst e
            refine ⟨fun k => ?_, fun k => ?_⟩
            · rw [if_pos k]; exact h6
            · rw [if_neg k]; exact h8
          · have c := nle_t q
            have tx := tadd (x := x_9) (y := (1 : Int32)) (by omega)
            have e9 := nI_x hi (by omega)
            refine f_X5_byLaw (so := fun _ => true) (okT_l hl2) L2 t4 t6 t7 t5 t8 a2 a3 x_9 (-1 : Int32) (by omega) (fun r hr => (bt_m1 (by omega)).symm) (fun σ6 f6 T6 => ?_)
            have eF : rnF a2 R (fun _ => true) (csI G) (fun p => pdI G p x_9) (rdG G) a3 (N - 1) = F i := by rw [hF, e9]; rfl
            rw [eF] at T6
            have L6 := LnR_C (okT_l hl2) L2 f6
            have ev : σ6.1 190 9 = w i := by rw [hw]; exact T6.2.2.2.1
            rw [ev]
            intro x5 e5
            refine ⟨fun k x6 e6 => ?_, fun k x7 e7 x8 e8 => ?_⟩
            · have f := eq_t e6
              refine ih (i + 1) x_6 x_7 x5 x6 σ6 L6 (by omega) (by omega) ?_ ?_ (by rw [e5, h8]; rfl) (by omega)
              · rw [h6]
                show _ = if w i ≤ byF w i then bwF w i else Int32.ofNat i
                rw [if_pos (by rw [← h7]; exact k)]
              · rw [h7]
                show _ = if w i ≤ byF w i then byF w i else w i
                rw [if_pos (by rw [← h7]; exact k)]
            · have f := eq_t e8
              refine ih (i + 1) x_9 x7 x5 x8 σ6 L6 (by omega) (by omega) ?_ ?_ (by rw [e5, h8]; rfl) (by omega)
              · show _ = if w i ≤ byF w i then bwF w i else Int32.ofNat i
                rw [if_neg (by rw [← h7]; exact k)]
                exact e9
              · show _ = if w i ≤ byF w i then byF w i else w i
                rw [if_neg (by rw [← h7]; exact k)]
                exact e7
      exact ⟨20, go 20 0 (0 : Int32) (-1 : Int32) (0 : Int32) (0 : Int32) σ t9 lit_0 (by omega) rfl rfl rfl (by omega)⟩
    · intro σa sm
      unfold w_X10_weeks
      intro σ1 e1
      obtain ⟨H1, u1⟩ := SmR_223 sm e1
      have m0 := many0 H1.2.1 (o := 0) (by omega)
      have c42 : ti (σ1.1 42 0) = ti (σ.1 42 0) := by rw [u1 42 0 (by omega) (by omega)]
      refine b_X10_in a2 (0 : Int32) (3 : Int32) (fun r3 z3 => fun _ => ⟨fun q => absurd q (z3.mpr ⟨by omega, by omega⟩), fun _ => ?_⟩)
      refine f_X10_is (0 : Int32) a1 (o := 0) lit_0 (by omega) (by omega) (fun r5 z5 => fun _ => ⟨fun _ => ?_, fun q => absurd q (z5.mpr ⟨by omega, by omega⟩)⟩)
      have go : ∀ (n i : Nat) (x_5 x_6 x_7 x_8 : Int32) (σ3 : zSto), Lz σ3 → (∀ k j, k ≠ 223 → (k < 171 ∨ (224 ≤ k ∧ k ≤ 231)) → σ3.1 k j = σ.1 k j) → ti x_8 = (i : Int) → i ≤ 10 → x_5 = bwF w i → x_6 = byF w i → x_7 = smT w i → 10 - i < n → w_X10_weeks_37 a1 a2 a3 a4 (fun r _ => r = if a4 = 0 then bwF w 10 else smT w 10) n x_5 x_6 x_7 x_8 σ3 := by
        intro n
        induction n with
        | zero => intro i x_5 x_6 x_7 x_8 σ3 _ _ _ _ _ _ _ h; omega
        | succ n ih =>
          intro i x_5 x_6 x_7 x_8 σ3 H3 u3 hi hi10 h5 h6 h7 hn
          unfold w_X10_weeks_37
          refine ⟨fun q => ?_, fun q => ?_⟩
          · have c := le_t q
            have e : i = 10 := by omega
            subst e
            refine ⟨fun k => ?_, fun k => ?_⟩
            · rw [if_pos k]; exact h5
            · rw [if_neg k]; exact h7
          · have c := nle_t q
            have tx := tadd (x := x_8) (y := (1 : Int32)) (by omega)
            have e8 := nI_x hi (by omega)
            have ex3 : exR σ3 a1 a2 x_8 := ⟨by omega, by rw [u3 42 0 (by omega) (by omega)]; omega, by omega, by omega, by omega, by omega⟩
            refine cj_X10_layRun (P := fun _ σ6 => zInv AR2 σ3.1 3 σ6) (Q := fun r σ6 => RfX l R N G (csI G) (fun p => pdI G p x_8) σ6 ∧ RfS (F i) N σ6) (fun r7 σ6 i6 q6 => fun _ => ?_) (s_X10_layRun (A := AR2) (F := σ3.1) ar2_r a1 a2 a3 x_8 (inv_any H3.1) (fun _ _ i => i)) (f_X10_layRun H3 a1 a2 a3 x_8 (fun z => absurd ex3 z) (fun _ l' N' R' G' hl' tl' σ2 f2 X2 T2 => ?_))
            · obtain ⟨X6, T6⟩ := q6
              have H6 := Lz_R H3 i6
              have gt : smT (fun r => F i (10 + r)) R = w i := by rw [hw, hF]; exact gth t8 (N - 1)
              refine f_X10_gathered X6 (fun r hr => (T6.2.2.2.1 r hr).1) ?_
              rw [gt]
              intro x10 e10
              have u6 : ∀ k j, k ≠ 223 → (k < 171 ∨ (224 ≤ k ∧ k ≤ 231)) → σ6.1 k j = σ.1 k j := fun k j a b => by rw [i6.2.1 k j (by unfold AR2; omega), u3 k j a b]
              refine ⟨fun k => f_greater _ _ ?_, fun k => f_greater _ _ ?_⟩
              · intro x13 e13
                have f := eq_t e13
                refine ih (i + 1) x_5 _ x10 x13 σ6 H6 u6 (by omega) (by omega) ?_ ?_ (by rw [e10, h7]; rfl) (by omega)
                · rw [h5]
                  show _ = if w i ≤ byF w i then bwF w i else Int32.ofNat i
                  rw [if_pos (by rw [← h6]; exact k)]
                · rw [gr_le, h6]
                  rfl
              · intro x13 e13
                have f := eq_t e13
                refine ih (i + 1) x_8 _ x10 x13 σ6 H6 u6 (by omega) (by omega) ?_ ?_ (by rw [e10, h7]; rfl) (by omega)
                · show _ = if w i ≤ byF w i then bwF w i else Int32.ofNat i
                  rw [if_neg (by rw [← h6]; exact k)]
                  exact e8
                · rw [gr_le, h6]
                  rfl
            · have el : l' = l := by omega
              subst el
              obtain ⟨eN, eR, eG⟩ := tlL_eq tl tl' (fun j => u3 229 j (by omega) (by omega))
              subst eN
              subst eR
              subst eG
              refine ⟨X2, ?_⟩
              have eF : rnA a2 R' (fun _ => true) G' x_8 a3 N' = F i := by rw [hF, e8]
              rw [← eF]
              exact T2.1
      exact ⟨20, go 20 0 (0 : Int32) (-1 : Int32) (0 : Int32) (0 : Int32) σ1 H1 (fun k j a b => u1 k j a (by omega)) lit_0 (by omega) rfl rfl rfl (by omega)⟩
  · refine ⟨-1, ?_, ?_⟩
    · unfold w_X9_weeks
      refine f_X8_lineAt a1 H.1 (fun _ => ⟨fun _ => rfl, fun j3 e3 => (by cases e3)⟩) (fun l' hl' hl2 hc => ⟨fun z => (by cases z), fun j3 e3 => ?_⟩)
      have e3' := Option.some.inj e3
      subst e3'
      refine ⟨isT_L (isN_T (by unfold isN; omega)), fun _ => rfl, fun k1 => ⟨fun k2 => ?_, fun _ => rfl⟩⟩
      have y1 := nlt_t k1
      have y2 := lt_t k2
      exact absurd ⟨⟨by omega, by omega⟩, ⟨by omega, by omega⟩⟩ ex
    · intro σa sm
      unfold w_X10_weeks
      intro σ1 e1
      obtain ⟨H1, u1⟩ := SmR_223 sm e1
      have m0 := many0 H1.2.1 (o := 0) (by omega)
      have c42 : ti (σ1.1 42 0) = ti (σ.1 42 0) := by rw [u1 42 0 (by omega) (by omega)]
      refine b_X10_in a2 (0 : Int32) (3 : Int32) (fun r3 z3 => fun _ => ⟨fun _ => rfl, fun q3 => ?_⟩)
      have w3 := z3.mp q3
      exact f_X10_is (0 : Int32) a1 (o := 0) lit_0 (by omega) (by omega) (fun r5 z5 => fun _ => ⟨fun q5 => absurd ⟨by have := z5.mp q5; omega, by omega⟩ ex, fun _ => rfl⟩)
theorem m_weeks {σ : zSto} (H : Lz σ) (a1 a2 a3 a4 : Int32) {P : Int32 → zSto → Prop} (hP : ∀ r σa, (∀ Q : Int32 → zSto → Prop, (∀ σ2, Lz σ2 → Q r σ2) → w_X10_weeks a1 a2 a3 a4 σa Q) → P r σa) : w_X9_weeks a1 a2 a3 a4 σ P := by
  obtain ⟨A, hc, hr⟩ := al_weeks H a1 a2 a3 a4
  exact cj_X9_weeks (P := fun _ σa => zInv AC σ.1 3 σa) (Q := fun r _ => r = A) (fun r σa i e2 => by
    subst e2
    have sm := SmR_C H i
    exact hP _ _ (fun Q hQ => cj_X10_weeks (P := fun _ σb => zInv AR2 σa.1 3 σb) (Q := fun r' _ => r' = r) (fun r' σb i e => by
      subst e
      exact hQ σb (Lz_R sm.1 i)) (s_X10_weeks (A := AR2) (F := σa.1) ar2_r a1 a2 a3 a4 (inv_any sm.1.1) (fun _ _ i => i)) (hr σa sm))) (s_X9_weeks (A := AC) (F := σ.1) ac_c a1 a2 a3 a4 (inv_any H.1) (fun _ _ i => i)) hc
