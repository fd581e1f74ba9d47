/-! lots and weeks on both sides -/
set_option maxHeartbeats 8000000 in
theorem al_lots {σ : zSto} (H : Lz σ) (a1 a2 a3 a4 a5 : Int32) : ∃ A : Int32, w_X9_lots a1 a2 a3 a4 a5 σ (fun r _ => r = A) ∧ ∀ σa, SmR σ σa → w_X10_lots a1 a2 a3 a4 a5 σa (fun r _ => r = A) := by
  have l0 := lit_0
  have l1 := lit_1
  have l2 := lit_2
  have l20 := lit_20
  have d : 0 ≤ ti (σ.1 42 0) ∧ ti (σ.1 42 0) ≤ 2 := rdg H.1.1 kd_42 rfl rfl
  by_cases ex : exW σ a1 a2 ∧ (1 ≤ ti a4 ∧ ti a4 ≤ 20) ∧ (0 ≤ ti a5 ∧ ti a5 ≤ 2)
  · obtain ⟨ex, x4, x5⟩ := ex
    obtain ⟨l, hl⟩ : ∃ l : Nat, ti a1 = (l : Int) := ⟨(ti a1).toNat, by have := ex.1; omega⟩
    obtain ⟨N, R, G, tl⟩ := tlL_of H (l := l) (by have := ex.2.1; omega) (by have := ex.2.1; omega)
    obtain ⟨t1, t2, t3, t4, t5, t6, t7, t8, t9⟩ := id tl
    obtain ⟨F, hF⟩ : ∃ F : Nat → Nat → Int32, F = fun k => rnA 2 R (fun _ => true) G a2 (a3 + Int32.ofNat k) N := ⟨_, rfl⟩
    obtain ⟨b, hb⟩ : ∃ b : Nat → Int32, b = fun k => if bsT (G 5) (F k) (N - 1) = -1 then 0 else 1 := ⟨_, rfl⟩
    obtain ⟨M, hM⟩ : ∃ M : Nat, ti a4 = (M : Int) := ⟨(ti a4).toNat, by omega⟩
    refine ⟨if a5 = 0 then smT (fun k => F k 3) M else if a5 = 1 then smT (fun k => F k 0) M else smT b M, ?_, ?_⟩
    · unfold w_X9_lots
      refine f_X8_lineAt a1 H.1 (fun z => absurd ⟨ex.1, ex.2.1⟩ z) (fun l' hl' hl2 hc => ⟨fun z => (by cases z), fun j3 e3 => ?_⟩)
      have e3' := Option.some.inj e3
      subst e3'
      have el : l' = l := by omega
      subst el
      refine ⟨isT_L (isN_T (by unfold isN; omega)), f_X9_isWeek a2 (fun r5 z5 => fun _ => ⟨fun q5 => absurd q5 (z5.mpr ⟨ex.2.2.1, ex.2.2.2⟩), fun _ => ⟨fun k => by have := lt_t k; omega, fun _ => ⟨fun k => by have := lt_t k; omega, fun _ => ⟨fun k => by have := lt_t k; omega, fun _ => ⟨fun _ => ?_, fun k => by have := nle_t k; omega⟩⟩⟩⟩⟩)⟩
      have go : ∀ (n i : Nat) (x_7 x_8 x_9 x_10 : Int32) (σ2 : zSto), LnR (4 + 12 * l') G σ2 → ti x_10 = (i : Int) → i ≤ M → x_7 = smT (fun k => F k 3) i → x_8 = smT (fun k => F k 0) i → x_9 = smT b i → M - i < n → w_X9_lots_60 a2 a3 a4 a5 (4 + 12 * l') (fun r _ => r = if a5 = 0 then smT (fun k => F k 3) M else if a5 = 1 then smT (fun k => F k 0) M else smT b M) n x_7 x_8 x_9 x_10 σ2 := by
        intro n
        induction n with
        | zero => intro i x_7 x_8 x_9 x_10 σ2 _ _ _ _ _ _ h; omega
        | succ n ih =>
          intro i x_7 x_8 x_9 x_10 σ2 L2 hi hiM h7 h8 h9 hn
          unfold w_X9_lots_60
          refine ⟨fun q => ?_, fun q => ?_⟩
          · have c := le_t q
            have e : i = M := by omega
            subst e
            refine ⟨fun k => ⟨fun k2 => ?_, fun k2 => ?_⟩, fun k => ?_⟩
            · rw [if_neg k, if_neg k2]; exact h9
            · rw [if_neg k, if_pos k2]; exact h8
            · rw [if_pos k]; exact h7
          · have c := nle_t q
            have tx := tadd (x := x_10) (y := (1 : Int32)) (by omega)
            have e10 := nI_x hi (by omega)
            refine f_X5_byLaw (so := fun _ => true) (okT_l hl2) L2 t4 t6 t7 t5 t8 (2 : Int32) (a3 + x_10) a2 (-1 : Int32) (by omega) (fun r hr => (bt_m1 (by omega)).symm) (fun σ6 f6 T6 => ?_)
            have eF : rnF (2 : Int32) R (fun _ => true) (csI G) (fun p => pdI G p a2) (rdG G) (a3 + x_10) (N - 1) = F i := by rw [hF, e10]; rfl
            rw [eF] at T6
            have L6 := LnR_C (okT_l hl2) L2 f6
            obtain ⟨s0, s1, s2, s3, s4, s5, s6, s7, s8, s9⟩ := T6
            rw [s3, s0, s9]
            intro x7 e7 x8 e8
            refine ⟨fun k x9 e9 x10 ex10 => ?_, fun k x9 e9 x10 ex10 => ?_⟩
            · have f := eq_t ex10
              refine ih (i + 1) x7 x8 x9 x10 σ6 L6 (by omega) (by omega) (by rw [e7, h7]; rfl) (by rw [e8, h8]; rfl) ?_ (by omega)
              rw [e9, h9]
              show _ = smT b i + b i
              rw [hb]
              show _ = _ + (if bsT (G 5) (F i) (N - 1) = -1 then (0 : Int32) else 1)
              rw [if_neg k]
            · have f := eq_t ex10
              refine ih (i + 1) x7 x8 x9 x10 σ6 L6 (by omega) (by omega) (by rw [e7, h7]; rfl) (by rw [e8, h8]; rfl) ?_ (by omega)
              rw [e9, h9]
              show _ = smT b i + b i
              rw [hb]
              show _ = _ + (if bsT (G 5) (F i) (N - 1) = -1 then (0 : Int32) else 1)
              rw [if_pos k]
      exact ⟨30, go 30 0 (0 : Int32) (0 : Int32) (0 : Int32) (0 : Int32) σ t9 lit_0 (by omega) rfl rfl rfl (by omega)⟩
    · intro σa sm
      unfold w_X10_lots
      intro σ1 e1
      obtain ⟨H1, u1⟩ := SmR_223 sm e1
      refine b_X10_in a4 (1 : Int32) (20 : Int32) (fun r3 z3 => fun _ => ⟨fun q => absurd q (z3.mpr ⟨by omega, by omega⟩), fun _ => ?_⟩)
      refine b_X10_in a5 (0 : Int32) (2 : Int32) (fun r5 z5 => fun _ => ⟨fun q => absurd q (z5.mpr ⟨by omega, by omega⟩), fun _ => ?_⟩)
      refine f_handX H1 a1 a2 (fun z => absurd ((exW_eq1 u1).mpr ex) z) (fun _ l' N' R' G' hl' tl' σ2 f2 X2 => fun _ => ⟨fun _ => ?_, fun c => absurd c (by decide)⟩)
      have el : l' = l := by omega
      subst el
      obtain ⟨eN, eR, eG⟩ := tlL_eq tl tl' (fun j => u1 229 j (by omega) (by omega))
      subst eN
      subst eR
      subst eG
      have go : ∀ (n i : Nat) (x_6 x_7 : Int32) (σ3 : zSto), RfX l' R' N' G' (csI G') (fun p => pdI G' p a2) σ3 → ti x_7 = (i : Int) → i ≤ M → x_6 = (if a5 = 0 then smT (fun k => F k 3) i else if a5 = 1 then smT (fun k => F k 0) i else smT b i) → M - i < n → w_X10_lots_43 a3 a4 a5 (fun r _ => r = if a5 = 0 then smT (fun k => F k 3) M else if a5 = 1 then smT (fun k => F k 0) M else smT b M) n x_6 x_7 σ3 := by
        intro n
        induction n with
        | zero => intro i x_6 x_7 σ3 _ _ _ _ h; omega
        | succ n ih =>
          intro i x_6 x_7 σ3 X3 hi hiM h6 hn
          unfold w_X10_lots_43
          refine ⟨fun q => ?_, fun q => ?_⟩
          · have c := le_t q
            have e : i = M := by omega
            subst e
            exact h6
          · have c := nle_t q
            have tx := tadd (x := x_7) (y := (1 : Int32)) (by omega)
            have e7 := nI_x hi (by omega)
            refine f_goE X3 (2 : Int32) (a3 + x_7) (by omega) (fun σ6 X6 T6 => ?_)
            have eF : rnF (2 : Int32) R' (fun _ => true) (csI G') (fun p => pdI G' p a2) (rdG G') (a3 + x_7) (N' - 1) = F i := by rw [hF, e7]; rfl
            rw [eF] at T6
            have gt : smT (fun r => F i (10 + r)) R' = F i 3 := by rw [hF]; exact gth t8 (N' - 1)
            have un : F i (40 + (N' - 1)) = -1 := by rw [hF]; exact (rnF_un t8 (N' - 1) (N' - 1) (Nat.le_refl _) (by omega) (by omega)).1
            have eb : bsT (G' 5) (F i) N' = bsT (G' 5) (F i) (N' - 1) := by
              have y := bsT_up (b := G' 5) (S := F i) (N := N' - 1) 1 (fun p a b => by rw [show p = N' - 1 by omega]; exact un)
              rw [show N' - 1 + 1 = N' by omega] at y
              exact y
            refine ⟨fun k => ⟨fun k2 => ?_, fun k2 => fun x15 e15 x16 e16 => ?_⟩, fun k => ?_⟩
            · rw [T6.2.2.1, eb]
              refine ⟨fun k3 x11 e11 x12 e12 => ?_, fun k3 x11 e11 x12 e12 => ?_⟩
              · have f := eq_t e12
                refine ih (i + 1) x11 x12 σ6 X6 (by omega) (by omega) ?_ (by omega)
                rw [e11, h6, if_neg k, if_neg k2, if_neg k, if_neg k2]
                show _ = smT b i + b i
                rw [hb]
                show _ = _ + (if bsT (G' 5) (F i) (N' - 1) = -1 then (0 : Int32) else 1)
                rw [if_pos k3]
              · have f := eq_t e12
                refine ih (i + 1) x11 x12 σ6 X6 (by omega) (by omega) ?_ (by omega)
                rw [e11, h6, if_neg k, if_neg k2, if_neg k, if_neg k2]
                show _ = smT b i + b i
                rw [hb]
                show _ = _ + (if bsT (G' 5) (F i) (N' - 1) = -1 then (0 : Int32) else 1)
                rw [if_neg k3]
            · have f := eq_t e16
              refine ih (i + 1) x15 x16 σ6 X6 (by omega) (by omega) ?_ (by omega)
              rw [e15, h6, if_neg k, if_pos k2, if_neg k, if_pos k2, T6.1.1]
              rfl
            · refine f_X10_gathered X6 (fun r hr => (T6.1.2.2.2.1 r hr).1) ?_
              intro x19 e19 x20 e20
              have f := eq_t e20
              refine ih (i + 1) x19 x20 σ6 X6 (by omega) (by omega) ?_ (by omega)
              rw [e19, h6, if_pos k, if_pos k, gt]
              rfl
      exact ⟨30, go 30 0 (0 : Int32) (0 : Int32) σ2 X2 lit_0 (by omega) (by split; rfl; split <;> rfl) (by omega)⟩
  · refine ⟨-1, ?_, ?_⟩
    · unfold w_X9_lots
      refine f_X8_lineAt a1 H.1 (fun _ => ⟨fun _ => rfl, fun j3 e3 => (by cases e3)⟩) (fun l' hl' hl2 hc => ⟨fun z => (by cases z), fun j3 e3 => ?_⟩)
      have e3' := Option.some.inj e3
      subst e3'
      refine ⟨isT_L (isN_T (by unfold isN; omega)), f_X9_isWeek a2 (fun r5 z5 => fun _ => ⟨fun _ => rfl, fun q5 => ⟨fun _ => rfl, fun k1 => ⟨fun _ => rfl, fun k2 => ⟨fun _ => rfl, fun k3 => ⟨fun k4 => ?_, fun _ => rfl⟩⟩⟩⟩⟩)⟩
      have w := z5.mp q5
      have y1 := nlt_t k1
      have y2 := nlt_t k2
      have y3 := nlt_t k3
      have y4 := le_t k4
      exact absurd ⟨⟨by omega, by omega, w.1, w.2⟩, ⟨by omega, by omega⟩, ⟨by omega, by omega⟩⟩ ex
    · intro σa sm
      unfold w_X10_lots
      intro σ1 e1
      obtain ⟨H1, u1⟩ := SmR_223 sm e1
      refine b_X10_in a4 (1 : Int32) (20 : Int32) (fun r3 z3 => fun _ => ⟨fun _ => rfl, fun q3 => ?_⟩)
      refine b_X10_in a5 (0 : Int32) (2 : Int32) (fun r5 z5 => fun _ => ⟨fun _ => rfl, fun q5 => ?_⟩)
      have w3 := z3.mp q3
      have w5 := z5.mp q5
      exact f_handX H1 a1 a2 (fun _ => fun _ => ⟨fun c => absurd rfl c, fun _ => rfl⟩) (fun e => absurd ⟨(exW_eq1 u1).mp e, ⟨by omega, by omega⟩, ⟨by omega, by omega⟩⟩ ex)
theorem m_lots {σ : zSto} (H : Lz σ) (a1 a2 a3 a4 a5 : Int32) {P : Int32 → zSto → Prop} (hP : ∀ r σa, (∀ Q : Int32 → zSto → Prop, (∀ σ2, Lz σ2 → Q r σ2) → w_X10_lots a1 a2 a3 a4 a5 σa Q) → P r σa) : w_X9_lots a1 a2 a3 a4 a5 σ P := by
  obtain ⟨A, hc, hr⟩ := al_lots H a1 a2 a3 a4 a5
  exact cj_X9_lots (P := fun _ σa => zInv AC σ.1 3 σa) (Q := fun r _ => r = A) (fun r σa i e2 => by
    subst e2
    have sm := SmR_C H i
    exact hP _ _ (fun Q hQ => cj_X10_lots (P := fun _ σb => zInv AR2 σa.1 3 σb) (Q := fun r' _ => r' = r) (fun r' σb i e => by
      subst e
      exact hQ σb (Lz_R sm.1 i)) (s_X10_lots (A := AR2) (F := σa.1) ar2_r a1 a2 a3 a4 a5 (inv_any sm.1.1) (fun _ _ i => i)) (hr σa sm))) (s_X9_lots (A := AC) (F := σ.1) ac_c a1 a2 a3 a4 a5 (inv_any H.1) (fun _ _ i => i)) hc
