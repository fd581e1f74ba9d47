set_option maxHeartbeats 8000000 in
theorem al_rest {σ : zSto} (H : Lz σ) (a1 a2 a3 : Int32) : ∃ A : Int32, w_X9_rest a1 a2 a3 σ (fun r _ => r = A) ∧ ∀ σa, SmR σ σa → w_X10_rest a1 a2 a3 σa (fun r _ => r = A) := by
  have l0 := lit_0
  have l1 := lit_1
  have lm1 := lit_m1
  have d : 0 ≤ ti (σ.1 42 0) ∧ ti (σ.1 42 0) ≤ 2 := rdg H.1.1 kd_42 rfl rfl
  by_cases ex : exW σ a1 a2
  · obtain ⟨l, hl⟩ : ∃ l : Nat, ti a1 = (l : Int) := ⟨(ti a1).toNat, by have := ex.1; omega⟩
    obtain ⟨N, R, G, tl⟩ := tlL_of H (l := l) (by have := ex.2.1; omega) (by have := ex.2.1; omega)
    obtain ⟨t1, t2, t3, t4, t5, t6, t7, t8, t9⟩ := id tl
    have ln := LnN_of H tl
    have ev := ev_ti t8
    have pw := pw_le t8
    obtain ⟨M, hM⟩ : ∃ M : Nat, M = 2 ^ R := ⟨_, rfl⟩
    rw [← hM] at ev pw
    obtain ⟨gn, hgn⟩ : ∃ gn : Nat → Nat → Int32, gn = fun k r => gnA G (rnA 0 R (bt (Int32.ofNat k)) G a2 0 N) r := ⟨_, rfl⟩
    obtain ⟨Rs, hRs⟩ : ∃ Rs : Nat → Bool, ∀ k, (Rs k = true ↔ ∀ r, r < R → gn (k ^^^ 2 ^ r) r ≤ gn k r) := ⟨fun k => @decide (∀ r, r < R → gn (k ^^^ 2 ^ r) r ≤ gn k r) (Classical.propDecidable _), fun k => ⟨fun h => @of_decide_eq_true _ (Classical.propDecidable _) h, fun h => @decide_eq_true _ (Classical.propDecidable _) h⟩⟩
    have sy : ∀ n i x, Rs i = true → ¬ x = a3 → rsA Rs a3 (n + 1) i x = rsA Rs a3 n (i + 1) (x + 1) := fun n i x h k => by
      show (if Rs i = true then (if x = a3 then Int32.ofNat i else rsA Rs a3 n (i + 1) (x + 1)) else rsA Rs a3 n (i + 1) x) = _
      rw [if_pos h, if_neg k]
    have se : ∀ n i x, Rs i = true → x = a3 → rsA Rs a3 (n + 1) i x = Int32.ofNat i := fun n i x h k => by
      show (if Rs i = true then (if x = a3 then Int32.ofNat i else rsA Rs a3 n (i + 1) (x + 1)) else rsA Rs a3 n (i + 1) x) = _
      rw [if_pos h, if_pos k]
    have sn : ∀ n i x, ¬ Rs i = true → rsA Rs a3 (n + 1) i x = rsA Rs a3 n (i + 1) x := fun n i x h => by
      show (if Rs i = true then (if x = a3 then Int32.ofNat i else rsA Rs a3 n (i + 1) (x + 1)) else rsA Rs a3 n (i + 1) x) = _
      rw [if_neg h]
    have s0 : ∀ i x, rsA Rs a3 0 i x = if a3 = -1 then x else -2 := fun i x => rfl
    refine ⟨rsA Rs a3 M 0 0, ?_, ?_⟩
    · unfold w_X9_rest
      refine f_X8_lineAt a1 H.1 (fun z => absurd ⟨ex.1, ex.2.1⟩ z) (fun l' hl' hl2 hc => ⟨fun z => (by cases z), fun j3 e3 => ?_⟩)
      have e3' := Option.some.inj e3
      subst e3'
      have el : l' = l := by omega
      subst el
      refine ⟨isT_L (isN_T (by unfold isN; omega)), f_X9_isWeek a2 (fun r5 z5 => fun _ => ⟨fun q5 => absurd q5 (z5.mpr ⟨ex.2.2.1, ex.2.2.2⟩), fun _ => ⟨fun _ => ?_, fun k => (rsA_lo (by have := nle_t k; omega) M 0 0 (by omega) (by omega)).symm⟩⟩)⟩
      refine f_X9_fillGains (okT_l hl2) t9 t4 t6 t7 t5 t8 ln a2 (fun σ2 L2 g2 => ?_)
      rw [← hM, ← hgn] at g2
      have go : ∀ (n i : Nat) (x_5 x_6 : Int32), ti x_6 = (i : Int) → i ≤ M → rsA Rs a3 (M - i) i x_5 = rsA Rs a3 M 0 0 → M - i < n → w_X9_rest_43 a3 (4 + 12 * l') (fun r _ => r = rsA Rs a3 M 0 0) n x_5 x_6 σ2 := by
        intro n
        induction n with
        | zero => intro i x_5 x_6 _ _ _ h; omega
        | succ n ih =>
          intro i x_5 x_6 hi hiM hA hn
          have e12 : σ2.1 (4 + 12 * l') 12 = Int32.ofNat R := t_inj (by rw [L2.1 1 (by omega), t5]; exact (nI_t (by omega)).symm)
          unfold w_X9_rest_43 w_X0_riderSets
          rw [e12]
          refine ⟨fun q => ?_, fun q => ?_⟩
          · have c := le_t q
            rw [show M - i = 0 by omega, s0] at hA
            refine ⟨fun k => ?_, fun k => ?_⟩
            · rw [if_neg k] at hA; exact hA
            · rw [if_pos k] at hA; exact hA
          · have c := nle_t q
            have tx := tadd (x := x_6) (y := (1 : Int32)) (by omega)
            have e6 := nI_x hi (by omega)
            have ei : M - (i + 1) + 1 = M - i := by omega
            rw [← ei] at hA
            refine f_X9_isAtRest L2 t5 t8 hM g2 x_6 hi (by omega) (fun y => ?_) (fun y => ?_)
            · have y2 := (hRs i).mpr y
              refine fun _ => ⟨fun z => absurd z (by decide), fun _ => ⟨fun k x12 e12 x13 e13 => ?_, fun k => ?_⟩⟩
              · have f := eq_t e13
                rw [sy _ _ _ y2 k] at hA
                exact ih (i + 1) x12 x13 (by omega) (by omega) (by rw [e12]; exact hA) (by omega)
              · rw [se _ _ _ y2 k] at hA
                rw [← hA]
                exact e6
            · have y2 : ¬ Rs i = true := fun z => y ((hRs i).mp z)
              refine fun _ => ⟨fun _ x11 e11 => ?_, fun z => absurd rfl z⟩
              have f := eq_t e11
              rw [sn _ _ _ y2] at hA
              exact ih (i + 1) x_5 x11 (by omega) (by omega) hA (by omega)
      exact ⟨100, go 100 0 (0 : Int32) (0 : Int32) lit_0 (by omega) rfl (by omega)⟩
    · intro σa sm
      unfold w_X10_rest
      intro σ1 e1
      obtain ⟨H1, u1⟩ := SmR_223 sm e1
      refine f_handX H1 a1 a2 (fun z => absurd ((exW_eq1 u1).mpr ex) z) (fun _ l' N' R' G' hl' tl' σ2 f2 X2 => fun _ => ⟨fun _ => ?_, fun c => absurd c (by decide)⟩)
      have el : l' = l := by omega
      subst el
      obtain ⟨eN, eR, eG⟩ := tlL_eq tl tl' (fun j => u1 229 j (by omega) (by omega))
      subst eN
      subst eR
      subst eG
      have ts := tsub (x := (1 : Int32) <<< (Int32.ofNat R' &&& 31)) (y := (1 : Int32)) (by omega)
      have go : ∀ (n i : Nat) (x_4 x_5 : Int32) (σ3 : zSto), RfX l' R' N' G' (csI G') (fun p => pdI G' p a2) σ3 → ti x_5 = (i : Int) → i ≤ M → rsA Rs a3 (M - i) i x_4 = rsA Rs a3 M 0 0 → M - i < n → w_X10_rest_23 a3 (fun r _ => r = rsA Rs a3 M 0 0) n x_4 x_5 σ3 := by
        intro n
        induction n with
        | zero => intro i x_4 x_5 σ3 _ _ _ _ h; omega
        | succ n ih =>
          intro i x_4 x_5 σ3 X3 hi hiM hA hn
          have h26 := X3.2.2.2.2.1
          have e26 : σ3.1 223 26 = Int32.ofNat R' := t_inj (by rw [h26]; exact (nI_t (by omega)).symm)
          unfold w_X10_rest_23 w_X10_everyone
          rw [e26]
          refine ⟨fun q => ?_, fun q => ?_⟩
          · have c := lt_t q
            rw [show M - i = 0 by omega, s0] at hA
            refine ⟨fun k => ?_, fun k => ?_⟩
            · rw [if_neg k] at hA; exact hA
            · rw [if_pos k] at hA; exact hA
          · have c := nlt_t q
            have tx := tadd (x := x_5) (y := (1 : Int32)) (by omega)
            have e5 := nI_x hi (by omega)
            have ei : M - (i + 1) + 1 = M - i := by omega
            rw [← ei] at hA
            refine f_X10_isRest hgn ln hM X3 x_5 hi (by omega) (fun y σ6 X6 => ?_) (fun y σ6 X6 => ?_)
            · have y2 := (hRs i).mpr y
              refine fun _ => ⟨fun z => absurd z (by decide), fun _ => ⟨fun k x12 e12 x13 e13 => ?_, fun k => ?_⟩⟩
              · have f := eq_t e13
                rw [sy _ _ _ y2 k] at hA
                exact ih (i + 1) x12 x13 σ6 X6 (by omega) (by omega) (by rw [e12]; exact hA) (by omega)
              · rw [se _ _ _ y2 k] at hA
                rw [← hA]
                exact e5
            · have y2 : ¬ Rs i = true := fun z => y ((hRs i).mp z)
              refine fun _ => ⟨fun _ x11 e11 => ?_, fun z => absurd rfl z⟩
              have f := eq_t e11
              rw [sn _ _ _ y2] at hA
              exact ih (i + 1) x_4 x11 σ6 X6 (by omega) (by omega) hA (by omega)
      exact ⟨100, go 100 0 (0 : Int32) (0 : Int32) σ2 X2 lit_0 (by omega) rfl (by omega)⟩
  · refine ⟨-2, ?_, ?_⟩
    · unfold w_X9_rest
      refine f_X8_lineAt a1 H.1 (fun _ => ⟨fun _ => rfl, fun j3 e3 => (by cases e3)⟩) (fun l' hl' hl2 hc => ⟨fun z => (by cases z), fun j3 e3 => ?_⟩)
      have e3' := Option.some.inj e3
      subst e3'
      exact ⟨isT_L (isN_T (by unfold isN; omega)), f_X9_isWeek a2 (fun r5 z5 => fun _ => ⟨fun _ => rfl, fun q5 => absurd ⟨by omega, by omega, (z5.mp q5).1, (z5.mp q5).2⟩ ex⟩)⟩
    · intro σa sm
      unfold w_X10_rest
      intro σ1 e1
      obtain ⟨H1, u1⟩ := SmR_223 sm e1
      exact f_handX H1 a1 a2 (fun _ => fun _ => ⟨fun c => absurd rfl c, fun _ => rfl⟩) (fun e => absurd ((exW_eq1 u1).mp e) ex)
theorem m_rest {σ : zSto} (H : Lz σ) (a1 a2 a3 : Int32) {P : Int32 → zSto → Prop} (hP : ∀ r σa, (∀ Q : Int32 → zSto → Prop, (∀ σ2, Lz σ2 → Q r σ2) → w_X10_rest a1 a2 a3 σa Q) → P r σa) : w_X9_rest a1 a2 a3 σ P := by
  obtain ⟨A, hc, hr⟩ := al_rest H a1 a2 a3
  exact cj_X9_rest (P := fun _ σa => zInv AC σ.1 3 σa) (Q := fun r _ => r = A) (fun r σa i e2 => by
    subst e2
    have sm := SmR_C H i
    exact hP _ _ (fun Q hQ => cj_X10_rest (P := fun _ σb => zInv AR2 σa.1 3 σb) (Q := fun r' _ => r' = r) (fun r' σb i e => by
      subst e
      exact hQ σb (Lz_R sm.1 i)) (s_X10_rest (A := AR2) (F := σa.1) ar2_r a1 a2 a3 (inv_any sm.1.1) (fun _ _ i => i)) (hr σa sm))) (s_X9_rest (A := AC) (F := σ.1) ac_c a1 a2 a3 (inv_any H.1) (fun _ _ i => i)) hc
