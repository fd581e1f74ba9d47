theorem m_most {σ : zSto} (H : Lz σ) (a1 a2 a3 a4 : Int32) {P : Int32 → zSto → Prop} (hP : ∀ r σa, (∀ Q : Int32 → zSto → Prop, (∀ σ2, Lz σ2 → Q r σ2) → w_X10_most a1 a2 a3 a4 σa Q) → P r σa) : w_X9_most a1 a2 a3 a4 σ P := by
  obtain ⟨A, hc, hr⟩ := al_most H a1 a2 a3 a4
  exact cj_X9_most (P := fun _ σa => zInv AC σ.1 3 σa) (Q := fun r _ => r = A) (fun r σa i e2 => by
    subst e2
    have sm := SmR_C H i
    exact hP _ _ (fun Q hQ => cj_X10_most (P := fun _ σb => zInv AR2 σa.1 3 σb) (Q := fun r' _ => r' = r) (fun r' σb i e => by
      subst e
      exact hQ σb (Lz_R sm.1 i)) (s_X10_most (A := AR2) (F := σa.1) ar2_r a1 a2 a3 a4 (inv_any sm.1.1) (fun _ _ i => i)) (hr σa sm))) (s_X9_most (A := AC) (F := σ.1) ac_c a1 a2 a3 a4 (inv_any H.1) (fun _ _ i => i)) hc
/-! GAIN -/
theorem ev_t : ∀ R, R < 7 → ((1 : Int32) <<< (Int32.ofNat R &&& 31)).toInt = 2 ^ R := by decide +kernel
theorem ev_ti {R : Nat} (h : R ≤ 6) : ti ((1 : Int32) <<< (Int32.ofNat R &&& 31)) = ((2 ^ R : Nat) : Int) := by
  rw [ti_eq, ev_t R (by omega)]
  simp
theorem pw_le {R : Nat} (h : R ≤ 6) : 1 ≤ 2 ^ R ∧ 2 ^ R ≤ 64 := by
  rcases (show R = 0 ∨ R = 1 ∨ R = 2 ∨ R = 3 ∨ R = 4 ∨ R = 5 ∨ R = 6 by omega) with e | e | e | e | e | e | e <;> subst e <;> decide
def gnA (G S : Nat → Int32) (r : Nat) : Int32 := (10 : Int32) * S (20 + r) - csB (csI G) S (rdG G r 1).toNatClampNeg
theorem f_X5_gainOf {t N R : Nat} {G pd S : Nat → Int32} {i : Nat} {σ : zSto} (L : LnR t G σ) (hN : ti (G 0) = (N : Int)) (hR : ti (G 1) = (R : Int)) (ln : LnN N R G) (T : CsS N R G pd S i σ) (a2 : Int32) {r : Nat} (h2 : ti a2 = (r : Int)) (hr : r < R) {P : Int32 → zSto → Prop} (hP : P (gnA G S r) σ) : w_X5_gainOf t a2 σ P := by
  have tn := tn_eq a2
  have R6 := ln.2.1
  have o := ln.2.2.2.2.2.2 r hr
  have tno := tn_eq (rdG G r 1)
  have e7 : σ.1 (t + 7) r = rdG G r 1 := L.2.2 r 1 (by omega) (by omega) (by omega)
  unfold w_X5_gainOf
  rw [show a2.toNatClampNeg = r by omega, e7, (T.2.2.2.2.1 r hr).2]
  refine ⟨vin (by omega), vin (by omega), f_costsBefore L hN ln.1 _ _ (p := (rdG G r 1).toNatClampNeg) (by omega) (by omega) T.2.2.2.2.2.2.2.1 ?_⟩
  exact hP
theorem f_X10_gainNow {l R N : Nat} {G pd S : Nat → Int32} {σ : zSto} (X : RfX l R N G (csI G) pd σ) (ln : LnN N R G) (T : RfS S N σ) (a1 : Int32) {r : Nat} (h1 : ti a1 = (r : Int)) (hr : r < R) {P : Int32 → zSto → Prop} (hP : P (gnA G S r) σ) : w_X10_gainNow a1 σ P := by
  have l1 := lit_1
  have R6 := ln.2.1
  have N16 := ln.1
  have o := ln.2.2.2.2.2.2 r hr
  have tno := tn_eq (rdG G r 1)
  have tn1 := tn_eq a1
  have go : ∀ (n i : Nat) (x_2 x_3 : Int32), ti x_3 = (i : Int) → i ≤ (rdG G r 1).toNatClampNeg → x_2 = csB (csI G) S i → (rdG G r 1).toNatClampNeg - i < n → w_X10_gainNow_4 a1 P n x_2 x_3 σ := by
    intro n
    induction n with
    | zero => intro i x_2 x_3 _ _ _ h; omega
    | succ n ih =>
      intro i x_2 x_3 hi hiN h2 hn
      unfold w_X10_gainNow_4
      refine f_rdOf (c := 1) X _ _ h1 (by omega) lit_1 (by omega) ⟨fun q => ?_, fun q => ?_⟩
      · have c := le_t q
        have e : i = (rdG G r 1).toNatClampNeg := by omega
        rw [show a1.toNatClampNeg = r by omega, (T.2.2.2.1 r (by omega)).2.1, h2, e]
        exact ⟨vin (by omega), hP⟩
      · have c := nle_t q
        have tn := tn_eq x_3
        have t1 := tadd (x := x_3) (y := (1 : Int32)) (by omega)
        obtain ⟨c1, _, _⟩ := X.2.2.2.2.2.2.2.2.2 i (by omega)
        rw [show x_3.toNatClampNeg = i by omega, (T.2.2.2.2 i (by omega)).1, c1]
        refine ⟨vin (by omega), fun k x5 e5 x6 e6 => ?_, fun k => ⟨vin (by omega), fun x5 e5 x6 e6 => ?_⟩⟩
        · have f := eq_t e6
          refine ih (i + 1) x5 x6 (by omega) (by omega) ?_ (by omega)
          rw [e5, h2, Int32.add_zero]
          show _ = if S (40 + i) = -1 then csB (csI G) S i else csB (csI G) S i + csI G i
          rw [if_pos k]
        · have f := eq_t e6
          refine ih (i + 1) x5 x6 (by omega) (by omega) ?_ (by omega)
          rw [e5, h2]
          show _ = if S (40 + i) = -1 then csB (csI G) S i else csB (csI G) S i + csI G i
          rw [if_neg k]
  exact ⟨100, go 100 0 (0 : Int32) (0 : Int32) lit_0 (by omega) rfl (by omega)⟩
set_option maxHeartbeats 4000000 in
theorem al_gain {σ : zSto} (H : Lz σ) (a1 a2 a3 a4 : Int32) : ∃ A : Int32, w_X9_gain a1 a2 a3 a4 σ (fun r _ => r = A) ∧ ∀ σa, SmR σ σa → w_X10_gain a1 a2 a3 a4 σa (fun r _ => r = A) := by
  have l0 := lit_0
  have l1 := lit_1
  have d : 0 ≤ ti (σ.1 42 0) ∧ ti (σ.1 42 0) ≤ 2 := rdg H.1.1 kd_42 rfl rfl
  by_cases ex : exW σ a1 a2
  · obtain ⟨l, hl⟩ : ∃ l : Nat, ti a1 = (l : Int) := ⟨(ti a1).toNat, by have := ex.1; omega⟩
    obtain ⟨N, R, G, tl⟩ := tlL_of H (l := l) (by have := ex.2.1; omega) (by have := ex.2.1; omega)
    obtain ⟨t1, t2, t3, t4, t5, t6, t7, t8, t9⟩ := id tl
    have ln := LnN_of H tl
    have ev := ev_ti t8
    have pw := pw_le t8
    have e12 : σ.1 (4 + 12 * l) 12 = Int32.ofNat R := t_inj (by rw [t9.1 1 (by omega), t5]; exact (nI_t (by omega)).symm)
    refine ⟨if (0 ≤ ti a3 ∧ ti a3 < ((2 ^ R : Nat) : Int)) ∧ (0 ≤ ti a4 ∧ ti a4 < (R : Int)) then gnA G (rnA 0 R (bt a3) G a2 0 N) (ti a4).toNat else -1000000, ?_, ?_⟩
    · unfold w_X9_gain
      refine f_X8_lineAt a1 H.1 (fun z => absurd ⟨ex.1, ex.2.1⟩ z) (fun l' hl' hl2 hc => ⟨fun z => (by cases z), fun j3 e3 => ?_⟩)
      have e3' := Option.some.inj e3
      subst e3'
      have el : l' = l := by omega
      subst el
      refine ⟨isT_L (isN_T (by unfold isN; omega)), f_X9_isWeek a2 (fun r5 z5 => fun _ => ⟨fun q5 => absurd q5 (z5.mpr ⟨ex.2.2.1, ex.2.2.2⟩), fun q5 => ?_⟩)⟩
      refine f_X0_hasRider _ a4 (fun r7 z7 => fun _ => ⟨fun q7 => ?_, fun q7 => ?_⟩)
      · have w7 := z7.mp q7
        rw [e12, show ti (Int32.ofNat R) = (R : Int) from nI_t (by omega)] at w7
        refine ⟨fun k => by rw [if_neg (fun y => by have := lt_t k; omega)], fun k => ?_⟩
        have k1 := nlt_t k
        unfold w_X0_riderSets
        rw [e12]
        refine ⟨fun k2 => ?_, fun k2 => by rw [if_neg (fun y => by have := nlt_t k2; omega)]⟩
        have k3 := lt_t k2
        refine f_X5_byLaw (so := bt a3) (okT_l hl2) t9 t4 t6 t7 t5 t8 (0 : Int32) (0 : Int32) a2 a3 (by omega) (fun r hr => rfl) (fun σ6 f6 T6 => ?_)
        refine f_X5_gainOf (LnR_C (okT_l hl2) t9 f6) t4 t5 ln T6 a4 (r := (ti a4).toNat) (by omega) (by omega) ?_
        rw [if_pos (by omega)]
        rfl
      · rw [if_neg (fun y => z7.mpr (by rw [e12, show ti (Int32.ofNat R) = (R : Int) from nI_t (by omega)]; exact y.2) q7)]
    · intro σa sm
      unfold w_X10_gain
      intro σ1 e1
      obtain ⟨H1, u1⟩ := SmR_223 sm e1
      refine f_handX H1 a1 a2 (fun z => absurd ((exW_eq1 u1).mpr ex) z) (fun _ l' N' R' G' hl' tl' σ2 f2 X2 => fun _ => ⟨fun c => absurd c (by decide), fun _ => ?_⟩)
      have el : l' = l := by omega
      subst el
      obtain ⟨eN, eR, eG⟩ := tlL_eq tl tl' (fun j => u1 229 j (by omega) (by omega))
      subst eN
      subst eR
      subst eG
      have h26 := X2.2.2.2.2.1
      have e26 : σ2.1 223 26 = Int32.ofNat R' := t_inj (by rw [h26]; exact (nI_t (by omega)).symm)
      unfold w_X10_everyone
      rw [e26]
      have ts := tsub (x := (1 : Int32) <<< (Int32.ofNat R' &&& 31)) (y := (1 : Int32)) (by omega)
      refine b_X10_in a3 (0 : Int32) _ (fun r7 z7 => fun _ => ⟨fun q7 => ?_, fun q7 => ?_⟩)
      · rw [if_neg (fun y => z7.mpr (by omega) q7)]
      · have w7 := z7.mp q7
        refine f_X10_isRider a4 (by omega) (fun r9 z9 => fun _ => ⟨fun q9 => ?_, fun q9 => ?_⟩)
        · rw [if_neg (fun y => z9.mpr (by omega) q9)]
        · have w9 := z9.mp q9
          unfold w_X10_gainOf
          refine f_X10_go (so := bt a3) X2 (0 : Int32) (0 : Int32) a3 (by omega) (fun r hr => rfl) (fun σ3 f3 T3 => ?_)
          refine f_X10_gainNow (FrG_X X2 f3) ln T3.1 a4 (r := (ti a4).toNat) (by omega) (by omega) ?_
          rw [if_pos (by omega)]
          rfl
  · refine ⟨-1000000, ?_, ?_⟩
    · unfold w_X9_gain
      refine f_X8_lineAt a1 H.1 (fun _ => ⟨fun _ => rfl, fun j3 e3 => (by cases e3)⟩) (fun l' hl' hl2 hc => ⟨fun z => (by cases z), fun j3 e3 => ?_⟩)
      have e3' := Option.some.inj e3
      subst e3'
      exact ⟨isT_L (isN_T (by unfold isN; omega)), f_X9_isWeek a2 (fun r5 z5 => fun _ => ⟨fun _ => rfl, fun q5 => absurd ⟨by omega, by omega, (z5.mp q5).1, (z5.mp q5).2⟩ ex⟩)⟩
    · intro σa sm
      unfold w_X10_gain
      intro σ1 e1
      obtain ⟨H1, u1⟩ := SmR_223 sm e1
      exact f_handX H1 a1 a2 (fun _ => fun _ => ⟨fun _ => rfl, fun c => absurd rfl c⟩) (fun e => absurd ((exW_eq1 u1).mp e) ex)
theorem m_gain {σ : zSto} (H : Lz σ) (a1 a2 a3 a4 : Int32) {P : Int32 → zSto → Prop} (hP : ∀ r σa, (∀ Q : Int32 → zSto → Prop, (∀ σ2, Lz σ2 → Q r σ2) → w_X10_gain a1 a2 a3 a4 σa Q) → P r σa) : w_X9_gain a1 a2 a3 a4 σ P := by
  obtain ⟨A, hc, hr⟩ := al_gain H a1 a2 a3 a4
  exact cj_X9_gain (P := fun _ σa => zInv AC σ.1 3 σa) (Q := fun r _ => r = A) (fun r σa i e2 => by
    subst e2
    have sm := SmR_C H i
    exact hP _ _ (fun Q hQ => cj_X10_gain (P := fun _ σb => zInv AR2 σa.1 3 σb) (Q := fun r' _ => r' = r) (fun r' σb i e => by
      subst e
      exact hQ σb (Lz_R sm.1 i)) (s_X10_gain (A := AR2) (F := σa.1) ar2_r a1 a2 a3 a4 (inv_any sm.1.1) (fun _ _ i => i)) (hr σa sm))) (s_X9_gain (A := AC) (F := σ.1) ac_c a1 a2 a3 a4 (inv_any H.1) (fun _ _ i => i)) hc
