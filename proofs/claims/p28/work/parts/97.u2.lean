/-! meet on both sides -/
def meA (G : Nat → Int32) (N : Nat) (st : Nat → Bool) (a5 : Int32) : Int32 := if 100 ≤ a5.toInt ∧ a5.toInt < 100 + (N : Int) then aaF G N st (a5.toInt - 100).toNat else if 200 ≤ a5.toInt ∧ a5.toInt < 200 + (N : Int) then wwF G N st (a5.toInt - 200).toNat else if a5.toInt = 0 then aaF G N st (N - 1) else if a5.toInt = 1 then smT (wwF G N st) N else if a5.toInt = 2 then mtF G N st N else -2
theorem f_X10_of6 {l R N : Nat} {G cs pd : Nat → Int32} {σ : zSto} (X : RfX l R N G cs pd σ) {P : Int32 → zSto → Prop} (hP : P (G 6) σ) : w_X10_of (6 : Int32) σ P := by
  refine f_of (s := 6) X.1 X.2.1 _ lit_6 (by omega) ?_
  rw [X.2.2.2.2.2.2.2.2.1 6 (by omega)]
  exact hP
set_option maxHeartbeats 8000000 in
theorem al_meet {σ : zSto} (H : Lz σ) (a1 a2 a3 a4 a5 : Int32) : ∃ A : Int32, w_X9_meet a1 a2 a3 a4 a5 σ (fun r _ => r = A) ∧ ∀ σa, SmR σ σa → w_X10_meet a1 a2 a3 a4 a5 σa (fun r _ => r = A) := by
  have l0 := lit_0
  have l1 := lit_1
  have l2 := lit_2
  have l100 := lit_100
  have l200 := lit_200
  have e5 := ti_eq a5
  by_cases ex : exR σ a1 a2 a4
  · obtain ⟨l, hl⟩ : ∃ l : Nat, ti a1 = (l : Int) := ⟨(ti a1).toNat, by have := ex.1; omega⟩
    have d : 0 ≤ ti (σ.1 42 0) ∧ ti (σ.1 42 0) ≤ 2 := rdg H.1.1 kd_42 rfl rfl
    obtain ⟨N, R, G, tl⟩ := tlL_of H (l := l) (by have := ex.2.1; omega) (by have := ex.2.1; omega)
    obtain ⟨t1, t2, t3, t4, t5, t6, t7, t8, t9⟩ := id tl
    obtain ⟨S, hS⟩ : ∃ S, S = rnA a2 R (fun _ => true) G a4 a3 N := ⟨_, rfl⟩
    obtain ⟨st, hst⟩ : ∃ st : Nat → Bool, ∀ p, st p = decide (¬ S (40 + p) = -1) := ⟨fun p => decide (¬ S (40 + p) = -1), fun _ => rfl⟩
    refine ⟨if G 6 = -1 then -2 else meA G N st a5, ?_, ?_⟩
    · unfold w_X9_meet
      refine f_X9_ridden H a1 a2 a3 a4 (fun z => absurd ex z) (fun _ l' N' R' G' hl' tl' σ2 f2 T2 => ?_)
      have el : l' = l := by omega
      subst el
      obtain ⟨eN, eR, eG⟩ := tlL_eq tl tl' (fun _ => rfl)
      subst eN
      subst eR
      subst eG
      rw [← hS] at T2
      refine ⟨fun z => (by cases z), fun j3 e3 => ?_⟩
      have e3' := Option.some.inj e3
      subst e3'
      have L2 := LnR_C (okT_l t1) t9 f2
      have e17 : σ2.1 (4 + 12 * l') 17 = G' 6 := L2.1 6 (by omega)
      refine ⟨isT_L (isN_T (by unfold isN; omega)), ?_⟩
      rw [e17]
      refine ⟨fun k => ?_, fun k => by rw [if_pos k]⟩
      rw [if_neg k]
      refine f_X1_follow (by omega) L2 t4 t6 t7 _ (st := st) (fun p hp => ?_) (fun σ4 f4 F4 => ?_)
      · rw [T2.2.2.2.2.2.2.2.1 p (by omega), hst, decide_eq_true (show p < 16 by omega), Bool.true_and]
      obtain ⟨F1, F2, F3⟩ := F4
      have L4 : LnR (4 + 12 * l') G' σ4 := LnR_fr L2 (fun k j a b => f4 k j (by omega))
      have e11 : ti (σ4.1 (4 + 12 * l') 11) = (N' : Int) := by rw [L4.1 0 (by omega)]; exact t4
      have ts1 := tsub (x := σ4.1 (4 + 12 * l') 11) (y := (1 : Int32)) (by omega)
      have ta1 := tadd (x := (100 : Int32)) (y := σ4.1 (4 + 12 * l') 11) (by omega)
      have ta2 := tadd (x := (200 : Int32)) (y := σ4.1 (4 + 12 * l') 11) (by omega)
      have n1 := tn_eq (σ4.1 (4 + 12 * l') 11 - (1 : Int32))
      have n2 := tn_eq (a5 - (100 : Int32))
      have n3 := tn_eq (a5 - (200 : Int32))
      have sw : ¬ (100 ≤ a5.toInt ∧ a5.toInt < 100 + (N' : Int)) → ¬ (200 ≤ a5.toInt ∧ a5.toInt < 200 + (N' : Int)) → ((a5 = 0 → (vp_in ((σ4.1 (4 + 12 * l') 11) - (1 : Int32)) 16 ∧ (fun (r : Int32) (_ : zSto) => r = meA G' N' st a5) (σ4.1 196 (((σ4.1 (4 + 12 * l') 11) - (1 : Int32))).toNatClampNeg) σ4)) ∧ (a5 = 1 → (fun (r : Int32) (_ : zSto) => r = meA G' N' st a5) (σ4.1 195 2) σ4) ∧ (a5 = 2 → (fun (r : Int32) (_ : zSto) => r = meA G' N' st a5) (σ4.1 195 3) σ4) ∧ ((a5.toInt < 0 ∨ 2 < a5.toInt) → (fun (r : Int32) (_ : zSto) => r = meA G' N' st a5) (-2 : Int32) σ4)) := fun w1 w2 => by
        refine ⟨fun q => ⟨vin (by omega), ?_⟩, fun q => ?_, fun q => ?_, fun q => ?_⟩
        · have := eq_t q
          show _ = meA G' N' st a5
          unfold meA
          rw [if_neg w1, if_neg w2, if_pos (by omega), show (σ4.1 (4 + 12 * l') 11 - (1 : Int32)).toNatClampNeg = N' - 1 by omega]
          exact (F1 (N' - 1) (by omega)).1
        · have := eq_t q
          show _ = meA G' N' st a5
          unfold meA
          rw [if_neg w1, if_neg w2, if_neg (by omega), if_pos (by omega)]
          exact F2
        · have := eq_t q
          show _ = meA G' N' st a5
          unfold meA
          rw [if_neg w1, if_neg w2, if_neg (by omega), if_neg (by omega), if_pos (by omega)]
          exact F3
        · show _ = meA G' N' st a5
          unfold meA
          rw [if_neg w1, if_neg w2, if_neg (by omega), if_neg (by omega), if_neg (by omega)]
      have wt : ¬ (100 ≤ a5.toInt ∧ a5.toInt < 100 + (N' : Int)) → (200 ≤ a5.toInt ∧ a5.toInt < 200 + (N' : Int)) → (vp_in (a5 - (200 : Int32)) 16 ∧ (fun (r : Int32) (_ : zSto) => r = meA G' N' st a5) (σ4.1 197 ((a5 - (200 : Int32))).toNatClampNeg) σ4) := fun w1 w2 => by
        have tb := tsub (x := a5) (y := (200 : Int32)) (by omega)
        refine ⟨vin (by omega), ?_⟩
        show _ = meA G' N' st a5
        unfold meA
        rw [if_neg w1, if_pos w2, show (a5 - (200 : Int32)).toNatClampNeg = (a5.toInt - 200).toNat by omega]
        exact (F1 _ (by omega)).2
      refine ⟨fun q => ?_, fun q => ⟨fun q2 => ?_, fun q2 => ?_⟩⟩
      · have c := lt_t q
        refine ⟨fun q3 => sw (by omega) (by have := lt_t q3; omega), fun q3 => by have := nlt_t q3; omega⟩
      · have c := nlt_t q
        have c2 := le_t q2
        refine ⟨fun q3 => sw (by omega) (by have := lt_t q3; omega), fun q3 => ⟨fun q4 => sw (by omega) (by have := le_t q4; omega), fun q4 => wt (by omega) (by have := nle_t q4; have := nlt_t q3; omega)⟩⟩
      · have c := nlt_t q
        have c2 := nle_t q2
        have tb := tsub (x := a5) (y := (100 : Int32)) (by omega)
        refine ⟨vin (by omega), ?_⟩
        show _ = meA G' N' st a5
        unfold meA
        rw [if_pos (by omega), show (a5 - (100 : Int32)).toNatClampNeg = (a5.toInt - 100).toNat by omega]
        exact (F1 _ (by omega)).1
    · intro σa sm
      unfold w_X10_meet
      intro σ1 e1
      obtain ⟨H1, u1⟩ := SmR_223 sm e1
      refine f_X10_layRun H1 a1 a2 a3 a4 (fun z => absurd ((exR_eq1 u1).mpr ex) z) (fun _ l' N' R' G' hl' tl' σ2 f2 X2 T2 => fun _ => ⟨fun c => absurd c (by decide), fun _ => ?_⟩)
      have el : l' = l := by omega
      subst el
      obtain ⟨eN, eR, eG⟩ := tlL_eq tl tl' (fun j => u1 229 j (by omega) (by omega))
      subst eN
      subst eR
      subst eG
      rw [← hS] at T2
      refine f_X10_of6 X2 ⟨fun k => ?_, fun k => by rw [if_pos k]⟩
      rw [if_neg k]
      refine f_X10_meetOther X2 (st := st) (fun p hp => ?_) (fun σ6 f6 F6 => ?_)
      · rw [hst, (T2.1.2.2.2.2 p (by omega)).1]
        exact ⟨of_decide_eq_true, decide_eq_true⟩
      obtain ⟨F1, F3⟩ := F6
      have X6 := FrM_X X2 f6
      have h24 := X6.2.2.1
      have h25 := X6.2.2.2.1
      have ta1 := tadd (x := (100 : Int32)) (y := σ6.1 223 25) (by omega)
      have ta2 := tadd (x := (200 : Int32)) (y := σ6.1 223 25) (by omega)
      have n1 := tn_eq (σ6.1 223 25)
      have n2 := tn_eq (a5 - (100 : Int32))
      have n3 := tn_eq (a5 - (200 : Int32))
      refine b_X10_in a5 (100 : Int32) _ (fun r8 z8 => fun _ => ⟨fun q8 => ?_, fun q8 => ?_⟩)
      · have w1 : ¬ (100 ≤ a5.toInt ∧ a5.toInt < 100 + (N' : Int)) := fun y => z8.mpr ⟨by omega, by omega⟩ q8
        refine b_X10_in a5 (200 : Int32) _ (fun r9 z9 => fun _ => ⟨fun q9 => ?_, fun q9 => ?_⟩)
        · have w2 : ¬ (200 ≤ a5.toInt ∧ a5.toInt < 200 + (N' : Int)) := fun y => z9.mpr ⟨by omega, by omega⟩ q9
          have go : ∀ (n i : Nat) (x_6 x_7 : Int32), ti x_7 = (i : Int) → i ≤ N' → x_6 = smT (wwF G' N' st) i → N' - i < n → w_X10_meet_99 a5 (fun r _ => r = meA G' N' st a5) n x_6 x_7 σ6 := by
            intro n
            induction n with
            | zero => intro i x_6 x_7 _ _ _ h; omega
            | succ n ih =>
              intro i x_6 x_7 hi hiN h6 hn
              unfold w_X10_meet_99
              refine ⟨fun q => ?_, fun q => ?_⟩
              · have c := le_t q
                have e : i = N' := by omega
                subst e
                refine ⟨fun k0 => ⟨fun k1 => ⟨fun k2 => ?_, fun k2 => ?_⟩, fun k1 => ?_⟩, fun k0 => ⟨vin (by omega), ?_⟩⟩
                · have := ne_t k0
                  have := ne_t k1
                  have := ne_t k2
                  unfold meA
                  rw [if_neg w1, if_neg w2, if_neg (by omega), if_neg (by omega), if_neg (by omega)]
                · have := eq_t k2
                  unfold meA
                  rw [if_neg w1, if_neg w2, if_neg (by omega), if_neg (by omega), if_pos (by omega)]
                  exact F3
                · have := eq_t k1
                  unfold meA
                  rw [if_neg w1, if_neg w2, if_neg (by omega), if_pos (by omega)]
                  exact h6
                · have := eq_t k0
                  unfold meA
                  rw [if_neg w1, if_neg w2, if_pos (by omega), show (σ6.1 223 25).toNatClampNeg = i - 1 by omega]
                  exact (F1 (i - 1) (by omega)).1
              · have c := nle_t q
                have tx := tadd (x := x_7) (y := (1 : Int32)) (by omega)
                have tn := tn_eq x_7
                rw [show x_7.toNatClampNeg = i by omega, (F1 i (by omega)).2]
                refine ⟨vin (by omega), fun x13 e13 x14 e14 => ?_⟩
                have f := eq_t e14
                exact ih (i + 1) x13 x14 (by omega) (by omega) (by rw [e13, h6]; rfl) (by omega)
          exact ⟨100, go 100 0 (0 : Int32) (0 : Int32) lit_0 (by omega) rfl (by omega)⟩
        · have w := z9.mp q9
          have tb := tsub (x := a5) (y := (200 : Int32)) (by omega)
          refine ⟨vin (by omega), ?_⟩
          unfold meA
          rw [if_neg w1, if_pos (by omega), show (a5 - (200 : Int32)).toNatClampNeg = (a5.toInt - 200).toNat by omega]
          exact (F1 _ (by omega)).2
      · have w := z8.mp q8
        have tb := tsub (x := a5) (y := (100 : Int32)) (by omega)
        refine ⟨vin (by omega), ?_⟩
        unfold meA
        rw [if_pos (by omega), show (a5 - (100 : Int32)).toNatClampNeg = (a5.toInt - 100).toNat by omega]
        exact (F1 _ (by omega)).1
  · refine ⟨-2, ?_, ?_⟩
    · unfold w_X9_meet
      exact f_X9_ridden H a1 a2 a3 a4 (fun _ => ⟨fun _ => rfl, fun j3 e3 => (by cases e3)⟩) (fun e => absurd e ex)
    · intro σa sm
      unfold w_X10_meet
      intro σ1 e1
      obtain ⟨H1, u1⟩ := SmR_223 sm e1
      exact f_X10_layRun H1 a1 a2 a3 a4 (fun _ => fun _ => ⟨fun _ => rfl, fun c => absurd rfl c⟩) (fun e => absurd ((exR_eq1 u1).mp e) ex)
theorem m_meet {σ : zSto} (H : Lz σ) (a1 a2 a3 a4 a5 : Int32) {P : Int32 → zSto → Prop} (hP : ∀ r σa, (∀ Q : Int32 → zSto → Prop, (∀ σ2, Lz σ2 → Q r σ2) → w_X10_meet a1 a2 a3 a4 a5 σa Q) → P r σa) : w_X9_meet a1 a2 a3 a4 a5 σ P := by
  obtain ⟨A, hc, hr⟩ := al_meet H a1 a2 a3 a4 a5
  exact cj_X9_meet (P := fun _ σa => zInv AC σ.1 3 σa) (Q := fun r _ => r = A) (fun r σa i e2 => by
    subst e2
    have sm := SmR_C H i
    exact hP _ _ (fun Q hQ => cj_X10_meet (P := fun _ σb => zInv AR2 σa.1 3 σb) (Q := fun r' _ => r' = r) (fun r' σb i e => by
      subst e
      exact hQ σb (Lz_R sm.1 i)) (s_X10_meet (A := AR2) (F := σa.1) ar2_r a1 a2 a3 a4 a5 (inv_any sm.1.1) (fun _ _ i => i)) (hr σa sm))) (s_X9_meet (A := AC) (F := σ.1) ac_c a1 a2 a3 a4 a5 (inv_any H.1) (fun _ _ i => i)) hc
/-! risk on both sides -/
def rkF (b : Nat → Bool) : Nat → Int32
  | 0 => 0
  | i + 1 => rkF b i ||| (if b i = true then (1 : Int32) <<< (Int32.ofNat i &&& 31) else 0)
def s1F (i : Nat) : Nat → Bool := fun j => decide (j = i)
set_option maxHeartbeats 8000000 in
theorem al_risk {σ : zSto} (H : Lz σ) (a1 a2 : Int32) : ∃ A : Int32, w_X9_risk a1 a2 σ (fun r _ => r = A) ∧ ∀ σa, SmR σ σa → w_X10_risk a1 a2 σa (fun r _ => r = A) := by
  have l0 := lit_0
  have l1 := lit_1
  have d : 0 ≤ ti (σ.1 42 0) ∧ ti (σ.1 42 0) ≤ 2 := rdg H.1.1 kd_42 rfl rfl
  by_cases ex : exW σ a1 (0 : Int32) ∧ (0 ≤ ti a2 ∧ ti a2 ≤ 1)
  · obtain ⟨ex, x2⟩ := ex
    obtain ⟨l, hl⟩ : ∃ l : Nat, ti a1 = (l : Int) := ⟨(ti a1).toNat, by have := ex.1; omega⟩
    obtain ⟨N, R, G, tl⟩ := tlL_of H (l := l) (by have := ex.2.1; omega) (by have := ex.2.1; omega)
    obtain ⟨t1, t2, t3, t4, t5, t6, t7, t8, t9⟩ := id tl
    obtain ⟨w0, hw0⟩ : ∃ w0, w0 = smT (wwF G N (fun _ => false)) N := ⟨_, rfl⟩
    obtain ⟨bR, hbR⟩ : ∃ bR : Nat → Bool, ∀ i, (bR i = true ↔ ¬ mtF G N (s1F i) N = -1) := ⟨fun i => decide (¬ mtF G N (s1F i) N = -1), fun i => ⟨of_decide_eq_true, decide_eq_true⟩⟩
    obtain ⟨bD, hbD⟩ : ∃ bD : Nat → Bool, ∀ i, (bD i = true ↔ ¬ smT (wwF G N (s1F i)) N ≤ w0) := ⟨fun i => decide (¬ smT (wwF G N (s1F i)) N ≤ w0), fun i => ⟨of_decide_eq_true, decide_eq_true⟩⟩
    refine ⟨if G 6 = -1 then -1 else if a2 = 0 then rkF bR (N - 1) else rkF bD (N - 1), ?_, ?_⟩
    · unfold w_X9_risk
      refine f_X8_lineAt a1 H.1 (fun z => absurd ⟨ex.1, ex.2.1⟩ z) (fun l' hl' hl2 hc => ⟨fun z => (by cases z), fun j3 e3 => ?_⟩)
      have e3' := Option.some.inj e3
      subst e3'
      have el : l' = l := by omega
      subst el
      have e17 : σ.1 (4 + 12 * l') 17 = G 6 := t9.1 6 (by omega)
      refine ⟨isT_L (isN_T (by unfold isN; omega)), ?_⟩
      rw [e17]
      refine ⟨fun k => by rw [if_pos k], fun k => ⟨fun q => by have := lt_t q; omega, fun _ => ⟨fun _ => ?_, fun q => by have := nle_t q; omega⟩⟩⟩
      rw [if_neg k]
      refine f_X1_follow (by omega) t9 t4 t6 t7 _ (st := fun _ => false) (fun p hp => (bt_z p).symm) (fun σ4 f4 F4 => ?_)
      intro x5 e5
      have v5 : x5 = w0 := by rw [e5, F4.2.1, hw0]
      have go : ∀ (n i : Nat) (x_5 x_6 x_7 : Int32) (σ3 : zSto), LnR (4 + 12 * l') G σ3 → ti x_7 = (i : Int) → i ≤ N - 1 → x_5 = rkF bR i → x_6 = rkF bD i → N - 1 - i < n → w_X9_risk_59 a2 (4 + 12 * l') x5 (fun r _ => r = if a2 = 0 then rkF bR (N - 1) else rkF bD (N - 1)) n x_5 x_6 x_7 σ3 := by
        intro n
        induction n with
        | zero => intro i x_5 x_6 x_7 σ3 _ _ _ _ _ h; omega
        | succ n ih =>
          intro i x_5 x_6 x_7 σ3 L3 hi hiN h5 h6 hn
          have e11 : ti (σ3.1 (4 + 12 * l') 11) = (N : Int) := by rw [L3.1 0 (by omega)]; exact t4
          have ts1 := tsub (x := σ3.1 (4 + 12 * l') 11) (y := (1 : Int32)) (by omega)
          unfold w_X9_risk_59
          refine ⟨fun q => ?_, fun q => ?_⟩
          · have c := le_t q
            have e : i = N - 1 := by omega
            subst e
            exact ⟨fun k => by rw [if_neg k]; exact h6, fun k => by rw [if_pos k]; exact h5⟩
          · have c := nle_t q
            have tx := tadd (x := x_7) (y := (1 : Int32)) (by omega)
            have e7 := nI_x hi (by omega)
            refine f_X1_follow (by omega) L3 t4 t6 t7 _ (st := s1F i) (fun p hp => ?_) (fun σ6 f6 F6 => ?_)
            · rw [e7, bt_sl i (by omega) p (by omega)]
              rfl
            have L6 : LnR (4 + 12 * l') G σ6 := LnR_fr L3 (fun k j a b => f6 k j (by omega))
            rw [F6.2.1, F6.2.2, v5, e7]
            have fin : ∀ (y5 y6 x9 : Int32), y5 = rkF bR (i + 1) → y6 = rkF bD (i + 1) → x9 = Int32.ofNat i + (1 : Int32) → w_X9_risk_59 a2 (4 + 12 * l') w0 (fun r _ => r = if a2 = 0 then rkF bR (N - 1) else rkF bD (N - 1)) n y5 y6 x9 σ6 := fun y5 y6 x9 g5 g6 e9 => by
              rw [← e7] at e9
              have f := eq_t e9
              have y := ih (i + 1) y5 y6 x9 σ6 L6 (by omega) (by omega) g5 g6 (by omega)
              rw [v5] at y
              exact y
            have r1 : bR i = true → ∀ x7 : Int32, x7 = x_5 ||| ((1 : Int32) <<< (Int32.ofNat i &&& 31)) → x7 = rkF bR (i + 1) := fun b x7 g => by
              rw [g, h5]
              show _ = rkF bR i ||| (if bR i = true then _ else _)
              rw [if_pos b]
            have r0 : ¬ bR i = true → ∀ x7 : Int32, x7 = x_5 ||| (0 : Int32) → x7 = rkF bR (i + 1) := fun b x7 g => by
              rw [g, h5]
              show _ = rkF bR i ||| (if bR i = true then _ else _)
              rw [if_neg b]
            have d1 : bD i = true → ∀ x7 : Int32, x7 = x_6 ||| ((1 : Int32) <<< (Int32.ofNat i &&& 31)) → x7 = rkF bD (i + 1) := fun b x7 g => by
              rw [g, h6]
              show _ = rkF bD i ||| (if bD i = true then _ else _)
              rw [if_pos b]
            have d0 : ¬ bD i = true → ∀ x7 : Int32, x7 = x_6 ||| (0 : Int32) → x7 = rkF bD (i + 1) := fun b x7 g => by
              rw [g, h6]
              show _ = rkF bD i ||| (if bD i = true then _ else _)
              rw [if_neg b]
            refine ⟨fun k x7 e7' => ⟨fun k2 x8 e8 x9 e9 => fin x7 x8 x9 (r1 ((hbR i).mpr k) x7 e7') (d0 (fun z => (hbD i).mp z k2) x8 e8) e9, fun k2 x10 e10 x11 e11' => fin x7 x10 x11 (r1 ((hbR i).mpr k) x7 e7') (d1 ((hbD i).mpr k2) x10 e10) e11'⟩, fun k x12 e12 => ⟨fun k2 x13 e13 x14 e14 => fin x12 x13 x14 (r0 (fun z => (hbR i).mp z k) x12 e12) (d0 (fun z => (hbD i).mp z k2) x13 e13) e14, fun k2 x15 e15 x16 e16 => fin x12 x15 x16 (r0 (fun z => (hbR i).mp z k) x12 e12) (d1 ((hbD i).mpr k2) x15 e15) e16⟩⟩
      exact ⟨100, go 100 0 (0 : Int32) (0 : Int32) (0 : Int32) σ4 (LnR_fr t9 (fun k j a b => f4 k j (by omega))) lit_0 (by omega) rfl rfl (by omega)⟩
    · intro σa sm
      unfold w_X10_risk
      intro σ1 e1
      obtain ⟨H1, u1⟩ := SmR_223 sm e1
      refine b_X10_in a2 (0 : Int32) (1 : Int32) (fun r3 z3 => fun _ => ⟨fun q => absurd q (z3.mpr ⟨by omega, by omega⟩), fun _ => ?_⟩)
      refine f_handX H1 a1 (0 : Int32) (fun z => absurd ((exW_eq1 u1).mpr ex) z) (fun _ l' N' R' G' hl' tl' σ2 f2 X2 => fun _ => ⟨fun c => absurd c (by decide), fun _ => ?_⟩)
      have el : l' = l := by omega
      subst el
      obtain ⟨eN, eR, eG⟩ := tlL_eq tl tl' (fun j => u1 229 j (by omega) (by omega))
      subst eN
      subst eR
      subst eG
      refine f_X10_of6 X2 ⟨fun k => ?_, fun k => by rw [if_pos k]⟩
      rw [if_neg k]
      have aw : ∀ (st : Nat → Bool) (σ3 : zSto), RfX l' R' N' G' (csI G') (fun p => pdI G' p 0) σ3 → (∀ q, q < N' → σ3.1 246 q = wwF G' N' st q) → ∀ {Q : Int32 → zSto → Prop}, Q (smT (wwF G' N' st) N') σ3 → w_X10_allWaits σ3 Q := fun st σ3 X3 h46 {Q} hQ => by
        have g24 := X3.2.2.1
        have go : ∀ (n i : Nat) (x_1 x_2 : Int32), ti x_2 = (i : Int) → i ≤ N' → x_1 = smT (wwF G' N' st) i → N' - i < n → w_X10_allWaits_4 Q n x_1 x_2 σ3 := by
          intro n
          induction n with
          | zero => intro i x_1 x_2 _ _ _ h; omega
          | succ n ih =>
            intro i x_1 x_2 hi hiN h1 hn
            unfold w_X10_allWaits_4
            refine ⟨fun q => ?_, fun q => ?_⟩
            · have c := le_t q
              have e : i = N' := by omega
              subst e
              rw [h1]
              exact hQ
            · have c := nle_t q
              have tx := tadd (x := x_2) (y := (1 : Int32)) (by omega)
              have tn := tn_eq x_2
              rw [show x_2.toNatClampNeg = i by omega, h46 i (by omega)]
              refine ⟨vin (by omega), fun x2 e2 x3 e3 => ?_⟩
              have f := eq_t e3
              exact ih (i + 1) x2 x3 (by omega) (by omega) (by rw [e2, h1]; rfl) (by omega)
        exact ⟨100, go 100 0 (0 : Int32) (0 : Int32) lit_0 (by omega) rfl (by omega)⟩
      have go2 : ∀ (n i : Nat) (x_4 x_5 : Int32) (σ3 : zSto), RfX l' R' N' G' (csI G') (fun p => pdI G' p 0) σ3 → (∀ q, q < N' → σ3.1 240 q = -1) → ti x_5 = (i : Int) → i ≤ N' - 1 → x_4 = (if a2 = 0 then rkF bR i else rkF bD i) → N' - 1 - i < n → w_X10_risk_73 a2 w0 (fun r _ => r = if a2 = 0 then rkF bR (N' - 1) else rkF bD (N' - 1)) n x_4 x_5 σ3 := by
        intro n
        induction n with
        | zero => intro i x_4 x_5 σ3 _ _ _ _ _ h; omega
        | succ n ih =>
          intro i x_4 x_5 σ3 X3 h40 hi hiN h4 hn
          have g25 := X3.2.2.2.1
          unfold w_X10_risk_73
          refine ⟨fun q => ?_, fun q => ?_⟩
          · have c := le_t q
            have e : i = N' - 1 := by omega
            subst e
            exact h4
          · have c := nle_t q
            have tx := tadd (x := x_5) (y := (1 : Int32)) (by omega)
            have tn := tn_eq x_5
            have e5 := nI_x hi (by omega)
            rw [show x_5.toNatClampNeg = i by omega]
            refine ⟨vin (by omega), fun σ12 e12 => ?_⟩
            have X12 : RfX l' R' N' G' (csI G') (fun p => pdI G' p 0) σ12 := RfX_fr X3 (fun j a b => zI_q' e12 (by omega)) (fun k j h => zI_q' e12 (by omega))
            refine f_X10_meetOther X12 (st := s1F i) (fun p hp => ?_) (fun σ13 f13 F13 => ⟨vin (by omega), fun σ15 e15 => ?_⟩)
            · by_cases d : p = i
              · subst d
                rw [e12, zI_s]
                exact ⟨fun _ => by decide, fun _ => decide_eq_true rfl⟩
              · rw [zI_q' e12 (by omega), h40 p (by omega)]
                exact ⟨fun z => absurd (of_decide_eq_true z) d, fun z => absurd rfl z⟩
            have X15 : RfX l' R' N' G' (csI G') (fun p => pdI G' p 0) σ15 := RfX_fr (FrM_X X12 f13) (fun j a b => zI_q' e15 (by omega)) (fun k j h => zI_q' e15 (by omega))
            have n40 : ∀ q, q < N' → σ15.1 240 q = -1 := fun q hq => by
              by_cases d : q = i
              · subst d
                rw [e15, zI_s]
              · rw [zI_q' e15 (by omega), f13 240 q (by omega) (by omega) (by omega) (by omega), zI_q' e12 (by omega)]
                exact h40 q hq
            have v43 : σ15.1 223 43 = mtF G' N' (s1F i) N' := by rw [zI_q' e15 (by omega)]; exact F13.2
            have fin : ∀ (y4 x19 : Int32), y4 = (if a2 = 0 then rkF bR (i + 1) else rkF bD (i + 1)) → x19 = x_5 + (1 : Int32) → w_X10_risk_73 a2 w0 (fun r _ => r = if a2 = 0 then rkF bR (N' - 1) else rkF bD (N' - 1)) n y4 x19 σ15 := fun y4 x19 g4 e19 => by
              have f := eq_t e19
              exact ih (i + 1) y4 x19 σ15 X15 n40 (by omega) (by omega) g4 (by omega)
            refine ⟨fun k2 => ?_, fun k2 => ?_⟩
            · refine aw (s1F i) σ15 X15 (fun q hq => by rw [zI_q' e15 (by omega)]; exact (F13.1 q hq).2) ⟨fun k3 x18 e18 x19 e19 => fin x18 x19 ?_ e19, fun k3 x20 e20 x21 e21 => fin x20 x21 ?_ e21⟩
              · rw [e18, h4, if_neg k2, if_neg k2]
                show _ = rkF bD i ||| (if bD i = true then _ else _)
                rw [if_neg (fun z => (hbD i).mp z k3)]
              · rw [e20, h4, if_neg k2, if_neg k2, e5]
                show _ = rkF bD i ||| (if bD i = true then _ else _)
                rw [if_pos ((hbD i).mpr k3)]
            · rw [v43]
              refine ⟨fun k3 x18 e18 x19 e19 => fin x18 x19 ?_ e19, fun k3 x20 e20 x21 e21 => fin x20 x21 ?_ e21⟩
              · rw [e18, h4, if_pos k2, if_pos k2]
                show _ = rkF bR i ||| (if bR i = true then _ else _)
                rw [if_neg (fun z => (hbR i).mp z k3)]
              · rw [e20, h4, if_pos k2, if_pos k2, e5]
                show _ = rkF bR i ||| (if bR i = true then _ else _)
                rw [if_pos ((hbR i).mpr k3)]
      have go1 : ∀ (n i : Nat) (x_3 : Int32) (σ3 : zSto), RfX l' R' N' G' (csI G') (fun p => pdI G' p 0) σ3 → (∀ q, q < i → σ3.1 240 q = -1) → ti x_3 = (i : Int) → i ≤ N' → N' - i < n → w_X10_risk_37 a2 (fun r _ => r = if a2 = 0 then rkF bR (N' - 1) else rkF bD (N' - 1)) n x_3 σ3 := by
        intro n
        induction n with
        | zero => intro i x_3 σ3 _ _ _ _ h; omega
        | succ n ih =>
          intro i x_3 σ3 X3 h40 hi hiN hn
          have g24 := X3.2.2.1
          unfold w_X10_risk_37
          refine ⟨fun q => ?_, fun q => ?_⟩
          · have c := le_t q
            have e : i = N' := by omega
            subst e
            refine f_X10_meetOther X3 (st := fun _ => false) (fun p hp => ⟨fun z => absurd z (by decide), fun z => absurd (h40 p (by omega)) z⟩) (fun σ8 f8 F8 => ?_)
            have X8 := FrM_X X3 f8
            refine aw (fun _ => false) σ8 X8 (fun q hq => (F8.1 q hq).2) ?_
            rw [← hw0]
            exact ⟨100, go2 100 0 (0 : Int32) (0 : Int32) σ8 X8 (fun q hq => by rw [f8 240 q (by omega) (by omega) (by omega) (by omega)]; exact h40 q hq) lit_0 (by omega) (by split <;> rfl) (by omega)⟩
          · have c := nle_t q
            have tx := tadd (x := x_3) (y := (1 : Int32)) (by omega)
            have tn := tn_eq x_3
            rw [show x_3.toNatClampNeg = i by omega]
            refine ⟨vin (by omega), fun σ27 e27 x28 e28 => ?_⟩
            have f := eq_t e28
            refine ih (i + 1) x28 σ27 (RfX_fr X3 (fun j a b => zI_q' e27 (by omega)) (fun k j h => zI_q' e27 (by omega))) (fun q hq => ?_) (by omega) (by omega) (by omega)
            by_cases d : q = i
            · subst d
              rw [e27, zI_s]
            · rw [zI_q' e27 (by omega)]
              exact h40 q (by omega)
      exact ⟨100, go1 100 0 (0 : Int32) σ2 X2 (fun q hq => absurd hq (Nat.not_lt_zero q)) lit_0 (by omega) (by omega)⟩
  · refine ⟨-1, ?_, ?_⟩
    · unfold w_X9_risk
      refine f_X8_lineAt a1 H.1 (fun _ => ⟨fun _ => rfl, fun j3 e3 => (by cases e3)⟩) (fun l' hl' hl2 hc => ⟨fun z => (by cases z), fun j3 e3 => ?_⟩)
      have e3' := Option.some.inj e3
      subst e3'
      refine ⟨isT_L (isN_T (by unfold isN; omega)), fun _ => rfl, fun _ => ⟨fun _ => rfl, fun k1 => ⟨fun k2 => ?_, fun _ => rfl⟩⟩⟩
      have y1 := nlt_t k1
      have y2 := le_t k2
      exact absurd ⟨⟨by omega, by omega, by omega, by omega⟩, ⟨by omega, by omega⟩⟩ ex
    · intro σa sm
      unfold w_X10_risk
      intro σ1 e1
      obtain ⟨H1, u1⟩ := SmR_223 sm e1
      refine b_X10_in a2 (0 : Int32) (1 : Int32) (fun r3 z3 => fun _ => ⟨fun _ => rfl, fun q3 => ?_⟩)
      have w3 := z3.mp q3
      exact f_handX H1 a1 (0 : Int32) (fun _ => fun _ => ⟨fun _ => rfl, fun c => absurd rfl c⟩) (fun e => absurd ⟨(exW_eq1 u1).mp e, ⟨by omega, by omega⟩⟩ ex)
theorem m_risk {σ : zSto} (H : Lz σ) (a1 a2 : Int32) {P : Int32 → zSto → Prop} (hP : ∀ r σa, (∀ Q : Int32 → zSto → Prop, (∀ σ2, Lz σ2 → Q r σ2) → w_X10_risk a1 a2 σa Q) → P r σa) : w_X9_risk a1 a2 σ P := by
  obtain ⟨A, hc, hr⟩ := al_risk H a1 a2
  exact cj_X9_risk (P := fun _ σa => zInv AC σ.1 3 σa) (Q := fun r _ => r = A) (fun r σa i e2 => by
    subst e2
    have sm := SmR_C H i
    exact hP _ _ (fun Q hQ => cj_X10_risk (P := fun _ σb => zInv AR2 σa.1 3 σb) (Q := fun r' _ => r' = r) (fun r' σb i e => by
      subst e
      exact hQ σb (Lz_R sm.1 i)) (s_X10_risk (A := AR2) (F := σa.1) ar2_r a1 a2 (inv_any sm.1.1) (fun _ _ i => i)) (hr σa sm))) (s_X9_risk (A := AC) (F := σ.1) ac_c a1 a2 (inv_any H.1) (fun _ _ i => i)) hc
