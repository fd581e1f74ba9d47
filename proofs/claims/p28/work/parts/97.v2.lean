/-! chance and slack on both sides -/
theorem wy_m {N R : Nat} {G : Nat → Int32} (ln : LnN N R G) {b : Nat} (hb : b ≤ N) (n : Nat) : 0 ≤ smI (wyF G b) n ∧ smI (wyF G b) n ≤ 10 ^ b := by
  refine ⟨smI_nn n (fun j _ => ((wy_0 ln b hb) j).1), ?_⟩
  have y := smI_mono (f := wyF G b) (tpF G b + n + 1) n (by omega) (fun j _ => ((wy_0 ln b hb) j).1)
  rw [wy_s ln b hb (tpF G b + n + 1) (by omega)] at y
  exact y
theorem f_weightUpTo {N R : Nat} {G : Nat → Int32} (ln : LnN N R G) {b : Nat} (hb : b < N) {σ : zSto} (ht : ti (σ.1 198 1) = (tpF G b : Int)) (hW : ∀ j, j ≤ tpF G b → tl (σ.2 199 j) = wyF G b j) (a1 : Int32) {s : Nat} (h1 : ti a1 = (s : Int)) (hs : s ≤ 999) {P : Int64 → zSto → Prop} (hP : ∀ r, tl r = smI (wyF G b) (s + 1) → P r σ) : w_X7_weightUpTo a1 σ P := by
  have l1 := lit_1
  have N16 := ln.1
  have tr := tp_r ln b (by omega)
  have pb : (10 : Int) ^ b ≤ 1000000000000000 := (p10 ⟨b, by omega⟩).2
  have go : ∀ (n i : Nat) (x_2 : Int64) (x_4 : Int32), ti x_4 = (i : Int) → i ≤ s + 1 → i ≤ tpF G b + 1 → tl x_2 = smI (wyF G b) i → s + 1 - i < n → w_X7_weightUpTo_5 a1 P n x_2 x_4 σ := by
    intro n
    induction n with
    | zero => intro i x_2 x_4 _ _ _ _ h; omega
    | succ n ih =>
      intro i x_2 x_4 hi his hit h2 hn
      unfold w_X7_weightUpTo_5
      refine ⟨fun q => ?_, fun q => ⟨fun q2 => ?_, fun q2 => ?_⟩⟩
      · have c := lt_t q
        refine hP _ ?_
        rw [h2, smI_tail (t := i) (f := wyF G b) (s + 1) (fun j a _ => ((wy_0 ln b (by omega)) j).2 (by omega)) his]
      · have c := lt_t q2
        have e : i = s + 1 := by omega
        subst e
        exact hP _ h2
      · have c := nlt_t q
        have c2 := nlt_t q2
        have tx := tadd (x := x_4) (y := (1 : Int32)) (by omega)
        have tn := tn_eq x_4
        have m1 := wy_m ln (b := b) (by omega) i
        have m2 := wy_m ln (b := b) (by omega) (i + 1)
        have e2 : smI (wyF G b) (i + 1) = smI (wyF G b) i + wyF G b i := rfl
        rw [show x_4.toNatClampNeg = i by omega]
        refine ⟨vin (by omega), fun x2 e2' x3 e3 => ?_⟩
        have f := eq_t e3
        have w := hW i (by omega)
        refine ih (i + 1) x2 x3 (by omega) (by omega) (by omega) ?_ (by omega)
        rw [e2', tl_add (by omega), h2, w, e2]
  exact ⟨2000, go 2000 0 (0 : Int64) (0 : Int32) lit_0 (by omega) (by omega) tl_0 (by omega)⟩
theorem f_leastCosts {N R : Nat} {G : Nat → Int32} (ln : LnN N R G) {b : Nat} (hb : b < N) {σ : zSto} (ht : ti (σ.1 198 1) = (tpF G b : Int)) (hW : ∀ j, j ≤ tpF G b → tl (σ.2 199 j) = wyF G b j) (hD : tl (σ.2 198 2) = 10 ^ b) (a1 : Int32) (h1 : 0 ≤ ti a1 ∧ ti a1 ≤ 100) {m : Nat} (hm : m ≤ tpF G b) (m1 : 10 ^ b * ti a1 ≤ smI (wyF G b) (m + 1) * 100) (m2 : ∀ j, j < m → ¬ 10 ^ b * ti a1 ≤ smI (wyF G b) (j + 1) * 100) {P : Int32 → zSto → Prop} (hP : ∀ r, ti r = (m : Int) → P r σ) : w_X7_leastCosts a1 σ P := by
  have l1 := lit_1
  have N16 := ln.1
  have tr := tp_r ln b (by omega)
  have pb : (10 : Int) ^ b ≤ 1000000000000000 := (p10 ⟨b, by omega⟩).2
  have pc : (1 : Int) ≤ 10 ^ b := (p10 ⟨b, by omega⟩).1
  have q0 : 0 ≤ (10 : Int) ^ b * ti a1 := Int.mul_nonneg (by omega) h1.1
  have q1 : (10 : Int) ^ b * ti a1 ≤ 10 ^ b * 100 := Int.mul_le_mul_of_nonneg_left h1.2 (by omega)
  have eq : tl (σ.2 198 2 * a1.toInt64) = 10 ^ b * ti a1 := by rw [tl_mul (by rw [hD, tl_i]; omega), hD, tl_i]
  have go : ∀ (n i : Nat) (x_2 : Int64) (x_4 : Int32), ti x_4 = (i : Int) → i ≤ m → tl x_2 = smI (wyF G b) i → m - i < n → w_X7_leastCosts_5 a1 P n x_2 x_4 σ := by
    intro n
    induction n with
    | zero => intro i x_2 x_4 _ _ _ h; omega
    | succ n ih =>
      intro i x_2 x_4 hi him h2 hn
      unfold w_X7_leastCosts_5
      refine ⟨fun q => hP _ (by have := le_t q; omega), fun q => ?_⟩
      have c := nle_t q
      have tx := tadd (x := x_4) (y := (1 : Int32)) (by omega)
      have tn := tn_eq x_4
      have y1 := wy_m ln (b := b) (by omega) i
      have y2 := wy_m ln (b := b) (by omega) (i + 1)
      have e2 : smI (wyF G b) (i + 1) = smI (wyF G b) i + wyF G b i := rfl
      rw [show x_4.toNatClampNeg = i by omega]
      refine ⟨vin (by omega), fun x2 e2' => ?_⟩
      have w := hW i (by omega)
      have v2 : tl x2 = smI (wyF G b) (i + 1) := by rw [e2', tl_add (by omega), h2, w, e2]
      have v3 : tl (x2 * (100 : Int64)) = smI (wyF G b) (i + 1) * 100 := by rw [tl_mul (by rw [tl_100]; omega), tl_100, v2]
      have cmp := (lgc_c (x2 * (100 : Int64)) (σ.2 198 2 * a1.toInt64)).1
      rw [v3, eq] at cmp
      refine ⟨fun k x3 e3 => ?_, fun k => hP _ ?_⟩
      · have k1 := cmp.mp k
        have f := eq_t e3
        have ne : i ≠ m := fun z => by rw [z] at k1; omega
        exact ih (i + 1) x2 x3 (by omega) (by omega) v2 (by omega)
      · by_cases d : i = m
        · rw [← d]; exact hi
        · exact absurd (by have := m2 i (by omega); exact cmp.mpr (by omega)) k
  exact ⟨2000, go 2000 0 (0 : Int64) (0 : Int32) lit_0 (by omega) tl_0 (by omega)⟩
theorem f_enough {N R : Nat} {G : Nat → Int32} (ln : LnN N R G) {b : Nat} (hb : b < N) {σ : zSto} (hW : ∀ j, j < 1200 → tl (σ.2 245 j) = wyF G b j) (hD : tl (σ.2 223 42) = 10 ^ b) (a1 : Int32) (h1 : 0 ≤ ti a1 ∧ ti a1 ≤ 100) {m : Nat} (hm : m ≤ tpF G b) (m1 : 10 ^ b * ti a1 ≤ smI (wyF G b) (m + 1) * 100) (m2 : ∀ j, j < m → ¬ 10 ^ b * ti a1 ≤ smI (wyF G b) (j + 1) * 100) {P : Int32 → zSto → Prop} (hP : ∀ r, ti r = (m : Int) → P r σ) : w_X10_enough a1 σ P := by
  have l1 := lit_1
  have N16 := ln.1
  have tr := tp_r ln b (by omega)
  have pb : (10 : Int) ^ b ≤ 1000000000000000 := (p10 ⟨b, by omega⟩).2
  have pc : (1 : Int) ≤ 10 ^ b := (p10 ⟨b, by omega⟩).1
  have q0 : 0 ≤ (10 : Int) ^ b * ti a1 := Int.mul_nonneg (by omega) h1.1
  have q1 : (10 : Int) ^ b * ti a1 ≤ 10 ^ b * 100 := Int.mul_le_mul_of_nonneg_left h1.2 (by omega)
  have eq : tl (σ.2 223 42 * a1.toInt64) = 10 ^ b * ti a1 := by rw [tl_mul (by rw [hD, tl_i]; omega), hD, tl_i]
  have go : ∀ (n i : Nat) (x_2 : Int64) (x_4 : Int32), ti x_4 = (i : Int) → i ≤ m → tl x_2 = smI (wyF G b) (i + 1) → m - i < n → w_X10_enough_10 a1 P n x_2 x_4 σ := by
    intro n
    induction n with
    | zero => intro i x_2 x_4 _ _ _ h; omega
    | succ n ih =>
      intro i x_2 x_4 hi him h2 hn
      have y1 := wy_m ln (b := b) (by omega) (i + 1)
      have v3 : tl (x_2 * (100 : Int64)) = smI (wyF G b) (i + 1) * 100 := by rw [tl_mul (by rw [tl_100]; omega), tl_100, h2]
      have cmp := (lgc_c (x_2 * (100 : Int64)) (σ.2 223 42 * a1.toInt64)).2
      rw [v3, eq] at cmp
      unfold w_X10_enough_10
      refine ⟨fun k => hP _ ?_, fun k x2 e2 => ?_⟩
      · have k1 := cmp.mp k
        by_cases d : i = m
        · rw [← d]; exact hi
        · exact absurd k1 (m2 i (by omega))
      · have ne : i ≠ m := fun z => k (cmp.mpr (by rw [z]; exact m1))
        have tx := tadd (x := x_4) (y := (1 : Int32)) (by omega)
        have f := eq_t e2
        have tn := tn_eq x2
        have y2 := wy_m ln (b := b) (by omega) (i + 2)
        have e3 : smI (wyF G b) (i + 2) = smI (wyF G b) (i + 1) + wyF G b (i + 1) := rfl
        rw [show x2.toNatClampNeg = i + 1 by omega]
        refine ⟨vin (by omega), fun x4 e4 => ?_⟩
        have w := hW (i + 1) (by omega)
        refine ih (i + 1) x4 x2 (by omega) (by omega) ?_ (by omega)
        rw [e4, tl_add (by omega), h2, w]
        exact e3.symm
  unfold w_X10_enough
  intro x1 e1
  refine ⟨2000, go 2000 0 x1 (0 : Int32) lit_0 (by omega) ?_ (by omega)⟩
  rw [e1, hW 0 (by omega)]
  show _ = 0 + wyF G b 0
  omega
theorem f_X9_isHundredths (a1 : Int32) {σ : zSto} {P : Int32 → zSto → Prop} (hP : ∀ r, (¬ r = 0 ↔ (0 ≤ ti a1 ∧ ti a1 ≤ 100)) → P r σ) : w_X9_isHundredths a1 σ P := by
  have l0 := lit_0
  have l100 := lit_100
  refine ⟨fun q => hP _ ⟨fun c => absurd rfl c, fun z => ?_⟩, fun q => ⟨fun q2 => hP _ ⟨fun c => absurd rfl c, fun z => ?_⟩, fun q2 => hP _ ⟨fun _ => ?_, fun _ => by decide⟩⟩⟩
  · have := lt_t q; omega
  · have := lt_t q2; omega
  · have := nlt_t q
    have := nlt_t q2
    exact ⟨by omega, by omega⟩
set_option maxHeartbeats 4000000 in
theorem al_slack {σ : zSto} (H : Lz σ) (a1 a2 : Int32) : ∃ A : Int32, w_X9_slack a1 a2 σ (fun r _ => r = A) ∧ ∀ σa, SmR σ σa → w_X10_slack a1 a2 σa (fun r _ => r = A) := by
  have l0 := lit_0
  have l1 := lit_1
  have l100 := lit_100
  have d : 0 ≤ ti (σ.1 42 0) ∧ ti (σ.1 42 0) ≤ 2 := rdg H.1.1 kd_42 rfl rfl
  by_cases ex : exW σ a1 (0 : Int32) ∧ (0 ≤ ti a2 ∧ ti a2 ≤ 100)
  · obtain ⟨ex, x2⟩ := ex
    obtain ⟨l, hl⟩ : ∃ l : Nat, ti a1 = (l : Int) := ⟨(ti a1).toNat, by have := ex.1; omega⟩
    obtain ⟨N, R, G, tl'⟩ := tlL_of H (l := l) (by have := ex.2.1; omega) (by have := ex.2.1; omega)
    obtain ⟨t1, t2, t3, t4, t5, t6, t7, t8, t9⟩ := id tl'
    have ln := LnN_of H tl'
    have pc : (1 : Int) ≤ 10 ^ (N - 1) := (p10 ⟨N - 1, by omega⟩).1
    have tr := tp_r ln (N - 1) (by omega)
    obtain ⟨m, hm, m1, m2⟩ := fst_ex (fun j => 10 ^ (N - 1) * ti a2 ≤ smI (wyF G (N - 1)) (j + 1) * 100) (tpF G (N - 1)) (by
      show 10 ^ (N - 1) * ti a2 ≤ smI (wyF G (N - 1)) (tpF G (N - 1) + 1) * 100
      rw [wy_s ln (N - 1) (by omega) _ (by omega)]
      exact Int.mul_le_mul_of_nonneg_left x2.2 (by omega))
    have eA : ∀ r : Int32, ti r = (m : Int) → r = Int32.ofNat m := fun r h => t_inj (h.trans (nI_t (by omega)).symm)
    refine ⟨Int32.ofNat m, ?_, ?_⟩
    · unfold w_X9_slack
      refine f_X8_lineAt a1 H.1 (fun z => absurd ⟨ex.1, ex.2.1⟩ z) (fun l' hl' hl2 hc => ⟨fun z => (by cases z), fun j3 e3 => ?_⟩)
      have e3' := Option.some.inj e3
      subst e3'
      have el : l' = l := by omega
      subst el
      have e11 : ti (σ.1 (4 + 12 * l') 11) = (N : Int) := by rw [t9.1 0 (by omega)]; exact t4
      have ts := tsub (x := σ.1 (4 + 12 * l') 11) (y := (1 : Int32)) (by omega)
      refine ⟨isT_L (isN_T (by unfold isN; omega)), f_X9_isHundredths a2 (fun r5 z5 => fun _ => ⟨fun _ => ?_, fun q5 => absurd q5 (z5.mpr x2)⟩)⟩
      refine f_overPosts (by omega) t9 ln t4 _ (b := N - 1) (by omega) (by omega) (fun σ6 f6 v1 v2 v3 => ?_)
      exact f_leastCosts ln (by omega) v1 v2 v3 a2 x2 hm m1 m2 eA
    · intro σa sm
      unfold w_X10_slack
      intro σ1 e1
      obtain ⟨H1, u1⟩ := SmR_223 sm e1
      refine b_X10_in a2 (0 : Int32) (100 : Int32) (fun r3 z3 => fun _ => ⟨fun q => absurd q (z3.mpr ⟨by omega, by omega⟩), fun _ => ?_⟩)
      refine f_handX H1 a1 (0 : Int32) (fun z => absurd ((exW_eq1 u1).mpr ex) z) (fun _ l' N' R' G' hl' tl'' σ2 f2 X2 => fun _ => ⟨fun _ => ?_, fun c => absurd c (by decide)⟩)
      have el : l' = l := by omega
      subst el
      obtain ⟨eN, eR, eG⟩ := tlL_eq tl' tl'' (fun j => u1 229 j (by omega) (by omega))
      subst eN
      subst eR
      subst eG
      have h25 := X2.2.2.2.1
      refine f_findOdds X2 ln _ (b := N' - 1) (by omega) (by omega) (fun σ6 f6 w6 d6 => ?_)
      exact f_enough ln (by omega) w6 d6 a2 x2 hm m1 m2 eA
  · refine ⟨-1, ?_, ?_⟩
    · unfold w_X9_slack
      refine f_X8_lineAt a1 H.1 (fun _ => ⟨fun _ => rfl, fun j3 e3 => (by cases e3)⟩) (fun l' hl' hl2 hc => ⟨fun z => (by cases z), fun j3 e3 => ?_⟩)
      have e3' := Option.some.inj e3
      subst e3'
      exact ⟨isT_L (isN_T (by unfold isN; omega)), f_X9_isHundredths a2 (fun r5 z5 => fun _ => ⟨fun q5 => absurd ⟨⟨by omega, by omega, by omega, by omega⟩, z5.mp q5⟩ ex, fun _ => rfl⟩)⟩
    · intro σa sm
      unfold w_X10_slack
      intro σ1 e1
      obtain ⟨H1, u1⟩ := SmR_223 sm e1
      refine b_X10_in a2 (0 : Int32) (100 : Int32) (fun r3 z3 => fun _ => ⟨fun _ => rfl, fun q3 => ?_⟩)
      have w3 := z3.mp q3
      exact f_handX H1 a1 (0 : Int32) (fun _ => fun _ => ⟨fun c => absurd rfl c, fun _ => rfl⟩) (fun e => absurd ⟨(exW_eq1 u1).mp e, ⟨by omega, by omega⟩⟩ ex)
theorem m_slack {σ : zSto} (H : Lz σ) (a1 a2 : Int32) {P : Int32 → zSto → Prop} (hP : ∀ r σa, (∀ Q : Int32 → zSto → Prop, (∀ σ2, Lz σ2 → Q r σ2) → w_X10_slack a1 a2 σa Q) → P r σa) : w_X9_slack a1 a2 σ P := by
  obtain ⟨A, hc, hr⟩ := al_slack H a1 a2
  exact cj_X9_slack (P := fun _ σa => zInv AC σ.1 3 σa) (Q := fun r _ => r = A) (fun r σa i e2 => by
    subst e2
    have sm := SmR_C H i
    exact hP _ _ (fun Q hQ => cj_X10_slack (P := fun _ σb => zInv AR2 σa.1 3 σb) (Q := fun r' _ => r' = r) (fun r' σb i e => by
      subst e
      exact hQ σb (Lz_R sm.1 i)) (s_X10_slack (A := AR2) (F := σa.1) ar2_r a1 a2 (inv_any sm.1.1) (fun _ _ i => i)) (hr σa sm))) (s_X9_slack (A := AC) (F := σ.1) ac_c a1 a2 (inv_any H.1) (fun _ _ i => i)) hc
/-- what tenfold COSTS are to be expected -/
noncomputable def mnI (G : Nat → Int32) : Nat → Int := smI (fun p => odI G p * (csN G p : Int))
theorem mn_r {N R : Nat} {G : Nat → Int32} (ln : LnN N R G) : ∀ p, p ≤ N → 0 ≤ mnI G p ∧ mnI G p ≤ 750 * (p : Int) := by
  intro p
  induction p with
  | zero => intro _; show 0 ≤ (0 : Int) ∧ (0 : Int) ≤ _; omega
  | succ p ih =>
    intro hp
    have a := ih (by omega)
    have c := cs_r ln (p := p) (by omega)
    have n1 := Int.mul_nonneg c.2.2.2.1 (show (0 : Int) ≤ (csN G p : Int) by omega)
    have n2 := Int.mul_le_mul c.2.2.2.2 (show (csN G p : Int) ≤ 75 by omega) (by omega) (by decide)
    show 0 ≤ mnI G p + odI G p * (csN G p : Int) ∧ mnI G p + odI G p * (csN G p : Int) ≤ _
    omega
set_option maxHeartbeats 8000000 in
theorem al_chance {σ : zSto} (H : Lz σ) (a1 a2 a3 : Int32) : ∃ A : Int64, w_X9_chance a1 a2 a3 σ (fun r _ => r = A) ∧ ∀ σa, SmR σ σa → w_X10_chance a1 a2 a3 σa (fun r _ => r = A) := by
  have l0 := lit_0
  have l1 := lit_1
  have lm := lit_m1
  have l999 := lit_999
  have t10 := tl_10
  have d : 0 ≤ ti (σ.1 42 0) ∧ ti (σ.1 42 0) ≤ 2 := rdg H.1.1 kd_42 rfl rfl
  by_cases ex : exW σ a1 (0 : Int32) ∧ (-1 ≤ ti a2 ∧ ti a2 ≤ 999)
  · obtain ⟨ex, x2⟩ := ex
    obtain ⟨l, hl⟩ : ∃ l : Nat, ti a1 = (l : Int) := ⟨(ti a1).toNat, by have := ex.1; omega⟩
    obtain ⟨N, R, G, tl'⟩ := tlL_of H (l := l) (by have := ex.2.1; omega) (by have := ex.2.1; omega)
    obtain ⟨t1, t2, t3, t4, t5, t6, t7, t8, t9⟩ := id tl'
    have ln := LnN_of H tl'
    have pc : (1 : Int) ≤ 10 ^ (N - 1) := (p10 ⟨N - 1, by omega⟩).1
    have pb : (10 : Int) ^ (N - 1) ≤ 1000000000000000 := (p10 ⟨N - 1, by omega⟩).2
    have mr := mn_r ln (N - 1) (by omega)
    by_cases cm : a2 = -1
    · obtain ⟨A, A1, A2⟩ := eu_part (Int64.ofNat (mnI G (N - 1)).toNat) (10 : Int64) (by rw [i64_t (by omega)]; omega) (by omega) (by rw [t10]; decide) a3
      have eU : ∀ r : Int64, tl r = mnI G (N - 1) → r = Int64.ofNat (mnI G (N - 1)).toNat := fun r h => tl_inj (by rw [h, i64_t (by omega)]; omega)
      refine ⟨A, ?_, ?_⟩
      · unfold w_X9_chance
        refine f_X8_lineAt a1 H.1 (fun z => absurd ⟨ex.1, ex.2.1⟩ z) (fun l' hl' hl2 hc => ⟨fun z => (by cases z), fun j3 e3 => ?_⟩)
        have e3' := Option.some.inj e3
        subst e3'
        have el : l' = l := by omega
        subst el
        have e11 : ti (σ.1 (4 + 12 * l') 11) = (N : Int) := by rw [t9.1 0 (by omega)]; exact t4
        have ts := tsub (x := σ.1 (4 + 12 * l') 11) (y := (1 : Int32)) (by omega)
        refine ⟨isT_L (isN_T (by unfold isN; omega)), fun q => by have := lt_t q; omega, fun _ => ⟨fun _ => ⟨fun q => absurd cm q, fun _ => ?_⟩, fun q => by have := nle_t q; omega⟩⟩
        have go : ∀ (n i : Nat) (x_1 : Int64) (x_3 : Int32), ti x_3 = (i : Int) → i ≤ N - 1 → tl x_1 = mnI G i → N - 1 - i < n → w_X9_tenfoldMean_4 (4 + 12 * l') (fun (r10 : Int64) (σ9 : zSto) => (w_X9_leastTerm r10 (10 : Int64) a3 σ9 (fun (r12 : Int64) (σ11 : zSto) => (fun (r : Int64) (_ : zSto) => r = A) r12 σ11))) n x_1 x_3 σ := by
          intro n
          induction n with
          | zero => intro i x_1 x_3 _ _ _ h; omega
          | succ n ih =>
            intro i x_1 x_3 hi hiN h1 hn
            unfold w_X9_tenfoldMean_4
            refine ⟨fun q => ?_, fun q => ?_⟩
            · have c := le_t q
              have e : i = N - 1 := by omega
              subst e
              rw [eU x_1 h1]
              exact A1 _ σ rfl
            · have c := nle_t q
              have tx := tadd (x := x_3) (y := (1 : Int32)) (by omega)
              have tn := tn_eq x_3
              have cr := cs_r ln (p := i) (by omega)
              have m1 := mn_r ln i (by omega)
              have m2 := mn_r ln (i + 1) (by omega)
              have e2 : mnI G (i + 1) = mnI G i + odI G i * (csN G i : Int) := rfl
              have eo : σ.1 (4 + 12 * l' + 4) x_3.toNatClampNeg = G (7 + 5 * i + 3) := by
                rw [show x_3.toNatClampNeg = i by omega]
                exact t9.2.1 i 3 (by omega) (by omega) (Or.inl (by omega))
              refine ⟨vin (by omega), f_X0_cost t9 x_3 hi (by omega) (by omega) ?_⟩
              rw [eo]
              intro x4 e4 x5 e5
              have f := eq_t e5
              have v : tl ((G (7 + 5 * i + 3)).toInt64 * (csI G i).toInt64) = odI G i * (csN G i : Int) := by
                have e : tl (G (7 + 5 * i + 3)).toInt64 * tl (csI G i).toInt64 = odI G i * (csN G i : Int) := by rw [tl_i, tl_i, cr.2.2.1]; rfl
                rw [tl_mul (by rw [e]; omega), e]
              refine ih (i + 1) x4 x5 (by omega) (by omega) ?_ (by omega)
              rw [e4, tl_add (by omega), h1, v, e2]
        exact ⟨100, go 100 0 (0 : Int64) (0 : Int32) lit_0 (by omega) tl_0 (by omega)⟩
      · intro σa sm
        unfold w_X10_chance
        intro σ1 e1
        obtain ⟨H1, u1⟩ := SmR_223 sm e1
        refine b_X10_in a2 (-1 : Int32) (999 : Int32) (fun r3 z3 => fun _ => ⟨fun q => absurd q (z3.mpr ⟨by omega, by omega⟩), fun _ => ?_⟩)
        refine f_handX H1 a1 (0 : Int32) (fun z => absurd ((exW_eq1 u1).mpr ex) z) (fun _ l' N' R' G' hl' tl'' σ2 f2 X2 => fun _ => ⟨fun _ => ⟨fun q => absurd cm q, fun _ => ?_⟩, fun c => absurd c (by decide)⟩)
        have el : l' = l := by omega
        subst el
        obtain ⟨eN, eR, eG⟩ := tlL_eq tl' tl'' (fun j => u1 229 j (by omega) (by omega))
        subst eN
        subst eR
        subst eG
        have h25 := X2.2.2.2.1
        have go : ∀ (n i : Nat) (x_4 : Int64) (x_6 : Int32), ti x_6 = (i : Int) → i ≤ N' - 1 → tl x_4 = mnI G' i → N' - 1 - i < n → w_X10_chance_40 a3 (fun r _ => r = A) n x_4 x_6 σ2 := by
          intro n
          induction n with
          | zero => intro i x_4 x_6 _ _ _ h; omega
          | succ n ih =>
            intro i x_4 x_6 hi hiN h1 hn
            unfold w_X10_chance_40
            refine ⟨fun q => ?_, fun q => ?_⟩
            · have c := le_t q
              have e : i = N' - 1 := by omega
              subst e
              rw [eU x_4 h1]
              exact A2 _ σ2 rfl
            · have c := nle_t q
              have tx := tadd (x := x_6) (y := (1 : Int32)) (by omega)
              have tn := tn_eq x_6
              have cr := cs_r ln (p := i) (by omega)
              have m1 := mn_r ln i (by omega)
              have m2 := mn_r ln (i + 1) (by omega)
              have e2 : mnI G' (i + 1) = mnI G' i + odI G' i * (csN G' i : Int) := rfl
              rw [show x_6.toNatClampNeg = i by omega, (X2.2.2.2.2.2.2.2.2.2 i (by omega)).1]
              refine ⟨vin (by omega), f_postOf (p := i) (c := 3) X2.1 X2.2.1 _ _ hi (by omega) lit_3 (by omega) ?_⟩
              rw [X2.2.2.2.2.2.2.2.2.1 _ (by omega)]
              intro x17 e17 x18 e18
              have f := eq_t e18
              have v : tl ((csI G' i).toInt64 * (G' (7 + 5 * i + 3)).toInt64) = odI G' i * (csN G' i : Int) := by
                have e : tl (csI G' i).toInt64 * tl (G' (7 + 5 * i + 3)).toInt64 = odI G' i * (csN G' i : Int) := by rw [tl_i, tl_i, cr.2.2.1, Int.mul_comm]; rfl
                rw [tl_mul (by rw [e]; omega), e]
              refine ih (i + 1) x17 x18 (by omega) (by omega) ?_ (by omega)
              rw [e17, tl_add (by omega), h1, v, e2]
        exact ⟨100, go 100 0 (0 : Int64) (0 : Int32) lit_0 (by omega) tl_0 (by omega)⟩
    · have n2 := ne_t cm
      obtain ⟨s, hs⟩ : ∃ s : Nat, ti a2 = (s : Int) := ⟨(ti a2).toNat, by omega⟩
      have wm := wy_m ln (b := N - 1) (by omega) (s + 1)
      have p50 : (1000000000000000 : Int) < 2 ^ 50 := by decide
      obtain ⟨A, A1, A2⟩ := eu_part (Int64.ofNat (smI (wyF G (N - 1)) (s + 1)).toNat) (Int64.ofNat (10 ^ (N - 1) : Int).toNat) (by rw [i64_t (by omega)]; omega) (by rw [i64_t (by omega)]; omega) (by rw [i64_t (by omega)]; omega) a3
      have eU : ∀ r : Int64, tl r = smI (wyF G (N - 1)) (s + 1) → r = Int64.ofNat (smI (wyF G (N - 1)) (s + 1)).toNat := fun r h => tl_inj (by rw [h, i64_t (by omega)]; omega)
      have eD : ∀ r : Int64, tl r = 10 ^ (N - 1) → r = Int64.ofNat (10 ^ (N - 1) : Int).toNat := fun r h => tl_inj (by rw [h, i64_t (by omega)]; omega)
      refine ⟨A, ?_, ?_⟩
      · unfold w_X9_chance
        refine f_X8_lineAt a1 H.1 (fun z => absurd ⟨ex.1, ex.2.1⟩ z) (fun l' hl' hl2 hc => ⟨fun z => (by cases z), fun j3 e3 => ?_⟩)
        have e3' := Option.some.inj e3
        subst e3'
        have el : l' = l := by omega
        subst el
        have e11 : ti (σ.1 (4 + 12 * l') 11) = (N : Int) := by rw [t9.1 0 (by omega)]; exact t4
        have ts := tsub (x := σ.1 (4 + 12 * l') 11) (y := (1 : Int32)) (by omega)
        refine ⟨isT_L (isN_T (by unfold isN; omega)), fun q => by have := lt_t q; omega, fun _ => ⟨fun _ => ⟨fun _ => ?_, fun q => absurd q cm⟩, fun q => by have := nle_t q; omega⟩⟩
        refine f_overPosts (by omega) t9 ln t4 _ (b := N - 1) (by omega) (by omega) (fun σ6 f6 v1 v2 v3 => ?_)
        refine f_weightUpTo ln (by omega) v1 v2 a2 hs (by omega) (fun r hr => ?_)
        rw [eU r hr, eD _ v3]
        exact A1 _ σ6 rfl
      · intro σa sm
        unfold w_X10_chance
        intro σ1 e1
        obtain ⟨H1, u1⟩ := SmR_223 sm e1
        refine b_X10_in a2 (-1 : Int32) (999 : Int32) (fun r3 z3 => fun _ => ⟨fun q => absurd q (z3.mpr ⟨by omega, by omega⟩), fun _ => ?_⟩)
        refine f_handX H1 a1 (0 : Int32) (fun z => absurd ((exW_eq1 u1).mpr ex) z) (fun _ l' N' R' G' hl' tl'' σ2 f2 X2 => fun _ => ⟨fun _ => ⟨fun _ => ?_, fun q => absurd q cm⟩, fun c => absurd c (by decide)⟩)
        have el : l' = l := by omega
        subst el
        obtain ⟨eN, eR, eG⟩ := tlL_eq tl' tl'' (fun j => u1 229 j (by omega) (by omega))
        subst eN
        subst eR
        subst eG
        have h25 := X2.2.2.2.1
        refine f_findOdds X2 ln _ (b := N' - 1) (by omega) (by omega) (fun σ6 f6 w6 d6 => ?_)
        have go : ∀ (n i : Nat) (x_4 : Int64) (x_6 : Int32), ti x_6 = (i : Int) → i ≤ s + 1 → tl x_4 = smI (wyF G' (N' - 1)) i → s + 1 - i < n → w_X10_chance_98 a2 a3 (fun r _ => r = A) n x_4 x_6 σ6 := by
          intro n
          induction n with
          | zero => intro i x_4 x_6 _ _ _ h; omega
          | succ n ih =>
            intro i x_4 x_6 hi hiN h1 hn
            unfold w_X10_chance_98
            refine ⟨fun q => ?_, fun q => ?_⟩
            · have c := lt_t q
              have e : i = s + 1 := by omega
              subst e
              rw [eU x_4 h1, eD _ d6]
              exact A2 _ σ6 rfl
            · have c := nlt_t q
              have tx := tadd (x := x_6) (y := (1 : Int32)) (by omega)
              have tn := tn_eq x_6
              have m1 := wy_m ln (b := N' - 1) (by omega) i
              have m2 := wy_m ln (b := N' - 1) (by omega) (i + 1)
              have e2 : smI (wyF G' (N' - 1)) (i + 1) = smI (wyF G' (N' - 1)) i + wyF G' (N' - 1) i := rfl
              have w := w6 i (by omega)
              rw [show x_6.toNatClampNeg = i by omega]
              refine ⟨vin (by omega), fun x10 e10 x11 e11 => ?_⟩
              have f := eq_t e11
              refine ih (i + 1) x10 x11 (by omega) (by omega) ?_ (by omega)
              rw [e10, tl_add (by omega), h1, w, e2]
        exact ⟨2000, go 2000 0 (0 : Int64) (0 : Int32) lit_0 (by omega) tl_0 (by omega)⟩
  · refine ⟨-1, ?_, ?_⟩
    · unfold w_X9_chance
      refine f_X8_lineAt a1 H.1 (fun _ => ⟨fun _ => rfl, fun j3 e3 => (by cases e3)⟩) (fun l' hl' hl2 hc => ⟨fun z => (by cases z), fun j3 e3 => ?_⟩)
      have e3' := Option.some.inj e3
      subst e3'
      refine ⟨isT_L (isN_T (by unfold isN; omega)), fun _ => rfl, fun k1 => ⟨fun k2 => ?_, fun _ => rfl⟩⟩
      have y1 := nlt_t k1
      have y2 := le_t k2
      exact absurd ⟨⟨by omega, by omega, by omega, by omega⟩, ⟨by omega, by omega⟩⟩ ex
    · intro σa sm
      unfold w_X10_chance
      intro σ1 e1
      obtain ⟨H1, u1⟩ := SmR_223 sm e1
      refine b_X10_in a2 (-1 : Int32) (999 : Int32) (fun r3 z3 => fun _ => ⟨fun _ => rfl, fun q3 => ?_⟩)
      have w3 := z3.mp q3
      exact f_handX H1 a1 (0 : Int32) (fun _ => fun _ => ⟨fun c => absurd rfl c, fun _ => rfl⟩) (fun e => absurd ⟨(exW_eq1 u1).mp e, ⟨by omega, by omega⟩⟩ ex)
theorem m_chance {σ : zSto} (H : Lz σ) (a1 a2 a3 : Int32) {P : Int64 → zSto → Prop} (hP : ∀ r σa, (∀ Q : Int64 → zSto → Prop, (∀ σ2, Lz σ2 → Q r σ2) → w_X10_chance a1 a2 a3 σa Q) → P r σa) : w_X9_chance a1 a2 a3 σ P := by
  obtain ⟨A, hc, hr⟩ := al_chance H a1 a2 a3
  exact cj_X9_chance (P := fun _ σa => zInv AC σ.1 3 σa) (Q := fun r _ => r = A) (fun r σa i e2 => by
    subst e2
    have sm := SmR_C H i
    exact hP _ _ (fun Q hQ => cj_X10_chance (P := fun _ σb => zInv AR2 σa.1 3 σb) (Q := fun r' _ => r' = r) (fun r' σb i e => by
      subst e
      exact hQ σb (Lz_R sm.1 i)) (s_X10_chance (A := AR2) (F := σa.1) ar2_r a1 a2 a3 (inv_any sm.1.1) (fun _ _ i => i)) (hr σa sm))) (s_X9_chance (A := AC) (F := σ.1) ac_c a1 a2 a3 (inv_any H.1) (fun _ _ i => i)) hc
theorem lgc_s (x : Int64) : lg_cmp x x = 0 := by
  unfold lg_cmp
  rw [if_neg (fun z => by
    have y : x < x := z
    have w := Int64.lt_iff_toInt_lt.mp y
    omega), if_pos rfl]
