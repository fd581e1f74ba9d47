/-! left and late on both sides -/
def smT (f : Nat → Int32) : Nat → Int32
  | 0 => 0
  | n + 1 => smT f n + f n
theorem smT_cg {f g : Nat → Int32} : ∀ n, (∀ p, p < n → f p = g p) → smT f n = smT g n := by
  intro n
  induction n with
  | zero => intro _; rfl
  | succ n ih =>
    intro h
    show smT f n + f n = smT g n + g n
    rw [ih (fun p hp => h p (by omega)), h n (by omega)]
theorem f_remainsInAll_4 {t N : Nat} {G f : Nat → Int32} {σ : zSto} (L : LnR t G σ) (hN : ti (G 0) = (N : Int)) (hN16 : N ≤ 16) (hf : ∀ p, p < N → σ.1 192 p = f p) {P : Int32 → zSto → Prop} (hP : P (smT f N) σ) : ∀ (n i : Nat) (x_2 x_3 : Int32), ti x_3 = (i : Int) → i ≤ N → x_2 = smT f i → N - i < n → w_X5_remainsInAll_4 t P n x_2 x_3 σ := by
  have l1 := lit_1
  have e11 : σ.1 t 11 = G 0 := L.1 0 (by omega)
  intro n
  induction n with
  | zero => intro i x_2 x_3 _ _ _ h; omega
  | succ n ih =>
    intro i x_2 x_3 hi hiN h2 hn
    unfold w_X5_remainsInAll_4
    rw [e11]
    refine ⟨fun q => ?_, fun q => ?_⟩
    · have c := le_t q
      have e : i = N := by omega
      subst e
      rw [h2]
      exact hP
    · have c := nle_t q
      have tn := tn_eq x_3
      have t1 := tadd (x := x_3) (y := (1 : Int32)) (by omega)
      rw [show x_3.toNatClampNeg = i by omega, hf i (by omega)]
      refine ⟨vin (by omega), fun x2 e2 x3 e3 => ?_⟩
      have f3 := eq_t e3
      exact ih (i + 1) x2 x3 (by omega) (by omega) (by rw [e2, h2]; rfl) (by omega)
theorem f_left_41 {l R N : Nat} {G cs pd f : Nat → Int32} {σ : zSto} (X : RfX l R N G cs pd σ) (x_5 : Int32) (h5 : x_5 = -1 ∨ ∃ p : Nat, p < N ∧ ti x_5 = (p : Int)) (hf : ∀ p, p < N → pd p - σ.1 242 p = f p) {P : Int32 → zSto → Prop} (hP : P (if x_5 = -1 then smT f N else f (ti x_5).toNat) σ) : ∀ (n i : Nat) (x_6 x_7 : Int32), ti x_7 = (i : Int) → i ≤ N → x_6 = (if x_5 = -1 then smT f i else if ti x_5 < (i : Int) then f (ti x_5).toNat else 0) → N - i < n → w_X10_left_41 x_5 P n x_6 x_7 σ := by
  have l1 := lit_1
  have lm := lit_m1
  have h24 := X.2.2.1
  have N16 := X.2.2.2.2.2.2.1
  intro n
  induction n with
  | zero => intro i x_6 x_7 _ _ _ h; omega
  | succ n ih =>
    intro i x_6 x_7 hi hiN h6 hn
    unfold w_X10_left_41
    refine ⟨fun q => ?_, fun q => ?_⟩
    · have c := le_t q
      have e : i = N := by omega
      subst e
      rw [h6]
      by_cases k : x_5 = -1
      · rw [if_pos k] at hP ⊢
        exact hP
      · rw [if_neg k] at hP ⊢
        rcases h5 with z | ⟨p, hp, z⟩
        · exact absurd z k
        · rw [if_pos (by omega)]
          exact hP
    · have c := nle_t q
      have tn := tn_eq x_7
      have t1 := tadd (x := x_7) (y := (1 : Int32)) (by omega)
      obtain ⟨_, c2, _⟩ := X.2.2.2.2.2.2.2.2.2 i (by omega)
      rw [show x_7.toNatClampNeg = i by omega, c2, hf i (by omega)]
      refine ⟨fun k => ⟨vin (by omega), vin (by omega), fun x6 e6 x7 e7 => ?_⟩, fun k => ⟨fun k2 x6 e6 x7 e7 => ?_, fun k2 => ⟨vin (by omega), vin (by omega), fun x6 e6 x7 e7 => ?_⟩⟩⟩
      · have f7 := eq_t e7
        refine ih (i + 1) x6 x7 (by omega) (by omega) ?_ (by omega)
        rw [e6, h6, if_pos k, if_pos k]
        rfl
      · have f7 := eq_t e7
        have n2 := ne_t k2
        refine ih (i + 1) x6 x7 (by omega) (by omega) ?_ (by omega)
        rw [e6, h6, if_neg k, if_neg k, Int32.add_zero]
        by_cases b : ti x_5 < (i : Int)
        · rw [if_pos b, if_pos (by omega)]
        · rw [if_neg b, if_neg (by omega)]
      · have f7 := eq_t e7
        have n2 := eq_t k2
        refine ih (i + 1) x6 x7 (by omega) (by omega) ?_ (by omega)
        rw [e6, h6, if_neg k, if_neg k, if_neg (by omega), if_pos (by omega), show (ti x_5).toNat = i by omega, Int32.zero_add]
set_option maxHeartbeats 4000000 in
theorem al_left {σ : zSto} (H : Lz σ) (a1 a2 a3 a4 a5 : Int32) : ∃ A : Int32, w_X9_left a1 a2 a3 a4 a5 σ (fun r _ => r = A) ∧ ∀ σa, SmR σ σa → w_X10_left a1 a2 a3 a4 a5 σa (fun r _ => r = A) := by
  have l0 := lit_0
  have lm := lit_m1
  have t5 := tn_eq a5
  by_cases ex : exR σ a1 a2 a4
  · obtain ⟨l, hl⟩ : ∃ l : Nat, ti a1 = (l : Int) := ⟨(ti a1).toNat, by have := ex.1; omega⟩
    have d : 0 ≤ ti (σ.1 42 0) ∧ ti (σ.1 42 0) ≤ 2 := rdg H.1.1 kd_42 rfl rfl
    obtain ⟨N, R, G, tl⟩ := tlL_of H (l := l) (by have := ex.2.1; omega) (by have := ex.2.1; omega)
    obtain ⟨f, hf⟩ : ∃ f : Nat → Int32, f = fun p => pdI G p a4 - rnA a2 R (fun _ => true) G a4 a3 N (60 + p) := ⟨_, rfl⟩
    refine ⟨if a5 = -1 then smT f N else if 0 ≤ ti a5 ∧ ti a5 < (N : Int) then f (ti a5).toNat else -2, ?_, ?_⟩
    · unfold w_X9_left
      refine f_X9_ridden H a1 a2 a3 a4 (fun z => absurd ex z) (fun _ l' N' R' G' hl' tl' σ2 f2 T2 => ?_)
      have el : l' = l := by omega
      subst el
      obtain ⟨eN, eR, eG⟩ := tlL_eq tl tl' (fun _ => rfl)
      subst eN
      subst eR
      subst eG
      refine ⟨fun z => (by cases z), fun j3 e3 => ?_⟩
      have e3' := Option.some.inj e3
      subst e3'
      have L2 := LnR_C (okT_l tl.1) tl.2.2.2.2.2.2.2.2 f2
      have e11 : σ2.1 (4 + 12 * l') 11 = G' 0 := L2.1 0 (by omega)
      have hN := tl.2.2.2.1
      have N16 := tl.2.2.2.2.2.2.1
      have r92 : ∀ p, p < N' → σ2.1 192 p = f p := fun p hp => by rw [hf]; exact (T2.2.2.2.2.2.2.1 p hp).2
      refine ⟨isT_L (isN_T (by have := tl.1; unfold isN; omega)), fun k => ?_, fun k => ?_⟩
      · rw [if_neg k]
        refine f_X0_hasPost _ a5 (fun r5 z5 => fun _ => ⟨fun q5 => ?_, fun q5 => ?_⟩)
        · rw [if_neg (fun w => z5.mpr (by rw [e11, hN]; exact w) q5)]
        · have w := z5.mp q5
          rw [e11, hN] at w
          rw [if_pos w, t5]
          exact ⟨vin (by omega), r92 _ (by omega)⟩
      · rw [if_pos k]
        exact ⟨100, f_remainsInAll_4 L2 hN N16 r92 rfl 100 0 (0 : Int32) (0 : Int32) lit_0 (by omega) rfl (by omega)⟩
    · intro σa sm
      unfold w_X10_left
      intro σ1 e1
      obtain ⟨H1, u1⟩ := SmR_223 sm e1
      refine f_X10_layRun H1 a1 a2 a3 a4 (fun z => absurd ((exR_eq1 u1).mpr ex) z) (fun _ l' N' R' G' hl' tl' σ2 f2 X2 T2 => fun _ => ⟨fun c => absurd c (by decide), fun _ => ?_⟩)
      have el : l' = l := by omega
      subst el
      obtain ⟨eN, eR, eG⟩ := tlL_eq tl tl' (fun j => u1 229 j (by omega) (by omega))
      subst eN
      subst eR
      subst eG
      have h25 := X2.2.2.2.1
      have N16 := X2.2.2.2.2.2.2.1
      have r42 : ∀ p, p < N' → pdI G' p a4 - σ2.1 242 p = f p := fun p hp => by rw [hf, (T2.1.2.2.2.2 p hp).2]
      have run : (a5 = -1 ∨ ∃ p : Nat, p < N' ∧ ti a5 = (p : Int)) → ∃ n : Nat, w_X10_left_41 a5 (fun r _ => r = (if a5 = -1 then smT f N' else f (ti a5).toNat)) n (0 : Int32) (0 : Int32) σ2 := fun h => ⟨100, f_left_41 X2 a5 h r42 rfl 100 0 (0 : Int32) (0 : Int32) lit_0 (by omega) (by
        by_cases k : a5 = -1
        · rw [if_pos k]; rfl
        · rw [if_neg k]
          rcases h with z | ⟨p, _, z⟩
          · exact absurd z k
          · rw [if_neg (by omega)]) (by omega)⟩
      refine ⟨fun k => ?_, fun k => ?_⟩
      · have y := run (Or.inl k)
        rw [if_pos k] at y ⊢
        exact y
      · refine f_X10_isPost a5 (fun r5 z5 => fun _ => ⟨fun q5 => ?_, fun q5 => ?_⟩)
        · have w := z5.mp q5
          have y := run (Or.inr ⟨(ti a5).toNat, by omega, by omega⟩)
          rw [if_neg k] at y ⊢
          rw [if_pos (by omega)]
          exact y
        · rw [if_neg k, if_neg (fun w => z5.mpr (by omega) q5)]
  · refine ⟨-2, ?_, ?_⟩
    · unfold w_X9_left
      exact f_X9_ridden H a1 a2 a3 a4 (fun _ => ⟨fun _ => rfl, fun j3 e3 => (by cases e3)⟩) (fun e => absurd e ex)
    · intro σa sm
      unfold w_X10_left
      intro σ1 e1
      obtain ⟨H1, u1⟩ := SmR_223 sm e1
      exact f_X10_layRun H1 a1 a2 a3 a4 (fun _ => fun _ => ⟨fun _ => rfl, fun c => absurd rfl c⟩) (fun e => absurd ((exR_eq1 u1).mp e) ex)
theorem m_left {σ : zSto} (H : Lz σ) (a1 a2 a3 a4 a5 : Int32) {P : Int32 → zSto → Prop} (hP : ∀ r σa, (∀ Q : Int32 → zSto → Prop, (∀ σ2, Lz σ2 → Q r σ2) → w_X10_left a1 a2 a3 a4 a5 σa Q) → P r σa) : w_X9_left a1 a2 a3 a4 a5 σ P := by
  obtain ⟨A, hc, hr⟩ := al_left H a1 a2 a3 a4 a5
  exact cj_X9_left (P := fun _ σa => zInv AC σ.1 3 σa) (Q := fun r _ => r = A) (fun r σa i e2 => by
    subst e2
    have sm := SmR_C H i
    exact hP _ _ (fun Q hQ => cj_X10_left (P := fun _ σb => zInv AR2 σa.1 3 σb) (Q := fun r' _ => r' = r) (fun r' σb i e => by
      subst e
      exact hQ σb (Lz_R sm.1 i)) (s_X10_left (A := AR2) (F := σa.1) ar2_r a1 a2 a3 a4 a5 (inv_any sm.1.1) (fun _ _ i => i)) (hr σa sm))) (s_X9_left (A := AC) (F := σ.1) ac_c a1 a2 a3 a4 a5 (inv_any H.1) (fun _ _ i => i)) hc
/-! when the train is there -/
def csB (cs S : Nat → Int32) : Nat → Int32
  | 0 => 0
  | p + 1 => if S (40 + p) = -1 then csB cs S p else csB cs S p + cs p
theorem cmT_eq (cs mn S : Nat → Int32) : ∀ p, smT mn p + csB cs S p = cmT cs mn S p := by
  intro p
  induction p with
  | zero => exact Int32.add_zero 0
  | succ p ih =>
    show (smT mn p + mn p) + (if S (40 + p) = -1 then csB cs S p else csB cs S p + cs p) = (if S (40 + p) = -1 then cmT cs mn S p + mn p else cmT cs mn S p + cs p + mn p)
    by_cases c : S (40 + p) = -1
    · rw [if_pos c, if_pos c, ← ih]
      ac_rfl
    · rw [if_neg c, if_neg c, ← ih]
      ac_rfl
theorem f_minutesTo {t N : Nat} {G : Nat → Int32} {σ : zSto} (L : LnR t G σ) (hN : ti (G 0) = (N : Int)) (hN16 : N ≤ 16) (a1 : Int32) {p : Nat} (h1 : ti a1 = (p : Int)) (hp : p ≤ N) {P : Int32 → zSto → Prop} (hP : P (smT (fun q => G (7 + 5 * q)) p) σ) : w_X0_minutesTo t a1 σ P := by
  have l1 := lit_1
  have go : ∀ (n i : Nat) (x_2 x_3 : Int32), ti x_3 = (i : Int) → i ≤ p → x_2 = smT (fun q => G (7 + 5 * q)) i → p - i < n → w_X0_minutesTo_4 t a1 P n x_2 x_3 σ := by
    intro n
    induction n with
    | zero => intro i x_2 x_3 _ _ _ h; omega
    | succ n ih =>
      intro i x_2 x_3 hi hiN h2 hn
      unfold w_X0_minutesTo_4
      refine ⟨fun q => ?_, fun q => ?_⟩
      · have c := le_t q
        have e : i = p := by omega
        subst e
        rw [h2]
        exact hP
      · have c := nle_t q
        have tn := tn_eq x_3
        have t1 := tadd (x := x_3) (y := (1 : Int32)) (by omega)
        have em : σ.1 (t + 1) i = G (7 + 5 * i) := L.2.1 i 0 (by omega) (by omega) (Or.inr (by omega))
        rw [show x_3.toNatClampNeg = i by omega, em]
        refine ⟨vin (by omega), fun x2 e2 x3 e3 => ?_⟩
        have f3 := eq_t e3
        exact ih (i + 1) x2 x3 (by omega) (by omega) (by rw [e2, h2]; rfl) (by omega)
  exact ⟨100, go 100 0 (0 : Int32) (0 : Int32) lit_0 (by omega) rfl (by omega)⟩
theorem f_costsBefore {t N : Nat} {G S : Nat → Int32} {σ : zSto} (L : LnR t G σ) (hN : ti (G 0) = (N : Int)) (hN16 : N ≤ 16) (a1 a2 : Int32) {p : Nat} (h1 : ti a1 = (p : Int)) (hp : p ≤ N) (hb : ∀ j, j < 32 → bt a2 j = (decide (j < 16) && decide (¬ S (40 + j) = -1))) {P : Int32 → zSto → Prop} (hP : P (csB (csI G) S p) σ) : w_X0_costsBefore t a1 a2 σ P := by
  have l1 := lit_1
  have go : ∀ (n i : Nat) (x_3 x_4 : Int32), ti x_4 = (i : Int) → i ≤ p → x_3 = csB (csI G) S i → p - i < n → w_X0_costsBefore_5 t a1 a2 P n x_3 x_4 σ := by
    intro n
    induction n with
    | zero => intro i x_3 x_4 _ _ _ h; omega
    | succ n ih =>
      intro i x_3 x_4 hi hiN h2 hn
      unfold w_X0_costsBefore_5
      refine ⟨fun q => ?_, fun q => ?_⟩
      · have c := le_t q
        have e : i = p := by omega
        subst e
        rw [h2]
        exact hP
      · have c := nle_t q
        have t1 := tadd (x := x_4) (y := (1 : Int32)) (by omega)
        have e4 := nI_x hi (by omega)
        have b := hb i (by omega)
        rw [decide_eq_true (show i < 16 by omega), Bool.true_and] at b
        refine ⟨fun k x1 e1 => ?_, fun k => ?_⟩
        · have f := eq_t e1
          have z := (bt_0 (x := a2) (show i < 32 by omega) e4).mp k
          rw [z] at b
          have z2 : S (40 + i) = -1 := Classical.byContradiction (fun w => by rw [decide_eq_true w] at b; cases b)
          refine ih (i + 1) x_3 x1 (by omega) (by omega) ?_ (by omega)
          rw [h2]
          show _ = if S (40 + i) = -1 then csB (csI G) S i else csB (csI G) S i + csI G i
          rw [if_pos z2]
        · have z2 : ¬ S (40 + i) = -1 := fun w => k ((bt_0 (show i < 32 by omega) e4).mpr (by rw [b, w]; rfl))
          refine f_X0_cost L x_4 hi (by omega) (by omega) ?_
          intro x4 e4' x5 e5
          have f := eq_t e5
          refine ih (i + 1) x4 x5 (by omega) (by omega) ?_ (by omega)
          rw [e4', h2]
          show _ = if S (40 + i) = -1 then csB (csI G) S i else csB (csI G) S i + csI G i
          rw [if_neg z2]
  exact ⟨100, go 100 0 (0 : Int32) (0 : Int32) lit_0 (by omega) rfl (by omega)⟩
theorem f_arrival {t N R : Nat} {G pd S : Nat → Int32} {i : Nat} {σ : zSto} (L : LnR t G σ) (hN : ti (G 0) = (N : Int)) (hN16 : N ≤ 16) (T : CsS N R G pd S i σ) (a2 : Int32) {p : Nat} (h2 : ti a2 = (p : Int)) (hp : p ≤ N) {P : Int32 → zSto → Prop} (hP : P (cmT (csI G) (fun q => G (7 + 5 * q)) S p) σ) : w_X5_arrival t a2 σ P := by
  unfold w_X5_arrival
  refine f_minutesTo L hN hN16 a2 h2 hp ?_
  refine f_costsBefore L hN hN16 a2 _ h2 hp T.2.2.2.2.2.2.2.1 ?_
  rw [cmT_eq]
  exact hP
set_option maxHeartbeats 4000000 in
theorem al_late {σ : zSto} (H : Lz σ) (a1 a2 a3 a4 a5 : Int32) : ∃ A : Int32, w_X9_late a1 a2 a3 a4 a5 σ (fun r _ => r = A) ∧ ∀ σa, SmR σ σa → w_X10_late a1 a2 a3 a4 a5 σa (fun r _ => r = A) := by
  have l0 := lit_0
  have t5 := tn_eq a5
  by_cases ex : exR σ a1 a2 a4
  · obtain ⟨l, hl⟩ : ∃ l : Nat, ti a1 = (l : Int) := ⟨(ti a1).toNat, by have := ex.1; omega⟩
    have d : 0 ≤ ti (σ.1 42 0) ∧ ti (σ.1 42 0) ≤ 2 := rdg H.1.1 kd_42 rfl rfl
    obtain ⟨N, R, G, tl⟩ := tlL_of H (l := l) (by have := ex.2.1; omega) (by have := ex.2.1; omega)
    refine ⟨if 0 ≤ ti a5 ∧ ti a5 < (N : Int) then (if G (7 + 5 * (ti a5).toNat + 4) = -1 then -1 else mx0 (cmT (csI G) (fun q => G (7 + 5 * q)) (rnA a2 R (fun _ => true) G a4 a3 N) (ti a5).toNat - G (7 + 5 * (ti a5).toNat + 4))) else -1, ?_, ?_⟩
    · unfold w_X9_late
      refine f_X9_ridden H a1 a2 a3 a4 (fun z => absurd ex z) (fun _ l' N' R' G' hl' tl' σ2 f2 T2 => ?_)
      have el : l' = l := by omega
      subst el
      obtain ⟨eN, eR, eG⟩ := tlL_eq tl tl' (fun _ => rfl)
      subst eN
      subst eR
      subst eG
      refine ⟨fun z => (by cases z), fun j3 e3 => ?_⟩
      have e3' := Option.some.inj e3
      subst e3'
      have L2 := LnR_C (okT_l tl.1) tl.2.2.2.2.2.2.2.2 f2
      have e11 : σ2.1 (4 + 12 * l') 11 = G' 0 := L2.1 0 (by omega)
      have hN := tl.2.2.2.1
      have N16 := tl.2.2.2.2.2.2.1
      refine ⟨isT_L (isN_T (by have := tl.1; unfold isN; omega)), ?_⟩
      unfold w_X0_isStation
      refine f_X0_hasPost _ a5 (fun r5 z5 => fun _ => ⟨fun q5 => ?_, fun q5 => ⟨vin (by have := z5.mp q5; rw [e11, hN] at this; omega), ?_⟩⟩)
      · intro _
        exact ⟨fun c => absurd rfl c, fun _ => by rw [if_neg (fun w => z5.mpr (by rw [e11, hN]; exact w) q5)]⟩
      · have w := z5.mp q5
        rw [e11, hN] at w
        have ep : σ2.1 (4 + 12 * l' + 5) (ti a5).toNat = G' (7 + 5 * (ti a5).toNat + 4) := L2.2.1 (ti a5).toNat 4 (by omega) (by omega) (Or.inl (by omega))
        rw [t5, ep]
        refine ⟨fun k => fun _ => ⟨fun c => absurd rfl c, fun _ => ?_⟩, fun k => fun _ => ⟨fun _ => ?_, fun c => absurd c (by decide)⟩⟩
        · rw [if_pos w, if_pos k]
        · unfold w_X5_lateAt
          refine f_arrival L2 hN N16 T2 a5 (p := (ti a5).toNat) (by omega) (by omega) ?_
          rw [t5, ep]
          refine ⟨vin (by omega), ?_⟩
          rw [if_pos w, if_neg k]
          rfl
    · intro σa sm
      unfold w_X10_late
      intro σ1 e1
      obtain ⟨H1, u1⟩ := SmR_223 sm e1
      refine f_X10_layRun H1 a1 a2 a3 a4 (fun z => absurd ((exR_eq1 u1).mpr ex) z) (fun _ l' N' R' G' hl' tl' σ2 f2 X2 T2 => fun _ => ⟨fun c => absurd c (by decide), fun _ => ?_⟩)
      have el : l' = l := by omega
      subst el
      obtain ⟨eN, eR, eG⟩ := tlL_eq tl tl' (fun j => u1 229 j (by omega) (by omega))
      subst eN
      subst eR
      subst eG
      have h25 := X2.2.2.2.1
      have N16 := X2.2.2.2.2.2.2.1
      refine f_X10_isPost a5 (fun r5 z5 => fun _ => ⟨fun q5 => ?_, fun q5 => ?_⟩)
      · rw [if_neg (fun w => z5.mpr (by omega) q5)]
      · have w := z5.mp q5
        rw [if_pos (by omega)]
        refine f_postOf (p := (ti a5).toNat) (c := 4) X2.1 X2.2.1 _ _ (by omega) (by omega) lit_4 (by omega) ?_
        rw [X2.2.2.2.2.2.2.2.2.1 _ (by omega)]
        refine ⟨fun k => ⟨vin (by omega), ?_⟩, fun k => by rw [if_pos k]⟩
        refine f_postOf (p := (ti a5).toNat) (c := 4) X2.1 X2.2.1 _ _ (by omega) (by omega) lit_4 (by omega) ?_
        rw [X2.2.2.2.2.2.2.2.2.1 _ (by omega), t5, T2.2.2.2 (ti a5).toNat (by omega)]
        refine f_greater _ _ ?_
        rw [if_neg k]
        rfl
  · refine ⟨-1, ?_, ?_⟩
    · unfold w_X9_late
      exact f_X9_ridden H a1 a2 a3 a4 (fun _ => ⟨fun _ => rfl, fun j3 e3 => (by cases e3)⟩) (fun e => absurd e ex)
    · intro σa sm
      unfold w_X10_late
      intro σ1 e1
      obtain ⟨H1, u1⟩ := SmR_223 sm e1
      exact f_X10_layRun H1 a1 a2 a3 a4 (fun _ => fun _ => ⟨fun _ => rfl, fun c => absurd rfl c⟩) (fun e => absurd ((exR_eq1 u1).mp e) ex)
theorem m_late {σ : zSto} (H : Lz σ) (a1 a2 a3 a4 a5 : Int32) {P : Int32 → zSto → Prop} (hP : ∀ r σa, (∀ Q : Int32 → zSto → Prop, (∀ σ2, Lz σ2 → Q r σ2) → w_X10_late a1 a2 a3 a4 a5 σa Q) → P r σa) : w_X9_late a1 a2 a3 a4 a5 σ P := by
  obtain ⟨A, hc, hr⟩ := al_late H a1 a2 a3 a4 a5
  exact cj_X9_late (P := fun _ σa => zInv AC σ.1 3 σa) (Q := fun r _ => r = A) (fun r σa i e2 => by
    subst e2
    have sm := SmR_C H i
    exact hP _ _ (fun Q hQ => cj_X10_late (P := fun _ σb => zInv AR2 σa.1 3 σb) (Q := fun r' _ => r' = r) (fun r' σb i e => by
      subst e
      exact hQ σb (Lz_R sm.1 i)) (s_X10_late (A := AR2) (F := σa.1) ar2_r a1 a2 a3 a4 a5 (inv_any sm.1.1) (fun _ _ i => i)) (hr σa sm))) (s_X9_late (A := AC) (F := σ.1) ac_c a1 a2 a3 a4 a5 (inv_any H.1) (fun _ _ i => i)) hc
