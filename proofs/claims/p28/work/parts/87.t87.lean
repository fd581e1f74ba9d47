/-! calm on both sides -/
def onS (x : Int32) : Nat → Int32 := fun j => if bt x (j - 40) = true then 0 else -1
def ob (k : Nat) : Nat := cnF (bt (Int32.ofNat k)) 6
theorem on_64 : ∀ k, k < 64 → scT (onS (Int32.ofNat k)) 16 = Int32.ofNat (ob k) := by decide +kernel
theorem ob_le : ∀ R, R < 7 → ∀ k, k < 2 ^ R → ob k ≤ R := by decide +kernel
theorem f_ones6 {k : Nat} (hk : k < 64) (x : Int32) (e : x = Int32.ofNat k) {σ : zSto} {P : Int32 → zSto → Prop} (hP : P (Int32.ofNat (ob k)) σ) : w_X10_ones x σ P := by
  subst e
  refine f_X10_ones _ (S := onS (Int32.ofNat k)) (fun j hj => ?_) ?_
  · unfold onS
    rw [show 40 + j - 40 = j by omega]
    cases bt (Int32.ofNat k) j <;> decide
  · rw [on_64 k hk]
    exact hP
def Bsf (cl : Nat → Prop) (R n : Nat) (A : Int32) (f : Nat) : Prop := (A = -1 ∧ f = R + 1 ∧ ∀ k, k < n → ¬ cl k) ∨ ∃ m, m < n ∧ A = Int32.ofNat m ∧ f = ob m ∧ cl m ∧ (∀ k, k < n → cl k → ob m ≤ ob k) ∧ (∀ k, k < m → cl k → ob m < ob k)
theorem Bsf_u {cl : Nat → Prop} {R n : Nat} {A B : Int32} {f g : Nat} (a : Bsf cl R n A f) (b : Bsf cl R n B g) : A = B := by
  rcases a with ⟨e, _, h⟩ | ⟨m, hm, e, _, c, h1, h2⟩
  · rcases b with ⟨e', _, h'⟩ | ⟨m', hm', e', _, c', h1', h2'⟩
    · rw [e, e']
    · exact absurd c' (h m' hm')
  · rcases b with ⟨e', _, h'⟩ | ⟨m', hm', e', _, c', h1', h2'⟩
    · exact absurd c (h' m hm)
    · have : m = m' := by
        rcases Nat.lt_trichotomy m m' with q | q | q
        · have := h2' m q c
          have := h1 m' hm' c'
          omega
        · exact q
        · have := h2 m' q c'
          have := h1' m hm c
          omega
      rw [e, e', this]
theorem Bsf_1 {cl : Nat → Prop} {R n : Nat} {A : Int32} {f : Nat} (a : Bsf cl R n A f) (o : ob n ≤ R) (h : f ≤ ob n) : Bsf cl R (n + 1) A f := by
  rcases a with ⟨_, e, _⟩ | ⟨m, hm, e, ef, c, h1, h2⟩
  · omega
  · refine Or.inr ⟨m, by omega, e, ef, c, fun k hk ck => ?_, h2⟩
    by_cases d : k = n
    · subst d; omega
    · exact h1 k (by omega) ck
theorem Bsf_2 {cl : Nat → Prop} {R n : Nat} {A : Int32} {f : Nat} (a : Bsf cl R n A f) (h : ¬ cl n) : Bsf cl R (n + 1) A f := by
  have st : ∀ {k}, k < n + 1 → cl k → k < n := fun {k} hk ck => by
    by_cases d : k = n
    · subst d; exact absurd ck h
    · omega
  rcases a with ⟨e, ef, g⟩ | ⟨m, hm, e, ef, c, h1, h2⟩
  · exact Or.inl ⟨e, ef, fun k hk ck => g k (st hk ck) ck⟩
  · exact Or.inr ⟨m, by omega, e, ef, c, fun k hk ck => h1 k (st hk ck) ck, h2⟩
theorem Bsf_3 {cl : Nat → Prop} {R n : Nat} {A : Int32} {f : Nat} (a : Bsf cl R n A f) (h : ob n < f) (hc : cl n) : Bsf cl R (n + 1) (Int32.ofNat n) (ob n) := by
  rcases a with ⟨e, ef, g⟩ | ⟨m, hm, e, ef, c, h1, h2⟩
  · refine Or.inr ⟨n, by omega, rfl, rfl, hc, fun k hk ck => ?_, fun k hk ck => absurd ck (g k hk)⟩
    by_cases d : k = n
    · subst d; exact Nat.le_refl _
    · exact absurd ck (g k (by omega))
  · refine Or.inr ⟨n, by omega, rfl, rfl, hc, fun k hk ck => ?_, fun k hk ck => ?_⟩
    · by_cases d : k = n
      · subst d; exact Nat.le_refl _
      · have := h1 k (by omega) ck
        omega
    · have := h1 k hk ck
      omega
theorem Bsf_ex {cl : Nat → Prop} {R : Nat} : ∀ n, (∀ k, k < n → ob k ≤ R) → ∃ A f, Bsf cl R n A f := by
  intro n
  induction n with
  | zero => intro _; exact ⟨-1, R + 1, Or.inl ⟨rfl, rfl, fun k hk => absurd hk (Nat.not_lt_zero k)⟩⟩
  | succ n ih =>
    intro h
    obtain ⟨A, f, b⟩ := ih (fun k hk => h k (by omega))
    by_cases c : cl n
    · by_cases d : ob n < f
      · exact ⟨_, _, Bsf_3 b d c⟩
      · exact ⟨_, _, Bsf_1 b (h n (by omega)) (by omega)⟩
    · exact ⟨_, _, Bsf_2 b c⟩
set_option maxHeartbeats 8000000 in
theorem al_calm {σ : zSto} (H : Lz σ) (a1 a2 a3 : Int32) : ∃ A : Int32, w_X9_calm a1 a2 a3 σ (fun r _ => r = A) ∧ ∀ σa, SmR σ σa → w_X10_calm a1 a2 a3 σa (fun r _ => r = A) := by
  have l0 := lit_0
  have l1 := lit_1
  have lm1 := lit_m1
  have l999 := lit_999
  have d : 0 ≤ ti (σ.1 42 0) ∧ ti (σ.1 42 0) ≤ 2 := rdg H.1.1 kd_42 rfl rfl
  by_cases ex : exW σ a1 a2 ∧ (-1 ≤ ti a3 ∧ ti a3 ≤ 999)
  · obtain ⟨ex, x3⟩ := ex
    obtain ⟨l, hl⟩ : ∃ l : Nat, ti a1 = (l : Int) := ⟨(ti a1).toNat, by have := ex.1; omega⟩
    obtain ⟨N, R, G, tl⟩ := tlL_of H (l := l) (by have := ex.2.1; omega) (by have := ex.2.1; omega)
    obtain ⟨t1, t2, t3, t4, t5, t6, t7, t8, t9⟩ := id tl
    have ev := ev_ti t8
    have pw := pw_le t8
    have obR : ∀ k, k < 2 ^ R → ob k ≤ R := ob_le R (by omega)
    obtain ⟨M, hM⟩ : ∃ M : Nat, M = 2 ^ R := ⟨_, rfl⟩
    rw [← hM] at ev pw obR
    obtain ⟨F, hF⟩ : ∃ F : Nat → Nat → Int32, F = fun k => rnA 0 R (bt (Int32.ofNat k ^^^ (-1 : Int32))) G a2 0 N := ⟨_, rfl⟩
    obtain ⟨cl, cl1, cl2⟩ : ∃ cl : Nat → Prop, (a3 = -1 → ∀ k, (cl k ↔ bsT (G 5) (F k) (N - 1) = -1)) ∧ (¬ a3 = -1 → ∀ k, (cl k ↔ ¬ a3 < F k 0)) := by
      by_cases c : a3 = -1
      · exact ⟨fun k => bsT (G 5) (F k) (N - 1) = -1, fun _ k => Iff.rfl, fun z => absurd c z⟩
      · exact ⟨fun k => ¬ a3 < F k 0, fun z => absurd z c, fun _ k => Iff.rfl⟩
    obtain ⟨A, fA, hA⟩ := Bsf_ex (cl := cl) (R := R) M obR
    refine ⟨A, ?_, ?_⟩
    · unfold w_X9_calm
      refine f_X8_lineAt a1 H.1 (fun z => absurd ⟨ex.1, ex.2.1⟩ z) (fun l' hl' hl2 hc => ⟨fun z => (by cases z), fun j3 e3 => ?_⟩)
      have e3' := Option.some.inj e3
      subst e3'
      have el : l' = l := by omega
      subst el
      refine ⟨isT_L (isN_T (by unfold isN; omega)), f_X9_isWeek a2 (fun r5 z5 => fun _ => ⟨fun q5 => absurd q5 (z5.mpr ⟨ex.2.2.1, ex.2.2.2⟩), fun _ => ⟨fun k => by have := lt_t k; omega, fun _ => ⟨fun _ => ?_, fun k => by have := nle_t k; omega⟩⟩⟩)⟩
      intro x6 e6
      have go : ∀ (n i : Nat) (x_5 x_6 x_7 : Int32) (σ2 : zSto) (fw : Nat), LnR (4 + 12 * l') G σ2 → ti x_7 = (i : Int) → i ≤ M → ti x_5 = (fw : Int) → Bsf cl R i x_6 fw → M - i < n → w_X9_calm_51 a2 a3 (4 + 12 * l') (fun r _ => r = A) n x_5 x_6 x_7 σ2 := by
        intro n
        induction n with
        | zero => intro i x_5 x_6 x_7 σ2 fw _ _ _ _ _ h; omega
        | succ n ih =>
          intro i x_5 x_6 x_7 σ2 fw L2 hi hiM h5 hB hn
          have e12 : σ2.1 (4 + 12 * l') 12 = Int32.ofNat R := t_inj (by rw [L2.1 1 (by omega), t5]; exact (nI_t (by omega)).symm)
          unfold w_X9_calm_51 w_X0_riderSets
          rw [e12]
          refine ⟨fun q => ?_, fun q => ?_⟩
          · have c := le_t q
            have e : i = M := by omega
            subst e
            exact Bsf_u hB hA
          · have c := nle_t q
            have tx := tadd (x := x_7) (y := (1 : Int32)) (by omega)
            have e7 := nI_x hi (by omega)
            have o6 := obR i (by omega)
            have tb : ti (Int32.ofNat (ob i)) = (ob i : Int) := nI_t (by omega)
            have eb : Int32.ofNat (cnF (bt x_7) 6) = Int32.ofNat (ob i) := by rw [e7]; rfl
            refine f_bitCount x_7 ⟨i, by omega, e7⟩ ?_
            rw [eb]
            refine ⟨fun k x11 e11 => ?_, fun k => ?_⟩
            · have k1 := le_t k
              have f := eq_t e11
              exact ih (i + 1) x_5 x_6 x11 σ2 fw L2 (by omega) (by omega) h5 (Bsf_1 hB o6 (by omega)) (by omega)
            · have k1 := nle_t k
              unfold w_X9_isCalm
              refine f_X5_byLaw (so := bt (Int32.ofNat i ^^^ (-1 : Int32))) (okT_l hl2) L2 t4 t6 t7 t5 t8 (0 : Int32) (0 : Int32) a2 (x_7 ^^^ (-1 : Int32)) (by omega) (fun r hr => by rw [e7]) (fun σ6 f6 T6 => ?_)
              have eF : rnF (0 : Int32) R (bt (Int32.ofNat i ^^^ (-1 : Int32))) (csI G) (fun p => pdI G p a2) (rdG G) (0 : Int32) (N - 1) = F i := by rw [hF]; rfl
              rw [eF] at T6
              have L6 := LnR_C (okT_l hl2) L2 f6
              obtain ⟨s0, s1, s2, s3, s4, s5, s6, s7, s8, s9⟩ := T6
              rw [s0, s9]
              have no : ¬ cl i → ∀ x14 : Int32, x14 = x_7 + (1 : Int32) → w_X9_calm_51 a2 a3 (4 + 12 * l') (fun r _ => r = A) n x_5 x_6 x14 σ6 := fun h x14 e14 => by
                have f := eq_t e14
                exact ih (i + 1) x_5 x_6 x14 σ6 fw L6 (by omega) (by omega) h5 (Bsf_2 hB h) (by omega)
              have yes : cl i → w_J6_bitCount_0f7a4 x_7 σ6 (fun (r16 : Int32) (σ15 : zSto) => ∀ x17 : Int32, x17 = x_7 + (1 : Int32) → w_X9_calm_51 a2 a3 (4 + 12 * l') (fun r _ => r = A) n r16 x_7 x17 σ15) := fun h => by
                refine f_bitCount x_7 ⟨i, by omega, e7⟩ ?_
                rw [eb]
                intro x17 e17
                have f := eq_t e17
                refine ih (i + 1) _ x_7 x17 σ6 (ob i) L6 (by omega) (by omega) tb ?_ (by omega)
                rw [e7]
                exact Bsf_3 hB (by omega) h
              refine ⟨fun k2 => ⟨fun k3 => fun _ => ⟨fun _ => no (fun z => (cl2 k2 i).mp z k3), fun z => absurd rfl z⟩, fun k3 => fun _ => ⟨fun z => absurd z (by decide), fun _ => yes ((cl2 k2 i).mpr k3)⟩⟩, fun k2 => ⟨fun k3 => fun _ => ⟨fun _ => no (fun z => k3 ((cl1 k2 i).mp z)), fun z => absurd rfl z⟩, fun k3 => fun _ => ⟨fun z => absurd z (by decide), fun _ => yes ((cl1 k2 i).mpr k3)⟩⟩⟩
      have e12 : σ.1 (4 + 12 * l') 12 = Int32.ofNat R := t_inj (by rw [t9.1 1 (by omega), t5]; exact (nI_t (by omega)).symm)
      have tR : ti (Int32.ofNat R) = (R : Int) := nI_t (by omega)
      have t6' := tadd (x := Int32.ofNat R) (y := (1 : Int32)) (by omega)
      have f6 := eq_t e6
      rw [e12] at f6
      exact ⟨100, go 100 0 x6 (-1 : Int32) (0 : Int32) σ (R + 1) t9 lit_0 (by omega) (by omega) (Or.inl ⟨rfl, rfl, fun k hk => absurd hk (Nat.not_lt_zero k)⟩) (by omega)⟩
    · intro σa sm
      unfold w_X10_calm
      intro σ1 e1
      obtain ⟨H1, u1⟩ := SmR_223 sm e1
      refine b_X10_in a3 (-1 : Int32) (999 : Int32) (fun r3 z3 => fun _ => ⟨fun q => absurd q (z3.mpr ⟨by omega, by omega⟩), fun _ => ?_⟩)
      refine f_handX H1 a1 a2 (fun z => absurd ((exW_eq1 u1).mpr ex) z) (fun _ l' N' R' G' hl' tl' σ2 f2 X2 => fun _ => ⟨fun _ => ?_, fun c => absurd c (by decide)⟩)
      have el : l' = l := by omega
      subst el
      obtain ⟨eN, eR, eG⟩ := tlL_eq tl tl' (fun j => u1 229 j (by omega) (by omega))
      subst eN
      subst eR
      subst eG
      have ts := tsub (x := (1 : Int32) <<< (Int32.ofNat R' &&& 31)) (y := (1 : Int32)) (by omega)
      have inn : ∀ (x_4 : Int32) (j : Nat), ti x_4 = (j : Int) → j ≤ R' → (∀ k, k < M → cl k → j ≤ ob k) → ∀ (K : Int32 → zSto → Prop), (∀ (x8 : Int32) (σ4 : zSto), RfX l' R' N' G' (csI G') (fun p => pdI G' p a2) σ4 → ti x8 = (j : Int) + 1 → (∀ k, k < M → cl k → j < ob k) → K x8 σ4) → ∀ (n i : Nat) (x_5 : Int32) (σ3 : zSto), RfX l' R' N' G' (csI G') (fun p => pdI G' p a2) σ3 → ti x_5 = (i : Int) → i ≤ M → (∀ k, k < i → cl k → j < ob k) → M - i < n → w_X10_calm_42 a3 x_4 (fun r _ => r = A) K n x_5 σ3 := by
        intro x_4 j hj hjR low K hK n
        induction n with
        | zero => intro i x_5 σ3 _ _ _ _ h; omega
        | succ n ih =>
          intro i x_5 σ3 X3 hi hiM lo hn
          have h26 := X3.2.2.2.2.1
          have e26 : σ3.1 223 26 = Int32.ofNat R' := t_inj (by rw [h26]; exact (nI_t (by omega)).symm)
          have e5 := nI_x hi (by omega)
          unfold w_X10_calm_42 w_X10_everyone
          rw [e26]
          refine ⟨fun q x8 e8 => ?_, fun q => ?_⟩
          · have c := lt_t q
            have f := eq_t e8
            have tx := tadd (x := x_4) (y := (1 : Int32)) (by omega)
            exact hK x8 σ3 X3 (by omega) (fun k hk ck => lo k (by omega) ck)
          · have c := nlt_t q
            have tx := tadd (x := x_5) (y := (1 : Int32)) (by omega)
            have o6 := obR i (by omega)
            have tb : ti (Int32.ofNat (ob i)) = (ob i : Int) := nI_t (by omega)
            refine f_ones6 (k := i) (by omega) x_5 e5 ?_
            refine ⟨fun k x11 e11 => ?_, fun k => ?_⟩
            · have f := eq_t e11
              have ne : ob i ≠ j := fun z => k (t_inj (by rw [tb, z]; exact hj.symm))
              refine ih (i + 1) x11 σ3 X3 (by omega) (by omega) (fun k' hk ck => ?_) (by omega)
              by_cases d : k' = i
              · subst d
                have := low k' (by omega) ck
                omega
              · exact lo k' (by omega) ck
            · have k1 := eq_t k
              have ej : ob i = j := by omega
              rw [e26]
              unfold w_X10_isCalm
              refine f_X10_go (so := bt (Int32.ofNat i ^^^ (-1 : Int32))) X3 (0 : Int32) (0 : Int32) _ (by omega) (fun r hr => by rw [bt_an, bt_ev R' (by omega) r hr, e5, Bool.true_and]) (fun σ6 f6 T6 => ?_)
              have eF : rnF (0 : Int32) R' (bt (Int32.ofNat i ^^^ (-1 : Int32))) (csI G') (fun p => pdI G' p a2) (rdG G') (0 : Int32) (N' - 1) = F i := by rw [hF]; rfl
              rw [eF] at T6
              have X6 := FrG_X X3 f6
              have un : F i (40 + (N' - 1)) = -1 := by rw [hF]; exact (rnF_un t8 (N' - 1) (N' - 1) (Nat.le_refl _) (by omega) (by omega)).1
              have eb : bsT (G' 5) (F i) N' = bsT (G' 5) (F i) (N' - 1) := by
                have y := bsT_up (b := G' 5) (S := F i) (N := N' - 1) 1 (fun p a b => by rw [show p = N' - 1 by omega]; exact un)
                rw [show N' - 1 + 1 = N' by omega] at y
                exact y
              rw [T6.1.1, T6.2.2.1, eb]
              have no : ¬ cl i → ∀ x16 : Int32, x16 = x_5 + (1 : Int32) → w_X10_calm_42 a3 x_4 (fun r _ => r = A) K n x16 σ6 := fun h x16 e16 => by
                have f := eq_t e16
                refine ih (i + 1) x16 σ6 X6 (by omega) (by omega) (fun k' hk ck => ?_) (by omega)
                by_cases d : k' = i
                · subst d
                  exact absurd ck h
                · exact lo k' (by omega) ck
              have yes : cl i → x_5 = A := fun h => Bsf_u (f := ob i) (Or.inr ⟨i, by omega, e5, rfl, h, fun k' hk ck => by rw [ej]; exact low k' hk ck, fun k' hk ck => by rw [ej]; exact lo k' hk ck⟩) hA
              refine ⟨fun k2 => ⟨fun k3 => fun _ => ⟨fun _ => no (fun z => (cl2 k2 i).mp z k3), fun z => absurd rfl z⟩, fun k3 => fun _ => ⟨fun z => absurd z (by decide), fun _ => yes ((cl2 k2 i).mpr k3)⟩⟩, fun k2 => ⟨fun k3 => fun _ => ⟨fun _ => no (fun z => k3 ((cl1 k2 i).mp z)), fun z => absurd rfl z⟩, fun k3 => fun _ => ⟨fun z => absurd z (by decide), fun _ => yes ((cl1 k2 i).mpr k3)⟩⟩⟩
      have out : ∀ (n j : Nat) (x_4 : Int32) (σ3 : zSto), RfX l' R' N' G' (csI G') (fun p => pdI G' p a2) σ3 → ti x_4 = (j : Int) → j ≤ R' + 1 → (∀ k, k < M → cl k → j ≤ ob k) → R' + 1 - j < n → w_X10_calm_30 a3 (fun r _ => r = A) n x_4 σ3 := by
        intro n
        induction n with
        | zero => intro j x_4 σ3 _ _ _ _ h; omega
        | succ n ih =>
          intro j x_4 σ3 X3 hj hjR low hn
          have h26 := X3.2.2.2.2.1
          unfold w_X10_calm_30
          refine ⟨fun q => ?_, fun q => ?_⟩
          · have c := lt_t q
            exact Bsf_u (f := R' + 1) (Or.inl ⟨rfl, rfl, fun k hk ck => by have := low k hk ck; have := obR k hk; omega⟩) hA
          · have c := nlt_t q
            exact ⟨100, inn x_4 j hj (by omega) low _ (fun x8 σ4 X4 e8 h => ih (j + 1) x8 σ4 X4 (by omega) (by omega) (fun k hk ck => h k hk ck) (by omega)) 100 0 (0 : Int32) σ3 X3 lit_0 (by omega) (fun k hk => absurd hk (Nat.not_lt_zero k)) (by omega)⟩
      exact ⟨100, out 100 0 (0 : Int32) σ2 X2 lit_0 (by omega) (fun k hk ck => Nat.zero_le _) (by omega)⟩
  · refine ⟨-1, ?_, ?_⟩
    · unfold w_X9_calm
      refine f_X8_lineAt a1 H.1 (fun _ => ⟨fun _ => rfl, fun j3 e3 => (by cases e3)⟩) (fun l' hl' hl2 hc => ⟨fun z => (by cases z), fun j3 e3 => ?_⟩)
      have e3' := Option.some.inj e3
      subst e3'
      refine ⟨isT_L (isN_T (by unfold isN; omega)), f_X9_isWeek a2 (fun r5 z5 => fun _ => ⟨fun _ => rfl, fun q5 => ⟨fun _ => rfl, fun k1 => ⟨fun k2 => ?_, fun _ => rfl⟩⟩⟩)⟩
      have w := z5.mp q5
      have y1 := nlt_t k1
      have y2 := le_t k2
      exact absurd ⟨⟨by omega, by omega, w.1, w.2⟩, ⟨by omega, by omega⟩⟩ ex
    · intro σa sm
      unfold w_X10_calm
      intro σ1 e1
      obtain ⟨H1, u1⟩ := SmR_223 sm e1
      refine b_X10_in a3 (-1 : Int32) (999 : Int32) (fun r3 z3 => fun _ => ⟨fun _ => rfl, fun q3 => ?_⟩)
      have w3 := z3.mp q3
      exact f_handX H1 a1 a2 (fun _ => fun _ => ⟨fun c => absurd rfl c, fun _ => rfl⟩) (fun e => absurd ⟨(exW_eq1 u1).mp e, ⟨by omega, by omega⟩⟩ ex)
theorem m_calm {σ : zSto} (H : Lz σ) (a1 a2 a3 : Int32) {P : Int32 → zSto → Prop} (hP : ∀ r σa, (∀ Q : Int32 → zSto → Prop, (∀ σ2, Lz σ2 → Q r σ2) → w_X10_calm a1 a2 a3 σa Q) → P r σa) : w_X9_calm a1 a2 a3 σ P := by
  obtain ⟨A, hc, hr⟩ := al_calm H a1 a2 a3
  exact cj_X9_calm (P := fun _ σa => zInv AC σ.1 3 σa) (Q := fun r _ => r = A) (fun r σa i e2 => by
    subst e2
    have sm := SmR_C H i
    exact hP _ _ (fun Q hQ => cj_X10_calm (P := fun _ σb => zInv AR2 σa.1 3 σb) (Q := fun r' _ => r' = r) (fun r' σb i e => by
      subst e
      exact hQ σb (Lz_R sm.1 i)) (s_X10_calm (A := AR2) (F := σa.1) ar2_r a1 a2 a3 (inv_any sm.1.1) (fun _ _ i => i)) (hr σa sm))) (s_X9_calm (A := AC) (F := σ.1) ac_c a1 a2 a3 (inv_any H.1) (fun _ _ i => i)) hc
