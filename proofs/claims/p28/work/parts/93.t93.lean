/-! vote on both sides -/
theorem drT_n {f : Nat → Int32} {n : Nat} (h : drF (fun _ => true) f n = -1 ∨ ¬ f n ≤ f (drF (fun _ => true) f n).toNatClampNeg) : drF (fun _ => true) f (n + 1) = Int32.ofNat n := by
  rw [drF_1, if_pos ⟨rfl, h⟩]
theorem drT_k {f : Nat → Int32} {n : Nat} (h1 : ¬ drF (fun _ => true) f n = -1) (h2 : f n ≤ f (drF (fun _ => true) f n).toNatClampNeg) : drF (fun _ => true) f (n + 1) = drF (fun _ => true) f n := by
  rw [drF_1, if_neg (fun z => z.2.elim h1 (fun y => y h2))]
theorem drT_b {f : Nat → Int32} {n b : Nat} (hb : b < 1000) (e : drF (fun _ => true) f n = Int32.ofNat b) : (f n ≤ f b → drF (fun _ => true) f (n + 1) = Int32.ofNat b) ∧ (¬ f n ≤ f b → drF (fun _ => true) f (n + 1) = Int32.ofNat n) := by
  have nb := ofNat_c hb
  refine ⟨fun h => ?_, fun h => ?_⟩
  · rw [drT_k (by rw [e]; exact ofNat_ne hb) (by rw [e, nb]; exact h), e]
  · exact drT_n (Or.inr (by rw [e, nb]; exact h))
theorem drT_s {f : Nat → Int32} : ∀ n, n < 1000 → 1 ≤ n → ∃ b, b < n ∧ drF (fun _ => true) f n = Int32.ofNat b := by
  intro n hn h1
  rcases drF_sp (fun _ => true) f n hn with z | ⟨r, a, b, _⟩
  · obtain ⟨m, hm⟩ : ∃ m, n = m + 1 := ⟨n - 1, by omega⟩
    subst hm
    by_cases c : drF (fun _ => true) f m = -1 ∨ ¬ f m ≤ f (drF (fun _ => true) f m).toNatClampNeg
    · exact ⟨m, by omega, drT_n c⟩
    · have c1 : ¬ drF (fun _ => true) f m = -1 := fun y => c (Or.inl y)
      have c2 : f m ≤ f (drF (fun _ => true) f m).toNatClampNeg := Classical.byContradiction (fun y => c (Or.inr y))
      rw [drT_k c1 c2] at z
      exact absurd z c1
  · exact ⟨r, a, b⟩
set_option maxHeartbeats 4000000 in
theorem f_X9_fillGainsByLaw {t N R : Nat} {G : Nat → Int32} (ht : okT t) {σ : zSto} (L : LnR t G σ) (hN : ti (G 0) = (N : Int)) (hN1 : 1 ≤ N) (hN16 : N ≤ 16) (hR : ti (G 1) = (R : Int)) (hR6 : R ≤ 6) (ln : LnN N R G) (a2 a3 : Int32) {gn : Nat → Nat → Int32} (hgn : gn = fun k r => gnA G (rnA (Int32.ofNat k) R (fun _ => true) G a3 a2 N) r) {P : zSto → Prop} (hP : ∀ σ2, LnR t G σ2 → GnS R 4 gn σ2 → P σ2) : w_X9_fillGainsByLaw t a2 a3 σ P := by
  have l0 := lit_0
  have l1 := lit_1
  have l4 := lit_4
  have go : ∀ (n i : Nat) (x_4 : Int32) (σ3 : zSto), LnR t G σ3 → ti x_4 = (i : Int) → i ≤ 4 → GnS R i gn σ3 → 4 - i < n → w_X9_fillGainsByLaw_3 t a2 a3 P n x_4 σ3 := by
    intro n
    induction n with
    | zero => intro i x_4 σ3 _ _ _ _ h; omega
    | succ n ih =>
      intro i x_4 σ3 L3 hi hiM g3 hn
      unfold w_X9_fillGainsByLaw_3
      refine ⟨fun q => ?_, fun q => ?_⟩
      · have c := le_t q
        have e : i = 4 := by omega
        subst e
        exact hP σ3 L3 g3
      · have c := nle_t q
        have tx := tadd (x := x_4) (y := (1 : Int32)) (by omega)
        have e4 := nI_x hi (by omega)
        refine f_X5_byLaw (so := fun _ => true) ht L3 hN hN1 hN16 hR hR6 x_4 a2 a3 (-1 : Int32) (by have := lit_m1; omega) (fun r hr => (bt_m1 (by omega)).symm) (fun σ6 f6 T6 => ?_)
        have L6 := LnR_C ht L3 f6
        refine f_X9_keepGains ht L6 hN hR ln T6 x_4 hi (by omega) (fun σ7 k1 k2 k3 => fun x3 e3 => ?_)
        have f := eq_t e3
        refine ih (i + 1) x3 σ7 (LnR_fr L6 (fun k j a b => k1 k j (by unfold okT at ht; omega))) (by omega) (by omega) (fun s hs r hr => ?_) (by omega)
        by_cases d : s = i
        · subst d
          rw [k3 r hr, hgn, e4]
          rfl
        · rw [k2 (6 * s + r) (by omega), f6 222 (6 * s + r) (by omega)]
          exact g3 s (by omega) r hr
  exact ⟨100, go 100 0 (0 : Int32) σ L lit_0 (by omega) (fun s hs => absurd hs (Nat.not_lt_zero s)) (by omega)⟩
theorem f_X9_lawOf {R : Nat} {gn : Nat → Nat → Int32} {σ : zSto} (hR6 : R ≤ 6) (g : GnS R 4 gn σ) (a1 : Int32) {r : Nat} (h1 : ti a1 = (r : Int)) (hr : r < R) {f : Nat → Int32} (hf : f = fun k => gn k r) {P : Int32 → zSto → Prop} (hP : P (drF (fun _ => true) f 4) σ) : w_X9_lawOf a1 σ P := by
  have l0 := lit_0
  have l1 := lit_1
  have l4 := lit_4
  have e1 := nI_x h1 (by omega)
  have fv : ∀ k, gn k r = f k := fun k => by rw [hf]
  have go : ∀ (n i b : Nat) (x_2 x_3 : Int32), ti x_3 = (i : Int) → 1 ≤ i → i ≤ 4 → b < i → drF (fun _ => true) f i = Int32.ofNat b → x_2 = Int32.ofNat b → 4 - i < n → w_X9_lawOf_4 a1 P n x_2 x_3 σ := by
    intro n
    induction n with
    | zero => intro i b x_2 x_3 _ _ _ _ _ _ h; omega
    | succ n ih =>
      intro i b x_2 x_3 hi hi1 hi4 hb hd h2 hn
      unfold w_X9_lawOf_4
      refine ⟨fun q => ?_, fun q => ?_⟩
      · have c := le_t q
        have e : i = 4 := by omega
        subst e
        rw [h2, ← hd]
        exact hP
      · have c := nle_t q
        have tx := tadd (x := x_3) (y := (1 : Int32)) (by omega)
        have e3 := nI_x hi (by omega)
        have ta := ix_ti (show i < 64 by omega) (show r < 6 by omega) e3 e1
        have tb := ix_ti (show b < 64 by omega) (show r < 6 by omega) h2 e1
        have na := tn_eq (x_3 * (6 : Int32) + a1)
        have nb := tn_eq (x_2 * (6 : Int32) + a1)
        have ds := drT_b (f := f) (n := i) (b := b) (by omega) hd
        refine ⟨vin (by omega), vin (by omega), ?_⟩
        rw [show (x_3 * (6 : Int32) + a1).toNatClampNeg = 6 * i + r by omega, show (x_2 * (6 : Int32) + a1).toNatClampNeg = 6 * b + r by omega, g i (by omega) r hr, g b (by omega) r hr, fv, fv]
        refine ⟨fun y x3 e3' => ?_, fun y x4 e4' => ?_⟩
        · have f1 := eq_t e3'
          exact ih (i + 1) b x_2 x3 (by omega) (by omega) (by omega) (by omega) (ds.1 y) h2 (by omega)
        · have f1 := eq_t e4'
          exact ih (i + 1) i x_3 x4 (by omega) (by omega) (by omega) (by omega) (ds.2 y) e3 (by omega)
  exact ⟨100, go 100 1 0 (0 : Int32) (1 : Int32) lit_1 (by omega) (by omega) (by omega) (drT_n (Or.inl rfl)) rfl (by omega)⟩
theorem f_X9_votesFor {t R : Nat} {G : Nat → Int32} {gn : Nat → Nat → Int32} {σ : zSto} (L : LnR t G σ) (hR : ti (G 1) = (R : Int)) (hR6 : R ≤ 6) (g : GnS R 4 gn σ) (a2 : Int32) {W : Nat → Bool} (hW : ∀ r, (W r = true ↔ drF (fun _ => true) (fun k => gn k r) 4 = a2)) {P : Int32 → zSto → Prop} (hP : P (Int32.ofNat (cnF W R)) σ) : w_X9_votesFor t a2 σ P := by
  have l0 := lit_0
  have l1 := lit_1
  have e12 : ti (σ.1 t 12) = (R : Int) := by rw [L.1 1 (by omega)]; exact hR
  have go : ∀ (n i : Nat) (x_3 x_4 : Int32), ti x_4 = (i : Int) → i ≤ R → x_3 = Int32.ofNat (cnF W i) → R - i < n → w_X9_votesFor_5 t a2 P n x_3 x_4 σ := by
    intro n
    induction n with
    | zero => intro i x_3 x_4 _ _ _ h; omega
    | succ n ih =>
      intro i x_3 x_4 hi hiR h3 hn
      unfold w_X9_votesFor_5
      refine ⟨fun q => ?_, fun q => ?_⟩
      · have c := le_t q
        have e : i = R := by omega
        subst e
        rw [h3]
        exact hP
      · have c := nle_t q
        have tx := tadd (x := x_4) (y := (1 : Int32)) (by omega)
        refine f_X9_lawOf hR6 g x_4 hi (by omega) rfl ⟨fun y x3 e3 x4 e4 => ?_, fun y x5 e5 x6 e6 => ?_⟩
        · have f := eq_t e4
          refine ih (i + 1) x3 x4 (by omega) (by omega) ?_ (by omega)
          rw [cnF_1, if_neg (fun z => y ((hW i).mp z)), e3, h3, Int32.add_zero]
          rfl
        · have f := eq_t e6
          refine ih (i + 1) x5 x6 (by omega) (by omega) ?_ (by omega)
          rw [cnF_1, if_pos ((hW i).mpr y), e5, h3]
          exact nI_1 _
  exact ⟨100, go 100 0 (0 : Int32) (0 : Int32) lit_0 (by omega) rfl (by omega)⟩
theorem f_goF {l R N : Nat} {G cs pd : Nat → Int32} {σ : zSto} (X : RfX l R N G cs pd σ) (a1 a2 : Int32) (hlaw : -1 ≤ ti a1 ∧ ti a1 ≤ 3) {P : zSto → Prop} (hP : ∀ σ2, FrG σ σ2 → RnS (rnF a1 R (fun _ => true) cs pd (rdG G) a2 (N - 1)) N G cs σ2 → P σ2) : w_X10_everyone σ (fun (r5 : Int32) (σ4 : zSto) => w_X10_go a1 a2 r5 σ4 P) := by
  have e26 : σ.1 223 26 = Int32.ofNat R := t_inj (by rw [X.2.2.2.2.1]; exact (nI_t (by have := X.2.2.2.2.2.2.2.1; omega)).symm)
  unfold w_X10_everyone
  exact f_X10_go (so := fun _ => true) X a1 a2 _ hlaw (fun r hr => by rw [e26]; exact (bt_ev R (by have := X.2.2.2.2.2.2.2.1; omega) r hr).symm) (fun σ3 f3 h3 => hP σ3 f3 h3)
set_option maxHeartbeats 4000000 in
theorem f_X10_lawFor {l N R : Nat} {G : Nat → Int32} {a3 x_2 : Int32} {gn : Nat → Nat → Int32} (hgn : gn = fun k r => gnA G (rnA (Int32.ofNat k) R (fun _ => true) G a3 x_2 N) r) (ln : LnN N R G) {σ : zSto} (X : RfX l R N G (csI G) (fun p => pdI G p a3) σ) (a1 : Int32) {r : Nat} (h1 : ti a1 = (r : Int)) (hr : r < R) {f : Nat → Int32} (hf : f = fun k => gn k r) {P : Int32 → zSto → Prop} (hP : ∀ σ2, FrG σ σ2 → P (drF (fun _ => true) f 4) σ2) : w_X10_lawFor a1 x_2 σ P := by
  have l0 := lit_0
  have l1 := lit_1
  have l4 := lit_4
  have lmm := lit_m1000000
  have go : ∀ (n i b : Nat) (x_3 x_4 x_5 : Int32) (σ3 : zSto), FrG σ σ3 → ti x_5 = (i : Int) → i ≤ 4 → ((i = 0 ∧ x_3 = 0 ∧ x_4 = -1000000) ∨ (b < i ∧ drF (fun _ => true) f i = Int32.ofNat b ∧ x_3 = Int32.ofNat b ∧ x_4 = f b)) → 4 - i < n → w_X10_lawFor_10 a1 x_2 P n x_3 x_4 x_5 σ3 := by
    intro n
    induction n with
    | zero => intro i b x_3 x_4 x_5 σ3 _ _ _ _ h; omega
    | succ n ih =>
      intro i b x_3 x_4 x_5 σ3 fr hi hi4 hb hn
      have X3 := FrG_X X fr
      unfold w_X10_lawFor_10
      refine ⟨fun q => ?_, fun q => ?_⟩
      · have c := le_t q
        have e : i = 4 := by omega
        subst e
        rcases hb with z | ⟨z1, z2, z3, z4⟩
        · omega
        · rw [z3, ← z2]
          exact hP σ3 fr
      · have c := nle_t q
        have tx := tadd (x := x_5) (y := (1 : Int32)) (by omega)
        have e5 := nI_x hi (by omega)
        refine f_goF X3 x_5 x_2 (by omega) (fun σ4 f4 T4 => ?_)
        have X4 := FrG_X X3 f4
        refine f_X10_gainNow X4 ln T4.1 a1 h1 hr ?_
        have ga : gnA G (rnF x_5 R (fun _ => true) (csI G) (fun p => pdI G p a3) (rdG G) x_2 (N - 1)) r = f i := by rw [hf, hgn, e5]; rfl
        have rg := gn_rg (law := x_5) (so := fun _ => true) (pd := fun p => pdI G p a3) (seed := x_2) ln hr
        rw [ga] at rg ⊢
        refine ⟨fun k => f_greater _ _ ?_, fun k => f_greater _ _ ?_⟩
        · rw [gr_le, if_pos k]
          intro x8 e8
          have f8 := eq_t e8
          refine ih (i + 1) b x_3 x_4 x8 σ4 (fr.tr f4) (by omega) (by omega) ?_ (by omega)
          rcases hb with ⟨z1, z2, z3⟩ | ⟨z1, z2, z3, z4⟩
          · have := le_t k
            rw [z3] at this
            omega
          · exact Or.inr ⟨by omega, (drT_b (by omega) z2).1 (by rw [← z4]; exact k), z3, z4⟩
        · rw [gr_le, if_neg k]
          intro x11 e11
          have f11 := eq_t e11
          refine ih (i + 1) i x_5 (f i) x11 σ4 (fr.tr f4) (by omega) (by omega) (Or.inr ⟨by omega, ?_, e5, rfl⟩) (by omega)
          rcases hb with ⟨z1, z2, z3⟩ | ⟨z1, z2, z3, z4⟩
          · subst z1
            exact drT_n (Or.inl rfl)
          · exact (drT_b (by omega) z2).2 (by rw [← z4]; exact k)
  exact ⟨100, go 100 0 0 (0 : Int32) (-1000000 : Int32) (0 : Int32) σ (FrG_rf σ) lit_0 (by omega) (Or.inl ⟨rfl, rfl, rfl⟩) (by omega)⟩
set_option maxHeartbeats 8000000 in
theorem al_vote {σ : zSto} (H : Lz σ) (a1 a2 a3 a4 : Int32) : ∃ A : Int32, w_X9_vote a1 a2 a3 a4 σ (fun r _ => r = A) ∧ ∀ σa, SmR σ σa → w_X10_vote a1 a2 a3 a4 σa (fun r _ => r = A) := by
  have l0 := lit_0
  have l1 := lit_1
  have l4 := lit_4
  have lm := lit_m1
  have d : 0 ≤ ti (σ.1 42 0) ∧ ti (σ.1 42 0) ≤ 2 := rdg H.1.1 kd_42 rfl rfl
  by_cases ex : exW σ a1 a3
  · obtain ⟨l, hl⟩ : ∃ l : Nat, ti a1 = (l : Int) := ⟨(ti a1).toNat, by have := ex.1; omega⟩
    obtain ⟨N, R, G, tl⟩ := tlL_of H (l := l) (by have := ex.2.1; omega) (by have := ex.2.1; omega)
    obtain ⟨t1, t2, t3, t4, t5, t6, t7, t8, t9⟩ := id tl
    have ln := LnN_of H tl
    obtain ⟨gn, hgn⟩ : ∃ gn : Nat → Nat → Int32, gn = fun k r => gnA G (rnA (Int32.ofNat k) R (fun _ => true) G a3 a2 N) r := ⟨_, rfl⟩
    obtain ⟨W, hW⟩ : ∃ W : Nat → Nat → Bool, ∀ k r, (W k r = true ↔ drF (fun _ => true) (fun k => gn k r) 4 = Int32.ofNat k) := ⟨fun k r => decide (drF (fun _ => true) (fun k => gn k r) 4 = Int32.ofNat k), fun k r => ⟨of_decide_eq_true, decide_eq_true⟩⟩
    obtain ⟨v, hv⟩ : ∃ v : Nat → Int32, ∀ k, v k = Int32.ofNat (cnF (W k) R) := ⟨fun k => Int32.ofNat (cnF (W k) R), fun _ => rfl⟩
    have v0 : ∀ k, 0 ≤ ti (v k) := fun k => by
      have := cnF_le (W k) R
      rw [hv, show ti (Int32.ofNat (cnF (W k) R)) = ((cnF (W k) R : Nat) : Int) from nI_t (by omega)]
      omega
    refine ⟨if R = 0 then -1 else if a4 = 0 then drF (fun _ => true) v 4 else v (drF (fun _ => true) v 4).toNatClampNeg, ?_, ?_⟩
    · unfold w_X9_vote
      refine f_X8_lineAt a1 H.1 (fun z => absurd ⟨ex.1, ex.2.1⟩ z) (fun l' hl' hl2 hc => ⟨fun z => (by cases z), fun j3 e3 => ?_⟩)
      have e3' := Option.some.inj e3
      subst e3'
      have el : l' = l := by omega
      subst el
      have e12 : ti (σ.1 (4 + 12 * l') 12) = (R : Int) := by rw [t9.1 1 (by omega)]; exact t5
      refine ⟨isT_L (isN_T (by unfold isN; omega)), fun q => ?_, fun q => ?_⟩
      · have y := eq_t q
        rw [if_pos (by omega)]
      · have y := ne_t q
        refine f_X9_isWeek a3 (fun r5 z5 => fun _ => ⟨fun _ => ?_, fun q5 => absurd q5 (z5.mpr ⟨ex.2.2.1, ex.2.2.2⟩)⟩)
        rw [if_neg (by omega)]
        refine f_X9_fillGainsByLaw (okT_l hl2) t9 t4 t6 t7 t5 t8 ln a2 a3 hgn (fun σ2 L2 g2 => ?_)
        have go : ∀ (n i b : Nat) (x_6 x_7 x_8 : Int32), ti x_8 = (i : Int) → i ≤ 4 → ((i = 0 ∧ x_6 = 0 ∧ x_7 = -1) ∨ (b < i ∧ drF (fun _ => true) v i = Int32.ofNat b ∧ x_6 = Int32.ofNat b ∧ x_7 = v b)) → 4 - i < n → w_X9_vote_49 a4 (4 + 12 * l') (fun r _ => r = if a4 = 0 then drF (fun _ => true) v 4 else v (drF (fun _ => true) v 4).toNatClampNeg) n x_6 x_7 x_8 σ2 := by
          intro n
          induction n with
          | zero => intro i b x_6 x_7 x_8 _ _ _ h; omega
          | succ n ih =>
            intro i b x_6 x_7 x_8 hi hi4 hb hn
            unfold w_X9_vote_49
            refine ⟨fun q => ?_, fun q => ?_⟩
            · have c := le_t q
              have e : i = 4 := by omega
              subst e
              rcases hb with z | ⟨z1, z2, z3, z4⟩
              · omega
              · refine ⟨fun k => ?_, fun k => ?_⟩
                · rw [if_pos k, z2]; exact z3
                · rw [if_neg k, z2, ofNat_c (by omega)]; exact z4
            · have c := nle_t q
              have tx := tadd (x := x_8) (y := (1 : Int32)) (by omega)
              have e8 := nI_x hi (by omega)
              refine f_X9_votesFor L2 t5 t8 g2 x_8 (W := W i) (fun r => by rw [e8]; exact hW i r) ?_
              rw [← hv i]
              refine ⟨fun k x9 e9 => ?_, fun k x10 e10 => ?_⟩
              · have f := eq_t e9
                refine ih (i + 1) b x_6 x_7 x9 (by omega) (by omega) ?_ (by omega)
                rcases hb with ⟨z1, z2, z3⟩ | ⟨z1, z2, z3, z4⟩
                · have k1 := le_t k
                  have := v0 i
                  rw [z3] at k1
                  omega
                · exact Or.inr ⟨by omega, (drT_b (by omega) z2).1 (by rw [← z4]; exact k), z3, z4⟩
              · have f := eq_t e10
                refine ih (i + 1) i x_8 (v i) x10 (by omega) (by omega) (Or.inr ⟨by omega, ?_, e8, rfl⟩) (by omega)
                rcases hb with ⟨z1, z2, z3⟩ | ⟨z1, z2, z3, z4⟩
                · subst z1
                  exact drT_n (Or.inl rfl)
                · exact (drT_b (by omega) z2).2 (by rw [← z4]; exact k)
        exact ⟨100, go 100 0 0 (0 : Int32) (-1 : Int32) (0 : Int32) lit_0 (by omega) (Or.inl ⟨rfl, rfl, rfl⟩) (by omega)⟩
    · intro σa sm
      unfold w_X10_vote
      intro σ1 e1
      obtain ⟨H1, u1⟩ := SmR_223 sm e1
      refine f_handX H1 a1 a3 (fun z => absurd ((exW_eq1 u1).mpr ex) z) (fun _ l' N' R' G' hl' tl' σ2 f2 X2 => fun _ => ⟨fun c => absurd c (by decide), fun _ => ?_⟩)
      have el : l' = l := by omega
      subst el
      obtain ⟨eN, eR, eG⟩ := tlL_eq tl tl' (fun j => u1 229 j (by omega) (by omega))
      subst eN
      subst eR
      subst eG
      have h26 := X2.2.2.2.2.1
      refine ⟨fun q => ?_, fun q => ?_⟩
      · have y := ne_t q
        rw [if_neg (by omega)]
        have go3 : ∀ (n i b : Nat) (x_5 x_6 : Int32) (σ3 : zSto), (∀ k, k < 4 → σ3.1 248 k = v k) → ti x_6 = (i : Int) → i ≤ 4 → b < i → drF (fun _ => true) v i = Int32.ofNat b → x_5 = Int32.ofNat b → 4 - i < n → w_X10_vote_86 a4 (fun r _ => r = if a4 = 0 then drF (fun _ => true) v 4 else v (drF (fun _ => true) v 4).toNatClampNeg) n x_5 x_6 σ3 := by
          intro n
          induction n with
          | zero => intro i b x_5 x_6 σ3 _ _ _ _ _ _ h; omega
          | succ n ih =>
            intro i b x_5 x_6 σ3 h8 hi hi4 hb z2 z3 hn
            have t5' : ti x_5 = (b : Int) := by rw [z3]; exact nI_t (by omega)
            have n5 : x_5.toNatClampNeg = b := by rw [z3]; exact ofNat_c (by omega)
            unfold w_X10_vote_86
            refine ⟨fun q => ?_, fun q => ?_⟩
            · have c := le_t q
              have e : i = 4 := by omega
              subst e
              refine ⟨fun k => ?_, fun k => ⟨vin (by omega), ?_⟩⟩
              · rw [if_pos k, z2]; exact z3
              · rw [if_neg k, z2, ofNat_c (by omega), n5]; exact h8 b (by omega)
            · have c := nle_t q
              have tx := tadd (x := x_6) (y := (1 : Int32)) (by omega)
              have e6 := nI_x hi (by omega)
              have tn6 := tn_eq x_6
              rw [n5, show x_6.toNatClampNeg = i by omega, h8 b (by omega), h8 i (by omega)]
              refine ⟨vin (by omega), vin (by omega), fun k x7 e7 => ?_, fun k x8 e8 => ?_⟩
              · have f := eq_t e7
                exact ih (i + 1) b x_5 x7 σ3 h8 (by omega) (by omega) (by omega) ((drT_b (by omega) z2).1 k) z3 (by omega)
              · have f := eq_t e8
                exact ih (i + 1) i x_6 x8 σ3 h8 (by omega) (by omega) (by omega) ((drT_b (by omega) z2).2 k) e6 (by omega)
        have go2 : ∀ (n i : Nat) (x_5 : Int32) (σ3 : zSto), RfX l' R' N' G' (csI G') (fun p => pdI G' p a3) σ3 → (∀ k, k < 4 → σ3.1 248 k = Int32.ofNat (cnF (W k) i)) → ti x_5 = (i : Int) → i ≤ R' → R' - i < n → w_X10_vote_49 a2 a4 (fun r _ => r = if a4 = 0 then drF (fun _ => true) v 4 else v (drF (fun _ => true) v 4).toNatClampNeg) n x_5 σ3 := by
          intro n
          induction n with
          | zero => intro i x_5 σ3 _ _ _ _ h; omega
          | succ n ih =>
            intro i x_5 σ3 X3 h8 hi hiR hn
            have g26 := X3.2.2.2.2.1
            unfold w_X10_vote_49
            refine ⟨fun q => ?_, fun q => ?_⟩
            · have c := le_t q
              have e : i = R' := by omega
              subst e
              exact ⟨100, go3 100 1 0 (0 : Int32) (1 : Int32) σ3 (fun k hk => by rw [h8 k hk, hv]) lit_1 (by omega) (by omega) (drT_n (Or.inl rfl)) rfl (by omega)⟩
            · have c := nle_t q
              have tx := tadd (x := x_5) (y := (1 : Int32)) (by omega)
              refine f_X10_lawFor hgn ln X3 x_5 hi (by omega) rfl (fun σ4 f4 => ?_)
              obtain ⟨b, hb, eb⟩ := drT_s (f := fun k => gn k i) 4 (by omega) (by omega)
              rw [eb]
              have tb : ti (Int32.ofNat b) = (b : Int) := nI_t (by omega)
              rw [ofNat_c (show b < 1000 by omega)]
              refine ⟨vin (by omega), vin (by omega), fun σ13 e13 x14 e14 => ?_⟩
              have f := eq_t e14
              have u4 : ∀ k, σ4.1 248 k = σ3.1 248 k := fun k => f4.1 248 k (by omega) (by omega)
              refine ih (i + 1) x14 σ13 (RfX_fr (FrG_X X3 f4) (fun j a b => zI_q' e13 (by omega)) (fun k j h => zI_q' e13 (by omega))) (fun k hk => ?_) (by omega) (by omega) (by omega)
              rw [cnF_1]
              by_cases ck : k = b
              · subst ck
                rw [if_pos ((hW k i).mpr eb), e13, zI_s, u4, h8 k hk]
                exact nI_1 _
              · rw [if_neg (fun z => ck (by
                  have y := (hW k i).mp z
                  rw [eb] at y
                  have y2 := eq_t y
                  rw [tb, show ti (Int32.ofNat k) = (k : Int) from nI_t (by omega)] at y2
                  omega)), zI_q' e13 (by omega), u4, h8 k hk]
                rfl
        have go1 : ∀ (n i : Nat) (x_5 : Int32) (σ3 : zSto), RfX l' R' N' G' (csI G') (fun p => pdI G' p a3) σ3 → (∀ k, k < i → σ3.1 248 k = 0) → ti x_5 = (i : Int) → i ≤ 4 → 4 - i < n → w_X10_vote_26 a2 a4 (fun r _ => r = if a4 = 0 then drF (fun _ => true) v 4 else v (drF (fun _ => true) v 4).toNatClampNeg) n x_5 σ3 := by
          intro n
          induction n with
          | zero => intro i x_5 σ3 _ _ _ _ h; omega
          | succ n ih =>
            intro i x_5 σ3 X3 h8 hi hi4 hn
            unfold w_X10_vote_26
            refine ⟨fun q => ?_, fun q => ?_⟩
            · have c := le_t q
              have e : i = 4 := by omega
              subst e
              exact ⟨100, go2 100 0 (0 : Int32) σ3 X3 (fun k hk => h8 k hk) lit_0 (by omega) (by omega)⟩
            · have c := nle_t q
              have tx := tadd (x := x_5) (y := (1 : Int32)) (by omega)
              have tn5 := tn_eq x_5
              rw [show x_5.toNatClampNeg = i by omega]
              refine ⟨vin (by omega), fun σ16 e16 x17 e17 => ?_⟩
              have f := eq_t e17
              refine ih (i + 1) x17 σ16 (RfX_fr X3 (fun j a b => zI_q' e16 (by omega)) (fun k j h => zI_q' e16 (by omega))) (fun k hk => ?_) (by omega) (by omega) (by omega)
              by_cases ck : k = i
              · subst ck
                rw [e16, zI_s]
              · rw [zI_q' e16 (by omega)]
                exact h8 k (by omega)
        exact ⟨100, go1 100 0 (0 : Int32) σ2 X2 (fun k hk => absurd hk (Nat.not_lt_zero k)) lit_0 (by omega) (by omega)⟩
      · have y := eq_t q
        rw [if_pos (by omega)]
  · refine ⟨-1, ?_, ?_⟩
    · unfold w_X9_vote
      refine f_X8_lineAt a1 H.1 (fun _ => ⟨fun _ => rfl, fun j3 e3 => (by cases e3)⟩) (fun l' hl' hl2 hc => ⟨fun z => (by cases z), fun j3 e3 => ?_⟩)
      have e3' := Option.some.inj e3
      subst e3'
      exact ⟨isT_L (isN_T (by unfold isN; omega)), fun _ => rfl, fun _ => f_X9_isWeek a3 (fun r5 z5 => fun _ => ⟨fun q5 => absurd ⟨by omega, by omega, (z5.mp q5).1, (z5.mp q5).2⟩ ex, fun _ => rfl⟩)⟩
    · intro σa sm
      unfold w_X10_vote
      intro σ1 e1
      obtain ⟨H1, u1⟩ := SmR_223 sm e1
      exact f_handX H1 a1 a3 (fun _ => fun _ => ⟨fun _ => rfl, fun c => absurd rfl c⟩) (fun e => absurd ((exW_eq1 u1).mp e) ex)
theorem m_vote {σ : zSto} (H : Lz σ) (a1 a2 a3 a4 : Int32) {P : Int32 → zSto → Prop} (hP : ∀ r σa, (∀ Q : Int32 → zSto → Prop, (∀ σ2, Lz σ2 → Q r σ2) → w_X10_vote a1 a2 a3 a4 σa Q) → P r σa) : w_X9_vote a1 a2 a3 a4 σ P := by
  obtain ⟨A, hc, hr⟩ := al_vote H a1 a2 a3 a4
  exact cj_X9_vote (P := fun _ σa => zInv AC σ.1 3 σa) (Q := fun r _ => r = A) (fun r σa i e2 => by
    subst e2
    have sm := SmR_C H i
    exact hP _ _ (fun Q hQ => cj_X10_vote (P := fun _ σb => zInv AR2 σa.1 3 σb) (Q := fun r' _ => r' = r) (fun r' σb i e => by
      subst e
      exact hQ σb (Lz_R sm.1 i)) (s_X10_vote (A := AR2) (F := σa.1) ar2_r a1 a2 a3 a4 (inv_any sm.1.1) (fun _ _ i => i)) (hr σa sm))) (s_X9_vote (A := AC) (F := σ.1) ac_c a1 a2 a3 a4 (inv_any H.1) (fun _ _ i => i)) hc
