/-! hold: the reference's side -/
theorem f_seenOf {m : Nat} (hm : m < 2) {σ : zSto} (h47 : ti (σ.1 223 47) = (m : Int)) (a1 a2 : Int32) {k c : Nat} (h1 : ti a1 = (k : Int)) (hk : k < 10) (h2 : ti a2 = (c : Int)) (hc : c < 2) {P : Int32 → zSto → Prop} (hP : P (σ.1 231 (21 * m + (1 + 2 * k + c))) σ) : w_X10_seenOf a1 a2 σ P := by
  have l1 := lit_1
  have mm := tmull (x := (21 : Int32)) (y := σ.1 223 47) 21 lit_21 (by omega)
  have t1 := tadd (x := (21 : Int32) * σ.1 223 47) (y := (1 : Int32)) (by omega)
  have m2 := tmull (x := (2 : Int32)) (y := a1) 2 lit_2 (by omega)
  have t2 := tadd (x := (21 : Int32) * σ.1 223 47 + (1 : Int32)) (y := (2 : Int32) * a1) (by omega)
  have t3 := tadd (x := (21 : Int32) * σ.1 223 47 + (1 : Int32) + (2 : Int32) * a1) (y := a2) (by omega)
  have n3 := tn_eq ((21 : Int32) * σ.1 223 47 + (1 : Int32) + (2 : Int32) * a1 + a2)
  unfold w_X10_seenOf
  rw [show ((21 : Int32) * σ.1 223 47 + (1 : Int32) + (2 : Int32) * a1 + a2).toNatClampNeg = 21 * m + (1 + 2 * k + c) by omega]
  exact ⟨vin (by omega), hP⟩
def Fr239 (σ σ2 : zSto) : Prop := ∀ k j, k ≠ 239 → σ2.1 k j = σ.1 k j
set_option maxHeartbeats 8000000 in
theorem f_X10_holds {l R N m M : Nat} {G pd qf vf : Nat → Int32} {σ : zSto} (X : RfX l R N G (csI G) pd σ) (ln : LnN N R G) (hm : m < 2) (h47 : ti (σ.1 223 47) = (m : Int)) (hsz : ti (σ.1 231 (21 * m)) = (M : Int)) (hpr : ∀ k, k < M → σ.1 231 (21 * m + (1 + 2 * k + 0)) = qf k ∧ σ.1 231 (21 * m + (1 + 2 * k + 1)) = vf k) (lg : LgA M qf vf) {c : Nat → Int} (hc : ∀ p, c p = ti (csI G p)) (a1 : Int32) {k : Nat} (h1 : a1 = Int32.ofNat k) (hk : k < 2147483648) {P : Int32 → zSto → Prop} (hP : ∀ r σ2, Fr239 σ σ2 → (¬ r = 0 ↔ ∀ e, e < M → ti (qf e) < (N : Int) ∧ wmI G (qf e).toNatClampNeg + sF c (qf e).toNatClampNeg 0 k = ti (vf e)) → (r = 0 ∨ r = 1) → P r σ2) : w_X10_holds a1 σ P := by
  have l0 := lit_0
  have l1 := lit_1
  have M10 := lg.1
  have N16 := X.2.2.2.2.2.2.1
  have rc : ∀ p, p < N → 0 ≤ c p ∧ c p ≤ 1000 := fun p hp => by
    have := csI_rg ln hp
    rw [hc]; omega
  have go2 : ∀ (n e : Nat) (x_3 : Int32) (σ3 : zSto), Fr239 σ σ3 → (∀ p, p < N → ti (σ3.1 239 p) = wmI G p + sF c p 0 k) → ti x_3 = (e : Int) → e ≤ M → (∀ q, q < e → ti (qf q) < (N : Int) ∧ wmI G (qf q).toNatClampNeg + sF c (qf q).toNatClampNeg 0 k = ti (vf q)) → M - e < n → w_X10_holds_55 P n x_3 σ3 := by
    intro n
    induction n with
    | zero => intro e x_3 σ3 _ _ _ _ _ h; omega
    | succ n ih =>
      intro e x_3 σ3 fr hcm he heM hq hn
      have X3 : RfX l R N G (csI G) pd σ3 := RfX_fr X (fun j _ _ => fr 223 j (by omega)) (fun k j h => fr k j (by omega))
      have g47 : ti (σ3.1 223 47) = (m : Int) := by rw [fr 223 47 (by omega)]; exact h47
      have g25 := X3.2.2.2.1
      have mm := tmull (x := (21 : Int32)) (y := σ3.1 223 47) 21 lit_21 (by omega)
      have tm := tn_eq ((21 : Int32) * σ3.1 223 47)
      unfold w_X10_holds_55
      rw [show ((21 : Int32) * σ3.1 223 47).toNatClampNeg = 21 * m by omega, fr 231 _ (by omega)]
      refine ⟨vin (by omega), fun q => ?_, fun q => ?_⟩
      · have cc := le_t q
        have ee : e = M := by omega
        subst ee
        exact hP 1 σ3 fr ⟨fun _ => hq, fun _ => by decide⟩ (Or.inr rfl)
      · have cc := nle_t q
        have eM : e < M := by omega
        have tx := tadd (x := x_3) (y := (1 : Int32)) (by omega)
        obtain ⟨⟨p0, p1⟩, v0, v1⟩ := lg.2 e eM
        have tnq := tn_eq (qf e)
        have no : ¬ (ti (qf e) < (N : Int) ∧ wmI G (qf e).toNatClampNeg + sF c (qf e).toNatClampNeg 0 k = ti (vf e)) → P 0 σ3 := fun z => hP 0 σ3 fr ⟨fun y => absurd rfl y, fun y => absurd (y e eM) z⟩ (Or.inl rfl)
        refine f_seenOf (k := e) (c := 0) hm g47 _ _ he (by omega) l0 (by omega) ?_
        rw [fr 231 _ (by omega), (hpr e eM).1]
        refine f_X10_isPost (qf e) (fun r5 z5 => fun _ => ⟨fun q5 => no (fun y => z5.mpr ⟨p0, by omega⟩ q5), fun q5 => ?_⟩)
        have w5 := z5.mp q5
        refine f_seenOf (k := e) (c := 0) hm g47 _ _ he (by omega) l0 (by omega) ?_
        rw [fr 231 _ (by omega), (hpr e eM).1]
        refine ⟨vin (by omega), ?_⟩
        refine f_seenOf (k := e) (c := 1) hm g47 _ _ he (by omega) l1 (by omega) ?_
        rw [fr 231 _ (by omega), (hpr e eM).2]
        have cm := hcm (qf e).toNatClampNeg (by omega)
        refine ⟨fun z x11 e11 => ?_, fun z => no (fun y => z (t_inj (by rw [cm]; exact y.2)))⟩
        have f := eq_t e11
        have zt := eq_t z
        rw [cm] at zt
        refine ih (e + 1) x11 σ3 fr hcm (by omega) (by omega) (fun q hq' => ?_) (by omega)
        by_cases d : q = e
        · subst d; exact ⟨by omega, zt⟩
        · exact hq q (by omega)
  have go1 : ∀ (n i : Nat) (x_2 x_3 : Int32) (σ3 : zSto), Fr239 σ σ3 → (∀ p, p < i → ti (σ3.1 239 p) = wmI G p + sF c p 0 k) → ti x_3 = (i : Int) → i ≤ N → ti x_2 = wmI G i + sF c i 0 k → N - i < n → w_X10_holds_4 a1 P n x_2 x_3 σ3 := by
    intro n
    induction n with
    | zero => intro i x_2 x_3 σ3 _ _ _ _ _ h; omega
    | succ n ih =>
      intro i x_2 x_3 σ3 fr hcm hi hiN h2 hn
      have X3 : RfX l R N G (csI G) pd σ3 := RfX_fr X (fun j _ _ => fr 223 j (by omega)) (fun k j h => fr k j (by omega))
      have g24 := X3.2.2.1
      unfold w_X10_holds_4
      refine ⟨fun q => ?_, fun q => ?_⟩
      · have cc := le_t q
        have e : i = N := by omega
        subst e
        exact ⟨100, go2 100 0 (0 : Int32) σ3 fr hcm lit_0 (by omega) (fun q hq' => absurd hq' (Nat.not_lt_zero q)) (by omega)⟩
      · have cc := nle_t q
        have tx := tadd (x := x_3) (y := (1 : Int32)) (by omega)
        have tn := tn_eq x_3
        rw [show x_3.toNatClampNeg = i by omega]
        refine ⟨vin (by omega), fun σ13 e13 => ⟨vin (by omega), ?_⟩⟩
        have fr13 : Fr239 σ σ13 := fun k j h => by rw [zI_q' e13 (by omega), fr k j h]
        have X13 : RfX l R N G (csI G) pd σ13 := RfX_fr X (fun j _ _ => fr13 223 j (by omega)) (fun k j h => fr13 k j (by omega))
        have hcm13 : ∀ p, p < i + 1 → ti (σ13.1 239 p) = wmI G p + sF c p 0 k := fun p hp => by
          by_cases d : p = i
          · subst d
            rw [e13, zI_s]
            exact h2
          · rw [zI_q' e13 (by omega)]
            exact hcm p (by omega)
        have wi := wm_r ln i hiN
        have ws := wm_r ln (i + 1) (by omega)
        have sr := sF_rg (f := c) (M := N) rc i 0 k (by omega)
        have mi := (ln.2.2.2.2.2.1 i (by omega)).1
        have ci := rc i (by omega)
        have c13 := X13.2.2.2.2.2.2.2.2.2 i (by omega)
        have wst : wmI G (i + 1) = wmI G i + ti (G (7 + 5 * i)) := by
          have e : mnF G i = G (7 + 5 * i) := rfl
          have wi' : 0 ≤ ti (smT (mnF G) i) ∧ ti (smT (mnF G) i) ≤ 30 * (i : Int) := wi
          show ti (smT (mnF G) i + mnF G i) = ti (smT (mnF G) i) + _
          rw [tadd (by rw [e]; omega), e]
        have sst := sF_s (f := c) i k
        rw [c13.2.2]
        refine f_X10_has a1 x_3 hi (by omega) (fun r16 z16 => fun _ => ⟨fun q16 x17 e17 x18 e18 => ?_, fun q16 => ⟨vin (by omega), ?_⟩⟩)
        · have nb : k / 2 ^ i % 2 = 0 := by
            have y : ¬ bt a1 i = true := fun y => z16.mpr y q16
            rw [h1, bt_nat hk (by omega)] at y
            have y2 : ¬ k / 2 ^ i % 2 = 1 := fun z => y (decide_eq_true z)
            omega
          rw [if_pos nb] at sst
          have f := eq_t e18
          rw [Int32.add_zero] at e17
          have ta := tadd (x := x_2) (y := G (7 + 5 * i)) (by omega)
          have f17 := eq_t e17
          exact ih (i + 1) x17 x18 σ13 fr13 hcm13 (by omega) (by omega) (by omega) (by omega)
        · have nb : ¬ k / 2 ^ i % 2 = 0 := by
            have y := z16.mp q16
            rw [h1, bt_nat hk (by omega)] at y
            have y2 := of_decide_eq_true y
            omega
          rw [if_neg nb] at sst
          rw [c13.1]
          intro x20 e20 x21 e21
          have f := eq_t e21
          have hci := hc i
          have ta := tadd (x := G (7 + 5 * i)) (y := csI G i) (by omega)
          have tb := tadd (x := x_2) (y := G (7 + 5 * i) + csI G i) (by omega)
          have f20 := eq_t e20
          exact ih (i + 1) x20 x21 σ13 fr13 hcm13 (by omega) (by omega) (by omega) (by omega)
  unfold w_X10_holds
  refine ⟨100, go1 100 0 (0 : Int32) (0 : Int32) σ (fun _ _ _ => rfl) (fun p hp => absurd hp (Nat.not_lt_zero p)) lit_0 (by omega) ?_ (by omega)⟩
  show _ = ti (0 : Int32) + 0
  omega
def hoA (W : Nat → Bool) (n : Nat) (allB anyB : Nat → Bool) (km : Nat) (a3 : Int32) : Int32 := if a3 = 0 then Int32.ofNat (cnF W (2 ^ n)) else if a3 = 1 then (if cnF W (2 ^ n) = 0 then -1 else rkF allB 32) else if a3 = 2 then rkF anyB 32 else (if cnF W (2 ^ n) = 0 then -1 else Int32.ofNat km)
set_option maxHeartbeats 8000000 in
theorem al_hold {σ : zSto} (H : Lz σ) (a1 a2 a3 : Int32) : ∃ A : Int32, w_X9_hold a1 a2 a3 σ (fun r _ => r = A) ∧ ∀ σa, SmR σ σa → w_X10_hold a1 a2 a3 σa (fun r _ => r = A) := by
  have l0 := lit_0
  have l1 := lit_1
  have l2 := lit_2
  have l3 := lit_3
  have lm := lit_m1
  have e3' := ti_eq a3
  have d0 : 0 ≤ ti (σ.1 42 0) ∧ ti (σ.1 42 0) ≤ 2 := rdg H.1.1 kd_42 rfl rfl
  have d2 : 0 ≤ ti (σ.1 42 2) ∧ ti (σ.1 42 2) ≤ 2 := rdg H.1.1 kd_42 rfl rfl
  by_cases ex : exW σ a1 (0 : Int32) ∧ (0 ≤ ti a2 ∧ ti a2 < ti (σ.1 42 2)) ∧ (0 ≤ ti a3 ∧ ti a3 ≤ 3)
  · obtain ⟨ex, x2, x3⟩ := ex
    obtain ⟨l, hl⟩ : ∃ l : Nat, ti a1 = (l : Int) := ⟨(ti a1).toNat, by have := ex.1; omega⟩
    obtain ⟨m, hm⟩ : ∃ m : Nat, ti a2 = (m : Int) := ⟨(ti a2).toNat, by omega⟩
    obtain ⟨N, R, G, tl⟩ := tlL_of H (l := l) (by have := ex.2.1; omega) (by have := ex.2.1; omega)
    obtain ⟨t1, t2, t3, t4, t5, t6, t7, t8, t9⟩ := id tl
    have ln := LnN_of H tl
    have m2 : m < 2 := by omega
    have hpl := LX_pairs H.2.1 (o := 2) (l := m) (Or.inr rfl) m2 (by omega)
    have hpl' : PrR (22 + 7 * 2 + 3 * m) 231 (21 * m) 21 σ := hpl
    have r31 := rg_231 H.1 (l := m)
    obtain ⟨M, hM⟩ : ∃ M : Nat, ti (σ.1 231 (21 * m)) = (M : Int) := ⟨(ti (σ.1 231 (21 * m))).toNat, by omega⟩
    obtain ⟨qf, hqf⟩ : ∃ qf : Nat → Int32, ∀ k, qf k = σ.1 231 (21 * m + (1 + 2 * k + 0)) := ⟨fun k => σ.1 231 (21 * m + (1 + 2 * k + 0)), fun _ => rfl⟩
    obtain ⟨vf, hvf⟩ : ∃ vf : Nat → Int32, ∀ k, vf k = σ.1 231 (21 * m + (1 + 2 * k + 1)) := ⟨fun k => σ.1 231 (21 * m + (1 + 2 * k + 1)), fun _ => rfl⟩
    have lg : LgA M qf vf := ⟨by omega, fun k hk => by
      have ya := pr_rg H.2.1 (o := 2) (l := m) (Or.inr rfl) m2 (by omega) k 0 (by show 1 + 2 * k + 0 < 21; omega) (by omega) (by show (k : Int) < ti (σ.1 231 (21 * m)); omega)
      have yb := pr_rg H.2.1 (o := 2) (l := m) (Or.inr rfl) m2 (by omega) k 1 (by show 1 + 2 * k + 1 < 21; omega) (by omega) (by show (k : Int) < ti (σ.1 231 (21 * m)); omega)
      rw [hqf, hvf]
      exact ⟨⟨ya.1, ya.2.1 rfl⟩, yb.1, yb.2.2 rfl⟩⟩
    obtain ⟨n, hn⟩ : ∃ n, n = N - 1 := ⟨_, rfl⟩
    have pw15 : 2 ^ n ≤ 2 ^ 15 := Nat.pow_le_pow_right (by decide) (by omega)
    obtain ⟨c, hc⟩ : ∃ c : Nat → Int, ∀ p, c p = ti (csI G p) := ⟨fun p => ti (csI G p), fun _ => rfl⟩
    obtain ⟨W, hW⟩ : ∃ W : Nat → Bool, ∀ k, (W k = true ↔ ∀ e, e < M → ti (qf e) < (N : Int) ∧ wmI G (qf e).toNatClampNeg + sF c (qf e).toNatClampNeg 0 k = ti (vf e)) := ⟨fun k => @decide _ (Classical.propDecidable (∀ e, e < M → ti (qf e) < (N : Int) ∧ wmI G (qf e).toNatClampNeg + sF c (qf e).toNatClampNeg 0 k = ti (vf e))), fun k => ⟨fun h => @of_decide_eq_true _ (Classical.propDecidable _) h, fun h => @decide_eq_true _ (Classical.propDecidable _) h⟩⟩
    obtain ⟨allB, hall⟩ : ∃ f : Nat → Bool, ∀ j, (f j = true ↔ j < n ∧ ∀ k, k < 2 ^ n → W k = true → k / 2 ^ j % 2 = 1) := ⟨fun j => @decide _ (Classical.propDecidable (j < n ∧ ∀ k, k < 2 ^ n → W k = true → k / 2 ^ j % 2 = 1)), fun j => ⟨fun h => @of_decide_eq_true _ (Classical.propDecidable _) h, fun h => @decide_eq_true _ (Classical.propDecidable _) h⟩⟩
    obtain ⟨anyB, hany⟩ : ∃ f : Nat → Bool, ∀ j, (f j = true ↔ ∃ k, k < 2 ^ n ∧ W k = true ∧ k / 2 ^ j % 2 = 1) := ⟨fun j => @decide _ (Classical.propDecidable (∃ k, k < 2 ^ n ∧ W k = true ∧ k / 2 ^ j % 2 = 1)), fun j => ⟨fun h => @of_decide_eq_true _ (Classical.propDecidable _) h, fun h => @decide_eq_true _ (Classical.propDecidable _) h⟩⟩
    obtain ⟨km, hkm⟩ : ∃ km, cnF W (2 ^ n) ≠ 0 → km < 2 ^ n ∧ W km = true ∧ ∀ k, k < km → W k = false := by
      by_cases z : cnF W (2 ^ n) = 0
      · exact ⟨0, fun y => absurd z y⟩
      · obtain ⟨k0, y1, y2⟩ := cn_ex z
        obtain ⟨km, w1, w2, w3⟩ := fst_ex (fun k => W k = true) k0 y2
        refine ⟨km, fun _ => ⟨by omega, w2, fun k hk => ?_⟩⟩
        cases hw : W k
        · rfl
        · exact absurd hw (w3 k hk)
    have cl := cnF_le W (2 ^ n)
    have tcn : ∀ i, i ≤ 2 ^ n → ti (Int32.ofNat (cnF W i)) = (cnF W i : Int) := fun i hi => nI_t (by have := cnF_le W i; omega)
    refine ⟨hoA W n allB anyB km a3, ?_, ?_⟩
    · unfold w_X9_hold
      refine f_X8_lineAt a1 H.1 (fun z => absurd ⟨ex.1, ex.2.1⟩ z) (fun l' hl' hl2 hc' => ⟨fun z => (by cases z), fun j3 e3 => ?_⟩)
      have e3'' := Option.some.inj e3
      subst e3''
      have el : l' = l := by omega
      subst el
      refine ⟨isT_L (isN_T (by unfold isN; omega)), f_X8_logAt a2 H.1 (fun z => absurd x2 z) (fun m' hm' hm2 hmc => ⟨fun z => (by cases z), fun j9 e9 => ?_⟩)⟩
      have e9' := Option.some.inj e9
      subst e9'
      have em : m' = m := by omega
      subst em
      refine ⟨isP_P (by unfold isP; omega), fun q => by have := lt_t q; omega, fun _ => ⟨fun _ => ?_, fun q => by have := nle_t q; omega⟩⟩
      refine f_findHolding (W := W) (by omega) (by omega) t9 ln t4 t6 lg ⟨by rw [hpl'.1]; exact hM, fun k hk => ⟨?_, ?_⟩⟩ hc (fun k _ => hW k) (fun σ10 K => ?_)
      · rw [hqf]
        exact hpl'.2 k 0 (by omega) (by omega) (by omega) (by omega)
      · rw [hvf]
        exact hpl'.2 k 1 (by omega) (by omega) (by omega) (by omega)
      rw [← hn] at K
      obtain ⟨K1, K2, K3⟩ := K
      refine ⟨fun q => ?_, fun q => ?_, fun q => ?_, fun q => ?_⟩
      · unfold hoA
        rw [if_pos q]
        exact K1
      · have n0 : ¬ a3 = 0 := by rw [q]; decide
        unfold hoA w_X6_surePosts
        rw [if_neg n0, if_pos q, K1]
        refine ⟨fun z => ?_, fun z => ?_⟩
        · have y := ne_t z
          rw [tcn _ (Nat.le_refl _)] at y
          rw [if_neg (by omega)]
          exact sure_eq (fun j hj => by rw [(K3 (by omega)).1 j hj, hall])
        · have y := eq_t z
          rw [tcn _ (Nat.le_refl _)] at y
          rw [if_pos (by omega)]
      · have n0 : ¬ a3 = 0 := by rw [q]; decide
        have n1 : ¬ a3 = 1 := by rw [q]; decide
        unfold hoA
        rw [if_neg n0, if_neg n1, if_pos q]
        exact sure_eq (fun j hj => by rw [K2 j hj, hany])
      · have n0 : ¬ a3 = 0 := fun y => by have := eq_t y; omega
        have n1 : ¬ a3 = 1 := fun y => by have := eq_t y; omega
        have n2 : ¬ a3 = 2 := fun y => by have := eq_t y; omega
        unfold hoA
        rw [if_neg n0, if_neg n1, if_neg n2, K1]
        refine ⟨fun z => ?_, fun z => ?_⟩
        · have y := ne_t z
          rw [tcn _ (Nat.le_refl _)] at y
          rw [if_neg (by omega)]
          obtain ⟨kf, f1, f2, f3, f4⟩ := (K3 (by omega)).2
          obtain ⟨g1, g2, g3⟩ := hkm (by omega)
          have le1 := f4 km g1 g2
          have le2 : ¬ kf < km := fun w => by rw [g3 kf w] at f2; cases f2
          rw [f3, show kf = km by omega]
        · have y := eq_t z
          rw [tcn _ (Nat.le_refl _)] at y
          rw [if_pos (by omega)]
    · intro σa sm
      unfold w_X10_hold
      intro σ1 e1
      obtain ⟨H1, u1⟩ := SmR_223 sm e1
      unfold w_X10_hasLog
      intro σ1' e1'
      have H1' : Lz σ1' := Lz_of H1 (by rw [e1']; exact wIr H1.1 (fun h => h.elim) (by decide) kd_223 rfl rfl (full32 _)) (fun k j hk => zI_q' e1' (by omega))
      have u1' : ∀ k j, k ≠ 223 → (k < 171 ∨ 223 ≤ k) → σ1'.1 k j = σ.1 k j := fun k j a b => by rw [zI_q' e1' (by omega), u1 k j a b]
      have m1 := many0 H1'.2.1 (o := 2) (by omega)
      have c42 : ti (σ1'.1 42 2) = ti (σ.1 42 2) := by rw [u1' 42 2 (by omega) (by omega)]
      refine f_X10_is (2 : Int32) a2 (o := 2) lit_2 (by omega) (by omega) (fun r3 z3 => fun hb => ⟨hb, fun _ => ⟨fun q3 => absurd q3 (z3.mpr ⟨by omega, by omega⟩), fun _ => ?_⟩⟩)
      refine f_handY H1' a1 (0 : Int32) (fun z => absurd ((exW_eq1 u1').mpr ex) z) (fun _ l' N' R' G' hl' tl' σ2 f2 f23 X2 => fun _ => ⟨fun c => absurd c (by decide), fun _ => ?_⟩)
      have el : l' = l := by omega
      subst el
      obtain ⟨eN, eR, eG⟩ := tlL_eq tl tl' (fun j => u1' 229 j (by omega) (by omega))
      subst eN
      subst eR
      subst eG
      have v47 : ti (σ2.1 223 47) = (m : Int) := by rw [f23 47 (by omega), e1', zI_s]; exact hm
      have g231 : ∀ j, σ2.1 231 j = σ.1 231 j := fun j => by rw [f2 231 j (by omega), u1' 231 j (by omega) (by omega)]
      have h25 := X2.2.2.2.1
      have e25 : σ2.1 223 25 = Int32.ofNat n := t_inj (by rw [h25, hn, show ti (Int32.ofNat (N' - 1)) = ((N' - 1 : Nat) : Int) from nI_t (by omega)]; omega)
      have one : Int32.ofNat 1 <<< (Int32.ofNat n &&& 31) = Int32.ofNat (2 ^ n) := by rw [i_shl 1 (by omega), Nat.one_mul]
      have one' : (1 : Int32) <<< (Int32.ofNat n &&& 31) = Int32.ofNat (2 ^ n) := one
      have t2n : ti (Int32.ofNat (2 ^ n)) = ((2 ^ n : Nat) : Int) := nI_t (by omega)
      have p1 : 0 < 2 ^ n := Nat.pow_pos (by decide)
      refine b_X10_in a3 (0 : Int32) (3 : Int32) (fun r7 z7 => fun _ => ⟨fun _ => ?_, fun q7 => absurd q7 (z7.mpr ⟨by omega, by omega⟩)⟩)
      rw [e25, one']
      intro x8 e8
      have tx8 := tsub (x := Int32.ofNat (2 ^ n)) (y := (1 : Int32)) (by omega)
      have e8' : x8 = Int32.ofNat (2 ^ n - 1) := t_inj (by rw [e8, tx8, t2n, show ti (Int32.ofNat (2 ^ n - 1)) = ((2 ^ n - 1 : Nat) : Int) from nI_t (by omega)]; omega)
      have b8 : ∀ j, j < 32 → (bt x8 j = true ↔ j < n) := fun j hj => by
        rw [e8', bt_nat (by omega) hj]
        have y : (2 ^ n - 1) / 2 ^ j % 2 = 1 ↔ j < n := by
          have w : (2 ^ n - 1).testBit j = decide (j < n) := Nat.testBit_two_pow_sub_one n j
          rw [Nat.testBit_eq_decide_div_mod_eq] at w
          exact ⟨fun z => by rw [decide_eq_true z] at w; exact of_decide_eq_true w.symm, fun z => by rw [decide_eq_true z] at w; exact of_decide_eq_true w⟩
        exact ⟨fun z => y.mp (of_decide_eq_true z), fun z => decide_eq_true (y.mpr z)⟩
      have go : ∀ (f i : Nat) (x_4 x_5 x_6 x_7 x_8 : Int32) (σ3 : zSto), Fr239 σ2 σ3 → ti x_8 = (i : Int) → i ≤ 2 ^ n → x_4 = Int32.ofNat (cnF W i) → (cnF W i = 0 → x_5 = -1) → (cnF W i ≠ 0 → x_5 = Int32.ofNat km) → (∀ j, j < 32 → (bt x_6 j = true ↔ j < n ∧ ∀ k, k < i → W k = true → k / 2 ^ j % 2 = 1)) → (∀ j, j < 32 → (bt x_7 j = true ↔ ∃ k, k < i ∧ W k = true ∧ k / 2 ^ j % 2 = 1)) → 2 ^ n - i < f → w_X10_hold_56 a3 (fun r _ => r = hoA W n allB anyB km a3) f x_4 x_5 x_6 x_7 x_8 σ3 := by
        intro f
        induction f with
        | zero => intro i x_4 x_5 x_6 x_7 x_8 σ3 _ _ _ _ _ _ _ _ h; omega
        | succ f ih =>
          intro i x_4 x_5 x_6 x_7 x_8 σ3 fr hi hin h4 h5 h5' h6 h7 hf
          unfold w_X10_hold_56
          rw [fr 223 25 (by omega), e25, one']
          refine ⟨fun q => ?_, fun q => ?_⟩
          · have cc := le_t q
            have e : i = 2 ^ n := by omega
            subst e
            refine ⟨fun k => ⟨fun k1 => ⟨fun k2 => ?_, fun k2 => ?_⟩, fun k1 => ⟨fun k2 => ?_, fun k2 => ?_⟩⟩, fun k => ?_⟩
            · unfold hoA
              rw [if_neg k, if_neg k1, if_neg k2]
              by_cases z : cnF W (2 ^ n) = 0
              · rw [if_pos z]; exact h5 z
              · rw [if_neg z]; exact h5' z
            · unfold hoA
              rw [if_neg k, if_neg k1, if_pos k2]
              exact sure_eq (fun j hj => by rw [h7 j hj, hany])
            · have y := ne_t k2
              rw [h4, tcn _ (Nat.le_refl _)] at y
              unfold hoA
              rw [if_neg k, if_pos k1, if_neg (by omega)]
              exact sure_eq (fun j hj => by rw [h6 j hj, hall])
            · have y := eq_t k2
              rw [h4, tcn _ (Nat.le_refl _)] at y
              unfold hoA
              rw [if_neg k, if_pos k1, if_pos (by omega)]
            · unfold hoA
              rw [if_pos k]
              exact h4
          · have cc := nle_t q
            have tx := tadd (x := x_8) (y := (1 : Int32)) (by omega)
            have e8 : x_8 = Int32.ofNat i := t_inj (by rw [hi]; exact (nI_t (by omega)).symm)
            have X3 : RfX l' R' N' G' (csI G') (fun p => pdI G' p 0) σ3 := RfX_fr X2 (fun j _ _ => fr 223 j (by omega)) (fun k j h => fr k j (by omega))
            refine f_X10_holds X3 ln m2 (by rw [fr 223 47 (by omega)]; exact v47) (by rw [fr 231 _ (by omega), g231]; exact hM) (fun k _ => by rw [fr 231 _ (by omega), fr 231 _ (by omega), g231, g231, hqf, hvf]; exact ⟨rfl, rfl⟩) lg hc x_8 e8 (by omega) (fun r10 σ9 f9 z9 b9 => fun _ => ?_)
            have fr9 : Fr239 σ2 σ9 := fun k j h => by rw [f9 k j h, fr k j h]
            refine ⟨fun k x11 e11 => ?_, fun k => ?_⟩
            · have g := eq_t e11
              have w : ¬ W i = true := fun y => z9.mpr ((hW i).mp y) k
              have st : ∀ k, k < i + 1 → W k = true → k < i := fun k h1 h2 => by
                by_cases d : k = i
                · subst d; exact absurd h2 w
                · omega
              have cs : cnF W (i + 1) = cnF W i := by
                rw [cnF_1, if_neg w]
                rfl
              refine ih (i + 1) x_4 x_5 x_6 x_7 x11 σ9 fr9 (by omega) (by omega) (by rw [cs]; exact h4) (fun y => h5 (by rw [← cs]; exact y)) (fun y => h5' (by rw [← cs]; exact y)) (fun j hj => ?_) (fun j hj => ?_) (by omega)
              · rw [h6 j hj]
                exact ⟨fun y => ⟨y.1, fun k h1 h2 => y.2 k (st k h1 h2) h2⟩, fun y => ⟨y.1, fun k h1 h2 => y.2 k (by omega) h2⟩⟩
              · rw [h7 j hj]
                exact ⟨fun ⟨k, h1, h2, h3⟩ => ⟨k, by omega, h2, h3⟩, fun ⟨k, h1, h2, h3⟩ => ⟨k, st k h1 h2, h2, h3⟩⟩
            · have w : W i = true := (hW i).mpr (z9.mp k)
              have cs : cnF W (i + 1) = cnF W i + 1 := by rw [cnF_1, if_pos w]
              have fin : ∀ (y5 x12 x13 x14 x15 : Int32), x12 = x_4 + (1 : Int32) → x13 = x_6 &&& x_8 → x14 = x_7 ||| x_8 → x15 = x_8 + (1 : Int32) → y5 = Int32.ofNat km → w_X10_hold_56 a3 (fun r _ => r = hoA W n allB anyB km a3) f x12 y5 x13 x14 x15 σ9 := fun y5 x12 x13 x14 x15 e12 e13 e14 e15 ey => by
                have g := eq_t e15
                refine ih (i + 1) x12 y5 x13 x14 x15 σ9 fr9 (by omega) (by omega) ?_ (fun y => by omega) (fun _ => ey) (fun j hj => ?_) (fun j hj => ?_) (by omega)
                · rw [cs, e12, h4]
                  exact nI_1 _
                · rw [e13, bt_an, Bool.and_eq_true, h6 j hj, e8, bt_nat (by omega) hj]
                  exact ⟨fun y => ⟨y.1.1, fun k h1 h2 => by
                    by_cases d : k = i
                    · subst d; exact of_decide_eq_true y.2
                    · exact y.1.2 k (by omega) h2⟩, fun y => ⟨⟨y.1, fun k h1 h2 => y.2 k (by omega) h2⟩, decide_eq_true (y.2 i (by omega) w)⟩⟩
                · rw [e14, bt_or, Bool.or_eq_true, h7 j hj, e8, bt_nat (by omega) hj]
                  exact ⟨fun y => by
                    rcases y with ⟨k, h1, h2, h3⟩ | y
                    · exact ⟨k, by omega, h2, h3⟩
                    · exact ⟨i, by omega, w, of_decide_eq_true y⟩, fun ⟨k, h1, h2, h3⟩ => by
                    by_cases d : k = i
                    · subst d; exact Or.inr (decide_eq_true h3)
                    · exact Or.inl ⟨k, by omega, h2, h3⟩⟩
              have nz : cnF W (2 ^ n) ≠ 0 := cn_ne (show i < 2 ^ n by omega) w
              obtain ⟨g1, g2, g3⟩ := hkm nz
              refine ⟨fun k5 x12 e12 x13 e13 x14 e14 x15 e15 => fin x_5 x12 x13 x14 x15 e12 e13 e14 e15 (h5' (fun y => k5 (h5 y))), fun k5 x16 e16 x17 e17 x18 e18 x19 e19 => fin x_8 x16 x17 x18 x19 e16 e17 e18 e19 ?_⟩
              have c0 : cnF W i = 0 := Classical.byContradiction (fun y => by
                have z := h5' y
                rw [k5] at z
                exact absurd z.symm (fun u => by
                  have := eq_t u
                  rw [show ti (Int32.ofNat km) = (km : Int) from nI_t (by omega)] at this
                  omega))
              have le1 : ¬ km < i := fun y => absurd c0 (cn_ne y g2)
              have le2 : ¬ i < km := fun y => by rw [g3 i y] at w; cases w
              rw [e8, show i = km by omega]
      exact ⟨100000, go 100000 0 (0 : Int32) (-1 : Int32) x8 (0 : Int32) (0 : Int32) σ2 (fun _ _ _ => rfl) lit_0 (by omega) rfl (fun _ => rfl) (fun y => absurd rfl y) (fun j hj => by rw [b8 j hj]; exact ⟨fun z => ⟨z, fun k h1 => absurd h1 (Nat.not_lt_zero k)⟩, fun z => z.1⟩) (fun j hj => ⟨fun z => absurd z (by rw [bt_z]; decide), fun ⟨k, h1, _⟩ => absurd h1 (Nat.not_lt_zero k)⟩) (by omega)⟩
  · refine ⟨-2, ?_, ?_⟩
    · unfold w_X9_hold
      refine f_X8_lineAt a1 H.1 (fun _ => ⟨fun _ => f_X8_logAt a2 H.1 (fun _ => ⟨fun _ => rfl, fun j6 e6 => (by cases e6)⟩) (fun m' hm' hm2 hmc => ⟨fun z => (by cases z), fun j6 e6 => ?_⟩), fun j3 e3 => (by cases e3)⟩) (fun l' hl' hl2 hc => ⟨fun z => (by cases z), fun j3 e3 => ?_⟩)
      · have e6' := Option.some.inj e6
        subst e6'
        exact ⟨isP_P (by unfold isP; omega), rfl⟩
      · have e3'' := Option.some.inj e3
        subst e3''
        refine ⟨isT_L (isN_T (by unfold isN; omega)), f_X8_logAt a2 H.1 (fun _ => ⟨fun _ => rfl, fun j6 e6 => (by cases e6)⟩) (fun m' hm' hm2 hmc => ⟨fun z => (by cases z), fun j9 e9 => ?_⟩)⟩
        have e9' := Option.some.inj e9
        subst e9'
        refine ⟨isP_P (by unfold isP; omega), fun _ => rfl, fun k1 => ⟨fun k2 => ?_, fun _ => rfl⟩⟩
        have y1 := nlt_t k1
        have y2 := le_t k2
        exact absurd ⟨⟨by omega, by omega, by omega, by omega⟩, ⟨by omega, by omega⟩, ⟨by omega, by omega⟩⟩ ex
    · intro σa sm
      unfold w_X10_hold
      intro σ1 e1
      obtain ⟨H1, u1⟩ := SmR_223 sm e1
      unfold w_X10_hasLog
      intro σ1' e1'
      have H1' : Lz σ1' := Lz_of H1 (by rw [e1']; exact wIr H1.1 (fun h => h.elim) (by decide) kd_223 rfl rfl (full32 _)) (fun k j hk => zI_q' e1' (by omega))
      have u1' : ∀ k j, k ≠ 223 → (k < 171 ∨ 223 ≤ k) → σ1'.1 k j = σ.1 k j := fun k j a b => by rw [zI_q' e1' (by omega), u1 k j a b]
      have m1 := many0 H1'.2.1 (o := 2) (by omega)
      have c42 : ti (σ1'.1 42 2) = ti (σ.1 42 2) := by rw [u1' 42 2 (by omega) (by omega)]
      refine f_X10_is (2 : Int32) a2 (o := 2) lit_2 (by omega) (by omega) (fun r3 z3 => fun hb => ⟨hb, fun _ => ⟨fun _ => rfl, fun q3 => ?_⟩⟩)
      have w3 := z3.mp q3
      refine f_handY H1' a1 (0 : Int32) (fun _ => fun _ => ⟨fun _ => rfl, fun c => absurd rfl c⟩) (fun e l' N' R' G' hl' tl' σ2 f2 f23 X2 => fun _ => ⟨fun _ => rfl, fun _ => b_X10_in a3 (0 : Int32) (3 : Int32) (fun r7 z7 => fun _ => ⟨fun q7 => ?_, fun _ => rfl⟩)⟩)
      have w7 := z7.mp q7
      exact absurd ⟨(exW_eq1 u1').mp e, ⟨by omega, by omega⟩, ⟨by omega, by omega⟩⟩ ex
theorem m_hold {σ : zSto} (H : Lz σ) (a1 a2 a3 : Int32) {P : Int32 → zSto → Prop} (hP : ∀ r σa, (∀ Q : Int32 → zSto → Prop, (∀ σ2, Lz σ2 → Q r σ2) → w_X10_hold a1 a2 a3 σa Q) → P r σa) : w_X9_hold a1 a2 a3 σ P := by
  obtain ⟨A, hc, hr⟩ := al_hold H a1 a2 a3
  exact cj_X9_hold (P := fun _ σa => zInv AC σ.1 3 σa) (Q := fun r _ => r = A) (fun r σa i e2 => by
    subst e2
    have sm := SmR_C H i
    exact hP _ _ (fun Q hQ => cj_X10_hold (P := fun _ σb => zInv AR2 σa.1 3 σb) (Q := fun r' _ => r' = r) (fun r' σb i e => by
      subst e
      exact hQ σb (Lz_R sm.1 i)) (s_X10_hold (A := AR2) (F := σa.1) ar2_r ar2_h a1 a2 a3 (inv_any sm.1.1) (fun _ _ i => i)) (hr σa sm))) (s_X9_hold (A := AC) (F := σ.1) ac_c a1 a2 a3 (inv_any H.1) (fun _ _ i => i)) hc
