/-! RUNS by a PLAN -/
theorem pr_rg {σ : zSto} (h : LX 1 0 σ) {o l : Nat} (ho : o = 1 ∨ o = 2) (hl : l < 2) (hc : (l : Int) < ti (σ.1 42 o)) (k c : Nat) (hs : 1 + 2 * k + c < wdo o) (hc2 : c < 2) (hk : (k : Int) < ti (σ.1 (229 + o) (wdo o * l))) : 0 ≤ ti (σ.1 (229 + o) (wdo o * l + (1 + 2 * k + c))) ∧ (c = 0 → ti (σ.1 (229 + o) (wdo o * l + (1 + 2 * k + c))) ≤ 15) ∧ (c = 1 → ti (σ.1 (229 + o) (wdo o * l + (1 + 2 * k + c))) ≤ if (o : Int) = 2 then 999 else 5) := by
  have w2 := wdo_2 o
  have hp := LX_pairs h ho hl hc
  have k0 : cK (300 + 0) = 184 ∧ cJ (300 + 0) = 2 := by decide
  have v0 : cv σ 1 o l 0 = ti (σ.1 (229 + o) (wdo o * l)) := by
    rw [← hp.1]
    rcases ho with e | e
    · subst e
      show ti (σ.1 (1 + 28 + 3 * l + (cK (300 + 0) - 184)) (cJ (300 + 0))) = _
      rw [k0.1, k0.2, show 1 + 28 + 3 * l + (184 - 184) = 22 + 7 * 1 + 3 * l by omega]
    · subst e
      show ti (σ.1 (1 + 35 + 3 * l + (cK (300 + 0) - 184)) (cJ (300 + 0))) = _
      rw [k0.1, k0.2, show 1 + 35 + 3 * l + (184 - 184) = 22 + 7 * 2 + 3 * l by omega]
  have y := h.2.2.2.2.2.1 o l (1 + 2 * k + c) (by omega) hl hc hs ⟨fun z => by omega, fun _ => Or.inr (by rw [show (1 + 2 * k + c - 1) / 2 = k by omega, v0]; exact hk)⟩
  have y2 := y.2.2 (by omega)
  rw [y.1] at y2
  have rx := rr_X (o : Int) k
  have ev : rv σ 0 o l (1 + 2 * k + c) = ti (σ.1 (229 + o) (wdo o * l + (1 + 2 * k + c))) := by
    rcases ho with e | e
    · subst e
      show ti (σ.1 230 (66 * 0 + 33 * l + (1 + 2 * k + c))) = ti (σ.1 230 (33 * l + (1 + 2 * k + c)))
      rw [show 66 * 0 + 33 * l + (1 + 2 * k + c) = 33 * l + (1 + 2 * k + c) by omega]
    · subst e
      show ti (σ.1 231 (42 * 0 + 21 * l + (1 + 2 * k + c))) = ti (σ.1 231 (21 * l + (1 + 2 * k + c)))
      rw [show 42 * 0 + 21 * l + (1 + 2 * k + c) = 21 * l + (1 + 2 * k + c) by omega]
  rw [ev, show 300 + (1 + 2 * k + c) = 301 + 2 * k + c by omega] at y2
  rcases (show c = 0 ∨ c = 1 by omega) with e | e
  · subst e
    rw [rx.1.1, rx.1.2] at y2
    exact ⟨y2.1, fun _ => y2.2, fun z => absurd z (by decide)⟩
  · subst e
    rw [rx.2.1, rx.2.2] at y2
    exact ⟨y2.1, fun z => absurd z (by decide), fun _ => y2.2⟩
/-- alike, but for the SEED and what is taken where -/
def EqS (S S' : Nat → Int32) : Prop := ∀ j, j ≠ 2 → j < 60 → S j = S' j
theorem upI_cg {S S' : Nat → Int32} {s j : Nat} {v v' : Int32} (h : S j = S' j) (hv : v = v') : upI S s v j = upI S' s v' j := by
  by_cases c : j = s
  · rw [c, upI_s, upI_s, hv]
  · rw [upI_q c, upI_q c, h]
theorem pll_eq {cs pd S S' : Nat → Int32} {rd : Nat → Nat → Int32} {p : Nat} {q : Int32} (h : EqS S S') (hq : ∃ r, r < 6 ∧ q = Int32.ofNat r) : EqS (pll cs pd rd p q S) (pll cs pd rd p q S') := by
  obtain ⟨r, hr, er⟩ := hq
  intro j h2 h60
  have n : q.toNatClampNeg = r := by rw [er]; exact ofNat_c (by omega)
  have ne : ¬ q = -1 := by rw [er]; exact ofNat_ne (by omega)
  have a := h (10 + r) (by omega) (by omega)
  have b := h (20 + r) (by omega) (by omega)
  have c := h 1 (by omega) (by omega)
  have d := h 0 (by omega) (by omega)
  have e := h 3 (by omega) (by omega)
  unfold pll
  rw [if_neg ne, if_neg ne, n, a, b, c, d, e]
  exact upI_cg (upI_cg (upI_cg (upI_cg (upI_cg (upI_cg (upI_cg (upI_cg (h j h2 h60) rfl) rfl) rfl) rfl) rfl) rfl) rfl) rfl
def PlS (cs pd : Nat → Int32) (rd : Nat → Nat → Int32) (pf rf : Nat → Int32) : Nat → Nat → Int32
  | 0 => S0n 0
  | k + 1 => pll cs pd rd (pf k).toNatClampNeg (rf k) (PlS cs pd rd pf rf k)
/-- PULL k can be -/
def cnQ (N R : Nat) (G pd pf rf S : Nat → Int32) (k : Nat) : Prop := (0 < k → ti (pf (k - 1)) < ti (pf k)) ∧ ti (pf k) + 1 < (N : Int) ∧ ti (rf k) < (R : Int) ∧ ¬ Int32.ofNat (pf k).toNatClampNeg < rdG G (rf k).toNatClampNeg 0 ∧ ¬ rdG G (rf k).toNatClampNeg 1 ≤ Int32.ofNat (pf k).toNatClampNeg ∧ ¬ rdG G (rf k).toNatClampNeg 2 ≤ S (10 + (rf k).toNatClampNeg) ∧ ¬ pd (pf k).toNatClampNeg ≤ 0
theorem cnQ_eq {N R : Nat} {G pd pf rf S S' : Nat → Int32} {k : Nat} (h : EqS S S') (hr : ti (rf k) ≤ 5) : cnQ N R G pd pf rf S k ↔ cnQ N R G pd pf rf S' k := by
  have tn := tn_eq (rf k)
  unfold cnQ
  rw [h (10 + (rf k).toNatClampNeg) (by omega) (by omega)]
def dnF (C : Nat → Bool) : Nat → Nat
  | 0 => 0
  | n + 1 => if dnF C n = n ∧ C n = true then n + 1 else dnF C n
theorem dn_a {C : Nat → Bool} : ∀ n, (∀ j, j < n → C j = true) → dnF C n = n := by
  intro n
  induction n with
  | zero => intro _; rfl
  | succ n ih =>
    intro h
    show (if dnF C n = n ∧ C n = true then n + 1 else dnF C n) = n + 1
    rw [if_pos ⟨ih (fun j hj => h j (by omega)), h n (by omega)⟩]
theorem dn_s {C : Nat → Bool} {k : Nat} (h : dnF C k = k) (hk : ¬ C k = true) : ∀ m, dnF C (k + m) = k := by
  intro m
  induction m with
  | zero => exact h
  | succ m ih =>
    show (if dnF C (k + m) = k + m ∧ C (k + m) = true then k + m + 1 else dnF C (k + m)) = k
    rw [ih, if_neg]
    rintro ⟨z1, z2⟩
    have e : k + m = k := by omega
    rw [e] at z2
    exact hk z2
theorem cmT_cg {cs mn S S' : Nat → Int32} : ∀ n, (∀ p, p < n → S (40 + p) = S' (40 + p)) → cmT cs mn S n = cmT cs mn S' n := by
  intro n
  induction n with
  | zero => intro _; rfl
  | succ n ih =>
    intro h
    show (if S (40 + n) = -1 then cmT cs mn S n + mn n else cmT cs mn S n + cs n + mn n) = (if S' (40 + n) = -1 then cmT cs mn S' n + mn n else cmT cs mn S' n + cs n + mn n)
    rw [ih (fun p hp => h p (by omega)), h n (by omega)]
theorem fiT_cg {G cs S S' : Nat → Int32} : ∀ n, (∀ p, p < n → S (40 + p) = S' (40 + p)) → fiT G cs S n = fiT G cs S' n := by
  intro n
  induction n with
  | zero => intro _; rfl
  | succ n ih =>
    intro h
    show (if G (7 + 5 * n + 4) = -1 then fiT G cs S n else fiT G cs S n + mx0 (cmT cs (fun p => G (7 + 5 * p)) S n - G (7 + 5 * n + 4) - G 4)) = (if G (7 + 5 * n + 4) = -1 then fiT G cs S' n else fiT G cs S' n + mx0 (cmT cs (fun p => G (7 + 5 * p)) S' n - G (7 + 5 * n + 4) - G 4))
    rw [ih (fun p hp => h p (by omega)), cmT_cg n (fun p hp => h p (by omega))]
theorem CsS_up {N R : Nat} {G pd S : Nat → Int32} {i p : Nat} {σ : zSto} (hip : i ≤ p) (h : ∀ j, i ≤ j → j < p → S (40 + j) = -1) (T : CsS N R G pd S i σ) : CsS N R G pd S p σ := by
  obtain ⟨s0, s1, s2, s3, s4, s5, s6, s7, s8, s9⟩ := T
  have y8 := scT_up (S := S) (N := i) (p - i) (fun j a b => h j a (by omega))
  have y9 := bsT_up (b := G 5) (S := S) (N := i) (p - i) (fun j a b => h j a (by omega))
  rw [show i + (p - i) = p by omega] at y8 y9
  exact ⟨s0, s1, s2, s3, s4, s5, s6, s7, by rw [s8, y8], by rw [s9, y9]⟩
theorem f_X5_canPullG {t N R : Nat} {G pd S : Nat → Int32} {σ : zSto} (L : LnR t G σ) (hN : ti (G 0) = (N : Int)) (hN1 : 1 ≤ N) (hN16 : N ≤ 16) (hR : ti (G 1) = (R : Int)) (hR6 : R ≤ 6) (hT : TkI R G S) (a2 a3 : Int32) (h2 : 0 ≤ ti a2) (h3 : 0 ≤ ti a3) (h4 : ∀ r, r < R → σ.1 194 r = rdG G r 2 - S (10 + r)) (h5 : ∀ (p : Nat), ti a2 = (p : Int) → p + 1 < N → σ.1 192 p = pd p) {P : Int32 → zSto → Prop} (hP : ∀ x, (¬ x = 0 ↔ (ti a2 + 1 < (N : Int) ∧ ti a3 < (R : Int) ∧ ¬ Int32.ofNat a2.toNatClampNeg < rdG G a3.toNatClampNeg 0 ∧ ¬ rdG G a3.toNatClampNeg 1 ≤ Int32.ofNat a2.toNatClampNeg ∧ ¬ rdG G a3.toNatClampNeg 2 ≤ S (10 + a3.toNatClampNeg) ∧ ¬ pd a2.toNatClampNeg ≤ 0)) → P x σ) : w_X5_canPull t a2 a3 σ P := by
  have l0 := lit_0
  have l1 := lit_1
  have tn2 := tn_eq a2
  have tn3 := tn_eq a3
  by_cases c2 : ti a2 + 1 < (N : Int)
  · by_cases c3 : ti a3 < (R : Int)
    · refine f_X5_canPull L hN hN16 hR hR6 hT a2 a3 (p := a2.toNatClampNeg) (r := a3.toNatClampNeg) (by omega) (by omega) (by omega) (by omega) (h4 a3.toNatClampNeg (by omega)) (h5 a2.toNatClampNeg (by omega) (by omega)) (fun x z => hP x ⟨fun y => ⟨c2, c3, z.mp y⟩, fun y => z.mpr y.2.2⟩)
    · have e12 : ti (σ.1 t 12) = (R : Int) := by rw [L.1 1 (by omega)]; exact hR
      have no := hP 0 ⟨fun y => absurd rfl y, fun y => absurd y.2.1 c3⟩
      unfold w_X5_canPull
      exact ⟨fun _ => no, fun _ => ⟨fun _ => no, fun _ => f_X0_hasRider t a3 (fun x z => fun _ => ⟨fun _ => no, fun q => absurd (z.mp q) (by omega)⟩)⟩⟩
  · have e11 : ti (σ.1 t 11) = (N : Int) := by rw [L.1 0 (by omega)]; exact hN
    have ts := tsub (x := σ.1 t 11) (y := (1 : Int32)) (by omega)
    have no := hP 0 ⟨fun y => absurd rfl y, fun y => absurd y.1 c2⟩
    unfold w_X5_canPull
    exact ⟨fun _ => no, fun _ => ⟨fun _ => no, fun q => by have := nle_t q; omega⟩⟩
/-- what a PLAN tells -/
def PnA (M : Nat) (pf rf : Nat → Int32) : Prop := M ≤ 16 ∧ ∀ k, k < M → (0 ≤ ti (pf k) ∧ ti (pf k) ≤ 15) ∧ (0 ≤ ti (rf k) ∧ ti (rf k) ≤ 5)
set_option maxHeartbeats 8000000 in
theorem f_X5_byPlan {t q2 N R M : Nat} {G pf rf : Nat → Int32} {C : Nat → Bool} (ht : okT t) (hq2 : q2 + 3 ≤ 190) {σ : zSto} (L : LnR t G σ) (hN : ti (G 0) = (N : Int)) (hN1 : 1 ≤ N) (hN16 : N ≤ 16) (hR : ti (G 1) = (R : Int)) (hR6 : R ≤ 6) (pn : PnA M pf rf) (a3 : Int32) (hq : ti (σ.1 q2 2) = (M : Int) ∧ ∀ k, k < M → σ.1 (q2 + 1) k = pf k ∧ σ.1 (q2 + 2) k = rf k) (hC : ∀ k, k < M → (C k = true ↔ cnQ N R G (fun p => pdI G p a3) pf rf (PlS (csI G) (fun p => pdI G p a3) (rdG G) pf rf k) k)) {P : Int32 → zSto → Prop} (hP : ∀ σ2 S i, FrC σ σ2 → EqS S (PlS (csI G) (fun p => pdI G p a3) (rdG G) pf rf (dnF C M)) → CsS N R G (fun p => pdI G p a3) S i σ2 → P (Int32.ofNat (dnF C M)) σ2) : w_X5_byPlan t q2 a3 σ P := by
  have l0 := lit_0
  have l1 := lit_1
  have lm := lit_m1
  obtain ⟨pd, hpd⟩ : ∃ pd : Nat → Int32, pd = fun p => pdI G p a3 := ⟨_, rfl⟩
  obtain ⟨Q, hQ⟩ : ∃ Q : Nat → Nat → Int32, Q = PlS (csI G) pd (rdG G) pf rf := ⟨_, rfl⟩
  have Qs : ∀ k, Q (k + 1) = pll (csI G) pd (rdG G) (pf k).toNatClampNeg (rf k) (Q k) := fun k => by rw [hQ]; rfl
  rw [← hpd] at hC hP
  rw [← hQ] at hC hP
  have M16 := pn.1
  have go : ∀ (n k i : Nat) (x_4 x_5 : Int32) (σ3 : zSto) (S : Nat → Int32), FrC σ σ3 → ti x_5 = (k : Int) → k ≤ M → (∀ j, j < k → C j = true) → i ≤ N → ti x_4 + 1 = (i : Int) → (0 < k → x_4 = pf (k - 1)) → (k = 0 → i = 0) → EqS S (Q k) → CsS N R G pd S i σ3 → TkI R G S → (∀ p, i ≤ p → p < 16 → S (40 + p) = -1 ∧ S (60 + p) = 0) → M - k < n → w_X5_byPlan_12 t q2 P n x_4 x_5 σ3 := by
    intro n
    induction n with
    | zero => intro k i x_4 x_5 σ3 S _ _ _ _ _ _ _ _ _ _ _ _ h; omega
    | succ n ih =>
      intro k i x_4 x_5 σ3 S fr hk hkM hCk hiN hx4 hpv hk0 hE T hT hu hn
      have e5 := nI_x hk (by omega)
      have sz : ti (σ3.1 q2 2) = (M : Int) := by rw [fr q2 2 (by omega)]; exact hq.1
      unfold w_X5_byPlan_12
      refine ⟨fun q => ?_, fun q => ?_⟩
      · have c := le_t q
        have e : k = M := by omega
        subst e
        have dk := dn_a (C := C) k hCk
        have es : σ3.1 q2 2 = Int32.ofNat k := t_inj (by rw [sz]; exact (nI_t (by omega)).symm)
        rw [es]
        rw [dk] at hP
        exact hP σ3 S i fr hE T
      · have c := nle_t q
        have kM : k < M := by omega
        have tx := tadd (x := x_5) (y := (1 : Int32)) (by omega)
        have tn := tn_eq x_5
        obtain ⟨⟨p0, p1⟩, r0, r1⟩ := pn.2 k kM
        have tnp := tn_eq (pf k)
        have tnr := tn_eq (rf k)
        have stop : ¬ C k = true → P x_5 σ3 := fun nC => by
          have dk := dn_s (dn_a (C := C) k hCk) nC (M - k)
          rw [show k + (M - k) = M by omega] at dk
          rw [dk] at hP
          rw [e5]
          exact hP σ3 S i fr hE T
        rw [show x_5.toNatClampNeg = k by omega, fr (q2 + 1) k (by omega), fr (q2 + 2) k (by omega), (hq.2 k kM).1, (hq.2 k kM).2]
        refine ⟨vin (by omega), fun x3 e3 => ⟨vin (by omega), fun x5 e5' => ?_⟩⟩
        subst e3
        subst e5'
        have L3 := LnR_C ht L fr
        refine ⟨fun q3 => stop (fun y => ?_), fun q3 => ?_⟩
        · have w := ((hC k kM).mp y).1
          have := le_t q3
          by_cases k0 : 0 < k
          · have w2 := w k0
            rw [hpv k0] at this
            omega
          · have k1 := hk0 (by omega)
            omega
        · have c3 := nle_t q3
          refine f_X5_canPullG (pd := pd) L3 hN hN1 hN16 hR hR6 hT (pf k) (rf k) p0 r0 (fun r hr => (T.2.2.2.2.1 r hr).1) (fun p hp hp1 => ?_) (fun x z => fun _ => ⟨fun q7 => ?_, fun q7 => stop (fun y => ?_)⟩)
          · rw [(T.2.2.2.2.2.2.1 p (by omega)).2, (hu p (by omega) (by omega)).2, Int32.sub_zero]
          · have w := z.mp q7
            have Ck : C k = true := (hC k kM).mpr ((cnQ_eq hE r1).mp ⟨fun k0 => by rw [← hpv k0]; exact c3, w⟩)
            have er : rf k = Int32.ofNat (rf k).toNatClampNeg := nI_x (by omega) (by omega)
            have ir : i ≤ (pf k).toNatClampNeg := by omega
            refine f_X5_stopAt ht L3 hN hN16 hR6 (p := (pf k).toNatClampNeg) (CsS_up ir (fun j a b => (hu j a (by omega)).1) T) (pf k) (rf k) (by omega) (by omega) er (by omega) (hu _ (by omega) (by omega)).2 (fun σ8 f8 T8 => fun x9 e9 => ?_)
            have f := eq_t e9
            refine ih (k + 1) ((pf k).toNatClampNeg + 1) (pf k) x9 σ8 _ (fr.tr f8) (by omega) (by omega) (fun j hj => ?_) (by omega) (by omega) (fun _ => rfl) (fun z => absurd z (Nat.succ_ne_zero k)) ?_ T8 ?_ (fun p hp hp16 => ?_) (by omega)
            · by_cases d : j = k
              · subst d; exact Ck
              · exact hCk j (by omega)
            · rw [Qs]
              exact pll_eq hE ⟨_, by omega, er⟩
            · exact TkI_p hR6 hT (Or.inr ⟨_, by omega, er, w.2.2.2.2.2, w.2.2.2.2.1⟩)
            · rw [pll_q (Or.inr ⟨_, by omega, er⟩) (by omega) (by omega) (Or.inl (by omega)), pll_q (Or.inr ⟨_, by omega, er⟩) (by omega) (by omega) (Or.inl (by omega))]
              exact hu p (by omega) hp16
          · have w := (cnQ_eq hE r1).mpr ((hC k kM).mp y)
            exact absurd q7 (z.mpr w.2)
  unfold w_X5_byPlan w_X5_begin
  refine ⟨100, f_begin_2 (σ0 := σ) ht hR6 hR hN hN16 a3 L (fun σ1 f1 T1 => ?_) 100 0 (0 : Int32) σ lit_0 (by omega) (fun _ _ _ _ => rfl) (fun p hp => absurd hp (Nat.not_lt_zero p)) (by omega)⟩
  have T0 := T1 (upI (S0n 0) 2 (σ.1 190 5)) (fun s hs => upI_q hs) upI_s
  rw [← hpd] at T0
  refine ⟨100, go 100 0 0 (-1 : Int32) (0 : Int32) σ1 (upI (S0n 0) 2 (σ.1 190 5)) f1 lit_0 (by omega) (fun j hj => absurd hj (Nat.not_lt_zero j)) (by omega) (by omega) (fun z => absurd z (by decide)) (fun _ => rfl) (fun j h2 _ => by rw [upI_q h2, hQ]; rfl) T0 (fun r hr => ?_) (fun p _ hp => ?_) (by omega)⟩
  · rw [upI_q (by omega)]
    exact TkI_0 (G := G) hR6 r hr
  · rw [upI_q (by omega), upI_q (by omega)]
    unfold S0n
    rw [if_neg (by omega), if_pos (by omega), if_neg (by omega), if_neg (by omega)]
    exact ⟨rfl, rfl⟩
/-! the reference's RUN by a PLAN -/
theorem f_pulls {m : Nat} (hm : m < 2) {σ : zSto} (h46 : ti (σ.1 223 46) = (m : Int)) {P : Int32 → zSto → Prop} (hP : P (σ.1 230 (33 * m)) σ) : w_X10_pulls σ P := by
  have mm := tmull (x := (33 : Int32)) (y := σ.1 223 46) 33 lit_33 (by omega)
  have n := tn_eq ((33 : Int32) * σ.1 223 46)
  unfold w_X10_pulls
  rw [show ((33 : Int32) * σ.1 223 46).toNatClampNeg = 33 * m by omega]
  exact ⟨vin (by omega), hP⟩
theorem f_pullOf {m : Nat} (hm : m < 2) {σ : zSto} (h46 : ti (σ.1 223 46) = (m : Int)) (a1 a2 : Int32) {k c : Nat} (h1 : ti a1 = (k : Int)) (hk : k < 16) (h2 : ti a2 = (c : Int)) (hc : c < 2) {P : Int32 → zSto → Prop} (hP : P (σ.1 230 (33 * m + (1 + 2 * k + c))) σ) : w_X10_pullOf a1 a2 σ P := by
  have l1 := lit_1
  have mm := tmull (x := (33 : Int32)) (y := σ.1 223 46) 33 lit_33 (by omega)
  have t1 := tadd (x := (33 : Int32) * σ.1 223 46) (y := (1 : Int32)) (by omega)
  have m2 := tmull (x := (2 : Int32)) (y := a1) 2 lit_2 (by omega)
  have t2 := tadd (x := (33 : Int32) * σ.1 223 46 + (1 : Int32)) (y := (2 : Int32) * a1) (by omega)
  have t3 := tadd (x := (33 : Int32) * σ.1 223 46 + (1 : Int32) + (2 : Int32) * a1) (y := a2) (by omega)
  have n3 := tn_eq ((33 : Int32) * σ.1 223 46 + (1 : Int32) + (2 : Int32) * a1 + a2)
  unfold w_X10_pullOf
  rw [show ((33 : Int32) * σ.1 223 46 + (1 : Int32) + (2 : Int32) * a1 + a2).toNatClampNeg = 33 * m + (1 + 2 * k + c) by omega]
  exact ⟨vin (by omega), hP⟩
set_option maxHeartbeats 8000000 in
theorem f_pullsAi {l R N : Nat} {G cs pd S : Nat → Int32} {σ : zSto} (X : RfX l R N G cs pd σ) {p i0 : Nat} (hpi : p < i0 ∧ i0 ≤ N) (T : RfS S i0 σ) (a1 a2 : Int32) (h1 : ti a1 = (p : Int)) (hp : p < N) (h2 : a2 = -1 ∨ ∃ r, r < 6 ∧ a2 = Int32.ofNat r) {P : zSto → Prop} (hP : ∀ σ2, FrG σ σ2 → RfS (pll cs pd (rdG G) p a2 S) i0 σ2 → P σ2) : w_X10_pullsAt a1 a2 σ P := by
  have N16 := X.2.2.2.2.2.2.1
  have t1 := tn_eq a1
  have n1 : a1.toNatClampNeg = p := by omega
  obtain ⟨c1, c2, _⟩ := X.2.2.2.2.2.2.2.2.2 p hp
  obtain ⟨s0, s1, s2, s3, s4⟩ := T
  unfold w_X10_pullsAt
  rw [n1]
  refine ⟨vin (by omega), fun σ2 e2 => ⟨vin (by omega), fun σ4 e4 => ⟨fun q => ?_, fun q => ?_⟩⟩⟩
  · obtain ⟨r, hr, er⟩ : ∃ r, r < 6 ∧ a2 = Int32.ofNat r := by
      rcases h2 with h2 | h2
      · exact absurd h2 q
      · exact h2
    have ta : ti a2 = (r : Int) := by rw [er]; exact nI_t (by omega)
    have n2 : a2.toNatClampNeg = r := by rw [er]; exact ofNat_c (by omega)
    have X4 : RfX l R N G cs pd σ4 := RfX_fr X (fun j a b => by rw [zI_q' e4 (by omega), zI_q' e2 (by omega)]) (fun k j z => by rw [zI_q' e4 (by omega), zI_q' e2 (by omega)])
    have u4 : ∀ k j, k ≠ 240 → k ≠ 242 → σ4.1 k j = σ.1 k j := fun k j a b => by rw [zI_q' e4 (by omega), zI_q' e2 (by omega)]
    obtain ⟨r1, r2, r3⟩ := s3 r hr
    have hv : vp_nar .boolean (1 : Int32) = 1 := by decide
    rw [n2]
    refine f_rdOf (c := 2) X4 _ _ ta hr lit_2 (by omega) ⟨vin (by omega), fun x8 e8 => ⟨vin (by omega), ?_⟩⟩
    rw [u4 241 r (by omega) (by omega), r1] at e8
    rw [u4 238 p (by omega) (by omega), c2]
    have fin : ∀ (v : Int32) (σ12 σ14 σ17 σ18 σ20 σ22 : zSto), v = tkn (pd p) (rdG G r 2 - S (10 + r)) → σ12 = zI σ4 241 r (σ4.1 241 r + v) → σ14 = zI σ12 242 p v → σ17 = zI σ14 243 r (σ14.1 243 r + (v - (v / (3 : Int32)))) → σ18 = zI σ17 223 32 (σ17.1 223 32 + (v / (3 : Int32))) → σ20 = zI σ18 244 r (vp_nar .boolean (1 : Int32)) → σ22 = zI σ20 223 31 (σ20.1 223 31 + σ20.1 237 p) → P σ22 := by
      intro v σ12 σ14 σ17 σ18 σ20 σ22 ev e12 e14 e17 e18 e20 e22
      rw [hv] at e20
      rw [u4 241 r (by omega) (by omega), r1] at e12
      rw [zI_q' e14 (by omega), zI_q' e12 (by omega), u4 243 r (by omega) (by omega), r2] at e17
      rw [zI_q' e17 (by omega), zI_q' e14 (by omega), zI_q' e12 (by omega), u4 223 32 (by omega) (by omega), s1] at e18
      rw [zI_q' e20 (by omega), zI_q' e18 (by omega), zI_q' e17 (by omega), zI_q' e14 (by omega), zI_q' e12 (by omega), u4 223 31 (by omega) (by omega), s0, zI_q' e20 (by omega), zI_q' e18 (by omega), zI_q' e17 (by omega), zI_q' e14 (by omega), zI_q' e12 (by omega), u4 237 p (by omega) (by omega), c1] at e22
      have ep : pll cs pd (rdG G) p a2 S = upI (upI (upI (upI (upI (upI (upI (upI S (40 + p) a2) (60 + p) v) (10 + r) (S (10 + r) + v)) (20 + r) (S (20 + r) + (v - v / (3 : Int32)))) 1 (S 1 + v / (3 : Int32))) (30 + r) 1) 0 (S 0 + cs p)) 3 (S 3 + v) := by
        unfold pll
        rw [if_neg q, n2, ← ev]
      rw [ep] at hP
      refine hP σ22 ⟨fun k j x y => ?_, fun j x => ?_⟩ ⟨?_, ?_, ?_, fun r' hr' => ⟨?_, ?_, ?_⟩, fun p' hp' => ⟨?_, ?_⟩⟩
      · rw [zI_q' e22 (by omega), zI_q' e20 (by omega), zI_q' e18 (by omega), zI_q' e17 (by omega), zI_q' e14 (by omega), zI_q' e12 (by omega), u4 k j (by omega) (by omega)]
      · rw [zI_q' e22 (by omega), zI_q' e20 (by omega), zI_q' e18 (by omega), zI_q' e17 (by omega), zI_q' e14 (by omega), zI_q' e12 (by omega), u4 223 j (by omega) (by omega)]
      · rw [e22, zI_s, upI_q (by omega), upI_s]
      · rw [zI_q' e22 (by omega), zI_q' e20 (by omega), e18, zI_s, upI_q (by omega), upI_q (by omega), upI_q (by omega), upI_s]
      · rw [zI_q' e22 (by omega), zI_q' e20 (by omega), zI_q' e18 (by omega), zI_q' e17 (by omega), zI_q' e14 (by omega), zI_q' e12 (by omega), u4 223 30 (by omega) (by omega), s2, upI_q (by omega), upI_q (by omega), upI_q (by omega), upI_q (by omega), upI_q (by omega), upI_q (by omega), upI_q (by omega), upI_q (by omega)]
      · rw [zI_q' e22 (by omega), zI_q' e20 (by omega), zI_q' e18 (by omega), zI_q' e17 (by omega), zI_q' e14 (by omega), upI_q (by omega), upI_q (by omega), upI_q (by omega), upI_q (by omega), upI_q (by omega)]
        by_cases c : r' = r
        · subst c; rw [e12, zI_s, upI_s]
        · rw [zI_q' e12 (by omega), u4 241 r' (by omega) (by omega), (s3 r' hr').1, upI_q (by omega), upI_q (by omega), upI_q (by omega)]
      · rw [zI_q' e22 (by omega), zI_q' e20 (by omega), zI_q' e18 (by omega), upI_q (by omega), upI_q (by omega), upI_q (by omega), upI_q (by omega)]
        by_cases c : r' = r
        · subst c; rw [e17, zI_s, upI_s]
        · rw [zI_q' e17 (by omega), zI_q' e14 (by omega), zI_q' e12 (by omega), u4 243 r' (by omega) (by omega), (s3 r' hr').2.1, upI_q (by omega), upI_q (by omega), upI_q (by omega), upI_q (by omega)]
      · rw [zI_q' e22 (by omega), upI_q (by omega), upI_q (by omega)]
        by_cases c : r' = r
        · subst c; rw [e20, zI_s, upI_s]
        · rw [zI_q' e20 (by omega), zI_q' e18 (by omega), zI_q' e17 (by omega), zI_q' e14 (by omega), zI_q' e12 (by omega), u4 244 r' (by omega) (by omega), (s3 r' hr').2.2, upI_q (by omega), upI_q (by omega), upI_q (by omega), upI_q (by omega), upI_q (by omega), upI_q (by omega)]
      · rw [zI_q' e22 (by omega), zI_q' e20 (by omega), zI_q' e18 (by omega), zI_q' e17 (by omega), zI_q' e14 (by omega), zI_q' e12 (by omega), upI_q (by omega), upI_q (by omega), upI_q (by omega), upI_q (by omega), upI_q (by omega), upI_q (by omega), upI_q (by omega), zI_q' e4 (by omega)]
        by_cases c : p' = p
        · subst c; rw [e2, zI_s, upI_s]
        · rw [zI_q' e2 (by omega), (s4 p' (by omega)).1, upI_q (by omega)]
      · rw [zI_q' e22 (by omega), zI_q' e20 (by omega), zI_q' e18 (by omega), zI_q' e17 (by omega), upI_q (by omega), upI_q (by omega), upI_q (by omega), upI_q (by omega), upI_q (by omega), upI_q (by omega)]
        by_cases c : p' = p
        · subst c; rw [e14, zI_s, upI_s]
        · rw [zI_q' e14 (by omega), zI_q' e12 (by omega), zI_q' e4 (by omega), zI_q' e2 (by omega), (s4 p' (by omega)).2, upI_q (by omega), upI_q (by omega)]
    refine ⟨fun k => ⟨vin (by omega), vin (by omega), fun σ12 e12 => ⟨vin (by omega), fun σ14 e14 => ⟨vin (by omega), vin (by omega), fun σ17 e17 σ18 e18 => ⟨vin (by omega), fun σ20 e20 => ⟨vin (by omega), fun σ22 e22 => fin x8 σ12 σ14 σ17 σ18 σ20 σ22 ?_ e12 e14 e17 e18 e20 e22⟩⟩⟩⟩⟩, fun k => ⟨vin (by omega), fun x24 e24 => ⟨vin (by omega), vin (by omega), fun σ12 e12 => ⟨vin (by omega), fun σ14 e14 => ⟨vin (by omega), vin (by omega), fun σ17 e17 σ18 e18 => ⟨vin (by omega), fun σ20 e20 => ⟨vin (by omega), fun σ22 e22 => fin x24 σ12 σ14 σ17 σ18 σ20 σ22 ?_ e12 e14 e17 e18 e20 e22⟩⟩⟩⟩⟩⟩⟩
    · rw [← e8]
      unfold tkn
      rw [if_pos k]
    · rw [← e8, e24]
      unfold tkn
      rw [if_neg k]
  · refine hP σ4 ⟨fun k j x y => by rw [zI_q' e4 (by omega), zI_q' e2 (by omega)], fun j x => by rw [zI_q' e4 (by omega), zI_q' e2 (by omega)]⟩ ?_
    have ep : pll cs pd (rdG G) p a2 S = upI (upI S (40 + p) (-1)) (60 + p) 0 := by
      unfold pll
      rw [if_pos q]
    rw [ep]
    refine ⟨?_, ?_, ?_, fun r' hr' => ⟨?_, ?_, ?_⟩, fun p' hp' => ⟨?_, ?_⟩⟩
    · rw [zI_q' e4 (by omega), zI_q' e2 (by omega), s0, upI_q (by omega), upI_q (by omega)]
    · rw [zI_q' e4 (by omega), zI_q' e2 (by omega), s1, upI_q (by omega), upI_q (by omega)]
    · rw [zI_q' e4 (by omega), zI_q' e2 (by omega), s2, upI_q (by omega), upI_q (by omega)]
    · rw [zI_q' e4 (by omega), zI_q' e2 (by omega), (s3 r' hr').1, upI_q (by omega), upI_q (by omega)]
    · rw [zI_q' e4 (by omega), zI_q' e2 (by omega), (s3 r' hr').2.1, upI_q (by omega), upI_q (by omega)]
    · rw [zI_q' e4 (by omega), zI_q' e2 (by omega), (s3 r' hr').2.2, upI_q (by omega), upI_q (by omega)]
    · rw [zI_q' e4 (by omega), upI_q (by omega)]
      by_cases c : p' = p
      · subst c; rw [e2, zI_s, upI_s]; exact q
      · rw [zI_q' e2 (by omega), (s4 p' (by omega)).1, upI_q (by omega)]
    · by_cases c : p' = p
      · subst c; rw [e4, zI_s, upI_s]
      · rw [zI_q' e4 (by omega), zI_q' e2 (by omega), (s4 p' (by omega)).2, upI_q (by omega), upI_q (by omega)]
set_option maxHeartbeats 8000000 in
theorem f_X10_canPull {l R N m M : Nat} {G cs pd pf rf S : Nat → Int32} {σ : zSto} (X : RfX l R N G cs pd σ) (hm : m < 2) (h46 : ti (σ.1 223 46) = (m : Int)) (hpr : ∀ k, k < M → σ.1 230 (33 * m + (1 + 2 * k + 0)) = pf k ∧ σ.1 230 (33 * m + (1 + 2 * k + 1)) = rf k) (pn : PnA M pf rf) (h41 : ∀ r, r < 6 → σ.1 241 r = S (10 + r)) (a1 : Int32) {k : Nat} (h1 : ti a1 = (k : Int)) (hk : k < M) {P : Int32 → zSto → Prop} (hP : ∀ x, (¬ x = 0 ↔ cnQ N R G pd pf rf S k) → P x σ) : w_X10_canPull a1 σ P := by
  have l0 := lit_0
  have l1 := lit_1
  have M16 := pn.1
  have h25 := X.2.2.2.1
  have h26 := X.2.2.2.2.1
  have R6 := X.2.2.2.2.2.2.2.1
  have N16 := X.2.2.2.2.2.2.1
  obtain ⟨⟨p0, p1⟩, r0, r1⟩ := pn.2 k hk
  have tnp := tn_eq (pf k)
  have tnr := tn_eq (rf k)
  have ep : pf k = Int32.ofNat (pf k).toNatClampNeg := nI_x (by omega) (by omega)
  have no : ¬ cnQ N R G pd pf rf S k → P 0 σ := fun z => hP 0 ⟨fun y => absurd rfl y, fun y => absurd y z⟩
  have rest : ti (pf k) + 1 < (N : Int) → (0 < k → ti (pf (k - 1)) < ti (pf k)) → (w_X10_isRider (rf k) σ (fun (r6 : Int32) (σ5 : zSto) => (r6 = 0 ∨ r6 = 1) → ((r6 = 0 → P (0 : Int32) σ5) ∧ (¬ r6 = 0 → (w_X10_isOn (rf k) (pf k) σ5 (fun (r8 : Int32) (σ7 : zSto) => (r8 = 0 ∨ r8 = 1) → ((r8 = 0 → P (0 : Int32) σ7) ∧ (¬ r8 = 0 → (vp_in (rf k) 6 ∧ (w_X10_riderOf (rf k) (2 : Int32) σ7 (fun (r11 : Int32) (σ10 : zSto) => ((r11 ≤ (σ7.1 241 (rf k).toNatClampNeg) → P (0 : Int32) σ10) ∧ (¬ r11 ≤ (σ7.1 241 (rf k).toNatClampNeg) → (vp_in (pf k) 16 ∧ (((σ10.1 238 (pf k).toNatClampNeg) ≤ 0 → P (0 : Int32) σ10) ∧ (¬ (σ10.1 238 (pf k).toNatClampNeg) ≤ 0 → P (1 : Int32) σ10)))))))))))))))) := fun w1 w2 => by
    refine f_X10_isRider (rf k) (by omega) (fun r6 z6 => fun _ => ⟨fun q => no (fun y => z6.mpr ⟨r0, by have := y.2.2.1; omega⟩ q), fun q => ?_⟩)
    have y6 := z6.mp q
    refine f_X10_isOn X (rf k) (pf k) (r := (rf k).toNatClampNeg) (by omega) (by omega) ep (fun r8 z8 => fun _ => ⟨fun q8 => no (fun y => z8.mpr ⟨y.2.2.2.1, y.2.2.2.2.1⟩ q8), fun q8 => ⟨vin (by omega), ?_⟩⟩)
    have y8 := z8.mp q8
    refine f_rdOf (c := 2) X _ _ (r := (rf k).toNatClampNeg) (by omega) (by omega) lit_2 (by omega) ?_
    rw [h41 _ (by omega), (X.2.2.2.2.2.2.2.2.2 (pf k).toNatClampNeg (by omega)).2.1]
    exact ⟨fun q11 => no (fun y => y.2.2.2.2.2.1 q11), fun q11 => ⟨vin (by omega), fun q12 => no (fun y => y.2.2.2.2.2.2 q12), fun q12 => hP 1 ⟨fun _ => ⟨w2, w1, by omega, y8.1, y8.2, q11, q12⟩, fun _ => by decide⟩⟩⟩
  unfold w_X10_canPull
  refine f_pullOf (k := k) (c := 0) hm h46 _ _ h1 (by omega) lit_0 (by omega) ?_
  refine f_pullOf (k := k) (c := 1) hm h46 _ _ h1 (by omega) lit_1 (by omega) ?_
  rw [(hpr k hk).1, (hpr k hk).2]
  refine ⟨fun q => no (fun y => by have := le_t q; have := y.2.1; omega), fun q => ?_⟩
  have c := nle_t q
  refine ⟨fun q2 => rest (by omega) (fun k0 => by have := le_t q2; omega), fun q2 => ?_⟩
  have c2 := nle_t q2
  have ts := tsub (x := a1) (y := (1 : Int32)) (by omega)
  refine f_pullOf (k := k - 1) (c := 0) hm h46 _ _ (by omega) (by omega) lit_0 (by omega) ?_
  rw [(hpr (k - 1) (by omega)).1]
  exact ⟨fun q3 => rest (by omega) (fun _ => lt_t q3), fun q3 => no (fun y => by have := nlt_t q3; have := y.1 (by omega); omega)⟩
set_option maxHeartbeats 8000000 in
theorem f_X10_doPlan {l R N m M : Nat} {G pd pf rf : Nat → Int32} {C : Nat → Bool} {σ : zSto} (X : RfX l R N G (csI G) pd σ) (hm : m < 2) (h46 : ti (σ.1 223 46) = (m : Int)) (hsz : ti (σ.1 230 (33 * m)) = (M : Int)) (hpr : ∀ k, k < M → σ.1 230 (33 * m + (1 + 2 * k + 0)) = pf k ∧ σ.1 230 (33 * m + (1 + 2 * k + 1)) = rf k) (pn : PnA M pf rf) (hC : ∀ k, k < M → (C k = true ↔ cnQ N R G pd pf rf (PlS (csI G) pd (rdG G) pf rf k) k)) {P : Int32 → zSto → Prop} (hP : ∀ σ2 S, RfX l R N G (csI G) pd σ2 → EqS S (PlS (csI G) pd (rdG G) pf rf (dnF C M)) → RfS S N σ2 → smT (fun r => S (10 + r)) R = S 3 → σ2.1 223 33 = fiT G (csI G) S N → P (Int32.ofNat (dnF C M)) σ2) : w_X10_doPlan σ P := by
  have l0 := lit_0
  have l1 := lit_1
  have M16 := pn.1
  have N1 := X.2.2.2.2.2.1
  have N16 := X.2.2.2.2.2.2.1
  have R6 := X.2.2.2.2.2.2.2.1
  obtain ⟨Q, hQ⟩ : ∃ Q : Nat → Nat → Int32, Q = PlS (csI G) pd (rdG G) pf rf := ⟨_, rfl⟩
  have Qs : ∀ k, Q (k + 1) = pll (csI G) pd (rdG G) (pf k).toNatClampNeg (rf k) (Q k) := fun k => by rw [hQ]; rfl
  rw [← hQ] at hC hP
  have go2 : ∀ (n k : Nat) (x_1 : Int32) (σ3 : zSto) (S : Nat → Int32), FrG σ σ3 → ti x_1 = (k : Int) → k ≤ M → (∀ j, j < k → C j = true) → EqS S (Q k) → RfS S N σ3 → smT (fun r => S (10 + r)) R = S 3 → M - k < n → w_X10_doPlan_29 P n x_1 σ3 := by
    intro n
    induction n with
    | zero => intro k x_1 σ3 S _ _ _ _ _ _ _ h; omega
    | succ n ih =>
      intro k x_1 σ3 S fr hk hkM hCk hE T hg hn
      have e1 := nI_x hk (by omega)
      have X3 := FrG_X X fr
      have g46 : ti (σ3.1 223 46) = (m : Int) := by rw [fr.2 46 (by omega)]; exact h46
      have gpr : ∀ j, σ3.1 230 j = σ.1 230 j := fun j => fr.1 230 j (by omega) (by omega)
      have fin : dnF C M = k → w_X10_timesBy σ3 (fun (σ4 : zSto) => P x_1 σ4) := fun dk => by
        rw [dk] at hP
        unfold w_X10_timesBy
        intro σa ea σb eb
        have ub : ∀ k j, ¬ (k = 223 ∧ (j = 33 ∨ j = 34)) → σb.1 k j = σ3.1 k j := fun k j h => by rw [zI_q' eb (by omega), zI_q' ea (by omega)]
        have Xb : RfX l R N G (csI G) pd σb := RfX_fr X3 (fun j a b => ub 223 j (by omega)) (fun k j z => ub k j (by omega))
        obtain ⟨p0, p1, p2, p3, p4⟩ := T
        refine ⟨100, f_timesBy_16 (S := S) Xb (fun p hp => by rw [ub 240 p (by omega)]; exact (p4 p hp).1) (fun σ7 h7 => ?_) 100 0 (0 : Int32) (0 : Int32) (0 : Int32) σb lit_0 (by omega) rfl rfl ⟨fun _ _ _ _ => rfl, by rw [zI_q' eb (by omega), ea, zI_s]; rfl, by rw [eb, zI_s]; rfl, fun p hp => absurd hp (Nat.not_lt_zero p)⟩ (by omega)⟩
        obtain ⟨f1, f2, f3, f4⟩ := h7
        have u7 : ∀ k j, k ≠ 239 → ¬ (k = 223 ∧ (j = 33 ∨ j = 34)) → σ7.1 k j = σ3.1 k j := fun k j a b => by rw [f1 k j a b, ub k j b]
        rw [e1]
        refine hP σ7 S (RfX_fr X3 (fun j a b => u7 223 j (by omega) (by omega)) (fun k j z => u7 k j (by omega) (by omega))) hE ⟨by rw [u7 223 31 (by omega) (by omega)]; exact p0, by rw [u7 223 32 (by omega) (by omega)]; exact p1, by rw [u7 223 30 (by omega) (by omega)]; exact p2, fun r hr => ?_, fun p hp => ?_⟩ hg f2
        · rw [u7 241 r (by omega) (by omega), u7 243 r (by omega) (by omega), u7 244 r (by omega) (by omega)]
          exact p3 r hr
        · rw [u7 240 p (by omega) (by omega), u7 242 p (by omega) (by omega)]
          exact p4 p hp
      unfold w_X10_doPlan_29
      refine f_pulls hm g46 ?_
      rw [gpr]
      refine ⟨fun q => ?_, fun q => ?_⟩
      · have c := le_t q
        have e : k = M := by omega
        exact fin (by rw [← e]; exact dn_a k hCk)
      · have c := nle_t q
        have kM : k < M := by omega
        have tx := tadd (x := x_1) (y := (1 : Int32)) (by omega)
        obtain ⟨⟨p0, p1⟩, r0, r1⟩ := pn.2 k kM
        have tnp := tn_eq (pf k)
        have tnr := tn_eq (rf k)
        refine f_X10_canPull (M := M) (pf := pf) (rf := rf) (S := S) X3 hm g46 (fun k hk => by rw [gpr, gpr]; exact hpr k hk) pn (fun r hr => (T.2.2.2.1 r hr).1) x_1 hk kM (fun x z => fun _ => ⟨fun q6 => fin ?_, fun q6 => ?_⟩)
        · have nC : ¬ C k = true := fun y => z.mpr ((cnQ_eq hE r1).mpr ((hC k kM).mp y)) q6
          have dk := dn_s (dn_a (C := C) k hCk) nC (M - k)
          rw [show k + (M - k) = M by omega] at dk
          exact dk
        · have w := z.mp q6
          have Ck : C k = true := (hC k kM).mpr ((cnQ_eq hE r1).mp w)
          have er : rf k = Int32.ofNat (rf k).toNatClampNeg := nI_x (by omega) (by omega)
          have w1 := w.2.1
          have w2 := w.2.2.1
          refine f_pullOf (k := k) (c := 0) hm g46 _ _ hk (by omega) lit_0 (by omega) ?_
          refine f_pullOf (k := k) (c := 1) hm g46 _ _ hk (by omega) lit_1 (by omega) ?_
          rw [gpr, gpr, (hpr k kM).1, (hpr k kM).2]
          refine f_pullsAi X3 (p := (pf k).toNatClampNeg) (i0 := N) (by omega) T (pf k) (rf k) (by omega) (by omega) (Or.inr ⟨_, by omega, er⟩) (fun σ12 f12 T12 => fun x13 e13 => ?_)
          have f := eq_t e13
          refine ih (k + 1) x13 σ12 _ (fr.tr f12) (by omega) (by omega) (fun j hj => ?_) ?_ T12 ?_ (by omega)
          · by_cases d : j = k
            · subst d; exact Ck
            · exact hCk j (by omega)
          · rw [Qs]
            exact pll_eq hE ⟨_, by omega, er⟩
          · exact gth_p R6 (Or.inr ⟨_, by omega, er⟩) hg
  have go1 : ∀ (n i : Nat) (x_1 : Int32) (σ3 : zSto), FrG σ σ3 → σ3.1 223 31 = 0 → σ3.1 223 32 = 0 → (∀ r, r < 6 → σ3.1 241 r = 0 ∧ σ3.1 243 r = 0 ∧ σ3.1 244 r = 0) → ti x_1 = (i : Int) → i ≤ N → (∀ p, p < i → σ3.1 240 p = -1) → N - i < n → w_X10_doPlan_6 P n x_1 σ3 := by
    intro n
    induction n with
    | zero => intro i x_1 σ3 _ _ _ _ _ _ _ h; omega
    | succ n ih =>
      intro i x_1 σ3 fr h31 h32 hz hi hiN h40 hn
      have h24 := (FrG_X X fr).2.2.1
      unfold w_X10_doPlan_6
      refine ⟨fun q => ?_, fun q => ?_⟩
      · have c := le_t q
        have e : i = N := by omega
        subst e
        refine ⟨100, go2 100 0 (0 : Int32) σ3 (fun s => if 60 ≤ s ∧ s < 76 then σ3.1 242 (s - 60) else if s = 2 then σ3.1 223 30 else S0n 0 s) fr lit_0 (by omega) (fun j hj => absurd hj (Nat.not_lt_zero j)) (fun j h2 h60 => ?_) ⟨?_, ?_, ?_, fun r hr => ?_, fun p hp => ?_⟩ ?_ (by omega)⟩
        · show (if 60 ≤ j ∧ j < 76 then σ3.1 242 (j - 60) else if j = 2 then σ3.1 223 30 else S0n 0 j) = Q 0 j
          rw [if_neg (by omega), if_neg h2, hQ]
          rfl
        · rw [h31]
          rfl
        · rw [h32]
          rfl
        · rfl
        · obtain ⟨a, b, d⟩ := hz r hr
          have y : ∀ s, s < 40 → s ≠ 2 → (if 60 ≤ s ∧ s < 76 then σ3.1 242 (s - 60) else if s = 2 then σ3.1 223 30 else S0n 0 s) = 0 := fun s hs h2 => by
            rw [if_neg (by omega), if_neg h2]
            unfold S0n
            rw [if_neg h2, if_neg (by omega)]
          show σ3.1 241 r = (if 60 ≤ 10 + r ∧ 10 + r < 76 then σ3.1 242 (10 + r - 60) else if 10 + r = 2 then σ3.1 223 30 else S0n 0 (10 + r)) ∧ σ3.1 243 r = (if 60 ≤ 20 + r ∧ 20 + r < 76 then σ3.1 242 (20 + r - 60) else if 20 + r = 2 then σ3.1 223 30 else S0n 0 (20 + r)) ∧ σ3.1 244 r = (if 60 ≤ 30 + r ∧ 30 + r < 76 then σ3.1 242 (30 + r - 60) else if 30 + r = 2 then σ3.1 223 30 else S0n 0 (30 + r))
          rw [a, b, d, y _ (by omega) (by omega), y _ (by omega) (by omega), y _ (by omega) (by omega)]
          exact ⟨rfl, rfl, rfl⟩
        · show σ3.1 240 p = (if 60 ≤ 40 + p ∧ 40 + p < 76 then σ3.1 242 (40 + p - 60) else if 40 + p = 2 then σ3.1 223 30 else S0n 0 (40 + p)) ∧ σ3.1 242 p = (if 60 ≤ 60 + p ∧ 60 + p < 76 then σ3.1 242 (60 + p - 60) else if 60 + p = 2 then σ3.1 223 30 else S0n 0 (60 + p))
          rw [h40 p hp, if_neg (by omega), if_neg (by omega), if_pos (by omega), show 60 + p - 60 = p by omega]
          unfold S0n
          rw [if_neg (by omega), if_pos (by omega)]
          exact ⟨rfl, rfl⟩
        · have y : ∀ k, k ≤ 6 → smT (fun r => if 60 ≤ 10 + r ∧ 10 + r < 76 then σ3.1 242 (10 + r - 60) else if 10 + r = 2 then σ3.1 223 30 else S0n 0 (10 + r)) k = 0 := by
            intro k
            induction k with
            | zero => intro _; rfl
            | succ k ih =>
              intro hk
              show smT (fun r => if 60 ≤ 10 + r ∧ 10 + r < 76 then σ3.1 242 (10 + r - 60) else if 10 + r = 2 then σ3.1 223 30 else S0n 0 (10 + r)) k + (if 60 ≤ 10 + k ∧ 10 + k < 76 then σ3.1 242 (10 + k - 60) else if 10 + k = 2 then σ3.1 223 30 else S0n 0 (10 + k)) = 0
              rw [ih (by omega), if_neg (by omega), if_neg (by omega)]
              unfold S0n
              rw [if_neg (by omega), if_neg (by omega)]
              rfl
          exact (y R R6).trans rfl
      · have c := nle_t q
        have tx := tadd (x := x_1) (y := (1 : Int32)) (by omega)
        have tn := tn_eq x_1
        rw [show x_1.toNatClampNeg = i by omega]
        refine ⟨vin (by omega), fun σ15 e15 x16 e16 => ?_⟩
        have f := eq_t e16
        refine ih (i + 1) x16 σ15 (fr.tr ⟨fun k j x y => zI_q' e15 (by omega), fun j x => zI_q' e15 (by omega)⟩) (by rw [zI_q' e15 (by omega)]; exact h31) (by rw [zI_q' e15 (by omega)]; exact h32) (fun r hr => by rw [zI_q' e15 (by omega), zI_q' e15 (by omega), zI_q' e15 (by omega)]; exact hz r hr) (by omega) (by omega) (fun p hp => ?_) (by omega)
        by_cases k : p = i
        · subst k
          rw [e15, zI_s]
        · rw [zI_q' e15 (by omega)]
          exact h40 p (by omega)
  unfold w_X10_doPlan w_X10_begin
  intro σ2 e2 σ3 e3
  have u : ∀ k j, ¬ (k = 223 ∧ (j = 31 ∨ j = 32)) → σ3.1 k j = σ.1 k j := fun k j h => by rw [zI_q' e3 (by omega), zI_q' e2 (by omega)]
  refine ⟨100, f_begin_12 (σ0 := σ3) (fun σ4 f4 z4 => ?_) 100 0 (0 : Int32) σ3 lit_0 (by omega) (fun _ _ _ _ _ => rfl) (fun r hr => absurd hr (Nat.not_lt_zero r)) (by omega)⟩
  exact ⟨100, go1 100 0 (0 : Int32) σ4 ⟨fun k j x y => by rw [f4 k j (by omega) (by omega) (by omega), u k j (by omega)], fun j x => by rw [f4 223 j (by omega) (by omega) (by omega), u 223 j (by omega)]⟩ (by rw [f4 223 31 (by omega) (by omega) (by omega), zI_q' e3 (by omega), e2, zI_s]) (by rw [f4 223 32 (by omega) (by omega) (by omega), e3, zI_s]) z4 lit_0 (by omega) (fun p hp => absurd hp (Nat.not_lt_zero p)) (by omega)⟩
