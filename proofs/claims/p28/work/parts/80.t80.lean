/-! ranges of a told LINE -/
theorem tl_rg {σ : zSto} (H : Lz σ) {l N R : Nat} {G : Nat → Int32} (tl : tlL σ l N R G) : (∀ s, s < 123 → LV (N : Int) (R : Int) 0 s → rlo s ≤ ti (G s) ∧ ti (G s) ≤ rhi 0 s) ∧ rlx (fun s => ti (G s)) := by
  obtain ⟨t1, t2, t3, t4, t5, t6, t7, t8, t9⟩ := tl
  have q1 := H.2.1
  have c0 : cv σ 1 0 l 0 = (N : Int) := by
    rw [← t4, ← t9.1 0 (by omega)]
    show ti (σ.1 (1 + 3 + 12 * l + (cK 0 - 172)) (cJ 0)) = _
    rw [show cK 0 = 172 by decide, show cJ 0 = 11 by decide, show 1 + 3 + 12 * l + (172 - 172) = 4 + 12 * l by omega]
  have c1 : cv σ 1 0 l 1 = (R : Int) := by
    rw [← t5, ← t9.1 1 (by omega)]
    show ti (σ.1 (1 + 3 + 12 * l + (cK 1 - 172)) (cJ 1)) = _
    rw [show cK 1 = 172 by decide, show cJ 1 = 12 by decide, show 1 + 3 + 12 * l + (172 - 172) = 4 + 12 * l by omega]
  have g : ∀ s, s < 123 → LV (N : Int) (R : Int) 0 s → cv σ 1 0 l s = ti (G s) ∧ rgo 0 s (cv σ 1 0 l s) := fun s hs hv => by
    have y := q1.2.2.2.2.2.1 0 l s (by omega) t1 t2 hs ⟨fun _ => by rw [c0, c1]; exact hv, fun z => absurd rfl z⟩
    refine ⟨?_, y.2⟩
    rw [y.1, t3 s]
    show ti (σ.1 229 (246 * 0 + 123 * l + s)) = _
    rw [show 246 * 0 + 123 * l + s = 123 * l + s by omega]
  refine ⟨fun s hs hv => ?_, ?_⟩
  · have y := g s hs hv
    rw [← y.1]
    exact y.2.1 rfl
  · have x := q1.2.2.2.2.2.2 l t1 t2
    refine ⟨?_, fun r hr hv => ?_⟩
    · show 2 ≤ ti (G 0)
      rw [← (g 0 (by omega) (by unfold LV; omega)).1]
      exact x.1
    · have hv' : (r : Int) < (R : Int) := by rw [← t5]; exact hv
      have y := x.2 r hr (by rw [c1]; exact hv')
      rw [(g (87 + 6 * r) (by omega) (by unfold LV; omega)).1, (g (87 + 6 * r + 1) (by omega) (by unfold LV; omega)).1, (g 0 (by omega) (by unfold LV; omega)).1] at y
      exact y
/-- the numbers of a LINE that runs rest on -/
def LnN (N R : Nat) (G : Nat → Int32) : Prop := N ≤ 16 ∧ R ≤ 6 ∧ (1 ≤ ti (G 2) ∧ ti (G 2) ≤ 9) ∧ (0 ≤ ti (G 3) ∧ ti (G 3) ≤ 9) ∧ (0 ≤ ti (G 4) ∧ ti (G 4) ≤ 60) ∧ (∀ p : Nat, p < N → (1 ≤ ti (G (7 + 5 * p)) ∧ ti (G (7 + 5 * p)) ≤ 30) ∧ (0 ≤ ti (G (7 + 5 * p + 1)) ∧ ti (G (7 + 5 * p + 1)) ≤ 3) ∧ (0 ≤ ti (G (7 + 5 * p + 2)) ∧ ti (G (7 + 5 * p + 2)) ≤ 30) ∧ (0 ≤ ti (G (7 + 5 * p + 3)) ∧ ti (G (7 + 5 * p + 3)) ≤ 10) ∧ (-1 ≤ ti (G (7 + 5 * p + 4)) ∧ ti (G (7 + 5 * p + 4)) ≤ 999)) ∧ (∀ r : Nat, r < R → 0 ≤ ti (rdG G r 0) ∧ ti (rdG G r 0) < ti (rdG G r 1) ∧ ti (rdG G r 1) < (N : Int) ∧ (1 ≤ ti (rdG G r 2) ∧ ti (rdG G r 2) ≤ 60))
theorem LnN_of {σ : zSto} (H : Lz σ) {l N R : Nat} {G : Nat → Int32} (tl : tlL σ l N R G) : LnN N R G := by
  obtain ⟨g, x⟩ := tl_rg H tl
  obtain ⟨t1, t2, t3, t4, t5, t6, t7, t8, t9⟩ := tl
  refine ⟨t7, t8, ?_, ?_, ?_, fun p hp => ?_, fun r hr => ?_⟩
  · have y := g 2 (by omega) (by unfold LV; omega)
    exact y
  · have y := g 3 (by omega) (by unfold LV; omega)
    exact y
  · have y := g 4 (by omega) (by unfold LV; omega)
    exact y
  · have q := rr_P 0 (k := p) (by omega)
    have y0 := g (7 + 5 * p + 0) (by omega) (by unfold LV; omega)
    have y1 := g (7 + 5 * p + 1) (by omega) (by unfold LV; omega)
    have y2 := g (7 + 5 * p + 2) (by omega) (by unfold LV; omega)
    have y3 := g (7 + 5 * p + 3) (by omega) (by unfold LV; omega)
    have y4 := g (7 + 5 * p + 4) (by omega) (by unfold LV; omega)
    rw [q.1.1, q.1.2] at y0
    rw [q.2.1.1, q.2.1.2] at y1
    rw [q.2.2.1.1, q.2.2.1.2] at y2
    rw [q.2.2.2.1.1, q.2.2.2.1.2] at y3
    rw [q.2.2.2.2.1, q.2.2.2.2.2] at y4
    exact ⟨y0, y1, y2, y3, y4⟩
  · have y := x.2 r (by omega) (by show (r : Int) < ti (G 1); omega)
    have y0 := g (87 + 6 * r + 0) (by omega) (by unfold LV; omega)
    have y2 := g (87 + 6 * r + 2) (by omega) (by unfold LV; omega)
    have q0 := rr_R 0 (k := r) (c := 0) (by omega) (by omega)
    have q2 := rr_R 0 (k := r) (c := 2) (by omega) (by omega)
    rw [q0.1] at y0
    rw [q2.1, q2.2] at y2
    have a : ti (G (87 + 6 * r)) < ti (G (87 + 6 * r + 1)) ∧ ti (G (87 + 6 * r + 1)) < ti (G 0) := y
    have b : (0 : Int) ≤ ti (G (87 + 6 * r + 0)) := y0.1
    have d : (1 : Int) ≤ ti (G (87 + 6 * r + 2)) ∧ ti (G (87 + 6 * r + 2)) ≤ 60 := y2
    exact ⟨b, a.1, by rw [← t4]; exact a.2, d⟩
theorem csI_rg {N R : Nat} {G : Nat → Int32} (h : LnN N R G) {p : Nat} (hp : p < N) : 1 ≤ ti (csI G p) ∧ ti (csI G p) ≤ 75 := by
  obtain ⟨h1, h2, h3, h4, h5, h6, h7⟩ := h
  obtain ⟨a0, a1, a2, a3, a4⟩ := h6 p hp
  have m := tmull (x := (2 : Int32)) (y := G (7 + 5 * p + 1)) 2 lit_2 (by omega)
  have t := tadd (x := G 2) (y := (2 : Int32) * G (7 + 5 * p + 1)) (by omega)
  unfold csI
  split
  · rename_i hc
    obtain ⟨b0, _⟩ := h6 (p - 1) (by omega)
    have m2 := tmull (x := (2 : Int32)) (y := G (7 + 5 * (p - 1))) 2 lit_2 (by omega)
    have t2 := tadd (x := G 2 + (2 : Int32) * G (7 + 5 * p + 1)) (y := (2 : Int32) * G (7 + 5 * (p - 1))) (by omega)
    omega
  · omega
theorem cmT_rg {N R : Nat} {G : Nat → Int32} (h : LnN N R G) (S : Nat → Int32) : ∀ p, p ≤ N → 0 ≤ ti (cmT (csI G) (fun q => G (7 + 5 * q)) S p) ∧ ti (cmT (csI G) (fun q => G (7 + 5 * q)) S p) ≤ 105 * (p : Int) := by
  intro p
  induction p with
  | zero =>
    intro _
    show 0 ≤ ti (0 : Int32) ∧ ti (0 : Int32) ≤ _
    rw [lit_0]
    omega
  | succ p ih =>
    intro hp
    have y := ih (by omega)
    have c := csI_rg h (p := p) (by omega)
    have m := (h.2.2.2.2.2.1 p (by omega)).1
    have N16 := h.1
    have e : cmT (csI G) (fun q => G (7 + 5 * q)) S (p + 1) = if S (40 + p) = -1 then cmT (csI G) (fun q => G (7 + 5 * q)) S p + G (7 + 5 * p) else cmT (csI G) (fun q => G (7 + 5 * q)) S p + csI G p + G (7 + 5 * p) := rfl
    rw [e]
    split
    · rw [tadd (by omega)]
      omega
    · have t1 := tadd (x := cmT (csI G) (fun q => G (7 + 5 * q)) S p) (y := csI G p) (by omega)
      rw [tadd (by omega), t1]
      omega
theorem mx0_t (x : Int32) : ti (mx0 x) = if 0 < ti x then ti x else 0 := by
  unfold mx0
  by_cases c : (0 : Int32) < x
  · have := lt_t c
    rw [lit_0] at this
    rw [if_pos c, if_pos this]
  · have := nlt_t c
    rw [lit_0] at this
    rw [if_neg c, if_neg (by omega), lit_0]
theorem mx0_g {x g : Int32} (hg : 0 ≤ ti g ∧ ti g ≤ 60) (hx : -100000 ≤ ti x ∧ ti x ≤ 100000) : mx0 (mx0 x - g) = mx0 (x - g) := by
  have a := mx0_t x
  have t1 := tsub (x := x) (y := g) (by omega)
  have t2 := tsub (x := mx0 x) (y := g) (by
    rw [a]
    split <;> omega)
  apply t_inj
  rw [mx0_t, mx0_t, t1, t2, a]
  by_cases c : 0 < ti x
  · rw [if_pos c]
  · rw [if_neg c, if_neg (by omega), if_neg (by omega)]
/-! FINES on our side -/
theorem f_X0_isStation {t : Nat} {G : Nat → Int32} {σ : zSto} (L : LnR t G σ) {N : Nat} (hN : ti (G 0) = (N : Int)) (hN16 : N ≤ 16) (a1 : Int32) {P : Int32 → zSto → Prop} (hP : ∀ r, (¬ r = 0 ↔ (0 ≤ ti a1 ∧ ti a1 < (N : Int) ∧ ¬ G (7 + 5 * (ti a1).toNat + 4) = -1)) → P r σ) : w_X0_isStation t a1 σ P := by
  have tn := tn_eq a1
  have e11 : σ.1 t 11 = G 0 := L.1 0 (by omega)
  unfold w_X0_isStation
  refine f_X0_hasPost t a1 (fun r z => fun _ => ⟨fun q => hP _ ⟨fun c => absurd rfl c, fun w => absurd q (z.mpr (by rw [e11, hN]; exact ⟨w.1, w.2.1⟩))⟩, fun q => ?_⟩)
  have w := z.mp q
  rw [e11, hN] at w
  have ep : σ.1 (t + 5) (ti a1).toNat = G (7 + 5 * (ti a1).toNat + 4) := L.2.1 (ti a1).toNat 4 (by omega) (by omega) (Or.inl (by omega))
  rw [tn, ep]
  exact ⟨vin (by omega), fun k => hP _ ⟨fun c => absurd rfl c, fun v => absurd k v.2.2⟩, fun k => hP _ ⟨fun _ => ⟨w.1, w.2, k⟩, fun _ => by decide⟩⟩
theorem f_lateAt {t N R : Nat} {G pd S : Nat → Int32} {i : Nat} {σ : zSto} (L : LnR t G σ) (hN : ti (G 0) = (N : Int)) (hN16 : N ≤ 16) (T : CsS N R G pd S i σ) (a2 : Int32) {p : Nat} (h2 : ti a2 = (p : Int)) (hp : p < N) {P : Int32 → zSto → Prop} (hP : P (mx0 (cmT (csI G) (fun q => G (7 + 5 * q)) S p - G (7 + 5 * p + 4))) σ) : w_X5_lateAt t a2 σ P := by
  have tn := tn_eq a2
  have ep : σ.1 (t + 5) p = G (7 + 5 * p + 4) := L.2.1 p 4 (by omega) (by omega) (Or.inl (by omega))
  unfold w_X5_lateAt
  refine f_arrival L hN hN16 T a2 h2 (by omega) ?_
  rw [show a2.toNatClampNeg = p by omega, ep]
  exact ⟨vin (by omega), hP⟩
set_option maxHeartbeats 4000000 in
theorem f_fines {t N R : Nat} {G pd S : Nat → Int32} {i : Nat} {σ : zSto} (L : LnR t G σ) (hN : ti (G 0) = (N : Int)) (hR : LnN N R G) (T : CsS N R G pd S i σ) {P : Int32 → zSto → Prop} (hP : P (fiT G (csI G) S N) σ) : w_X5_fines t σ P := by
  have l1 := lit_1
  have N16 := hR.1
  have e11 : σ.1 t 11 = G 0 := L.1 0 (by omega)
  have e15 : σ.1 t 15 = G 4 := L.1 4 (by omega)
  have go : ∀ (n i : Nat) (x_2 x_3 : Int32), ti x_3 = (i : Int) → i ≤ N → x_2 = fiT G (csI G) S i → N - i < n → w_X5_fines_4 t P n x_2 x_3 σ := by
    intro n
    induction n with
    | zero => intro i x_2 x_3 _ _ _ h; omega
    | succ n ih =>
      intro i x_2 x_3 hi hiN h2 hn
      unfold w_X5_fines_4
      rw [e11]
      refine ⟨fun q => ?_, fun q => ?_⟩
      · have c := le_t q
        have e : i = N := by omega
        subst e
        rw [h2]
        exact hP
      · have c := nle_t q
        have t1 := tadd (x := x_3) (y := (1 : Int32)) (by omega)
        have en : (ti x_3).toNat = i := by omega
        refine f_X0_isStation L hN N16 x_3 (fun r z => fun _ => ⟨fun k x3 e3 => ?_, fun k => ?_⟩)
        · have f := eq_t e3
          have z2 : G (7 + 5 * i + 4) = -1 := Classical.byContradiction (fun w => (z.mpr ⟨by omega, by omega, by rw [en]; exact w⟩) k)
          refine ih (i + 1) x_2 x3 (by omega) (by omega) ?_ (by omega)
          rw [h2]
          show _ = if G (7 + 5 * i + 4) = -1 then _ else _
          rw [if_pos z2]
        · have z2 := (z.mp k).2.2
          rw [en] at z2
          refine f_lateAt L hN N16 T x_3 hi (by omega) ?_
          rw [e15]
          intro x6 e6 x7 e7
          have f := eq_t e7
          refine ih (i + 1) x6 x7 (by omega) (by omega) ?_ (by omega)
          rw [e6, h2]
          show _ + mx0 (mx0 (cmT (csI G) (fun q => G (7 + 5 * q)) S i - G (7 + 5 * i + 4)) - G 4) = if G (7 + 5 * i + 4) = -1 then _ else fiT G (csI G) S i + mx0 (cmT (csI G) (fun p => G (7 + 5 * p)) S i - G (7 + 5 * i + 4) - G 4)
          have rg := cmT_rg hR S i (by omega)
          have rp := (hR.2.2.2.2.2.1 i (by omega)).2.2.2.2
          have ts := tsub (x := cmT (csI G) (fun q => G (7 + 5 * q)) S i) (y := G (7 + 5 * i + 4)) (by omega)
          rw [if_neg z2, mx0_g hR.2.2.2.2.1 (by omega)]
  exact ⟨100, go 100 0 (0 : Int32) (0 : Int32) lit_0 (by omega) rfl (by omega)⟩
