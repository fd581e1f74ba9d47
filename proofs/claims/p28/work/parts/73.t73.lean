/-! the RUN on the other side: a Ride over a Line that tells G -/
def FrC (σ σ2 : zSto) : Prop := ∀ k j, ¬ (190 ≤ k ∧ k ≤ 194) → σ2.1 k j = σ.1 k j
theorem FrC.tr {a b c : zSto} (h : FrC a b) (h2 : FrC b c) : FrC a c := fun k j x => (h2 k j x).trans (h k j x)
theorem FrC_w {σ σ2 : zSto} {k j : Nat} {v : Int32} (e : σ2 = zI σ k j v) (hk : 190 ≤ k ∧ k ≤ 194) : FrC σ σ2 := fun k' j' x => zI_q' e (by omega)
theorem LnR_fr {t : Nat} {G : Nat → Int32} {σ σ2 : zSto} (h : LnR t G σ) (f : ∀ k j, t ≤ k → k < t + 12 → σ2.1 k j = σ.1 k j) : LnR t G σ2 := by
  obtain ⟨h1, h2, h3⟩ := h
  refine ⟨fun s hs => ?_, fun p c hp hc hv => ?_, fun r c hr hc hv => ?_⟩
  · rw [f t _ (by omega) (by omega)]; exact h1 s hs
  · rw [f _ _ (by omega) (by omega)]; exact h2 p c hp hc hv
  · rw [f _ _ (by omega) (by omega)]; exact h3 r c hr hc hv
/-- a Line that a Ride may go over -/
def okT (t : Nat) : Prop := t + 12 ≤ 190 ∨ t = 210
theorem LnR_C {t : Nat} {G : Nat → Int32} {σ σ2 : zSto} (ht : okT t) (h : LnR t G σ) (f : FrC σ σ2) : LnR t G σ2 := LnR_fr h (fun k j a b => f k j (by unfold okT at ht; omega))
/-- what is told of the RUN so far: i POSTS are behind -/
def CsS (N R : Nat) (G pd S : Nat → Int32) (i : Nat) (σ : zSto) : Prop :=
  σ.1 190 8 = S 0 ∧ σ.1 190 10 = S 1 ∧ σ.1 190 5 = S 2 ∧ σ.1 190 9 = S 3 ∧
  (∀ r, r < R → σ.1 194 r = rdG G r 2 - S (10 + r) ∧ σ.1 193 r = S (20 + r)) ∧
  (∀ r, r < 32 → bt (σ.1 190 4) r = (decide (r < 6) && decide (¬ S (30 + r) = 0))) ∧
  (∀ p, p < N → σ.1 191 p = S (40 + p) ∧ σ.1 192 p = pd p - S (60 + p)) ∧
  (∀ j, j < 32 → bt (σ.1 190 6) j = (decide (j < 16) && decide (¬ S (40 + j) = -1))) ∧
  σ.1 190 7 = scT S i ∧ σ.1 190 11 = bsT (G 5) S i
/-- what is taken is no more than the POCKET -/
def TkI (R : Nat) (G S : Nat → Int32) : Prop := ∀ r, r < R → 0 ≤ ti (S (10 + r)) ∧ (S (10 + r) = 0 ∨ ti (S (10 + r)) ≤ ti (rdG G r 2))
theorem rm_pos {R : Nat} {G S : Nat → Int32} (h : TkI R G S) {r : Nat} (hr : r < R) : (rdG G r 2 - S (10 + r) ≤ 0 ↔ rdG G r 2 ≤ S (10 + r)) ∧ (S (10 + r) = 0 ∨ ti (rdG G r 2 - S (10 + r)) = ti (rdG G r 2) - ti (S (10 + r))) := by
  obtain ⟨a, b⟩ := h r hr
  rcases b with b | b
  · refine ⟨?_, Or.inl b⟩
    rw [b, Int32.sub_zero]
  · have f := full32 (rdG G r 2)
    have t := tsub (x := rdG G r 2) (y := S (10 + r)) (by omega)
    refine ⟨⟨fun q => ?_, fun q => ?_⟩, Or.inr t⟩
    · have := le_t q
      rw [t, lit_0] at this
      exact Classical.byContradiction (fun c => by have := nle_t c; omega)
    · have := le_t q
      refine Classical.byContradiction (fun c => ?_)
      have := nle_t c
      rw [t, lit_0] at this
      omega
theorem f_begin_37 {t N R : Nat} {G pd : Nat → Int32} (ht : okT t) (hR6 : R ≤ 6) (hR : ti (G 1) = (R : Int)) {σ0 : zSto} (L0 : LnR t G σ0) (h0 : ∀ p, p < N → σ0.1 191 p = -1 ∧ σ0.1 192 p = pd p) {P : zSto → Prop} (hP : ∀ σ2, FrC σ0 σ2 → (∀ S, (∀ s, s ≠ 2 → S s = S0n 0 s) → S 2 = σ0.1 190 5 → CsS N R G pd S 0 σ2) → P σ2) (hN : N ≤ 16) : ∀ (n i : Nat) (x_3 : Int32) (σ : zSto), ti x_3 = (i : Int) → i ≤ R → (∀ k j, k ≠ 193 → k ≠ 194 → σ.1 k j = σ0.1 k j) → (∀ r, r < i → σ.1 194 r = rdG G r 2 ∧ σ.1 193 r = 0) → R - i < n → w_X5_begin_37 t P n x_3 σ := by
  have l1 := lit_1
  intro n
  induction n with
  | zero => intro i x_3 σ _ _ _ _ h; omega
  | succ n ih =>
    intro i x_3 σ hi hiR fr hz hn
    have L : LnR t G σ := LnR_fr L0 (fun k j a b => fr k j (by unfold okT at ht; omega) (by unfold okT at ht; omega))
    have e12 : σ.1 t 12 = G 1 := L.1 1 (by omega)
    unfold w_X5_begin_37
    rw [e12]
    refine ⟨fun q => ?_, fun q => ?_⟩
    · have c := le_t q
      have e : i = R := by omega
      subst e
      intro σ1 e1 σ2 e2 σ3 e3 σ4 e4 σ5 e5 σ6 e6 σ7 e7
      have u : ∀ k j, k ≠ 190 → σ7.1 k j = σ.1 k j := fun k j h => by rw [zI_q' e7 (by omega), zI_q' e6 (by omega), zI_q' e5 (by omega), zI_q' e4 (by omega), zI_q' e3 (by omega), zI_q' e2 (by omega), zI_q' e1 (by omega)]
      have v4 : σ7.1 190 4 = 0 := by rw [zI_q' e7 (by omega), zI_q' e6 (by omega), zI_q' e5 (by omega), zI_q' e4 (by omega), zI_q' e3 (by omega), zI_q' e2 (by omega), e1, zI_s]
      have v6 : σ7.1 190 6 = 0 := by rw [zI_q' e7 (by omega), zI_q' e6 (by omega), zI_q' e5 (by omega), zI_q' e4 (by omega), zI_q' e3 (by omega), e2, zI_s]
      have v7 : σ7.1 190 7 = 0 := by rw [zI_q' e7 (by omega), zI_q' e6 (by omega), zI_q' e5 (by omega), zI_q' e4 (by omega), e3, zI_s]
      have v8 : σ7.1 190 8 = 0 := by rw [zI_q' e7 (by omega), zI_q' e6 (by omega), zI_q' e5 (by omega), e4, zI_s]
      have v9 : σ7.1 190 9 = 0 := by rw [zI_q' e7 (by omega), zI_q' e6 (by omega), e5, zI_s]
      have v10 : σ7.1 190 10 = 0 := by rw [zI_q' e7 (by omega), e6, zI_s]
      have v11 : σ7.1 190 11 = -1 := by rw [e7, zI_s]
      have v5 : σ7.1 190 5 = σ0.1 190 5 := by rw [zI_q' e7 (by omega), zI_q' e6 (by omega), zI_q' e5 (by omega), zI_q' e4 (by omega), zI_q' e3 (by omega), zI_q' e2 (by omega), zI_q' e1 (by omega), fr 190 5 (by omega) (by omega)]
      refine hP σ7 (fun k j x => by rw [u k j (by omega), fr k j (by omega) (by omega)]) (fun S hS h2 => ?_)
      have z : ∀ s, s ≠ 2 → ¬ (40 ≤ s ∧ s < 56) → S s = 0 := fun s a b => by
        rw [hS s a]
        unfold S0n
        rw [if_neg a, if_neg b]
      have zm : ∀ p, p < 16 → S (40 + p) = -1 := fun p hp => by
        rw [hS _ (by omega)]
        unfold S0n
        rw [if_neg (by omega), if_pos (by omega)]
      refine ⟨by rw [v8, z 0 (by omega) (by omega)], by rw [v10, z 1 (by omega) (by omega)], by rw [v5, h2], by rw [v9, z 3 (by omega) (by omega)], fun r hr => ?_, fun r hr => ?_, fun p hp => ?_, fun j hj => ?_, v7, v11⟩
      · rw [u 194 r (by omega), u 193 r (by omega), (hz r hr).1, (hz r hr).2, z (10 + r) (by omega) (by omega), z (20 + r) (by omega) (by omega), Int32.sub_zero]
        exact ⟨rfl, rfl⟩
      · rw [v4, bt_z]
        by_cases c6 : r < 6
        · rw [z (30 + r) (by omega) (by omega)]
          simp
        · rw [decide_eq_false c6]
          rfl
      · rw [u 191 p (by omega), u 192 p (by omega), fr 191 p (by omega) (by omega), fr 192 p (by omega) (by omega), (h0 p hp).1, (h0 p hp).2, zm p (by omega), z (60 + p) (by omega) (by omega), Int32.sub_zero]
        exact ⟨rfl, rfl⟩
      · rw [v6, bt_z]
        by_cases c6 : j < 16
        · rw [zm j c6]
          simp
        · rw [decide_eq_false c6]
          rfl
    · have c := nle_t q
      have tn := tn_eq x_3
      have t1 := tadd (x := x_3) (y := (1 : Int32)) (by omega)
      have ep : σ.1 (t + 8) i = rdG G i 2 := L.2.2 i 2 (by omega) (by omega) (by omega)
      rw [show x_3.toNatClampNeg = i by omega, ep]
      refine ⟨vin (by omega), vin (by omega), fun σ10 e10 => ⟨vin (by omega), fun σ12 e12 x13 e13 => ?_⟩⟩
      have f := eq_t e13
      refine ih (i + 1) x13 σ12 (by omega) (by omega) (fun k j a b => by rw [zI_q' e12 (by omega), zI_q' e10 (by omega), fr k j a b]) (fun r hr => ?_) (by omega)
      by_cases k : r = i
      · subst k
        refine ⟨?_, ?_⟩
        · rw [zI_q' e12 (by omega), e10, zI_s]
        · rw [e12, zI_s]
      · rw [zI_q' e12 (by omega), zI_q' e12 (by omega), zI_q' e10 (by omega), zI_q' e10 (by omega)]
        exact hz r (by omega)
set_option maxHeartbeats 4000000 in
theorem f_begin_2 {t N R : Nat} {G : Nat → Int32} (ht : okT t) (hR6 : R ≤ 6) (hR : ti (G 1) = (R : Int)) (hN : ti (G 0) = (N : Int)) (hN16 : N ≤ 16) (x_2 : Int32) {σ0 : zSto} (L0 : LnR t G σ0) {P : zSto → Prop} (hP : ∀ σ2, FrC σ0 σ2 → (∀ S, (∀ s, s ≠ 2 → S s = S0n 0 s) → S 2 = σ0.1 190 5 → CsS N R G (fun p => pdI G p x_2) S 0 σ2) → P σ2) : ∀ (n i : Nat) (x_3 : Int32) (σ : zSto), ti x_3 = (i : Int) → i ≤ N → (∀ k j, k ≠ 191 → k ≠ 192 → σ.1 k j = σ0.1 k j) → (∀ p, p < i → σ.1 191 p = -1 ∧ σ.1 192 p = pdI G p x_2) → N - i < n → w_X5_begin_2 t x_2 P n x_3 σ := by
  have l1 := lit_1
  intro n
  induction n with
  | zero => intro i x_3 σ _ _ _ _ h; omega
  | succ n ih =>
    intro i x_3 σ hi hiN fr hz hn
    have L : LnR t G σ := LnR_fr L0 (fun k j a b => fr k j (by unfold okT at ht; omega) (by unfold okT at ht; omega))
    have e11 : σ.1 t 11 = G 0 := L.1 0 (by omega)
    unfold w_X5_begin_2
    rw [e11]
    refine ⟨fun q => ?_, fun q => ?_⟩
    · have c := le_t q
      have e : i = N := by omega
      subst e
      refine ⟨100, f_begin_37 (σ0 := σ) (pd := fun p => pdI G p x_2) ht hR6 hR L hz (fun σ2 f2 h2 => hP σ2 (fun k j x => by rw [f2 k j x, fr k j (by omega) (by omega)]) (fun S hS e2 => h2 S hS (by rw [e2, fr 190 5 (by omega) (by omega)]))) hN16 100 0 (0 : Int32) σ lit_0 (by omega) (fun _ _ _ _ => rfl) (fun r hr => absurd hr (Nat.not_lt_zero r)) (by omega)⟩
    · have c := nle_t q
      have tn := tn_eq x_3
      have t1 := tadd (x := x_3) (y := (1 : Int32)) (by omega)
      rw [show x_3.toNatClampNeg = i by omega]
      refine ⟨vin (by omega), fun σ15 e15 => ?_⟩
      have L15 : LnR t G σ15 := LnR_C ht L (FrC_w e15 (by omega))
      refine f_X0_poundsIn L15 x_3 x_2 hi (by omega) (by omega) ⟨vin (by omega), fun σ19 e19 x20 e20 => ?_⟩
      have f := eq_t e20
      refine ih (i + 1) x20 σ19 (by omega) (by omega) (fun k j a b => by rw [zI_q' e19 (by omega), zI_q' e15 (by omega), fr k j a b]) (fun p hp => ?_) (by omega)
      by_cases k : p = i
      · subst k
        refine ⟨?_, ?_⟩
        · rw [zI_q' e19 (by omega), e15, zI_s]
        · rw [e19, zI_s]
      · rw [zI_q' e19 (by omega), zI_q' e19 (by omega), zI_q' e15 (by omega), zI_q' e15 (by omega)]
        exact hz p (by omega)
theorem f_X5_canPull {t N R : Nat} {G pd S : Nat → Int32} {σ : zSto} (L : LnR t G σ) (hN : ti (G 0) = (N : Int)) (hN16 : N ≤ 16) (hR : ti (G 1) = (R : Int)) (hR6 : R ≤ 6) (hT : TkI R G S) (a2 a3 : Int32) {p r : Nat} (h2 : ti a2 = (p : Int)) (hp : p + 1 < N) (h3 : ti a3 = (r : Int)) (hr : r < R) (h4 : σ.1 194 r = rdG G r 2 - S (10 + r)) (h5 : σ.1 192 p = pd p) {P : Int32 → zSto → Prop} (hP : ∀ x, (¬ x = 0 ↔ (¬ Int32.ofNat p < rdG G r 0 ∧ ¬ rdG G r 1 ≤ Int32.ofNat p ∧ ¬ rdG G r 2 ≤ S (10 + r) ∧ ¬ pd p ≤ 0)) → P x σ) : w_X5_canPull t a2 a3 σ P := by
  have l0 := lit_0
  have l1 := lit_1
  have e11 : σ.1 t 11 = G 0 := L.1 0 (by omega)
  have e12 : σ.1 t 12 = G 1 := L.1 1 (by omega)
  have o0 : σ.1 (t + 6) r = rdG G r 0 := L.2.2 r 0 (by omega) (by omega) (by omega)
  have o1 : σ.1 (t + 7) r = rdG G r 1 := L.2.2 r 1 (by omega) (by omega) (by omega)
  have ts := tsub (x := G 0) (y := (1 : Int32)) (by omega)
  have n2 := tn_eq a2
  have n3 := tn_eq a3
  have e2 := nI_x h2 (by omega)
  have rm := (rm_pos hT hr).1
  have no : ¬ (¬ Int32.ofNat p < rdG G r 0 ∧ ¬ rdG G r 1 ≤ Int32.ofNat p ∧ ¬ rdG G r 2 ≤ S (10 + r) ∧ ¬ pd p ≤ 0) → P 0 σ := fun z => hP 0 ⟨fun c => absurd rfl c, fun c => absurd c z⟩
  unfold w_X5_canPull
  rw [e11]
  refine ⟨fun q => by have := lt_t q; omega, fun _ => ⟨fun q => by have := le_t q; omega, fun _ => ?_⟩⟩
  refine f_X0_hasRider t a3 (fun x z => fun _ => ⟨fun q => absurd q (z.mpr (by rw [e12]; omega)), fun _ => ?_⟩)
  unfold w_X0_carries
  rw [show a3.toNatClampNeg = r by omega, show a2.toNatClampNeg = p by omega, o0, o1]
  subst e2
  refine ⟨vin (by omega), fun q => fun _ => ⟨fun _ => no (fun w => absurd q w.1), fun c => absurd rfl c⟩, fun q => ⟨vin (by omega), fun q2 => fun _ => ⟨fun _ => no (fun w => absurd q2 w.2.1), fun c => absurd rfl c⟩, fun q2 => fun _ => ⟨fun c => absurd c (by decide), fun _ => ⟨vin (by omega), fun q3 => no (fun w => absurd (rm.mp (by rw [← h4]; exact q3)) w.2.2.1), fun q3 => ⟨vin (by omega), fun q4 => no (fun w => absurd (by rw [← h5]; exact q4) w.2.2.2), fun q4 => hP 1 ⟨fun _ => ⟨q, q2, fun z => q3 (by rw [h4]; exact rm.mpr z), by rw [← h5]; exact q4⟩, fun _ => by decide⟩⟩⟩⟩⟩⟩
set_option maxHeartbeats 4000000 in
theorem f_wantingAt_17 {t N R : Nat} {G cs pd S : Nat → Int32} {σ : zSto} (L : LnR t G σ) (hN : ti (G 0) = (N : Int)) (hN16 : N ≤ 16) (hR : ti (G 1) = (R : Int)) (hR6 : R ≤ 6) (hT : TkI R G S) (x_2 x_3 : Int32) {p : Nat} (h2 : ti x_2 = (p : Int)) (hp : p + 1 < N) (h3 : x_3 = S 0 + cs p) (h4 : ∀ r, r < R → σ.1 194 r = rdG G r 2 - S (10 + r)) (h5 : σ.1 192 p = pd p) {P : Int32 → zSto → Prop} (hP : ∀ x, (∀ j, j < 32 → bt x j = (decide (j < R) && wnt cs pd (rdG G) S p j)) → P x σ) : ∀ (n i : Nat) (x_4 x_5 : Int32), ti x_5 = (i : Int) → i ≤ R → (∀ j, j < 32 → bt x_4 j = (decide (j < i) && wnt cs pd (rdG G) S p j)) → R - i < n → w_X5_wantingAt_17 t x_2 x_3 P n x_4 x_5 σ := by
  have l1 := lit_1
  have e12 : σ.1 t 12 = G 1 := L.1 1 (by omega)
  intro n
  induction n with
  | zero => intro i x_4 x_5 _ _ _ h; omega
  | succ n ih =>
    intro i x_4 x_5 hi hiR hb hn
    unfold w_X5_wantingAt_17
    rw [e12]
    refine ⟨fun q => ?_, fun q => ?_⟩
    · have c := le_t q
      have e : i = R := by omega
      subst e
      exact hP x_4 hb
    · have c := nle_t q
      have n5 := tn_eq x_5
      have n2 := tn_eq x_2
      have t1 := tadd (x := x_5) (y := (1 : Int32)) (by omega)
      have e5 := nI_x hi (by omega)
      have w3 : σ.1 (t + 9) i = rdG G i 3 := L.2.2 i 3 (by omega) (by omega) (by omega)
      have w4 : σ.1 (t + 10) i = rdG G i 4 := L.2.2 i 4 (by omega) (by omega) (by omega)
      have sk : ∀ {j : Nat}, wnt cs pd (rdG G) S p i = false → j < 32 → bt x_4 j = (decide (j < i + 1) && wnt cs pd (rdG G) S p j) := fun {j} w hj => by
        rw [hb j hj]
        by_cases k : j = i
        · subst k
          rw [w]
          cases decide (j < j) <;> cases decide (j < j + 1) <;> rfl
        · rw [show decide (j < i) = decide (j < i + 1) by by_cases k2 : j < i; rw [decide_eq_true k2, decide_eq_true (by omega)]; rw [decide_eq_false k2, decide_eq_false (by omega)]]
      have skip : wnt cs pd (rdG G) S p i = false → ∀ x6 : Int32, x6 = x_5 + (1 : Int32) → w_X5_wantingAt_17 t x_2 x_3 P n x_4 x6 σ := fun w x6 e6 => by
        have f := eq_t e6
        exact ih (i + 1) x_4 x6 (by omega) (by omega) (fun j hj => sk w hj) (by omega)
      rw [show x_5.toNatClampNeg = i by omega, show x_2.toNatClampNeg = p by omega]
      refine f_X5_canPull L hN hN16 hR hR6 hT x_2 x_5 h2 hp hi (by omega) (h4 i (by omega)) h5 (fun x z => fun _ => ⟨fun q1 => skip ?_, fun q1 => ?_⟩)
      · refine decide_eq_false (fun w => ?_)
        exact absurd q1 (z.mpr ⟨w.1, w.2.1, w.2.2.2.2.1, w.2.2.1⟩)
      · have zz := z.mp q1
        rw [h5, w3, w4]
        refine ⟨vin (by omega), vin (by omega), fun q2 => skip (decide_eq_false (fun w => w.2.2.2.1 q2)), fun q2 => ⟨vin (by omega), fun q3 => skip (decide_eq_false (fun w => w.2.2.2.2.2 (by rw [← h3]; exact q3))), fun q3 x12 e12' x13 e13 => ?_⟩⟩
        have f := eq_t e13
        have w : wnt cs pd (rdG G) S p i = true := decide_eq_true ⟨zz.1, zz.2.1, zz.2.2.2, q2, zz.2.2.1, by rw [← h3]; exact q3⟩
        refine ih (i + 1) x12 x13 (by omega) (by omega) (fun j hj => ?_) (by omega)
        rw [e12', bt_or, hb j hj, e5, bt_sl i (by omega) j hj]
        by_cases k : j = i
        · subst k
          rw [w, decide_eq_true (show j = j from rfl), decide_eq_true (show j < j + 1 by omega)]
          cases decide (j < j) <;> rfl
        · rw [decide_eq_false k, Bool.or_false, show decide (j < i) = decide (j < i + 1) by by_cases k2 : j < i; rw [decide_eq_true k2, decide_eq_true (by omega)]; rw [decide_eq_false k2, decide_eq_false (by omega)]]
