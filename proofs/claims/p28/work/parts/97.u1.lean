/-! the OTHER train -/
def mnF (G : Nat → Int32) : Nat → Int32 := fun q => G (7 + 5 * q)
def oaF (G : Nat → Int32) (N p : Nat) : Int32 := G 6 + smT (mnF G) (N - 1) - smT (mnF G) p
def nsW (G : Nat → Int32) (p : Nat) : Nat → Bool := fun q => decide (p < q) && decide (¬ G (7 + 5 * q + 4) = -1)
def nsF (G : Nat → Int32) (N p : Nat) : Int32 := lstF (nsW G p) N
/-- WAIT at POST p, ready at t -/
def wtF (G : Nat → Int32) (N p : Nat) (t : Int32) : Int32 := if G (7 + 5 * p + 4) = -1 then 0 else if nsF G N p = -1 then 0 else if oaF G N p ≤ t then 0 else if t + (smT (mnF G) (nsF G N p).toNatClampNeg - smT (mnF G) p) ≤ oaF G N (nsF G N p).toNatClampNeg then 0 else oaF G N p - t
def aaF (G : Nat → Int32) (N : Nat) (st : Nat → Bool) : Nat → Int32
  | 0 => 0
  | p + 1 => aaF G N st p + (if st p = true then csI G p else 0) + wtF G N p (aaF G N st p + (if st p = true then csI G p else 0)) + mnF G p
def rdF (G : Nat → Int32) (N : Nat) (st : Nat → Bool) (p : Nat) : Int32 := aaF G N st p + (if st p = true then csI G p else 0)
def wwF (G : Nat → Int32) (N : Nat) (st : Nat → Bool) (p : Nat) : Int32 := wtF G N p (rdF G N st p)
def mtF (G : Nat → Int32) (N : Nat) (st : Nat → Bool) : Nat → Int32
  | 0 => -1
  | p + 1 => if mtF G N st p = -1 ∧ p + 1 < N ∧ ¬ oaF G N p ≤ rdF G N st p + wwF G N st p ∧ ¬ aaF G N st (p + 1) ≤ oaF G N (p + 1) then Int32.ofNat p else mtF G N st p
theorem mtF_1 (G : Nat → Int32) (N : Nat) (st : Nat → Bool) (p : Nat) : mtF G N st (p + 1) = if mtF G N st p = -1 ∧ p + 1 < N ∧ ¬ oaF G N p ≤ rdF G N st p + wwF G N st p ∧ ¬ aaF G N st (p + 1) ≤ oaF G N (p + 1) then Int32.ofNat p else mtF G N st p := rfl
theorem oaF_1 (G : Nat → Int32) (N p : Nat) : oaF G N (p + 1) = oaF G N p - mnF G p := by
  show G 6 + smT (mnF G) (N - 1) - (smT (mnF G) p + mnF G p) = G 6 + smT (mnF G) (N - 1) - smT (mnF G) p - mnF G p
  rw [i_ss]
theorem oaF_r (G : Nat → Int32) (N p : Nat) : oaF G N (p + 1) + mnF G p = oaF G N p := by
  rw [oaF_1, Int32.sub_add_cancel]
theorem oaF_w (G : Nat → Int32) (N p q : Nat) : oaF G N p - (smT (mnF G) q - smT (mnF G) p) = oaF G N q := by
  show G 6 + smT (mnF G) (N - 1) - smT (mnF G) p - (smT (mnF G) q - smT (mnF G) p) = G 6 + smT (mnF G) (N - 1) - smT (mnF G) q
  rw [i_ss, Int32.add_comm (smT (mnF G) p), Int32.sub_add_cancel]
theorem i_mv (t s p m : Int32) : t + (s - p) + m = t + ((s + m) - p) := by
  rw [Int32.sub_eq_add_neg, Int32.sub_eq_add_neg]
  ac_rfl
theorem nsF_sp {G : Nat → Int32} {N p : Nat} (hN : N ≤ 16) : nsF G N p = -1 ∨ ∃ r, r < N ∧ p < r ∧ nsF G N p = Int32.ofNat r := by
  rcases lstF_sp (nsW G p) N (by omega) with ⟨a, _⟩ | ⟨r, a, b, c, _⟩
  · exact Or.inl a
  · have c2 : (decide (p < r) && decide (¬ G (7 + 5 * r + 4) = -1)) = true := c
    rw [Bool.and_eq_true] at c2
    exact Or.inr ⟨r, a, of_decide_eq_true c2.1, b⟩
theorem wtF_l {G : Nat → Int32} {N : Nat} (hN : N ≤ 16) {p : Nat} (hp : N ≤ p + 1) (t : Int32) : wtF G N p t = 0 := by
  unfold wtF
  by_cases c : G (7 + 5 * p + 4) = -1
  · rw [if_pos c]
  · rcases nsF_sp (G := G) (p := p) hN with z | ⟨r, a, b, _⟩
    · rw [if_neg c, if_pos z]
    · omega
theorem f_stationBehind {t N : Nat} {G : Nat → Int32} {σ : zSto} (L : LnR t G σ) (hN : ti (G 0) = (N : Int)) (hN16 : N ≤ 16) (a1 : Int32) {p : Nat} (h1 : ti a1 = (p : Int)) (hp : p < N) {P : Int32 → zSto → Prop} (hP : P (nsF G N p) σ) : w_X0_stationBehind t a1 σ P := by
  have l1 := lit_1
  have e11 : ti (σ.1 t 11) = (N : Int) := by rw [L.1 0 (by omega)]; exact hN
  have go : ∀ (n i : Nat) (x_2 : Int32), ti x_2 = (i : Int) → i ≤ N → p < i → lstF (nsW G p) i = -1 → N - i < n → w_X0_stationBehind_4 t P n x_2 σ := by
    intro n
    induction n with
    | zero => intro i x_2 _ _ _ _ h; omega
    | succ n ih =>
      intro i x_2 hi hiN hpi hl hn
      unfold w_X0_stationBehind_4
      refine ⟨fun q => ?_, fun q => ?_⟩
      · have c := le_t q
        have e : i = N := by omega
        subst e
        have y : nsF G i p = -1 := hl
        rw [y] at hP
        exact hP
      · have c := nle_t q
        have tn := tn_eq x_2
        have t1 := tadd (x := x_2) (y := (1 : Int32)) (by omega)
        have e2 := nI_x hi (by omega)
        have em : σ.1 (t + 5) i = G (7 + 5 * i + 4) := L.2.1 i 4 (by omega) (by omega) (Or.inl (by omega))
        rw [show x_2.toNatClampNeg = i by omega, em]
        refine ⟨vin (by omega), fun k x3 e3 => ?_, fun k => ?_⟩
        · have f := eq_t e3
          have w : nsW G p i = false := by
            show (decide (p < i) && decide (¬ G (7 + 5 * i + 4) = -1)) = false
            rw [decide_eq_false (p := ¬ G (7 + 5 * i + 4) = -1) (fun z => z k), Bool.and_false]
          refine ih (i + 1) x3 (by omega) (by omega) (by omega) ?_ (by omega)
          rw [lstF_1, if_pos hl, w]
          rfl
        · have w : nsW G p i = true := by
            show (decide (p < i) && decide (¬ G (7 + 5 * i + 4) = -1)) = true
            rw [decide_eq_true hpi, decide_eq_true k]
            rfl
          have hit : lstF (nsW G p) (i + 1) = Int32.ofNat i := by rw [lstF_1, if_pos hl, if_pos w]
          have fin := lstF_st (W := nsW G p) (n := i + 1) (by rw [hit]; exact ofNat_ne (by omega)) (N - (i + 1))
          rw [show i + 1 + (N - (i + 1)) = N by omega, hit] at fin
          have y : nsF G N p = x_2 := fin.trans e2.symm
          rw [y] at hP
          exact hP
  unfold w_X0_stationBehind
  intro x1 e1
  have t0 := tadd (x := a1) (y := (1 : Int32)) (by omega)
  have f1 := eq_t e1
  refine ⟨100, go 100 (p + 1) x1 (by omega) (by omega) (by omega) (lstF_z (p + 1) (fun r hr => ?_)) (by omega)⟩
  show (decide (p < r) && decide (¬ G (7 + 5 * r + 4) = -1)) = false
  rw [decide_eq_false (p := p < r) (by omega)]
  rfl
theorem f_X1_waitAt {t N : Nat} {G : Nat → Int32} {σ : zSto} (L : LnR t G σ) (hN : ti (G 0) = (N : Int)) (hN16 : N ≤ 16) (a2 a3 a4 : Int32) {p : Nat} (h2 : ti a2 = (p : Int)) (hp : p < N) (h4 : a4 = oaF G N p) {P : Int32 → zSto → Prop} (hP : P (wtF G N p a3) σ) : w_X1_waitAt t a2 a3 a4 σ P := by
  subst h4
  have en : (ti a2).toNat = p := by omega
  unfold w_X1_waitAt
  refine f_X0_isStation L hN hN16 a2 (fun r2 z2 => fun _ => ⟨fun q => ?_, fun q => ?_⟩)
  · have w : G (7 + 5 * p + 4) = -1 := Classical.byContradiction (fun w => (z2.mpr ⟨by omega, by omega, by rw [en]; exact w⟩) q)
    unfold wtF at hP
    rw [if_pos w] at hP
    exact hP
  · have w := (z2.mp q).2.2
    rw [en] at w
    refine f_stationBehind L hN hN16 a2 h2 hp ⟨fun k => ?_, fun k => ?_⟩
    · obtain ⟨r, hr, hpr, er⟩ : ∃ r, r < N ∧ p < r ∧ nsF G N p = Int32.ofNat r := by
        rcases nsF_sp (G := G) (p := p) hN16 with z | z
        · exact absurd z k
        · exact z
      have tr : ti (nsF G N p) = (r : Int) := by rw [er]; exact nI_t (by omega)
      have nr : (nsF G N p).toNatClampNeg = r := by rw [er]; exact ofNat_c (by omega)
      refine f_minutesTo L hN hN16 _ tr (by omega) ?_
      refine f_minutesTo L hN hN16 _ h2 (by omega) ?_
      intro x9 e9
      have e9' : x9 = smT (mnF G) r - smT (mnF G) p := e9
      have eo : oaF G N p - x9 = oaF G N r := by rw [e9', oaF_w]
      unfold wtF at hP
      rw [if_neg w, if_neg k, nr] at hP
      refine ⟨fun c => ?_, fun c => ⟨fun c2 => ?_, fun c2 => ?_⟩⟩
      · rw [if_pos c] at hP
        exact hP
      · rw [eo, e9'] at c2
        rw [if_neg c, if_pos c2] at hP
        exact hP
      · rw [eo, e9'] at c2
        rw [if_neg c, if_neg c2] at hP
        exact hP
    · unfold wtF at hP
      rw [if_neg w, if_pos k] at hP
      exact hP
def FoS (G : Nat → Int32) (N : Nat) (st : Nat → Bool) (i : Nat) (σ : zSto) : Prop := (∀ q, q < i → σ.1 196 q = aaF G N st q ∧ σ.1 197 q = wwF G N st q) ∧ σ.1 195 2 = smT (wwF G N st) i ∧ σ.1 195 3 = mtF G N st i
def FrF (σ σ2 : zSto) : Prop := ∀ k j, ¬ (195 ≤ k ∧ k ≤ 197) → σ2.1 k j = σ.1 k j
set_option maxHeartbeats 8000000 in
theorem f_X1_follow {t N : Nat} {G : Nat → Int32} (ht : t + 12 ≤ 190) {σ : zSto} (L : LnR t G σ) (hN : ti (G 0) = (N : Int)) (hN1 : 1 ≤ N) (hN16 : N ≤ 16) (a2 : Int32) {st : Nat → Bool} (hst : ∀ p, p < N → st p = bt a2 p) {P : zSto → Prop} (hP : ∀ σ2, FrF σ σ2 → FoS G N st N σ2 → P σ2) : w_X1_follow t a2 σ P := by
  have l1 := lit_1
  have lm := lit_m1
  have LF : ∀ σ2, FrF σ σ2 → LnR t G σ2 := fun σ2 f => LnR_fr L (fun k j a b => f k j (by omega))
  have go : ∀ (n i : Nat) (x_3 x_4 x_5 : Int32) (σ3 : zSto), FrF σ σ3 → ti x_5 = (i : Int) → i ≤ N → x_3 = aaF G N st i → x_4 = oaF G N i → FoS G N st i σ3 → N - i < n → w_X1_follow_32 t a2 P n x_3 x_4 x_5 σ3 := by
    intro n
    induction n with
    | zero => intro i x_3 x_4 x_5 σ3 _ _ _ _ _ _ h; omega
    | succ n ih =>
      intro i x_3 x_4 x_5 σ3 fr hi hiN h3 h4 hF hn
      have L3 := LF σ3 fr
      have e11 : ti (σ3.1 t 11) = (N : Int) := by rw [L3.1 0 (by omega)]; exact hN
      unfold w_X1_follow_32
      refine ⟨fun q => ?_, fun q => ?_⟩
      · have c := le_t q
        have e : i = N := by omega
        subst e
        exact hP σ3 fr hF
      · have c := nle_t q
        have tx := tadd (x := x_5) (y := (1 : Int32)) (by omega)
        have tn := tn_eq x_5
        have e5 := nI_x hi (by omega)
        have n5 : x_5.toNatClampNeg = i := by omega
        obtain ⟨F1, F2, F3⟩ := hF
        have body : ∀ x6 : Int32, x6 = rdF G N st i → (vp_in x_5 16 ∧ (∀ σ8 : zSto, σ8 = zI σ3 196 (x_5).toNatClampNeg x_3 → (w_X1_waitAt t x_5 x6 x_4 σ8 (fun (r10 : Int32) (σ9 : zSto) => (vp_in x_5 16 ∧ (∀ σ12 : zSto, σ12 = zI σ9 197 (x_5).toNatClampNeg r10 → (vp_in x_5 16 ∧ (∀ σ14 : zSto, σ14 = zI σ12 195 2 ((σ12.1 195 2) + (σ12.1 197 (x_5).toNatClampNeg)) → (vp_in x_5 16 ∧ (∀ x16 : Int32, x16 = (x6 + (σ14.1 197 (x_5).toNatClampNeg)) → (vp_in x_5 16 ∧ (∀ x18 : Int32, x18 = (x16 + (σ14.1 (t + 1) (x_5).toNatClampNeg)) → (vp_in x_5 16 ∧ (∀ x20 : Int32, x20 = (x_4 - (σ14.1 (t + 1) (x_5).toNatClampNeg)) → ((¬ (σ14.1 195 3) = (-1 : Int32) → (∀ x21 : Int32, x21 = (x_5 + (1 : Int32)) → w_X1_follow_32 t a2 P n x18 x20 x21 σ14)) ∧ ((σ14.1 195 3) = (-1 : Int32) → ((((σ14.1 t 11) - (1 : Int32)) ≤ x_5 → (∀ x22 : Int32, x22 = (x_5 + (1 : Int32)) → w_X1_follow_32 t a2 P n x18 x20 x22 σ14)) ∧ (¬ ((σ14.1 t 11) - (1 : Int32)) ≤ x_5 → ((x_4 ≤ x16 → (∀ x23 : Int32, x23 = (x_5 + (1 : Int32)) → w_X1_follow_32 t a2 P n x18 x20 x23 σ14)) ∧ (¬ x_4 ≤ x16 → ((x18 ≤ x20 → (∀ x24 : Int32, x24 = (x_5 + (1 : Int32)) → w_X1_follow_32 t a2 P n x18 x20 x24 σ14)) ∧ (¬ x18 ≤ x20 → (∀ σ25 : zSto, σ25 = zI σ14 195 3 x_5 → (∀ x26 : Int32, x26 = (x_5 + (1 : Int32)) → w_X1_follow_32 t a2 P n x18 x20 x26 σ25)))))))))))))))))))))))) := fun x6 e6 => by
          rw [n5]
          refine ⟨vin (by omega), fun σ8 e8 => ?_⟩
          have f8 : FrF σ σ8 := fun k j h => by rw [zI_q' e8 (by omega), fr k j h]
          refine f_X1_waitAt (LF σ8 f8) hN hN16 x_5 x6 x_4 hi (by omega) h4 ⟨vin (by omega), fun σ12 e12 => ⟨vin (by omega), fun σ14 e14 => ⟨vin (by omega), fun x16 e16 => ⟨vin (by omega), fun x18 e18 => ⟨vin (by omega), fun x20 e20 => ?_⟩⟩⟩⟩⟩
          have f14 : FrF σ σ14 := fun k j h => by rw [zI_q' e14 (by omega), zI_q' e12 (by omega), f8 k j h]
          have L14 := LF σ14 f14
          have v12 : σ12.1 197 i = wwF G N st i := by
            rw [e12, zI_s, e6]
            rfl
          have v14 : σ14.1 197 i = wwF G N st i := by rw [zI_q' e14 (by omega), v12]
          have m14 : σ14.1 (t + 1) i = mnF G i := L14.2.1 i 0 (by omega) (by omega) (Or.inr (by rw [hN]; omega))
          rw [v14] at e16
          rw [m14] at e18 e20
          have w18 : x18 = aaF G N st (i + 1) := by
            rw [e18, e16, e6]
            rfl
          have w20 : x20 = oaF G N (i + 1) := by rw [e20, h4, oaF_1]
          have s14 : σ14.1 195 2 = smT (wwF G N st) (i + 1) := by
            rw [e14, zI_s, v12, zI_q' e12 (by omega), zI_q' e8 (by omega), F2]
            rfl
          have q14 : ∀ q, q < i + 1 → σ14.1 196 q = aaF G N st q ∧ σ14.1 197 q = wwF G N st q := fun q hq => by
            by_cases d : q = i
            · subst d
              exact ⟨by rw [zI_q' e14 (by omega), zI_q' e12 (by omega), e8, zI_s, h3], v14⟩
            · rw [zI_q' e14 (by omega), zI_q' e12 (by omega), zI_q' e8 (by omega), zI_q' e14 (by omega), zI_q' e12 (by omega), zI_q' e8 (by omega)]
              exact F1 q (by omega)
          have m3 : σ14.1 195 3 = mtF G N st i := by rw [zI_q' e14 (by omega), zI_q' e12 (by omega), zI_q' e8 (by omega), F3]
          have no : ¬ (mtF G N st i = -1 ∧ i + 1 < N ∧ ¬ oaF G N i ≤ rdF G N st i + wwF G N st i ∧ ¬ aaF G N st (i + 1) ≤ oaF G N (i + 1)) → ∀ x21 : Int32, x21 = x_5 + (1 : Int32) → w_X1_follow_32 t a2 P n x18 x20 x21 σ14 := fun z x21 e21 => by
            have f := eq_t e21
            refine ih (i + 1) x18 x20 x21 σ14 f14 (by omega) (by omega) w18 w20 ⟨q14, s14, ?_⟩ (by omega)
            rw [mtF_1, if_neg z, m3]
          have e11' : ti (σ14.1 t 11) = (N : Int) := by rw [L14.1 0 (by omega)]; exact hN
          have ts := tsub (x := σ14.1 t 11) (y := (1 : Int32)) (by omega)
          rw [m3]
          refine ⟨fun k => no (fun z => k z.1), fun k => ⟨fun k2 => no (fun z => by have := le_t k2; omega), fun k2 => ⟨fun k3 => no (fun z => z.2.2.1 (by rw [← h4, ← e6, ← e16]; exact k3)), fun k3 => ⟨fun k4 => no (fun z => z.2.2.2 (by rw [← w18, ← w20]; exact k4)), fun k4 σ25 e25 x26 e26 => ?_⟩⟩⟩⟩
          have f := eq_t e26
          have k2' := nle_t k2
          refine ih (i + 1) x18 x20 x26 σ25 (fun k j h => by rw [zI_q' e25 (by omega), f14 k j h]) (by omega) (by omega) w18 w20 ⟨fun q hq => ?_, ?_, ?_⟩ (by omega)
          · rw [zI_q' e25 (by omega), zI_q' e25 (by omega)]
            exact q14 q hq
          · rw [zI_q' e25 (by omega)]
            exact s14
          · rw [e25, zI_s]
            rw [mtF_1, if_pos ⟨k, by omega, by rw [← h4, ← e6, ← e16]; exact k3, by rw [← w18, ← w20]; exact k4⟩]
            exact e5
        have hb := hst i (by omega)
        refine ⟨fun k x6 e6 => body x6 ?_, fun k => ?_⟩
        · have z := (bt_0 (x := a2) (show i < 32 by omega) e5).mp k
          rw [z] at hb
          rw [e6, h3]
          unfold rdF
          rw [hb, if_neg (by decide)]
        · have z : st i = true := by
            rw [hb]
            cases hc : bt a2 i
            · exact absurd ((bt_0 (show i < 32 by omega) e5).mpr hc) k
            · rfl
          refine f_X0_cost L3 x_5 hi (by omega) (by omega) (fun x29 e29 => body x29 ?_)
          rw [e29, h3]
          unfold rdF
          rw [if_pos z]
  have e11 : σ.1 t 11 = G 0 := L.1 0 (by omega)
  have e17 : σ.1 t 17 = G 6 := L.1 6 (by omega)
  have ts := tsub (x := G 0) (y := (1 : Int32)) (by omega)
  unfold w_X1_follow
  rw [e11]
  refine f_minutesTo L hN hN16 _ (p := N - 1) (by omega) (by omega) ?_
  intro x3 e3 σ4 e4 σ5 e5
  rw [e17] at e3
  refine ⟨100, go 100 0 (0 : Int32) x3 (0 : Int32) σ5 (fun k j h => by rw [zI_q' e5 (by omega), zI_q' e4 (by omega)]) lit_0 (by omega) rfl ?_ ⟨fun q hq => absurd hq (Nat.not_lt_zero q), ?_, ?_⟩ (by omega)⟩
  · rw [e3]
    show _ = G 6 + smT (mnF G) (N - 1) - 0
    rw [Int32.sub_zero]
    rfl
  · rw [zI_q' e5 (by omega), e4, zI_s]
    rfl
  · rw [e5, zI_s]
    rfl
/-! the reference's OTHER train -/
theorem f_X10_nextStation {l R N : Nat} {G cs pd : Nat → Int32} {σ : zSto} (X : RfX l R N G cs pd σ) (a1 : Int32) {p : Nat} (h1 : ti a1 = (p : Int)) (hp : p < N) {P : Int32 → zSto → Prop} (hP : P (nsF G N p) σ) : w_X10_nextStation a1 σ P := by
  have l1 := lit_1
  have N16 := X.2.2.2.2.2.2.1
  have h24 := X.2.2.1
  have go : ∀ (n i : Nat) (x_2 : Int32), ti x_2 = (i : Int) → i ≤ N → p < i → lstF (nsW G p) i = -1 → N - i < n → w_X10_nextStation_4 P n x_2 σ := by
    intro n
    induction n with
    | zero => intro i x_2 _ _ _ _ h; omega
    | succ n ih =>
      intro i x_2 hi hiN hpi hl hn
      unfold w_X10_nextStation_4
      refine ⟨fun q => ?_, fun q => ?_⟩
      · have c := le_t q
        have e : i = N := by omega
        subst e
        have y : nsF G i p = -1 := hl
        rw [y] at hP
        exact hP
      · have c := nle_t q
        have t1 := tadd (x := x_2) (y := (1 : Int32)) (by omega)
        have e2 := nI_x hi (by omega)
        refine f_postOf (p := i) (c := 4) X.1 X.2.1 _ _ hi (by omega) lit_4 (by omega) ?_
        rw [X.2.2.2.2.2.2.2.2.1 _ (by omega)]
        refine ⟨fun k x3 e3 => ?_, fun k => ?_⟩
        · have f := eq_t e3
          have w : nsW G p i = false := by
            show (decide (p < i) && decide (¬ G (7 + 5 * i + 4) = -1)) = false
            rw [decide_eq_false (p := ¬ G (7 + 5 * i + 4) = -1) (fun z => z k), Bool.and_false]
          refine ih (i + 1) x3 (by omega) (by omega) (by omega) ?_ (by omega)
          rw [lstF_1, if_pos hl, w]
          rfl
        · have w : nsW G p i = true := by
            show (decide (p < i) && decide (¬ G (7 + 5 * i + 4) = -1)) = true
            rw [decide_eq_true hpi, decide_eq_true k]
            rfl
          have hit : lstF (nsW G p) (i + 1) = Int32.ofNat i := by rw [lstF_1, if_pos hl, if_pos w]
          have fin := lstF_st (W := nsW G p) (n := i + 1) (by rw [hit]; exact ofNat_ne (by omega)) (N - (i + 1))
          rw [show i + 1 + (N - (i + 1)) = N by omega, hit] at fin
          have y : nsF G N p = x_2 := fin.trans e2.symm
          rw [y] at hP
          exact hP
  unfold w_X10_nextStation
  intro x1 e1
  have t0 := tadd (x := a1) (y := (1 : Int32)) (by omega)
  have f1 := eq_t e1
  refine ⟨100, go 100 (p + 1) x1 (by omega) (by omega) (by omega) (lstF_z (p + 1) (fun r hr => ?_)) (by omega)⟩
  show (decide (p < r) && decide (¬ G (7 + 5 * r + 4) = -1)) = false
  rw [decide_eq_false (p := p < r) (by omega)]
  rfl
set_option maxHeartbeats 4000000 in
theorem f_X10_waitAt {l R N : Nat} {G cs pd : Nat → Int32} {σ : zSto} (X : RfX l R N G cs pd σ) (h47 : ∀ q, q < N → σ.1 247 q = oaF G N q) (a1 a2 : Int32) {p : Nat} (h1 : ti a1 = (p : Int)) (hp : p < N) {P : Int32 → zSto → Prop} (hP : P (wtF G N p a2) σ) : w_X10_waitAt a1 a2 σ P := by
  have l1 := lit_1
  have N16 := X.2.2.2.2.2.2.1
  have tn1 := tn_eq a1
  unfold w_X10_waitAt
  refine f_postOf (p := p) (c := 4) X.1 X.2.1 _ _ h1 (by omega) lit_4 (by omega) ?_
  rw [X.2.2.2.2.2.2.2.2.1 _ (by omega)]
  refine ⟨fun w => ?_, fun w => ?_⟩
  · refine f_X10_nextStation X a1 h1 hp ⟨fun k => ?_, fun k => ?_⟩
    · unfold wtF at hP
      rw [if_neg w, if_pos k] at hP
      exact hP
    · obtain ⟨r, hr, hpr, er⟩ : ∃ r, r < N ∧ p < r ∧ nsF G N p = Int32.ofNat r := by
        rcases nsF_sp (G := G) (p := p) N16 with z | z
        · exact absurd z k
        · exact z
      have tr : ti (nsF G N p) = (r : Int) := by rw [er]; exact nI_t (by omega)
      have nr : (nsF G N p).toNatClampNeg = r := by rw [er]; exact ofNat_c (by omega)
      unfold wtF at hP
      rw [if_neg w, if_neg k, nr] at hP
      rw [show a1.toNatClampNeg = p by omega, h47 p hp]
      refine ⟨vin (by omega), fun c => ?_, fun c => ?_⟩
      · have c1 := lt_t c
        rw [if_neg (fun z => by have := le_t z; omega)] at hP
        have go : ∀ (n i : Nat) (x_4 x_5 : Int32), ti x_5 = (i : Int) → p ≤ i → i ≤ r → x_4 = a2 + (smT (mnF G) i - smT (mnF G) p) → r - i < n → w_X10_waitAt_43 a1 a2 (nsF G N p) P n x_4 x_5 σ := by
          intro n
          induction n with
          | zero => intro i x_4 x_5 _ _ _ _ h; omega
          | succ n ih =>
            intro i x_4 x_5 hi hpi hir h4 hn
            unfold w_X10_waitAt_43
            refine ⟨fun q => ?_, fun q => ?_⟩
            · have cc := le_t q
              have e : i = r := by omega
              subst e
              rw [nr, h47 i hr, show a1.toNatClampNeg = p by omega, h47 p hp, h4]
              refine ⟨vin (by omega), fun c2 => ?_, fun c2 => ⟨vin (by omega), ?_⟩⟩
              · rw [if_pos c2] at hP
                exact hP
              · rw [if_neg c2] at hP
                exact hP
            · have cc := nle_t q
              have tn := tn_eq x_5
              have tx := tadd (x := x_5) (y := (1 : Int32)) (by omega)
              rw [show x_5.toNatClampNeg = i by omega, (X.2.2.2.2.2.2.2.2.2 i (by omega)).2.2]
              refine ⟨vin (by omega), fun x9 e9 x10 e10 => ?_⟩
              have f := eq_t e10
              refine ih (i + 1) x9 x10 (by omega) (by omega) (by omega) ?_ (by omega)
              rw [e9, h4]
              exact i_mv _ _ _ _
        exact ⟨100, go 100 p a2 a1 h1 (by omega) (by omega) (by rw [Int32.sub_self, Int32.add_zero]) (by omega)⟩
      · have c1 := nlt_t c
        have c2 : oaF G N p ≤ a2 := Classical.byContradiction (fun z => by have := nle_t z; omega)
        rw [if_pos c2] at hP
        exact hP
  · unfold wtF at hP
    rw [if_pos w] at hP
    exact hP
def FoR (G : Nat → Int32) (N : Nat) (st : Nat → Bool) (i : Nat) (σ : zSto) : Prop := (∀ q, q < i → σ.1 239 q = aaF G N st q ∧ σ.1 246 q = wwF G N st q) ∧ σ.1 223 43 = mtF G N st i
def FrM (σ σ2 : zSto) : Prop := ∀ k j, k ≠ 239 → k ≠ 246 → k ≠ 247 → ¬ (k = 223 ∧ j = 43) → σ2.1 k j = σ.1 k j
theorem FrM_X {l R N : Nat} {G cs pd : Nat → Int32} {σ σ2 : zSto} (h : RfX l R N G cs pd σ) (f : FrM σ σ2) : RfX l R N G cs pd σ2 := RfX_fr h (fun j a b => f 223 j (by omega) (by omega) (by omega) (by omega)) (fun k j z => f k j (by omega) (by omega) (by omega) (by omega))
set_option maxHeartbeats 8000000 in
theorem f_X10_meetOther {l R N : Nat} {G pd : Nat → Int32} {σ : zSto} (X : RfX l R N G (csI G) pd σ) {st : Nat → Bool} (hst : ∀ p, p + 1 < N → (st p = true ↔ ¬ σ.1 240 p = -1)) {P : zSto → Prop} (hP : ∀ σ2, FrM σ σ2 → FoR G N st N σ2 → P σ2) : w_X10_meetOther σ P := by
  have l0 := lit_0
  have l1 := lit_1
  have lm := lit_m1
  have N1 := X.2.2.2.2.2.1
  have N16 := X.2.2.2.2.2.2.1
  have h24 := X.2.2.1
  have h25 := X.2.2.2.1
  have go2 : ∀ (n i : Nat) (x_1 x_2 : Int32) (σ3 : zSto), FrM σ σ3 → (∀ q, q < N → σ3.1 247 q = oaF G N q) → ti x_2 = (i : Int) → i ≤ N → (i + 1 ≤ N → x_1 = aaF G N st i) → FoR G N st i σ3 → N - i < n → w_X10_meetOther_62 P n x_1 x_2 σ3 := by
    intro n
    induction n with
    | zero => intro i x_1 x_2 σ3 _ _ _ _ _ _ h; omega
    | succ n ih =>
      intro i x_1 x_2 σ3 fr h47 hi hiN h1 hF hn
      have X3 := FrM_X X fr
      have g24 := X3.2.2.1
      have g25 := X3.2.2.2.1
      unfold w_X10_meetOther_62
      refine ⟨fun q => ?_, fun q => ?_⟩
      · have c := le_t q
        have e : i = N := by omega
        subst e
        exact hP σ3 fr hF
      · have c := nle_t q
        have tx := tadd (x := x_2) (y := (1 : Int32)) (by omega)
        have tn := tn_eq x_2
        have tn' := tn_eq (x_2 + (1 : Int32))
        have e2 := nI_x hi (by omega)
        have n2 : x_2.toNatClampNeg = i := by omega
        have v1 := h1 (by omega)
        obtain ⟨F1, F3⟩ := hF
        rw [n2]
        refine ⟨vin (by omega), fun σ8 e8 => ⟨vin (by omega), fun σ10 e10 => ?_⟩⟩
        have f10 : FrM σ σ10 := fun k j a b d e => by rw [zI_q' e10 (by omega), zI_q' e8 (by omega), fr k j a b d e]
        have X10 := FrM_X X f10
        have w47 : ∀ q, q < N → σ10.1 247 q = oaF G N q := fun q hq => by rw [zI_q' e10 (by omega), zI_q' e8 (by omega)]; exact h47 q hq
        have w25 := X10.2.2.2.1
        have m10 : σ10.1 223 43 = mtF G N st i := by rw [zI_q' e10 (by omega), zI_q' e8 (by omega), F3]
        refine ⟨fun k x11 e11 => ?_, fun k => ?_⟩
        · have k1 := le_t k
          have f := eq_t e11
          refine ih (i + 1) x_1 x11 σ10 f10 w47 (by omega) (by omega) (fun z => by omega) ⟨fun q hq => ?_, ?_⟩ (by omega)
          · by_cases d : q = i
            · subst d
              refine ⟨by rw [zI_q' e10 (by omega), e8, zI_s, v1], ?_⟩
              rw [e10, zI_s]
              exact (wtF_l N16 (by omega) _).symm
            · rw [zI_q' e10 (by omega), zI_q' e8 (by omega), zI_q' e10 (by omega), zI_q' e8 (by omega)]
              exact F1 q (by omega)
          · rw [m10, mtF_1, if_neg (fun z => by omega)]
        · have k1 := nle_t k
          have hs := hst i (by omega)
          have g40 : σ10.1 240 i = σ.1 240 i := f10 240 i (by omega) (by omega) (by omega) (by omega)
          have c10 := X10.2.2.2.2.2.2.2.2.2 i (by omega)
          have body : ∀ x13 : Int32, x13 = rdF G N st i → (w_X10_waitAt x_2 x13 σ10 (fun (r15 : Int32) (σ14 : zSto) => (vp_in x_2 16 ∧ (∀ σ17 : zSto, σ17 = zI σ14 246 (x_2).toNatClampNeg r15 → (vp_in x_2 16 ∧ (∀ x19 : Int32, x19 = (x13 + (σ17.1 246 (x_2).toNatClampNeg)) → (vp_in x_2 16 ∧ (∀ x21 : Int32, x21 = (x19 + (σ17.1 236 (x_2).toNatClampNeg)) → ((¬ (σ17.1 223 43) = (-1 : Int32) → (∀ σ22 : zSto, σ22 = zI σ17 223 43 (σ17.1 223 43) → (∀ x23 : Int32, x23 = (x_2 + (1 : Int32)) → w_X10_meetOther_62 P n x21 x23 σ22))) ∧ ((σ17.1 223 43) = (-1 : Int32) → (vp_in x_2 16 ∧ (((σ17.1 247 (x_2).toNatClampNeg) ≤ x19 → (∀ σ25 : zSto, σ25 = zI σ17 223 43 (σ17.1 223 43) → (∀ x26 : Int32, x26 = (x_2 + (1 : Int32)) → w_X10_meetOther_62 P n x21 x26 σ25))) ∧ (¬ (σ17.1 247 (x_2).toNatClampNeg) ≤ x19 → (vp_in (x_2 + (1 : Int32)) 16 ∧ ((x21 ≤ (σ17.1 247 ((x_2 + (1 : Int32))).toNatClampNeg) → (∀ σ28 : zSto, σ28 = zI σ17 223 43 (σ17.1 223 43) → (∀ x29 : Int32, x29 = (x_2 + (1 : Int32)) → w_X10_meetOther_62 P n x21 x29 σ28))) ∧ (¬ x21 ≤ (σ17.1 247 ((x_2 + (1 : Int32))).toNatClampNeg) → (∀ σ30 : zSto, σ30 = zI σ17 223 43 x_2 → (∀ x31 : Int32, x31 = (x_2 + (1 : Int32)) → w_X10_meetOther_62 P n x21 x31 σ30)))))))))))))))))) := fun x13 e13 => by
            rw [n2]
            refine f_X10_waitAt X10 w47 x_2 x13 hi (by omega) ⟨vin (by omega), fun σ17 e17 => ⟨vin (by omega), fun x19 e19 => ⟨vin (by omega), fun x21 e21 => ?_⟩⟩⟩
            have f17 : FrM σ σ17 := fun k j a b d e => by rw [zI_q' e17 (by omega), f10 k j a b d e]
            have X17 := FrM_X X f17
            have z47 : ∀ q, q < N → σ17.1 247 q = oaF G N q := fun q hq => by rw [zI_q' e17 (by omega)]; exact w47 q hq
            have v17 : σ17.1 246 i = wwF G N st i := by
              rw [e17, zI_s, e13]
              rfl
            have w19 : x19 = rdF G N st i + wwF G N st i := by rw [e19, v17, e13]
            have w21 : x21 = aaF G N st (i + 1) := by
              rw [e21, w19, (X17.2.2.2.2.2.2.2.2.2 i (by omega)).2.2]
              rfl
            have m17 : σ17.1 223 43 = mtF G N st i := by rw [zI_q' e17 (by omega), m10]
            have q17 : ∀ q, q < i + 1 → σ17.1 239 q = aaF G N st q ∧ σ17.1 246 q = wwF G N st q := fun q hq => by
              by_cases d : q = i
              · subst d
                exact ⟨by rw [zI_q' e17 (by omega), zI_q' e10 (by omega), e8, zI_s, v1], v17⟩
              · rw [zI_q' e17 (by omega), zI_q' e10 (by omega), zI_q' e8 (by omega), zI_q' e17 (by omega), zI_q' e10 (by omega), zI_q' e8 (by omega)]
                exact F1 q (by omega)
            rw [m17, show (x_2 + (1 : Int32)).toNatClampNeg = i + 1 by omega, z47 i (by omega), z47 (i + 1) (by omega)]
            have fin : ∀ (v : Int32) (σ22 : zSto) (x23 : Int32), σ22 = zI σ17 223 43 v → v = mtF G N st (i + 1) → x23 = x_2 + (1 : Int32) → w_X10_meetOther_62 P n x21 x23 σ22 := fun v σ22 x23 e22 ev e23 => by
              have f := eq_t e23
              refine ih (i + 1) x21 x23 σ22 (fun k j a b d e => by rw [zI_q' e22 (by omega), f17 k j a b d e]) (fun q hq => by rw [zI_q' e22 (by omega)]; exact z47 q hq) (by omega) (by omega) (fun _ => w21) ⟨fun q hq => ?_, ?_⟩ (by omega)
              · rw [zI_q' e22 (by omega), zI_q' e22 (by omega)]
                exact q17 q hq
              · rw [e22, zI_s, ev]
            have no : ¬ (mtF G N st i = -1 ∧ i + 1 < N ∧ ¬ oaF G N i ≤ rdF G N st i + wwF G N st i ∧ ¬ aaF G N st (i + 1) ≤ oaF G N (i + 1)) → mtF G N st i = mtF G N st (i + 1) := fun z => by rw [mtF_1, if_neg z]
            refine ⟨fun k σ22 e22 x23 e23 => fin _ σ22 x23 e22 (no (fun z => k z.1)) e23, fun k => ⟨vin (by omega), fun k3 σ22 e22 x23 e23 => fin _ σ22 x23 e22 (no (fun z => z.2.2.1 (by rw [← w19]; exact k3))) e23, fun k3 => ⟨vin (by omega), fun k4 σ22 e22 x23 e23 => fin _ σ22 x23 e22 (no (fun z => z.2.2.2 (by rw [← w21]; exact k4))) e23, fun k4 σ22 e22 x23 e23 => fin _ σ22 x23 e22 ?_ e23⟩⟩⟩
            rw [mtF_1, if_pos ⟨k, by omega, by rw [← w19]; exact k3, by rw [← w21]; exact k4⟩]
            exact e2
          rw [g40, c10.1]
          refine ⟨vin (by omega), fun z x13 e13 => ?_, fun z => ⟨vin (by omega), fun x33 e33 => ?_⟩⟩
          · have y := body x13 (by
              rw [e13, v1]
              unfold rdF
              rw [if_neg (fun w => hs.mp w z)])
            rw [n2] at y
            exact y
          · have y := body x33 (by
              rw [e33, v1]
              unfold rdF
              rw [if_pos (hs.mpr z)])
            rw [n2] at y
            exact y
  have go1 : ∀ (n i : Nat) (x_1 : Int32) (σ3 : zSto), FrM σ σ3 → ti x_1 + 1 = (i : Int) → i + 1 ≤ N → (∀ q, i ≤ q → q < N → σ3.1 247 q = oaF G N q) → i < n → w_X10_meetOther_22 P n x_1 σ3 := by
    intro n
    induction n with
    | zero => intro i x_1 σ3 _ _ _ _ h; omega
    | succ n ih =>
      intro i x_1 σ3 fr hi hiN h47 hn
      have X3 := FrM_X X fr
      unfold w_X10_meetOther_22
      refine ⟨fun q σ6 e6 => ?_, fun q => ?_⟩
      · have c := lt_t q
        refine ⟨100, go2 100 0 (0 : Int32) (0 : Int32) σ6 (fun k j a b d e => by rw [zI_q' e6 (by omega), fr k j a b d e]) (fun q hq => by rw [zI_q' e6 (by omega)]; exact h47 q (by omega) hq) lit_0 (by omega) (fun _ => rfl) ⟨fun q hq => absurd hq (Nat.not_lt_zero q), ?_⟩ (by omega)⟩
        rw [e6, zI_s]
        rfl
      · have c := nlt_t q
        have tx := tadd (x := x_1) (y := (1 : Int32)) (by omega)
        have ty := tadd (x := x_1) (y := (-1 : Int32)) (by omega)
        have tn := tn_eq x_1
        have tn' := tn_eq (x_1 + (1 : Int32))
        obtain ⟨m, hm⟩ : ∃ m, i = m + 1 := ⟨i - 1, by omega⟩
        subst hm
        rw [show x_1.toNatClampNeg = m by omega, show (x_1 + (1 : Int32)).toNatClampNeg = m + 1 by omega, h47 (m + 1) (by omega) (by omega), (X3.2.2.2.2.2.2.2.2.2 m (by omega)).2.2]
        refine ⟨vin (by omega), vin (by omega), vin (by omega), fun σ55 e55 x56 e56 => ?_⟩
        have f := eq_t e56
        refine ih m x56 σ55 (fun k j a b d e => by rw [zI_q' e55 (by omega), fr k j a b d e]) (by omega) (by omega) (fun q hq hqN => ?_) (by omega)
        by_cases d : q = m
        · subst d
          rw [e55, zI_s]
          exact oaF_r G N q
        · rw [zI_q' e55 (by omega)]
          exact h47 q (by omega) hqN
  have tn := tn_eq (σ.1 223 25)
  unfold w_X10_meetOther
  refine f_of (s := 6) X.1 X.2.1 _ lit_6 (by omega) ?_
  rw [X.2.2.2.2.2.2.2.2.1 6 (by omega), show (σ.1 223 25).toNatClampNeg = N - 1 by omega]
  refine ⟨vin (by omega), fun σ4 e4 x5 e5 => ?_⟩
  have f4 : FrM σ σ4 := fun k j a b d e => zI_q' e4 (by omega)
  rw [zI_q' e4 (by omega)] at e5
  have ts := tsub (x := σ.1 223 25) (y := (1 : Int32)) (by omega)
  have f5 := eq_t e5
  refine ⟨100, go1 100 (N - 1) x5 σ4 f4 (by omega) (by omega) (fun q hq hqN => ?_) (by omega)⟩
  rw [show q = N - 1 by omega, e4, zI_s]
  show _ = G 6 + smT (mnF G) (N - 1) - smT (mnF G) (N - 1)
  exact (Int32.add_sub_cancel _ _).symm
