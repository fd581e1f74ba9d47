/-! rest on both sides -/
theorem ix6 : ∀ s, s < 64 → ∀ i, i < 6 → ((Int32.ofNat s * (6 : Int32)) + Int32.ofNat i).toInt = 6 * (s : Int) + (i : Int) := by decide +kernel
theorem xr6 : ∀ k, k < 64 → ∀ r, r < 6 → Int32.ofNat k ^^^ ((1 : Int32) <<< (Int32.ofNat r &&& 31)) = Int32.ofNat (k ^^^ 2 ^ r) := by decide +kernel
theorem xr_lt : ∀ R, R < 7 → ∀ k, k < 2 ^ R → ∀ r, r < R → k ^^^ 2 ^ r < 2 ^ R := by decide +kernel
theorem ix_ti {x y : Int32} {s i : Nat} (hs : s < 64) (hi : i < 6) (ex : x = Int32.ofNat s) (ey : y = Int32.ofNat i) : ti (x * (6 : Int32) + y) = 6 * (s : Int) + (i : Int) := by
  rw [ti_eq, ex, ey]
  exact ix6 s hs i hi
theorem CsS_fr {N R : Nat} {G pd S : Nat → Int32} {i : Nat} {σ σ2 : zSto} (h : CsS N R G pd S i σ) (f : ∀ k j, 190 ≤ k → k ≤ 194 → σ2.1 k j = σ.1 k j) : CsS N R G pd S i σ2 := by
  obtain ⟨s0, s1, s2, s3, s4, s5, s6, s7, s8, s9⟩ := h
  refine ⟨?_, ?_, ?_, ?_, fun r hr => ?_, fun r hr => ?_, fun p hp => ?_, fun j hj => ?_, ?_, ?_⟩
  · rw [f 190 8 (by omega) (by omega)]; exact s0
  · rw [f 190 10 (by omega) (by omega)]; exact s1
  · rw [f 190 5 (by omega) (by omega)]; exact s2
  · rw [f 190 9 (by omega) (by omega)]; exact s3
  · rw [f 194 r (by omega) (by omega), f 193 r (by omega) (by omega)]; exact s4 r hr
  · rw [f 190 4 (by omega) (by omega)]; exact s5 r hr
  · rw [f 191 p (by omega) (by omega), f 192 p (by omega) (by omega)]; exact s6 p hp
  · rw [f 190 6 (by omega) (by omega)]; exact s7 j hj
  · rw [f 190 7 (by omega) (by omega)]; exact s8
  · rw [f 190 11 (by omega) (by omega)]; exact s9
set_option maxHeartbeats 4000000 in
theorem f_X9_keepGains {t N R : Nat} {G pd S : Nat → Int32} {i0 : Nat} (ht : okT t) {σ : zSto} (L : LnR t G σ) (hN : ti (G 0) = (N : Int)) (hR : ti (G 1) = (R : Int)) (ln : LnN N R G) (T : CsS N R G pd S i0 σ) (a2 : Int32) {s : Nat} (h2 : ti a2 = (s : Int)) (hs : s < 64) {P : zSto → Prop} (hP : ∀ σ2, (∀ k j, k ≠ 222 → σ2.1 k j = σ.1 k j) → (∀ j, (j < 6 * s ∨ 6 * s + 6 ≤ j) → σ2.1 222 j = σ.1 222 j) → (∀ r, r < R → σ2.1 222 (6 * s + r) = gnA G S r) → P σ2) : w_X9_keepGains t a2 σ P := by
  have l0 := lit_0
  have l1 := lit_1
  have R6 := ln.2.1
  have e2 := nI_x h2 (by omega)
  have go : ∀ (n i : Nat) (x_3 : Int32) (σ3 : zSto), ti x_3 = (i : Int) → i ≤ R → (∀ k j, k ≠ 222 → σ3.1 k j = σ.1 k j) → (∀ j, (j < 6 * s ∨ 6 * s + 6 ≤ j) → σ3.1 222 j = σ.1 222 j) → (∀ r, r < i → σ3.1 222 (6 * s + r) = gnA G S r) → R - i < n → w_X9_keepGains_2 t a2 P n x_3 σ3 := by
    intro n
    induction n with
    | zero => intro i x_3 σ3 _ _ _ _ _ h; omega
    | succ n ih =>
      intro i x_3 σ3 hi hiR f1 f2 f3 hn
      have L3 : LnR t G σ3 := LnR_fr L (fun k j a b => f1 k j (by unfold okT at ht; omega))
      have T3 := CsS_fr T (fun k j a b => f1 k j (by omega))
      have e12 : ti (σ3.1 t 12) = (R : Int) := by rw [L3.1 1 (by omega)]; exact hR
      unfold w_X9_keepGains_2
      refine ⟨fun q => ?_, fun q => ?_⟩
      · have c := le_t q
        have e : i = R := by omega
        subst e
        exact hP σ3 f1 f2 f3
      · have c := nle_t q
        have tx := tadd (x := x_3) (y := (1 : Int32)) (by omega)
        have e3 := nI_x hi (by omega)
        have tix := ix_ti hs (show i < 6 by omega) e2 e3
        have tn := tn_eq (a2 * (6 : Int32) + x_3)
        refine f_X5_gainOf L3 hN hR ln T3 x_3 hi (by omega) ⟨vin (by omega), fun σ4 e4 x5 e5 => ?_⟩
        have f := eq_t e5
        rw [show (a2 * (6 : Int32) + x_3).toNatClampNeg = 6 * s + i by omega] at e4
        refine ih (i + 1) x5 σ4 (by omega) (by omega) (fun k j a => by rw [zI_q' e4 (Or.inl a)]; exact f1 k j a) (fun j a => by rw [zI_q' e4 (Or.inr (by omega))]; exact f2 j a) (fun r hr => ?_) (by omega)
        by_cases d : r = i
        · subst d
          rw [e4, zI_s]
        · rw [zI_q' e4 (Or.inr (by omega))]
          exact f3 r (by omega)
  exact ⟨100, go 100 0 (0 : Int32) σ lit_0 (by omega) (fun _ _ _ => rfl) (fun _ _ => rfl) (fun r hr => absurd hr (Nat.not_lt_zero r)) (by omega)⟩
/-- the gains of the sets, i of them -/
def GnS (R i : Nat) (gn : Nat → Nat → Int32) (σ : zSto) : Prop := ∀ s, s < i → ∀ r, r < R → σ.1 222 (6 * s + r) = gn s r
set_option maxHeartbeats 4000000 in
theorem f_X9_fillGains {t N R : Nat} {G : Nat → Int32} (ht : okT t) {σ : zSto} (L : LnR t G σ) (hN : ti (G 0) = (N : Int)) (hN1 : 1 ≤ N) (hN16 : N ≤ 16) (hR : ti (G 1) = (R : Int)) (hR6 : R ≤ 6) (ln : LnN N R G) (a2 : Int32) {P : zSto → Prop} (hP : ∀ σ2, LnR t G σ2 → GnS R (2 ^ R) (fun k r => gnA G (rnA 0 R (bt (Int32.ofNat k)) G a2 0 N) r) σ2 → P σ2) : w_X9_fillGains t a2 σ P := by
  have l0 := lit_0
  have l1 := lit_1
  have ev := ev_ti hR6
  have pw := pw_le hR6
  obtain ⟨M, hM⟩ : ∃ M : Nat, M = 2 ^ R := ⟨_, rfl⟩
  rw [← hM] at ev pw hP
  obtain ⟨gn, hgn⟩ : ∃ gn : Nat → Nat → Int32, gn = fun k r => gnA G (rnA 0 R (bt (Int32.ofNat k)) G a2 0 N) r := ⟨_, rfl⟩
  rw [← hgn] at hP
  have go : ∀ (n i : Nat) (x_3 : Int32) (σ3 : zSto), LnR t G σ3 → ti x_3 = (i : Int) → i ≤ M → GnS R i gn σ3 → M - i < n → w_X9_fillGains_2 t a2 P n x_3 σ3 := by
    intro n
    induction n with
    | zero => intro i x_3 σ3 _ _ _ _ h; omega
    | succ n ih =>
      intro i x_3 σ3 L3 hi hiM g3 hn
      have e12 : σ3.1 t 12 = Int32.ofNat R := t_inj (by rw [L3.1 1 (by omega), hR]; exact (nI_t (by omega)).symm)
      unfold w_X9_fillGains_2 w_X0_riderSets
      rw [e12]
      refine ⟨fun q => ?_, fun q => ?_⟩
      · have c := le_t q
        have e : i = M := by omega
        subst e
        exact hP σ3 L3 g3
      · have c := nle_t q
        have tx := tadd (x := x_3) (y := (1 : Int32)) (by omega)
        have e3 := nI_x hi (by omega)
        refine f_X5_byLaw (so := bt (Int32.ofNat i)) ht L3 hN hN1 hN16 hR hR6 (0 : Int32) (0 : Int32) a2 x_3 (by omega) (fun r hr => by rw [e3]) (fun σ6 f6 T6 => ?_)
        have L6 := LnR_C ht L3 f6
        refine f_X9_keepGains ht L6 hN hR ln T6 x_3 hi (by omega) (fun σ7 k1 k2 k3 => fun x5 e5 => ?_)
        have f := eq_t e5
        refine ih (i + 1) x5 σ7 (LnR_fr L6 (fun k j a b => k1 k j (by unfold okT at ht; omega))) (by omega) (by omega) (fun s hs r hr => ?_) (by omega)
        by_cases d : s = i
        · subst d
          rw [k3 r hr, hgn]
          rfl
        · rw [k2 (6 * s + r) (by omega), f6 222 (6 * s + r) (by omega)]
          exact g3 s (by omega) r hr
  exact ⟨100, go 100 0 (0 : Int32) σ L lit_0 (by omega) (fun s hs => absurd hs (Nat.not_lt_zero s)) (by omega)⟩
set_option maxHeartbeats 4000000 in
theorem f_X9_isAtRest {t R M : Nat} {G : Nat → Int32} {gn : Nat → Nat → Int32} {σ : zSto} (L : LnR t G σ) (hR : ti (G 1) = (R : Int)) (hR6 : R ≤ 6) (hM : M = 2 ^ R) (g : GnS R M gn σ) (a2 : Int32) {k : Nat} (h2 : ti a2 = (k : Int)) (hk : k < M) {P : Int32 → zSto → Prop} (h1 : (∀ r, r < R → gn (k ^^^ 2 ^ r) r ≤ gn k r) → P 1 σ) (h0 : ¬ (∀ r, r < R → gn (k ^^^ 2 ^ r) r ≤ gn k r) → P 0 σ) : w_X9_isAtRest t a2 σ P := by
  have l0 := lit_0
  have l1 := lit_1
  have pw := pw_le hR6
  have xl : ∀ r, r < R → k ^^^ 2 ^ r < M := fun r hr => by rw [hM]; exact xr_lt R (by omega) k (by omega) r hr
  rw [← hM] at pw
  have e2 := nI_x h2 (by omega)
  have e12 : ti (σ.1 t 12) = (R : Int) := by rw [L.1 1 (by omega)]; exact hR
  have go : ∀ (n i : Nat) (x_3 : Int32), ti x_3 = (i : Int) → i ≤ R → (∀ r, r < i → gn (k ^^^ 2 ^ r) r ≤ gn k r) → R - i < n → w_X9_isAtRest_2 t a2 P n x_3 σ := by
    intro n
    induction n with
    | zero => intro i x_3 _ _ _ h; omega
    | succ n ih =>
      intro i x_3 hi hiR lo hn
      unfold w_X9_isAtRest_2
      refine ⟨fun q => ?_, fun q x1 e1 => ?_⟩
      · have c := le_t q
        have e : i = R := by omega
        subst e
        exact h1 lo
      · have c := nle_t q
        have tx := tadd (x := x_3) (y := (1 : Int32)) (by omega)
        have e3 := nI_x hi (by omega)
        have x64 := xl i (by omega)
        have ex1 : x1 = Int32.ofNat (k ^^^ 2 ^ i) := by rw [e1, e2, e3]; exact xr6 k (by omega) i (by omega)
        have ta := ix_ti (show k ^^^ 2 ^ i < 64 by omega) (show i < 6 by omega) ex1 e3
        have tb := ix_ti (show k < 64 by omega) (show i < 6 by omega) e2 e3
        have na := tn_eq (x1 * (6 : Int32) + x_3)
        have nb := tn_eq (a2 * (6 : Int32) + x_3)
        refine ⟨vin (by omega), vin (by omega), ?_⟩
        rw [show (x1 * (6 : Int32) + x_3).toNatClampNeg = 6 * (k ^^^ 2 ^ i) + i by omega, show (a2 * (6 : Int32) + x_3).toNatClampNeg = 6 * k + i by omega, g (k ^^^ 2 ^ i) x64 i (by omega), g k hk i (by omega)]
        refine ⟨fun y x4 e4 => ?_, fun y => h0 (fun z => y (z i (by omega)))⟩
        have f := eq_t e4
        refine ih (i + 1) x4 (by omega) (by omega) (fun r hr => ?_) (by omega)
        by_cases d : r = i
        · subst d; exact y
        · exact lo r (by omega)
  exact ⟨100, go 100 0 (0 : Int32) lit_0 (by omega) (fun r hr => absurd hr (Nat.not_lt_zero r)) (by omega)⟩
set_option maxHeartbeats 4000000 in
theorem f_X10_isRest {l N R M : Nat} {G : Nat → Int32} {a2 : Int32} {gn : Nat → Nat → Int32} (hgn : gn = fun k r => gnA G (rnA 0 R (bt (Int32.ofNat k)) G a2 0 N) r) (ln : LnN N R G) (hM : M = 2 ^ R) {σ : zSto} (X : RfX l R N G (csI G) (fun p => pdI G p a2) σ) (a1 : Int32) {k : Nat} (h1 : ti a1 = (k : Int)) (hk : k < M) {P : Int32 → zSto → Prop} (hP1 : (∀ r, r < R → gn (k ^^^ 2 ^ r) r ≤ gn k r) → ∀ σ2, RfX l R N G (csI G) (fun p => pdI G p a2) σ2 → P 1 σ2) (hP0 : ¬ (∀ r, r < R → gn (k ^^^ 2 ^ r) r ≤ gn k r) → ∀ σ2, RfX l R N G (csI G) (fun p => pdI G p a2) σ2 → P 0 σ2) : w_X10_isRest a1 σ P := by
  have l0 := lit_0
  have l1 := lit_1
  have R6 := ln.2.1
  have pw := pw_le R6
  rw [← hM] at pw
  have e1 := nI_x h1 (by omega)
  have go : ∀ (n i : Nat) (x_2 : Int32) (σ3 : zSto), RfX l R N G (csI G) (fun p => pdI G p a2) σ3 → ti x_2 = (i : Int) → i ≤ R → (∀ r, r < i → gn (k ^^^ 2 ^ r) r ≤ gn k r) → R - i < n → w_X10_isRest_2 a1 P n x_2 σ3 := by
    intro n
    induction n with
    | zero => intro i x_2 σ3 _ _ _ _ h; omega
    | succ n ih =>
      intro i x_2 σ3 X3 hi hiR lo hn
      have h26 := X3.2.2.2.2.1
      unfold w_X10_isRest_2
      refine ⟨fun q => ?_, fun q => ?_⟩
      · have c := le_t q
        have e : i = R := by omega
        subst e
        exact hP1 lo σ3 X3
      · have c := nle_t q
        have tx := tadd (x := x_2) (y := (1 : Int32)) (by omega)
        have e2 := nI_x hi (by omega)
        have ex1 : a1 ^^^ ((1 : Int32) <<< (x_2 &&& 31)) = Int32.ofNat (k ^^^ 2 ^ i) := by rw [e1, e2]; exact xr6 k (by omega) i (by omega)
        unfold w_X10_gainOf
        rw [ex1]
        refine f_X10_go (so := bt (Int32.ofNat (k ^^^ 2 ^ i))) X3 (0 : Int32) (0 : Int32) _ (by omega) (fun r hr => rfl) (fun σ4 f4 T4 => ?_)
        have X4 := FrG_X X3 f4
        refine f_X10_gainNow X4 ln T4.1 x_2 hi (by omega) ?_
        refine f_X10_go (so := bt (Int32.ofNat k)) X4 (0 : Int32) (0 : Int32) a1 (by omega) (fun r hr => by rw [e1]) (fun σ5 f5 T5 => ?_)
        have X5 := FrG_X X4 f5
        refine f_X10_gainNow X5 ln T5.1 x_2 hi (by omega) ?_
        have ga : gnA G (rnF (0 : Int32) R (bt (Int32.ofNat (k ^^^ 2 ^ i))) (csI G) (fun p => pdI G p a2) (rdG G) (0 : Int32) (N - 1)) i = gn (k ^^^ 2 ^ i) i := by rw [hgn]; rfl
        have gb : gnA G (rnF (0 : Int32) R (bt (Int32.ofNat k)) (csI G) (fun p => pdI G p a2) (rdG G) (0 : Int32) (N - 1)) i = gn k i := by rw [hgn]; rfl
        rw [ga, gb]
        refine ⟨fun y x5 e5 => ?_, fun y => hP0 (fun z => y (z i (by omega))) σ5 X5⟩
        have f := eq_t e5
        refine ih (i + 1) x5 σ5 X5 (by omega) (by omega) (fun r hr => ?_) (by omega)
        by_cases d : r = i
        · subst d; exact y
        · exact lo r (by omega)
  exact ⟨100, go 100 0 (0 : Int32) σ X lit_0 (by omega) (fun r hr => absurd hr (Nat.not_lt_zero r)) (by omega)⟩
def rsA (Rs : Nat → Bool) (a3 : Int32) : Nat → Nat → Int32 → Int32
  | 0, _, x => if a3 = -1 then x else -2
  | n + 1, i, x => if Rs i = true then (if x = a3 then Int32.ofNat i else rsA Rs a3 n (i + 1) (x + 1)) else rsA Rs a3 n (i + 1) x
theorem rsA_lo {Rs : Nat → Bool} {a3 : Int32} (h : ti a3 < -1) : ∀ (n i : Nat) (x : Int32), 0 ≤ ti x → ti x + n ≤ 1000 → rsA Rs a3 n i x = -2 := by
  have l1 := lit_1
  have lm1 := lit_m1
  intro n
  induction n with
  | zero =>
    intro i x _ _
    show (if a3 = -1 then x else -2) = -2
    rw [if_neg (fun z => by have := eq_t z; omega)]
  | succ n ih =>
    intro i x a b
    have tx := tadd (x := x) (y := (1 : Int32)) (by omega)
    show (if Rs i = true then (if x = a3 then Int32.ofNat i else rsA Rs a3 n (i + 1) (x + 1)) else rsA Rs a3 n (i + 1) x) = -2
    rw [if_neg (show ¬ x = a3 from fun z => by have := eq_t z; omega), ih (i + 1) (x + 1) (by omega) (by omega), ih (i + 1) x (by omega) (by omega), ite_self]
