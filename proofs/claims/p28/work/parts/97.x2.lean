/-! hold: the class's side -/
/-- what a LOG tells -/
def LgA (M : Nat) (qf vf : Nat → Int32) : Prop := M ≤ 10 ∧ ∀ k, k < M → (0 ≤ ti (qf k) ∧ ti (qf k) ≤ 15) ∧ (0 ≤ ti (vf k) ∧ ti (vf k) ≤ 999)
set_option maxHeartbeats 8000000 in
theorem f_fillDues {t q2 N M : Nat} {G qf vf : Nat → Int32} (ht : t + 12 ≤ 190) (hq2 : q2 + 3 ≤ 190) {σ : zSto} (L : LnR t G σ) (hN : ti (G 0) = (N : Int)) (hN16 : N ≤ 16) (lg : LgA M qf vf) (hq : ti (σ.1 q2 2) = (M : Int) ∧ ∀ k, k < M → σ.1 (q2 + 1) k = qf k ∧ σ.1 (q2 + 2) k = vf k) {P : Int32 → zSto → Prop} (h1 : ∀ σ2, (∀ k j, k ≠ 206 → σ2.1 k j = σ.1 k j) → (∀ k, k < M → ti (qf k) < (N : Int) ∧ σ2.1 206 (qf k).toNatClampNeg = vf k) → (∀ p : Nat, p < 16 → σ2.1 206 p = -1 ∨ ∃ k, k < M ∧ ti (qf k) = (p : Int) ∧ vf k = σ2.1 206 p) → P 1 σ2) (h0 : ∀ σ2, (∀ k j, k ≠ 206 → σ2.1 k j = σ.1 k j) → ((∃ k, k < M ∧ ¬ ti (qf k) < (N : Int)) ∨ ∃ k k', k < M ∧ k' < M ∧ ti (qf k) = ti (qf k') ∧ ¬ vf k = vf k') → P 0 σ2) : w_X6_fillDues t q2 σ P := by
  have l1 := lit_1
  have l16 := lit_16
  have lm := lit_m1
  have M10 := lg.1
  have go2 : ∀ (n k : Nat) (x_3 : Int32) (σ3 : zSto), (∀ k j, k ≠ 206 → σ3.1 k j = σ.1 k j) → ti x_3 = (k : Int) → k ≤ M → (∀ q, q < k → ti (qf q) < (N : Int) ∧ σ3.1 206 (qf q).toNatClampNeg = vf q) → (∀ p : Nat, p < 16 → σ3.1 206 p = -1 ∨ ∃ q, q < k ∧ ti (qf q) = (p : Int) ∧ vf q = σ3.1 206 p) → M - k < n → w_X6_fillDues_23 t q2 P n x_3 σ3 := by
    intro n
    induction n with
    | zero => intro k x_3 σ3 _ _ _ _ _ h; omega
    | succ n ih =>
      intro k x_3 σ3 fr hk hkM A B hn
      have L3 : LnR t G σ3 := LnR_fr L (fun k j a b => fr k j (by omega))
      have e11 : ti (σ3.1 t 11) = (N : Int) := by rw [L3.1 0 (by omega)]; exact hN
      have sz : ti (σ3.1 q2 2) = (M : Int) := by rw [fr q2 2 (by omega)]; exact hq.1
      unfold w_X6_fillDues_23
      refine ⟨fun q => ?_, fun q => ?_⟩
      · have c := le_t q
        have e : k = M := by omega
        subst e
        exact h1 σ3 fr A B
      · have c := nle_t q
        have kM : k < M := by omega
        have tx := tadd (x := x_3) (y := (1 : Int32)) (by omega)
        have tn := tn_eq x_3
        obtain ⟨⟨p0, p1⟩, v0, v1⟩ := lg.2 k kM
        have tnp := tn_eq (qf k)
        rw [show x_3.toNatClampNeg = k by omega, fr (q2 + 1) k (by omega), (hq.2 k kM).1]
        refine ⟨vin (by omega), fun x2 e2 => ?_⟩
        subst e2
        refine f_X0_hasPost t (qf k) (fun r4 z4 => fun _ => ⟨fun q4 => ?_, fun q4 => h0 σ3 fr (Or.inl ⟨k, kM, fun y => z4.mpr ⟨p0, by omega⟩ q4⟩)⟩)
        have w4 := z4.mp q4
        rw [fr (q2 + 2) k (by omega), (hq.2 k kM).2]
        have put : ∀ (σ8 : zSto) (x9 : Int32), σ8 = zI σ3 206 (qf k).toNatClampNeg (vf k) → x9 = x_3 + (1 : Int32) → (∀ q, q < k → ti (qf q) = ti (qf k) → vf q = vf k) → w_X6_fillDues_23 t q2 P n x9 σ8 := fun σ8 x9 e8 e9 same => by
          have f := eq_t e9
          refine ih (k + 1) x9 σ8 (fun k j x => by rw [zI_q' e8 (by omega), fr k j x]) (by omega) (by omega) (fun q hq' => ?_) (fun p hp => ?_) (by omega)
          · by_cases d : q = k
            · subst d
              exact ⟨by omega, by rw [e8, zI_s]⟩
            · have a := A q (by omega)
              refine ⟨a.1, ?_⟩
              have tnq := tn_eq (qf q)
              have rq := (lg.2 q (by omega)).1
              by_cases g : ti (qf q) = ti (qf k)
              · rw [show (qf q).toNatClampNeg = (qf k).toNatClampNeg by omega, e8, zI_s]
                exact (same q (by omega) g).symm
              · rw [zI_q' e8 (by omega)]
                exact a.2
          · by_cases d : p = (qf k).toNatClampNeg
            · subst d
              right
              exact ⟨k, by omega, by omega, by rw [e8, zI_s]⟩
            · rw [zI_q' e8 (by omega)]
              rcases B p hp with y | ⟨q, y1, y2, y3⟩
              · exact Or.inl y
              · exact Or.inr ⟨q, by omega, y2, y3⟩
        have same : ∀ q, q < k → ti (qf q) = ti (qf k) → vf q = σ3.1 206 (qf k).toNatClampNeg := fun q hq' g => by
          have a := (A q hq').2
          have tnq := tn_eq (qf q)
          rw [show (qf q).toNatClampNeg = (qf k).toNatClampNeg by omega] at a
          exact a.symm
        refine ⟨vin (by omega), fun z => ⟨vin (by omega), vin (by omega), fun σ8 e8 x9 e9 => put σ8 x9 e8 e9 (fun q hq' g => ?_)⟩, fun z => ⟨vin (by omega), vin (by omega), fun z2 => ⟨vin (by omega), vin (by omega), fun σ14 e14 x15 e15 => put σ14 x15 e14 e15 (fun q hq' g => (same q hq' g).trans z2)⟩, fun z2 => h0 σ3 fr (Or.inr ?_)⟩⟩
        · have y := eq_t ((same q hq' g).trans z)
          have rq := (lg.2 q (by omega)).2
          omega
        · rcases B (qf k).toNatClampNeg (by omega) with y | ⟨q, y1, y2, y3⟩
          · exact absurd y z
          · exact ⟨q, k, by omega, kM, by omega, by rw [y3]; exact z2⟩
  have go1 : ∀ (n i : Nat) (x_3 : Int32) (σ3 : zSto), (∀ k j, k ≠ 206 → σ3.1 k j = σ.1 k j) → ti x_3 = (i : Int) → i ≤ 16 → (∀ p, p < i → σ3.1 206 p = -1) → 16 - i < n → w_X6_fillDues_2 t q2 P n x_3 σ3 := by
    intro n
    induction n with
    | zero => intro i x_3 σ3 _ _ _ _ h; omega
    | succ n ih =>
      intro i x_3 σ3 fr hi hi16 hz hn
      unfold w_X6_fillDues_2
      refine ⟨fun q => ?_, fun q => ?_⟩
      · have c := le_t q
        have e : i = 16 := by omega
        subst e
        exact ⟨100, go2 100 0 (0 : Int32) σ3 fr lit_0 (by omega) (fun q hq' => absurd hq' (Nat.not_lt_zero q)) (fun p hp => Or.inl (hz p hp)) (by omega)⟩
      · have c := nle_t q
        have tx := tadd (x := x_3) (y := (1 : Int32)) (by omega)
        have tn := tn_eq x_3
        rw [show x_3.toNatClampNeg = i by omega]
        refine ⟨vin (by omega), fun σ17 e17 x18 e18 => ?_⟩
        have f := eq_t e18
        refine ih (i + 1) x18 σ17 (fun k j x => by rw [zI_q' e17 (by omega), fr k j x]) (by omega) (by omega) (fun p hp => ?_) (by omega)
        by_cases d : p = i
        · subst d
          rw [e17, zI_s]
        · rw [zI_q' e17 (by omega)]
          exact hz p (by omega)
  unfold w_X6_fillDues
  exact ⟨100, go1 100 0 (0 : Int32) σ (fun _ _ _ => rfl) lit_0 (by omega) (fun p hp => absurd hp (Nat.not_lt_zero p)) (by omega)⟩
/-- MINUTES of the way to POST p -/
noncomputable def wmI (G : Nat → Int32) (p : Nat) : Int := ti (smT (mnF G) p)
theorem wm_r {N R : Nat} {G : Nat → Int32} (ln : LnN N R G) : ∀ p, p ≤ N → 0 ≤ wmI G p ∧ wmI G p ≤ 30 * (p : Int) := by
  have N16 := ln.1
  intro p
  induction p with
  | zero => intro _; show 0 ≤ ti (0 : Int32) ∧ ti (0 : Int32) ≤ _; rw [lit_0]; omega
  | succ p ih =>
    intro hp
    have a := ih (by omega)
    have m := (ln.2.2.2.2.2.1 p (by omega)).1
    have e : mnF G p = G (7 + 5 * p) := rfl
    have a' : 0 ≤ ti (smT (mnF G) p) ∧ ti (smT (mnF G) p) ≤ 30 * (p : Int) := a
    show 0 ≤ ti (smT (mnF G) p + mnF G p) ∧ ti (smT (mnF G) p + mnF G p) ≤ _
    rw [tadd (by rw [e]; omega), e]
    omega
/-- what HOLDs leave behind in Sets: the family W of sets of n POSTS -/
def HoF (W : Nat → Bool) (n : Nat) (σ : zSto) : Prop := σ.1 200 7 = Int32.ofNat (cnF W (2 ^ n)) ∧ (∀ j, j < 32 → (bt (σ.1 200 9) j = true ↔ ∃ k, k < 2 ^ n ∧ W k = true ∧ k / 2 ^ j % 2 = 1)) ∧ (cnF W (2 ^ n) ≠ 0 → (∀ j, j < 32 → (bt (σ.1 200 8) j = true ↔ j < n ∧ ∀ k, k < 2 ^ n → W k = true → k / 2 ^ j % 2 = 1)) ∧ (∃ kf, kf < 2 ^ n ∧ W kf = true ∧ σ.1 200 10 = Int32.ofNat kf ∧ ∀ k, k < 2 ^ n → W k = true → kf ≤ k))
theorem f_allBits {b : Nat → Bool} {a c : Nat → Int} {o R : Nat} (hR : o + R ≤ 16) (hb : ∀ i, i < R → b (o + i) = true) {σ : zSto} (it : ItS b a c o R σ) {P : Int32 → zSto → Prop} (hP : ∀ r, (∀ j, j < 32 → (bt r j = true ↔ o ≤ j ∧ j < o + R)) → P r σ) : w_X6_allBits σ P := by
  have l1 := lit_1
  have cA : ∀ i, i ≤ R → cnF (fun i => b (o + i)) i = i := fun i hi => cnF_all i (fun r hr => hb r (by omega))
  have s6 := it.1
  rw [cA R (Nat.le_refl R)] at s6
  have go : ∀ (n i : Nat) (x_1 x_2 : Int32), ti x_2 = (i : Int) → i ≤ R → (∀ j, j < 32 → (bt x_1 j = true ↔ o ≤ j ∧ j < o + i)) → R - i < n → w_X6_allBits_4 P n x_1 x_2 σ := by
    intro n
    induction n with
    | zero => intro i x_1 x_2 _ _ _ h; omega
    | succ n ih =>
      intro i x_1 x_2 hi hiR h1 hn
      unfold w_X6_allBits_4
      refine ⟨fun q => ?_, fun q => ?_⟩
      · have c := le_t q
        have e : i = R := by omega
        subst e
        exact hP x_1 h1
      · have c := nle_t q
        have tx := tadd (x := x_2) (y := (1 : Int32)) (by omega)
        have tn := tn_eq x_2
        have y := (it.2 i (by omega) (hb i (by omega))).1
        rw [cA i hiR] at y
        rw [show x_2.toNatClampNeg = i by omega, y]
        refine ⟨vin (by omega), fun x2 e2 x3 e3 => ?_⟩
        have f := eq_t e3
        refine ih (i + 1) x2 x3 (by omega) (by omega) (fun j hj => ?_) (by omega)
        rw [e2, bt_or, Bool.or_eq_true, h1 j hj, bt_sl (o + i) (by omega) j hj]
        refine ⟨fun z => ?_, fun z => ?_⟩
        · rcases z with z | z
          · omega
          · have := of_decide_eq_true z
            omega
        · by_cases d : j = o + i
          · exact Or.inr (decide_eq_true d)
          · exact Or.inl (by omega)
  exact ⟨100, go 100 0 (0 : Int32) (0 : Int32) lit_0 (by omega) (fun j hj => by rw [bt_z]; exact ⟨fun z => absurd z (by decide), fun z => by omega⟩) (by omega)⟩
set_option maxHeartbeats 16000000 in
theorem f_findHolding {t q2 N R M : Nat} {G qf vf : Nat → Int32} {W : Nat → Bool} (ht : t + 12 ≤ 190) (hq2 : q2 + 3 ≤ 190) {σ : zSto} (L : LnR t G σ) (ln : LnN N R G) (hN : ti (G 0) = (N : Int)) (hN1 : 1 ≤ N) (lg : LgA M qf vf) (hq : ti (σ.1 q2 2) = (M : Int) ∧ ∀ k, k < M → σ.1 (q2 + 1) k = qf k ∧ σ.1 (q2 + 2) k = vf k) {c : Nat → Int} (hc : ∀ p, c p = ti (csI G p)) (hW : ∀ k, k < 2 ^ (N - 1) → (W k = true ↔ ∀ e, e < M → ti (qf e) < (N : Int) ∧ wmI G (qf e).toNatClampNeg + sF c (qf e).toNatClampNeg 0 k = ti (vf e))) {P : zSto → Prop} (hP : ∀ σ2, HoF W (N - 1) σ2 → P σ2) : w_X6_findHolding t q2 σ P := by
  have l0 := lit_0
  have l1 := lit_1
  have lm := lit_m1
  have N16 := ln.1
  obtain ⟨n, hn⟩ : ∃ n, n = N - 1 := ⟨_, rfl⟩
  rw [← hn] at hW hP
  have n15 : n ≤ 15 := by omega
  obtain ⟨b, hb⟩ : ∃ b : Nat → Bool, ∀ p, (b p = true ↔ p < n) := ⟨fun p => decide (p < n), fun p => ⟨of_decide_eq_true, decide_eq_true⟩⟩
  have rc : ∀ p, b p = true → 0 ≤ c p ∧ c p ≤ 1000 := fun p h => by
    have y := (hb p).mp h
    have := csI_rg ln (p := p) (by omega)
    rw [hc]; omega
  have rz : ∀ p, b p = true → 0 ≤ (fun _ : Nat => (0 : Int)) p ∧ (fun _ : Nat => (0 : Int)) p ≤ 1000 := fun p _ => by
    show (0 : Int) ≤ 0 ∧ (0 : Int) ≤ 1000
    omega
  have clear : ∀ {Q : zSto → Prop} (σ1 : zSto), (∀ σ3, (∀ k j, ¬ (k = 200 ∧ j = 6) → σ3.1 k j = σ1.1 k j) → σ3.1 200 6 = 0 → Q σ3) → w_X6_clear σ1 Q := fun {Q} σ1 h σ3 e3 => h σ3 (fun k j x => zI_q' e3 (by omega)) (by rw [e3, zI_s])
  -- how it ends, if there is none
  have nonE : ∀ (σ3 : zSto) (s x_3 x_4 x_6 : Int32), x_3 = 0 → cnF W (2 ^ n) = 0 → (∀ σ4 : zSto, σ4 = zI σ3 200 7 (x_3 <<< (s &&& 31)) → (∀ σ5 : zSto, σ5 = zI σ4 200 8 x_4 → (∀ σ10 : zSto, σ10 = zI σ5 200 9 (0 : Int32) → (∀ σ11 : zSto, σ11 = zI σ10 200 10 x_6 → P σ11)))) := fun σ3 s x_3 x_4 x_6 h3 h0 σ4 e4 σ5 e5 σ10 e10 σ11 e11 => by
    refine hP σ11 ⟨?_, fun j hj => ?_, fun z => absurd h0 z⟩
    · rw [zI_q' e11 (by omega), zI_q' e10 (by omega), zI_q' e5 (by omega), e4, zI_s, h3, h0]
      have y : (0 : Int32) <<< (s &&& 31) = 0 := by
        refine bt_ex (fun j hj => ?_)
        rw [bt_z]
        show ((0#32) <<< ((s &&& 31).toBitVec.smod 32)).getLsbD j = false
        simp
      exact y
    · rw [zI_q' e11 (by omega), e10, zI_s, bt_z]
      exact ⟨fun z => absurd z (by decide), fun ⟨k, h1, h2, _⟩ => absurd h0 (cn_ne h1 h2)⟩
  unfold w_X6_findHolding
  refine f_fillDues ht hq2 L hN N16 lg hq (fun σ1 f1 A B => ?_) (fun σ1 f1 bad => ?_)
  · refine fun _ => ⟨fun z => absurd z (by decide), fun _ => clear σ1 (fun σ44 f44 z44 => ?_)⟩
    obtain ⟨dv, hdv⟩ : ∃ dv : Nat → Int32, ∀ p, dv p = σ1.1 206 p := ⟨fun p => σ1.1 206 p, fun _ => rfl⟩
    have dr : ∀ p, p < 16 → ¬ dv p = -1 → 0 ≤ ti (dv p) ∧ ti (dv p) ≤ 999 := fun p hp z => by
      rw [hdv] at z ⊢
      rcases B p hp with y | ⟨k, y1, y2, y3⟩
      · exact absurd y z
      · rw [← y3]
        exact (lg.2 k y1).2
    obtain ⟨V, hV⟩ : ∃ V : Nat → Nat → Bool, ∀ i k, (V i k = true ↔ ∀ p, p < i → ¬ dv p = -1 → wmI G p + sF c p 0 k = ti (dv p)) := ⟨fun i k => @decide _ (Classical.propDecidable (∀ p, p < i → ¬ dv p = -1 → wmI G p + sF c p 0 k = ti (dv p))), fun i k => ⟨fun h => @of_decide_eq_true _ (Classical.propDecidable _) h, fun h => @decide_eq_true _ (Classical.propDecidable _) h⟩⟩
    have bool_ext : ∀ x y : Bool, (x = true ↔ y = true) → x = y := fun x y h => by
      cases x
      · cases y
        · rfl
        · exact (h.mpr rfl)
      · exact (h.mp rfl).symm
    have WV : ∀ k, k < 2 ^ n → W k = V N k := fun k hk => bool_ext _ _ (by
      rw [hW k hk, hV]
      refine ⟨fun z p hp hd => ?_, fun z e he => ?_⟩
      · rw [hdv] at hd
        rcases B p (by omega) with y | ⟨q, y1, y2, y3⟩
        · exact absurd y hd
        · have w := (z q y1).2
          have tnq := tn_eq (qf q)
          rw [show (qf q).toNatClampNeg = p by omega, y3] at w
          rw [hdv]
          exact w
      · have a := A e he
        have r := lg.2 e he
        have tnq := tn_eq (qf e)
        refine ⟨a.1, ?_⟩
        have w := z (qf e).toNatClampNeg (by omega) (by
          rw [hdv, a.2]
          intro y
          have := eq_t y
          omega)
        rw [hdv, a.2] at w
        exact w)
    have it0 : ItS b (fun _ => 0) c 0 0 σ44 := ItS_0 z44
    have go : ∀ (m i o r : Nat) (x_3 x_4 x_5 x_6 x_7 x_8 : Int32) (σ3 : zSto), (∀ k j, k < 200 ∨ k = 206 → σ3.1 k j = σ1.1 k j) → ti x_8 = (i : Int) → i ≤ N → o ≤ i → o + r = (if i ≤ n then i else n) → ItS b (fun _ => 0) c o r σ3 → FaS (V i) o x_3 x_4 x_5 x_6 → (∀ p, o < p → p < i → dv p = -1) → (∀ k, k < 2 ^ o → V i k = true → sF c o 0 k = ti x_7) → (-1000 ≤ ti x_7 ∧ ti x_7 ≤ 1000) → N - i < m → w_X6_findHolding_34 t P m x_3 x_4 x_5 x_6 x_7 x_8 σ3 := by
      intro m
      induction m with
      | zero => intro i o r x_3 x_4 x_5 x_6 x_7 x_8 σ3 _ _ _ _ _ _ _ _ _ _ h; omega
      | succ m ih =>
        intro i o r x_3 x_4 x_5 x_6 x_7 x_8 σ3 fr hi hiN hoi hor it hF hnd hB hx7 hm
        have on : o + r ≤ 15 := by
          rw [hor]
          split <;> omega
        have L3 : LnR t G σ3 := LnR_fr L (fun k j x y => by rw [fr k j (by omega), f1 k j (by omega)])
        have e11 : ti (σ3.1 t 11) = (N : Int) := by rw [L3.1 0 (by omega)]; exact hN
        have ts11 := tsub (x := σ3.1 t 11) (y := (1 : Int32)) (by omega)
        have br : ∀ q, q < r → b (o + q) = true := fun q hq' => (hb _).mpr (by
          have : o + r ≤ n := by
            rw [hor]
            split <;> omega
          omega)
        have cA : cnF (fun i => b (o + i)) r = r := cnF_all r br
        have s6 := it.1
        rw [cA] at s6
        have e6 : σ3.1 200 6 = Int32.ofNat r := t_inj (by rw [s6]; exact (nI_t (by omega)).symm)
        have pw : 2 ^ o ≤ 2 ^ 15 := Nat.pow_le_pow_right (by decide) (by omega)
        have cl := cnF_le (V i) (2 ^ o)
        have t3 : ti x_3 = (cnF (V i) (2 ^ o) : Int) := by rw [hF.1]; exact nI_t (by omega)
        have wm := wm_r ln
        -- there is none
        have zero : cnF (V i) (2 ^ o) = 0 → cnF W (2 ^ n) = 0 := fun z => cnF_z _ (fun k hk => by
          cases hw : W k
          · rfl
          · rw [WV k hk, hV] at hw
            have po : 0 < 2 ^ o := Nat.pow_pos (by decide)
            refine absurd z (cn_ne (W := V i) (k := k % 2 ^ o) (Nat.mod_lt _ po) ((hV i _).mpr (fun p hp hd => ?_)))
            by_cases g : p ≤ o
            · rw [sF_pre g]
              exact hw p (by omega) hd
            · exact absurd (hnd p (by omega) hp) hd)
        unfold w_X6_findHolding_34
        refine ⟨fun q => ?_, fun q => ?_⟩
        · have cc := le_t q
          have ei : i = N := by omega
          have orn : o + r = n := by rw [hor, if_neg (by omega)]
          intro σ4 e4 σ5 e5
          refine ⟨fun k => ?_, fun k => nonE σ3 _ x_3 x_4 x_6 k (zero (by have := eq_t k; omega)) σ4 e4 σ5 e5⟩
          have it5 : ItS b (fun _ => 0) c o r σ5 := ItS_fr it (by rw [zI_q' e5 (by omega), zI_q' e4 (by omega)]) (fun k j x y => by rw [zI_q' e5 (by omega), zI_q' e4 (by omega)])
          refine f_allBits (by omega) br it5 (fun r7 h7 => fun σ8 e8 σ9 e9 => ?_)
          have F2 := Fa_mul (V' := W) on hF (Sg_free (o := o) (R := r) (ma := r7) h7) (fun k hk => by
            rw [Bool.and_true, WV k (by rw [← orn]; exact hk)]
            refine bool_ext _ _ ?_
            rw [hV, hV, ei]
            refine ⟨fun z p hp hd => ?_, fun z p hp hd => ?_⟩
            · by_cases g : p ≤ o
              · rw [sF_pre g]; exact z p hp hd
              · exact absurd (hnd p (by omega) (by omega)) hd
            · by_cases g : p ≤ o
              · rw [← sF_pre g]; exact z p hp hd
              · exact absurd (hnd p (by omega) (by omega)) hd)
          rw [orn] at F2
          obtain ⟨g1, g2⟩ := F2
          have nz : cnF W (2 ^ n) ≠ 0 := fun z => by
            have k1 := ne_t k
            rw [z] at g1
            have y := eq_t g1
            have t2r : ti (Int32.ofNat (2 ^ r)) = ((2 ^ r : Nat) : Int) := nI_t (by
              have : 2 ^ r ≤ 2 ^ 15 := Nat.pow_le_pow_right (by decide) (by omega)
              omega)
            have p1 : 0 < 2 ^ r := Nat.pow_pos (by decide)
            have p2 : cnF (V i) (2 ^ o) * 2 ^ r ≤ 2 ^ o * 2 ^ r := Nat.mul_le_mul_right _ cl
            have p3 : 2 ^ o * 2 ^ r = 2 ^ (o + r) := (Nat.pow_add 2 o r).symm
            have p4 : 2 ^ (o + r) ≤ 2 ^ 15 := Nat.pow_le_pow_right (by decide) on
            have p5 : 0 < cnF (V i) (2 ^ o) * 2 ^ r := Nat.mul_pos (by omega) p1
            rw [tmul (by rw [t3, t2r, ← Int.natCast_mul]; omega), t3, t2r, ← Int.natCast_mul, show ti (Int32.ofNat 0) = ((0 : Nat) : Int) from nI_t (by omega)] at y
            omega
          obtain ⟨s1, m1, kf, u1, u2, u3, u4⟩ := g2 nz
          refine hP σ9 ⟨?_, fun j hj => ?_, fun _ => ⟨fun j hj => ?_, kf, u1, u2, ?_, u4⟩⟩
          · rw [zI_q' e9 (by omega), zI_q' e8 (by omega), zI_q' e5 (by omega), e4, zI_s, e6, hF.1, i_shl _ (by omega), ← g1, hF.1]
            have q2 : 2 ^ r ≤ 2 ^ 15 := Nat.pow_le_pow_right (by decide) (by omega)
            have q3 : cnF (V i) (2 ^ o) * 2 ^ r ≤ 2 ^ o * 2 ^ r := Nat.mul_le_mul_right _ cl
            have q4 : 2 ^ o * 2 ^ r = 2 ^ (o + r) := (Nat.pow_add 2 o r).symm
            have q5 : 2 ^ (o + r) ≤ 2 ^ 15 := Nat.pow_le_pow_right (by decide) on
            exact (i_mulN (by omega) (by omega) (by omega)).symm
          · rw [zI_q' e9 (by omega), e8, zI_s]
            exact m1 j hj
          · rw [zI_q' e9 (by omega), zI_q' e8 (by omega), e5, zI_s]
            have y := s1 j hj
            rw [bt_or, bt_z, Bool.or_false] at y
            exact y
          · rw [e9, zI_s, ← u3]
            refine bt_ex (fun j hj => ?_)
            rw [bt_or, bt_z, Bool.or_false]
        · have cc := nle_t q
          have iN : i < N := by omega
          have tx := tadd (x := x_8) (y := (1 : Int32)) (by omega)
          have tn := tn_eq x_8
          have e8 := nI_x hi (by omega)
          have ori : o + r = i := by rw [hor, if_pos (by omega)]
          refine ⟨fun k => ?_, fun k => ?_⟩
          · have k1 := le_t k
            have x0 : x_3 = 0 := t_inj (by omega)
            intro σ12 e12 σ13 e13
            exact ⟨fun y => absurd x0 y, fun _ => nonE σ3 _ x_3 x_4 x_6 x0 (zero (by omega)) σ12 e12 σ13 e13⟩
          · have k1 := nle_t k
            rw [show x_8.toNatClampNeg = i by omega, fr 206 i (by omega), ← hdv]
            -- on to the next POST
            have nxt : ∀ (o' r' : Nat) (y3 y4 y5 y6 y7 : Int32) (σ4 : zSto), (∀ k j, k < 200 ∨ k = 206 → σ4.1 k j = σ1.1 k j) → o' ≤ i → o' + r' = i → ItS b (fun _ => 0) c o' r' σ4 → FaS (V (i + 1)) o' y3 y4 y5 y6 → (∀ p, o' < p → p < i + 1 → dv p = -1) → (∀ k, k < 2 ^ o' → V (i + 1) k = true → sF c o' 0 k = ti y7) → (-1000 ≤ ti y7 ∧ ti y7 ≤ 1000) → ((((σ4.1 t 11) - (1 : Int32)) ≤ x_8 → (∀ x21 : Int32, x21 = (x_8 + (1 : Int32)) → w_X6_findHolding_34 t P m y3 y4 y5 y6 y7 x21 σ4)) ∧ (¬ ((σ4.1 t 11) - (1 : Int32)) ≤ x_8 → (w_X0_cost t x_8 σ4 (fun (r23 : Int32) (σ22 : zSto) => (w_X6_add x_8 (0 : Int32) r23 σ22 (fun (σ24 : zSto) => (∀ x25 : Int32, x25 = (x_8 + (1 : Int32)) → w_X6_findHolding_34 t P m y3 y4 y5 y6 y7 x25 σ24))))))) := fun o' r' y3 y4 y5 y6 y7 σ4 fr4 ho' hor' it4 F4 nd4 B4 by7 => by
              have L4 : LnR t G σ4 := LnR_fr L (fun k j x y => by rw [fr4 k j (by omega), f1 k j (by omega)])
              have g11 : ti (σ4.1 t 11) = (N : Int) := by rw [L4.1 0 (by omega)]; exact hN
              have gs := tsub (x := σ4.1 t 11) (y := (1 : Int32)) (by omega)
              refine ⟨fun z x21 e21 => ?_, fun z => ?_⟩
              · have z1 := le_t z
                have f := eq_t e21
                exact ih (i + 1) o' r' y3 y4 y5 y6 y7 x21 σ4 fr4 (by omega) (by omega) (by omega) (by rw [if_neg (by omega)]; omega) it4 F4 nd4 B4 by7 (by omega)
              · have z1 := nle_t z
                refine f_X0_cost L4 x_8 hi (by omega) (by omega) ?_
                refine f_X6_add it4 (by omega) ((hb _).mpr (by omega)) x_8 (0 : Int32) _ (by rw [hor']; exact e8) (by rw [l0]) (by rw [hor', hc]) (fun σ24 f24 it24 => fun x25 e25 => ?_)
                have f := eq_t e25
                exact ih (i + 1) o' (r' + 1) y3 y4 y5 y6 y7 x25 σ24 (fun k j x => by rw [f24 k j (by omega) (by omega), fr4 k j x]) (by omega) (by omega) (by omega) (by rw [if_pos (by omega)]; omega) it24 F4 nd4 B4 by7 (by omega)
            refine ⟨vin (by omega), fun z => ?_, fun z => ?_⟩
            · have Vs : ∀ k, V (i + 1) k = V i k := fun k => bool_ext _ _ (by
                rw [hV, hV]
                refine ⟨fun y p hp hd => y p (by omega) hd, fun y p hp hd => ?_⟩
                by_cases g : p = i
                · subst g; exact absurd z hd
                · exact y p (by omega) hd)
              refine nxt o r x_3 x_4 x_5 x_6 x_7 σ3 fr hoi ori it (FaS_cg hF (fun k _ => (Vs k).symm)) (fun p h1 h2 => ?_) (fun k hk hv => hB k hk (by rw [← Vs]; exact hv)) hx7
              by_cases g : p = i
              · subst g; exact z
              · exact hnd p h1 (by omega)
            · have d1 := dr i (by omega) z
              have wi := wm i (by omega)
              have wi' : 0 ≤ ti (smT (mnF G) i) ∧ ti (smT (mnF G) i) ≤ 30 * (i : Int) := wi
              have sa := tsub (x := dv i) (y := smT (mnF G) i) (by omega)
              have sb := tsub (x := dv i - smT (mnF G) i) (y := x_7) (by omega)
              refine ⟨vin (by omega), f_minutesTo L3 hN N16 x_8 hi (by omega) ?_⟩
              refine f_X6_find rz rc ⟨by omega, by omega⟩ it (0 : Int32) _ (fun σ29 f29 K29 => ?_)
              have Sg := Sg_find on K29
              have fr29 : ∀ k j, k < 200 ∨ k = 206 → σ29.1 k j = σ1.1 k j := fun k j x => by rw [f29 k j (by omega) (by omega) (by omega), fr k j x]
              have F2 := Fa_mul (V' := V (i + 1)) on hF Sg (fun k hk => bool_ext _ _ (by
                rw [ori] at hk
                have po : 0 < 2 ^ o := Nat.pow_pos (by decide)
                have ml := Nat.mod_lt k po
                have dl := jn_div (o := o) (R := r) (k := k) (by rw [ori]; exact hk)
                have sp := sF_add (f := c) o r 0 k
                rw [ori, Nat.zero_add] at sp
                rw [Bool.and_eq_true, fm_E, hV]
                refine ⟨fun y => ?_, fun y => ?_⟩
                · have v1 : V i (k % 2 ^ o) = true := (hV i _).mpr (fun p hp hd => by
                    by_cases g : p ≤ o
                    · rw [sF_pre g]; exact y p (by omega) hd
                    · exact absurd (hnd p (by omega) hp) hd)
                  have b1 := hB _ ml v1
                  rw [sF_pre (Nat.le_refl o)] at b1
                  have yi := y i (by omega) z
                  have yi' : ti (smT (mnF G) i) + sF c i 0 k = ti (dv i) := yi
                  refine ⟨v1, ?_, ?_, ?_⟩
                  · rw [bF_iff]
                    exact fun q hq' _ => br q hq'
                  · rw [sF_z (fun _ => rfl), l0]
                  · show sF c r o (k / 2 ^ o) = ti (dv i - smT (mnF G) i - x_7)
                    rw [sb, sa]
                    omega
                · obtain ⟨v1, _, _, s3⟩ := y
                  have s3' : sF c r o (k / 2 ^ o) = ti (dv i - smT (mnF G) i - x_7) := s3
                  rw [sb, sa] at s3'
                  have b1 := hB _ ml v1
                  rw [sF_pre (Nat.le_refl o)] at b1
                  rw [hV] at v1
                  intro p hp hd
                  by_cases g : p = i
                  · subst g
                    show ti (smT (mnF G) p) + sF c p 0 k = ti (dv p)
                    omega
                  · by_cases g2 : p ≤ o
                    · have w := v1 p (by omega) hd
                      rw [sF_pre g2] at w
                      exact w
                    · exact absurd (hnd p (by omega) (by omega)) hd))
              rw [ori] at F2
              intro x30 e30 x31 e31 x32 e32 x33 e33
              rw [← e30, ← e31, ← e32, ← e33] at F2
              have L29 : LnR t G σ29 := LnR_fr L (fun k j x y => by rw [fr29 k j (by omega), f1 k j (by omega)])
              refine ⟨vin (by omega), f_minutesTo L29 hN N16 x_8 hi (by omega) ?_⟩
              rw [fr29 206 i (by omega), ← hdv]
              intro x37 e37
              have e37' : x37 = dv i - smT (mnF G) i := e37
              refine clear σ29 (fun σ38 f38 z38 => ?_)
              exact nxt i 0 x30 x31 x32 x33 x37 σ38 (fun k j x => by rw [f38 k j (by omega), fr29 k j x]) (Nat.le_refl i) (by omega) (ItS_0 z38) F2 (fun p h1 h2 => by omega) (fun k hk hv => by
                have y := (hV _ _).mp hv i (by omega) z
                have y' : ti (smT (mnF G) i) + sF c i 0 k = ti (dv i) := y
                rw [e37', sa]
                omega) (by rw [e37', sa]; omega)
    refine ⟨100, go 100 0 0 0 (1 : Int32) (0 : Int32) (0 : Int32) (0 : Int32) (0 : Int32) (0 : Int32) σ44 (fun k j x => f44 k j (by omega)) lit_0 (by omega) (by omega) (by rw [if_pos (by omega)]) it0 ⟨?_, fun _ => ⟨fun j hj => ?_, fun j hj => ?_, 0, by decide, ?_, rfl, fun k hk _ => by omega⟩⟩ (fun p h1 h2 => by omega) (fun k _ _ => by rw [l0]; rfl) (by rw [l0]; omega) (by omega)⟩
    · have y : cnF (V 0) (2 ^ 0) = 1 := cnF_all 1 (fun r _ => (hV 0 r).mpr (fun p hp => absurd hp (Nat.not_lt_zero p)))
      rw [y]
      rfl
    · rw [bt_z]
      exact ⟨fun z => absurd z (by decide), fun z => absurd z.1 (Nat.not_lt_zero j)⟩
    · rw [bt_z]
      refine ⟨fun z => absurd z (by decide), fun ⟨k, h1, _, h3⟩ => ?_⟩
      have k0 : k = 0 := Nat.lt_one_iff.mp h1
      rw [k0, Nat.zero_div] at h3
      omega
    · exact (hV 0 0).mpr (fun p hp => absurd hp (Nat.not_lt_zero p))
  · have z0 : cnF W (2 ^ n) = 0 := cnF_z _ (fun k hk => by
      cases hw : W k
      · rfl
      · rw [hW k hk] at hw
        rcases bad with ⟨e, h1, h2⟩ | ⟨e, e', h1, h2, h3, h4⟩
        · exact absurd (hw e h1).1 h2
        · have y1 := (hw e h1).2
          have y2 := (hw e' h2).2
          have t1 := tn_eq (qf e)
          have t2 := tn_eq (qf e')
          rw [show (qf e).toNatClampNeg = (qf e').toNatClampNeg by omega] at y1
          exact absurd (t_inj (y1.symm.trans y2)) h4)
    refine fun _ => ⟨fun _ => clear σ1 (fun σ3 f3 z3 => ?_), fun z => absurd rfl z⟩
    refine ⟨10, ?_⟩
    have L3 : LnR t G σ3 := LnR_fr L (fun k j x y => by rw [f3 k j (by omega), f1 k j (by omega)])
    have e11 : ti (σ3.1 t 11) = (N : Int) := by rw [L3.1 0 (by omega)]; exact hN
    show w_X6_findHolding_34 t P (9 + 1) (0 : Int32) (0 : Int32) (0 : Int32) (0 : Int32) (0 : Int32) (0 : Int32) σ3
    unfold w_X6_findHolding_34
    refine ⟨fun q => by have := le_t q; omega, fun _ => ⟨fun _ σ12 e12 σ13 e13 => ⟨fun y => absurd rfl y, fun _ => nonE σ3 _ (0 : Int32) (0 : Int32) (0 : Int32) rfl z0 σ12 e12 σ13 e13⟩, fun q => by have := nle_t q; omega⟩⟩
