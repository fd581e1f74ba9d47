/-! bid on both sides -/
theorem LnR_up {G : Nat → Int32} {σ σ2 : zSto} {r c : Nat} (hr : r < 6) (hc : c < 6) {v : Int32} (e : σ2 = zI σ (216 + c) r v) (L : LnR 210 G σ) : LnR 210 (upI G (87 + 6 * r + c) v) σ2 := by
  refine ⟨fun s hs => ?_, fun p c' hp hc' hv => ?_, fun r' c' hr' hc' hv => ?_⟩
  · rw [zI_q' e (by omega), upI_q (by omega)]
    exact L.1 s hs
  · rw [upI_q (by omega)] at hv
    rw [zI_q' e (by omega), upI_q (by omega)]
    exact L.2.1 p c' hp hc' hv
  · rw [upI_q (by omega)] at hv
    by_cases k : r' = r ∧ c' = c
    · obtain ⟨k1, k2⟩ := k
      subst k1
      subst k2
      rw [upI_s, e]
      exact zI_s
    · rw [zI_q' e (by omega), upI_q (by omega)]
      exact L.2.2 r' c' hr' hc' hv
theorem RfX_up {l R N : Nat} {G cs pd : Nat → Int32} {σ σ2 : zSto} {s : Nat} (hs : 87 ≤ s ∧ s < 123) {v : Int32} (X : RfX l R N G cs pd σ) (e : σ2 = zI σ 229 (123 * l + s) v) : RfX l R N (upI G s v) cs pd σ2 := by
  obtain ⟨a1, a2, a3, a4, a5, a6, a7, a8, a9, a10⟩ := X
  refine ⟨?_, a2, ?_, ?_, ?_, a6, a7, a8, fun s' hs' => ?_, fun p hp => ⟨?_, ?_, ?_⟩⟩
  · rw [zI_q' e (by omega)]; exact a1
  · rw [zI_q' e (by omega)]; exact a3
  · rw [zI_q' e (by omega)]; exact a4
  · rw [zI_q' e (by omega)]; exact a5
  · by_cases k : s' = s
    · subst k
      rw [upI_s, e]
      exact zI_s
    · rw [zI_q' e (by omega), upI_q k]
      exact a9 s' hs'
  · rw [zI_q' e (by omega)]; exact (a10 p hp).1
  · rw [zI_q' e (by omega)]; exact (a10 p hp).2.1
  · rw [zI_q' e (by omega), upI_q (by omega)]; exact (a10 p hp).2.2
theorem LnN_up {N R : Nat} {G : Nat → Int32} (ln : LnN N R G) {r c : Nat} (hr : r < R) (hc : 2 ≤ c ∧ c < 6) {v : Int32} (hv : c = 2 → 1 ≤ ti v ∧ ti v ≤ 60) : LnN N R (upI G (87 + 6 * r + c) v) := by
  obtain ⟨h1, h2, h3, h4, h5, h6, h7⟩ := ln
  refine ⟨h1, h2, ?_, ?_, ?_, fun p hp => ?_, fun r' hr' => ?_⟩
  · rw [upI_q (by omega)]; exact h3
  · rw [upI_q (by omega)]; exact h4
  · rw [upI_q (by omega)]; exact h5
  · rw [upI_q (by omega), upI_q (by omega), upI_q (by omega), upI_q (by omega), upI_q (by omega)]
    exact h6 p hp
  · obtain ⟨y0, y1, y2, y3⟩ := h7 r' hr'
    have e0 : rdG (upI G (87 + 6 * r + c) v) r' 0 = rdG G r' 0 := upI_q (by omega)
    have e1 : rdG (upI G (87 + 6 * r + c) v) r' 1 = rdG G r' 1 := upI_q (by omega)
    rw [e0, e1]
    refine ⟨y0, y1, y2, ?_⟩
    show 1 ≤ ti (upI G (87 + 6 * r + c) v (87 + 6 * r' + 2)) ∧ ti (upI G (87 + 6 * r + c) v (87 + 6 * r' + 2)) ≤ 60
    by_cases k : 87 + 6 * r' + 2 = 87 + 6 * r + c
    · rw [k, upI_s]
      exact hv (by omega)
    · rw [upI_q k]
      exact y3
/-- what RIDER r KEEPS, if slot s of the LINE were v -/
def kpB (law : Int32) (R : Nat) (G : Nat → Int32) (w : Int32) (N s r lo : Nat) : Nat → Int32 := fun j => rnF law R (fun _ => true) (csI G) (fun p => pdI G p w) (rdG (upI G s (Int32.ofNat (lo + j)))) 0 (N - 1) (20 + r)
theorem kpB_0 {law : Int32} {R N : Nat} {G : Nat → Int32} {w : Int32} (ln : LnN N R G) {r c lo j : Nat} (hr : r < R) (hc : 2 ≤ c ∧ c < 6) (hj : c = 2 → 1 ≤ lo + j ∧ lo + j ≤ 60) : 0 ≤ ti (kpB law R G w N (87 + 6 * r + c) r lo j) := by
  have N16 := ln.1
  have R6 := ln.2.1
  have ln2 := LnN_up ln hr hc (v := Int32.ofNat (lo + j)) (fun z => by
    have := hj z
    rw [show ti (Int32.ofNat (lo + j)) = ((lo + j : Nat) : Int) from nI_t (by omega)]
    omega)
  have y := (kp_rg (law := law) (so := fun _ => true) (pd := fun p => pdI G p w) (seed := 0) ln2 (N - 1) (by omega)).2 r hr
  have e : rnF law R (fun _ => true) (csI (upI G (87 + 6 * r + c) (Int32.ofNat (lo + j)))) (fun p => pdI G p w) (rdG (upI G (87 + 6 * r + c) (Int32.ofNat (lo + j)))) 0 (N - 1) = rnF law R (fun _ => true) (csI G) (fun p => pdI G p w) (rdG (upI G (87 + 6 * r + c) (Int32.ofNat (lo + j)))) 0 (N - 1) := rnF_cg (N - 1) (fun p hp => ⟨csI_up (Or.inl (by omega)) (by omega), rfl⟩)
  rw [e] at y
  exact y.1
/-- the first of lo, lo + 1, .. by which he KEEPS most, behind i of them -/
def BsB (K : Nat → Int32) (lo i : Nat) (x7 x8 : Int32) : Prop := (i = 0 ∧ x8 = -1) ∨ ∃ b, b < i ∧ drF (fun _ => true) K i = Int32.ofNat b ∧ x7 = Int32.ofNat (lo + b) ∧ x8 = K b
theorem BsB_k {K : Nat → Int32} {lo i : Nat} {x7 x8 : Int32} (hi : i < 900) (h0 : 0 ≤ ti (K i)) (h : BsB K lo i x7 x8) (k : K i ≤ x8) : BsB K lo (i + 1) x7 x8 := by
  have lm := lit_m1
  rcases h with ⟨z1, z2⟩ | ⟨b, z1, z2, z3, z4⟩
  · have := le_t k
    rw [z2] at this
    omega
  · exact Or.inr ⟨b, by omega, (drT_b (by omega) z2).1 (by rw [← z4]; exact k), z3, z4⟩
theorem BsB_n {K : Nat → Int32} {lo i : Nat} {x7 x8 x9 v : Int32} (hi : i < 900) (h : BsB K lo i x7 x8) (k : ¬ K i ≤ x8) (e9 : x9 = Int32.ofNat (lo + i)) (ev : v = K i) : BsB K lo (i + 1) x9 v := by
  rcases h with ⟨z1, z2⟩ | ⟨b, z1, z2, z3, z4⟩
  · subst z1
    exact Or.inr ⟨0, by omega, drT_n (Or.inl rfl), e9, ev⟩
  · exact Or.inr ⟨i, by omega, (drT_b (by omega) z2).2 (by rw [← z4]; exact k), e9, ev⟩
theorem BsB_e {K : Nat → Int32} {lo M : Nat} {x7 x8 : Int32} (hM : 1 ≤ M ∧ M < 900) (h : BsB K lo M x7 x8) : x7 = Int32.ofNat (lo + (drF (fun _ => true) K M).toNatClampNeg) := by
  rcases h with ⟨z1, z2⟩ | ⟨b, z1, z2, z3, z4⟩
  · omega
  · rw [z2, ofNat_c (by omega)]
    exact z3
set_option maxHeartbeats 4000000 in
theorem f_X9_bestChoice {N R : Nat} {G : Nat → Int32} {σ : zSto} (L : LnR 210 G σ) (hN : ti (G 0) = (N : Int)) (hN1 : 1 ≤ N) (hN16 : N ≤ 16) (hR : ti (G 1) = (R : Int)) (hR6 : R ≤ 6) (ln : LnN N R G) (a1 a2 a3 a5 a6 : Int32) {r c lo M : Nat} (h2 : ti a2 = (r : Int)) (hr : r < R) (hc : 2 ≤ c ∧ c < 6) (hlaw : -1 ≤ ti a3 ∧ ti a3 ≤ 3) (h5 : ti a5 = (lo : Int)) (h6 : ti a6 = (lo : Int) + M - 1) (hM : 1 ≤ M ∧ lo + M ≤ 201) (hj : c = 2 → 1 ≤ lo ∧ lo + M ≤ 61) {q4 : Nat} (hq : q4 = 216 + c) {P : Int32 → zSto → Prop} (hP : ∀ σ2, P (Int32.ofNat (lo + (drF (fun _ => true) (kpB a3 R G a1 N (87 + 6 * r + c) r lo) M).toNatClampNeg)) σ2) : w_X9_bestChoice a1 a2 a3 q4 6 a5 a6 σ P := by
  have l0 := lit_0
  have l1 := lit_1
  subst hq
  have tn2 := tn_eq a2
  have n2 : a2.toNatClampNeg = r := by omega
  obtain ⟨K, hK⟩ : ∃ K, K = kpB a3 R G a1 N (87 + 6 * r + c) r lo := ⟨_, rfl⟩
  rw [← hK] at hP
  have go : ∀ (n i : Nat) (x_7 x_8 x_9 u : Int32) (σ3 : zSto), LnR 210 (upI G (87 + 6 * r + c) u) σ3 → ti x_9 = ((lo + i : Nat) : Int) → i ≤ M → BsB K lo i x_7 x_8 → M - i < n → w_X9_bestChoice_11 a1 a2 a3 (216 + c) 6 a6 P n x_7 x_8 x_9 σ3 := by
    intro n
    induction n with
    | zero => intro i x_7 x_8 x_9 u σ3 _ _ _ _ h; omega
    | succ n ih =>
      intro i x_7 x_8 x_9 u σ3 L3 hi hiM hB hn
      unfold w_X9_bestChoice_11
      refine ⟨fun q => ?_, fun q => ?_⟩
      · have c := lt_t q
        have e : i = M := by omega
        subst e
        rw [BsB_e (by omega) hB]
        exact hP σ3
      · have c1 := nlt_t q
        have tx := tadd (x := x_9) (y := (1 : Int32)) (by omega)
        have e9 : x_9 = Int32.ofNat (lo + i) := t_inj (by rw [hi]; exact (nI_t (by omega)).symm)
        rw [n2]
        refine ⟨vin (by omega), fun σ2 e2 => ?_⟩
        have L2 := LnR_up (by omega) hc.2 e2 L3
        rw [upI_2] at L2
        refine f_X5_byLaw (so := fun _ => true) (Or.inr rfl) L2 (by rw [upI_q (by omega)]; exact hN) hN1 hN16 (by rw [upI_q (by omega)]; exact hR) hR6 a3 (0 : Int32) a1 (-1 : Int32) hlaw (fun r hr => (bt_m1 (by omega)).symm) (fun σ5 f5 T5 => ?_)
        have L5 := LnR_C (Or.inr rfl) L2 f5
        have k5 : σ5.1 193 r = K i := by
          rw [(T5.2.2.2.2.1 r hr).2, e9, hK]
          show _ = rnF a3 R (fun _ => true) (csI G) (fun p => pdI G p a1) (rdG (upI G (87 + 6 * r + c) (Int32.ofNat (lo + i)))) 0 (N - 1) (20 + r)
          rw [rnF_cg (N - 1) (fun p hp => ⟨csI_up (Or.inl (by omega)) (by omega), pdI_up (by omega) (by omega)⟩)]
        have k0 : 0 ≤ ti (K i) := by
          rw [hK]
          exact kpB_0 ln hr hc (fun z => by have := hj z; omega)
        rw [k5]
        refine ⟨vin (by omega), fun k x5 e5 => ?_, fun k => ⟨vin (by omega), fun x7 e7 x8 e8 => ?_⟩⟩
        · have f := eq_t e5
          exact ih (i + 1) x_7 x_8 x5 x_9 σ5 L5 (by omega) (by omega) (BsB_k (by omega) k0 hB k) (by omega)
        · have f := eq_t e8
          exact ih (i + 1) x_9 x7 x8 x_9 σ5 L5 (by omega) (by omega) (BsB_n (by omega) hB k e9 e7) (by omega)
  exact ⟨1000, go 1000 0 a5 (-1 : Int32) a5 (G (87 + 6 * r + c)) σ (by rw [upI_i]; exact L) (by omega) (by omega) (Or.inl ⟨rfl, rfl⟩) (by omega)⟩
set_option maxHeartbeats 8000000 in
theorem f_X10_bid_97 {l N R : Nat} {G : Nat → Int32} {w : Int32} (ln : LnN N R G) (x_3 x_4 x_5 x_6 : Int32) {r c lo M : Nat} (h3 : ti x_3 = (r : Int)) (hr : r < R) (hc : 2 ≤ c ∧ c < 6) (h5 : ti x_5 = ((123 * l + (87 + 6 * r + c) : Nat) : Int)) {law : Int32} (hcase : (x_4 = 0 ∧ law = 3 ∧ lo = 0 ∧ M = 10) ∨ (x_4 = 1 ∧ law = 0 ∧ lo = 1 ∧ M = 60) ∨ (x_4 = 2 ∧ law = 0 ∧ lo = 0 ∧ M = 201)) (hj : c = 2 → 1 ≤ lo ∧ lo + M ≤ 61) {P : Int32 → zSto → Prop} (hP : ∀ σ2, P (Int32.ofNat (lo + (drF (fun _ => true) (kpB law R G w N (87 + 6 * r + c) r lo) M).toNatClampNeg)) σ2) : ∀ (n i : Nat) (x_7 x_8 x_9 u : Int32) (σ : zSto), RfX l R N (upI G (87 + 6 * r + c) u) (csI G) (fun p => pdI G p w) σ → ti x_9 = ((lo + i : Nat) : Int) → i ≤ M → BsB (kpB law R G w N (87 + 6 * r + c) r lo) lo i x_7 x_8 → M - i < n → w_X10_bid_97 x_3 x_4 x_5 x_6 P n x_7 x_8 x_9 σ := by
  have l0 := lit_0
  have l1 := lit_1
  have l3 := lit_3
  have l9 := lit_9
  have l60 := lit_60
  have l200 := lit_200
  have tn3 := tn_eq x_3
  have n3 : x_3.toNatClampNeg = r := by omega
  have tn5 := tn_eq x_5
  have n5 : x_5.toNatClampNeg = 123 * l + (87 + 6 * r + c) := by omega
  obtain ⟨K, hK⟩ : ∃ K, K = kpB law R G w N (87 + 6 * r + c) r lo := ⟨_, rfl⟩
  rw [← hK] at hP ⊢
  have hM : 1 ≤ M ∧ lo + M ≤ 201 := by omega
  have hlaw : -1 ≤ ti law ∧ ti law ≤ 3 := by
    rcases hcase with ⟨_, z, _⟩ | ⟨_, z, _⟩ | ⟨_, z, _⟩ <;> rw [z] <;> omega
  intro n
  induction n with
  | zero => intro i x_7 x_8 x_9 u σ _ _ _ _ h; omega
  | succ n ih =>
    intro i x_7 x_8 x_9 u σ X hi hiM hB hn
    have R6 := X.2.2.2.2.2.2.2.1
    have N16 := X.2.2.2.2.2.2.1
    have l2 := X.2.1
    have stop : ((lo : Int) + M - 1 < ti x_9) → vp_in x_5 984 ∧ (∀ σ12 : zSto, σ12 = zI σ 229 (x_5).toNatClampNeg x_6 → P x_7 σ12) := fun q => by
      have e : i = M := by omega
      subst e
      refine ⟨vin (by omega), fun σ12 _ => ?_⟩
      rw [BsB_e (by omega) hB]
      exact hP σ12
    have run : ¬ ((lo : Int) + M - 1 < ti x_9) → ∀ σ14 : zSto, σ14 = zI σ 229 (x_5).toNatClampNeg x_9 → w_X10_everyone σ14 (fun (r16 : Int32) (σ15 : zSto) => (w_X10_go law (0 : Int32) r16 σ15 (fun (σ17 : zSto) => (vp_in x_3 6 ∧ (((σ17.1 243 (x_3).toNatClampNeg) ≤ x_8 → (vp_in x_3 6 ∧ (w_X10_greater x_8 (σ17.1 243 (x_3).toNatClampNeg) σ17 (fun (r21 : Int32) (σ20 : zSto) => (∀ x22 : Int32, x22 = (x_9 + (1 : Int32)) → w_X10_bid_97 x_3 x_4 x_5 x_6 P n x_7 r21 x22 σ20))))) ∧ (¬ (σ17.1 243 (x_3).toNatClampNeg) ≤ x_8 → (vp_in x_3 6 ∧ (w_X10_greater x_8 (σ17.1 243 (x_3).toNatClampNeg) σ17 (fun (r25 : Int32) (σ24 : zSto) => (∀ x26 : Int32, x26 = (x_9 + (1 : Int32)) → w_X10_bid_97 x_3 x_4 x_5 x_6 P n x_9 r25 x26 σ24)))))))))) := fun q σ14 e14 => by
      rw [n5] at e14
      have tx := tadd (x := x_9) (y := (1 : Int32)) (by omega)
      have e9 : x_9 = Int32.ofNat (lo + i) := t_inj (by rw [hi]; exact (nI_t (by omega)).symm)
      have X14 := RfX_up (s := 87 + 6 * r + c) (by omega) X e14
      rw [upI_2] at X14
      refine f_goF X14 law (0 : Int32) hlaw (fun σ17 f17 T17 => ?_)
      have X17 := FrG_X X14 f17
      have k5 : σ17.1 243 r = K i := by
        rw [(T17.1.2.2.2.1 r (by omega)).2.1, e9, hK]
        rfl
      have k0 : 0 ≤ ti (K i) := by
        rw [hK]
        exact kpB_0 ln hr hc (fun z => by have := hj z; omega)
      rw [n3, k5]
      refine ⟨vin (by omega), fun k => ⟨vin (by omega), f_greater _ _ ?_⟩, fun k => ⟨vin (by omega), f_greater _ _ ?_⟩⟩
      · rw [gr_le, if_pos k]
        intro x22 e22
        have f := eq_t e22
        exact ih (i + 1) x_7 x_8 x22 x_9 σ17 X17 (by omega) (by omega) (BsB_k (by omega) k0 hB k) (by omega)
      · rw [gr_le, if_neg k]
        intro x26 e26
        have f := eq_t e26
        exact ih (i + 1) x_9 (K i) x26 x_9 σ17 X17 (by omega) (by omega) (BsB_n (by omega) hB k e9 rfl) (by omega)
    unfold w_X10_bid_97
    rcases hcase with ⟨z1, z2, z3, z4⟩ | ⟨z1, z2, z3, z4⟩ | ⟨z1, z2, z3, z4⟩
    · rw [z2] at run
      refine ⟨fun q => absurd z1 q, fun _ => ⟨fun q => stop (by have := lt_t q; omega), fun q => ⟨vin (by omega), fun σ14 e14 => ⟨fun q2 => absurd z1 q2, fun _ => run (by have := nlt_t q; omega) σ14 e14⟩⟩⟩⟩
    · rw [z2] at run
      have n0 : ¬ x_4 = 0 := by rw [z1]; decide
      refine ⟨fun _ => ⟨fun q => absurd z1 q, fun _ => ⟨fun q => stop (by have := lt_t q; omega), fun q => ⟨vin (by omega), fun σ14 e14 => ⟨fun _ => run (by have := nlt_t q; omega) σ14 e14, fun q2 => absurd q2 n0⟩⟩⟩⟩, fun q => absurd q n0⟩
    · rw [z2] at run
      have n0 : ¬ x_4 = 0 := by rw [z1]; decide
      have n1 : ¬ x_4 = 1 := by rw [z1]; decide
      refine ⟨fun _ => ⟨fun _ => ⟨fun q => stop (by have := lt_t q; omega), fun q => ⟨vin (by omega), fun σ14 e14 => ⟨fun _ => run (by have := nlt_t q; omega) σ14 e14, fun q2 => absurd q2 n0⟩⟩⟩, fun q => absurd q n1⟩, fun q => absurd q n0⟩
set_option maxHeartbeats 8000000 in
theorem al_bid {σ : zSto} (H : Lz σ) (a1 a2 a3 a4 : Int32) : ∃ A : Int32, w_X9_bid a1 a2 a3 a4 σ (fun r _ => r = A) ∧ ∀ σa, SmR σ σa → w_X10_bid a1 a2 a3 a4 σa (fun r _ => r = A) := by
  have l0 := lit_0
  have l1 := lit_1
  have l2 := lit_2
  have l3 := lit_3
  have l4 := lit_4
  have l5 := lit_5
  have l9 := lit_9
  have l60 := lit_60
  have l87 := lit_87
  have l200 := lit_200
  have e4 := ti_eq a4
  have d : 0 ≤ ti (σ.1 42 0) ∧ ti (σ.1 42 0) ≤ 2 := rdg H.1.1 kd_42 rfl rfl
  by_cases ex : exW σ a1 a2 ∧ (0 ≤ ti a4 ∧ ti a4 ≤ 2)
  · obtain ⟨ex, x4⟩ := ex
    obtain ⟨l, hl⟩ : ∃ l : Nat, ti a1 = (l : Int) := ⟨(ti a1).toNat, by have := ex.1; omega⟩
    obtain ⟨N, R, G, tl⟩ := tlL_of H (l := l) (by have := ex.2.1; omega) (by have := ex.2.1; omega)
    obtain ⟨t1, t2, t3, t4, t5, t6, t7, t8, t9⟩ := id tl
    have ln := LnN_of H tl
    by_cases hx : 0 ≤ ti a3 ∧ ti a3 < (R : Int)
    · obtain ⟨r, hr⟩ : ∃ r : Nat, ti a3 = (r : Int) := ⟨(ti a3).toNat, by omega⟩
      obtain ⟨law, c, lo, M, hcase, hc, hj⟩ : ∃ (law : Int32) (c lo M : Nat), ((a4 = 0 ∧ law = 3 ∧ lo = 0 ∧ M = 10 ∧ c = 5) ∨ (a4 = 1 ∧ law = 0 ∧ lo = 1 ∧ M = 60 ∧ c = 2) ∨ (a4 = 2 ∧ law = 0 ∧ lo = 0 ∧ M = 201 ∧ c = 4)) ∧ (2 ≤ c ∧ c < 6) ∧ (c = 2 → 1 ≤ lo ∧ lo + M ≤ 61) := by
        rcases (show ti a4 = 0 ∨ ti a4 = 1 ∨ ti a4 = 2 by omega) with z | z | z
        · exact ⟨3, 5, 0, 10, Or.inl ⟨t_inj (by omega), rfl, rfl, rfl, rfl⟩, by omega, by omega⟩
        · exact ⟨0, 2, 1, 60, Or.inr (Or.inl ⟨t_inj (by omega), rfl, rfl, rfl, rfl⟩), by omega, by omega⟩
        · exact ⟨0, 4, 0, 201, Or.inr (Or.inr ⟨t_inj (by omega), rfl, rfl, rfl, rfl⟩), by omega, by omega⟩
      have hcase2 : (a4 = 0 ∧ law = 3 ∧ lo = 0 ∧ M = 10) ∨ (a4 = 1 ∧ law = 0 ∧ lo = 1 ∧ M = 60) ∨ (a4 = 2 ∧ law = 0 ∧ lo = 0 ∧ M = 201) := by
        rcases hcase with ⟨z1, z2, z3, z4, _⟩ | ⟨z1, z2, z3, z4, _⟩ | ⟨z1, z2, z3, z4, _⟩
        · exact Or.inl ⟨z1, z2, z3, z4⟩
        · exact Or.inr (Or.inl ⟨z1, z2, z3, z4⟩)
        · exact Or.inr (Or.inr ⟨z1, z2, z3, z4⟩)
      refine ⟨Int32.ofNat (lo + (drF (fun _ => true) (kpB law R G a2 N (87 + 6 * r + c) r lo) M).toNatClampNeg), ?_, ?_⟩
      · unfold w_X9_bid
        refine f_X8_lineAt a1 H.1 (fun z => absurd ⟨ex.1, ex.2.1⟩ z) (fun l' hl' hl2 hc' => ⟨fun z => (by cases z), fun j3 e3 => ?_⟩)
        have e3' := Option.some.inj e3
        subst e3'
        have el : l' = l := by omega
        subst el
        have e12 : ti (σ.1 (4 + 12 * l') 12) = (R : Int) := by rw [t9.1 1 (by omega)]; exact t5
        refine ⟨isT_L (isN_T (by unfold isN; omega)), f_X9_isWeek a2 (fun r5 z5 => fun _ => ⟨fun q5 => absurd q5 (z5.mpr ⟨ex.2.2.1, ex.2.2.2⟩), fun _ => ?_⟩)⟩
        refine f_X0_hasRider _ a3 (fun r7 z7 => fun _ => ⟨fun _ => ?_, fun q7 => absurd q7 (z7.mpr (by omega))⟩)
        refine f_X0_copyFrom 210 _ (Or.inr (by omega)) (fun σ8 h8 => ?_)
        have L8 := LnR_cp h8 t9
        rcases hcase with ⟨z1, z2, z3, z4, z5⟩ | ⟨z1, z2, z3, z4, z5⟩ | ⟨z1, z2, z3, z4, z5⟩
        · subst z1 z2 z3 z4 z5
          refine ⟨fun _ => ?_, fun q => absurd q (by decide), fun q => absurd q (by decide), fun q => absurd q (by decide)⟩
          exact f_X9_bestChoice L8 t4 t6 t7 t5 t8 ln a2 a3 (3 : Int32) (0 : Int32) (9 : Int32) hr (by omega) hc (by omega) (by omega) (by omega) (by omega) hj rfl (fun _ => rfl)
        · subst z1 z2 z3 z4 z5
          refine ⟨fun q => absurd q (by decide), fun _ => ?_, fun q => absurd q (by decide), fun q => absurd q (by decide)⟩
          exact f_X9_bestChoice L8 t4 t6 t7 t5 t8 ln a2 a3 (0 : Int32) (1 : Int32) (60 : Int32) hr (by omega) hc (by omega) (by omega) (by omega) (by omega) hj rfl (fun _ => rfl)
        · subst z1 z2 z3 z4 z5
          refine ⟨fun q => absurd q (by decide), fun q => absurd q (by decide), fun _ => ?_, fun q => absurd q (by decide)⟩
          exact f_X9_bestChoice L8 t4 t6 t7 t5 t8 ln a2 a3 (0 : Int32) (0 : Int32) (200 : Int32) hr (by omega) hc (by omega) (by omega) (by omega) (by omega) hj rfl (fun _ => rfl)
      · intro σa sm
        unfold w_X10_bid
        intro σ1 e1
        obtain ⟨H1, u1⟩ := SmR_223 sm e1
        refine b_X10_in a4 (0 : Int32) (2 : Int32) (fun r3 z3 => fun _ => ⟨fun q => absurd q (z3.mpr ⟨by omega, by omega⟩), fun _ => ?_⟩)
        refine f_handX H1 a1 a2 (fun z => absurd ((exW_eq1 u1).mpr ex) z) (fun _ l' N' R' G' hl' tl' σ2 f2 X2 => fun _ => ⟨fun c => absurd c (by decide), fun _ => ?_⟩)
        have el : l' = l := by omega
        subst el
        obtain ⟨eN, eR, eG⟩ := tlL_eq tl tl' (fun j => u1 229 j (by omega) (by omega))
        subst eN
        subst eR
        subst eG
        have h26 := X2.2.2.2.2.1
        refine f_X10_isRider a3 (by omega) (fun r9 z9 => fun _ => ⟨fun _ => ?_, fun q9 => absurd q9 (z9.mpr (by omega))⟩)
        have m1 := tmull (x := (123 : Int32)) (y := a1) 123 lit_123 (by omega)
        have m2 := tadd (x := (123 : Int32) * a1) (y := (87 : Int32)) (by omega)
        have m3 := tmull (x := (6 : Int32)) (y := a3) 6 lit_6 (by omega)
        have m4 := tadd (x := (123 : Int32) * a1 + (87 : Int32)) (y := (6 : Int32) * a3) (by omega)
        have X0 : RfX l' R' N' (upI G' (87 + 6 * r + c) (G' (87 + 6 * r + c))) (csI G') (fun p => pdI G' p a2) σ2 := by
          rw [upI_i]
          exact X2
        have go : ∀ (x8 x10 lo9 : Int32), ti x8 = ((123 * l' + (87 + 6 * r + c) : Nat) : Int) → ti lo9 = (lo : Int) → ∃ n : Nat, w_X10_bid_97 a3 a4 x8 x10 (fun r_1 _ => r_1 = Int32.ofNat (lo + (drF (fun _ => true) (kpB law R' G' a2 N' (87 + 6 * r + c) r lo) M).toNatClampNeg)) n (-1 : Int32) (-1 : Int32) lo9 σ2 := fun x8 x10 lo9 h8 h9 => ⟨1000, f_X10_bid_97 (G := G') (w := a2) ln a3 a4 x8 x10 hr (by omega) hc h8 hcase2 hj (fun _ => rfl) 1000 0 (-1 : Int32) (-1 : Int32) lo9 _ σ2 X0 (by omega) (by omega) (Or.inl ⟨rfl, rfl⟩) (by omega)⟩
        have tx : ∀ k : Int32, 0 ≤ ti k ∧ ti k ≤ 5 → ti ((123 : Int32) * a1 + (87 : Int32) + (6 : Int32) * a3 + k) = 123 * (l' : Int) + 87 + 6 * (r : Int) + ti k := fun k hk => by
          rw [tadd (by omega)]
          omega
        have tx4 := tx (4 : Int32) (by omega)
        have tx2 := tx (2 : Int32) (by omega)
        have tx5 := tx (5 : Int32) (by omega)
        rcases hcase with ⟨z1, z2, z3, z4, z5⟩ | ⟨z1, z2, z3, z4, z5⟩ | ⟨z1, z2, z3, z4, z5⟩
        · refine ⟨fun q => absurd z1 q, fun _ x98 e98 => ?_⟩
          have f := eq_t e98
          exact ⟨vin (by omega), fun x100 e100 => ⟨fun _ => go x98 x100 (0 : Int32) (by omega) (by omega), fun q => absurd (z1.symm.trans q) (by decide)⟩⟩
        · have n0 : ¬ a4 = 0 := by rw [z1]; decide
          refine ⟨fun _ => ⟨fun q => absurd z1 q, fun _ x95 e95 => ?_⟩, fun q => absurd q n0⟩
          have f := eq_t e95
          exact ⟨vin (by omega), fun x97 e97 => ⟨fun q => absurd z1 q, fun _ => go x95 x97 (1 : Int32) (by omega) (by omega)⟩⟩
        · have n0 : ¬ a4 = 0 := by rw [z1]; decide
          have n1 : ¬ a4 = 1 := by rw [z1]; decide
          refine ⟨fun _ => ⟨fun _ x8 e8 => ?_, fun q => absurd q n1⟩, fun q => absurd q n0⟩
          have f := eq_t e8
          exact ⟨vin (by omega), fun x10 e10 => ⟨fun _ => go x8 x10 (0 : Int32) (by omega) (by omega), fun q => absurd q n1⟩⟩
    · refine ⟨-1, ?_, ?_⟩
      · unfold w_X9_bid
        refine f_X8_lineAt a1 H.1 (fun z => absurd ⟨ex.1, ex.2.1⟩ z) (fun l' hl' hl2 hc' => ⟨fun z => (by cases z), fun j3 e3 => ?_⟩)
        have e3' := Option.some.inj e3
        subst e3'
        have el : l' = l := by omega
        subst el
        have e12 : ti (σ.1 (4 + 12 * l') 12) = (R : Int) := by rw [t9.1 1 (by omega)]; exact t5
        refine ⟨isT_L (isN_T (by unfold isN; omega)), f_X9_isWeek a2 (fun r5 z5 => fun _ => ⟨fun _ => rfl, fun _ => ?_⟩)⟩
        exact f_X0_hasRider _ a3 (fun r7 z7 => fun _ => ⟨fun q7 => absurd (z7.mp q7) (by omega), fun _ => rfl⟩)
      · intro σa sm
        unfold w_X10_bid
        intro σ1 e1
        obtain ⟨H1, u1⟩ := SmR_223 sm e1
        refine b_X10_in a4 (0 : Int32) (2 : Int32) (fun r3 z3 => fun _ => ⟨fun _ => rfl, fun _ => ?_⟩)
        refine f_handX H1 a1 a2 (fun z => absurd ((exW_eq1 u1).mpr ex) z) (fun _ l' N' R' G' hl' tl' σ2 f2 X2 => fun _ => ⟨fun c => absurd c (by decide), fun _ => ?_⟩)
        have el : l' = l := by omega
        subst el
        obtain ⟨eN, eR, eG⟩ := tlL_eq tl tl' (fun j => u1 229 j (by omega) (by omega))
        subst eN
        subst eR
        subst eG
        have h26 := X2.2.2.2.2.1
        exact f_X10_isRider a3 (by omega) (fun r9 z9 => fun _ => ⟨fun q9 => absurd (z9.mp q9) (by omega), fun _ => rfl⟩)
  · refine ⟨-1, ?_, ?_⟩
    · unfold w_X9_bid
      refine f_X8_lineAt a1 H.1 (fun _ => ⟨fun _ => rfl, fun j3 e3 => (by cases e3)⟩) (fun l' hl' hl2 hc => ⟨fun z => (by cases z), fun j3 e3 => ?_⟩)
      have e3' := Option.some.inj e3
      subst e3'
      refine ⟨isT_L (isN_T (by unfold isN; omega)), f_X9_isWeek a2 (fun r5 z5 => fun _ => ⟨fun _ => rfl, fun q5 => ?_⟩)⟩
      have w := z5.mp q5
      have n4 : ¬ (0 ≤ ti a4 ∧ ti a4 ≤ 2) := fun y => ex ⟨⟨by omega, by omega, w.1, w.2⟩, y⟩
      refine f_X0_hasRider _ a3 (fun r7 z7 => fun _ => ⟨fun _ => ?_, fun _ => rfl⟩)
      refine f_X0_copyFrom 210 _ (Or.inr (by omega)) (fun σ8 h8 => ?_)
      exact ⟨fun q => absurd (by have := eq_t q; omega) n4, fun q => absurd (by have := eq_t q; omega) n4, fun q => absurd (by have := eq_t q; omega) n4, fun _ => rfl⟩
    · intro σa sm
      unfold w_X10_bid
      intro σ1 e1
      obtain ⟨H1, u1⟩ := SmR_223 sm e1
      refine b_X10_in a4 (0 : Int32) (2 : Int32) (fun r3 z3 => fun _ => ⟨fun _ => rfl, fun q3 => ?_⟩)
      have w3 := z3.mp q3
      exact f_handX H1 a1 a2 (fun _ => fun _ => ⟨fun _ => rfl, fun c => absurd rfl c⟩) (fun e => absurd ⟨(exW_eq1 u1).mp e, ⟨by omega, by omega⟩⟩ ex)
theorem m_bid {σ : zSto} (H : Lz σ) (a1 a2 a3 a4 : Int32) {P : Int32 → zSto → Prop} (hP : ∀ r σa, (∀ Q : Int32 → zSto → Prop, (∀ σ2, Lz σ2 → Q r σ2) → w_X10_bid a1 a2 a3 a4 σa Q) → P r σa) : w_X9_bid a1 a2 a3 a4 σ P := by
  obtain ⟨A, hc, hr⟩ := al_bid H a1 a2 a3 a4
  exact cj_X9_bid (P := fun _ σa => zInv AC σ.1 3 σa) (Q := fun r _ => r = A) (fun r σa i e2 => by
    subst e2
    have sm := SmR_C H i
    exact hP _ _ (fun Q hQ => cj_X10_bid (P := fun _ σb => zInv AR2 σa.1 3 σb) (Q := fun r' _ => r' = r) (fun r' σb i e => by
      subst e
      exact hQ σb (Lz_R sm.1 i)) (r_X10_bid a1 a2 a3 a4 (inv_any sm.1.1) (fun _ _ i => i)) (hr σa sm))) (s_X9_bid (A := AC) (F := σ.1) ac_c a1 a2 a3 a4 (inv_any H.1) (fun _ _ i => i)) hc
