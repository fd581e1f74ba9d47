theorem i_ss (a b c : Int32) : a - b - c = a - (b + c) := by
  apply Int32.toBitVec_inj.mp
  show a.toBitVec - b.toBitVec - c.toBitVec = a.toBitVec - (b.toBitVec + c.toBitVec)
  apply BitVec.eq_of_toNat_eq
  have ha := a.toBitVec.isLt
  have hb := b.toBitVec.isLt
  have hc := c.toBitVec.isLt
  rw [BitVec.toNat_sub, BitVec.toNat_sub, BitVec.toNat_sub, BitVec.toNat_add]
  omega
theorem scT_cg {S S' : Nat → Int32} : ∀ n, (∀ p, p < n → S (40 + p) = S' (40 + p)) → scT S n = scT S' n := by
  intro n
  induction n with
  | zero => intro _; rfl
  | succ n ih =>
    intro h
    show (if S (40 + n) = -1 then scT S n else scT S n + 1) = (if S' (40 + n) = -1 then scT S' n else scT S' n + 1)
    rw [ih (fun p hp => h p (by omega)), h n (by omega)]
theorem bsT_cg {b : Int32} {S S' : Nat → Int32} : ∀ n, (∀ p, p < n → S (40 + p) = S' (40 + p)) → bsT b S n = bsT b S' n := by
  intro n
  induction n with
  | zero => intro _; rfl
  | succ n ih =>
    intro h
    show (if S (40 + n) = -1 then bsT b S n else if scT S n + 1 = b then Int32.ofNat n else bsT b S n) = (if S' (40 + n) = -1 then bsT b S' n else if scT S' n + 1 = b then Int32.ofNat n else bsT b S' n)
    rw [ih (fun p hp => h p (by omega)), h n (by omega), scT_cg n (fun p hp => h p (by omega))]
theorem tkn_c {a b : Int32} : (if b < a then b else a) = tkn a b := by
  unfold tkn
  by_cases c : b < a
  · rw [if_pos c, if_pos (Classical.byContradiction (fun d => by have := lt_t c; have := nle_t d; omega))]
  · rw [if_neg c]
    by_cases d : b ≤ a
    · rw [if_pos d]
      have := nlt_t c
      have := le_t d
      exact t_inj (by omega)
    · rw [if_neg d]
set_option maxHeartbeats 8000000 in
theorem f_X5_stopAt {t N R : Nat} {G pd S : Nat → Int32} {σ : zSto} (ht : okT t) (L : LnR t G σ) (hN : ti (G 0) = (N : Int)) (hN16 : N ≤ 16) (hR6 : R ≤ 6) {p r : Nat} (T : CsS N R G pd S p σ) (a2 a3 : Int32) (h2 : ti a2 = (p : Int)) (hp : p + 1 < N) (h3 : a3 = Int32.ofNat r) (hr : r < R) (u0 : S (60 + p) = 0) {P : zSto → Prop} (hP : ∀ σ2, FrC σ σ2 → CsS N R G pd (pll (csI G) pd (rdG G) p a3 S) (p + 1) σ2 → P σ2) : w_X5_stopAt t a2 a3 σ P := by
  obtain ⟨s0, s1, s2, s3, s4, s5, s6, s7, s8, s9⟩ := T
  have n2 := tn_eq a2
  have m2 : a2.toNatClampNeg = p := by omega
  have e2 := nI_x h2 (by omega)
  have m3 : a3.toNatClampNeg = r := by rw [h3]; exact ofNat_c (by omega)
  have t3 : ti a3 = (r : Int) := by rw [h3]; exact nI_t (by omega)
  have q : ¬ a3 = -1 := by rw [h3]; exact ofNat_ne (by omega)
  obtain ⟨r4, r3⟩ := s4 r hr
  obtain ⟨p1, p2⟩ := s6 p (by omega)
  rw [u0, Int32.sub_zero] at p2
  unfold w_X5_stopAt
  rw [m2, m3, r4, p2, tkn_c]
  refine ⟨vin (by omega), vin (by omega), fun v ev x4 e4 => ⟨vin (by omega), vin (by omega), fun σ7 e7 => ⟨vin (by omega), vin (by omega), fun σ10 e10 => ⟨vin (by omega), vin (by omega), fun σ13 e13 σ14 e14 σ15 e15 => ?_⟩⟩⟩⟩
  have f15 : FrC σ σ15 := ((((FrC_w e7 (by omega)).tr (FrC_w e10 (by omega))).tr (FrC_w e13 (by omega))).tr (FrC_w e14 (by omega))).tr (FrC_w e15 (by omega))
  refine f_X0_cost (LnR_C ht L f15) a2 h2 (by omega) (by omega) ?_
  intro σ18 e18
  refine ⟨vin (by omega), fun σ20 e20 σ21 e21 σ22 e22 σ23 e23 => ?_⟩
  have f23 : FrC σ σ23 := ((((f15.tr (FrC_w e18 (by omega))).tr (FrC_w e20 (by omega))).tr (FrC_w e21 (by omega))).tr (FrC_w e22 (by omega))).tr (FrC_w e23 (by omega))
  have e16 : σ23.1 t 16 = G 5 := (LnR_C ht L f23).1 5 (by omega)
  -- the cells, one by one
  have v92 : σ23.1 192 p = pd p - v := by rw [zI_q' e23 (by omega), zI_q' e22 (by omega), zI_q' e21 (by omega), zI_q' e20 (by omega), zI_q' e18 (by omega), zI_q' e15 (by omega), zI_q' e14 (by omega), zI_q' e13 (by omega), zI_q' e10 (by omega), e7, zI_s]
  have w92 : ∀ p', p' ≠ p → σ23.1 192 p' = σ.1 192 p' := fun p' h => by rw [zI_q' e23 (by omega), zI_q' e22 (by omega), zI_q' e21 (by omega), zI_q' e20 (by omega), zI_q' e18 (by omega), zI_q' e15 (by omega), zI_q' e14 (by omega), zI_q' e13 (by omega), zI_q' e10 (by omega), zI_q' e7 (by omega)]
  have v94 : σ23.1 194 r = rdG G r 2 - S (10 + r) - v := by rw [zI_q' e23 (by omega), zI_q' e22 (by omega), zI_q' e21 (by omega), zI_q' e20 (by omega), zI_q' e18 (by omega), zI_q' e15 (by omega), zI_q' e14 (by omega), zI_q' e13 (by omega), e10, zI_s, zI_q' e7 (by omega), r4]
  have w94 : ∀ r', r' ≠ r → σ23.1 194 r' = σ.1 194 r' := fun r' h => by rw [zI_q' e23 (by omega), zI_q' e22 (by omega), zI_q' e21 (by omega), zI_q' e20 (by omega), zI_q' e18 (by omega), zI_q' e15 (by omega), zI_q' e14 (by omega), zI_q' e13 (by omega), zI_q' e10 (by omega), zI_q' e7 (by omega)]
  have v93 : σ23.1 193 r = S (20 + r) + (v - v / (3 : Int32)) := by rw [zI_q' e23 (by omega), zI_q' e22 (by omega), zI_q' e21 (by omega), zI_q' e20 (by omega), zI_q' e18 (by omega), zI_q' e15 (by omega), zI_q' e14 (by omega), e13, zI_s, zI_q' e10 (by omega), zI_q' e7 (by omega), r3, e4]
  have w93 : ∀ r', r' ≠ r → σ23.1 193 r' = σ.1 193 r' := fun r' h => by rw [zI_q' e23 (by omega), zI_q' e22 (by omega), zI_q' e21 (by omega), zI_q' e20 (by omega), zI_q' e18 (by omega), zI_q' e15 (by omega), zI_q' e14 (by omega), zI_q' e13 (by omega), zI_q' e10 (by omega), zI_q' e7 (by omega)]
  have v9 : σ23.1 190 9 = S 3 + v := by rw [zI_q' e23 (by omega), zI_q' e22 (by omega), zI_q' e21 (by omega), zI_q' e20 (by omega), zI_q' e18 (by omega), zI_q' e15 (by omega), e14, zI_s, zI_q' e13 (by omega), zI_q' e10 (by omega), zI_q' e7 (by omega), s3]
  have v10 : σ23.1 190 10 = S 1 + v / (3 : Int32) := by rw [zI_q' e23 (by omega), zI_q' e22 (by omega), zI_q' e21 (by omega), zI_q' e20 (by omega), zI_q' e18 (by omega), e15, zI_s, zI_q' e14 (by omega), zI_q' e13 (by omega), zI_q' e10 (by omega), zI_q' e7 (by omega), s1, e4]
  have v8 : σ23.1 190 8 = S 0 + csI G p := by rw [zI_q' e23 (by omega), zI_q' e22 (by omega), zI_q' e21 (by omega), zI_q' e20 (by omega), e18, zI_s, zI_q' e15 (by omega), zI_q' e14 (by omega), zI_q' e13 (by omega), zI_q' e10 (by omega), zI_q' e7 (by omega), s0]
  have v91 : σ23.1 191 p = a3 := by rw [zI_q' e23 (by omega), zI_q' e22 (by omega), zI_q' e21 (by omega), e20, zI_s]
  have w91 : ∀ p', p' ≠ p → σ23.1 191 p' = σ.1 191 p' := fun p' h => by rw [zI_q' e23 (by omega), zI_q' e22 (by omega), zI_q' e21 (by omega), zI_q' e20 (by omega), zI_q' e18 (by omega), zI_q' e15 (by omega), zI_q' e14 (by omega), zI_q' e13 (by omega), zI_q' e10 (by omega), zI_q' e7 (by omega)]
  have v4 : σ23.1 190 4 = σ.1 190 4 ||| ((1 : Int32) <<< (a3 &&& 31)) := by rw [zI_q' e23 (by omega), zI_q' e22 (by omega), e21, zI_s, zI_q' e20 (by omega), zI_q' e18 (by omega), zI_q' e15 (by omega), zI_q' e14 (by omega), zI_q' e13 (by omega), zI_q' e10 (by omega), zI_q' e7 (by omega)]
  have v6 : σ23.1 190 6 = σ.1 190 6 ||| ((1 : Int32) <<< (a2 &&& 31)) := by rw [zI_q' e23 (by omega), e22, zI_s, zI_q' e21 (by omega), zI_q' e20 (by omega), zI_q' e18 (by omega), zI_q' e15 (by omega), zI_q' e14 (by omega), zI_q' e13 (by omega), zI_q' e10 (by omega), zI_q' e7 (by omega)]
  have v7 : σ23.1 190 7 = scT S p + 1 := by rw [e23, zI_s, zI_q' e22 (by omega), zI_q' e21 (by omega), zI_q' e20 (by omega), zI_q' e18 (by omega), zI_q' e15 (by omega), zI_q' e14 (by omega), zI_q' e13 (by omega), zI_q' e10 (by omega), zI_q' e7 (by omega), s8]
  have v5 : σ23.1 190 5 = S 2 := by rw [zI_q' e23 (by omega), zI_q' e22 (by omega), zI_q' e21 (by omega), zI_q' e20 (by omega), zI_q' e18 (by omega), zI_q' e15 (by omega), zI_q' e14 (by omega), zI_q' e13 (by omega), zI_q' e10 (by omega), zI_q' e7 (by omega), s2]
  have v11 : σ23.1 190 11 = bsT (G 5) S p := by rw [zI_q' e23 (by omega), zI_q' e22 (by omega), zI_q' e21 (by omega), zI_q' e20 (by omega), zI_q' e18 (by omega), zI_q' e15 (by omega), zI_q' e14 (by omega), zI_q' e13 (by omega), zI_q' e10 (by omega), zI_q' e7 (by omega), s9]
  -- the slots
  obtain ⟨S', hS'⟩ : ∃ S', S' = pll (csI G) pd (rdG G) p a3 S := ⟨_, rfl⟩
  have ep : S' = upI (upI (upI (upI (upI (upI (upI (upI S (40 + p) a3) (60 + p) v) (10 + r) (S (10 + r) + v)) (20 + r) (S (20 + r) + (v - v / (3 : Int32)))) 1 (S 1 + v / (3 : Int32))) (30 + r) 1) 0 (S 0 + csI G p)) 3 (S 3 + v) := by
    rw [hS']
    unfold pll
    rw [if_neg q, m3, ← ev]
  rw [← hS'] at hP
  have z0 : S' 0 = S 0 + csI G p := by rw [ep, upI_q (by omega), upI_s]
  have z1 : S' 1 = S 1 + v / (3 : Int32) := by rw [ep, upI_q (by omega), upI_q (by omega), upI_q (by omega), upI_s]
  have z2 : S' 2 = S 2 := by rw [ep, upI_q (by omega), upI_q (by omega), upI_q (by omega), upI_q (by omega), upI_q (by omega), upI_q (by omega), upI_q (by omega), upI_q (by omega)]
  have z3 : S' 3 = S 3 + v := by rw [ep, upI_s]
  have z10 : ∀ r', r' < 6 → S' (10 + r') = if r' = r then S (10 + r) + v else S (10 + r') := fun r' h => by
    rw [ep, upI_q (by omega), upI_q (by omega), upI_q (by omega), upI_q (by omega), upI_q (by omega)]
    by_cases c : r' = r
    · rw [if_pos c, c, upI_s]
    · rw [if_neg c, upI_q (by omega), upI_q (by omega), upI_q (by omega)]
  have z20 : ∀ r', r' < 6 → S' (20 + r') = if r' = r then S (20 + r) + (v - v / (3 : Int32)) else S (20 + r') := fun r' h => by
    rw [ep, upI_q (by omega), upI_q (by omega), upI_q (by omega), upI_q (by omega)]
    by_cases c : r' = r
    · rw [if_pos c, c, upI_s]
    · rw [if_neg c, upI_q (by omega), upI_q (by omega), upI_q (by omega), upI_q (by omega)]
  have z30 : ∀ r', r' < 6 → S' (30 + r') = if r' = r then 1 else S (30 + r') := fun r' h => by
    rw [ep, upI_q (by omega), upI_q (by omega)]
    by_cases c : r' = r
    · rw [if_pos c, c, upI_s]
    · rw [if_neg c, upI_q (by omega), upI_q (by omega), upI_q (by omega), upI_q (by omega), upI_q (by omega), upI_q (by omega)]
  have z40 : ∀ p', p' < 16 → S' (40 + p') = if p' = p then a3 else S (40 + p') := fun p' h => by
    rw [ep, upI_q (by omega), upI_q (by omega), upI_q (by omega), upI_q (by omega), upI_q (by omega), upI_q (by omega), upI_q (by omega)]
    by_cases c : p' = p
    · rw [if_pos c, c, upI_s]
    · rw [if_neg c, upI_q (by omega)]
  have z60 : ∀ p', p' < 16 → S' (60 + p') = if p' = p then v else S (60 + p') := fun p' h => by
    rw [ep, upI_q (by omega), upI_q (by omega), upI_q (by omega), upI_q (by omega), upI_q (by omega), upI_q (by omega)]
    by_cases c : p' = p
    · rw [if_pos c, c, upI_s]
    · rw [if_neg c, upI_q (by omega), upI_q (by omega)]
  have zc : ∀ p', p' < p → S (40 + p') = S' (40 + p') := fun p' h => by rw [z40 p' (by omega), if_neg (by omega)]
  have sc : scT S' (p + 1) = scT S p + 1 := by
    show (if S' (40 + p) = -1 then scT S' p else scT S' p + 1) = _
    rw [z40 p (by omega), if_pos rfl, if_neg q, scT_cg p zc]
  have core : ∀ σ24, (∀ k j, ¬ (k = 190 ∧ j = 11) → σ24.1 k j = σ23.1 k j) → σ24.1 190 11 = bsT (G 5) S' (p + 1) → P σ24 := by
    intro σ24 u24 w11
    refine hP σ24 (f23.tr (fun k j x => u24 k j (by omega))) ⟨by rw [u24 190 8 (by omega), v8, z0], by rw [u24 190 10 (by omega), v10, z1], by rw [u24 190 5 (by omega), v5, z2], by rw [u24 190 9 (by omega), v9, z3], fun r' hr' => ?_, fun r' hr' => ?_, fun p' hp' => ?_, fun j hj => ?_, by rw [u24 190 7 (by omega), v7, sc], w11⟩
    · rw [u24 194 r' (by omega), u24 193 r' (by omega), z10 r' (by omega), z20 r' (by omega)]
      by_cases c : r' = r
      · subst c
        rw [if_pos rfl, if_pos rfl, v94, v93, i_ss]
        exact ⟨rfl, rfl⟩
      · rw [if_neg c, if_neg c, w94 r' c, w93 r' c]
        exact s4 r' hr'
    · rw [u24 190 4 (by omega), v4, bt_or, s5 r' hr', h3, bt_sl r (by omega) r' hr']
      by_cases c6 : r' < 6
      · rw [z30 r' c6]
        by_cases c : r' = r
        · rw [if_pos c, decide_eq_true c, decide_eq_true c6]
          cases decide (¬ S (30 + r') = 0) <;> rfl
        · rw [if_neg c, decide_eq_false c, Bool.or_false]
      · rw [decide_eq_false c6, decide_eq_false (show ¬ r' = r by omega)]
        rfl
    · rw [u24 191 p' (by omega), u24 192 p' (by omega), z40 p' (by omega), z60 p' (by omega)]
      by_cases c : p' = p
      · subst c
        rw [if_pos rfl, if_pos rfl, v91, v92]
        exact ⟨rfl, rfl⟩
      · rw [if_neg c, if_neg c, w91 p' c, w92 p' c]
        exact s6 p' hp'
    · rw [u24 190 6 (by omega), v6, bt_or, s7 j hj, e2, bt_sl p (by omega) j hj]
      by_cases c6 : j < 16
      · rw [z40 j c6]
        by_cases c : j = p
        · rw [if_pos c, decide_eq_true c, decide_eq_true c6, decide_eq_true q]
          cases decide (¬ S (40 + j) = -1) <;> rfl
        · rw [if_neg c, decide_eq_false c, Bool.or_false]
      · rw [decide_eq_false c6, decide_eq_false (show ¬ j = p by omega)]
        rfl
  rw [v7, e16]
  have hb : bsT (G 5) S' (p + 1) = if scT S p + 1 = G 5 then Int32.ofNat p else bsT (G 5) S p := by
    show (if S' (40 + p) = -1 then bsT (G 5) S' p else if scT S' p + 1 = G 5 then Int32.ofNat p else bsT (G 5) S' p) = _
    rw [z40 p (by omega), if_pos rfl, if_neg q, ← scT_cg p zc, ← bsT_cg p zc]
  refine ⟨fun c => core σ23 (fun _ _ _ => rfl) (by rw [v11, hb, if_neg c]), fun c σ24 e24 => core σ24 (fun k j h => zI_q' e24 (by omega)) (by rw [e24, zI_s, hb, if_pos c]; exact e2)⟩
