/-! run on both sides -/
theorem smT_up {f : Nat → Int32} {r : Nat} {v : Int32} : ∀ n, smT (fun j => if j = r then f j + v else f j) n = if r < n then smT f n + v else smT f n := by
  intro n
  induction n with
  | zero => rfl
  | succ n ih =>
    show smT (fun j => if j = r then f j + v else f j) n + (if n = r then f n + v else f n) = if r < n + 1 then smT f n + f n + v else smT f n + f n
    rw [ih]
    by_cases c : n = r
    · rw [if_neg (by omega), if_pos c, if_pos (by omega)]
      ac_rfl
    · rw [if_neg c]
      by_cases d : r < n
      · rw [if_pos d, if_pos (by omega)]
        ac_rfl
      · rw [if_neg d, if_neg (by omega)]
/-- what was gathered is what all took -/
theorem gth_p {cs pd S : Nat → Int32} {rd : Nat → Nat → Int32} {p R : Nat} {q : Int32} (hR6 : R ≤ 6) (hq : q = -1 ∨ ∃ r, r < R ∧ q = Int32.ofNat r) (h : smT (fun r => S (10 + r)) R = S 3) : smT (fun r => pll cs pd rd p q S (10 + r)) R = pll cs pd rd p q S 3 := by
  rcases hq with e | ⟨r, hr, er⟩
  · unfold pll
    rw [if_pos e, upI_q (by omega), upI_q (by omega), ← h]
    exact smT_cg R (fun j hj => by rw [upI_q (by omega), upI_q (by omega)])
  · have n : q.toNatClampNeg = r := by rw [er]; exact ofNat_c (by omega)
    have ne : ¬ q = -1 := by rw [er]; exact ofNat_ne (by omega)
    unfold pll
    rw [if_neg ne, n, upI_s]
    have y := smT_up (f := fun r => S (10 + r)) (r := r) (v := tkn (pd p) (rd r 2 - S (10 + r))) R
    rw [if_pos hr, h] at y
    rw [← y]
    refine smT_cg R (fun j hj => ?_)
    rw [upI_q (by omega), upI_q (by omega), upI_q (by omega), upI_q (by omega), upI_q (by omega)]
    by_cases c : j = r
    · rw [c, upI_s, if_pos rfl]
    · rw [if_neg c, upI_q (by omega), upI_q (by omega), upI_q (by omega)]
theorem gth {law : Int32} {R : Nat} (hR6 : R ≤ 6) {so : Nat → Bool} {cs pd : Nat → Int32} {rd : Nat → Nat → Int32} {seed : Int32} : ∀ n, smT (fun r => rnF law R so cs pd rd seed n (10 + r)) R = rnF law R so cs pd rd seed n 3 := by
  intro n
  induction n with
  | zero =>
    have z : ∀ r, r < R → S0n seed (10 + r) = 0 := fun r hr => by
      unfold S0n
      rw [if_neg (by omega), if_neg (by omega)]
    show smT (fun r => S0n seed (10 + r)) R = S0n seed 3
    have y : ∀ k, k ≤ R → smT (fun r => S0n seed (10 + r)) k = 0 := by
      intro k
      induction k with
      | zero => intro _; rfl
      | succ k ih =>
        intro hk
        show smT (fun r => S0n seed (10 + r)) k + S0n seed (10 + k) = 0
        rw [ih (by omega), z k (by omega)]
        rfl
    rw [y R (Nat.le_refl R)]
    rfl
  | succ n ih =>
    show smT (fun r => stp law R so cs pd rd n (rnF law R so cs pd rd seed n) (10 + r)) R = stp law R so cs pd rd n (rnF law R so cs pd rd seed n) 3
    unfold stp
    refine gth_p hR6 ?_ ?_
    · rcases pck_sp hR6 (law := law) (W := wts so cs pd rd (rnF law R so cs pd rd seed n) n) (f := fun r => rd r 5) (S := rnF law R so cs pd rd seed n) with z | ⟨r, a, b, _⟩
      · exact Or.inl z
      · exact Or.inr ⟨r, a, b⟩
    · rw [sd1_q (by omega), ← ih]
      exact smT_cg R (fun j hj => by rw [sd1_q (by omega)])
theorem f_X10_gathered {l R N : Nat} {G cs pd S : Nat → Int32} {σ : zSto} (X : RfX l R N G cs pd σ) (h41 : ∀ r, r < 6 → σ.1 241 r = S (10 + r)) {P : Int32 → zSto → Prop} (hP : P (smT (fun r => S (10 + r)) R) σ) : w_X10_gathered σ P := by
  have l1 := lit_1
  have h26 := X.2.2.2.2.1
  have R6 := X.2.2.2.2.2.2.2.1
  have go : ∀ (n i : Nat) (x_1 x_2 : Int32), ti x_2 = (i : Int) → i ≤ R → x_1 = smT (fun r => S (10 + r)) i → R - i < n → w_X10_gathered_4 P n x_1 x_2 σ := by
    intro n
    induction n with
    | zero => intro i x_1 x_2 _ _ _ h; omega
    | succ n ih =>
      intro i x_1 x_2 hi hiR h1 hn
      unfold w_X10_gathered_4
      refine ⟨fun q => ?_, fun q => ?_⟩
      · have c := le_t q
        have e : i = R := by omega
        subst e
        rw [h1]
        exact hP
      · have c := nle_t q
        have tn := tn_eq x_2
        have t1 := tadd (x := x_2) (y := (1 : Int32)) (by omega)
        rw [show x_2.toNatClampNeg = i by omega, h41 i (by omega)]
        refine ⟨vin (by omega), fun x2 e2 x3 e3 => ?_⟩
        have f := eq_t e3
        exact ih (i + 1) x2 x3 (by omega) (by omega) (by rw [e2, h1]; rfl) (by omega)
  exact ⟨100, go 100 0 (0 : Int32) (0 : Int32) lit_0 (by omega) rfl (by omega)⟩
theorem f_X10_stopsOf {l R N : Nat} {G cs pd S : Nat → Int32} {σ : zSto} (X : RfX l R N G cs pd σ) (h40 : ∀ p, p < N → σ.1 240 p = S (40 + p)) {P : Int32 → zSto → Prop} (hP : ∀ x, (∀ j, j < 32 → bt x j = (decide (j < N) && decide (¬ S (40 + j) = -1))) → P x σ) : w_X10_stopsOf σ P := by
  have l1 := lit_1
  have h24 := X.2.2.1
  have N16 := X.2.2.2.2.2.2.1
  have sk : ∀ {i j : Nat} {b : Bool}, ¬ j = i → decide (j < i) = decide (j < i + 1) := fun {i j b} h => by
    by_cases k : j < i
    · rw [decide_eq_true k, decide_eq_true (by omega)]
    · rw [decide_eq_false k, decide_eq_false (by omega)]
  have go : ∀ (n i : Nat) (x_1 x_2 : Int32), ti x_2 = (i : Int) → i ≤ N → (∀ j, j < 32 → bt x_1 j = (decide (j < i) && decide (¬ S (40 + j) = -1))) → N - i < n → w_X10_stopsOf_4 P n x_1 x_2 σ := by
    intro n
    induction n with
    | zero => intro i x_1 x_2 _ _ _ h; omega
    | succ n ih =>
      intro i x_1 x_2 hi hiN hb hn
      unfold w_X10_stopsOf_4
      refine ⟨fun q => ?_, fun q => ?_⟩
      · have c := le_t q
        have e : i = N := by omega
        subst e
        exact hP x_1 hb
      · have c := nle_t q
        have tn := tn_eq x_2
        have t1 := tadd (x := x_2) (y := (1 : Int32)) (by omega)
        have e2 := nI_x hi (by omega)
        rw [show x_2.toNatClampNeg = i by omega, h40 i (by omega)]
        refine ⟨vin (by omega), fun k x2 e2' x3 e3 => ?_, fun k x2 e2' x3 e3 => ?_⟩
        · have f := eq_t e3
          refine ih (i + 1) x2 x3 (by omega) (by omega) (fun j hj => ?_) (by omega)
          rw [e2', bt_or, bt_z, Bool.or_false, hb j hj]
          by_cases d : j = i
          · subst d
            rw [k]
            cases decide (j < j) <;> cases decide (j < j + 1) <;> rfl
          · rw [sk (b := true) d]
        · have f := eq_t e3
          refine ih (i + 1) x2 x3 (by omega) (by omega) (fun j hj => ?_) (by omega)
          rw [e2', bt_or, e2, bt_sl i (by omega) j hj, hb j hj]
          by_cases d : j = i
          · subst d
            rw [decide_eq_true k, decide_eq_true (show j = j from rfl), decide_eq_true (show j < j + 1 by omega)]
            cases decide (j < j) <;> rfl
          · rw [sk (b := true) d, decide_eq_false d, Bool.or_false]
  exact ⟨100, go 100 0 (0 : Int32) (0 : Int32) lit_0 (by omega) (fun j hj => by rw [bt_z, decide_eq_false (Nat.not_lt_zero j)]; rfl) (by omega)⟩
theorem f_X10_ones (a1 : Int32) {S : Nat → Int32} {σ : zSto} (hb : ∀ j, j < 16 → bt a1 j = decide (¬ S (40 + j) = -1)) {P : Int32 → zSto → Prop} (hP : P (scT S 16) σ) : w_X10_ones a1 σ P := by
  have l1 := lit_1
  have l16 := lit_16
  have go : ∀ (n i : Nat) (x_1 x_2 : Int32), ti x_2 = (i : Int) → i ≤ 16 → x_1 = scT S i → 16 - i < n → w_X10_ones_4 a1 P n x_1 x_2 σ := by
    intro n
    induction n with
    | zero => intro i x_1 x_2 _ _ _ h; omega
    | succ n ih =>
      intro i x_1 x_2 hi hiN h1 hn
      unfold w_X10_ones_4
      refine ⟨fun q => ?_, fun q => ?_⟩
      · have c := le_t q
        have e : i = 16 := by omega
        subst e
        rw [h1]
        exact hP
      · have c := nle_t q
        have t1 := tadd (x := x_2) (y := (1 : Int32)) (by omega)
        have b := hb i (by omega)
        refine f_X10_has a1 x_2 hi (by omega) (fun r z => fun _ => ⟨fun k x3 e3 x4 e4 => ?_, fun k x3 e3 x4 e4 => ?_⟩)
        · have f := eq_t e4
          have z2 : S (40 + i) = -1 := Classical.byContradiction (fun w => (z.mpr (by rw [b]; exact decide_eq_true w)) k)
          refine ih (i + 1) x3 x4 (by omega) (by omega) ?_ (by omega)
          rw [e3, h1, Int32.add_zero]
          show _ = if S (40 + i) = -1 then scT S i else scT S i + 1
          rw [if_pos z2]
        · have f := eq_t e4
          have z2 := z.mp k
          rw [b] at z2
          refine ih (i + 1) x3 x4 (by omega) (by omega) ?_ (by omega)
          rw [e3, h1]
          show _ = if S (40 + i) = -1 then scT S i else scT S i + 1
          rw [if_neg (of_decide_eq_true z2)]
  exact ⟨100, go 100 0 (0 : Int32) (0 : Int32) lit_0 (by omega) rfl (by omega)⟩
theorem scT_up {S : Nat → Int32} {N : Nat} : ∀ k, (∀ p, N ≤ p → p < N + k → S (40 + p) = -1) → scT S (N + k) = scT S N := by
  intro k
  induction k with
  | zero => intro _; rfl
  | succ k ih =>
    intro h
    show (if S (40 + (N + k)) = -1 then scT S (N + k) else scT S (N + k) + 1) = scT S N
    rw [if_pos (h (N + k) (by omega) (by omega))]
    exact ih (fun p a b => h p a (by omega))
theorem bsT_up {b : Int32} {S : Nat → Int32} {N : Nat} : ∀ k, (∀ p, N ≤ p → p < N + k → S (40 + p) = -1) → bsT b S (N + k) = bsT b S N := by
  intro k
  induction k with
  | zero => intro _; rfl
  | succ k ih =>
    intro h
    show (if S (40 + (N + k)) = -1 then bsT b S (N + k) else if scT S (N + k) + 1 = b then Int32.ofNat (N + k) else bsT b S (N + k)) = bsT b S N
    rw [if_pos (h (N + k) (by omega) (by omega))]
    exact ih (fun p a b => h p a (by omega))
/-- what run answers -/
noncomputable def ruA (N R : Nat) (G S : Nat → Int32) (st : Int32) (a : Int) : Int32 :=
  if 100 ≤ a ∧ a < 100 + (N : Int) then cmT (csI G) (fun q => G (7 + 5 * q)) S (a - 100).toNat else if 200 ≤ a ∧ a < 200 + (R : Int) then S (20 + (a - 200).toNat) else if a = 0 then cmT (csI G) (fun q => G (7 + 5 * q)) S (N - 1) else if a = 1 then S 3 else if a = 2 then scT S (N - 1) else if a = 3 then S 0 else if a = 4 then S 1 else if a = 5 then fiT G (csI G) S N else if a = 6 then bsT (G 5) S (N - 1) else if a = 7 then st else -2
set_option maxHeartbeats 8000000 in
theorem al_run {σ : zSto} (H : Lz σ) (a1 a2 a3 a4 a5 : Int32) : ∃ A : Int32, w_X9_run a1 a2 a3 a4 a5 σ (fun r _ => r = A) ∧ ∀ σa, SmR σ σa → w_X10_run a1 a2 a3 a4 a5 σa (fun r _ => r = A) := by
  have l0 := lit_0
  have l1 := lit_1
  have l100 := lit_100
  have l199 := lit_199
  have l200 := lit_200
  by_cases ex : exR σ a1 a2 a4
  · obtain ⟨l, hl⟩ : ∃ l : Nat, ti a1 = (l : Int) := ⟨(ti a1).toNat, by have := ex.1; omega⟩
    have d : 0 ≤ ti (σ.1 42 0) ∧ ti (σ.1 42 0) ≤ 2 := rdg H.1.1 kd_42 rfl rfl
    obtain ⟨N, R, G, tl⟩ := tlL_of H (l := l) (by have := ex.2.1; omega) (by have := ex.2.1; omega)
    have ln := LnN_of H tl
    obtain ⟨S, hS⟩ : ∃ S, S = rnA a2 R (fun _ => true) G a4 a3 N := ⟨_, rfl⟩
    have N16 := ln.1
    have R6 := ln.2.1
    have N1 := tl.2.2.2.2.2.1
    have un : ∀ p, N - 1 ≤ p → p < 16 → S (40 + p) = -1 := fun p h1 h2 => by rw [hS]; exact (rnF_un R6 (N - 1) p h1 h2 (by omega)).1
    have gt : smT (fun r => S (10 + r)) R = S 3 := by rw [hS]; exact gth R6 (N - 1)
    -- STOPS, as bits: one set has them
    obtain ⟨stp0, hst⟩ : ∃ x : Int32, ∀ j, j < 32 → bt x j = (decide (j < 16) && decide (¬ S (40 + j) = -1)) := by
      have k : ∀ n, n ≤ 16 → ∃ x : Int32, ∀ j, j < 32 → bt x j = (decide (j < n) && decide (¬ S (40 + j) = -1)) := by
        intro n
        induction n with
        | zero => intro _; exact ⟨0, fun j _ => by rw [bt_z, decide_eq_false (Nat.not_lt_zero j)]; rfl⟩
        | succ n ih =>
          intro hn
          obtain ⟨x, hx⟩ := ih (by omega)
          by_cases c : S (40 + n) = -1
          · refine ⟨x, fun j hj => ?_⟩
            rw [hx j hj]
            by_cases e : j = n
            · subst e
              rw [c]
              cases decide (j < j) <;> cases decide (j < j + 1) <;> rfl
            · rw [show decide (j < n) = decide (j < n + 1) by by_cases k2 : j < n; rw [decide_eq_true k2, decide_eq_true (by omega)]; rw [decide_eq_false k2, decide_eq_false (by omega)]]
          · refine ⟨x ||| ((1 : Int32) <<< (Int32.ofNat n &&& 31)), fun j hj => ?_⟩
            rw [bt_or, hx j hj, bt_sl n (by omega) j hj]
            by_cases e : j = n
            · subst e
              rw [decide_eq_true c, decide_eq_true (show j = j from rfl), decide_eq_true (show j < j + 1 by omega)]
              cases decide (j < j) <;> rfl
            · rw [decide_eq_false e, Bool.or_false, show decide (j < n) = decide (j < n + 1) by by_cases k2 : j < n; rw [decide_eq_true k2, decide_eq_true (by omega)]; rw [decide_eq_false k2, decide_eq_false (by omega)]]
      exact k 16 (by omega)
    refine ⟨ruA N R G S stp0 (ti a5), ?_, ?_⟩
    · unfold w_X9_run
      refine f_X9_ridden H a1 a2 a3 a4 (fun z => absurd ex z) (fun _ l' N' R' G' hl' tl' σ2 f2 T2 => ?_)
      have el : l' = l := by omega
      subst el
      obtain ⟨eN, eR, eG⟩ := tlL_eq tl tl' (fun _ => rfl)
      subst eN
      subst eR
      subst eG
      rw [← hS] at T2
      refine ⟨fun z => (by cases z), fun j3 e3 => ?_⟩
      have e3' := Option.some.inj e3
      subst e3'
      have L2 := LnR_C (okT_l tl.1) tl.2.2.2.2.2.2.2.2 f2
      have e11 : σ2.1 (4 + 12 * l') 11 = G' 0 := L2.1 0 (by omega)
      have e12 : σ2.1 (4 + 12 * l') 12 = G' 1 := L2.1 1 (by omega)
      have hN := tl.2.2.2.1
      have hR := tl.2.2.2.2.1
      obtain ⟨s0, s1, s2, s3, s4, s5, s6, s7, s8, s9⟩ := id T2
      have st6 : σ2.1 190 6 = stp0 := bt_ex (fun j hj => by rw [s7 j hj, hst j hj])
      have tp := tsub (x := G' 0) (y := (1 : Int32)) (by omega)
      have t100 := tadd (x := (100 : Int32)) (y := G' 0) (by omega)
      have t200 := tadd (x := (200 : Int32)) (y := G' 1) (by omega)
      rw [e11, e12]
      have sw : ¬ (100 ≤ ti a5 ∧ ti a5 < 100 + (N' : Int)) → ¬ (200 ≤ ti a5 ∧ ti a5 < 200 + (R' : Int)) → ((a5 = 0 → (w_X5_arrival (4 + 12 * l') ((G' 0) - (1 : Int32)) σ2 (fun (r5 : Int32) (_ : zSto) => r5 = ruA N' R' G' S stp0 (ti a5)))) ∧ (a5 = 1 → (σ2.1 190 9) = ruA N' R' G' S stp0 (ti a5)) ∧ (a5 = 2 → (σ2.1 190 7) = ruA N' R' G' S stp0 (ti a5)) ∧ (a5 = 3 → (σ2.1 190 8) = ruA N' R' G' S stp0 (ti a5)) ∧ (a5 = 4 → (σ2.1 190 10) = ruA N' R' G' S stp0 (ti a5)) ∧ (a5 = 5 → (w_X5_fines (4 + 12 * l') σ2 (fun (r7 : Int32) (_ : zSto) => r7 = ruA N' R' G' S stp0 (ti a5)))) ∧ (a5 = 6 → (σ2.1 190 11) = ruA N' R' G' S stp0 (ti a5)) ∧ (a5 = 7 → (σ2.1 190 6) = ruA N' R' G' S stp0 (ti a5)) ∧ ((a5.toInt < 0 ∨ 7 < a5.toInt) → (-2 : Int32) = ruA N' R' G' S stp0 (ti a5))) := by
        intro n1 n2
        have v : ruA N' R' G' S stp0 (ti a5) = if ti a5 = 0 then cmT (csI G') (fun q => G' (7 + 5 * q)) S (N' - 1) else if ti a5 = 1 then S 3 else if ti a5 = 2 then scT S (N' - 1) else if ti a5 = 3 then S 0 else if ti a5 = 4 then S 1 else if ti a5 = 5 then fiT G' (csI G') S N' else if ti a5 = 6 then bsT (G' 5) S (N' - 1) else if ti a5 = 7 then stp0 else -2 := by
          unfold ruA
          rw [if_neg n1, if_neg n2]
        rw [v]
        refine ⟨fun z => ?_, fun z => ?_, fun z => ?_, fun z => ?_, fun z => ?_, fun z => ?_, fun z => ?_, fun z => ?_, fun z => ?_⟩
        · refine f_arrival L2 hN N16 T2 _ (p := N' - 1) (by omega) (by omega) ?_
          rw [if_pos (by rw [z]; exact lit_0)]
        · have k : ti a5 = 1 := by rw [z]; exact lit_1
          rw [if_neg (by omega), if_pos k]
          exact s3
        · have k : ti a5 = 2 := by rw [z]; exact lit_2
          rw [if_neg (by omega), if_neg (by omega), if_pos k]
          exact s8
        · have k : ti a5 = 3 := by rw [z]; exact lit_3
          rw [if_neg (by omega), if_neg (by omega), if_neg (by omega), if_pos k]
          exact s0
        · have k : ti a5 = 4 := by rw [z]; exact lit_4
          rw [if_neg (by omega), if_neg (by omega), if_neg (by omega), if_neg (by omega), if_pos k]
          exact s1
        · have k : ti a5 = 5 := by rw [z]; exact lit_5
          refine f_fines L2 hN ln T2 ?_
          rw [if_neg (by omega), if_neg (by omega), if_neg (by omega), if_neg (by omega), if_neg (by omega), if_pos k]
        · have k : ti a5 = 6 := by rw [z]; exact lit_6
          rw [if_neg (by omega), if_neg (by omega), if_neg (by omega), if_neg (by omega), if_neg (by omega), if_neg (by omega), if_pos k]
          exact s9
        · have k : ti a5 = 7 := by rw [z]; exact lit_7
          rw [if_neg (by omega), if_neg (by omega), if_neg (by omega), if_neg (by omega), if_neg (by omega), if_neg (by omega), if_neg (by omega), if_pos k]
          exact st6
        · rw [ti_toInt] at z
          rw [if_neg (by omega), if_neg (by omega), if_neg (by omega), if_neg (by omega), if_neg (by omega), if_neg (by omega), if_neg (by omega), if_neg (by omega)]
      have kept : 200 ≤ ti a5 ∧ ti a5 < 200 + (R' : Int) → vp_in (a5 - (200 : Int32)) 6 ∧ σ2.1 193 (a5 - (200 : Int32)).toNatClampNeg = ruA N' R' G' S stp0 (ti a5) := fun w => by
        have ts := tsub (x := a5) (y := (200 : Int32)) (by omega)
        have n2 := tn_eq (a5 - (200 : Int32))
        refine ⟨vin (by omega), ?_⟩
        unfold ruA
        rw [if_neg (by omega), if_pos w, show (a5 - (200 : Int32)).toNatClampNeg = (ti a5 - 200).toNat by omega]
        exact (s4 _ (by omega)).2
      refine ⟨isT_L (isN_T (by have := tl.1; unfold isN; omega)), fun c1 => ⟨fun c2 => ?_, fun c2 => ?_⟩, fun c1 => ⟨fun c2 => ⟨fun c3 => ?_, fun c3 => ⟨fun c4 => ?_, fun c4 => ?_⟩⟩, fun c2 => ?_⟩⟩
      · have := lt_t c1
        exact sw (by omega) (by omega)
      · have := lt_t c1
        have := nlt_t c2
        omega
      · have := nlt_t c1
        have := le_t c2
        have := lt_t c3
        exact sw (by omega) (by omega)
      · have := nlt_t c1
        have := le_t c2
        have := nlt_t c3
        have := le_t c4
        exact sw (by omega) (by omega)
      · have := nlt_t c1
        have := le_t c2
        have := nlt_t c3
        have := nle_t c4
        exact kept (by omega)
      · have := nlt_t c1
        have := nle_t c2
        have ts := tsub (x := a5) (y := (100 : Int32)) (by omega)
        refine f_arrival L2 hN N16 T2 _ (p := (ti a5 - 100).toNat) (by omega) (by omega) ?_
        unfold ruA
        rw [if_pos (by omega)]
    · intro σa sm
      unfold w_X10_run
      intro σ1 e1
      obtain ⟨H1, u1⟩ := SmR_223 sm e1
      refine f_X10_layRun H1 a1 a2 a3 a4 (fun z => absurd ((exR_eq1 u1).mpr ex) z) (fun _ l' N' R' G' hl' tl' σ2 f2 X2 T2 => fun _ => ⟨fun _ => ?_, fun c => absurd c (by decide)⟩)
      have el : l' = l := by omega
      subst el
      obtain ⟨eN, eR, eG⟩ := tlL_eq tl tl' (fun j => u1 229 j (by omega) (by omega))
      subst eN
      subst eR
      subst eG
      rw [← hS] at T2
      have h25 := X2.2.2.2.1
      have h26 := X2.2.2.2.2.1
      obtain ⟨⟨p0, p1, p2, p3, p4⟩, p33, p34, p39⟩ := T2
      have t100 := tadd (x := (100 : Int32)) (y := σ2.1 223 25) (by omega)
      have t199 := tadd (x := (199 : Int32)) (y := σ2.1 223 26) (by omega)
      refine b_X10_in a5 (100 : Int32) _ (fun r5 z5 => fun _ => ⟨fun q5 => ?_, fun q5 => ?_⟩)
      · have n5 : ¬ (100 ≤ ti a5 ∧ ti a5 < 100 + (N' : Int)) := fun w => z5.mpr (by omega) q5
        refine b_X10_in a5 (200 : Int32) _ (fun r7 z7 => fun _ => ⟨fun q7 => ?_, fun q7 => ?_⟩)
        · have n7 : ¬ (200 ≤ ti a5 ∧ ti a5 < 200 + (R' : Int)) := fun w => z7.mpr (by omega) q7
          have v : ruA N' R' G' S stp0 (ti a5) = if ti a5 = 0 then cmT (csI G') (fun q => G' (7 + 5 * q)) S (N' - 1) else if ti a5 = 1 then S 3 else if ti a5 = 2 then scT S (N' - 1) else if ti a5 = 3 then S 0 else if ti a5 = 4 then S 1 else if ti a5 = 5 then fiT G' (csI G') S N' else if ti a5 = 6 then bsT (G' 5) S (N' - 1) else if ti a5 = 7 then stp0 else -2 := by
            unfold ruA
            rw [if_neg n5, if_neg n7]
          rw [v]
          have stx : ∀ x : Int32, (∀ j, j < 32 → bt x j = (decide (j < N') && decide (¬ S (40 + j) = -1))) → x = stp0 := fun x hx => bt_ex (fun j hj => by
            rw [hx j hj, hst j hj]
            by_cases c : j < N'
            · rw [decide_eq_true c, decide_eq_true (show j < 16 by omega)]
            · rw [decide_eq_false c]
              by_cases c2 : j < 16
              · rw [un j (by omega) c2]
                simp
              · rw [decide_eq_false c2])
          refine ⟨fun z => ?_, fun z => ?_, fun z => ?_, fun z => ?_, fun z => ?_, fun z => ?_, fun z => ?_, fun z => ?_, fun z => ?_⟩
          · have n2 := tn_eq (σ2.1 223 25)
            rw [if_pos (by rw [z]; exact lit_0), show (σ2.1 223 25).toNatClampNeg = N' - 1 by omega]
            exact ⟨vin (by omega), p39 (N' - 1) (by omega)⟩
          · have k : ti a5 = 1 := by rw [z]; exact lit_1
            refine f_X10_gathered X2 (fun r hr => (p3 r hr).1) ?_
            rw [if_neg (by omega), if_pos k]
            exact gt
          · have k : ti a5 = 2 := by rw [z]; exact lit_2
            refine f_X10_stopsOf X2 (fun p hp => (p4 p hp).1) (fun x hx => ?_)
            rw [stx x hx]
            refine f_X10_ones stp0 (S := S) (fun j hj => by rw [hst j (by omega), decide_eq_true hj]; rfl) ?_
            rw [if_neg (by omega), if_neg (by omega), if_pos k]
            have y := scT_up (S := S) (N := N' - 1) (16 - (N' - 1)) (fun p a b => un p a (by omega))
            rw [show N' - 1 + (16 - (N' - 1)) = 16 by omega] at y
            exact y
          · have k : ti a5 = 3 := by rw [z]; exact lit_3
            rw [if_neg (by omega), if_neg (by omega), if_neg (by omega), if_pos k]
            exact p0
          · have k : ti a5 = 4 := by rw [z]; exact lit_4
            rw [if_neg (by omega), if_neg (by omega), if_neg (by omega), if_neg (by omega), if_pos k]
            exact p1
          · have k : ti a5 = 5 := by rw [z]; exact lit_5
            rw [if_neg (by omega), if_neg (by omega), if_neg (by omega), if_neg (by omega), if_neg (by omega), if_pos k]
            exact p33
          · have k : ti a5 = 6 := by rw [z]; exact lit_6
            rw [if_neg (by omega), if_neg (by omega), if_neg (by omega), if_neg (by omega), if_neg (by omega), if_neg (by omega), if_pos k, p34]
            have y := bsT_up (b := G' 5) (S := S) (N := N' - 1) 1 (fun p a b => un p a (by omega))
            rw [show N' - 1 + 1 = N' by omega] at y
            exact y
          · have k : ti a5 = 7 := by rw [z]; exact lit_7
            refine f_X10_stopsOf X2 (fun p hp => (p4 p hp).1) (fun x hx => ?_)
            rw [if_neg (by omega), if_neg (by omega), if_neg (by omega), if_neg (by omega), if_neg (by omega), if_neg (by omega), if_neg (by omega), if_pos k]
            exact stx x hx
          · rw [ti_toInt] at z
            rw [if_neg (by omega), if_neg (by omega), if_neg (by omega), if_neg (by omega), if_neg (by omega), if_neg (by omega), if_neg (by omega), if_neg (by omega)]
        · have w := z7.mp q7
          have ts := tsub (x := a5) (y := (200 : Int32)) (by omega)
          have n2 := tn_eq (a5 - (200 : Int32))
          refine ⟨vin (by omega), ?_⟩
          unfold ruA
          rw [if_neg n5, if_pos (by omega), show (a5 - (200 : Int32)).toNatClampNeg = (ti a5 - 200).toNat by omega]
          exact (p3 _ (by omega)).2.1
      · have w := z5.mp q5
        have ts := tsub (x := a5) (y := (100 : Int32)) (by omega)
        have n2 := tn_eq (a5 - (100 : Int32))
        refine ⟨vin (by omega), ?_⟩
        unfold ruA
        rw [if_pos (by omega), show (a5 - (100 : Int32)).toNatClampNeg = (ti a5 - 100).toNat by omega]
        exact p39 _ (by omega)
  · refine ⟨-2, ?_, ?_⟩
    · unfold w_X9_run
      exact f_X9_ridden H a1 a2 a3 a4 (fun _ => ⟨fun _ => rfl, fun j3 e3 => (by cases e3)⟩) (fun e => absurd e ex)
    · intro σa sm
      unfold w_X10_run
      intro σ1 e1
      obtain ⟨H1, u1⟩ := SmR_223 sm e1
      exact f_X10_layRun H1 a1 a2 a3 a4 (fun _ => fun _ => ⟨fun c => absurd rfl c, fun _ => rfl⟩) (fun e => absurd ((exR_eq1 u1).mp e) ex)
theorem m_run {σ : zSto} (H : Lz σ) (a1 a2 a3 a4 a5 : Int32) {P : Int32 → zSto → Prop} (hP : ∀ r σa, (∀ Q : Int32 → zSto → Prop, (∀ σ2, Lz σ2 → Q r σ2) → w_X10_run a1 a2 a3 a4 a5 σa Q) → P r σa) : w_X9_run a1 a2 a3 a4 a5 σ P := by
  obtain ⟨A, hc, hr⟩ := al_run H a1 a2 a3 a4 a5
  exact cj_X9_run (P := fun _ σa => zInv AC σ.1 3 σa) (Q := fun r _ => r = A) (fun r σa i e2 => by
    subst e2
    have sm := SmR_C H i
    exact hP _ _ (fun Q hQ => cj_X10_run (P := fun _ σb => zInv AR2 σa.1 3 σb) (Q := fun r' _ => r' = r) (fun r' σb i e => by
      subst e
      exact hQ σb (Lz_R sm.1 i)) (s_X10_run (A := AR2) (F := σa.1) ar2_r a1 a2 a3 a4 a5 (inv_any sm.1.1) (fun _ _ i => i)) (hr σa sm))) (s_X9_run (A := AC) (F := σ.1) ac_c a1 a2 a3 a4 a5 (inv_any H.1) (fun _ _ i => i)) hc
