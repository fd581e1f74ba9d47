/-- nobody pulls at POST p: nothing changes -/
theorem CsS_no {N R : Nat} {G pd S : Nat → Int32} {p : Nat} {σ : zSto} {cs : Nat → Int32} (hp : p + 1 < N) (hN : N ≤ 16) (hR6 : R ≤ 6) (T : CsS N R G pd S p σ) (u4 : S (40 + p) = -1) (u6 : S (60 + p) = 0) : CsS N R G pd (pll cs pd (rdG G) p (-1) S) (p + 1) σ := by
  have e : ∀ j, pll cs pd (rdG G) p (-1) S j = S j := fun j => by
    unfold pll
    rw [if_pos rfl]
    by_cases c6 : j = 60 + p
    · rw [c6, upI_s, u6]
    · rw [upI_q c6]
      by_cases c4 : j = 40 + p
      · rw [c4, upI_s, u4]
      · rw [upI_q c4]
  have ef : pll cs pd (rdG G) p (-1) S = S := funext e
  rw [ef]
  obtain ⟨s0, s1, s2, s3, s4, s5, s6, s7, s8, s9⟩ := T
  refine ⟨s0, s1, s2, s3, s4, s5, s6, s7, ?_, ?_⟩
  · rw [s8]
    show _ = if S (40 + p) = -1 then scT S p else scT S p + 1
    rw [if_pos u4]
  · rw [s9]
    show _ = if S (40 + p) = -1 then bsT (G 5) S p else if scT S p + 1 = G 5 then Int32.ofNat p else bsT (G 5) S p
    rw [if_pos u4]
theorem TkI_p {R : Nat} {G S : Nat → Int32} {cs pd : Nat → Int32} {p : Nat} {q : Int32} (hR6 : R ≤ 6) (h : TkI R G S) (hq : q = -1 ∨ ∃ r, r < R ∧ q = Int32.ofNat r ∧ ¬ pd p ≤ 0 ∧ ¬ rdG G r 2 ≤ S (10 + r)) : TkI R G (pll cs pd (rdG G) p q S) := by
  intro r' hr'
  rcases hq with e | ⟨r, hr, er, w1, w2⟩
  · unfold pll
    rw [if_pos e, upI_q (by omega), upI_q (by omega)]
    exact h r' hr'
  · have n : q.toNatClampNeg = r := by rw [er]; exact ofNat_c (by omega)
    have ne : ¬ q = -1 := by rw [er]; exact ofNat_ne (by omega)
    unfold pll
    rw [if_neg ne, n, upI_q (by omega), upI_q (by omega), upI_q (by omega), upI_q (by omega), upI_q (by omega)]
    by_cases c : r' = r
    · subst c
      rw [upI_s]
      have rm := rm_pos h hr
      obtain ⟨a, b⟩ := h r' hr
      have x1 := nle_t w1
      have x2 := nle_t w2
      rw [lit_0] at x1
      have f := full32 (rdG G r' 2)
      have tr : ti (rdG G r' 2 - S (10 + r')) = ti (rdG G r' 2) - ti (S (10 + r')) := by
        rcases rm.2 with z | z
        · rw [z, Int32.sub_zero, lit_0]
          omega
        · exact z
      have tk : 0 < ti (tkn (pd p) (rdG G r' 2 - S (10 + r'))) ∧ ti (tkn (pd p) (rdG G r' 2 - S (10 + r'))) ≤ ti (rdG G r' 2) - ti (S (10 + r')) := by
        unfold tkn
        by_cases k : rdG G r' 2 - S (10 + r') ≤ pd p
        · rw [if_pos k, tr]
          omega
        · have := nle_t k
          rw [if_neg k]
          omega
      have ta := tadd (x := S (10 + r')) (y := tkn (pd p) (rdG G r' 2 - S (10 + r'))) (by omega)
      rw [ta]
      exact ⟨by omega, Or.inr (by omega)⟩
    · rw [upI_q (by omega), upI_q (by omega), upI_q (by omega)]
      exact h r' hr'
theorem TkI_sd {R : Nat} {G S : Nat → Int32} {law : Int32} {n : Nat} (h : TkI R G S) : TkI R G (sd1 law n S) := fun r hr => by
  rw [sd1_q (by omega)]
  exact h r hr
set_option maxHeartbeats 8000000 in
theorem f_byLaw_21 {t N R : Nat} {G pd : Nat → Int32} {so : Nat → Bool} {seed : Int32} (ht : okT t) {σ0 : zSto} (L0 : LnR t G σ0) (hN : ti (G 0) = (N : Int)) (hN1 : 1 ≤ N) (hN16 : N ≤ 16) (hR : ti (G 1) = (R : Int)) (hR6 : R ≤ 6) (x_2 x_5 : Int32) (hlaw : 0 ≤ ti x_2 ∧ ti x_2 ≤ 3) (hso : ∀ r, r < R → so r = bt x_5 r) {P : zSto → Prop} (hP : ∀ σ2, FrC σ0 σ2 → CsS N R G pd (rnF x_2 R so (csI G) pd (rdG G) seed (N - 1)) (N - 1) σ2 → P σ2) : ∀ (n i : Nat) (x_6 : Int32) (σ : zSto), ti x_6 = (i : Int) → i ≤ N - 1 → FrC σ0 σ → CsS N R G pd (rnF x_2 R so (csI G) pd (rdG G) seed i) i σ → TkI R G (rnF x_2 R so (csI G) pd (rdG G) seed i) → N - 1 - i < n → w_X5_byLaw_21 t x_2 x_5 P n x_6 σ := by
  have l1 := lit_1
  intro n
  induction n with
  | zero => intro i x_6 σ _ _ _ _ _ h; omega
  | succ n ih =>
    intro i x_6 σ hi hiN fr T hT hn
    have L := LnR_C ht L0 fr
    have e11 : σ.1 t 11 = G 0 := L.1 0 (by omega)
    have ts := tsub (x := G 0) (y := (1 : Int32)) (by omega)
    unfold w_X5_byLaw_21
    rw [e11]
    refine ⟨fun q => ?_, fun q => ?_⟩
    · have c := le_t q
      have e : i = N - 1 := by omega
      subst e
      exact hP σ fr T
    · have c := nle_t q
      have ip : i + 1 < N := by omega
      have t1 := tadd (x := x_6) (y := (1 : Int32)) (by omega)
      have un := rnF_un hR6 (law := x_2) (so := so) (cs := csI G) (pd := pd) (rd := rdG G) (seed := seed) i i (Nat.le_refl i) (by omega) (by omega)
      obtain ⟨S, hS⟩ : ∃ S, S = rnF x_2 R so (csI G) pd (rdG G) seed i := ⟨_, rfl⟩
      rw [← hS] at T hT un
      obtain ⟨W, hW⟩ : ∃ W, W = wts so (csI G) pd (rdG G) S i := ⟨_, rfl⟩
      have hst : rnF x_2 R so (csI G) pd (rdG G) seed (i + 1) = pll (csI G) pd (rdG G) i (pck x_2 R W (fun r => rdG G r 5) S) (sd1 x_2 (cnF W R) S) := by
        show stp x_2 R so (csI G) pd (rdG G) i (rnF x_2 R so (csI G) pd (rdG G) seed i) = _
        rw [← hS, hW]
        rfl
      have hpk := pck_sp hR6 (law := x_2) (W := W) (f := fun r => rdG G r 5) (S := S)
      have hT' : TkI R G (rnF x_2 R so (csI G) pd (rdG G) seed (i + 1)) := by
        rw [hst]
        refine TkI_p hR6 (TkI_sd hT) ?_
        rcases hpk with z | ⟨r, a, b, w⟩
        · exact Or.inl z
        · refine Or.inr ⟨r, a, b, ?_⟩
          rw [hW] at w
          have w2 : (so r && wnt (csI G) pd (rdG G) S i r) = true := w
          rw [Bool.and_eq_true] at w2
          have w3 := of_decide_eq_true w2.2
          rw [sd1_q (by omega)]
          exact ⟨w3.2.2.1, w3.2.2.2.2.1⟩
      obtain ⟨s0, s1, s2, s3, s4, s5, s6, s7, s8, s9⟩ := id T
      have p2 : σ.1 192 i = pd i := by rw [(s6 i (by omega)).2, un.2, Int32.sub_zero]
      -- behind the choice
      have next : ∀ σ5, FrC σ0 σ5 → CsS N R G pd (sd1 x_2 (cnF W R) S) i σ5 → ((pck x_2 R W (fun r => rdG G r 5) S = (-1 : Int32) → (∀ x7 : Int32, x7 = (x_6 + (1 : Int32)) → w_X5_byLaw_21 t x_2 x_5 P n x7 σ5)) ∧ (¬ pck x_2 R W (fun r => rdG G r 5) S = (-1 : Int32) → (w_X5_stopAt t x_6 (pck x_2 R W (fun r => rdG G r 5) S) σ5 (fun (σ8 : zSto) => (∀ x9 : Int32, x9 = (x_6 + (1 : Int32)) → w_X5_byLaw_21 t x_2 x_5 P n x9 σ8))))) := by
        intro σ5 f5 T5
        refine ⟨fun z x7 e7 => ?_, fun z => ?_⟩
        · have f := eq_t e7
          refine ih (i + 1) x7 σ5 (by omega) (by omega) f5 ?_ hT' (by omega)
          rw [hst, z]
          exact CsS_no ip hN16 hR6 T5 (by rw [sd1_q (by omega)]; exact un.1) (by rw [sd1_q (by omega)]; exact un.2)
        · obtain ⟨r, a, b, _⟩ : ∃ r, r < R ∧ pck x_2 R W (fun r => rdG G r 5) S = Int32.ofNat r ∧ W r = true := by
            rcases hpk with y | y
            · exact absurd y z
            · exact y
          refine f_X5_stopAt ht (LnR_C ht L0 f5) hN hN16 hR6 T5 x_6 _ hi ip b a (by rw [sd1_q (by omega)]; exact un.2) (fun σ8 f8 T8 => fun x9 e9 => ?_)
          have f := eq_t e9
          rw [← hst] at T8
          exact ih (i + 1) x9 σ8 (by omega) (by omega) (f5.tr f8) T8 hT' (by omega)
      unfold w_X5_wantingAt
      refine f_X0_cost L x_6 hi (by omega) (by omega) ?_
      intro x3 e3
      rw [s0] at e3
      refine ⟨100, f_wantingAt_17 (cs := csI G) (pd := pd) L hN hN16 hR hR6 hT x_6 x3 hi ip e3 (fun r hr => (s4 r hr).1) p2 (fun x hx => ?_) 100 0 (0 : Int32) (0 : Int32) lit_0 (by omega) (fun j hj => by rw [bt_z, decide_eq_false (Nat.not_lt_zero j)]; rfl) (by omega)⟩
      refine f_X5_chosen L hR hR6 x_2 (x &&& x_5) hlaw (W := W) (S := S) (fun j hj => ?_) s5 s2 (fun z => ?_) (fun z σ2 e2 => ?_)
      · rw [bt_an, hx j hj, hW]
        by_cases k : j < R
        · show _ = (decide (j < R) && (so j && wnt (csI G) pd (rdG G) S i j))
          rw [decide_eq_true k, hso j k]
          cases bt x_5 j <;> cases wnt (csI G) pd (rdG G) S i j <;> rfl
        · rw [decide_eq_false k]
          rfl
      · refine next σ fr ?_
        have e : sd1 x_2 (cnF W R) S = S := by unfold sd1; rw [if_neg z]
        rw [e]
        exact T
      · refine next σ2 (fr.tr (FrC_w e2 (by omega))) ?_
        have e : sd1 x_2 (cnF W R) S = upI S 2 (nxs (S 2)) := by unfold sd1; rw [if_pos z]
        rw [e]
        refine ⟨by rw [zI_q' e2 (by omega), upI_q (by omega)]; exact s0, by rw [zI_q' e2 (by omega), upI_q (by omega)]; exact s1, by rw [e2, zI_s, upI_s, s2], by rw [zI_q' e2 (by omega), upI_q (by omega)]; exact s3, fun r hr => ?_, fun r hr => ?_, fun p hp => ?_, fun j hj => ?_, ?_, ?_⟩
        · rw [zI_q' e2 (by omega), zI_q' e2 (by omega), upI_q (by omega), upI_q (by omega)]
          exact s4 r hr
        · rw [zI_q' e2 (by omega), upI_q (by omega)]
          exact s5 r hr
        · rw [zI_q' e2 (by omega), zI_q' e2 (by omega), upI_q (by omega), upI_q (by omega)]
          exact s6 p hp
        · rw [zI_q' e2 (by omega), upI_q (by omega)]
          exact s7 j hj
        · rw [zI_q' e2 (by omega), s8]
          exact scT_cg i (fun p _ => by rw [upI_q (by omega)])
        · rw [zI_q' e2 (by omega), s9]
          exact bsT_cg i (fun p _ => by rw [upI_q (by omega)])
theorem rnF_m1 {R : Nat} {so : Nat → Bool} {cs pd : Nat → Int32} {rd : Nat → Nat → Int32} {seed : Int32} : ∀ n, n ≤ 16 → ∀ j, rnF (-1) R so cs pd rd seed n j = S0n seed j := by
  intro n
  induction n with
  | zero => intro _ j; rfl
  | succ n ih =>
    intro hn j
    show stp (-1) R so cs pd rd n (rnF (-1) R so cs pd rd seed n) j = _
    have f : rnF (-1) R so cs pd rd seed n = S0n seed := funext (ih (by omega))
    rw [f]
    unfold stp
    have e1 : pck (-1) R (wts so cs pd rd (S0n seed) n) (fun r => rd r 5) (S0n seed) = -1 := by
      unfold pck
      rw [if_neg (by decide), if_neg (by decide), if_neg (by decide), if_neg (by decide)]
    have e2 : sd1 (-1) (cnF (wts so cs pd rd (S0n seed) n) R) (S0n seed) = S0n seed := by
      unfold sd1
      rw [if_neg (fun z => absurd z.1 (by decide))]
    rw [e1, e2]
    unfold pll
    rw [if_pos rfl]
    by_cases c6 : j = 60 + n
    · rw [c6, upI_s]
      unfold S0n
      rw [if_neg (by omega), if_neg (by omega)]
    · rw [upI_q c6]
      by_cases c4 : j = 40 + n
      · rw [c4, upI_s]
        unfold S0n
        rw [if_neg (by omega), if_pos (by omega)]
      · rw [upI_q c4]
theorem scT_z {S : Nat → Int32} : ∀ n, (∀ p, p < n → S (40 + p) = -1) → scT S n = 0 := by
  intro n
  induction n with
  | zero => intro _; rfl
  | succ n ih =>
    intro h
    show (if S (40 + n) = -1 then scT S n else scT S n + 1) = 0
    rw [if_pos (h n (by omega))]
    exact ih (fun p hp => h p (by omega))
theorem bsT_z {b : Int32} {S : Nat → Int32} : ∀ n, (∀ p, p < n → S (40 + p) = -1) → bsT b S n = -1 := by
  intro n
  induction n with
  | zero => intro _; rfl
  | succ n ih =>
    intro h
    show (if S (40 + n) = -1 then bsT b S n else if scT S n + 1 = b then Int32.ofNat n else bsT b S n) = -1
    rw [if_pos (h n (by omega))]
    exact ih (fun p hp => h p (by omega))
theorem TkI_0 {R : Nat} {G : Nat → Int32} {seed : Int32} (hR6 : R ≤ 6) : TkI R G (S0n seed) := fun r hr => by
  have e : S0n seed (10 + r) = 0 := by
    unfold S0n
    rw [if_neg (by omega), if_neg (by omega)]
  rw [e, lit_0]
  exact ⟨by omega, Or.inl rfl⟩
set_option maxHeartbeats 4000000 in
theorem f_X5_byLaw {t N R : Nat} {G : Nat → Int32} {so : Nat → Bool} (ht : okT t) {σ : zSto} (L : LnR t G σ) (hN : ti (G 0) = (N : Int)) (hN1 : 1 ≤ N) (hN16 : N ≤ 16) (hR : ti (G 1) = (R : Int)) (hR6 : R ≤ 6) (a2 a3 a4 a5 : Int32) (hlaw : -1 ≤ ti a2 ∧ ti a2 ≤ 3) (hso : ∀ r, r < R → so r = bt a5 r) {P : zSto → Prop} (hP : ∀ σ2, FrC σ σ2 → CsS N R G (fun p => pdI G p a4) (rnF a2 R so (csI G) (fun p => pdI G p a4) (rdG G) a3 (N - 1)) (N - 1) σ2 → P σ2) : w_X5_byLaw t a2 a3 a4 a5 σ P := by
  have lm := lit_m1
  unfold w_X5_byLaw w_X5_begin
  refine ⟨100, f_begin_2 (σ0 := σ) ht hR6 hR hN hN16 a4 L (fun σ1 f1 T1 => ?_) 100 0 (0 : Int32) σ lit_0 (by omega) (fun _ _ _ _ => rfl) (fun p hp => absurd hp (Nat.not_lt_zero p)) (by omega)⟩
  intro σ2 e2
  have f2 : FrC σ σ2 := f1.tr (FrC_w e2 (by omega))
  have T2 : CsS N R G (fun p => pdI G p a4) (S0n a3) 0 σ2 := by
    have y := T1 (upI (S0n a3) 2 (σ.1 190 5)) (fun s hs => by
      rw [upI_q hs]
      unfold S0n
      rw [if_neg hs, if_neg hs]) upI_s
    obtain ⟨s0, s1, s2, s3, s4, s5, s6, s7, s8, s9⟩ := y
    refine ⟨by rw [zI_q' e2 (by omega), s0, upI_q (by omega)], by rw [zI_q' e2 (by omega), s1, upI_q (by omega)], by rw [e2, zI_s]; rfl, by rw [zI_q' e2 (by omega), s3, upI_q (by omega)], fun r hr => ?_, fun r hr => ?_, fun p hp => ?_, fun j hj => ?_, by rw [zI_q' e2 (by omega), s8]; rfl, by rw [zI_q' e2 (by omega), s9]; rfl⟩
    · rw [zI_q' e2 (by omega), zI_q' e2 (by omega), (s4 r hr).1, (s4 r hr).2, upI_q (by omega), upI_q (by omega)]
      exact ⟨rfl, rfl⟩
    · rw [zI_q' e2 (by omega), s5 r hr, upI_q (by omega)]
    · rw [zI_q' e2 (by omega), zI_q' e2 (by omega), (s6 p hp).1, (s6 p hp).2, upI_q (by omega), upI_q (by omega)]
      exact ⟨rfl, rfl⟩
    · rw [zI_q' e2 (by omega), s7 j hj, upI_q (by omega)]
  refine ⟨fun q => ?_, fun q => ?_⟩
  · have nq := ne_t q
    exact ⟨100, f_byLaw_21 (seed := a3) ht (LnR_C ht L f2) hN hN1 hN16 hR hR6 a2 a5 (by omega) hso (fun σ3 f3 T3 => hP σ3 (f2.tr f3) T3) 100 0 (0 : Int32) σ2 lit_0 (by omega) (fun _ _ _ => rfl) T2 (TkI_0 hR6) (by omega)⟩
  · refine hP σ2 f2 ?_
    rw [q]
    have f : rnF (-1) R so (csI G) (fun p => pdI G p a4) (rdG G) a3 (N - 1) = S0n a3 := funext (rnF_m1 (N - 1) (by omega))
    rw [f]
    have zm : ∀ p, p < 16 → S0n a3 (40 + p) = -1 := fun p hp => by
      unfold S0n
      rw [if_neg (by omega), if_pos (by omega)]
    obtain ⟨s0, s1, s2, s3, s4, s5, s6, s7, s8, s9⟩ := T2
    exact ⟨s0, s1, s2, s3, s4, s5, s6, s7, by rw [s8, scT_z (N - 1) (fun p hp => zm p (by omega))]; rfl, by rw [s9, bsT_z (N - 1) (fun p hp => zm p (by omega))]; rfl⟩
