/-! what a RIDER KEEPS, in its range -/
theorem kp_61 : ∀ k, k < 61 → 0 ≤ (Int32.ofNat k - Int32.ofNat k / (3 : Int32)).toInt ∧ (Int32.ofNat k - Int32.ofNat k / (3 : Int32)).toInt ≤ 60 := by decide +kernel
theorem kp_ti {x : Int32} (h : 0 ≤ ti x ∧ ti x ≤ 60) : 0 ≤ ti (x - x / (3 : Int32)) ∧ ti (x - x / (3 : Int32)) ≤ 60 := by
  obtain ⟨k, hk⟩ : ∃ k : Nat, ti x = (k : Int) := ⟨(ti x).toNat, by omega⟩
  have e := nI_x hk (by omega)
  rw [e, ti_eq]
  exact kp_61 k (by omega)
theorem kp_p {R : Nat} {G S : Nat → Int32} {cs pd : Nat → Int32} {p : Nat} {q : Int32} {m : Int} (hm : 0 ≤ m ∧ m ≤ 10000) (hR6 : R ≤ 6) (h : TkI R G S) (h2 : ∀ r, r < R → 1 ≤ ti (rdG G r 2) ∧ ti (rdG G r 2) ≤ 60) (hk : ∀ r, r < R → 0 ≤ ti (S (20 + r)) ∧ ti (S (20 + r)) ≤ m) (hq : q = -1 ∨ ∃ r, r < R ∧ q = Int32.ofNat r ∧ ¬ pd p ≤ 0 ∧ ¬ rdG G r 2 ≤ S (10 + r)) : ∀ r, r < R → 0 ≤ ti (pll cs pd (rdG G) p q S (20 + r)) ∧ ti (pll cs pd (rdG G) p q S (20 + r)) ≤ m + 60 := by
  intro r' hr'
  rcases hq with e | ⟨r, hr, er, w1, w2⟩
  · unfold pll
    rw [if_pos e, upI_q (by omega), upI_q (by omega)]
    have := hk r' hr'
    omega
  · have n : q.toNatClampNeg = r := by rw [er]; exact ofNat_c (by omega)
    have ne : ¬ q = -1 := by rw [er]; exact ofNat_ne (by omega)
    unfold pll
    rw [if_neg ne, n, upI_q (by omega), upI_q (by omega), upI_q (by omega), upI_q (by omega)]
    have k0 := hk r' hr'
    by_cases c : r' = r
    · subst c
      rw [upI_s]
      have rm := rm_pos h hr
      obtain ⟨a, b⟩ := h r' hr
      have x1 := nle_t w1
      have x2 := nle_t w2
      rw [lit_0] at x1
      have f := h2 r' hr
      have tr : ti (rdG G r' 2 - S (10 + r')) = ti (rdG G r' 2) - ti (S (10 + r')) := by
        rcases rm.2 with z | z
        · rw [z, Int32.sub_zero, lit_0]
          omega
        · exact z
      have tk : 0 ≤ ti (tkn (pd p) (rdG G r' 2 - S (10 + r'))) ∧ ti (tkn (pd p) (rdG G r' 2 - S (10 + r'))) ≤ 60 := by
        unfold tkn
        by_cases k : rdG G r' 2 - S (10 + r') ≤ pd p
        · rw [if_pos k, tr]
          omega
        · have := nle_t k
          rw [if_neg k]
          omega
      have kt := kp_ti tk
      have ta := tadd (x := S (20 + r')) (y := tkn (pd p) (rdG G r' 2 - S (10 + r')) - tkn (pd p) (rdG G r' 2 - S (10 + r')) / (3 : Int32)) (by omega)
      rw [ta]
      omega
    · rw [upI_q (by omega), upI_q (by omega), upI_q (by omega), upI_q (by omega)]
      omega
set_option maxHeartbeats 4000000 in
theorem kp_rg {law : Int32} {N R : Nat} {so : Nat → Bool} {G pd : Nat → Int32} {seed : Int32} (ln : LnN N R G) : ∀ n, n ≤ 16 → TkI R G (rnF law R so (csI G) pd (rdG G) seed n) ∧ ∀ r, r < R → 0 ≤ ti (rnF law R so (csI G) pd (rdG G) seed n (20 + r)) ∧ ti (rnF law R so (csI G) pd (rdG G) seed n (20 + r)) ≤ 60 * (n : Int) := by
  have hR6 := ln.2.1
  intro n
  induction n with
  | zero =>
    intro _
    refine ⟨TkI_0 hR6, fun r hr => ?_⟩
    have e : S0n seed (20 + r) = 0 := by
      unfold S0n
      rw [if_neg (by omega), if_neg (by omega)]
    show 0 ≤ ti (S0n seed (20 + r)) ∧ ti (S0n seed (20 + r)) ≤ _
    rw [e, lit_0]
    omega
  | succ n ih =>
    intro hn
    obtain ⟨hT, hk⟩ := ih (by omega)
    obtain ⟨S, hS⟩ : ∃ S, S = rnF law R so (csI G) pd (rdG G) seed n := ⟨_, rfl⟩
    obtain ⟨W, hW⟩ : ∃ W, W = wts so (csI G) pd (rdG G) S n := ⟨_, rfl⟩
    have hst : rnF law R so (csI G) pd (rdG G) seed (n + 1) = pll (csI G) pd (rdG G) n (pck law R W (fun r => rdG G r 5) S) (sd1 law (cnF W R) S) := by
      show stp law R so (csI G) pd (rdG G) n (rnF law R so (csI G) pd (rdG G) seed n) = _
      rw [← hS, hW]
      rfl
    rw [← hS] at hT hk
    have hpk := pck_sp hR6 (law := law) (W := W) (f := fun r => rdG G r 5) (S := S)
    have hq : pck law R W (fun r => rdG G r 5) S = -1 ∨ ∃ r, r < R ∧ pck law R W (fun r => rdG G r 5) S = Int32.ofNat r ∧ ¬ pd n ≤ 0 ∧ ¬ rdG G r 2 ≤ sd1 law (cnF W R) S (10 + r) := by
      rcases hpk with z | ⟨r, a, b, w⟩
      · exact Or.inl z
      · refine Or.inr ⟨r, a, b, ?_⟩
        rw [hW] at w
        have w2 : (so r && wnt (csI G) pd (rdG G) S n r) = true := w
        rw [Bool.and_eq_true] at w2
        have w3 := of_decide_eq_true w2.2
        rw [sd1_q (by omega)]
        exact ⟨w3.2.2.1, w3.2.2.2.2.1⟩
    rw [hst]
    refine ⟨TkI_p hR6 (TkI_sd hT) hq, fun r hr => ?_⟩
    have y := kp_p (cs := csI G) (m := 60 * (n : Int)) (by omega) hR6 (TkI_sd hT) (fun r hr => (ln.2.2.2.2.2.2 r hr).2.2.2) (fun r hr => by rw [sd1_q (by omega)]; exact hk r hr) hq r hr
    omega
theorem csB_rg {N R : Nat} {G : Nat → Int32} (h : LnN N R G) (S : Nat → Int32) : ∀ p, p ≤ N → 0 ≤ ti (csB (csI G) S p) ∧ ti (csB (csI G) S p) ≤ 75 * (p : Int) := by
  intro p
  induction p with
  | zero => intro _; show 0 ≤ ti (0 : Int32) ∧ ti (0 : Int32) ≤ _; rw [lit_0]; omega
  | succ p ih =>
    intro hp
    have N16 := h.1
    have a := ih (by omega)
    have b := csI_rg h (p := p) (by omega)
    have t := tadd (x := csB (csI G) S p) (y := csI G p) (by omega)
    show 0 ≤ ti (if S (40 + p) = -1 then csB (csI G) S p else csB (csI G) S p + csI G p) ∧ ti (if S (40 + p) = -1 then csB (csI G) S p else csB (csI G) S p + csI G p) ≤ _
    by_cases c : S (40 + p) = -1
    · rw [if_pos c]; omega
    · rw [if_neg c, t]; omega
theorem gn_rg {law : Int32} {N R : Nat} {so : Nat → Bool} {G pd : Nat → Int32} {seed : Int32} (ln : LnN N R G) {r : Nat} (hr : r < R) : -1200 ≤ ti (gnA G (rnF law R so (csI G) pd (rdG G) seed (N - 1)) r) ∧ ti (gnA G (rnF law R so (csI G) pd (rdG G) seed (N - 1)) r) ≤ 10000 := by
  have N16 := ln.1
  have o := ln.2.2.2.2.2.2 r hr
  have tno := tn_eq (rdG G r 1)
  have k := (kp_rg (law := law) (so := so) (pd := pd) (seed := seed) ln (N - 1) (by omega)).2 r hr
  have c := csB_rg ln (rnF law R so (csI G) pd (rdG G) seed (N - 1)) (rdG G r 1).toNatClampNeg (by omega)
  have m := tmull (x := (10 : Int32)) (y := rnF law R so (csI G) pd (rdG G) seed (N - 1) (20 + r)) 10 lit_10 (by omega)
  have t := tsub (x := (10 : Int32) * rnF law R so (csI G) pd (rdG G) seed (N - 1) (20 + r)) (y := csB (csI G) (rnF law R so (csI G) pd (rdG G) seed (N - 1)) (rdG G r 1).toNatClampNeg) (by omega)
  unfold gnA
  rw [t]
  omega
