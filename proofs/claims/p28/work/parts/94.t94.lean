/-! rich on both sides; what a RUN doesn't read -/
theorem wnt_cg {cs cs' pd pd' : Nat → Int32} {rd : Nat → Nat → Int32} {S : Nat → Int32} {p r : Nat} (h1 : cs p = cs' p) (h2 : pd p = pd' p) : wnt cs pd rd S p r = wnt cs' pd' rd S p r := by
  unfold wnt
  rw [h1, h2]
theorem stp_cg {law : Int32} {R : Nat} {so : Nat → Bool} {cs cs' pd pd' : Nat → Int32} {rd : Nat → Nat → Int32} {S : Nat → Int32} {p : Nat} (h1 : cs p = cs' p) (h2 : pd p = pd' p) : stp law R so cs pd rd p S = stp law R so cs' pd' rd p S := by
  have e : wts so cs pd rd S p = wts so cs' pd' rd S p := funext (fun r => by
    show (so r && wnt cs pd rd S p r) = (so r && wnt cs' pd' rd S p r)
    rw [wnt_cg h1 h2])
  unfold stp
  rw [e]
  unfold pll
  rw [h1, h2]
theorem rnF_cg {law : Int32} {R : Nat} {so : Nat → Bool} {cs cs' pd pd' : Nat → Int32} {rd : Nat → Nat → Int32} {seed : Int32} : ∀ n, (∀ p, p < n → cs p = cs' p ∧ pd p = pd' p) → rnF law R so cs pd rd seed n = rnF law R so cs' pd' rd seed n := by
  intro n
  induction n with
  | zero => intro _; rfl
  | succ n ih =>
    intro h
    show stp law R so cs pd rd n (rnF law R so cs pd rd seed n) = stp law R so cs' pd' rd n (rnF law R so cs' pd' rd seed n)
    rw [ih (fun p hp => h p (by omega))]
    exact stp_cg (h n (by omega)).1 (h n (by omega)).2
theorem upI_2 {S : Nat → Int32} {s : Nat} {x y : Int32} : upI (upI S s x) s y = upI S s y := funext (fun j => by
  by_cases c : j = s
  · rw [c, upI_s, upI_s]
  · rw [upI_q c, upI_q c, upI_q c])
theorem upI_i {S : Nat → Int32} {s : Nat} : upI S s (S s) = S := funext (fun j => by
  by_cases c : j = s
  · rw [c, upI_s]
  · rw [upI_q c])
theorem csI_up {G : Nat → Int32} {s : Nat} {v : Int32} (h : 87 ≤ s ∨ ∃ q, s = 7 + 5 * q + 2) {p : Nat} (hp : p < 16) : csI (upI G s v) p = csI G p := by
  have h1 : 7 + 5 * p + 1 ≠ s := by
    rcases h with h | ⟨q, h⟩ <;> omega
  have h2 : 2 ≠ s := by
    rcases h with h | ⟨q, h⟩ <;> omega
  have h3 : 7 + 5 * (p - 1) ≠ s := by
    rcases h with h | ⟨q, h⟩ <;> omega
  unfold csI
  rw [upI_q h1, upI_q h2, upI_q h3]
theorem pdI_up {G : Nat → Int32} {s : Nat} {v w : Int32} {p : Nat} (h : 3 ≠ s) (h2 : 7 + 5 * p + 2 ≠ s) : pdI (upI G s v) p w = pdI G p w := by
  unfold pdI
  rw [upI_q h, upI_q h2]
theorem rdG_up {G : Nat → Int32} {s : Nat} {v : Int32} (h : s < 87) : rdG (upI G s v) = rdG G := funext (fun r => funext (fun c => by
  show upI G s v (87 + 6 * r + c) = G (87 + 6 * r + c)
  rw [upI_q (by omega)]))
theorem LnR_cp {b : Nat} {G : Nat → Int32} {σ σ2 : zSto} (h : cpM 12 210 b mskL σ σ2) (L : LnR b G σ) : LnR 210 G σ2 := by
  have m0 : ∀ s, s < 7 → mskL 0 (11 + s) = true := by decide +kernel
  have m1 : ∀ c, c < 5 → ∀ p, p < 16 → mskL (1 + c) p = true := by decide +kernel
  have m2 : ∀ c, c < 6 → ∀ r, r < 6 → mskL (6 + c) r = true := by decide +kernel
  refine ⟨fun s hs => ?_, fun p c hp hc hv => ?_, fun r c hr hc hv => ?_⟩
  · rw [h.2, if_pos ⟨by omega, by omega, by rw [show 210 - 210 = 0 by omega]; exact m0 s hs⟩, show b + (210 - 210) = b by omega]
    exact L.1 s hs
  · rw [h.2, if_pos ⟨by omega, by omega, by rw [show 210 + 1 + c - 210 = 1 + c by omega]; exact m1 c hc p hp⟩, show b + (210 + 1 + c - 210) = b + 1 + c by omega]
    exact L.2.1 p c hp hc hv
  · rw [h.2, if_pos ⟨by omega, by omega, by rw [show 210 + 6 + c - 210 = 6 + c by omega]; exact m2 c hc r hr⟩, show b + (210 + 6 + c - 210) = b + 6 + c by omega]
    exact L.2.2 r c hr hc hv
theorem cp_fr {b : Nat} {σ σ2 : zSto} (h : cpM 12 210 b mskL σ σ2) : ∀ k j, (k < 210 ∨ 222 ≤ k) → σ2.1 k j = σ.1 k j := fun k j a => by
  rw [h.2, if_neg (by omega)]
/-- POUNDS of a POST of the trial -/
theorem LnR_pd {G : Nat → Int32} {σ σ2 : zSto} {q : Nat} (hq : q < 16) {v : Int32} (e : σ2 = zI σ 213 q v) (L : LnR 210 G σ) : LnR 210 (upI G (7 + 5 * q + 2) v) σ2 := by
  refine ⟨fun s hs => ?_, fun p c hp hc hv => ?_, fun r c hr hc hv => ?_⟩
  · rw [zI_q' e (by omega), upI_q (by omega)]
    exact L.1 s hs
  · rw [upI_q (by omega)] at hv
    by_cases k : p = q ∧ c = 2
    · obtain ⟨k1, k2⟩ := k
      subst k1
      subst k2
      rw [upI_s, e]
      exact zI_s
    · rw [zI_q' e (by omega), upI_q (by omega)]
      exact L.2.1 p c hp hc hv
  · rw [upI_q (by omega)] at hv
    rw [zI_q' e (by omega), upI_q (by omega)]
    exact L.2.2 r c hr hc hv
theorem RfX_pd {l R N : Nat} {G cs pd : Nat → Int32} {σ σ2 : zSto} {q : Nat} {v : Int32} (X : RfX l R N G cs pd σ) (e : σ2 = zI σ 238 q v) : RfX l R N G cs (fun p => if p = q then v else pd p) σ2 := by
  obtain ⟨a1, a2, a3, a4, a5, a6, a7, a8, a9, a10⟩ := X
  refine ⟨?_, a2, ?_, ?_, ?_, a6, a7, a8, fun s hs => ?_, fun p hp => ⟨?_, ?_, ?_⟩⟩
  · rw [zI_q' e (by omega)]; exact a1
  · rw [zI_q' e (by omega)]; exact a3
  · rw [zI_q' e (by omega)]; exact a4
  · rw [zI_q' e (by omega)]; exact a5
  · rw [zI_q' e (by omega)]; exact a9 s hs
  · rw [zI_q' e (by omega)]; exact (a10 p hp).1
  · show σ2.1 238 p = if p = q then v else pd p
    by_cases k : p = q
    · subst k
      rw [e, zI_s, if_pos rfl]
    · rw [zI_q' e (by omega), if_neg k]; exact (a10 p hp).2.1
  · rw [zI_q' e (by omega)]; exact (a10 p hp).2.2
theorem pdI_0 {N R : Nat} {G : Nat → Int32} (ln : LnN N R G) {w : Int32} (hw : 0 ≤ ti w ∧ ti w ≤ 9) {q p : Nat} : pdI (upI G (7 + 5 * q + 2) 0) p w = if p = q then 0 else pdI G p w := by
  by_cases k : p = q
  · subst k
    have l0 := lit_0
    have g3 := ln.2.2.2.1
    have m1 : 0 ≤ ti (G 3) * ti w := Int.mul_nonneg g3.1 hw.1
    have m2 : ti (G 3) * ti w ≤ 9 * 9 := Int.mul_le_mul g3.2 hw.2 hw.1 (by decide)
    have m := tmul (x := G 3) (y := w) (by omega)
    have ts := tsub (x := (0 : Int32)) (y := G 3 * w) (by omega)
    rw [if_pos rfl]
    unfold pdI
    rw [upI_s, upI_q (by omega), if_neg (fun c => by have := lt_t c; omega)]
  · rw [if_neg k]
    exact pdI_up (by omega) (by omega)
def rmF (w : Nat → Int32) : Nat → Int32
  | 0 => 0
  | n + 1 => if w n ≤ rmF w n then rmF w n else w n
def rbF (w : Nat → Int32) : Nat → Int32
  | 0 => -1
  | n + 1 => if w n ≤ rmF w n then rbF w n else Int32.ofNat n
theorem f_X5_richest {t N R : Nat} {G pd S : Nat → Int32} {i0 : Nat} {σ : zSto} (L : LnR t G σ) (hR : ti (G 1) = (R : Int)) (hR6 : R ≤ 6) (T : CsS N R G pd S i0 σ) {P : Int32 → zSto → Prop} (hP : P (rbF (fun r => S (20 + r)) R) σ) : w_X5_richest t σ P := by
  have l0 := lit_0
  have l1 := lit_1
  have e12 : ti (σ.1 t 12) = (R : Int) := by rw [L.1 1 (by omega)]; exact hR
  have go : ∀ (n i : Nat) (x_2 x_3 x_4 : Int32), ti x_4 = (i : Int) → i ≤ R → x_2 = rbF (fun r => S (20 + r)) i → x_3 = rmF (fun r => S (20 + r)) i → R - i < n → w_X5_richest_7 t P n x_2 x_3 x_4 σ := by
    intro n
    induction n with
    | zero => intro i x_2 x_3 x_4 _ _ _ _ h; omega
    | succ n ih =>
      intro i x_2 x_3 x_4 hi hiR h2 h3 hn
      unfold w_X5_richest_7
      refine ⟨fun q => ?_, fun q => ?_⟩
      · have c := le_t q
        have e : i = R := by omega
        subst e
        rw [h2]
        exact hP
      · have c := nle_t q
        have tx := tadd (x := x_4) (y := (1 : Int32)) (by omega)
        have tn := tn_eq x_4
        have e4 := nI_x hi (by omega)
        rw [show x_4.toNatClampNeg = i by omega, (T.2.2.2.2.1 i (by omega)).2]
        refine ⟨vin (by omega), fun k x2 e2 => ?_, fun k => ⟨vin (by omega), fun x4 e4' x5 e5 => ?_⟩⟩
        · have f := eq_t e2
          refine ih (i + 1) x_2 x_3 x2 (by omega) (by omega) ?_ ?_ (by omega)
          · rw [h2]
            show _ = if S (20 + i) ≤ rmF (fun r => S (20 + r)) i then _ else _
            rw [if_pos (by rw [← h3]; exact k)]
          · rw [h3]
            show _ = if S (20 + i) ≤ rmF (fun r => S (20 + r)) i then _ else _
            rw [if_pos (by rw [← h3]; exact k)]
        · have f := eq_t e5
          refine ih (i + 1) x_4 x4 x5 (by omega) (by omega) ?_ ?_ (by omega)
          · show _ = if S (20 + i) ≤ rmF (fun r => S (20 + r)) i then _ else _
            rw [if_neg (by rw [← h3]; exact k)]
            exact e4
          · show _ = if S (20 + i) ≤ rmF (fun r => S (20 + r)) i then _ else _
            rw [if_neg (by rw [← h3]; exact k)]
            exact e4'
  exact ⟨100, go 100 0 (-1 : Int32) (0 : Int32) (0 : Int32) lit_0 (by omega) rfl rfl (by omega)⟩
theorem f_X10_richest {l R N : Nat} {G cs pd S : Nat → Int32} {σ : zSto} (X : RfX l R N G cs pd σ) (h43 : ∀ r, r < 6 → σ.1 243 r = S (20 + r)) {P : Int32 → zSto → Prop} (hP : P (rbF (fun r => S (20 + r)) R) σ) : w_X10_richest σ P := by
  have l0 := lit_0
  have l1 := lit_1
  have R6 := X.2.2.2.2.2.2.2.1
  have h26 := X.2.2.2.2.1
  have go : ∀ (n i : Nat) (x_2 x_3 x_4 : Int32), ti x_4 = (i : Int) → i ≤ R → x_2 = rbF (fun r => S (20 + r)) i → x_3 = rmF (fun r => S (20 + r)) i → R - i < n → w_X10_richest_6 P n x_2 x_3 x_4 σ := by
    intro n
    induction n with
    | zero => intro i x_2 x_3 x_4 _ _ _ _ h; omega
    | succ n ih =>
      intro i x_2 x_3 x_4 hi hiR h2 h3 hn
      unfold w_X10_richest_6
      refine ⟨fun q => ?_, fun q => ?_⟩
      · have c := le_t q
        have e : i = R := by omega
        subst e
        rw [h2]
        exact hP
      · have c := nle_t q
        have tx := tadd (x := x_4) (y := (1 : Int32)) (by omega)
        have tn := tn_eq x_4
        have e4 := nI_x hi (by omega)
        rw [show x_4.toNatClampNeg = i by omega, h43 i (by omega)]
        refine ⟨vin (by omega), fun k => ⟨vin (by omega), f_greater _ _ ?_⟩, fun k => ⟨vin (by omega), f_greater _ _ ?_⟩⟩
        · rw [gr_le, if_pos k]
          intro x2 e2
          have f := eq_t e2
          refine ih (i + 1) x_2 x_3 x2 (by omega) (by omega) ?_ ?_ (by omega)
          · rw [h2]
            show _ = if S (20 + i) ≤ rmF (fun r => S (20 + r)) i then _ else _
            rw [if_pos (by rw [← h3]; exact k)]
          · rw [h3]
            show _ = if S (20 + i) ≤ rmF (fun r => S (20 + r)) i then _ else _
            rw [if_pos (by rw [← h3]; exact k)]
        · rw [gr_le, if_neg k]
          intro x5 e5
          have f := eq_t e5
          refine ih (i + 1) x_4 _ x5 (by omega) (by omega) ?_ ?_ (by omega)
          · show _ = if S (20 + i) ≤ rmF (fun r => S (20 + r)) i then _ else _
            rw [if_neg (by rw [← h3]; exact k)]
            exact e4
          · show _ = if S (20 + i) ≤ rmF (fun r => S (20 + r)) i then _ else _
            rw [if_neg (by rw [← h3]; exact k)]
  exact ⟨100, go 100 0 (-1 : Int32) (0 : Int32) (0 : Int32) lit_0 (by omega) rfl rfl (by omega)⟩
def slF (D : Int32) (d : Nat → Int32) : Nat → Int32
  | 0 => D
  | n + 1 => if slF D d n ≤ d n then slF D d n else d n
def sbF (D : Int32) (d : Nat → Int32) : Nat → Int32
  | 0 => -1
  | n + 1 => if slF D d n ≤ d n then sbF D d n else Int32.ofNat n
theorem slF_le {D : Int32} {d : Nat → Int32} : ∀ n, ti (slF D d n) ≤ ti D := by
  intro n
  induction n with
  | zero => exact Int.le_refl _
  | succ n ih =>
    show ti (if slF D d n ≤ d n then slF D d n else d n) ≤ ti D
    by_cases c : slF D d n ≤ d n
    · rw [if_pos c]; exact ih
    · have := nle_t c
      rw [if_neg c]; omega
theorem sl_1 {D : Int32} {d : Nat → Int32} {n : Nat} (h : slF D d n ≤ d n) : slF D d (n + 1) = slF D d n ∧ sbF D d (n + 1) = sbF D d n := by
  refine ⟨?_, ?_⟩
  · show (if slF D d n ≤ d n then slF D d n else d n) = _
    rw [if_pos h]
  · show (if slF D d n ≤ d n then sbF D d n else Int32.ofNat n) = _
    rw [if_pos h]
theorem sl_2 {D : Int32} {d : Nat → Int32} {n : Nat} (h : ¬ slF D d n ≤ d n) : slF D d (n + 1) = d n ∧ sbF D d (n + 1) = Int32.ofNat n := by
  refine ⟨?_, ?_⟩
  · show (if slF D d n ≤ d n then slF D d n else d n) = _
    rw [if_neg h]
  · show (if slF D d n ≤ d n then sbF D d n else Int32.ofNat n) = _
    rw [if_neg h]
/-- DELAY without the POUNDS of POST q -/
def dlA (law : Int32) (R : Nat) (G : Nat → Int32) (w seed : Int32) (N : Nat) : Nat → Int32 := fun q => rnF law R (fun _ => true) (csI G) (fun p => if p = q then 0 else pdI G p w) (rdG G) seed (N - 1) 0
set_option maxHeartbeats 4000000 in
theorem f_X9_sparePost {t N R : Nat} {G : Nat → Int32} (ht : t + 12 ≤ 190) {σ : zSto} (L : LnR t G σ) (hN : ti (G 0) = (N : Int)) (hN1 : 1 ≤ N) (hN16 : N ≤ 16) (hR : ti (G 1) = (R : Int)) (hR6 : R ≤ 6) (ln : LnN N R G) (a2 a3 a4 : Int32) (hlaw : -1 ≤ ti a2 ∧ ti a2 ≤ 3) (hw : 0 ≤ ti a4 ∧ ti a4 ≤ 9) {D : Int32} (hD : D = rnA a2 R (fun _ => true) G a4 a3 N 0) (h8 : σ.1 190 8 = D) {P : Int32 → zSto → Prop} (hP : ∀ σ2, P (sbF D (dlA a2 R G a4 a3 N) (N - 1)) σ2) : w_X9_sparePost t a2 a3 a4 σ P := by
  have l0 := lit_0
  have l1 := lit_1
  have okt : okT t := Or.inl ht
  obtain ⟨d, hd⟩ : ∃ d, d = dlA a2 R G a4 a3 N := ⟨_, rfl⟩
  rw [← hd] at hP
  have dv : ∀ q, q < 16 → rnF a2 R (fun _ => true) (csI (upI G (7 + 5 * q + 2) 0)) (fun p => pdI (upI G (7 + 5 * q + 2) 0) p a4) (rdG (upI G (7 + 5 * q + 2) 0)) a3 (N - 1) 0 = d q := fun q hq => by
    rw [hd, rdG_up (by omega)]
    show _ = rnF a2 R (fun _ => true) (csI G) (fun p => if p = q then 0 else pdI G p a4) (rdG G) a3 (N - 1) 0
    rw [rnF_cg (N - 1) (fun p hp => ⟨csI_up (Or.inr ⟨q, rfl⟩) (by omega), pdI_0 ln hw⟩)]
  have dl : d (N - 1) = D := by
    rw [hd, hD]
    show rnF a2 R (fun _ => true) (csI G) (fun p => if p = N - 1 then 0 else pdI G p a4) (rdG G) a3 (N - 1) 0 = rnF a2 R (fun _ => true) (csI G) (fun p => pdI G p a4) (rdG G) a3 (N - 1) 0
    rw [rnF_cg (cs' := csI G) (pd' := fun p => pdI G p a4) (N - 1) (fun p hp => ⟨rfl, if_neg (by omega)⟩)]
  have last : sbF D d N = sbF D d (N - 1) := by
    obtain ⟨m, hm⟩ : ∃ m, N = m + 1 := ⟨N - 1, by omega⟩
    subst hm
    rw [show m + 1 - 1 = m by omega] at dl ⊢
    refine (sl_1 ?_).2
    rw [dl]
    exact Classical.byContradiction (fun c => by
      have := nle_t c
      have := slF_le (D := D) (d := d) m
      omega)
  have go : ∀ (n i : Nat) (x_5 x_6 x_7 : Int32) (σ3 : zSto), LnR t G σ3 → LnR 210 G σ3 → ti x_7 = (i : Int) → i ≤ N → x_5 = sbF D d i → x_6 = slF D d i → N - i < n → w_X9_sparePost_23 t a2 a3 a4 P n x_5 x_6 x_7 σ3 := by
    intro n
    induction n with
    | zero => intro i x_5 x_6 x_7 σ3 _ _ _ _ _ _ h; omega
    | succ n ih =>
      intro i x_5 x_6 x_7 σ3 L3 M3 hi hiN h5 h6 hn
      have e11 : ti (σ3.1 t 11) = (N : Int) := by rw [L3.1 0 (by omega)]; exact hN
      unfold w_X9_sparePost_23
      refine ⟨fun q => ?_, fun q => ?_⟩
      · have c := le_t q
        have e : i = N := by omega
        subst e
        rw [h5, last]
        exact hP σ3
      · have c := nle_t q
        have tx := tadd (x := x_7) (y := (1 : Int32)) (by omega)
        have tn := tn_eq x_7
        have e7 := nI_x hi (by omega)
        rw [show x_7.toNatClampNeg = i by omega]
        refine ⟨vin (by omega), fun σ4 e4 => ?_⟩
        have M4 := LnR_pd (by omega) e4 M3
        have L4 : LnR t G σ4 := LnR_fr L3 (fun k j a b => zI_q' e4 (by omega))
        refine f_X5_byLaw (so := fun _ => true) (Or.inr rfl) M4 (by rw [upI_q (by omega)]; exact hN) hN1 hN16 (by rw [upI_q (by omega)]; exact hR) hR6 a2 a3 a4 (-1 : Int32) hlaw (fun r hr => (bt_m1 (by omega)).symm) (fun σ5 f5 T5 => ?_)
        have M5 := LnR_C (Or.inr rfl) M4 f5
        have L5 := LnR_C okt L4 f5
        refine ⟨vin (by omega), vin (by omega), fun σ8 e8 => ?_⟩
        have g3 : σ5.1 (t + 3) i = G (7 + 5 * i + 2) := L5.2.1 i 2 (by omega) (by omega) (Or.inr (by rw [hN]; omega))
        rw [g3] at e8
        have M8 := LnR_pd (by omega) e8 M5
        rw [upI_2, upI_i] at M8
        have L8 : LnR t G σ8 := LnR_fr L5 (fun k j a b => zI_q' e8 (by omega))
        have v8 : σ8.1 190 8 = d i := by
          rw [zI_q' e8 (by omega), T5.1]
          exact dv i (by omega)
        rw [v8]
        refine ⟨fun k x9 e9 => ?_, fun k x10 e10 x11 e11' => ?_⟩
        · have f := eq_t e9
          have s1 := sl_1 (D := D) (d := d) (n := i) (by rw [← h6]; exact k)
          exact ih (i + 1) x_5 x_6 x9 σ8 L8 M8 (by omega) (by omega) (by rw [s1.2]; exact h5) (by rw [s1.1]; exact h6) (by omega)
        · have f := eq_t e11'
          have s2 := sl_2 (D := D) (d := d) (n := i) (by rw [← h6]; exact k)
          exact ih (i + 1) x_7 x10 x11 σ8 L8 M8 (by omega) (by omega) (by rw [s2.2]; exact e7) (by rw [s2.1]; exact e10) (by omega)
  unfold w_X9_sparePost
  intro x1 e1
  refine f_X0_copyFrom 210 t (Or.inr (by omega)) (fun σ2 h2 => ?_)
  have L2 : LnR t G σ2 := LnR_fr L (fun k j a b => cp_fr h2 k j (by omega))
  exact ⟨100, go 100 0 (-1 : Int32) x1 (0 : Int32) σ2 L2 (LnR_cp h2 L) lit_0 (by omega) rfl (by rw [e1]; exact h8) (by omega)⟩
set_option maxHeartbeats 4000000 in
theorem f_X10_spare {l N R : Nat} {G : Nat → Int32} (a1 a2 : Int32) (hlaw : -1 ≤ ti a1 ∧ ti a1 ≤ 3) {a4 : Int32} {D : Int32} {σ : zSto} (X : RfX l R N G (csI G) (fun p => pdI G p a4) σ) (h31 : σ.1 223 31 = D) {P : Int32 → zSto → Prop} (hP : ∀ σ2, P (sbF D (dlA a1 R G a4 a2 N) (N - 1)) σ2) : w_X10_spare a1 a2 σ P := by
  have l0 := lit_0
  have l1 := lit_1
  have N1 := X.2.2.2.2.2.1
  have N16 := X.2.2.2.2.2.2.1
  obtain ⟨d, hd⟩ : ∃ d, d = dlA a1 R G a4 a2 N := ⟨_, rfl⟩
  rw [← hd] at hP
  have go : ∀ (n i : Nat) (x_3 x_4 x_5 : Int32) (σ3 : zSto), RfX l R N G (csI G) (fun p => pdI G p a4) σ3 → ti x_5 = (i : Int) → i ≤ N - 1 → x_3 = sbF D d i → x_4 = slF D d i → N - 1 - i < n → w_X10_spare_11 a1 a2 P n x_3 x_4 x_5 σ3 := by
    intro n
    induction n with
    | zero => intro i x_3 x_4 x_5 σ3 _ _ _ _ _ h; omega
    | succ n ih =>
      intro i x_3 x_4 x_5 σ3 X3 hi hiN h3 h4 hn
      have h25 := X3.2.2.2.1
      unfold w_X10_spare_11
      refine ⟨fun q => ?_, fun q => ?_⟩
      · have c := le_t q
        have e : i = N - 1 := by omega
        subst e
        rw [h3]
        exact hP σ3
      · have c := nle_t q
        have tx := tadd (x := x_5) (y := (1 : Int32)) (by omega)
        have tn := tn_eq x_5
        have e5' := nI_x hi (by omega)
        rw [show x_5.toNatClampNeg = i by omega]
        refine ⟨vin (by omega), fun x3 e3 => ⟨vin (by omega), fun σ5 e5 => ?_⟩⟩
        have v3 : x3 = pdI G i a4 := by rw [e3]; exact (X3.2.2.2.2.2.2.2.2.2 i (by omega)).2.1
        have X5 := RfX_pd X3 e5
        refine f_goF X5 a1 a2 hlaw (fun σ8 f8 T8 => ⟨vin (by omega), fun σ10 e10 => ?_⟩)
        have X10 := RfX_pd (FrG_X X5 f8) e10
        have ef : (fun p => if p = i then x3 else (fun p => if p = i then (0 : Int32) else (fun p => pdI G p a4) p) p) = fun p => pdI G p a4 := funext (fun p => by
          by_cases k : p = i
          · subst k
            show (if p = p then x3 else _) = _
            rw [if_pos rfl, v3]
          · show (if p = i then x3 else (if p = i then (0 : Int32) else pdI G p a4)) = _
            rw [if_neg k, if_neg k])
        rw [ef] at X10
        have v10 : σ10.1 223 31 = d i := by
          rw [zI_q' e10 (by omega), T8.1.1, hd]
          rfl
        rw [v10]
        have kp : x_4 ≤ d i → ∀ x11 : Int32, x11 = x_5 + (1 : Int32) → w_X10_spare_11 a1 a2 P n x_3 x_4 x11 σ10 := fun k x11 e11 => by
          have f := eq_t e11
          have s1 := sl_1 (D := D) (d := d) (n := i) (by rw [← h4]; exact k)
          exact ih (i + 1) x_3 x_4 x11 σ10 X10 (by omega) (by omega) (by rw [s1.2]; exact h3) (by rw [s1.1]; exact h4) (by omega)
        refine ⟨fun k => ⟨fun _ => kp k, fun k2 => absurd k k2⟩, fun k => ⟨fun k2 => absurd k2 k, fun _ x15 e15 x16 e16 => ?_⟩⟩
        have f := eq_t e16
        have s2 := sl_2 (D := D) (d := d) (n := i) (by rw [← h4]; exact k)
        exact ih (i + 1) x_5 x15 x16 σ10 X10 (by omega) (by omega) (by rw [s2.2]; exact e5') (by rw [s2.1]; exact e15) (by omega)
  unfold w_X10_spare
  intro x1 e1
  exact ⟨100, go 100 0 (-1 : Int32) x1 (0 : Int32) σ X lit_0 (by omega) rfl (by rw [e1]; exact h31) (by omega)⟩
set_option maxHeartbeats 4000000 in
theorem al_rich {σ : zSto} (H : Lz σ) (a1 a2 a3 a4 a5 : Int32) : ∃ A : Int32, w_X9_rich a1 a2 a3 a4 a5 σ (fun r _ => r = A) ∧ ∀ σa, SmR σ σa → w_X10_rich a1 a2 a3 a4 a5 σa (fun r _ => r = A) := by
  have l0 := lit_0
  by_cases ex : exR σ a1 a2 a4
  · obtain ⟨l, hl⟩ : ∃ l : Nat, ti a1 = (l : Int) := ⟨(ti a1).toNat, by have := ex.1; omega⟩
    have d : 0 ≤ ti (σ.1 42 0) ∧ ti (σ.1 42 0) ≤ 2 := rdg H.1.1 kd_42 rfl rfl
    obtain ⟨N, R, G, tl⟩ := tlL_of H (l := l) (by have := ex.2.1; omega) (by have := ex.2.1; omega)
    have ln := LnN_of H tl
    have hlaw : -1 ≤ ti a2 ∧ ti a2 ≤ 3 := ⟨ex.2.2.1, ex.2.2.2.1⟩
    have hw : 0 ≤ ti a4 ∧ ti a4 ≤ 9 := ⟨ex.2.2.2.2.1, ex.2.2.2.2.2⟩
    refine ⟨if a5 = 0 then rbF (fun r => rnA a2 R (fun _ => true) G a4 a3 N (20 + r)) R else sbF (rnA a2 R (fun _ => true) G a4 a3 N 0) (dlA a2 R G a4 a3 N) (N - 1), ?_, ?_⟩
    · unfold w_X9_rich
      refine f_X9_ridden H a1 a2 a3 a4 (fun z => absurd ex z) (fun _ l' N' R' G' hl' tl' σ2 f2 T2 => ?_)
      have el : l' = l := by omega
      subst el
      obtain ⟨eN, eR, eG⟩ := tlL_eq tl tl' (fun _ => rfl)
      subst eN
      subst eR
      subst eG
      obtain ⟨t1, t2, t3, t4, t5, t6, t7, t8, t9⟩ := id tl
      refine ⟨fun z => (by cases z), fun j3 e3 => ?_⟩
      have e3' := Option.some.inj e3
      subst e3'
      have L2 := LnR_C (okT_l t1) t9 f2
      refine ⟨isT_L (isN_T (by unfold isN; omega)), fun k => ?_, fun k => ?_⟩
      · rw [if_pos k]
        exact f_X5_richest L2 t5 t8 T2 rfl
      · rw [if_neg k]
        exact f_X9_sparePost (by omega) L2 t4 t6 t7 t5 t8 ln a2 a3 a4 hlaw hw rfl T2.1 (fun _ => rfl)
    · intro σa sm
      unfold w_X10_rich
      intro σ1 e1
      obtain ⟨H1, u1⟩ := SmR_223 sm e1
      refine f_X10_layRun H1 a1 a2 a3 a4 (fun z => absurd ((exR_eq1 u1).mpr ex) z) (fun _ l' N' R' G' hl' tl' σ2 f2 X2 T2 => fun _ => ⟨fun _ => ?_, fun c => absurd c (by decide)⟩)
      have el : l' = l := by omega
      subst el
      obtain ⟨eN, eR, eG⟩ := tlL_eq tl tl' (fun j => u1 229 j (by omega) (by omega))
      subst eN
      subst eR
      subst eG
      refine ⟨fun k => ?_, fun k => ?_⟩
      · rw [if_pos k]
        exact f_X10_richest X2 (fun r hr => (T2.1.2.2.2.1 r hr).2.1) rfl
      · rw [if_neg k]
        exact f_X10_spare a2 a3 hlaw X2 T2.1.1 (fun _ => rfl)
  · refine ⟨-1, ?_, ?_⟩
    · unfold w_X9_rich
      exact f_X9_ridden H a1 a2 a3 a4 (fun _ => ⟨fun _ => rfl, fun j3 e3 => (by cases e3)⟩) (fun e => absurd e ex)
    · intro σa sm
      unfold w_X10_rich
      intro σ1 e1
      obtain ⟨H1, u1⟩ := SmR_223 sm e1
      exact f_X10_layRun H1 a1 a2 a3 a4 (fun _ => fun _ => ⟨fun c => absurd rfl c, fun _ => rfl⟩) (fun e => absurd ((exR_eq1 u1).mp e) ex)
theorem m_rich {σ : zSto} (H : Lz σ) (a1 a2 a3 a4 a5 : Int32) {P : Int32 → zSto → Prop} (hP : ∀ r σa, (∀ Q : Int32 → zSto → Prop, (∀ σ2, Lz σ2 → Q r σ2) → w_X10_rich a1 a2 a3 a4 a5 σa Q) → P r σa) : w_X9_rich a1 a2 a3 a4 a5 σ P := by
  obtain ⟨A, hc, hr⟩ := al_rich H a1 a2 a3 a4 a5
  exact cj_X9_rich (P := fun _ σa => zInv AC σ.1 3 σa) (Q := fun r _ => r = A) (fun r σa i e2 => by
    subst e2
    have sm := SmR_C H i
    exact hP _ _ (fun Q hQ => cj_X10_rich (P := fun _ σb => zInv AR2 σa.1 3 σb) (Q := fun r' _ => r' = r) (fun r' σb i e => by
      subst e
      exact hQ σb (Lz_R sm.1 i)) (s_X10_rich (A := AR2) (F := σa.1) ar2_r a1 a2 a3 a4 a5 (inv_any sm.1.1) (fun _ _ i => i)) (hr σa sm))) (s_X9_rich (A := AC) (F := σ.1) ac_c a1 a2 a3 a4 a5 (inv_any H.1) (fun _ _ i => i)) hc
