theorem pll_q {cs pd : Nat → Int32} {rd : Nat → Nat → Int32} {p : Nat} {q : Int32} {S : Nat → Int32} (h : q = -1 ∨ ∃ r, r < 6 ∧ q = Int32.ofNat r) {j : Nat} (h1 : j ≠ 40 + p) (h2 : j ≠ 60 + p) (h3 : 36 ≤ j ∨ j = 2) : pll cs pd rd p q S j = S j := by
  unfold pll
  by_cases c : q = -1
  · rw [if_pos c, upI_q h2, upI_q h1]
  · obtain ⟨r, hr, er⟩ : ∃ r, r < 6 ∧ q = Int32.ofNat r := by
      rcases h with h | h
      · exact absurd h c
      · exact h
    have n2 : q.toNatClampNeg = r := by rw [er]; exact ofNat_c (by omega)
    rw [if_neg c, n2, upI_q (by omega), upI_q (by omega), upI_q (by omega), upI_q (by omega), upI_q (by omega), upI_q (by omega), upI_q h2, upI_q h1]
theorem sd1_q {law : Int32} {n : Nat} {S : Nat → Int32} {j : Nat} (h : j ≠ 2) : sd1 law n S j = S j := by
  unfold sd1
  split
  · exact upI_q h
  · rfl
theorem stp_q {law : Int32} {R : Nat} (hR : R ≤ 6) {so : Nat → Bool} {cs pd : Nat → Int32} {rd : Nat → Nat → Int32} {p : Nat} {S : Nat → Int32} {j : Nat} (h1 : j ≠ 40 + p) (h2 : j ≠ 60 + p) (h3 : 36 ≤ j) : stp law R so cs pd rd p S j = S j := by
  unfold stp
  rw [pll_q (by
    rcases pck_sp hR (law := law) (W := wts so cs pd rd S p) (f := fun r => rd r 5) (S := S) with z | ⟨r, a, b, _⟩
    · exact Or.inl z
    · exact Or.inr ⟨r, by omega, b⟩) h1 h2 (Or.inl h3)]
  exact sd1_q (by omega)
theorem rnF_un {law : Int32} {R : Nat} (hR : R ≤ 6) {so : Nat → Bool} {cs pd : Nat → Int32} {rd : Nat → Nat → Int32} {seed : Int32} : ∀ n p, n ≤ p → p < 16 → n ≤ 16 → rnF law R so cs pd rd seed n (40 + p) = -1 ∧ rnF law R so cs pd rd seed n (60 + p) = 0 := by
  intro n
  induction n with
  | zero =>
    intro p _ hp _
    refine ⟨?_, ?_⟩
    · show S0n seed (40 + p) = -1
      unfold S0n
      rw [if_neg (by omega), if_pos (by omega)]
    · show S0n seed (60 + p) = 0
      unfold S0n
      rw [if_neg (by omega), if_neg (by omega)]
  | succ n ih =>
    intro p h hp hn
    have y := ih p (by omega) hp (by omega)
    refine ⟨?_, ?_⟩
    · show stp law R so cs pd rd n (rnF law R so cs pd rd seed n) (40 + p) = -1
      rw [stp_q hR (by omega) (by omega) (by omega)]
      exact y.1
    · show stp law R so cs pd rd n (rnF law R so cs pd rd seed n) (60 + p) = 0
      rw [stp_q hR (by omega) (by omega) (by omega)]
      exact y.2
theorem f_begin_12 {σ0 : zSto} {P : zSto → Prop} (hP : ∀ σ2, (∀ k j, k ≠ 241 → k ≠ 243 → k ≠ 244 → σ2.1 k j = σ0.1 k j) → (∀ r, r < 6 → σ2.1 241 r = 0 ∧ σ2.1 243 r = 0 ∧ σ2.1 244 r = 0) → P σ2) : ∀ (n i : Nat) (x_1 : Int32) (σ : zSto), ti x_1 = (i : Int) → i ≤ 6 → (∀ k j, k ≠ 241 → k ≠ 243 → k ≠ 244 → σ.1 k j = σ0.1 k j) → (∀ r, r < i → σ.1 241 r = 0 ∧ σ.1 243 r = 0 ∧ σ.1 244 r = 0) → 6 - i < n → w_X10_begin_12 P n x_1 σ := by
  have l1 := lit_1
  have l6 := lit_6
  have hv : vp_nar .boolean (0 : Int32) = 0 := by decide
  intro n
  induction n with
  | zero => intro i x_1 σ _ _ _ _ h; omega
  | succ n ih =>
    intro i x_1 σ hi hi6 fr hz hn
    unfold w_X10_begin_12
    refine ⟨fun q => ?_, fun q => ?_⟩
    · have c := le_t q
      have e : i = 6 := by omega
      subst e
      exact hP σ fr hz
    · have c := nle_t q
      have tn := tn_eq x_1
      have t1 := tadd (x := x_1) (y := (1 : Int32)) (by omega)
      rw [show x_1.toNatClampNeg = i by omega, hv]
      refine ⟨vin (by omega), fun σ4 e4 => ⟨vin (by omega), fun σ6 e6 => ⟨vin (by omega), fun σ8 e8 x9 e9 => ?_⟩⟩⟩
      have f9 := eq_t e9
      refine ih (i + 1) x9 σ8 (by omega) (by omega) (fun k j a b d => by rw [zI_q' e8 (by omega), zI_q' e6 (by omega), zI_q' e4 (by omega), fr k j a b d]) (fun r hr => ?_) (by omega)
      by_cases k : r = i
      · subst k
        refine ⟨?_, ?_, ?_⟩
        · rw [zI_q' e8 (by omega), zI_q' e6 (by omega), e4, zI_s]
        · rw [zI_q' e8 (by omega), e6, zI_s]
        · rw [e8, zI_s]
      · rw [zI_q' e8 (by omega), zI_q' e8 (by omega), zI_q' e8 (by omega), zI_q' e6 (by omega), zI_q' e6 (by omega), zI_q' e6 (by omega), zI_q' e4 (by omega), zI_q' e4 (by omega), zI_q' e4 (by omega)]
        exact hz r (by omega)
def RnS (S : Nat → Int32) (N : Nat) (G cs : Nat → Int32) (σ : zSto) : Prop := RfS S N σ ∧ σ.1 223 33 = fiT G cs S N ∧ σ.1 223 34 = bsT (G 5) S N ∧ (∀ p, p < N → σ.1 239 p = cmT cs (fun p => G (7 + 5 * p)) S p)
set_option maxHeartbeats 8000000 in
theorem f_go_12 {l R N : Nat} {G cs pd : Nat → Int32} {so : Nat → Bool} {seed : Int32} {σ0 : zSto} (X0 : RfX l R N G cs pd σ0) (x_1 x_3 : Int32) (hlaw : -1 ≤ ti x_1 ∧ ti x_1 ≤ 3) (hso : ∀ r, r < R → so r = bt x_3 r) {P : zSto → Prop} (hP : ∀ σ2, FrG σ0 σ2 → RnS (rnF x_1 R so cs pd (rdG G) seed (N - 1)) N G cs σ2 → P σ2) : ∀ (n i : Nat) (x_4 : Int32) (σ : zSto), ti x_4 = (i : Int) → i ≤ N - 1 → FrG σ0 σ → RfS (rnF x_1 R so cs pd (rdG G) seed i) i σ → N - 1 - i < n → w_X10_go_12 x_1 x_3 P n x_4 σ := by
  have l1 := lit_1
  have N1 := X0.2.2.2.2.2.1
  have N16 := X0.2.2.2.2.2.2.1
  have R6 := X0.2.2.2.2.2.2.2.1
  intro n
  induction n with
  | zero => intro i x_4 σ _ _ _ _ h; omega
  | succ n ih =>
    intro i x_4 σ hi hiN fr T hn
    have X := FrG_X X0 fr
    have h25 := X.2.2.2.1
    unfold w_X10_go_12
    refine ⟨fun q => ?_, fun q => ?_⟩
    · have c := le_t q
      have e : i = N - 1 := by omega
      have tn := tn_eq (σ.1 223 25)
      have n5 : (σ.1 223 25).toNatClampNeg = i := by omega
      rw [n5]
      refine ⟨vin (by omega), fun σ4 e4 => ?_⟩
      have g5 : σ4.1 223 25 = σ.1 223 25 := zI_q' e4 (by omega)
      rw [g5, n5]
      refine ⟨vin (by omega), fun σ6 e6 => ?_⟩
      have un := rnF_un R6 (law := x_1) (so := so) (cs := cs) (pd := pd) (rd := rdG G) (seed := seed) i i (Nat.le_refl i) (by omega) (by omega)
      obtain ⟨s0, s1, s2, s3, s4⟩ := T
      have f6 : FrG σ0 σ6 := fr.tr ⟨fun k j x y => by rw [zI_q' e6 (by omega), zI_q' e4 (by omega)], fun j x => by rw [zI_q' e6 (by omega), zI_q' e4 (by omega)]⟩
      have X6 := FrG_X X0 f6
      have T6 : RfS (rnF x_1 R so cs pd (rdG G) seed i) (i + 1) σ6 := by
        refine ⟨by rw [zI_q' e6 (by omega), zI_q' e4 (by omega)]; exact s0, by rw [zI_q' e6 (by omega), zI_q' e4 (by omega)]; exact s1, by rw [zI_q' e6 (by omega), zI_q' e4 (by omega)]; exact s2, fun r hr => ?_, fun p hp => ?_⟩
        · rw [zI_q' e6 (by omega), zI_q' e4 (by omega), zI_q' e6 (by omega), zI_q' e4 (by omega), zI_q' e6 (by omega), zI_q' e4 (by omega)]
          exact s3 r hr
        · by_cases k : p = i
          · subst k
            refine ⟨?_, ?_⟩
            · rw [zI_q' e6 (by omega), e4, zI_s]; exact un.1.symm
            · rw [e6, zI_s]; exact un.2.symm
          · rw [zI_q' e6 (by omega), zI_q' e4 (by omega), zI_q' e6 (by omega), zI_q' e4 (by omega)]
            exact s4 p (by omega)
      unfold w_X10_timesBy
      intro σa ea σb eb
      have Xb : RfX l R N G cs pd σb := RfX_fr X6 (fun j a b => by rw [zI_q' eb (by omega), zI_q' ea (by omega)]) (fun k j z => by rw [zI_q' eb (by omega), zI_q' ea (by omega)])
      have ub : ∀ k j, ¬ (k = 223 ∧ (j = 33 ∨ j = 34)) → σb.1 k j = σ6.1 k j := fun k j h => by rw [zI_q' eb (by omega), zI_q' ea (by omega)]
      refine ⟨100, f_timesBy_16 (S := rnF x_1 R so cs pd (rdG G) seed i) Xb (fun p hp => by rw [ub 240 p (by omega)]; exact (T6.2.2.2.2 p (by omega)).1) (fun σ7 h7 => ?_) 100 0 (0 : Int32) (0 : Int32) (0 : Int32) σb lit_0 (by omega) rfl rfl ⟨fun _ _ _ _ => rfl, by rw [zI_q' eb (by omega), ea, zI_s]; rfl, by rw [eb, zI_s]; rfl, fun p hp => absurd hp (Nat.not_lt_zero p)⟩ (by omega)⟩
      obtain ⟨f1, f2, f3, f4⟩ := h7
      have u7 : ∀ k j, k ≠ 239 → ¬ (k = 223 ∧ (j = 33 ∨ j = 34)) → σ7.1 k j = σ6.1 k j := fun k j a b => by rw [f1 k j a b, ub k j b]
      rw [← e] at hP
      obtain ⟨p0, p1, p2, p3, p4⟩ := T6
      refine hP σ7 (f6.tr ⟨fun k j x y => u7 k j (by omega) (by omega), fun j x => u7 223 j (by omega) (by omega)⟩) ⟨⟨by rw [u7 223 31 (by omega) (by omega)]; exact p0, by rw [u7 223 32 (by omega) (by omega)]; exact p1, by rw [u7 223 30 (by omega) (by omega)]; exact p2, fun r hr => ?_, fun p hp => ?_⟩, f2, f3, f4⟩
      · rw [u7 241 r (by omega) (by omega), u7 243 r (by omega) (by omega), u7 244 r (by omega) (by omega)]
        exact p3 r hr
      · rw [u7 240 p (by omega) (by omega), u7 242 p (by omega) (by omega)]
        exact p4 p (by omega)
    · have c := nle_t q
      have t1 := tadd (x := x_4) (y := (1 : Int32)) (by omega)
      obtain ⟨S, hS⟩ : ∃ S, S = rnF x_1 R so cs pd (rdG G) seed i := ⟨_, rfl⟩
      rw [← hS] at T
      obtain ⟨W, hW⟩ : ∃ W, W = wts so cs pd (rdG G) S i := ⟨_, rfl⟩
      have hst : rnF x_1 R so cs pd (rdG G) seed (i + 1) = pll cs pd (rdG G) i (pck x_1 R W (fun r => rdG G r 5) S) (sd1 x_1 (cnF W R) S) := by
        show stp x_1 R so cs pd (rdG G) i (rnF x_1 R so cs pd (rdG G) seed i) = _
        rw [← hS, hW]
        rfl
      have hpk : pck x_1 R W (fun r => rdG G r 5) S = -1 ∨ ∃ r, r < 6 ∧ pck x_1 R W (fun r => rdG G r 5) S = Int32.ofNat r := by
        rcases pck_sp R6 (law := x_1) (W := W) (f := fun r => rdG G r 5) (S := S) with z | ⟨r, a, b, _⟩
        · exact Or.inl z
        · exact Or.inr ⟨r, by omega, b⟩
      have next : ∀ σ8, FrG σ0 σ8 → RfS (sd1 x_1 (cnF W R) S) i σ8 → w_X10_pullsAt x_4 (pck x_1 R W (fun r => rdG G r 5) S) σ8 (fun (σ10 : zSto) => (∀ x11 : Int32, x11 = (x_4 + (1 : Int32)) → w_X10_go_12 x_1 x_3 P n x11 σ10)) := by
        intro σ8 f8 T8
        refine f_pullsAt (FrG_X X0 f8) T8 x_4 _ hi (by omega) hpk (fun σ10 f10 T10 => fun x11 e11 => ?_)
        have g := eq_t e11
        rw [← hst] at T10
        exact ih (i + 1) x11 σ10 (by omega) (by omega) (f8.tr f10) T10 (by omega)
      obtain ⟨s0, s1, s2, s3, s4⟩ := id T
      unfold w_X10_pullerAt
      refine ⟨100, f_pullerAt_12 X s0 s2 (fun r hr => (s3 r hr).1) (fun r hr => (s3 r hr).2.2) x_4 x_1 x_3 hlaw hi (by omega) hso hW (fun z => ?_) (fun z σ2 e2 => ?_) 100 0 (-1 : Int32) (-1 : Int32) (0 : Int32) (0 : Int32) lit_0 (by omega) rfl rfl rfl (fun _ => rfl) (by omega)⟩
      · refine next σ fr ?_
        have e : sd1 x_1 (cnF W R) S = S := by unfold sd1; rw [if_neg z]
        rw [e]
        exact T
      · refine next σ2 (fr.tr ⟨fun k j x y => zI_q' e2 (by omega), fun j x => zI_q' e2 (by omega)⟩) ?_
        have e : sd1 x_1 (cnF W R) S = upI S 2 (nxs (S 2)) := by unfold sd1; rw [if_pos z]
        rw [e]
        refine ⟨by rw [zI_q' e2 (by omega), upI_q (by omega)]; exact s0, by rw [zI_q' e2 (by omega), upI_q (by omega)]; exact s1, by rw [e2, zI_s, upI_s, s2], fun r hr => ?_, fun p hp => ?_⟩
        · rw [zI_q' e2 (by omega), zI_q' e2 (by omega), zI_q' e2 (by omega), upI_q (by omega), upI_q (by omega), upI_q (by omega)]
          exact s3 r hr
        · rw [zI_q' e2 (by omega), zI_q' e2 (by omega), upI_q (by omega), upI_q (by omega)]
          exact s4 p hp
theorem f_X10_go {l R N : Nat} {G cs pd : Nat → Int32} {so : Nat → Bool} {σ : zSto} (X : RfX l R N G cs pd σ) (a1 a2 a3 : Int32) (hlaw : -1 ≤ ti a1 ∧ ti a1 ≤ 3) (hso : ∀ r, r < R → so r = bt a3 r) {P : zSto → Prop} (hP : ∀ σ2, FrG σ σ2 → RnS (rnF a1 R so cs pd (rdG G) a2 (N - 1)) N G cs σ2 → P σ2) : w_X10_go a1 a2 a3 σ P := by
  have N1 := X.2.2.2.2.2.1
  have N16 := X.2.2.2.2.2.2.1
  unfold w_X10_go
  intro σ1 e1
  unfold w_X10_begin
  intro σ2 e2 σ3 e3
  have u : ∀ k j, ¬ (k = 223 ∧ (j = 30 ∨ j = 31 ∨ j = 32)) → σ3.1 k j = σ.1 k j := fun k j h => by rw [zI_q' e3 (by omega), zI_q' e2 (by omega), zI_q' e1 (by omega)]
  refine ⟨100, f_begin_12 (σ0 := σ3) (fun σ4 f4 z4 => ?_) 100 0 (0 : Int32) σ3 lit_0 (by omega) (fun _ _ _ _ _ => rfl) (fun r hr => absurd hr (Nat.not_lt_zero r)) (by omega)⟩
  have fr : FrG σ σ4 := ⟨fun k j x y => by rw [f4 k j (by omega) (by omega) (by omega), u k j (by omega)], fun j x => by rw [f4 223 j (by omega) (by omega) (by omega), u 223 j (by omega)]⟩
  refine ⟨100, f_go_12 (seed := a2) (FrG_X X fr) a1 a3 hlaw hso (fun σ5 f5 h5 => hP σ5 (fr.tr f5) h5) 100 0 (0 : Int32) σ4 lit_0 (by omega) (FrG_rf σ4) ⟨?_, ?_, ?_, fun r hr => ?_, fun p hp => absurd hp (Nat.not_lt_zero p)⟩ (by omega)⟩
  · rw [f4 223 31 (by omega) (by omega) (by omega), zI_q' e3 (by omega), e2, zI_s]; rfl
  · rw [f4 223 32 (by omega) (by omega) (by omega), e3, zI_s]; rfl
  · rw [f4 223 30 (by omega) (by omega) (by omega), zI_q' e3 (by omega), zI_q' e2 (by omega), e1, zI_s]; rfl
  · obtain ⟨a, b, c⟩ := z4 r hr
    rw [a, b, c]
    have y : ∀ s, s < 40 → s ≠ 2 → rnF a1 R so cs pd (rdG G) a2 0 s = 0 := fun s hs h2 => by
      show S0n a2 s = 0
      unfold S0n
      rw [if_neg h2, if_neg (by omega)]
    rw [y _ (by omega) (by omega), y _ (by omega) (by omega), y _ (by omega) (by omega)]
    exact ⟨rfl, rfl, rfl⟩
