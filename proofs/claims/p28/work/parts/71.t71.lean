/-! the reference's RUN -/
def FrG (σ σ2 : zSto) : Prop := (∀ k j, k ≠ 223 → ¬ (239 ≤ k ∧ k ≤ 244) → σ2.1 k j = σ.1 k j) ∧ (∀ j, ¬ (30 ≤ j ∧ j ≤ 34) → σ2.1 223 j = σ.1 223 j)
theorem FrG.tr {a b c : zSto} (h : FrG a b) (h2 : FrG b c) : FrG a c := ⟨fun k j x y => (h2.1 k j x y).trans (h.1 k j x y), fun j x => (h2.2 j x).trans (h.2 j x)⟩
theorem FrG_rf (a : zSto) : FrG a a := ⟨fun _ _ _ _ => rfl, fun _ _ => rfl⟩
theorem FrG_X {l R N : Nat} {G cs pd : Nat → Int32} {σ σ2 : zSto} (h : RfX l R N G cs pd σ) (f : FrG σ σ2) : RfX l R N G cs pd σ2 := RfX_fr h (fun j a b => f.2 j (by omega)) (fun k j z => f.1 k j (by omega) (by omega))
def RfS (S : Nat → Int32) (i : Nat) (σ : zSto) : Prop := σ.1 223 31 = S 0 ∧ σ.1 223 32 = S 1 ∧ σ.1 223 30 = S 2 ∧ (∀ r, r < 6 → σ.1 241 r = S (10 + r) ∧ σ.1 243 r = S (20 + r) ∧ σ.1 244 r = S (30 + r)) ∧ (∀ p, p < i → σ.1 240 p = S (40 + p) ∧ σ.1 242 p = S (60 + p))
set_option maxHeartbeats 8000000 in
theorem f_pullsAt {l R N : Nat} {G cs pd S : Nat → Int32} {σ : zSto} (X : RfX l R N G cs pd σ) {p : Nat} (T : RfS S p σ) (a1 a2 : Int32) (h1 : ti a1 = (p : Int)) (hp : p < N) (h2 : a2 = -1 ∨ ∃ r, r < 6 ∧ a2 = Int32.ofNat r) {P : zSto → Prop} (hP : ∀ σ2, FrG σ σ2 → RfS (pll cs pd (rdG G) p a2 S) (p + 1) σ2 → P σ2) : w_X10_pullsAt a1 a2 σ P := by
  have N16 := X.2.2.2.2.2.2.1
  have t1 := tn_eq a1
  have n1 : a1.toNatClampNeg = p := by omega
  obtain ⟨c1, c2, _⟩ := X.2.2.2.2.2.2.2.2.2 p hp
  obtain ⟨s0, s1, s2, s3, s4⟩ := T
  unfold w_X10_pullsAt
  rw [n1]
  refine ⟨vin (by omega), fun σ2 e2 => ⟨vin (by omega), fun σ4 e4 => ⟨fun q => ?_, fun q => ?_⟩⟩⟩
  · obtain ⟨r, hr, er⟩ : ∃ r, r < 6 ∧ a2 = Int32.ofNat r := by
      rcases h2 with h2 | h2
      · exact absurd h2 q
      · exact h2
    have ta : ti a2 = (r : Int) := by rw [er]; exact nI_t (by omega)
    have n2 : a2.toNatClampNeg = r := by rw [er]; exact ofNat_c (by omega)
    have X4 : RfX l R N G cs pd σ4 := RfX_fr X (fun j a b => by rw [zI_q' e4 (by omega), zI_q' e2 (by omega)]) (fun k j z => by rw [zI_q' e4 (by omega), zI_q' e2 (by omega)])
    have u4 : ∀ k j, k ≠ 240 → k ≠ 242 → σ4.1 k j = σ.1 k j := fun k j a b => by rw [zI_q' e4 (by omega), zI_q' e2 (by omega)]
    obtain ⟨r1, r2, r3⟩ := s3 r hr
    have hv : vp_nar .boolean (1 : Int32) = 1 := by decide
    rw [n2]
    refine f_rdOf (c := 2) X4 _ _ ta hr lit_2 (by omega) ⟨vin (by omega), fun x8 e8 => ⟨vin (by omega), ?_⟩⟩
    rw [u4 241 r (by omega) (by omega), r1] at e8
    rw [u4 238 p (by omega) (by omega), c2]
    have fin : ∀ (v : Int32) (σ12 σ14 σ17 σ18 σ20 σ22 : zSto), v = tkn (pd p) (rdG G r 2 - S (10 + r)) → σ12 = zI σ4 241 r (σ4.1 241 r + v) → σ14 = zI σ12 242 p v → σ17 = zI σ14 243 r (σ14.1 243 r + (v - (v / (3 : Int32)))) → σ18 = zI σ17 223 32 (σ17.1 223 32 + (v / (3 : Int32))) → σ20 = zI σ18 244 r (vp_nar .boolean (1 : Int32)) → σ22 = zI σ20 223 31 (σ20.1 223 31 + σ20.1 237 p) → P σ22 := by
      intro v σ12 σ14 σ17 σ18 σ20 σ22 ev e12 e14 e17 e18 e20 e22
      rw [hv] at e20
      rw [u4 241 r (by omega) (by omega), r1] at e12
      rw [zI_q' e14 (by omega), zI_q' e12 (by omega), u4 243 r (by omega) (by omega), r2] at e17
      rw [zI_q' e17 (by omega), zI_q' e14 (by omega), zI_q' e12 (by omega), u4 223 32 (by omega) (by omega), s1] at e18
      rw [zI_q' e20 (by omega), zI_q' e18 (by omega), zI_q' e17 (by omega), zI_q' e14 (by omega), zI_q' e12 (by omega), u4 223 31 (by omega) (by omega), s0, zI_q' e20 (by omega), zI_q' e18 (by omega), zI_q' e17 (by omega), zI_q' e14 (by omega), zI_q' e12 (by omega), u4 237 p (by omega) (by omega), c1] at e22
      have ep : pll cs pd (rdG G) p a2 S = upI (upI (upI (upI (upI (upI (upI (upI S (40 + p) a2) (60 + p) v) (10 + r) (S (10 + r) + v)) (20 + r) (S (20 + r) + (v - v / (3 : Int32)))) 1 (S 1 + v / (3 : Int32))) (30 + r) 1) 0 (S 0 + cs p)) 3 (S 3 + v) := by
        unfold pll
        rw [if_neg q, n2, ← ev]
      rw [ep] at hP
      refine hP σ22 ⟨fun k j x y => ?_, fun j x => ?_⟩ ⟨?_, ?_, ?_, fun r' hr' => ⟨?_, ?_, ?_⟩, fun p' hp' => ⟨?_, ?_⟩⟩
      · rw [zI_q' e22 (by omega), zI_q' e20 (by omega), zI_q' e18 (by omega), zI_q' e17 (by omega), zI_q' e14 (by omega), zI_q' e12 (by omega), u4 k j (by omega) (by omega)]
      · rw [zI_q' e22 (by omega), zI_q' e20 (by omega), zI_q' e18 (by omega), zI_q' e17 (by omega), zI_q' e14 (by omega), zI_q' e12 (by omega), u4 223 j (by omega) (by omega)]
      · rw [e22, zI_s, upI_q (by omega), upI_s]
      · rw [zI_q' e22 (by omega), zI_q' e20 (by omega), e18, zI_s, upI_q (by omega), upI_q (by omega), upI_q (by omega), upI_s]
      · rw [zI_q' e22 (by omega), zI_q' e20 (by omega), zI_q' e18 (by omega), zI_q' e17 (by omega), zI_q' e14 (by omega), zI_q' e12 (by omega), u4 223 30 (by omega) (by omega), s2, upI_q (by omega), upI_q (by omega), upI_q (by omega), upI_q (by omega), upI_q (by omega), upI_q (by omega), upI_q (by omega), upI_q (by omega)]
      · rw [zI_q' e22 (by omega), zI_q' e20 (by omega), zI_q' e18 (by omega), zI_q' e17 (by omega), zI_q' e14 (by omega), upI_q (by omega), upI_q (by omega), upI_q (by omega), upI_q (by omega), upI_q (by omega)]
        by_cases c : r' = r
        · subst c; rw [e12, zI_s, upI_s]
        · rw [zI_q' e12 (by omega), u4 241 r' (by omega) (by omega), (s3 r' hr').1, upI_q (by omega), upI_q (by omega), upI_q (by omega)]
      · rw [zI_q' e22 (by omega), zI_q' e20 (by omega), zI_q' e18 (by omega), upI_q (by omega), upI_q (by omega), upI_q (by omega), upI_q (by omega)]
        by_cases c : r' = r
        · subst c; rw [e17, zI_s, upI_s]
        · rw [zI_q' e17 (by omega), zI_q' e14 (by omega), zI_q' e12 (by omega), u4 243 r' (by omega) (by omega), (s3 r' hr').2.1, upI_q (by omega), upI_q (by omega), upI_q (by omega), upI_q (by omega)]
      · rw [zI_q' e22 (by omega), upI_q (by omega), upI_q (by omega)]
        by_cases c : r' = r
        · subst c; rw [e20, zI_s, upI_s]
        · rw [zI_q' e20 (by omega), zI_q' e18 (by omega), zI_q' e17 (by omega), zI_q' e14 (by omega), zI_q' e12 (by omega), u4 244 r' (by omega) (by omega), (s3 r' hr').2.2, upI_q (by omega), upI_q (by omega), upI_q (by omega), upI_q (by omega), upI_q (by omega), upI_q (by omega)]
      · rw [zI_q' e22 (by omega), zI_q' e20 (by omega), zI_q' e18 (by omega), zI_q' e17 (by omega), zI_q' e14 (by omega), zI_q' e12 (by omega), upI_q (by omega), upI_q (by omega), upI_q (by omega), upI_q (by omega), upI_q (by omega), upI_q (by omega), upI_q (by omega), zI_q' e4 (by omega)]
        by_cases c : p' = p
        · subst c; rw [e2, zI_s, upI_s]
        · rw [zI_q' e2 (by omega), (s4 p' (by omega)).1, upI_q (by omega)]
      · rw [zI_q' e22 (by omega), zI_q' e20 (by omega), zI_q' e18 (by omega), zI_q' e17 (by omega), upI_q (by omega), upI_q (by omega), upI_q (by omega), upI_q (by omega), upI_q (by omega), upI_q (by omega)]
        by_cases c : p' = p
        · subst c; rw [e14, zI_s, upI_s]
        · rw [zI_q' e14 (by omega), zI_q' e12 (by omega), zI_q' e4 (by omega), zI_q' e2 (by omega), (s4 p' (by omega)).2, upI_q (by omega), upI_q (by omega)]
    refine ⟨fun k => ⟨vin (by omega), vin (by omega), fun σ12 e12 => ⟨vin (by omega), fun σ14 e14 => ⟨vin (by omega), vin (by omega), fun σ17 e17 σ18 e18 => ⟨vin (by omega), fun σ20 e20 => ⟨vin (by omega), fun σ22 e22 => fin x8 σ12 σ14 σ17 σ18 σ20 σ22 ?_ e12 e14 e17 e18 e20 e22⟩⟩⟩⟩⟩, fun k => ⟨vin (by omega), fun x24 e24 => ⟨vin (by omega), vin (by omega), fun σ12 e12 => ⟨vin (by omega), fun σ14 e14 => ⟨vin (by omega), vin (by omega), fun σ17 e17 σ18 e18 => ⟨vin (by omega), fun σ20 e20 => ⟨vin (by omega), fun σ22 e22 => fin x24 σ12 σ14 σ17 σ18 σ20 σ22 ?_ e12 e14 e17 e18 e20 e22⟩⟩⟩⟩⟩⟩⟩
    · rw [← e8]
      unfold tkn
      rw [if_pos k]
    · rw [← e8, e24]
      unfold tkn
      rw [if_neg k]
  · refine hP σ4 ⟨fun k j x y => by rw [zI_q' e4 (by omega), zI_q' e2 (by omega)], fun j x => by rw [zI_q' e4 (by omega), zI_q' e2 (by omega)]⟩ ?_
    have ep : pll cs pd (rdG G) p a2 S = upI (upI S (40 + p) (-1)) (60 + p) 0 := by
      unfold pll
      rw [if_pos q]
    rw [ep]
    refine ⟨?_, ?_, ?_, fun r' hr' => ⟨?_, ?_, ?_⟩, fun p' hp' => ⟨?_, ?_⟩⟩
    · rw [zI_q' e4 (by omega), zI_q' e2 (by omega), s0, upI_q (by omega), upI_q (by omega)]
    · rw [zI_q' e4 (by omega), zI_q' e2 (by omega), s1, upI_q (by omega), upI_q (by omega)]
    · rw [zI_q' e4 (by omega), zI_q' e2 (by omega), s2, upI_q (by omega), upI_q (by omega)]
    · rw [zI_q' e4 (by omega), zI_q' e2 (by omega), (s3 r' hr').1, upI_q (by omega), upI_q (by omega)]
    · rw [zI_q' e4 (by omega), zI_q' e2 (by omega), (s3 r' hr').2.1, upI_q (by omega), upI_q (by omega)]
    · rw [zI_q' e4 (by omega), zI_q' e2 (by omega), (s3 r' hr').2.2, upI_q (by omega), upI_q (by omega)]
    · rw [zI_q' e4 (by omega), upI_q (by omega)]
      by_cases c : p' = p
      · subst c; rw [e2, zI_s, upI_s]; exact q
      · rw [zI_q' e2 (by omega), (s4 p' (by omega)).1, upI_q (by omega)]
    · by_cases c : p' = p
      · subst c; rw [e4, zI_s, upI_s]
      · rw [zI_q' e4 (by omega), zI_q' e2 (by omega), (s4 p' (by omega)).2, upI_q (by omega), upI_q (by omega)]
/-! times -/
def mx0 (x : Int32) : Int32 := if (0 : Int32) < x then x else 0
def cmT (cs mn S : Nat → Int32) : Nat → Int32
  | 0 => 0
  | p + 1 => if S (40 + p) = -1 then cmT cs mn S p + mn p else cmT cs mn S p + cs p + mn p
def scT (S : Nat → Int32) : Nat → Int32
  | 0 => 0
  | p + 1 => if S (40 + p) = -1 then scT S p else scT S p + 1
def bsT (b : Int32) (S : Nat → Int32) : Nat → Int32
  | 0 => -1
  | p + 1 => if S (40 + p) = -1 then bsT b S p else if scT S p + 1 = b then Int32.ofNat p else bsT b S p
def fiT (G cs S : Nat → Int32) : Nat → Int32
  | 0 => 0
  | p + 1 => if G (7 + 5 * p + 4) = -1 then fiT G cs S p else fiT G cs S p + mx0 (cmT cs (fun p => G (7 + 5 * p)) S p - G (7 + 5 * p + 4) - G 4)
def TmS (G cs S : Nat → Int32) (i : Nat) (σ0 σ : zSto) : Prop := (∀ k j, k ≠ 239 → ¬ (k = 223 ∧ (j = 33 ∨ j = 34)) → σ.1 k j = σ0.1 k j) ∧ σ.1 223 33 = fiT G cs S i ∧ σ.1 223 34 = bsT (G 5) S i ∧ (∀ p, p < i → σ.1 239 p = cmT cs (fun p => G (7 + 5 * p)) S p)
set_option maxHeartbeats 8000000 in
theorem f_timesBy_16 {l R N : Nat} {G cs pd S : Nat → Int32} {σ0 : zSto} (X0 : RfX l R N G cs pd σ0) (T : ∀ p, p < N → σ0.1 240 p = S (40 + p)) {P : zSto → Prop} (hP : ∀ σ2, TmS G cs S N σ0 σ2 → P σ2) : ∀ (n i : Nat) (x_1 x_2 x_3 : Int32) (σ : zSto), ti x_3 = (i : Int) → i ≤ N → x_1 = cmT cs (fun p => G (7 + 5 * p)) S i → x_2 = scT S i → TmS G cs S i σ0 σ → N - i < n → w_X10_timesBy_16 P n x_1 x_2 x_3 σ := by
  have l1 := lit_1
  have N16 := X0.2.2.2.2.2.2.1
  have h24 := X0.2.2.1
  intro n
  induction n with
  | zero => intro i x_1 x_2 x_3 σ _ _ _ _ _ h; omega
  | succ n ih =>
    intro i x_1 x_2 x_3 σ hi hiN g1 g2 hT hn
    obtain ⟨fr, t33, t34, t39⟩ := hT
    unfold w_X10_timesBy_16
    rw [fr 223 24 (by omega) (by omega)]
    refine ⟨fun q => ?_, fun q => ⟨vin (by have := nle_t q; omega), fun σ4 e4 => ?_⟩⟩
    · have c := le_t q
      have e : i = N := by omega
      subst e
      exact hP σ ⟨fr, t33, t34, t39⟩
    · have c := nle_t q
      have tn := tn_eq x_3
      have n3 : x_3.toNatClampNeg = i := by omega
      have e3 := nI_x hi (by omega)
      have t1 := tadd (x := x_3) (y := (1 : Int32)) (by omega)
      rw [n3] at e4 ⊢
      obtain ⟨c7, c8, c6⟩ := X0.2.2.2.2.2.2.2.2.2 i (by omega)
      have X4 : RfX l R N G cs pd σ4 := RfX_fr X0 (fun j a b => by rw [zI_q' e4 (by omega), fr 223 j (by omega) (by omega)]) (fun k j z => by rw [zI_q' e4 (by omega), fr k j (by omega) (by omega)])
      have u4 : ∀ k j, k ≠ 239 → ¬ (k = 223 ∧ (j = 33 ∨ j = 34)) → σ4.1 k j = σ0.1 k j := fun k j a b => by rw [zI_q' e4 (by omega), fr k j a b]
      have v33 : σ4.1 223 33 = fiT G cs S i := by rw [zI_q' e4 (by omega)]; exact t33
      have v34 : σ4.1 223 34 = bsT (G 5) S i := by rw [zI_q' e4 (by omega)]; exact t34
      have v39 : ∀ p, p < i + 1 → σ4.1 239 p = cmT cs (fun p => G (7 + 5 * p)) S p := fun p hp => by
        by_cases k : p = i
        · subst k; rw [e4, zI_s, g1]
        · rw [zI_q' e4 (by omega)]; exact t39 p (by omega)
      -- what is behind the FINES
      have tail : ∀ (σ5 : zSto), (∀ k j, ¬ (k = 223 ∧ j = 33) → σ5.1 k j = σ4.1 k j) → σ5.1 223 33 = fiT G cs S (i + 1) → ((σ5.1 240 i = -1 → vp_in x_3 16 ∧ ∀ x9 : Int32, x9 = x_1 + σ5.1 236 i → ∀ x10 : Int32, x10 = x_3 + (1 : Int32) → w_X10_timesBy_16 P n x9 x_2 x10 σ5) ∧ (¬ σ5.1 240 i = -1 → ∀ x11 : Int32, x11 = x_2 + (1 : Int32) → w_X10_of (5 : Int32) σ5 (fun (r13 : Int32) (σ12 : zSto) => ((¬ x11 = r13 → (∀ σ14 : zSto, σ14 = zI σ12 223 34 (σ12.1 223 34) → (vp_in x_3 16 ∧ (∀ x16 : Int32, x16 = (x_1 + (σ14.1 237 i)) → (vp_in x_3 16 ∧ (∀ x18 : Int32, x18 = (x16 + (σ14.1 236 i)) → (∀ x19 : Int32, x19 = (x_3 + (1 : Int32)) → w_X10_timesBy_16 P n x18 x11 x19 σ14))))))) ∧ (x11 = r13 → (∀ σ20 : zSto, σ20 = zI σ12 223 34 x_3 → (vp_in x_3 16 ∧ (∀ x22 : Int32, x22 = (x_1 + (σ20.1 237 i)) → (vp_in x_3 16 ∧ (∀ x24 : Int32, x24 = (x22 + (σ20.1 236 i)) → (∀ x25 : Int32, x25 = (x_3 + (1 : Int32)) → w_X10_timesBy_16 P n x24 x11 x25 σ20))))))))))) := by
        intro σ5 u5 w33
        have X5 : RfX l R N G cs pd σ5 := RfX_fr X4 (fun j a b => u5 223 j (by omega)) (fun k j z => u5 k j (by omega))
        have p5 : σ5.1 240 i = S (40 + i) := by rw [u5 240 i (by omega), u4 240 i (by omega) (by omega)]; exact T i (by omega)
        obtain ⟨d7, d8, d6⟩ := X5.2.2.2.2.2.2.2.2.2 i (by omega)
        have w34 : σ5.1 223 34 = bsT (G 5) S i := by rw [u5 223 34 (by omega)]; exact v34
        rw [p5]
        refine ⟨fun k => ⟨vin (by omega), fun x9 e9 x10 e10 => ?_⟩, fun k x11 e11 => ?_⟩
        · have f10 := eq_t e10
          refine ih (i + 1) x9 x_2 x10 σ5 (by omega) (by omega) ?_ ?_ ⟨fun k j a b => by rw [u5 k j (by omega), u4 k j a b], w33, ?_, fun p hp => by rw [u5 239 p (by omega)]; exact v39 p hp⟩ (by omega)
          · rw [e9, d6, g1]
            show _ = if S (40 + i) = -1 then _ else _
            rw [if_pos k]
          · rw [g2]
            show _ = if S (40 + i) = -1 then _ else _
            rw [if_pos k]
          · rw [w34]
            show _ = if S (40 + i) = -1 then _ else _
            rw [if_pos k]
        · refine f_of (s := 5) X5.1 X5.2.1 _ lit_5 (by omega) ?_
          rw [X5.2.2.2.2.2.2.2.2.1 5 (by omega)]
          have fin : ∀ (v : Int32) (σ14 : zSto) (x16 x18 x19 : Int32), σ14 = zI σ5 223 34 v → v = bsT (G 5) S (i + 1) → x16 = x_1 + σ14.1 237 i → x18 = x16 + σ14.1 236 i → x19 = x_3 + (1 : Int32) → w_X10_timesBy_16 P n x18 x11 x19 σ14 := by
            intro v σ14 x16 x18 x19 e14 ev e16 e18 e19
            have f19 := eq_t e19
            refine ih (i + 1) x18 x11 x19 σ14 (by omega) (by omega) ?_ ?_ ⟨fun k j a b => by rw [zI_q' e14 (by omega), u5 k j (by omega), u4 k j a b], by rw [zI_q' e14 (by omega)]; exact w33, by rw [e14, zI_s, ev], fun p hp => by rw [zI_q' e14 (by omega), u5 239 p (by omega)]; exact v39 p hp⟩ (by omega)
            · rw [e18, e16, zI_q' e14 (by omega), zI_q' e14 (by omega), d6, d7, g1]
              show _ = if S (40 + i) = -1 then _ else _
              rw [if_neg k]
            · rw [e11, g2]
              show _ = if S (40 + i) = -1 then _ else _
              rw [if_neg k]
          refine ⟨fun b σ14 e14 => ⟨vin (by omega), fun x16 e16 => ⟨vin (by omega), fun x18 e18 x19 e19 => fin _ σ14 x16 x18 x19 e14 ?_ e16 e18 e19⟩⟩, fun b σ14 e14 => ⟨vin (by omega), fun x16 e16 => ⟨vin (by omega), fun x18 e18 x19 e19 => fin _ σ14 x16 x18 x19 e14 ?_ e16 e18 e19⟩⟩⟩
          · rw [w34]
            show _ = if S (40 + i) = -1 then _ else if scT S i + 1 = G 5 then _ else _
            rw [if_neg k, if_neg (by rw [← g2, ← e11]; exact b)]
          · show _ = if S (40 + i) = -1 then _ else if scT S i + 1 = G 5 then _ else _
            rw [if_neg k, if_pos (by rw [← g2, ← e11]; exact b)]
            exact e3
      refine f_postOf (p := i) (c := 4) X4.1 X4.2.1 _ _ hi (by omega) lit_4 (by omega) ?_
      rw [X4.2.2.2.2.2.2.2.2.1 _ (by omega)]
      refine ⟨fun k => ⟨vin (by omega), tail σ4 (fun _ _ _ => rfl) ?_⟩, fun k => ?_⟩
      · rw [v33]
        show _ = if G (7 + 5 * i + 4) = -1 then _ else _
        rw [if_pos k]
      · refine f_postOf (p := i) (c := 4) X4.1 X4.2.1 _ _ hi (by omega) lit_4 (by omega) ?_
        refine f_of (s := 4) X4.1 X4.2.1 _ lit_4 (by omega) ?_
        rw [X4.2.2.2.2.2.2.2.2.1 _ (by omega), X4.2.2.2.2.2.2.2.2.1 _ (by omega)]
        refine f_greater _ _ ?_
        intro σ32 e32
        refine ⟨vin (by omega), tail σ32 (fun k j h => zI_q' e32 (by omega)) ?_⟩
        rw [e32, zI_s, v33, g1]
        show _ = if G (7 + 5 * i + 4) = -1 then _ else _
        rw [if_neg k]
        rfl
