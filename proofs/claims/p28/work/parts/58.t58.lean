/-! two promises of one call make one -/
set_option maxHeartbeats 4000000 in
theorem cj_X8_append_3 {q_0 : Nat} {x_1 : Int32} {P Q R : zSto → Prop} (hR : ∀ (z0 : zSto), P z0 → Q z0 → R z0) : ∀ (n1 n2 : Nat) (x_2 : Int32) (σ : zSto), w_X8_append_3 q_0 x_1 P n1 x_2 σ → w_X8_append_3 q_0 x_1 Q n2 x_2 σ → w_X8_append_3 q_0 x_1 R n1 x_2 σ := by
  intro n1
  induction n1 with
  | zero => intro n2 x_2 σ a b; exact a.elim
  | succ n1 ih =>
    intro n2 x_2 σ a b
    cases n2 with
    | zero => exact b.elim
    | succ n2 =>
      unfold w_X8_append_3 at a b ⊢
      exact ⟨fun y1 => hR _ (a.1 y1) (b.1 y1), fun y2 => ⟨fun y3 => hR _ ((a.2 y2).1 y3) ((b.2 y2).1 y3), fun y4 => ⟨((a.2 y2).2 y4).1, fun y5 => fun y6 => fun y7 => fun y8 => fun y9 => fun y10 => ih _ _ _ ((((((((a.2 y2).2 y4).2 y5) y6) y7) y8) y9) y10) ((((((((b.2 y2).2 y4).2 y5) y6) y7) y8) y9) y10)⟩⟩⟩
set_option maxHeartbeats 4000000 in
theorem cj_X8_append {t : Nat} {a1 : Int32} {σ : zSto} {P Q R : zSto → Prop} (hR : ∀ (z0 : zSto), P z0 → Q z0 → R z0) (a : w_X8_append t a1 σ P) (b : w_X8_append t a1 σ Q) : w_X8_append t a1 σ R := by
  unfold w_X8_append at a b ⊢
  exact Exists.elim a (fun y1 y3 => Exists.elim b (fun y2 y4 => ⟨y1, cj_X8_append_3 hR _ _ _ _ y3 y4⟩))
set_option maxHeartbeats 4000000 in
theorem cj_X9_feed {a1 : Int32} {a2 : Int32} {a3 : Int32} {a4 : Int32} {a5 : Int32} {σ : zSto} {P Q R : Int32 → zSto → Prop} (hR : ∀ (z0 : Int32) (z1 : zSto), P z0 z1 → Q z0 z1 → R z0 z1) (a : w_X9_feed a1 a2 a3 a4 a5 σ P) (b : w_X9_feed a1 a2 a3 a4 a5 σ Q) : w_X9_feed a1 a2 a3 a4 a5 σ R := by
  unfold w_X9_feed at a b ⊢
  exact ⟨fun y1 => cj_X8_append (fun y2 y3 y4 => cj_X8_append (fun y5 y6 y7 => cj_X8_append (fun y8 y9 y10 => cj_X8_append (fun y11 y12 y13 => cj_X8_append (fun y14 y15 y16 => hR _ _ y15 y16) y12 y13) y9 y10) y6 y7) y3 y4) (a.1 y1) (b.1 y1), fun y17 => hR _ _ (a.2 y17) (b.2 y17)⟩
set_option maxHeartbeats 4000000 in
theorem cj_X10_four_3 {x_1 : Int32} {P Q R : zSto → Prop} (hR : ∀ (z0 : zSto), P z0 → Q z0 → R z0) : ∀ (n1 n2 : Nat) (x_2 : Int32) (σ : zSto), w_X10_four_3 x_1 P n1 x_2 σ → w_X10_four_3 x_1 Q n2 x_2 σ → w_X10_four_3 x_1 R n1 x_2 σ := by
  intro n1
  induction n1 with
  | zero => intro n2 x_2 σ a b; exact a.elim
  | succ n1 ih =>
    intro n2 x_2 σ a b
    cases n2 with
    | zero => exact b.elim
    | succ n2 =>
      unfold w_X10_four_3 at a b ⊢
      exact ⟨fun y1 => hR _ (a.1 y1) (b.1 y1), fun y2 => ⟨(a.2 y2).1, fun y3 => fun y4 => fun y5 => fun y6 => fun y7 => fun y8 => ih _ _ _ (((((((a.2 y2).2 y3) y4) y5) y6) y7) y8) (((((((b.2 y2).2 y3) y4) y5) y6) y7) y8)⟩⟩
set_option maxHeartbeats 4000000 in
theorem cj_X10_four {a1 : Int32} {σ : zSto} {P Q R : zSto → Prop} (hR : ∀ (z0 : zSto), P z0 → Q z0 → R z0) (a : w_X10_four a1 σ P) (b : w_X10_four a1 σ Q) : w_X10_four a1 σ R := by
  unfold w_X10_four at a b ⊢
  exact Exists.elim a (fun y1 y3 => Exists.elim b (fun y2 y4 => ⟨y1, cj_X10_four_3 hR _ _ _ _ y3 y4⟩))
set_option maxHeartbeats 4000000 in
theorem cj_X10_feed {a1 : Int32} {a2 : Int32} {a3 : Int32} {a4 : Int32} {a5 : Int32} {σ : zSto} {P Q R : Int32 → zSto → Prop} (hR : ∀ (z0 : Int32) (z1 : zSto), P z0 z1 → Q z0 z1 → R z0 z1) (a : w_X10_feed a1 a2 a3 a4 a5 σ P) (b : w_X10_feed a1 a2 a3 a4 a5 σ Q) : w_X10_feed a1 a2 a3 a4 a5 σ R := by
  unfold w_X10_feed at a b ⊢
  exact fun y1 => fun y2 => ⟨fun y3 => cj_X10_four (fun y4 y5 y6 => cj_X10_four (fun y7 y8 y9 => cj_X10_four (fun y10 y11 y12 => cj_X10_four (fun y13 y14 y15 => cj_X10_four (fun y16 y17 y18 => hR _ _ y17 y18) y14 y15) y11 y12) y8 y9) y5 y6) (((a y1) y2).1 y3) (((b y1) y2).1 y3), fun y19 => hR _ _ (((a y1) y2).2 y19) (((b y1) y2).2 y19)⟩
theorem LX_fd {σ σ' : zSto} (h : LX 1 0 σ) (fb : ∀ q j, (q < 43 ∨ (226 ≤ q ∧ q ≤ 231)) → q ≠ 2 → ¬ (q = 1 ∧ j = 5) → σ'.1 q j = σ.1 q j) (h1 : ti (σ'.1 1 5) = ti (σ'.1 225 0)) (h2 : ∀ j : Nat, (j : Int) < ti (σ'.1 1 5) → ti (σ'.1 2 j) = ti (σ'.1 224 j)) : LX 1 0 σ' := by
  obtain ⟨_, _, h3, h4, h5, h6, h7⟩ := h
  have cc : ∀ o l s, o < 3 → l < 2 → s < wdo o → cv σ' 1 o l s = cv σ 1 o l s := fun o l s _ hl hs => cv_q hl hs (fun k j a b => fb k j (by omega) (by omega) (by omega))
  have rr : ∀ o l s, rv σ' 0 o l s = rv σ 0 o l s := fun o l s => rv_q (fun k j a b => fb k j (by omega) (by omega) (by omega))
  refine ⟨h1, fun j hj => ?_, ?_, ?_, fun o ho => ?_, fun o l s ho hl hc hs hv => ?_, fun l hl hc => rlx_cg (fun s hs => cc 0 l s (by omega) hl hs) (h7 l hl (by have hc' : (l : Int) < ti (σ'.1 42 0) := hc; rw [fb 42 0 (by omega) (by omega) (by omega)] at hc'; exact hc'))⟩
  · rw [show 600 * 0 + j = j by omega]
    exact h2 j hj
  · rw [fb 1 6 (by omega) (by omega) (by omega), fb 226 0 (by omega) (by omega) (by omega)]; exact h3
  · rw [fb 1 7 (by omega) (by omega) (by omega), fb 227 0 (by omega) (by omega) (by omega)]; exact h4
  · show ti (σ'.1 42 o) = ti (σ'.1 228 (3 * 0 + o))
    rw [fb 42 o (by omega) (by omega) (by omega), fb 228 _ (by omega) (by omega) (by omega)]; exact h5 o ho
  · have hc' : (l : Int) < ti (σ'.1 42 o) := hc
    rw [fb 42 o (by omega) (by omega) (by omega)] at hc'
    have w := wdo_2 o
    rw [cc o l s ho hl hs, rr o l s]
    refine h6 o l s ho hl hc' hs ⟨fun z => ?_, fun z => ?_⟩
    · have y := hv.1 z
      rw [cc o l 0 ho hl (by omega), cc o l 1 ho hl (by omega)] at y
      exact y
    · have y := hv.2 z
      rw [cc o l 0 ho hl (by omega)] at y
      exact y
theorem Wd_v : Wd 224 = 600 ∧ Wd 225 = 1 ∧ Wd 226 = 1 ∧ Wd 227 = 1 ∧ Wd 228 = 3 := by decide
theorem LX_im {σ σ' : zSto} {k : Nat} (hk : k < 3) (h : LX (44 + 42 * k) (k + 1) σ) (hb : ti (σ.1 (44 + 42 * k) 5) ≤ 600) (fc : ∀ q j, 44 ≤ q → q < 170 → σ'.1 q j = σ.1 q j) (fr : ∀ q j, 224 ≤ q → q ≤ 228 → Wd q ≤ j → σ'.1 q j = σ.1 q j) (rr : ∀ i o l s, 1 ≤ i → o < 3 → l < 2 → s < wdo o → rv σ' i o l s = rv σ i o l s) : LX (44 + 42 * k) (k + 1) σ' := by
  obtain ⟨w4, w5, w6, w7, w8⟩ := Wd_v
  exact LX_tr h hb (fun j _ => fc _ j (by omega) (by omega)) (fun j _ => fc _ j (by omega) (by omega)) (fun j _ => fc _ j (by omega) (by omega)) (fun o l s _ hl hs => cv_q hl hs (fun q j a b => fc q j (by omega) (by omega))) (fun j _ => fr _ _ (by omega) (by omega) (by omega)) (fr _ _ (by omega) (by omega) (by omega)) (fr _ _ (by omega) (by omega) (by omega)) (fr _ _ (by omega) (by omega) (by omega)) (fun o _ => fr _ _ (by omega) (by omega) (by omega)) (fun o l s a b c => rr (k + 1) o l s (by omega) a b c)
set_option maxHeartbeats 4000000 in
theorem m_feed {σ : zSto} (H : Lz σ) (a b c d e : Int32) {P : Int32 → zSto → Prop} (hP : ∀ r σa, (∀ Q : Int32 → zSto → Prop, (∀ σ2, Lz σ2 → Q r σ2) → w_X10_feed a b c d e σa Q) → P r σa) : w_X9_feed a b c d e σ P := by
  obtain ⟨I, q1, q2, q3⟩ := id H
  have d5 := l600' I kd_1
  obtain ⟨L, hL⟩ : ∃ L : Nat, ti (σ.1 1 5) = (L : Int) := ⟨(ti (σ.1 1 5)).toNat, by omega⟩
  have hR : ti (σ.1 225 0) = (L : Int) := by rw [← q1.1]; exact hL
  refine cj_X9_feed (P := fun r σa => zInv AF σ.1 3 σa) (Q := fun r σa => (600 < L + 20 ∧ r = -1 ∧ σa = σ) ∨ (L + 20 ≤ 600 ∧ ti r = (L : Int) + 20 ∧ ti (σa.1 1 5) = (L : Int) + 20 ∧ apd 2 L (fd5 fdB a b c d e) 20 σ σa ∧ (∀ q j, q ≠ 2 → ¬ (q = 1 ∧ j = 5) → σa.1 q j = σ.1 q j))) (fun r σa Ia qa => ?_) (e_X9_feed (A := AF) (F := σ.1) af_n a b c d e (inv_any I) (fun _ => inv_any I) (fun _ r σ2 I2 _ _ => I2)) (f_X9_feed a b c d e hL (by omega) (fun h => Or.inl ⟨h, rfl, rfl⟩) (fun h r σ2 g1 g2 g3 g4 => Or.inr ⟨h, g1, g2, g3, g4⟩))
  refine hP r σa (fun Q hQ => ?_)
  rcases qa with ⟨ha, hr, hs⟩ | ⟨ha, hr, h5, hb, hu⟩
  · subst hr
    subst hs
    refine cj_X10_feed (P := fun _ σb => zInv zA0 zF0 3 σb) (Q := fun r σb => r = -1 ∧ (∀ q j, q ≠ 223 → σb.1 q j = σa.1 q j)) (fun r σb Ib qb => ?_) (e_X10_feed (A := zA0) (F := zF0) (fun h => h.elim) (fun _ h => h.elim) (fun h => h.elim) a b c d e I (fun _ σ2 I2 _ => I2) (fun _ r σ2 I2 _ _ => I2)) (f_X10_feed a b c d e hR (by omega) (fun _ σ2 u => ⟨rfl, u⟩) (fun h' => by omega))
    rw [qb.1]
    exact hQ σb (Lz_of H Ib (fun k j hk => qb.2 k j (by omega)))
  · refine cj_X10_feed (P := fun _ σb => zInv zA0 zF0 3 σb) (Q := fun r' σb => ti r' = (L : Int) + 20 ∧ ti (σb.1 225 0) = (L : Int) + 20 ∧ apd 224 L (fd5 fdR a b c d e) 20 σa σb ∧ (∀ q j, q ≠ 223 → q ≠ 224 → ¬ (q = 225 ∧ j = 0) → σb.1 q j = σa.1 q j)) (fun r' σb Ib qb => ?_) (e_X10_feed (A := zA0) (F := zF0) (fun h => h.elim) (fun _ h => h.elim) (fun h => h.elim) a b c d e (inv_none Ia) (fun _ σ2 I2 _ => I2) (fun _ r σ2 I2 _ _ => I2)) (f_X10_feed a b c d e (L := L) (by rw [hu 225 0 (by omega) (by omega)]; exact hR) (by omega) (fun h' => by omega) (fun _ r' σ2 g1 g2 g3 g4 => ⟨g1, g2, g3, g4⟩))
    obtain ⟨r1, r5, rb, ru⟩ := qb
    have er : r' = r := t_inj (by omega)
    rw [er]
    have fb : ∀ q j, q ≠ 223 → q ≠ 224 → ¬ (q = 225 ∧ j = 0) → q ≠ 2 → ¬ (q = 1 ∧ j = 5) → σb.1 q j = σ.1 q j := fun q j x1 x2 x3 x4 x5 => by rw [ru q j x1 x2 x3, hu q j x4 x5]
    have b15 : ti (σb.1 1 5) = (L : Int) + 20 := by rw [ru 1 5 (by omega) (by omega) (by omega)]; exact h5
    have b4 : ∀ j, σb.1 224 j = if L ≤ j ∧ j < L + 20 then fd5 fdR a b c d e (j - L) else σ.1 224 j := fun j => by rw [rb j, hu 224 j (by omega) (by omega)]
    refine hQ σb ⟨Ib, LX_fd q1 (fun q j x1 x2 x3 => fb q j (by omega) (by omega) (by omega) x2 x3) (by omega) (fun j hj => ?_), fun k hk z => LX_im hk (q2 k hk (by rw [← fb 170 k (by omega) (by omega) (by omega) (by omega) (by omega)]; exact z)) (l600' I (kd_st hk)).2 (fun q j x1 x2 => fb q j (by omega) (by omega) (by omega) (by omega) (by omega)) (fun q j x1 x2 x3 => ?_) (fun i o l s x1 x2 x3 x4 => rv_q (fun k j y1 y2 => fb k j (by omega) (by omega) (by omega) (by omega) (by omega))), fun k hk => ?_⟩
    · rw [ru 2 j (by omega) (by omega) (by omega), hb j, b4 j]
      by_cases c1 : L ≤ j ∧ j < L + 20
      · rw [if_pos c1, if_pos c1, fd5_eq _ _ _ _ _ (by omega)]
      · rw [if_neg c1, if_neg c1]
        have y := q1.2.1 j (by omega)
        rw [show 600 * 0 + j = j by omega] at y
        exact y
    · obtain ⟨w4, w5, w6, w7, w8⟩ := Wd_v
      by_cases c4 : q = 224
      · subst c4
        rw [b4 j, if_neg (by omega)]
      · refine fb q j (by omega) c4 (fun y => ?_) (by omega) (by omega)
        obtain ⟨y1, y2⟩ := y
        subst y1
        omega
    · rw [fb 170 k (by omega) (by omega) (by omega) (by omega) (by omega), fb 249 k (by omega) (by omega) (by omega) (by omega) (by omega)]
      exact q3 k hk
theorem f_X9_end (a1 : Int32) {σ : zSto} {P : Int32 → zSto → Prop} (h0 : ¬ (0 ≤ ti a1 ∧ ti a1 ≤ ti (σ.1 1 5)) → P (-1 : Int32) σ) (hP : (0 ≤ ti a1 ∧ ti a1 ≤ ti (σ.1 1 5)) → ∀ σ2, σ2 = zI σ 1 5 a1 → P a1 σ2) : w_X9_end a1 σ P := by
  unfold w_X9_end
  have l0 := lit_0
  refine ⟨fun q => h0 (by have := lt_t q; omega), fun q => ⟨fun q2 => ?_, fun q2 => h0 (by have := nle_t q2; omega)⟩⟩
  have c := nlt_t q
  have c2 := le_t q2
  intro σ1 e1
  exact hP (by omega) σ1 e1
theorem f_X10_end (a1 : Int32) {σ : zSto} {P : Int32 → zSto → Prop} (h0 : ¬ (0 ≤ ti a1 ∧ ti a1 ≤ ti (σ.1 225 0)) → ∀ σ1, σ1 = zI σ 223 0 (0 : Int32) → P (-1 : Int32) σ1) (hP : (0 ≤ ti a1 ∧ ti a1 ≤ ti (σ.1 225 0)) → ∀ σ1 σ2, σ1 = zI σ 223 0 (0 : Int32) → σ2 = zI σ1 225 0 a1 → P a1 σ2) : w_X10_end a1 σ P := by
  unfold w_X10_end
  have l0 := lit_0
  intro σ1 e1
  have g : σ1.1 225 0 = σ.1 225 0 := zI_q' e1 (Or.inl (by decide))
  refine b_X10_in a1 (0 : Int32) (σ1.1 225 0) (fun r z => ?_)
  intro b
  rw [g] at z
  refine ⟨fun q σ4 e4 => hP (by have := z.mp q; omega) σ1 σ4 e1 e4, fun q => h0 (fun h => z.mpr (by omega) q) σ1 e1⟩
set_option maxHeartbeats 4000000 in
theorem m_end {σ : zSto} (H : Lz σ) (a : Int32) {P : Int32 → zSto → Prop} (hP : ∀ r σa, (∀ Q : Int32 → zSto → Prop, (∀ σ2, Lz σ2 → Q r σ2) → w_X10_end a σa Q) → P r σa) : w_X9_end a σ P := by
  obtain ⟨I, q1, q2, q3⟩ := id H
  have d5 := l600' I kd_1
  have e5 := q1.1
  refine f_X9_end a (fun h => ?_) (fun h σa ea => ?_)
  · refine hP _ _ (fun Q hQ => f_X10_end a (fun h' σ1 e1 => ?_) (fun h' => absurd (by omega) h))
    exact hQ σ1 (Lz_of H (by rw [e1]; exact wIr I (fun h => h.elim) (by decide) kd_223 rfl rfl (full32 _)) (fun k j hk => zI_q' e1 (by omega)))
  · have ua : ∀ q j, ¬ (q = 1 ∧ j = 5) → σa.1 q j = σ.1 q j := fun q j x => zI_q' ea (by omega)
    have Ia : zInv zA0 zF0 3 σa := by rw [ea]; exact wIr (a := 0) (b := 600) I (fun h => h.elim) (rl0 rk_1) kd_1 rfl rfl (by omega)
    refine hP _ _ (fun Q hQ => f_X10_end a (fun h' => ?_) (fun h' σ1 σ2 e1 e2 => ?_))
    · rw [ua 225 0 (by omega)] at h'
      exact absurd (by omega) h'
    · have I1 : zInv zA0 zF0 3 σ1 := by rw [e1]; exact wIr Ia (fun h => h.elim) (by decide) kd_223 rfl rfl (full32 _)
      have I2 : zInv zA0 zF0 3 σ2 := by rw [e2]; exact wIr (a := 0) (b := 600) I1 (fun h => h.elim) (rl0 rk_225) kd_225 rfl rfl (by omega)
      have fb : ∀ q j, q ≠ 223 → ¬ (q = 225 ∧ j = 0) → ¬ (q = 1 ∧ j = 5) → σ2.1 q j = σ.1 q j := fun q j x1 x2 x3 => by rw [zI_q' e2 (by omega), zI_q' e1 (by omega), ua q j x3]
      have v1 : σ2.1 1 5 = a := by rw [zI_q' e2 (by omega), zI_q' e1 (by omega), ea, zI_s]
      have v2 : σ2.1 225 0 = a := by rw [e2, zI_s]
      refine hQ σ2 ⟨I2, LX_fd q1 (fun q j x1 x2 x3 => fb q j (by omega) (by omega) x3) (by rw [v1, v2]) (fun j hj => ?_), fun k hk z => LX_im hk (q2 k hk (by rw [← fb 170 k (by omega) (by omega) (by omega)]; exact z)) (l600' I (kd_st hk)).2 (fun q j x1 x2 => fb q j (by omega) (by omega) (by omega)) (fun q j x1 x2 x3 => ?_) (fun i o l s x1 x2 x3 x4 => rv_q (fun k j y1 y2 => fb k j (by omega) (by omega) (by omega))), fun k hk => ?_⟩
      · rw [v1] at hj
        rw [fb 2 j (by omega) (by omega) (by omega), fb 224 j (by omega) (by omega) (by omega)]
        have y := q1.2.1 j (by omega)
        rw [show 600 * 0 + j = j by omega] at y
        exact y
      · obtain ⟨w4, w5, w6, w7, w8⟩ := Wd_v
        refine fb q j (by omega) (fun y => ?_) (by omega)
        obtain ⟨y1, y2⟩ := y
        subst y1
        omega
      · rw [fb 170 k (by omega) (by omega) (by omega), fb 249 k (by omega) (by omega) (by omega)]
        exact q3 k hk
