/-! image and again, with all that is told -/
theorem msS_L : ∀ l : Fin 2, ∀ s : Fin 123, mskS (3 + 12 * l.val + (cK s.val - 172)) (cJ s.val) = true := by decide +kernel
theorem msS_P : ∀ l : Fin 2, ∀ s : Fin 33, mskS (28 + 3 * l.val + (cK (300 + s.val) - 184)) (cJ (300 + s.val)) = true ∧ mskS (35 + 3 * l.val + (cK (300 + s.val) - 184)) (cJ (300 + s.val)) = true := by decide +kernel
theorem msS_e : mskS 0 5 = true ∧ mskS 0 6 = true ∧ mskS 0 7 = true ∧ mskS 41 0 = true ∧ mskS 41 1 = true ∧ mskS 41 2 = true := by decide +kernel
theorem msS_b {j : Nat} (h : j < 600) : mskS 1 j = true := by
  unfold mskS
  simp [h]
theorem cv_cp {σ σ2 : zSto} {S B : Nat} (h : cpM 42 S B mskS σ σ2) {o l s : Nat} (ho : o < 3) (hl : l < 2) (hs : s < wdo o) : cv σ2 S o l s = cv σ B o l s := by
  unfold cv
  by_cases c : o = 0
  · subst c
    have q := cK_L (s := s) hs
    have m := msS_L ⟨l, hl⟩ ⟨s, hs⟩
    have e := cp_in h (i := 3 + 12 * l + (cK s - 172)) (by omega) m
    rw [if_pos rfl, if_pos rfl, show S + 3 + 12 * l + (cK s - 172) = S + (3 + 12 * l + (cK s - 172)) by omega, e, show B + 3 + 12 * l + (cK s - 172) = B + (3 + 12 * l + (cK s - 172)) by omega]
  · have hs' := wdo_33 c hs
    have q := cK_P (s := s) hs'
    have m := msS_P ⟨l, hl⟩ ⟨s, hs'⟩
    rw [if_neg c, if_neg c]
    by_cases c1 : o = 1
    · have e := cp_in h (i := 28 + 3 * l + (cK (300 + s) - 184)) (by omega) m.1
      rw [if_pos c1, if_pos c1, show S + 28 + 3 * l + (cK (300 + s) - 184) = S + (28 + 3 * l + (cK (300 + s) - 184)) by omega, e, show B + 28 + 3 * l + (cK (300 + s) - 184) = B + (28 + 3 * l + (cK (300 + s) - 184)) by omega]
    · have e := cp_in h (i := 35 + 3 * l + (cK (300 + s) - 184)) (by omega) m.2
      rw [if_neg c1, if_neg c1, show S + 35 + 3 * l + (cK (300 + s) - 184) = S + (35 + 3 * l + (cK (300 + s) - 184)) by omega, e, show B + 35 + 3 * l + (cK (300 + s) - 184) = B + (35 + 3 * l + (cK (300 + s) - 184)) by omega]
theorem Wd_w : Wd 229 = 246 ∧ Wd 230 = 66 ∧ Wd 231 = 42 := by decide
/-- image t is image f now -/
theorem cpa_t {f t : Nat} {σ σ2 : zSto} (h : cpa f t σ σ2) {q : Nat} (hq : 224 ≤ q ∧ q ≤ 231) {j : Nat} (hj : j < Wd q) : σ2.1 q (Wd q * t + j) = σ.1 q (Wd q * f + j) := by
  rw [h q (Wd q * t + j), if_pos ⟨hq, by omega, by omega⟩, show Wd q * t + j - Wd q * t = j by omega]
theorem cpa_n {f t : Nat} {σ σ2 : zSto} (h : cpa f t σ σ2) {q i j : Nat} (hi : i ≠ t) (hj : j < Wd q) : σ2.1 q (Wd q * i + j) = σ.1 q (Wd q * i + j) := by
  rw [h q (Wd q * i + j), if_neg]
  rintro ⟨_, c2, c3⟩
  rcases Nat.lt_or_ge i t with z | z
  · have y := Nat.mul_le_mul_left (Wd q) (show i + 1 ≤ t from z)
    rw [Nat.mul_add] at y
    omega
  · have y := Nat.mul_le_mul_left (Wd q) (show t + 1 ≤ i by omega)
    rw [Nat.mul_add] at y
    omega
/-- what of an image i of σ2 is that of an image i' of σ -/
def ImR (i' i : Nat) (σ σ2 : zSto) : Prop := ∀ q j, 224 ≤ q → q ≤ 231 → j < Wd q → σ2.1 q (Wd q * i + j) = σ.1 q (Wd q * i' + j)
theorem rv_im {σ σ2 : zSto} {i i' o l s : Nat} (h : ImR i' i σ σ2) (ho : o < 3) (hl : l < 2) (hs : s < wdo o) : rv σ2 i o l s = rv σ i' o l s := by
  obtain ⟨w1, w2, w3⟩ := Wd_w
  unfold rv
  by_cases c : o = 0
  · subst c
    have hs' : s < 123 := hs
    have e := h 229 (123 * l + s) (by omega) (by omega) (by omega)
    rw [w1] at e
    rw [if_pos rfl, if_pos rfl, show 246 * i + 123 * l + s = 246 * i + (123 * l + s) by omega, e, show 246 * i' + 123 * l + s = 246 * i' + (123 * l + s) by omega]
  · rw [if_neg c, if_neg c]
    by_cases c1 : o = 1
    · subst c1
      have hs' : s < 33 := hs
      have e := h 230 (33 * l + s) (by omega) (by omega) (by omega)
      rw [w2] at e
      rw [if_pos rfl, if_pos rfl, show 66 * i + 33 * l + s = 66 * i + (33 * l + s) by omega, e, show 66 * i' + 33 * l + s = 66 * i' + (33 * l + s) by omega]
    · have c2 : o = 2 := by omega
      subst c2
      have hs' : s < 21 := hs
      have e := h 231 (21 * l + s) (by omega) (by omega) (by omega)
      rw [w3] at e
      rw [if_neg c1, if_neg c1, show 42 * i + 21 * l + s = 42 * i + (21 * l + s) by omega, e, show 42 * i' + 21 * l + s = 42 * i' + (21 * l + s) by omega]
theorem im_1 {σ σ2 : zSto} {i i' q : Nat} (h : ImR i' i σ σ2) (hq : q = 225 ∨ q = 226 ∨ q = 227) : σ2.1 q i = σ.1 q i' := by
  obtain ⟨w4, w5, w6, w7, w8⟩ := Wd_v
  have w : Wd q = 1 := by rcases hq with e | e | e <;> subst e <;> assumption
  have e := h q 0 (by omega) (by omega) (by omega)
  rw [w, Nat.one_mul, Nat.one_mul] at e
  exact e
theorem im_s {σ σ2 : zSto} {i i' : Nat} (h : ImR i' i σ σ2) : (∀ j, j < 600 → σ2.1 224 (600 * i + j) = σ.1 224 (600 * i' + j)) ∧ (∀ j, j < 3 → σ2.1 228 (3 * i + j) = σ.1 228 (3 * i' + j)) := by
  obtain ⟨w4, w5, w6, w7, w8⟩ := Wd_v
  refine ⟨fun j hj => ?_, fun j hj => ?_⟩
  · have e := h 224 j (by omega) (by omega) (by omega)
    rw [w4] at e
    exact e
  · have e := h 228 j (by omega) (by omega) (by omega)
    rw [w8] at e
    exact e
theorem LX_ir {σ σ' : zSto} {S i i' : Nat} (h : LX S i' σ) (hb : ti (σ.1 S 5) ≤ 600) (hc : ∀ k j, S ≤ k → k < S + 42 → σ'.1 k j = σ.1 k j) (hr : ImR i' i σ σ') : LX S i σ' :=
  LX_tr h hb (fun j _ => hc S j (by omega) (by omega)) (fun j _ => hc _ j (by omega) (by omega)) (fun j _ => hc _ j (by omega) (by omega)) (fun o l s _ hl hs => cv_q hl hs (fun k j a b => hc k j (by omega) (by omega))) (im_s hr).1 (im_1 hr (by omega)) (im_1 hr (by omega)) (im_1 hr (by omega)) (im_s hr).2 (fun o l s a b c => rv_im hr a b c)
theorem LX_ic {σ σ' σ2 : zSto} {S B i i' : Nat} (h : LX B i' σ) (hb : ti (σ.1 B 5) ≤ 600) (hc : cpM 42 S B mskS σ σ') (hc2 : ∀ k j, S ≤ k → k < S + 42 → σ2.1 k j = σ'.1 k j) (hr : ImR i' i σ σ2) : LX S i σ2 := by
  obtain ⟨m5, m6, m7, n0, n1, n2⟩ := msS_e
  refine LX_tr h hb (fun j hj => ?_) (fun j hj => ?_) (fun j hj => ?_) (fun o l s ho hl hs => ?_) (im_s hr).1 (im_1 hr (by omega)) (im_1 hr (by omega)) (im_1 hr (by omega)) (im_s hr).2 (fun o l s a b c => rv_im hr a b c)
  · rw [hc2 S j (by omega) (by omega)]
    have m : mskS 0 j = true := by rcases hj with e | e | e <;> subst e <;> assumption
    have e := cp_in hc (i := 0) (by omega) m
    exact e
  · rw [hc2 _ j (by omega) (by omega)]
    exact cp_in hc (i := 1) (by omega) (msS_b hj)
  · rw [hc2 _ j (by omega) (by omega)]
    have m : mskS 41 j = true := by rcases (show j = 0 ∨ j = 1 ∨ j = 2 by omega) with e | e | e <;> subst e <;> assumption
    exact cp_in hc (i := 41) (by omega) m
  · rw [cv_q hl hs (fun k j a b => hc2 k j (by omega) (by omega))]
    exact cv_cp hc ho hl hs
theorem f_X9_image (a1 : Int32) {σ : zSto} (I : zInv zA0 zF0 3 σ) {P : Int32 → zSto → Prop} (h0 : ¬ (0 ≤ ti a1 ∧ ti a1 ≤ 2) → P 0 σ) (hP : (0 ≤ ti a1 ∧ ti a1 ≤ 2) → ∀ σ3 σ2, zInv zA0 zF0 3 σ2 → cpM 42 (44 + 42 * a1.toNatClampNeg) 1 mskS σ σ3 → σ2 = zI σ3 170 a1.toNatClampNeg 1 → P 1 σ2) : w_X9_image a1 σ P := by
  unfold w_X9_image
  have l0 := lit_0
  have l3 := lit_3
  refine ⟨fun q => h0 (by have := lt_t q; omega), fun q => ⟨fun q2 => ?_, fun q2 => h0 (by have := nlt_t q2; omega)⟩⟩
  have c1 := nlt_t q
  have c2 := lt_t q2
  have tn := tn_eq a1
  refine ⟨vin (by omega), ?_⟩
  intro j2 e2
  have f2 : j2 = 44 + 42 * a1.toNatClampNeg := by
    rcases (show ti a1 = 0 ∨ ti a1 = 1 ∨ ti a1 = 2 by omega) with z | z | z
    · rw [e2, zel_of z, tn, z]; rfl
    · rw [e2, zel_of z, tn, z]; rfl
    · rw [e2, zel_of z, tn, z]; rfl
  have hS : isZ j2 := by unfold isZ; omega
  refine ⟨isZ_st hS, s_X8_copyFrom hS (Or.inl rfl) (by unfold isZ at hS; omega) (fun i j hi h => h.elim) I (fun σ3 I3 h3 => ⟨vin (by omega), fun σ5 e5 => ?_⟩)⟩
  have hv : vp_nar .boolean (1 : Int32) = 1 := by decide
  rw [hv] at e5
  refine hP (by omega) σ3 σ5 ?_ (by rw [← f2]; exact h3) e5
  rw [e5]
  exact wIr (a := 0) (b := 1) I3 (fun h => h.elim) (rl0 rk_170) kd_170 rfl rfl (by rw [lit_1]; decide)
theorem f_X9_again (a1 : Int32) {σ : zSto} (I : zInv zA0 zF0 3 σ) {P : Int32 → zSto → Prop} (h0 : ¬ (0 ≤ ti a1 ∧ ti a1 ≤ 2 ∧ σ.1 170 a1.toNatClampNeg ≠ 0) → P 0 σ) (hP : (0 ≤ ti a1 ∧ ti a1 ≤ 2 ∧ σ.1 170 a1.toNatClampNeg ≠ 0) → ∀ σ2, zInv zA0 zF0 3 σ2 → cpM 42 1 (44 + 42 * a1.toNatClampNeg) mskS σ σ2 → P 1 σ2) : w_X9_again a1 σ P := by
  unfold w_X9_again
  have l0 := lit_0
  have l3 := lit_3
  have tn := tn_eq a1
  refine ⟨fun q => h0 (by have := lt_t q; omega), fun q => ⟨fun q2 => h0 (by have := le_t q2; omega), fun q2 => ?_⟩⟩
  have c1 := nlt_t q
  have c2 := nle_t q2
  refine ⟨vin (by omega), fun q3 => ⟨vin (by omega), ?_⟩, fun q3 => h0 (fun h => h.2.2 q3)⟩
  intro j3 e3
  have f3 : j3 = 44 + 42 * a1.toNatClampNeg := by
    rcases (show ti a1 = 0 ∨ ti a1 = 1 ∨ ti a1 = 2 by omega) with z | z | z
    · rw [e3, zel_of z, tn, z]; rfl
    · rw [e3, zel_of z, tn, z]; rfl
    · rw [e3, zel_of z, tn, z]; rfl
  have hS : isZ j3 := by unfold isZ; omega
  exact ⟨isZ_st hS, s_X8_copyFrom (Or.inl rfl) hS (by unfold isZ at hS; omega) (fun i j hi h => h.elim) I (fun σ3 I3 h3 => hP ⟨by omega, by omega, q3⟩ σ3 I3 (by rw [← f3]; exact h3))⟩
theorem f_X10_image (a1 : Int32) {σ : zSto} (I : zInv zA0 zF0 3 σ) {P : Int32 → zSto → Prop} (h0 : ¬ (0 ≤ ti a1 ∧ ti a1 ≤ 2) → ∀ σ2, zInv zA0 zF0 3 σ2 → (∀ k j, k ≠ 223 → σ2.1 k j = σ.1 k j) → P 0 σ2) (hP : (0 ≤ ti a1 ∧ ti a1 ≤ 2) → ∀ σ1 σ4 σ2, (∀ k j, k ≠ 223 → σ1.1 k j = σ.1 k j) → cpa 0 (a1.toNatClampNeg + 1) σ1 σ4 → σ2 = zI σ4 249 a1.toNatClampNeg 1 → zInv zA0 zF0 3 σ2 → P 1 σ2) : w_X10_image a1 σ P := by
  unfold w_X10_image
  have l0 := lit_0
  have l1 := lit_1
  have l2 := lit_2
  have tn := tn_eq a1
  intro σ1 e1
  have I1 : zInv zA0 zF0 3 σ1 := by rw [e1]; exact wIr I (fun h => h.elim) (by decide) kd_223 rfl rfl (full32 _)
  refine b_X10_in a1 (0 : Int32) (2 : Int32) (fun r z => ?_)
  intro b
  refine ⟨fun q => ?_, fun q => h0 (fun hh => z.mpr (by omega) q) σ1 I1 (fun k j hk => zI_q' e1 (Or.inl hk))⟩
  have hz := z.mp q
  have ta := tadd (x := a1) (y := (1 : Int32)) (by omega)
  refine f_copyAll 0 (a1.toNatClampNeg + 1) (by decide) (by omega) (by omega) (0 : Int32) _ l0 (by omega) (fun j => rdr I1 kd_224 rfl rfl) (fun σ4 h4 => ⟨vin (by omega), fun σ6 e6 => ?_⟩)
  have I4 : zInv zA0 zF0 3 σ4 := inv_cpa (fun q' j c1 c2 c3 h => h.elim) I1 (by decide) (by omega) h4
  have hv : vp_nar .boolean (1 : Int32) = 1 := by decide
  rw [hv] at e6
  exact hP (by omega) σ1 σ4 σ6 (fun k j hk => zI_q' e1 (Or.inl hk)) h4 e6 (by rw [e6]; exact wIr (a := 0) (b := 1) I4 (fun h => h.elim) (rl0 rk_249) kd_249 rfl rfl (by omega))
theorem f_X10_again (a1 : Int32) {σ : zSto} (I : zInv zA0 zF0 3 σ) {P : Int32 → zSto → Prop} (h0 : ¬ (0 ≤ ti a1 ∧ ti a1 ≤ 2 ∧ σ.1 249 a1.toNatClampNeg ≠ 0) → ∀ σ2, zInv zA0 zF0 3 σ2 → (∀ k j, k ≠ 223 → σ2.1 k j = σ.1 k j) → P 0 σ2) (hP : (0 ≤ ti a1 ∧ ti a1 ≤ 2 ∧ σ.1 249 a1.toNatClampNeg ≠ 0) → ∀ σ1 σ2, (∀ k j, k ≠ 223 → σ1.1 k j = σ.1 k j) → cpa (a1.toNatClampNeg + 1) 0 σ1 σ2 → zInv zA0 zF0 3 σ2 → P 1 σ2) : w_X10_again a1 σ P := by
  unfold w_X10_again
  have l0 := lit_0
  have l1 := lit_1
  have l2 := lit_2
  have tn := tn_eq a1
  intro σ1 e1
  have I1 : zInv zA0 zF0 3 σ1 := by rw [e1]; exact wIr I (fun h => h.elim) (by decide) kd_223 rfl rfl (full32 _)
  have g1 : ∀ k j, k ≠ 223 → σ1.1 k j = σ.1 k j := fun k j hk => zI_q' e1 (Or.inl hk)
  refine b_X10_in a1 (0 : Int32) (2 : Int32) (fun r z => ?_)
  intro b
  refine ⟨fun q => h0 (fun hh => z.mpr (by omega) q) σ1 I1 g1, fun q => ?_⟩
  have hz := z.mp q
  have ta := tadd (x := a1) (y := (1 : Int32)) (by omega)
  refine ⟨vin (by omega), fun q2 => ?_, fun q2 => h0 (fun hh => hh.2.2 (by rw [← g1 249 _ (by decide)]; exact q2)) σ1 I1 g1⟩
  refine f_copyAll (a1.toNatClampNeg + 1) 0 (by omega) (by decide) (by omega) _ (0 : Int32) (by omega) l0 (fun j => rdr I1 kd_224 rfl rfl) (fun σ4 h4 => ?_)
  have I4 : zInv zA0 zF0 3 σ4 := inv_cpa (fun q' j c1 c2 c3 h => h.elim) I1 (by omega) (by decide) h4
  exact hP ⟨by omega, by omega, by rw [← g1 249 _ (by decide)]; exact q2⟩ σ1 σ4 g1 h4 I4
set_option maxHeartbeats 4000000 in
theorem m_image {σ : zSto} (H : Lz σ) (a : Int32) {P : Int32 → zSto → Prop} (hP : ∀ r σa, (∀ Q : Int32 → zSto → Prop, (∀ σ2, Lz σ2 → Q r σ2) → w_X10_image a σa Q) → P r σa) : w_X9_image a σ P := by
  obtain ⟨I, q1, q2, q3⟩ := id H
  have d5 := l600' I kd_1
  have tn := tn_eq a
  refine f_X9_image a I (fun h => ?_) (fun h σ3 σa Ia cp ea => ?_)
  · refine hP _ _ (fun Q hQ => f_X10_image a I (fun _ σb Ib ub => hQ σb (Lz_of H Ib (fun k j hk => ub k j (by omega)))) (fun h' => absurd h' h))
  · obtain ⟨t, ht⟩ : ∃ t, t = a.toNatClampNeg := ⟨_, rfl⟩
    have t3 : t < 3 := by omega
    rw [← ht] at cp ea
    have ua : ∀ q j, (q < 44 + 42 * t ∨ 44 + 42 * t + 42 ≤ q) → ¬ (q = 170 ∧ j = t) → σa.1 q j = σ.1 q j := fun q j x y => by rw [zI_q' ea (by omega)]; exact cp_out cp (by omega) j
    refine hP _ _ (fun Q hQ => f_X10_image a Ia (fun h' => absurd h h') (fun _ σ1 σ4 σb u1 c4 eb Ib => ?_))
    rw [← ht] at c4 eb
    have ub : ∀ q j, q ≠ 223 → (q < 224 ∨ 231 < q) → ¬ (q = 249 ∧ j = t) → σb.1 q j = σa.1 q j := fun q j x y w => by rw [zI_q' eb (by omega), cpa_o c4 y j, u1 q j x]
    have b4 : ∀ q j, 224 ≤ q → q ≤ 231 → σb.1 q j = σ4.1 q j := fun q j x y => zI_q' eb (by omega)
    have a1' : ∀ q j, 224 ≤ q → q ≤ 231 → σ1.1 q j = σ.1 q j := fun q j x y => by rw [u1 q j (by omega), ua q j (by omega) (by omega)]
    have i0 : ∀ i, i ≠ t + 1 → ImR i i σ σb := fun i hi q j x1 x2 x3 => by rw [b4 q _ x1 x2, cpa_n c4 hi x3, a1' q _ x1 x2]
    have it : ImR 0 (t + 1) σ σb := fun q j x1 x2 x3 => by rw [b4 q _ x1 x2, cpa_t c4 ⟨x1, x2⟩ x3, a1' q _ x1 x2]
    have fb : ∀ q j, q < 171 → (q < 44 + 42 * t ∨ 44 + 42 * t + 42 ≤ q) → ¬ (q = 170 ∧ j = t) → σb.1 q j = σ.1 q j := fun q j x y w => by rw [ub q j (by omega) (by omega) (by omega), ua q j y w]
    refine hQ σb ⟨Ib, LX_ir q1 d5.2 (fun k j x y => fb k j (by omega) (by omega) (by omega)) (i0 0 (by omega)), fun k hk z => ?_, fun k hk => ?_⟩
    · by_cases c : k = t
      · subst c
        exact LX_ic q1 d5.2 cp (fun q j x y => by rw [ub q j (by omega) (by omega) (by omega), zI_q' ea (by omega)]) it
      · exact LX_ir (q2 k hk (by rw [← fb 170 k (by omega) (by omega) (by omega)]; exact z)) (l600' I (kd_st hk)).2 (fun q j x y => fb q j (by omega) (by omega) (by omega)) (i0 (k + 1) (by omega))
    · by_cases c : k = t
      · subst c
        rw [ub 170 k (by omega) (by omega) (by omega), ea, zI_s, eb, zI_s]
      · rw [fb 170 k (by omega) (by omega) (by omega), zI_q' eb (by omega), cpa_o c4 (by omega), u1 249 k (by omega), ua 249 k (by omega) (by omega)]
        exact q3 k hk
set_option maxHeartbeats 4000000 in
theorem m_again {σ : zSto} (H : Lz σ) (a : Int32) {P : Int32 → zSto → Prop} (hP : ∀ r σa, (∀ Q : Int32 → zSto → Prop, (∀ σ2, Lz σ2 → Q r σ2) → w_X10_again a σa Q) → P r σa) : w_X9_again a σ P := by
  obtain ⟨I, q1, q2, q3⟩ := id H
  have tn := tn_eq a
  refine f_X9_again a I (fun h => ?_) (fun h σa Ia cp => ?_)
  · refine hP _ _ (fun Q hQ => f_X10_again a I (fun _ σb Ib ub => hQ σb (Lz_of H Ib (fun k j hk => ub k j (by omega)))) (fun h' => absurd ⟨h'.1, h'.2.1, fun z => h'.2.2 ((q3 _ (by omega)).mp z)⟩ h))
  · obtain ⟨t, ht⟩ : ∃ t, t = a.toNatClampNeg := ⟨_, rfl⟩
    have t3 : t < 3 := by omega
    rw [← ht] at cp h
    have ua : ∀ q j, (q < 1 ∨ 43 ≤ q) → σa.1 q j = σ.1 q j := fun q j x => cp_out cp (by omega) j
    refine hP _ _ (fun Q hQ => f_X10_again a Ia (fun h' => absurd ⟨h.1, h.2.1, fun z => h.2.2 ((q3 t t3).mpr (by rw [← ua 249 t (by omega), ht]; exact z))⟩ h') (fun _ σ1 σb u1 c4 Ib => ?_))
    rw [← ht] at c4
    have ub : ∀ q j, q ≠ 223 → (q < 224 ∨ 231 < q) → σb.1 q j = σa.1 q j := fun q j x y => by rw [cpa_o c4 y j, u1 q j x]
    have a1' : ∀ q j, 224 ≤ q → q ≤ 231 → σ1.1 q j = σ.1 q j := fun q j x y => by rw [u1 q j (by omega), ua q j (by omega)]
    have i0 : ∀ i, i ≠ 0 → ImR i i σ σb := fun i hi q j x1 x2 x3 => by rw [cpa_n c4 hi x3, a1' q _ x1 x2]
    have it : ImR (t + 1) 0 σ σb := fun q j x1 x2 x3 => by rw [cpa_t c4 ⟨x1, x2⟩ x3, a1' q _ x1 x2]
    have fb : ∀ q j, (43 ≤ q ∧ q < 171) ∨ q = 249 → σb.1 q j = σ.1 q j := fun q j x => by rw [ub q j (by omega) (by omega), ua q j (by omega)]
    refine hQ σb ⟨Ib, LX_ic (q2 t t3 h.2.2) (l600' I (kd_st t3)).2 cp (fun q j x y => ub q j (by omega) (by omega)) it, fun k hk z => LX_ir (q2 k hk (by rw [← fb 170 k (by omega)]; exact z)) (l600' I (kd_st hk)).2 (fun q j x y => fb q j (by omega)) (i0 (k + 1) (by omega)), fun k hk => ?_⟩
    rw [fb 170 k (by omega), fb 249 k (by omega)]
    exact q3 k hk
