/-- the class's text, FAULT and how many -/
theorem f_X9_text (a1 a2 : Int32) {B : Nat → Int} {n : Nat} {σ : zSto} (I : zInv zA0 zF0 3 σ) (hn : ti (σ.1 1 5) = (n : Int)) (hB : ∀ j, j < n → ti (σ.1 2 j) = B j) {P : Int32 → zSto → Prop} (hP : ∀ r σ2 st, Ini st → TX (ti a1) (ti a2) (ti (σ.1 42 (ti a1).toNat)) (FN (ti a1) n (RD (ti a1) B n 601 0 st)) (ti r) (ti (σ2.1 1 6)) (ti (σ2.1 1 7)) (ti (σ2.1 42 (ti a1).toNat)) → (∀ j, j ≠ (ti a1).toNat → σ2.1 42 j = σ.1 42 j) → TK (ti a1) (ti a2) (ti (σ.1 42 (ti a1).toNat)) (FN (ti a1) n (RD (ti a1) B n 601 0 st)) (ti r) (cv σ 1) (cv σ2 1) → P r σ2) : w_X9_text a1 a2 σ P := by
  have l0 := lit_0
  have lm := lit_m1
  have lm2 := lit_m2
  have d5 : 0 ≤ ti (σ.1 1 5) ∧ ti (σ.1 1 5) ≤ 600 := rdg I.1 kd_1 rfl rfl
  unfold w_X9_text
  intro x1 e1
  have t1 := eq_t e1
  refine f_X9_placeFor a1 a2 (fun j => rdg I.1 kd_42 rfl rfl) (fun r3 z1 z2 => ?_)
  intro σ4 e4 σ5 e5 σ6 e6
  have fr : ∀ k j, k ≠ 1 → σ6.1 k j = σ.1 k j := fun k j h => by rw [zI_q' e6 (by omega), zI_q' e5 (by omega), zI_q' e4 (by omega)]
  have v6 : ti (σ6.1 1 6) = 0 := by rw [zI_q' e6 (by omega), e5, zI_s]; exact l0
  have v7 : ti (σ6.1 1 7) = -1 := by rw [e6, zI_s]; exact lm
  refine ⟨fun q => ?_, fun q => ?_⟩
  · have k : tOk (ti a1) (ti a2) (ti (σ.1 42 (ti a1).toNat)) := by
      refine Classical.byContradiction (fun c => ?_)
      have := z1 c
      have := ne_t q
      omega
    obtain ⟨r1, r2, r3'⟩ := z2 k
    have I4 : zInv zA0 zF0 3 σ4 := by rw [e4]; exact wIr (a := 0) (b := 600) I (fun h => h.elim) (rl0 rk_1) kd_1 rfl rfl (by omega)
    have I5 : zInv zA0 zF0 3 σ5 := by rw [e5]; exact wIr I4 (fun h => h.elim) (rl0 rk_1) kd_1 rfl rfl (full32 _)
    have I6 : zInv zA0 zF0 3 σ6 := by rw [e6]; exact wIr I5 (fun h => h.elim) (rl0 rk_1) kd_1 rfl rfl (full32 _)
    refine cj_X4_readTape (P := fun σ2 => zInv BN σ6.1 3 σ2) (Q := fun σ2 => ∃ st, Ini st ∧ CR (FN (ti a1) n (RD (ti a1) B n 601 0 st)) σ2) (fun σ7 p7 q7 => ?_) (s_X4_readTape (A := BN) (F := σ6.1) (fun k j a q => by unfold BN at a; omega) x1 a1 (by omega) (inv_any I6) (fun σ2 I2 _ => I2)) (f_X4_readTape x1 a1 (by omega) (by omega) I6.1 (fun j hj => by rw [fr 2 j (by omega)]; exact hB j hj) (fun σ2 st hi hc => ⟨st, hi, hc⟩))
    obtain ⟨st, hi, hc⟩ := q7
    have c200 : ti (σ7.1 171 11) = FN (ti a1) n (RD (ti a1) B n 601 0 st) 200 := hc 200 (by unfold sD; omega)
    have c201 : ti (σ7.1 171 12) = FN (ti a1) n (RD (ti a1) B n 601 0 st) 201 := hc 201 (by unfold sD; omega)
    have g7 : ∀ k j, k < 171 → σ7.1 k j = σ6.1 k j := fun k j h => p7.2.1 k j h
    intro σ8 e8 σ9 e9
    have w6 : ti (σ9.1 1 6) = FN (ti a1) n (RD (ti a1) B n 601 0 st) 200 := by rw [zI_q' e9 (by omega), e8, zI_s]; exact c200
    have w7 : ti (σ9.1 1 7) = FN (ti a1) n (RD (ti a1) B n 601 0 st) 201 := by rw [e9, zI_s, zI_q' e8 (by omega)]; exact c201
    have g9 : ∀ k j, k ≠ 1 → σ9.1 k j = σ7.1 k j := fun k j h => by rw [zI_q' e9 (by omega), zI_q' e8 (by omega)]
    have c42 : ∀ j, σ9.1 42 j = σ.1 42 j := fun j => by rw [g9 42 j (by omega), g7 42 j (by omega), fr 42 j (by omega)]
    have rdf : ∀ o' s, o' < 3 → s < wdo o' → rdS σ9 o' s = fnS o' (FN (ti a1) n (RD (ti a1) B n 601 0 st)) s := by
      intro o' s x1 x2
      unfold rdS fnS
      by_cases c : o' = 0
      · subst c
        have q := cK_L (s := s) x2
        rw [if_pos rfl, if_pos rfl, g9 _ _ (by omega)]
        exact hc s (Or.inl x2)
      · have x3 := wdo_33 c x2
        have q := cK_P (s := s) x3
        rw [if_neg c, if_neg c, g9 _ _ (by omega)]
        exact hc (300 + s) (by unfold sD; omega)
    have cv9 : ∀ o' l s, l < 2 → s < wdo o' → cv σ9 1 o' l s = cv σ 1 o' l s := fun o' l s x2 x3 => cv_q x2 x3 (fun k j y1 y2 => by rw [g9 k j (by omega), g7 k j (by omega), fr k j (by omega)])
    rw [g9 171 11 (by omega)]
    refine ⟨fun q2 => ?_, fun q2 => ?_⟩
    · have z : FN (ti a1) n (RD (ti a1) B n 601 0 st) 200 = 0 := by have := eq_t q2; omega
      have ka := k.1
      have kb := k.2.1
      refine f_X8_put (o := (ti a1).toNat) a1 r3 (by omega) (by omega) ⟨r2, r3'⟩ (fun σ10 h1 h2 h3 h4 => hP r3 σ10 st hi ⟨fun c => absurd k c, fun _ => ⟨by rw [h1]; exact w6, by rw [h1]; exact w7, fun c => absurd z c, fun _ => ⟨r1, ?_⟩⟩⟩ (fun j hj => by rw [h2 j hj]; exact c42 j) (fun o' l s x1 x2 x3 => ?_))
      rotate_left
      · rw [h4 o' l s x1 x2 x3]
        refine ⟨fun y => ?_, fun y => ?_⟩
        · have y3 := y.2.2.1
          have y4 := y.2.2.2
          rw [if_pos ⟨by omega, y4⟩, show (ti a1).toNat = o' by omega]
          exact rdf o' s x1 x3
        · rw [if_neg (fun w => y ⟨k, z, by omega, w.2⟩)]
          exact cv9 o' l s x2 x3
      rw [h3, c42]
      by_cases c : ti a2 = -1
      · rw [if_pos c] at r1 ⊢
        rw [if_pos (by omega)]
        omega
      · rw [if_neg c] at r1 ⊢
        have := k.2.2.2 c
        rw [if_neg (by omega)]
    · have z : FN (ti a1) n (RD (ti a1) B n 601 0 st) 200 ≠ 0 := by have := ne_t q2; omega
      exact hP _ σ9 st hi ⟨fun c => absurd k c, fun _ => ⟨w6, w7, fun _ => ⟨lm, by rw [c42]⟩, fun c => absurd c z⟩⟩ (fun j _ => c42 j) (fun o' l s x1 x2 x3 => ⟨fun y => absurd y.2.1 z, fun _ => cv9 o' l s x2 x3⟩)
  · have k : ¬ tOk (ti a1) (ti a2) (ti (σ.1 42 (ti a1).toNat)) := fun c => by
      have := (z2 c).2.1
      have := eq_t q
      omega
    exact hP _ σ6 sI sI_ini ⟨fun _ => ⟨lm2, v6, v7, by rw [fr 42 _ (by omega)]⟩, fun c => absurd c k⟩ (fun j _ => fr 42 j (by omega)) (fun o' l s x1 x2 x3 => ⟨fun y => absurd y.1 k, fun _ => cv_q x2 x3 (fun k j y1 y2 => fr k j (by omega))⟩)
/-- the reference's readText, with what it leaves as it was -/
def AZ : Nat → Nat → Prop := fun k j => k < 223 ∨ k = 224 ∨ k = 225 ∨ (k = 226 ∧ j ≠ 0) ∨ (k = 227 ∧ j ≠ 0) ∨ (228 ≤ k ∧ k ≤ 231) ∨ k = 249
theorem j_readText (a1 : Int32) {o : Nat} (ho : ti a1 = (o : Int)) (ho2 : o ≤ 2) {B : Nat → Int} {n : Nat} {σ : zSto} (I : zInv zA0 zF0 3 σ) (hB : gB σ = B) (hn : ti (σ.1 223 10) = (n : Int)) {P : Int32 → zSto → Prop} (hP : ∀ r σ2, (∀ k j, AZ k j → σ2.1 k j = σ.1 k j) → RE (o : Int) (FN (o : Int) n (RD (o : Int) B n 601 0 sI)) r σ2 → P r σ2) : w_X10_readText a1 σ P :=
  cj_X10_readText (P := fun r σ2 => zInv AZ σ.1 3 σ2) (Q := fun r σ2 => RE (o : Int) (FN (o : Int) n (RD (o : Int) B n 601 0 sI)) r σ2) (fun r σ2 p q => hP r σ2 p.2.1 q) (s_X10_readText (A := AZ) (F := σ.1) o (fun k j a q => by unfold AZ at a; omega) (fun a => by unfold AZ at a; omega) (fun a => by unfold AZ at a; omega) a1 ho ho2 (inv_any I) (fun r σ2 I2 _ => I2)) (f_X10_readText a1 ho (by omega) I.1 hB hn (fun r σ2 h => h))
theorem f_X10_is (a1 a2 : Int32) {o : Nat} {σ : zSto} (h1 : ti a1 = (o : Int)) (ho : o ≤ 2) (d : 0 ≤ ti (σ.1 228 o) ∧ ti (σ.1 228 o) ≤ 2) {P : Int32 → zSto → Prop} (hP : ∀ r, (¬ r = 0 ↔ (0 ≤ ti a2 ∧ ti a2 < ti (σ.1 228 o))) → P r σ) : w_X10_is a1 a2 σ P := by
  have tn := tn_eq a1
  have l0 := lit_0
  have l1 := lit_1
  unfold w_X10_is
  rw [show a1.toNatClampNeg = o by omega]
  have t := tsub (x := σ.1 228 o) (y := (1 : Int32)) (by omega)
  refine ⟨vin (by omega), b_X10_in _ _ _ (fun r hr => fun hb => ⟨hb, hP r ⟨fun h => ?_, fun h => hr.mpr ?_⟩⟩)⟩
  · have := hr.mp h; omega
  · omega
