/-! text on both sides: what it answers, FAULT, place, how many -/
/-- o: the sort; a: where (-1: a new one); c: how many there are; st: how the reading begins -/
def tOk (o a c : Int) : Prop := 0 ≤ o ∧ o ≤ 2 ∧ (a = -1 → c < 2) ∧ (a ≠ -1 → 0 ≤ a ∧ a < c)
def TX (o a c : Int) (fin : Nat → Int) (r f p c2 : Int) : Prop :=
  (¬ tOk o a c → r = -2 ∧ f = 0 ∧ p = -1 ∧ c2 = c) ∧ (tOk o a c → f = fin 200 ∧ p = fin 201 ∧ (fin 200 ≠ 0 → r = -1 ∧ c2 = c) ∧ (fin 200 = 0 → r = (if a = -1 then c else a) ∧ c2 = (if a = -1 then c + 1 else c)))
theorem TX_eq {o a c r f p c2 r' f' p' c2' : Int} {fin fin' : Nat → Int} (h : TX o a c fin r f p c2) (h' : TX o a c fin' r' f' p' c2') (e0 : fin 200 = fin' 200) (e1 : fin 201 = fin' 201) : r = r' ∧ f = f' ∧ p = p' ∧ c2 = c2' := by
  by_cases k : tOk o a c
  · obtain ⟨a1, a2, a3, a4⟩ := h.2 k
    obtain ⟨b1, b2, b3, b4⟩ := h'.2 k
    by_cases z : fin 200 = 0
    · have x := a4 z
      have y := b4 (by omega)
      exact ⟨x.1.trans y.1.symm, by omega, by omega, x.2.trans y.2.symm⟩
    · have x := a3 z
      have y := b3 (by omega)
      exact ⟨by omega, by omega, by omega, by omega⟩
  · have x := h.1 k
    have y := h'.1 k
    exact ⟨by omega, by omega, by omega, by omega⟩
/-! what is told, on both sides, by slots: of the sort o (0, 1, 2) the l-th, slot s -/
def wdo (o : Nat) : Nat := if o = 0 then 123 else if o = 1 then 33 else 21
noncomputable def cv (σ : zSto) (S o l s : Nat) : Int := if o = 0 then ti (σ.1 (S + 3 + 12 * l + (cK s - 172)) (cJ s)) else if o = 1 then ti (σ.1 (S + 28 + 3 * l + (cK (300 + s) - 184)) (cJ (300 + s))) else ti (σ.1 (S + 35 + 3 * l + (cK (300 + s) - 184)) (cJ (300 + s)))
noncomputable def rv (σ : zSto) (i o l s : Nat) : Int := if o = 0 then ti (σ.1 229 (246 * i + 123 * l + s)) else if o = 1 then ti (σ.1 230 (66 * i + 33 * l + s)) else ti (σ.1 231 (42 * i + 21 * l + s))
def fnS (o : Nat) (fin : Nat → Int) (s : Nat) : Int := if o = 0 then fin s else fin (300 + s)
noncomputable def rdS (σ : zSto) (o s : Nat) : Int := if o = 0 then ti (σ.1 (cK s) (cJ s)) else ti (σ.1 (cK (300 + s)) (cJ (300 + s)))
def TK (o a c : Int) (fin : Nat → Int) (r : Int) (V V' : Nat → Nat → Nat → Int) : Prop := ∀ (o' l s : Nat), o' < 3 → l < 2 → s < wdo o' → ((tOk o a c ∧ fin 200 = 0 ∧ (o' : Int) = o ∧ (l : Int) = r) → V' o' l s = fnS o' fin s) ∧ (¬ (tOk o a c ∧ fin 200 = 0 ∧ (o' : Int) = o ∧ (l : Int) = r) → V' o' l s = V o' l s)
theorem if_cg {p q : Prop} {dp : Decidable p} {dq : Decidable q} (h : p ↔ q) (a b : Int) : @ite _ p dp a b = @ite _ q dq a b := by
  by_cases c : p
  · rw [if_pos c, if_pos (h.mp c)]
  · rw [if_neg c, if_neg (fun z => c (h.mpr z))]
theorem cK_L' : ∀ s : Fin 123, 172 ≤ cK s.val ∧ cK s.val < 184 ∧ mskL (cK s.val - 172) (cJ s.val) = true := by decide +kernel
theorem cK_L {s : Nat} (h : s < 123) : 172 ≤ cK s ∧ cK s < 184 ∧ mskL (cK s - 172) (cJ s) = true := cK_L' ⟨s, h⟩
theorem cK_P' : ∀ s : Fin 33, 184 ≤ cK (300 + s.val) ∧ cK (300 + s.val) < 187 ∧ mskP (cK (300 + s.val) - 184) (cJ (300 + s.val)) = true := by decide +kernel
theorem cK_P {s : Nat} (h : s < 33) : 184 ≤ cK (300 + s) ∧ cK (300 + s) < 187 ∧ mskP (cK (300 + s) - 184) (cJ (300 + s)) = true := cK_P' ⟨s, h⟩
theorem wdo_33 {o s : Nat} (h : o ≠ 0) (hs : s < wdo o) : s < 33 := by
  unfold wdo at hs
  rw [if_neg h] at hs
  split at hs
  · exact hs
  · omega
theorem cv_q {σ σ2 : zSto} {S o l s : Nat} (hl : l < 2) (hs : s < wdo o) (h : ∀ k j, S + 3 ≤ k → k < S + 41 → σ2.1 k j = σ.1 k j) : cv σ2 S o l s = cv σ S o l s := by
  unfold cv
  by_cases c : o = 0
  · subst c
    have q := cK_L (s := s) hs
    rw [if_pos rfl, if_pos rfl, h _ _ (by omega) (by omega)]
  · have q := cK_P (s := s) (wdo_33 c hs)
    rw [if_neg c, if_neg c]
    by_cases c1 : o = 1
    · rw [if_pos c1, if_pos c1, h _ _ (by omega) (by omega)]
    · rw [if_neg c1, if_neg c1, h _ _ (by omega) (by omega)]
theorem cv_L {σ σ2 : zSto} {k : Nat} (hk : k < 2) (h : cpM 12 (4 + 12 * k) 172 mskL σ σ2) {o l s : Nat} (hl : l < 2) (hs : s < wdo o) : cv σ2 1 o l s = if o = 0 ∧ l = k then rdS σ 0 s else cv σ 1 o l s := by
  by_cases c : o = 0 ∧ l = k
  · rw [if_pos c]
    obtain ⟨c1, c2⟩ := c
    subst c1
    subst c2
    have q := cK_L (s := s) hs
    have e := cp_in h (i := cK s - 172) (by omega) q.2.2
    rw [show 172 + (cK s - 172) = cK s by omega, show 4 + 12 * l + (cK s - 172) = 1 + 3 + 12 * l + (cK s - 172) by omega] at e
    show ti (σ2.1 (1 + 3 + 12 * l + (cK s - 172)) (cJ s)) = ti (σ.1 (cK s) (cJ s))
    rw [e]
  · rw [if_neg c]
    unfold cv
    by_cases c0 : o = 0
    · have c2 : l ≠ k := fun z => c ⟨c0, z⟩
      subst c0
      have q := cK_L (s := s) hs
      rw [if_pos rfl, if_pos rfl, cp_out h (by omega)]
    · have q := cK_P (s := s) (wdo_33 c0 hs)
      rw [if_neg c0, if_neg c0]
      by_cases c1 : o = 1
      · rw [if_pos c1, if_pos c1, cp_out h (by omega)]
      · rw [if_neg c1, if_neg c1, cp_out h (by omega)]
theorem cv_P {σ σ2 : zSto} {o' k : Nat} (ho : o' = 1 ∨ o' = 2) (hk : k < 2) (h : cpM 3 (22 + 7 * o' + 3 * k) 184 mskP σ σ2) {o l s : Nat} (ho3 : o < 3) (hl : l < 2) (hs : s < wdo o) : cv σ2 1 o l s = if o = o' ∧ l = k then rdS σ o' s else cv σ 1 o l s := by
  by_cases c : o = o' ∧ l = k
  · rw [if_pos c]
    obtain ⟨c1, c2⟩ := c
    subst c1
    subst c2
    have q := cK_P (s := s) (wdo_33 (by omega) hs)
    have e := cp_in h (i := cK (300 + s) - 184) (by omega) q.2.2
    rw [show 184 + (cK (300 + s) - 184) = cK (300 + s) by omega] at e
    rcases ho with ho | ho
    · subst ho
      rw [show 22 + 7 * 1 + 3 * l + (cK (300 + s) - 184) = 1 + 28 + 3 * l + (cK (300 + s) - 184) by omega] at e
      show ti (σ2.1 (1 + 28 + 3 * l + (cK (300 + s) - 184)) (cJ (300 + s))) = ti (σ.1 (cK (300 + s)) (cJ (300 + s)))
      rw [e]
    · subst ho
      rw [show 22 + 7 * 2 + 3 * l + (cK (300 + s) - 184) = 1 + 35 + 3 * l + (cK (300 + s) - 184) by omega] at e
      show ti (σ2.1 (1 + 35 + 3 * l + (cK (300 + s) - 184)) (cJ (300 + s))) = ti (σ.1 (cK (300 + s)) (cJ (300 + s)))
      rw [e]
  · rw [if_neg c]
    unfold cv
    by_cases c0 : o = 0
    · subst c0
      have q := cK_L (s := s) hs
      rw [if_pos rfl, if_pos rfl, cp_out h (by omega)]
    · have q := cK_P (s := s) (wdo_33 c0 hs)
      rw [if_neg c0, if_neg c0]
      by_cases c1 : o = 1
      · rw [if_pos c1, if_pos c1, cp_out h (by omega)]
      · rw [if_neg c1, if_neg c1, cp_out h (by omega)]
theorem rv_st {σ σ2 : zSto} {o k : Nat} (ho : o < 3) (hk : k < 2) (h : stR (229 + o) (wdo o * k) (wdo o) σ σ2) {i o' l s : Nat} (ho' : o' < 3) (hl : l < 2) (hs : s < wdo o') : rv σ2 i o' l s = if i = 0 ∧ o' = o ∧ l = k then ti (σ.1 232 s) else rv σ i o' l s := by
  have h0 : wdo 0 = 123 := rfl
  have h1 : wdo 1 = 33 := rfl
  have h2 : wdo 2 = 21 := rfl
  have g : ∀ q j, σ2.1 q j = if q = 229 + o ∧ wdo o * k ≤ j ∧ j < wdo o * k + wdo o then σ.1 232 (j - wdo o * k) else σ.1 q j := h
  have key : ∀ q j, (q = 229 + o → wdo o * k ≤ j → j < wdo o * k + wdo o → i = 0 ∧ o' = o ∧ l = k ∧ j = wdo o * k + s) → (i = 0 ∧ o' = o ∧ l = k → q = 229 + o ∧ j = wdo o * k + s) → ti (σ2.1 q j) = if i = 0 ∧ o' = o ∧ l = k then ti (σ.1 232 s) else ti (σ.1 q j) := by
    intro q j a b
    rw [g q j]
    by_cases c : i = 0 ∧ o' = o ∧ l = k
    · obtain ⟨b1, b2⟩ := b c
      have hs' : s < wdo o := by rw [← c.2.1]; exact hs
      rw [if_pos c, if_pos ⟨b1, by omega, by omega⟩, show j - wdo o * k = s by omega]
    · rw [if_neg c, if_neg (fun z => c (by have := a z.1 z.2.1 z.2.2; exact ⟨this.1, this.2.1, this.2.2.1⟩))]
  rcases (show o = 0 ∨ o = 1 ∨ o = 2 by omega) with e | e | e <;> subst e <;> rcases (show o' = 0 ∨ o' = 1 ∨ o' = 2 by omega) with e | e | e <;> subst e
  · rw [h0] at key
    rw [h0] at hs
    exact key 229 (246 * i + 123 * l + s) (fun z1 z2 z3 => by omega) (fun z => by omega)
  · rw [h0] at key
    rw [h1] at hs
    exact key 230 (66 * i + 33 * l + s) (fun z1 z2 z3 => by omega) (fun z => by omega)
  · rw [h0] at key
    rw [h2] at hs
    exact key 231 (42 * i + 21 * l + s) (fun z1 z2 z3 => by omega) (fun z => by omega)
  · rw [h1] at key
    rw [h0] at hs
    exact key 229 (246 * i + 123 * l + s) (fun z1 z2 z3 => by omega) (fun z => by omega)
  · rw [h1] at key
    rw [h1] at hs
    exact key 230 (66 * i + 33 * l + s) (fun z1 z2 z3 => by omega) (fun z => by omega)
  · rw [h1] at key
    rw [h2] at hs
    exact key 231 (42 * i + 21 * l + s) (fun z1 z2 z3 => by omega) (fun z => by omega)
  · rw [h2] at key
    rw [h0] at hs
    exact key 229 (246 * i + 123 * l + s) (fun z1 z2 z3 => by omega) (fun z => by omega)
  · rw [h2] at key
    rw [h1] at hs
    exact key 230 (66 * i + 33 * l + s) (fun z1 z2 z3 => by omega) (fun z => by omega)
  · rw [h2] at key
    rw [h2] at hs
    exact key 231 (42 * i + 21 * l + s) (fun z1 z2 z3 => by omega) (fun z => by omega)
theorem rv_q {σ σ2 : zSto} {i o l s : Nat} (h : ∀ k j, 229 ≤ k → k ≤ 231 → σ2.1 k j = σ.1 k j) : rv σ2 i o l s = rv σ i o l s := by
  unfold rv
  rw [h 229 _ (by omega) (by omega), h 230 _ (by omega) (by omega), h 231 _ (by omega) (by omega)]
theorem f_X8_put (a1 a2 : Int32) {o : Nat} {σ : zSto} (h1 : ti a1 = (o : Int)) (ho : o ≤ 2) (h2 : 0 ≤ ti a2 ∧ ti a2 ≤ 1) {P : zSto → Prop} (hP : ∀ σ2, (∀ j, σ2.1 1 j = σ.1 1 j) → (∀ j, j ≠ o → σ2.1 42 j = σ.1 42 j) → ti (σ2.1 42 o) = (if ti (σ.1 42 o) < ti a2 + 1 then ti a2 + 1 else ti (σ.1 42 o)) → (∀ (o' l s : Nat), o' < 3 → l < 2 → s < wdo o' → cv σ2 1 o' l s = if o' = o ∧ (l : Int) = ti a2 then rdS σ o s else cv σ 1 o' l s) → P σ2) : w_X8_put 1 a1 a2 σ P := by
  unfold w_X8_put
  have l0 := lit_0
  have l1 := lit_1
  have l2 := lit_2
  have t2 := tadd (x := a2) (y := (1 : Int32)) (by omega)
  have tn := tn_eq a1
  have fin : ∀ (v : Int32) (σ5 σ8 : zSto), (∀ k j, (k = 1 ∨ k = 42) → σ5.1 k j = σ.1 k j) → (∀ (o' l s : Nat), o' < 3 → l < 2 → s < wdo o' → cv σ5 1 o' l s = if o' = o ∧ (l : Int) = ti a2 then rdS σ o s else cv σ 1 o' l s) → σ8 = zI σ5 (1 + 41) a1.toNatClampNeg (if (σ5.1 (1 + 41) a1.toNatClampNeg) < (a2 + (1 : Int32)) then (a2 + (1 : Int32)) else (σ5.1 (1 + 41) a1.toNatClampNeg)) → P σ8 := by
    intro v σ5 σ8 h5 hc e8
    rw [show a1.toNatClampNeg = o by omega] at e8
    refine hP σ8 (fun j => by rw [zI_q' e8 (by omega)]; exact h5 1 j (by omega)) (fun j hj => by rw [zI_q' e8 (by omega)]; exact h5 42 j (by omega)) ?_ (fun o' l s x1 x2 x3 => by rw [cv_q x2 x3 (fun k j y1 y2 => zI_q' e8 (by omega))]; exact hc o' l s x1 x2 x3)
    rw [show (42 : Nat) = 1 + 41 from rfl, e8, zI_s]
    have e5 : σ5.1 (1 + 41) o = σ.1 (1 + 41) o := h5 42 o (by omega)
    rw [e5]
    by_cases c : σ.1 (1 + 41) o < a2 + (1 : Int32)
    · have := lt_t c
      rw [if_pos c, if_pos (by omega)]
      omega
    · have := nlt_t c
      rw [if_neg c, if_neg (by omega)]
  unfold w_X9_isSort
  refine ⟨fun q => by have := lt_t q; omega, fun _ => ⟨fun q => by have := lt_t q; omega, fun _ => ?_⟩⟩
  intro _
  refine ⟨fun q => absurd q (by decide), fun _ => ⟨fun q2 => by have := lt_t q2; omega, fun _ => ⟨fun _ => ?_, fun q3 => by have := nlt_t q3; omega⟩⟩⟩
  refine ⟨fun q4 => ⟨fun q5 => ?_, fun q5 => ?_⟩, fun q4 => ?_⟩
  · refine ⟨vin (by omega), ?_⟩
    intro j4 e4
    have hk3 : (ti a2 = 0 ∧ j4 = 36) ∨ (ti a2 = 1 ∧ j4 = 39) := by
      rcases (show ti a2 = 0 ∨ ti a2 = 1 by omega) with z | z
      · left; refine ⟨z, ?_⟩; rw [e4, zel_of z]; rfl
      · right; refine ⟨z, ?_⟩; rw [e4, zel_of z]; rfl
    have hj2 : j4 = 36 ∨ j4 = 39 := by omega
    have hj : isP j4 := by unfold isP; omega
    have hj3 : j4 = 22 + 7 * 2 + 3 * (ti a2).toNat := by
      have := hk3
      omega
    have n5 : ¬ ti a1 = 0 := by have := ne_t q4; omega
    have n6 := ne_t q5
    refine ⟨isP_P hj, f_X2_copyFrom j4 184 (by omega) (fun σ5 h5' => ⟨vin (by omega), vin (by omega), fun σ8 e8 => ?_⟩)⟩
    have h5'' := h5'
    rw [hj3] at h5''
    exact fin 0 σ5 σ8 (fun k j hk => cp_out h5' (by omega) j) (fun o' l s x1 x2 x3 => by rw [cv_P (o' := 2) (k := (ti a2).toNat) (by omega) (by omega) h5'' x1 x2 x3, show o = 2 by omega]; exact if_cg ⟨fun z => by omega, fun z => by omega⟩ _ _) e8
  · refine ⟨vin (by omega), ?_⟩
    intro j4 e4
    have hk3 : (ti a2 = 0 ∧ j4 = 29) ∨ (ti a2 = 1 ∧ j4 = 32) := by
      rcases (show ti a2 = 0 ∨ ti a2 = 1 by omega) with z | z
      · left; refine ⟨z, ?_⟩; rw [e4, zel_of z]; rfl
      · right; refine ⟨z, ?_⟩; rw [e4, zel_of z]; rfl
    have hj2 : j4 = 29 ∨ j4 = 32 := by omega
    have hj : isP j4 := by unfold isP; omega
    have hj3 : j4 = 22 + 7 * 1 + 3 * (ti a2).toNat := by
      have := hk3
      omega
    have n5 : ¬ ti a1 = 0 := by have := ne_t q4; omega
    have n6 := eq_t q5
    refine ⟨isP_P hj, f_X2_copyFrom j4 184 (by omega) (fun σ5 h5' => ⟨vin (by omega), vin (by omega), fun σ8 e8 => ?_⟩)⟩
    have h5'' := h5'
    rw [hj3] at h5''
    exact fin 0 σ5 σ8 (fun k j hk => cp_out h5' (by omega) j) (fun o' l s x1 x2 x3 => by rw [cv_P (o' := 1) (k := (ti a2).toNat) (by omega) (by omega) h5'' x1 x2 x3, show o = 1 by omega]; exact if_cg ⟨fun z => by omega, fun z => by omega⟩ _ _) e8
  · refine ⟨vin (by omega), ?_⟩
    intro j16 e16
    have hk3 : (ti a2 = 0 ∧ j16 = 4) ∨ (ti a2 = 1 ∧ j16 = 16) := by
      rcases (show ti a2 = 0 ∨ ti a2 = 1 by omega) with z | z
      · left; refine ⟨z, ?_⟩; rw [e16, zel_of z]; rfl
      · right; refine ⟨z, ?_⟩; rw [e16, zel_of z]; rfl
    have hj2 : j16 = 4 ∨ j16 = 16 := by omega
    have hj3 : j16 = 4 + 12 * (ti a2).toNat := by omega
    have n5 := eq_t q4
    have hN : isN j16 := by unfold isN; omega
    refine ⟨isT_L (isN_T hN), f_X0_copyFrom j16 172 (by omega) (fun σ5 h5' => ⟨vin (by omega), vin (by omega), fun σ8 e8 => ?_⟩)⟩
    have h5'' := h5'
    rw [hj3] at h5''
    exact fin 0 σ5 σ8 (fun k j hk => cp_out h5' (by omega) j) (fun o' l s x1 x2 x3 => by rw [cv_L (k := (ti a2).toNat) (by omega) h5'' x2 x3, show o = 0 by omega]; exact if_cg ⟨fun z => by omega, fun z => by omega⟩ _ _) e8
theorem f_X9_placeFor (a1 a2 : Int32) {σ : zSto} (d : ∀ j, 0 ≤ ti (σ.1 42 j) ∧ ti (σ.1 42 j) ≤ 2) {P : Int32 → zSto → Prop} (hP : ∀ r, (¬ tOk (ti a1) (ti a2) (ti (σ.1 42 (ti a1).toNat)) → ti r = -2) → (tOk (ti a1) (ti a2) (ti (σ.1 42 (ti a1).toNat)) → ti r = (if ti a2 = -1 then ti (σ.1 42 (ti a1).toNat) else ti a2) ∧ 0 ≤ ti r ∧ ti r ≤ 1) → P r σ) : w_X9_placeFor a1 a2 σ P := by
  have l0 := lit_0
  have l2 := lit_2
  have lm := lit_m1
  have lm2 := lit_m2
  have tn := tn_eq a1
  unfold w_X9_placeFor w_X8_howMany w_X9_isSort
  refine ⟨fun q => fun _ => ⟨fun c => absurd rfl c, fun _ => hP _ (fun _ => lm2) (fun k => ?_)⟩, fun q => ⟨fun q2 => fun _ => ⟨fun c => absurd rfl c, fun _ => hP _ (fun _ => lm2) (fun k => ?_)⟩, fun q2 => fun _ => ⟨fun _ => ?_, fun c => absurd c (by decide)⟩⟩⟩
  · have := lt_t q; have := k.1; omega
  · have := lt_t q2; have := k.2.1; omega
  · have c1 := nlt_t q
    have c2 := nlt_t q2
    refine ⟨fun z => absurd z q, fun _ => ⟨fun z => absurd z q2, fun _ => fun _ => ⟨fun c => absurd c (by decide), fun _ => ⟨vin (by omega), ?_⟩⟩⟩⟩
    rw [show a1.toNatClampNeg = (ti a1).toNat from tn]
    have dd := d (ti a1).toNat
    refine ⟨fun z => ⟨fun z2 => hP _ (fun _ => lm2) (fun k => ?_), fun z2 => ⟨fun z3 => hP _ (fun _ => lm2) (fun k => ?_), fun z3 => hP _ (fun k => ?_) (fun k => ?_)⟩⟩, fun z => ⟨fun z2 => hP _ (fun _ => lm2) (fun k => ?_), fun z2 => hP _ (fun k => ?_) (fun k => ?_)⟩⟩
    · have := lt_t z2; have := k.2.2.2 (by have := ne_t z; omega); omega
    · have x : ti (σ.1 42 (ti a1).toNat) ≤ ti a2 := le_t z3
      have := k.2.2.2 (by have := ne_t z; omega)
      omega
    · have x : ti a2 < ti (σ.1 42 (ti a1).toNat) := nle_t z3
      have := nlt_t z2
      exact absurd ⟨by omega, by omega, fun y => by have := ne_t z; omega, fun y => by omega⟩ k
    · have x : ti a2 < ti (σ.1 42 (ti a1).toNat) := nle_t z3
      have := nlt_t z2
      rw [if_neg (by have := ne_t z; omega)]
      omega
    · have x : (2 : Int) ≤ ti (σ.1 42 (ti a1).toNat) := by have y : ti (2 : Int32) ≤ ti (σ.1 42 (ti a1).toNat) := le_t z2; omega
      have := k.2.2.1 (by have := eq_t z; omega)
      omega
    · have x : ti (σ.1 42 (ti a1).toNat) < 2 := by have y : ti (σ.1 42 (ti a1).toNat) < ti (2 : Int32) := nle_t z2; omega
      exact absurd ⟨by omega, by omega, fun y => x, fun y => by have := eq_t z; omega⟩ k
    · have x : ti (σ.1 42 (ti a1).toNat) < 2 := by have y : ti (σ.1 42 (ti a1).toNat) < ti (2 : Int32) := nle_t z2; omega
      rw [if_pos (by have := eq_t z; omega)]
      exact ⟨rfl, dd.1, show ti (σ.1 42 (ti a1).toNat) ≤ 1 by omega⟩
