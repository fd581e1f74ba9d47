/-! tokens go on -/
theorem tkF_ge (B : Nat → Int) (n p : Nat) : p ≤ tkF B n p := adv_ge _ _
theorem tkF_le {B : Nat → Int} {n p : Nat} (h : p ≤ n) : tkF B n p ≤ n := adv_le _ _ h
theorem tkK_0 {B : Nat → Int} {n p : Nat} : tkK B n p = 0 ↔ n ≤ tkF B n p := by
  unfold tkK
  by_cases c : n ≤ tkF B n p
  · rw [if_pos c]; exact ⟨fun _ => c, fun _ => rfl⟩
  · rw [if_neg c]
    refine ⟨fun h => ?_, fun h => absurd h c⟩
    exfalso
    split at h
    · omega
    · split at h
      · split at h <;> omega
      · split at h <;> omega
theorem adv_gt {c : Int → Bool} {B : Nat → Int} {n q : Nat} (h : q < n ∧ c (B q) = true) : q < adv c B n 601 q := by
  rw [adv_go h]
  have := adv_ge (c := c) (B := B) (n := n) 600 (q + 1)
  omega
theorem tkE_gt {B : Nat → Int} {n p : Nat} (h : tkK B n p ≠ 0) : tkF B n p < tkE B n p := by
  have h2 : ¬ n ≤ tkF B n p := fun c => h (tkK_0.mpr c)
  unfold tkE
  rw [if_neg h2]
  split
  · exact adv_gt ⟨by omega, by assumption⟩
  · split
    · exact adv_gt ⟨by omega, by assumption⟩
    · omega
theorem tkE_ge (B : Nat → Int) (n p : Nat) : tkF B n p ≤ tkE B n p := by
  by_cases c : tkK B n p = 0
  · unfold tkE
    rw [if_pos (tkK_0.mp c)]
    exact Nat.le_refl _
  · exact Nat.le_of_lt (tkE_gt c)
theorem tkE_le {B : Nat → Int} {n p : Nat} (h : p ≤ n) : tkE B n p ≤ n := by
  have h1 := tkF_le (B := B) h
  unfold tkE
  split
  · exact h1
  · split
    · exact adv_le _ _ h1
    · split
      · exact adv_le _ _ h1
      · omega
theorem adv_c {c : Int → Bool} {B : Nat → Int} {n : Nat} : ∀ f q j, q ≤ j → j < adv c B n f q → c (B j) = true := by
  intro f
  induction f with
  | zero => intro q j h1 h2; have : adv c B n 0 q = q := rfl; omega
  | succ f ih =>
    intro q j h1 h2
    by_cases g : q < n ∧ c (B q) = true
    · rw [adv_go g] at h2
      by_cases e : j = q
      · subst e; exact g.2
      · exact ih (q + 1) j (by omega) h2
    · rw [adv_no g] at h2; omega
theorem tkK_1 {B : Nat → Int} {n p : Nat} (h : tkK B n p = 1) : tkF B n p < n ∧ tkE B n p = adv cLt B n 601 (tkF B n p) ∧ ∀ j, j < tkE B n p - tkF B n p → 97 ≤ B (tkF B n p + j) ∧ B (tkF B n p + j) ≤ 122 := by
  have h0 : ¬ n ≤ tkF B n p := fun c => by rw [tkK_0.mpr c] at h; omega
  have e : tkE B n p = adv cLt B n 601 (tkF B n p) := by
    unfold tkE
    rw [if_neg h0]
    unfold tkK at h
    rw [if_neg h0] at h
    by_cases c : cLt (B (tkF B n p)) = true
    · rw [if_pos c]
    · rw [if_neg c] at h
      exfalso
      split at h
      · split at h <;> omega
      · split at h <;> omega
  refine ⟨by omega, e, fun j hj => ?_⟩
  have := adv_c (c := cLt) (B := B) (n := n) 601 (tkF B n p) (tkF B n p + j) (by omega) (by omega)
  exact of_decide_eq_true this
/-! the class's reader: its cells by slots -/
def cK (s : Nat) : Nat := if s < 7 then 172 else if s < 87 then 173 + (s - 7) % 5 else if s < 123 then 178 + (s - 87) % 6 else if s < 300 then 171 else if s = 300 then 184 else 185 + (s - 301) % 2
def cJ (s : Nat) : Nat := if s < 7 then 11 + s else if s < 87 then (s - 7) / 5 else if s < 123 then (s - 87) / 6 else if s < 300 then (if s = 200 then 11 else if s = 201 then 12 else 10) else if s = 300 then 2 else (s - 301) / 2
def sD (s : Nat) : Prop := s < 123 ∨ s = 200 ∨ s = 201 ∨ s = 202 ∨ (300 ≤ s ∧ s < 333)
theorem cK_rg (s : Nat) : 171 ≤ cK s ∧ cK s < 187 ∧ (cK s = 171 → 10 ≤ cJ s) := by
  unfold cK cJ
  split
  · omega
  · split
    · omega
    · split
      · omega
      · split
        · split
          · omega
          · split <;> omega
        · split <;> omega
theorem c_inj {s s' : Nat} (h : sD s) (h' : sD s') (e1 : cK s = cK s') (e2 : cJ s = cJ s') : s = s' := by
  unfold sD at h h'
  unfold cK at e1
  unfold cJ at e2
  by_cases a1 : s < 7
  · rw [if_pos a1] at e1 e2
    by_cases b1 : s' < 7
    · rw [if_pos b1] at e1 e2; omega
    · rw [if_neg b1] at e1 e2
      split at e1
      · omega
      · split at e1
        · omega
        · split at e1
          · omega
          · split at e1 <;> omega
  · rw [if_neg a1] at e1 e2
    by_cases a2 : s < 87
    · rw [if_pos a2] at e1 e2
      by_cases b1 : s' < 7
      · rw [if_pos b1] at e1 e2; omega
      · rw [if_neg b1] at e1 e2
        by_cases b2 : s' < 87
        · rw [if_pos b2] at e1 e2; omega
        · rw [if_neg b2] at e1 e2
          split at e1
          · omega
          · split at e1
            · omega
            · split at e1 <;> omega
    · rw [if_neg a2] at e1 e2
      by_cases a3 : s < 123
      · rw [if_pos a3] at e1 e2
        by_cases b1 : s' < 7
        · rw [if_pos b1] at e1 e2; omega
        · rw [if_neg b1] at e1 e2
          by_cases b2 : s' < 87
          · rw [if_pos b2] at e1 e2; omega
          · rw [if_neg b2] at e1 e2
            by_cases b3 : s' < 123
            · rw [if_pos b3] at e1 e2; omega
            · rw [if_neg b3] at e1 e2
              split at e1
              · omega
              · split at e1 <;> omega
      · rw [if_neg a3] at e1 e2
        by_cases b1 : s' < 7
        · rw [if_pos b1] at e1 e2
          split at e1
          · omega
          · split at e1 <;> omega
        · rw [if_neg b1] at e1 e2
          by_cases b2 : s' < 87
          · rw [if_pos b2] at e1 e2
            split at e1
            · omega
            · split at e1 <;> omega
          · rw [if_neg b2] at e1 e2
            by_cases b3 : s' < 123
            · rw [if_pos b3] at e1 e2
              split at e1
              · omega
              · split at e1 <;> omega
            · rw [if_neg b3] at e1 e2
              by_cases a4 : s < 300
              · rw [if_pos a4] at e1 e2
                by_cases b4 : s' < 300
                · rw [if_pos b4] at e1 e2
                  rcases (show s = 200 ∨ s = 201 ∨ s = 202 by omega) with x | x | x <;> rcases (show s' = 200 ∨ s' = 201 ∨ s' = 202 by omega) with y | y | y <;> subst x <;> subst y <;> first | rfl | exact absurd e2 (by decide)
                · rw [if_neg b4] at e1
                  split at e1 <;> omega
              · rw [if_neg a4] at e1 e2
                by_cases b4 : s' < 300
                · rw [if_pos b4] at e1
                  split at e1 <;> omega
                · rw [if_neg b4] at e1 e2
                  by_cases a5 : s = 300
                  · rw [if_pos a5] at e1 e2
                    by_cases b5 : s' = 300
                    · omega
                    · rw [if_neg b5] at e1; omega
                  · rw [if_neg a5] at e1 e2
                    by_cases b5 : s' = 300
                    · rw [if_pos b5] at e1; omega
                    · rw [if_neg b5] at e1 e2; omega
def CR (st : Nat → Int) (σ : zSto) : Prop := ∀ s, sD s → ti (σ.1 (cK s) (cJ s)) = st s
/-- the class's reader: bytes, how many, where it is, the NUMBERS of the row, what is told -/
def CX (B : Nat → Int) (n p : Nat) (v pl : Nat → Int) (m : Nat) (st : Nat → Int) (σ : zSto) : Prop := zRg σ ∧ rB σ = B ∧ ti (σ.1 171 5) = (n : Int) ∧ ti (σ.1 171 6) = (p : Int) ∧ (∀ i, i < m → ti (σ.1 187 i) = v i ∧ ti (σ.1 188 i) = pl i) ∧ CR st σ
theorem CR_w {st : Nat → Int} {σ σ2 : zSto} {k j : Nat} {y : Int32} {x : Int} (h : CR st σ) (e : σ2 = zI σ k j y) (s : Nat) (hs : sD s) (hk : cK s = k) (hj : cJ s = j) (hx : ti y = x) : CR (up st s x) σ2 := by
  intro s' hs'
  by_cases c : s' = s
  · subst c
    rw [e, hk, hj, zI_s, up_s]; exact hx
  · rw [e, zI_q (by
      by_cases c1 : cK s' = k
      · exact Or.inr (fun c2 => c (c_inj hs' hs (c1.trans hk.symm) (c2.trans hj.symm)))
      · exact Or.inl c1), up_q c]
    exact h s' hs'
theorem CX_w {B : Nat → Int} {n p : Nat} {v pl : Nat → Int} {m : Nat} {st : Nat → Int} {σ σ2 : zSto} {k j : Nat} {y : Int32} {x : Int} (h : CX B n p v pl m st σ) (e : σ2 = zI σ k j y) (s : Nat) (hs : sD s) (hk : cK s = k) (hj : cJ s = j) (hx : ti y = x) (hr : zRg σ2) : CX B n p v pl m (up st s x) σ2 := by
  obtain ⟨h1, h2, h3, h4, h5, h6⟩ := h
  have g := cK_rg s
  rw [hk, hj] at g
  refine ⟨hr, ?_, ?_, ?_, fun i hi => ?_, CR_w h6 e s hs hk hj hx⟩
  · rw [← h2]
    funext q
    show ti (σ2.1 189 q) = ti (σ.1 189 q)
    rw [e, zI_q (Or.inl (by omega))]
  · rw [e, zI_q (by omega)]; exact h3
  · rw [e, zI_q (by omega)]; exact h4
  · rw [e, zI_q (Or.inl (by omega)), zI_q (Or.inl (by omega))]; exact h5 i hi
theorem cK_a (k i : Nat) (h : i < 5) (hk : k < 16) : cK (7 + 5 * k + i) = 173 + i ∧ cJ (7 + 5 * k + i) = k := by
  unfold cK cJ
  rw [if_neg (by omega), if_pos (by omega), if_neg (by omega), if_pos (by omega)]
  omega
theorem cK_b (k i : Nat) (h : i < 6) (hk : k < 6) : cK (87 + 6 * k + i) = 178 + i ∧ cJ (87 + 6 * k + i) = k := by
  unfold cK cJ
  rw [if_neg (by omega), if_neg (by omega), if_pos (by omega), if_neg (by omega), if_neg (by omega), if_pos (by omega)]
  omega
theorem cK_c (k i : Nat) (h : i < 2) (hk : k < 16) : cK (301 + 2 * k + i) = 185 + i ∧ cJ (301 + 2 * k + i) = k := by
  unfold cK cJ
  rw [if_neg (by omega), if_neg (by omega), if_neg (by omega), if_neg (by omega), if_neg (by omega), if_neg (by omega), if_neg (by omega), if_neg (by omega), if_neg (by omega), if_neg (by omega)]
  omega
theorem f_X4_note {B : Nat → Int} {n p : Nat} {v pl : Nat → Int} {m : Nat} {st : Nat → Int} {σ : zSto} (a1 a2 : Int32) (h : CX B n p v pl m st σ) {P : zSto → Prop} (hP : ∀ σ2, CX B n p v pl m (nte st (ti a1) (ti a2)) σ2 → P σ2) : w_X4_note a1 a2 σ P := by
  have l0 := lit_0
  have g : ti (σ.1 171 11) = st 200 := h.2.2.2.2.2 200 (by unfold sD; omega)
  unfold w_X4_note
  refine ⟨fun q => hP σ ?_, fun q σ1 e1 σ2 e2 => hP σ2 ?_⟩
  · have c := ne_t q
    unfold nte
    rw [if_neg (by omega)]
    exact h
  · have c := eq_t q
    unfold nte
    rw [if_pos (by omega)]
    have r1 : zRg σ1 := by rw [e1]; exact wIg h.1 kd_171 rfl rfl (full32 _)
    have h1 := CX_w h e1 200 (by unfold sD; omega) rfl rfl rfl r1
    exact CX_w h1 e2 201 (by unfold sD; omega) rfl rfl rfl (by rw [e2]; exact wIg r1 kd_171 rfl rfl (full32 _))
theorem f_X4_number {B : Nat → Int} {n p : Nat} {v pl : Nat → Int} {m : Nat} {st : Nat → Int} {σ : zSto} (i : Nat) (a1 a2 a3 : Int32) (h : CX B n p v pl m st σ) (ha : ti a1 = (i : Int)) (hi : i < m) (hm : m ≤ 6) {P : Int32 → zSto → Prop} (hP : ∀ r σ2, ti r = v i → 0 ≤ v i ∧ v i ≤ 999 → CX B n p v pl m (chk st (v i) (pl i) (ti a2) (ti a3)) σ2 → P r σ2) : w_X4_number a1 a2 a3 σ P := by
  have l0 := lit_0
  have l2 := lit_2
  have l6 := lit_6
  have tn := tn_eq a1
  have en : a1.toNatClampNeg = i := by omega
  obtain ⟨g1, g2⟩ := h.2.2.2.2.1 i hi
  have d : 0 ≤ ti (σ.1 187 i) ∧ ti (σ.1 187 i) ≤ 999 := rdg h.1 kd_187 rfl rfl
  unfold w_X4_number
  rw [en]
  refine ⟨fun q => ?_, fun q => ⟨fun q1 => ⟨vin (by omega), fun q2 => ⟨vin (by omega), ?_⟩, fun q2 => ⟨vin (by omega), fun q3 => ⟨vin (by omega), ?_⟩, fun q3 => ⟨vin (by omega), ?_⟩⟩⟩, fun q1 => ?_⟩⟩
  · have := lt_t q; omega
  · have c := lt_t q2
    refine f_X4_note _ _ h (fun σ3 h3 => ⟨vin (by omega), hP _ σ3 (h3.2.2.2.2.1 i hi).1 (by omega) ?_⟩)
    unfold chk
    rw [if_pos (by omega), ← g2, ← l2]
    exact h3
  · have c := nlt_t q2
    have c3 := le_t q3
    refine hP _ σ g1 (by omega) ?_
    unfold chk
    rw [if_neg (by omega)]
    exact h
  · have c := nle_t q3
    refine f_X4_note _ _ h (fun σ3 h3 => ⟨vin (by omega), hP _ σ3 (h3.2.2.2.2.1 i hi).1 (by omega) ?_⟩)
    unfold chk
    rw [if_pos (by omega), ← g2, ← l2]
    exact h3
  · have := nlt_t q1; omega
