/-! ranges -/
def rg (a b : Int) (x : Int32) : Prop := a ≤ x.toInt ∧ x.toInt ≤ b
theorem rg_w {a b c d : Int} {x : Int32} (h : rg a b x) (q : c ≤ a ∧ b ≤ d) : rg c d x := ⟨Int.le_trans q.1 h.1, Int.le_trans h.2 q.2⟩
theorem rg_full (x : Int32) : rg (-2147483648) 2147483647 x := by
  have h1 := Int32.le_toInt x
  have h2 := Int32.toInt_lt x
  exact ⟨by omega, by omega⟩
theorem rg_and2 {a b c d : Int} {x : Int32} (h : rg a b x) (h2 : rg c d x) : rg (max a c) (min b d) x := ⟨by have := h.1; have := h2.1; omega, by have := h.2; have := h2.2; omega⟩
theorem rg_add {a b c d : Int} {x y : Int32} (h : rg a b x) (k : rg c d y) (q : -2147483648 ≤ a + c ∧ b + d ≤ 2147483647) : rg (a + c) (b + d) (x + y) := by
  obtain ⟨h1, h2⟩ := h
  obtain ⟨k1, k2⟩ := k
  have e : (x + y).toInt = x.toInt + y.toInt := by rw [Int32.toInt_add]; exact Int.bmod_eq_of_le (by omega) (by omega)
  exact ⟨by omega, by omega⟩
theorem rg_sub {a b c d : Int} {x y : Int32} (h : rg a b x) (k : rg c d y) (q : -2147483648 ≤ a - d ∧ b - c ≤ 2147483647) : rg (a - d) (b - c) (x - y) := by
  obtain ⟨h1, h2⟩ := h
  obtain ⟨k1, k2⟩ := k
  have e : (x - y).toInt = x.toInt - y.toInt := by rw [Int32.toInt_sub]; exact Int.bmod_eq_of_le (by omega) (by omega)
  exact ⟨by omega, by omega⟩
theorem rg_lt {a b c d : Int} {x y : Int32} (q : x < y) (h : rg a b x) (k : rg c d y) : rg a (d - 1) x ∧ rg (a + 1) d y := by
  have q1 := Int32.lt_iff_toInt_lt.mp q
  obtain ⟨h1, h2⟩ := h
  obtain ⟨k1, k2⟩ := k
  exact ⟨⟨by omega, by omega⟩, ⟨by omega, by omega⟩⟩
theorem rg_le {a b c d : Int} {x y : Int32} (q : x ≤ y) (h : rg a b x) (k : rg c d y) : rg a d x ∧ rg a d y := by
  have q1 := Int32.le_iff_toInt_le.mp q
  obtain ⟨h1, h2⟩ := h
  obtain ⟨k1, k2⟩ := k
  exact ⟨⟨by omega, by omega⟩, ⟨by omega, by omega⟩⟩
theorem rg_in {a b : Int} {x : Int32} {n : Nat} (h : rg a b x) (q : 0 ≤ a ∧ b < n) : vp_in x n := by
  obtain ⟨h1, h2⟩ := h
  rintro (q1 | q1)
  · have := Int32.lt_iff_toInt_lt.mp q1
    have e : (0 : Int32).toInt = 0 := by decide
    omega
  · have e : (x.toNatClampNeg : Int) = x.toInt.toNat := rfl
    omega
theorem rg_bool {x : Int32} (h : rg 0 1 x) : x = 0 ∨ x = 1 := by
  obtain ⟨h1, h2⟩ := h
  rcases (show x.toInt = 0 ∨ x.toInt = 1 by omega) with q | q
  · exact Or.inl (Int32.toInt_inj.mp (by rw [q]; decide))
  · exact Or.inr (Int32.toInt_inj.mp (by rw [q]; decide))
theorem rg_of_bool {x : Int32} (h : x = 0 ∨ x = 1) : rg 0 1 x := by
  rcases h with h | h <;> subst h <;> exact ⟨by decide, by decide⟩
