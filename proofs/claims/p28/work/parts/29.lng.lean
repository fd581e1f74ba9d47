/-! long numbers -/
theorem tl_ex : ∃ f : Int64 → Int, ∀ x, f x = Int64.toInt x := ⟨fun x => Int64.toInt x, fun _ => rfl⟩
noncomputable def tl : Int64 → Int := Classical.choose tl_ex
theorem tl_eq (x : Int64) : tl x = Int64.toInt x := Classical.choose_spec tl_ex x
theorem tl_add {x y : Int64} (h : -9223372036854775808 ≤ tl x + tl y ∧ tl x + tl y ≤ 9223372036854775807) : tl (x + y) = tl x + tl y := by
  simp only [tl_eq] at *
  rw [Int64.toInt_add]
  exact Int.bmod_eq_of_le (by omega) (by omega)
theorem tl_sub {x y : Int64} (h : -9223372036854775808 ≤ tl x - tl y ∧ tl x - tl y ≤ 9223372036854775807) : tl (x - y) = tl x - tl y := by
  simp only [tl_eq] at *
  rw [Int64.toInt_sub]
  exact Int.bmod_eq_of_le (by omega) (by omega)
theorem tl_mul {x y : Int64} (h : -9223372036854775808 ≤ tl x * tl y ∧ tl x * tl y ≤ 9223372036854775807) : tl (x * y) = tl x * tl y := by
  simp only [tl_eq] at *
  rw [Int64.toInt_mul]
  exact Int.bmod_eq_of_le (by omega) (by omega)
theorem tl_i {x : Int32} : tl x.toInt64 = ti x := by rw [tl_eq, ti_eq]; exact Int32.toInt_toInt64 x
theorem tl_inj {x y : Int64} (h : tl x = tl y) : x = y := by rw [tl_eq, tl_eq] at h; exact Int64.toInt_inj.mp h
theorem tl_0 : tl (0 : Int64) = 0 := by rw [tl_eq]; decide
theorem tl_1 : tl (1 : Int64) = 1 := by rw [tl_eq]; decide
theorem tl_10 : tl (10 : Int64) = 10 := by rw [tl_eq]; decide
theorem tl_100 : tl (100 : Int64) = 100 := by rw [tl_eq]; decide
theorem tl_div {x y : Int64} (hx : 0 ≤ tl x) (hx2 : tl x ≤ 9223372036854775807) (hy : 0 < tl y) : tl (x / y) = tl x / tl y := by
  simp only [tl_eq] at *
  rw [Int64.toInt_div, Int.tdiv_eq_ediv_of_nonneg hx]
  have h1 : 0 ≤ x.toInt / y.toInt := Int.ediv_nonneg hx (by omega)
  have h2 : x.toInt / y.toInt ≤ x.toInt := Int.ediv_le_self _ hx
  exact Int.bmod_eq_of_le (by omega) (by omega)
theorem tl_top (x : Int64) : -9223372036854775808 ≤ tl x ∧ tl x ≤ 9223372036854775807 := by
  have h1 := Int64.le_toInt x
  have h2 := Int64.toInt_lt x
  rw [tl_eq]
  exact ⟨by omega, by omega⟩
theorem tl_mod {x y : Int64} (hx : 0 ≤ tl x) (hy : 0 < tl y) : tl (x - x / y * y) = tl x % tl y := by
  have d := tl_div hx (tl_top x).2 hy
  have e := Int.emod_def (tl x) (tl y)
  have b1 : 0 ≤ tl x / tl y * tl y := Int.mul_nonneg (Int.ediv_nonneg hx (by omega)) (by omega)
  have b2 : tl x / tl y * tl y ≤ tl x := Int.ediv_mul_le _ (by omega)
  have t := (tl_top x).2
  have m : tl (x / y * y) = tl x / tl y * tl y := by rw [tl_mul (by rw [d]; omega), d]
  have c : tl x / tl y * tl y = tl y * (tl x / tl y) := Int.mul_comm _ _
  rw [tl_sub (by rw [m]; omega), m, e, c]
theorem lgc_0 {x : Int64} (h : lg_cmp x (0 : Int64) = 0) : x = 0 := by
  unfold lg_cmp at h
  by_cases a : x > 0
  · rw [if_pos a] at h; exact absurd h (by decide)
  · rw [if_neg a] at h
    by_cases b : x = 0
    · exact b
    · rw [if_neg b] at h; exact absurd h (by decide)
theorem lgc_lt {x y : Int64} (h : ¬ (0 : Int32) ≤ lg_cmp x y) : tl x < tl y := by
  unfold lg_cmp at h
  by_cases a : x > y
  · rw [if_pos a] at h; exact absurd (by decide) h
  · rw [if_neg a] at h
    by_cases b : x = y
    · rw [if_pos b] at h; exact absurd (by decide) h
    · have a2 : ¬ tl y < tl x := fun q => a (by rw [tl_eq, tl_eq] at q; exact Int64.lt_iff_toInt_lt.mpr q)
      have b2 : tl x ≠ tl y := fun q => b (tl_inj q)
      omega
set_option maxHeartbeats 4000000 in
theorem s_X10_common_6 {σ : zSto} {P : Int64 → zSto → Prop} (hP : ∀ r, 0 < tl r → P r σ) : ∀ (n : Nat) (x y : Int64), 0 ≤ tl x → 0 ≤ tl y → (0 < tl x ∨ 0 < tl y) → tl y < n → w_X10_common_6 P n x y σ := by
  intro n
  induction n with
  | zero => intro x y h1 h2 h3 h4; exfalso; omega
  | succ n ih =>
    intro x y h1 h2 h3 h4
    unfold w_X10_common_6
    refine ⟨fun q => ?_, fun q => ⟨lgc_ne q, fun x2 e2 => ?_⟩⟩
    · have e := lgc_0 q
      have : tl y = 0 := by rw [e]; exact tl_0
      exact hP x (by omega)
    · have hy : 0 < tl y := by
        have : tl y ≠ 0 := fun z => lgc_ne q (tl_inj (z.trans tl_0.symm))
        omega
      have m := tl_mod h1 hy
      have m1 := Int.emod_nonneg (tl x) (show tl y ≠ 0 by omega)
      have m2 := Int.emod_lt_of_pos (tl x) hy
      subst e2
      exact ih y _ (by omega) (by omega) (Or.inl hy) (by omega)
theorem s_X10_common {σ : zSto} (a1 a2 : Int64) (h1 : 0 ≤ tl a1) (h2 : 0 < tl a2) {P : Int64 → zSto → Prop} (hP : ∀ r, 0 < tl r → P r σ) : w_X10_common a1 a2 σ P := by
  unfold w_X10_common
  exact ⟨(tl a2).toNat + 1, s_X10_common_6 hP _ a1 a2 h1 (by omega) (Or.inr h2) (by omega)⟩
theorem tl_ne {r : Int64} (h : 0 < tl r) : ¬ r = 0 := fun e => by rw [e, tl_0] at h; omega
theorem s_X10_part {σ : zSto} (a1 a2 : Int64) (a3 : Int32) (h1 : 0 ≤ tl a1) (h2 : 0 < tl a2) {P : Int64 → zSto → Prop} (hP : ∀ r, P r σ) : w_X10_part a1 a2 a3 σ P := by
  unfold w_X10_part
  exact s_X10_common a1 a2 h1 h2 (fun r hr => ⟨fun _ => ⟨tl_ne hr, hP _⟩, fun _ => ⟨tl_ne hr, hP _⟩⟩)
/-! sums -/
def smI (f : Nat → Int) : Nat → Int
  | 0 => 0
  | n + 1 => smI f n + f n
theorem smI_congr {f g : Nat → Int} : ∀ n, (∀ j, j < n → f j = g j) → smI f n = smI g n := by
  intro n
  induction n with
  | zero => intro _; rfl
  | succ n ih => intro h; show smI f n + f n = smI g n + g n; rw [ih (fun j hj => h j (by omega)), h n (by omega)]
theorem smI_nn {f : Nat → Int} : ∀ n, (∀ j, j < n → 0 ≤ f j) → 0 ≤ smI f n := by
  intro n
  induction n with
  | zero => intro _; exact Int.le_refl 0
  | succ n ih => intro h; have := ih (fun j hj => h j (by omega)); have := h n (by omega); show 0 ≤ smI f n + f n; omega
theorem smI_le {f : Nat → Int} : ∀ n, (∀ j, j < n → 0 ≤ f j) → ∀ j, j < n → f j ≤ smI f n := by
  intro n
  induction n with
  | zero => intro _ j hj; omega
  | succ n ih =>
    intro h j hj
    show f j ≤ smI f n + f n
    have h1 := h n (by omega)
    have h2 := smI_nn n (fun j hj => h j (by omega))
    by_cases c : j = n
    · subst c; omega
    · have := ih (fun j hj => h j (by omega)) j (by omega)
      omega
theorem smI_mono {f : Nat → Int} : ∀ n m, m ≤ n → (∀ j, j < n → 0 ≤ f j) → smI f m ≤ smI f n := by
  intro n
  induction n with
  | zero => intro m hm _; have : m = 0 := by omega
            subst this; exact Int.le_refl _
  | succ n ih =>
    intro m hm h
    by_cases c : m = n + 1
    · subst c; exact Int.le_refl _
    · have := ih m (by omega) (fun j hj => h j (by omega))
      have := h n (by omega)
      show smI f m ≤ smI f n + f n
      omega
theorem smI_tail {f : Nat → Int} {t : Nat} : ∀ n, (∀ j, t ≤ j → j < n → f j = 0) → t ≤ n → smI f n = smI f t := by
  intro n
  induction n with
  | zero => intro _ h; have : t = 0 := by omega
            subst this; rfl
  | succ n ih =>
    intro h hn
    by_cases c : t = n + 1
    · subst c; rfl
    · show smI f n + f n = _
      rw [ih (fun j h1 h2 => h j h1 (by omega)) (by omega), h n (by omega) (by omega)]
      omega
theorem smI_lin {f : Nat → Int} {a o : Int} {c : Nat} : ∀ n, smI (fun j => f j * a + (if c ≤ j then f (j - c) * o else 0)) n = smI f n * a + smI f (n - c) * o := by
  intro n
  induction n with
  | zero => simp [smI]
  | succ n ih =>
    show smI _ n + (f n * a + (if c ≤ n then f (n - c) * o else 0)) = (smI f n + f n) * a + _
    rw [ih]
    by_cases h : c ≤ n
    · rw [if_pos h, show n + 1 - c = (n - c) + 1 by omega]
      show _ = _ + (smI f (n - c) + f (n - c)) * o
      rw [Int.add_mul, Int.add_mul]
      omega
    · rw [if_neg h, show n + 1 - c = 0 by omega, show n - c = 0 by omega, Int.add_mul]
      omega
theorem zJ_s {σ : zSto} {k j : Nat} {v : Int64} : (zJ σ k j v).2 k j = v := by simp [zJ, va_up, vp_updL]
theorem zJ_q {σ : zSto} {k k' j j' : Nat} {v : Int64} (h : k' ≠ k ∨ j' ≠ j) : (zJ σ k j v).2 k' j' = σ.2 k' j' := by
  by_cases e : k' = k
  · subst e
    have e2 : j' ≠ j := by rcases h with h | h; exact absurd rfl h; exact h
    simp [zJ, va_up, vp_updL, e2]
  · simp [zJ, va_up, e]
