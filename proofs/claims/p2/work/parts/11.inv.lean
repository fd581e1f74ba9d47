/-! THE INVARIANT of the store -/
def kdl : List Nat := [0, 5, 6, 0, 1, 2, 2, 0, 0, 0, 0, 0, 0, 0, 0, 0, 1, 2, 2, 0, 0, 0, 0, 0, 0, 0, 0, 0, 0, 4, 0, 0, 4, 0, 0, 0, 4, 0, 0, 4, 0, 0, 7, 0, 5, 6, 0, 1, 2, 2, 0, 0, 0, 0, 0, 0, 0, 0, 0, 1, 2, 2, 0, 0, 0, 0, 0, 0, 0, 0, 0, 0, 4, 0, 0, 4, 0, 0, 0, 4, 0, 0, 4, 0, 0, 7, 5, 6, 0, 1, 2, 2, 0, 0, 0, 0, 0, 0, 0, 0, 0, 1, 2, 2, 0, 0, 0, 0, 0, 0, 0, 0, 0, 0, 4, 0, 0, 4, 0, 0, 0, 4, 0, 0, 4, 0, 0, 7, 5, 6, 0, 1, 2, 2, 0, 0, 0, 0, 0, 0, 0, 0, 0, 1, 2, 2, 0, 0, 0, 0, 0, 0, 0, 0, 0, 0, 4, 0, 0, 4, 0, 0, 0, 4, 0, 0, 4, 0, 0, 7, 8, 9, 1, 2, 2, 0, 0, 0, 0, 0, 0, 0, 0, 0, 4, 0, 0, 2, 0, 6, 0, 0, 0, 0, 0, 0, 0, 0, 10, 0, 11, 0, 0, 0, 0, 0, 0, 0, 0, 0, 1, 2, 2, 0, 0, 0, 0, 0, 0, 0, 0, 0, 0, 12, 6, 13, 0, 0, 7, 14, 15, 16, 0, 2, 0, 0, 17, 18, 0, 0, 0, 0, 0, 0, 8, 0, 0, 0, 0, 8]
def rkl : List Nat := [0, 0, 0, 0, 2, 0, 0, 0, 0, 0, 0, 3, 0, 0, 0, 0, 2, 0, 0, 0, 0, 0, 0, 3, 0, 0, 0, 0, 0, 0, 0, 0, 0, 0, 0, 0, 0, 0, 0, 0, 0, 0, 1, 0, 0, 0, 0, 2, 0, 0, 0, 0, 0, 0, 3, 0, 0, 0, 0, 2, 0, 0, 0, 0, 0, 0, 3, 0, 0, 0, 0, 0, 0, 0, 0, 0, 0, 0, 0, 0, 0, 0, 0, 0, 0, 1, 0, 0, 0, 2, 0, 0, 0, 0, 0, 0, 3, 0, 0, 0, 0, 2, 0, 0, 0, 0, 0, 0, 3, 0, 0, 0, 0, 0, 0, 0, 0, 0, 0, 0, 0, 0, 0, 0, 0, 0, 0, 1, 0, 0, 0, 2, 0, 0, 0, 0, 0, 0, 3, 0, 0, 0, 0, 2, 0, 0, 0, 0, 0, 0, 3, 0, 0, 0, 0, 0, 0, 0, 0, 0, 0, 0, 0, 0, 0, 0, 0, 0, 0, 1, 0, 4, 5, 0, 0, 0, 0, 0, 0, 3, 0, 0, 0, 0, 0, 0, 0, 0, 0, 0, 0, 0, 0, 0, 0, 0, 0, 0, 0, 0, 0, 0, 0, 0, 0, 0, 0, 0, 0, 0, 2, 0, 0, 0, 0, 0, 0, 3, 0, 0, 0, 0, 0, 0, 0, 0, 0, 0, 6, 7, 0, 0, 0, 0, 0, 0, 0, 0, 0, 0, 0, 0, 0, 0, 0, 0, 0, 0, 0, 0]
def kd (k : Nat) : Nat := kdl.getD k 0
def rk (k : Nat) : Nat := rkl.getD k 0
def lo14 (s : Nat) : Int := if s = 0 then 0 else if s = 1 then 0 else if s = 2 then 0 else if s < 7 then (-2147483648) else if s < 87 then (if (s - 7) % 5 = 0 then 0 else if (s - 7) % 5 = 1 then 0 else if (s - 7) % 5 = 3 then 0 else (-2147483648)) else (if (s - 87) % 6 = 1 then 0 else (-2147483648))
def hi14 (s : Nat) : Int := if s = 0 then 16 else if s = 1 then 6 else if s = 2 then 9 else if s < 7 then 2147483647 else if s < 87 then (if (s - 7) % 5 = 0 then 30 else if (s - 7) % 5 = 1 then 3 else if (s - 7) % 5 = 3 then 10 else 2147483647) else (if (s - 87) % 6 = 1 then 15 else 2147483647)
def lo (c j : Nat) : Int := if c = 0 then (-2147483648) else if c = 1 then (if j = 11 then 0 else if j = 12 then 0 else if j = 13 then 0 else (-2147483648)) else if c = 2 then (0) else if c = 4 then (if j = 2 then 0 else (-2147483648)) else if c = 5 then (if j = 5 then 0 else (-2147483648)) else if c = 6 then (-128) else if c = 7 then (0) else if c = 8 then (0) else if c = 9 then (if j = 5 then 0 else if j = 6 then 0 else if j = 8 then 0 else (-2147483648)) else if c = 10 then (if j = 1 then 0 else (-2147483648)) else if c = 11 then (if j = 6 then 0 else (-2147483648)) else if c = 12 then (if j = 9 then 0 else if j = 10 then 0 else if j = 11 then 0 else if j = 13 then 0 else if j = 23 then 0 else if j = 24 then 0 else if j = 25 then 0 else if j = 26 then 0 else (-2147483648)) else if c = 13 then (0) else if c = 14 then lo14 (j % 123) else if c = 15 then (if j % 33 = 0 then 0 else (-2147483648)) else if c = 16 then (if j % 21 = 0 then 0 else (-2147483648)) else if c = 17 then (0) else if c = 18 then (0) else (-2147483648)
def hi (c j : Nat) : Int := if c = 0 then 2147483647 else if c = 1 then (if j = 11 then 16 else if j = 12 then 6 else if j = 13 then 999 else 2147483647) else if c = 2 then (999) else if c = 4 then (if j = 2 then 16 else 2147483647) else if c = 5 then (if j = 5 then 600 else 2147483647) else if c = 6 then (127) else if c = 7 then (2) else if c = 8 then (1) else if c = 9 then (if j = 5 then 600 else if j = 6 then 600 else if j = 8 then 600 else 2147483647) else if c = 10 then (if j = 1 then 1125 else 2147483647) else if c = 11 then (if j = 6 then 16 else 2147483647) else if c = 12 then (if j = 9 then 600 else if j = 10 then 600 else if j = 11 then 600 else if j = 13 then 999 else if j = 23 then 1 else if j = 24 then 16 else if j = 25 then 15 else if j = 26 then 6 else 2147483647) else if c = 13 then (600) else if c = 14 then hi14 (j % 123) else if c = 15 then (if j % 33 = 0 then 16 else 2147483647) else if c = 16 then (if j % 21 = 0 then 10 else 2147483647) else if c = 17 then (30) else if c = 18 then (75) else 2147483647
def rlc (c j : Nat) : Bool := if c = 0 then false else if c = 1 then decide (j = 0) else if c = 2 then decide (j = 11 ∨ j = 12) else if c = 3 then true else if c = 4 then decide (j = 11) else if c = 5 then decide (j = 12) else if c = 6 then decide (j % 3 = 0) else decide (j % 123 = 0)
def rl (k j : Nat) : Bool := rlc (rk k) j
/-- the four States, the Lines that hold what was told (and the trial), the Lines that a call may ask, the Pairs that a call may ask -/
def isZ (S : Nat) : Prop := S = 1 ∨ S = 44 ∨ S = 86 ∨ S = 128
def isS (t : Nat) : Prop := t = 4 ∨ t = 16 ∨ t = 47 ∨ t = 59 ∨ t = 89 ∨ t = 101 ∨ t = 131 ∨ t = 143 ∨ t = 210
def isT (t : Nat) : Prop := t = 4 ∨ t = 16 ∨ t = 210
def isP (t : Nat) : Prop := t = 29 ∨ t = 32 ∨ t = 36 ∨ t = 39
def zRel (σ : zSto) : Prop :=
  (∀ S, isZ S → ∀ l : Nat, l < 2 → (l : Int) < (σ.1 (S + 41) 0).toInt → 1 ≤ (σ.1 (S + 3 + 12 * l) 11).toInt) ∧
  (∀ t, isS t → ∀ r : Nat, (r : Int) < (σ.1 t 12).toInt → (σ.1 (t + 7) r).toInt ≤ 15) ∧
  ((σ.1 171 11).toInt = 0 → ∀ r : Nat, (r : Int) < (σ.1 172 12).toInt → (σ.1 179 r).toInt ≤ 15) ∧
  (∀ i l : Nat, i < 4 → l < 2 → (l : Int) < (σ.1 228 (3 * i)).toInt → 1 ≤ (σ.1 229 (123 * (2 * i + l))).toInt)
def zInv (A : Nat → Prop) (F : Nat → Nat → Int32) (σ : zSto) : Prop := (∀ k j, lo (kd k) j ≤ (σ.1 k j).toInt ∧ (σ.1 k j).toInt ≤ hi (kd k) j) ∧ (∀ k, A k → σ.1 k = F k) ∧ zRel σ
theorem zI_k {σ : zSto} {k k' j : Nat} {v : Int32} (h : k' ≠ k) : (zI σ k j v).1 k' = σ.1 k' := by simp [zI, va_up, h]
theorem zI_s {σ : zSto} {k j : Nat} {v : Int32} : (zI σ k j v).1 k j = v := by simp [zI, va_up, upd]
theorem zI_q {σ : zSto} {k k' j j' : Nat} {v : Int32} (h : k' ≠ k ∨ j' ≠ j) : (zI σ k j v).1 k' j' = σ.1 k' j' := by
  by_cases e : k' = k
  · subst e
    have e2 : j' ≠ j := by rcases h with h | h; exact absurd rfl h; exact h
    simp [zI, va_up, upd, e2]
  · simp [zI, va_up, e]
theorem zR_k {σ : zSto} {k k' : Nat} {f : Nat → Int32} (h : k' ≠ k) : (zR σ k f).1 k' = σ.1 k' := by simp [zR, va_up, h]
theorem zR_s {σ : zSto} {k : Nat} {f : Nat → Int32} : (zR σ k f).1 k = f := by simp [zR, va_up]
theorem rl_ne {k j k' j' : Nat} (h1 : rl k' j' = true) (h2 : rl k j = false) : k' ≠ k ∨ j' ≠ j := by
  by_cases a : k' = k
  · right
    intro b
    subst a
    subst b
    rw [h1] at h2
    cases h2
  · exact Or.inl a
theorem rl_a {S : Nat} (h : isZ S) : rl (S + 41) 0 = true := by rcases h with h | h | h | h <;> subst h <;> decide
theorem rl_b {S l : Nat} (h : isZ S) (hl : l < 2) : rl (S + 3 + 12 * l) 11 = true := by
  rcases (show l = 0 ∨ l = 1 by omega) with q | q <;> subst q <;> rcases h with h | h | h | h <;> subst h <;> decide
theorem rl_c {t : Nat} (h : isS t) : rl t 12 = true := by rcases h with h | h | h | h | h | h | h | h | h <;> subst h <;> decide
theorem rl_d {t : Nat} (h : isS t) (r : Nat) : rl (t + 7) r = true := by
  have e : rk (t + 7) = 3 := by rcases h with h | h | h | h | h | h | h | h | h <;> subst h <;> decide
  unfold rl
  rw [e]
  rfl
theorem rl_179 (r : Nat) : rl 179 r = true := by
  have e : rk 179 = 3 := by decide
  unfold rl
  rw [e]
  rfl
theorem rl_228 (i : Nat) : rl 228 i = decide (i % 3 = 0) := by
  have e : rk 228 = 6 := by decide
  unfold rl
  rw [e]
  rfl
theorem rl_229 (i : Nat) : rl 229 i = decide (i % 123 = 0) := by
  have e : rk 229 = 7 := by decide
  unfold rl
  rw [e]
  rfl
theorem zRel_of {σ σ' : zSto} (h : ∀ k j, rl k j = true → σ'.1 k j = σ.1 k j) (R : zRel σ) : zRel σ' := by
  obtain ⟨R1, R2, R3, R4⟩ := R
  refine ⟨fun S hS l hl q => ?_, fun t ht r q => ?_, fun q r q2 => ?_, fun i l hi hl q => ?_⟩
  · rw [h _ _ (rl_a hS)] at q
    rw [h _ _ (rl_b hS hl)]
    exact R1 S hS l hl q
  · rw [h _ _ (rl_c ht)] at q
    rw [h _ _ (rl_d ht r)]
    exact R2 t ht r q
  · rw [h 171 11 (by decide)] at q
    rw [h 172 12 (by decide)] at q2
    rw [h _ _ (rl_179 r)]
    exact R3 q r q2
  · rw [h 228 (3 * i) (by rw [rl_228]; exact decide_eq_true (by omega))] at q
    rw [h 229 (123 * (2 * i + l)) (by rw [rl_229]; exact decide_eq_true (by omega))]
    exact R4 i l hi hl q
theorem full32 (v : Int32) : -2147483648 ≤ v.toInt ∧ v.toInt ≤ 2147483647 := by
  have h1 := Int32.le_toInt v
  have h2 := Int32.toInt_lt v
  exact ⟨by omega, by omega⟩
theorem wI {A : Nat → Prop} {F : Nat → Nat → Int32} {σ : zSto} {k j : Nat} {v : Int32} (I : zInv A F σ) (hA : ¬ A k) (hr : rl k j = false) (h : lo (kd k) j ≤ v.toInt ∧ v.toInt ≤ hi (kd k) j) : zInv A F (zI σ k j v) := by
  refine ⟨fun k' j' => ?_, fun k' hk' => ?_, zRel_of (fun k' j' q => zI_q (rl_ne q hr)) I.2.2⟩
  · by_cases e : k' = k ∧ j' = j
    · obtain ⟨e1, e2⟩ := e
      subst e1
      subst e2
      rw [zI_s]
      exact h
    · rw [zI_q (by omega)]
      exact I.1 k' j'
  · rw [zI_k (fun (e : k' = k) => hA (e ▸ hk'))]
    exact I.2.1 k' hk'
theorem rl0 {k j : Nat} (h : rk k = 0) : rl k j = false := by
  unfold rl
  rw [h]
  rfl
theorem wI0 {A : Nat → Prop} {F : Nat → Nat → Int32} {σ : zSto} {k j : Nat} {v : Int32} (I : zInv A F σ) (hA : ¬ A k) (hr : rk k = 0) (hk : kd k = 0) : zInv A F (zI σ k j v) := wI I hA (rl0 hr) (by rw [hk]; exact full32 v)
theorem wIr {A : Nat → Prop} {F : Nat → Nat → Int32} {σ : zSto} {k j c : Nat} {a b : Int} {v : Int32} (I : zInv A F σ) (hA : ¬ A k) (hr : rl k j = false) (hk : kd k = c) (ha : lo c j = a) (hb : hi c j = b) (h : a ≤ v.toInt ∧ v.toInt ≤ b) : zInv A F (zI σ k j v) := wI I hA hr (by rw [hk, ha, hb]; exact h)
theorem wJ {A : Nat → Prop} {F : Nat → Nat → Int32} {σ : zSto} {k j : Nat} {v : Int64} (I : zInv A F σ) : zInv A F (zJ σ k j v) := I
theorem rdr {A : Nat → Prop} {F : Nat → Nat → Int32} {σ : zSto} {k j c : Nat} {a b : Int} (I : zInv A F σ) (hk : kd k = c) (ha : lo c j = a) (hb : hi c j = b) : a ≤ (σ.1 k j).toInt ∧ (σ.1 k j).toInt ≤ b := by
  have h := I.1 k j
  rw [hk, ha, hb] at h
  exact h
/-- what may be written -/
def okC (A : Nat → Prop) : Prop := ∀ k, A k → ¬ (171 ≤ k ∧ k < 223)
def okR (A : Nat → Prop) : Prop := ∀ k, A k → ¬ (k = 223 ∨ (232 ≤ k ∧ k < 249))
theorem pC {A : Nat → Prop} {k : Nat} (h : okC A) (q : 171 ≤ k ∧ k < 223) : ¬ A k := fun a => h k a q
theorem pR {A : Nat → Prop} {k : Nat} (h : okR A) (q : k = 223 ∨ (232 ≤ k ∧ k < 249)) : ¬ A k := fun a => h k a q
/-! numbers -/
theorem tadd {x y : Int32} (h : -2147483648 ≤ x.toInt + y.toInt ∧ x.toInt + y.toInt ≤ 2147483647) : (x + y).toInt = x.toInt + y.toInt := by rw [Int32.toInt_add]; exact Int.bmod_eq_of_le (by omega) (by omega)
theorem tsub {x y : Int32} (h : -2147483648 ≤ x.toInt - y.toInt ∧ x.toInt - y.toInt ≤ 2147483647) : (x - y).toInt = x.toInt - y.toInt := by rw [Int32.toInt_sub]; exact Int.bmod_eq_of_le (by omega) (by omega)
theorem tmul {x y : Int32} (h : -2147483648 ≤ x.toInt * y.toInt ∧ x.toInt * y.toInt ≤ 2147483647) : (x * y).toInt = x.toInt * y.toInt := by rw [Int32.toInt_mul]; exact Int.bmod_eq_of_le (by omega) (by omega)
/-- by a number: linear -/
theorem tmulr {x y : Int32} (c : Int) (e : y.toInt = c) (h : -2147483648 ≤ x.toInt * c ∧ x.toInt * c ≤ 2147483647) : (x * y).toInt = x.toInt * c := by rw [tmul (by rw [e]; exact h), e]
theorem tmull {x y : Int32} (c : Int) (e : x.toInt = c) (h : -2147483648 ≤ c * y.toInt ∧ c * y.toInt ≤ 2147483647) : (x * y).toInt = c * y.toInt := by rw [tmul (by rw [e]; exact h), e]
theorem lt_t {x y : Int32} (q : x < y) : x.toInt < y.toInt := Int32.lt_iff_toInt_lt.mp q
theorem le_t {x y : Int32} (q : x ≤ y) : x.toInt ≤ y.toInt := Int32.le_iff_toInt_le.mp q
theorem nlt_t {x y : Int32} (q : ¬ x < y) : y.toInt ≤ x.toInt := by
  exact Int.not_lt.mp (fun h => q (Int32.lt_iff_toInt_lt.mpr h))
theorem nle_t {x y : Int32} (q : ¬ x ≤ y) : y.toInt < x.toInt := by
  exact Int.not_le.mp (fun h => q (Int32.le_iff_toInt_le.mpr h))
theorem eq_t {x y : Int32} (q : x = y) : x.toInt = y.toInt := congrArg Int32.toInt q
theorem ne_t {x y : Int32} (q : ¬ x = y) : x.toInt ≠ y.toInt := fun h => q (Int32.toInt_inj.mp h)
theorem ne_of_t {x y : Int32} (q : x.toInt ≠ y.toInt) : ¬ x = y := fun h => q (congrArg Int32.toInt h)
theorem vin {x : Int32} {n : Nat} (h : 0 ≤ x.toInt ∧ x.toInt < n) : vp_in x n := by
  rintro (q | q)
  · have := lt_t q
    have e : (0 : Int32).toInt = 0 := by decide
    omega
  · have e : (x.toNatClampNeg : Int) = x.toInt.toNat := rfl
    omega
theorem tite {c : Prop} [Decidable c] {a b : Int32} {Q : Int32 → Prop} (h1 : c → Q a) (h2 : ¬ c → Q b) : Q (if c then a else b) := by
  by_cases q : c
  · rw [if_pos q]; exact h1 q
  · rw [if_neg q]; exact h2 q
theorem bool_t {r : Int32} (h : r = 0 ∨ r = 1) : 0 ≤ r.toInt ∧ r.toInt ≤ 1 := by rcases h with h | h <;> subst h <;> decide
theorem toNI {x : Int32} (h : 0 ≤ x.toInt) : x = nI x.toInt.toNat := by
  apply Int32.toInt_inj.mp
  have := (full32 x).2
  show x.toInt = (Int32.ofNat x.toInt.toNat).toInt
  rw [Int32.toInt_ofNat_of_lt (by omega)]
  omega
theorem nI_t {n : Nat} (h : n < 2147483648) : (nI n).toInt = n := Int32.toInt_ofNat_of_lt (by omega)
theorem and_rg (x : Int32) {m : Int32} (k n : Nat) (hn : n = 2 ^ k) (hm : m.toBitVec.toNat = 2 ^ k - 1) (hk : k ≤ 30) : 0 ≤ (x &&& m).toInt ∧ (x &&& m).toInt < (n : Int) := by
  obtain ⟨j, hj, e⟩ := pk_andE x k hm
  have : (2 : Nat) ^ k ≤ 2 ^ 30 := Nat.pow_le_pow_right (by decide) hk
  rw [← hn] at hj this
  rw [e, nI_t (by omega)]
  omega
theorem shl1_rg {x : Int32} (h : 0 ≤ x.toInt ∧ x.toInt ≤ 16) : ((1 : Int32) <<< (x &&& 31)).toInt = 2 ^ x.toInt.toNat ∧ 1 ≤ ((1 : Int32) <<< (x &&& 31)).toInt ∧ ((1 : Int32) <<< (x &&& 31)).toInt ≤ 65536 := by
  have e := toNI h.1
  obtain ⟨n, hn⟩ : ∃ n, n = x.toInt.toNat := ⟨_, rfl⟩
  rw [← hn] at e ⊢
  have h2 : n ≤ 16 := by omega
  rw [e]
  have : ∀ n : Fin 17, ((1 : Int32) <<< (nI n.val &&& 31)).toInt = 2 ^ n.val ∧ 1 ≤ ((1 : Int32) <<< (nI n.val &&& 31)).toInt ∧ ((1 : Int32) <<< (nI n.val &&& 31)).toInt ≤ 65536 := by decide
  exact this ⟨n, by omega⟩
theorem shl1_6 {x : Int32} (h : 0 ≤ x.toInt ∧ x.toInt ≤ 6) : 1 ≤ ((1 : Int32) <<< (x &&& 31)).toInt ∧ ((1 : Int32) <<< (x &&& 31)).toInt ≤ 64 := by
  have e := toNI h.1
  obtain ⟨n, hn⟩ : ∃ n, n = x.toInt.toNat := ⟨_, rfl⟩
  rw [← hn] at e
  rw [e]
  have : ∀ n : Fin 7, 1 ≤ ((1 : Int32) <<< (nI n.val &&& 31)).toInt ∧ ((1 : Int32) <<< (nI n.val &&& 31)).toInt ≤ 64 := by decide
  exact this ⟨n, by omega⟩
theorem shl1_5 {x : Int32} (h : 0 ≤ x.toInt ∧ x.toInt ≤ 5) : 1 ≤ ((1 : Int32) <<< (x &&& 31)).toInt ∧ ((1 : Int32) <<< (x &&& 31)).toInt ≤ 32 := by
  have e := toNI h.1
  obtain ⟨n, hn⟩ : ∃ n, n = x.toInt.toNat := ⟨_, rfl⟩
  rw [← hn] at e
  rw [e]
  have : ∀ n : Fin 6, 1 ≤ ((1 : Int32) <<< (nI n.val &&& 31)).toInt ∧ ((1 : Int32) <<< (nI n.val &&& 31)).toInt ≤ 32 := by decide
  exact this ⟨n, by omega⟩
theorem nI_xor (a b : Nat) : nI a ^^^ nI b = nI (a ^^^ b) := by
  apply Int32.toBitVec_inj.1
  show BitVec.ofNat 32 a ^^^ BitVec.ofNat 32 b = BitVec.ofNat 32 (a ^^^ b)
  apply BitVec.eq_of_getLsbD_eq
  intro i hi
  simp [BitVec.getLsbD_ofNat, Nat.testBit_xor, hi]
theorem zel_of {a : Int32} {fds : List (Nat × Nat)} {m : Int} (z : a.toInt = m) : zel fds a = (fds.getD m.toNat (0, 0)).2 := by
  unfold zel
  show (fds.getD a.toInt.toNat _).2 = _
  rw [z]
theorem xor_rg {x y : Int32} (h : 0 ≤ x.toInt ∧ x.toInt < 64) (k : 0 ≤ y.toInt ∧ y.toInt < 64) : 0 ≤ (x ^^^ y).toInt ∧ (x ^^^ y).toInt < 64 := by
  obtain ⟨a, ha⟩ : ∃ n, n = x.toInt.toNat := ⟨_, rfl⟩
  obtain ⟨b, hb⟩ : ∃ n, n = y.toInt.toNat := ⟨_, rfl⟩
  have e1 := toNI h.1
  have e2 := toNI k.1
  rw [← ha] at e1
  rw [← hb] at e2
  have h3 : a ^^^ b < 2 ^ 6 := Nat.xor_lt_two_pow (by omega) (by omega)
  have e3 : x ^^^ y = nI (a ^^^ b) := by rw [e1, e2]; exact (nI_xor a b)
  rw [e3, nI_t (by omega)]
  omega
theorem isT_S {t : Nat} (h : isT t) : isS t := by unfold isT at h; unfold isS; omega
theorem isT_0 {t : Nat} (h : isT t) : kd t = 1 := by rcases h with h | h | h <;> subst h <;> decide
theorem isT_1 {t : Nat} (h : isT t) : kd (t + 1) = 2 := by rcases h with h | h | h <;> subst h <;> decide
theorem isT_2 {t : Nat} (h : isT t) : kd (t + 2) = 2 := by rcases h with h | h | h <;> subst h <;> decide
theorem isT_lt {t : Nat} (h : isT t) : t < 223 := by rcases h with h | h | h <;> subst h <;> decide
theorem isP_0 {t : Nat} (h : isP t) : kd t = 4 := by rcases h with h | h | h | h <;> subst h <;> decide
theorem isT_L {t : Nat} (h : isT t) : zIsLine t := by
  rcases h with h | h | h <;> subst h
  · exact zIsLine_4
  · exact zIsLine_16
  · exact zIsLine_210
theorem isP_P {t : Nat} (h : isP t) : zIsPairs t := by
  rcases h with h | h | h | h <;> subst h
  · exact zIsPairs_29
  · exact zIsPairs_32
  · exact zIsPairs_36
  · exact zIsPairs_39
theorem kd_1 : kd 1 = 5 := by decide
theorem kd_2 : kd 2 = 6 := by decide
theorem kd_4 : kd 4 = 1 := by decide
theorem kd_5 : kd 5 = 2 := by decide
theorem kd_6 : kd 6 = 2 := by decide
theorem kd_16 : kd 16 = 1 := by decide
theorem kd_17 : kd 17 = 2 := by decide
theorem kd_18 : kd 18 = 2 := by decide
theorem kd_29 : kd 29 = 4 := by decide
theorem kd_32 : kd 32 = 4 := by decide
theorem kd_36 : kd 36 = 4 := by decide
theorem kd_39 : kd 39 = 4 := by decide
theorem kd_42 : kd 42 = 7 := by decide
theorem kd_44 : kd 44 = 5 := by decide
theorem kd_45 : kd 45 = 6 := by decide
theorem kd_47 : kd 47 = 1 := by decide
theorem kd_48 : kd 48 = 2 := by decide
theorem kd_49 : kd 49 = 2 := by decide
theorem kd_59 : kd 59 = 1 := by decide
theorem kd_60 : kd 60 = 2 := by decide
theorem kd_61 : kd 61 = 2 := by decide
theorem kd_72 : kd 72 = 4 := by decide
theorem kd_75 : kd 75 = 4 := by decide
theorem kd_79 : kd 79 = 4 := by decide
theorem kd_82 : kd 82 = 4 := by decide
theorem kd_85 : kd 85 = 7 := by decide
theorem kd_86 : kd 86 = 5 := by decide
theorem kd_87 : kd 87 = 6 := by decide
theorem kd_89 : kd 89 = 1 := by decide
theorem kd_90 : kd 90 = 2 := by decide
theorem kd_91 : kd 91 = 2 := by decide
theorem kd_101 : kd 101 = 1 := by decide
theorem kd_102 : kd 102 = 2 := by decide
theorem kd_103 : kd 103 = 2 := by decide
theorem kd_114 : kd 114 = 4 := by decide
theorem kd_117 : kd 117 = 4 := by decide
theorem kd_121 : kd 121 = 4 := by decide
theorem kd_124 : kd 124 = 4 := by decide
theorem kd_127 : kd 127 = 7 := by decide
theorem kd_128 : kd 128 = 5 := by decide
theorem kd_129 : kd 129 = 6 := by decide
theorem kd_131 : kd 131 = 1 := by decide
theorem kd_132 : kd 132 = 2 := by decide
theorem kd_133 : kd 133 = 2 := by decide
theorem kd_143 : kd 143 = 1 := by decide
theorem kd_144 : kd 144 = 2 := by decide
theorem kd_145 : kd 145 = 2 := by decide
theorem kd_156 : kd 156 = 4 := by decide
theorem kd_159 : kd 159 = 4 := by decide
theorem kd_163 : kd 163 = 4 := by decide
theorem kd_166 : kd 166 = 4 := by decide
theorem kd_169 : kd 169 = 7 := by decide
theorem kd_170 : kd 170 = 8 := by decide
theorem rk_170 : rk 170 = 0 := by decide
theorem kd_171 : kd 171 = 9 := by decide
theorem rk_171 : rk 171 = 4 := by decide
theorem kd_172 : kd 172 = 1 := by decide
theorem rk_172 : rk 172 = 5 := by decide
theorem kd_173 : kd 173 = 2 := by decide
theorem rk_173 : rk 173 = 0 := by decide
theorem kd_174 : kd 174 = 2 := by decide
theorem rk_174 : rk 174 = 0 := by decide
theorem kd_175 : kd 175 = 0 := by decide
theorem rk_175 : rk 175 = 0 := by decide
theorem kd_176 : kd 176 = 0 := by decide
theorem rk_176 : rk 176 = 0 := by decide
theorem kd_177 : kd 177 = 0 := by decide
theorem rk_177 : rk 177 = 0 := by decide
theorem kd_178 : kd 178 = 0 := by decide
theorem rk_178 : rk 178 = 0 := by decide
theorem kd_179 : kd 179 = 0 := by decide
theorem rk_179 : rk 179 = 3 := by decide
theorem kd_180 : kd 180 = 0 := by decide
theorem rk_180 : rk 180 = 0 := by decide
theorem kd_181 : kd 181 = 0 := by decide
theorem rk_181 : rk 181 = 0 := by decide
theorem kd_182 : kd 182 = 0 := by decide
theorem rk_182 : rk 182 = 0 := by decide
theorem kd_183 : kd 183 = 0 := by decide
theorem rk_183 : rk 183 = 0 := by decide
theorem kd_184 : kd 184 = 4 := by decide
theorem rk_184 : rk 184 = 0 := by decide
theorem kd_185 : kd 185 = 0 := by decide
theorem rk_185 : rk 185 = 0 := by decide
theorem kd_186 : kd 186 = 0 := by decide
theorem rk_186 : rk 186 = 0 := by decide
theorem kd_187 : kd 187 = 2 := by decide
theorem rk_187 : rk 187 = 0 := by decide
theorem kd_188 : kd 188 = 0 := by decide
theorem rk_188 : rk 188 = 0 := by decide
theorem kd_189 : kd 189 = 6 := by decide
theorem rk_189 : rk 189 = 0 := by decide
theorem kd_190 : kd 190 = 0 := by decide
theorem rk_190 : rk 190 = 0 := by decide
theorem kd_191 : kd 191 = 0 := by decide
theorem rk_191 : rk 191 = 0 := by decide
theorem kd_192 : kd 192 = 0 := by decide
theorem rk_192 : rk 192 = 0 := by decide
theorem kd_193 : kd 193 = 0 := by decide
theorem rk_193 : rk 193 = 0 := by decide
theorem kd_194 : kd 194 = 0 := by decide
theorem rk_194 : rk 194 = 0 := by decide
theorem kd_195 : kd 195 = 0 := by decide
theorem rk_195 : rk 195 = 0 := by decide
theorem kd_196 : kd 196 = 0 := by decide
theorem rk_196 : rk 196 = 0 := by decide
theorem kd_197 : kd 197 = 0 := by decide
theorem rk_197 : rk 197 = 0 := by decide
theorem kd_198 : kd 198 = 10 := by decide
theorem rk_198 : rk 198 = 0 := by decide
theorem kd_199 : kd 199 = 0 := by decide
theorem rk_199 : rk 199 = 0 := by decide
theorem kd_200 : kd 200 = 11 := by decide
theorem rk_200 : rk 200 = 0 := by decide
theorem kd_201 : kd 201 = 0 := by decide
theorem rk_201 : rk 201 = 0 := by decide
theorem kd_202 : kd 202 = 0 := by decide
theorem rk_202 : rk 202 = 0 := by decide
theorem kd_203 : kd 203 = 0 := by decide
theorem rk_203 : rk 203 = 0 := by decide
theorem kd_204 : kd 204 = 0 := by decide
theorem rk_204 : rk 204 = 0 := by decide
theorem kd_205 : kd 205 = 0 := by decide
theorem rk_205 : rk 205 = 0 := by decide
theorem kd_206 : kd 206 = 0 := by decide
theorem rk_206 : rk 206 = 0 := by decide
theorem kd_207 : kd 207 = 0 := by decide
theorem rk_207 : rk 207 = 0 := by decide
theorem kd_208 : kd 208 = 0 := by decide
theorem rk_208 : rk 208 = 0 := by decide
theorem kd_209 : kd 209 = 0 := by decide
theorem rk_209 : rk 209 = 0 := by decide
theorem kd_210 : kd 210 = 1 := by decide
theorem rk_210 : rk 210 = 2 := by decide
theorem kd_211 : kd 211 = 2 := by decide
theorem rk_211 : rk 211 = 0 := by decide
theorem kd_212 : kd 212 = 2 := by decide
theorem rk_212 : rk 212 = 0 := by decide
theorem kd_213 : kd 213 = 0 := by decide
theorem rk_213 : rk 213 = 0 := by decide
theorem kd_214 : kd 214 = 0 := by decide
theorem rk_214 : rk 214 = 0 := by decide
theorem kd_215 : kd 215 = 0 := by decide
theorem rk_215 : rk 215 = 0 := by decide
theorem kd_216 : kd 216 = 0 := by decide
theorem rk_216 : rk 216 = 0 := by decide
theorem kd_217 : kd 217 = 0 := by decide
theorem rk_217 : rk 217 = 3 := by decide
theorem kd_218 : kd 218 = 0 := by decide
theorem rk_218 : rk 218 = 0 := by decide
theorem kd_219 : kd 219 = 0 := by decide
theorem rk_219 : rk 219 = 0 := by decide
theorem kd_220 : kd 220 = 0 := by decide
theorem rk_220 : rk 220 = 0 := by decide
theorem kd_221 : kd 221 = 0 := by decide
theorem rk_221 : rk 221 = 0 := by decide
theorem kd_222 : kd 222 = 0 := by decide
theorem rk_222 : rk 222 = 0 := by decide
theorem kd_223 : kd 223 = 12 := by decide
theorem rk_223 : rk 223 = 0 := by decide
theorem kd_224 : kd 224 = 6 := by decide
theorem rk_224 : rk 224 = 0 := by decide
theorem kd_225 : kd 225 = 13 := by decide
theorem rk_225 : rk 225 = 0 := by decide
theorem kd_226 : kd 226 = 0 := by decide
theorem rk_226 : rk 226 = 0 := by decide
theorem kd_227 : kd 227 = 0 := by decide
theorem rk_227 : rk 227 = 0 := by decide
theorem kd_228 : kd 228 = 7 := by decide
theorem rk_228 : rk 228 = 6 := by decide
theorem kd_229 : kd 229 = 14 := by decide
theorem rk_229 : rk 229 = 7 := by decide
theorem kd_230 : kd 230 = 15 := by decide
theorem rk_230 : rk 230 = 0 := by decide
theorem kd_231 : kd 231 = 16 := by decide
theorem rk_231 : rk 231 = 0 := by decide
theorem kd_232 : kd 232 = 0 := by decide
theorem rk_232 : rk 232 = 0 := by decide
theorem kd_233 : kd 233 = 2 := by decide
theorem rk_233 : rk 233 = 0 := by decide
theorem kd_234 : kd 234 = 0 := by decide
theorem rk_234 : rk 234 = 0 := by decide
theorem kd_235 : kd 235 = 0 := by decide
theorem rk_235 : rk 235 = 0 := by decide
theorem kd_236 : kd 236 = 17 := by decide
theorem rk_236 : rk 236 = 0 := by decide
theorem kd_237 : kd 237 = 18 := by decide
theorem rk_237 : rk 237 = 0 := by decide
theorem kd_238 : kd 238 = 0 := by decide
theorem rk_238 : rk 238 = 0 := by decide
theorem kd_239 : kd 239 = 0 := by decide
theorem rk_239 : rk 239 = 0 := by decide
theorem kd_240 : kd 240 = 0 := by decide
theorem rk_240 : rk 240 = 0 := by decide
theorem kd_241 : kd 241 = 0 := by decide
theorem rk_241 : rk 241 = 0 := by decide
theorem kd_242 : kd 242 = 0 := by decide
theorem rk_242 : rk 242 = 0 := by decide
theorem kd_243 : kd 243 = 0 := by decide
theorem rk_243 : rk 243 = 0 := by decide
theorem kd_244 : kd 244 = 8 := by decide
theorem rk_244 : rk 244 = 0 := by decide
theorem kd_245 : kd 245 = 0 := by decide
theorem rk_245 : rk 245 = 0 := by decide
theorem kd_246 : kd 246 = 0 := by decide
theorem rk_246 : rk 246 = 0 := by decide
theorem kd_247 : kd 247 = 0 := by decide
theorem rk_247 : rk 247 = 0 := by decide
theorem kd_248 : kd 248 = 0 := by decide
theorem rk_248 : rk 248 = 0 := by decide
theorem kd_249 : kd 249 = 8 := by decide
theorem rk_249 : rk 249 = 0 := by decide
theorem lit_m1000000 : (-1000000 : Int32).toInt = -1000000 := by decide
theorem lit_m8 : (-8 : Int32).toInt = -8 := by decide
theorem lit_m2 : (-2 : Int32).toInt = -2 := by decide
theorem lit_m1 : (-1 : Int32).toInt = -1 := by decide
theorem lit_0 : (0 : Int32).toInt = 0 := by decide
theorem lit_1 : (1 : Int32).toInt = 1 := by decide
theorem lit_2 : (2 : Int32).toInt = 2 := by decide
theorem lit_3 : (3 : Int32).toInt = 3 := by decide
theorem lit_4 : (4 : Int32).toInt = 4 := by decide
theorem lit_5 : (5 : Int32).toInt = 5 := by decide
theorem lit_6 : (6 : Int32).toInt = 6 := by decide
theorem lit_7 : (7 : Int32).toInt = 7 := by decide
theorem lit_8 : (8 : Int32).toInt = 8 := by decide
theorem lit_9 : (9 : Int32).toInt = 9 := by decide
theorem lit_10 : (10 : Int32).toInt = 10 := by decide
theorem lit_11 : (11 : Int32).toInt = 11 := by decide
theorem lit_12 : (12 : Int32).toInt = 12 := by decide
theorem lit_13 : (13 : Int32).toInt = 13 := by decide
theorem lit_14 : (14 : Int32).toInt = 14 := by decide
theorem lit_15 : (15 : Int32).toInt = 15 := by decide
theorem lit_16 : (16 : Int32).toInt = 16 := by decide
theorem lit_17 : (17 : Int32).toInt = 17 := by decide
theorem lit_18 : (18 : Int32).toInt = 18 := by decide
theorem lit_19 : (19 : Int32).toInt = 19 := by decide
theorem lit_20 : (20 : Int32).toInt = 20 := by decide
theorem lit_21 : (21 : Int32).toInt = 21 := by decide
theorem lit_24 : (24 : Int32).toInt = 24 := by decide
theorem lit_30 : (30 : Int32).toInt = 30 := by decide
theorem lit_32 : (32 : Int32).toInt = 32 := by decide
theorem lit_33 : (33 : Int32).toInt = 33 := by decide
theorem lit_42 : (42 : Int32).toInt = 42 := by decide
theorem lit_48 : (48 : Int32).toInt = 48 := by decide
theorem lit_57 : (57 : Int32).toInt = 57 := by decide
theorem lit_59 : (59 : Int32).toInt = 59 := by decide
theorem lit_60 : (60 : Int32).toInt = 60 := by decide
theorem lit_63 : (63 : Int32).toInt = 63 := by decide
theorem lit_66 : (66 : Int32).toInt = 66 := by decide
theorem lit_87 : (87 : Int32).toInt = 87 := by decide
theorem lit_97 : (97 : Int32).toInt = 97 := by decide
theorem lit_100 : (100 : Int32).toInt = 100 := by decide
theorem lit_122 : (122 : Int32).toInt = 122 := by decide
theorem lit_123 : (123 : Int32).toInt = 123 := by decide
theorem lit_199 : (199 : Int32).toInt = 199 := by decide
theorem lit_200 : (200 : Int32).toInt = 200 := by decide
theorem lit_246 : (246 : Int32).toInt = 246 := by decide
theorem lit_255 : (255 : Int32).toInt = 255 := by decide
theorem lit_600 : (600 : Int32).toInt = 600 := by decide
theorem lit_999 : (999 : Int32).toInt = 999 := by decide
theorem lit_1125 : (1125 : Int32).toInt = 1125 := by decide
theorem lit_1199 : (1199 : Int32).toInt = 1199 := by decide
theorem lit_1200 : (1200 : Int32).toInt = 1200 := by decide
theorem lit_12345 : (12345 : Int32).toInt = 12345 := by decide
theorem lit_252645135 : (252645135 : Int32).toInt = 252645135 := by decide
theorem lit_858993459 : (858993459 : Int32).toInt = 858993459 := by decide
theorem lit_1103515245 : (1103515245 : Int32).toInt = 1103515245 := by decide
theorem lit_1431655765 : (1431655765 : Int32).toInt = 1431655765 := by decide
