/-! THE INVARIANT of the store -/
def kdl : List Nat := [0, 5, 6, 0, 1, 2, 2, 0, 0, 0, 0, 0, 0, 0, 0, 0, 1, 2, 2, 0, 0, 0, 0, 0, 0, 0, 0, 0, 0, 4, 0, 0, 4, 0, 0, 0, 4, 0, 0, 4, 0, 0, 7, 0, 5, 6, 0, 1, 2, 2, 0, 0, 0, 0, 0, 0, 0, 0, 0, 1, 2, 2, 0, 0, 0, 0, 0, 0, 0, 0, 0, 0, 4, 0, 0, 4, 0, 0, 0, 4, 0, 0, 4, 0, 0, 7, 5, 6, 0, 1, 2, 2, 0, 0, 0, 0, 0, 0, 0, 0, 0, 1, 2, 2, 0, 0, 0, 0, 0, 0, 0, 0, 0, 0, 4, 0, 0, 4, 0, 0, 0, 4, 0, 0, 4, 0, 0, 7, 5, 6, 0, 1, 2, 2, 0, 0, 0, 0, 0, 0, 0, 0, 0, 1, 2, 2, 0, 0, 0, 0, 0, 0, 0, 0, 0, 0, 4, 0, 0, 4, 0, 0, 0, 4, 0, 0, 4, 0, 0, 7, 8, 9, 1, 2, 2, 0, 0, 0, 0, 0, 0, 0, 0, 0, 4, 0, 0, 2, 0, 6, 0, 0, 0, 0, 0, 0, 0, 0, 10, 0, 11, 0, 0, 0, 0, 0, 0, 0, 0, 0, 1, 2, 2, 0, 0, 0, 0, 0, 0, 0, 0, 0, 0, 12, 6, 13, 0, 0, 7, 14, 15, 16, 0, 2, 0, 0, 17, 18, 0, 0, 0, 0, 0, 0, 8, 0, 0, 0, 0, 8]
def rkl : List Nat := [0, 0, 0, 0, 2, 0, 0, 0, 0, 0, 0, 3, 0, 0, 0, 0, 2, 0, 0, 0, 0, 0, 0, 3, 0, 0, 0, 0, 0, 0, 0, 0, 0, 0, 0, 0, 0, 0, 0, 0, 0, 0, 1, 0, 0, 0, 0, 2, 0, 0, 0, 0, 0, 0, 3, 0, 0, 0, 0, 2, 0, 0, 0, 0, 0, 0, 3, 0, 0, 0, 0, 0, 0, 0, 0, 0, 0, 0, 0, 0, 0, 0, 0, 0, 0, 1, 0, 0, 0, 2, 0, 0, 0, 0, 0, 0, 3, 0, 0, 0, 0, 2, 0, 0, 0, 0, 0, 0, 3, 0, 0, 0, 0, 0, 0, 0, 0, 0, 0, 0, 0, 0, 0, 0, 0, 0, 0, 1, 0, 0, 0, 2, 0, 0, 0, 0, 0, 0, 3, 0, 0, 0, 0, 2, 0, 0, 0, 0, 0, 0, 3, 0, 0, 0, 0, 0, 0, 0, 0, 0, 0, 0, 0, 0, 0, 0, 0, 0, 0, 1, 0, 4, 5, 0, 0, 0, 0, 0, 0, 3, 0, 0, 0, 0, 0, 0, 0, 0, 0, 0, 0, 0, 0, 0, 0, 0, 0, 0, 0, 0, 0, 0, 0, 0, 0, 0, 0, 0, 0, 0, 2, 0, 0, 0, 0, 0, 0, 3, 0, 0, 0, 0, 0, 8, 0, 0, 0, 0, 6, 7, 0, 0, 3, 0, 3, 0, 0, 0, 0, 0, 0, 0, 0, 0, 0, 0, 0, 0, 0, 0]
def kd (k : Nat) : Nat := kdl.getD k 0
def rk (k : Nat) : Nat := rkl.getD k 0
def lo14 (s : Nat) : Int := if s = 0 then 0 else if s = 1 then 0 else if s = 2 then 0 else if s < 7 then (-2147483648) else if s < 87 then (if (s - 7) % 5 = 0 then 0 else if (s - 7) % 5 = 1 then 0 else if (s - 7) % 5 = 3 then 0 else (-2147483648)) else (if (s - 87) % 6 = 0 then 0 else if (s - 87) % 6 = 1 then 0 else (-2147483648))
def hi14 (s : Nat) : Int := if s = 0 then 16 else if s = 1 then 6 else if s = 2 then 9 else if s < 7 then 2147483647 else if s < 87 then (if (s - 7) % 5 = 0 then 30 else if (s - 7) % 5 = 1 then 3 else if (s - 7) % 5 = 3 then 10 else 2147483647) else (if (s - 87) % 6 = 0 then 15 else if (s - 87) % 6 = 1 then 15 else 2147483647)
def lo (c j : Nat) : Int := if c = 0 then (-2147483648) else if c = 1 then (if j = 11 then 0 else if j = 12 then 0 else if j = 13 then 0 else (-2147483648)) else if c = 2 then (0) else if c = 4 then (if j = 2 then 0 else (-2147483648)) else if c = 5 then (if j = 5 then 0 else (-2147483648)) else if c = 6 then (-128) else if c = 7 then (0) else if c = 8 then (0) else if c = 9 then (if j = 5 then 0 else if j = 6 then 0 else if j = 8 then 0 else (-2147483648)) else if c = 10 then (if j = 1 then 0 else (-2147483648)) else if c = 11 then (if j = 6 then 0 else (-2147483648)) else if c = 12 then (if j = 9 then 0 else if j = 10 then 0 else if j = 11 then 0 else if j = 13 then 0 else if j = 23 then 0 else if j = 24 then 0 else if j = 25 then 0 else if j = 26 then 0 else (-2147483648)) else if c = 13 then (0) else if c = 14 then lo14 (j % 123) else if c = 15 then (if j % 33 = 0 then 0 else (-2147483648)) else if c = 16 then (if j % 21 = 0 then 0 else (-2147483648)) else if c = 17 then (0) else if c = 18 then (0) else (-2147483648)
def hi (c j : Nat) : Int := if c = 0 then 2147483647 else if c = 1 then (if j = 11 then 16 else if j = 12 then 6 else if j = 13 then 999 else 2147483647) else if c = 2 then (999) else if c = 4 then (if j = 2 then 16 else 2147483647) else if c = 5 then (if j = 5 then 600 else 2147483647) else if c = 6 then (127) else if c = 7 then (2) else if c = 8 then (1) else if c = 9 then (if j = 5 then 600 else if j = 6 then 600 else if j = 8 then 600 else 2147483647) else if c = 10 then (if j = 1 then 1125 else 2147483647) else if c = 11 then (if j = 6 then 16 else 2147483647) else if c = 12 then (if j = 9 then 600 else if j = 10 then 600 else if j = 11 then 600 else if j = 13 then 999 else if j = 23 then 1 else if j = 24 then 16 else if j = 25 then 15 else if j = 26 then 6 else 2147483647) else if c = 13 then (600) else if c = 14 then hi14 (j % 123) else if c = 15 then (if j % 33 = 0 then 16 else 2147483647) else if c = 16 then (if j % 21 = 0 then 10 else 2147483647) else if c = 17 then (30) else if c = 18 then (75) else 2147483647
/-- what an int is, as a number (the kernel must not look into it) -/
theorem ti_ex : ∃ f : Int32 → Int, ∀ x, f x = Int32.toInt x := ⟨fun x => Int32.toInt x, fun _ => rfl⟩
noncomputable def ti : Int32 → Int := Classical.choose ti_ex
theorem ti_eq (x : Int32) : ti x = Int32.toInt x := Classical.choose_spec ti_ex x
theorem tn_eq (x : Int32) : x.toNatClampNeg = (ti x).toNat := by rw [ti_eq]; rfl
def rlc (c j : Nat) : Bool := if c = 0 then false else if c = 1 then decide (j = 0) else if c = 2 then decide (j = 11 ∨ j = 12) else if c = 3 then true else if c = 4 then decide (j = 11) else if c = 5 then decide (j = 12) else if c = 6 then decide (j % 3 = 0) else if c = 8 then decide (j = 16) else decide (j % 123 = 0)
def rl (k j : Nat) : Bool := rlc (rk k) j
/-- the four States, the Lines that hold what was told (and the trial), the Lines that a call may ask, the Pairs that a call may ask -/
def isZ (S : Nat) : Prop := S = 1 ∨ S = 44 ∨ S = 86 ∨ S = 128
def isS (t : Nat) : Prop := t = 4 ∨ t = 16 ∨ t = 47 ∨ t = 59 ∨ t = 89 ∨ t = 101 ∨ t = 131 ∨ t = 143 ∨ t = 210
def isT (t : Nat) : Prop := t = 4 ∨ t = 16 ∨ t = 210
def isN (t : Nat) : Prop := t = 4 ∨ t = 16
theorem isN_T {t : Nat} (h : isN t) : isT t := by unfold isN at h; unfold isT; omega
theorem isN_lt {t : Nat} (h : isN t) : t < 171 := by unfold isN at h; omega
def isP (t : Nat) : Prop := t = 29 ∨ t = 32 ∨ t = 36 ∨ t = 39
/-- what is told so far by the reference's reader, of the sort w (0, 1, 2; 3: nothing is said) -/
def zTold (w : Nat) (σ : zSto) : Prop :=
  (w = 0 → (0 ≤ ti (σ.1 232 0) ∧ ti (σ.1 232 0) ≤ 16 ∧ 0 ≤ ti (σ.1 232 1) ∧ ti (σ.1 232 1) ≤ 6) ∧ (ti (σ.1 223 16) = 0 → (∀ j, j < 123 → lo 14 j ≤ ti (σ.1 232 j) ∧ ti (σ.1 232 j) ≤ hi 14 j) ∧ ∀ p, p < 16 → 0 ≤ ti (σ.1 234 p) ∧ ti (σ.1 234 p) ≤ 10)) ∧
  (w = 1 → 0 ≤ ti (σ.1 232 0) ∧ ti (σ.1 232 0) ≤ 16) ∧ (w = 2 → 0 ≤ ti (σ.1 232 0) ∧ ti (σ.1 232 0) ≤ 10)
def zRel (w : Nat) (σ : zSto) : Prop :=
  (∀ S, isZ S → ∀ l : Nat, l < 2 → (l : Int) < (ti (σ.1 (S + 41) 0)) → 1 ≤ (ti (σ.1 (S + 3 + 12 * l) 11))) ∧
  (∀ t, isS t → ∀ r : Nat, (r : Int) < (ti (σ.1 t 12)) → (ti (σ.1 (t + 7) r)) ≤ 15) ∧
  (w < 4 → (ti (σ.1 171 11)) = 0 → ∀ r : Nat, (r : Int) < (ti (σ.1 172 12)) → (ti (σ.1 179 r)) ≤ 15) ∧
  (∀ i l : Nat, i < 4 → l < 2 → (l : Int) < (ti (σ.1 228 (3 * i))) → 1 ≤ (ti (σ.1 229 (123 * (2 * i + l))))) ∧
  zTold w σ
def zInv (A : Nat → Nat → Prop) (F : Nat → Nat → Int32) (w : Nat) (σ : zSto) : Prop := (∀ k j, lo (kd k) j ≤ (ti (σ.1 k j)) ∧ (ti (σ.1 k j)) ≤ hi (kd k) j) ∧ (∀ k j, A k j → σ.1 k j = F k j) ∧ zRel w σ
theorem zI_k {σ : zSto} {k k' j : Nat} {v : Int32} (h : k' ≠ k) : (zI σ k j v).1 k' = σ.1 k' := by simp [zI, va_up, h]
theorem zI_s {σ : zSto} {k j : Nat} {v : Int32} : (zI σ k j v).1 k j = v := by simp [zI, va_up, upd]
theorem zI_q {σ : zSto} {k k' j j' : Nat} {v : Int32} (h : k' ≠ k ∨ j' ≠ j) : (zI σ k j v).1 k' j' = σ.1 k' j' := by
  by_cases e : k' = k
  · subst e
    have e2 : j' ≠ j := by rcases h with h | h; exact absurd rfl h; exact h
    simp [zI, va_up, upd, e2]
  · simp [zI, va_up, e]
theorem zR_k {σ : zSto} {k k' : Nat} {f : Nat → Int32} (h : k' ≠ k) : (zR σ k f).1 k' = σ.1 k' := by simp [zR, va_up, h]
theorem zR_s {σ : zSto} {k : Nat} {f : Nat → Int32} : (zR σ k f).1 k = f := by simp [zR, va_up]
theorem rl_ne {k j k' j' : Nat} (h1 : rl k' j' = true) (h2 : rl k j = false) : k' ≠ k ∨ j' ≠ j := by
  by_cases a : k' = k
  · right
    intro b
    subst a
    subst b
    rw [h1] at h2
    cases h2
  · exact Or.inl a
theorem rl_a {S : Nat} (h : isZ S) : rl (S + 41) 0 = true := by rcases h with h | h | h | h <;> subst h <;> decide
theorem rl_b {S l : Nat} (h : isZ S) (hl : l < 2) : rl (S + 3 + 12 * l) 11 = true := by
  rcases (show l = 0 ∨ l = 1 by omega) with q | q <;> subst q <;> rcases h with h | h | h | h <;> subst h <;> decide
theorem rl_c {t : Nat} (h : isS t) : rl t 12 = true := by rcases h with h | h | h | h | h | h | h | h | h <;> subst h <;> decide
theorem rl_d {t : Nat} (h : isS t) (r : Nat) : rl (t + 7) r = true := by
  have e : rk (t + 7) = 3 := by rcases h with h | h | h | h | h | h | h | h | h <;> subst h <;> decide
  unfold rl
  rw [e]
  rfl
theorem rl_179 (r : Nat) : rl 179 r = true := by
  have e : rk 179 = 3 := by decide
  unfold rl
  rw [e]
  rfl
theorem rl_228 (i : Nat) : rl 228 i = decide (i % 3 = 0) := by
  have e : rk 228 = 6 := by decide
  unfold rl
  rw [e]
  rfl
theorem rl_229 (i : Nat) : rl 229 i = decide (i % 123 = 0) := by
  have e : rk 229 = 7 := by decide
  unfold rl
  rw [e]
  rfl
theorem rl_232 (r : Nat) : rl 232 r = true := by
  have e : rk 232 = 3 := by decide
  unfold rl
  rw [e]
  rfl
theorem rl_234 (r : Nat) : rl 234 r = true := by
  have e : rk 234 = 3 := by decide
  unfold rl
  rw [e]
  rfl
theorem zTold_of {w : Nat} {σ σ' : zSto} (h : ∀ k j, rl k j = true → σ'.1 k j = σ.1 k j) (R : zTold w σ) : zTold w σ' := by
  obtain ⟨R1, R2, R3⟩ := R
  refine ⟨fun q => ?_, fun q => ?_, fun q => ?_⟩
  · rw [h 232 0 (rl_232 0), h 232 1 (rl_232 1), h 223 16 (by decide)]
    refine ⟨(R1 q).1, fun q2 => ⟨fun j hj => ?_, fun p hp => ?_⟩⟩
    · rw [h 232 j (rl_232 j)]
      exact ((R1 q).2 q2).1 j hj
    · rw [h 234 p (rl_234 p)]
      exact ((R1 q).2 q2).2 p hp
  · rw [h 232 0 (rl_232 0)]
    exact R2 q
  · rw [h 232 0 (rl_232 0)]
    exact R3 q
theorem zRel_of {w : Nat} {σ σ' : zSto} (h : ∀ k j, rl k j = true → σ'.1 k j = σ.1 k j) (R : zRel w σ) : zRel w σ' := by
  obtain ⟨R1, R2, R3, R4, R5⟩ := R
  refine ⟨fun S hS l hl q => ?_, fun t ht r q => ?_, fun hw q r q2 => ?_, fun i l hi hl q => ?_, zTold_of h R5⟩
  · rw [h _ _ (rl_a hS)] at q
    rw [h _ _ (rl_b hS hl)]
    exact R1 S hS l hl q
  · rw [h _ _ (rl_c ht)] at q
    rw [h _ _ (rl_d ht r)]
    exact R2 t ht r q
  · rw [h 171 11 (by decide)] at q
    rw [h 172 12 (by decide)] at q2
    rw [h _ _ (rl_179 r)]
    exact R3 hw q r q2
  · rw [h 228 (3 * i) (by rw [rl_228]; exact decide_eq_true (by omega))] at q
    rw [h 229 (123 * (2 * i + l)) (by rw [rl_229]; exact decide_eq_true (by omega))]
    exact R4 i l hi hl q
theorem full32 (v : Int32) : -2147483648 ≤ ti v ∧ ti v ≤ 2147483647 := by
  have h1 := Int32.le_toInt v
  have h2 := Int32.toInt_lt v
  rw [ti_eq]
  exact ⟨by omega, by omega⟩
theorem wI {A : Nat → Nat → Prop} {F : Nat → Nat → Int32} {w : Nat} {σ : zSto} {k j : Nat} {v : Int32} (I : zInv A F w σ) (hA : ¬ A k j) (hr : rl k j = false) (h : lo (kd k) j ≤ (ti v) ∧ (ti v) ≤ hi (kd k) j) : zInv A F w (zI σ k j v) := by
  refine ⟨fun k' j' => ?_, fun k' j' hk' => ?_, zRel_of (fun k' j' q => zI_q (rl_ne q hr)) I.2.2⟩
  · by_cases e : k' = k ∧ j' = j
    · obtain ⟨e1, e2⟩ := e
      subst e1
      subst e2
      rw [zI_s]
      exact h
    · rw [zI_q (by omega)]
      exact I.1 k' j'
  · rw [zI_q (by by_cases e : k' = k; exact Or.inr (fun e2 => hA (by rw [← e, ← e2]; exact hk')); exact Or.inl e)]
    exact I.2.1 k' j' hk'
theorem rl0 {k j : Nat} (h : rk k = 0) : rl k j = false := by
  unfold rl
  rw [h]
  rfl
theorem wI0 {A : Nat → Nat → Prop} {F : Nat → Nat → Int32} {w : Nat} {σ : zSto} {k j : Nat} {v : Int32} (I : zInv A F w σ) (hA : ¬ A k j) (hr : rk k = 0) (hk : kd k = 0) : zInv A F w (zI σ k j v) := wI I hA (rl0 hr) (by rw [hk]; exact full32 v)
theorem wIr {A : Nat → Nat → Prop} {F : Nat → Nat → Int32} {w : Nat} {σ : zSto} {k j c : Nat} {a b : Int} {v : Int32} (I : zInv A F w σ) (hA : ¬ A k j) (hr : rl k j = false) (hk : kd k = c) (ha : lo c j = a) (hb : hi c j = b) (h : a ≤ (ti v) ∧ (ti v) ≤ b) : zInv A F w (zI σ k j v) := wI I hA hr (by rw [hk, ha, hb]; exact h)
theorem wJ {A : Nat → Nat → Prop} {F : Nat → Nat → Int32} {w : Nat} {σ : zSto} {k j : Nat} {v : Int64} (I : zInv A F w σ) : zInv A F w (zJ σ k j v) := I
theorem rdr {A : Nat → Nat → Prop} {F : Nat → Nat → Int32} {w : Nat} {σ : zSto} {k j c : Nat} {a b : Int} (I : zInv A F w σ) (hk : kd k = c) (ha : lo c j = a) (hb : hi c j = b) : a ≤ (ti (σ.1 k j)) ∧ (ti (σ.1 k j)) ≤ b := by
  have h := I.1 k j
  rw [hk, ha, hb] at h
  exact h
/-- what may be written -/
def okC (A : Nat → Nat → Prop) : Prop := ∀ k j, A k j → ¬ (171 ≤ k ∧ k < 223)
def okR (A : Nat → Nat → Prop) : Prop := ∀ k j, A k j → ¬ ((k = 223 ∧ j ≠ 46 ∧ j ≠ 47) ∨ (232 ≤ k ∧ k < 249))
theorem pC {A : Nat → Nat → Prop} {k j : Nat} (h : okC A) (q : 171 ≤ k ∧ k < 223) : ¬ A k j := fun a => h k j a q
theorem pR {A : Nat → Nat → Prop} {k j : Nat} (h : okR A) (q : 232 ≤ k ∧ k < 249) : ¬ A k j := fun a => h k j a (Or.inr q)
theorem pRo {A : Nat → Nat → Prop} {j : Nat} (h : okR A) (q : j ≠ 46 ∧ j ≠ 47) : ¬ A 223 j := fun a => h 223 j a (Or.inl ⟨rfl, q⟩)
def okN (A : Nat → Nat → Prop) : Prop := ∀ k j, A k j → ¬ (1 ≤ k ∧ k < 43)
def okI (A : Nat → Nat → Prop) : Prop := ∀ k j, A k j → ¬ (44 ≤ k ∧ k < 171)
def okM (A : Nat → Nat → Prop) : Prop := ∀ k j, A k j → ¬ (224 ≤ k ∧ k < 232)
def okV (A : Nat → Nat → Prop) : Prop := ∀ j, ¬ A 249 j
def okH (A : Nat → Nat → Prop) : Prop := ∀ j, (j = 46 ∨ j = 47) → ¬ A 223 j
theorem pN {A : Nat → Nat → Prop} {k j : Nat} (h : okN A) (q : 1 ≤ k ∧ k < 43) : ¬ A k j := fun a => h k j a q
theorem pI {A : Nat → Nat → Prop} {k j : Nat} (h : okI A) (q : 44 ≤ k ∧ k < 171) : ¬ A k j := fun a => h k j a q
theorem pM {A : Nat → Nat → Prop} {k j : Nat} (h : okM A) (q : 224 ≤ k ∧ k < 232) : ¬ A k j := fun a => h k j a q
/-- a frame around a call: what is more to be kept -/
def Ax (A B : Nat → Nat → Prop) : Nat → Nat → Prop := fun k j => A k j ∨ B k j
theorem inv_x {A B : Nat → Nat → Prop} {F : Nat → Nat → Int32} {w : Nat} {σ : zSto} (I : zInv A F w σ) : zInv (Ax A B) σ.1 w σ := ⟨I.1, fun _ _ _ => rfl, I.2.2⟩
theorem inv_y {A B : Nat → Nat → Prop} {F : Nat → Nat → Int32} {w : Nat} {σ σ2 : zSto} (I : zInv A F w σ) (I2 : zInv (Ax A B) σ.1 w σ2) : zInv A F w σ2 := ⟨I2.1, fun k j h => (I2.2.1 k j (Or.inl h)).trans (I.2.1 k j h), I2.2.2⟩
theorem inv_e {A B : Nat → Nat → Prop} {F : Nat → Nat → Int32} {w : Nat} {σ2 : zSto} (I2 : zInv (Ax A B) F w σ2) {k j : Nat} (h : B k j) : σ2.1 k j = F k j := I2.2.1 k j (Or.inr h)
def B46 : Nat → Nat → Prop := fun k j => k = 223 ∧ j = 46
def B47 : Nat → Nat → Prop := fun k j => k = 223 ∧ j = 47
def BN : Nat → Nat → Prop := fun k _ => k < 171
def okQ (A : Nat → Nat → Prop) : Prop := ∀ j, ¬ A 171 j
theorem okC_Q {A : Nat → Nat → Prop} (h : okC A) : okQ A := fun j a => h 171 j a (by decide)
def BL : Nat → Nat → Prop := fun k _ => 172 ≤ k ∧ k < 187
theorem okQ_L {A : Nat → Nat → Prop} (h : okQ A) : okQ (Ax A BL) := by
  rintro j (a | b)
  · exact h j a
  · have : 172 ≤ 171 ∧ 171 < 187 := b
    omega
def okK (A : Nat → Nat → Prop) : Prop := ∀ j, (j = 9 ∨ j = 11 ∨ j = 12 ∨ j = 13) → ¬ A 223 j
def okJ (A : Nat → Nat → Prop) : Prop := ∀ j, (j = 16 ∨ j = 17) → ¬ A 223 j
theorem okR_K {A : Nat → Nat → Prop} (h : okR A) : okK A := fun j q a => h 223 j a (Or.inl ⟨rfl, by omega, by omega⟩)
theorem okR_J {A : Nat → Nat → Prop} (h : okR A) : okJ A := fun j q a => h 223 j a (Or.inl ⟨rfl, by omega, by omega⟩)
/-- what a token leaves: the FAULT found later, the rows told and read; what a FAULT leaves: where the reader is, the rows -/
def BT : Nat → Nat → Prop := fun k j => (k = 223 ∧ j = 16) ∨ 232 ≤ k
def BF : Nat → Nat → Prop := fun k j => (k = 223 ∧ (j = 9 ∨ j = 11 ∨ j = 12 ∨ j = 13)) ∨ 232 ≤ k
theorem okK_T {A : Nat → Nat → Prop} (h : okK A) : okK (Ax A BT) := by
  rintro j q (a | b | b)
  · exact h j q a
  · omega
  · omega
theorem okJ_F {A : Nat → Nat → Prop} (h : okJ A) : okJ (Ax A BF) := by
  rintro j q (a | b | b)
  · exact h j q a
  · omega
  · omega
theorem okR_46 {A : Nat → Nat → Prop} (h : okR A) : okR (Ax A B46) := by
  rintro k j (a | ⟨b, c⟩) q
  · exact h k j a q
  · omega
theorem okR_47 {A : Nat → Nat → Prop} (h : okR A) : okR (Ax A B47) := by
  rintro k j (a | ⟨b, c⟩) q
  · exact h k j a q
  · omega
theorem okC_N {A : Nat → Nat → Prop} (h : okC A) : okC (Ax A BN) := by
  rintro k j (a | b) q
  · exact h k j a q
  · have : k < 171 := b
    omega
theorem off_le {A : Nat → Nat → Prop} {F : Nat → Nat → Int32} {w : Nat} {σ : zSto} {t : Nat} {a : Int32} (I : zInv A F w σ) (h : isS t) (h1 : 0 ≤ (ti a)) (h2 : (ti a) < (ti (σ.1 t 12))) : (ti (σ.1 (t + 7) a.toNatClampNeg)) ≤ 15 := I.2.2.2.1 t h a.toNatClampNeg (by rw [tn_eq]; omega)
/-! numbers -/
theorem tadd {x y : Int32} (h : -2147483648 ≤ ti x + ti y ∧ ti x + ti y ≤ 2147483647) : ti (x + y) = ti x + ti y := by
  simp only [ti_eq] at *
  rw [Int32.toInt_add]
  exact Int.bmod_eq_of_le (by omega) (by omega)
theorem tsub {x y : Int32} (h : -2147483648 ≤ ti x - ti y ∧ ti x - ti y ≤ 2147483647) : ti (x - y) = ti x - ti y := by
  simp only [ti_eq] at *
  rw [Int32.toInt_sub]
  exact Int.bmod_eq_of_le (by omega) (by omega)
theorem tmul {x y : Int32} (h : -2147483648 ≤ ti x * ti y ∧ ti x * ti y ≤ 2147483647) : ti (x * y) = ti x * ti y := by
  simp only [ti_eq] at *
  rw [Int32.toInt_mul]
  exact Int.bmod_eq_of_le (by omega) (by omega)
/-- by a number: linear -/
theorem tmulr {x y : Int32} (c : Int) (e : ti y = c) (h : -2147483648 ≤ ti x * c ∧ ti x * c ≤ 2147483647) : ti (x * y) = ti x * c := by rw [tmul (by rw [e]; exact h), e]
theorem tmull {x y : Int32} (c : Int) (e : ti x = c) (h : -2147483648 ≤ c * ti y ∧ c * ti y ≤ 2147483647) : ti (x * y) = c * ti y := by rw [tmul (by rw [e]; exact h), e]
theorem lt_t {x y : Int32} (q : x < y) : ti x < ti y := by rw [ti_eq, ti_eq]; exact Int32.lt_iff_toInt_lt.mp q
theorem le_t {x y : Int32} (q : x ≤ y) : ti x ≤ ti y := by rw [ti_eq, ti_eq]; exact Int32.le_iff_toInt_le.mp q
theorem nlt_t {x y : Int32} (q : ¬ x < y) : ti y ≤ ti x := by rw [ti_eq, ti_eq]; exact Int.not_lt.mp (fun h => q (Int32.lt_iff_toInt_lt.mpr h))
theorem nle_t {x y : Int32} (q : ¬ x ≤ y) : ti y < ti x := by rw [ti_eq, ti_eq]; exact Int.not_le.mp (fun h => q (Int32.le_iff_toInt_le.mpr h))
theorem eq_t {x y : Int32} (q : x = y) : ti x = ti y := congrArg ti q
theorem t_inj {x y : Int32} (h : ti x = ti y) : x = y := by rw [ti_eq, ti_eq] at h; exact Int32.toInt_inj.mp h
theorem ne_t {x y : Int32} (q : ¬ x = y) : ti x ≠ ti y := fun h => q (t_inj h)
theorem ne_of_t {x y : Int32} (q : ti x ≠ ti y) : ¬ x = y := fun h => q (congrArg ti h)
theorem t_lt {x y : Int32} (q : ti x < ti y) : x < y := by rw [ti_eq, ti_eq] at q; exact Int32.lt_iff_toInt_lt.mpr q
theorem t_le {x y : Int32} (q : ti x ≤ ti y) : x ≤ y := by rw [ti_eq, ti_eq] at q; exact Int32.le_iff_toInt_le.mpr q
theorem z0_t : ti (0 : Int32) = 0 := by rw [ti_eq]; decide
theorem vin {x : Int32} {n : Nat} (h : 0 ≤ ti x ∧ ti x < n) : vp_in x n := by
  rintro (q | q)
  · have := lt_t q
    have e := z0_t
    omega
  · have e := tn_eq x
    omega
theorem tite {c : Prop} [Decidable c] {a b : Int32} {Q : Int32 → Prop} (h1 : c → Q a) (h2 : ¬ c → Q b) : Q (if c then a else b) := by
  by_cases q : c
  · rw [if_pos q]; exact h1 q
  · rw [if_neg q]; exact h2 q
theorem bool_t {r : Int32} (h : r = 0 ∨ r = 1) : 0 ≤ ti r ∧ ti r ≤ 1 := by
  rw [ti_eq]
  rcases h with h | h <;> subst h <;> decide
theorem toNI {x : Int32} (h : 0 ≤ ti x) : x = nI (ti x).toNat := by
  have h2 := (full32 x).2
  simp only [ti_eq] at *
  apply Int32.toInt_inj.mp
  show x.toInt = (Int32.ofNat x.toInt.toNat).toInt
  rw [Int32.toInt_ofNat_of_lt (by omega)]
  omega
theorem nI_t {n : Nat} (h : n < 2147483648) : ti (nI n) = n := by rw [ti_eq]; exact Int32.toInt_ofNat_of_lt (by omega)
theorem and_rg (x : Int32) {m : Int32} (k n : Nat) (hn : n = 2 ^ k) (hm : m.toBitVec.toNat = 2 ^ k - 1) (hk : k ≤ 30) : 0 ≤ ti (x &&& m) ∧ ti (x &&& m) < (n : Int) := by
  obtain ⟨j, hj, e⟩ := pk_andE x k hm
  have : (2 : Nat) ^ k ≤ 2 ^ 30 := Nat.pow_le_pow_right (by decide) hk
  rw [← hn] at hj this
  rw [e, nI_t (by omega)]
  omega
theorem shl1_rg {x : Int32} (h : 0 ≤ ti x ∧ ti x ≤ 16) : ti ((1 : Int32) <<< (x &&& 31)) = 2 ^ (ti x).toNat ∧ 1 ≤ ti ((1 : Int32) <<< (x &&& 31)) ∧ ti ((1 : Int32) <<< (x &&& 31)) ≤ 65536 := by
  have e := toNI h.1
  obtain ⟨n, hn⟩ : ∃ n, n = (ti x).toNat := ⟨_, rfl⟩
  rw [← hn] at e ⊢
  have h2 : n ≤ 16 := by omega
  rw [e, ti_eq]
  have : ∀ n : Fin 17, ((1 : Int32) <<< (nI n.val &&& 31)).toInt = 2 ^ n.val ∧ 1 ≤ ((1 : Int32) <<< (nI n.val &&& 31)).toInt ∧ ((1 : Int32) <<< (nI n.val &&& 31)).toInt ≤ 65536 := by decide
  exact this ⟨n, by omega⟩
theorem shl1_6 {x : Int32} (h : 0 ≤ ti x ∧ ti x ≤ 6) : 1 ≤ ti ((1 : Int32) <<< (x &&& 31)) ∧ ti ((1 : Int32) <<< (x &&& 31)) ≤ 64 := by
  have e := toNI h.1
  obtain ⟨n, hn⟩ : ∃ n, n = (ti x).toNat := ⟨_, rfl⟩
  rw [← hn] at e
  rw [e, ti_eq]
  have : ∀ n : Fin 7, 1 ≤ ((1 : Int32) <<< (nI n.val &&& 31)).toInt ∧ ((1 : Int32) <<< (nI n.val &&& 31)).toInt ≤ 64 := by decide
  exact this ⟨n, by omega⟩
theorem shl1_5 {x : Int32} (h : 0 ≤ ti x ∧ ti x ≤ 5) : 1 ≤ ti ((1 : Int32) <<< (x &&& 31)) ∧ ti ((1 : Int32) <<< (x &&& 31)) ≤ 32 := by
  have e := toNI h.1
  obtain ⟨n, hn⟩ : ∃ n, n = (ti x).toNat := ⟨_, rfl⟩
  rw [← hn] at e
  rw [e, ti_eq]
  have : ∀ n : Fin 6, 1 ≤ ((1 : Int32) <<< (nI n.val &&& 31)).toInt ∧ ((1 : Int32) <<< (nI n.val &&& 31)).toInt ≤ 32 := by decide
  exact this ⟨n, by omega⟩
theorem shl1_15 {x : Int32} (h : 0 ≤ ti x ∧ ti x ≤ 15) : 1 ≤ ti ((1 : Int32) <<< (x &&& 31)) ∧ ti ((1 : Int32) <<< (x &&& 31)) ≤ 32768 := by
  have e := toNI h.1
  obtain ⟨n, hn⟩ : ∃ n, n = (ti x).toNat := ⟨_, rfl⟩
  rw [← hn] at e
  rw [e, ti_eq]
  have : ∀ n : Fin 16, 1 ≤ ((1 : Int32) <<< (nI n.val &&& 31)).toInt ∧ ((1 : Int32) <<< (nI n.val &&& 31)).toInt ≤ 32768 := by decide
  exact this ⟨n, by omega⟩
theorem nI_or (a b : Nat) : nI a ||| nI b = nI (a ||| b) := by
  apply Int32.toBitVec_inj.1
  show BitVec.ofNat 32 a ||| BitVec.ofNat 32 b = BitVec.ofNat 32 (a ||| b)
  apply BitVec.eq_of_getLsbD_eq
  intro i hi
  simp [BitVec.getLsbD_ofNat, Nat.testBit_or, hi]
theorem or_rg {x y : Int32} (h : 0 ≤ ti x ∧ ti x ≤ 65535) (k : 0 ≤ ti y ∧ ti y ≤ 65535) : 0 ≤ ti (x ||| y) ∧ ti (x ||| y) ≤ 65535 := by
  obtain ⟨a, ha⟩ : ∃ n, n = (ti x).toNat := ⟨_, rfl⟩
  obtain ⟨b, hb⟩ : ∃ n, n = (ti y).toNat := ⟨_, rfl⟩
  have e1 := toNI h.1
  have e2 := toNI k.1
  rw [← ha] at e1
  rw [← hb] at e2
  have h3 : a ||| b < 2 ^ 16 := Nat.or_lt_two_pow (by omega) (by omega)
  have e3 : x ||| y = nI (a ||| b) := by rw [e1, e2]; exact (nI_or a b)
  rw [e3, nI_t (by omega)]
  omega
theorem nI_xor (a b : Nat) : nI a ^^^ nI b = nI (a ^^^ b) := by
  apply Int32.toBitVec_inj.1
  show BitVec.ofNat 32 a ^^^ BitVec.ofNat 32 b = BitVec.ofNat 32 (a ^^^ b)
  apply BitVec.eq_of_getLsbD_eq
  intro i hi
  simp [BitVec.getLsbD_ofNat, Nat.testBit_xor, hi]
theorem zel_of {a : Int32} {fds : List (Nat × Nat)} {m : Int} (z : (ti a) = m) : zel fds a = (fds.getD m.toNat (0, 0)).2 := by
  unfold zel
  rw [tn_eq, z]
theorem xor_rg {x y : Int32} (h : 0 ≤ (ti x) ∧ (ti x) < 64) (k : 0 ≤ (ti y) ∧ (ti y) < 64) : 0 ≤ (ti (x ^^^ y)) ∧ (ti (x ^^^ y)) < 64 := by
  obtain ⟨a, ha⟩ : ∃ n, n = (ti x).toNat := ⟨_, rfl⟩
  obtain ⟨b, hb⟩ : ∃ n, n = (ti y).toNat := ⟨_, rfl⟩
  have e1 := toNI h.1
  have e2 := toNI k.1
  rw [← ha] at e1
  rw [← hb] at e2
  have h3 : a ^^^ b < 2 ^ 6 := Nat.xor_lt_two_pow (by omega) (by omega)
  have e3 : x ^^^ y = nI (a ^^^ b) := by rw [e1, e2]; exact (nI_xor a b)
  rw [e3, nI_t (by omega)]
  omega
theorem nar_b (x : Int32) : -128 ≤ ti (vp_nar .byte x) ∧ ti (vp_nar .byte x) ≤ 127 := by
  rw [ti_eq]
  show -128 ≤ (x.toInt8.toInt32).toInt ∧ (x.toInt8.toInt32).toInt ≤ 127
  rw [Int8.toInt_toInt32]
  have h1 := Int8.le_toInt x.toInt8
  have h2 := Int8.toInt_lt x.toInt8
  omega
theorem isT_S {t : Nat} (h : isT t) : isS t := by unfold isT at h; unfold isS; omega
theorem isT_0 {t : Nat} (h : isT t) : kd t = 1 := by rcases h with h | h | h <;> subst h <;> decide
theorem isT_1 {t : Nat} (h : isT t) : kd (t + 1) = 2 := by rcases h with h | h | h <;> subst h <;> decide
theorem isT_2 {t : Nat} (h : isT t) : kd (t + 2) = 2 := by rcases h with h | h | h <;> subst h <;> decide
theorem isT_lt {t : Nat} (h : isT t) : t < 223 := by rcases h with h | h | h <;> subst h <;> decide
theorem isP_0 {t : Nat} (h : isP t) : kd t = 4 := by rcases h with h | h | h | h <;> subst h <;> decide
theorem isT_L {t : Nat} (h : isT t) : zIsLine t := by
  rcases h with h | h | h <;> subst h
  · exact zIsLine_4
  · exact zIsLine_16
  · exact zIsLine_210
theorem isP_P {t : Nat} (h : isP t) : zIsPairs t := by
  rcases h with h | h | h | h <;> subst h
  · exact zIsPairs_29
  · exact zIsPairs_32
  · exact zIsPairs_36
  · exact zIsPairs_39
theorem lgc_ne {x : Int64} (h : ¬ lg_cmp x (0 : Int64) = 0) : ¬ x = 0 := fun e => h (by rw [e]; decide)
theorem log_le {A : Nat → Nat → Prop} {F : Nat → Nat → Int32} {w : Nat} {σ : zSto} (I : zInv A F w σ) {x : Int32} (h : 0 ≤ ti x ∧ ti x ≤ 1) : 0 ≤ ti (σ.1 231 ((21 : Int32) * x).toNatClampNeg) ∧ ti (σ.1 231 ((21 : Int32) * x).toNatClampNeg) ≤ 10 := by
  have t := tmull (x := (21 : Int32)) (y := x) 21 (by rw [ti_eq]; decide) (by omega)
  have tn := tn_eq ((21 : Int32) * x)
  have d := I.1 231 ((21 : Int32) * x).toNatClampNeg
  rw [show kd 231 = 16 by decide] at d
  have e : ((21 : Int32) * x).toNatClampNeg % 21 = 0 := by omega
  simp only [lo, hi, e] at d
  exact d
theorem plan_le {A : Nat → Nat → Prop} {F : Nat → Nat → Int32} {w : Nat} {σ : zSto} (I : zInv A F w σ) {x : Int32} (h : 0 ≤ ti x ∧ ti x ≤ 1) : 0 ≤ ti (σ.1 230 ((33 : Int32) * x).toNatClampNeg) ∧ ti (σ.1 230 ((33 : Int32) * x).toNatClampNeg) ≤ 16 := by
  have t := tmull (x := (33 : Int32)) (y := x) 33 (by rw [ti_eq]; decide) (by omega)
  have tn := tn_eq ((33 : Int32) * x)
  have d := I.1 230 ((33 : Int32) * x).toNatClampNeg
  rw [show kd 230 = 15 by decide] at d
  have e : ((33 : Int32) * x).toNatClampNeg % 33 = 0 := by omega
  simp only [lo, hi, e] at d
  exact d
def plr (σ : zSto) (k i : Int32) : Int32 := σ.1 230 (((((33 : Int32) * (σ.1 223 46)) + (1 : Int32)) + ((2 : Int32) * k)) + i).toNatClampNeg
def sor (σ : zSto) (k i : Int32) : Int32 := σ.1 231 (((((21 : Int32) * (σ.1 223 47)) + (1 : Int32)) + ((2 : Int32) * k)) + i).toNatClampNeg
def sev (σ : zSto) : Int32 := if (σ.1 223 10) ≤ (σ.1 223 9) then (-1 : Int32) else (σ.1 224 ((σ.1 223 9)).toNatClampNeg) &&& (255 : Int32)
theorem kd_0 : kd 0 = 0 := by decide
theorem rk_0 : rk 0 = 0 := by decide
theorem kd_1 : kd 1 = 5 := by decide
theorem rk_1 : rk 1 = 0 := by decide
theorem kd_2 : kd 2 = 6 := by decide
theorem rk_2 : rk 2 = 0 := by decide
theorem kd_3 : kd 3 = 0 := by decide
theorem rk_3 : rk 3 = 0 := by decide
theorem kd_4 : kd 4 = 1 := by decide
theorem rk_4 : rk 4 = 2 := by decide
theorem kd_5 : kd 5 = 2 := by decide
theorem rk_5 : rk 5 = 0 := by decide
theorem kd_6 : kd 6 = 2 := by decide
theorem rk_6 : rk 6 = 0 := by decide
theorem kd_7 : kd 7 = 0 := by decide
theorem rk_7 : rk 7 = 0 := by decide
theorem kd_8 : kd 8 = 0 := by decide
theorem rk_8 : rk 8 = 0 := by decide
theorem kd_9 : kd 9 = 0 := by decide
theorem rk_9 : rk 9 = 0 := by decide
theorem kd_10 : kd 10 = 0 := by decide
theorem rk_10 : rk 10 = 0 := by decide
theorem kd_11 : kd 11 = 0 := by decide
theorem rk_11 : rk 11 = 3 := by decide
theorem kd_12 : kd 12 = 0 := by decide
theorem rk_12 : rk 12 = 0 := by decide
theorem kd_13 : kd 13 = 0 := by decide
theorem rk_13 : rk 13 = 0 := by decide
theorem kd_14 : kd 14 = 0 := by decide
theorem rk_14 : rk 14 = 0 := by decide
theorem kd_15 : kd 15 = 0 := by decide
theorem rk_15 : rk 15 = 0 := by decide
theorem kd_16 : kd 16 = 1 := by decide
theorem rk_16 : rk 16 = 2 := by decide
theorem kd_17 : kd 17 = 2 := by decide
theorem rk_17 : rk 17 = 0 := by decide
theorem kd_18 : kd 18 = 2 := by decide
theorem rk_18 : rk 18 = 0 := by decide
theorem kd_19 : kd 19 = 0 := by decide
theorem rk_19 : rk 19 = 0 := by decide
theorem kd_20 : kd 20 = 0 := by decide
theorem rk_20 : rk 20 = 0 := by decide
theorem kd_21 : kd 21 = 0 := by decide
theorem rk_21 : rk 21 = 0 := by decide
theorem kd_22 : kd 22 = 0 := by decide
theorem rk_22 : rk 22 = 0 := by decide
theorem kd_23 : kd 23 = 0 := by decide
theorem rk_23 : rk 23 = 3 := by decide
theorem kd_24 : kd 24 = 0 := by decide
theorem rk_24 : rk 24 = 0 := by decide
theorem kd_25 : kd 25 = 0 := by decide
theorem rk_25 : rk 25 = 0 := by decide
theorem kd_26 : kd 26 = 0 := by decide
theorem rk_26 : rk 26 = 0 := by decide
theorem kd_27 : kd 27 = 0 := by decide
theorem rk_27 : rk 27 = 0 := by decide
theorem kd_28 : kd 28 = 0 := by decide
theorem rk_28 : rk 28 = 0 := by decide
theorem kd_29 : kd 29 = 4 := by decide
theorem rk_29 : rk 29 = 0 := by decide
theorem kd_30 : kd 30 = 0 := by decide
theorem rk_30 : rk 30 = 0 := by decide
theorem kd_31 : kd 31 = 0 := by decide
theorem rk_31 : rk 31 = 0 := by decide
theorem kd_32 : kd 32 = 4 := by decide
theorem rk_32 : rk 32 = 0 := by decide
theorem kd_33 : kd 33 = 0 := by decide
theorem rk_33 : rk 33 = 0 := by decide
theorem kd_34 : kd 34 = 0 := by decide
theorem rk_34 : rk 34 = 0 := by decide
theorem kd_35 : kd 35 = 0 := by decide
theorem rk_35 : rk 35 = 0 := by decide
theorem kd_36 : kd 36 = 4 := by decide
theorem rk_36 : rk 36 = 0 := by decide
theorem kd_37 : kd 37 = 0 := by decide
theorem rk_37 : rk 37 = 0 := by decide
theorem kd_38 : kd 38 = 0 := by decide
theorem rk_38 : rk 38 = 0 := by decide
theorem kd_39 : kd 39 = 4 := by decide
theorem rk_39 : rk 39 = 0 := by decide
theorem kd_40 : kd 40 = 0 := by decide
theorem rk_40 : rk 40 = 0 := by decide
theorem kd_41 : kd 41 = 0 := by decide
theorem rk_41 : rk 41 = 0 := by decide
theorem kd_42 : kd 42 = 7 := by decide
theorem rk_42 : rk 42 = 1 := by decide
theorem kd_43 : kd 43 = 0 := by decide
theorem rk_43 : rk 43 = 0 := by decide
theorem kd_44 : kd 44 = 5 := by decide
theorem rk_44 : rk 44 = 0 := by decide
theorem kd_45 : kd 45 = 6 := by decide
theorem rk_45 : rk 45 = 0 := by decide
theorem kd_46 : kd 46 = 0 := by decide
theorem rk_46 : rk 46 = 0 := by decide
theorem kd_47 : kd 47 = 1 := by decide
theorem rk_47 : rk 47 = 2 := by decide
theorem kd_48 : kd 48 = 2 := by decide
theorem rk_48 : rk 48 = 0 := by decide
theorem kd_49 : kd 49 = 2 := by decide
theorem rk_49 : rk 49 = 0 := by decide
theorem kd_50 : kd 50 = 0 := by decide
theorem rk_50 : rk 50 = 0 := by decide
theorem kd_51 : kd 51 = 0 := by decide
theorem rk_51 : rk 51 = 0 := by decide
theorem kd_52 : kd 52 = 0 := by decide
theorem rk_52 : rk 52 = 0 := by decide
theorem kd_53 : kd 53 = 0 := by decide
theorem rk_53 : rk 53 = 0 := by decide
theorem kd_54 : kd 54 = 0 := by decide
theorem rk_54 : rk 54 = 3 := by decide
theorem kd_55 : kd 55 = 0 := by decide
theorem rk_55 : rk 55 = 0 := by decide
theorem kd_56 : kd 56 = 0 := by decide
theorem rk_56 : rk 56 = 0 := by decide
theorem kd_57 : kd 57 = 0 := by decide
theorem rk_57 : rk 57 = 0 := by decide
theorem kd_58 : kd 58 = 0 := by decide
theorem rk_58 : rk 58 = 0 := by decide
theorem kd_59 : kd 59 = 1 := by decide
theorem rk_59 : rk 59 = 2 := by decide
theorem kd_60 : kd 60 = 2 := by decide
theorem rk_60 : rk 60 = 0 := by decide
theorem kd_61 : kd 61 = 2 := by decide
theorem rk_61 : rk 61 = 0 := by decide
theorem kd_62 : kd 62 = 0 := by decide
theorem rk_62 : rk 62 = 0 := by decide
theorem kd_63 : kd 63 = 0 := by decide
theorem rk_63 : rk 63 = 0 := by decide
theorem kd_64 : kd 64 = 0 := by decide
theorem rk_64 : rk 64 = 0 := by decide
theorem kd_65 : kd 65 = 0 := by decide
theorem rk_65 : rk 65 = 0 := by decide
theorem kd_66 : kd 66 = 0 := by decide
theorem rk_66 : rk 66 = 3 := by decide
theorem kd_67 : kd 67 = 0 := by decide
theorem rk_67 : rk 67 = 0 := by decide
theorem kd_68 : kd 68 = 0 := by decide
theorem rk_68 : rk 68 = 0 := by decide
theorem kd_69 : kd 69 = 0 := by decide
theorem rk_69 : rk 69 = 0 := by decide
theorem kd_70 : kd 70 = 0 := by decide
theorem rk_70 : rk 70 = 0 := by decide
theorem kd_71 : kd 71 = 0 := by decide
theorem rk_71 : rk 71 = 0 := by decide
theorem kd_72 : kd 72 = 4 := by decide
theorem rk_72 : rk 72 = 0 := by decide
theorem kd_73 : kd 73 = 0 := by decide
theorem rk_73 : rk 73 = 0 := by decide
theorem kd_74 : kd 74 = 0 := by decide
theorem rk_74 : rk 74 = 0 := by decide
theorem kd_75 : kd 75 = 4 := by decide
theorem rk_75 : rk 75 = 0 := by decide
theorem kd_76 : kd 76 = 0 := by decide
theorem rk_76 : rk 76 = 0 := by decide
theorem kd_77 : kd 77 = 0 := by decide
theorem rk_77 : rk 77 = 0 := by decide
theorem kd_78 : kd 78 = 0 := by decide
theorem rk_78 : rk 78 = 0 := by decide
theorem kd_79 : kd 79 = 4 := by decide
theorem rk_79 : rk 79 = 0 := by decide
theorem kd_80 : kd 80 = 0 := by decide
theorem rk_80 : rk 80 = 0 := by decide
theorem kd_81 : kd 81 = 0 := by decide
theorem rk_81 : rk 81 = 0 := by decide
theorem kd_82 : kd 82 = 4 := by decide
theorem rk_82 : rk 82 = 0 := by decide
theorem kd_83 : kd 83 = 0 := by decide
theorem rk_83 : rk 83 = 0 := by decide
theorem kd_84 : kd 84 = 0 := by decide
theorem rk_84 : rk 84 = 0 := by decide
theorem kd_85 : kd 85 = 7 := by decide
theorem rk_85 : rk 85 = 1 := by decide
theorem kd_86 : kd 86 = 5 := by decide
theorem rk_86 : rk 86 = 0 := by decide
theorem kd_87 : kd 87 = 6 := by decide
theorem rk_87 : rk 87 = 0 := by decide
theorem kd_88 : kd 88 = 0 := by decide
theorem rk_88 : rk 88 = 0 := by decide
theorem kd_89 : kd 89 = 1 := by decide
theorem rk_89 : rk 89 = 2 := by decide
theorem kd_90 : kd 90 = 2 := by decide
theorem rk_90 : rk 90 = 0 := by decide
theorem kd_91 : kd 91 = 2 := by decide
theorem rk_91 : rk 91 = 0 := by decide
theorem kd_92 : kd 92 = 0 := by decide
theorem rk_92 : rk 92 = 0 := by decide
theorem kd_93 : kd 93 = 0 := by decide
theorem rk_93 : rk 93 = 0 := by decide
theorem kd_94 : kd 94 = 0 := by decide
theorem rk_94 : rk 94 = 0 := by decide
theorem kd_95 : kd 95 = 0 := by decide
theorem rk_95 : rk 95 = 0 := by decide
theorem kd_96 : kd 96 = 0 := by decide
theorem rk_96 : rk 96 = 3 := by decide
theorem kd_97 : kd 97 = 0 := by decide
theorem rk_97 : rk 97 = 0 := by decide
theorem kd_98 : kd 98 = 0 := by decide
theorem rk_98 : rk 98 = 0 := by decide
theorem kd_99 : kd 99 = 0 := by decide
theorem rk_99 : rk 99 = 0 := by decide
theorem kd_100 : kd 100 = 0 := by decide
theorem rk_100 : rk 100 = 0 := by decide
theorem kd_101 : kd 101 = 1 := by decide
theorem rk_101 : rk 101 = 2 := by decide
theorem kd_102 : kd 102 = 2 := by decide
theorem rk_102 : rk 102 = 0 := by decide
theorem kd_103 : kd 103 = 2 := by decide
theorem rk_103 : rk 103 = 0 := by decide
theorem kd_104 : kd 104 = 0 := by decide
theorem rk_104 : rk 104 = 0 := by decide
theorem kd_105 : kd 105 = 0 := by decide
theorem rk_105 : rk 105 = 0 := by decide
theorem kd_106 : kd 106 = 0 := by decide
theorem rk_106 : rk 106 = 0 := by decide
theorem kd_107 : kd 107 = 0 := by decide
theorem rk_107 : rk 107 = 0 := by decide
theorem kd_108 : kd 108 = 0 := by decide
theorem rk_108 : rk 108 = 3 := by decide
theorem kd_109 : kd 109 = 0 := by decide
theorem rk_109 : rk 109 = 0 := by decide
theorem kd_110 : kd 110 = 0 := by decide
theorem rk_110 : rk 110 = 0 := by decide
theorem kd_111 : kd 111 = 0 := by decide
theorem rk_111 : rk 111 = 0 := by decide
theorem kd_112 : kd 112 = 0 := by decide
theorem rk_112 : rk 112 = 0 := by decide
theorem kd_113 : kd 113 = 0 := by decide
theorem rk_113 : rk 113 = 0 := by decide
theorem kd_114 : kd 114 = 4 := by decide
theorem rk_114 : rk 114 = 0 := by decide
theorem kd_115 : kd 115 = 0 := by decide
theorem rk_115 : rk 115 = 0 := by decide
theorem kd_116 : kd 116 = 0 := by decide
theorem rk_116 : rk 116 = 0 := by decide
theorem kd_117 : kd 117 = 4 := by decide
theorem rk_117 : rk 117 = 0 := by decide
theorem kd_118 : kd 118 = 0 := by decide
theorem rk_118 : rk 118 = 0 := by decide
theorem kd_119 : kd 119 = 0 := by decide
theorem rk_119 : rk 119 = 0 := by decide
theorem kd_120 : kd 120 = 0 := by decide
theorem rk_120 : rk 120 = 0 := by decide
theorem kd_121 : kd 121 = 4 := by decide
theorem rk_121 : rk 121 = 0 := by decide
theorem kd_122 : kd 122 = 0 := by decide
theorem rk_122 : rk 122 = 0 := by decide
theorem kd_123 : kd 123 = 0 := by decide
theorem rk_123 : rk 123 = 0 := by decide
theorem kd_124 : kd 124 = 4 := by decide
theorem rk_124 : rk 124 = 0 := by decide
theorem kd_125 : kd 125 = 0 := by decide
theorem rk_125 : rk 125 = 0 := by decide
theorem kd_126 : kd 126 = 0 := by decide
theorem rk_126 : rk 126 = 0 := by decide
theorem kd_127 : kd 127 = 7 := by decide
theorem rk_127 : rk 127 = 1 := by decide
theorem kd_128 : kd 128 = 5 := by decide
theorem rk_128 : rk 128 = 0 := by decide
theorem kd_129 : kd 129 = 6 := by decide
theorem rk_129 : rk 129 = 0 := by decide
theorem kd_130 : kd 130 = 0 := by decide
theorem rk_130 : rk 130 = 0 := by decide
theorem kd_131 : kd 131 = 1 := by decide
theorem rk_131 : rk 131 = 2 := by decide
theorem kd_132 : kd 132 = 2 := by decide
theorem rk_132 : rk 132 = 0 := by decide
theorem kd_133 : kd 133 = 2 := by decide
theorem rk_133 : rk 133 = 0 := by decide
theorem kd_134 : kd 134 = 0 := by decide
theorem rk_134 : rk 134 = 0 := by decide
theorem kd_135 : kd 135 = 0 := by decide
theorem rk_135 : rk 135 = 0 := by decide
theorem kd_136 : kd 136 = 0 := by decide
theorem rk_136 : rk 136 = 0 := by decide
theorem kd_137 : kd 137 = 0 := by decide
theorem rk_137 : rk 137 = 0 := by decide
theorem kd_138 : kd 138 = 0 := by decide
theorem rk_138 : rk 138 = 3 := by decide
theorem kd_139 : kd 139 = 0 := by decide
theorem rk_139 : rk 139 = 0 := by decide
theorem kd_140 : kd 140 = 0 := by decide
theorem rk_140 : rk 140 = 0 := by decide
theorem kd_141 : kd 141 = 0 := by decide
theorem rk_141 : rk 141 = 0 := by decide
theorem kd_142 : kd 142 = 0 := by decide
theorem rk_142 : rk 142 = 0 := by decide
theorem kd_143 : kd 143 = 1 := by decide
theorem rk_143 : rk 143 = 2 := by decide
theorem kd_144 : kd 144 = 2 := by decide
theorem rk_144 : rk 144 = 0 := by decide
theorem kd_145 : kd 145 = 2 := by decide
theorem rk_145 : rk 145 = 0 := by decide
theorem kd_146 : kd 146 = 0 := by decide
theorem rk_146 : rk 146 = 0 := by decide
theorem kd_147 : kd 147 = 0 := by decide
theorem rk_147 : rk 147 = 0 := by decide
theorem kd_148 : kd 148 = 0 := by decide
theorem rk_148 : rk 148 = 0 := by decide
theorem kd_149 : kd 149 = 0 := by decide
theorem rk_149 : rk 149 = 0 := by decide
theorem kd_150 : kd 150 = 0 := by decide
theorem rk_150 : rk 150 = 3 := by decide
theorem kd_151 : kd 151 = 0 := by decide
theorem rk_151 : rk 151 = 0 := by decide
theorem kd_152 : kd 152 = 0 := by decide
theorem rk_152 : rk 152 = 0 := by decide
theorem kd_153 : kd 153 = 0 := by decide
theorem rk_153 : rk 153 = 0 := by decide
theorem kd_154 : kd 154 = 0 := by decide
theorem rk_154 : rk 154 = 0 := by decide
theorem kd_155 : kd 155 = 0 := by decide
theorem rk_155 : rk 155 = 0 := by decide
theorem kd_156 : kd 156 = 4 := by decide
theorem rk_156 : rk 156 = 0 := by decide
theorem kd_157 : kd 157 = 0 := by decide
theorem rk_157 : rk 157 = 0 := by decide
theorem kd_158 : kd 158 = 0 := by decide
theorem rk_158 : rk 158 = 0 := by decide
theorem kd_159 : kd 159 = 4 := by decide
theorem rk_159 : rk 159 = 0 := by decide
theorem kd_160 : kd 160 = 0 := by decide
theorem rk_160 : rk 160 = 0 := by decide
theorem kd_161 : kd 161 = 0 := by decide
theorem rk_161 : rk 161 = 0 := by decide
theorem kd_162 : kd 162 = 0 := by decide
theorem rk_162 : rk 162 = 0 := by decide
theorem kd_163 : kd 163 = 4 := by decide
theorem rk_163 : rk 163 = 0 := by decide
theorem kd_164 : kd 164 = 0 := by decide
theorem rk_164 : rk 164 = 0 := by decide
theorem kd_165 : kd 165 = 0 := by decide
theorem rk_165 : rk 165 = 0 := by decide
theorem kd_166 : kd 166 = 4 := by decide
theorem rk_166 : rk 166 = 0 := by decide
theorem kd_167 : kd 167 = 0 := by decide
theorem rk_167 : rk 167 = 0 := by decide
theorem kd_168 : kd 168 = 0 := by decide
theorem rk_168 : rk 168 = 0 := by decide
theorem kd_169 : kd 169 = 7 := by decide
theorem rk_169 : rk 169 = 1 := by decide
theorem kd_170 : kd 170 = 8 := by decide
theorem rk_170 : rk 170 = 0 := by decide
theorem kd_171 : kd 171 = 9 := by decide
theorem rk_171 : rk 171 = 4 := by decide
theorem kd_172 : kd 172 = 1 := by decide
theorem rk_172 : rk 172 = 5 := by decide
theorem kd_173 : kd 173 = 2 := by decide
theorem rk_173 : rk 173 = 0 := by decide
theorem kd_174 : kd 174 = 2 := by decide
theorem rk_174 : rk 174 = 0 := by decide
theorem kd_175 : kd 175 = 0 := by decide
theorem rk_175 : rk 175 = 0 := by decide
theorem kd_176 : kd 176 = 0 := by decide
theorem rk_176 : rk 176 = 0 := by decide
theorem kd_177 : kd 177 = 0 := by decide
theorem rk_177 : rk 177 = 0 := by decide
theorem kd_178 : kd 178 = 0 := by decide
theorem rk_178 : rk 178 = 0 := by decide
theorem kd_179 : kd 179 = 0 := by decide
theorem rk_179 : rk 179 = 3 := by decide
theorem kd_180 : kd 180 = 0 := by decide
theorem rk_180 : rk 180 = 0 := by decide
theorem kd_181 : kd 181 = 0 := by decide
theorem rk_181 : rk 181 = 0 := by decide
theorem kd_182 : kd 182 = 0 := by decide
theorem rk_182 : rk 182 = 0 := by decide
theorem kd_183 : kd 183 = 0 := by decide
theorem rk_183 : rk 183 = 0 := by decide
theorem kd_184 : kd 184 = 4 := by decide
theorem rk_184 : rk 184 = 0 := by decide
theorem kd_185 : kd 185 = 0 := by decide
theorem rk_185 : rk 185 = 0 := by decide
theorem kd_186 : kd 186 = 0 := by decide
theorem rk_186 : rk 186 = 0 := by decide
theorem kd_187 : kd 187 = 2 := by decide
theorem rk_187 : rk 187 = 0 := by decide
theorem kd_188 : kd 188 = 0 := by decide
theorem rk_188 : rk 188 = 0 := by decide
theorem kd_189 : kd 189 = 6 := by decide
theorem rk_189 : rk 189 = 0 := by decide
theorem kd_190 : kd 190 = 0 := by decide
theorem rk_190 : rk 190 = 0 := by decide
theorem kd_191 : kd 191 = 0 := by decide
theorem rk_191 : rk 191 = 0 := by decide
theorem kd_192 : kd 192 = 0 := by decide
theorem rk_192 : rk 192 = 0 := by decide
theorem kd_193 : kd 193 = 0 := by decide
theorem rk_193 : rk 193 = 0 := by decide
theorem kd_194 : kd 194 = 0 := by decide
theorem rk_194 : rk 194 = 0 := by decide
theorem kd_195 : kd 195 = 0 := by decide
theorem rk_195 : rk 195 = 0 := by decide
theorem kd_196 : kd 196 = 0 := by decide
theorem rk_196 : rk 196 = 0 := by decide
theorem kd_197 : kd 197 = 0 := by decide
theorem rk_197 : rk 197 = 0 := by decide
theorem kd_198 : kd 198 = 10 := by decide
theorem rk_198 : rk 198 = 0 := by decide
theorem kd_199 : kd 199 = 0 := by decide
theorem rk_199 : rk 199 = 0 := by decide
theorem kd_200 : kd 200 = 11 := by decide
theorem rk_200 : rk 200 = 0 := by decide
theorem kd_201 : kd 201 = 0 := by decide
theorem rk_201 : rk 201 = 0 := by decide
theorem kd_202 : kd 202 = 0 := by decide
theorem rk_202 : rk 202 = 0 := by decide
theorem kd_203 : kd 203 = 0 := by decide
theorem rk_203 : rk 203 = 0 := by decide
theorem kd_204 : kd 204 = 0 := by decide
theorem rk_204 : rk 204 = 0 := by decide
theorem kd_205 : kd 205 = 0 := by decide
theorem rk_205 : rk 205 = 0 := by decide
theorem kd_206 : kd 206 = 0 := by decide
theorem rk_206 : rk 206 = 0 := by decide
theorem kd_207 : kd 207 = 0 := by decide
theorem rk_207 : rk 207 = 0 := by decide
theorem kd_208 : kd 208 = 0 := by decide
theorem rk_208 : rk 208 = 0 := by decide
theorem kd_209 : kd 209 = 0 := by decide
theorem rk_209 : rk 209 = 0 := by decide
theorem kd_210 : kd 210 = 1 := by decide
theorem rk_210 : rk 210 = 2 := by decide
theorem kd_211 : kd 211 = 2 := by decide
theorem rk_211 : rk 211 = 0 := by decide
theorem kd_212 : kd 212 = 2 := by decide
theorem rk_212 : rk 212 = 0 := by decide
theorem kd_213 : kd 213 = 0 := by decide
theorem rk_213 : rk 213 = 0 := by decide
theorem kd_214 : kd 214 = 0 := by decide
theorem rk_214 : rk 214 = 0 := by decide
theorem kd_215 : kd 215 = 0 := by decide
theorem rk_215 : rk 215 = 0 := by decide
theorem kd_216 : kd 216 = 0 := by decide
theorem rk_216 : rk 216 = 0 := by decide
theorem kd_217 : kd 217 = 0 := by decide
theorem rk_217 : rk 217 = 3 := by decide
theorem kd_218 : kd 218 = 0 := by decide
theorem rk_218 : rk 218 = 0 := by decide
theorem kd_219 : kd 219 = 0 := by decide
theorem rk_219 : rk 219 = 0 := by decide
theorem kd_220 : kd 220 = 0 := by decide
theorem rk_220 : rk 220 = 0 := by decide
theorem kd_221 : kd 221 = 0 := by decide
theorem rk_221 : rk 221 = 0 := by decide
theorem kd_222 : kd 222 = 0 := by decide
theorem rk_222 : rk 222 = 0 := by decide
theorem kd_223 : kd 223 = 12 := by decide
theorem rk_223 : rk 223 = 8 := by decide
theorem kd_224 : kd 224 = 6 := by decide
theorem rk_224 : rk 224 = 0 := by decide
theorem kd_225 : kd 225 = 13 := by decide
theorem rk_225 : rk 225 = 0 := by decide
theorem kd_226 : kd 226 = 0 := by decide
theorem rk_226 : rk 226 = 0 := by decide
theorem kd_227 : kd 227 = 0 := by decide
theorem rk_227 : rk 227 = 0 := by decide
theorem kd_228 : kd 228 = 7 := by decide
theorem rk_228 : rk 228 = 6 := by decide
theorem kd_229 : kd 229 = 14 := by decide
theorem rk_229 : rk 229 = 7 := by decide
theorem kd_230 : kd 230 = 15 := by decide
theorem rk_230 : rk 230 = 0 := by decide
theorem kd_231 : kd 231 = 16 := by decide
theorem rk_231 : rk 231 = 0 := by decide
theorem kd_232 : kd 232 = 0 := by decide
theorem rk_232 : rk 232 = 3 := by decide
theorem kd_233 : kd 233 = 2 := by decide
theorem rk_233 : rk 233 = 0 := by decide
theorem kd_234 : kd 234 = 0 := by decide
theorem rk_234 : rk 234 = 3 := by decide
theorem kd_235 : kd 235 = 0 := by decide
theorem rk_235 : rk 235 = 0 := by decide
theorem kd_236 : kd 236 = 17 := by decide
theorem rk_236 : rk 236 = 0 := by decide
theorem kd_237 : kd 237 = 18 := by decide
theorem rk_237 : rk 237 = 0 := by decide
theorem kd_238 : kd 238 = 0 := by decide
theorem rk_238 : rk 238 = 0 := by decide
theorem kd_239 : kd 239 = 0 := by decide
theorem rk_239 : rk 239 = 0 := by decide
theorem kd_240 : kd 240 = 0 := by decide
theorem rk_240 : rk 240 = 0 := by decide
theorem kd_241 : kd 241 = 0 := by decide
theorem rk_241 : rk 241 = 0 := by decide
theorem kd_242 : kd 242 = 0 := by decide
theorem rk_242 : rk 242 = 0 := by decide
theorem kd_243 : kd 243 = 0 := by decide
theorem rk_243 : rk 243 = 0 := by decide
theorem kd_244 : kd 244 = 8 := by decide
theorem rk_244 : rk 244 = 0 := by decide
theorem kd_245 : kd 245 = 0 := by decide
theorem rk_245 : rk 245 = 0 := by decide
theorem kd_246 : kd 246 = 0 := by decide
theorem rk_246 : rk 246 = 0 := by decide
theorem kd_247 : kd 247 = 0 := by decide
theorem rk_247 : rk 247 = 0 := by decide
theorem kd_248 : kd 248 = 0 := by decide
theorem rk_248 : rk 248 = 0 := by decide
theorem kd_249 : kd 249 = 8 := by decide
theorem rk_249 : rk 249 = 0 := by decide
theorem lit_m1000000 : ti (-1000000 : Int32) = -1000000 := by rw [ti_eq]; decide
theorem lit_m8 : ti (-8 : Int32) = -8 := by rw [ti_eq]; decide
theorem lit_m2 : ti (-2 : Int32) = -2 := by rw [ti_eq]; decide
theorem lit_m1 : ti (-1 : Int32) = -1 := by rw [ti_eq]; decide
theorem lit_0 : ti (0 : Int32) = 0 := by rw [ti_eq]; decide
theorem lit_1 : ti (1 : Int32) = 1 := by rw [ti_eq]; decide
theorem lit_2 : ti (2 : Int32) = 2 := by rw [ti_eq]; decide
theorem lit_3 : ti (3 : Int32) = 3 := by rw [ti_eq]; decide
theorem lit_4 : ti (4 : Int32) = 4 := by rw [ti_eq]; decide
theorem lit_5 : ti (5 : Int32) = 5 := by rw [ti_eq]; decide
theorem lit_6 : ti (6 : Int32) = 6 := by rw [ti_eq]; decide
theorem lit_7 : ti (7 : Int32) = 7 := by rw [ti_eq]; decide
theorem lit_8 : ti (8 : Int32) = 8 := by rw [ti_eq]; decide
theorem lit_9 : ti (9 : Int32) = 9 := by rw [ti_eq]; decide
theorem lit_10 : ti (10 : Int32) = 10 := by rw [ti_eq]; decide
theorem lit_11 : ti (11 : Int32) = 11 := by rw [ti_eq]; decide
theorem lit_12 : ti (12 : Int32) = 12 := by rw [ti_eq]; decide
theorem lit_13 : ti (13 : Int32) = 13 := by rw [ti_eq]; decide
theorem lit_14 : ti (14 : Int32) = 14 := by rw [ti_eq]; decide
theorem lit_15 : ti (15 : Int32) = 15 := by rw [ti_eq]; decide
theorem lit_16 : ti (16 : Int32) = 16 := by rw [ti_eq]; decide
theorem lit_17 : ti (17 : Int32) = 17 := by rw [ti_eq]; decide
theorem lit_18 : ti (18 : Int32) = 18 := by rw [ti_eq]; decide
theorem lit_19 : ti (19 : Int32) = 19 := by rw [ti_eq]; decide
theorem lit_20 : ti (20 : Int32) = 20 := by rw [ti_eq]; decide
theorem lit_21 : ti (21 : Int32) = 21 := by rw [ti_eq]; decide
theorem lit_24 : ti (24 : Int32) = 24 := by rw [ti_eq]; decide
theorem lit_30 : ti (30 : Int32) = 30 := by rw [ti_eq]; decide
theorem lit_32 : ti (32 : Int32) = 32 := by rw [ti_eq]; decide
theorem lit_33 : ti (33 : Int32) = 33 := by rw [ti_eq]; decide
theorem lit_42 : ti (42 : Int32) = 42 := by rw [ti_eq]; decide
theorem lit_48 : ti (48 : Int32) = 48 := by rw [ti_eq]; decide
theorem lit_57 : ti (57 : Int32) = 57 := by rw [ti_eq]; decide
theorem lit_59 : ti (59 : Int32) = 59 := by rw [ti_eq]; decide
theorem lit_60 : ti (60 : Int32) = 60 := by rw [ti_eq]; decide
theorem lit_63 : ti (63 : Int32) = 63 := by rw [ti_eq]; decide
theorem lit_66 : ti (66 : Int32) = 66 := by rw [ti_eq]; decide
theorem lit_87 : ti (87 : Int32) = 87 := by rw [ti_eq]; decide
theorem lit_97 : ti (97 : Int32) = 97 := by rw [ti_eq]; decide
theorem lit_100 : ti (100 : Int32) = 100 := by rw [ti_eq]; decide
theorem lit_122 : ti (122 : Int32) = 122 := by rw [ti_eq]; decide
theorem lit_123 : ti (123 : Int32) = 123 := by rw [ti_eq]; decide
theorem lit_199 : ti (199 : Int32) = 199 := by rw [ti_eq]; decide
theorem lit_200 : ti (200 : Int32) = 200 := by rw [ti_eq]; decide
theorem lit_246 : ti (246 : Int32) = 246 := by rw [ti_eq]; decide
theorem lit_255 : ti (255 : Int32) = 255 := by rw [ti_eq]; decide
theorem lit_600 : ti (600 : Int32) = 600 := by rw [ti_eq]; decide
theorem lit_999 : ti (999 : Int32) = 999 := by rw [ti_eq]; decide
theorem lit_1125 : ti (1125 : Int32) = 1125 := by rw [ti_eq]; decide
theorem lit_1199 : ti (1199 : Int32) = 1199 := by rw [ti_eq]; decide
theorem lit_1200 : ti (1200 : Int32) = 1200 := by rw [ti_eq]; decide
theorem lit_12345 : ti (12345 : Int32) = 12345 := by rw [ti_eq]; decide
theorem lit_252645135 : ti (252645135 : Int32) = 252645135 := by rw [ti_eq]; decide
theorem lit_858993459 : ti (858993459 : Int32) = 858993459 := by rw [ti_eq]; decide
theorem lit_1103515245 : ti (1103515245 : Int32) = 1103515245 := by rw [ti_eq]; decide
theorem lit_1431655765 : ti (1431655765 : Int32) = 1431655765 := by rw [ti_eq]; decide
