/-! sets of POSTS: those with just so many POUNDS and COSTS, as the search finds them, and as numbers -/
def fmX (b : Nat → Bool) (a c : Nat → Int) : Nat → Nat → Int → Int → Int32 → List Int32
  | 0, _, P, C, base => if P = 0 ∧ C = 0 then [base] else []
  | r + 1, p, P, C, base => fmX b a c r (p + 1) P C base ++ (if b p = true then fmX b a c r (p + 1) (P - a p) (C - c p) (base ||| ((1 : Int32) <<< (Int32.ofNat p &&& 31))) else [])
def fmE (b : Nat → Bool) (a c : Nat → Int) : Nat → Nat → Int → Int → Nat → Bool
  | 0, _, P, C, _ => decide (P = 0 ∧ C = 0)
  | r + 1, p, P, C, k => if k % 2 = 0 then fmE b a c r (p + 1) P C (k / 2) else (b p && fmE b a c r (p + 1) (P - a p) (C - c p) (k / 2))
theorem cn_2 {W : Nat → Bool} : ∀ m, cnF W (2 * m) = cnF (fun k => W (2 * k)) m + cnF (fun k => W (2 * k + 1)) m := by
  intro m
  induction m with
  | zero => rfl
  | succ m ih =>
    have e : cnF W (2 * (m + 1)) = cnF W (2 * m) + (if W (2 * m) = true then 1 else 0) + (if W (2 * m + 1) = true then 1 else 0) := rfl
    rw [e, ih, cnF_1, cnF_1]
    omega
theorem fm_len {b : Nat → Bool} {a c : Nat → Int} : ∀ (r p : Nat) (P C : Int) (base : Int32), (fmX b a c r p P C base).length = cnF (fmE b a c r p P C) (2 ^ r) := by
  intro r
  induction r with
  | zero =>
    intro p P C base
    show (if P = 0 ∧ C = 0 then [base] else []).length = 0 + (if decide (P = 0 ∧ C = 0) = true then 1 else 0)
    by_cases h : P = 0 ∧ C = 0
    · rw [if_pos h, if_pos (decide_eq_true h)]
      rfl
    · rw [if_neg h, if_neg (fun z => h (of_decide_eq_true z))]
      rfl
  | succ r ih =>
    intro p P C base
    rw [Nat.pow_succ, Nat.mul_comm, cn_2]
    show (fmX b a c r (p + 1) P C base ++ (if b p = true then fmX b a c r (p + 1) (P - a p) (C - c p) (base ||| ((1 : Int32) <<< (Int32.ofNat p &&& 31))) else [])).length = _
    rw [List.length_append, ih]
    have e1 : cnF (fun k => fmE b a c (r + 1) p P C (2 * k)) (2 ^ r) = cnF (fmE b a c r (p + 1) P C) (2 ^ r) := cnF_cg _ (fun k _ => by
      show (if 2 * k % 2 = 0 then fmE b a c r (p + 1) P C (2 * k / 2) else _) = _
      rw [if_pos (by omega), show 2 * k / 2 = k by omega])
    have e2 : ∀ k, fmE b a c (r + 1) p P C (2 * k + 1) = (b p && fmE b a c r (p + 1) (P - a p) (C - c p) k) := fun k => by
      show (if (2 * k + 1) % 2 = 0 then _ else (b p && fmE b a c r (p + 1) (P - a p) (C - c p) ((2 * k + 1) / 2))) = _
      rw [if_neg (by omega), show (2 * k + 1) / 2 = k by omega]
    rw [e1]
    by_cases h : b p = true
    · rw [if_pos h, ih]
      have e3 : cnF (fun k => fmE b a c (r + 1) p P C (2 * k + 1)) (2 ^ r) = cnF (fmE b a c r (p + 1) (P - a p) (C - c p)) (2 ^ r) := cnF_cg _ (fun k _ => by
        show fmE b a c (r + 1) p P C (2 * k + 1) = _
        rw [e2, h, Bool.true_and])
      rw [e3]
    · rw [if_neg h]
      have e3 : cnF (fun k => fmE b a c (r + 1) p P C (2 * k + 1)) (2 ^ r) = 0 := cnF_z _ (fun k _ => by
        show fmE b a c (r + 1) p P C (2 * k + 1) = false
        rw [e2]
        cases hb : b p
        · rfl
        · exact absurd hb h)
      rw [e3]
      rfl
/-- the bits of the k-th set, from POST p on -/
def bkF (r p k j : Nat) : Bool := decide (p ≤ j ∧ j < p + r) && decide (k / 2 ^ (j - p) % 2 = 1)
theorem bk_0 {r p k j : Nat} : bkF (r + 1) p (2 * k) j = bkF r (p + 1) k j := by
  unfold bkF
  by_cases h : p + 1 ≤ j ∧ j < p + 1 + r
  · rw [decide_eq_true h, decide_eq_true (show p ≤ j ∧ j < p + (r + 1) by omega)]
    have e : j - p = (j - (p + 1)) + 1 := by omega
    rw [e, Nat.pow_succ, Nat.mul_comm (2 ^ (j - (p + 1))) 2, ← Nat.div_div_eq_div_mul, show 2 * k / 2 = k by omega]
  · rw [decide_eq_false h, Bool.false_and]
    by_cases g : p ≤ j ∧ j < p + (r + 1)
    · have e : j - p = 0 := by omega
      rw [e, decide_eq_false (show ¬ 2 * k / 2 ^ 0 % 2 = 1 by rw [Nat.pow_zero, Nat.div_one]; omega), Bool.and_false]
    · rw [decide_eq_false g, Bool.false_and]
theorem bk_1 {r p k j : Nat} : bkF (r + 1) p (2 * k + 1) j = (decide (j = p) || bkF r (p + 1) k j) := by
  unfold bkF
  by_cases h : p + 1 ≤ j ∧ j < p + 1 + r
  · rw [decide_eq_true h, decide_eq_true (show p ≤ j ∧ j < p + (r + 1) by omega), decide_eq_false (show ¬ j = p by omega)]
    have e : j - p = (j - (p + 1)) + 1 := by omega
    rw [e, Nat.pow_succ, Nat.mul_comm (2 ^ (j - (p + 1))) 2, ← Nat.div_div_eq_div_mul, show (2 * k + 1) / 2 = k by omega, Bool.false_or]
  · rw [decide_eq_false h, Bool.false_and, Bool.or_false]
    by_cases g : j = p
    · subst g
      rw [decide_eq_true (rfl : j = j), decide_eq_true (show j ≤ j ∧ j < j + (r + 1) by omega), Nat.sub_self, Nat.pow_zero, Nat.div_one, decide_eq_true (show (2 * k + 1) % 2 = 1 by omega)]
      rfl
    · rw [decide_eq_false g, decide_eq_false (show ¬ (p ≤ j ∧ j < p + (r + 1)) by omega)]
      rfl
theorem fm_mem {b : Nat → Bool} {a c : Nat → Int} : ∀ (r p : Nat) (P C : Int) (base x : Int32), p + r ≤ 31 → (x ∈ fmX b a c r p P C base ↔ ∃ k, k < 2 ^ r ∧ fmE b a c r p P C k = true ∧ ∀ j, j < 32 → bt x j = (bt base j || bkF r p k j)) := by
  intro r
  induction r with
  | zero =>
    intro p P C base x hp
    have bz : ∀ j, bkF 0 p 0 j = false := fun j => by
      unfold bkF
      rw [decide_eq_false (show ¬ (p ≤ j ∧ j < p + 0) by omega)]
      rfl
    show x ∈ (if P = 0 ∧ C = 0 then [base] else []) ↔ _
    by_cases h : P = 0 ∧ C = 0
    · rw [if_pos h]
      refine ⟨fun m => ⟨0, by decide, decide_eq_true h, fun j _ => ?_⟩, fun ⟨k, hk, _, hb⟩ => ?_⟩
      · rw [List.mem_singleton.mp m, bz, Bool.or_false]
      · have k0 : k = 0 := Nat.lt_one_iff.mp hk
        subst k0
        have e : x = base := bt_ex (fun j hj => by rw [hb j hj, bz, Bool.or_false])
        rw [e]
        exact List.mem_singleton.mpr rfl
    · rw [if_neg h]
      exact ⟨fun m => absurd m (List.not_mem_nil), fun ⟨k, _, he, _⟩ => absurd (of_decide_eq_true he) h⟩
  | succ r ih =>
    intro p P C base x hp
    have e2 : ∀ k, fmE b a c (r + 1) p P C (2 * k + 1) = (b p && fmE b a c r (p + 1) (P - a p) (C - c p) k) := fun k => by
      show (if (2 * k + 1) % 2 = 0 then _ else (b p && fmE b a c r (p + 1) (P - a p) (C - c p) ((2 * k + 1) / 2))) = _
      rw [if_neg (by omega), show (2 * k + 1) / 2 = k by omega]
    have e1 : ∀ k, fmE b a c (r + 1) p P C (2 * k) = fmE b a c r (p + 1) P C k := fun k => by
      show (if 2 * k % 2 = 0 then fmE b a c r (p + 1) P C (2 * k / 2) else _) = _
      rw [if_pos (by omega), show 2 * k / 2 = k by omega]
    have pw : 2 ^ (r + 1) = 2 ^ r * 2 := Nat.pow_succ 2 r
    have bo : ∀ j, j < 32 → bt (base ||| ((1 : Int32) <<< (Int32.ofNat p &&& 31))) j = (bt base j || decide (j = p)) := fun j hj => by
      rw [bt_or, bt_sl p (by omega) j hj]
    show x ∈ fmX b a c r (p + 1) P C base ++ (if b p = true then fmX b a c r (p + 1) (P - a p) (C - c p) (base ||| ((1 : Int32) <<< (Int32.ofNat p &&& 31))) else []) ↔ _
    rw [List.mem_append]
    refine ⟨fun m => ?_, fun ⟨k, hk, he, hb⟩ => ?_⟩
    · rcases m with m | m
      · obtain ⟨k, hk, he, hb⟩ := (ih (p + 1) P C base x (by omega)).mp m
        exact ⟨2 * k, by omega, by rw [e1]; exact he, fun j hj => by rw [hb j hj, bk_0]⟩
      · by_cases h : b p = true
        · rw [if_pos h] at m
          obtain ⟨k, hk, he, hb⟩ := (ih (p + 1) (P - a p) (C - c p) _ x (by omega)).mp m
          exact ⟨2 * k + 1, by omega, by rw [e2, h, Bool.true_and]; exact he, fun j hj => by rw [hb j hj, bk_1, bo j hj, Bool.or_assoc]⟩
        · rw [if_neg h] at m
          exact absurd m (List.not_mem_nil)
    · by_cases pa : k % 2 = 0
      · obtain ⟨m, hm⟩ : ∃ m, k = 2 * m := ⟨k / 2, by omega⟩
        subst hm
        left
        rw [e1] at he
        exact (ih (p + 1) P C base x (by omega)).mpr ⟨m, by omega, he, fun j hj => by rw [hb j hj, bk_0]⟩
      · obtain ⟨m, hm⟩ : ∃ m, k = 2 * m + 1 := ⟨k / 2, by omega⟩
        subst hm
        right
        rw [e2, Bool.and_eq_true] at he
        rw [if_pos he.1]
        exact (ih (p + 1) (P - a p) (C - c p) _ x (by omega)).mpr ⟨m, by omega, he.2, fun j hj => by rw [hb j hj, bk_1, bo j hj, Bool.or_assoc]⟩
/-- what all of them together have -/
def sG (b : Nat → Bool) (f : Nat → Int) : Nat → Nat → Int
  | 0, _ => 0
  | r + 1, p => (if b p = true then f p else 0) + sG b f r (p + 1)
theorem sG_0 {b : Nat → Bool} {f : Nat → Int} (h : ∀ p, b p = true → 0 ≤ f p) : ∀ r p, 0 ≤ sG b f r p := by
  intro r
  induction r with
  | zero => intro p; exact Int.le_refl 0
  | succ r ih =>
    intro p
    have y := ih (p + 1)
    show 0 ≤ (if b p = true then f p else 0) + sG b f r (p + 1)
    by_cases k : b p = true
    · rw [if_pos k]
      have := h p k
      omega
    · rw [if_neg k]
      omega
theorem fm_out {b : Nat → Bool} {a c : Nat → Int} (ha : ∀ p, b p = true → 0 ≤ a p) (hc : ∀ p, b p = true → 0 ≤ c p) : ∀ (r p : Nat) (P C : Int) (base : Int32), (P < 0 ∨ C < 0 ∨ sG b a r p < P ∨ sG b c r p < C) → fmX b a c r p P C base = [] := by
  intro r
  induction r with
  | zero =>
    intro p P C base h
    have h' : P < 0 ∨ C < 0 ∨ 0 < P ∨ 0 < C := h
    show (if P = 0 ∧ C = 0 then [base] else []) = []
    rw [if_neg (by omega)]
  | succ r ih =>
    intro p P C base h
    have ga := sG_0 ha r (p + 1)
    have gc := sG_0 hc r (p + 1)
    have h' : P < 0 ∨ C < 0 ∨ (if b p = true then a p else 0) + sG b a r (p + 1) < P ∨ (if b p = true then c p else 0) + sG b c r (p + 1) < C := h
    show fmX b a c r (p + 1) P C base ++ (if b p = true then fmX b a c r (p + 1) (P - a p) (C - c p) (base ||| ((1 : Int32) <<< (Int32.ofNat p &&& 31))) else []) = []
    by_cases k : b p = true
    · have ka := ha p k
      have kc := hc p k
      rw [if_pos k] at h'
      rw [if_pos k] at h'
      rw [if_pos k, ih (p + 1) P C base (by omega), ih (p + 1) (P - a p) (C - c p) _ (by omega)]
      rfl
    · rw [if_neg k] at h'
      rw [if_neg k] at h'
      rw [if_neg k, ih (p + 1) P C base (by omega)]
      rfl
/-! the class's search -/
/-- what has been kept so far: the sets of L -/
def StK (L : List Int32) (σ : zSto) : Prop := σ.1 200 7 = Int32.ofNat L.length ∧ (∀ j, j < 32 → (bt (σ.1 200 8) j = true ↔ ∀ x, x ∈ L → bt x j = true)) ∧ (∀ j, j < 32 → (bt (σ.1 200 9) j = true ↔ ∃ x, x ∈ L ∧ bt x j = true)) ∧ (L ≠ [] → σ.1 200 10 ∈ L ∧ ∀ x, x ∈ L → ti (σ.1 200 10) ≤ ti x)
def FrS (σ σ2 : zSto) : Prop := ∀ k j, ¬ (k = 200 ∧ 7 ≤ j ∧ j ≤ 10) → σ2.1 k j = σ.1 k j
theorem FrS.tr {a b c : zSto} (h : FrS a b) (h2 : FrS b c) : FrS a c := fun k j x => (h2 k j x).trans (h k j x)
theorem f_X6_keep {L : List Int32} {σ : zSto} (h : StK L σ) (hL : L.length < 1048576) (a1 : Int32) {P : zSto → Prop} (hP : ∀ σ2, FrS σ σ2 → StK (L ++ [a1]) σ2 → P σ2) : w_X6_keep a1 σ P := by
  have l1 := lit_1
  obtain ⟨h1, h2, h3, h4⟩ := h
  unfold w_X6_keep
  intro σ1 e1 σ2 e2 σ3 e3
  have n7 : σ1.1 200 7 = Int32.ofNat (L ++ [a1]).length := by
    rw [e1, zI_s, h1, List.length_append]
    exact nI_1 _
  have v7 : σ3.1 200 7 = Int32.ofNat (L ++ [a1]).length := by rw [zI_q' e3 (by omega), zI_q' e2 (by omega), n7]
  have v8 : ∀ j, j < 32 → (bt (σ3.1 200 8) j = true ↔ ∀ x, x ∈ L ++ [a1] → bt x j = true) := fun j hj => by
    rw [zI_q' e3 (by omega), e2, zI_s, zI_q' e1 (by omega), bt_an, Bool.and_eq_true, h2 j hj]
    exact ⟨fun z x hx => by
      rcases List.mem_append.mp hx with y | y
      · exact z.1 x y
      · rw [List.mem_singleton.mp y]; exact z.2, fun z => ⟨fun x hx => z x (List.mem_append.mpr (Or.inl hx)), z a1 (List.mem_append.mpr (Or.inr (List.mem_singleton.mpr rfl)))⟩⟩
  have v9 : ∀ j, j < 32 → (bt (σ3.1 200 9) j = true ↔ ∃ x, x ∈ L ++ [a1] ∧ bt x j = true) := fun j hj => by
    rw [e3, zI_s, zI_q' e2 (by omega), zI_q' e1 (by omega), bt_or, Bool.or_eq_true, h3 j hj]
    exact ⟨fun z => by
      rcases z with ⟨x, hx, y⟩ | y
      · exact ⟨x, List.mem_append.mpr (Or.inl hx), y⟩
      · exact ⟨a1, List.mem_append.mpr (Or.inr (List.mem_singleton.mpr rfl)), y⟩, fun ⟨x, hx, y⟩ => by
      rcases List.mem_append.mp hx with w | w
      · exact Or.inl ⟨x, w, y⟩
      · rw [List.mem_singleton.mp w] at y; exact Or.inr y⟩
  have v10 : σ3.1 200 10 = σ.1 200 10 := by rw [zI_q' e3 (by omega), zI_q' e2 (by omega), zI_q' e1 (by omega)]
  have len : (L ++ [a1]).length = L.length + 1 := by rw [List.length_append]; rfl
  have t7 : ti (σ3.1 200 7) = (L.length : Int) + 1 := by
    rw [v7, len, show ti (Int32.ofNat (L.length + 1)) = ((L.length + 1 : Nat) : Int) from nI_t (by omega)]
    omega
  have fin : ∀ (v : Int32) (σ4 : zSto), σ4 = zI σ3 200 10 v → (v ∈ L ++ [a1] ∧ ∀ x, x ∈ L ++ [a1] → ti v ≤ ti x) → P σ4 := fun v σ4 e4 hv => by
    refine hP σ4 (fun k j hk => by rw [zI_q' e4 (by omega), zI_q' e3 (by omega), zI_q' e2 (by omega), zI_q' e1 (by omega)]) ⟨?_, fun j hj => ?_, fun j hj => ?_, fun _ => ?_⟩
    · rw [zI_q' e4 (by omega)]; exact v7
    · rw [zI_q' e4 (by omega)]; exact v8 j hj
    · rw [zI_q' e4 (by omega)]; exact v9 j hj
    · rw [e4, zI_s]
      exact hv
  refine ⟨fun q σ4 e4 => fin _ σ4 e4 ?_, fun q σ4 e4 => fin _ σ4 e4 ?_⟩
  · have nq := ne_t q
    have ne : L ≠ [] := fun z => by
      rw [z] at t7
      have : ti (σ3.1 200 7) = 1 := t7
      omega
    obtain ⟨f1, f2⟩ := h4 ne
    rw [v10]
    by_cases c : a1 < σ.1 200 10
    · have c1 := lt_t c
      rw [if_pos c]
      refine ⟨List.mem_append.mpr (Or.inr (List.mem_singleton.mpr rfl)), fun x hx => ?_⟩
      rcases List.mem_append.mp hx with y | y
      · have := f2 x y
        omega
      · rw [List.mem_singleton.mp y]
        exact Int.le_refl _
    · have c1 := nlt_t c
      rw [if_neg c]
      refine ⟨List.mem_append.mpr (Or.inl f1), fun x hx => ?_⟩
      rcases List.mem_append.mp hx with y | y
      · exact f2 x y
      · rw [List.mem_singleton.mp y]
        exact c1
  · have eq := eq_t q
    have l0 : L.length = 0 := by omega
    have ln : L = [] := List.length_eq_zero_iff.mp l0
    rw [ln]
    refine ⟨List.mem_singleton.mpr rfl, fun x hx => ?_⟩
    rw [List.mem_singleton.mp hx]
    exact Int.le_refl _
/-- what the search reads: the POSTS o, o + 1, .. that are b, R in all, and what is left of them -/
def ItS (b : Nat → Bool) (a c : Nat → Int) (o R : Nat) (σ : zSto) : Prop := ti (σ.1 200 6) = (cnF (fun i => b (o + i)) R : Int) ∧ (∀ i, i < R → b (o + i) = true → σ.1 201 (cnF (fun i => b (o + i)) i) = (1 : Int32) <<< (Int32.ofNat (o + i) &&& 31) ∧ ti (σ.1 202 (cnF (fun i => b (o + i)) i)) = a (o + i) ∧ ti (σ.1 203 (cnF (fun i => b (o + i)) i)) = c (o + i))
def RsS (b : Nat → Bool) (a c : Nat → Int) (o R : Nat) (σ : zSto) : Prop := ∀ i, i ≤ R → ti (σ.1 204 (cnF (fun i => b (o + i)) i)) = sG b a (R - i) (o + i) ∧ ti (σ.1 205 (cnF (fun i => b (o + i)) i)) = sG b c (R - i) (o + i)
theorem cnF_mono {W : Nat → Bool} : ∀ k n, cnF W n ≤ cnF W (n + k) := by
  intro k
  induction k with
  | zero => intro n; exact Nat.le_refl _
  | succ k ih =>
    intro n
    have y := ih n
    rw [show n + (k + 1) = (n + k) + 1 by omega, cnF_1]
    omega
set_option maxHeartbeats 8000000 in
theorem f_X6_search {b : Nat → Bool} {a c : Nat → Int} {o R : Nat} (ha : ∀ p, b p = true → 0 ≤ a p ∧ a p ≤ 1000) (hc : ∀ p, b p = true → 0 ≤ c p ∧ c p ≤ 1000) (hR : R ≤ 15 ∧ o + R ≤ 16) {σ : zSto} (it : ItS b a c o R σ) (rs : RsS b a c o R σ) : ∀ (r i fu : Nat) (x2 x3 x4 x5 : Int32) (σ3 : zSto) (L : List Int32) (P : zSto → Prop), i + r = R → FrS σ σ3 → ti x2 = (cnF (fun i => b (o + i)) i : Int) → cnF (fun i => b (o + i)) R - cnF (fun i => b (o + i)) i < fu → StK L σ3 → L.length + 2 ^ r ≤ 1048576 → (∀ σ2, FrS σ σ2 → StK (L ++ fmX b a c r (o + i) (ti x3) (ti x4) x5) σ2 → P σ2) → w_X6_search fu x2 x3 x4 x5 σ3 P := by
  have l0 := lit_0
  have l1 := lit_1
  have l16 := lit_16
  have ha0 : ∀ p, b p = true → 0 ≤ a p := fun p h => (ha p h).1
  have hc0 : ∀ p, b p = true → 0 ≤ c p := fun p h => (hc p h).1
  obtain ⟨iS, iI⟩ := it
  have cR := cnF_le (fun i => b (o + i)) R
  intro r
  induction r with
  | zero =>
    intro i fu x2 x3 x4 x5 σ3 L P hi fr h2 hf hK hL hP
    have ei : i = R := by omega
    subst ei
    obtain ⟨f, hf'⟩ : ∃ f, fu = f + 1 := ⟨fu - 1, by omega⟩
    subst hf'
    have tn := tn_eq x2
    have sz : ti (σ3.1 200 6) = ti x2 := by rw [fr 200 6 (by omega), iS, h2]
    have r4 : ti (σ3.1 204 x2.toNatClampNeg) = 0 := by
      rw [show x2.toNatClampNeg = cnF (fun j => b (o + j)) i by omega, fr 204 _ (by omega), (rs i (Nat.le_refl i)).1, Nat.sub_self]
      rfl
    have r5 : ti (σ3.1 205 x2.toNatClampNeg) = 0 := by
      rw [show x2.toNatClampNeg = cnF (fun j => b (o + j)) i by omega, fr 205 _ (by omega), (rs i (Nat.le_refl i)).2, Nat.sub_self]
      rfl
    have no : ¬ (ti x3 = 0 ∧ ti x4 = 0) → P σ3 := fun z => by
      refine hP σ3 fr ?_
      have e : fmX b a c 0 (o + i) (ti x3) (ti x4) x5 = [] := if_neg z
      rw [e, List.append_nil]
      exact hK
    unfold w_X6_search
    refine ⟨fun q => by have := lt_t q; omega, fun _ => ⟨fun q => by have := lt_t q; omega, fun _ => ⟨fun q => no (by have := lt_t q; omega), fun q => ⟨fun q2 => ⟨vin (by omega), fun q3 => no (by have := lt_t q3; omega), fun q3 => ⟨vin (by omega), fun q4 => ⟨fun q5 => absurd (t_inj sz.symm) q5, fun _ => ?_⟩, fun q4 => no (by have := nle_t q4; omega)⟩⟩, fun q2 => no (by have := nle_t q2; omega)⟩⟩⟩⟩
    have c1 := nlt_t q
    have c2 := le_t q2
    have c3 := nlt_t q3
    have c4 := le_t q4
    refine f_X6_keep hK (by omega) x5 (fun σ8 f8 K8 => hP σ8 (fr.tr f8) ?_)
    have e : fmX b a c 0 (o + i) (ti x3) (ti x4) x5 = [x5] := if_pos ⟨by omega, by omega⟩
    rw [e]
    exact K8
  | succ r ih =>
    intro i fu x2 x3 x4 x5 σ3 L P hi fr h2 hf hK hL hP
    have pw : 2 ^ (r + 1) = 2 ^ r * 2 := Nat.pow_succ 2 r
    have lf : (fmX b a c r (o + (i + 1)) (ti x3) (ti x4) x5).length ≤ 2 ^ r := by
      rw [fm_len]
      exact cnF_le _ _
    have e1 : fmX b a c (r + 1) (o + i) (ti x3) (ti x4) x5 = fmX b a c r (o + (i + 1)) (ti x3) (ti x4) x5 ++ (if b (o + i) = true then fmX b a c r (o + (i + 1)) (ti x3 - a (o + i)) (ti x4 - c (o + i)) (x5 ||| ((1 : Int32) <<< (Int32.ofNat (o + i) &&& 31))) else []) := rfl
    by_cases hb : b (o + i) = true
    · have cn1 : cnF (fun j => b (o + j)) (i + 1) = cnF (fun j => b (o + j)) i + 1 := by rw [cnF_1, if_pos hb]
      have cm := cnF_mono (W := fun j => b (o + j)) r (i + 1)
      rw [show i + 1 + r = R by omega] at cm
      obtain ⟨f, hf'⟩ : ∃ f, fu = f + 1 := ⟨fu - 1, by omega⟩
      subst hf'
      have tn := tn_eq x2
      have tx := tadd (x := x2) (y := (1 : Int32)) (by omega)
      have n2 : x2.toNatClampNeg = cnF (fun j => b (o + j)) i := by omega
      have sz : ti (σ3.1 200 6) = (cnF (fun j => b (o + j)) R : Int) := by rw [fr 200 6 (by omega), iS]
      obtain ⟨i1, i2, i3⟩ := iI i (by omega) hb
      have rr := rs i (by omega)
      rw [show R - i = r + 1 by omega] at rr
      have r4 : ti (σ3.1 204 x2.toNatClampNeg) = sG b a (r + 1) (o + i) := by rw [n2, fr 204 _ (by omega), rr.1]
      have r5 : ti (σ3.1 205 x2.toNatClampNeg) = sG b c (r + 1) (o + i) := by rw [n2, fr 205 _ (by omega), rr.2]
      have a0 := ha (o + i) hb
      have c0 := hc (o + i) hb
      have no : (ti x3 < 0 ∨ ti x4 < 0 ∨ sG b a (r + 1) (o + i) < ti x3 ∨ sG b c (r + 1) (o + i) < ti x4) → P σ3 := fun z => by
        refine hP σ3 fr ?_
        rw [fm_out ha0 hc0 (r + 1) (o + i) _ _ _ z, List.append_nil]
        exact hK
      unfold w_X6_search
      refine ⟨fun q => by have := lt_t q; omega, fun _ => ⟨fun q => by have := lt_t q; omega, fun _ => ⟨fun q => no (by have := lt_t q; omega), fun q => ⟨fun q2 => ⟨vin (by omega), fun q3 => no (by have := lt_t q3; omega), fun q3 => ⟨vin (by omega), fun q4 => ⟨fun _ => ?_, fun q5 => by have := eq_t q5; omega⟩, fun q4 => no (by have := nle_t q4; omega)⟩⟩, fun q2 => no (by have := nle_t q2; omega)⟩⟩⟩⟩
      have c1 := nlt_t q
      have c2 := le_t q2
      refine ih (i + 1) f (x2 + (1 : Int32)) x3 x4 x5 σ3 L _ (by omega) fr (by omega) (by omega) hK (by omega) (fun σ4 f4 K4 => ⟨vin (by omega), vin (by omega), vin (by omega), ?_⟩)
      rw [n2, f4 201 _ (by omega), f4 202 _ (by omega), f4 203 _ (by omega), i1]
      have s3 := tsub (x := x3) (y := σ.1 202 (cnF (fun j => b (o + j)) i)) (by have := full32 x3; omega)
      have s4 := tsub (x := x4) (y := σ.1 203 (cnF (fun j => b (o + j)) i)) (by have := full32 x4; omega)
      refine ih (i + 1) f (x2 + (1 : Int32)) _ _ _ σ4 _ _ (by omega) f4 (by omega) (by omega) K4 (by rw [List.length_append]; omega) (fun σ5 f5 K5 => hP σ5 f5 ?_)
      rw [s3, s4, i2, i3, List.append_assoc] at K5
      rw [e1, if_pos hb]
      exact K5
    · have cn1 : cnF (fun j => b (o + j)) (i + 1) = cnF (fun j => b (o + j)) i := by
        rw [cnF_1, if_neg hb]
        rfl
      refine ih (i + 1) fu x2 x3 x4 x5 σ3 L P (by omega) fr (by rw [cn1]; exact h2) (by rw [cn1]; exact hf) hK (by omega) (fun σ2 f2 K2 => hP σ2 f2 ?_)
      rw [e1, if_neg hb, List.append_nil]
      exact K2
