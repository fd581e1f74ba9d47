/-! families of sets, POSTS ahead of o and behind it apart -/
theorem sF_add {f : Nat → Int} : ∀ (r m p k : Nat), sF f (r + m) p k = sF f r p k + sF f m (p + r) (k / 2 ^ r) := by
  intro r
  induction r with
  | zero =>
    intro m p k
    rw [Nat.zero_add, Nat.pow_zero, Nat.div_one, Nat.add_zero]
    show _ = 0 + _
    omega
  | succ r ih =>
    intro m p k
    rw [show r + 1 + m = (r + m) + 1 by omega]
    show (if k % 2 = 0 then 0 else f p) + sF f (r + m) (p + 1) (k / 2) = ((if k % 2 = 0 then 0 else f p) + sF f r (p + 1) (k / 2)) + sF f m (p + (r + 1)) (k / 2 ^ (r + 1))
    rw [ih m (p + 1) (k / 2), Nat.div_div_eq_div_mul, show 2 * 2 ^ r = 2 ^ (r + 1) by rw [Nat.pow_succ, Nat.mul_comm], show p + 1 + r = p + (r + 1) by omega]
    omega
theorem sF_mod {f : Nat → Int} : ∀ (r p k : Nat), sF f r p (k % 2 ^ r) = sF f r p k := by
  intro r
  induction r with
  | zero => intro p k; rfl
  | succ r ih =>
    intro p k
    have e : 2 ^ (r + 1) = 2 * 2 ^ r := by rw [Nat.pow_succ, Nat.mul_comm]
    rw [e]
    show (if k % (2 * 2 ^ r) % 2 = 0 then 0 else f p) + sF f r (p + 1) (k % (2 * 2 ^ r) / 2) = (if k % 2 = 0 then 0 else f p) + sF f r (p + 1) (k / 2)
    rw [Nat.mod_mul_right_mod, Nat.mod_mul_right_div_self, ih]
theorem sF_pre {f : Nat → Int} {p o : Nat} (h : p ≤ o) (k : Nat) : sF f p 0 (k % 2 ^ o) = sF f p 0 k := by
  rw [← sF_mod p 0 (k % 2 ^ o), ← sF_mod p 0 k, Nat.mod_mod_of_dvd _ (Nat.pow_dvd_pow 2 h)]
theorem sF_z {f : Nat → Int} (h : ∀ p, f p = 0) : ∀ (r p k : Nat), sF f r p k = 0 := by
  intro r
  induction r with
  | zero => intro p k; rfl
  | succ r ih =>
    intro p k
    show (if k % 2 = 0 then 0 else f p) + sF f r (p + 1) (k / 2) = 0
    rw [ih, h]
    split <;> rfl
theorem sF_s {f : Nat → Int} (i k : Nat) : sF f (i + 1) 0 k = sF f i 0 k + (if k / 2 ^ i % 2 = 0 then 0 else f i) := by
  rw [sF_add i 1 0 k, Nat.zero_add]
  show _ + ((if k / 2 ^ i % 2 = 0 then 0 else f i) + 0) = _
  omega
theorem bit_lo {j o k : Nat} (h : j < o) : k % 2 ^ o / 2 ^ j % 2 = k / 2 ^ j % 2 := by
  have e : ∀ x, x / 2 ^ j % 2 = 1 ↔ x.testBit j = true := fun x => by rw [Nat.testBit_eq_decide_div_mod_eq]; exact ⟨fun z => decide_eq_true z, fun z => of_decide_eq_true z⟩
  have y : (k % 2 ^ o).testBit j = k.testBit j := by rw [Nat.testBit_mod_two_pow, decide_eq_true h, Bool.true_and]
  have a := e (k % 2 ^ o)
  have b := e k
  rw [y] at a
  have c : k % 2 ^ o / 2 ^ j % 2 = 1 ↔ k / 2 ^ j % 2 = 1 := a.trans b.symm
  omega
theorem bit_hi {j o k : Nat} (h : o ≤ j) : k / 2 ^ o / 2 ^ (j - o) % 2 = k / 2 ^ j % 2 := by
  rw [Nat.div_div_eq_div_mul, ← Nat.pow_add, show o + (j - o) = j by omega]
theorem jn_mod {o k1 s : Nat} (h : k1 < 2 ^ o) : (k1 + 2 ^ o * s) % 2 ^ o = k1 ∧ (k1 + 2 ^ o * s) / 2 ^ o = s := by
  have p : 0 < 2 ^ o := Nat.pos_of_ne_zero (fun z => by omega)
  refine ⟨?_, ?_⟩
  · rw [Nat.add_mul_mod_self_left, Nat.mod_eq_of_lt h]
  · rw [Nat.add_mul_div_left _ _ p, Nat.div_eq_of_lt h, Nat.zero_add]
theorem jn_lt {o R k1 s : Nat} (h : k1 < 2 ^ o) (hs : s < 2 ^ R) : k1 + 2 ^ o * s < 2 ^ (o + R) := by
  rw [Nat.pow_add]
  have y : 2 ^ o * s + 2 ^ o ≤ 2 ^ o * 2 ^ R := by
    have z := Nat.mul_le_mul_left (2 ^ o) (show s + 1 ≤ 2 ^ R by omega)
    rw [Nat.mul_add, Nat.mul_one] at z
    exact z
  omega
theorem jn_div {o R k : Nat} (h : k < 2 ^ (o + R)) : k / 2 ^ o < 2 ^ R := by
  rw [Nat.pow_add] at h
  exact Nat.div_lt_of_lt_mul h
theorem cn_mul {f g : Nat → Bool} {m : Nat} : ∀ r, cnF (fun k => f (k % m) && g (k / m)) (m * r) = cnF f m * cnF g r := by
  intro r
  by_cases m0 : m = 0
  · subst m0
    rw [Nat.zero_mul]
    show 0 = 0 * _
    rw [Nat.zero_mul]
  induction r with
  | zero => rfl
  | succ r ih =>
    have blk : ∀ t, t ≤ m → cnF (fun k => f (k % m) && g (k / m)) (m * r + t) = cnF (fun k => f (k % m) && g (k / m)) (m * r) + (if g r = true then cnF f t else 0) := by
      intro t
      induction t with
      | zero =>
        intro _
        rw [Nat.add_zero]
        by_cases h : g r = true
        · rw [if_pos h]; rfl
        · rw [if_neg h]; rfl
      | succ t iht =>
        intro ht
        have y := iht (by omega)
        have e1 : (m * r + t) % m = t := by rw [Nat.mul_add_mod, Nat.mod_eq_of_lt (by omega)]
        have e2 : (m * r + t) / m = r := by rw [Nat.mul_add_div (by omega), Nat.div_eq_of_lt (by omega), Nat.add_zero]
        rw [show m * r + (t + 1) = (m * r + t) + 1 by omega, cnF_1, y, e1, e2]
        by_cases h : g r = true
        · rw [if_pos h, if_pos h, h, Bool.and_true, cnF_1]
          omega
        · have h' : g r = false := by
            cases hg : g r
            · rfl
            · exact absurd hg h
          rw [if_neg h, if_neg h, h', Bool.and_false]
          rfl
    have y := blk m (Nat.le_refl m)
    rw [Nat.mul_succ, y, ih, cnF_1]
    by_cases h : g r = true
    · rw [if_pos h, if_pos h, Nat.mul_add, Nat.mul_one]
    · rw [if_neg h, if_neg h, Nat.add_zero]
      rfl
theorem cn_ex {W : Nat → Bool} {n : Nat} (h : cnF W n ≠ 0) : ∃ k, k < n ∧ W k = true := Classical.byContradiction (fun z => h (cnF_z n (fun r hr => by
  cases hw : W r
  · rfl
  · exact absurd ⟨r, hr, hw⟩ z)))
theorem cn_ne {W : Nat → Bool} {n k : Nat} (hk : k < n) (h : W k = true) : cnF W n ≠ 0 := by
  have := cnF_pos h n hk
  omega
theorem cnF_all {W : Nat → Bool} : ∀ n, (∀ r, r < n → W r = true) → cnF W n = n := by
  intro n
  induction n with
  | zero => intro _; rfl
  | succ n ih => intro h; rw [cnF_1, ih (fun r hr => h r (by omega)), if_pos (h n (by omega))]
/-- the family V of sets of the POSTS ahead of o: how many, what all have, what any has, the least -/
def FaS (V : Nat → Bool) (o : Nat) (cnt su ma fi : Int32) : Prop := cnt = Int32.ofNat (cnF V (2 ^ o)) ∧ (cnF V (2 ^ o) ≠ 0 → (∀ j, j < 32 → (bt su j = true ↔ j < o ∧ ∀ k, k < 2 ^ o → V k = true → k / 2 ^ j % 2 = 1)) ∧ (∀ j, j < 32 → (bt ma j = true ↔ ∃ k, k < 2 ^ o ∧ V k = true ∧ k / 2 ^ j % 2 = 1)) ∧ (∃ kf, kf < 2 ^ o ∧ V kf = true ∧ fi = Int32.ofNat kf ∧ ∀ k, k < 2 ^ o → V k = true → kf ≤ k))
/-- the family g of sets of the R POSTS from o on -/
def SgS (g : Nat → Bool) (o R : Nat) (cnt su ma fi : Int32) : Prop := cnt = Int32.ofNat (cnF g (2 ^ R)) ∧ (cnF g (2 ^ R) ≠ 0 → (∀ j, j < 32 → (bt su j = true ↔ (o ≤ j ∧ j < o + R) ∧ ∀ s, s < 2 ^ R → g s = true → s / 2 ^ (j - o) % 2 = 1)) ∧ (∀ j, j < 32 → (bt ma j = true ↔ (o ≤ j ∧ j < o + R) ∧ ∃ s, s < 2 ^ R ∧ g s = true ∧ s / 2 ^ (j - o) % 2 = 1)) ∧ (∃ sf, sf < 2 ^ R ∧ g sf = true ∧ fi = Int32.ofNat (2 ^ o * sf) ∧ ∀ s, s < 2 ^ R → g s = true → sf ≤ s))
theorem FaS_cg {V V' : Nat → Bool} {o : Nat} {cnt su ma fi : Int32} (h : FaS V o cnt su ma fi) (e : ∀ k, k < 2 ^ o → V k = V' k) : FaS V' o cnt su ma fi := by
  obtain ⟨h1, h2⟩ := h
  have c : cnF V (2 ^ o) = cnF V' (2 ^ o) := cnF_cg _ e
  rw [c] at h1 h2
  refine ⟨h1, fun z => ?_⟩
  obtain ⟨a, b, kf, f1, f2, f3, f4⟩ := h2 z
  refine ⟨fun j hj => ?_, fun j hj => ?_, kf, f1, by rw [← e kf f1]; exact f2, f3, fun k hk hv => f4 k hk (by rw [e k hk]; exact hv)⟩
  · rw [a j hj]
    exact ⟨fun y => ⟨y.1, fun k hk hv => y.2 k hk (by rw [e k hk]; exact hv)⟩, fun y => ⟨y.1, fun k hk hv => y.2 k hk (by rw [← e k hk]; exact hv)⟩⟩
  · rw [b j hj]
    exact ⟨fun ⟨k, hk, hv, hb⟩ => ⟨k, hk, by rw [← e k hk]; exact hv, hb⟩, fun ⟨k, hk, hv, hb⟩ => ⟨k, hk, by rw [e k hk]; exact hv, hb⟩⟩
theorem i_mulN {a b : Nat} (h : a * b < 2147483648) (ha : a < 2147483648) (hb : b < 2147483648) : Int32.ofNat a * Int32.ofNat b = Int32.ofNat (a * b) := by
  have ta : ti (Int32.ofNat a) = (a : Int) := nI_t ha
  have tb : ti (Int32.ofNat b) = (b : Int) := nI_t hb
  apply t_inj
  rw [tmul (by rw [ta, tb, ← Int.natCast_mul]; omega), ta, tb, show ti (Int32.ofNat (a * b)) = ((a * b : Nat) : Int) from nI_t h, Int.natCast_mul]
theorem i_shl (c : Nat) {s : Nat} (hs : s < 32) : (Int32.ofNat c) <<< (Int32.ofNat s &&& 31) = Int32.ofNat (c * 2 ^ s) := by
  apply Int32.toBitVec_inj.mp
  show (BitVec.ofNat 32 c) <<< ((Int32.ofNat s &&& 31).toBitVec.smod 32) = BitVec.ofNat 32 (c * 2 ^ s)
  apply BitVec.eq_of_toNat_eq
  rw [BitVec.shiftLeft_eq', bt_sm s hs, BitVec.toNat_shiftLeft, BitVec.toNat_ofNat, BitVec.toNat_ofNat, Nat.shiftLeft_eq, Nat.mul_mod, Nat.mod_mod, ← Nat.mul_mod]
theorem or_jn {o R kf sf : Nat} (hR : o + R ≤ 31) (h1 : kf < 2 ^ o) (h2 : sf < 2 ^ R) : Int32.ofNat kf ||| Int32.ofNat (2 ^ o * sf) = Int32.ofNat (kf + 2 ^ o * sf) := by
  have lt := jn_lt h1 h2
  have p31 : 2 ^ (o + R) ≤ 2 ^ 31 := Nat.pow_le_pow_right (by decide) hR
  have jm := jn_mod (s := sf) h1
  have j0 := jn_mod (o := o) (k1 := 0) (s := sf) (by omega)
  rw [Nat.zero_add] at j0
  refine bt_ex (fun j hj => ?_)
  rw [bt_or, bt_nat (by omega) hj, bt_nat (by omega) hj, bt_nat (by omega) hj]
  by_cases c : j < o
  · have a := bit_lo (k := kf + 2 ^ o * sf) c
    have b := bit_lo (k := 2 ^ o * sf) c
    rw [jm.1] at a
    rw [j0.1, Nat.zero_div] at b
    rw [← a, ← b]
    rw [decide_eq_false (show ¬ 0 % 2 = 1 by decide), Bool.or_false]
  · have a := bit_hi (k := kf + 2 ^ o * sf) (show o ≤ j by omega)
    have b := bit_hi (k := 2 ^ o * sf) (show o ≤ j by omega)
    rw [jm.2] at a
    rw [j0.2] at b
    rw [← a, ← b, bt_hi h1 (by omega), decide_eq_false (show ¬ 0 % 2 = 1 by decide), Bool.false_or]
/-- both together -/
theorem Fa_mul {V g V' : Nat → Bool} {o R : Nat} {cnt su ma fi cnt2 su2 ma2 fi2 : Int32} (hR : o + R ≤ 15) (h : FaS V o cnt su ma fi) (h2 : SgS g o R cnt2 su2 ma2 fi2) (hV : ∀ k, k < 2 ^ (o + R) → V' k = (V (k % 2 ^ o) && g (k / 2 ^ o))) : FaS V' (o + R) (cnt * cnt2) (su ||| su2) (ma ||| ma2) (fi ||| fi2) := by
  obtain ⟨a1, a2⟩ := h
  obtain ⟨b1, b2⟩ := h2
  have po : 0 < 2 ^ o := Nat.pow_pos (by decide)
  have p15 : 2 ^ (o + R) ≤ 2 ^ 15 := Nat.pow_le_pow_right (by decide) hR
  have pe : 2 ^ (o + R) = 2 ^ o * 2 ^ R := Nat.pow_add 2 o R
  have cn : cnF V' (2 ^ (o + R)) = cnF V (2 ^ o) * cnF g (2 ^ R) := by
    rw [cnF_cg (2 ^ (o + R)) (W' := fun k => V (k % 2 ^ o) && g (k / 2 ^ o)) hV, pe]
    exact cn_mul (2 ^ R)
  have c1 := cnF_le V (2 ^ o)
  have c2 := cnF_le g (2 ^ R)
  have q1 : 2 ^ o ≤ 2 ^ 15 := Nat.pow_le_pow_right (by decide) (by omega)
  have q2 : 2 ^ R ≤ 2 ^ 15 := Nat.pow_le_pow_right (by decide) (by omega)
  have c3 : cnF V (2 ^ o) * cnF g (2 ^ R) ≤ 2 ^ o * 2 ^ R := Nat.mul_le_mul c1 c2
  have md : ∀ k, k < 2 ^ (o + R) → k % 2 ^ o < 2 ^ o ∧ k / 2 ^ o < 2 ^ R := fun k hk => ⟨Nat.mod_lt _ po, jn_div hk⟩
  refine ⟨by rw [a1, b1, cn, i_mulN (by omega) (by omega) (by omega)], fun z => ?_⟩
  have z1 : cnF V (2 ^ o) ≠ 0 := fun y => z (by rw [cn, y, Nat.zero_mul])
  have z2 : cnF g (2 ^ R) ≠ 0 := fun y => z (by rw [cn, y, Nat.mul_zero])
  obtain ⟨s1, m1, kf, f1, f2, f3, f4⟩ := a2 z1
  obtain ⟨s2, m2, sf, g1, g2, g3, g4⟩ := b2 z2
  have jn : ∀ k1 s, k1 < 2 ^ o → s < 2 ^ R → V k1 = true → g s = true → V' (k1 + 2 ^ o * s) = true := fun k1 s x1 x2 x3 x4 => by
    rw [hV _ (jn_lt x1 x2), (jn_mod x1).1, (jn_mod x1).2, x3, x4]
    rfl
  have sp : ∀ k, k < 2 ^ (o + R) → V' k = true → V (k % 2 ^ o) = true ∧ g (k / 2 ^ o) = true := fun k hk hv => by
    rw [hV k hk, Bool.and_eq_true] at hv
    exact hv
  refine ⟨fun j hj => ?_, fun j hj => ?_, kf + 2 ^ o * sf, jn_lt f1 g1, jn kf sf f1 g1 f2 g2, ?_, fun k hk hv => ?_⟩
  · rw [bt_or, Bool.or_eq_true, s1 j hj, s2 j hj]
    refine ⟨fun y => ?_, fun y => ?_⟩
    · rcases y with ⟨y1, y2⟩ | ⟨y1, y2⟩
      · refine ⟨by omega, fun k hk hv => ?_⟩
        rw [← bit_lo y1]
        exact y2 _ (md k hk).1 (sp k hk hv).1
      · refine ⟨by omega, fun k hk hv => ?_⟩
        rw [← bit_hi y1.1]
        exact y2 _ (md k hk).2 (sp k hk hv).2
    · by_cases c : j < o
      · refine Or.inl ⟨c, fun k1 x1 x2 => ?_⟩
        have w := y.2 _ (jn_lt x1 g1) (jn k1 sf x1 g1 x2 g2)
        rw [← bit_lo c, (jn_mod x1).1] at w
        exact w
      · refine Or.inr ⟨⟨by omega, y.1⟩, fun s x1 x2 => ?_⟩
        have w := y.2 _ (jn_lt f1 x1) (jn kf s f1 x1 f2 x2)
        rw [← bit_hi (show o ≤ j by omega), (jn_mod f1).2] at w
        exact w
  · rw [bt_or, Bool.or_eq_true, m1 j hj, m2 j hj]
    refine ⟨fun y => ?_, fun ⟨k, hk, hv, hb⟩ => ?_⟩
    · rcases y with ⟨k1, x1, x2, x3⟩ | ⟨y1, s, x1, x2, x3⟩
      · refine ⟨_, jn_lt x1 g1, jn k1 sf x1 g1 x2 g2, ?_⟩
        by_cases c : j < o
        · rw [← bit_lo c, (jn_mod x1).1]
          exact x3
        · rw [bt_hi x1 (by omega)] at x3
          omega
      · refine ⟨_, jn_lt f1 x1, jn kf s f1 x1 f2 x2, ?_⟩
        rw [← bit_hi y1.1, (jn_mod f1).2]
        exact x3
    · by_cases c : j < o
      · refine Or.inl ⟨_, (md k hk).1, (sp k hk hv).1, ?_⟩
        rw [bit_lo c]
        exact hb
      · have jr : j < o + R := Classical.byContradiction (fun w => by
          rw [bt_hi hk (by omega)] at hb
          omega)
        refine Or.inr ⟨⟨by omega, jr⟩, _, (md k hk).2, (sp k hk hv).2, ?_⟩
        rw [bit_hi (by omega)]
        exact hb
  · rw [f3, g3, or_jn (by omega) f1 g1]
  · have w1 := f4 _ (md k hk).1 (sp k hk hv).1
    have w2 := Nat.mul_le_mul_left (2 ^ o) (g4 _ (md k hk).2 (sp k hk hv).2)
    have w3 := Nat.mod_add_div k (2 ^ o)
    omega
/-- what the search keeps is such a family -/
theorem Sg_find {b : Nat → Bool} {a c : Nat → Int} {o R : Nat} (hR : o + R ≤ 15) {P C : Int} {σ : zSto} (h : StK (fmX b a c R o P C 0) σ) : SgS (fmE b a c R o P C) o R (σ.1 200 7) (σ.1 200 8) (σ.1 200 9) (σ.1 200 10) := by
  obtain ⟨k1, k2, k3, k4⟩ := h
  have p15 : 2 ^ (o + R) ≤ 2 ^ 15 := Nat.pow_le_pow_right (by decide) hR
  have po : 0 < 2 ^ o := Nat.pow_pos (by decide)
  have num : ∀ s, s < 2 ^ R → ∀ j, j < 32 → bt (Int32.ofNat (2 ^ o * s)) j = bkF R o s j := fun s hs j hj => by
    have lt := jn_lt (o := o) (k1 := 0) (by omega) hs
    rw [Nat.zero_add] at lt
    have j0 := jn_mod (o := o) (k1 := 0) (s := s) po
    rw [Nat.zero_add] at j0
    rw [bt_nat (by omega) hj]
    unfold bkF
    by_cases c : j < o
    · have y := bit_lo (k := 2 ^ o * s) c
      rw [j0.1, Nat.zero_div] at y
      rw [← y, decide_eq_false (show ¬ (o ≤ j ∧ j < o + R) by omega)]
      rfl
    · have y := bit_hi (k := 2 ^ o * s) (show o ≤ j by omega)
      rw [j0.2] at y
      rw [← y]
      by_cases d : j < o + R
      · rw [decide_eq_true (show o ≤ j ∧ j < o + R by omega), Bool.true_and]
      · rw [decide_eq_false (show ¬ (o ≤ j ∧ j < o + R) by omega), bt_hi hs (by omega)]
        rfl
  have mem : ∀ x, x ∈ fmX b a c R o P C 0 ↔ ∃ s, s < 2 ^ R ∧ fmE b a c R o P C s = true ∧ x = Int32.ofNat (2 ^ o * s) := fun x => by
    rw [fm_mem R o P C 0 x (by omega)]
    refine ⟨fun ⟨s, h1, h2, h3⟩ => ⟨s, h1, h2, bt_ex (fun j hj => by rw [h3 j hj, bt_z, Bool.false_or, num s h1 j hj])⟩, fun ⟨s, h1, h2, h3⟩ => ⟨s, h1, h2, fun j hj => by rw [h3, num s h1 j hj, bt_z, Bool.false_or]⟩⟩
  have bk : ∀ s j, bkF R o s j = true ↔ (o ≤ j ∧ j < o + R) ∧ s / 2 ^ (j - o) % 2 = 1 := fun s j => by
    unfold bkF
    rw [Bool.and_eq_true]
    exact ⟨fun z => ⟨of_decide_eq_true z.1, of_decide_eq_true z.2⟩, fun z => ⟨decide_eq_true z.1, decide_eq_true z.2⟩⟩
  rw [fm_len] at k1
  refine ⟨k1, fun z => ⟨fun j hj => ?_, fun j hj => ?_, ?_⟩⟩
  · rw [k2 j hj]
    obtain ⟨s0, x1, x2⟩ := cn_ex z
    refine ⟨fun y => ⟨?_, fun s h1 h2 => ?_⟩, fun y x hx => ?_⟩
    · have w := y _ ((mem _).mpr ⟨s0, x1, x2, rfl⟩)
      rw [num s0 x1 j hj, bk] at w
      exact w.1
    · have w := y _ ((mem _).mpr ⟨s, h1, h2, rfl⟩)
      rw [num s h1 j hj, bk] at w
      exact w.2
    · obtain ⟨s, h1, h2, h3⟩ := (mem x).mp hx
      rw [h3, num s h1 j hj, bk]
      exact ⟨y.1, y.2 s h1 h2⟩
  · rw [k3 j hj]
    refine ⟨fun ⟨x, hx, hb⟩ => ?_, fun ⟨y, s, h1, h2, h3⟩ => ⟨_, (mem _).mpr ⟨s, h1, h2, rfl⟩, by rw [num s h1 j hj, bk]; exact ⟨y, h3⟩⟩⟩
    obtain ⟨s, h1, h2, h3⟩ := (mem x).mp hx
    rw [h3, num s h1 j hj, bk] at hb
    exact ⟨hb.1, s, h1, h2, hb.2⟩
  · obtain ⟨s0, x1, x2⟩ := cn_ex z
    have ne : fmX b a c R o P C 0 ≠ [] := fun y => by
      have w := (mem _).mpr ⟨s0, x1, x2, rfl⟩
      rw [y] at w
      exact absurd w (List.not_mem_nil)
    obtain ⟨f1, f2⟩ := k4 ne
    obtain ⟨sf, h1, h2, h3⟩ := (mem _).mp f1
    have tt : ∀ s, s < 2 ^ R → ti (Int32.ofNat (2 ^ o * s)) = ((2 ^ o * s : Nat) : Int) := fun s hs => nI_t (by
      have lt := jn_lt (o := o) (k1 := 0) (by omega) hs
      omega)
    refine ⟨sf, h1, h2, h3, fun s hs hg => ?_⟩
    have w := f2 _ ((mem _).mpr ⟨s, hs, hg, rfl⟩)
    rw [h3, tt sf h1, tt s hs] at w
    have w2 : 2 ^ o * sf ≤ 2 ^ o * s := by omega
    exact Nat.le_of_mul_le_mul_left w2 po
/-- POSTS behind: free -/
theorem Sg_free {o R : Nat} {ma : Int32} (hm : ∀ j, j < 32 → (bt ma j = true ↔ o ≤ j ∧ j < o + R)) : SgS (fun _ => true) o R (Int32.ofNat (2 ^ R)) 0 ma 0 := by
  have c := cnF_all (W := fun _ => true) (2 ^ R) (fun _ _ => rfl)
  have pR : 0 < 2 ^ R := Nat.pow_pos (by decide)
  refine ⟨by rw [c], fun _ => ⟨fun j hj => ?_, fun j hj => ?_, 0, pR, rfl, by rw [Nat.mul_zero]; rfl, fun s _ _ => Nat.zero_le s⟩⟩
  · rw [bt_z]
    refine ⟨fun z => absurd z (by decide), fun z => ?_⟩
    have w := z.2 0 pR rfl
    rw [Nat.zero_div] at w
    omega
  · rw [hm j hj]
    refine ⟨fun z => ⟨z, 2 ^ (j - o), Nat.pow_lt_pow_right (by decide) (by omega), rfl, ?_⟩, fun z => z.1⟩
    rw [Nat.div_self (Nat.pow_pos (by decide))]
