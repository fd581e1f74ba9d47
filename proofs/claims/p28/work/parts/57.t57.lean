/-! feed and end, with the bytes -/
def fdB (a : Int32) (k : Nat) : Int32 := vp_nar .byte (a.toUInt32 >>> ((Int32.ofNat (24 - 8 * k)).toUInt32 &&& Int32.toUInt32 31)).toInt32.toInt8.toInt32
def fdR (a : Int32) (k : Nat) : Int32 := vp_nar .byte (a >>> ((Int32.ofNat (24 - 8 * k)) &&& 31)).toInt8.toInt32
theorem sh_eq (x : BitVec 32) {n : Nat} (h : n ≤ 24) : (x >>> n).signExtend 8 = (x.sshiftRight n).signExtend 8 := by
  apply BitVec.eq_of_getLsbD_eq
  intro i hi
  rw [BitVec.getLsbD_signExtend, BitVec.getLsbD_signExtend, BitVec.getLsbD_sshiftRight, BitVec.getLsbD_ushiftRight]
  have h1 : i < 32 := by omega
  have h2 : n + i < 32 := by omega
  have h3 : ¬ 32 ≤ i := by omega
  simp [hi, h1, h2, h3]
theorem fd_eq (a : Int32) {k : Nat} (h : k < 4) : fdB a k = fdR a k := by
  have e : ∀ c : Nat, c ≤ 24 → (a.toUInt32 >>> ((Int32.ofNat c).toUInt32 &&& Int32.toUInt32 31)).toInt32.toBitVec = a.toBitVec >>> c → (a >>> ((Int32.ofNat c) &&& 31)).toBitVec = a.toBitVec.sshiftRight c → vp_nar .byte (a.toUInt32 >>> ((Int32.ofNat c).toUInt32 &&& Int32.toUInt32 31)).toInt32.toInt8.toInt32 = vp_nar .byte (a >>> ((Int32.ofNat c) &&& 31)).toInt8.toInt32 := by
    intro c hc h1 h2
    have h3 : (a.toUInt32 >>> ((Int32.ofNat c).toUInt32 &&& Int32.toUInt32 31)).toInt32.toInt8 = (a >>> ((Int32.ofNat c) &&& 31)).toInt8 := by
      apply Int8.toBitVec_inj.mp
      rw [Int32.toBitVec_toInt8, Int32.toBitVec_toInt8, h1, h2]
      exact sh_eq _ hc
    rw [h3]
  unfold fdB fdR
  rcases (show k = 0 ∨ k = 1 ∨ k = 2 ∨ k = 3 by omega) with z | z | z | z <;> subst z
  · exact e 24 (by decide) rfl rfl
  · exact e 16 (by decide) rfl rfl
  · exact e 8 (by decide) rfl rfl
  · exact e 0 (by decide) rfl rfl
theorem fd_x {x : Int32} {k : Nat} (hk : k < 4) (h : ti x = 24 - 8 * (k : Int)) : x = Int32.ofNat (24 - 8 * k) := t_inj (by rw [show ti (Int32.ofNat (24 - 8 * k)) = ((24 - 8 * k : Nat) : Int) from nI_t (by omega)]; omega)
/-- L bytes, then those of one number -/
def apd (q L : Nat) (f : Nat → Int32) (N : Nat) (σ0 σ : zSto) : Prop := ∀ j, σ.1 q j = if L ≤ j ∧ j < L + N then f (j - L) else σ0.1 q j
set_option maxHeartbeats 4000000 in
theorem f_X8_append_3 (x_1 : Int32) {L : Nat} (hL : L + 4 ≤ 600) {σ0 : zSto} {P : zSto → Prop} (hP : ∀ σ2, ti (σ2.1 1 5) = (L : Int) + 4 → apd 2 L (fdB x_1) 4 σ0 σ2 → (∀ q j, q ≠ 2 → ¬ (q = 1 ∧ j = 5) → σ2.1 q j = σ0.1 q j) → P σ2) : ∀ (n m : Nat) (x_2 : Int32) (σ : zSto), m ≤ 4 → ti x_2 = 24 - 8 * (m : Int) → ti (σ.1 1 5) = (L : Int) + m → apd 2 L (fdB x_1) m σ0 σ → (∀ q j, q ≠ 2 → ¬ (q = 1 ∧ j = 5) → σ.1 q j = σ0.1 q j) → 4 - m < n → w_X8_append_3 1 x_1 P n x_2 σ := by
  have l0 := lit_0
  have l1 := lit_1
  have l8 := lit_m8
  have l600 := lit_600
  intro n
  induction n with
  | zero => intro m x_2 σ h4 h1 h2 h5 h6 h3; exfalso; omega
  | succ n ih =>
    intro m x_2 σ h4 h1 h2 h5 h6 h3
    unfold w_X8_append_3
    refine ⟨fun q => ?_, fun q => ⟨fun q2 => ?_, fun q2 => ?_⟩⟩
    · have c := lt_t q
      have em : m = 4 := by omega
      subst em
      exact hP σ h2 h5 h6
    · have c := nlt_t q
      have c2 := le_t q2
      exfalso
      omega
    · have c := nlt_t q
      have c2 := nle_t q2
      refine ⟨vin (by omega), fun σ2 e2 σ3 e3 x4 e4 => ?_⟩
      have tn := tn_eq (σ.1 1 5)
      rw [fd_x (k := m) (by omega) h1, show (σ.1 1 5).toNatClampNeg = L + m by omega] at e2
      have f2 : ti (σ2.1 1 5) = ti (σ.1 1 5) := congrArg ti (zI_q' e2 (Or.inl (by decide)))
      have t2 := tadd (x := σ2.1 1 5) (y := (1 : Int32)) (by omega)
      have f3 : ti (σ3.1 1 5) = ti (σ.1 1 5) + 1 := by rw [e3, zI_s]; omega
      have t4 := tadd (x := x_2) (y := (-8 : Int32)) (by omega)
      have t5 := eq_t e4
      refine ih (m + 1) x4 σ3 (by omega) (by omega) (by omega) (fun j => ?_) (fun q j a b => ?_) (by omega)
      · rw [zI_q' e3 (Or.inl (by decide))]
        by_cases c3 : j = L + m
        · subst c3
          rw [if_pos (by omega), e2]
          show (zI σ (1 + 1) (L + m) (fdB x_1 m)).1 (1 + 1) (L + m) = _
          rw [zI_s, show L + m - L = m by omega]
        · rw [zI_q' e2 (Or.inr c3), h5 j]
          by_cases c4 : L ≤ j ∧ j < L + m
          · rw [if_pos c4, if_pos (by omega)]
          · rw [if_neg c4, if_neg (by omega)]
      · rw [zI_q' e3 (by omega), zI_q' e2 (Or.inl a)]
        exact h6 q j a b
theorem f_X8_append (a1 : Int32) {L : Nat} (hL : L + 4 ≤ 600) {σ : zSto} (h : ti (σ.1 1 5) = (L : Int)) {P : zSto → Prop} (hP : ∀ σ2, ti (σ2.1 1 5) = (L : Int) + 4 → apd 2 L (fdB a1) 4 σ σ2 → (∀ q j, q ≠ 2 → ¬ (q = 1 ∧ j = 5) → σ2.1 q j = σ.1 q j) → P σ2) : w_X8_append 1 a1 σ P :=
  ⟨10, f_X8_append_3 a1 hL hP 10 0 (24 : Int32) σ (by omega) (by rw [lit_24]; rfl) (by omega) (fun j => by rw [if_neg (by omega)]) (fun _ _ _ _ => rfl) (by omega)⟩
def fd5 (f : Int32 → Nat → Int32) (a b c d e : Int32) (j : Nat) : Int32 := if j < 4 then f a j else if j < 8 then f b (j - 4) else if j < 12 then f c (j - 8) else if j < 16 then f d (j - 12) else f e (j - 16)
theorem fd5_eq (a b c d e : Int32) {j : Nat} (h : j < 20) : fd5 fdB a b c d e j = fd5 fdR a b c d e j := by
  unfold fd5
  repeat' split
  all_goals exact fd_eq _ (by omega)
theorem apd_5 {q L : Nat} {f : Int32 → Nat → Int32} {a b c d e : Int32} {σ σ1 σ2 σ3 σ4 σ5 : zSto} (h1 : apd q L (f a) 4 σ σ1) (h2 : apd q (L + 4) (f b) 4 σ1 σ2) (h3 : apd q (L + 8) (f c) 4 σ2 σ3) (h4 : apd q (L + 12) (f d) 4 σ3 σ4) (h5 : apd q (L + 16) (f e) 4 σ4 σ5) : apd q L (fd5 f a b c d e) 20 σ σ5 := by
  intro j
  rw [h5 j]
  by_cases c5 : L + 16 ≤ j ∧ j < L + 16 + 4
  · rw [if_pos c5, if_pos (by omega)]
    unfold fd5
    rw [if_neg (by omega), if_neg (by omega), if_neg (by omega), if_neg (by omega), show j - (L + 16) = j - L - 16 by omega]
  rw [if_neg c5, h4 j]
  by_cases c4 : L + 12 ≤ j ∧ j < L + 12 + 4
  · rw [if_pos c4, if_pos (by omega)]
    unfold fd5
    rw [if_neg (by omega), if_neg (by omega), if_neg (by omega), if_pos (by omega), show j - (L + 12) = j - L - 12 by omega]
  rw [if_neg c4, h3 j]
  by_cases c3 : L + 8 ≤ j ∧ j < L + 8 + 4
  · rw [if_pos c3, if_pos (by omega)]
    unfold fd5
    rw [if_neg (by omega), if_neg (by omega), if_pos (by omega), show j - (L + 8) = j - L - 8 by omega]
  rw [if_neg c3, h2 j]
  by_cases c2 : L + 4 ≤ j ∧ j < L + 4 + 4
  · rw [if_pos c2, if_pos (by omega)]
    unfold fd5
    rw [if_neg (by omega), if_pos (by omega), show j - (L + 4) = j - L - 4 by omega]
  rw [if_neg c2, h1 j]
  by_cases c1 : L ≤ j ∧ j < L + 4
  · rw [if_pos c1, if_pos (by omega)]
    unfold fd5
    rw [if_pos (by omega)]
  rw [if_neg c1, if_neg (by omega)]
theorem f_X9_feed (a1 a2 a3 a4 a5 : Int32) {L : Nat} {σ : zSto} (h : ti (σ.1 1 5) = (L : Int)) (hL : L ≤ 600) {P : Int32 → zSto → Prop} (h0 : 600 < L + 20 → P (-1 : Int32) σ) (hP : L + 20 ≤ 600 → ∀ r σ2, ti r = (L : Int) + 20 → ti (σ2.1 1 5) = (L : Int) + 20 → apd 2 L (fd5 fdB a1 a2 a3 a4 a5) 20 σ σ2 → (∀ q j, q ≠ 2 → ¬ (q = 1 ∧ j = 5) → σ2.1 q j = σ.1 q j) → P r σ2) : w_X9_feed a1 a2 a3 a4 a5 σ P := by
  unfold w_X9_feed
  have l20 := lit_20
  have l600 := lit_600
  have t := tadd (x := σ.1 1 5) (y := (20 : Int32)) (by omega)
  refine ⟨fun q => ?_, fun q => h0 (by have := nle_t q; omega)⟩
  have c := le_t q
  refine f_X8_append a1 (L := L) (by omega) h (fun σ1 g1 b1 u1 => ?_)
  refine f_X8_append a2 (L := L + 4) (by omega) (by omega) (fun σ2 g2 b2 u2 => ?_)
  refine f_X8_append a3 (L := L + 8) (by omega) (by omega) (fun σ3 g3 b3 u3 => ?_)
  refine f_X8_append a4 (L := L + 12) (by omega) (by omega) (fun σ4 g4 b4 u4 => ?_)
  refine f_X8_append a5 (L := L + 16) (by omega) (by omega) (fun σ5 g5 b5 u5 => ?_)
  refine hP (by omega) _ σ5 (by omega) (by omega) (apd_5 b1 b2 b3 b4 b5) (fun q j x y => ?_)
  rw [u5 q j x y, u4 q j x y, u3 q j x y, u2 q j x y, u1 q j x y]
set_option maxHeartbeats 4000000 in
theorem f_X10_four_3 (x_1 : Int32) {L : Nat} (hL : L + 4 ≤ 600) {σ0 : zSto} {P : zSto → Prop} (hP : ∀ σ2, ti (σ2.1 225 0) = (L : Int) + 4 → apd 224 L (fdR x_1) 4 σ0 σ2 → (∀ q j, q ≠ 224 → ¬ (q = 225 ∧ j = 0) → σ2.1 q j = σ0.1 q j) → P σ2) : ∀ (n m : Nat) (x_2 : Int32) (σ : zSto), m ≤ 4 → ti x_2 = 24 - 8 * (m : Int) → ti (σ.1 225 0) = (L : Int) + m → apd 224 L (fdR x_1) m σ0 σ → (∀ q j, q ≠ 224 → ¬ (q = 225 ∧ j = 0) → σ.1 q j = σ0.1 q j) → 4 - m < n → w_X10_four_3 x_1 P n x_2 σ := by
  have l0 := lit_0
  have l1 := lit_1
  have l8 := lit_m8
  intro n
  induction n with
  | zero => intro m x_2 σ h4 h1 h2 h5 h6 h3; exfalso; omega
  | succ n ih =>
    intro m x_2 σ h4 h1 h2 h5 h6 h3
    unfold w_X10_four_3
    refine ⟨fun q => ?_, fun q => ?_⟩
    · have c := lt_t q
      have em : m = 4 := by omega
      subst em
      exact hP σ h2 h5 h6
    · have c := nlt_t q
      refine ⟨vin (by omega), fun σ2 e2 σ3 e3 x4 e4 => ?_⟩
      have tn := tn_eq (σ.1 225 0)
      rw [fd_x (k := m) (by omega) h1, show (σ.1 225 0).toNatClampNeg = L + m by omega] at e2
      have f2 : ti (σ2.1 225 0) = ti (σ.1 225 0) := congrArg ti (zI_q' e2 (Or.inl (by decide)))
      have t2 := tadd (x := σ2.1 225 0) (y := (1 : Int32)) (by omega)
      have f3 : ti (σ3.1 225 0) = ti (σ.1 225 0) + 1 := by rw [e3, zI_s]; omega
      have t4 := tadd (x := x_2) (y := (-8 : Int32)) (by omega)
      have t5 := eq_t e4
      refine ih (m + 1) x4 σ3 (by omega) (by omega) (by omega) (fun j => ?_) (fun q j a b => ?_) (by omega)
      · rw [zI_q' e3 (Or.inl (by decide))]
        by_cases c3 : j = L + m
        · subst c3
          rw [if_pos (by omega), e2]
          show (zI σ 224 (L + m) (fdR x_1 m)).1 224 (L + m) = _
          rw [zI_s, show L + m - L = m by omega]
        · rw [zI_q' e2 (Or.inr c3), h5 j]
          by_cases c4 : L ≤ j ∧ j < L + m
          · rw [if_pos c4, if_pos (by omega)]
          · rw [if_neg c4, if_neg (by omega)]
      · rw [zI_q' e3 (by omega), zI_q' e2 (Or.inl a)]
        exact h6 q j a b
theorem f_X10_four (a1 : Int32) {L : Nat} (hL : L + 4 ≤ 600) {σ : zSto} (h : ti (σ.1 225 0) = (L : Int)) {P : zSto → Prop} (hP : ∀ σ2, ti (σ2.1 225 0) = (L : Int) + 4 → apd 224 L (fdR a1) 4 σ σ2 → (∀ q j, q ≠ 224 → ¬ (q = 225 ∧ j = 0) → σ2.1 q j = σ.1 q j) → P σ2) : w_X10_four a1 σ P :=
  ⟨10, f_X10_four_3 a1 hL hP 10 0 (24 : Int32) σ (by omega) (by rw [lit_24]; rfl) (by omega) (fun j => by rw [if_neg (by omega)]) (fun _ _ _ _ => rfl) (by omega)⟩
theorem f_X10_feed (a1 a2 a3 a4 a5 : Int32) {L : Nat} {σ : zSto} (h : ti (σ.1 225 0) = (L : Int)) (hL : L ≤ 600) {P : Int32 → zSto → Prop} (h0 : 600 < L + 20 → ∀ σ2, (∀ q j, q ≠ 223 → σ2.1 q j = σ.1 q j) → P (-1 : Int32) σ2) (hP : L + 20 ≤ 600 → ∀ r σ2, ti r = (L : Int) + 20 → ti (σ2.1 225 0) = (L : Int) + 20 → apd 224 L (fd5 fdR a1 a2 a3 a4 a5) 20 σ σ2 → (∀ q j, q ≠ 223 → q ≠ 224 → ¬ (q = 225 ∧ j = 0) → σ2.1 q j = σ.1 q j) → P r σ2) : w_X10_feed a1 a2 a3 a4 a5 σ P := by
  unfold w_X10_feed
  have l20 := lit_20
  have l600 := lit_600
  intro σ1 e1
  have u : ∀ q j, q ≠ 223 → σ1.1 q j = σ.1 q j := fun q j hq => zI_q' e1 (Or.inl hq)
  rw [u 225 0 (by decide)]
  have t := tadd (x := σ.1 225 0) (y := (20 : Int32)) (by omega)
  refine ⟨fun q => ?_, fun q => h0 (by have := nle_t q; omega) σ1 u⟩
  have c := le_t q
  refine f_X10_four a1 (L := L) (by omega) (by rw [u 225 0 (by decide)]; exact h) (fun σ2 g1 b1 u1 => ?_)
  refine f_X10_four a2 (L := L + 4) (by omega) (by omega) (fun σ3 g2 b2 u2 => ?_)
  refine f_X10_four a3 (L := L + 8) (by omega) (by omega) (fun σ4 g3 b3 u3 => ?_)
  refine f_X10_four a4 (L := L + 12) (by omega) (by omega) (fun σ5 g4 b4 u4 => ?_)
  refine f_X10_four a5 (L := L + 16) (by omega) (by omega) (fun σ6 g5 b5 u5 => ?_)
  refine hP (by omega) _ σ6 (by omega) (by omega) (fun j => ?_) (fun q j w x y => ?_)
  · rw [apd_5 b1 b2 b3 b4 b5 j, u 224 j (by decide)]
  · rw [u5 q j x y, u4 q j x y, u3 q j x y, u2 q j x y, u1 q j x y, u q j w]
