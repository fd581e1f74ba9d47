/-! the class tells a row -/
theorem mx_t {a b : Int32} : ti (if a < b then b else a) = mxI (ti a) (ti b) := by
  unfold mxI
  by_cases c : a < b
  · rw [if_pos c, if_pos (lt_t c)]
  · rw [if_neg c, if_neg (by have := nlt_t c; omega)]
theorem chA {st : Nat → Int} {v p l h x : Int} {k i : Nat} (hk : k < 16) (hi : i < 5) : chk (up st (7 + 5 * k + i) x) v p l h = up (chk st v p l h) (7 + 5 * k + i) x := chk_up (by omega) (by omega)
theorem chB {st : Nat → Int} {v p l h x : Int} {k i : Nat} (hk : k < 6) (hi : i < 6) : chk (up st (87 + 6 * k + i) x) v p l h = up (chk st v p l h) (87 + 6 * k + i) x := chk_up (by omega) (by omega)
theorem chM {st : Nat → Int} {v p l h x : Int} : chk (up st 202 x) v p l h = up (chk st v p l h) 202 x := chk_up (by decide) (by decide)
theorem uqA {st : Nat → Int} {x : Int} {k i j : Nat} (h : j < 7) : up st (7 + 5 * k + i) x j = st j := up_q (by omega)
theorem uqB {st : Nat → Int} {x : Int} {k i j : Nat} (h : j < 87) : up st (87 + 6 * k + i) x j = st j := up_q (by omega)
theorem uqC {st : Nat → Int} {x : Int} {k i j : Nat} (hk : k < 6) (hi : i < 6) (h : 123 ≤ j) : up st (87 + 6 * k + i) x j = st j := up_q (by omega)
theorem cqA {st : Nat → Int} {v p l h : Int} {j : Nat} (hj : j < 7) : chk st v p l h j = st j := chk_q (by omega) (by omega)
theorem cqM {st : Nat → Int} {v p l h : Int} : chk st v p l h 202 = st 202 := chk_q (by decide) (by decide)
theorem sdA {k i : Nat} (hk : k < 16) (hi : i < 5) : sD (7 + 5 * k + i) := by unfold sD; omega
theorem sdB {k i : Nat} (hk : k < 6) (hi : i < 6) : sD (87 + 6 * k + i) := by unfold sD; omega
theorem sdM : sD 202 := by unfold sD; omega
theorem sdZ {j : Nat} (h : j < 123) : sD j := by unfold sD; omega
set_option maxHeartbeats 4000000 in
theorem f_X4_tellPost {B : Nat → Int} {n p : Nat} {v pl : Nat → Int} {m : Nat} {st : Nat → Int} {σ : zSto} (a1 : Int32) (h : CX B n p v pl m st σ) (hm : 3 ≤ m) (hm6 : m ≤ 6) {P : zSto → Prop} (hP : ∀ σ2, CX B n p v pl m (apP st v pl (ti a1)) σ2 → P σ2) : w_X4_tellPost a1 σ P := by
  have l0 := lit_0
  have l1 := lit_1
  have l2 := lit_2
  have l3 := lit_3
  have l16 := lit_16
  have l30 := lit_30
  have g : ti (σ.1 172 11) = st 0 := h.2.2.2.2.2 0 (by unfold sD; omega)
  have d : 0 ≤ ti (σ.1 172 11) ∧ ti (σ.1 172 11) ≤ 16 := rdg h.1 kd_172 rfl rfl
  unfold apP at hP
  unfold w_X4_tellPost
  refine ⟨fun q x1 e1 => ?_, fun q => f_X4_note _ _ h (fun σ2 h2 => hP σ2 ?_)⟩
  · have c := lt_t q
    rw [if_pos (by omega)] at hP
    obtain ⟨k, hk⟩ : ∃ k, k = (st 0).toNat := ⟨_, rfl⟩
    rw [← hk] at hP
    have tx := eq_t e1
    have tn := tn_eq x1
    have en : x1.toNatClampNeg = k := by omega
    have k0 := cK_a k 0 (by decide) (by omega)
    have k1 := cK_a k 1 (by decide) (by omega)
    have k2 := cK_a k 2 (by decide) (by omega)
    have hk16 : k < 16 := by omega
    rw [en]
    refine f_X4_number 0 _ _ _ h l0 (by omega) hm6 (fun r3 σ2 t3 b3 h2 => ⟨vin (by omega), fun σ5 e5 => ?_⟩)
    rw [l1, l30] at h2
    have h5 := CX_w h2 e5 (7 + 5 * k + 0) (sdA hk16 (by decide)) k0.1 k0.2 t3 (by rw [e5]; exact wIg (a := 0) (b := 999) h2.1 kd_173 rfl rfl (by omega))
    refine f_X4_number 1 _ _ _ h5 l1 (by omega) hm6 (fun r7 σ6 t7 b7 h6 => ⟨vin (by omega), fun σ9 e9 => ?_⟩)
    rw [l0, l3, chA hk16 (by decide)] at h6
    have h9 := CX_w h6 e9 (7 + 5 * k + 1) (sdA hk16 (by decide)) k1.1 k1.2 t7 (by rw [e9]; exact wIg (a := 0) (b := 999) h6.1 kd_174 rfl rfl (by omega))
    refine f_X4_number 2 _ _ _ h9 l2 (by omega) hm6 (fun r11 σ10 t11 b11 h10 => ⟨vin (by omega), fun σ13 e13 σ14 e14 => ?_⟩)
    rw [l0, l30, chA hk16 (by decide), chA hk16 (by decide)] at h10
    have h13 := CX_w h10 e13 (7 + 5 * k + 2) (sdA hk16 (by decide)) k2.1 k2.2 t11 (by rw [e13]; exact wIg h10.1 kd_175 rfl rfl (full32 _))
    have g13 : ti (σ13.1 172 11) = st 0 := by
      have := h13.2.2.2.2.2 0 (sdZ (by decide))
      rw [uqA (by decide), uqA (by decide), uqA (by decide), cqA (by decide), cqA (by decide), cqA (by decide)] at this
      exact this
    have t14 := tadd (x := σ13.1 172 11) (y := (1 : Int32)) (by omega)
    exact hP σ14 (CX_w h13 e14 0 (sdZ (by decide)) rfl rfl (by omega) (by rw [e14]; exact wIg (a := 0) (b := 16) h13.1 kd_172 rfl rfl (by omega)))
  · have c := nlt_t q
    rw [if_neg (by omega), ← l3]
    exact h2
set_option maxHeartbeats 4000000 in
theorem f_X4_tellRider {B : Nat → Int} {n p : Nat} {v pl : Nat → Int} {m : Nat} {st : Nat → Int} {σ : zSto} (a1 : Int32) (h : CX B n p v pl m st σ) (hm : 6 ≤ m) (hm6 : m ≤ 6) {P : zSto → Prop} (hP : ∀ σ2, CX B n p v pl m (apR st v pl (ti a1)) σ2 → P σ2) : w_X4_tellRider a1 σ P := by
  have l0 := lit_0
  have l1 := lit_1
  have l2 := lit_2
  have l3 := lit_3
  have l4 := lit_4
  have l5 := lit_5
  have l6 := lit_6
  have l9 := lit_9
  have l15 := lit_15
  have l30 := lit_30
  have l60 := lit_60
  have l200 := lit_200
  have g : ti (σ.1 172 12) = st 1 := h.2.2.2.2.2 1 (by unfold sD; omega)
  have d : 0 ≤ ti (σ.1 172 12) ∧ ti (σ.1 172 12) ≤ 6 := rdg h.1 kd_172 rfl rfl
  unfold apR at hP
  unfold w_X4_tellRider
  refine ⟨fun q x1 e1 => ?_, fun q => f_X4_note _ _ h (fun σ2 h2 => hP σ2 ?_)⟩
  · have c := lt_t q
    rw [if_pos (by omega)] at hP
    obtain ⟨k, hk⟩ : ∃ k, k = (st 1).toNat := ⟨_, rfl⟩
    rw [← hk] at hP
    have tx := eq_t e1
    have tn := tn_eq x1
    have en : x1.toNatClampNeg = k := by omega
    have k0 := cK_b k 0 (by decide) (by omega)
    have k1 := cK_b k 1 (by decide) (by omega)
    have k2 := cK_b k 2 (by decide) (by omega)
    have k3 := cK_b k 3 (by decide) (by omega)
    have k4 := cK_b k 4 (by decide) (by omega)
    have k5 := cK_b k 5 (by decide) (by omega)
    have hk6 : k < 6 := by omega
    rw [en]
    refine f_X4_number 0 _ _ _ h l0 (by omega) hm6 (fun r3 σ2 t3 b3 h2 => ⟨vin (by omega), fun σ5 e5 => ⟨vin (by omega), ?_⟩⟩)
    rw [l0, l15] at h2
    have h5 := CX_w h2 e5 (87 + 6 * k + 0) (sdB hk6 (by decide)) k0.1 k0.2 t3 (by rw [e5]; exact wIg h2.1 kd_178 rfl rfl (full32 _))
    have v5 : ti (σ5.1 178 k) = v 0 := by rw [e5, zI_s]; exact t3
    have t5 := tadd (x := σ5.1 178 k) (y := (1 : Int32)) (by omega)
    have t5' : ti (σ5.1 178 k + (1 : Int32)) = v 0 + 1 := by omega
    refine f_X4_number 1 _ _ _ h5 l1 (by omega) hm6 (fun r8 σ7 t8 b8 h7 => ⟨vin (by omega), fun σ10 e10 => ⟨vin (by omega), fun σ12 e12 => ?_⟩⟩)
    rw [t5', l15, chB hk6 (by decide)] at h7
    have h10 := CX_w h7 e10 (87 + 6 * k + 1) (sdB hk6 (by decide)) k1.1 k1.2 t8 (by rw [e10]; exact wIg h7.1 kd_179 rfl rfl (full32 _))
    have v10 : ti (σ10.1 179 k) = v 1 := by rw [e10, zI_s]; exact t8
    have g10 : ti (σ10.1 171 10) = st 202 := by
      have := h10.2.2.2.2.2 202 sdM
      rw [uqC hk6 (by decide) (by decide), uqC hk6 (by decide) (by decide), cqM, cqM] at this
      exact this
    have h12 := CX_w h10 e12 202 sdM rfl rfl (by rw [mx_t, g10, v10]) (by rw [e12]; exact wIg h10.1 kd_171 rfl rfl (full32 _))
    refine f_X4_number 2 _ _ _ h12 l2 (by omega) hm6 (fun r14 σ13 t14 b14 h13 => ⟨vin (by omega), fun σ16 e16 => ?_⟩)
    rw [l1, l60, chM, chB hk6 (by decide), chB hk6 (by decide)] at h13
    have h16 := CX_w h13 e16 (87 + 6 * k + 2) (sdB hk6 (by decide)) k2.1 k2.2 t14 (by rw [e16]; exact wIg h13.1 kd_180 rfl rfl (full32 _))
    refine f_X4_number 3 _ _ _ h16 l3 (by omega) hm6 (fun r18 σ17 t18 b18 h17 => ⟨vin (by omega), fun σ20 e20 => ?_⟩)
    rw [l1, l30, chB hk6 (by decide), chM, chB hk6 (by decide), chB hk6 (by decide)] at h17
    have h20 := CX_w h17 e20 (87 + 6 * k + 3) (sdB hk6 (by decide)) k3.1 k3.2 t18 (by rw [e20]; exact wIg h17.1 kd_181 rfl rfl (full32 _))
    refine f_X4_number 4 _ _ _ h20 l4 (by omega) hm6 (fun r22 σ21 t22 b22 h21 => ⟨vin (by omega), fun σ24 e24 => ?_⟩)
    rw [l0, l200, chB hk6 (by decide), chB hk6 (by decide), chM, chB hk6 (by decide), chB hk6 (by decide)] at h21
    have h24 := CX_w h21 e24 (87 + 6 * k + 4) (sdB hk6 (by decide)) k4.1 k4.2 t22 (by rw [e24]; exact wIg h21.1 kd_182 rfl rfl (full32 _))
    refine f_X4_number 5 _ _ _ h24 l5 (by omega) hm6 (fun r26 σ25 t26 b26 h25 => ⟨vin (by omega), fun σ28 e28 σ29 e29 => ?_⟩)
    rw [l0, l9, chB hk6 (by decide), chB hk6 (by decide), chB hk6 (by decide), chM, chB hk6 (by decide), chB hk6 (by decide)] at h25
    have h28 := CX_w h25 e28 (87 + 6 * k + 5) (sdB hk6 (by decide)) k5.1 k5.2 t26 (by rw [e28]; exact wIg h25.1 kd_183 rfl rfl (full32 _))
    have g28 : ti (σ28.1 172 12) = st 1 := by
      have := h28.2.2.2.2.2 1 (sdZ (by decide))
      rw [uqB (by decide), uqB (by decide), uqB (by decide), uqB (by decide), up_q (by decide), uqB (by decide), uqB (by decide), cqA (by decide), cqA (by decide), cqA (by decide), cqA (by decide), cqA (by decide), cqA (by decide)] at this
      exact this
    have t29 := tadd (x := σ28.1 172 12) (y := (1 : Int32)) (by omega)
    exact hP σ29 (CX_w h28 e29 1 (sdZ (by decide)) rfl rfl (by omega) (by rw [e29]; exact wIg (a := 0) (b := 6) h28.1 kd_172 rfl rfl (by omega)))
  · have c := nlt_t q
    rw [if_neg (by omega), ← l3]
    exact h2
set_option maxHeartbeats 4000000 in
theorem f_X4_tellOfPost {B : Nat → Int} {n p : Nat} {v pl : Nat → Int} {m : Nat} {st : Nat → Int} {σ : zSto} (b1 q0 : Nat) (hq : b1 = 173 + q0) (hq2 : q0 = 3 ∨ q0 = 4) (a2 : Int32) (h : CX B n p v pl m st σ) (hm : 2 ≤ m) (hm6 : m ≤ 6) {P : zSto → Prop} (hP : ∀ σ2, CX B n p v pl m (apO q0 (ti a2) st v pl) σ2 → P σ2) : w_X4_tellOfPost b1 16 a2 σ P := by
  have l0 := lit_0
  have l1 := lit_1
  have l15 := lit_15
  have l16 : ti (Int32.ofNat 16) = 16 := lit_16
  unfold apO at hP
  unfold w_X4_tellOfPost
  refine f_X4_number 0 _ _ _ h l0 (by omega) hm6 (fun r2 σ1 t2 b2 h1 => ?_)
  rw [l0, l15] at h1
  refine f_X4_number 1 _ _ _ h1 l1 (by omega) hm6 (fun r4 σ3 t4 b4 h3 => ?_)
  rw [l0] at h3
  intro σ5 e5
  have g3 : ti (σ3.1 171 10) = st 202 := by
    have := h3.2.2.2.2.2 202 (by unfold sD; omega)
    rw [chk_q (by omega) (by omega), chk_q (by omega) (by omega)] at this
    exact this
  have h5 := CX_w h3 e5 202 (by unfold sD; omega) rfl rfl (by rw [mx_t, g3, t2]) (by rw [e5]; exact wIg h3.1 kd_171 rfl rfl (full32 _))
  refine ⟨fun q => ?_, fun q => ⟨fun q2 => ?_, fun q2 => ⟨vin (by have := nle_t q2; omega), fun σ7 e7 => ?_⟩⟩⟩
  · have := lt_t q; omega
  · have c := le_t q2
    rw [if_neg (by omega)] at hP
    exact hP σ5 h5
  · have c := nle_t q2
    rw [if_pos (by omega)] at hP
    have tn := tn_eq r2
    have en : r2.toNatClampNeg = (v 0).toNat := by omega
    have k0 := cK_a (v 0).toNat q0 (by omega) (by omega)
    rw [en] at e7
    refine hP σ7 (CX_w h5 e7 (7 + 5 * (v 0).toNat + q0) (by unfold sD; omega) (by omega) k0.2 t4 ?_)
    rw [e7]
    rcases hq2 with z | z
    · subst z; subst hq; exact wIg h5.1 kd_176 rfl rfl (full32 _)
    · subst z; subst hq; exact wIg h5.1 kd_177 rfl rfl (full32 _)
set_option maxHeartbeats 4000000 in
theorem f_X4_tellPair {B : Nat → Int} {n p : Nat} {v pl : Nat → Int} {m : Nat} {st : Nat → Int} {σ : zSto} (a1 a2 a3 : Int32) (h2 : ti a2 ≤ 16) (h : CX B n p v pl m st σ) (hm : 2 ≤ m) (hm6 : m ≤ 6) {P : zSto → Prop} (hP : ∀ σ2, CX B n p v pl m (apX (ti a2) (ti a3) st v pl (ti a1)) σ2 → P σ2) : w_X4_tellPair a1 a2 a3 σ P := by
  have l0 := lit_0
  have l1 := lit_1
  have l3 := lit_3
  have l15 := lit_15
  have l16 := lit_16
  have g : ti (σ.1 184 2) = st 300 := h.2.2.2.2.2 300 (by unfold sD; omega)
  have d : 0 ≤ ti (σ.1 184 2) ∧ ti (σ.1 184 2) ≤ 16 := rdg h.1 kd_184 rfl rfl
  unfold apX at hP
  unfold w_X4_tellPair
  refine ⟨fun q => ?_, fun q => f_X4_note _ _ h (fun σ2 h2 => hP σ2 ?_)⟩
  · have c := lt_t q
    rw [if_pos (by omega)] at hP
    obtain ⟨k, hk⟩ : ∃ k, k = (st 300).toNat := ⟨_, rfl⟩
    rw [← hk] at hP
    refine f_X4_number 0 _ _ _ h l0 (by omega) hm6 (fun r2 σ1 t2 b2 h1 => ?_)
    rw [l0, l15] at h1
    refine f_X4_number 1 _ _ _ h1 l1 (by omega) hm6 (fun r4 σ3 t4 b4 h3 => ?_)
    rw [l0] at h3
    have g3 : ti (σ3.1 184 2) = st 300 := by
      have := h3.2.2.2.2.2 300 (by unfold sD; omega)
      rw [chk_q (by omega) (by omega), chk_q (by omega) (by omega)] at this
      exact this
    have k0 := cK_c k 0 (by decide) (by omega)
    have k1 := cK_c k 1 (by decide) (by omega)
    have tn := tn_eq (σ3.1 184 2)
    have en : (σ3.1 184 2).toNatClampNeg = k := by omega
    unfold w_X2_add
    refine ⟨fun q2 => ?_, fun q2 => ⟨vin (by omega), fun σ5 e5 => ?_⟩⟩
    · have := le_t q2; omega
    · rw [en] at e5
      have h5 := CX_w h3 e5 (301 + 2 * k + 0) (by unfold sD; omega) k0.1 k0.2 t2 (by rw [e5]; exact wIg h3.1 kd_185 rfl rfl (full32 _))
      have g5 : σ5.1 184 2 = σ3.1 184 2 := by rw [e5, zI_q (Or.inl (by decide))]
      refine ⟨vin (by rw [g5]; omega), fun σ6 e6 σ7 e7 => ?_⟩
      rw [g5, en] at e6
      have h6 := CX_w h5 e6 (301 + 2 * k + 1) (by unfold sD; omega) k1.1 k1.2 t4 (by rw [e6]; exact wIg h5.1 kd_186 rfl rfl (full32 _))
      have g6 : ti (σ6.1 184 2) = st 300 := by rw [e6, zI_q (Or.inl (by decide)), g5]; exact g3
      have t7 := tadd (x := σ6.1 184 2) (y := (1 : Int32)) (by omega)
      exact hP σ7 (CX_w h6 e7 300 (by unfold sD; omega) rfl rfl (by omega) (by rw [e7]; exact wIg (a := 0) (b := 16) h6.1 kd_184 rfl rfl (by omega)))
  · have c := nlt_t q
    rw [if_neg (by omega), ← l3]
    exact h2
theorem f_plain {B : Nat → Int} {n p : Nat} {v pl : Nat → Int} {m : Nat} {st : Nat → Int} {σ : zSto} (s : Nat) (hs : s = 2 ∨ s = 3 ∨ s = 4 ∨ s = 5 ∨ s = 6) (a2 a3 : Int32) (h : CX B n p v pl m st σ) (hm : 1 ≤ m) (hm6 : m ≤ 6) {P : zSto → Prop} (hP : ∀ σ2, CX B n p v pl m (apW s (ti a2) (ti a3) st v pl) σ2 → P σ2) : w_X4_number (0 : Int32) a2 a3 σ (fun (r6 : Int32) (σ5 : zSto) => (∀ σ7 : zSto, σ7 = zI σ5 172 (11 + s) r6 → P σ7)) := by
  refine f_X4_number 0 _ _ _ h lit_0 (by omega) hm6 (fun r2 σ1 t2 b2 h1 => fun σ7 e7 => hP σ7 ?_)
  unfold apW
  refine CX_w h1 e7 s (by unfold sD; omega) (by unfold cK; rw [if_pos (by omega)]) (by unfold cJ; rw [if_pos (by omega)]) t2 ?_
  rw [e7]
  rcases hs with z | z | z | z | z
  · subst z; exact wIg (a := 0) (b := 999) h1.1 kd_172 rfl rfl (by omega)
  · subst z; exact wIg h1.1 kd_172 rfl rfl (full32 _)
  · subst z; exact wIg h1.1 kd_172 rfl rfl (full32 _)
  · subst z; exact wIg h1.1 kd_172 rfl rfl (full32 _)
  · subst z; exact wIg h1.1 kd_172 rfl rfl (full32 _)
set_option maxHeartbeats 4000000 in
theorem f_X4_tell {B : Nat → Int} {n p : Nat} {v pl : Nat → Int} {st : Nat → Int} {σ : zSto} (a1 a2 : Int32) (h1 : 0 ≤ ti a1 ∧ ti a1 ≤ 10) (h : CX B n p v pl (hmN (ti a1)) st σ) {P : zSto → Prop} (hP : ∀ σ2, CX B n p v pl (hmN (ti a1)) (ap (ti a1) st v pl (ti a2)) σ2 → P σ2) : w_X4_tell a1 a2 σ P := by
  have hm6 : hmN (ti a1) ≤ 6 := by
    unfold hmN
    split
    · decide
    · split
      · decide
      · split <;> decide
  have hm1 : 1 ≤ hmN (ti a1) := by
    unfold hmN
    split
    · decide
    · split
      · decide
      · split <;> decide
  unfold w_X4_tell
  refine ⟨fun q => ?_, fun q => ?_, fun q => ?_, fun q => ?_, fun q => ?_, fun q => ?_, fun q => ?_, fun q => ?_, fun q => ?_, fun q => ?_, fun q => ?_⟩
  · have c : ti a1 = 0 := by rw [q]; exact lit_0
    rw [c] at h hP
    exact f_X4_tellPost a2 h (by decide) (by decide) hP
  · have c : ti a1 = 1 := by rw [q]; exact lit_1
    rw [c] at h hP
    exact f_X4_tellRider a2 h (by decide) (by decide) hP
  · have c : ti a1 = 2 := by rw [q]; exact lit_2
    rw [c] at h hP
    refine f_X4_tellOfPost 177 4 rfl (by decide) _ h (by decide) (by decide) (fun σ2 h2 => hP σ2 ?_)
    rw [lit_999] at h2
    exact h2
  · have c : ti a1 = 3 := by rw [q]; exact lit_3
    rw [c] at h hP
    refine f_X4_tellOfPost 176 3 rfl (by decide) _ h (by decide) (by decide) (fun σ2 h2 => hP σ2 ?_)
    rw [lit_10] at h2
    exact h2
  · have c : ti a1 = 4 := by rw [q]; exact lit_4
    rw [c] at h hP
    refine f_plain 2 (by decide) _ _ h (by decide) (by decide) (fun σ2 h2 => hP σ2 ?_)
    rw [lit_1, lit_9] at h2
    exact h2
  · have c : ti a1 = 5 := by rw [q]; exact lit_5
    rw [c] at h hP
    refine f_plain 3 (by decide) _ _ h (by decide) (by decide) (fun σ2 h2 => hP σ2 ?_)
    rw [lit_0, lit_9] at h2
    exact h2
  · have c : ti a1 = 6 := by rw [q]; exact lit_6
    rw [c] at h hP
    refine f_plain 4 (by decide) _ _ h (by decide) (by decide) (fun σ2 h2 => hP σ2 ?_)
    rw [lit_0, lit_60] at h2
    exact h2
  · have c : ti a1 = 7 := by rw [q]; exact lit_7
    rw [c] at h hP
    refine f_plain 5 (by decide) _ _ h (by decide) (by decide) (fun σ2 h2 => hP σ2 ?_)
    rw [lit_0, lit_9] at h2
    exact h2
  · have c : ti a1 = 8 := by rw [q]; exact lit_8
    rw [c] at h hP
    refine f_plain 6 (by decide) _ _ h (by decide) (by decide) (fun σ2 h2 => hP σ2 ?_)
    rw [lit_0, lit_999] at h2
    exact h2
  · have c : ti a1 = 9 := by rw [q]; exact lit_9
    rw [c] at h hP
    refine f_X4_tellPair _ _ _ (by rw [lit_16]; decide) h (by decide) (by decide) (fun σ2 h2 => hP σ2 ?_)
    rw [lit_16, lit_5] at h2
    exact h2
  · have c : ti a1 = 10 := by rw [← ti_eq] at q; omega
    rw [c] at h hP
    refine f_X4_tellPair _ _ _ (by rw [lit_10]; decide) h (by decide) (by decide) (fun σ2 h2 => hP σ2 ?_)
    rw [lit_10, lit_999] at h2
    exact h2
