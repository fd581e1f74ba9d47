/-! image and text of new objects -/
theorem fx_X0_copyFrom {t b : Nat} {σ : zSto} {P : zSto → Prop} (hP : ∀ τ, P τ) : w_X0_copyFrom t b σ P := by
  unfold w_X0_copyFrom
  intros
  exact hP _
theorem fx_X2_copyFrom {t b : Nat} {σ : zSto} {P : zSto → Prop} (hP : ∀ τ, P τ) : w_X2_copyFrom t b σ P := by
  unfold w_X2_copyFrom
  intros
  exact hP _
theorem fx_cf0 {t : Nat} {n : Nat} {x : Int32} {σ : zSto} {P : zSto → Prop} (hx : (2 : Int32) ≤ x) (hP : ∀ τ, P τ) : w_X8_copyFrom_18 t 1 P (n + 1) x σ := by
  unfold w_X8_copyFrom_18
  refine ⟨fun _ => ?_, fun q => absurd hx q⟩
  intros
  exact hP _
theorem fx_cf1 {t : Nat} (ht : zIsState t) {n : Nat} {x : Int32} {i : Nat} {σ : zSto} {P : zSto → Prop} (hx : ¬ (2 : Int32) ≤ x) (hv : vp_in x 2) (hz1 : zel [(0, 1), (0, 13)] x = 1 + 12 * i) (hz2 : zel [(0, 1), (0, 4)] x = 1 + 3 * i) (hi : i < 2) (k : ∀ τ, w_X8_copyFrom_18 t 1 P n (x + 1) τ) : w_X8_copyFrom_18 t 1 P (n + 1) x σ := by
  unfold w_X8_copyFrom_18
  have hl : ∀ s, zIsState s → zIsLine (s + 2 + (1 + 12 * i)) := fun s hs => by
    rcases (show i = 0 ∨ i = 1 by omega) with rfl | rfl
    · exact hs.2.2.2.2.2.2.1
    · exact hs.2.2.2.2.2.2.2.1
  have hp : ∀ s, zIsState s → zIsPairs (s + 27 + (1 + 3 * i)) := fun s hs => by
    rcases (show i = 0 ∨ i = 1 by omega) with rfl | rfl
    · exact hs.2.2.2.2.2.2.2.2.1
    · exact hs.2.2.2.2.2.2.2.2.2.1
  have hq : ∀ s, zIsState s → zIsPairs (s + 34 + (1 + 3 * i)) := fun s hs => by
    rcases (show i = 0 ∨ i = 1 by omega) with rfl | rfl
    · exact hs.2.2.2.2.2.2.2.2.2.2.1
    · exact hs.2.2.2.2.2.2.2.2.2.2.2
  rw [hz1, hz2]
  refine ⟨fun q => absurd q hx, fun _ => ⟨hv, fun j8 e8 => ⟨by rw [e8]; exact hl t ht, hv, fun j10 e10 => ⟨by rw [e10]; exact hl 1 zIsState_1, ?_⟩⟩⟩⟩
  refine fx_X0_copyFrom (fun τ => ⟨hv, fun j13 e13 => ⟨by rw [e13]; exact hp t ht, hv, fun j15 e15 => ⟨by rw [e15]; exact hp 1 zIsState_1, ?_⟩⟩⟩)
  refine fx_X2_copyFrom (fun τ => ⟨hv, fun j18 e18 => ⟨by rw [e18]; exact hq t ht, hv, fun j20 e20 => ⟨by rw [e20]; exact hq 1 zIsState_1, ?_⟩⟩⟩)
  refine fx_X2_copyFrom (fun τ => ?_)
  intro x22 e22
  rw [e22]
  exact k τ
theorem fx_X8_copyFrom {t : Nat} (ht : zIsState t) {σ : zSto} {P : zSto → Prop} (h : ∀ j, σ.1 2 j = 0) (hP : ∀ τ, P τ) : w_X8_copyFrom t 1 σ P := by
  unfold w_X8_copyFrom
  refine ⟨fun i _ => ?_, fun σ1 _ => ⟨3, ?_⟩⟩
  · have h3 : σ.1 (1 + 1) (0 + i) = 0 := h _
    rw [h3]
    rfl
  · refine fx_cf1 ht (i := 0) (by decide) (by unfold vp_in; decide) (by decide) (by decide) (by decide) (fun τ => ?_)
    refine fx_cf1 ht (i := 1) (by decide) (by unfold vp_in; decide) (by decide) (by decide) (by decide) (fun τ => ?_)
    exact fx_cf0 (by decide) hP
theorem i3 {a : Int32} (h : ¬ a < 0) (h2 : ¬ (2 : Int32) < a) : a = 0 ∨ a = 1 ∨ a = 2 := by
  have h3 : (0 : Int32).toInt ≤ a.toInt := Int32.le_iff_toInt_le.mp (Int32.not_lt.mp h)
  have h4 : a.toInt ≤ (2 : Int32).toInt := Int32.le_iff_toInt_le.mp (Int32.not_lt.mp h2)
  have h5 : (0 : Int32).toInt = 0 := by decide
  have h6 : (2 : Int32).toInt = 2 := by decide
  have h7 : (1 : Int32).toInt = 1 := by decide
  rcases (show a.toInt = 0 ∨ a.toInt = 1 ∨ a.toInt = 2 by omega) with q | q | q
  · exact Or.inl (Int32.toInt_inj.mp (by rw [q, h5]))
  · exact Or.inr (Or.inl (Int32.toInt_inj.mp (by rw [q, h7])))
  · exact Or.inr (Or.inr (Int32.toInt_inj.mp (by rw [q, h6])))
theorem fx_image {a : Int32} {σ : zSto} {P : Int32 → zSto → Prop} (h : ∀ j, σ.1 2 j = 0) (h1 : a < 0 ∨ 2 < a → ∀ τ, P 0 τ) (h2 : ¬ a < 0 → ¬ 2 < a → ∀ τ, P 1 τ) : w_X9_image a σ P := by
  unfold w_X9_image
  refine ⟨fun q => h1 (Or.inl q) _, fun q => ⟨fun q2 => ?_, fun q2 => h1 (Or.inr ?_) _⟩⟩
  · have q3 : ¬ (2 : Int32) < a := le3 (Int32.not_le.mpr q2)
    refine ⟨vp3 q q3 (by decide), fun j2 e2 => ?_⟩
    have hs : zIsState j2 := by
      rw [e2]
      rcases i3 q q3 with r | r | r <;> subst r
      · exact (show 43 + zel [(0, 1), (0, 43), (0, 85)] (0 : Int32) = 44 by decide) ▸ zIsState_44
      · exact (show 43 + zel [(0, 1), (0, 43), (0, 85)] (1 : Int32) = 86 by decide) ▸ zIsState_86
      · exact (show 43 + zel [(0, 1), (0, 43), (0, 85)] (2 : Int32) = 128 by decide) ▸ zIsState_128
    exact ⟨hs, fx_X8_copyFrom hs h (fun τ => ⟨vp3 q q3 (by decide), fun σ5 _ => h2 q q3 σ5⟩)⟩
  · have h3 := Int32.le_iff_toInt_le.mp (Int32.not_lt.mp q2)
    have h5 : (2 : Int32).toInt = 2 := by decide
    have h6 : (3 : Int32).toInt = 3 := by decide
    exact Int32.lt_iff_toInt_lt.mpr (by omega)
theorem vb {y : Int32} {c i m : Nat} (h : y = nI c) (hc : c + i < m) (hm : m < 2 ^ 31) : vp_in (y + nI i) m := by
  rw [h, nI_add]
  exact vp_in_nI hc hm
theorem lp_copyRow {q m c2 c3 N : Nat} {x1 x2 x3 : Int32} {P : zSto → Prop} (h1 : x1 = nI N) (h2 : x1 * x2 = nI c2) (h3 : x1 * x3 = nI c3) (b2 : c2 + N ≤ m) (b3 : c3 + N ≤ m) (hm : m < 2 ^ 31) (hP : ∀ τ, P τ) : ∀ (k i : Nat) (σ : zSto), i + k = N → w_X10_copyRow_3 q m x1 x2 x3 P (k + 1) (nI i) σ := by
  intro k
  induction k with
  | zero =>
    intro i σ hi
    unfold w_X10_copyRow_3
    refine ⟨fun _ => hP _, fun q => absurd ?_ q⟩
    rw [h1]
    exact nI_le (by omega) (by omega)
  | succ k ih =>
    intro i σ hi
    unfold w_X10_copyRow_3
    refine ⟨fun _ => hP _, fun _ => ⟨vb h2 (by omega) hm, vb h3 (by omega) hm, fun σ3 _ x4 e4 => ?_⟩⟩
    rw [e4, nI_1]
    exact ih (i + 1) σ3 (by omega)
theorem fy_copyRow {q m N c2 c3 : Nat} {x1 x2 x3 : Int32} {σ : zSto} {P : zSto → Prop} (h1 : x1 = nI N) (h2 : x1 * x2 = nI c2) (h3 : x1 * x3 = nI c3) (b2 : c2 + N ≤ m) (b3 : c3 + N ≤ m) (hm : m < 2 ^ 31) (hP : ∀ τ, P τ) : w_X10_copyRow q m x1 x2 x3 σ P := by
  unfold w_X10_copyRow
  exact ⟨N + 1, lp_copyRow h1 h2 h3 b2 b3 hm hP N 0 σ (by omega)⟩
theorem lp_copyAll {t : Nat} {x2 : Int32} {P : zSto → Prop} (ht : x2 = nI t) (h1 : t ≤ 3) (hP : ∀ τ, P τ) : ∀ (k i : Nat) (σ : zSto), i + k = 600 → w_X10_copyAll_2 0 x2 P (k + 1) (nI i) σ := by
  intro k
  induction k with
  | zero =>
    intro i σ hi
    unfold w_X10_copyAll_2
    refine ⟨fun _ => ?_, fun q => absurd (show (600 : Int32) ≤ nI i from nI_le (a := 600) (by omega) (by omega)) q⟩
    have e : ∀ n : Nat, nI n * x2 = nI (n * t) := fun n => by rw [ht, pk_mul]
    refine fy_copyRow (N := 1) (c2 := 0) (c3 := 1 * t) rfl (by decide) (e 1) (by omega) (by omega) (by decide) (fun _ => ?_)
    refine fy_copyRow (N := 1) (c2 := 0) (c3 := 1 * t) rfl (by decide) (e 1) (by omega) (by omega) (by decide) (fun _ => ?_)
    refine fy_copyRow (N := 1) (c2 := 0) (c3 := 1 * t) rfl (by decide) (e 1) (by omega) (by omega) (by decide) (fun _ => ?_)
    refine fy_copyRow (N := 3) (c2 := 0) (c3 := 3 * t) rfl (by decide) (e 3) (by omega) (by omega) (by decide) (fun _ => ?_)
    refine fy_copyRow (N := 246) (c2 := 0) (c3 := 246 * t) rfl (by decide) (e 246) (by omega) (by omega) (by decide) (fun _ => ?_)
    refine fy_copyRow (N := 66) (c2 := 0) (c3 := 66 * t) rfl (by decide) (e 66) (by omega) (by omega) (by decide) (fun _ => ?_)
    refine fy_copyRow (N := 42) (c2 := 0) (c3 := 42 * t) rfl (by decide) (e 42) (by omega) (by omega) (by decide) (fun _ => ?_)
    exact hP _
  | succ k ih =>
    intro i σ hi
    unfold w_X10_copyAll_2
    refine ⟨fun q => absurd q (nI_ge (a := i) (b := 600) (by omega) (by decide)), fun _ => ⟨vb (c := 0) (by decide) (by omega) (by decide), vb (c := 600 * t) (by rw [ht]; exact pk_mul 600 t) (by omega) (by decide), fun σ10 _ x11 e11 => ?_⟩⟩
    rw [e11, nI_1]
    exact ih (i + 1) σ10 (by omega)
theorem fy_image {a : Int32} {σ : zSto} {P : Int32 → zSto → Prop} (h1 : a < 0 ∨ 2 < a → ∀ τ, P 0 τ) (h2 : ¬ a < 0 → ¬ 2 < a → ∀ τ, P 1 τ) : w_X10_image a σ P := by
  unfold w_X10_image w_X10_in
  intro σ1 e1
  refine ⟨fun q _ => ⟨fun q2 => absurd rfl q2, fun _ => h1 (Or.inl q) _⟩, fun q => ⟨fun q2 _ => ⟨fun q3 => absurd rfl q3, fun _ => h1 (Or.inr q2) _⟩, fun q2 _ => ⟨fun _ => ?_, fun q3 => absurd q3 (by decide)⟩⟩⟩
  unfold w_X10_copyAll
  refine ⟨601, ?_⟩
  have hk : ∀ τ : zSto, vp_in a 3 ∧ ∀ σ6 : zSto, σ6 = zI τ 249 a.toNatClampNeg (vp_nar .boolean 1) → P 1 σ6 := fun τ => ⟨vp3 q q2 (by decide), fun σ6 _ => h2 q q2 σ6⟩
  rcases i3 q q2 with r | r | r <;> subst r
  · exact lp_copyAll (t := 1) (by decide) (by decide) hk 600 0 σ1 (by decide)
  · exact lp_copyAll (t := 2) (by decide) (by decide) hk 600 0 σ1 (by decide)
  · exact lp_copyAll (t := 3) (by decide) (by decide) hk 600 0 σ1 (by decide)
/-! text -/
theorem fx_placeFor {s at0 : Int32} {σ : zSto} {P : Int32 → zSto → Prop} (h : fC σ) (h1 : ¬ (¬ s < 0 ∧ ¬ 2 < s ∧ at0 = -1) → P (-2) σ) (h2 : ¬ s < 0 → ¬ 2 < s → at0 = -1 → P 0 σ) : w_X9_placeFor s at0 σ P := by
  unfold w_X9_placeFor w_X8_howMany w_X9_isSort
  refine ⟨fun q _ => ⟨fun q2 => absurd rfl q2, fun _ => h1 (fun z => z.1 q)⟩, fun q => ⟨fun q2 _ => ⟨fun q3 => absurd rfl q3, fun _ => h1 (fun z => z.2.1 q2)⟩, fun q2 _ => ⟨fun _ => ?_, fun q3 => absurd q3 (by decide)⟩⟩⟩
  refine ⟨fun q3 => absurd q3 q, fun _ => ⟨fun q3 => absurd q3 q2, fun _ _ => ⟨fun q3 => absurd q3 (by decide), fun _ => ⟨vp3 q q2 (by decide), ?_⟩⟩⟩⟩
  have h3 : σ.1 (1 + 41) s.toNatClampNeg = 0 := h _
  rw [h3]
  refine ⟨fun q4 => ⟨fun _ => h1 (fun z => q4 z.2.2), fun q5 => ⟨fun _ => h1 (fun z => q4 z.2.2), fun q6 => absurd (Int32.not_lt.mp q5) q6⟩⟩, fun q4 => ?_⟩
  first
    | exact ⟨fun q5 => absurd q5 (by decide), fun _ => h2 q q2 q4⟩
    | exact ⟨fun _ => h2 q q2 q4, fun q5 => absurd (by decide) q5⟩
theorem lp_clear {P : zSto → Prop} : ∀ (k i : Nat) (σ : zSto), i + k = 16 → (∀ τ : zSto, (∀ c, c ≠ 176 → c ≠ 177 → τ.1 c = σ.1 c) → P τ) → w_X0_clear_37 172 P (k + 1) (nI i) σ := by
  intro k
  induction k with
  | zero =>
    intro i σ hi hP
    unfold w_X0_clear_37
    exact ⟨fun _ => hP σ (fun _ _ _ => rfl), fun q => absurd (show (16 : Int32) ≤ nI i from nI_le (a := 16) (by omega) (by omega)) q⟩
  | succ k ih =>
    intro i σ hi hP
    unfold w_X0_clear_37
    refine ⟨fun q => absurd q (nI_ge (a := i) (b := 16) (by omega) (by decide)), fun _ => ⟨vp_in_nI (by omega) (by decide), fun σ9 e9 => ⟨vp_in_nI (by omega) (by decide), fun σ11 e11 x12 e12 => ?_⟩⟩⟩
    rw [e12, nI_1]
    exact ih (i + 1) σ11 (by omega) (fun τ hτ => hP τ (fun c c1 c2 => by rw [hτ c c1 c2, zI_ne e11 (by omega), zI_ne e9 (by omega)]))
theorem fx_clear {σ : zSto} {P : zSto → Prop} (hP : ∀ τ : zSto, (∀ c, c ≠ 172 → c ≠ 176 → c ≠ 177 → τ.1 c = σ.1 c) → τ.1 172 11 = 0 → P τ) : w_X0_clear 172 σ P := by
  unfold w_X0_clear
  intro σ1 e1 σ2 e2 σ3 e3 σ4 e4 σ5 e5 σ6 e6 σ7 e7
  refine ⟨17, lp_clear 16 0 σ7 (by decide) (fun τ hτ => hP τ (fun c c0 c1 c2 => ?_) ?_)⟩
  · rw [hτ c c1 c2, zI_ne e7 c0, zI_ne e6 c0, zI_ne e5 c0, zI_ne e4 c0, zI_ne e3 c0, zI_ne e2 c0, zI_ne e1 c0]
  · rw [hτ 172 (by decide) (by decide), zI_off e7 (by decide), zI_off e6 (by decide), zI_off e5 (by decide), zI_off e4 (by decide), zI_off e3 (by decide), zI_off e2 (by decide), zI_at e1]
theorem fx_nextToken {σ : zSto} {P : zSto → Prop} (h5 : σ.1 171 5 = 0) (h6 : σ.1 171 6 = 0) (hP : ∀ τ : zSto, (∀ c, c ≠ 171 → τ.1 c = σ.1 c) → τ.1 171 7 = 0 → τ.1 171 11 = σ.1 171 11 → P τ) : w_X4_nextToken σ P := by
  unfold w_X4_nextToken
  refine ⟨1, ?_⟩
  unfold w_X4_nextToken_0
  refine ⟨fun _ σ1 e1 => ⟨fun q => ?_, fun _ σ16 e16 => ?_⟩, fun q => absurd (by rw [h5, h6]; decide) q⟩
  · rw [zI_off e1 (by decide), zI_off e1 (by decide), h5, h6] at q
    exact absurd q (by decide)
  · refine hP σ16 (fun c hc => by rw [zI_ne e16 hc, zI_ne e1 hc]) (zI_at e16) ?_
    rw [zI_off e16 (by decide), zI_off e1 (by decide)]
theorem fx_readRows {s : Int32} {σ : zSto} {P : zSto → Prop} (h5 : σ.1 171 5 = 0) (h6 : σ.1 171 6 = 0) (hP : ∀ τ : zSto, (∀ c, c ≠ 171 → τ.1 c = σ.1 c) → τ.1 171 11 = σ.1 171 11 → P τ) : w_X4_readRows s σ P := by
  unfold w_X4_readRows
  refine ⟨1, ?_⟩
  unfold w_X4_readRows_2
  refine ⟨fun q => absurd q (by decide), fun _ => fx_nextToken h5 h6 (fun τ g1 g2 g3 => ⟨fun q => absurd g2 q, fun _ => hP τ g1 g3⟩)⟩
theorem fx_note {a b : Int32} {σ : zSto} {P : zSto → Prop} (h : σ.1 171 11 = 0) (hP : ∀ τ : zSto, (∀ c, c ≠ 171 → τ.1 c = σ.1 c) → τ.1 171 11 = a → P τ) : w_X4_note a b σ P := by
  unfold w_X4_note
  refine ⟨fun q => absurd h q, fun _ σ1 e1 σ2 e2 => hP σ2 (fun c hc => by rw [zI_ne e2 hc, zI_ne e1 hc]) ?_⟩
  rw [zI_off e2 (by decide), zI_at e1]
theorem fx_readTape {s : Int32} {σ : zSto} {P : zSto → Prop} (hP : ∀ τ : zSto, fr σ τ → (s = 0 → τ.1 171 11 = 4) → (¬ s = 0 → τ.1 171 11 = 0) → P τ) : w_X4_readTape 2 600 0 s σ P := by
  unfold w_X4_readTape
  intro σ1 e1
  have h5 : σ1.1 171 5 = 0 := (zI_at e1).trans (by decide)
  rw [h5]
  refine ⟨by decide, by decide, by decide, fun i hi => absurd hi (by simp), fun σ2 e2 σ7 e7 σ8 e8 σ9 e9 σ10 e10 => ?_⟩
  refine fx_clear (fun τ g1 g2 => ?_)
  intro σ12 e12
  have f5 : σ12.1 171 5 = 0 := by
    rw [zI_ne e12 (by decide), g1 171 (by decide) (by decide) (by decide), zI_off e10 (by decide), zI_off e9 (by decide), zI_off e8 (by decide), zI_off e7 (by decide), zR_ne e2 (by decide), h5]
  have f6 : σ12.1 171 6 = 0 := by
    rw [zI_ne e12 (by decide), g1 171 (by decide) (by decide) (by decide), zI_off e10 (by decide), zI_off e9 (by decide), zI_off e8 (by decide), zI_at e7]
  have f11 : σ12.1 171 11 = 0 := by
    rw [zI_ne e12 (by decide), g1 171 (by decide) (by decide) (by decide), zI_off e10 (by decide), zI_off e9 (by decide), zI_at e8]
  have fr12 : fr σ σ12 := fr_tr (fr_I e1 (by decide)) (fr_tr (fr_R e2 (by decide)) (fr_tr (fr_I e7 (by decide)) (fr_tr (fr_I e8 (by decide)) (fr_tr (fr_I e9 (by decide)) (fr_tr (fr_I e10 (by decide)) (fr_tr (fun i hi => g1 i (by omega) (by omega) (by omega)) (fr_I e12 (by decide))))))))
  refine fx_readRows f5 f6 (fun τ2 k1 k2 => ?_)
  have fr2 : fr σ τ2 := fr_tr fr12 (fun i hi => k1 i (by omega))
  refine ⟨fun q => hP τ2 fr2 (fun z => absurd z q) (fun _ => k2.trans f11), fun q => ⟨fun _ => ?_, fun q2 => ?_⟩⟩
  · exact fx_note (k2.trans f11) (fun τ3 l1 l2 => hP τ3 (fr_tr fr2 (fun i hi => l1 i (by omega))) (fun _ => l2) (fun z => absurd q z))
  · rw [k1 172 (by decide), zI_ne e12 (by decide), g2] at q2
    exact absurd (by decide) q2
theorem fr_put {s : Int32} {σ : zSto} {P : zSto → Prop} (q : ¬ s < 0) (q2 : ¬ (2 : Int32) < s) (q3 : ¬ s = 0) (hP : ∀ τ : zSto, fr σ τ → P τ) : w_X8_put 1 s 0 σ P := by
  unfold w_X8_put w_X9_isSort
  refine ⟨fun r => absurd r q, fun _ => ⟨fun r => absurd r q2, fun _ _ => ⟨fun r => absurd r (by decide), fun _ => ⟨fun r => absurd r (by decide), fun _ => ⟨fun _ => ⟨fun _ => ⟨fun _ => ?_, fun _ => ?_⟩, fun r => absurd r q3⟩, fun r => absurd (by decide) r⟩⟩⟩⟩⟩
  · refine ⟨by unfold vp_in; decide, fun j e => ⟨by rw [e]; exact (show 1 + 34 + zel [(0, 1), (0, 4)] (0 : Int32) = 36 by decide) ▸ zIsPairs_36, ?_⟩⟩
    have hj : j = 36 := by rw [e]; decide
    subst hj
    unfold w_X2_copyFrom
    intro σ1 e1 σ2 e2 σ3 e3
    exact ⟨vp3 q q2 (by decide), vp3 q q2 (by decide), fun σ8 e8 => hP σ8 (fr_tr (fr_R e1 (by decide)) (fr_tr (fr_R e2 (by decide)) (fr_tr (fr_I e3 (by decide)) (fr_I e8 (by decide)))))⟩
  · refine ⟨by unfold vp_in; decide, fun j e => ⟨by rw [e]; exact (show 1 + 27 + zel [(0, 1), (0, 4)] (0 : Int32) = 29 by decide) ▸ zIsPairs_29, ?_⟩⟩
    have hj : j = 29 := by rw [e]; decide
    subst hj
    unfold w_X2_copyFrom
    intro σ1 e1 σ2 e2 σ3 e3
    exact ⟨vp3 q q2 (by decide), vp3 q q2 (by decide), fun σ8 e8 => hP σ8 (fr_tr (fr_R e1 (by decide)) (fr_tr (fr_R e2 (by decide)) (fr_tr (fr_I e3 (by decide)) (fr_I e8 (by decide)))))⟩
theorem fx_text {s at0 : Int32} {σ : zSto} {P : Int32 → zSto → Prop} (h : fC σ) (h5 : σ.1 1 5 = 0) (h1 : ¬ (¬ s < 0 ∧ ¬ 2 < s ∧ at0 = -1) → ∀ τ, fr σ τ → P (-2) τ) (h2 : ¬ s < 0 → ¬ 2 < s → at0 = -1 → s = 0 → ∀ τ, fr σ τ → P (-1) τ) (h3 : ¬ s < 0 → ¬ 2 < s → at0 = -1 → ¬ s = 0 → ∀ τ, fr σ τ → P 0 τ) : w_X9_text s at0 σ P := by
  unfold w_X9_text
  intro x1 e1
  rw [h5] at e1
  subst e1
  refine fx_placeFor h (fun z => ?_) (fun q q2 q3 => ?_)
  · intro σ4 e4 σ5 e5 σ6 e6
    exact ⟨fun r => absurd rfl r, fun _ => h1 z σ6 (fr_tr (fr_I e4 (by decide)) (fr_tr (fr_I e5 (by decide)) (fr_I e6 (by decide))))⟩
  · intro σ4 e4 σ5 e5 σ6 e6
    have g6 : fr σ σ6 := fr_tr (fr_I e4 (by decide)) (fr_tr (fr_I e5 (by decide)) (fr_I e6 (by decide)))
    refine ⟨fun _ => fx_readTape (fun τ g1 g2 g3 => ?_), fun r => absurd r (by decide)⟩
    intro σ8 e8 σ9 e9
    have g9 : fr σ σ9 := fr_tr g6 (fr_tr g1 (fr_tr (fr_I e8 (by decide)) (fr_I e9 (by decide))))
    have v : σ9.1 171 11 = τ.1 171 11 := by rw [zI_ne e9 (by decide), zI_ne e8 (by decide)]
    rw [v]
    refine ⟨fun r => ?_, fun r => ?_⟩
    · by_cases hs : s = 0
      · rw [g2 hs] at r
        exact absurd r (by decide)
      · exact fr_put q q2 hs (fun τ2 k => h3 q q2 q3 hs τ2 (fr_tr g9 k))
    · by_cases hs : s = 0
      · exact h2 q q2 q3 hs σ9 g9
      · exact absurd (g3 hs) r
