/-! NEW OBJECTS: the calls that write -/
def fr (σ τ : zSto) : Prop := ∀ i, 223 ≤ i → τ.1 i = σ.1 i
theorem fr_rf {σ : zSto} : fr σ σ := fun _ _ => rfl
theorem fr_tr {σ τ ρ : zSto} (h : fr σ τ) (h2 : fr τ ρ) : fr σ ρ := fun i hi => (h2 i hi).trans (h i hi)
theorem fr_I {σ τ : zSto} {k j : Nat} {v : Int32} (e : τ = zI σ k j v) (h : k < 223) : fr σ τ := fun i hi => zI_ne e (by omega)
theorem zR_ne {σ τ : zSto} {k : Nat} {f : Nat → Int32} (e : τ = zR σ k f) {k' : Nat} (h : k' ≠ k) : τ.1 k' = σ.1 k' := by
  subst e
  exact zup_n _ _ _ h
theorem fr_R {σ τ : zSto} {k : Nat} {f : Nat → Int32} (e : τ = zR σ k f) (h : k < 223) : fr σ τ := fun i hi => zR_ne e (by omega)
theorem zI_at {σ τ : zSto} {k j : Nat} {v : Int32} (e : τ = zI σ k j v) : τ.1 k j = v := by rw [zI_eq e]; exact pk_us
theorem zI_off {σ τ : zSto} {k j : Nat} {v : Int32} (e : τ = zI σ k j v) {k' j' : Nat} (h : ¬ (k' = k ∧ j' = j)) : τ.1 k' j' = σ.1 k' j' := by
  by_cases hk : k' = k
  · subst hk
    rw [zI_eq e]
    exact pk_un (fun q => h ⟨rfl, q⟩)
  · rw [zI_ne e hk]
theorem f_app0 {a x : Int32} {n : Nat} {σ : zSto} {P : zSto → Prop} (hx : x < 0) (hP : P σ) : w_X8_append_3 1 a P (n + 1) x σ := by
  unfold w_X8_append_3
  exact ⟨fun _ => hP, fun h => absurd hx h⟩
theorem f_app1 {a x : Int32} {n m : Nat} {σ : zSto} {P : zSto → Prop} (hx : ¬ x < 0) (hm : σ.1 1 5 = nI m) (hl : m < 600) (k : ∀ τ : zSto, τ.1 1 5 = nI (m + 1) → fr σ τ → w_X8_append_3 1 a P n (x + (-8)) τ) : w_X8_append_3 1 a P (n + 1) x σ := by
  unfold w_X8_append_3
  refine ⟨fun h => absurd h hx, fun _ => ⟨fun h => ?_, fun _ => ⟨?_, fun σ2 e2 σ3 e3 x4 e4 => ?_⟩⟩⟩
  · rw [hm] at h
    exact absurd h (nI_ge hl (by decide))
  · rw [hm]
    exact vp_in_nI hl (by decide)
  · subst e4
    refine k σ3 ?_ (fr_tr (fr_I e2 (by decide)) (fr_I e3 (by decide)))
    rw [zI_at e3, zI_off e2 (by omega), hm, nI_1]
theorem f_append {a : Int32} {m : Nat} {σ : zSto} {P : zSto → Prop} (hm : σ.1 1 5 = nI m) (hl : m + 4 ≤ 600) (hP : ∀ τ : zSto, τ.1 1 5 = nI (m + 4) → fr σ τ → P τ) : w_X8_append 1 a σ P := by
  unfold w_X8_append
  refine ⟨5, ?_⟩
  refine f_app1 (by decide) hm (by omega) (fun τ1 h1 g1 => ?_)
  refine f_app1 (by decide) h1 (by omega) (fun τ2 h2 g2 => ?_)
  refine f_app1 (by decide) h2 (by omega) (fun τ3 h3 g3 => ?_)
  refine f_app1 (by decide) h3 (by omega) (fun τ4 h4 g4 => ?_)
  exact f_app0 (by decide) (hP τ4 h4 (fr_tr g1 (fr_tr g2 (fr_tr g3 g4))))
theorem fx_feed {a1 a2 a3 a4 a5 : Int32} {σ : zSto} {P : Int32 → zSto → Prop} (h : σ.1 1 5 = nI 0) (hP : ∀ τ, fr σ τ → P (nI 20) τ) : w_X9_feed a1 a2 a3 a4 a5 σ P := by
  unfold w_X9_feed
  refine ⟨fun _ => ?_, fun q => ?_⟩
  · refine f_append h (by decide) (fun τ1 h1 g1 => f_append h1 (by decide) (fun τ2 h2 g2 => f_append h2 (by decide) (fun τ3 h3 g3 => f_append h3 (by decide) (fun τ4 h4 g4 => f_append h4 (by decide) (fun τ5 h5 g5 => ?_)))))
    rw [h5]
    exact hP τ5 (fr_tr g1 (fr_tr g2 (fr_tr g3 (fr_tr g4 g5))))
  · rw [h] at q
    exact absurd (by decide) q
theorem g_four0 {a x : Int32} {n : Nat} {σ : zSto} {P : zSto → Prop} (hx : x < 0) (hP : P σ) : w_X10_four_3 a P (n + 1) x σ := by
  unfold w_X10_four_3
  exact ⟨fun _ => hP, fun h => absurd hx h⟩
theorem g_four1 {a x : Int32} {n m : Nat} {σ : zSto} {P : zSto → Prop} (hx : ¬ x < 0) (hm : σ.1 225 0 = nI m) (hl : m < 2400) (k : ∀ τ : zSto, τ.1 225 0 = nI (m + 1) → w_X10_four_3 a P n (x + (-8)) τ) : w_X10_four_3 a P (n + 1) x σ := by
  unfold w_X10_four_3
  refine ⟨fun h => absurd h hx, fun _ => ⟨?_, fun σ2 e2 σ3 e3 x4 e4 => ?_⟩⟩
  · rw [hm]
    exact vp_in_nI hl (by decide)
  · subst e4
    refine k σ3 ?_
    rw [zI_at e3, zI_off e2 (by omega), hm, nI_1]
theorem g_four {a : Int32} {m : Nat} {σ : zSto} {P : zSto → Prop} (hm : σ.1 225 0 = nI m) (hl : m + 4 ≤ 2400) (hP : ∀ τ : zSto, τ.1 225 0 = nI (m + 4) → P τ) : w_X10_four a σ P := by
  unfold w_X10_four
  refine ⟨5, ?_⟩
  refine g_four1 (by decide) hm (by omega) (fun τ1 h1 => ?_)
  refine g_four1 (by decide) h1 (by omega) (fun τ2 h2 => ?_)
  refine g_four1 (by decide) h2 (by omega) (fun τ3 h3 => ?_)
  refine g_four1 (by decide) h3 (by omega) (fun τ4 h4 => ?_)
  exact g_four0 (by decide) (hP τ4 h4)
theorem fy_feed {a1 a2 a3 a4 a5 : Int32} {σ : zSto} {P : Int32 → zSto → Prop} (h : σ.1 225 0 = nI 0) (hP : ∀ τ, P (nI 20) τ) : w_X10_feed a1 a2 a3 a4 a5 σ P := by
  unfold w_X10_feed
  intro σ1 e1
  have h1 : σ1.1 225 0 = nI 0 := (zI_off e1 (by decide)).trans h
  refine ⟨fun _ => ?_, fun q => ?_⟩
  · refine g_four h1 (by decide) (fun τ1 h1 => g_four h1 (by decide) (fun τ2 h2 => g_four h2 (by decide) (fun τ3 h3 => g_four h3 (by decide) (fun τ4 h4 => g_four h4 (by decide) (fun τ5 h5 => ?_)))))
    rw [h5]
    exact hP τ5
  · rw [h1] at q
    exact absurd (by decide) q
theorem fx_end {a : Int32} {σ : zSto} {P : Int32 → zSto → Prop} (h : σ.1 1 5 = 0) (h1 : a < 0 ∨ 0 < a → P (-1) σ) (h2 : ¬ a < 0 → ¬ 0 < a → ∀ τ, fr σ τ → P a τ) : w_X9_end a σ P := by
  unfold w_X9_end
  refine ⟨fun q => h1 (Or.inl q), fun q => ⟨fun q2 σ1 e1 => ?_, fun q2 => ?_⟩⟩
  · rw [h] at q2
    exact h2 q (Int32.not_lt.mpr q2) σ1 (fr_I e1 (by decide))
  · rw [h] at q2
    exact h1 (Or.inr (Int32.not_le.mp q2))
theorem fy_end {a : Int32} {σ : zSto} {P : Int32 → zSto → Prop} (h : σ.1 225 0 = 0) (h1 : a < 0 ∨ 0 < a → ∀ τ, P (-1) τ) (h2 : ¬ a < 0 → ¬ 0 < a → ∀ τ, P a τ) : w_X10_end a σ P := by
  unfold w_X10_end w_X10_in
  intro σ1 e1
  have h3 : σ1.1 225 0 = 0 := (zI_off e1 (by decide)).trans h
  rw [h3]
  refine ⟨fun q _ => ⟨fun q2 => absurd rfl q2, fun _ => h1 (Or.inl q) _⟩, fun q => ⟨fun q2 _ => ⟨fun q3 => absurd rfl q3, fun _ => h1 (Or.inr q2) _⟩, fun q2 _ => ⟨fun _ σ4 _ => h2 q q2 σ4, fun q3 => absurd q3 (by decide)⟩⟩⟩
theorem fx_fault {a : Int32} {σ : zSto} {P : Int32 → zSto → Prop} (h6 : σ.1 1 6 = 0) (h7 : σ.1 1 7 = -1) (h1 : a = 0 → P 0 σ) (h2 : ¬ a = 0 → P (-1) σ) : w_X9_fault a σ P := by
  unfold w_X9_fault
  rw [h6, h7]
  exact ⟨fun q => ⟨fun _ => h2 q, fun _ => h2 q⟩, fun q => h1 q⟩
theorem fy_fault {a : Int32} {σ : zSto} {P : Int32 → zSto → Prop} (h6 : σ.1 226 0 = 0) (h7 : σ.1 227 0 = -1) (h1 : a = 0 → ∀ τ, P 0 τ) (h2 : ¬ a = 0 → ∀ τ, P (-1) τ) : w_X10_fault a σ P := by
  unfold w_X10_fault
  intro σ1 e1
  rw [(zI_off e1 (by decide)).trans h6, (zI_off e1 (by decide)).trans h7]
  exact ⟨fun q => ⟨fun _ => h2 q _, fun _ => h2 q _⟩, fun q => h1 q _⟩
theorem vp3 {a : Int32} (h : ¬ a < 0) (h2 : ¬ (2 : Int32) < a) {n : Nat} (hn : 3 ≤ n) : vp_in a n := by
  have h3 : (0 : Int32).toInt ≤ a.toInt := Int32.le_iff_toInt_le.mp (Int32.not_lt.mp h)
  have h4 : a.toInt ≤ (2 : Int32).toInt := Int32.le_iff_toInt_le.mp (Int32.not_lt.mp h2)
  have h5 : (0 : Int32).toInt = 0 := by decide
  have h6 : (2 : Int32).toInt = 2 := by decide
  exact vp_in_iff.mpr ⟨by omega, by omega⟩
theorem fx_count {a : Int32} {σ : zSto} {P : Int32 → zSto → Prop} (h : fC σ) (h1 : a < 0 ∨ 2 < a → P (-2) σ) (h2 : ¬ a < 0 → ¬ 2 < a → P 0 σ) : w_X9_count a σ P := by
  unfold w_X9_count w_X8_howMany w_X9_isSort
  refine ⟨fun q _ => ⟨fun _ => h1 (Or.inl q), fun q2 => absurd rfl q2⟩, fun q => ⟨fun q2 _ => ⟨fun _ => h1 (Or.inr q2), fun q3 => absurd rfl q3⟩, fun q2 _ => ⟨fun q3 => absurd q3 (by decide), fun _ => ?_⟩⟩⟩
  refine ⟨fun q3 => absurd q3 q, fun _ => ⟨fun q3 => absurd q3 q2, fun _ _ => ⟨fun q3 => absurd q3 (by decide), fun _ => ⟨vp3 q q2 (by decide), ?_⟩⟩⟩⟩
  have h3 : σ.1 (1 + 41) a.toNatClampNeg = 0 := h _
  rw [h3]
  exact h2 q q2
theorem fy_count {a : Int32} {σ : zSto} {P : Int32 → zSto → Prop} (h : fM σ) (h1 : a < 0 ∨ 2 < a → ∀ τ, P (-2) τ) (h2 : ¬ a < 0 → ¬ 2 < a → ∀ τ, P 0 τ) : w_X10_count a σ P := by
  unfold w_X10_count w_X10_in
  intro σ1 e1
  have h3 := fM_up e1 (by decide) h
  refine ⟨fun q _ => ⟨fun _ => h1 (Or.inl q) _, fun q2 => absurd rfl q2⟩, fun q => ⟨fun q2 _ => ⟨fun _ => h1 (Or.inr q2) _, fun q3 => absurd rfl q3⟩, fun q2 _ => ⟨fun q3 => absurd q3 (by decide), fun _ => ⟨vp3 q q2 (by decide), ?_⟩⟩⟩⟩
  rw [h3]
  exact h2 q q2 _
theorem le3 {a : Int32} (h : ¬ (3 : Int32) ≤ a) : ¬ (2 : Int32) < a := fun q => h (by
  have h1 := Int32.lt_iff_toInt_lt.mp q
  have h2 : (2 : Int32).toInt = 2 := by decide
  have h3 : (3 : Int32).toInt = 3 := by decide
  exact Int32.le_iff_toInt_le.mpr (by omega))
theorem fx_again {a : Int32} {σ : zSto} {P : Int32 → zSto → Prop} (h : ∀ j, σ.1 170 j = 0) (hP : P 0 σ) : w_X9_again a σ P := by
  unfold w_X9_again
  refine ⟨fun _ => hP, fun q => ⟨fun _ => hP, fun q2 => ⟨vp3 q (le3 q2) (by decide), ?_⟩⟩⟩
  rw [h]
  exact ⟨fun q3 => absurd rfl q3, fun _ => hP⟩
theorem fy_again {a : Int32} {σ : zSto} {P : Int32 → zSto → Prop} (h : ∀ j, σ.1 249 j = 0) (hP : ∀ τ, P 0 τ) : w_X10_again a σ P := by
  unfold w_X10_again w_X10_in
  intro σ1 e1
  refine ⟨fun q _ => ⟨fun _ => hP _, fun q2 => absurd rfl q2⟩, fun q => ⟨fun q2 _ => ⟨fun _ => hP _, fun q3 => absurd rfl q3⟩, fun q2 _ => ⟨fun q3 => absurd q3 (by decide), fun _ => ⟨vp3 q q2 (by decide), ?_⟩⟩⟩⟩
  rw [zI_off e1 (by omega), h]
  exact ⟨fun q3 => absurd rfl q3, fun _ => hP _⟩
