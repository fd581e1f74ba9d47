/-! text of a new object, the reference -/
theorem zJ_1 {σ τ : zSto} {k j : Nat} {v : Int64} (e : τ = zJ σ k j v) : τ.1 = σ.1 := by subst e; rfl
theorem g_see {σ : zSto} {P : Int32 → zSto → Prop} (h9 : σ.1 223 9 = 0) (h10 : σ.1 223 10 = 0) (hP : P (-1) σ) : w_X10_see σ P := by
  unfold w_X10_see
  exact ⟨fun _ => hP, fun q => absurd (by rw [h9, h10]; decide) q⟩
theorem g_token {σ : zSto} {P : zSto → Prop} (h9 : σ.1 223 9 = 0) (h10 : σ.1 223 10 = 0) (hP : ∀ τ : zSto, (∀ c, c ≠ 223 → τ.1 c = σ.1 c) → τ.1 223 12 = 0 → τ.1 223 16 = σ.1 223 16 → τ.1 223 22 = σ.1 223 22 → P τ) : w_X10_token σ P := by
  unfold w_X10_token
  refine ⟨1, ?_⟩
  unfold w_X10_token_0
  refine g_see h9 h10 ⟨fun q => absurd q (by decide), fun _ => g_see h9 h10 ⟨fun _ σ6 e6 => ?_, fun q => absurd q (by decide)⟩⟩
  refine g_see ((zI_off e6 (by decide)).trans h9) ((zI_off e6 (by decide)).trans h10) ?_
  intro σ9 e9
  refine ⟨fun q => absurd q (by decide), fun _ σ45 e45 => hP σ45 (fun c hc => ?_) (zI_at e45) ?_ ?_⟩
  · rw [zI_ne e45 hc, zJ_1 e9, zI_ne e6 hc]
  · rw [zI_off e45 (by decide), zJ_1 e9, zI_off e6 (by decide)]
  · rw [zI_off e45 (by decide), zJ_1 e9, zI_off e6 (by decide)]
theorem g_textLines {s : Int32} {σ : zSto} {P : Int32 → zSto → Prop} (h : σ.1 223 12 = 0) (hP : P 1 σ) : w_X10_textLines s σ P := by
  unfold w_X10_textLines
  refine ⟨1, ?_⟩
  unfold w_X10_textLines_2
  exact ⟨fun q => absurd q (by decide), fun _ => ⟨fun _ => ⟨Or.inr rfl, hP⟩, fun q => absurd h q⟩⟩
theorem g_154 {s v : Int32} {σ : zSto} {P : Int32 → zSto → Prop} (hM : fM σ) (hv : σ.1 223 16 = v) (h0 : v = 0 → ∀ τ, fM τ → P 1 τ) (h1 : ¬ v = 0 → ∀ τ, fM τ → P 0 τ) : ∀ (k i : Nat), i + k = 16 → ∀ σ : zSto, fM σ → σ.1 223 16 = v → w_X10_readText_154 s 1 P (k + 1) (nI i) σ := by
  have E : ∀ σ : zSto, fM σ → σ.1 223 16 = v → ∀ σ13 : zSto, σ13 = zI σ 226 0 (σ.1 223 16) → ((¬ (1 : Int32) = 0 → (((σ13.1 223 16) ≤ 0 → (∀ σ14 : zSto, σ14 = zI σ13 227 0 (-1 : Int32) → ((¬ (σ14.1 226 0) = 0 → P (0 : Int32) σ14) ∧ ((σ14.1 226 0) = 0 → P (1 : Int32) σ14)))) ∧ (¬ (σ13.1 223 16) ≤ 0 → (∀ σ15 : zSto, σ15 = zI σ13 227 0 (σ13.1 223 17) → ((¬ (σ15.1 226 0) = 0 → P (0 : Int32) σ15) ∧ ((σ15.1 226 0) = 0 → P (1 : Int32) σ15)))))) ∧ ((1 : Int32) = 0 → (∀ σ16 : zSto, σ16 = zI σ13 227 0 (σ13.1 223 15) → ((¬ (σ16.1 226 0) = 0 → P (0 : Int32) σ16) ∧ ((σ16.1 226 0) = 0 → P (1 : Int32) σ16))))) := by
    intro σ hM hv σ13 e13
    have hM13 := fM_up e13 (by decide) hM
    have v13 : σ13.1 226 0 = v := (zI_at e13).trans hv
    refine ⟨fun _ => ⟨fun _ σ14 e14 => ?_, fun _ σ15 e15 => ?_⟩, fun q => absurd q (by decide)⟩
    · have a : σ14.1 226 0 = v := (zI_off e14 (by decide)).trans v13
      rw [a]
      exact ⟨fun q => h1 q _ (fM_up e14 (by decide) hM13), fun q => h0 q _ (fM_up e14 (by decide) hM13)⟩
    · have a : σ15.1 226 0 = v := (zI_off e15 (by decide)).trans v13
      rw [a]
      exact ⟨fun q => h1 q _ (fM_up e15 (by decide) hM13), fun q => h0 q _ (fM_up e15 (by decide) hM13)⟩
  intro k
  induction k with
  | zero =>
    intro i hi σ hM hv
    unfold w_X10_readText_154
    exact ⟨fun _ => ⟨fun q => absurd q (by decide), fun _ => E σ hM hv⟩, fun q => absurd (show (16 : Int32) ≤ nI i from nI_le (a := 16) (by omega) (by omega)) q⟩
  | succ k ih =>
    intro i hi σ hM hv
    unfold w_X10_readText_154
    have b3 : ∀ d : Nat, d ≤ 4 → vp_in (((7 : Int32) + ((5 : Int32) * nI i)) + nI d) 123 := fun d hd => by
      have e : (7 : Int32) + (5 : Int32) * nI i = nI (7 + 5 * i) := by rw [show (5 : Int32) * nI i = nI (5 * i) from pk_mul 5 i]; exact nI_add 7 (5 * i)
      rw [e, nI_add]
      exact vp_in_nI (by omega) (by decide)
    refine ⟨fun q => absurd q (nI_ge (a := i) (b := 16) (by omega) (by decide)), fun _ => ⟨fun _ => ⟨fun q => absurd q (by decide), fun _ => E σ hM hv⟩, fun _ => ⟨vp_in_nI (by omega) (by decide), b3 3 (by decide), fun σ27 e27 => ⟨vp_in_nI (by omega) (by decide), b3 4 (by decide), fun σ30 e30 x31 e31 => ?_⟩⟩⟩⟩
    rw [e31, nI_1]
    exact ih (i + 1) (by omega) σ30 (fM_up e30 (by decide) (fM_up e27 (by decide) hM)) (by rw [zI_ne e30 (by decide), zI_ne e27 (by decide)]; exact hv)
theorem g_later {σ : zSto} {b : Int32} {P : zSto → Prop} (h : σ.1 223 16 = 0) (hP : ∀ τ : zSto, (∀ c, c ≠ 223 → τ.1 c = σ.1 c) → τ.1 223 16 = 4 → P τ) : w_X10_later 4 b σ P := by
  unfold w_X10_later
  refine ⟨fun _ σ1 e1 σ2 e2 => hP σ2 (fun c hc => by rw [zI_ne e2 hc, zI_ne e1 hc]) ?_, fun q => absurd h q⟩
  rw [zI_off e2 (by decide), zI_at e1]
/-- what the text's rows of the reference come to: without a FAULT for a PLAN or a LOG, with one for a LINE -/
theorem g_body {s : Int32} {σ : zSto} {P : Int32 → zSto → Prop} (hM : fM σ) (h10 : σ.1 223 10 = 0) (h9 : σ.1 223 9 = 0) (h16 : σ.1 223 16 = 0) (h22 : σ.1 223 22 = -1) (h232 : σ.1 232 0 = 0) (h0 : ¬ s = 0 → ∀ τ, fM τ → P 1 τ) (h1 : s = 0 → ∀ τ, fM τ → P 0 τ) : w_X10_token σ (fun σ6 => w_X10_textLines s σ6 (fun r8 σ7 => (r8 = 0 ∨ r8 = 1) → ((r8 = 0 → (∃ n2 : Nat, w_X10_readText_154 s r8 P n2 (0 : Int32) σ7)) ∧ (¬ r8 = 0 → ((¬ s = 0 → (∃ n2 : Nat, w_X10_readText_154 s r8 P n2 (0 : Int32) σ7)) ∧ (s = 0 → ((¬ (σ7.1 223 16) = 0 → (∃ n2 : Nat, w_X10_readText_154 s r8 P n2 (0 : Int32) σ7)) ∧ ((σ7.1 223 16) = 0 → (((σ7.1 232 0) ≤ (σ7.1 223 22) → (w_X10_later (4 : Int32) (σ7.1 223 11) σ7 (fun (σ32 : zSto) => (∃ n2 : Nat, w_X10_readText_154 s r8 P n2 (0 : Int32) σ32)))) ∧ (¬ (σ7.1 232 0) ≤ (σ7.1 223 22) → (((2 : Int32) ≤ (σ7.1 232 0) → (∃ n2 : Nat, w_X10_readText_154 s r8 P n2 (0 : Int32) σ7)) ∧ (¬ (2 : Int32) ≤ (σ7.1 232 0) → (w_X10_later (4 : Int32) (σ7.1 223 11) σ7 (fun (σ33 : zSto) => (∃ n2 : Nat, w_X10_readText_154 s r8 P n2 (0 : Int32) σ33))))))))))))))) := by
  refine g_token h9 h10 (fun τ g1 g2 g3 g4 => ?_)
  refine g_textLines g2 (fun _ => ⟨fun q => absurd q (by decide), fun _ => ?_⟩)
  have hMτ : fM τ := fun j => by rw [g1 228 (by decide)]; exact hM j
  have t16 : τ.1 223 16 = 0 := g3.trans h16
  have t232 : τ.1 232 0 = 0 := by rw [g1 232 (by decide)]; exact h232
  refine ⟨fun q => ⟨17, g_154 (v := 0) hMτ t16 (fun _ => h0 q) (fun z => absurd rfl z) 16 0 (by decide) τ hMτ t16⟩, fun q => ⟨fun z => absurd t16 z, fun _ => ?_⟩⟩
  rw [t232, g4, h22]
  refine ⟨fun z => absurd z (by decide), fun _ => ⟨fun z => absurd z (by decide), fun _ => ?_⟩⟩
  refine g_later t16 (fun ρ k1 k2 => ?_)
  have hMρ : fM ρ := fun j => by rw [k1 228 (by decide)]; exact hMτ j
  exact ⟨17, g_154 (v := 4) hMρ k2 (fun z => absurd z (by decide)) (fun _ => h1 q) 16 0 (by decide) ρ hMρ k2⟩
/-- what stays while the reference makes ready for a text -/
def gK (σ : zSto) : Prop := fM σ ∧ σ.1 223 10 = 0 ∧ σ.1 232 0 = 0
theorem gK_up {σ τ : zSto} {k j : Nat} {v : Int32} (e : τ = zI σ k j v) (h1 : (228 : Nat) ≠ k) (h2 : ¬ (223 = k ∧ 10 = j)) (h3 : ¬ (232 = k ∧ 0 = j)) (h : gK σ) : gK τ := ⟨fM_up e h1 h.1, (zI_off e h2).trans h.2.1, (zI_off e h3).trans h.2.2⟩
theorem gK_w {σ τ : zSto} {j : Nat} (e : τ = zI σ 232 j 0) (h : gK σ) : gK τ := ⟨fM_up e (by decide) h.1, (zI_off e (by omega)).trans h.2.1, by
  by_cases hj : j = 0
  · subst hj; exact zI_at e
  · exact (zI_off e (by omega)).trans h.2.2⟩
theorem lp_23 {s : Int32} {P : Int32 → zSto → Prop} (h0 : ¬ s = 0 → ∀ τ, fM τ → P 1 τ) (h1 : s = 0 → ∀ τ, fM τ → P 0 τ) : ∀ (k i : Nat) (σ : zSto), i + k = 16 → gK σ → w_X10_readText_23 s P (k + 1) (nI i) σ := by
  intro k
  induction k with
  | zero =>
    intro i σ hi hK
    unfold w_X10_readText_23
    refine ⟨fun _ => ⟨fun q σ1 e1 => ⟨fun _ σ2 e2 σ3 e3 σ4 e4 σ5 e5 => ?_, fun z => absurd z q⟩, fun q σ1 e1 => ⟨fun z => absurd q z, fun _ σ2 e2 σ3 e3 σ4 e4 σ5 e5 => ?_⟩⟩, fun q => absurd (show (16 : Int32) ≤ nI i from nI_le (a := 16) (by omega) (by omega)) q⟩
    all_goals
      have hK1 := gK_up e1 (by decide) (by decide) (by decide) hK
      have hK2 := gK_up e2 (by decide) (by decide) (by decide) hK1
      have hK3 := gK_up e3 (by decide) (by decide) (by decide) hK2
      have hK4 := gK_up e4 (by decide) (by decide) (by decide) hK3
      have hK5 := gK_up e5 (by decide) (by decide) (by decide) hK4
      refine g_body hK5.1 hK5.2.1 ?_ (zI_at e5) ?_ hK5.2.2 h0 h1
      · rw [zI_off e5 (by decide), zI_at e4]
      · rw [zI_off e5 (by decide), zI_off e4 (by decide), zI_at e3]
  | succ k ih =>
    intro i σ hi hK
    unfold w_X10_readText_23
    refine ⟨fun q => absurd q (nI_ge (a := i) (b := 16) (by omega) (by decide)), fun _ => ⟨vp_in_nI (by omega) (by decide), fun σ63 e63 => ⟨vp_in_nI (by omega) (by decide), fun σ65 e65 x66 e66 => ?_⟩⟩⟩
    rw [e66, nI_1]
    exact ih (i + 1) σ65 (by omega) (gK_up e65 (by decide) (by omega) (by omega) (gK_up e63 (by decide) (by omega) (by omega) hK))
theorem lp_2 {s : Int32} {P : Int32 → zSto → Prop} (h0 : ¬ s = 0 → ∀ τ, fM τ → P 1 τ) (h1 : s = 0 → ∀ τ, fM τ → P 0 τ) : ∀ (k i : Nat) (σ : zSto), i + k = 123 → gK σ → w_X10_readText_2 s P (k + 1) (nI i) σ := by
  intro k
  induction k with
  | zero =>
    intro i σ hi hK
    unfold w_X10_readText_2
    exact ⟨fun _ => ⟨17, lp_23 h0 h1 16 0 σ (by decide) hK⟩, fun q => absurd (show (123 : Int32) ≤ nI i from nI_le (a := 123) (by omega) (by omega)) q⟩
  | succ k ih =>
    intro i σ hi hK
    unfold w_X10_readText_2
    refine ⟨fun q => absurd q (nI_ge (a := i) (b := 123) (by omega) (by decide)), fun _ => ⟨vp_in_nI (by omega) (by decide), fun σ68 e68 x69 e69 => ?_⟩⟩
    rw [e69, nI_1]
    exact ih (i + 1) σ68 (by omega) (gK_w e68 hK)
theorem g_readText {s : Int32} {σ : zSto} {P : Int32 → zSto → Prop} (hK : gK σ) (h0 : ¬ s = 0 → ∀ τ, fM τ → P 1 τ) (h1 : s = 0 → ∀ τ, fM τ → P 0 τ) : w_X10_readText s σ P := by
  unfold w_X10_readText
  exact ⟨124, lp_2 h0 h1 123 0 σ (by decide) hK⟩
theorem lp_store {q m N : Nat} {x2 x3 : Int32} {P : zSto → Prop} (h1 : x2 = nI N) (h2 : x2 * x3 = nI 0) (hN : N ≤ 123) (b2 : N ≤ m) (hm : m < 2 ^ 31) (hP : ∀ τ, P τ) : ∀ (k i : Nat) (σ : zSto), i + k = N → w_X10_store_3 q m x2 x3 P (k + 1) (nI i) σ := by
  intro k
  induction k with
  | zero =>
    intro i σ hi
    unfold w_X10_store_3
    refine ⟨fun _ => hP _, fun q => absurd ?_ q⟩
    rw [h1]
    exact nI_le (by omega) (by omega)
  | succ k ih =>
    intro i σ hi
    unfold w_X10_store_3
    refine ⟨fun _ => hP _, fun _ => ⟨vp_in_nI (by omega) (by decide), vb h2 (by omega) hm, fun σ3 _ x4 e4 => ?_⟩⟩
    rw [e4, nI_1]
    exact ih (i + 1) σ3 (by omega)
theorem g_store {q m N : Nat} {x2 x3 : Int32} {σ : zSto} {P : zSto → Prop} (h1 : x2 = nI N) (h2 : x2 * x3 = nI 0) (hN : N ≤ 123) (b2 : N ≤ m) (hm : m < 2 ^ 31) (hP : ∀ τ, P τ) : w_X10_store q m x2 x3 σ P := by
  unfold w_X10_store
  exact ⟨N + 1, lp_store h1 h2 hN b2 hm hP N 0 σ (by omega)⟩
theorem fy_text {s at0 : Int32} {σ : zSto} {P : Int32 → zSto → Prop} (h : fM σ) (h225 : σ.1 225 0 = 0) (h232 : σ.1 232 0 = 0) (h1 : ¬ (¬ s < 0 ∧ ¬ 2 < s ∧ at0 = -1) → ∀ τ, P (-2) τ) (h2 : ¬ s < 0 → ¬ 2 < s → at0 = -1 → s = 0 → ∀ τ, P (-1) τ) (h3 : ¬ s < 0 → ¬ 2 < s → at0 = -1 → ¬ s = 0 → ∀ τ, P 0 τ) : w_X10_text s at0 σ P := by
  unfold w_X10_text
  intro σ1 e1 σ2 e2 σ3 e3 σ4 e4 σ5 e5
  have hM5 : fM σ5 := fM_up e5 (by decide) (fM_up e4 (by decide) (fM_up e3 (by decide) (fM_up e2 (by decide) (fM_up e1 (by decide) h))))
  have hK5 : gK σ5 := ⟨hM5, by rw [zI_off e5 (by decide), zI_off e4 (by decide), zI_off e3 (by decide), zI_at e2, zI_off e1 (by decide), h225], by rw [zI_off e5 (by decide), zI_off e4 (by decide), zI_off e3 (by decide), zI_off e2 (by decide), zI_off e1 (by decide), h232]⟩
  unfold w_X10_in
  refine ⟨fun q _ => ⟨fun _ => h1 (fun z => z.1 q) _, fun z => absurd rfl z⟩, fun q => ⟨fun q2 _ => ⟨fun _ => h1 (fun z => z.2.1 q2) _, fun z => absurd rfl z⟩, fun q2 _ => ⟨fun z => absurd z (by decide), fun _ => ⟨fun q4 => ?_, fun q4 => ⟨vp3 q q2 (by decide), fun _ => ?_, fun z => ?_⟩⟩⟩⟩⟩
  · exact fm_is hM5 (vp3 q q2 (by decide)) (fun _ => ⟨fun z => absurd rfl z, fun _ => h1 (fun z => q4 z.2.2) _⟩)
  · refine g_readText hK5 (fun hs τ hτ => ?_) (fun hs τ _ => ?_)
    · intro _
      refine ⟨fun _ => ⟨fun z => absurd q4 z, fun _ => ⟨vp3 q q2 (by decide), fun x51 e51 => ⟨vp3 q q2 (by decide), fun z => absurd q4 z, fun _ => ⟨vp3 q q2 (by decide), fun σ59 e59 => ⟨fun _ => ⟨fun _ => ?_, fun _ => ?_⟩, fun z => absurd z hs⟩⟩⟩⟩⟩, fun z => absurd z (by decide)⟩
      all_goals
        rw [hτ] at e51
        subst e51
      · exact g_store (N := 21) rfl (by decide) (by decide) (by decide) (by decide) (h3 q q2 q4 hs)
      · exact g_store (N := 33) rfl (by decide) (by decide) (by decide) (by decide) (h3 q q2 q4 hs)
    · intro _
      exact ⟨fun z => absurd rfl z, fun _ => h2 q q2 q4 hs _⟩
  · rw [hM5] at z
    exact absurd z (by decide)
