/-! both tell the same: State S of the one, image i of the other -/
def lvo (o : Nat) (f : Nat → Int) (s : Nat) : Prop := (o = 0 → LV (f 0) (f 1) 0 s) ∧ (o ≠ 0 → s = 0 ∨ (((s - 1) / 2 : Nat) : Int) < f 0)
def rgo (o s : Nat) (v : Int) : Prop := (o = 0 → rlo s ≤ v ∧ v ≤ rhi 0 s) ∧ (o ≠ 0 → rlo (300 + s) ≤ v ∧ v ≤ rhi (o : Int) (300 + s))
/-- a LINE: two POSTS at least; RIDERS get off behind where they get on, at a POST that is there -/
def rlx (f : Nat → Int) : Prop := 2 ≤ f 0 ∧ ∀ r : Nat, r < 6 → (r : Int) < f 1 → f (87 + 6 * r) < f (87 + 6 * r + 1) ∧ f (87 + 6 * r + 1) < f 0
theorem rlx_cg {f g : Nat → Int} (h : ∀ s, s < 123 → f s = g s) (k : rlx g) : rlx f := by
  refine ⟨by rw [h 0 (by omega)]; exact k.1, fun r hr hv => ?_⟩
  rw [h 1 (by omega)] at hv
  rw [h _ (by omega), h _ (by omega), h 0 (by omega)]
  exact k.2 r hr hv
def LX (S i : Nat) (σ : zSto) : Prop :=
  ti (σ.1 S 5) = ti (σ.1 225 i) ∧
  (∀ j : Nat, (j : Int) < ti (σ.1 S 5) → ti (σ.1 (S + 1) j) = ti (σ.1 224 (600 * i + j))) ∧
  ti (σ.1 S 6) = ti (σ.1 226 i) ∧ ti (σ.1 S 7) = ti (σ.1 227 i) ∧
  (∀ o, o < 3 → ti (σ.1 (S + 41) o) = ti (σ.1 228 (3 * i + o))) ∧
  (∀ (o l s : Nat), o < 3 → l < 2 → (l : Int) < ti (σ.1 (S + 41) o) → s < wdo o → lvo o (cv σ S o l) s → cv σ S o l s = rv σ i o l s ∧ rgo o s (cv σ S o l s)) ∧
  (∀ l : Nat, l < 2 → (l : Int) < ti (σ.1 (S + 41) 0) → rlx (cv σ S 0 l))
theorem wdo_2 (o : Nat) : 2 ≤ wdo o := by
  unfold wdo
  split
  · omega
  · split <;> omega
theorem LX_tr {σ σ' : zSto} {S S' i i' : Nat} (h : LX S i σ) (hb : ti (σ.1 S 5) ≤ 600) (c0 : ∀ j, (j = 5 ∨ j = 6 ∨ j = 7) → σ'.1 S' j = σ.1 S j) (c1 : ∀ j, j < 600 → σ'.1 (S' + 1) j = σ.1 (S + 1) j) (c41 : ∀ j, j < 3 → σ'.1 (S' + 41) j = σ.1 (S + 41) j) (cc : ∀ o l s, o < 3 → l < 2 → s < wdo o → cv σ' S' o l s = cv σ S o l s) (r4 : ∀ j, j < 600 → σ'.1 224 (600 * i' + j) = σ.1 224 (600 * i + j)) (r5 : σ'.1 225 i' = σ.1 225 i) (r6 : σ'.1 226 i' = σ.1 226 i) (r7 : σ'.1 227 i' = σ.1 227 i) (r8 : ∀ o, o < 3 → σ'.1 228 (3 * i' + o) = σ.1 228 (3 * i + o)) (rr : ∀ o l s, o < 3 → l < 2 → s < wdo o → rv σ' i' o l s = rv σ i o l s) : LX S' i' σ' := by
  obtain ⟨h1, h2, h3, h4, h5, h6, h7⟩ := h
  refine ⟨?_, fun j hj => ?_, ?_, ?_, fun o ho => ?_, fun o l s ho hl hc hs hv => ?_, fun l hl hc => rlx_cg (fun s hs => cc 0 l s (by omega) hl hs) (h7 l hl (by rw [c41 0 (by omega)] at hc; exact hc))⟩
  · rw [c0 5 (by omega), r5]; exact h1
  · rw [c0 5 (by omega)] at hj
    rw [c1 j (by omega), r4 j (by omega)]; exact h2 j hj
  · rw [c0 6 (by omega), r6]; exact h3
  · rw [c0 7 (by omega), r7]; exact h4
  · rw [c41 o ho, r8 o ho]; exact h5 o ho
  · rw [c41 o ho] at hc
    have w := wdo_2 o
    rw [cc o l s ho hl hs, rr o l s ho hl hs]
    refine h6 o l s ho hl hc hs ⟨fun z => ?_, fun z => ?_⟩
    · have y := hv.1 z
      rw [cc o l 0 ho hl (by omega), cc o l 1 ho hl (by omega)] at y
      exact y
    · have y := hv.2 z
      rw [cc o l 0 ho hl (by omega)] at y
      exact y
def AR2 : Nat → Nat → Prop := fun k _ => k < 223 ∨ (224 ≤ k ∧ k ≤ 231) ∨ k = 249
theorem ar2_r : okR AR2 := fun k j a q => by unfold AR2 at a; omega
theorem ar2_h : okH AR2 := fun j q a => by unfold AR2 at a; omega
def Lz (σ : zSto) : Prop := zInv zA0 zF0 3 σ ∧ LX 1 0 σ ∧ (∀ k : Nat, k < 3 → ¬ σ.1 170 k = 0 → LX (44 + 42 * k) (k + 1) σ) ∧ (∀ k : Nat, k < 3 → (σ.1 170 k = 0 ↔ σ.1 249 k = 0))
theorem l600' {σ : zSto} (I : zInv zA0 zF0 3 σ) {S : Nat} (h : kd S = 5) : 0 ≤ ti (σ.1 S 5) ∧ ti (σ.1 S 5) ≤ 600 := rdg I.1 h rfl rfl
theorem kd_st {k : Nat} (h : k < 3) : kd (44 + 42 * k) = 5 := by
  rcases (show k = 0 ∨ k = 1 ∨ k = 2 by omega) with e | e | e <;> subst e <;> decide
/-- nothing that State S and image i tell has changed -/
theorem LX_fr {σ σ2 : zSto} {S i : Nat} (h : LX S i σ) (hb : ti (σ.1 S 5) ≤ 600) (hc : ∀ k j, S ≤ k → k < S + 42 → σ2.1 k j = σ.1 k j) (hr : ∀ k j, 224 ≤ k → k ≤ 231 → σ2.1 k j = σ.1 k j) : LX S i σ2 :=
  LX_tr h hb (fun j _ => hc S j (by omega) (by omega)) (fun j _ => hc _ j (by omega) (by omega)) (fun j _ => hc _ j (by omega) (by omega)) (fun o l s _ hl hs => cv_q hl hs (fun k j a b => hc k j (by omega) (by omega))) (fun j _ => hr _ _ (by omega) (by omega)) (hr _ _ (by omega) (by omega)) (hr _ _ (by omega) (by omega)) (hr _ _ (by omega) (by omega)) (fun o _ => hr _ _ (by omega) (by omega)) (fun o l s _ _ _ => rv_q (fun k j a b => hr k j (by omega) (by omega)))
theorem Lz_of {σ σ2 : zSto} (H : Lz σ) (I : zInv zA0 zF0 3 σ2) (h : ∀ k j, (k < 171 ∨ (224 ≤ k ∧ k ≤ 231) ∨ k = 249) → σ2.1 k j = σ.1 k j) : Lz σ2 := by
  obtain ⟨I0, q1, q2, q3⟩ := H
  refine ⟨I, LX_fr q1 (l600' I0 kd_1).2 (fun k j a b => h k j (by omega)) (fun k j a b => h k j (by omega)), fun k hk z => LX_fr (q2 k hk (by rw [← h 170 k (by omega)]; exact z)) (l600' I0 (kd_st hk)).2 (fun q j a b => h q j (by omega)) (fun k j a b => h k j (by omega)), fun k hk => ?_⟩
  rw [h 170 k (by omega), h 249 k (by omega)]
  exact q3 k hk
theorem Lz_C {σ σ2 : zSto} (H : Lz σ) (I : zInv AC σ.1 3 σ2) : Lz σ2 := Lz_of H (inv_none I) (fun k j hk => I.2.1 k j (by unfold AC; omega))
theorem Lz_R {σ σ2 : zSto} (H : Lz σ) (I : zInv AR2 σ.1 3 σ2) : Lz σ2 := Lz_of H (inv_none I) (fun k j hk => I.2.1 k j (by unfold AR2; omega))
theorem Lz_0 : Lz σ0 := by
  have e1 : σ0.1 1 7 = -1 := by simp [σ0]
  have e2 : σ0.1 227 0 = -1 := by simp [σ0]
  refine ⟨Lw_0.1, ⟨?_, fun j hj => ?_, ?_, ?_, fun o ho => ?_, fun o l s ho hl hc => ?_, fun l hl hc => ?_⟩, fun k hk z => ?_, Lw_0.2.2.2⟩
  · rw [σ0_z (by omega), σ0_z (by omega)]
  · rw [σ0_z (by omega)] at hj
    omega
  · rw [σ0_z (by omega), σ0_z (by omega)]
  · rw [e1, e2]
  · rw [σ0_z (by omega), σ0_z (by omega)]
  · rw [σ0_z (by omega)] at hc
    omega
  · rw [σ0_z (by omega)] at hc
    omega
  · exact absurd (congrFun (σ0_row (k := 170) (by decide)) k) z
