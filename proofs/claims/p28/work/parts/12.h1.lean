theorem zTold_of' {w : Nat} {σ σ' : zSto} (h : ∀ k j, rl k j = true → 223 ≤ k → σ'.1 k j = σ.1 k j) (R : zTold w σ) : zTold w σ' := by
  obtain ⟨R1, R2, R3⟩ := R
  refine ⟨fun q => ?_, fun q => ?_, fun q => ?_⟩
  · rw [h 232 0 (rl_232 0) (by decide), h 232 1 (rl_232 1) (by decide), h 223 16 (by decide) (by decide)]
    refine ⟨(R1 q).1, fun q2 => ⟨fun j hj => ?_, fun p hp => ?_⟩⟩
    · rw [h 232 j (rl_232 j) (by decide)]
      exact ((R1 q).2 q2).1 j hj
    · rw [h 234 p (rl_234 p) (by decide)]
      exact ((R1 q).2 q2).2 p hp
  · rw [h 232 0 (rl_232 0) (by decide)]
    exact R2 q
  · rw [h 232 0 (rl_232 0) (by decide)]
    exact R3 q
theorem wIx {A : Nat → Nat → Prop} {F : Nat → Nat → Int32} {w : Nat} {σ : zSto} {k j : Nat} {v : Int32} (I : zInv A F w σ) (hA : ¬ A k j) (h : lo (kd k) j ≤ ti v ∧ ti v ≤ hi (kd k) j) (hz : zRel w (zI σ k j v)) : zInv A F w (zI σ k j v) := by
  refine ⟨fun k' j' => ?_, fun k' j' hk' => ?_, hz⟩
  · by_cases e : k' = k ∧ j' = j
    · obtain ⟨e1, e2⟩ := e
      subst e1
      subst e2
      rw [zI_s]
      exact h
    · rw [zI_q (by omega)]
      exact I.1 k' j'
  · rw [zI_q (by by_cases e : k' = k; exact Or.inr (fun e2 => hA (by rw [← e, ← e2]; exact hk')); exact Or.inl e)]
    exact I.2.1 k' j' hk'
theorem zRel_3 {w : Nat} {σ σ' : zSto} (h : ∀ k j, rl k j = true → k ≠ 171 → k ≠ 172 → k ≠ 179 → σ'.1 k j = σ.1 k j) (R : zRel w σ) (h3 : w < 4 → ti (σ'.1 171 11) = 0 → ∀ r : Nat, (r : Int) < ti (σ'.1 172 12) → ti (σ'.1 179 r) ≤ 15) : zRel w σ' := by
  obtain ⟨R1, R2, R3, R4, R5⟩ := R
  refine ⟨fun S hS l hl q => ?_, fun t ht r q => ?_, h3, fun i l hi hl q => ?_, zTold_of' (fun k j a b => h k j a (by omega) (by omega) (by omega)) R5⟩
  · rw [h _ _ (rl_a hS) (by rcases hS with e | e | e | e <;> omega) (by rcases hS with e | e | e | e <;> omega) (by rcases hS with e | e | e | e <;> omega)] at q
    rw [h _ _ (rl_b hS hl) (by rcases hS with e | e | e | e <;> omega) (by rcases hS with e | e | e | e <;> omega) (by rcases hS with e | e | e | e <;> omega)]
    exact R1 S hS l hl q
  · rw [h _ _ (rl_c ht) (by unfold isS at ht; omega) (by unfold isS at ht; omega) (by unfold isS at ht; omega)] at q
    rw [h _ _ (rl_d ht r) (by unfold isS at ht; omega) (by unfold isS at ht; omega) (by unfold isS at ht; omega)]
    exact R2 t ht r q
  · rw [h 228 (3 * i) (by rw [rl_228]; exact decide_eq_true (by omega)) (by decide) (by decide) (by decide)] at q
    rw [h 229 (123 * (2 * i + l)) (by rw [rl_229]; exact decide_eq_true (by omega)) (by decide) (by decide) (by decide)]
    exact R4 i l hi hl q
theorem inv172_12 {A : Nat → Nat → Prop} {F : Nat → Nat → Int32} {w : Nat} {σ : zSto} {v : Int32} (I : zInv A F w σ) (hA : ¬ A 172 12) (hv : v = 0) : zInv A F w (zI σ 172 12 v) := by
  subst hv
  refine wIx I hA (by rw [z0_t]; decide) (zRel_3 (fun k j _ _ h2 _ => zI_q (Or.inl h2)) I.2.2 (fun _ _ r q => ?_))
  rw [zI_s] at q
  have := z0_t
  omega
/-- the FAULT of the reader, once it is one -/
theorem inv171_11 {A : Nat → Nat → Prop} {F : Nat → Nat → Int32} {w : Nat} {σ : zSto} {v : Int32} (I : zInv A F w σ) (hA : ¬ A 171 11) (hv : ti v ≠ 0) : zInv A F w (zI σ 171 11 v) := by
  refine wIx I hA (full32 v) (zRel_3 (fun k j _ h2 _ _ => zI_q (Or.inl h2)) I.2.2 (fun _ q r q2 => ?_))
  rw [zI_s] at q
  omega
theorem wR {A : Nat → Nat → Prop} {F : Nat → Nat → Int32} {w : Nat} {σ : zSto} {k : Nat} {f : Nat → Int32} (I : zInv A F w σ) (hA : ∀ j, ¬ A k j) (hr : rk k = 0) (h : ∀ j, lo (kd k) j ≤ ti (f j) ∧ ti (f j) ≤ hi (kd k) j) : zInv A F w (zR σ k f) := by
  refine ⟨fun k' j' => ?_, fun k' j' a => ?_, zRel_of (fun k' j' q => ?_) I.2.2⟩
  · by_cases e : k' = k
    · subst e; rw [zR_s]; exact h j'
    · rw [zR_k e]; exact I.1 k' j'
  · rw [zR_k (fun (e : k' = k) => hA j' (by rw [← e]; exact a))]
    exact I.2.1 k' j' a
  · rw [zR_k (fun (e : k' = k) => by rw [e, rl0 hr] at q; cases q)]
/-- between FAULT 0 and the cleared line the reader's promise is not asked for -/
theorem inv_34 {A : Nat → Nat → Prop} {F : Nat → Nat → Int32} {σ : zSto} (I : zInv A F 3 σ) : zInv A F 4 σ := ⟨I.1, I.2.1, I.2.2.1, I.2.2.2.1, fun h => absurd h (by decide), I.2.2.2.2.2.1, ⟨fun h => absurd h (by decide), fun h => absurd h (by decide), fun h => absurd h (by decide)⟩⟩
theorem inv_43 {A : Nat → Nat → Prop} {F : Nat → Nat → Int32} {σ : zSto} (I : zInv A F 4 σ) (h : ti (σ.1 172 12) = 0) : zInv A F 3 σ := ⟨I.1, I.2.1, I.2.2.1, I.2.2.2.1, fun _ _ r q => by omega, I.2.2.2.2.2.1, ⟨fun h => absurd h (by decide), fun h => absurd h (by decide), fun h => absurd h (by decide)⟩⟩
theorem inv4_171 {A : Nat → Nat → Prop} {F : Nat → Nat → Int32} {σ : zSto} {v : Int32} (I : zInv A F 4 σ) (hA : ¬ A 171 11) : zInv A F 4 (zI σ 171 11 v) := wIx I hA (full32 v) (zRel_3 (fun k j _ h2 _ _ => zI_q (Or.inl h2)) I.2.2 (fun h => absurd h (by decide)))
