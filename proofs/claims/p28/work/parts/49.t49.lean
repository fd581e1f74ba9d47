theorem srt_0 {k : Int} : srt k = 0 ↔ k = 0 := by
  unfold srt
  split
  · omega
  · split
    · omega
    · split
      · omega
      · split <;> omega
theorem srt_2 {k : Int} : srt k = 2 ↔ k = 1 := by
  unfold srt
  split
  · omega
  · split
    · omega
    · split
      · omega
      · split <;> omega
theorem srt_4 {k : Int} : srt k = 4 ↔ k = 3 := by
  unfold srt
  split
  · omega
  · split
    · omega
    · split
      · omega
      · split <;> omega
def tlQ (x_1 : Int32) (P : Int32 → zSto → Prop) (n : Nat) : Int32 → zSto → Prop := fun (r3 : Int32) (σ2 : zSto) => (r3 = 0 ∨ r3 = 1) → ((r3 = 0 → ((r3 = 0 → w_X10_textLines_2 x_1 P n r3 σ2) ∧ (¬ r3 = 0 → (w_X10_token  σ2 (fun (σ4 : zSto) => w_X10_textLines_2 x_1 P n r3 σ4))))) ∧ (¬ r3 = 0 → (((σ2.1 223 12) = (4 : Int32) → ((r3 = 0 → w_X10_textLines_2 x_1 P n r3 σ2) ∧ (¬ r3 = 0 → (w_X10_token  σ2 (fun (σ5 : zSto) => w_X10_textLines_2 x_1 P n r3 σ5))))) ∧ (¬ (σ2.1 223 12) = (4 : Int32) → (w_X10_fails  σ2 (fun (r7 : Int32) (σ6 : zSto) => (r7 = 0 ∨ r7 = 1) → ((r7 = 0 → w_X10_textLines_2 x_1 P n r7 σ6) ∧ (¬ r7 = 0 → (w_X10_token  σ6 (fun (σ8 : zSto) => w_X10_textLines_2 x_1 P n r7 σ8))))))))))
theorem f_X10_textLines_2 {B : Nat → Int} {n : Nat} (hn6 : n ≤ 600) (x_1 : Int32) {o : Int} (ho : ti x_1 = o) (ho2 : o = 0 ∨ o = 1 ∨ o = 2) (fin : Nat → Int) {P : Int32 → zSto → Prop} (hY : ∀ σ2 b p, RC B n o fin b (fin 202) σ2 → TKs B n p σ2 → tkK B n p = 0 → b ≤ (tkF B n p : Nat) → p ≤ n → P 1 σ2) (hN : ∀ σ2 st2 (q : Nat), fin = fl st2 q → zRg σ2 → ti (σ2.1 223 15) = (q : Int) → P 0 σ2) : ∀ (k f p : Nat) (st : Nat → Int) (b : Int) (σ : zSto), n < p + f → p ≤ n → n - p + 1 < k → b ≤ (tkF B n p : Nat) → RC B n o st b (st 202) σ → TKr B n p σ → RD o B n f p st = fin → w_X10_textLines_2 x_1 P k (1 : Int32) σ := by
  have l0 := lit_0
  have l1 := lit_1
  have l2 := lit_2
  have l4 := lit_4
  intro k
  induction k with
  | zero => intro f p st b σ _ _ h; omega
  | succ k ih =>
    intro f p st b σ hf hp hk hb C T hD
    obtain ⟨f', rfl⟩ : ∃ f', f = f' + 1 := ⟨f - 1, by omega⟩
    rw [RD_1] at hD
    refine ⟨fun q => absurd q (by decide), fun _ => ⟨fun q => ?_, fun q => ?_⟩⟩
    · have k0 : tkK B n p = 0 := srt_0.mp (by have := eq_t q; have := T.1.2.2.1; omega)
      rw [if_pos k0] at hD
      subst hD
      exact ⟨Or.inr rfl, hY σ b p C T.1 k0 hb hp⟩
    have k0 : tkK B n p ≠ 0 := fun z => by
      have := ne_t q
      have := T.1.2.2.1
      rw [srt_0.mpr z] at this
      omega
    rw [if_neg k0] at hD
    have hE := tkE_gt k0
    have hF := tkF_ge B n p
    have hEn := tkE_le (B := B) hp
    intro x1 ex1
    have h2 : ti x1 = (tkF B n p : Nat) := by rw [ex1]; exact T.1.1
    -- what is behind a row
    have t0 : ∀ σ2 st2 (q : Nat), fin = fl st2 q → zRg σ2 → ti (σ2.1 223 15) = (q : Int) → w_X10_textLines_2 x_1 P k (0 : Int32) σ2 := by
      intro σ2 st2 q hq I2 e2
      obtain ⟨k', rfl⟩ : ∃ k', k = k' + 1 := ⟨k - 1, by omega⟩
      exact ⟨fun _ => ⟨Or.inl rfl, hN σ2 st2 q hq I2 e2⟩, fun c => absurd rfl c⟩
    have q0 : ∀ σ2 st2 (q : Nat), fin = fl st2 q → zRg σ2 → ti (σ2.1 223 15) = (q : Int) → tlQ x_1 P k 0 σ2 := by
      intro σ2 st2 q hq I2 e2 _
      exact ⟨fun _ => ⟨fun _ => t0 σ2 st2 q hq I2 e2, fun c => absurd rfl c⟩, fun c => absurd rfl c⟩
    have key : ∀ a1 : Int64, wcd o (tl a1) = wcN o B n p → (wcd o (tl a1) = -1 → ∀ σ2, zRg σ2 → ti (σ2.1 223 15) = (tkF B n p : Nat) → tlQ x_1 P k 0 σ2) ∧ (wcd o (tl a1) ≠ -1 → RW B n o (hmN (wcd o (tl a1))) (tkE B n p) (ap (wcd o (tl a1)) st (vlN B n (tkE B n p)) (plN B n (tkE B n p)) (tkF B n p : Nat)) (tlQ x_1 P k)) := by
      intro a1 hw
      rw [hw]
      refine ⟨fun c σ2 I2 e2 => ?_, fun c => ?_⟩
      · rw [if_pos c] at hD
        exact q0 σ2 st _ hD.symm I2 e2
      · rw [if_neg c] at hD
        have rge := rbN_ge (B := B) (n := n) (hmN (wcN o B n p)) (tkE B n p)
        have rle := rbN_le (B := B) (n := n) (hmN (wcN o B n p)) (tkE B n p) hEn
        refine ⟨fun ca σ2 C2 T2 => ?_, fun ca σ2 I2 e2 => ?_⟩
        · intro _
          refine ⟨fun z => absurd z (by decide), fun _ => ⟨fun z => ⟨fun z2 => absurd z2 (by decide), fun _ => ?_⟩, fun z => ?_⟩⟩
          · have k3 : tkK B n (rbN B n (hmN (wcN o B n p)) (tkE B n p)) = 3 := srt_4.mp (by have := eq_t z; have := T2.2.2.1; omega)
            rw [if_pos ⟨ca, k3⟩] at hD
            have hE2 := tkE_gt (B := B) (n := n) (p := rbN B n (hmN (wcN o B n p)) (tkE B n p)) (by omega)
            have hF2 := tkF_ge B n (rbN B n (hmN (wcN o B n p)) (tkE B n p))
            have hF3 := tkF_ge B n (tkE B n (rbN B n (hmN (wcN o B n p)) (tkE B n p)))
            have hE3 := tkE_le (B := B) (n := n) rle
            exact f_tok C2 (p := tkE B n (rbN B n (hmN (wcN o B n p)) (tkE B n p))) T2.2.1 (fun σ5 C5 T5 _ => ih f' _ _ _ σ5 (by omega) hE3 (by omega) (by omega) C5 T5 hD)
          · have k3 : tkK B n (rbN B n (hmN (wcN o B n p)) (tkE B n p)) ≠ 3 := fun z3 => by
              have := ne_t z
              have := T2.2.2.1
              rw [srt_4.mpr z3] at this
              omega
            rw [if_neg (fun z => k3 z.2)] at hD
            exact f_fails C2.1 T2 (fun σ6 I6 e6 => fun _ => ⟨fun _ => t0 σ6 st _ hD.symm I6 e6, fun c => absurd rfl c⟩)
        · rw [if_neg (fun z => ca z.1)] at hD
          exact q0 σ2 st _ hD.symm I2 e2
    have ll : ∀ a1 : Int64, wcd o (tl a1) = wcN o B n p → (x_1 = 0 → w_X10_lineLine a1 x1 σ (tlQ x_1 P k)) ∧ (¬ x_1 = 0 → (x_1 = (1 : Int32) → w_X10_planLine a1 x1 σ (tlQ x_1 P k)) ∧ (¬ x_1 = (1 : Int32) → w_X10_logLine a1 x1 σ (tlQ x_1 P k))) := by
      intro a1 hw
      have hk2 := key a1 hw
      refine ⟨fun z => ?_, fun z => ⟨fun z2 => ?_, fun z2 => ?_⟩⟩
      · have e : o = 0 := by have := eq_t z; omega
        rw [e] at hk2 C
        exact f_lineLine C T.1 hb hE x1 h2 a1 hk2.1 hk2.2
      · have e : o = 1 := by have := eq_t z2; omega
        rw [e] at hk2 C
        exact f_planLine C T.1 hb hE a1 x1 h2 hk2.1 hk2.2
      · have e : o = 2 := by have := ne_t z; have := ne_t z2; omega
        rw [e] at hk2 C
        exact f_logLine C T.1 hb hE a1 x1 h2 hk2.1 hk2.2
    refine ⟨fun z => ?_, fun z x23 e23 => ?_⟩
    · have k1 : tkK B n p ≠ 1 := fun c => by
        have := ne_t z
        have := T.1.2.2.1
        rw [srt_2.mpr c] at this
        omega
      have := ll (0 : Int64) (by
        unfold wcN
        rw [if_neg k1, tl_0]
        rcases ho2 with h | h | h <;> subst h <;> decide)
      exact ⟨fun a => ⟨fun b => (this.2 a).2 b, fun b => (this.2 a).1 b⟩, fun a => this.1 a⟩
    · have k1 : tkK B n p = 1 := srt_2.mp (by have := eq_t z; have := T.1.2.2.1; omega)
      have := ll x23 (by
        unfold wcN
        rw [if_pos k1, e23, T.2 k1])
      exact ⟨fun a => ⟨fun b => (this.2 a).2 b, fun b => (this.2 a).1 b⟩, fun a => this.1 a⟩
