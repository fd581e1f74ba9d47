set_option maxHeartbeats 4000000 in
theorem s_X10_planLine {A : Nat → Nat → Prop} {F : Nat → Nat → Int32} (pr : okR A) (b : Int) (a1 : Int64) (a2 : Int32) {σ : zSto} (I : zInv A F 1 σ) (hb : b ≤ ti (σ.1 223 9)) {P : Int32 → zSto → Prop} (hP : ∀ r σ2, zInv A F 1 σ2 → (¬ r = 0 → b ≤ ti (σ2.1 223 9) ∧ (ti (σ2.1 223 12) = 4 → b < ti (σ2.1 223 9))) → P r σ2) : w_X10_planLine a1 a2 σ P := by
  unfold w_X10_planLine
  have l0 := lit_0
  have l1 := lit_1
  have l2 := lit_2
  have l16 := lit_16
  refine ⟨fun q0 => ?_, fun q0 => ?_⟩
  · refine s_X10_full (okR_J pr) (0 : Int32) (16 : Int32) a2 (by omega) I (fun σ1 I1 y1 => ?_)
    refine s_X10_token (okR_K pr) b I1 (by omega) (fun σ2 I2 y2 _ => ?_)
    refine t_take pr b 0 (0 : Int32) _ _ l0 (by decide) I2 y2 (fun r4 σ3 I3 z3 => ?_)
    intro b3
    refine ⟨fun q => hP _ σ3 I3 (fun h => absurd rfl h), fun q => ?_⟩
    obtain ⟨y3, -, -, -⟩ := z3 q
    refine t_take pr b 1 (1 : Int32) _ _ l1 (by decide) I3 y3 (fun r6 σ5 I5 z5 => ?_)
    intro b5
    refine ⟨fun q => ?_, fun q => hP _ σ5 I5 (fun h => absurd rfl h)⟩
    obtain ⟨y5, s5, -, -⟩ := z5 q
    have T := I5.2.2.2.2.2.2.2.1 rfl
    refine f_keep 0 1 2 16 2 _ _ _ _ _ l0 l1 l2 l16 l2 (by decide) (by decide) (by decide) T (by decide) (by decide) (by decide) (hP _ σ5 I5 (fun _ => ⟨y5, s5⟩)) (fun k hk hk2 σ7 h7 => ?_)
    have m : ∀ q j, q ≠ 232 → σ7.1 q j = σ5.1 q j := fun q j hq => by rw [h7 q j, if_neg (by omega), if_neg (by omega)]
    refine hP _ σ7 (inv_232 I5 (by decide) (fun j => pR pr (by decide)) m ⟨fun z => absurd z (by decide), fun _ => ?_, fun z => absurd z (by decide)⟩) (fun _ => by rw [m 223 9 (by decide), m 223 12 (by decide)]; exact ⟨y5, s5⟩)
    have t1 := tadd (x := σ5.1 232 0) (y := (1 : Int32)) (by omega)
    rw [h7 232 0, if_pos ⟨rfl, rfl⟩]
    omega
  · refine s_X10_fails pr I (fun r9 σ8 I8 z8 => ?_)
    intro b8
    exact ⟨b8, hP _ σ8 I8 (fun h => by have := z8 h; omega)⟩
set_option maxHeartbeats 4000000 in
theorem s_X10_logLine {A : Nat → Nat → Prop} {F : Nat → Nat → Int32} (pr : okR A) (b : Int) (a1 : Int64) (a2 : Int32) {σ : zSto} (I : zInv A F 2 σ) (hb : b ≤ ti (σ.1 223 9)) {P : Int32 → zSto → Prop} (hP : ∀ r σ2, zInv A F 2 σ2 → (¬ r = 0 → b ≤ ti (σ2.1 223 9) ∧ (ti (σ2.1 223 12) = 4 → b < ti (σ2.1 223 9))) → P r σ2) : w_X10_logLine a1 a2 σ P := by
  unfold w_X10_logLine
  have l0 := lit_0
  have l1 := lit_1
  have l2 := lit_2
  have l10 := lit_10
  refine ⟨fun q0 => ?_, fun q0 => ?_⟩
  · refine s_X10_full (okR_J pr) (0 : Int32) (10 : Int32) a2 (by omega) I (fun σ1 I1 y1 => ?_)
    refine s_X10_token (okR_K pr) b I1 (by omega) (fun σ2 I2 y2 _ => ?_)
    refine t_take pr b 0 (0 : Int32) _ _ l0 (by decide) I2 y2 (fun r4 σ3 I3 z3 => ?_)
    intro b3
    refine ⟨fun q => hP _ σ3 I3 (fun h => absurd rfl h), fun q => ?_⟩
    obtain ⟨y3, -, -, -⟩ := z3 q
    refine t_take pr b 1 (1 : Int32) _ _ l1 (by decide) I3 y3 (fun r6 σ5 I5 z5 => ?_)
    intro b5
    refine ⟨fun q => ?_, fun q => hP _ σ5 I5 (fun h => absurd rfl h)⟩
    obtain ⟨y5, s5, -, -⟩ := z5 q
    have T := I5.2.2.2.2.2.2.2.2 rfl
    refine f_keep 0 1 2 10 2 _ _ _ _ _ l0 l1 l2 l10 l2 (by decide) (by decide) (by decide) T (by decide) (by decide) (by decide) (hP _ σ5 I5 (fun _ => ⟨y5, s5⟩)) (fun k hk hk2 σ7 h7 => ?_)
    have m : ∀ q j, q ≠ 232 → σ7.1 q j = σ5.1 q j := fun q j hq => by rw [h7 q j, if_neg (by omega), if_neg (by omega)]
    refine hP _ σ7 (inv_232 I5 (by decide) (fun j => pR pr (by decide)) m ⟨fun z => absurd z (by decide), fun z => absurd z (by decide), fun _ => ?_⟩) (fun _ => by rw [m 223 9 (by decide), m 223 12 (by decide)]; exact ⟨y5, s5⟩)
    have t1 := tadd (x := σ5.1 232 0) (y := (1 : Int32)) (by omega)
    rw [h7 232 0, if_pos ⟨rfl, rfl⟩]
    omega
  · refine s_X10_fails pr I (fun r9 σ8 I8 z8 => ?_)
    intro b8
    exact ⟨b8, hP _ σ8 I8 (fun h => by have := z8 h; omega)⟩
/-- behind a line of text -/
def tlT (W : Int32 → zSto → Prop) (r : Int32) (σ : zSto) : Prop := ((r = 0 → ((r = 0 → W r σ) ∧ (¬ r = 0 → (w_X10_token σ (fun (σ4 : zSto) => W r σ4))))) ∧ (¬ r = 0 → (((σ.1 223 12) = (4 : Int32) → ((r = 0 → W r σ) ∧ (¬ r = 0 → (w_X10_token σ (fun (σ5 : zSto) => W r σ5))))) ∧ (¬ (σ.1 223 12) = (4 : Int32) → (w_X10_fails σ (fun (r7 : Int32) (σ6 : zSto) => (r7 = 0 ∨ r7 = 1) → ((r7 = 0 → W r7 σ6) ∧ (¬ r7 = 0 → (w_X10_token σ6 (fun (σ8 : zSto) => W r7 σ8))))))))))
theorem tl_ok {A : Nat → Nat → Prop} {F : Nat → Nat → Int32} {w : Nat} (pr : okR A) {b : Int} {W : Int32 → zSto → Prop} (hW : ∀ r σ, zInv A F w σ → (r = 0 ∨ r = 1) → (¬ r = 0 → b < ti (σ.1 223 9)) → W r σ) (r : Int32) (σ : zSto) (I : zInv A F w σ) (hr : r = 0 ∨ r = 1) (h : ¬ r = 0 → b ≤ ti (σ.1 223 9) ∧ (ti (σ.1 223 12) = 4 → b < ti (σ.1 223 9))) : tlT W r σ := by
  unfold tlT
  have l4 := lit_4
  refine ⟨fun q => ⟨fun _ => hW r σ I hr (fun h2 => absurd q h2), fun h2 => absurd q h2⟩, fun q => ⟨fun q2 => ⟨fun h2 => absurd h2 q, fun _ => ?_⟩, fun q2 => ?_⟩⟩
  · have c := eq_t q2
    have h3 := (h q).2 (by omega)
    refine s_X10_token (okR_K pr) (b + 1) I (by omega) (fun σ5 I5 y1 _ => hW r σ5 I5 hr (fun _ => by omega))
  · refine s_X10_fails pr I (fun r7 σ6 I6 z => ?_)
    intro b7
    exact ⟨fun h2 => hW r7 σ6 I6 b7 (fun h3 => absurd h2 h3), fun h2 => by have := z h2; omega⟩
set_option maxHeartbeats 4000000 in
theorem s_X10_textLines_2 {A : Nat → Nat → Prop} {F : Nat → Nat → Int32} {w : Nat} (pr : okR A) (x_1 : Int32) (hw : ti x_1 = (w : Int)) (hw2 : w ≤ 2) {P : Int32 → zSto → Prop} (hP : ∀ r σ2, zInv A F w σ2 → P r σ2) : ∀ (n : Nat) (x_2 : Int32) (σ : zSto), zInv A F w σ → (x_2 = 0 ∨ x_2 = 1) → 1 ≤ n → (¬ x_2 = 0 → 601 - ti (σ.1 223 9) < n) → w_X10_textLines_2 x_1 P n x_2 σ := by
  have l0 := lit_0
  have l1 := lit_1
  intro n
  induction n with
  | zero => intro x_2 σ I h hn hm; exfalso; omega
  | succ n ih =>
    intro x_2 σ I h hn hm
    unfold w_X10_textLines_2
    refine ⟨fun q => ⟨h, hP _ σ I⟩, fun q => ⟨fun q2 => ⟨h, hP _ σ I⟩, fun q2 => ?_⟩⟩
    have hm' := hm q
    have d9 : 0 ≤ ti (σ.1 223 9) ∧ ti (σ.1 223 9) ≤ 600 := rdr I kd_223 rfl rfl
    have st : ∀ r σ2, zInv A F w σ2 → (¬ r = 0 → ti (σ.1 223 9) ≤ ti (σ2.1 223 9) ∧ (ti (σ2.1 223 12) = 4 → ti (σ.1 223 9) < ti (σ2.1 223 9))) → (r = 0 ∨ r = 1) → tlT (fun r σ => w_X10_textLines_2 x_1 P n r σ) r σ2 := by
      intro r σ2 I2 z hr
      refine tl_ok pr (b := ti (σ.1 223 9)) (fun r' σ' I' hr' h' => ih r' σ' I' hr' (by omega) (fun h2 => ?_)) r σ2 I2 hr z
      have := h' h2
      omega
    intro x1 e1
    refine ⟨fun q3 => ⟨fun q4 => ⟨fun q5 => ?_, fun q5 => ?_⟩, fun q4 => ?_⟩, fun q3 x23 e23 => ⟨fun q4 => ⟨fun q5 => ?_, fun q5 => ?_⟩, fun q4 => ?_⟩⟩
    · have c4 := ne_t q4
      have c5 := ne_t q5
      obtain rfl : w = 2 := by omega
      exact s_X10_logLine pr (ti (σ.1 223 9)) _ x1 I (Int.le_refl _) (fun r σ2 I2 z hr => st r σ2 I2 z hr)
    · have c5 := eq_t q5
      obtain rfl : w = 1 := by omega
      exact s_X10_planLine pr (ti (σ.1 223 9)) _ x1 I (Int.le_refl _) (fun r σ2 I2 z hr => st r σ2 I2 z hr)
    · have c4 := eq_t q4
      obtain rfl : w = 0 := by omega
      exact s_X10_lineLine pr (ti (σ.1 223 9)) _ x1 I (Int.le_refl _) (fun r σ2 I2 z hr => st r σ2 I2 z hr)
    · have c4 := ne_t q4
      have c5 := ne_t q5
      obtain rfl : w = 2 := by omega
      exact s_X10_logLine pr (ti (σ.1 223 9)) _ x1 I (Int.le_refl _) (fun r σ2 I2 z hr => st r σ2 I2 z hr)
    · have c5 := eq_t q5
      obtain rfl : w = 1 := by omega
      exact s_X10_planLine pr (ti (σ.1 223 9)) _ x1 I (Int.le_refl _) (fun r σ2 I2 z hr => st r σ2 I2 z hr)
    · have c4 := eq_t q4
      obtain rfl : w = 0 := by omega
      exact s_X10_lineLine pr (ti (σ.1 223 9)) _ x1 I (Int.le_refl _) (fun r σ2 I2 z hr => st r σ2 I2 z hr)
theorem s_X10_textLines {A : Nat → Nat → Prop} {F : Nat → Nat → Int32} {w : Nat} (pr : okR A) (a1 : Int32) (hw : ti a1 = (w : Int)) (hw2 : w ≤ 2) {σ : zSto} (I : zInv A F w σ) {P : Int32 → zSto → Prop} (hP : ∀ r σ2, zInv A F w σ2 → P r σ2) : w_X10_textLines a1 σ P := by
  unfold w_X10_textLines
  have d9 : 0 ≤ ti (σ.1 223 9) ∧ ti (σ.1 223 9) ≤ 600 := rdr I kd_223 rfl rfl
  exact ⟨1000, s_X10_textLines_2 pr a1 hw hw2 hP 1000 (1 : Int32) σ I (Or.inr rfl) (by decide) (fun _ => by omega)⟩
/-- what a text without FAULT has told -/
def Told (w : Nat) (σ : zSto) : Prop := (w = 0 → (∀ j, j < 123 → lo 14 j ≤ ti (σ.1 232 j) ∧ ti (σ.1 232 j) ≤ hi 14 j) ∧ 2 ≤ ti (σ.1 232 0)) ∧ (w = 1 → 0 ≤ ti (σ.1 232 0) ∧ ti (σ.1 232 0) ≤ 16) ∧ (w = 2 → 0 ≤ ti (σ.1 232 0) ∧ ti (σ.1 232 0) ≤ 10)
theorem inv_w3 {A : Nat → Nat → Prop} {F : Nat → Nat → Int32} {w : Nat} (hw : w < 4) {σ : zSto} (I : zInv A F w σ) : zInv A F 3 σ := ⟨I.1, I.2.1, I.2.2.1, I.2.2.2.1, fun _ => I.2.2.2.2.1 hw, I.2.2.2.2.2.1, ⟨fun h => absurd h (by decide), fun h => absurd h (by decide), fun h => absurd h (by decide)⟩⟩
theorem inv_3w {A : Nat → Nat → Prop} {F : Nat → Nat → Int32} {w : Nat} {σ : zSto} (I : zInv A F 3 σ) (hz : zTold w σ) : zInv A F w σ := ⟨I.1, I.2.1, I.2.2.1, I.2.2.2.1, fun _ => I.2.2.2.2.1 (by decide), I.2.2.2.2.2.1, hz⟩
set_option maxHeartbeats 4000000 in
theorem s_X10_readText_154 {A : Nat → Nat → Prop} {F : Nat → Nat → Int32} {w : Nat} (pr : okR A) (p6 : ¬ A 226 0) (p7 : ¬ A 227 0) (x_1 x_2 : Int32) (hw : ti x_1 = (w : Int)) (hw2 : w ≤ 2) {P : Int32 → zSto → Prop} (hP : ∀ r σ2, zInv A F 3 σ2 → (¬ r = 0 → Told w σ2) → P r σ2) : ∀ (n : Nat) (x_3 : Int32) (σ : zSto), zInv A F w σ → (0 ≤ ti x_3 ∧ ti x_3 ≤ 16) → (¬ x_2 = 0 → ti x_1 = 0 → ti (σ.1 223 16) = 0 → 2 ≤ ti (σ.1 232 0)) → (16 - ti x_3 < n) → w_X10_readText_154 x_1 x_2 P n x_3 σ := by
  have l0 := lit_0
  have l1 := lit_1
  have l3 := lit_3
  have l4 := lit_4
  have l7 := lit_7
  have l16 := lit_16
  have wr : ∀ (σ σ' : zSto) (k : Nat) (v : Int32), (k = 226 ∨ k = 227) → σ' = zI σ k 0 v → zInv A F w σ → zInv A F w σ' := by
    intro σ σ' k v hk e I
    rw [e]
    rcases hk with h | h <;> subst h
    · exact wI0 I p6 rk_226 kd_226
    · exact wI0 I p7 rk_227 kd_227
  have ex : ∀ σ, zInv A F w σ → (¬ x_2 = 0 → ti x_1 = 0 → ti (σ.1 223 16) = 0 → 2 ≤ ti (σ.1 232 0)) → ((x_2 = 0 → (∀ σ9 : zSto, σ9 = zI σ 226 0 (1 : Int32) → ((¬ x_2 = 0 → (((σ9.1 223 16) ≤ 0 → (∀ σ10 : zSto, σ10 = zI σ9 227 0 (-1 : Int32) → ((¬ (σ10.1 226 0) = 0 → P (0 : Int32) σ10) ∧ ((σ10.1 226 0) = 0 → P (1 : Int32) σ10)))) ∧ (¬ (σ9.1 223 16) ≤ 0 → (∀ σ11 : zSto, σ11 = zI σ9 227 0 (σ9.1 223 17) → ((¬ (σ11.1 226 0) = 0 → P (0 : Int32) σ11) ∧ ((σ11.1 226 0) = 0 → P (1 : Int32) σ11)))))) ∧ (x_2 = 0 → (∀ σ12 : zSto, σ12 = zI σ9 227 0 (σ9.1 223 15) → ((¬ (σ12.1 226 0) = 0 → P (0 : Int32) σ12) ∧ ((σ12.1 226 0) = 0 → P (1 : Int32) σ12))))))) ∧ (¬ x_2 = 0 → (∀ σ13 : zSto, σ13 = zI σ 226 0 (σ.1 223 16) → ((¬ x_2 = 0 → (((σ13.1 223 16) ≤ 0 → (∀ σ14 : zSto, σ14 = zI σ13 227 0 (-1 : Int32) → ((¬ (σ14.1 226 0) = 0 → P (0 : Int32) σ14) ∧ ((σ14.1 226 0) = 0 → P (1 : Int32) σ14)))) ∧ (¬ (σ13.1 223 16) ≤ 0 → (∀ σ15 : zSto, σ15 = zI σ13 227 0 (σ13.1 223 17) → ((¬ (σ15.1 226 0) = 0 → P (0 : Int32) σ15) ∧ ((σ15.1 226 0) = 0 → P (1 : Int32) σ15)))))) ∧ (x_2 = 0 → (∀ σ16 : zSto, σ16 = zI σ13 227 0 (σ13.1 223 15) → ((¬ (σ16.1 226 0) = 0 → P (0 : Int32) σ16) ∧ ((σ16.1 226 0) = 0 → P (1 : Int32) σ16)))))))) := by
    intro σ I h2
    refine ⟨fun q σ9 e9 => ⟨fun q2 => absurd q q2, fun _ σ12 e12 => ⟨fun _ => hP _ σ12 (inv_w3 (by omega) (wr _ _ 227 _ (Or.inr rfl) e12 (wr _ _ 226 _ (Or.inl rfl) e9 I))) (fun h => absurd rfl h), fun q3 => ?_⟩⟩, fun q σ13 e13 => ⟨fun _ => ?_, fun q2 => absurd q2 q⟩⟩
    · exfalso
      rw [e12, zI_q (Or.inl (by decide)), e9, zI_s] at q3
      exact absurd q3 (by decide)
    · have I13 := wr _ _ 226 _ (Or.inl rfl) e13 I
      have fin : ∀ v σ', σ' = zI σ13 227 0 v → ((¬ (σ'.1 226 0) = 0 → P (0 : Int32) σ') ∧ ((σ'.1 226 0) = 0 → P (1 : Int32) σ')) := by
        intro v σ' e'
        have I' := wr _ _ 227 _ (Or.inr rfl) e' I13
        refine ⟨fun _ => hP _ σ' (inv_w3 (by omega) I') (fun h => absurd rfl h), fun q3 => hP _ σ' (inv_w3 (by omega) I') (fun _ => ?_)⟩
        have k : ∀ k j, k ≠ 226 → k ≠ 227 → σ'.1 k j = σ.1 k j := fun k j h1 h2 => by rw [e', zI_q (Or.inl h2), e13, zI_q (Or.inl h1)]
        rw [e', zI_q (Or.inl (by decide)), e13, zI_s] at q3
        have c := eq_t q3
        have T := I.2.2.2.2.2.2
        refine ⟨fun z => ⟨fun j hj => ?_, ?_⟩, fun z => ?_, fun z => ?_⟩
        · rw [k 232 j (by decide) (by decide)]; exact ((T.1 z).2 (by omega)).1 j hj
        · rw [k 232 0 (by decide) (by decide)]; exact h2 q (by omega) (by omega)
        · rw [k 232 0 (by decide) (by decide)]; exact T.2.1 z
        · rw [k 232 0 (by decide) (by decide)]; exact T.2.2 z
      exact ⟨fun _ σ14 e14 => fin _ σ14 e14, fun _ σ15 e15 => fin _ σ15 e15⟩
  intro n
  induction n with
  | zero => intro x_3 σ I h h2 hm; exfalso; omega
  | succ n ih =>
    intro x_3 σ I h h2 hm
    unfold w_X10_readText_154
    refine ⟨fun q => ex σ I h2, fun q => ⟨fun q2 => ex σ I h2, fun q2 => ?_⟩⟩
    have c := nle_t q
    have c2 := eq_t q2
    obtain rfl : w = 0 := by omega
    have m1 := tmull (x := (5 : Int32)) (y := x_3) 5 lit_5 (by omega)
    have m2 := tadd (x := (7 : Int32)) (y := (5 : Int32) * x_3) (by omega)
    have m3 := tadd (x := (7 : Int32) + (5 : Int32) * x_3) (y := (3 : Int32)) (by omega)
    have m4 := tadd (x := (7 : Int32) + (5 : Int32) * x_3) (y := (4 : Int32)) (by omega)
    have n3 := tn_eq ((7 : Int32) + (5 : Int32) * x_3 + (3 : Int32))
    have n4 := tn_eq ((7 : Int32) + (5 : Int32) * x_3 + (4 : Int32))
    have nx := tn_eq x_3
    obtain ⟨p, hp⟩ : ∃ p, p = (ti x_3).toNat := ⟨_, rfl⟩
    refine ⟨vin (by omega), vin (by omega), fun σ27 e27 => ⟨vin (by omega), vin (by omega), fun σ30 e30 x31 e31 => ?_⟩⟩
    rw [show ((7 : Int32) + (5 : Int32) * x_3 + (3 : Int32)).toNatClampNeg = 7 + 5 * p + 3 by omega, show x_3.toNatClampNeg = p by omega] at e27
    rw [show ((7 : Int32) + (5 : Int32) * x_3 + (4 : Int32)).toNatClampNeg = 7 + 5 * p + 4 by omega, show x_3.toNatClampNeg = p by omega] at e30
    have k : ∀ q j, q ≠ 232 → σ30.1 q j = σ.1 q j := fun q j hq => by rw [e30, zI_q (Or.inl hq), e27, zI_q (Or.inl hq)]
    have k2 : ∀ j, j ≠ 7 + 5 * p + 3 → j ≠ 7 + 5 * p + 4 → σ30.1 232 j = σ.1 232 j := fun j h1 h2 => by rw [e30, zI_q (Or.inr h2), e27, zI_q (Or.inr h1)]
    have T := I.2.2.2.2.2.2.1 rfl
    have I30 : zInv A F 0 σ30 := by
      refine inv_232 I (by decide) (fun j => pR pr (by decide)) k ⟨fun _ => ⟨?_, fun z => ⟨fun j hj => ?_, fun p' hp' => ?_⟩⟩, fun z => absurd z (by decide), fun z => absurd z (by decide)⟩
      · rw [k2 0 (by omega) (by omega), k2 1 (by omega) (by omega)]; exact T.1
      · rw [k 223 16 (by decide)] at z
        have u := T.2 z
        by_cases c3 : j = 7 + 5 * p + 3
        · subst c3
          rw [(lo_14 hj).1, (lo_14 hj).2, (lh_p ⟨p, by omega⟩).2.2.1, (lh_p ⟨p, by omega⟩).2.2.2, e30, zI_q (Or.inr (by omega)), e27, zI_s]
          exact u.2 p (by omega)
        · by_cases c4 : j = 7 + 5 * p + 4
          · subst c4
            rw [(lo_14 hj).1, (lo_14 hj).2, (lh_p2 ⟨p, by omega⟩).2.2.1, (lh_p2 ⟨p, by omega⟩).2.2.2]
            exact full32 _
          · rw [k2 j c3 c4]; exact u.1 j hj
      · rw [k 223 16 (by decide)] at z
        rw [k 234 p' (by decide)]; exact (T.2 z).2 p' hp'
    have t31 := tadd (x := x_3) (y := (1 : Int32)) (by omega)
    have t32 := eq_t e31
    refine ih x31 σ30 I30 (by omega) (fun a1 a2 a3 => ?_) (by omega)
    rw [k 223 16 (by decide)] at a3
    rw [k2 0 (by omega) (by omega)]
    exact h2 a1 a2 a3
