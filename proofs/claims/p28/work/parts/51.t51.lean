def sI : Nat → Int := fun s => if s = 2 then 2 else if s = 6 then -1 else if s = 201 ∨ s = 202 then -1 else if 7 ≤ s ∧ s < 87 ∧ (s - 7) % 5 = 4 then -1 else 0
theorem sI_0 {s : Nat} (h : s ≠ 2) (h2 : s ≠ 6) (h3 : s ≠ 201) (h4 : s ≠ 202) (h5 : ¬ (7 ≤ s ∧ s < 87 ∧ (s - 7) % 5 = 4)) : sI s = 0 := by
  unfold sI
  rw [if_neg h, if_neg h2, if_neg (by omega), if_neg h5]
theorem sI_4 {p : Nat} (h : p < 16) : sI (7 + 5 * p + 4) = -1 := by
  unfold sI
  rw [if_neg (by omega), if_neg (by omega), if_neg (by omega), if_pos (by omega)]
theorem sI_ini : Ini sI := by
  refine ⟨by decide, by decide, by decide, by decide, by decide, by decide, by decide, fun p hp => ⟨sI_0 (by omega) (by omega) (by omega) (by omega) (by omega), sI_4 hp⟩, by decide, by decide, by decide, by decide⟩
theorem sI_Q : Qz sI := ⟨by decide, by decide⟩
theorem sI_B (o : Int) : RB o sI := ⟨fun _ => by decide, fun _ => by decide, fun _ => by decide⟩
theorem rt_f {B : Nat → Int} {n : Nat} (hn : n ≤ 600) {o : Int} (x_1 : Int32) (ho : ti x_1 = o) (ho2 : o = 0 ∨ o = 1 ∨ o = 2) {P : Int32 → zSto → Prop} (hP : ∀ r σ2, RE o (FN o n (RD o B n 601 0 sI)) r σ2 → P r σ2) {σ2 : zSto} (I : zRg σ2) (hB : gB σ2 = B) (h10 : ti (σ2.1 223 10) = (n : Int)) (hR : RR o sI σ2) : (∀ σ3 : zSto, σ3 = zI σ2 223 22 (-1 : Int32) → (∀ σ4 : zSto, σ4 = zI σ3 223 9 (0 : Int32) → (∀ σ5 : zSto, σ5 = zI σ4 223 16 (0 : Int32) → (w_X10_token  σ5 (fun (σ6 : zSto) => (w_X10_textLines x_1 σ6 (fun (r8 : Int32) (σ7 : zSto) => (r8 = 0 ∨ r8 = 1) → ((r8 = 0 → (∃ n2 : Nat, w_X10_readText_154 x_1 r8 P  n2 (0 : Int32) σ7)) ∧ (¬ r8 = 0 → ((¬ x_1 = 0 → (∃ n2 : Nat, w_X10_readText_154 x_1 r8 P  n2 (0 : Int32) σ7)) ∧ (x_1 = 0 → ((¬ (σ7.1 223 16) = 0 → (∃ n2 : Nat, w_X10_readText_154 x_1 r8 P  n2 (0 : Int32) σ7)) ∧ ((σ7.1 223 16) = 0 → (((σ7.1 232 0) ≤ (σ7.1 223 22) → (w_X10_later (4 : Int32) (σ7.1 223 11) σ7 (fun (σ32 : zSto) => (∃ n2 : Nat, w_X10_readText_154 x_1 r8 P  n2 (0 : Int32) σ32)))) ∧ (¬ (σ7.1 232 0) ≤ (σ7.1 223 22) → (((2 : Int32) ≤ (σ7.1 232 0) → (∃ n2 : Nat, w_X10_readText_154 x_1 r8 P  n2 (0 : Int32) σ7)) ∧ (¬ (2 : Int32) ≤ (σ7.1 232 0) → (w_X10_later (4 : Int32) (σ7.1 223 11) σ7 (fun (σ33 : zSto) => (∃ n2 : Nat, w_X10_readText_154 x_1 r8 P  n2 (0 : Int32) σ33)))))))))))))))))))) := by
  have l0 := lit_0
  have l4 := lit_4
  have lm := lit_m1
  have l2 := lit_2
  have hQ : 0 ≤ (FN o n (RD o B n 601 0 sI)) 200 := (Qz_FN (Qz_RD o B n 601 0 sI sI_Q)).1
  intro σ3 e3 σ4 e4 σ5 e5
  have fr : ∀ q j, ¬ (q = 223 ∧ (j = 22 ∨ j = 9 ∨ j = 16)) → σ5.1 q j = σ2.1 q j := fun q j h => by rw [zI_q' e5 (by omega), zI_q' e4 (by omega), zI_q' e3 (by omega)]
  have I5 : zRg σ5 := by
    subst e5; subst e4; subst e3
    exact wIg (wIg (wIg I kd_223 rfl rfl (any_t _)) kd_223 rfl rfl (a := 0) (b := 600) (by omega)) kd_223 rfl rfl (any_t _)
  have C5 : RC B n o sI 0 (sI 202) σ5 := by
    refine ⟨I5, ?_, by rw [fr _ _ (by omega)]; exact h10, by rw [e5, zI_s, l0]; rfl, fun z => absurd rfl z, fun _ => ?_, RR_q hR (fun j => fr _ _ (by omega)) (fun j => fr _ _ (by omega)) (fun j => fr _ _ (by omega)) (fun s hs => rfl), sI_B o⟩
    · rw [← hB]; funext j; exact congrArg ti (fr 224 j (by omega))
    · rw [zI_q' e5 (by omega), zI_q' e4 (by omega), e3, zI_s, lm]; rfl
  have h9 : ti (σ5.1 223 9) = ((0 : Nat) : Int) := by rw [zI_q' e5 (by omega), e4, zI_s, l0]; rfl
  refine f_tok C5 h9 (fun σ6 C6 T6 _ => ?_)
  have en : ∀ (fin : Nat → Int) (x : Int32) (σ7 : zSto), fin = FN o n (RD o B n 601 0 sI) → zRg σ7 → (x = 0 → fin 200 = 1 ∧ ti (σ7.1 223 15) = fin 201) → (¬ x = 0 → ti (σ7.1 223 16) = fin 200 ∧ (fin 200 ≠ 0 → ti (σ7.1 223 17) = fin 201) ∧ RR o fin σ7) → (∃ n2 : Nat, w_X10_readText_154 x_1 x P n2 (0 : Int32) σ7) := by
    intro fin x σ7 ef I7 hA hB7
    subst ef
    exact ⟨100, f_readText_154 hQ x_1 x ho hP 100 0 (0 : Int32) σ7 (by rw [l0]; rfl) (by omega) (by omega) I7 hA (fun z => ⟨(hB7 z).1, (hB7 z).2.1, (hB7 z).2.2, fun _ p hp => absurd hp (Nat.not_lt_zero p)⟩)⟩
  refine ⟨1000, f_X10_textLines_2 hn x_1 ho ho2 (RD o B n 601 0 sI) (fun σ7 b p C7 T7 k7 hb hp => ?_) (fun σ7 st2 q hf I7 e7 => ?_) 1000 601 0 sI 0 σ6 (by omega) (by omega) (by omega) (by omega) C6 T6 rfl⟩
  · intro _
    obtain ⟨fin, hfin⟩ : ∃ fin, fin = RD o B n 601 0 sI := ⟨_, rfl⟩
    rw [← hfin] at C7 en
    have pF : tkF B n p = n := by
      have a := tkK_0.mp k7
      have b := tkF_le (B := B) hp
      omega
    obtain ⟨I7, hB7, g10, g16, g17, g22, gR, gB7⟩ := C7
    have enE : FN o n fin = fin → (∃ n2 : Nat, w_X10_readText_154 x_1 (1 : Int32) P n2 (0 : Int32) σ7) := fun ef =>
      en fin 1 σ7 ef.symm I7 (fun z => absurd z (by decide)) (fun _ => ⟨g16, fun z => (g17 z).1, gR⟩)
    have enL : fin 200 = 0 → FN o n fin = nte fin 4 (n : Int) → w_X10_later (4 : Int32) (σ7.1 223 11) σ7 (fun (σ32 : zSto) => (∃ n2 : Nat, w_X10_readText_154 x_1 (1 : Int32) P n2 (0 : Int32) σ32)) := by
      intro z ef
      have h11 := T7.1
      rw [pF] at h11
      refine f_X10_later (b := b) ⟨I7, hB7, g10, g16, g17, g22, gR, gB7⟩ _ _ (by omega) (by rw [h11]; rw [pF] at hb; exact hb) (fun σ8 C8 f8 _ => ?_)
      rw [l4, h11, ← ef] at C8
      exact en _ 1 σ8 rfl C8.1 (fun z => absurd z (by decide)) (fun _ => ⟨C8.2.2.2.1, fun z => (C8.2.2.2.2.1 z).1, C8.2.2.2.2.2.2.1⟩)
    refine ⟨fun q => absurd q (by decide), fun _ => ⟨fun qx => enE ?_, fun qx => ⟨fun q1 => enE ?_, fun q1 => ?_⟩⟩⟩
    · have : o ≠ 0 := by have := ne_t qx; omega
      exact if_neg (fun z => this z.1)
    · have nz : fin 200 ≠ 0 := by have := ne_t q1; omega
      unfold FN
      split
      · exact nte_nz nz
      · rfl
    · have z0 : fin 200 = 0 := by have := eq_t q1; omega
      have o0 : o = 0 := by have := eq_t qx; omega
      have r0 := (gR.1 o0).1 0 (by omega) (by omega)
      have h22 := g22 z0
      refine ⟨fun q2 => enL z0 ?_, fun q2 => ⟨fun q3 => enE ?_, fun q3 => enL z0 ?_⟩⟩
      · have := le_t q2
        exact if_pos ⟨o0, Or.inr (by omega)⟩
      · have := nle_t q2
        have := le_t q3
        exact if_neg (fun z => by omega)
      · have := nle_t q3
        exact if_pos ⟨o0, Or.inl (by omega)⟩
  · intro _
    have ef : FN o n (RD o B n 601 0 sI) = RD o B n 601 0 sI := by
      unfold FN
      split
      · refine nte_nz ?_
        rw [hf]
        unfold fl
        rw [up_q (by omega), up_s]
        omega
      · rfl
    refine ⟨fun _ => en _ 0 σ7 ef.symm I7 (fun _ => ?_) (fun z => absurd rfl z), fun c => absurd rfl c⟩
    rw [hf]
    unfold fl
    rw [up_q (by omega), up_s, up_s]
    exact ⟨rfl, e7⟩
theorem f_readText_23 {B : Nat → Int} {n : Nat} (hn : n ≤ 600) {o : Int} (x_1 : Int32) (ho : ti x_1 = o) (ho2 : o = 0 ∨ o = 1 ∨ o = 2) {P : Int32 → zSto → Prop} (hP : ∀ r σ2, RE o (FN o n (RD o B n 601 0 sI)) r σ2 → P r σ2) : ∀ (k i : Nat) (x_2 : Int32) (σ : zSto), ti x_2 = (i : Int) → i ≤ 16 → 16 - i < k → zRg σ → gB σ = B → ti (σ.1 223 10) = (n : Int) → (∀ j, j < 123 → ti (σ.1 232 j) = 0) → (∀ p, p < i → ti (σ.1 234 p) = 0 ∧ ti (σ.1 235 p) = -1) → w_X10_readText_23 x_1 P k x_2 σ := by
  have l0 := lit_0
  have l1 := lit_1
  have l2 := lit_2
  have lm := lit_m1
  have l16 := lit_16
  intro k
  induction k with
  | zero => intro i x_2 σ _ _ h; omega
  | succ k ih =>
    intro i x_2 σ hi hi16 hk I hB h10 hz hp
    refine ⟨fun q => ?_, fun q => ?_⟩
    · have := le_t q
      have e16 : i = 16 := by omega
      subst e16
      have go : ∀ (v w : Int32) (σ1 σ2 : zSto), σ1 = zI σ 232 2 v → σ2 = zI σ1 232 6 w → (o = 0 → ti v = 2 ∧ ti w = -1) → (o ≠ 0 → ti v = 0 ∧ ti w = 0) → zRg σ2 ∧ gB σ2 = B ∧ ti (σ2.1 223 10) = (n : Int) ∧ RR o sI σ2 := by
        intro v w σ1 σ2 e1 e2 h0 h1
        have fr : ∀ q j, q ≠ 232 → σ2.1 q j = σ.1 q j := fun q j h => by rw [zI_q' e2 (by omega), zI_q' e1 (by omega)]
        have f2 : σ2.1 232 2 = v := by rw [zI_q' e2 (by omega), e1, zI_s]
        have f6 : σ2.1 232 6 = w := by rw [e2, zI_s]
        have fo : ∀ j, j ≠ 2 → j ≠ 6 → j < 123 → ti (σ2.1 232 j) = 0 := fun j a b c => by rw [zI_q' e2 (by omega), zI_q' e1 (by omega)]; exact hz j c
        refine ⟨by subst e2; subst e1; exact wIg (wIg I kd_232 rfl rfl (any_t _)) kd_232 rfl rfl (any_t _), ?_, by rw [fr _ _ (by omega)]; exact h10, fun z => ⟨fun s a b => ?_, fun p a => ?_⟩, fun z j a => ?_⟩
        · rw [← hB]; funext j; exact congrArg ti (fr 224 j (by omega))
        · by_cases c2 : s = 2
          · rw [c2, f2, (h0 z).1]; rfl
          · by_cases c6 : s = 6
            · rw [c6, f6, (h0 z).2]; rfl
            · rw [fo s c2 c6 a, sI_0 c2 c6 (by omega) (by omega) (by omega)]
        · rw [fr _ _ (by omega), fr _ _ (by omega), sI_4 a, sI_0 (by omega) (by omega) (by omega) (by omega) (by omega)]
          exact hp p a
        · rw [sI_0 (by omega) (by omega) (by omega) (by omega) (by omega)]
          by_cases c2 : j = 2
          · rw [c2, f2]; exact (h1 z).1
          · by_cases c6 : j = 6
            · rw [c6, f6]; exact (h1 z).2
            · exact fo j c2 c6 (by omega)
      refine ⟨fun q0 σ1 e1 => ⟨fun _ σ2 e2 => ?_, fun c => absurd c q0⟩, fun q0 σ1 e1 => ⟨fun c => absurd q0 c, fun _ σ2 e2 => ?_⟩⟩
      · have on : o ≠ 0 := by have := ne_t q0; omega
        obtain ⟨a, b, c, d⟩ := go _ _ σ1 σ2 e1 e2 (fun z => absurd z on) (fun _ => ⟨l0, l0⟩)
        exact rt_f hn x_1 ho ho2 hP a b c d
      · have on : o = 0 := by have := eq_t q0; omega
        obtain ⟨a, b, c, d⟩ := go _ _ σ1 σ2 e1 e2 (fun _ => ⟨l2, lm⟩) (fun z => absurd on z)
        exact rt_f hn x_1 ho ho2 hP a b c d
    · have := nle_t q
      have tn := tn_eq x_2
      refine ⟨vin (by omega), fun σ63 e63 => ⟨vin (by omega), fun σ65 e65 x66 e66 => ?_⟩⟩
      rw [show x_2.toNatClampNeg = i by omega] at e63 e65
      have fr : ∀ q j, q ≠ 234 → q ≠ 235 → σ65.1 q j = σ.1 q j := fun q j h h2 => by rw [zI_q' e65 (by omega), zI_q' e63 (by omega)]
      refine ih (i + 1) x66 σ65 (by rw [e66, tadd (by omega), hi, l1]; omega) (by omega) (by omega) ?_ ?_ ?_ (fun j hj => ?_) (fun p hp2 => ?_)
      · subst e65; subst e63
        exact wIg (wIg I kd_234 rfl rfl (any_t _)) kd_235 rfl rfl (any_t _)
      · rw [← hB]; funext j; exact congrArg ti (fr 224 j (by omega) (by omega))
      · rw [fr _ _ (by omega) (by omega)]; exact h10
      · rw [fr _ _ (by omega) (by omega)]; exact hz j hj
      · by_cases c : p = i
        · subst c
          have g3 : σ65.1 234 p = 0 := by rw [zI_q' e65 (by omega), e63, zI_s]
          have g4 : σ65.1 235 p = -1 := by rw [e65, zI_s]
          rw [g3, g4]
          exact ⟨l0, lm⟩
        · rw [zI_q' e65 (by omega), zI_q' e63 (by omega), zI_q' e65 (by omega), zI_q' e63 (by omega)]
          exact hp p (by omega)
theorem f_readText_2 {B : Nat → Int} {n : Nat} (hn : n ≤ 600) {o : Int} (x_1 : Int32) (ho : ti x_1 = o) (ho2 : o = 0 ∨ o = 1 ∨ o = 2) {P : Int32 → zSto → Prop} (hP : ∀ r σ2, RE o (FN o n (RD o B n 601 0 sI)) r σ2 → P r σ2) : ∀ (k i : Nat) (x_2 : Int32) (σ : zSto), ti x_2 = (i : Int) → i ≤ 123 → 123 - i < k → zRg σ → gB σ = B → ti (σ.1 223 10) = (n : Int) → (∀ j, j < i → ti (σ.1 232 j) = 0) → w_X10_readText_2 x_1 P k x_2 σ := by
  have l0 := lit_0
  have l1 := lit_1
  have l123 := lit_123
  intro k
  induction k with
  | zero => intro i x_2 σ _ _ h; omega
  | succ k ih =>
    intro i x_2 σ hi hi16 hk I hB h10 hz
    refine ⟨fun q => ?_, fun q => ?_⟩
    · have := le_t q
      have e16 : i = 123 := by omega
      subst e16
      exact ⟨100, f_readText_23 hn x_1 ho ho2 hP 100 0 (0 : Int32) σ (by rw [l0]; rfl) (by omega) (by omega) I hB h10 hz (fun p hp => absurd hp (Nat.not_lt_zero p))⟩
    · have := nle_t q
      have tn := tn_eq x_2
      refine ⟨vin (by omega), fun σ63 e63 x66 e66 => ?_⟩
      rw [show x_2.toNatClampNeg = i by omega] at e63
      refine ih (i + 1) x66 σ63 (by rw [e66, tadd (by omega), hi, l1]; omega) (by omega) (by omega) ?_ ?_ ?_ (fun j hj => ?_)
      · subst e63
        exact wIg I kd_232 rfl rfl (any_t _)
      · rw [← hB]; funext j; exact congrArg ti (zI_q' e63 (by omega))
      · rw [zI_q' e63 (by omega)]; exact h10
      · by_cases c : j = i
        · subst c
          rw [e63, zI_s]; exact l0
        · rw [zI_q' e63 (by omega)]
          exact hz j (by omega)
theorem f_X10_readText {B : Nat → Int} {n : Nat} {o : Int} (x_1 : Int32) (ho : ti x_1 = o) (ho2 : o = 0 ∨ o = 1 ∨ o = 2) {σ : zSto} (I : zRg σ) (hB : gB σ = B) (h10 : ti (σ.1 223 10) = (n : Int)) {P : Int32 → zSto → Prop} (hP : ∀ r σ2, RE o (FN o n (RD o B n 601 0 sI)) r σ2 → P r σ2) : w_X10_readText x_1 σ P := by
  have d10 : 0 ≤ ti (σ.1 223 10) ∧ ti (σ.1 223 10) ≤ 600 := rdg I kd_223 rfl rfl
  exact ⟨1000, f_readText_2 (by omega) x_1 ho ho2 hP 1000 0 (0 : Int32) σ (by rw [lit_0]; rfl) (by omega) (by omega) I hB h10 (fun j hj => absurd hj (Nat.not_lt_zero j))⟩
