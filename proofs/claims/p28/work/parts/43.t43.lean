/-! THE REFERENCE'S READER, as RD -/
theorem any_t (x : Int32) : (-2147483648 : Int) ≤ ti x ∧ ti x ≤ 2147483647 := by
  rw [ti_eq]
  have a := Int32.le_toInt x
  have b := Int32.toInt_lt x
  omega
def RR (o : Int) (st : Nat → Int) (σ : zSto) : Prop :=
  (o = 0 → (∀ s, s < 123 → (s < 7 ∨ 87 ≤ s ∨ (s - 7) % 5 < 3) → ti (σ.1 232 s) = st s) ∧ (∀ p, p < 16 → ti (σ.1 234 p) = st (7 + 5 * p + 3) ∧ ti (σ.1 235 p) = st (7 + 5 * p + 4))) ∧ (o ≠ 0 → ∀ j, j < 33 → ti (σ.1 232 j) = st (300 + j))
theorem RR_q {o : Int} {st st' : Nat → Int} {σ σ' : zSto} (h : RR o st σ) (h2 : ∀ j, σ'.1 232 j = σ.1 232 j) (h3 : ∀ j, σ'.1 234 j = σ.1 234 j) (h4 : ∀ j, σ'.1 235 j = σ.1 235 j) (hs : ∀ s, (s < 123 ∨ 300 ≤ s) → st' s = st s) : RR o st' σ' := by
  refine ⟨fun z => ⟨fun s a b => ?_, fun p a => ?_⟩, fun z j a => ?_⟩
  · rw [h2, hs s (by omega)]; exact (h.1 z).1 s a b
  · rw [h3, h4, hs _ (by omega), hs _ (by omega)]; exact (h.1 z).2 p a
  · rw [h2, hs _ (by omega)]; exact h.2 z j a
def RB (o : Int) (st : Nat → Int) : Prop := (o = 0 → 0 ≤ st 0 ∧ st 0 ≤ 16 ∧ 0 ≤ st 1 ∧ st 1 ≤ 6) ∧ (o = 1 → 0 ≤ st 300 ∧ st 300 ≤ 16) ∧ (o = 2 → 0 ≤ st 300 ∧ st 300 ≤ 10)
theorem RB_q {o : Int} {st st' : Nat → Int} (h : RB o st) (hs : ∀ s, (s < 123 ∨ 300 ≤ s) → st' s = st s) : RB o st' := by
  unfold RB
  rw [hs 0 (by omega), hs 1 (by omega), hs 300 (by omega)]
  exact h
/-- between tokens: FAULT so far, its place before b, the greatest POST -/
def RC (B : Nat → Int) (n : Nat) (o : Int) (st : Nat → Int) (b G : Int) (σ : zSto) : Prop :=
  zRg σ ∧ gB σ = B ∧ ti (σ.1 223 10) = (n : Int) ∧ ti (σ.1 223 16) = st 200 ∧ (st 200 ≠ 0 → ti (σ.1 223 17) = st 201 ∧ st 201 < b) ∧ (st 200 = 0 → ti (σ.1 223 22) = G) ∧ RR o st σ ∧ RB o st
/-- the token at p is ahead -/
def TKs (B : Nat → Int) (n p : Nat) (σ : zSto) : Prop :=
  ti (σ.1 223 11) = (tkF B n p : Nat) ∧ ti (σ.1 223 9) = (tkE B n p : Nat) ∧ ti (σ.1 223 12) = srt (tkK B n p) ∧ (tkK B n p = 2 → ti (σ.1 223 13) = tkV B n p)
def TKr (B : Nat → Int) (n p : Nat) (σ : zSto) : Prop := TKs B n p σ ∧ (tkK B n p = 1 → tl (σ.2 223 14) = tkW B n p)
theorem nte_s {st : Nat → Int} {f p : Int} {s : Nat} (h : s < 123 ∨ 300 ≤ s) : nte st f p s = st s := nte_q (by omega) (by omega)
theorem chk_s {st : Nat → Int} {v p l h : Int} {s : Nat} (hs : s < 123 ∨ 300 ≤ s) : chk st v p l h s = st s := chk_q (by omega) (by omega)
theorem RC_b {B : Nat → Int} {n : Nat} {o : Int} {st : Nat → Int} {b b' G : Int} {σ : zSto} (h : RC B n o st b G σ) (hb : b ≤ b') : RC B n o st b' G σ :=
  ⟨h.1, h.2.1, h.2.2.1, h.2.2.2.1, fun z => ⟨(h.2.2.2.2.1 z).1, by have := (h.2.2.2.2.1 z).2; omega⟩, h.2.2.2.2.2⟩
theorem f_X10_later {B : Nat → Int} {n : Nat} {o : Int} {st : Nat → Int} {b G : Int} {σ : zSto} (C : RC B n o st b G σ) (a1 a2 : Int32) (hf : ti a1 ≠ 0) (hp : b ≤ ti a2) {P : zSto → Prop} (hP : ∀ σ2, RC B n o (nte st (ti a1) (ti a2)) (ti a2 + 1) G σ2 → (∀ k j, ¬ (k = 223 ∧ (j = 16 ∨ j = 17)) → σ2.1 k j = σ.1 k j) → σ2.2 = σ.2 → P σ2) : w_X10_later a1 a2 σ P := by
  obtain ⟨I, hB, h10, h16, h17, h22, hR, hb⟩ := C
  have l0 := lit_0
  unfold w_X10_later
  refine ⟨fun q σ1 e1 σ2 e2 => ?_, fun q => ⟨fun q2 => ?_, fun q2 => ⟨fun q3 => ?_, fun q3 => ?_⟩⟩⟩
  · have z : st 200 = 0 := by have := eq_t q; omega
    have fr : ∀ k j, ¬ (k = 223 ∧ (j = 16 ∨ j = 17)) → σ2.1 k j = σ.1 k j := fun k j h => by
      rw [zI_q' e2 (by omega), zI_q' e1 (by omega)]
    have v16 : σ2.1 223 16 = a1 := by rw [zI_q' e2 (by omega), e1, zI_s]
    have v17 : σ2.1 223 17 = a2 := by rw [e2, zI_s]
    have I2 : zRg σ2 := by
      subst e2; subst e1
      exact wIg (wIg I kd_223 rfl rfl (any_t _)) kd_223 rfl rfl (any_t _)
    have en : nte st (ti a1) (ti a2) = up (up st 200 (ti a1)) 201 (ti a2) := if_pos z
    refine hP σ2 ⟨I2, ?_, ?_, ?_, fun _ => ?_, fun c => absurd c (nte_200 hf), RR_q hR (fun j => fr _ _ (by omega)) (fun j => fr _ _ (by omega)) (fun j => fr _ _ (by omega)) (fun s hs => nte_s hs), RB_q hb (fun s hs => nte_s hs)⟩ fr (by rw [e2, e1]; rfl)
    · rw [← hB]; funext j; exact congrArg ti (fr 224 j (by omega))
    · rw [fr _ _ (by omega)]; exact h10
    · rw [v16, en, up_q (by decide), up_s]
    · rw [v17, en, up_s]; exact ⟨rfl, by omega⟩
  · exfalso
    have nz : st 200 ≠ 0 := by have := ne_t q; omega
    have := h17 nz
    have := lt_t q2
    omega
  · have nz : st 200 ≠ 0 := by have := ne_t q; omega
    have h := h17 nz
    refine hP σ ?_ (fun _ _ _ => rfl) rfl
    rw [nte_nz nz]
    exact ⟨I, hB, h10, h16, fun _ => ⟨h.1, by omega⟩, h22, hR, hb⟩
  · exfalso
    have nz : st 200 ≠ 0 := by have := ne_t q; omega
    have := h17 nz
    have := eq_t q3
    omega
/-- the token behind -/
theorem f_tok {B : Nat → Int} {n p : Nat} {o : Int} {st : Nat → Int} {b G : Int} {σ : zSto} (C : RC B n o st b G σ) (h9 : ti (σ.1 223 9) = (p : Int)) {P : zSto → Prop} (hP : ∀ σ2, RC B n o st b G σ2 → TKr B n p σ2 → (∀ j, σ2.1 233 j = σ.1 233 j) → P σ2) : w_X10_token σ P := by
  obtain ⟨I, hB, h10, h16, h17, h22, hR, hb⟩ := C
  refine f_X10_token I (fun σ2 I2 N => ?_)
  unfold NR at N
  rw [h10, h9, hB, Int.toNat_natCast, Int.toNat_natCast] at N
  obtain ⟨fr, n1, n2, n3, n4, n5⟩ := N
  refine hP σ2 ⟨I2, ?_, ?_, ?_, fun z => ?_, fun z => ?_, RR_q hR (fun j => fr _ _ (by omega)) (fun j => fr _ _ (by omega)) (fun j => fr _ _ (by omega)) (fun s hs => rfl), hb⟩ ⟨⟨n1, n2, n3, n4⟩, n5⟩ (fun j => fr _ _ (by omega))
  · rw [gB_eq fr]; exact hB
  · rw [fr _ _ (by omega)]; exact h10
  · rw [fr _ _ (by omega)]; exact h16
  · rw [fr _ _ (by omega)]; exact h17 z
  · rw [fr _ _ (by omega)]; exact h22 z
theorem srt_3 {k : Int} : srt k = 3 ↔ k = 2 := by
  unfold srt
  split
  · omega
  · split
    · omega
    · split
      · omega
      · split <;> omega
/-- NUMBERS to come: what a row hands over -/
def RW (B : Nat → Int) (n : Nat) (o : Int) (m q : Nat) (st' : Nat → Int) (P : Int32 → zSto → Prop) : Prop :=
  (alN B n m q = true → ∀ σ2, RC B n o st' (rbN B n m q : Nat) (st' 202) σ2 → TKs B n (rbN B n m q) σ2 → P 1 σ2) ∧ (alN B n m q ≠ true → ∀ σ2, zRg σ2 → ti (σ2.1 223 15) = (tkF B n (rbN B n m q) : Nat) → P 0 σ2)
theorem RW_y {B : Nat → Int} {n : Nat} {o : Int} {m q : Nat} {st' : Nat → Int} {P : Int32 → zSto → Prop} (h : RW B n o (m + 1) q st' P) (hk : tkK B n q = 2) : RW B n o m (tkE B n q) st' P := by
  have e : rbN B n (m + 1) q = rbN B n m (tkE B n q) := if_pos hk
  have e2 : alN B n (m + 1) q = alN B n m (tkE B n q) := by
    show (decide (tkK B n q = 2) && alN B n m (tkE B n q)) = _
    rw [decide_eq_true hk, Bool.true_and]
  unfold RW at h
  rw [e, e2] at h
  exact h
theorem RW_n {B : Nat → Int} {n : Nat} {o : Int} {m q : Nat} {st' : Nat → Int} {P : Int32 → zSto → Prop} (h : RW B n o (m + 1) q st' P) (hk : tkK B n q ≠ 2) : ∀ σ2, zRg σ2 → ti (σ2.1 223 15) = (tkF B n q : Nat) → P 0 σ2 := by
  have e : rbN B n (m + 1) q = q := if_neg hk
  have e2 : alN B n (m + 1) q ≠ true := by
    show (decide (tkK B n q = 2) && alN B n m (tkE B n q)) ≠ true
    rw [decide_eq_false hk, Bool.false_and]
    exact Bool.false_ne_true
  have := h.2 e2
  rw [e] at this
  exact this
theorem RW_0 {B : Nat → Int} {n : Nat} {o : Int} {q : Nat} {st' : Nat → Int} {P : Int32 → zSto → Prop} (h : RW B n o 0 q st' P) : ∀ σ2, RC B n o st' (q : Int) (st' 202) σ2 → TKs B n q σ2 → P 1 σ2 := h.1 rfl
theorem f_fails {B : Nat → Int} {n p : Nat} {σ : zSto} (I : zRg σ) (T : TKs B n p σ) {P : Int32 → zSto → Prop} (hP : ∀ σ2, zRg σ2 → ti (σ2.1 223 15) = (tkF B n p : Nat) → P 0 σ2) : w_X10_fails σ P := by
  unfold w_X10_fails
  intro σ1 e1
  refine hP σ1 (by subst e1; exact wIg I kd_223 rfl rfl (any_t _)) ?_
  rw [e1, zI_s]
  exact T.1
theorem f_take0 {B : Nat → Int} {n p k : Nat} {o : Int} {st : Nat → Int} {b G l h : Int} {σ : zSto} (C : RC B n o st b G σ) (T : TKs B n p σ) (hb : b ≤ (tkF B n p : Nat)) (a1 a2 a3 : Int32) (h1 : ti a1 = (k : Int)) (hk : k < 6) (h2 : ti a2 = l) (h3 : ti a3 = h) {Q : Int32 → zSto → Prop} (hn : tkK B n p ≠ 2 → ∀ σ2, zRg σ2 → ti (σ2.1 223 15) = (tkF B n p : Nat) → Q 0 σ2) (hy : tkK B n p = 2 → ∀ σ2, RC B n o (chk st (tkV B n p) (tkF B n p : Nat) l h) (tkE B n p : Nat) G σ2 → TKs B n (tkE B n p) σ2 → ti (σ2.1 233 k) = tkV B n p → (∀ j, j ≠ k → σ2.1 233 j = σ.1 233 j) → Q 1 σ2) : w_X10_take a1 a2 a3 σ Q := by
  have l0 := lit_0
  have l2 := lit_2
  have l3 := lit_3
  unfold w_X10_take
  refine ⟨fun q => ⟨vin (by omega), fun σ2 e2 => ?_⟩, fun q => ?_⟩
  · have hk2 : tkK B n p = 2 := by
      have := eq_t q
      have := T.2.2.1
      exact srt_3.mp (by omega)
    have kE : tkF B n p < tkE B n p := tkE_gt (by omega)
    have tn := tn_eq a1
    rw [show a1.toNatClampNeg = k by omega] at e2
    obtain ⟨I, hB, h10, h16, h17, h22, hR, hbd⟩ := C
    obtain ⟨t11, t9, t12, t13⟩ := T
    have d13 : 0 ≤ ti (σ.1 223 13) ∧ ti (σ.1 223 13) ≤ 999 := rdg I kd_223 rfl rfl
    have I2 : zRg σ2 := by subst e2; exact wIg I kd_233 rfl rfl d13
    have fr : ∀ k' j, k' ≠ 233 → σ2.1 k' j = σ.1 k' j := fun k' j c => zI_q' e2 (Or.inl c)
    have C2 : RC B n o st b G σ2 := by
      refine ⟨I2, ?_, ?_, ?_, fun z => ?_, fun z => ?_, RR_q hR (fun j => fr _ _ (by decide)) (fun j => fr _ _ (by decide)) (fun j => fr _ _ (by decide)) (fun s hs => rfl), hbd⟩
      · rw [← hB]; funext j; exact congrArg ti (fr 224 j (by decide))
      · rw [fr _ _ (by decide)]; exact h10
      · rw [fr _ _ (by decide)]; exact h16
      · rw [fr _ _ (by decide)]; exact h17 z
      · rw [fr _ _ (by decide)]; exact h22 z
    have v : ti (σ2.1 233 k) = tkV B n p := by rw [e2, zI_s]; exact t13 hk2
    have v2 : ∀ j, j ≠ k → σ2.1 233 j = σ.1 233 j := fun j c => zI_q' e2 (Or.inr c)
    have e13 : ti (σ2.1 223 13) = tkV B n p := by rw [fr _ _ (by decide)]; exact t13 hk2
    refine b_X10_in _ _ _ (fun r hr => fun _ => ⟨fun qr => ?_, fun qr => ?_⟩)
    · have c := hr.mp qr
      have ec : chk st (tkV B n p) (tkF B n p : Nat) l h = st := if_neg (by omega)
      refine f_tok C2 (p := tkE B n p) (by rw [fr _ _ (by decide)]; exact t9) (fun σ5 C5 T5 f5 => hy hk2 σ5 (by rw [ec]; exact RC_b C5 (by omega)) T5.1 (by rw [f5]; exact v) (fun j c => by rw [f5]; exact v2 j c))
    · have c : ¬ (ti a2 ≤ ti (σ2.1 223 13) ∧ ti (σ2.1 223 13) ≤ ti a3) := fun c => (hr.mpr c) qr
      have ec : chk st (tkV B n p) (tkF B n p : Nat) l h = nte st 2 (tkF B n p : Nat) := if_pos (by omega)
      have e11 : ti (σ2.1 223 11) = (tkF B n p : Nat) := by rw [fr _ _ (by decide)]; exact t11
      refine f_X10_later C2 _ _ (by omega) (by omega) (fun σ6 C6 f6 g6 => ?_)
      rw [l2, e11] at C6
      refine f_tok C6 (p := tkE B n p) (by rw [f6 _ _ (by omega), fr _ _ (by decide)]; exact t9) (fun σ7 C7 T7 f7 => hy hk2 σ7 (by rw [ec]; exact RC_b C7 (by omega)) T7.1 (by rw [f7, f6 _ _ (by omega)]; exact v) (fun j c => by rw [f7, f6 _ _ (by omega)]; exact v2 j c))
  · have hk2 : tkK B n p ≠ 2 := fun c => by
      have := ne_t q
      have := T.2.2.1
      rw [srt_3.mpr c] at this
      omega
    refine f_fails C.1 T (fun σ2 I2 e => ?_)
    intro _
    exact ⟨Or.inl rfl, hn hk2 σ2 I2 e⟩
theorem f_take {B : Nat → Int} {n p m k : Nat} {o : Int} {st st' : Nat → Int} {b G l h : Int} {σ : zSto} (C : RC B n o st b G σ) (T : TKs B n p σ) (hb : b ≤ (tkF B n p : Nat)) (a1 a2 a3 : Int32) (h1 : ti a1 = (k : Int)) (hk : k < 6) (h2 : ti a2 = l) (h3 : ti a3 = h) {P Q : Int32 → zSto → Prop} (W : RW B n o (m + 1) p st' P) (hn : ∀ σ2, P 0 σ2 → Q 0 σ2) (hy : ∀ σ2, RW B n o m (tkE B n p) st' P → RC B n o (chk st (tkV B n p) (tkF B n p : Nat) l h) (tkE B n p : Nat) G σ2 → TKs B n (tkE B n p) σ2 → ti (σ2.1 233 k) = tkV B n p → (∀ j, j ≠ k → σ2.1 233 j = σ.1 233 j) → Q 1 σ2) : w_X10_take a1 a2 a3 σ Q :=
  f_take0 C T hb a1 a2 a3 h1 hk h2 h3 (fun c σ2 I2 e => hn σ2 (RW_n W c σ2 I2 e)) (fun c σ2 => hy σ2 (RW_y W c))
theorem RC_w {B : Nat → Int} {n : Nat} {o : Int} {st st' : Nat → Int} {b G G' : Int} {σ σ2 : zSto} (C : RC B n o st b G σ) (fr : ∀ q j, q ≠ 232 → q ≠ 234 → q ≠ 235 → σ2.1 q j = σ.1 q j) (e0 : st' 200 = st 200) (e1 : st' 201 = st 201) (hG : st 200 = 0 → G = G') (hR : RR o st' σ2) (hB : RB o st') : RC B n o st' b G' σ2 := by
  obtain ⟨I, hB2, h10, h16, h17, h22, _, _⟩ := C
  refine ⟨fun q j => ?_, ?_, ?_, ?_, fun z => ?_, fun z => ?_, hR, hB⟩
  · by_cases a : q = 232
    · subst a; exact any_t _
    · by_cases a2 : q = 234
      · subst a2; exact any_t _
      · by_cases a3 : q = 235
        · subst a3; exact any_t _
        · rw [fr q j a a2 a3]; exact I q j
  · rw [← hB2]; funext j; exact congrArg ti (fr 224 j (by decide) (by decide) (by decide))
  · rw [fr _ _ (by decide) (by decide) (by decide)]; exact h10
  · rw [fr _ _ (by decide) (by decide) (by decide), e0]; exact h16
  · rw [fr _ _ (by decide) (by decide) (by decide), e1]; exact h17 (by rw [← e0]; exact z)
  · rw [e0] at z
    rw [fr _ _ (by decide) (by decide) (by decide), ← hG z]; exact h22 z
theorem TKs_w {B : Nat → Int} {n p : Nat} {σ σ2 : zSto} (T : TKs B n p σ) (fr : ∀ q j, q ≠ 232 → q ≠ 234 → q ≠ 235 → σ2.1 q j = σ.1 q j) : TKs B n p σ2 := by
  unfold TKs
  rw [fr 223 11 (by decide) (by decide) (by decide), fr 223 9 (by decide) (by decide) (by decide), fr 223 12 (by decide) (by decide) (by decide), fr 223 13 (by decide) (by decide) (by decide)]
  exact T
theorem f_takePost {B : Nat → Int} {n p m k : Nat} {o : Int} {st st' : Nat → Int} {b G l : Int} {σ : zSto} (C : RC B n o st b G σ) (T : TKs B n p σ) (hb : b ≤ (tkF B n p : Nat)) (a1 a2 : Int32) (h1 : ti a1 = (k : Int)) (hk : k < 6) (h2 : ti a2 = l) {P Q : Int32 → zSto → Prop} (W : RW B n o (m + 1) p st' P) (hn : ∀ σ2, P 0 σ2 → Q 0 σ2) (hy : ∀ σ2, RW B n o m (tkE B n p) st' P → RC B n o (chk st (tkV B n p) (tkF B n p : Nat) l 15) (tkE B n p : Nat) (mxI G (tkV B n p)) σ2 → TKs B n (tkE B n p) σ2 → ti (σ2.1 233 k) = tkV B n p → (∀ j, j ≠ k → σ2.1 233 j = σ.1 233 j) → Q 1 σ2) : w_X10_takePost a1 a2 σ Q := by
  unfold w_X10_takePost
  refine f_take0 C T hb a1 a2 _ h1 hk h2 lit_15 (fun c σ1 I1 e => ?_) (fun c σ1 C1 T1 v1 u1 => ?_)
  · intro _
    exact ⟨fun _ σ3 e3 => ⟨Or.inl rfl, hn σ3 (RW_n W c σ3 (by subst e3; exact wIg I1 kd_223 rfl rfl (any_t _)) (by rw [zI_q' e3 (by omega)]; exact e))⟩, fun q => absurd rfl q⟩
  · intro _
    have tn := tn_eq a1
    refine ⟨fun q => absurd q (by decide), fun _ => ⟨vin (by omega), ?_⟩⟩
    rw [show a1.toNatClampNeg = k by omega]
    have key : ∀ r6 : Int32, (∀ z : (chk st (tkV B n p) (tkF B n p : Nat) l 15) 200 = 0, ti r6 = mxI G (tkV B n p)) → ∀ σ7, σ7 = zI σ1 223 22 r6 → ((1 : Int32) = 0 ∨ (1 : Int32) = 1) ∧ Q 1 σ7 := by
      intro r6 hr σ7 e7
      have fr : ∀ q j, ¬ (q = 223 ∧ j = 22) → σ7.1 q j = σ1.1 q j := fun q j d => zI_q' e7 (by omega)
      obtain ⟨I, hB2, h10, h16, h17, h22, hR, hB⟩ := C1
      refine ⟨Or.inr rfl, hy σ7 (RW_y W c) ⟨by subst e7; exact wIg I kd_223 rfl rfl (any_t _), ?_, ?_, ?_, fun z => ?_, fun z => ?_, RR_q hR (fun j => fr _ _ (by omega)) (fun j => fr _ _ (by omega)) (fun j => fr _ _ (by omega)) (fun s hs => rfl), hB⟩ ?_ ?_ (fun j d => ?_)⟩
      · rw [← hB2]; funext j; exact congrArg ti (fr 224 j (by omega))
      · rw [fr _ _ (by omega)]; exact h10
      · rw [fr _ _ (by omega)]; exact h16
      · rw [fr _ _ (by omega)]; exact h17 z
      · rw [e7, zI_s]; exact hr z
      · unfold TKs
        rw [fr 223 11 (by omega), fr 223 9 (by omega), fr 223 12 (by omega), fr 223 13 (by omega)]
        exact T1
      · rw [fr _ _ (by omega)]; exact v1
      · rw [fr _ _ (by omega)]; exact u1 j d
    have h22 := C1.2.2.2.2.2.1
    unfold w_X10_greater
    refine ⟨fun q => key _ (fun z => ?_), fun q => key _ (fun z => ?_)⟩
    · have := le_t q
      have := h22 z
      unfold mxI
      split <;> omega
    · have := nle_t q
      have := h22 z
      unfold mxI
      rw [if_neg (by omega)]
      omega
