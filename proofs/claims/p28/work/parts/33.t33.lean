/-! ranges alone -/
def zRg (σ : zSto) : Prop := ∀ k j, lo (kd k) j ≤ ti (σ.1 k j) ∧ ti (σ.1 k j) ≤ hi (kd k) j
theorem rdg {σ : zSto} {k j c : Nat} {a b : Int} (I : zRg σ) (hk : kd k = c) (ha : lo c j = a) (hb : hi c j = b) : a ≤ ti (σ.1 k j) ∧ ti (σ.1 k j) ≤ b := by
  have := I k j
  rw [hk, ha, hb] at this
  exact this
theorem wIg {σ : zSto} {k j c : Nat} {a b : Int} {v : Int32} (I : zRg σ) (hk : kd k = c) (ha : lo c j = a) (hb : hi c j = b) (h : a ≤ ti v ∧ ti v ≤ b) : zRg (zI σ k j v) := by
  intro k' j'
  by_cases e : k' = k ∧ j' = j
  · obtain ⟨e1, e2⟩ := e
    subst e1
    subst e2
    rw [zI_s, hk, ha, hb]
    exact h
  · rw [zI_q (by omega)]
    exact I k' j'
theorem wJg {σ : zSto} {k j : Nat} {v : Int64} (I : zRg σ) : zRg (zJ σ k j v) := I
/-! TOKENS, as numbers: bytes B, n of them -/
def adv (c : Int → Bool) (B : Nat → Int) (n : Nat) : Nat → Nat → Nat
  | 0, p => p
  | f + 1, p => if p < n ∧ c (B p) = true then adv c B n f (p + 1) else p
def cBl (b : Int) : Bool := decide (b = 10 ∨ b = 32)
def cLt (b : Int) : Bool := decide (97 ≤ b ∧ b ≤ 122)
def cDg (b : Int) : Bool := decide (48 ≤ b ∧ b ≤ 57)
theorem adv_go {c : Int → Bool} {B : Nat → Int} {n f p : Nat} (h : p < n ∧ c (B p) = true) : adv c B n (f + 1) p = adv c B n f (p + 1) := by
  show (if p < n ∧ c (B p) = true then adv c B n f (p + 1) else p) = _
  rw [if_pos h]
theorem adv_no {c : Int → Bool} {B : Nat → Int} {n f p : Nat} (h : ¬ (p < n ∧ c (B p) = true)) : adv c B n f p = p := by
  cases f with
  | zero => rfl
  | succ f =>
    show (if p < n ∧ c (B p) = true then adv c B n f (p + 1) else p) = _
    rw [if_neg h]
/-- one step more makes no odds -/
theorem adv_1 {c : Int → Bool} {B : Nat → Int} {n : Nat} : ∀ f p, n ≤ p + f → adv c B n (f + 1) p = adv c B n f p := by
  intro f
  induction f with
  | zero =>
    intro p h
    rw [adv_no (by omega), adv_no (by omega)]
  | succ f ih =>
    intro p h
    by_cases q : p < n ∧ c (B p) = true
    · rw [adv_go q, adv_go q]
      exact ih (p + 1) (by omega)
    · rw [adv_no q, adv_no q]
theorem adv_step {c : Int → Bool} {B : Nat → Int} {n f p : Nat} (hn : n ≤ p + f) (h : p < n ∧ c (B p) = true) : adv c B n f (p + 1) = adv c B n f p := by
  rw [← adv_1 f p hn, adv_go h]
theorem adv_ge {c : Int → Bool} {B : Nat → Int} {n : Nat} : ∀ f p, p ≤ adv c B n f p := by
  intro f
  induction f with
  | zero => intro p; exact Nat.le_refl p
  | succ f ih =>
    intro p
    by_cases q : p < n ∧ c (B p) = true
    · rw [adv_go q]
      have := ih (p + 1)
      omega
    · rw [adv_no q]
      exact Nat.le_refl p
theorem adv_le {c : Int → Bool} {B : Nat → Int} {n : Nat} : ∀ f p, p ≤ n → adv c B n f p ≤ n := by
  intro f
  induction f with
  | zero => intro p h; exact h
  | succ f ih =>
    intro p h
    by_cases q : p < n ∧ c (B p) = true
    · rw [adv_go q]
      exact ih (p + 1) (by omega)
    · rw [adv_no q]
      exact h
/-- the first byte of the token behind p; behind it; what it is (0 end, 1 word, 2 NUMBER, 3 mark, 4 wrong); the number that digits from q up to r are -/
def tkF (B : Nat → Int) (n p : Nat) : Nat := adv cBl B n 601 p
def tkE (B : Nat → Int) (n p : Nat) : Nat :=
  if n ≤ tkF B n p then tkF B n p else if cLt (B (tkF B n p)) = true then adv cLt B n 601 (tkF B n p) else if cDg (B (tkF B n p)) = true then adv cDg B n 601 (tkF B n p) else tkF B n p + 1
def tkK (B : Nat → Int) (n p : Nat) : Int :=
  if n ≤ tkF B n p then 0 else if cLt (B (tkF B n p)) = true then 1 else if cDg (B (tkF B n p)) = true then (if tkE B n p ≤ tkF B n p + 3 then 2 else 4) else if B (tkF B n p) = 59 then 3 else 4
def dgV (B : Nat → Int) (q : Nat) : Nat → Int
  | 0 => 0
  | k + 1 => 10 * dgV B q k + (B (q + k) - 48)
def tkV (B : Nat → Int) (n p : Nat) : Int := dgV B (tkF B n p) (tkE B n p - tkF B n p)
/-- the class's reader: what a token changes -/
def Ek (σ σ' : zSto) : Prop := ∀ k j, ¬ (k = 171 ∧ (j = 6 ∨ j = 7 ∨ j = 8 ∨ j = 9)) → σ'.1 k j = σ.1 k j
theorem Ek.tr {a b c : zSto} (h : Ek a b) (h2 : Ek b c) : Ek a c := fun k j q => (h2 k j q).trans (h k j q)
theorem Ek_w {σ σ2 : zSto} {j : Nat} {v : Int32} (e : σ2 = zI σ 171 j v) (hj : j = 6 ∨ j = 7 ∨ j = 8 ∨ j = 9) : Ek σ σ2 := fun k j' q => zI_q' e (by omega)
/-- bytes of the class's reader -/
noncomputable def rB (σ : zSto) : Nat → Int := fun j => ti (σ.1 189 j)
theorem rB_eq {σ σ' : zSto} (h : Ek σ σ') : rB σ' = rB σ := by
  funext j
  exact congrArg ti (h 189 j (by omega))
theorem b_X4_isLetter {σ : zSto} (a1 : Int32) (h : 0 ≤ ti a1 ∧ ti a1 ≤ 599) {P : Int32 → zSto → Prop} (hP : ∀ r, (¬ r = 0 ↔ cLt (rB σ (ti a1).toNat) = true) → P r σ) : w_X4_isLetter a1 σ P := by
  unfold w_X4_isLetter
  have l1 := lit_97
  have l2 := lit_122
  have tn := tn_eq a1
  have e : rB σ (ti a1).toNat = ti (σ.1 189 a1.toNatClampNeg) := by rw [tn]; rfl
  refine ⟨vin (by omega), fun q => hP _ ⟨fun z => absurd rfl z, fun z => ?_⟩, fun q => ⟨vin (by omega), fun q2 => hP _ ⟨fun z => absurd rfl z, fun z => ?_⟩, fun q2 => hP _ ⟨fun _ => ?_, fun _ => by decide⟩⟩⟩
  · have c := lt_t q
    have z2 := of_decide_eq_true z
    omega
  · have c := lt_t q2
    have z2 := of_decide_eq_true z
    omega
  · have c := nlt_t q
    have c2 := nlt_t q2
    exact decide_eq_true (by omega)
theorem b_X4_isDigit {σ : zSto} (a1 : Int32) (h : 0 ≤ ti a1 ∧ ti a1 ≤ 599) {P : Int32 → zSto → Prop} (hP : ∀ r, (¬ r = 0 ↔ cDg (rB σ (ti a1).toNat) = true) → P r σ) : w_X4_isDigit a1 σ P := by
  unfold w_X4_isDigit
  have l1 := lit_48
  have l2 := lit_57
  have tn := tn_eq a1
  have e : rB σ (ti a1).toNat = ti (σ.1 189 a1.toNatClampNeg) := by rw [tn]; rfl
  refine ⟨vin (by omega), fun q => hP _ ⟨fun z => absurd rfl z, fun z => ?_⟩, fun q => ⟨vin (by omega), fun q2 => hP _ ⟨fun z => absurd rfl z, fun z => ?_⟩, fun q2 => hP _ ⟨fun _ => ?_, fun _ => by decide⟩⟩⟩
  · have c := lt_t q
    have z2 := of_decide_eq_true z
    omega
  · have c := lt_t q2
    have z2 := of_decide_eq_true z
    omega
  · have c := nlt_t q
    have c2 := nlt_t q2
    exact decide_eq_true (by omega)
set_option maxHeartbeats 4000000 in
theorem f_X4_nextToken_95 {σ0 : zSto} (N E : Nat) (S : Int) (hN : ti (σ0.1 171 5) = (N : Int)) {P : zSto → Prop} (hP : ∀ σ2, zRg σ2 → Ek σ0 σ2 → ti (σ2.1 171 8) = S → ti (σ2.1 171 6) = (E : Int) → ti (σ2.1 171 7) = 1 → P σ2) : ∀ (k q : Nat) (σ : zSto), zRg σ → Ek σ0 σ → ti (σ.1 171 8) = S → ti (σ.1 171 7) = 1 → ti (σ.1 171 6) = (q : Int) → adv cLt (rB σ0) N 601 q = E → N - q < k → w_X4_nextToken_95 P k σ := by
  have l1 := lit_1
  intro k
  induction k with
  | zero => intro q σ I h1 h2 h3 h4 h5 h6; exfalso; omega
  | succ k ih =>
    intro q σ I h1 h2 h3 h4 h5 h6
    unfold w_X4_nextToken_95
    have d5 : 0 ≤ ti (σ.1 171 5) ∧ ti (σ.1 171 5) ≤ 600 := rdg I kd_171 rfl rfl
    have d6 : 0 ≤ ti (σ.1 171 6) ∧ ti (σ.1 171 6) ≤ 600 := rdg I kd_171 rfl rfl
    have n5 : ti (σ.1 171 5) = (N : Int) := by rw [h1 171 5 (by omega)]; exact hN
    refine ⟨fun q1 => ?_, fun q1 => ?_⟩
    · have c := le_t q1
      rw [adv_no (by omega)] at h5
      exact hP σ I h1 h2 (by omega) h3
    · have c := nle_t q1
      refine b_X4_isLetter _ (by omega) (fun r z => ?_)
      rw [rB_eq h1, h4, show ((q : Nat) : Int).toNat = q by omega] at z
      intro b
      refine ⟨fun q2 => ?_, fun q2 σ15 e15 => ?_⟩
      · have c2 : ¬ (q < N ∧ cLt (rB σ0 q) = true) := fun g => z.mpr g.2 q2
        rw [adv_no c2] at h5
        exact hP σ I h1 h2 (by omega) h3
      · have c2 := z.mp q2
        have t := tadd (x := σ.1 171 6) (y := (1 : Int32)) (by omega)
        have I15 : zRg σ15 := by rw [e15]; exact wIg (a := 0) (b := 600) I kd_171 rfl rfl (by omega)
        refine ih (q + 1) σ15 I15 (h1.tr (Ek_w e15 (by omega))) ?_ ?_ ?_ ?_ (by omega)
        · rw [e15, zI_q (Or.inr (by decide))]; exact h2
        · rw [e15, zI_q (Or.inr (by decide))]; exact h3
        · rw [e15, zI_s]; omega
        · rw [adv_step (by omega) ⟨by omega, c2⟩]; exact h5
theorem dgV_1 (B : Nat → Int) (q k : Nat) : dgV B q (k + 1) = 10 * dgV B q k + (B (q + k) - 48) := rfl
set_option maxHeartbeats 4000000 in
theorem f_X4_takeDigits_5 {σ0 : zSto} (N E S : Nat) (hN : ti (σ0.1 171 5) = (N : Int)) {P : zSto → Prop} (hP : ∀ σ2, zRg σ2 → Ek σ0 σ2 → ti (σ2.1 171 8) = (S : Int) → ti (σ2.1 171 6) = (E : Int) → ti (σ2.1 171 7) = (if E ≤ S + 3 then 2 else 4) → (E ≤ S + 3 → ti (σ2.1 171 9) = dgV (rB σ0) S (E - S)) → P σ2) : ∀ (k q : Nat) (σ : zSto), zRg σ → Ek σ0 σ → ti (σ.1 171 8) = (S : Int) → S ≤ q → ti (σ.1 171 6) = (q : Int) → adv cDg (rB σ0) N 601 q = E → (q ≤ S + 3 → ti (σ.1 171 9) = dgV (rB σ0) S (q - S) ∧ 0 ≤ dgV (rB σ0) S (q - S) ∧ (q = S → dgV (rB σ0) S (q - S) ≤ 0) ∧ (q = S + 1 → dgV (rB σ0) S (q - S) ≤ 9) ∧ (q = S + 2 → dgV (rB σ0) S (q - S) ≤ 99)) → N - q < k → w_X4_takeDigits_5 P k σ := by
  have l1 := lit_1
  have l2 := lit_2
  have l3 := lit_3
  have l4 := lit_4
  have l10 := lit_10
  have l48 := lit_48
  have fin : ∀ σ : zSto, zRg σ → Ek σ0 σ → ti (σ.1 171 8) = (S : Int) → ti (σ.1 171 6) = (E : Int) → S ≤ E → (E ≤ S + 3 → ti (σ.1 171 9) = dgV (rB σ0) S (E - S)) → ((3 : Int32) < ((σ.1 171 6) - (σ.1 171 8)) → (∀ σ2 : zSto, σ2 = zI σ 171 7 (4 : Int32) → P σ2)) ∧ (¬ (3 : Int32) < ((σ.1 171 6) - (σ.1 171 8)) → (∀ σ3 : zSto, σ3 = zI σ 171 7 (2 : Int32) → P σ3)) := by
    intro σ I h1 h2 h3 h4 h5
    have d1 : 0 ≤ ti (σ.1 171 8) ∧ ti (σ.1 171 8) ≤ 600 := rdg I kd_171 rfl rfl
    have d2 : 0 ≤ ti (σ.1 171 6) ∧ ti (σ.1 171 6) ≤ 600 := rdg I kd_171 rfl rfl
    have t1 := tsub (x := σ.1 171 6) (y := σ.1 171 8) (by omega)
    have g : ∀ (σ2 : zSto) (v : Int32), σ2 = zI σ 171 7 v → ti v = (if E ≤ S + 3 then 2 else 4) → P σ2 := by
      intro σ2 v e hv
      refine hP σ2 (by rw [e]; exact wIg I kd_171 rfl rfl (full32 _)) (h1.tr (Ek_w e (by omega))) ?_ ?_ ?_ (fun z => ?_)
      · rw [e, zI_q (Or.inr (by decide))]; exact h2
      · rw [e, zI_q (Or.inr (by decide))]; exact h3
      · rw [e, zI_s]; exact hv
      · rw [e, zI_q (Or.inr (by decide))]; exact h5 z
    refine ⟨fun q σ2 e => g σ2 _ e ?_, fun q σ2 e => g σ2 _ e ?_⟩
    · have c := lt_t q
      rw [if_neg (by omega)]; exact l4
    · have c := nlt_t q
      rw [if_pos (by omega)]; exact l2
  intro k
  induction k with
  | zero => intro q σ I h1 h2 h3 h4 h5 h6 h7; exfalso; omega
  | succ k ih =>
    intro q σ I h1 h2 h3 h4 h5 h6 h7
    unfold w_X4_takeDigits_5
    have d5 : 0 ≤ ti (σ.1 171 5) ∧ ti (σ.1 171 5) ≤ 600 := rdg I kd_171 rfl rfl
    have d6 : 0 ≤ ti (σ.1 171 6) ∧ ti (σ.1 171 6) ≤ 600 := rdg I kd_171 rfl rfl
    have n5 : ti (σ.1 171 5) = (N : Int) := by rw [h1 171 5 (by omega)]; exact hN
    refine ⟨fun q1 => ?_, fun q1 => ?_⟩
    · have c := le_t q1
      rw [adv_no (by omega)] at h5
      subst h5
      exact fin σ I h1 h2 h4 h3 (fun z => (h6 z).1)
    · have c := nle_t q1
      refine b_X4_isDigit _ (by omega) (fun r z => ?_)
      rw [rB_eq h1, h4, show ((q : Nat) : Int).toNat = q by omega] at z
      intro b
      refine ⟨fun q2 => ?_, fun q2 => ?_⟩
      · have c2 : ¬ (q < N ∧ cDg (rB σ0 q) = true) := fun g => z.mpr g.2 q2
        rw [adv_no c2] at h5
        subst h5
        exact fin σ I h1 h2 h4 h3 (fun z => (h6 z).1)
      · have c2 := z.mp q2
        have c3 := of_decide_eq_true c2
        have tn := tn_eq (σ.1 171 6)
        have e189 : ti (σ.1 189 (σ.1 171 6).toNatClampNeg) = rB σ0 q := by
          rw [show (σ.1 171 6).toNatClampNeg = q by omega, h1 189 q (by omega)]; rfl
        refine ⟨vin (by omega), fun σ9 e9 σ10 e10 => ?_⟩
        have I9 : zRg σ9 := by rw [e9]; exact wIg I kd_171 rfl rfl (full32 _)
        have g6 : ti (σ9.1 171 6) = ti (σ.1 171 6) := by rw [e9, zI_q (Or.inr (by decide))]
        have t6 := tadd (x := σ9.1 171 6) (y := (1 : Int32)) (by omega)
        have I10 : zRg σ10 := by rw [e10]; exact wIg (a := 0) (b := 600) I9 kd_171 rfl rfl (by omega)
        refine ih (q + 1) σ10 I10 ((h1.tr (Ek_w e9 (by omega))).tr (Ek_w e10 (by omega))) ?_ (by omega) ?_ ?_ (fun z2 => ?_) (by omega)
        · rw [e10, zI_q (Or.inr (by decide)), e9, zI_q (Or.inr (by decide))]; exact h2
        · rw [e10, zI_s]; omega
        · rw [adv_step (by omega) ⟨by omega, c2⟩]; exact h5
        · obtain ⟨y1, y2, y3, y4, y5⟩ := h6 (by omega)
          have ee : q + 1 - S = (q - S) + 1 := by omega
          have ed := dgV_1 (rB σ0) S (q - S)
          rw [show S + (q - S) = q by omega] at ed
          have v1 := tsub (x := σ.1 189 (σ.1 171 6).toNatClampNeg) (y := (48 : Int32)) (by omega)
          have v2 := tmulr (x := σ.1 171 9) (y := (10 : Int32)) (10) lit_10 (by omega)
          have v3 := tadd (x := σ.1 171 9 * (10 : Int32)) (y := σ.1 189 (σ.1 171 6).toNatClampNeg - (48 : Int32)) (by omega)
          have f9 : ti (σ10.1 171 9) = dgV (rB σ0) S (q + 1 - S) := by
            rw [e10, zI_q (Or.inr (by decide)), e9, zI_s, ee, ed]; omega
          rw [ee] at f9 ⊢
          refine ⟨f9, by omega, by omega, by omega, by omega⟩
/-- what the class's token is: of the bytes and the place where it began -/
def NT (σ0 σ2 : zSto) : Prop := Ek σ0 σ2 ∧ ti (σ2.1 171 8) = (tkF (rB σ0) (ti (σ0.1 171 5)).toNat (ti (σ0.1 171 6)).toNat : Nat) ∧ ti (σ2.1 171 6) = (tkE (rB σ0) (ti (σ0.1 171 5)).toNat (ti (σ0.1 171 6)).toNat : Nat) ∧ ti (σ2.1 171 7) = tkK (rB σ0) (ti (σ0.1 171 5)).toNat (ti (σ0.1 171 6)).toNat ∧ (tkK (rB σ0) (ti (σ0.1 171 5)).toNat (ti (σ0.1 171 6)).toNat = 2 → ti (σ2.1 171 9) = tkV (rB σ0) (ti (σ0.1 171 5)).toNat (ti (σ0.1 171 6)).toNat)
set_option maxHeartbeats 4000000 in
theorem nt_tail {σ0 : zSto} (N p : Nat) (hN : ti (σ0.1 171 5) = (N : Int)) (hp : ti (σ0.1 171 6) = (p : Int)) {P : zSto → Prop} (hP : ∀ σ2, zRg σ2 → NT σ0 σ2 → P σ2) {σ : zSto} (I : zRg σ) (h1 : Ek σ0 σ) (h2 : ti (σ.1 171 6) = ((tkF (rB σ0) N p : Nat) : Int)) : (∀ σ1 : zSto, σ1 = zI σ 171 8 (σ.1 171 6) → (((σ1.1 171 6) < (σ1.1 171 5) → (w_X4_isLetter (σ1.1 171 6) σ1 (fun (r3 : Int32) (σ2 : zSto) => (r3 = 0 ∨ r3 = 1) → ((r3 = 0 → (w_X4_isDigit (σ2.1 171 6) σ2 (fun (r5 : Int32) (σ4 : zSto) => (r5 = 0 ∨ r5 = 1) → ((r5 = 0 → (vp_in (σ4.1 171 6) 600 ∧ ((¬ (σ4.1 189 ((σ4.1 171 6)).toNatClampNeg) = (59 : Int32) → (∀ σ7 : zSto, σ7 = zI σ4 171 7 (4 : Int32) → (∀ σ8 : zSto, σ8 = zI σ7 171 6 ((σ7.1 171 6) + (1 : Int32)) → P σ8))) ∧ ((σ4.1 189 ((σ4.1 171 6)).toNatClampNeg) = (59 : Int32) → (∀ σ9 : zSto, σ9 = zI σ4 171 7 (3 : Int32) → (∀ σ10 : zSto, σ10 = zI σ9 171 6 ((σ9.1 171 6) + (1 : Int32)) → P σ10)))))) ∧ (¬ r5 = 0 → (w_X4_takeDigits  σ4 (fun (σ11 : zSto) => P σ11))))))) ∧ (¬ r3 = 0 → (∀ σ12 : zSto, σ12 = zI σ2 171 7 (1 : Int32) → (∃ n2 : Nat, w_X4_nextToken_95  P  n2  σ12))))))) ∧ (¬ (σ1.1 171 6) < (σ1.1 171 5) → (∀ σ16 : zSto, σ16 = zI σ1 171 7 (0 : Int32) → P σ16)))) := by
  have l0 := lit_0
  have l1 := lit_1
  have l3 := lit_3
  have l4 := lit_4
  have l59 := lit_59
  have eN : (ti (σ0.1 171 5)).toNat = N := by omega
  have ep : (ti (σ0.1 171 6)).toNat = p := by omega
  unfold NT at hP
  rw [eN, ep] at hP
  obtain ⟨q, hq⟩ : ∃ q, q = tkF (rB σ0) N p := ⟨_, rfl⟩
  have hE : tkE (rB σ0) N p = if N ≤ q then q else if cLt (rB σ0 q) = true then adv cLt (rB σ0) N 601 q else if cDg (rB σ0 q) = true then adv cDg (rB σ0) N 601 q else q + 1 := by rw [hq]; rfl
  have hK : tkK (rB σ0) N p = if N ≤ q then 0 else if cLt (rB σ0 q) = true then 1 else if cDg (rB σ0 q) = true then (if tkE (rB σ0) N p ≤ q + 3 then 2 else 4) else if rB σ0 q = 59 then 3 else 4 := by rw [hq]; rfl
  have hV : tkV (rB σ0) N p = dgV (rB σ0) q (tkE (rB σ0) N p - q) := by rw [hq]; rfl
  rw [← hq] at h2 hP
  have d5 : 0 ≤ ti (σ.1 171 5) ∧ ti (σ.1 171 5) ≤ 600 := rdg I kd_171 rfl rfl
  have d6 : 0 ≤ ti (σ.1 171 6) ∧ ti (σ.1 171 6) ≤ 600 := rdg I kd_171 rfl rfl
  intro σ1 e1
  have I1 : zRg σ1 := by rw [e1]; exact wIg (a := 0) (b := 600) I kd_171 rfl rfl d6
  have k1 : Ek σ0 σ1 := h1.tr (Ek_w e1 (by omega))
  have f8 : ti (σ1.1 171 8) = (q : Int) := by rw [e1, zI_s]; exact h2
  have f6 : ti (σ1.1 171 6) = (q : Int) := by rw [e1, zI_q (Or.inr (by decide))]; exact h2
  have f5 : ti (σ1.1 171 5) = (N : Int) := by rw [k1 171 5 (by omega)]; exact hN
  have d51 : 0 ≤ ti (σ1.1 171 5) ∧ ti (σ1.1 171 5) ≤ 600 := rdg I1 kd_171 rfl rfl
  refine ⟨fun q1 => ?_, fun q1 σ16 e16 => ?_⟩
  · have c := lt_t q1
    rw [if_neg (by omega)] at hE hK
    refine b_X4_isLetter _ (by omega) (fun r z => ?_)
    rw [rB_eq k1, f6, show ((q : Nat) : Int).toNat = q by omega] at z
    intro b
    refine ⟨fun q2 => ?_, fun q2 σ12 e12 => ?_⟩
    · have c2 : ¬ cLt (rB σ0 q) = true := fun g => z.mpr g q2
      rw [if_neg c2] at hE hK
      refine b_X4_isDigit _ (by omega) (fun r5 z5 => ?_)
      rw [rB_eq k1, f6, show ((q : Nat) : Int).toNat = q by omega] at z5
      intro b5
      refine ⟨fun q3 => ?_, fun q3 => ?_⟩
      · have c3 : ¬ cDg (rB σ0 q) = true := fun g => z5.mpr g q3
        rw [if_neg c3] at hE hK
        have tn := tn_eq (σ1.1 171 6)
        have e189 : ti (σ1.1 189 (σ1.1 171 6).toNatClampNeg) = rB σ0 q := by
          rw [show (σ1.1 171 6).toNatClampNeg = q by omega, k1 189 q (by omega)]; rfl
        have g : ∀ (σ7 σ8 : zSto) (v : Int32), σ7 = zI σ1 171 7 v → σ8 = zI σ7 171 6 ((σ7.1 171 6) + (1 : Int32)) → ti v = tkK (rB σ0) N p → ti v ≠ 2 → P σ8 := by
          intro σ7 σ8 v e7 e8 hv hv2
          have I7 : zRg σ7 := by rw [e7]; exact wIg I1 kd_171 rfl rfl (full32 _)
          have g6 : ti (σ7.1 171 6) = (q : Int) := by rw [e7, zI_q (Or.inr (by decide))]; exact f6
          have t6 := tadd (x := σ7.1 171 6) (y := (1 : Int32)) (by omega)
          have I8 : zRg σ8 := by rw [e8]; exact wIg (a := 0) (b := 600) I7 kd_171 rfl rfl (by omega)
          refine hP σ8 I8 ⟨(k1.tr (Ek_w e7 (by omega))).tr (Ek_w e8 (by omega)), ?_, ?_, ?_, fun z => by omega⟩
          · rw [e8, zI_q (Or.inr (by decide)), e7, zI_q (Or.inr (by decide))]; exact f8
          · rw [e8, zI_s, hE]; omega
          · rw [e8, zI_q (Or.inr (by decide)), e7, zI_s]; exact hv
        refine ⟨vin (by omega), fun q4 σ7 e7 σ8 e8 => g σ7 σ8 _ e7 e8 ?_ (by omega), fun q4 σ9 e9 σ10 e10 => g σ9 σ10 _ e9 e10 ?_ (by omega)⟩
        · have c4 := ne_t q4
          rw [hK, if_neg (by omega)]; exact l4
        · have c4 := eq_t q4
          rw [hK, if_pos (by omega)]; exact l3
      · have c3 := z5.mp q3
        rw [if_pos c3] at hE hK
        unfold w_X4_takeDigits
        intro σa ea
        have Ia : zRg σa := by rw [ea]; exact wIg I1 kd_171 rfl rfl (full32 _)
        refine ⟨1000, f_X4_takeDigits_5 N (tkE (rB σ0) N p) q hN (fun σ2 I2 u1 u2 u3 u4 u5 => hP σ2 I2 ⟨u1, u2, u3, by rw [u4, hK], fun z => ?_⟩) 1000 q σa Ia (k1.tr (Ek_w ea (by omega))) ?_ (Nat.le_refl _) ?_ hE.symm (fun _ => ⟨?_, ?_⟩) (by omega)⟩
        · rw [hV]
          refine u5 ?_
          by_cases c5 : tkE (rB σ0) N p ≤ q + 3
          · exact c5
          · rw [hK, if_neg c5] at z
            omega
        · rw [ea, zI_q (Or.inr (by decide))]; exact f8
        · rw [ea, zI_q (Or.inr (by decide))]; exact f6
        · rw [ea, zI_s, show q - q = 0 by omega]; exact l0
        · rw [show q - q = 0 by omega]
          show 0 ≤ (0 : Int) ∧ _ ∧ _ ∧ _
          exact ⟨by omega, fun _ => by show (0 : Int) ≤ 0; omega, fun h => by omega, fun h => by omega⟩
    · have c2 := z.mp q2
      rw [if_pos c2] at hE hK
      have I12 : zRg σ12 := by rw [e12]; exact wIg I1 kd_171 rfl rfl (full32 _)
      refine ⟨1000, f_X4_nextToken_95 N (tkE (rB σ0) N p) q hN (fun σ2 I2 u1 u2 u3 u4 => hP σ2 I2 ⟨u1, u2, u3, by rw [u4, hK], fun z => by rw [hK] at z; omega⟩) 1000 q σ12 I12 (k1.tr (Ek_w e12 (by omega))) ?_ ?_ ?_ hE.symm (by omega)⟩
      · rw [e12, zI_q (Or.inr (by decide))]; exact f8
      · rw [e12, zI_s]; exact l1
      · rw [e12, zI_q (Or.inr (by decide))]; exact f6
  · have c := nlt_t q1
    rw [if_pos (by omega)] at hE hK
    have I16 : zRg σ16 := by rw [e16]; exact wIg I1 kd_171 rfl rfl (full32 _)
    refine hP σ16 I16 ⟨k1.tr (Ek_w e16 (by omega)), ?_, ?_, ?_, fun z => by rw [hK] at z; omega⟩
    · rw [e16, zI_q (Or.inr (by decide))]; exact f8
    · rw [e16, zI_q (Or.inr (by decide)), hE]; exact f6
    · rw [e16, zI_s, hK]; exact l0
set_option maxHeartbeats 4000000 in
theorem f_X4_nextToken_0 {σ0 : zSto} (N p : Nat) (hN : ti (σ0.1 171 5) = (N : Int)) (hp : ti (σ0.1 171 6) = (p : Int)) {P : zSto → Prop} (hP : ∀ σ2, zRg σ2 → NT σ0 σ2 → P σ2) : ∀ (k q : Nat) (σ : zSto), zRg σ → Ek σ0 σ → ti (σ.1 171 6) = (q : Int) → adv cBl (rB σ0) N 601 q = tkF (rB σ0) N p → N - q < k → w_X4_nextToken_0 P k σ := by
  have l1 := lit_1
  have l10 := lit_10
  have l32 := lit_32
  intro k
  induction k with
  | zero => intro q σ I h1 h2 h3 h4; exfalso; omega
  | succ k ih =>
    intro q σ I h1 h2 h3 h4
    unfold w_X4_nextToken_0
    have d5 : 0 ≤ ti (σ.1 171 5) ∧ ti (σ.1 171 5) ≤ 600 := rdg I kd_171 rfl rfl
    have d6 : 0 ≤ ti (σ.1 171 6) ∧ ti (σ.1 171 6) ≤ 600 := rdg I kd_171 rfl rfl
    have n5 : ti (σ.1 171 5) = (N : Int) := by rw [h1 171 5 (by omega)]; exact hN
    have tn := tn_eq (σ.1 171 6)
    have e189 : ti (σ.1 189 (σ.1 171 6).toNatClampNeg) = rB σ0 q := by
      rw [show (σ.1 171 6).toNatClampNeg = q by omega, h1 189 q (by omega)]; rfl
    have stop : ¬ (q < N ∧ cBl (rB σ0 q) = true) → ti (σ.1 171 6) = ((tkF (rB σ0) N p : Nat) : Int) := fun c => by rw [← h3, adv_no c]; exact h2
    have go : ∀ σ18 : zSto, σ18 = zI σ 171 6 ((σ.1 171 6) + (1 : Int32)) → q < N → cBl (rB σ0 q) = true → w_X4_nextToken_0 P k σ18 := by
      intro σ18 e18 c1 c2
      have t := tadd (x := σ.1 171 6) (y := (1 : Int32)) (by omega)
      have I18 : zRg σ18 := by rw [e18]; exact wIg (a := 0) (b := 600) I kd_171 rfl rfl (by omega)
      refine ih (q + 1) σ18 I18 (h1.tr (Ek_w e18 (by omega))) ?_ ?_ (by omega)
      · rw [e18, zI_s]; omega
      · rw [adv_step (by omega) ⟨c1, c2⟩]; exact h3
    refine ⟨fun q1 => ?_, fun q1 => ⟨vin (by have := nle_t q1; omega), fun q2 σ18 e18 => ?_, fun q2 => ⟨vin (by have := nle_t q1; omega), fun q3 => ?_, fun q3 σ33 e33 => ?_⟩⟩⟩
    · have c := le_t q1
      exact nt_tail N p hN hp hP I h1 (stop (by omega))
    · have c := nle_t q1
      have c2 := eq_t q2
      exact go σ18 e18 (by omega) (decide_eq_true (by omega))
    · have c2 := ne_t q2
      have c3 := ne_t q3
      exact nt_tail N p hN hp hP I h1 (stop (fun g => by have := of_decide_eq_true g.2; omega))
    · have c := nle_t q1
      have c3 := eq_t q3
      exact go σ33 e33 (by omega) (decide_eq_true (by omega))
theorem f_X4_nextToken {σ : zSto} (I : zRg σ) {P : zSto → Prop} (hP : ∀ σ2, zRg σ2 → NT σ σ2 → P σ2) : w_X4_nextToken σ P := by
  have d5 : 0 ≤ ti (σ.1 171 5) ∧ ti (σ.1 171 5) ≤ 600 := rdg I kd_171 rfl rfl
  have d6 : 0 ≤ ti (σ.1 171 6) ∧ ti (σ.1 171 6) ≤ 600 := rdg I kd_171 rfl rfl
  unfold w_X4_nextToken
  exact ⟨1000, f_X4_nextToken_0 (ti (σ.1 171 5)).toNat (ti (σ.1 171 6)).toNat (by omega) (by omega) hP 1000 (ti (σ.1 171 6)).toNat σ I (fun _ _ _ => rfl) (by omega) rfl (by omega)⟩
