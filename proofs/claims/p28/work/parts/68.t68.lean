/-! A RUN, as numbers. Slots: 0 DELAY, 1 STOVE, 2 SEED, 3 gathered, 10 + r what RIDER r took, 20 + r what he KEEPS, 30 + r whether he pulled, 40 + p who pulls at POST p, 60 + p what is taken there -/
def upI (S : Nat → Int32) (s : Nat) (x : Int32) : Nat → Int32 := fun j => if j = s then x else S j
theorem upI_s {S : Nat → Int32} {s : Nat} {x : Int32} : upI S s x s = x := if_pos rfl
theorem upI_q {S : Nat → Int32} {s j : Nat} {x : Int32} (h : j ≠ s) : upI S s x j = S j := if_neg h
def wnt (cs pd : Nat → Int32) (rd : Nat → Nat → Int32) (S : Nat → Int32) (p r : Nat) : Bool := decide (¬ Int32.ofNat p < rd r 0 ∧ ¬ rd r 1 ≤ Int32.ofNat p ∧ ¬ pd p ≤ 0 ∧ ¬ pd p < rd r 3 ∧ ¬ rd r 2 ≤ S (10 + r) ∧ ¬ rd r 4 < S 0 + cs p)
def nxs (s : Int32) : Int32 := s * (1103515245 : Int32) + (12345 : Int32)
def drw (s n : Int32) : Int32 := (s.toUInt32 >>> ((16 : Int32).toUInt32 &&& Int32.toUInt32 31)).toInt32 - (s.toUInt32 >>> ((16 : Int32).toUInt32 &&& Int32.toUInt32 31)).toInt32 / n * n
/-- who pulls by a LAW, of those who want to: W -/
def pck (law : Int32) (R : Nat) (W : Nat → Bool) (f : Nat → Int32) (S : Nat → Int32) : Int32 :=
  if law = 0 then lstF W R else if law = 1 then lstF (fun r => W r && decide (S (30 + r) = 0)) R else if law = 2 then (if cnF W R = 0 then -1 else lstF (fun r => W r && decide (Int32.ofNat (cnF W r) = drw (nxs (S 2)) (Int32.ofNat (cnF W R)))) R) else if law = 3 then drF W f R else -1
def sd1 (law : Int32) (n : Nat) (S : Nat → Int32) : Nat → Int32 := if law = 2 ∧ n ≠ 0 then upI S 2 (nxs (S 2)) else S
def tkn (a b : Int32) : Int32 := if b ≤ a then b else a
/-- RIDER q pulls at POST p (nobody: -1) -/
def pll (cs pd : Nat → Int32) (rd : Nat → Nat → Int32) (p : Nat) (q : Int32) (S : Nat → Int32) : Nat → Int32 :=
  if q = -1 then upI (upI S (40 + p) (-1)) (60 + p) 0 else
  upI (upI (upI (upI (upI (upI (upI (upI S (40 + p) q) (60 + p) (tkn (pd p) (rd q.toNatClampNeg 2 - S (10 + q.toNatClampNeg)))) (10 + q.toNatClampNeg) (S (10 + q.toNatClampNeg) + tkn (pd p) (rd q.toNatClampNeg 2 - S (10 + q.toNatClampNeg)))) (20 + q.toNatClampNeg) (S (20 + q.toNatClampNeg) + (tkn (pd p) (rd q.toNatClampNeg 2 - S (10 + q.toNatClampNeg)) - tkn (pd p) (rd q.toNatClampNeg 2 - S (10 + q.toNatClampNeg)) / (3 : Int32)))) 1 (S 1 + tkn (pd p) (rd q.toNatClampNeg 2 - S (10 + q.toNatClampNeg)) / (3 : Int32))) (30 + q.toNatClampNeg) 1) 0 (S 0 + cs p)) 3 (S 3 + tkn (pd p) (rd q.toNatClampNeg 2 - S (10 + q.toNatClampNeg)))
def wts (so : Nat → Bool) (cs pd : Nat → Int32) (rd : Nat → Nat → Int32) (S : Nat → Int32) (p : Nat) : Nat → Bool := fun r => so r && wnt cs pd rd S p r
def stp (law : Int32) (R : Nat) (so : Nat → Bool) (cs pd : Nat → Int32) (rd : Nat → Nat → Int32) (p : Nat) (S : Nat → Int32) : Nat → Int32 :=
  pll cs pd rd p (pck law R (wts so cs pd rd S p) (fun r => rd r 5) S) (sd1 law (cnF (wts so cs pd rd S p) R) S)
def S0n (seed : Int32) : Nat → Int32 := fun s => if s = 2 then seed else if 40 ≤ s ∧ s < 56 then -1 else 0
def rnF (law : Int32) (R : Nat) (so : Nat → Bool) (cs pd : Nat → Int32) (rd : Nat → Nat → Int32) (seed : Int32) : Nat → Nat → Int32
  | 0 => S0n seed
  | n + 1 => stp law R so cs pd rd n (rnF law R so cs pd rd seed n)
/-- a rider who is there, or nobody -/
theorem drF_sp (W : Nat → Bool) (f : Nat → Int32) : ∀ n, n < 1000 → drF W f n = -1 ∨ ∃ r, r < n ∧ drF W f n = Int32.ofNat r ∧ W r = true := by
  intro n
  induction n with
  | zero => intro _; exact Or.inl rfl
  | succ n ih =>
    intro hn
    by_cases c : W n = true ∧ (drF W f n = -1 ∨ ¬ f n ≤ f (drF W f n).toNatClampNeg)
    · right
      refine ⟨n, by omega, ?_, c.1⟩
      show (if W n = true ∧ (drF W f n = -1 ∨ ¬ f n ≤ f (drF W f n).toNatClampNeg) then Int32.ofNat n else drF W f n) = _
      rw [if_pos c]
    · have e : drF W f (n + 1) = drF W f n := by
        show (if W n = true ∧ (drF W f n = -1 ∨ ¬ f n ≤ f (drF W f n).toNatClampNeg) then Int32.ofNat n else drF W f n) = _
        rw [if_neg c]
      rw [e]
      rcases ih (by omega) with h | ⟨r, a, b, d⟩
      · exact Or.inl h
      · exact Or.inr ⟨r, by omega, b, d⟩
theorem pck_sp {law : Int32} {R : Nat} (hR : R ≤ 6) {W : Nat → Bool} {f S : Nat → Int32} : pck law R W f S = -1 ∨ ∃ r, r < R ∧ pck law R W f S = Int32.ofNat r ∧ W r = true := by
  unfold pck
  split
  · rcases lstF_sp W R (by omega) with ⟨a, _⟩ | ⟨r, a, b, c, _⟩
    · exact Or.inl a
    · exact Or.inr ⟨r, a, b, c⟩
  split
  · rcases lstF_sp (fun r => W r && decide (S (30 + r) = 0)) R (by omega) with ⟨a, _⟩ | ⟨r, a, b, c, _⟩
    · exact Or.inl a
    · refine Or.inr ⟨r, a, b, ?_⟩
      simp only [Bool.and_eq_true] at c
      exact c.1
  split
  · split
    · exact Or.inl rfl
    · rcases lstF_sp (fun r => W r && decide (Int32.ofNat (cnF W r) = drw (nxs (S 2)) (Int32.ofNat (cnF W R)))) R (by omega) with ⟨a, _⟩ | ⟨r, a, b, c, _⟩
      · exact Or.inl a
      · refine Or.inr ⟨r, a, b, ?_⟩
        simp only [Bool.and_eq_true] at c
        exact c.1
  split
  · rcases drF_sp W f R (by omega) with a | ⟨r, a, b, c⟩
    · exact Or.inl a
    · exact Or.inr ⟨r, a, b, c⟩
  · exact Or.inl rfl
