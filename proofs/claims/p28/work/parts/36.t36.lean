/-! ROWS, as numbers: a told text as a function of slots: 0 to 122 a LINE (posts, riders, halt, eat, grace, bishop, other, five of each post, six of each rider), 200 FAULT, 201 its place, 202 the greatest POST, 300 on a PLAN or LOG (how many, then pairs) -/
def up (st : Nat → Int) (s : Nat) (x : Int) : Nat → Int := fun j => if j = s then x else st j
theorem up_s {st : Nat → Int} {s : Nat} {x : Int} : up st s x s = x := if_pos rfl
theorem up_q {st : Nat → Int} {s j : Nat} {x : Int} (h : j ≠ s) : up st s x j = st j := if_neg h
def nte (st : Nat → Int) (f p : Int) : Nat → Int := if st 200 = 0 then up (up st 200 f) 201 p else st
def chk (st : Nat → Int) (v p l h : Int) : Nat → Int := if v < l ∨ h < v then nte st 2 p else st
theorem nte_q {st : Nat → Int} {f p : Int} {j : Nat} (h : j ≠ 200) (h2 : j ≠ 201) : nte st f p j = st j := by
  unfold nte
  by_cases c : st 200 = 0
  · rw [if_pos c, up_q h2, up_q h]
  · rw [if_neg c]
theorem chk_q {st : Nat → Int} {v p l h : Int} {j : Nat} (h1 : j ≠ 200) (h2 : j ≠ 201) : chk st v p l h j = st j := by
  unfold chk
  by_cases c : v < l ∨ h < v
  · rw [if_pos c, nte_q h1 h2]
  · rw [if_neg c]
theorem nte_nz {st : Nat → Int} {f p : Int} (h : st 200 ≠ 0) : nte st f p = st := if_neg h
theorem chk_nz {st : Nat → Int} {v p l h : Int} (h1 : st 200 ≠ 0) : chk st v p l h = st := by
  unfold chk
  rw [nte_nz h1]
  exact ite_self _
theorem nte_200 {st : Nat → Int} {f p : Int} (hf : f ≠ 0) : nte st f p 200 ≠ 0 := by
  unfold nte
  by_cases c : st 200 = 0
  · rw [if_pos c, up_q (by decide), up_s]; exact hf
  · rw [if_neg c]; exact c
/-- a FAULT stays -/
theorem chk_0 {st : Nat → Int} {v p l h : Int} (z : chk st v p l h 200 = 0) : st 200 = 0 ∧ l ≤ v ∧ v ≤ h := by
  unfold chk at z
  by_cases c : v < l ∨ h < v
  · rw [if_pos c] at z
    exact absurd z (nte_200 (by decide))
  · rw [if_neg c] at z
    exact ⟨z, by omega, by omega⟩
theorem nte_up {st : Nat → Int} {f p x : Int} {s : Nat} (h1 : s ≠ 200) (h2 : s ≠ 201) : nte (up st s x) f p = up (nte st f p) s x := by
  funext j
  unfold nte
  rw [up_q (show 200 ≠ s by omega)]
  by_cases c : st 200 = 0
  · rw [if_pos c, if_pos c]
    unfold up
    by_cases c1 : j = s
    · subst c1; simp [h1, h2]
    · simp [c1]
  · rw [if_neg c, if_neg c]
theorem chk_up {st : Nat → Int} {v p l h x : Int} {s : Nat} (h1 : s ≠ 200) (h2 : s ≠ 201) : chk (up st s x) v p l h = up (chk st v p l h) s x := by
  unfold chk
  by_cases c : v < l ∨ h < v
  · rw [if_pos c, if_pos c, nte_up h1 h2]
  · rw [if_neg c, if_neg c]
/-- what a row tells: v its NUMBERS, p their places, w the word's place -/
def apP (st v p : Nat → Int) (w : Int) : Nat → Int :=
  if st 0 < 16 then up (up (up (up (chk (chk (chk st (v 0) (p 0) 1 30) (v 1) (p 1) 0 3) (v 2) (p 2) 0 30) (7 + 5 * (st 0).toNat + 0) (v 0)) (7 + 5 * (st 0).toNat + 1) (v 1)) (7 + 5 * (st 0).toNat + 2) (v 2)) 0 (st 0 + 1) else nte st 3 w
def mxI (a b : Int) : Int := if a < b then b else a
def apR (st v p : Nat → Int) (w : Int) : Nat → Int :=
  if st 1 < 6 then up (up (up (up (up (up (up (up (chk (chk (chk (chk (chk (chk st (v 0) (p 0) 0 15) (v 1) (p 1) (v 0 + 1) 15) (v 2) (p 2) 1 60) (v 3) (p 3) 1 30) (v 4) (p 4) 0 200) (v 5) (p 5) 0 9) (87 + 6 * (st 1).toNat + 0) (v 0)) (87 + 6 * (st 1).toNat + 1) (v 1)) 202 (mxI (st 202) (v 1))) (87 + 6 * (st 1).toNat + 2) (v 2)) (87 + 6 * (st 1).toNat + 3) (v 3)) (87 + 6 * (st 1).toNat + 4) (v 4)) (87 + 6 * (st 1).toNat + 5) (v 5)) 1 (st 1 + 1) else nte st 3 w
def apO (q : Nat) (h : Int) (st v p : Nat → Int) : Nat → Int :=
  if v 0 < 16 then up (up (chk (chk st (v 0) (p 0) 0 15) (v 1) (p 1) 0 h) 202 (mxI (st 202) (v 0))) (7 + 5 * (v 0).toNat + q) (v 1) else up (chk (chk st (v 0) (p 0) 0 15) (v 1) (p 1) 0 h) 202 (mxI (st 202) (v 0))
def apW (s : Nat) (l h : Int) (st v p : Nat → Int) : Nat → Int := up (chk st (v 0) (p 0) l h) s (v 0)
def apX (m h : Int) (st v p : Nat → Int) (w : Int) : Nat → Int :=
  if st 300 < m then up (up (up (chk (chk st (v 0) (p 0) 0 15) (v 1) (p 1) 0 h) (301 + 2 * (st 300).toNat + 0) (v 0)) (301 + 2 * (st 300).toNat + 1) (v 1)) 300 (st 300 + 1) else nte st 3 w
/-- by the word's code: 0 post, 1 rider, 2 station, 3 odds, 4 halt, 5 eat, 6 grace, 7 bishop, 8 other, 9 pull, 10 seen -/
def ap (c : Int) (st v p : Nat → Int) (w : Int) : Nat → Int :=
  if c = 0 then apP st v p w else if c = 1 then apR st v p w else if c = 2 then apO 4 999 st v p else if c = 3 then apO 3 10 st v p else if c = 4 then apW 2 1 9 st v p else if c = 5 then apW 3 0 9 st v p else if c = 6 then apW 4 0 60 st v p else if c = 7 then apW 5 0 9 st v p else if c = 8 then apW 6 0 999 st v p else if c = 9 then apX 16 5 st v p w else apX 10 999 st v p w
def hmN (c : Int) : Nat := if c = 0 then 3 else if c = 1 then 6 else if c = 2 ∨ c = 3 ∨ c = 9 ∨ c = 10 then 2 else 1
/-- the word's code, of the text's sort and the word as a number -/
def wcd (o W : Int) : Int :=
  if o = 1 then (if W = 1886743660 then 9 else -1) else if o = 2 then (if W = 1936024942 then 10 else -1) else if W = 1886352244 then 0 else if W = 491394458994 then 1 else if W = 32497584235442030 then 2 else if W = 1868850291 then 3 else if W = 1751215220 then 4 else if W = 6644084 then 5 else if W = 444300616549 then 6 else if W = 108205047312240 then 7 else if W = 478694368626 then 8 else -1
/-- m NUMBERS from p on: all there; where they end, or fail -/
def alN (B : Nat → Int) (n : Nat) : Nat → Nat → Bool
  | 0, _ => true
  | m + 1, p => decide (tkK B n p = 2) && alN B n m (tkE B n p)
def rbN (B : Nat → Int) (n : Nat) : Nat → Nat → Nat
  | 0, p => p
  | m + 1, p => if tkK B n p = 2 then rbN B n m (tkE B n p) else p
def nP (B : Nat → Int) (n p : Nat) : Nat → Nat
  | 0 => p
  | i + 1 => tkE B n (nP B n p i)
def fl (st : Nat → Int) (p : Nat) : Nat → Int := up (up st 200 1) 201 (p : Int)
def wcN (o : Int) (B : Nat → Int) (n p : Nat) : Int := if tkK B n p = 1 then wcd o (tkW B n p) else -1
/-- the rows from p on -/
def RD (o : Int) (B : Nat → Int) (n : Nat) : Nat → Nat → (Nat → Int) → (Nat → Int)
  | 0, _, st => st
  | f + 1, p, st => if tkK B n p = 0 then st else if wcN o B n p = -1 then fl st (tkF B n p) else
      if alN B n (hmN (wcN o B n p)) (tkE B n p) = true ∧ tkK B n (rbN B n (hmN (wcN o B n p)) (tkE B n p)) = 3 then RD o B n f (tkE B n (rbN B n (hmN (wcN o B n p)) (tkE B n p))) (ap (wcN o B n p) st (fun i => tkV B n (nP B n (tkE B n p) i)) (fun i => (tkF B n (nP B n (tkE B n p) i) : Nat)) (tkF B n p : Nat)) else fl st (tkF B n (rbN B n (hmN (wcN o B n p)) (tkE B n p)))
