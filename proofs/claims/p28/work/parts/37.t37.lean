/-! WORDS -/
def wch (i j : Nat) : Int := (zch i j).toInt
theorem wch_v : ∀ i : Fin 11, ∀ j : Fin 8, j.val < zlen.getD i.val 0 → ((((zch i.val j.val) &&& (255 : Int32)).toUInt32 % 65536).toInt32).toInt = wch i.val j.val := by decide
def wvl (i : Nat) : Int := if i = 0 then 1886743660 else if i = 1 then 1936024942 else if i = 2 then 1886352244 else if i = 3 then 491394458994 else if i = 4 then 32497584235442030 else if i = 5 then 1868850291 else if i = 6 then 1751215220 else if i = 7 then 6644084 else if i = 8 then 444300616549 else if i = 9 then 108205047312240 else if i = 10 then 478694368626 else 0
theorem wdV_n1 (B : Nat → Int) (F : Nat) : wdV B F 1 = 256 * 0 + B (F + 0) := rfl
theorem wdV_n2 (B : Nat → Int) (F : Nat) : wdV B F 2 = 256 * (256 * 0 + B (F + 0)) + B (F + 1) := rfl
theorem wdV_n3 (B : Nat → Int) (F : Nat) : wdV B F 3 = 256 * (256 * (256 * 0 + B (F + 0)) + B (F + 1)) + B (F + 2) := rfl
theorem wdV_n4 (B : Nat → Int) (F : Nat) : wdV B F 4 = 256 * (256 * (256 * (256 * 0 + B (F + 0)) + B (F + 1)) + B (F + 2)) + B (F + 3) := rfl
theorem wdV_n5 (B : Nat → Int) (F : Nat) : wdV B F 5 = 256 * (256 * (256 * (256 * (256 * 0 + B (F + 0)) + B (F + 1)) + B (F + 2)) + B (F + 3)) + B (F + 4) := rfl
theorem wdV_n6 (B : Nat → Int) (F : Nat) : wdV B F 6 = 256 * (256 * (256 * (256 * (256 * (256 * 0 + B (F + 0)) + B (F + 1)) + B (F + 2)) + B (F + 3)) + B (F + 4)) + B (F + 5) := rfl
theorem wdV_n7 (B : Nat → Int) (F : Nat) : wdV B F 7 = 256 * (256 * (256 * (256 * (256 * (256 * (256 * 0 + B (F + 0)) + B (F + 1)) + B (F + 2)) + B (F + 3)) + B (F + 4)) + B (F + 5)) + B (F + 6) := rfl
theorem wdV_n8 (B : Nat → Int) (F : Nat) : wdV B F 8 = 256 * (256 * (256 * (256 * (256 * (256 * (256 * (256 * 0 + B (F + 0)) + B (F + 1)) + B (F + 2)) + B (F + 3)) + B (F + 4)) + B (F + 5)) + B (F + 6)) + B (F + 7) := rfl
set_option maxHeartbeats 4000000 in
theorem wd_0 {B : Nat → Int} {F L : Nat} (hL : 1 ≤ L) (hB : ∀ j, j < L → 97 ≤ B (F + j) ∧ B (F + j) ≤ 122) : (if L ≤ 8 then wdV B F L else 0) = wvl 0 ↔ (L = zlen.getD 0 0 ∧ ∀ j, j < zlen.getD 0 0 → B (F + j) = wch 0 j) := by
  have C : wvl 0 = 1886743660 := by decide
  have Z : zlen.getD 0 0 = 4 := by decide
  have w0 : wch 0 0 = 112 := by decide
  have w1 : wch 0 1 = 117 := by decide
  have w2 : wch 0 2 = 108 := by decide
  have w3 : wch 0 3 = 108 := by decide
  rw [C, Z]
  constructor
  · intro h
    by_cases c : L ≤ 8
    · rw [if_pos c] at h
      rcases (show L = 1 ∨ L = 2 ∨ L = 3 ∨ L = 4 ∨ L = 5 ∨ L = 6 ∨ L = 7 ∨ L = 8 by omega) with e | e | e | e | e | e | e | e
      · subst e
        rw [wdV_n1] at h
        have b0 := hB 0 (by decide)
        exfalso
        omega
      · subst e
        rw [wdV_n2] at h
        have b0 := hB 0 (by decide)
        have b1 := hB 1 (by decide)
        exfalso
        omega
      · subst e
        rw [wdV_n3] at h
        have b0 := hB 0 (by decide)
        have b1 := hB 1 (by decide)
        have b2 := hB 2 (by decide)
        exfalso
        omega
      · subst e
        rw [wdV_n4] at h
        have b0 := hB 0 (by decide)
        have b1 := hB 1 (by decide)
        have b2 := hB 2 (by decide)
        have b3 := hB 3 (by decide)
        refine ⟨rfl, fun j hj => ?_⟩
        rcases (show j = 0 ∨ j = 1 ∨ j = 2 ∨ j = 3 by omega) with e | e | e | e
        · subst e; rw [w0]; omega
        · subst e; rw [w1]; omega
        · subst e; rw [w2]; omega
        · subst e; rw [w3]; omega
      · subst e
        rw [wdV_n5] at h
        have b0 := hB 0 (by decide)
        have b1 := hB 1 (by decide)
        have b2 := hB 2 (by decide)
        have b3 := hB 3 (by decide)
        have b4 := hB 4 (by decide)
        exfalso
        omega
      · subst e
        rw [wdV_n6] at h
        have b0 := hB 0 (by decide)
        have b1 := hB 1 (by decide)
        have b2 := hB 2 (by decide)
        have b3 := hB 3 (by decide)
        have b4 := hB 4 (by decide)
        have b5 := hB 5 (by decide)
        exfalso
        omega
      · subst e
        rw [wdV_n7] at h
        have b0 := hB 0 (by decide)
        have b1 := hB 1 (by decide)
        have b2 := hB 2 (by decide)
        have b3 := hB 3 (by decide)
        have b4 := hB 4 (by decide)
        have b5 := hB 5 (by decide)
        have b6 := hB 6 (by decide)
        exfalso
        omega
      · subst e
        rw [wdV_n8] at h
        have b0 := hB 0 (by decide)
        have b1 := hB 1 (by decide)
        have b2 := hB 2 (by decide)
        have b3 := hB 3 (by decide)
        have b4 := hB 4 (by decide)
        have b5 := hB 5 (by decide)
        have b6 := hB 6 (by decide)
        have b7 := hB 7 (by decide)
        exfalso
        omega
    · rw [if_neg c] at h
      exact absurd h (by decide)
  · intro g
    obtain ⟨e, g⟩ := g
    subst e
    rw [if_pos (by decide), wdV_n4]
    have g0 := g 0 (by decide)
    rw [w0] at g0
    have g1 := g 1 (by decide)
    rw [w1] at g1
    have g2 := g 2 (by decide)
    rw [w2] at g2
    have g3 := g 3 (by decide)
    rw [w3] at g3
    omega
set_option maxHeartbeats 4000000 in
theorem wd_1 {B : Nat → Int} {F L : Nat} (hL : 1 ≤ L) (hB : ∀ j, j < L → 97 ≤ B (F + j) ∧ B (F + j) ≤ 122) : (if L ≤ 8 then wdV B F L else 0) = wvl 1 ↔ (L = zlen.getD 1 0 ∧ ∀ j, j < zlen.getD 1 0 → B (F + j) = wch 1 j) := by
  have C : wvl 1 = 1936024942 := by decide
  have Z : zlen.getD 1 0 = 4 := by decide
  have w0 : wch 1 0 = 115 := by decide
  have w1 : wch 1 1 = 101 := by decide
  have w2 : wch 1 2 = 101 := by decide
  have w3 : wch 1 3 = 110 := by decide
  rw [C, Z]
  constructor
  · intro h
    by_cases c : L ≤ 8
    · rw [if_pos c] at h
      rcases (show L = 1 ∨ L = 2 ∨ L = 3 ∨ L = 4 ∨ L = 5 ∨ L = 6 ∨ L = 7 ∨ L = 8 by omega) with e | e | e | e | e | e | e | e
      · subst e
        rw [wdV_n1] at h
        have b0 := hB 0 (by decide)
        exfalso
        omega
      · subst e
        rw [wdV_n2] at h
        have b0 := hB 0 (by decide)
        have b1 := hB 1 (by decide)
        exfalso
        omega
      · subst e
        rw [wdV_n3] at h
        have b0 := hB 0 (by decide)
        have b1 := hB 1 (by decide)
        have b2 := hB 2 (by decide)
        exfalso
        omega
      · subst e
        rw [wdV_n4] at h
        have b0 := hB 0 (by decide)
        have b1 := hB 1 (by decide)
        have b2 := hB 2 (by decide)
        have b3 := hB 3 (by decide)
        refine ⟨rfl, fun j hj => ?_⟩
        rcases (show j = 0 ∨ j = 1 ∨ j = 2 ∨ j = 3 by omega) with e | e | e | e
        · subst e; rw [w0]; omega
        · subst e; rw [w1]; omega
        · subst e; rw [w2]; omega
        · subst e; rw [w3]; omega
      · subst e
        rw [wdV_n5] at h
        have b0 := hB 0 (by decide)
        have b1 := hB 1 (by decide)
        have b2 := hB 2 (by decide)
        have b3 := hB 3 (by decide)
        have b4 := hB 4 (by decide)
        exfalso
        omega
      · subst e
        rw [wdV_n6] at h
        have b0 := hB 0 (by decide)
        have b1 := hB 1 (by decide)
        have b2 := hB 2 (by decide)
        have b3 := hB 3 (by decide)
        have b4 := hB 4 (by decide)
        have b5 := hB 5 (by decide)
        exfalso
        omega
      · subst e
        rw [wdV_n7] at h
        have b0 := hB 0 (by decide)
        have b1 := hB 1 (by decide)
        have b2 := hB 2 (by decide)
        have b3 := hB 3 (by decide)
        have b4 := hB 4 (by decide)
        have b5 := hB 5 (by decide)
        have b6 := hB 6 (by decide)
        exfalso
        omega
      · subst e
        rw [wdV_n8] at h
        have b0 := hB 0 (by decide)
        have b1 := hB 1 (by decide)
        have b2 := hB 2 (by decide)
        have b3 := hB 3 (by decide)
        have b4 := hB 4 (by decide)
        have b5 := hB 5 (by decide)
        have b6 := hB 6 (by decide)
        have b7 := hB 7 (by decide)
        exfalso
        omega
    · rw [if_neg c] at h
      exact absurd h (by decide)
  · intro g
    obtain ⟨e, g⟩ := g
    subst e
    rw [if_pos (by decide), wdV_n4]
    have g0 := g 0 (by decide)
    rw [w0] at g0
    have g1 := g 1 (by decide)
    rw [w1] at g1
    have g2 := g 2 (by decide)
    rw [w2] at g2
    have g3 := g 3 (by decide)
    rw [w3] at g3
    omega
set_option maxHeartbeats 4000000 in
theorem wd_2 {B : Nat → Int} {F L : Nat} (hL : 1 ≤ L) (hB : ∀ j, j < L → 97 ≤ B (F + j) ∧ B (F + j) ≤ 122) : (if L ≤ 8 then wdV B F L else 0) = wvl 2 ↔ (L = zlen.getD 2 0 ∧ ∀ j, j < zlen.getD 2 0 → B (F + j) = wch 2 j) := by
  have C : wvl 2 = 1886352244 := by decide
  have Z : zlen.getD 2 0 = 4 := by decide
  have w0 : wch 2 0 = 112 := by decide
  have w1 : wch 2 1 = 111 := by decide
  have w2 : wch 2 2 = 115 := by decide
  have w3 : wch 2 3 = 116 := by decide
  rw [C, Z]
  constructor
  · intro h
    by_cases c : L ≤ 8
    · rw [if_pos c] at h
      rcases (show L = 1 ∨ L = 2 ∨ L = 3 ∨ L = 4 ∨ L = 5 ∨ L = 6 ∨ L = 7 ∨ L = 8 by omega) with e | e | e | e | e | e | e | e
      · subst e
        rw [wdV_n1] at h
        have b0 := hB 0 (by decide)
        exfalso
        omega
      · subst e
        rw [wdV_n2] at h
        have b0 := hB 0 (by decide)
        have b1 := hB 1 (by decide)
        exfalso
        omega
      · subst e
        rw [wdV_n3] at h
        have b0 := hB 0 (by decide)
        have b1 := hB 1 (by decide)
        have b2 := hB 2 (by decide)
        exfalso
        omega
      · subst e
        rw [wdV_n4] at h
        have b0 := hB 0 (by decide)
        have b1 := hB 1 (by decide)
        have b2 := hB 2 (by decide)
        have b3 := hB 3 (by decide)
        refine ⟨rfl, fun j hj => ?_⟩
        rcases (show j = 0 ∨ j = 1 ∨ j = 2 ∨ j = 3 by omega) with e | e | e | e
        · subst e; rw [w0]; omega
        · subst e; rw [w1]; omega
        · subst e; rw [w2]; omega
        · subst e; rw [w3]; omega
      · subst e
        rw [wdV_n5] at h
        have b0 := hB 0 (by decide)
        have b1 := hB 1 (by decide)
        have b2 := hB 2 (by decide)
        have b3 := hB 3 (by decide)
        have b4 := hB 4 (by decide)
        exfalso
        omega
      · subst e
        rw [wdV_n6] at h
        have b0 := hB 0 (by decide)
        have b1 := hB 1 (by decide)
        have b2 := hB 2 (by decide)
        have b3 := hB 3 (by decide)
        have b4 := hB 4 (by decide)
        have b5 := hB 5 (by decide)
        exfalso
        omega
      · subst e
        rw [wdV_n7] at h
        have b0 := hB 0 (by decide)
        have b1 := hB 1 (by decide)
        have b2 := hB 2 (by decide)
        have b3 := hB 3 (by decide)
        have b4 := hB 4 (by decide)
        have b5 := hB 5 (by decide)
        have b6 := hB 6 (by decide)
        exfalso
        omega
      · subst e
        rw [wdV_n8] at h
        have b0 := hB 0 (by decide)
        have b1 := hB 1 (by decide)
        have b2 := hB 2 (by decide)
        have b3 := hB 3 (by decide)
        have b4 := hB 4 (by decide)
        have b5 := hB 5 (by decide)
        have b6 := hB 6 (by decide)
        have b7 := hB 7 (by decide)
        exfalso
        omega
    · rw [if_neg c] at h
      exact absurd h (by decide)
  · intro g
    obtain ⟨e, g⟩ := g
    subst e
    rw [if_pos (by decide), wdV_n4]
    have g0 := g 0 (by decide)
    rw [w0] at g0
    have g1 := g 1 (by decide)
    rw [w1] at g1
    have g2 := g 2 (by decide)
    rw [w2] at g2
    have g3 := g 3 (by decide)
    rw [w3] at g3
    omega
set_option maxHeartbeats 4000000 in
theorem wd_3 {B : Nat → Int} {F L : Nat} (hL : 1 ≤ L) (hB : ∀ j, j < L → 97 ≤ B (F + j) ∧ B (F + j) ≤ 122) : (if L ≤ 8 then wdV B F L else 0) = wvl 3 ↔ (L = zlen.getD 3 0 ∧ ∀ j, j < zlen.getD 3 0 → B (F + j) = wch 3 j) := by
  have C : wvl 3 = 491394458994 := by decide
  have Z : zlen.getD 3 0 = 5 := by decide
  have w0 : wch 3 0 = 114 := by decide
  have w1 : wch 3 1 = 105 := by decide
  have w2 : wch 3 2 = 100 := by decide
  have w3 : wch 3 3 = 101 := by decide
  have w4 : wch 3 4 = 114 := by decide
  rw [C, Z]
  constructor
  · intro h
    by_cases c : L ≤ 8
    · rw [if_pos c] at h
      rcases (show L = 1 ∨ L = 2 ∨ L = 3 ∨ L = 4 ∨ L = 5 ∨ L = 6 ∨ L = 7 ∨ L = 8 by omega) with e | e | e | e | e | e | e | e
      · subst e
        rw [wdV_n1] at h
        have b0 := hB 0 (by decide)
        exfalso
        omega
      · subst e
        rw [wdV_n2] at h
        have b0 := hB 0 (by decide)
        have b1 := hB 1 (by decide)
        exfalso
        omega
      · subst e
        rw [wdV_n3] at h
        have b0 := hB 0 (by decide)
        have b1 := hB 1 (by decide)
        have b2 := hB 2 (by decide)
        exfalso
        omega
      · subst e
        rw [wdV_n4] at h
        have b0 := hB 0 (by decide)
        have b1 := hB 1 (by decide)
        have b2 := hB 2 (by decide)
        have b3 := hB 3 (by decide)
        exfalso
        omega
      · subst e
        rw [wdV_n5] at h
        have b0 := hB 0 (by decide)
        have b1 := hB 1 (by decide)
        have b2 := hB 2 (by decide)
        have b3 := hB 3 (by decide)
        have b4 := hB 4 (by decide)
        refine ⟨rfl, fun j hj => ?_⟩
        rcases (show j = 0 ∨ j = 1 ∨ j = 2 ∨ j = 3 ∨ j = 4 by omega) with e | e | e | e | e
        · subst e; rw [w0]; omega
        · subst e; rw [w1]; omega
        · subst e; rw [w2]; omega
        · subst e; rw [w3]; omega
        · subst e; rw [w4]; omega
      · subst e
        rw [wdV_n6] at h
        have b0 := hB 0 (by decide)
        have b1 := hB 1 (by decide)
        have b2 := hB 2 (by decide)
        have b3 := hB 3 (by decide)
        have b4 := hB 4 (by decide)
        have b5 := hB 5 (by decide)
        exfalso
        omega
      · subst e
        rw [wdV_n7] at h
        have b0 := hB 0 (by decide)
        have b1 := hB 1 (by decide)
        have b2 := hB 2 (by decide)
        have b3 := hB 3 (by decide)
        have b4 := hB 4 (by decide)
        have b5 := hB 5 (by decide)
        have b6 := hB 6 (by decide)
        exfalso
        omega
      · subst e
        rw [wdV_n8] at h
        have b0 := hB 0 (by decide)
        have b1 := hB 1 (by decide)
        have b2 := hB 2 (by decide)
        have b3 := hB 3 (by decide)
        have b4 := hB 4 (by decide)
        have b5 := hB 5 (by decide)
        have b6 := hB 6 (by decide)
        have b7 := hB 7 (by decide)
        exfalso
        omega
    · rw [if_neg c] at h
      exact absurd h (by decide)
  · intro g
    obtain ⟨e, g⟩ := g
    subst e
    rw [if_pos (by decide), wdV_n5]
    have g0 := g 0 (by decide)
    rw [w0] at g0
    have g1 := g 1 (by decide)
    rw [w1] at g1
    have g2 := g 2 (by decide)
    rw [w2] at g2
    have g3 := g 3 (by decide)
    rw [w3] at g3
    have g4 := g 4 (by decide)
    rw [w4] at g4
    omega
set_option maxHeartbeats 4000000 in
theorem wd_4 {B : Nat → Int} {F L : Nat} (hL : 1 ≤ L) (hB : ∀ j, j < L → 97 ≤ B (F + j) ∧ B (F + j) ≤ 122) : (if L ≤ 8 then wdV B F L else 0) = wvl 4 ↔ (L = zlen.getD 4 0 ∧ ∀ j, j < zlen.getD 4 0 → B (F + j) = wch 4 j) := by
  have C : wvl 4 = 32497584235442030 := by decide
  have Z : zlen.getD 4 0 = 7 := by decide
  have w0 : wch 4 0 = 115 := by decide
  have w1 : wch 4 1 = 116 := by decide
  have w2 : wch 4 2 = 97 := by decide
  have w3 : wch 4 3 = 116 := by decide
  have w4 : wch 4 4 = 105 := by decide
  have w5 : wch 4 5 = 111 := by decide
  have w6 : wch 4 6 = 110 := by decide
  rw [C, Z]
  constructor
  · intro h
    by_cases c : L ≤ 8
    · rw [if_pos c] at h
      rcases (show L = 1 ∨ L = 2 ∨ L = 3 ∨ L = 4 ∨ L = 5 ∨ L = 6 ∨ L = 7 ∨ L = 8 by omega) with e | e | e | e | e | e | e | e
      · subst e
        rw [wdV_n1] at h
        have b0 := hB 0 (by decide)
        exfalso
        omega
      · subst e
        rw [wdV_n2] at h
        have b0 := hB 0 (by decide)
        have b1 := hB 1 (by decide)
        exfalso
        omega
      · subst e
        rw [wdV_n3] at h
        have b0 := hB 0 (by decide)
        have b1 := hB 1 (by decide)
        have b2 := hB 2 (by decide)
        exfalso
        omega
      · subst e
        rw [wdV_n4] at h
        have b0 := hB 0 (by decide)
        have b1 := hB 1 (by decide)
        have b2 := hB 2 (by decide)
        have b3 := hB 3 (by decide)
        exfalso
        omega
      · subst e
        rw [wdV_n5] at h
        have b0 := hB 0 (by decide)
        have b1 := hB 1 (by decide)
        have b2 := hB 2 (by decide)
        have b3 := hB 3 (by decide)
        have b4 := hB 4 (by decide)
        exfalso
        omega
      · subst e
        rw [wdV_n6] at h
        have b0 := hB 0 (by decide)
        have b1 := hB 1 (by decide)
        have b2 := hB 2 (by decide)
        have b3 := hB 3 (by decide)
        have b4 := hB 4 (by decide)
        have b5 := hB 5 (by decide)
        exfalso
        omega
      · subst e
        rw [wdV_n7] at h
        have b0 := hB 0 (by decide)
        have b1 := hB 1 (by decide)
        have b2 := hB 2 (by decide)
        have b3 := hB 3 (by decide)
        have b4 := hB 4 (by decide)
        have b5 := hB 5 (by decide)
        have b6 := hB 6 (by decide)
        refine ⟨rfl, fun j hj => ?_⟩
        rcases (show j = 0 ∨ j = 1 ∨ j = 2 ∨ j = 3 ∨ j = 4 ∨ j = 5 ∨ j = 6 by omega) with e | e | e | e | e | e | e
        · subst e; rw [w0]; omega
        · subst e; rw [w1]; omega
        · subst e; rw [w2]; omega
        · subst e; rw [w3]; omega
        · subst e; rw [w4]; omega
        · subst e; rw [w5]; omega
        · subst e; rw [w6]; omega
      · subst e
        rw [wdV_n8] at h
        have b0 := hB 0 (by decide)
        have b1 := hB 1 (by decide)
        have b2 := hB 2 (by decide)
        have b3 := hB 3 (by decide)
        have b4 := hB 4 (by decide)
        have b5 := hB 5 (by decide)
        have b6 := hB 6 (by decide)
        have b7 := hB 7 (by decide)
        exfalso
        omega
    · rw [if_neg c] at h
      exact absurd h (by decide)
  · intro g
    obtain ⟨e, g⟩ := g
    subst e
    rw [if_pos (by decide), wdV_n7]
    have g0 := g 0 (by decide)
    rw [w0] at g0
    have g1 := g 1 (by decide)
    rw [w1] at g1
    have g2 := g 2 (by decide)
    rw [w2] at g2
    have g3 := g 3 (by decide)
    rw [w3] at g3
    have g4 := g 4 (by decide)
    rw [w4] at g4
    have g5 := g 5 (by decide)
    rw [w5] at g5
    have g6 := g 6 (by decide)
    rw [w6] at g6
    omega
set_option maxHeartbeats 4000000 in
theorem wd_5 {B : Nat → Int} {F L : Nat} (hL : 1 ≤ L) (hB : ∀ j, j < L → 97 ≤ B (F + j) ∧ B (F + j) ≤ 122) : (if L ≤ 8 then wdV B F L else 0) = wvl 5 ↔ (L = zlen.getD 5 0 ∧ ∀ j, j < zlen.getD 5 0 → B (F + j) = wch 5 j) := by
  have C : wvl 5 = 1868850291 := by decide
  have Z : zlen.getD 5 0 = 4 := by decide
  have w0 : wch 5 0 = 111 := by decide
  have w1 : wch 5 1 = 100 := by decide
  have w2 : wch 5 2 = 100 := by decide
  have w3 : wch 5 3 = 115 := by decide
  rw [C, Z]
  constructor
  · intro h
    by_cases c : L ≤ 8
    · rw [if_pos c] at h
      rcases (show L = 1 ∨ L = 2 ∨ L = 3 ∨ L = 4 ∨ L = 5 ∨ L = 6 ∨ L = 7 ∨ L = 8 by omega) with e | e | e | e | e | e | e | e
      · subst e
        rw [wdV_n1] at h
        have b0 := hB 0 (by decide)
        exfalso
        omega
      · subst e
        rw [wdV_n2] at h
        have b0 := hB 0 (by decide)
        have b1 := hB 1 (by decide)
        exfalso
        omega
      · subst e
        rw [wdV_n3] at h
        have b0 := hB 0 (by decide)
        have b1 := hB 1 (by decide)
        have b2 := hB 2 (by decide)
        exfalso
        omega
      · subst e
        rw [wdV_n4] at h
        have b0 := hB 0 (by decide)
        have b1 := hB 1 (by decide)
        have b2 := hB 2 (by decide)
        have b3 := hB 3 (by decide)
        refine ⟨rfl, fun j hj => ?_⟩
        rcases (show j = 0 ∨ j = 1 ∨ j = 2 ∨ j = 3 by omega) with e | e | e | e
        · subst e; rw [w0]; omega
        · subst e; rw [w1]; omega
        · subst e; rw [w2]; omega
        · subst e; rw [w3]; omega
      · subst e
        rw [wdV_n5] at h
        have b0 := hB 0 (by decide)
        have b1 := hB 1 (by decide)
        have b2 := hB 2 (by decide)
        have b3 := hB 3 (by decide)
        have b4 := hB 4 (by decide)
        exfalso
        omega
      · subst e
        rw [wdV_n6] at h
        have b0 := hB 0 (by decide)
        have b1 := hB 1 (by decide)
        have b2 := hB 2 (by decide)
        have b3 := hB 3 (by decide)
        have b4 := hB 4 (by decide)
        have b5 := hB 5 (by decide)
        exfalso
        omega
      · subst e
        rw [wdV_n7] at h
        have b0 := hB 0 (by decide)
        have b1 := hB 1 (by decide)
        have b2 := hB 2 (by decide)
        have b3 := hB 3 (by decide)
        have b4 := hB 4 (by decide)
        have b5 := hB 5 (by decide)
        have b6 := hB 6 (by decide)
        exfalso
        omega
      · subst e
        rw [wdV_n8] at h
        have b0 := hB 0 (by decide)
        have b1 := hB 1 (by decide)
        have b2 := hB 2 (by decide)
        have b3 := hB 3 (by decide)
        have b4 := hB 4 (by decide)
        have b5 := hB 5 (by decide)
        have b6 := hB 6 (by decide)
        have b7 := hB 7 (by decide)
        exfalso
        omega
    · rw [if_neg c] at h
      exact absurd h (by decide)
  · intro g
    obtain ⟨e, g⟩ := g
    subst e
    rw [if_pos (by decide), wdV_n4]
    have g0 := g 0 (by decide)
    rw [w0] at g0
    have g1 := g 1 (by decide)
    rw [w1] at g1
    have g2 := g 2 (by decide)
    rw [w2] at g2
    have g3 := g 3 (by decide)
    rw [w3] at g3
    omega
set_option maxHeartbeats 4000000 in
theorem wd_6 {B : Nat → Int} {F L : Nat} (hL : 1 ≤ L) (hB : ∀ j, j < L → 97 ≤ B (F + j) ∧ B (F + j) ≤ 122) : (if L ≤ 8 then wdV B F L else 0) = wvl 6 ↔ (L = zlen.getD 6 0 ∧ ∀ j, j < zlen.getD 6 0 → B (F + j) = wch 6 j) := by
  have C : wvl 6 = 1751215220 := by decide
  have Z : zlen.getD 6 0 = 4 := by decide
  have w0 : wch 6 0 = 104 := by decide
  have w1 : wch 6 1 = 97 := by decide
  have w2 : wch 6 2 = 108 := by decide
  have w3 : wch 6 3 = 116 := by decide
  rw [C, Z]
  constructor
  · intro h
    by_cases c : L ≤ 8
    · rw [if_pos c] at h
      rcases (show L = 1 ∨ L = 2 ∨ L = 3 ∨ L = 4 ∨ L = 5 ∨ L = 6 ∨ L = 7 ∨ L = 8 by omega) with e | e | e | e | e | e | e | e
      · subst e
        rw [wdV_n1] at h
        have b0 := hB 0 (by decide)
        exfalso
        omega
      · subst e
        rw [wdV_n2] at h
        have b0 := hB 0 (by decide)
        have b1 := hB 1 (by decide)
        exfalso
        omega
      · subst e
        rw [wdV_n3] at h
        have b0 := hB 0 (by decide)
        have b1 := hB 1 (by decide)
        have b2 := hB 2 (by decide)
        exfalso
        omega
      · subst e
        rw [wdV_n4] at h
        have b0 := hB 0 (by decide)
        have b1 := hB 1 (by decide)
        have b2 := hB 2 (by decide)
        have b3 := hB 3 (by decide)
        refine ⟨rfl, fun j hj => ?_⟩
        rcases (show j = 0 ∨ j = 1 ∨ j = 2 ∨ j = 3 by omega) with e | e | e | e
        · subst e; rw [w0]; omega
        · subst e; rw [w1]; omega
        · subst e; rw [w2]; omega
        · subst e; rw [w3]; omega
      · subst e
        rw [wdV_n5] at h
        have b0 := hB 0 (by decide)
        have b1 := hB 1 (by decide)
        have b2 := hB 2 (by decide)
        have b3 := hB 3 (by decide)
        have b4 := hB 4 (by decide)
        exfalso
        omega
      · subst e
        rw [wdV_n6] at h
        have b0 := hB 0 (by decide)
        have b1 := hB 1 (by decide)
        have b2 := hB 2 (by decide)
        have b3 := hB 3 (by decide)
        have b4 := hB 4 (by decide)
        have b5 := hB 5 (by decide)
        exfalso
        omega
      · subst e
        rw [wdV_n7] at h
        have b0 := hB 0 (by decide)
        have b1 := hB 1 (by decide)
        have b2 := hB 2 (by decide)
        have b3 := hB 3 (by decide)
        have b4 := hB 4 (by decide)
        have b5 := hB 5 (by decide)
        have b6 := hB 6 (by decide)
        exfalso
        omega
      · subst e
        rw [wdV_n8] at h
        have b0 := hB 0 (by decide)
        have b1 := hB 1 (by decide)
        have b2 := hB 2 (by decide)
        have b3 := hB 3 (by decide)
        have b4 := hB 4 (by decide)
        have b5 := hB 5 (by decide)
        have b6 := hB 6 (by decide)
        have b7 := hB 7 (by decide)
        exfalso
        omega
    · rw [if_neg c] at h
      exact absurd h (by decide)
  · intro g
    obtain ⟨e, g⟩ := g
    subst e
    rw [if_pos (by decide), wdV_n4]
    have g0 := g 0 (by decide)
    rw [w0] at g0
    have g1 := g 1 (by decide)
    rw [w1] at g1
    have g2 := g 2 (by decide)
    rw [w2] at g2
    have g3 := g 3 (by decide)
    rw [w3] at g3
    omega
set_option maxHeartbeats 4000000 in
theorem wd_7 {B : Nat → Int} {F L : Nat} (hL : 1 ≤ L) (hB : ∀ j, j < L → 97 ≤ B (F + j) ∧ B (F + j) ≤ 122) : (if L ≤ 8 then wdV B F L else 0) = wvl 7 ↔ (L = zlen.getD 7 0 ∧ ∀ j, j < zlen.getD 7 0 → B (F + j) = wch 7 j) := by
  have C : wvl 7 = 6644084 := by decide
  have Z : zlen.getD 7 0 = 3 := by decide
  have w0 : wch 7 0 = 101 := by decide
  have w1 : wch 7 1 = 97 := by decide
  have w2 : wch 7 2 = 116 := by decide
  rw [C, Z]
  constructor
  · intro h
    by_cases c : L ≤ 8
    · rw [if_pos c] at h
      rcases (show L = 1 ∨ L = 2 ∨ L = 3 ∨ L = 4 ∨ L = 5 ∨ L = 6 ∨ L = 7 ∨ L = 8 by omega) with e | e | e | e | e | e | e | e
      · subst e
        rw [wdV_n1] at h
        have b0 := hB 0 (by decide)
        exfalso
        omega
      · subst e
        rw [wdV_n2] at h
        have b0 := hB 0 (by decide)
        have b1 := hB 1 (by decide)
        exfalso
        omega
      · subst e
        rw [wdV_n3] at h
        have b0 := hB 0 (by decide)
        have b1 := hB 1 (by decide)
        have b2 := hB 2 (by decide)
        refine ⟨rfl, fun j hj => ?_⟩
        rcases (show j = 0 ∨ j = 1 ∨ j = 2 by omega) with e | e | e
        · subst e; rw [w0]; omega
        · subst e; rw [w1]; omega
        · subst e; rw [w2]; omega
      · subst e
        rw [wdV_n4] at h
        have b0 := hB 0 (by decide)
        have b1 := hB 1 (by decide)
        have b2 := hB 2 (by decide)
        have b3 := hB 3 (by decide)
        exfalso
        omega
      · subst e
        rw [wdV_n5] at h
        have b0 := hB 0 (by decide)
        have b1 := hB 1 (by decide)
        have b2 := hB 2 (by decide)
        have b3 := hB 3 (by decide)
        have b4 := hB 4 (by decide)
        exfalso
        omega
      · subst e
        rw [wdV_n6] at h
        have b0 := hB 0 (by decide)
        have b1 := hB 1 (by decide)
        have b2 := hB 2 (by decide)
        have b3 := hB 3 (by decide)
        have b4 := hB 4 (by decide)
        have b5 := hB 5 (by decide)
        exfalso
        omega
      · subst e
        rw [wdV_n7] at h
        have b0 := hB 0 (by decide)
        have b1 := hB 1 (by decide)
        have b2 := hB 2 (by decide)
        have b3 := hB 3 (by decide)
        have b4 := hB 4 (by decide)
        have b5 := hB 5 (by decide)
        have b6 := hB 6 (by decide)
        exfalso
        omega
      · subst e
        rw [wdV_n8] at h
        have b0 := hB 0 (by decide)
        have b1 := hB 1 (by decide)
        have b2 := hB 2 (by decide)
        have b3 := hB 3 (by decide)
        have b4 := hB 4 (by decide)
        have b5 := hB 5 (by decide)
        have b6 := hB 6 (by decide)
        have b7 := hB 7 (by decide)
        exfalso
        omega
    · rw [if_neg c] at h
      exact absurd h (by decide)
  · intro g
    obtain ⟨e, g⟩ := g
    subst e
    rw [if_pos (by decide), wdV_n3]
    have g0 := g 0 (by decide)
    rw [w0] at g0
    have g1 := g 1 (by decide)
    rw [w1] at g1
    have g2 := g 2 (by decide)
    rw [w2] at g2
    omega
set_option maxHeartbeats 4000000 in
theorem wd_8 {B : Nat → Int} {F L : Nat} (hL : 1 ≤ L) (hB : ∀ j, j < L → 97 ≤ B (F + j) ∧ B (F + j) ≤ 122) : (if L ≤ 8 then wdV B F L else 0) = wvl 8 ↔ (L = zlen.getD 8 0 ∧ ∀ j, j < zlen.getD 8 0 → B (F + j) = wch 8 j) := by
  have C : wvl 8 = 444300616549 := by decide
  have Z : zlen.getD 8 0 = 5 := by decide
  have w0 : wch 8 0 = 103 := by decide
  have w1 : wch 8 1 = 114 := by decide
  have w2 : wch 8 2 = 97 := by decide
  have w3 : wch 8 3 = 99 := by decide
  have w4 : wch 8 4 = 101 := by decide
  rw [C, Z]
  constructor
  · intro h
    by_cases c : L ≤ 8
    · rw [if_pos c] at h
      rcases (show L = 1 ∨ L = 2 ∨ L = 3 ∨ L = 4 ∨ L = 5 ∨ L = 6 ∨ L = 7 ∨ L = 8 by omega) with e | e | e | e | e | e | e | e
      · subst e
        rw [wdV_n1] at h
        have b0 := hB 0 (by decide)
        exfalso
        omega
      · subst e
        rw [wdV_n2] at h
        have b0 := hB 0 (by decide)
        have b1 := hB 1 (by decide)
        exfalso
        omega
      · subst e
        rw [wdV_n3] at h
        have b0 := hB 0 (by decide)
        have b1 := hB 1 (by decide)
        have b2 := hB 2 (by decide)
        exfalso
        omega
      · subst e
        rw [wdV_n4] at h
        have b0 := hB 0 (by decide)
        have b1 := hB 1 (by decide)
        have b2 := hB 2 (by decide)
        have b3 := hB 3 (by decide)
        exfalso
        omega
      · subst e
        rw [wdV_n5] at h
        have b0 := hB 0 (by decide)
        have b1 := hB 1 (by decide)
        have b2 := hB 2 (by decide)
        have b3 := hB 3 (by decide)
        have b4 := hB 4 (by decide)
        refine ⟨rfl, fun j hj => ?_⟩
        rcases (show j = 0 ∨ j = 1 ∨ j = 2 ∨ j = 3 ∨ j = 4 by omega) with e | e | e | e | e
        · subst e; rw [w0]; omega
        · subst e; rw [w1]; omega
        · subst e; rw [w2]; omega
        · subst e; rw [w3]; omega
        · subst e; rw [w4]; omega
      · subst e
        rw [wdV_n6] at h
        have b0 := hB 0 (by decide)
        have b1 := hB 1 (by decide)
        have b2 := hB 2 (by decide)
        have b3 := hB 3 (by decide)
        have b4 := hB 4 (by decide)
        have b5 := hB 5 (by decide)
        exfalso
        omega
      · subst e
        rw [wdV_n7] at h
        have b0 := hB 0 (by decide)
        have b1 := hB 1 (by decide)
        have b2 := hB 2 (by decide)
        have b3 := hB 3 (by decide)
        have b4 := hB 4 (by decide)
        have b5 := hB 5 (by decide)
        have b6 := hB 6 (by decide)
        exfalso
        omega
      · subst e
        rw [wdV_n8] at h
        have b0 := hB 0 (by decide)
        have b1 := hB 1 (by decide)
        have b2 := hB 2 (by decide)
        have b3 := hB 3 (by decide)
        have b4 := hB 4 (by decide)
        have b5 := hB 5 (by decide)
        have b6 := hB 6 (by decide)
        have b7 := hB 7 (by decide)
        exfalso
        omega
    · rw [if_neg c] at h
      exact absurd h (by decide)
  · intro g
    obtain ⟨e, g⟩ := g
    subst e
    rw [if_pos (by decide), wdV_n5]
    have g0 := g 0 (by decide)
    rw [w0] at g0
    have g1 := g 1 (by decide)
    rw [w1] at g1
    have g2 := g 2 (by decide)
    rw [w2] at g2
    have g3 := g 3 (by decide)
    rw [w3] at g3
    have g4 := g 4 (by decide)
    rw [w4] at g4
    omega
set_option maxHeartbeats 4000000 in
theorem wd_9 {B : Nat → Int} {F L : Nat} (hL : 1 ≤ L) (hB : ∀ j, j < L → 97 ≤ B (F + j) ∧ B (F + j) ≤ 122) : (if L ≤ 8 then wdV B F L else 0) = wvl 9 ↔ (L = zlen.getD 9 0 ∧ ∀ j, j < zlen.getD 9 0 → B (F + j) = wch 9 j) := by
  have C : wvl 9 = 108205047312240 := by decide
  have Z : zlen.getD 9 0 = 6 := by decide
  have w0 : wch 9 0 = 98 := by decide
  have w1 : wch 9 1 = 105 := by decide
  have w2 : wch 9 2 = 115 := by decide
  have w3 : wch 9 3 = 104 := by decide
  have w4 : wch 9 4 = 111 := by decide
  have w5 : wch 9 5 = 112 := by decide
  rw [C, Z]
  constructor
  · intro h
    by_cases c : L ≤ 8
    · rw [if_pos c] at h
      rcases (show L = 1 ∨ L = 2 ∨ L = 3 ∨ L = 4 ∨ L = 5 ∨ L = 6 ∨ L = 7 ∨ L = 8 by omega) with e | e | e | e | e | e | e | e
      · subst e
        rw [wdV_n1] at h
        have b0 := hB 0 (by decide)
        exfalso
        omega
      · subst e
        rw [wdV_n2] at h
        have b0 := hB 0 (by decide)
        have b1 := hB 1 (by decide)
        exfalso
        omega
      · subst e
        rw [wdV_n3] at h
        have b0 := hB 0 (by decide)
        have b1 := hB 1 (by decide)
        have b2 := hB 2 (by decide)
        exfalso
        omega
      · subst e
        rw [wdV_n4] at h
        have b0 := hB 0 (by decide)
        have b1 := hB 1 (by decide)
        have b2 := hB 2 (by decide)
        have b3 := hB 3 (by decide)
        exfalso
        omega
      · subst e
        rw [wdV_n5] at h
        have b0 := hB 0 (by decide)
        have b1 := hB 1 (by decide)
        have b2 := hB 2 (by decide)
        have b3 := hB 3 (by decide)
        have b4 := hB 4 (by decide)
        exfalso
        omega
      · subst e
        rw [wdV_n6] at h
        have b0 := hB 0 (by decide)
        have b1 := hB 1 (by decide)
        have b2 := hB 2 (by decide)
        have b3 := hB 3 (by decide)
        have b4 := hB 4 (by decide)
        have b5 := hB 5 (by decide)
        refine ⟨rfl, fun j hj => ?_⟩
        rcases (show j = 0 ∨ j = 1 ∨ j = 2 ∨ j = 3 ∨ j = 4 ∨ j = 5 by omega) with e | e | e | e | e | e
        · subst e; rw [w0]; omega
        · subst e; rw [w1]; omega
        · subst e; rw [w2]; omega
        · subst e; rw [w3]; omega
        · subst e; rw [w4]; omega
        · subst e; rw [w5]; omega
      · subst e
        rw [wdV_n7] at h
        have b0 := hB 0 (by decide)
        have b1 := hB 1 (by decide)
        have b2 := hB 2 (by decide)
        have b3 := hB 3 (by decide)
        have b4 := hB 4 (by decide)
        have b5 := hB 5 (by decide)
        have b6 := hB 6 (by decide)
        exfalso
        omega
      · subst e
        rw [wdV_n8] at h
        have b0 := hB 0 (by decide)
        have b1 := hB 1 (by decide)
        have b2 := hB 2 (by decide)
        have b3 := hB 3 (by decide)
        have b4 := hB 4 (by decide)
        have b5 := hB 5 (by decide)
        have b6 := hB 6 (by decide)
        have b7 := hB 7 (by decide)
        exfalso
        omega
    · rw [if_neg c] at h
      exact absurd h (by decide)
  · intro g
    obtain ⟨e, g⟩ := g
    subst e
    rw [if_pos (by decide), wdV_n6]
    have g0 := g 0 (by decide)
    rw [w0] at g0
    have g1 := g 1 (by decide)
    rw [w1] at g1
    have g2 := g 2 (by decide)
    rw [w2] at g2
    have g3 := g 3 (by decide)
    rw [w3] at g3
    have g4 := g 4 (by decide)
    rw [w4] at g4
    have g5 := g 5 (by decide)
    rw [w5] at g5
    omega
set_option maxHeartbeats 4000000 in
theorem wd_10 {B : Nat → Int} {F L : Nat} (hL : 1 ≤ L) (hB : ∀ j, j < L → 97 ≤ B (F + j) ∧ B (F + j) ≤ 122) : (if L ≤ 8 then wdV B F L else 0) = wvl 10 ↔ (L = zlen.getD 10 0 ∧ ∀ j, j < zlen.getD 10 0 → B (F + j) = wch 10 j) := by
  have C : wvl 10 = 478694368626 := by decide
  have Z : zlen.getD 10 0 = 5 := by decide
  have w0 : wch 10 0 = 111 := by decide
  have w1 : wch 10 1 = 116 := by decide
  have w2 : wch 10 2 = 104 := by decide
  have w3 : wch 10 3 = 101 := by decide
  have w4 : wch 10 4 = 114 := by decide
  rw [C, Z]
  constructor
  · intro h
    by_cases c : L ≤ 8
    · rw [if_pos c] at h
      rcases (show L = 1 ∨ L = 2 ∨ L = 3 ∨ L = 4 ∨ L = 5 ∨ L = 6 ∨ L = 7 ∨ L = 8 by omega) with e | e | e | e | e | e | e | e
      · subst e
        rw [wdV_n1] at h
        have b0 := hB 0 (by decide)
        exfalso
        omega
      · subst e
        rw [wdV_n2] at h
        have b0 := hB 0 (by decide)
        have b1 := hB 1 (by decide)
        exfalso
        omega
      · subst e
        rw [wdV_n3] at h
        have b0 := hB 0 (by decide)
        have b1 := hB 1 (by decide)
        have b2 := hB 2 (by decide)
        exfalso
        omega
      · subst e
        rw [wdV_n4] at h
        have b0 := hB 0 (by decide)
        have b1 := hB 1 (by decide)
        have b2 := hB 2 (by decide)
        have b3 := hB 3 (by decide)
        exfalso
        omega
      · subst e
        rw [wdV_n5] at h
        have b0 := hB 0 (by decide)
        have b1 := hB 1 (by decide)
        have b2 := hB 2 (by decide)
        have b3 := hB 3 (by decide)
        have b4 := hB 4 (by decide)
        refine ⟨rfl, fun j hj => ?_⟩
        rcases (show j = 0 ∨ j = 1 ∨ j = 2 ∨ j = 3 ∨ j = 4 by omega) with e | e | e | e | e
        · subst e; rw [w0]; omega
        · subst e; rw [w1]; omega
        · subst e; rw [w2]; omega
        · subst e; rw [w3]; omega
        · subst e; rw [w4]; omega
      · subst e
        rw [wdV_n6] at h
        have b0 := hB 0 (by decide)
        have b1 := hB 1 (by decide)
        have b2 := hB 2 (by decide)
        have b3 := hB 3 (by decide)
        have b4 := hB 4 (by decide)
        have b5 := hB 5 (by decide)
        exfalso
        omega
      · subst e
        rw [wdV_n7] at h
        have b0 := hB 0 (by decide)
        have b1 := hB 1 (by decide)
        have b2 := hB 2 (by decide)
        have b3 := hB 3 (by decide)
        have b4 := hB 4 (by decide)
        have b5 := hB 5 (by decide)
        have b6 := hB 6 (by decide)
        exfalso
        omega
      · subst e
        rw [wdV_n8] at h
        have b0 := hB 0 (by decide)
        have b1 := hB 1 (by decide)
        have b2 := hB 2 (by decide)
        have b3 := hB 3 (by decide)
        have b4 := hB 4 (by decide)
        have b5 := hB 5 (by decide)
        have b6 := hB 6 (by decide)
        have b7 := hB 7 (by decide)
        exfalso
        omega
    · rw [if_neg c] at h
      exact absurd h (by decide)
  · intro g
    obtain ⟨e, g⟩ := g
    subst e
    rw [if_pos (by decide), wdV_n5]
    have g0 := g 0 (by decide)
    rw [w0] at g0
    have g1 := g 1 (by decide)
    rw [w1] at g1
    have g2 := g 2 (by decide)
    rw [w2] at g2
    have g3 := g 3 (by decide)
    rw [w3] at g3
    have g4 := g 4 (by decide)
    rw [w4] at g4
    omega
theorem wd_all {B : Nat → Int} {F L i : Nat} (hi : i < 11) (hL : 1 ≤ L) (hB : ∀ j, j < L → 97 ≤ B (F + j) ∧ B (F + j) ≤ 122) : (if L ≤ 8 then wdV B F L else 0) = wvl i ↔ (L = zlen.getD i 0 ∧ ∀ j, j < zlen.getD i 0 → B (F + j) = wch i j) := by
  rcases (show i = 0 ∨ i = 1 ∨ i = 2 ∨ i = 3 ∨ i = 4 ∨ i = 5 ∨ i = 6 ∨ i = 7 ∨ i = 8 ∨ i = 9 ∨ i = 10 by omega) with e | e | e | e | e | e | e | e | e | e | e
  · subst e; exact wd_0 hL hB
  · subst e; exact wd_1 hL hB
  · subst e; exact wd_2 hL hB
  · subst e; exact wd_3 hL hB
  · subst e; exact wd_4 hL hB
  · subst e; exact wd_5 hL hB
  · subst e; exact wd_6 hL hB
  · subst e; exact wd_7 hL hB
  · subst e; exact wd_8 hL hB
  · subst e; exact wd_9 hL hB
  · subst e; exact wd_10 hL hB
