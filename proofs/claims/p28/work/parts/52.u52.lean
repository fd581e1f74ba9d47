/-! what is told without a FAULT lies in its range -/
def rlo (s : Nat) : Int := if s < 7 then (if s = 2 then 1 else if s = 6 then -1 else 0) else if s < 87 then (if (s - 7) % 5 = 0 then 1 else if (s - 7) % 5 = 4 then -1 else 0) else if s < 123 then (if (s - 87) % 6 = 2 ∨ (s - 87) % 6 = 3 then 1 else 0) else 0
def rhi (o : Int) (s : Nat) : Int := if s < 7 then (if s = 0 then 16 else if s = 1 then 6 else if s = 2 ∨ s = 3 ∨ s = 5 then 9 else if s = 4 then 60 else 999) else if s < 87 then (if (s - 7) % 5 = 1 then 3 else if (s - 7) % 5 = 3 then 10 else if (s - 7) % 5 = 4 then 999 else 30) else if s < 123 then (if (s - 87) % 6 < 2 then 15 else if (s - 87) % 6 = 2 then 60 else if (s - 87) % 6 = 3 then 30 else if (s - 87) % 6 = 4 then 200 else 9) else if s = 300 then (if o = 2 then 10 else 16) else if (s - 301) % 2 = 0 then 15 else if o = 2 then 999 else 5
def RgS (o : Int) (X : Nat → Prop) (st : Nat → Int) : Prop := ∀ s, X s → (s < 123 ∨ 300 ≤ s) → rlo s ≤ st s ∧ st s ≤ rhi o s
theorem RgS_up {o : Int} {X : Nat → Prop} {st : Nat → Int} {s : Nat} {x : Int} (h : RgS o X st) (hx : (s < 123 ∨ 300 ≤ s) → rlo s ≤ x ∧ x ≤ rhi o s) : RgS o (fun j => X j ∨ j = s) (up st s x) := by
  intro j hj hr
  by_cases c : j = s
  · subst c
    rw [up_s]
    exact hx hr
  · rw [up_q c]
    exact h j (by rcases hj with hj | hj; exact hj; exact absurd hj c) hr
theorem RgS_nte {o : Int} {X : Nat → Prop} {st : Nat → Int} {f p : Int} (h : RgS o X st) : RgS o X (nte st f p) := fun s hs hr => by
  rw [nte_s hr]
  exact h s hs hr
theorem RgS_chk {o : Int} {X : Nat → Prop} {st : Nat → Int} {v p l u : Int} (h : RgS o X st) : RgS o X (chk st v p l u) := fun s hs hr => by
  rw [chk_s hr]
  exact h s hs hr
theorem RgS_m {o : Int} {X Y : Nat → Prop} {st : Nat → Int} (h : RgS o X st) (hm : ∀ s, Y s → X s) : RgS o Y st := fun s hs hr => h s (hm s hs) hr
/-- counts; ranges; riders get off behind where they get on, at a POST that was told of -/
def RgI (o : Int) (st : Nat → Int) : Prop := (0 ≤ st 0 ∧ st 0 ≤ 16 ∧ 0 ≤ st 1 ∧ st 1 ≤ 6 ∧ 0 ≤ st 300 ∧ st 300 ≤ (if o = 2 then 10 else 16)) ∧ (st 200 = 0 → RgS o (LV (st 0) (st 1) (st 300)) st) ∧ (st 200 = 0 → ∀ r : Nat, (r : Int) < st 1 → st (87 + 6 * r) < st (87 + 6 * r + 1) ∧ st (87 + 6 * r + 1) ≤ st 202)
theorem rr_P (o : Int) {k : Nat} (h : k < 16) : (rlo (7 + 5 * k + 0) = 1 ∧ rhi o (7 + 5 * k + 0) = 30) ∧ (rlo (7 + 5 * k + 1) = 0 ∧ rhi o (7 + 5 * k + 1) = 3) ∧ (rlo (7 + 5 * k + 2) = 0 ∧ rhi o (7 + 5 * k + 2) = 30) ∧ (rlo (7 + 5 * k + 3) = 0 ∧ rhi o (7 + 5 * k + 3) = 10) ∧ (rlo (7 + 5 * k + 4) = -1 ∧ rhi o (7 + 5 * k + 4) = 999) := by
  have m : ∀ c : Nat, c < 5 → (7 + 5 * k + c - 7) % 5 = c := fun c hc => by omega
  have a : ∀ c : Nat, c < 5 → rlo (7 + 5 * k + c) = if c = 0 then 1 else if c = 4 then -1 else 0 := fun c hc => by
    unfold rlo
    rw [if_neg (by omega), if_pos (by omega), m c hc]
  have b : ∀ c : Nat, c < 5 → rhi o (7 + 5 * k + c) = if c = 1 then 3 else if c = 3 then 10 else if c = 4 then 999 else 30 := fun c hc => by
    unfold rhi
    rw [if_neg (by omega), if_pos (by omega), m c hc]
  exact ⟨⟨a 0 (by omega), b 0 (by omega)⟩, ⟨a 1 (by omega), b 1 (by omega)⟩, ⟨a 2 (by omega), b 2 (by omega)⟩, ⟨a 3 (by omega), b 3 (by omega)⟩, ⟨a 4 (by omega), b 4 (by omega)⟩⟩
theorem rr_R (o : Int) {k c : Nat} (h : k < 6) (hc : c < 6) : rlo (87 + 6 * k + c) = (if c = 2 ∨ c = 3 then 1 else 0) ∧ rhi o (87 + 6 * k + c) = (if c < 2 then 15 else if c = 2 then 60 else if c = 3 then 30 else if c = 4 then 200 else 9) := by
  have m : (87 + 6 * k + c - 87) % 6 = c := by omega
  refine ⟨?_, ?_⟩
  · unfold rlo
    rw [if_neg (by omega), if_neg (by omega), if_pos (by omega), m]
  · unfold rhi
    rw [if_neg (by omega), if_neg (by omega), if_pos (by omega), m]
theorem rr_X (o : Int) (k : Nat) : (rlo (301 + 2 * k + 0) = 0 ∧ rhi o (301 + 2 * k + 0) = 15) ∧ (rlo (301 + 2 * k + 1) = 0 ∧ rhi o (301 + 2 * k + 1) = if o = 2 then 999 else 5) := by
  have a : ∀ s, 301 ≤ s → rlo s = 0 := fun s hs => by
    unfold rlo
    rw [if_neg (by omega), if_neg (by omega), if_neg (by omega)]
  have b : ∀ s, 301 ≤ s → rhi o s = if (s - 301) % 2 = 0 then 15 else if o = 2 then 999 else 5 := fun s hs => by
    unfold rhi
    rw [if_neg (by omega), if_neg (by omega), if_neg (by omega), if_neg (by omega)]
  refine ⟨⟨a _ (by omega), ?_⟩, ⟨a _ (by omega), ?_⟩⟩
  · rw [b _ (by omega), if_pos (by omega)]
  · rw [b _ (by omega), if_neg (by omega)]
theorem RgI_nte {o : Int} {st : Nat → Int} {f p : Int} (hf : f ≠ 0) (h : RgI o st) : RgI o (nte st f p) := by
  obtain ⟨a, b, c⟩ := h
  have z : nte st f p 200 ≠ 0 := nte_200 hf
  refine ⟨?_, fun w => absurd w z, fun w => absurd w z⟩
  rw [nte_s (by omega), nte_s (by omega), nte_s (by omega)]
  exact a
theorem RgI_apP {o : Int} {st v p : Nat → Int} {w : Int} (h : RgI o st) : RgI o (apP st v p w) := by
  obtain ⟨a, b, c⟩ := h
  unfold apP
  by_cases k : st 0 < 16
  · rw [if_pos k]
    obtain ⟨C, hC⟩ : ∃ C, C = chk (chk (chk st (v 0) (p 0) 1 30) (v 1) (p 1) 0 3) (v 2) (p 2) 0 30 := ⟨_, rfl⟩
    have cs : ∀ s, (s < 123 ∨ 300 ≤ s) → C s = st s := fun s hs => by rw [hC, chk_s hs, chk_s hs, chk_s hs]
    have c2 : C 202 = st 202 := by rw [hC, chk_q (by omega) (by omega), chk_q (by omega) (by omega), chk_q (by omega) (by omega)]
    have rs : ∀ X, RgS o X st → RgS o X C := fun X hX => by rw [hC]; exact RgS_chk (RgS_chk (RgS_chk hX))
    have z : C 200 = 0 → st 200 = 0 ∧ (1 ≤ v 0 ∧ v 0 ≤ 30) ∧ (0 ≤ v 1 ∧ v 1 ≤ 3) ∧ (0 ≤ v 2 ∧ v 2 ≤ 30) := fun y => by
      rw [hC] at y
      obtain ⟨y1, y2, y3⟩ := chk_0 y
      obtain ⟨y4, y5, y6⟩ := chk_0 y1
      obtain ⟨y7, y8, y9⟩ := chk_0 y4
      exact ⟨y7, ⟨y8, y9⟩, ⟨y5, y6⟩, ⟨y2, y3⟩⟩
    rw [← hC]
    have q := rr_P o (k := (st 0).toNat) (by omega)
    have n1 : ∀ x, up (up (up (up C (7 + 5 * (st 0).toNat + 0) (v 0)) (7 + 5 * (st 0).toNat + 1) (v 1)) (7 + 5 * (st 0).toNat + 2) (v 2)) 0 x 200 = C 200 := fun x => by rw [up_q (by omega), up_q (by omega), up_q (by omega), up_q (by omega)]
    have e0 : up (up (up (up C (7 + 5 * (st 0).toNat + 0) (v 0)) (7 + 5 * (st 0).toNat + 1) (v 1)) (7 + 5 * (st 0).toNat + 2) (v 2)) 0 (st 0 + 1) 0 = st 0 + 1 := up_s
    have e1 : ∀ x s, 87 ≤ s → up (up (up (up C (7 + 5 * (st 0).toNat + 0) (v 0)) (7 + 5 * (st 0).toNat + 1) (v 1)) (7 + 5 * (st 0).toNat + 2) (v 2)) 0 x s = C s := fun x s hs => by rw [up_q (by omega), up_q (by omega), up_q (by omega), up_q (by omega)]
    have e2 : ∀ x, up (up (up (up C (7 + 5 * (st 0).toNat + 0) (v 0)) (7 + 5 * (st 0).toNat + 1) (v 1)) (7 + 5 * (st 0).toNat + 2) (v 2)) 0 x 1 = C 1 := fun x => by rw [up_q (by omega), up_q (by omega), up_q (by omega), up_q (by omega)]
    refine ⟨?_, fun y => ?_, fun y => ?_⟩
    · rw [e0, e2, e1 _ 300 (by omega), cs 1 (by omega), cs 300 (by omega)]
      omega
    · rw [n1] at y
      obtain ⟨y0, y1, y2, y3⟩ := z y
      rw [e0, e2, e1 _ 300 (by omega), cs 1 (by omega), cs 300 (by omega)]
      refine RgS_m (RgS_up (s := 0) (RgS_up (s := 7 + 5 * (st 0).toNat + 2) (RgS_up (s := 7 + 5 * (st 0).toNat + 1) (RgS_up (s := 7 + 5 * (st 0).toNat + 0) (rs _ (b y0)) (fun _ => ?_)) (fun _ => ?_)) (fun _ => ?_)) (fun _ => ?_)) (fun s hs => ?_)
      · rw [q.1.1, q.1.2]; exact y1
      · rw [q.2.1.1, q.2.1.2]; exact y2
      · rw [q.2.2.1.1, q.2.2.1.2]; exact y3
      · show (0 : Int) ≤ st 0 + 1 ∧ st 0 + 1 ≤ 16
        omega
      · exact LV_p3 (Q := LV (st 0) (st 1) (st 300)) (LV_pos hs)
    · rw [n1] at y
      obtain ⟨y0, _⟩ := z y
      intro r hr
      rw [e2, cs 1 (by omega)] at hr
      rw [e1 _ _ (by omega), e1 _ _ (by omega), e1 _ 202 (by omega), cs _ (by omega), cs _ (by omega), c2]
      exact c y0 r hr
  · rw [if_neg k]
    exact RgI_nte (by omega) ⟨a, b, c⟩
set_option maxHeartbeats 4000000 in
theorem RgI_apR {o : Int} {st v p : Nat → Int} {w : Int} (h : RgI o st) : RgI o (apR st v p w) := by
  obtain ⟨a, b, c⟩ := h
  unfold apR
  by_cases k : st 1 < 6
  · rw [if_pos k]
    obtain ⟨C, hC⟩ : ∃ C, C = chk (chk (chk (chk (chk (chk st (v 0) (p 0) 0 15) (v 1) (p 1) (v 0 + 1) 15) (v 2) (p 2) 1 60) (v 3) (p 3) 1 30) (v 4) (p 4) 0 200) (v 5) (p 5) 0 9 := ⟨_, rfl⟩
    have cs : ∀ s, (s < 123 ∨ 300 ≤ s) → C s = st s := fun s hs => by rw [hC, chk_s hs, chk_s hs, chk_s hs, chk_s hs, chk_s hs, chk_s hs]
    have c2 : C 202 = st 202 := by rw [hC, chk_q (by omega) (by omega), chk_q (by omega) (by omega), chk_q (by omega) (by omega), chk_q (by omega) (by omega), chk_q (by omega) (by omega), chk_q (by omega) (by omega)]
    have rs : ∀ X, RgS o X st → RgS o X C := fun X hX => by rw [hC]; exact RgS_chk (RgS_chk (RgS_chk (RgS_chk (RgS_chk (RgS_chk hX)))))
    have z : C 200 = 0 → st 200 = 0 ∧ (0 ≤ v 0 ∧ v 0 ≤ 15) ∧ (v 0 + 1 ≤ v 1 ∧ v 1 ≤ 15) ∧ (1 ≤ v 2 ∧ v 2 ≤ 60) ∧ (1 ≤ v 3 ∧ v 3 ≤ 30) ∧ (0 ≤ v 4 ∧ v 4 ≤ 200) ∧ (0 ≤ v 5 ∧ v 5 ≤ 9) := fun y => by
      rw [hC] at y
      obtain ⟨y1, f1, g1⟩ := chk_0 y
      obtain ⟨y2, f2, g2⟩ := chk_0 y1
      obtain ⟨y3, f3, g3⟩ := chk_0 y2
      obtain ⟨y4, f4, g4⟩ := chk_0 y3
      obtain ⟨y5, f5, g5⟩ := chk_0 y4
      obtain ⟨y6, f6, g6⟩ := chk_0 y5
      exact ⟨y6, ⟨f6, g6⟩, ⟨f5, g5⟩, ⟨f4, g4⟩, ⟨f3, g3⟩, ⟨f2, g2⟩, ⟨f1, g1⟩⟩
    rw [← hC]
    obtain ⟨D, hD⟩ : ∃ D, D = up (up (up (up (up (up (up (up C (87 + 6 * (st 1).toNat + 0) (v 0)) (87 + 6 * (st 1).toNat + 1) (v 1)) 202 (mxI (st 202) (v 1))) (87 + 6 * (st 1).toNat + 2) (v 2)) (87 + 6 * (st 1).toNat + 3) (v 3)) (87 + 6 * (st 1).toNat + 4) (v 4)) (87 + 6 * (st 1).toNat + 5) (v 5)) 1 (st 1 + 1) := ⟨_, rfl⟩
    rw [← hD]
    have q : ∀ cc : Nat, cc < 6 → rlo (87 + 6 * (st 1).toNat + cc) = (if cc = 2 ∨ cc = 3 then 1 else 0) ∧ rhi o (87 + 6 * (st 1).toNat + cc) = (if cc < 2 then 15 else if cc = 2 then 60 else if cc = 3 then 30 else if cc = 4 then 200 else 9) := fun cc hc => rr_R o (by omega) hc
    have d1 : D 1 = st 1 + 1 := by rw [hD, up_s]
    have dq : ∀ s, s ≠ 1 → s ≠ 202 → (s < 87 + 6 * (st 1).toNat ∨ 87 + 6 * (st 1).toNat + 6 ≤ s) → D s = C s := fun s h1 h2 h3 => by rw [hD, up_q h1, up_q (by omega), up_q (by omega), up_q (by omega), up_q (by omega), up_q h2, up_q (by omega), up_q (by omega)]
    have d2 : D 202 = mxI (st 202) (v 1) := by rw [hD, up_q (by omega), up_q (by omega), up_q (by omega), up_q (by omega), up_q (by omega), up_s]
    have dv0 : D (87 + 6 * (st 1).toNat + 0) = v 0 := by rw [hD, up_q (by omega), up_q (by omega), up_q (by omega), up_q (by omega), up_q (by omega), up_q (by omega), up_q (by omega), up_s]
    have dv1 : D (87 + 6 * (st 1).toNat + 1) = v 1 := by rw [hD, up_q (by omega), up_q (by omega), up_q (by omega), up_q (by omega), up_q (by omega), up_q (by omega), up_s]
    have d200 : D 200 = C 200 := dq 200 (by omega) (by omega) (by omega)
    have d0 : D 0 = st 0 := by rw [dq 0 (by omega) (by omega) (by omega), cs 0 (by omega)]
    have d3 : D 300 = st 300 := by rw [dq 300 (by omega) (by omega) (by omega), cs 300 (by omega)]
    have mx1 : st 202 ≤ mxI (st 202) (v 1) ∧ v 1 ≤ mxI (st 202) (v 1) := by
      unfold mxI
      split <;> omega
    refine ⟨?_, fun y => ?_, fun y => ?_⟩
    · rw [d0, d1, d3]
      omega
    · rw [d200] at y
      obtain ⟨y0, y1, y2, y3, y4, y5, y6⟩ := z y
      rw [d0, d1, d3, hD]
      refine RgS_m (RgS_up (s := 1) (RgS_up (s := 87 + 6 * (st 1).toNat + 5) (RgS_up (s := 87 + 6 * (st 1).toNat + 4) (RgS_up (s := 87 + 6 * (st 1).toNat + 3) (RgS_up (s := 87 + 6 * (st 1).toNat + 2) (RgS_up (s := 202) (RgS_up (s := 87 + 6 * (st 1).toNat + 1) (RgS_up (s := 87 + 6 * (st 1).toNat + 0) (rs _ (b y0)) (fun _ => ?_)) (fun _ => ?_)) (fun _ => ?_)) (fun _ => ?_)) (fun _ => ?_)) (fun _ => ?_)) (fun _ => ?_)) (fun _ => ?_)) (fun s hs => ?_)
      · rw [(q 0 (by omega)).1, (q 0 (by omega)).2]; exact y1
      · rw [(q 1 (by omega)).1, (q 1 (by omega)).2]
        show (0 : Int) ≤ v 1 ∧ v 1 ≤ 15
        omega
      · omega
      · rw [(q 2 (by omega)).1, (q 2 (by omega)).2]; exact y3
      · rw [(q 3 (by omega)).1, (q 3 (by omega)).2]; exact y4
      · rw [(q 4 (by omega)).1, (q 4 (by omega)).2]; exact y5
      · rw [(q 5 (by omega)).1, (q 5 (by omega)).2]; exact y6
      · show (0 : Int) ≤ st 1 + 1 ∧ st 1 + 1 ≤ 6
        omega
      · exact LV_p6 (Q := LV (st 0) (st 1) (st 300)) (LV_rid hs)
    · rw [d200] at y
      obtain ⟨y0, y1, y2, _⟩ := z y
      intro r hr
      rw [d1] at hr
      rw [d2]
      by_cases e : r = (st 1).toNat
      · subst e
        have f0 : D (87 + 6 * (st 1).toNat) = v 0 := dv0
        rw [f0, dv1]
        omega
      · rw [dq _ (by omega) (by omega) (by omega), dq _ (by omega) (by omega) (by omega), cs _ (by omega), cs _ (by omega)]
        have := c y0 r (by omega)
        omega
  · rw [if_neg k]
    exact RgI_nte (by omega) ⟨a, b, c⟩
/-- a NUMBER told by itself: slot s of the LINE, and maybe the greatest POST -/
theorem RgI_one {o : Int} {st D : Nat → Int} {s : Nat} {x : Int} (h : RgI o st) (hs : (2 ≤ s ∧ s < 7) ∨ (7 ≤ s ∧ s < 87 ∧ 3 ≤ (s - 7) % 5)) (hD : ∀ j, j ≠ s → (j < 123 ∨ 300 ≤ j) → D j = st j) (hx : D 200 = 0 → D s = x ∧ rlo s ≤ x ∧ x ≤ rhi o s) (h2 : st 202 ≤ D 202) (z : D 200 = 0 → st 200 = 0) : RgI o D := by
  obtain ⟨a, b, c⟩ := h
  refine ⟨?_, fun y => ?_, fun y r hr => ?_⟩
  · rw [hD 0 (by omega) (by omega), hD 1 (by omega) (by omega), hD 300 (by omega) (by omega)]
    exact a
  · rw [hD 0 (by omega) (by omega), hD 1 (by omega) (by omega), hD 300 (by omega) (by omega)]
    intro j hj hr
    by_cases e : j = s
    · subst e
      rw [(hx y).1]
      exact (hx y).2
    · rw [hD j e hr]
      exact b (z y) j hj hr
  · rw [hD 1 (by omega) (by omega)] at hr
    rw [hD _ (by omega) (by omega), hD _ (by omega) (by omega)]
    have := c (z y) r hr
    omega
theorem RgI_apO {o : Int} {q : Nat} {u : Int} (hq : (q = 3 ∧ u = 10) ∨ (q = 4 ∧ u = 999)) {st v p : Nat → Int} (h : RgI o st) : RgI o (apO q u st v p) := by
  obtain ⟨C, hC⟩ : ∃ C, C = chk (chk st (v 0) (p 0) 0 15) (v 1) (p 1) 0 u := ⟨_, rfl⟩
  have cs : ∀ s, (s < 123 ∨ 300 ≤ s) → C s = st s := fun s hs => by rw [hC, chk_s hs, chk_s hs]
  have z : C 200 = 0 → st 200 = 0 ∧ (0 ≤ v 0 ∧ v 0 ≤ 15) ∧ (0 ≤ v 1 ∧ v 1 ≤ u) := fun y => by
    rw [hC] at y
    obtain ⟨y1, f1, g1⟩ := chk_0 y
    obtain ⟨y2, f2, g2⟩ := chk_0 y1
    exact ⟨y2, ⟨f2, g2⟩, ⟨f1, g1⟩⟩
  have mx1 : st 202 ≤ mxI (st 202) (v 0) := by
    unfold mxI
    split <;> omega
  unfold apO
  rw [← hC]
  by_cases k : v 0 < 16
  · rw [if_pos k]
    by_cases k0 : (v 0).toNat < 16
    · refine RgI_one (s := 7 + 5 * (v 0).toNat + q) (x := v 1) h (Or.inr ⟨by omega, by omega, by omega⟩) (fun j hj hr => by rw [up_q hj, up_q (by omega), cs j hr]) (fun y => ?_) (by rw [up_q (by omega), up_s]; exact mx1) (fun y => ?_)
      · rw [up_q (by omega), up_q (by omega)] at y
        have w := (z y).2.2
        have r := rr_P o k0
        refine ⟨up_s, ?_⟩
        rcases hq with ⟨e1, e2⟩ | ⟨e1, e2⟩
        · subst e1
          subst e2
          rw [r.2.2.2.1.1, r.2.2.2.1.2]
          exact w
        · subst e1
          subst e2
          rw [r.2.2.2.2.1, r.2.2.2.2.2]
          omega
      · rw [up_q (by omega), up_q (by omega)] at y
        exact (z y).1
    · omega
  · rw [if_neg k]
    have nz : up C 202 (mxI (st 202) (v 0)) 200 ≠ 0 := fun y => by
      rw [up_q (by omega)] at y
      have := (z y).2.1
      omega
    refine ⟨?_, fun y => absurd y nz, fun y => absurd y nz⟩
    rw [up_q (by omega), up_q (by omega), up_q (by omega), cs 0 (by omega), cs 1 (by omega), cs 300 (by omega)]
    exact h.1
theorem RgI_apW {o : Int} {s : Nat} {l u : Int} (hs : 2 ≤ s ∧ s < 7) (hl : rlo s ≤ l) (hu : u ≤ rhi o s) {st v p : Nat → Int} (h : RgI o st) : RgI o (apW s l u st v p) := by
  unfold apW
  refine RgI_one (s := s) (x := v 0) h (Or.inl hs) (fun j hj hr => by rw [up_q hj, chk_s hr]) (fun y => ?_) (by rw [up_q (by omega), chk_q (by omega) (by omega)]; omega) (fun y => ?_)
  · rw [up_q (by omega)] at y
    have w := (chk_0 y).2
    exact ⟨up_s, by omega, by omega⟩
  · rw [up_q (by omega)] at y
    exact (chk_0 y).1
theorem RgI_apX {o : Int} {m u : Int} (hm : (o = 1 ∧ m = 16 ∧ u = 5) ∨ (o = 2 ∧ m = 10 ∧ u = 999)) {st v p : Nat → Int} {w : Int} (h : RgI o st) : RgI o (apX m u st v p w) := by
  obtain ⟨a, b, c⟩ := h
  unfold apX
  by_cases k : st 300 < m
  · rw [if_pos k]
    obtain ⟨C, hC⟩ : ∃ C, C = chk (chk st (v 0) (p 0) 0 15) (v 1) (p 1) 0 u := ⟨_, rfl⟩
    have cs : ∀ s, (s < 123 ∨ 300 ≤ s) → C s = st s := fun s hs => by rw [hC, chk_s hs, chk_s hs]
    have c2 : C 202 = st 202 := by rw [hC, chk_q (by omega) (by omega), chk_q (by omega) (by omega)]
    have rs : ∀ X, RgS o X st → RgS o X C := fun X hX => by rw [hC]; exact RgS_chk (RgS_chk hX)
    have z : C 200 = 0 → st 200 = 0 ∧ (0 ≤ v 0 ∧ v 0 ≤ 15) ∧ (0 ≤ v 1 ∧ v 1 ≤ u) := fun y => by
      rw [hC] at y
      obtain ⟨y1, f1, g1⟩ := chk_0 y
      obtain ⟨y2, f2, g2⟩ := chk_0 y1
      exact ⟨y2, ⟨f2, g2⟩, ⟨f1, g1⟩⟩
    rw [← hC]
    have q := rr_X o (st 300).toNat
    have dq : ∀ x s, s ≠ 300 → s < 301 → up (up (up C (301 + 2 * (st 300).toNat + 0) (v 0)) (301 + 2 * (st 300).toNat + 1) (v 1)) 300 x s = C s := fun x s h1 h2 => by rw [up_q h1, up_q (by omega), up_q (by omega)]
    have d3 : ∀ x, up (up (up C (301 + 2 * (st 300).toNat + 0) (v 0)) (301 + 2 * (st 300).toNat + 1) (v 1)) 300 x 300 = x := fun x => up_s
    refine ⟨?_, fun y => ?_, fun y r hr => ?_⟩
    · rw [dq _ 0 (by omega) (by omega), dq _ 1 (by omega) (by omega), d3, cs 0 (by omega), cs 1 (by omega)]
      rcases hm with ⟨e1, e2, e3⟩ | ⟨e1, e2, e3⟩
      · rw [if_neg (by omega)]; omega
      · rw [if_pos e1]; omega
    · rw [dq _ 200 (by omega) (by omega)] at y
      obtain ⟨y0, y1, y2⟩ := z y
      rw [dq _ 0 (by omega) (by omega), dq _ 1 (by omega) (by omega), d3, cs 0 (by omega), cs 1 (by omega)]
      refine RgS_m (RgS_up (s := 300) (RgS_up (s := 301 + 2 * (st 300).toNat + 1) (RgS_up (s := 301 + 2 * (st 300).toNat + 0) (rs _ (b y0)) (fun _ => ?_)) (fun _ => ?_)) (fun _ => ?_)) (fun s hs => ?_)
      · rw [q.1.1, q.1.2]; exact y1
      · rw [q.2.1, q.2.2]
        rcases hm with ⟨e1, e2, e3⟩ | ⟨e1, e2, e3⟩
        · rw [if_neg (by omega)]; omega
        · rw [if_pos e1]; omega
      · show (0 : Int) ≤ st 300 + 1 ∧ st 300 + 1 ≤ (if o = 2 then 10 else 16)
        rcases hm with ⟨e1, e2, e3⟩ | ⟨e1, e2, e3⟩
        · rw [if_neg (by omega)]; omega
        · rw [if_pos e1]; omega
      · exact LV_p2 (Q := LV (st 0) (st 1) (st 300)) (LV_pai hs)
    · rw [dq _ 200 (by omega) (by omega)] at y
      obtain ⟨y0, _⟩ := z y
      rw [dq _ 1 (by omega) (by omega), cs 1 (by omega)] at hr
      rw [dq _ _ (by omega) (by omega), dq _ _ (by omega) (by omega), dq _ 202 (by omega) (by omega), cs _ (by omega), cs _ (by omega), c2]
      exact c y0 r hr
  · rw [if_neg k]
    exact RgI_nte (by omega) ⟨a, b, c⟩
theorem wcd_o {o W : Int} (ho : o = 0 ∨ o = 1 ∨ o = 2) : wcd o W = -1 ∨ (o = 0 ∧ 0 ≤ wcd o W ∧ wcd o W ≤ 8) ∨ (o = 1 ∧ wcd o W = 9) ∨ (o = 2 ∧ wcd o W = 10) := by
  unfold wcd
  repeat' split
  all_goals omega
theorem RgI_ap {o c : Int} (hc : (o = 0 ∧ 0 ≤ c ∧ c ≤ 8) ∨ (o = 1 ∧ c = 9) ∨ (o = 2 ∧ c = 10)) {st v p : Nat → Int} {w : Int} (h : RgI o st) : RgI o (ap c st v p w) := by
  unfold ap
  split
  · exact RgI_apP h
  split
  · exact RgI_apR h
  split
  · exact RgI_apO (Or.inr ⟨rfl, rfl⟩) h
  split
  · exact RgI_apO (Or.inl ⟨rfl, rfl⟩) h
  split
  · exact RgI_apW (by omega) (show (1 : Int) ≤ 1 by omega) (show (9 : Int) ≤ 9 by omega) h
  split
  · exact RgI_apW (by omega) (show (0 : Int) ≤ 0 by omega) (show (9 : Int) ≤ 9 by omega) h
  split
  · exact RgI_apW (by omega) (show (0 : Int) ≤ 0 by omega) (show (60 : Int) ≤ 60 by omega) h
  split
  · exact RgI_apW (by omega) (show (0 : Int) ≤ 0 by omega) (show (9 : Int) ≤ 9 by omega) h
  split
  · exact RgI_apW (by omega) (show (-1 : Int) ≤ 0 by omega) (show (999 : Int) ≤ 999 by omega) h
  split
  · exact RgI_apX (Or.inl ⟨by omega, rfl, rfl⟩) h
  · exact RgI_apX (Or.inr ⟨by omega, rfl, rfl⟩) h
theorem RgI_fl {o : Int} {st : Nat → Int} {q : Nat} (h : RgI o st) : RgI o (fl st q) := by
  have e : ∀ s, s ≠ 200 → s ≠ 201 → fl st q s = st s := fun s a b => by
    unfold fl
    rw [up_q b, up_q a]
  have nz : fl st q 200 ≠ 0 := by
    unfold fl
    rw [up_q (by omega), up_s]
    omega
  refine ⟨?_, fun y => absurd y nz, fun y => absurd y nz⟩
  rw [e 0 (by omega) (by omega), e 1 (by omega) (by omega), e 300 (by omega) (by omega)]
  exact h.1
theorem RgI_RD {o : Int} (ho : o = 0 ∨ o = 1 ∨ o = 2) (B : Nat → Int) (n : Nat) : ∀ f p st, RgI o st → RgI o (RD o B n f p st) := by
  intro f
  induction f with
  | zero => intro p st h; exact h
  | succ f ih =>
    intro p st h
    rw [RD_1]
    split
    · exact h
    split
    · exact RgI_fl h
    · rename_i hw
      split
      · refine ih _ _ (RgI_ap ?_ h)
        unfold wcN at hw ⊢
        split at hw
        · rename_i hk
          rw [if_pos hk]
          rcases wcd_o ho (W := tkW B n p) with z | z | z | z
          · exact absurd z hw
          · exact Or.inl z
          · exact Or.inr (Or.inl z)
          · exact Or.inr (Or.inr z)
        · exact absurd rfl hw
      · exact RgI_fl h
/-- a LINE that is read: where RIDERS get off there is a POST -/
theorem RgI_FN {o : Int} {n : Nat} {st : Nat → Int} (h : RgI o st) : RgI o (FN o n st) ∧ (o = 0 → FN o n st 200 = 0 → 2 ≤ FN o n st 0 ∧ ∀ r : Nat, (r : Int) < FN o n st 1 → FN o n st (87 + 6 * r + 1) < FN o n st 0) := by
  unfold FN
  split
  · rename_i hc
    refine ⟨RgI_nte (by omega) h, fun _ y => absurd y (nte_200 (by omega))⟩
  · rename_i hc
    refine ⟨h, fun z y => ⟨?_, fun r hr => ?_⟩⟩
    · exact Classical.byContradiction (fun w => hc ⟨z, Or.inl (by omega)⟩)
    · have a := (h.2.2 y r hr).2
      have b : st 202 < st 0 := Classical.byContradiction (fun w => hc ⟨z, Or.inr w⟩)
      omega
theorem RgI_ini {o : Int} {st : Nat → Int} (h : Ini st) : RgI o st := by
  obtain ⟨a0, a1, a2, a3, a4, a5, a6, ap, az, ay, ax, aw⟩ := h
  refine ⟨?_, fun _ => ?_, fun _ r hr => by omega⟩
  · rw [a0, a1, aw]
    split <;> omega
  · intro s hs hr
    rw [a0, a1, aw] at hs
    unfold LV at hs
    by_cases c : s < 7
    · rcases (show s = 0 ∨ s = 1 ∨ s = 2 ∨ s = 3 ∨ s = 4 ∨ s = 5 ∨ s = 6 by omega) with r | r | r | r | r | r | r <;> subst r
      · rw [a0]
        show (0 : Int) ≤ 0 ∧ (0 : Int) ≤ 16
        omega
      · rw [a1]
        show (0 : Int) ≤ 0 ∧ (0 : Int) ≤ 6
        omega
      · rw [a2]
        show (1 : Int) ≤ 2 ∧ (2 : Int) ≤ 9
        omega
      · rw [a3]
        show (0 : Int) ≤ 0 ∧ (0 : Int) ≤ 9
        omega
      · rw [a4]
        show (0 : Int) ≤ 0 ∧ (0 : Int) ≤ 60
        omega
      · rw [a5]
        show (0 : Int) ≤ 0 ∧ (0 : Int) ≤ 9
        omega
      · rw [a6]
        show (-1 : Int) ≤ -1 ∧ (-1 : Int) ≤ 999
        omega
    by_cases c2 : s < 87
    · have x := ap ((s - 7) / 5) (by omega)
      have q := rr_P o (k := (s - 7) / 5) (by omega)
      rcases (show s = 7 + 5 * ((s - 7) / 5) + 3 ∨ s = 7 + 5 * ((s - 7) / 5) + 4 by omega) with e | e
      · rw [e, x.1, q.2.2.2.1.1, q.2.2.2.1.2]; omega
      · rw [e, x.2, q.2.2.2.2.1, q.2.2.2.2.2]; omega
    · have e : s = 300 := by omega
      subst e
      rw [aw]
      show (0 : Int) ≤ 0 ∧ (0 : Int) ≤ (if o = 2 then 10 else 16)
      split <;> omega
