/-! two readings of the same bytes agree -/
def LV (a b c : Int) (s : Nat) : Prop := s < 7 ∨ (7 ≤ s ∧ s < 87 ∧ (3 ≤ (s - 7) % 5 ∨ (((s - 7) / 5 : Nat) : Int) < a)) ∨ (87 ≤ s ∧ s < 123 ∧ (((s - 87) / 6 : Nat) : Int) < b) ∨ s = 200 ∨ s = 201 ∨ s = 202 ∨ s = 300 ∨ (301 ≤ s ∧ s < 333 ∧ (((s - 301) / 2 : Nat) : Int) < c)
def agS (X : Nat → Prop) (st st' : Nat → Int) : Prop := ∀ s, X s → st s = st' s
def ag (st st' : Nat → Int) : Prop := agS (LV (st 0) (st 1) (st 300)) st st'
theorem agS_up {X : Nat → Prop} {st st' : Nat → Int} {s : Nat} {x x' : Int} (h : agS X st st') (e : x = x') : agS (fun j => X j ∨ j = s) (up st s x) (up st' s x') := by
  intro j hj
  subst e
  by_cases c : j = s
  · rw [c, up_s, up_s]
  · rw [up_q c, up_q c]
    exact h j (by rcases hj with hj | hj; exact hj; exact absurd hj c)
theorem agS_nte {X : Nat → Prop} {st st' : Nat → Int} {f p : Int} (h : agS X st st') (h2 : X 200) : agS X (nte st f p) (nte st' f p) := by
  intro j hj
  unfold nte
  rw [h 200 h2]
  split
  · by_cases c : j = 201
    · rw [c, up_s, up_s]
    · rw [up_q c, up_q c]
      by_cases c2 : j = 200
      · rw [c2, up_s, up_s]
      · rw [up_q c2, up_q c2]; exact h j hj
  · exact h j hj
theorem agS_chk {X : Nat → Prop} {st st' : Nat → Int} {v p l u : Int} (h : agS X st st') (h2 : X 200) : agS X (chk st v p l u) (chk st' v p l u) := by
  unfold chk
  split
  · exact agS_nte h h2
  · exact h
theorem ag_of {st st' f f' : Nat → Int} {X : Nat → Prop} (h : agS X f f') {a b c : Int} (h0 : f 0 = a) (h1 : f 1 = b) (h3 : f 300 = c) (hX : ∀ s, LV a b c s → X s) : ag f f' := by
  intro s hs
  rw [h0, h1, h3] at hs
  exact h s (hX s hs)
theorem LV_1 (a b c : Int) {s : Nat} (h : s < 7 ∨ s = 200 ∨ s = 202 ∨ s = 300) : LV a b c s := by unfold LV; omega
theorem LV_pos {a b c : Int} {s : Nat} (hs : LV (a + 1) b c s) : LV a b c s ∨ ∃ i, i < 3 ∧ s = 7 + 5 * a.toNat + i := by
  unfold LV at hs ⊢
  rcases hs with h | ⟨h1, h2, h3⟩ | h | h | h | h | h | h
  · exact Or.inl (Or.inl h)
  · by_cases q : 3 ≤ (s - 7) % 5 ∨ (((s - 7) / 5 : Nat) : Int) < a
    · exact Or.inl (Or.inr (Or.inl ⟨h1, h2, q⟩))
    · refine Or.inr ⟨s - (7 + 5 * a.toNat), ?_, ?_⟩ <;> omega
  · exact Or.inl (Or.inr (Or.inr (Or.inl h)))
  · exact Or.inl (Or.inr (Or.inr (Or.inr (Or.inl h))))
  · exact Or.inl (Or.inr (Or.inr (Or.inr (Or.inr (Or.inl h)))))
  · exact Or.inl (Or.inr (Or.inr (Or.inr (Or.inr (Or.inr (Or.inl h))))))
  · exact Or.inl (Or.inr (Or.inr (Or.inr (Or.inr (Or.inr (Or.inr (Or.inl h)))))))
  · exact Or.inl (Or.inr (Or.inr (Or.inr (Or.inr (Or.inr (Or.inr (Or.inr h)))))))
theorem LV_rid {a b c : Int} {s : Nat} (hs : LV a (b + 1) c s) : LV a b c s ∨ ∃ i, i < 6 ∧ s = 87 + 6 * b.toNat + i := by
  unfold LV at hs ⊢
  rcases hs with h | h | ⟨h1, h2, h3⟩ | h | h | h | h | h
  · exact Or.inl (Or.inl h)
  · exact Or.inl (Or.inr (Or.inl h))
  · by_cases q : (((s - 87) / 6 : Nat) : Int) < b
    · exact Or.inl (Or.inr (Or.inr (Or.inl ⟨h1, h2, q⟩)))
    · refine Or.inr ⟨s - (87 + 6 * b.toNat), ?_, ?_⟩ <;> omega
  · exact Or.inl (Or.inr (Or.inr (Or.inr (Or.inl h))))
  · exact Or.inl (Or.inr (Or.inr (Or.inr (Or.inr (Or.inl h)))))
  · exact Or.inl (Or.inr (Or.inr (Or.inr (Or.inr (Or.inr (Or.inl h))))))
  · exact Or.inl (Or.inr (Or.inr (Or.inr (Or.inr (Or.inr (Or.inr (Or.inl h)))))))
  · exact Or.inl (Or.inr (Or.inr (Or.inr (Or.inr (Or.inr (Or.inr (Or.inr h)))))))
theorem LV_pai {a b c : Int} {s : Nat} (hs : LV a b (c + 1) s) : LV a b c s ∨ ∃ i, i < 2 ∧ s = 301 + 2 * c.toNat + i := by
  unfold LV at hs ⊢
  rcases hs with h | h | h | h | h | h | h | ⟨h1, h2, h3⟩
  · exact Or.inl (Or.inl h)
  · exact Or.inl (Or.inr (Or.inl h))
  · exact Or.inl (Or.inr (Or.inr (Or.inl h)))
  · exact Or.inl (Or.inr (Or.inr (Or.inr (Or.inl h))))
  · exact Or.inl (Or.inr (Or.inr (Or.inr (Or.inr (Or.inl h)))))
  · exact Or.inl (Or.inr (Or.inr (Or.inr (Or.inr (Or.inr (Or.inl h))))))
  · exact Or.inl (Or.inr (Or.inr (Or.inr (Or.inr (Or.inr (Or.inr (Or.inl h)))))))
  · by_cases q : (((s - 301) / 2 : Nat) : Int) < c
    · exact Or.inl (Or.inr (Or.inr (Or.inr (Or.inr (Or.inr (Or.inr (Or.inr ⟨h1, h2, q⟩)))))))
    · refine Or.inr ⟨s - (301 + 2 * c.toNat), ?_, ?_⟩ <;> omega
theorem LV_p3 {Q : Nat → Prop} {s k : Nat} (h : Q s ∨ ∃ i, i < 3 ∧ s = k + i) : (((Q s ∨ s = k + 0) ∨ s = k + 1) ∨ s = k + 2) ∨ s = 0 := by
  rcases h with q | ⟨i, hi, q⟩
  · exact Or.inl (Or.inl (Or.inl (Or.inl q)))
  · rcases (show i = 0 ∨ i = 1 ∨ i = 2 by omega) with e | e | e <;> subst e
    · exact Or.inl (Or.inl (Or.inl (Or.inr q)))
    · exact Or.inl (Or.inl (Or.inr q))
    · exact Or.inl (Or.inr q)
theorem LV_p6 {Q : Nat → Prop} {s k : Nat} (h : Q s ∨ ∃ i, i < 6 ∧ s = k + i) : (((((((Q s ∨ s = k + 0) ∨ s = k + 1) ∨ s = 202) ∨ s = k + 2) ∨ s = k + 3) ∨ s = k + 4) ∨ s = k + 5) ∨ s = 1 := by
  rcases h with q | ⟨i, hi, q⟩
  · exact Or.inl (Or.inl (Or.inl (Or.inl (Or.inl (Or.inl (Or.inl (Or.inl q)))))))
  · rcases (show i = 0 ∨ i = 1 ∨ i = 2 ∨ i = 3 ∨ i = 4 ∨ i = 5 by omega) with e | e | e | e | e | e <;> subst e
    · exact Or.inl (Or.inl (Or.inl (Or.inl (Or.inl (Or.inl (Or.inl (Or.inr q)))))))
    · exact Or.inl (Or.inl (Or.inl (Or.inl (Or.inl (Or.inl (Or.inr q))))))
    · exact Or.inl (Or.inl (Or.inl (Or.inl (Or.inr q))))
    · exact Or.inl (Or.inl (Or.inl (Or.inr q)))
    · exact Or.inl (Or.inl (Or.inr q))
    · exact Or.inl (Or.inr q)
theorem LV_p2 {Q : Nat → Prop} {s k : Nat} (h : Q s ∨ ∃ i, i < 2 ∧ s = k + i) : ((Q s ∨ s = k + 0) ∨ s = k + 1) ∨ s = 300 := by
  rcases h with q | ⟨i, hi, q⟩
  · exact Or.inl (Or.inl (Or.inl q))
  · rcases (show i = 0 ∨ i = 1 by omega) with e | e <;> subst e
    · exact Or.inl (Or.inl (Or.inr q))
    · exact Or.inl (Or.inr q)
theorem ag_apP {st st' v p : Nat → Int} {w : Int} (h : ag st st') : ag (apP st v p w) (apP st' v p w) := by
  have h0 := h 0 (LV_1 _ _ _ (by omega))
  have z := LV_1 (st 0) (st 1) (st 300) (s := 200) (by omega)
  unfold apP
  rw [← h0]
  split
  · refine ag_of (agS_up (s := 0) (agS_up (s := 7 + 5 * (st 0).toNat + 2) (agS_up (s := 7 + 5 * (st 0).toNat + 1) (agS_up (s := 7 + 5 * (st 0).toNat + 0) (agS_chk (agS_chk (agS_chk h z) z) z) rfl) rfl) rfl) rfl) (a := st 0 + 1) (b := st 1) (c := st 300) up_s ?_ ?_ (fun s hs => ?_) (st := st) (st' := st')
    · rw [up_q (by omega), up_q (by omega), up_q (by omega), up_q (by omega), chk_s (by omega), chk_s (by omega), chk_s (by omega)]
    · rw [up_q (by omega), up_q (by omega), up_q (by omega), up_q (by omega), chk_s (by omega), chk_s (by omega), chk_s (by omega)]
    · exact LV_p3 (Q := LV (st 0) (st 1) (st 300)) (LV_pos hs)
  · exact ag_of (agS_nte h z) (nte_s (by omega)) (nte_s (by omega)) (nte_s (by omega)) (fun s hs => hs) (st := st) (st' := st')
theorem ag_apR {st st' v p : Nat → Int} {w : Int} (h : ag st st') : ag (apR st v p w) (apR st' v p w) := by
  have h0 := h 1 (LV_1 _ _ _ (by omega))
  have h2 := h 202 (LV_1 _ _ _ (by omega))
  have z := LV_1 (st 0) (st 1) (st 300) (s := 200) (by omega)
  unfold apR
  rw [← h0, ← h2]
  split
  · refine ag_of (agS_up (s := 1) (agS_up (s := 87 + 6 * (st 1).toNat + 5) (agS_up (s := 87 + 6 * (st 1).toNat + 4) (agS_up (s := 87 + 6 * (st 1).toNat + 3) (agS_up (s := 87 + 6 * (st 1).toNat + 2) (agS_up (s := 202) (agS_up (s := 87 + 6 * (st 1).toNat + 1) (agS_up (s := 87 + 6 * (st 1).toNat + 0) (agS_chk (agS_chk (agS_chk (agS_chk (agS_chk (agS_chk h z) z) z) z) z) z) rfl) rfl) rfl) rfl) rfl) rfl) rfl) rfl) (a := st 0) (b := st 1 + 1) (c := st 300) ?_ up_s ?_ (fun s hs => ?_) (st := st) (st' := st')
    · rw [up_q (by omega), up_q (by omega), up_q (by omega), up_q (by omega), up_q (by omega), up_q (by omega), up_q (by omega), up_q (by omega), chk_s (by omega), chk_s (by omega), chk_s (by omega), chk_s (by omega), chk_s (by omega), chk_s (by omega)]
    · rw [up_q (by omega), up_q (by omega), up_q (by omega), up_q (by omega), up_q (by omega), up_q (by omega), up_q (by omega), up_q (by omega), chk_s (by omega), chk_s (by omega), chk_s (by omega), chk_s (by omega), chk_s (by omega), chk_s (by omega)]
    · exact LV_p6 (Q := LV (st 0) (st 1) (st 300)) (LV_rid hs)
  · exact ag_of (agS_nte h z) (nte_s (by omega)) (nte_s (by omega)) (nte_s (by omega)) (fun s hs => hs) (st := st) (st' := st')
theorem ag_apO {st st' v p : Nat → Int} {q : Nat} {u : Int} (hq : q = 3 ∨ q = 4) (h : ag st st') : ag (apO q u st v p) (apO q u st' v p) := by
  have h2 := h 202 (LV_1 _ _ _ (by omega))
  have z := LV_1 (st 0) (st 1) (st 300) (s := 200) (by omega)
  unfold apO
  rw [← h2]
  split
  · refine ag_of (agS_up (s := 7 + 5 * (v 0).toNat + q) (agS_up (s := 202) (agS_chk (agS_chk h z) z) rfl) rfl) (a := st 0) (b := st 1) (c := st 300) ?_ ?_ ?_ (fun s hs => Or.inl (Or.inl hs)) (st := st) (st' := st')
    · rw [up_q (by omega), up_q (by omega), chk_s (by omega), chk_s (by omega)]
    · rw [up_q (by omega), up_q (by omega), chk_s (by omega), chk_s (by omega)]
    · rw [up_q (by omega), up_q (by omega), chk_s (by omega), chk_s (by omega)]
  · refine ag_of (agS_up (s := 202) (agS_chk (agS_chk h z) z) rfl) (a := st 0) (b := st 1) (c := st 300) ?_ ?_ ?_ (fun s hs => Or.inl hs) (st := st) (st' := st')
    · rw [up_q (by omega), chk_s (by omega), chk_s (by omega)]
    · rw [up_q (by omega), chk_s (by omega), chk_s (by omega)]
    · rw [up_q (by omega), chk_s (by omega), chk_s (by omega)]
theorem ag_apW {st st' v p : Nat → Int} {s : Nat} {l u : Int} (hs : 2 ≤ s ∧ s < 7) (h : ag st st') : ag (apW s l u st v p) (apW s l u st' v p) := by
  have z := LV_1 (st 0) (st 1) (st 300) (s := 200) (by omega)
  unfold apW
  refine ag_of (agS_up (s := s) (agS_chk h z) rfl) (a := st 0) (b := st 1) (c := st 300) ?_ ?_ ?_ (fun s hs => Or.inl hs) (st := st) (st' := st')
  · rw [up_q (by omega), chk_s (by omega)]
  · rw [up_q (by omega), chk_s (by omega)]
  · rw [up_q (by omega), chk_s (by omega)]
theorem ag_apX {st st' v p : Nat → Int} {m u w : Int} (h : ag st st') : ag (apX m u st v p w) (apX m u st' v p w) := by
  have h0 := h 300 (LV_1 _ _ _ (by omega))
  have z := LV_1 (st 0) (st 1) (st 300) (s := 200) (by omega)
  unfold apX
  rw [← h0]
  split
  · refine ag_of (agS_up (s := 300) (agS_up (s := 301 + 2 * (st 300).toNat + 1) (agS_up (s := 301 + 2 * (st 300).toNat + 0) (agS_chk (agS_chk h z) z) rfl) rfl) rfl) (a := st 0) (b := st 1) (c := st 300 + 1) ?_ ?_ up_s (fun s hs => ?_) (st := st) (st' := st')
    · rw [up_q (by omega), up_q (by omega), up_q (by omega), chk_s (by omega), chk_s (by omega)]
    · rw [up_q (by omega), up_q (by omega), up_q (by omega), chk_s (by omega), chk_s (by omega)]
    · exact LV_p2 (Q := LV (st 0) (st 1) (st 300)) (LV_pai hs)
  · exact ag_of (agS_nte h z) (nte_s (by omega)) (nte_s (by omega)) (nte_s (by omega)) (fun s hs => hs) (st := st) (st' := st')
theorem ag_ap {st st' v p : Nat → Int} {c w : Int} (h : ag st st') : ag (ap c st v p w) (ap c st' v p w) := by
  unfold ap
  split
  · exact ag_apP h
  split
  · exact ag_apR h
  split
  · exact ag_apO (by omega) h
  split
  · exact ag_apO (by omega) h
  split
  · exact ag_apW (by omega) h
  split
  · exact ag_apW (by omega) h
  split
  · exact ag_apW (by omega) h
  split
  · exact ag_apW (by omega) h
  split
  · exact ag_apW (by omega) h
  split
  · exact ag_apX h
  · exact ag_apX h
theorem ag_fl {st st' : Nat → Int} {q : Nat} (h : ag st st') : ag (fl st q) (fl st' q) := by
  unfold fl
  refine ag_of (agS_up (s := 201) (agS_up (s := 200) h rfl) rfl) (a := st 0) (b := st 1) (c := st 300) ?_ ?_ ?_ (fun s hs => Or.inl (Or.inl hs)) (st := st) (st' := st')
  · rw [up_q (by omega), up_q (by omega)]
  · rw [up_q (by omega), up_q (by omega)]
  · rw [up_q (by omega), up_q (by omega)]
theorem ag_RD (o : Int) (B : Nat → Int) (n : Nat) : ∀ f p st st', ag st st' → ag (RD o B n f p st) (RD o B n f p st') := by
  intro f
  induction f with
  | zero => intro p st st' h; exact h
  | succ f ih =>
    intro p st st' h
    rw [RD_1, RD_1]
    split
    · exact h
    split
    · exact ag_fl h
    split
    · exact ih _ _ _ (ag_ap h)
    · exact ag_fl h
theorem ag_FN {o : Int} {n : Nat} {st st' : Nat → Int} (h : ag st st') : ag (FN o n st) (FN o n st') := by
  have h0 := h 0 (LV_1 _ _ _ (by omega))
  have h2 := h 202 (LV_1 _ _ _ (by omega))
  have z := LV_1 (st 0) (st 1) (st 300) (s := 200) (by omega)
  unfold FN
  rw [← h0, ← h2]
  split
  · exact ag_of (agS_nte h z) (nte_s (by omega)) (nte_s (by omega)) (nte_s (by omega)) (fun s hs => hs) (st := st) (st' := st')
  · exact h
theorem ag_ini {st st' : Nat → Int} (h : Ini st) (h' : Ini st') : ag st st' := by
  obtain ⟨a0, a1, a2, a3, a4, a5, a6, ap, az, ay, ax, aw⟩ := h
  obtain ⟨b0, b1, b2, b3, b4, b5, b6, bp, bz, by', bx, bw⟩ := h'
  intro s hs
  rw [a0, a1, aw] at hs
  unfold LV at hs
  by_cases c : s < 7
  · rcases (show s = 0 ∨ s = 1 ∨ s = 2 ∨ s = 3 ∨ s = 4 ∨ s = 5 ∨ s = 6 by omega) with r | r | r | r | r | r | r <;> subst r <;> omega
  by_cases c2 : s < 87
  · have x := ap ((s - 7) / 5) (by omega)
    have y := bp ((s - 7) / 5) (by omega)
    rcases (show s = 7 + 5 * ((s - 7) / 5) + 3 ∨ s = 7 + 5 * ((s - 7) / 5) + 4 by omega) with e | e
    · rw [e, x.1, y.1]
    · rw [e, x.2, y.2]
  · rcases (show s = 200 ∨ s = 201 ∨ s = 202 ∨ s = 300 by omega) with r | r | r | r <;> subst r <;> omega
