theorem cnF_pos {W : Nat → Bool} {r : Nat} (w : W r = true) : ∀ n, r < n → 0 < cnF W n := by
  intro n
  induction n with
  | zero => intro h; omega
  | succ n ih =>
    intro h
    rw [cnF_1]
    by_cases c : r = n
    · subst c
      rw [w, if_pos rfl]
      omega
    · have := ih (by omega)
      omega
theorem lstF_c0 {W : Nat → Bool} {n : Nat} (hn : n < 1000) (h : cnF W n = 0) : lstF W n = -1 := by
  rcases lstF_sp W n hn with ⟨a, _⟩ | ⟨r, a, b, c, _⟩
  · exact a
  · have := cnF_pos c n a
    omega
def wLw (law : Int32) (W : Nat → Bool) (S : Nat → Int32) : Nat → Bool := fun r => W r && (decide (¬ law = 1) || decide (S (30 + r) = 0))
theorem wLw_n {law : Int32} {W : Nat → Bool} {S : Nat → Int32} (h : ¬ law = 1) (r : Nat) : wLw law W S r = W r := by
  unfold wLw
  rw [decide_eq_true h]
  cases W r <;> rfl
theorem wLw_1 {law : Int32} {W : Nat → Bool} {S : Nat → Int32} (h : law = 1) (r : Nat) : wLw law W S r = (W r && decide (S (30 + r) = 0)) := by
  unfold wLw
  rw [decide_eq_false (fun c => c h)]
  rfl
set_option maxHeartbeats 8000000 in
theorem f_pullerAt_12 {l R N : Nat} {G cs pd S : Nat → Int32} {so : Nat → Bool} {σ : zSto} (X : RfX l R N G cs pd σ) (h31 : σ.1 223 31 = S 0) (h30 : σ.1 223 30 = S 2) (h41 : ∀ r, r < 6 → σ.1 241 r = S (10 + r)) (h44 : ∀ r, r < 6 → σ.1 244 r = S (30 + r)) (x_1 x_2 x_3 : Int32) (hlaw : -1 ≤ ti x_2 ∧ ti x_2 ≤ 3) {p : Nat} (h1 : ti x_1 = (p : Int)) (hp : p < N) (hso : ∀ r, r < R → so r = bt x_3 r) {W : Nat → Bool} (hW : W = wts so cs pd (rdG G) S p) {P : Int32 → zSto → Prop} (hP1 : ¬ (x_2 = 2 ∧ cnF W R ≠ 0) → P (pck x_2 R W (fun r => rdG G r 5) S) σ) (hP2 : x_2 = 2 ∧ cnF W R ≠ 0 → ∀ σ2, σ2 = zI σ 223 30 (nxs (σ.1 223 30)) → P (pck x_2 R W (fun r => rdG G r 5) S) σ2) : ∀ (n i : Nat) (x_4 x_5 x_6 x_7 : Int32), ti x_7 = (i : Int) → i ≤ R → x_4 = lstF (wLw x_2 W S) i → x_5 = drF (wLw x_2 W S) (fun r => rdG G r 5) i → x_6 = Int32.ofNat (cnF (wLw x_2 W S) i) → (x_2 = -1 → i = 0) → R - i < n → w_X10_pullerAt_12 x_1 x_2 x_3 P n x_4 x_5 x_6 x_7 σ := by
  have l0 := lit_0
  have l1 := lit_1
  have l2 := lit_2
  have l3 := lit_3
  have lm := lit_m1
  have R6 := X.2.2.2.2.2.2.2.1
  have h26 := X.2.2.2.2.1
  have hWr : ∀ r, W r = (so r && wnt cs pd (rdG G) S p r) := fun r => by rw [hW]; rfl
  intro n
  induction n with
  | zero => intro i x_4 x_5 x_6 x_7 _ _ _ _ _ _ h; omega
  | succ n ih =>
    intro i x_4 x_5 x_6 x_7 hi hiR h4 h5 h6 hm hn
    -- where it ends
    have fin0 : (x_2 = -1 ∨ i = R) → ¬ x_2 = 2 → ¬ x_2 = 3 → P x_4 σ := by
      intro hx n2 n3
      have y := hP1 (fun z => n2 z.1)
      have e : pck x_2 R W (fun r => rdG G r 5) S = x_4 := by
        unfold pck
        rcases hx with hx | hx
        · rw [hx, if_neg (by decide), if_neg (by decide), if_neg (by decide), if_neg (by decide), h4, hm hx]
          rfl
        · by_cases c0 : x_2 = 0
          · rw [if_pos c0, h4, hx]
            exact lstF_cg R (fun r _ => (wLw_n (by rw [c0]; decide) r).symm)
          · by_cases c1 : x_2 = 1
            · rw [if_neg c0, if_pos c1, h4, hx]
              exact lstF_cg R (fun r _ => (wLw_1 c1 r).symm)
            · have a0 := ne_t c0
              have a1 := ne_t c1
              have a2 := ne_t n2
              have a3 := ne_t n3
              have em : x_2 = -1 := t_inj (by omega)
              rw [em, if_neg (by decide), if_neg (by decide), if_neg (by decide), if_neg (by decide), h4, hm em]
              rfl
      rw [e] at y
      exact y
    have fin3 : (x_2 = -1 ∨ i = R) → x_2 = 3 → P x_5 σ := by
      intro hx e3
      have y := hP1 (fun z => absurd (z.1.symm.trans e3) (by decide))
      have er : i = R := by
        rcases hx with hx | hx
        · exact absurd (hx.symm.trans e3) (by decide)
        · exact hx
      have e : pck x_2 R W (fun r => rdG G r 5) S = x_5 := by
        unfold pck
        rw [if_neg (by rw [e3]; decide), if_neg (by rw [e3]; decide), if_neg (by rw [e3]; decide), if_pos e3, h5, er]
        exact drF_cg R (fun r _ => (wLw_n (by rw [e3]; decide) r).symm)
      rw [e] at y
      exact y
    have fin2 : (x_2 = -1 ∨ i = R) → x_2 = 2 → ((¬ x_6 = 0 → (w_X10_draw x_6 σ (fun (r2 : Int32) (σ1 : zSto) => (∃ n2 : Nat, w_X10_pullerAt_150 x_1 x_3 P n2 r2 (0 : Int32) σ1)))) ∧ (x_6 = 0 → P x_4 σ)) := by
      intro hx e2
      have er : i = R := by
        rcases hx with hx | hx
        · exact absurd (hx.symm.trans e2) (by decide)
        · exact hx
      have ec : cnF (wLw x_2 W S) i = cnF W R := by rw [er]; exact cnF_cg R (fun r _ => wLw_n (by rw [e2]; decide) r)
      have cl := cnF_le W R
      rw [ec] at h6
      refine ⟨fun q => ?_, fun q => ?_⟩
      · have cn : cnF W R ≠ 0 := fun z => q (by rw [h6, z]; rfl)
        intro σ1 e1
        have u : ∀ k j, ¬ (k = 223 ∧ j = 30) → σ1.1 k j = σ.1 k j := fun k j h => zI_q' e1 (by omega)
        have v30 : σ1.1 223 30 = nxs (S 2) := by rw [e1, zI_s, h30]; rfl
        refine ⟨q, ?_⟩
        have dr := drw_sp (nxs (S 2)) (n := cnF W R) (by omega) (by omega)
        have ed : ((σ1.1 223 30).toUInt32 >>> ((16 : Int32).toUInt32 &&& Int32.toUInt32 31)).toInt32 - ((σ1.1 223 30).toUInt32 >>> ((16 : Int32).toUInt32 &&& Int32.toUInt32 31)).toInt32 / x_6 * x_6 = drw (nxs (S 2)) (Int32.ofNat (cnF W R)) := by
          rw [v30, h6]
          rfl
        rw [ed]
        have y := hP2 ⟨e2, cn⟩ σ1 (by rw [e1]; rfl)
        have epk : pck x_2 R W (fun r => rdG G r 5) S = lstF (fun r => wts so cs pd (rdG G) S p r && decide (Int32.ofNat (cnF (wts so cs pd (rdG G) S p) r) = drw (nxs (S 2)) (Int32.ofNat (cnF W R)))) R := by
          unfold pck
          rw [if_neg (by rw [e2]; decide), if_neg (by rw [e2]; decide), if_pos e2, if_neg cn, hW]
        rw [epk] at y
        refine ⟨100, f_pullerAt_150 (l := l) (R := R) (N := N) (G := G) (cs := cs) (pd := pd) (S := S) (so := so) (RfX_fr X (fun j a b => u 223 j (by omega)) (fun k j h => u k j (by omega))) (by rw [u 223 31 (by omega)]; exact h31) (fun r hr => by rw [u 241 r (by omega)]; exact h41 r hr) x_1 x_3 h1 hp hso (k := drw (nxs (S 2)) (Int32.ofNat (cnF W R))) (by omega) y 100 0 _ (0 : Int32) lit_0 (by omega) rfl ?_ dr.1 (by omega)⟩
        show _ = _ - ((0 : Nat) : Int)
        omega
      · have c0 : cnF W R = 0 := by
          have := eq_t q
          rw [h6, show ti (Int32.ofNat (cnF W R)) = ((cnF W R : Nat) : Int) from nI_t (by omega), l0] at this
          omega
        have y := hP1 (fun z => z.2 c0)
        have e : pck x_2 R W (fun r => rdG G r 5) S = x_4 := by
          unfold pck
          rw [if_neg (by rw [e2]; decide), if_neg (by rw [e2]; decide), if_pos e2, if_pos c0, h4, er, lstF_cg R (fun r _ => wLw_n (law := x_2) (W := W) (S := S) (by rw [e2]; decide) r), lstF_c0 (by omega) c0]
        rw [e] at y
        exact y
    unfold w_X10_pullerAt_12
    refine ⟨fun q => ?_, fun q => ⟨fun qm => ?_, fun qm => ?_⟩⟩
    · have c := le_t q
      have er : i = R := by omega
      exact ⟨fun a => ⟨fun b => fin0 (Or.inr er) a b, fun b => fin3 (Or.inr er) b⟩, fun a => ⟨(fin2 (Or.inr er) a).1, fun b => ⟨fun _ => (fin2 (Or.inr er) a).2 b, fun d => absurd (a.symm.trans d) (by decide)⟩⟩⟩
    · exact ⟨fun a => ⟨fun b => fin0 (Or.inl qm) a b, fun b => fin3 (Or.inl qm) b⟩, fun a => ⟨(fin2 (Or.inl qm) a).1, fun b => ⟨fun _ => (fin2 (Or.inl qm) a).2 b, fun d => absurd (a.symm.trans d) (by decide)⟩⟩⟩
    · have c := nle_t q
      have t1 := tadd (x := x_7) (y := (1 : Int32)) (by omega)
      have cl := cnF_le (wLw x_2 W S) i
      have e7 := nI_x hi (by omega)
      have tn7 := tn_eq x_7
      have skip : wLw x_2 W S i = false → ∀ x15 : Int32, x15 = x_7 + (1 : Int32) → w_X10_pullerAt_12 x_1 x_2 x_3 P n x_4 x_5 x_6 x15 σ := fun w x15 e15 => by
        have t5 := eq_t e15
        refine ih (i + 1) x_4 x_5 x_6 x15 (by omega) (by omega) ?_ ?_ ?_ (fun z => absurd z qm) (by omega)
        · rw [lstF_1, w, h4]
          by_cases k : lstF (wLw x_2 W S) i = -1
          · rw [if_pos k, if_neg (by decide), k]
          · rw [if_neg k]
        · rw [drF_1, if_neg (fun z => by rw [w] at z; exact absurd z.1 (by decide)), h5]
        · rw [cnF_1, w, if_neg (by decide), h6]
          rfl
      have go : wLw x_2 W S i = true → ∀ (y4 y5 : Int32), y4 = lstF (wLw x_2 W S) (i + 1) → y5 = drF (wLw x_2 W S) (fun r => rdG G r 5) (i + 1) → ∀ x19 : Int32, x19 = x_6 + (1 : Int32) → ∀ x20 : Int32, x20 = x_7 + (1 : Int32) → w_X10_pullerAt_12 x_1 x_2 x_3 P n y4 y5 x19 x20 σ := fun w y4 y5 g4 g5 x19 e19 x20 e20 => by
        have t20 := eq_t e20
        refine ih (i + 1) y4 y5 x19 x20 (by omega) (by omega) g4 g5 ?_ (fun z => absurd z qm) (by omega)
        rw [cnF_1, w, if_pos rfl, e19, h6]
        exact nI_1 _
      have g4a : wLw x_2 W S i = true → ¬ x_4 = -1 → x_4 = lstF (wLw x_2 W S) (i + 1) := fun w k => by
        rw [lstF_1, if_neg (by rw [← h4]; exact k), h4]
      have g4b : wLw x_2 W S i = true → x_4 = -1 → x_7 = lstF (wLw x_2 W S) (i + 1) := fun w k => by
        rw [lstF_1, if_pos (by rw [← h4]; exact k), if_pos w]
        exact e7
      have g5a : wLw x_2 W S i = true → x_5 = -1 → x_7 = drF (wLw x_2 W S) (fun r => rdG G r 5) (i + 1) := fun w k => by
        rw [drF_1, if_pos ⟨w, Or.inl (by rw [← h5]; exact k)⟩]
        exact e7
      have g5x : ¬ x_5 = -1 → ∃ r0 : Nat, r0 < i ∧ ti x_5 = (r0 : Int) ∧ x_5.toNatClampNeg = r0 := fun k => by
        rcases drF_sp (wLw x_2 W S) (fun r => rdG G r 5) i (by omega) with z | ⟨r0, a, b, _⟩
        · exact absurd (h5.trans z) k
        · refine ⟨r0, a, ?_, ?_⟩
          · rw [h5, b]; exact nI_t (by omega)
          · rw [h5, b]; exact ofNat_c (by omega)
      have g5b : ∀ r0 : Nat, wLw x_2 W S i = true → ¬ x_5 = -1 → x_5.toNatClampNeg = r0 → rdG G i 5 ≤ rdG G r0 5 → x_5 = drF (wLw x_2 W S) (fun r => rdG G r 5) (i + 1) := fun r0 w k e le => by
        rw [drF_1, if_neg, h5]
        rintro ⟨_, z | z⟩
        · exact k (h5.trans z)
        · rw [← h5, e] at z
          exact z le
      have g5c : ∀ r0 : Nat, wLw x_2 W S i = true → ¬ x_5 = -1 → x_5.toNatClampNeg = r0 → ¬ rdG G i 5 ≤ rdG G r0 5 → x_7 = drF (wLw x_2 W S) (fun r => rdG G r 5) (i + 1) := fun r0 w k e le => by
        rw [drF_1, if_pos ⟨w, Or.inr (by rw [← h5, e]; exact le)⟩]
        exact e7
      refine f_X10_has x_3 x_7 hi (by omega) (fun r4 z4 => fun _ => ⟨fun q4 => skip ?_, fun q4 => ?_⟩)
      · have b : W i = false := by
          rw [hWr, hso i (by omega)]
          cases hb : bt x_3 i
          · rfl
          · exact absurd q4 (z4.mpr hb)
        unfold wLw
        rw [b]
        rfl
      · have b4 := z4.mp q4
        refine f_X10_wants X h31 x_7 x_1 hi (by omega) (h41 i (by omega)) h1 hp (fun r7 z7 => fun _ => ⟨fun q7 => skip ?_, fun q7 => ?_⟩)
        · have b : W i = false := by
            rw [hWr]
            cases hb : wnt cs pd (rdG G) S p i
            · cases so i <;> rfl
            · exact absurd q7 (z7.mpr hb)
          unfold wLw
          rw [b]
          rfl
        · have w : W i = true := by rw [hWr, hso i (by omega), b4, z7.mp q7]; rfl
          rw [show x_7.toNatClampNeg = i by omega, h44 i (by omega)]
          refine ⟨fun k1 => ?_, fun k1 => ⟨vin (by omega), fun k0 => skip ?_, fun k0 => ?_⟩⟩
          · have w' : wLw x_2 W S i = true := by rw [wLw_n k1]; exact w
            refine ⟨fun a => ⟨fun b => go w' _ _ (g4a w' a) (g5a w' b), fun b => ?_⟩, fun a => ⟨fun b => go w' _ _ (g4b w' a) (g5a w' b), fun b => ?_⟩⟩
            · obtain ⟨r0, r1, r2, r3⟩ := g5x b
              refine f_rdOf (c := 5) X _ _ hi (by omega) lit_5 (by omega) ?_
              refine f_rdOf (c := 5) X _ _ r2 (by omega) lit_5 (by omega) ?_
              exact ⟨fun d => go w' _ _ (g4a w' a) (g5b r0 w' b r3 d), fun d => go w' _ _ (g4a w' a) (g5c r0 w' b r3 d)⟩
            · obtain ⟨r0, r1, r2, r3⟩ := g5x b
              refine f_rdOf (c := 5) X _ _ hi (by omega) lit_5 (by omega) ?_
              refine f_rdOf (c := 5) X _ _ r2 (by omega) lit_5 (by omega) ?_
              exact ⟨fun d => go w' _ _ (g4b w' a) (g5b r0 w' b r3 d), fun d => go w' _ _ (g4b w' a) (g5c r0 w' b r3 d)⟩
          · rw [wLw_1 k1, decide_eq_false k0]
            cases W i <;> rfl
          · have w' : wLw x_2 W S i = true := by rw [wLw_1 k1, w, decide_eq_true k0]; rfl
            refine ⟨fun a => ⟨fun b => go w' _ _ (g4a w' a) (g5a w' b), fun b => ?_⟩, fun a => ⟨fun b => go w' _ _ (g4b w' a) (g5a w' b), fun b => ?_⟩⟩
            · obtain ⟨r0, r1, r2, r3⟩ := g5x b
              refine f_rdOf (c := 5) X _ _ hi (by omega) lit_5 (by omega) ?_
              refine f_rdOf (c := 5) X _ _ r2 (by omega) lit_5 (by omega) ?_
              exact ⟨fun d => go w' _ _ (g4a w' a) (g5b r0 w' b r3 d), fun d => go w' _ _ (g4a w' a) (g5c r0 w' b r3 d)⟩
            · obtain ⟨r0, r1, r2, r3⟩ := g5x b
              refine f_rdOf (c := 5) X _ _ hi (by omega) lit_5 (by omega) ?_
              refine f_rdOf (c := 5) X _ _ r2 (by omega) lit_5 (by omega) ?_
              exact ⟨fun d => go w' _ _ (g4b w' a) (g5b r0 w' b r3 d), fun d => go w' _ _ (g4b w' a) (g5c r0 w' b r3 d)⟩
