theorem cnF_z {W : Nat → Bool} : ∀ n, (∀ r, r < n → W r = false) → cnF W n = 0 := by
  intro n
  induction n with
  | zero => intro _; rfl
  | succ n ih =>
    intro h
    rw [cnF_1, ih (fun r hr => h r (by omega)), h n (by omega)]
    rfl
theorem drF_z {W : Nat → Bool} {f : Nat → Int32} : ∀ n, (∀ r, r < n → W r = false) → drF W f n = -1 := by
  intro n
  induction n with
  | zero => intro _; rfl
  | succ n ih =>
    intro h
    rw [drF_1, if_neg (fun z => by rw [h n (by omega)] at z; exact absurd z.1 (by decide))]
    exact ih (fun r hr => h r (by omega))
theorem lstF_z {W : Nat → Bool} : ∀ n, (∀ r, r < n → W r = false) → lstF W n = -1 := by
  intro n
  induction n with
  | zero => intro _; rfl
  | succ n ih =>
    intro h
    rw [lstF_1, if_pos (ih (fun r hr => h r (by omega))), h n (by omega)]
    rfl
theorem drF_up {W : Nat → Bool} {f : Nat → Int32} {R : Nat} : ∀ k, (∀ r, R ≤ r → r < R + k → W r = false) → drF W f (R + k) = drF W f R := by
  intro k
  induction k with
  | zero => intro _; rfl
  | succ k ih =>
    intro h
    rw [show R + (k + 1) = R + k + 1 from rfl, drF_1, if_neg (fun z => by rw [h (R + k) (by omega) (by omega)] at z; exact absurd z.1 (by decide))]
    exact ih (fun r a b => h r a (by omega))
/-- the first of them is the one ahead of whom there are none -/
theorem lstF_n0 (W : Nat → Bool) : ∀ n, n < 1000 → lstF (fun r => W r && decide (Int32.ofNat (cnF W r) = 0)) n = lstF W n := by
  intro n
  induction n with
  | zero => intro _; rfl
  | succ n ih =>
    intro hn
    rw [lstF_1, lstF_1, ih (by omega)]
    by_cases c : lstF W n = -1
    · rw [if_pos c, if_pos c]
      rcases lstF_sp W n (by omega) with ⟨_, b⟩ | ⟨r, a, b, _, _⟩
      · rw [cnF_z n b]
        cases W n <;> rfl
      · rw [b] at c
        exact absurd c (ofNat_ne (by omega))
    · rw [if_neg c, if_neg c]
theorem f_nthOf_4 (x_0 x_1 : Int32) {σ : zSto} {P : Int32 → zSto → Prop} (hP : P (lstF (fun r => bt x_0 r && decide (Int32.ofNat (cnF (bt x_0) r) = x_1)) 6) σ) : ∀ (n i : Nat) (x_2 x_3 : Int32), ti x_3 = (i : Int) → i ≤ 6 → x_2 = Int32.ofNat (cnF (bt x_0) i) → lstF (fun r => bt x_0 r && decide (Int32.ofNat (cnF (bt x_0) r) = x_1)) i = -1 → 6 - i < n → w_X5_nthOf_4 x_0 x_1 P n x_2 x_3 σ := by
  have l1 := lit_1
  have l6 := lit_6
  intro n
  induction n with
  | zero => intro i x_2 x_3 _ _ _ _ h; omega
  | succ n ih =>
    intro i x_2 x_3 hi hi6 h2 hl hn
    unfold w_X5_nthOf_4
    refine ⟨fun q => ?_, fun q => ?_⟩
    · have c := le_t q
      have e : i = 6 := by omega
      subst e
      rw [hl] at hP
      exact hP
    · have c := nle_t q
      have t1 := tadd (x := x_3) (y := (1 : Int32)) (by omega)
      have e3 := nI_x hi (by omega)
      refine ⟨fun q1 x1 e1 => ?_, fun q1 => ⟨fun q2 x2 e2 x3 e3' => ?_, fun q2 => ?_⟩⟩
      · have b := (bt_0 (x := x_0) (show i < 32 by omega) e3).mp q1
        have f := eq_t e1
        refine ih (i + 1) x_2 x1 (by omega) (by omega) ?_ ?_ (by omega)
        · rw [cnF_1, b, h2]
          rfl
        · rw [lstF_1, if_pos hl, b]
          rfl
      · have b : bt x_0 i = true := by
          cases hb : bt x_0 i
          · exact absurd ((bt_0 (show i < 32 by omega) e3).mpr hb) q1
          · rfl
        have f := eq_t e3'
        refine ih (i + 1) x2 x3 (by omega) (by omega) ?_ ?_ (by omega)
        · rw [cnF_1, b, if_pos rfl, e2, h2]
          exact nI_1 _
        · rw [lstF_1, if_pos hl, ← h2, decide_eq_false q2]
          cases bt x_0 i <;> rfl
      · have b : bt x_0 i = true := by
          cases hb : bt x_0 i
          · exact absurd ((bt_0 (show i < 32 by omega) e3).mpr hb) q1
          · rfl
        have hit : lstF (fun r => bt x_0 r && decide (Int32.ofNat (cnF (bt x_0) r) = x_1)) (i + 1) = Int32.ofNat i := by
          rw [lstF_1, if_pos hl, ← h2, decide_eq_true q2, b]
          rfl
        have fin := lstF_st (W := fun r => bt x_0 r && decide (Int32.ofNat (cnF (bt x_0) r) = x_1)) (by rw [hit]; exact ofNat_ne (by omega)) (6 - (i + 1))
        rw [show i + 1 + (6 - (i + 1)) = 6 by omega, hit] at fin
        rw [fin, ← e3] at hP
        exact hP
theorem f_X5_nthOf (a1 a2 : Int32) {σ : zSto} {P : Int32 → zSto → Prop} (hP : P (lstF (fun r => bt a1 r && decide (Int32.ofNat (cnF (bt a1) r) = a2)) 6) σ) : w_X5_nthOf a1 a2 σ P := ⟨10, f_nthOf_4 a1 a2 hP 10 0 (0 : Int32) (0 : Int32) lit_0 (by omega) rfl rfl (by omega)⟩
theorem f_X5_leastOf (a1 : Int32) {σ : zSto} {P : Int32 → zSto → Prop} (hP : P (lstF (bt a1) 6) σ) : w_X5_leastOf a1 σ P := by
  unfold w_X5_leastOf
  refine f_X5_nthOf a1 (0 : Int32) ?_
  rw [lstF_n0 (bt a1) 6 (by omega)]
  exact hP
theorem f_highestFare_4 {t R : Nat} {G : Nat → Int32} {σ : zSto} (L : LnR t G σ) (hR : ti (G 1) = (R : Int)) (hR6 : R ≤ 6) (x_1 : Int32) {P : Int32 → zSto → Prop} (hP : P (drF (bt x_1) (fun r => rdG G r 5) R) σ) : ∀ (n i : Nat) (x_2 x_3 : Int32), ti x_3 = (i : Int) → i ≤ R → x_2 = drF (bt x_1) (fun r => rdG G r 5) i → R - i < n → w_X5_highestFare_4 t x_1 P n x_2 x_3 σ := by
  have l1 := lit_1
  have e12 : σ.1 t 12 = G 1 := L.1 1 (by omega)
  intro n
  induction n with
  | zero => intro i x_2 x_3 _ _ _ h; omega
  | succ n ih =>
    intro i x_2 x_3 hi hiR h2 hn
    unfold w_X5_highestFare_4
    rw [e12]
    refine ⟨fun q => ?_, fun q => ?_⟩
    · have c := le_t q
      have e : i = R := by omega
      subst e
      rw [h2]
      exact hP
    · have c := nle_t q
      have t1 := tadd (x := x_3) (y := (1 : Int32)) (by omega)
      have e3 := nI_x hi (by omega)
      have n3 := tn_eq x_3
      have f5 : ∀ r, r < R → σ.1 (t + 11) r = rdG G r 5 := fun r hr => L.2.2 r 5 (by omega) (by omega) (by omega)
      rw [show x_3.toNatClampNeg = i by omega]
      refine ⟨fun q1 x1 e1 => ?_, fun q1 => ?_⟩
      · have b := (bt_0 (x := x_1) (show i < 32 by omega) e3).mp q1
        have f := eq_t e1
        refine ih (i + 1) x_2 x1 (by omega) (by omega) ?_ (by omega)
        rw [drF_1, if_neg (fun z => by rw [b] at z; exact absurd z.1 (by decide))]
        exact h2
      · have b : bt x_1 i = true := by
          cases hb : bt x_1 i
          · exact absurd ((bt_0 (show i < 32 by omega) e3).mpr hb) q1
          · rfl
        refine ⟨fun q2 x2 e2 => ?_, fun q2 => ?_⟩
        · have f := eq_t e2
          refine ih (i + 1) x_3 x2 (by omega) (by omega) ?_ (by omega)
          rw [drF_1, if_pos ⟨b, Or.inl (by rw [← h2]; exact q2)⟩]
          exact e3
        · obtain ⟨r0, a, bb, _⟩ : ∃ r, r < i ∧ drF (bt x_1) (fun r => rdG G r 5) i = Int32.ofNat r ∧ bt x_1 r = true := by
            rcases drF_sp (bt x_1) (fun r => rdG G r 5) i (by omega) with z | z
            · exact absurd (h2.trans z) q2
            · exact z
          have n2 : x_2.toNatClampNeg = r0 := by rw [h2, bb]; exact ofNat_c (by omega)
          have t2 : ti x_2 = (r0 : Int) := by rw [h2, bb]; exact nI_t (by omega)
          rw [n2, f5 i (by omega), f5 r0 (by omega)]
          refine ⟨vin (by omega), vin (by omega), fun q3 x5 e5 => ?_, fun q3 x5 e5 => ?_⟩
          · have f := eq_t e5
            refine ih (i + 1) x_2 x5 (by omega) (by omega) ?_ (by omega)
            rw [drF_1, if_neg, h2]
            rintro ⟨_, z | z⟩
            · exact q2 (h2.trans z)
            · rw [← h2, n2] at z
              exact z q3
          · have f := eq_t e5
            refine ih (i + 1) x_3 x5 (by omega) (by omega) ?_ (by omega)
            rw [drF_1, if_pos ⟨b, Or.inr (by rw [← h2, n2]; exact q3)⟩]
            exact e3
def bcI (a1 : Int32) : Int32 := a1 - ((a1.toUInt32 >>> ((1 : Int32).toUInt32 &&& Int32.toUInt32 31)).toInt32 &&& (1431655765 : Int32))
def bcJ (x1 : Int32) : Int32 := (x1 &&& (858993459 : Int32)) + ((x1.toUInt32 >>> ((2 : Int32).toUInt32 &&& Int32.toUInt32 31)).toInt32 &&& (858993459 : Int32))
def bcK (x2 : Int32) : Int32 := (x2 + (x2.toUInt32 >>> ((4 : Int32).toUInt32 &&& Int32.toUInt32 31)).toInt32) &&& (252645135 : Int32)
def bcL (x3 : Int32) : Int32 := x3 + (x3.toUInt32 >>> ((8 : Int32).toUInt32 &&& Int32.toUInt32 31)).toInt32
def bcM (x4 : Int32) : Int32 := (x4 + (x4.toUInt32 >>> ((16 : Int32).toUInt32 &&& Int32.toUInt32 31)).toInt32) &&& (63 : Int32)
theorem bc_64 : ∀ k, k < 64 → bcM (bcL (bcK (bcJ (bcI (Int32.ofNat k))))) = Int32.ofNat (cnF (bt (Int32.ofNat k)) 6) := by decide +kernel
theorem f_bitCount (a1 : Int32) (h : ∃ k, k < 64 ∧ a1 = Int32.ofNat k) {σ : zSto} {P : Int32 → zSto → Prop} (hP : P (Int32.ofNat (cnF (bt a1) 6)) σ) : w_J6_bitCount_0f7a4 a1 σ P := by
  obtain ⟨k, hk, e⟩ := h
  have y := bc_64 k hk
  rw [← e] at y
  rw [← y] at hP
  intro x1 e1 x2 e2 x3 e3 x4 e4 x5 e5
  subst e1
  subst e2
  subst e3
  subst e4
  subst e5
  exact hP
set_option maxHeartbeats 4000000 in
theorem f_X5_chosen {t R : Nat} {G S : Nat → Int32} {W : Nat → Bool} {σ : zSto} (L : LnR t G σ) (hR : ti (G 1) = (R : Int)) (hR6 : R ≤ 6) (a2 a3 : Int32) (hlaw : 0 ≤ ti a2 ∧ ti a2 ≤ 3) (hb : ∀ j, j < 32 → bt a3 j = (decide (j < R) && W j)) (h4 : ∀ r, r < 32 → bt (σ.1 190 4) r = (decide (r < 6) && decide (¬ S (30 + r) = 0))) (h5 : σ.1 190 5 = S 2) {P : Int32 → zSto → Prop} (hP1 : ¬ (a2 = 2 ∧ cnF W R ≠ 0) → P (pck a2 R W (fun r => rdG G r 5) S) σ) (hP2 : a2 = 2 ∧ cnF W R ≠ 0 → ∀ σ2, σ2 = zI σ 190 5 (nxs (σ.1 190 5)) → P (pck a2 R W (fun r => rdG G r 5) S) σ2) : w_X5_chosen t a2 a3 σ P := by
  have l0 := lit_0
  have l1 := lit_1
  have l2 := lit_2
  have l3 := lit_3
  have bw : ∀ r, r < R → bt a3 r = W r := fun r hr => by
    rw [hb r (by omega), decide_eq_true hr]
    rfl
  have bf : ∀ r, R ≤ r → r < 32 → bt a3 r = false := fun r hr hr2 => by
    rw [hb r hr2, decide_eq_false (by omega)]
    rfl
  have b6 : cnF (bt a3) 6 = cnF W R := by
    have y := cnF_up (W := bt a3) (R := R) (6 - R) (fun r a b => bf r a (by omega))
    rw [show R + (6 - R) = 6 by omega] at y
    rw [y]
    exact cnF_cg R bw
  unfold w_X5_chosen
  refine ⟨fun q => ⟨fun z => ?_, fun z => ?_, fun z => ?_, fun z => ?_, fun z => ?_⟩, fun q => ?_⟩
  · refine f_X5_leastOf a3 ?_
    have y := hP1 (fun w => absurd (z.symm.trans w.1) (by decide))
    have e : pck a2 R W (fun r => rdG G r 5) S = lstF (bt a3) 6 := by
      unfold pck
      rw [if_pos z]
      have u := lstF_up (W := bt a3) (R := R) (6 - R) (fun r a b => bf r a (by omega))
      rw [show R + (6 - R) = 6 by omega] at u
      rw [u]
      exact lstF_cg R (fun r hr => (bw r hr).symm)
    rw [e] at y
    exact y
  · refine f_X5_leastOf _ ?_
    have y := hP1 (fun w => absurd (z.symm.trans w.1) (by decide))
    have e : pck a2 R W (fun r => rdG G r 5) S = lstF (bt (a3 &&& ((σ.1 190 4) ^^^ (-1 : Int32)))) 6 := by
      unfold pck
      rw [if_neg (by rw [z]; decide), if_pos z]
      have u := lstF_up (W := bt (a3 &&& ((σ.1 190 4) ^^^ (-1 : Int32)))) (R := R) (6 - R) (fun r a b => by rw [bt_an, bf r a (by omega)]; rfl)
      rw [show R + (6 - R) = 6 by omega] at u
      rw [u]
      refine lstF_cg R (fun r hr => ?_)
      rw [bt_an, bw r hr, bt_no _ (by omega), h4 r (by omega), decide_eq_true (show r < 6 by omega)]
      by_cases c : S (30 + r) = 0
      · rw [decide_eq_true c, decide_eq_false (fun w => w c)]
        rfl
      · rw [decide_eq_false c, decide_eq_true c]
        rfl
    rw [e] at y
    exact y
  · have cn : cnF W R ≠ 0 := fun c0 => q (bt_ex (fun j hj => by
      rw [bt_z]
      by_cases c : j < R
      · rw [bw j c]
        cases hw : W j
        · rfl
        · have := cnF_pos hw R c
          omega
      · exact bf j (by omega) hj))
    have cl := cnF_le W R
    refine f_bitCount a3 (bt_64 (fun j a b => bf j (by omega) b)) ?_
    rw [b6]
    unfold w_X5_drawBelow
    intro σ1 e1
    have v : σ1.1 190 5 = nxs (S 2) := by rw [e1, zI_s, h5]; rfl
    have tc : ti (Int32.ofNat (cnF W R)) = ((cnF W R : Nat) : Int) := nI_t (by omega)
    refine ⟨fun q1 => ⟨fun w => by have := eq_t w; omega, ?_⟩, fun q1 => by have := nlt_t q1; omega⟩
    refine f_X5_nthOf a3 _ ?_
    have y := hP2 ⟨z, cn⟩ σ1 (by rw [e1]; rfl)
    rw [v]
    have e : pck a2 R W (fun r => rdG G r 5) S = lstF (fun r => bt a3 r && decide (Int32.ofNat (cnF (bt a3) r) = drw (nxs (S 2)) (Int32.ofNat (cnF W R)))) 6 := by
      unfold pck
      rw [if_neg (by rw [z]; decide), if_neg (by rw [z]; decide), if_pos z, if_neg cn]
      have u := lstF_up (W := fun r => bt a3 r && decide (Int32.ofNat (cnF (bt a3) r) = drw (nxs (S 2)) (Int32.ofNat (cnF W R)))) (R := R) (6 - R) (fun r a b => by show (bt a3 r && _) = false; rw [bf r a (by omega)]; rfl)
      rw [show R + (6 - R) = 6 by omega] at u
      rw [u]
      refine lstF_cg R (fun r hr => ?_)
      show (W r && _) = (bt a3 r && _)
      rw [bw r hr, cnF_cg r (fun j hj => bw j (by omega))]
    rw [e] at y
    exact y
  · unfold w_X5_highestFare
    refine ⟨10, f_highestFare_4 L hR hR6 a3 ?_ 10 0 (-1 : Int32) (0 : Int32) lit_0 (by omega) rfl (by omega)⟩
    have y := hP1 (fun w => absurd (z.symm.trans w.1) (by decide))
    have e : pck a2 R W (fun r => rdG G r 5) S = drF (bt a3) (fun r => rdG G r 5) R := by
      unfold pck
      rw [if_neg (by rw [z]; decide), if_neg (by rw [z]; decide), if_neg (by rw [z]; decide), if_pos z]
      exact drF_cg R (fun r hr => (bw r hr).symm)
    rw [e] at y
    exact y
  · rw [ti_toInt] at z
    omega
  · have wf : ∀ r, r < R → W r = false := fun r hr => by
      rw [← bw r hr, q]
      exact bt_z r
    have c0 := cnF_z R wf
    have y := hP1 (fun w => w.2 c0)
    have e : pck a2 R W (fun r => rdG G r 5) S = -1 := by
      unfold pck
      split
      · exact lstF_z R wf
      split
      · exact lstF_z R (fun r hr => by show (W r && _) = false; rw [wf r hr]; rfl)
      split
      · first | rfl | rw [if_pos c0]
      split
      · exact drF_z R wf
      · rfl
    rw [e] at y
    exact y
