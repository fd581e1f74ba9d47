/-! the reference: who pulls at a POST -/
def rdG (G : Nat → Int32) : Nat → Nat → Int32 := fun r c => G (87 + 6 * r + c)
/-- what a RUN reads and doesn't write -/
def RfX (l R N : Nat) (G cs pd : Nat → Int32) (σ : zSto) : Prop := ti (σ.1 223 23) = (l : Int) ∧ l < 2 ∧ ti (σ.1 223 24) = (N : Int) ∧ ti (σ.1 223 25) = (N : Int) - 1 ∧ ti (σ.1 223 26) = (R : Int) ∧ 1 ≤ N ∧ N ≤ 16 ∧ R ≤ 6 ∧ (∀ s, s < 123 → σ.1 229 (123 * l + s) = G s) ∧ (∀ p, p < N → σ.1 237 p = cs p ∧ σ.1 238 p = pd p ∧ σ.1 236 p = G (7 + 5 * p))
theorem RfX_fr {l R N : Nat} {G cs pd : Nat → Int32} {σ σ2 : zSto} (h : RfX l R N G cs pd σ) (h3 : ∀ j, 23 ≤ j → j ≤ 26 → σ2.1 223 j = σ.1 223 j) (hk : ∀ k j, (k = 229 ∨ k = 236 ∨ k = 237 ∨ k = 238) → σ2.1 k j = σ.1 k j) : RfX l R N G cs pd σ2 := by
  obtain ⟨a1, a2, a3, a4, a5, a6, a7, a8, a9, a10⟩ := h
  refine ⟨?_, a2, ?_, ?_, ?_, a6, a7, a8, fun s hs => ?_, fun p hp => ?_⟩
  · rw [h3 23 (by omega) (by omega)]; exact a1
  · rw [h3 24 (by omega) (by omega)]; exact a3
  · rw [h3 25 (by omega) (by omega)]; exact a4
  · rw [h3 26 (by omega) (by omega)]; exact a5
  · rw [hk 229 _ (by omega)]; exact a9 s hs
  · rw [hk 237 _ (by omega), hk 238 _ (by omega), hk 236 _ (by omega)]; exact a10 p hp
theorem f_X10_has (a1 a2 : Int32) {j : Nat} (h : ti a2 = (j : Int)) (hj : j < 32) {σ : zSto} {P : Int32 → zSto → Prop} (hP : ∀ r, (¬ r = 0 ↔ bt a1 j = true) → P r σ) : w_X10_has a1 a2 σ P := by
  have e := nI_x h (by omega)
  refine ⟨fun q => hP _ ⟨fun c => absurd rfl c, fun z => absurd ((bt_1 hj e).mpr z) q⟩, fun q => hP _ ⟨fun _ => (bt_1 hj e).mp q, fun _ => by decide⟩⟩
theorem f_rdOf {l R N : Nat} {G cs pd : Nat → Int32} {σ : zSto} (X : RfX l R N G cs pd σ) (a1 a2 : Int32) {r c : Nat} (h1 : ti a1 = (r : Int)) (hr : r < 6) (h2 : ti a2 = (c : Int)) (hc : c < 6) {P : Int32 → zSto → Prop} (hP : P (rdG G r c) σ) : w_X10_riderOf a1 a2 σ P := by
  refine f_riderOf (r := r) (c := c) X.1 X.2.1 _ _ h1 hr h2 hc ?_
  rw [X.2.2.2.2.2.2.2.2.1 _ (by omega)]
  exact hP
theorem f_X10_isOn {l R N : Nat} {G cs pd : Nat → Int32} {σ : zSto} (X : RfX l R N G cs pd σ) (a1 a2 : Int32) {r p : Nat} (h1 : ti a1 = (r : Int)) (hr : r < 6) (h2 : a2 = Int32.ofNat p) {P : Int32 → zSto → Prop} (hP : ∀ x, (¬ x = 0 ↔ (¬ Int32.ofNat p < rdG G r 0 ∧ ¬ rdG G r 1 ≤ Int32.ofNat p)) → P x σ) : w_X10_isOn a1 a2 σ P := by
  subst h2
  unfold w_X10_isOn
  refine f_rdOf (c := 0) X _ _ h1 hr lit_0 (by omega) ⟨fun q => hP _ ⟨fun c => absurd rfl c, fun z => absurd q z.1⟩, fun q => ?_⟩
  refine f_rdOf (c := 1) X _ _ h1 hr lit_1 (by omega) ⟨fun q2 => hP _ ⟨fun c => absurd rfl c, fun z => absurd q2 z.2⟩, fun q2 => hP _ ⟨fun _ => ⟨q, q2⟩, fun _ => by decide⟩⟩
set_option maxHeartbeats 4000000 in
theorem f_X10_wants {l R N : Nat} {G cs pd S : Nat → Int32} {σ : zSto} (X : RfX l R N G cs pd σ) (h31 : σ.1 223 31 = S 0) (a1 a2 : Int32) {r p : Nat} (h1 : ti a1 = (r : Int)) (hr : r < 6) (h41 : σ.1 241 r = S (10 + r)) (h2 : ti a2 = (p : Int)) (hp : p < N) {P : Int32 → zSto → Prop} (hP : ∀ x, (¬ x = 0 ↔ wnt cs pd (rdG G) S p r = true) → P x σ) : w_X10_wants a1 a2 σ P := by
  have N16 := X.2.2.2.2.2.2.1
  have e2 := nI_x h2 (by omega)
  have t1 := tn_eq a1
  have t2 := tn_eq a2
  have n1 : a1.toNatClampNeg = r := by omega
  have n2 : a2.toNatClampNeg = p := by omega
  obtain ⟨c1, c2, _⟩ := X.2.2.2.2.2.2.2.2.2 p hp
  have no : ¬ (¬ Int32.ofNat p < rdG G r 0 ∧ ¬ rdG G r 1 ≤ Int32.ofNat p ∧ ¬ pd p ≤ 0 ∧ ¬ pd p < rdG G r 3 ∧ ¬ rdG G r 2 ≤ S (10 + r) ∧ ¬ rdG G r 4 < S 0 + cs p) → P 0 σ := fun z => hP 0 ⟨fun c => absurd rfl c, fun c => absurd (of_decide_eq_true c) z⟩
  unfold w_X10_wants
  rw [n1, n2]
  refine f_X10_isOn X _ _ h1 hr e2 (fun x z => fun _ => ⟨fun q => no (fun w => absurd q (z.mpr ⟨w.1, w.2.1⟩)), fun q => ⟨vin (by omega), ?_⟩⟩)
  have zz := z.mp q
  rw [c2]
  refine ⟨fun q2 => no (fun w => absurd q2 w.2.2.1), fun q2 => ?_⟩
  refine f_rdOf (c := 3) X _ _ h1 hr lit_3 (by omega) ⟨vin (by omega), ?_⟩
  rw [c2]
  refine ⟨fun q3 => no (fun w => absurd q3 w.2.2.2.1), fun q3 => ⟨vin (by omega), ?_⟩⟩
  refine f_rdOf (c := 2) X _ _ h1 hr lit_2 (by omega) ?_
  rw [h41]
  refine ⟨fun q4 => no (fun w => absurd q4 w.2.2.2.2.1), fun q4 => ?_⟩
  refine f_rdOf (c := 4) X _ _ h1 hr lit_4 (by omega) ⟨vin (by omega), ?_⟩
  rw [h31, c1]
  refine ⟨fun q5 => no (fun w => absurd q5 w.2.2.2.2.2), fun q5 => hP 1 ⟨fun _ => decide_eq_true ⟨zz.1, zz.2, q2, q3, q4, q5⟩, fun _ => by decide⟩⟩
theorem lstF_st {W : Nat → Bool} {n : Nat} (h : lstF W n ≠ -1) : ∀ k, lstF W (n + k) = lstF W n := by
  intro k
  induction k with
  | zero => rfl
  | succ k ih =>
    show (if lstF W (n + k) = -1 then (if W (n + k) = true then Int32.ofNat (n + k) else -1) else lstF W (n + k)) = _
    rw [ih, if_neg h]
theorem lstF_1 (W : Nat → Bool) (n : Nat) : lstF W (n + 1) = if lstF W n = -1 then (if W n = true then Int32.ofNat n else -1) else lstF W n := rfl
theorem drF_1 (W : Nat → Bool) (f : Nat → Int32) (n : Nat) : drF W f (n + 1) = if W n = true ∧ (drF W f n = -1 ∨ ¬ f n ≤ f (drF W f n).toNatClampNeg) then Int32.ofNat n else drF W f n := rfl
theorem cnF_1 (W : Nat → Bool) (n : Nat) : cnF W (n + 1) = cnF W n + (if W n = true then 1 else 0) := rfl
theorem drw_sp (s : Int32) {n : Nat} (h0 : 0 < n) (hn : n < 100) : 0 ≤ ti (drw s (Int32.ofNat n)) ∧ ti (drw s (Int32.ofNat n)) < (n : Int) := by
  have u : (s.toUInt32 >>> ((16 : Int32).toUInt32 &&& Int32.toUInt32 31)).toInt32.toBitVec.toNat = s.toBitVec.toNat / 2 ^ 16 := pk_ushr s (16 : Int32) 16 (by decide)
  have b := s.toBitVec.isLt
  obtain ⟨m, hm⟩ : ∃ m : Nat, m = s.toBitVec.toNat / 2 ^ 16 := ⟨_, rfl⟩
  have hm2 : m < 2 ^ 31 := by omega
  have e : (s.toUInt32 >>> ((16 : Int32).toUInt32 &&& Int32.toUInt32 31)).toInt32 = nI m := by
    apply Int32.toBitVec_inj.mp
    apply BitVec.eq_of_toNat_eq
    rw [u, pk_tn (by omega), hm]
  have r : drw s (Int32.ofNat n) = nI (m % n) := by
    unfold drw
    rw [e]
    exact pk_rem hm2 h0 (by omega)
  have lt := Nat.mod_lt m h0
  rw [r, nI_t (by omega)]
  omega
set_option maxHeartbeats 4000000 in
theorem f_pullerAt_150 {l R N : Nat} {G cs pd S : Nat → Int32} {so : Nat → Bool} {σ : zSto} (X : RfX l R N G cs pd σ) (h31 : σ.1 223 31 = S 0) (h41 : ∀ r, r < 6 → σ.1 241 r = S (10 + r)) (x_1 x_3 : Int32) {p : Nat} (h1 : ti x_1 = (p : Int)) (hp : p < N) (hso : ∀ r, r < R → so r = bt x_3 r) {k : Int32} (hk : 0 ≤ ti k ∧ ti k ≤ 100) {P : Int32 → zSto → Prop} (hP : P (lstF (fun r => wts so cs pd (rdG G) S p r && decide (Int32.ofNat (cnF (wts so cs pd (rdG G) S p) r) = k)) R) σ) : ∀ (n i : Nat) (x_7 x_8 : Int32), ti x_8 = (i : Int) → i ≤ R → lstF (fun r => wts so cs pd (rdG G) S p r && decide (Int32.ofNat (cnF (wts so cs pd (rdG G) S p) r) = k)) i = -1 → ti x_7 = ti k - (cnF (wts so cs pd (rdG G) S p) i : Nat) → 0 ≤ ti x_7 → R - i < n → w_X10_pullerAt_150 x_1 x_3 P n x_7 x_8 σ := by
  have l0 := lit_0
  have l1 := lit_1
  have lm := lit_m1
  have R6 := X.2.2.2.2.2.2.2.1
  have h26 := X.2.2.2.2.1
  obtain ⟨W, hW⟩ : ∃ W, W = wts so cs pd (rdG G) S p := ⟨_, rfl⟩
  have hWr : ∀ r, W r = (so r && wnt cs pd (rdG G) S p r) := fun r => by rw [hW]; rfl
  rw [← hW] at hP ⊢
  intro n
  induction n with
  | zero => intro i x_7 x_8 _ _ _ _ _ h; omega
  | succ n ih =>
    intro i x_7 x_8 hi hiR hl hx hx0 hn
    unfold w_X10_pullerAt_150
    refine ⟨fun q => ?_, fun q => ?_⟩
    · have c := le_t q
      have e : i = R := by omega
      subst e
      rw [hl] at hP
      exact hP
    · have c := nle_t q
      have t1 := tadd (x := x_8) (y := (1 : Int32)) (by omega)
      have cl := cnF_le W i
      -- not of them
      have skip : W i = false → ∀ x5 : Int32, x5 = x_8 + (1 : Int32) → w_X10_pullerAt_150 x_1 x_3 P n x_7 x5 σ := fun w x5 e5 => by
        have t5 := eq_t e5
        refine ih (i + 1) x_7 x5 (by omega) (by omega) ?_ ?_ hx0 (by omega)
        · rw [lstF_1, if_pos hl, w]
          rfl
        · rw [cnF_1, w, if_neg (by decide)]
          exact hx
      refine f_X10_has x_3 x_8 hi (by omega) (fun r4 z4 => fun _ => ⟨fun q4 => skip ?_, fun q4 => ?_⟩)
      · rw [hWr, hso i (by omega)]
        cases hb : bt x_3 i
        · rfl
        · exact absurd q4 (z4.mpr hb)
      · have b4 := z4.mp q4
        refine f_X10_wants X h31 x_8 x_1 hi (by omega) (h41 i (by omega)) h1 hp (fun r7 z7 => fun _ => ⟨fun q7 => skip ?_, fun q7 => ?_⟩)
        · rw [hWr]
          cases hb : wnt cs pd (rdG G) S p i
          · cases so i <;> rfl
          · exact absurd q7 (z7.mpr hb)
        · have w : W i = true := by rw [hWr, hso i (by omega), b4, z7.mp q7]; rfl
          refine ⟨fun q8 x9 e9 x10 e10 => ?_, fun q8 => ?_⟩
          · have n8 := ne_t q8
            have t9 := tadd (x := x_7) (y := (-1 : Int32)) (by omega)
            have f9 := eq_t e9
            have f10 := eq_t e10
            refine ih (i + 1) x9 x10 (by omega) (by omega) ?_ ?_ (by omega) (by omega)
            · rw [lstF_1, if_pos hl]
              rw [if_neg]
              intro z
              simp only [Bool.and_eq_true] at z
              have z2 := eq_t (of_decide_eq_true z.2)
              rw [show ti (Int32.ofNat (cnF W i)) = ((cnF W i : Nat) : Int) from nI_t (by omega)] at z2
              omega
            · rw [cnF_1, w, if_pos rfl]
              omega
          · have e8 := eq_t q8
            have hit : lstF (fun r => W r && decide (Int32.ofNat (cnF W r) = k)) (i + 1) = Int32.ofNat i := by
              rw [lstF_1, if_pos hl, if_pos]
              rw [w]
              have ek : Int32.ofNat (cnF W i) = k := t_inj (by rw [show ti (Int32.ofNat (cnF W i)) = ((cnF W i : Nat) : Int) from nI_t (by omega)]; omega)
              rw [ek]
              simp
            have ne : lstF (fun r => W r && decide (Int32.ofNat (cnF W r) = k)) (i + 1) ≠ -1 := by rw [hit]; exact ofNat_ne (by omega)
            have fin := lstF_st ne (R - (i + 1))
            rw [show i + 1 + (R - (i + 1)) = R by omega, hit] at fin
            rw [fin, ← nI_x hi (by omega)] at hP
            exact hP
