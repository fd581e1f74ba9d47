/-! the class reads rows -/
theorem f_next {B : Nat → Int} {n p : Nat} {v pl : Nat → Int} {m : Nat} {st : Nat → Int} {σ : zSto} (h : CX B n p v pl m st σ) {P : zSto → Prop} (hP : ∀ σ2, CX B n (tkE B n p) v pl m st σ2 → ti (σ2.1 171 8) = (tkF B n p : Nat) → ti (σ2.1 171 7) = tkK B n p → (tkK B n p = 2 → ti (σ2.1 171 9) = tkV B n p) → P σ2) : w_X4_nextToken σ P := by
  obtain ⟨h1, h2, h3, h4, h5, h6⟩ := h
  refine f_X4_nextToken h1 (fun σ2 r2 nt => ?_)
  unfold NT at nt
  rw [h2, show (ti (σ.1 171 5)).toNat = n by omega, show (ti (σ.1 171 6)).toNat = p by omega] at nt
  obtain ⟨k, a8, a6, a7, a9⟩ := nt
  refine hP σ2 ⟨r2, ?_, ?_, a6, fun i hi => ?_, fun s hs => ?_⟩ a8 a7 a9
  · rw [rB_eq k]; exact h2
  · rw [k 171 5 (by omega)]; exact h3
  · rw [k 187 i (by omega), k 188 i (by omega)]; exact h5 i hi
  · have g := cK_rg s
    rw [k (cK s) (cJ s) (by omega)]
    exact h6 s hs
theorem f_J0_charAt {σ : zSto} (i0 : Nat) (h : i0 < 11) (a1 : Int32) (h1 : 0 ≤ ti a1) (h2 : ti a1 < ((zlen.getD i0 0 : Nat) : Int)) {P : Int32 → zSto → Prop} (hP : ∀ r, ti r = wch i0 (ti a1).toNat → P r σ) : w_J0_charAt_5068e i0 a1 σ P := by
  have z := zlen_rg h
  have l0 := lit_0
  have e : ti (Int32.ofNat (zlen.getD i0 0)) = ((zlen.getD i0 0 : Nat) : Int) := nI_t (by omega)
  have tn := tn_eq a1
  unfold w_J0_charAt_5068e w_J0_isLatin1_aae02
  intro b
  refine ⟨fun q => absurd q (by decide), fun _ => ?_⟩
  unfold w_J1_charAt_3b067 w_J0_checkIndex_df160 w_J3_checkIndex_8e157
  intro o1
  refine ⟨fun q => ?_, fun q => ⟨fun q2 => ?_, fun q2 => ?_⟩⟩
  · have := lt_t q; omega
  · refine ⟨vin (by omega), ?_, ?_, ?_⟩
    · rw [sc_c2]; exact sc_nar _
    · rw [sc_c2]; exact sc_nar _
    · refine hP _ ?_
      rw [ti_eq, tn]
      exact wch_v ⟨i0, h⟩ ⟨(ti a1).toNat, by omega⟩ (by show (ti a1).toNat < zlen.getD i0 0; omega)
  · have := nlt_t q2; omega
set_option maxHeartbeats 4000000 in
theorem f_X4_isWord_20 (i : Nat) (h : i < 11) {σ : zSto} (F L : Nat) (hF : ti (σ.1 171 8) = (F : Int)) (hL : L = zlen.getD i 0) (hn : (F : Int) + L ≤ ti (σ.1 171 5)) (hn6 : ti (σ.1 171 5) ≤ 600) {P : Int32 → zSto → Prop} (hP : ∀ r, (¬ r = 0 ↔ ∀ j, j < L → rB σ (F + j) = wch i j) → P r σ) : ∀ (k : Nat) (q : Nat) (x_2 : Int32), ti x_2 = (q : Int) → q ≤ L → (∀ j, j < q → rB σ (F + j) = wch i j) → L - q < k → w_X4_isWord_20 i P k x_2 σ := by
  have z := zlen_rg h
  have l1 := lit_1
  intro k
  induction k with
  | zero => intro q x h1 h2 h3 h4; exfalso; omega
  | succ k ih =>
    intro q x_2 h1 h2 h3 h4
    unfold w_X4_isWord_20
    refine s_J0_length i h (fun r4 e4 => ?_)
    refine ⟨fun q1 => hP _ ⟨fun _ j hj => h3 j ?_, fun _ => by decide⟩, fun q1 => ⟨fun q2 => ?_, fun q2 => ?_⟩⟩
    · have c := le_t q1
      omega
    · have c1 := nle_t q1
      have t1 := tadd (x := σ.1 171 8) (y := x_2) (by omega)
      have c2 := le_t q2
      omega
    · have c1 := nle_t q1
      have t1 := tadd (x := σ.1 171 8) (y := x_2) (by omega)
      have t2 := tadd (x := x_2) (y := (1 : Int32)) (by omega)
      have tn := tn_eq (σ.1 171 8 + x_2)
      have en : (σ.1 171 8 + x_2).toNatClampNeg = F + q := by omega
      have eb : ti (σ.1 189 (σ.1 171 8 + x_2).toNatClampNeg) = rB σ (F + q) := by rw [en]; rfl
      refine ⟨vin (by omega), f_J0_charAt i h x_2 (by omega) (by omega) (fun r7 e7 => ⟨fun q3 x8 e8 => ?_, fun q3 => ?_⟩)⟩
      · have c3 := eq_t q3
        have t3 := eq_t e8
        rw [show (ti x_2).toNat = q by omega] at e7
        refine ih (q + 1) x8 (by omega) (by omega) (fun j hj => ?_) (by omega)
        by_cases c : j = q
        · subst c; omega
        · exact h3 j (by omega)
      · have c3 := ne_t q3
        rw [show (ti x_2).toNat = q by omega] at e7
        refine hP _ ⟨fun g => absurd rfl g, fun g => ?_⟩
        have := g q (by omega)
        omega
/-- a word of the class is known -/
theorem f_X4_isWord {B : Nat → Int} {n p : Nat} {σ : zSto} (i : Nat) (h : i < 11) (hB : rB σ = B) (h5 : ti (σ.1 171 5) = (n : Int)) (hn : n ≤ 600) (hp : p ≤ n) (h6 : ti (σ.1 171 6) = (tkE B n p : Nat)) (h8 : ti (σ.1 171 8) = (tkF B n p : Nat)) (h1 : tkK B n p = 1) {P : Int32 → zSto → Prop} (hP : ∀ r, (¬ r = 0 ↔ tkW B n p = wvl i) → P r σ) : w_X4_isWord i σ P := by
  have l0 := lit_0
  obtain ⟨g1, g2, g3⟩ := tkK_1 h1
  have g4 := tkE_gt (B := B) (n := n) (p := p) (by omega)
  have g5 := tkE_le (B := B) hp
  have wd := wd_all (B := B) (F := tkF B n p) (L := tkE B n p - tkF B n p) h (by omega) g3
  have ew : (if tkE B n p - tkF B n p ≤ 8 then wdV B (tkF B n p) (tkE B n p - tkF B n p) else 0) = tkW B n p := by
    unfold tkW
    by_cases c : tkE B n p ≤ tkF B n p + 8
    · rw [if_pos (by omega), if_pos c]
    · rw [if_neg (by omega), if_neg c]
  rw [ew] at wd
  have t := tsub (x := σ.1 171 6) (y := σ.1 171 8) (by omega)
  unfold w_X4_isWord
  refine s_J0_length i h (fun r2 e2 => ⟨fun q => ⟨100, ?_⟩, fun q => hP _ ⟨fun z => absurd rfl z, fun z => ?_⟩⟩)
  · have c := eq_t q
    have z := zlen_rg h
    refine f_X4_isWord_20 i h (tkF B n p) (zlen.getD i 0) h8 rfl (by omega) (by omega) (fun r g => hP r ?_) 100 0 (0 : Int32) l0 (by omega) (fun j hj => by omega) (by omega)
    rw [hB] at g
    rw [g, wd]
    exact ⟨fun z => ⟨by omega, z⟩, fun z => z.2⟩
  · have c := ne_t q
    have := (wd.mp z).1
    omega
/-- which word it is: the code by the sort -/
theorem f_X4_lineWord {B : Nat → Int} {n p : Nat} {σ : zSto} (hB : rB σ = B) (h5 : ti (σ.1 171 5) = (n : Int)) (hn : n ≤ 600) (hp : p ≤ n) (h6 : ti (σ.1 171 6) = (tkE B n p : Nat)) (h8 : ti (σ.1 171 8) = (tkF B n p : Nat)) (h1 : tkK B n p = 1) (o : Int) (ho : o ≠ 1 ∧ o ≠ 2) {P : Int32 → zSto → Prop} (hP : ∀ r, ti r = wcd o (tkW B n p) → P r σ) : w_X4_lineWord σ P := by
  unfold wcd at hP
  rw [if_neg ho.1, if_neg ho.2] at hP
  have W : ∀ i (c : Int), wvl i = c → i < 11 → ∀ {Q : Int32 → zSto → Prop}, (∀ r, (¬ r = 0 ↔ tkW B n p = c) → Q r σ) → w_X4_isWord i σ Q := fun i c hc hi Q hQ => f_X4_isWord i hi hB h5 hn hp h6 h8 h1 (by rw [hc]; exact hQ)
  unfold w_X4_lineWord
  refine W 2 1886352244 rfl (by decide) (fun r2 e2 => fun _ => ⟨fun q2 => ?_, fun q2 => hP _ (by rw [if_pos (e2.mp q2)]; exact lit_0)⟩)
  rw [if_neg (fun z => e2.mpr z q2)] at hP
  refine W 3 491394458994 rfl (by decide) (fun r3 e3 => fun _ => ⟨fun q3 => ?_, fun q3 => hP _ (by rw [if_pos (e3.mp q3)]; exact lit_1)⟩)
  rw [if_neg (fun z => e3.mpr z q3)] at hP
  refine W 4 32497584235442030 rfl (by decide) (fun r4 e4 => fun _ => ⟨fun q4 => ?_, fun q4 => hP _ (by rw [if_pos (e4.mp q4)]; exact lit_2)⟩)
  rw [if_neg (fun z => e4.mpr z q4)] at hP
  refine W 5 1868850291 rfl (by decide) (fun r5 e5 => fun _ => ⟨fun q5 => ?_, fun q5 => hP _ (by rw [if_pos (e5.mp q5)]; exact lit_3)⟩)
  rw [if_neg (fun z => e5.mpr z q5)] at hP
  refine W 6 1751215220 rfl (by decide) (fun r6 e6 => fun _ => ⟨fun q6 => ?_, fun q6 => hP _ (by rw [if_pos (e6.mp q6)]; exact lit_4)⟩)
  rw [if_neg (fun z => e6.mpr z q6)] at hP
  refine W 7 6644084 rfl (by decide) (fun r7 e7 => fun _ => ⟨fun q7 => ?_, fun q7 => hP _ (by rw [if_pos (e7.mp q7)]; exact lit_5)⟩)
  rw [if_neg (fun z => e7.mpr z q7)] at hP
  refine W 8 444300616549 rfl (by decide) (fun r8 e8 => fun _ => ⟨fun q8 => ?_, fun q8 => hP _ (by rw [if_pos (e8.mp q8)]; exact lit_6)⟩)
  rw [if_neg (fun z => e8.mpr z q8)] at hP
  refine W 9 108205047312240 rfl (by decide) (fun r9 e9 => fun _ => ⟨fun q9 => ?_, fun q9 => hP _ (by rw [if_pos (e9.mp q9)]; exact lit_7)⟩)
  rw [if_neg (fun z => e9.mpr z q9)] at hP
  refine W 10 478694368626 rfl (by decide) (fun ra ea => fun _ => ⟨fun qa => hP _ (by rw [if_neg (fun z => ea.mpr z qa)]; exact lit_m1), fun qa => hP _ (by rw [if_pos (ea.mp qa)]; exact lit_8)⟩)
theorem f_X4_wordOf {B : Nat → Int} {n p : Nat} {σ : zSto} (a1 : Int32) (hB : rB σ = B) (h5 : ti (σ.1 171 5) = (n : Int)) (hn : n ≤ 600) (hp : p ≤ n) (h6 : ti (σ.1 171 6) = (tkE B n p : Nat)) (h8 : ti (σ.1 171 8) = (tkF B n p : Nat)) (h1 : tkK B n p = 1) {P : Int32 → zSto → Prop} (hP : ∀ r, ti r = wcd (ti a1) (tkW B n p) → P r σ) : w_X4_wordOf a1 σ P := by
  have l1 := lit_1
  have l2 := lit_2
  unfold w_X4_wordOf
  refine ⟨fun q1 => ⟨fun q2 => ?_, fun q2 => ?_⟩, fun q1 => ?_⟩
  · have c1 := ne_t q1
    have c2 := ne_t q2
    exact f_X4_lineWord hB h5 hn hp h6 h8 h1 (ti a1) ⟨by omega, by omega⟩ hP
  · have c1 := ne_t q1
    have c2 := eq_t q2
    unfold wcd at hP
    rw [if_neg (by omega), if_pos (by omega)] at hP
    exact f_X4_isWord 1 (by decide) hB h5 hn hp h6 h8 h1 (fun r4 (e4 : ¬ r4 = 0 ↔ tkW B n p = 1936024942) => fun _ => ⟨fun q4 => hP _ (by rw [if_neg (fun z => e4.mpr z q4)]; exact lit_m1), fun q4 => hP _ (by rw [if_pos (e4.mp q4)]; exact lit_10)⟩)
  · have c1 := eq_t q1
    unfold wcd at hP
    rw [if_pos (by omega)] at hP
    exact f_X4_isWord 0 (by decide) hB h5 hn hp h6 h8 h1 (fun r4 (e4 : ¬ r4 = 0 ↔ tkW B n p = 1886743660) => fun _ => ⟨fun q4 => hP _ (by rw [if_neg (fun z => e4.mpr z q4)]; exact lit_m1), fun q4 => hP _ (by rw [if_pos (e4.mp q4)]; exact lit_9)⟩)
theorem f_X4_howMany {σ : zSto} (a1 : Int32) (h : 0 ≤ ti a1 ∧ ti a1 ≤ 10) {P : Int32 → zSto → Prop} (hP : ∀ r, ti r = (hmN (ti a1) : Nat) → P r σ) : w_X4_howManyNumbers a1 σ P := by
  unfold w_X4_howManyNumbers
  refine ⟨fun q => hP _ ?_, fun q => hP _ ?_, fun q => hP _ ?_, fun q => hP _ ?_, fun q => hP _ ?_, fun q => hP _ ?_, fun q => hP _ ?_, fun q => hP _ ?_, fun q => hP _ ?_, fun q => hP _ ?_, fun q => hP _ ?_, fun q => ?_⟩
  · rw [q, lit_0]; exact lit_3
  · rw [q, lit_1]; exact lit_6
  · rw [q, lit_2]; rfl
  · rw [q, lit_3]; exact lit_2
  · rw [q, lit_4]; exact lit_1
  · rw [q, lit_5]; exact lit_1
  · rw [q, lit_6]; exact lit_1
  · rw [q, lit_7]; exact lit_1
  · rw [q, lit_8]; exact lit_1
  · rw [q, lit_9]; exact lit_2
  · rw [q, lit_10]; exact lit_2
  · rw [← ti_eq] at q; omega
theorem hmN_rg (c : Int) : 1 ≤ hmN c ∧ hmN c ≤ 6 := by
  unfold hmN
  split
  · decide
  · split
    · decide
    · split <;> decide
theorem nP_le {B : Nat → Int} {n p : Nat} (h : p ≤ n) : ∀ i, nP B n p i ≤ n := by
  intro i
  induction i with
  | zero => exact h
  | succ i ih => exact tkE_le ih
theorem tkV_rg {B : Nat → Int} {n p : Nat} (h : tkK B n p = 2) : 0 ≤ tkV B n p ∧ tkV B n p ≤ 999 := by
  have h0 : ¬ n ≤ tkF B n p := fun c => by rw [tkK_0.mpr c] at h; omega
  unfold tkK at h
  rw [if_neg h0] at h
  by_cases c : cLt (B (tkF B n p)) = true
  · rw [if_pos c] at h; omega
  · rw [if_neg c] at h
    by_cases c2 : cDg (B (tkF B n p)) = true
    · rw [if_pos c2] at h
      have e : tkE B n p = adv cDg B n 601 (tkF B n p) := by
        unfold tkE
        rw [if_neg h0, if_neg c, if_pos c2]
      by_cases c3 : tkE B n p ≤ tkF B n p + 3
      · have g : ∀ j, j < tkE B n p - tkF B n p → 48 ≤ B (tkF B n p + j) ∧ B (tkF B n p + j) ≤ 57 := fun j hj => of_decide_eq_true (adv_c (c := cDg) (B := B) (n := n) 601 (tkF B n p) (tkF B n p + j) (by omega) (by omega))
        unfold tkV
        obtain ⟨L, hL⟩ : ∃ L, L = tkE B n p - tkF B n p := ⟨_, rfl⟩
        rw [← hL] at g ⊢
        rcases (show L = 0 ∨ L = 1 ∨ L = 2 ∨ L = 3 by omega) with x | x | x | x
        · subst x; exact ⟨Int.le_refl 0, by show (0 : Int) ≤ 999; decide⟩
        · rw [x] at g ⊢
          have g0 := g 0 (by decide)
          show 0 ≤ 10 * 0 + (B (tkF B n p + 0) - 48) ∧ 10 * 0 + (B (tkF B n p + 0) - 48) ≤ 999
          omega
        · rw [x] at g ⊢
          have g0 := g 0 (by decide)
          have g1 := g 1 (by decide)
          show 0 ≤ 10 * (10 * 0 + (B (tkF B n p + 0) - 48)) + (B (tkF B n p + 1) - 48) ∧ 10 * (10 * 0 + (B (tkF B n p + 0) - 48)) + (B (tkF B n p + 1) - 48) ≤ 999
          omega
        · rw [x] at g ⊢
          have g0 := g 0 (by decide)
          have g1 := g 1 (by decide)
          have g2 := g 2 (by decide)
          show 0 ≤ 10 * (10 * (10 * 0 + (B (tkF B n p + 0) - 48)) + (B (tkF B n p + 1) - 48)) + (B (tkF B n p + 2) - 48) ∧ 10 * (10 * (10 * 0 + (B (tkF B n p + 0) - 48)) + (B (tkF B n p + 1) - 48)) + (B (tkF B n p + 2) - 48) ≤ 999
          omega
      · rw [if_neg c3] at h; omega
    · rw [if_neg c2] at h
      split at h <;> omega
set_option maxHeartbeats 4000000 in
theorem f_X4_readNumbers_7 {B : Nat → Int} {n p : Nat} {st : Nat → Int} (M : Nat) (hM : M ≤ 6) (x_2 : Int32) (hx : ti x_2 = (M : Int)) {P : Int32 → zSto → Prop} (hP1 : ∀ σ2, alN B n M p = true → tkK B n (rbN B n M p) = 3 → CX B n (tkE B n (rbN B n M p)) (fun i => tkV B n (nP B n p i)) (fun i => (tkF B n (nP B n p i) : Nat)) M st σ2 → P (1 : Int32) σ2) (hP0 : ∀ σ2, ¬ (alN B n M p = true ∧ tkK B n (rbN B n M p) = 3) → zRg σ2 → CR st σ2 → ti (σ2.1 171 8) = (tkF B n (rbN B n M p) : Nat) → ti (σ2.1 171 5) = (n : Int) → P (0 : Int32) σ2) : ∀ (k i : Nat) (x_3 : Int32) (σ : zSto), i ≤ M → ti x_3 = (i : Int) → CX B n (nP B n p i) (fun i => tkV B n (nP B n p i)) (fun i => (tkF B n (nP B n p i) : Nat)) i st σ → alN B n M p = alN B n (M - i) (nP B n p i) → rbN B n M p = rbN B n (M - i) (nP B n p i) → M - i < k → w_X4_readNumbers_7 x_2 P k x_3 σ := by
  have l1 := lit_1
  have l2 := lit_2
  have l3 := lit_3
  have l6 := lit_6
  intro k
  induction k with
  | zero => intro i x σ h1 h2 h3 h4 h5 h6; exfalso; omega
  | succ k ih =>
    intro i x_3 σ h1 h2 h3 h4 h5 h6
    unfold w_X4_readNumbers_7
    have last : i = M → w_X4_nextToken σ (fun (σ3 : zSto) => ((¬ (σ3.1 171 7) = (3 : Int32) → P (0 : Int32) σ3) ∧ ((σ3.1 171 7) = (3 : Int32) → P (1 : Int32) σ3))) := by
      intro e
      subst e
      rw [Nat.sub_self] at h4 h5
      have h5' : rbN B n i p = nP B n p i := h5
      refine f_next h3 (fun σ3 c3 a8 a7 a9 => ⟨fun q => hP0 σ3 (fun z => ?_) c3.1 c3.2.2.2.2.2 (by rw [h5']; exact a8) c3.2.2.1, fun q => hP1 σ3 h4 ?_ ?_⟩)
      · have c := ne_t q
        have z2 := z.2
        rw [h5'] at z2
        omega
      · have c := eq_t q
        rw [h5']
        omega
      · rw [h5']
        exact c3
    refine ⟨fun q => last (by have := le_t q; omega), fun q => ⟨fun q2 => last (by have := le_t q2; omega), fun q2 => ?_⟩⟩
    have c := nle_t q
    have c2 := nle_t q2
    obtain ⟨j, hj⟩ : ∃ j, M - i = j + 1 := ⟨M - i - 1, by omega⟩
    rw [hj] at h4 h5
    refine f_next h3 (fun σ5 c5 a8 a7 a9 => ⟨fun q3 => ⟨vin (by omega), fun σ7 e7 => ⟨vin (by omega), fun σ9 e9 x10 e10 => ?_⟩⟩, fun q3 => hP0 σ5 (fun z => ?_) c5.1 c5.2.2.2.2.2 ?_ c5.2.2.1⟩)
    · have cq := eq_t q3
      have kk : tkK B n (nP B n p i) = 2 := by omega
      have t10 := eq_t e10
      have ta := tadd (x := x_3) (y := (1 : Int32)) (by omega)
      have tn := tn_eq x_3
      have en : x_3.toNatClampNeg = i := by omega
      rw [en] at e7 e9
      have v9 := a9 kk
      have r7 : zRg σ7 := by
        rw [e7]
        refine wIg (a := 0) (b := 999) c5.1 kd_187 rfl rfl ?_
        have := tkV_rg kk
        omega
      have r9 : zRg σ9 := by rw [e9]; exact wIg r7 kd_188 rfl rfl (full32 _)
      have k9 : ∀ k j, k ≠ 187 → k ≠ 188 → σ9.1 k j = σ5.1 k j := fun k j y1 y2 => by rw [e9, zI_q (Or.inl y2), e7, zI_q (Or.inl y1)]
      refine ih (i + 1) x10 σ9 (by omega) (by omega) ⟨r9, ?_, ?_, ?_, fun i' hi' => ?_, fun s hs => ?_⟩ ?_ ?_ (by omega)
      · rw [← c5.2.1]
        funext y
        exact congrArg ti (k9 189 y (by decide) (by decide))
      · rw [k9 171 5 (by decide) (by decide)]; exact c5.2.2.1
      · rw [k9 171 6 (by decide) (by decide)]; exact c5.2.2.2.1
      · by_cases ce : i' = i
        · subst ce
          constructor
          · rw [e9, zI_q (Or.inl (by decide)), e7, zI_s]; exact v9
          · rw [e9, zI_s, e7, zI_q (Or.inl (by decide))]; exact a8
        · rw [e9, zI_q (Or.inl (by decide)), e7, zI_q (Or.inr ce), zI_q (Or.inr ce), zI_q (Or.inl (by decide))]
          exact c5.2.2.2.2.1 i' (by omega)
      · have g := cK_rg s
        rw [k9 (cK s) (cJ s) (by omega) (by omega)]
        exact c5.2.2.2.2.2 s hs
      · rw [h4, show M - (i + 1) = j by omega]
        show (decide (tkK B n (nP B n p i) = 2) && alN B n j (tkE B n (nP B n p i))) = _
        rw [decide_eq_true kk]
        rfl
      · rw [h5, show M - (i + 1) = j by omega]
        show (if tkK B n (nP B n p i) = 2 then rbN B n j (tkE B n (nP B n p i)) else nP B n p i) = _
        rw [if_pos kk]
        rfl
    · have cq := ne_t q3
      have z1 := z.1
      rw [h4] at z1
      have z2 : (decide (tkK B n (nP B n p i) = 2) && alN B n j (tkE B n (nP B n p i))) = true := z1
      rw [Bool.and_eq_true, decide_eq_true_iff] at z2
      omega
    · have cq := ne_t q3
      rw [h5]
      show _ = (((tkF B n (if tkK B n (nP B n p i) = 2 then rbN B n j (tkE B n (nP B n p i)) else nP B n p i)) : Nat) : Int)
      rw [if_neg (by omega)]
      exact a8
