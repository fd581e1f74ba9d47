def okAt (x : Int32) : Prop := ∃ r c : Nat, r < 6 ∧ c < 4 ∧ (ti x).toNat % 123 = 87 + 6 * r + 2 + c
theorem inv229b {A : Nat → Nat → Prop} {F : Nat → Nat → Int32} {w : Nat} {σ : zSto} {x v : Int32} (I : zInv A F w σ) (hA : ¬ A 229 x.toNatClampNeg) (h : okAt x) : zInv A F w (zI σ 229 x.toNatClampNeg v) := by
  obtain ⟨r, c, hr, hc, e⟩ := h
  have tn := tn_eq x
  refine wI I hA ?_ ?_
  · rw [rl_229]; exact decide_eq_false (by omega)
  · rw [kd_229]
    show lo14 (x.toNatClampNeg % 123) ≤ _ ∧ _ ≤ hi14 (x.toNatClampNeg % 123)
    have q := lh_r2 ⟨r, hr⟩ ⟨c, hc⟩
    rw [show x.toNatClampNeg % 123 = 87 + 6 * r + 2 + c by omega]
    simp only at q
    rw [q.1, q.2]
    exact full32 v
set_option maxHeartbeats 4000000 in
theorem s_X10_bid_97 {A : Nat → Nat → Prop} {F : Nat → Nat → Int32} {w : Nat} (pr : okR A) (pb : ∀ j, ¬ A 229 j) (x_3 : Int32) (x_4 : Int32) (x_5 : Int32) (x_6 : Int32) (h_x_3 : 0 ≤ ti (x_3) ∧ ti (x_3) ≤ 5) (h_x_5 : 0 ≤ ti (x_5) ∧ ti (x_5) ≤ 983) {P : Int32 → zSto → Prop} (hP : ∀ (r : Int32) (σ2 : zSto), zInv A F w σ2 → P r σ2) : ∀ (n : Nat) (x_7 : Int32) (x_8 : Int32) (x_9 : Int32) (σ : zSto), zInv A F w σ → (0 ≤ ti (x_9) ∧ ti (x_9) ≤ 201) → (okAt x_5) → (201 - (ti (x_9)) < n) → w_X10_bid_97 x_3 x_4 x_5 x_6 P n x_7 x_8 x_9 σ := by
  intro n
  induction n with
  | zero =>
    intro x_7 x_8 x_9 σ I h_x_9 pre0 hm
    exfalso
    omega
  | succ n ih =>
    intro x_7 x_8 x_9 σ I h_x_9 pre0 hm
    unfold w_X10_bid_97
    refine ⟨?_, ?_⟩
    · intro uq1
      have ul2 := lit_0
      have uc3 := ne_t uq1
      refine ⟨?_, ?_⟩
      · intro uq4
        have ul5 := lit_1
        have uc6 := ne_t uq4
        refine ⟨?_, ?_⟩
        · intro uq7
          have ul8 := lit_200
          have uc9 := lt_t uq7
          refine ⟨vin (by omega), ?_⟩
          intro σ12 eσ12
          have uI10 : zInv A F w σ12 := by rw [eσ12]; exact inv229b I (pb _) pre0
          exact hP x_7 σ12 uI10
        · intro uq11
          have ul12 := lit_200
          have uc13 := nlt_t uq11
          refine ⟨vin (by omega), ?_⟩
          intro σ14 eσ14
          have uI14 : zInv A F w σ14 := by rw [eσ14]; exact inv229b I (pb _) pre0
          refine ⟨?_, ?_⟩
          · intro uq15
            have uc16 := ne_t uq15
            refine s_X10_everyone uI14 (fun r16 hr16 => ?_)
            refine s_X10_go pr (0 : Int32) (0 : Int32) r16 uI14 (fun σ17 uI17 => ?_)
            refine ⟨vin (by omega), ?_⟩
            refine ⟨?_, ?_⟩
            · intro uq18
              have uc19 := le_t uq18
              refine ⟨vin (by omega), ?_⟩
              refine s_X10_greater x_8 (σ17.1 243 ((x_3).toNatClampNeg)) uI17 (fun r21 => ?_)
              intro x22 ex22
              have ut20 := tadd (x := x_9) (y := (1 : Int32)) (by omega)
              have ut21 := eq_t ex22
              exact ih x_7 r21 x22 σ17 uI17 (by omega) (pre0) (by omega)
            · intro uq22
              have uc23 := nle_t uq22
              refine ⟨vin (by omega), ?_⟩
              refine s_X10_greater x_8 (σ17.1 243 ((x_3).toNatClampNeg)) uI17 (fun r25 => ?_)
              intro x26 ex26
              have ut24 := tadd (x := x_9) (y := (1 : Int32)) (by omega)
              have ut25 := eq_t ex26
              exact ih x_9 r25 x26 σ17 uI17 (by omega) (pre0) (by omega)
          · intro uq26
            have uc27 := eq_t uq26
            refine s_X10_everyone uI14 (fun r28 hr28 => ?_)
            refine s_X10_go pr (3 : Int32) (0 : Int32) r28 uI14 (fun σ29 uI28 => ?_)
            refine ⟨vin (by omega), ?_⟩
            refine ⟨?_, ?_⟩
            · intro uq29
              have uc30 := le_t uq29
              refine ⟨vin (by omega), ?_⟩
              refine s_X10_greater x_8 (σ29.1 243 ((x_3).toNatClampNeg)) uI28 (fun r33 => ?_)
              intro x34 ex34
              have ut31 := tadd (x := x_9) (y := (1 : Int32)) (by omega)
              have ut32 := eq_t ex34
              exact ih x_7 r33 x34 σ29 uI28 (by omega) (pre0) (by omega)
            · intro uq33
              have uc34 := nle_t uq33
              refine ⟨vin (by omega), ?_⟩
              refine s_X10_greater x_8 (σ29.1 243 ((x_3).toNatClampNeg)) uI28 (fun r37 => ?_)
              intro x38 ex38
              have ut35 := tadd (x := x_9) (y := (1 : Int32)) (by omega)
              have ut36 := eq_t ex38
              exact ih x_9 r37 x38 σ29 uI28 (by omega) (pre0) (by omega)
      · intro uq37
        have ul38 := lit_1
        have uc39 := eq_t uq37
        refine ⟨?_, ?_⟩
        · intro uq40
          have ul41 := lit_60
          have uc42 := lt_t uq40
          refine ⟨vin (by omega), ?_⟩
          intro σ40 eσ40
          have uI43 : zInv A F w σ40 := by rw [eσ40]; exact inv229b I (pb _) pre0
          exact hP x_7 σ40 uI43
        · intro uq44
          have ul45 := lit_60
          have uc46 := nlt_t uq44
          refine ⟨vin (by omega), ?_⟩
          intro σ42 eσ42
          have uI47 : zInv A F w σ42 := by rw [eσ42]; exact inv229b I (pb _) pre0
          refine ⟨?_, ?_⟩
          · intro uq48
            have uc49 := ne_t uq48
            refine s_X10_everyone uI47 (fun r44 hr44 => ?_)
            refine s_X10_go pr (0 : Int32) (0 : Int32) r44 uI47 (fun σ45 uI50 => ?_)
            refine ⟨vin (by omega), ?_⟩
            refine ⟨?_, ?_⟩
            · intro uq51
              have uc52 := le_t uq51
              refine ⟨vin (by omega), ?_⟩
              refine s_X10_greater x_8 (σ45.1 243 ((x_3).toNatClampNeg)) uI50 (fun r49 => ?_)
              intro x50 ex50
              have ut53 := tadd (x := x_9) (y := (1 : Int32)) (by omega)
              have ut54 := eq_t ex50
              exact ih x_7 r49 x50 σ45 uI50 (by omega) (pre0) (by omega)
            · intro uq55
              have uc56 := nle_t uq55
              refine ⟨vin (by omega), ?_⟩
              refine s_X10_greater x_8 (σ45.1 243 ((x_3).toNatClampNeg)) uI50 (fun r53 => ?_)
              intro x54 ex54
              have ut57 := tadd (x := x_9) (y := (1 : Int32)) (by omega)
              have ut58 := eq_t ex54
              exact ih x_9 r53 x54 σ45 uI50 (by omega) (pre0) (by omega)
          · intro uq59
            have uc60 := eq_t uq59
            refine s_X10_everyone uI47 (fun r56 hr56 => ?_)
            refine s_X10_go pr (3 : Int32) (0 : Int32) r56 uI47 (fun σ57 uI61 => ?_)
            refine ⟨vin (by omega), ?_⟩
            refine ⟨?_, ?_⟩
            · intro uq62
              have uc63 := le_t uq62
              refine ⟨vin (by omega), ?_⟩
              refine s_X10_greater x_8 (σ57.1 243 ((x_3).toNatClampNeg)) uI61 (fun r61 => ?_)
              intro x62 ex62
              have ut64 := tadd (x := x_9) (y := (1 : Int32)) (by omega)
              have ut65 := eq_t ex62
              exact ih x_7 r61 x62 σ57 uI61 (by omega) (pre0) (by omega)
            · intro uq66
              have uc67 := nle_t uq66
              refine ⟨vin (by omega), ?_⟩
              refine s_X10_greater x_8 (σ57.1 243 ((x_3).toNatClampNeg)) uI61 (fun r65 => ?_)
              intro x66 ex66
              have ut68 := tadd (x := x_9) (y := (1 : Int32)) (by omega)
              have ut69 := eq_t ex66
              exact ih x_9 r65 x66 σ57 uI61 (by omega) (pre0) (by omega)
    · intro uq70
      have ul71 := lit_0
      have uc72 := eq_t uq70
      refine ⟨?_, ?_⟩
      · intro uq73
        have ul74 := lit_9
        have uc75 := lt_t uq73
        refine ⟨vin (by omega), ?_⟩
        intro σ68 eσ68
        have uI76 : zInv A F w σ68 := by rw [eσ68]; exact inv229b I (pb _) pre0
        exact hP x_7 σ68 uI76
      · intro uq77
        have ul78 := lit_9
        have uc79 := nlt_t uq77
        refine ⟨vin (by omega), ?_⟩
        intro σ70 eσ70
        have uI80 : zInv A F w σ70 := by rw [eσ70]; exact inv229b I (pb _) pre0
        refine ⟨?_, ?_⟩
        · intro uq81
          have uc82 := ne_t uq81
          refine s_X10_everyone uI80 (fun r72 hr72 => ?_)
          refine s_X10_go pr (0 : Int32) (0 : Int32) r72 uI80 (fun σ73 uI83 => ?_)
          refine ⟨vin (by omega), ?_⟩
          refine ⟨?_, ?_⟩
          · intro uq84
            have uc85 := le_t uq84
            refine ⟨vin (by omega), ?_⟩
            refine s_X10_greater x_8 (σ73.1 243 ((x_3).toNatClampNeg)) uI83 (fun r77 => ?_)
            intro x78 ex78
            have ul86 := lit_1
            have ut87 := tadd (x := x_9) (y := (1 : Int32)) (by omega)
            have ut88 := eq_t ex78
            exact ih x_7 r77 x78 σ73 uI83 (by omega) (pre0) (by omega)
          · intro uq89
            have uc90 := nle_t uq89
            refine ⟨vin (by omega), ?_⟩
            refine s_X10_greater x_8 (σ73.1 243 ((x_3).toNatClampNeg)) uI83 (fun r81 => ?_)
            intro x82 ex82
            have ul91 := lit_1
            have ut92 := tadd (x := x_9) (y := (1 : Int32)) (by omega)
            have ut93 := eq_t ex82
            exact ih x_9 r81 x82 σ73 uI83 (by omega) (pre0) (by omega)
        · intro uq94
          have uc95 := eq_t uq94
          refine s_X10_everyone uI80 (fun r84 hr84 => ?_)
          refine s_X10_go pr (3 : Int32) (0 : Int32) r84 uI80 (fun σ85 uI96 => ?_)
          refine ⟨vin (by omega), ?_⟩
          refine ⟨?_, ?_⟩
          · intro uq97
            have uc98 := le_t uq97
            refine ⟨vin (by omega), ?_⟩
            refine s_X10_greater x_8 (σ85.1 243 ((x_3).toNatClampNeg)) uI96 (fun r89 => ?_)
            intro x90 ex90
            have ul99 := lit_1
            have ut100 := tadd (x := x_9) (y := (1 : Int32)) (by omega)
            have ut101 := eq_t ex90
            exact ih x_7 r89 x90 σ85 uI96 (by omega) (pre0) (by omega)
          · intro uq102
            have uc103 := nle_t uq102
            refine ⟨vin (by omega), ?_⟩
            refine s_X10_greater x_8 (σ85.1 243 ((x_3).toNatClampNeg)) uI96 (fun r93 => ?_)
            intro x94 ex94
            have ul104 := lit_1
            have ut105 := tadd (x := x_9) (y := (1 : Int32)) (by omega)
            have ut106 := eq_t ex94
            exact ih x_9 r93 x94 σ85 uI96 (by omega) (pre0) (by omega)
set_option maxHeartbeats 4000000 in
theorem s_X10_bid {A : Nat → Nat → Prop} {F : Nat → Nat → Int32} {w : Nat} (pr : okR A) (pb : ∀ j, ¬ A 229 j) (a1 a2 a3 a4 : Int32) {σ : zSto} (I : zInv A F w σ) {P : Int32 → zSto → Prop} (hP : ∀ r σ2, zInv A F w σ2 → P r σ2) : w_X10_bid a1 a2 a3 a4 σ P := by
  unfold w_X10_bid
  have l0 := lit_0
  have l1 := lit_1
  have l2 := lit_2
  have l4 := lit_4
  have l5 := lit_5
  have l87 := lit_87
  intro σ1 e1
  have I1 : zInv A F w σ1 := by rw [e1]; exact wIr I (pRo pr (by decide)) (by decide) kd_223 rfl rfl (full32 _)
  refine s_X10_in a4 (0 : Int32) (2 : Int32) I1 (fun r3 z3 => ?_)
  intro b3
  refine ⟨fun q => hP _ σ1 I1, fun q3 => ?_⟩
  refine s_X10_hand pr a1 a2 I1 (fun r5 σ4 I4 z5 => ?_)
  intro b5
  refine ⟨fun q => hP _ σ4 I4, fun q5 => ?_⟩
  have h5 := z5 q5
  refine s_X10_isRider a3 I4 (fun r7 z7 => ?_)
  intro b7
  refine ⟨fun q7 => ?_, fun q => hP _ σ4 I4⟩
  have h7 := z7 q7
  have m1 := tmull (x := (123 : Int32)) (y := a1) 123 lit_123 (by omega)
  have m2 := tadd (x := (123 : Int32) * a1) (y := (87 : Int32)) (by omega)
  have m3 := tmull (x := (6 : Int32)) (y := a3) 6 lit_6 (by omega)
  have m4 := tadd (x := (123 : Int32) * a1 + (87 : Int32)) (y := (6 : Int32) * a3) (by omega)
  have go : ∀ (x x10 x9 : Int32), (0 ≤ ti x ∧ ti x ≤ 983) → okAt x → (0 ≤ ti x9 ∧ ti x9 ≤ 201) → ∃ n : Nat, w_X10_bid_97 a3 a4 x x10 P n (-1 : Int32) (-1 : Int32) x9 σ4 := fun x x10 x9 h1 h2 h3 => ⟨1000, s_X10_bid_97 pr pb a3 a4 x x10 h7 h1 hP 1000 (-1 : Int32) (-1 : Int32) x9 σ4 I4 h3 h2 (by omega)⟩
  have st : ∀ (x : Int32) (c : Nat), c < 4 → ti x = 123 * ti a1 + 87 + 6 * ti a3 + 2 + (c : Int) → (0 ≤ ti x ∧ ti x ≤ 983) ∧ okAt x := fun x c hc e => ⟨by omega, (ti a3).toNat, c, by omega, hc, by omega⟩
  refine ⟨fun q => ⟨fun q2 x8 e8 => ?_, fun q2 x8 e8 => ?_⟩, fun q x8 e8 => ?_⟩
  · have t := tadd (x := (123 : Int32) * a1 + (87 : Int32) + (6 : Int32) * a3) (y := (4 : Int32)) (by omega)
    have t2 := eq_t e8
    obtain ⟨s1, s2⟩ := st x8 2 (by decide) (by omega)
    exact ⟨vin (by omega), fun x10 _ => ⟨fun _ => go x8 x10 _ s1 s2 (by omega), fun _ => go x8 x10 _ s1 s2 (by omega)⟩⟩
  · have t := tadd (x := (123 : Int32) * a1 + (87 : Int32) + (6 : Int32) * a3) (y := (2 : Int32)) (by omega)
    have t2 := eq_t e8
    obtain ⟨s1, s2⟩ := st x8 0 (by decide) (by omega)
    exact ⟨vin (by omega), fun x10 _ => ⟨fun _ => go x8 x10 _ s1 s2 (by omega), fun _ => go x8 x10 _ s1 s2 (by omega)⟩⟩
  · have t := tadd (x := (123 : Int32) * a1 + (87 : Int32) + (6 : Int32) * a3) (y := (5 : Int32)) (by omega)
    have t2 := eq_t e8
    obtain ⟨s1, s2⟩ := st x8 3 (by decide) (by omega)
    exact ⟨vin (by omega), fun x10 _ => ⟨fun _ => go x8 x10 _ s1 s2 (by omega), fun _ => go x8 x10 _ s1 s2 (by omega)⟩⟩
/-! the law: what class and reference share -/
def LQ (σ : zSto) : Prop := ti (σ.1 1 5) = ti (σ.1 225 0) ∧ (∀ k : Nat, k < 3 → ti (σ.1 (44 + 42 * k) 5) = ti (σ.1 225 (k + 1))) ∧ (∀ k : Nat, k < 3 → (σ.1 170 k = 0 ↔ σ.1 249 k = 0))
def zA0 : Nat → Nat → Prop := fun _ _ => False
def zF0 : Nat → Nat → Int32 := fun _ _ => 0
def Lw (σ : zSto) : Prop := zInv zA0 zF0 3 σ ∧ LQ σ
theorem inv_any {A B : Nat → Nat → Prop} {F : Nat → Nat → Int32} {w : Nat} {σ : zSto} (I : zInv A F w σ) : zInv B σ.1 w σ := ⟨I.1, fun _ _ _ => rfl, I.2.2⟩
theorem inv_none {A : Nat → Nat → Prop} {F : Nat → Nat → Int32} {w : Nat} {σ : zSto} (I : zInv A F w σ) : zInv zA0 zF0 w σ := ⟨I.1, fun _ _ h => h.elim, I.2.2⟩
def AC : Nat → Nat → Prop := fun k _ => k < 171 ∨ 223 ≤ k
def AR : Nat → Nat → Prop := fun k _ => k < 223 ∨ k = 225 ∨ k = 249
theorem ac_c : okC AC := fun k j a q => by unfold AC at a; omega
theorem ar_r : okR AR := fun k j a q => by unfold AR at a; omega
theorem ar_h : okH AR := fun j q a => by unfold AR at a; omega
theorem ar_b : ∀ j, ¬ AR 229 j := fun j a => by unfold AR at a; omega
/-- nothing that is shared has changed -/
theorem LQ_of {σ σ2 : zSto} (h : ∀ k j, (k < 171 ∨ k = 225 ∨ k = 249) → σ2.1 k j = σ.1 k j) (q : LQ σ) : LQ σ2 := by
  obtain ⟨q1, q2, q3⟩ := q
  refine ⟨?_, fun k hk => ?_, fun k hk => ?_⟩
  · rw [h 1 5 (by omega), h 225 0 (by omega)]; exact q1
  · rw [h _ 5 (by omega), h 225 _ (by omega)]; exact q2 k hk
  · rw [h 170 k (by omega), h 249 k (by omega)]; exact q3 k hk
theorem Lw_C {σ σ2 : zSto} (H : Lw σ) (I : zInv AC σ.1 3 σ2) : Lw σ2 := ⟨inv_none I, LQ_of (fun k j hk => I.2.1 k j (by unfold AC; omega)) H.2⟩
theorem Lw_R {σ σ2 : zSto} (H : Lw σ) (I : zInv AR σ.1 3 σ2) : Lw σ2 := ⟨inv_none I, LQ_of (fun k j hk => I.2.1 k j (by unfold AR; omega)) H.2⟩
/-! feed, end, text, image, again: the state changes on both sides alike -/
def AF : Nat → Nat → Prop := fun k _ => 43 ≤ k
def AG : Nat → Nat → Prop := fun k j => k < 223 ∨ (k = 225 ∧ j ≠ 0) ∨ k = 249
theorem af_n : okN AF := fun k j a q => by unfold AF at a; omega
theorem ag_r : okR AG := fun k j a q => by unfold AG at a; omega
theorem ag_3 : ¬ AG 223 0 := fun a => by unfold AG at a; omega
theorem ag_4 : ∀ j, ¬ AG 224 j := fun j a => by unfold AG at a; omega
theorem ag_5 : ¬ AG 225 0 := fun a => by unfold AG at a; omega
theorem ag_m : ∀ q j, 226 ≤ q → q ≤ 231 → ¬ AG q j := fun q j h1 h2 a => by unfold AG at a; omega
/-- both tapes have as many bytes -/
theorem LQ_fg {σ σa σb : zSto} (q : LQ σ) (ha : ∀ k j, 43 ≤ k → (k < 171 ∨ 223 ≤ k) → σa.1 k j = σ.1 k j) (hb : ∀ k j, AG k j → σb.1 k j = σa.1 k j) (hl : ti (σa.1 1 5) = ti (σb.1 225 0)) : LQ σb := by
  obtain ⟨q1, q2, q3⟩ := q
  refine ⟨?_, fun k hk => ?_, fun k hk => ?_⟩
  · rw [hb 1 5 (by unfold AG; omega)]; exact hl
  · rw [hb _ 5 (by unfold AG; omega), ha _ 5 (by omega) (by omega), hb 225 _ (by unfold AG; omega), ha 225 _ (by omega) (by omega)]
    exact q2 k hk
  · rw [hb 170 k (by unfold AG; omega), ha 170 k (by omega) (by omega), hb 249 k (by unfold AG; omega), ha 249 k (by omega) (by omega)]
    exact q3 k hk
set_option maxHeartbeats 4000000 in
theorem l_feed {σ : zSto} (H : Lw σ) (a b c d e : Int32) {P : Int32 → zSto → Prop} (hP : ∀ r σa, (∀ Q : Int32 → zSto → Prop, (∀ σ2, Lw σ2 → Q r σ2) → w_X10_feed a b c d e σa Q) → P r σa) : w_X9_feed a b c d e σ P := by
  obtain ⟨I, q⟩ := H
  have q1 := q.1
  refine e_X9_feed (A := AF) (F := σ.1) af_n a b c d e (inv_any I) (fun h => ?_) (fun h r σa Ia ga gr => ?_)
  · refine hP _ _ (fun Q hQ => ?_)
    refine e_X10_feed (A := AG) (F := σ.1) ag_3 ag_4 ag_5 a b c d e (inv_any I) (fun _ σb Ib gb => hQ σb ⟨inv_none Ib, LQ_fg q (fun _ _ _ _ => rfl) Ib.2.1 (by rw [gb]; exact q1)⟩) (fun h' => by omega)
  · have u : ti (σa.1 225 0) = ti (σ.1 225 0) := congrArg ti (Ia.2.1 225 0 (by unfold AF; omega))
    refine hP _ _ (fun Q hQ => ?_)
    refine e_X10_feed (A := AG) (F := σa.1) ag_3 ag_4 ag_5 a b c d e (inv_any Ia) (fun h' => by omega) (fun _ r' σb Ib gb gr' => ?_)
    have e : r' = r := t_inj (by omega)
    subst e
    exact hQ σb ⟨inv_none Ib, LQ_fg q (fun k j hk _ => Ia.2.1 k j hk) Ib.2.1 (by omega)⟩
set_option maxHeartbeats 4000000 in
theorem l_end {σ : zSto} (H : Lw σ) (a : Int32) {P : Int32 → zSto → Prop} (hP : ∀ r σa, (∀ Q : Int32 → zSto → Prop, (∀ σ2, Lw σ2 → Q r σ2) → w_X10_end a σa Q) → P r σa) : w_X9_end a σ P := by
  obtain ⟨I, q⟩ := H
  have q1 := q.1
  refine e_X9_end (A := AF) (F := σ.1) af_n a (inv_any I) (fun h => ?_) (fun h σa Ia ga => ?_)
  · refine hP _ _ (fun Q hQ => ?_)
    refine e_X10_end (A := AG) (F := σ.1) ag_3 ag_5 a (inv_any I) (fun _ σb Ib gb => hQ σb ⟨inv_none Ib, LQ_fg q (fun _ _ _ _ => rfl) Ib.2.1 (by rw [gb]; exact q1)⟩) (fun h' => absurd (by omega) h)
  · have u : ti (σa.1 225 0) = ti (σ.1 225 0) := congrArg ti (Ia.2.1 225 0 (by unfold AF; omega))
    refine hP _ _ (fun Q hQ => ?_)
    refine e_X10_end (A := AG) (F := σa.1) ag_3 ag_5 a (inv_any Ia) (fun h' => absurd (by omega) h') (fun _ σb Ib gb => hQ σb ⟨inv_none Ib, LQ_fg q (fun k j hk _ => Ia.2.1 k j hk) Ib.2.1 (by rw [ga, gb])⟩)
def AT : Nat → Nat → Prop := fun k _ => 43 ≤ k ∧ (k < 171 ∨ 223 ≤ k)
theorem at_c : okC AT := fun k j a q => by unfold AT at a; omega
theorem at_n : okN AT := fun k j a q => by unfold AT at a; omega
set_option maxHeartbeats 4000000 in
theorem l_text {σ : zSto} (H : Lw σ) (a b : Int32) {P : Int32 → zSto → Prop} (hP : ∀ r σa, (∀ Q : Int32 → zSto → Prop, (∀ r' σ2, Lw σ2 → Q r' σ2) → w_X10_text a b σa Q) → P r σa) : w_X9_text a b σ P := by
  obtain ⟨I, q⟩ := H
  refine s_X9_text (A := AT) (F := σ.1) at_c at_n a b (inv_any I) (fun r σa Ia ga => ?_)
  refine hP _ _ (fun Q hQ => ?_)
  refine s_X10_text (A := AG) (F := σa.1) ag_r ag_5 ag_m a b (inv_any Ia) (fun r' σb Ib gb => hQ _ σb ⟨inv_none Ib, LQ_fg q (fun k j h1 h2 => Ia.2.1 k j ⟨h1, h2⟩) Ib.2.1 (by omega)⟩)
def AI : Nat → Nat → Prop := fun k j => k < 223 ∨ (k = 225 ∧ j = 0)
set_option maxHeartbeats 4000000 in
theorem l_image {σ : zSto} (H : Lw σ) (a : Int32) {P : Int32 → zSto → Prop} (hP : ∀ r σa, (∀ Q : Int32 → zSto → Prop, (∀ σ2, Lw σ2 → Q r σ2) → w_X10_image a σa Q) → P r σa) : w_X9_image a σ P := by
  obtain ⟨I, q⟩ := H
  obtain ⟨q1, q2, q3⟩ := id q
  have i3 : ¬ AI 223 0 := fun a => by unfold AI at a; omega
  have im : ∀ q j, 224 ≤ q → q ≤ 231 → (q = 225 → j ≠ 0) → ¬ AI q j := fun q j h1 h2 h3 a => by unfold AI at a; omega
  have iv : okV AI := fun j a => by unfold AI at a; omega
  have tn := tn_eq a
  refine s_X9_image (A := zA0) (F := zF0) (fun _ _ h => h.elim) a I (fun h => ?_) (fun h σa Ia g1 g2 g3 => ?_)
  · refine hP _ _ (fun Q hQ => ?_)
    refine s_X10_image (A := AI) (F := σ.1) i3 a im iv (inv_any I) (fun _ σb Ib gb => hQ σb ⟨inv_none Ib, LQ_of (fun k j hk => gb k j (by omega)) q⟩) (fun h' => absurd h' h)
  · refine hP _ _ (fun Q hQ => ?_)
    refine s_X10_image (A := AI) (F := σa.1) i3 a im iv (inv_any Ia) (fun h' => absurd h h') (fun _ σb Ib g4 g5 => hQ σb ⟨inv_none Ib, ?_, fun k hk => ?_, fun k hk => ?_⟩)
    · rw [Ib.2.1 1 5 (by unfold AI; omega), Ib.2.1 225 0 (by unfold AI; omega), g1 1 5 (by omega) (by omega), g1 225 0 (by omega) (by omega)]
      exact q1
    · rw [Ib.2.1 _ 5 (by unfold AI; omega), g4 (k + 1)]
      by_cases c : k = a.toNatClampNeg
      · subst c
        rw [if_pos rfl, g3, g1 225 0 (by omega) (by omega)]
        exact q1
      · rw [if_neg (by omega), g1 _ 5 (by omega) (by omega), g1 225 _ (by omega) (by omega)]
        exact q2 k hk
    · rw [Ib.2.1 170 k (by unfold AI; omega), g5 k]
      by_cases c : k = a.toNatClampNeg
      · subst c
        rw [if_pos rfl, g2]
      · rw [if_neg c, g1 170 k (by omega) (fun _ => c), g1 249 k (by omega) (by omega)]
        exact q3 k hk
def AE : Nat → Nat → Prop := fun k _ => k < 223 ∨ k = 249
set_option maxHeartbeats 4000000 in
theorem l_again {σ : zSto} (H : Lw σ) (a : Int32) {P : Int32 → zSto → Prop} (hP : ∀ r σa, (∀ Q : Int32 → zSto → Prop, (∀ σ2, Lw σ2 → Q r σ2) → w_X10_again a σa Q) → P r σa) : w_X9_again a σ P := by
  obtain ⟨I, q⟩ := H
  obtain ⟨q1, q2, q3⟩ := id q
  have i3 : ¬ AE 223 0 := fun a => by unfold AE at a; omega
  have im : ∀ q j, 224 ≤ q → q ≤ 231 → (q = 225 → j = 0) → ¬ AE q j := fun q j h1 h2 h3 a => by unfold AE at a; omega
  have tn := tn_eq a
  refine s_X9_again (A := zA0) (F := zF0) (fun _ _ h => h.elim) a I (fun h => ?_) (fun h σa Ia g1 g2 => ?_)
  · refine hP _ _ (fun Q hQ => ?_)
    refine s_X10_again (A := AE) (F := σ.1) i3 a im (inv_any I) (fun _ σb Ib gb => hQ σb ⟨inv_none Ib, LQ_of (fun k j hk => gb k j (by omega)) q⟩) (fun h' => absurd ⟨h'.1, h'.2.1, fun z => h'.2.2 ((q3 _ (by omega)).mp z)⟩ h)
  · have v : σa.1 249 a.toNatClampNeg = σ.1 249 a.toNatClampNeg := g1 249 _ (by omega)
    refine hP _ _ (fun Q hQ => ?_)
    refine s_X10_again (A := AE) (F := σa.1) i3 a im (inv_any Ia) (fun h' => absurd ⟨h.1, h.2.1, fun z => h.2.2 ((q3 _ (by omega)).mpr (by rw [← v]; exact z))⟩ h') (fun _ σb Ib g4 => hQ σb ⟨inv_none Ib, ?_, fun k hk => ?_, fun k hk => ?_⟩)
    · rw [Ib.2.1 1 5 (by unfold AE; omega), g4 0, if_pos rfl, g2, g1 225 _ (by omega)]
      exact q2 _ (by omega)
    · rw [Ib.2.1 _ 5 (by unfold AE; omega), g4 (k + 1), if_neg (by omega), g1 _ 5 (by omega), g1 225 _ (by omega)]
      exact q2 k hk
    · rw [Ib.2.1 170 k (by unfold AE; omega), Ib.2.1 249 k (by unfold AE; omega), g1 170 k (by omega), g1 249 k (by omega)]
      exact q3 k hk
theorem z14' (s : Nat) : lo14 s ≤ 0 ∧ 0 ≤ hi14 s := by
  unfold lo14 hi14
  repeat' split
  all_goals omega
theorem z_lo (c j : Nat) : lo c j ≤ 0 ∧ 0 ≤ hi c j := by
  unfold lo hi
  have := z14' (j % 123)
  repeat' split
  all_goals omega
theorem m1_0 : ti (-1 : Int32) = -1 := lit_m1
theorem σ0_z {k j : Nat} (h : ¬ ((k = 1 ∨ k = 44 ∨ k = 86 ∨ k = 128) ∧ j = 7) ∧ k ≠ 227) : ti (σ0.1 k j) = 0 := by
  by_cases c : k = 1 ∨ k = 44 ∨ k = 86 ∨ k = 128
  · rw [σ0_st c]
    show ti (if j = 7 then -1 else 0) = 0
    rw [if_neg (by omega)]
    exact lit_0
  · rw [σ0_row (by omega)]
    exact lit_0
theorem Lw_0 : Lw σ0 := by
  refine ⟨⟨fun k j => ?_, fun _ _ h => h.elim, fun S hS l hl q => ?_, fun t ht r q => ?_, fun hw q r q2 => ?_, fun i l hi hl q => ?_, ⟨fun z => absurd z (by decide), fun z => absurd z (by decide), fun z => absurd z (by decide)⟩⟩, ?_, fun k hk => ?_, fun k hk => ?_⟩
  · by_cases c : ((k = 1 ∨ k = 44 ∨ k = 86 ∨ k = 128) ∧ j = 7) ∨ k = 227
    · rcases c with ⟨c, c2⟩ | c
      · subst c2
        have e : kd k = 5 := by rcases c with c | c | c | c <;> subst c <;> decide
        rw [e]
        exact full32 _
      · subst c
        rw [kd_227]
        exact full32 _
    · rw [σ0_z (by omega)]
      exact z_lo _ _
  · rw [σ0_z (by unfold isZ at hS; omega)] at q
    omega
  · rw [σ0_z (by unfold isS at ht; omega)] at q
    omega
  · rw [σ0_z (by omega)] at q2
    omega
  · rw [σ0_z (by omega)] at q
    omega
  · rw [σ0_z (by omega), σ0_z (by omega)]
  · rw [σ0_z (by omega), σ0_z (by omega)]
  · rw [σ0_row (by omega), σ0_row (by omega)]
