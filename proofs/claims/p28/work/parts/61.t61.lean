/-! count and fault on both sides -/
theorem f_X9_count (a1 : Int32) {σ : zSto} {P : Int32 → zSto → Prop} (hP : ∀ r, ((0 ≤ ti a1 ∧ ti a1 ≤ 2) → ti r = ti (σ.1 42 (ti a1).toNat)) → (¬ (0 ≤ ti a1 ∧ ti a1 ≤ 2) → ti r = -2) → P r σ) : w_X9_count a1 σ P := by
  have l0 := lit_0
  have l2 := lit_2
  have lm2 := lit_m2
  have tn := tn_eq a1
  unfold w_X9_count w_X8_howMany w_X9_isSort
  refine ⟨fun q => fun _ => ⟨fun _ => hP _ (fun k => ?_) (fun _ => lm2), fun c => absurd rfl c⟩, fun q => ⟨fun q2 => fun _ => ⟨fun _ => hP _ (fun k => ?_) (fun _ => lm2), fun c => absurd rfl c⟩, fun q2 => fun _ => ⟨fun c => absurd c (by decide), fun _ => ?_⟩⟩⟩
  · have := lt_t q
    omega
  · have := lt_t q2
    omega
  · have c1 := nlt_t q
    have c2 := nlt_t q2
    refine ⟨fun z => absurd z q, fun _ => ⟨fun z => absurd z q2, fun _ => fun _ => ⟨fun c => absurd c (by decide), fun _ => ⟨vin (by omega), hP _ (fun _ => ?_) (fun z => ?_)⟩⟩⟩⟩
    · rw [tn]
    · exact absurd ⟨by omega, by omega⟩ z
theorem Lz_223 {σ σ1 : zSto} (H : Lz σ) (e1 : σ1 = zI σ 223 0 (0 : Int32)) : Lz σ1 := Lz_of H (by rw [e1]; exact wIr H.1 (fun h => h.elim) (by decide) kd_223 rfl rfl (full32 _)) (fun k j hk => zI_q' e1 (by omega))
theorem m_count {σ : zSto} (H : Lz σ) (a : Int32) {P : Int32 → zSto → Prop} (hP : ∀ r σa, (∀ Q : Int32 → zSto → Prop, (∀ σ2, Lz σ2 → Q r σ2) → w_X10_count a σa Q) → P r σa) : w_X9_count a σ P := by
  have q1 := H.2.1
  have l0 := lit_0
  have l2 := lit_2
  have lm2 := lit_m2
  have tn := tn_eq a
  refine f_X9_count a (fun r h1 h2 => hP r σ (fun Q hQ => ?_))
  unfold w_X10_count
  intro σ1 e1
  have H1 := Lz_223 H e1
  refine b_X10_in a (0 : Int32) (2 : Int32) (fun r3 z => ?_)
  intro b
  refine ⟨fun q => ?_, fun q => ⟨vin (by have := z.mp q; omega), ?_⟩⟩
  · have e : (-2 : Int32) = r := t_inj (by rw [lm2, h2 (fun h => z.mpr (by omega) q)])
    rw [e]
    exact hQ σ1 H1
  · have y := z.mp q
    have e : σ1.1 228 a.toNatClampNeg = r := t_inj (by
      rw [zI_q' e1 (by omega), h1 (by omega), tn]
      have y := q1.2.2.2.2.1 (ti a).toNat (by omega)
      rw [show 3 * 0 + (ti a).toNat = (ti a).toNat by omega] at y
      exact y.symm)
    rw [e]
    exact hQ σ1 H1
theorem m_fault {σ : zSto} (H : Lz σ) (a : Int32) {P : Int32 → zSto → Prop} (hP : ∀ r σa, (∀ Q : Int32 → zSto → Prop, (∀ σ2, Lz σ2 → Q r σ2) → w_X10_fault a σa Q) → P r σa) : w_X9_fault a σ P := by
  have q6 := H.2.1.2.2.1
  have q7 := H.2.1.2.2.2.1
  unfold w_X9_fault
  refine ⟨fun q => ⟨fun q2 => hP _ σ (fun Q hQ => ?_), fun q2 => hP _ σ (fun Q hQ => ?_)⟩, fun q => hP _ σ (fun Q hQ => ?_)⟩
  all_goals unfold w_X10_fault
  all_goals intro σ1 e1
  all_goals have H1 := Lz_223 H e1
  · exact ⟨fun _ => ⟨fun _ => hQ σ1 H1, fun c => absurd c q2⟩, fun c => absurd c q⟩
  · have e : σ1.1 227 0 = σ.1 1 7 := t_inj (by rw [zI_q' e1 (by omega)]; exact q7.symm)
    rw [e]
    exact ⟨fun _ => ⟨fun c => absurd q2 c, fun _ => hQ σ1 H1⟩, fun c => absurd c q⟩
  · have e : σ1.1 226 0 = σ.1 1 6 := t_inj (by rw [zI_q' e1 (by omega)]; exact q6.symm)
    rw [e]
    exact ⟨fun c => absurd q c, fun _ => hQ σ1 H1⟩
set_option maxHeartbeats 4000000 in
theorem r_X10_bid_97 {A : Nat → Nat → Prop} {F : Nat → Nat → Int32} {w : Nat} (pr : okR A) (x_3 : Int32) (x_4 : Int32) (x_5 : Int32) (x_6 : Int32) (pb : ¬ A 229 x_5.toNatClampNeg) (h_x_3 : 0 ≤ ti (x_3) ∧ ti (x_3) ≤ 5) (h_x_5 : 0 ≤ ti (x_5) ∧ ti (x_5) ≤ 983) {P : Int32 → zSto → Prop} (hP : ∀ (r : Int32) (σ2 : zSto), zInv A F w σ2 → σ2.1 229 x_5.toNatClampNeg = x_6 → P r σ2) : ∀ (n : Nat) (x_7 : Int32) (x_8 : Int32) (x_9 : Int32) (σ : zSto), zInv A F w σ → (0 ≤ ti (x_9) ∧ ti (x_9) ≤ 201) → (okAt x_5) → (201 - (ti (x_9)) < n) → w_X10_bid_97 x_3 x_4 x_5 x_6 P n x_7 x_8 x_9 σ := by
  intro n
  induction n with
  | zero =>
    intro x_7 x_8 x_9 σ I h_x_9 pre0 hm
    exfalso
    omega
  | succ n ih =>
    intro x_7 x_8 x_9 σ I h_x_9 pre0 hm
    unfold w_X10_bid_97
    refine ⟨?_, ?_⟩
    · intro uq1
      have ul2 := lit_0
      have uc3 := ne_t uq1
      refine ⟨?_, ?_⟩
      · intro uq4
        have ul5 := lit_1
        have uc6 := ne_t uq4
        refine ⟨?_, ?_⟩
        · intro uq7
          have ul8 := lit_200
          have uc9 := lt_t uq7
          refine ⟨vin (by omega), ?_⟩
          intro σ12 eσ12
          have uI10 : zInv A F w σ12 := by rw [eσ12]; exact inv229b I pb pre0
          exact hP x_7 σ12 uI10 (by rw [eσ12, zI_s])
        · intro uq11
          have ul12 := lit_200
          have uc13 := nlt_t uq11
          refine ⟨vin (by omega), ?_⟩
          intro σ14 eσ14
          have uI14 : zInv A F w σ14 := by rw [eσ14]; exact inv229b I pb pre0
          refine ⟨?_, ?_⟩
          · intro uq15
            have uc16 := ne_t uq15
            refine s_X10_everyone uI14 (fun r16 hr16 => ?_)
            refine s_X10_go pr (0 : Int32) (0 : Int32) r16 uI14 (fun σ17 uI17 => ?_)
            refine ⟨vin (by omega), ?_⟩
            refine ⟨?_, ?_⟩
            · intro uq18
              have uc19 := le_t uq18
              refine ⟨vin (by omega), ?_⟩
              refine s_X10_greater x_8 (σ17.1 243 ((x_3).toNatClampNeg)) uI17 (fun r21 => ?_)
              intro x22 ex22
              have ut20 := tadd (x := x_9) (y := (1 : Int32)) (by omega)
              have ut21 := eq_t ex22
              exact ih x_7 r21 x22 σ17 uI17 (by omega) (pre0) (by omega)
            · intro uq22
              have uc23 := nle_t uq22
              refine ⟨vin (by omega), ?_⟩
              refine s_X10_greater x_8 (σ17.1 243 ((x_3).toNatClampNeg)) uI17 (fun r25 => ?_)
              intro x26 ex26
              have ut24 := tadd (x := x_9) (y := (1 : Int32)) (by omega)
              have ut25 := eq_t ex26
              exact ih x_9 r25 x26 σ17 uI17 (by omega) (pre0) (by omega)
          · intro uq26
            have uc27 := eq_t uq26
            refine s_X10_everyone uI14 (fun r28 hr28 => ?_)
            refine s_X10_go pr (3 : Int32) (0 : Int32) r28 uI14 (fun σ29 uI28 => ?_)
            refine ⟨vin (by omega), ?_⟩
            refine ⟨?_, ?_⟩
            · intro uq29
              have uc30 := le_t uq29
              refine ⟨vin (by omega), ?_⟩
              refine s_X10_greater x_8 (σ29.1 243 ((x_3).toNatClampNeg)) uI28 (fun r33 => ?_)
              intro x34 ex34
              have ut31 := tadd (x := x_9) (y := (1 : Int32)) (by omega)
              have ut32 := eq_t ex34
              exact ih x_7 r33 x34 σ29 uI28 (by omega) (pre0) (by omega)
            · intro uq33
              have uc34 := nle_t uq33
              refine ⟨vin (by omega), ?_⟩
              refine s_X10_greater x_8 (σ29.1 243 ((x_3).toNatClampNeg)) uI28 (fun r37 => ?_)
              intro x38 ex38
              have ut35 := tadd (x := x_9) (y := (1 : Int32)) (by omega)
              have ut36 := eq_t ex38
              exact ih x_9 r37 x38 σ29 uI28 (by omega) (pre0) (by omega)
      · intro uq37
        have ul38 := lit_1
        have uc39 := eq_t uq37
        refine ⟨?_, ?_⟩
        · intro uq40
          have ul41 := lit_60
          have uc42 := lt_t uq40
          refine ⟨vin (by omega), ?_⟩
          intro σ40 eσ40
          have uI43 : zInv A F w σ40 := by rw [eσ40]; exact inv229b I pb pre0
          exact hP x_7 σ40 uI43 (by rw [eσ40, zI_s])
        · intro uq44
          have ul45 := lit_60
          have uc46 := nlt_t uq44
          refine ⟨vin (by omega), ?_⟩
          intro σ42 eσ42
          have uI47 : zInv A F w σ42 := by rw [eσ42]; exact inv229b I pb pre0
          refine ⟨?_, ?_⟩
          · intro uq48
            have uc49 := ne_t uq48
            refine s_X10_everyone uI47 (fun r44 hr44 => ?_)
            refine s_X10_go pr (0 : Int32) (0 : Int32) r44 uI47 (fun σ45 uI50 => ?_)
            refine ⟨vin (by omega), ?_⟩
            refine ⟨?_, ?_⟩
            · intro uq51
              have uc52 := le_t uq51
              refine ⟨vin (by omega), ?_⟩
              refine s_X10_greater x_8 (σ45.1 243 ((x_3).toNatClampNeg)) uI50 (fun r49 => ?_)
              intro x50 ex50
              have ut53 := tadd (x := x_9) (y := (1 : Int32)) (by omega)
              have ut54 := eq_t ex50
              exact ih x_7 r49 x50 σ45 uI50 (by omega) (pre0) (by omega)
            · intro uq55
              have uc56 := nle_t uq55
              refine ⟨vin (by omega), ?_⟩
              refine s_X10_greater x_8 (σ45.1 243 ((x_3).toNatClampNeg)) uI50 (fun r53 => ?_)
              intro x54 ex54
              have ut57 := tadd (x := x_9) (y := (1 : Int32)) (by omega)
              have ut58 := eq_t ex54
              exact ih x_9 r53 x54 σ45 uI50 (by omega) (pre0) (by omega)
          · intro uq59
            have uc60 := eq_t uq59
            refine s_X10_everyone uI47 (fun r56 hr56 => ?_)
            refine s_X10_go pr (3 : Int32) (0 : Int32) r56 uI47 (fun σ57 uI61 => ?_)
            refine ⟨vin (by omega), ?_⟩
            refine ⟨?_, ?_⟩
            · intro uq62
              have uc63 := le_t uq62
              refine ⟨vin (by omega), ?_⟩
              refine s_X10_greater x_8 (σ57.1 243 ((x_3).toNatClampNeg)) uI61 (fun r61 => ?_)
              intro x62 ex62
              have ut64 := tadd (x := x_9) (y := (1 : Int32)) (by omega)
              have ut65 := eq_t ex62
              exact ih x_7 r61 x62 σ57 uI61 (by omega) (pre0) (by omega)
            · intro uq66
              have uc67 := nle_t uq66
              refine ⟨vin (by omega), ?_⟩
              refine s_X10_greater x_8 (σ57.1 243 ((x_3).toNatClampNeg)) uI61 (fun r65 => ?_)
              intro x66 ex66
              have ut68 := tadd (x := x_9) (y := (1 : Int32)) (by omega)
              have ut69 := eq_t ex66
              exact ih x_9 r65 x66 σ57 uI61 (by omega) (pre0) (by omega)
    · intro uq70
      have ul71 := lit_0
      have uc72 := eq_t uq70
      refine ⟨?_, ?_⟩
      · intro uq73
        have ul74 := lit_9
        have uc75 := lt_t uq73
        refine ⟨vin (by omega), ?_⟩
        intro σ68 eσ68
        have uI76 : zInv A F w σ68 := by rw [eσ68]; exact inv229b I pb pre0
        exact hP x_7 σ68 uI76 (by rw [eσ68, zI_s])
      · intro uq77
        have ul78 := lit_9
        have uc79 := nlt_t uq77
        refine ⟨vin (by omega), ?_⟩
        intro σ70 eσ70
        have uI80 : zInv A F w σ70 := by rw [eσ70]; exact inv229b I pb pre0
        refine ⟨?_, ?_⟩
        · intro uq81
          have uc82 := ne_t uq81
          refine s_X10_everyone uI80 (fun r72 hr72 => ?_)
          refine s_X10_go pr (0 : Int32) (0 : Int32) r72 uI80 (fun σ73 uI83 => ?_)
          refine ⟨vin (by omega), ?_⟩
          refine ⟨?_, ?_⟩
          · intro uq84
            have uc85 := le_t uq84
            refine ⟨vin (by omega), ?_⟩
            refine s_X10_greater x_8 (σ73.1 243 ((x_3).toNatClampNeg)) uI83 (fun r77 => ?_)
            intro x78 ex78
            have ul86 := lit_1
            have ut87 := tadd (x := x_9) (y := (1 : Int32)) (by omega)
            have ut88 := eq_t ex78
            exact ih x_7 r77 x78 σ73 uI83 (by omega) (pre0) (by omega)
          · intro uq89
            have uc90 := nle_t uq89
            refine ⟨vin (by omega), ?_⟩
            refine s_X10_greater x_8 (σ73.1 243 ((x_3).toNatClampNeg)) uI83 (fun r81 => ?_)
            intro x82 ex82
            have ul91 := lit_1
            have ut92 := tadd (x := x_9) (y := (1 : Int32)) (by omega)
            have ut93 := eq_t ex82
            exact ih x_9 r81 x82 σ73 uI83 (by omega) (pre0) (by omega)
        · intro uq94
          have uc95 := eq_t uq94
          refine s_X10_everyone uI80 (fun r84 hr84 => ?_)
          refine s_X10_go pr (3 : Int32) (0 : Int32) r84 uI80 (fun σ85 uI96 => ?_)
          refine ⟨vin (by omega), ?_⟩
          refine ⟨?_, ?_⟩
          · intro uq97
            have uc98 := le_t uq97
            refine ⟨vin (by omega), ?_⟩
            refine s_X10_greater x_8 (σ85.1 243 ((x_3).toNatClampNeg)) uI96 (fun r89 => ?_)
            intro x90 ex90
            have ul99 := lit_1
            have ut100 := tadd (x := x_9) (y := (1 : Int32)) (by omega)
            have ut101 := eq_t ex90
            exact ih x_7 r89 x90 σ85 uI96 (by omega) (pre0) (by omega)
          · intro uq102
            have uc103 := nle_t uq102
            refine ⟨vin (by omega), ?_⟩
            refine s_X10_greater x_8 (σ85.1 243 ((x_3).toNatClampNeg)) uI96 (fun r93 => ?_)
            intro x94 ex94
            have ul104 := lit_1
            have ut105 := tadd (x := x_9) (y := (1 : Int32)) (by omega)
            have ut106 := eq_t ex94
            exact ih x_9 r93 x94 σ85 uI96 (by omega) (pre0) (by omega)
def AB (x : Int32) : Nat → Nat → Prop := fun k j => AR2 k j ∧ ¬ (k = 229 ∧ j = x.toNatClampNeg)
theorem ab_r (x : Int32) : okR (AB x) := fun k j a q => ar2_r k j a.1 q
set_option maxHeartbeats 4000000 in
theorem r_X10_bid (a1 a2 a3 a4 : Int32) {σ : zSto} (I : zInv AR2 σ.1 3 σ) {P : Int32 → zSto → Prop} (hP : ∀ r σ2, zInv AR2 σ.1 3 σ2 → P r σ2) : w_X10_bid a1 a2 a3 a4 σ P := by
  have pr := ar2_r
  unfold w_X10_bid
  have l0 := lit_0
  have l1 := lit_1
  have l2 := lit_2
  have l4 := lit_4
  have l5 := lit_5
  have l87 := lit_87
  intro σ1 e1
  have I1 : zInv AR2 σ.1 3 σ1 := by rw [e1]; exact wIr I (pRo pr (by decide)) (by decide) kd_223 rfl rfl (full32 _)
  refine s_X10_in a4 (0 : Int32) (2 : Int32) I1 (fun r3 z3 => ?_)
  intro b3
  refine ⟨fun q => hP _ σ1 I1, fun q3 => ?_⟩
  refine s_X10_hand pr a1 a2 I1 (fun r5 σ4 I4 z5 => ?_)
  intro b5
  refine ⟨fun q => hP _ σ4 I4, fun q5 => ?_⟩
  have h5 := z5 q5
  refine s_X10_isRider a3 I4 (fun r7 z7 => ?_)
  intro b7
  refine ⟨fun q7 => ?_, fun q => hP _ σ4 I4⟩
  have h7 := z7 q7
  have m1 := tmull (x := (123 : Int32)) (y := a1) 123 lit_123 (by omega)
  have m2 := tadd (x := (123 : Int32) * a1) (y := (87 : Int32)) (by omega)
  have m3 := tmull (x := (6 : Int32)) (y := a3) 6 lit_6 (by omega)
  have m4 := tadd (x := (123 : Int32) * a1 + (87 : Int32)) (y := (6 : Int32) * a3) (by omega)
  have go : ∀ (x x10 x9 : Int32), (0 ≤ ti x ∧ ti x ≤ 983) → okAt x → (0 ≤ ti x9 ∧ ti x9 ≤ 201) → x10 = σ4.1 229 x.toNatClampNeg → ∃ n : Nat, w_X10_bid_97 a3 a4 x x10 P n (-1 : Int32) (-1 : Int32) x9 σ4 := fun x x10 x9 h1 h2 h3 h10 => ⟨1000, r_X10_bid_97 (A := AB x) (F := σ4.1) (w := 3) (ab_r x) a3 a4 x x10 (fun z => z.2 ⟨rfl, rfl⟩) h7 h1 (fun r σ2 I2 g2 => hP r σ2 ⟨I2.1, fun k j z => by
    by_cases c : k = 229 ∧ j = x.toNatClampNeg
    · obtain ⟨c1, c2⟩ := c
      subst c1
      subst c2
      rw [g2, h10]
      exact I4.2.1 229 _ z
    · rw [I2.2.1 k j ⟨z, c⟩]
      exact I4.2.1 k j z, I2.2.2⟩) 1000 (-1 : Int32) (-1 : Int32) x9 σ4 (inv_any I4) h3 h2 (by omega)⟩
  have st : ∀ (x : Int32) (c : Nat), c < 4 → ti x = 123 * ti a1 + 87 + 6 * ti a3 + 2 + (c : Int) → (0 ≤ ti x ∧ ti x ≤ 983) ∧ okAt x := fun x c hc e => ⟨by omega, (ti a3).toNat, c, by omega, hc, by omega⟩
  refine ⟨fun q => ⟨fun q2 x8 e8 => ?_, fun q2 x8 e8 => ?_⟩, fun q x8 e8 => ?_⟩
  · have t := tadd (x := (123 : Int32) * a1 + (87 : Int32) + (6 : Int32) * a3) (y := (4 : Int32)) (by omega)
    have t2 := eq_t e8
    obtain ⟨s1, s2⟩ := st x8 2 (by decide) (by omega)
    exact ⟨vin (by omega), fun x10 e10 => ⟨fun _ => go x8 x10 _ s1 s2 (by omega) e10, fun _ => go x8 x10 _ s1 s2 (by omega) e10⟩⟩
  · have t := tadd (x := (123 : Int32) * a1 + (87 : Int32) + (6 : Int32) * a3) (y := (2 : Int32)) (by omega)
    have t2 := eq_t e8
    obtain ⟨s1, s2⟩ := st x8 0 (by decide) (by omega)
    exact ⟨vin (by omega), fun x10 e10 => ⟨fun _ => go x8 x10 _ s1 s2 (by omega) e10, fun _ => go x8 x10 _ s1 s2 (by omega) e10⟩⟩
  · have t := tadd (x := (123 : Int32) * a1 + (87 : Int32) + (6 : Int32) * a3) (y := (5 : Int32)) (by omega)
    have t2 := eq_t e8
    obtain ⟨s1, s2⟩ := st x8 3 (by decide) (by omega)
    exact ⟨vin (by omega), fun x10 e10 => ⟨fun _ => go x8 x10 _ s1 s2 (by omega) e10, fun _ => go x8 x10 _ s1 s2 (by omega) e10⟩⟩
