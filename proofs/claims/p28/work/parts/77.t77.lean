/-! two promises of one call make one: runs -/
set_option maxHeartbeats 4000000 in
theorem cj_X9_isWeek {a1 : Int32} {σ : zSto} {P Q R : Int32 → zSto → Prop} (hR : ∀ (z0 : Int32) (z1 : zSto), P z0 z1 → Q z0 z1 → R z0 z1) (a : w_X9_isWeek a1 σ P) (b : w_X9_isWeek a1 σ Q) : w_X9_isWeek a1 σ R := by
  unfold w_X9_isWeek at a b ⊢
  exact ⟨fun y1 => hR _ _ (a.1 y1) (b.1 y1), fun y2 => ⟨fun y3 => hR _ _ ((a.2 y2).1 y3) ((b.2 y2).1 y3), fun y4 => hR _ _ ((a.2 y2).2 y4) ((b.2 y2).2 y4)⟩⟩
set_option maxHeartbeats 4000000 in
theorem cj_X5_begin_37 {q_1 : Nat} {P Q R : zSto → Prop} (hR : ∀ (z0 : zSto), P z0 → Q z0 → R z0) : ∀ (n1 n2 : Nat) (x_3 : Int32) (σ : zSto), w_X5_begin_37 q_1 P n1 x_3 σ → w_X5_begin_37 q_1 Q n2 x_3 σ → w_X5_begin_37 q_1 R n1 x_3 σ := by
  intro n1
  induction n1 with
  | zero => intro n2 x_3 σ a b; exact a.elim
  | succ n1 ih =>
    intro n2 x_3 σ a b
    cases n2 with
    | zero => exact b.elim
    | succ n2 =>
      unfold w_X5_begin_37 at a b ⊢
      exact ⟨fun y1 => fun y2 => fun y3 => fun y4 => fun y5 => fun y6 => fun y7 => fun y8 => fun y9 => fun y10 => fun y11 => fun y12 => fun y13 => fun y14 => fun y15 => hR _ (((((((((((((((a.1 y1) y2) y3) y4) y5) y6) y7) y8) y9) y10) y11) y12) y13) y14) y15) (((((((((((((((b.1 y1) y2) y3) y4) y5) y6) y7) y8) y9) y10) y11) y12) y13) y14) y15), fun y16 => ⟨(a.2 y16).1, ⟨(a.2 y16).2.1, fun y17 => fun y18 => ⟨(((a.2 y16).2.2 y17) y18).1, fun y19 => fun y20 => fun y21 => fun y22 => ih _ _ _ (((((((a.2 y16).2.2 y17) y18).2 y19) y20) y21) y22) (((((((b.2 y16).2.2 y17) y18).2 y19) y20) y21) y22)⟩⟩⟩⟩
set_option maxHeartbeats 4000000 in
theorem cj_X5_begin_2 {q_1 : Nat} {x_2 : Int32} {P Q R : zSto → Prop} (hR : ∀ (z0 : zSto), P z0 → Q z0 → R z0) : ∀ (n1 n2 : Nat) (x_3 : Int32) (σ : zSto), w_X5_begin_2 q_1 x_2 P n1 x_3 σ → w_X5_begin_2 q_1 x_2 Q n2 x_3 σ → w_X5_begin_2 q_1 x_2 R n1 x_3 σ := by
  intro n1
  induction n1 with
  | zero => intro n2 x_3 σ a b; exact a.elim
  | succ n1 ih =>
    intro n2 x_3 σ a b
    cases n2 with
    | zero => exact b.elim
    | succ n2 =>
      unfold w_X5_begin_2 at a b ⊢
      exact ⟨fun y1 => Exists.elim (a.1 y1) (fun y2 y4 => Exists.elim (b.1 y1) (fun y3 y5 => ⟨y2, cj_X5_begin_37 hR _ _ _ _ y4 y5⟩)), fun y6 => ⟨(a.2 y6).1, fun y7 => fun y8 => cj_X0_poundsIn (fun y9 y10 y11 y12 => ⟨y11.1, fun y13 => fun y14 => fun y15 => fun y16 => ih _ _ _ ((((y11.2 y13) y14) y15) y16) ((((y12.2 y13) y14) y15) y16)⟩) (((a.2 y6).2 y7) y8) (((b.2 y6).2 y7) y8)⟩⟩
set_option maxHeartbeats 4000000 in
theorem cj_X5_begin {b1 : Nat} {a2 : Int32} {σ : zSto} {P Q R : zSto → Prop} (hR : ∀ (z0 : zSto), P z0 → Q z0 → R z0) (a : w_X5_begin b1 a2 σ P) (b : w_X5_begin b1 a2 σ Q) : w_X5_begin b1 a2 σ R := by
  unfold w_X5_begin at a b ⊢
  exact Exists.elim a (fun y1 y3 => Exists.elim b (fun y2 y4 => ⟨y1, cj_X5_begin_2 hR _ _ _ _ y3 y4⟩))
set_option maxHeartbeats 4000000 in
theorem cj_X0_carries {t : Nat} {a1 : Int32} {a2 : Int32} {σ : zSto} {P Q R : Int32 → zSto → Prop} (hR : ∀ (z0 : Int32) (z1 : zSto), P z0 z1 → Q z0 z1 → R z0 z1) (a : w_X0_carries t a1 a2 σ P) (b : w_X0_carries t a1 a2 σ Q) : w_X0_carries t a1 a2 σ R := by
  unfold w_X0_carries at a b ⊢
  exact ⟨a.1, ⟨fun y1 => hR _ _ (a.2.1 y1) (b.2.1 y1), fun y2 => ⟨(a.2.2 y2).1, ⟨fun y3 => hR _ _ ((a.2.2 y2).2.1 y3) ((b.2.2 y2).2.1 y3), fun y4 => hR _ _ ((a.2.2 y2).2.2 y4) ((b.2.2 y2).2.2 y4)⟩⟩⟩⟩
set_option maxHeartbeats 4000000 in
theorem cj_X5_canPull {b1 : Nat} {a2 : Int32} {a3 : Int32} {σ : zSto} {P Q R : Int32 → zSto → Prop} (hR : ∀ (z0 : Int32) (z1 : zSto), P z0 z1 → Q z0 z1 → R z0 z1) (a : w_X5_canPull b1 a2 a3 σ P) (b : w_X5_canPull b1 a2 a3 σ Q) : w_X5_canPull b1 a2 a3 σ R := by
  unfold w_X5_canPull at a b ⊢
  exact ⟨fun y1 => hR _ _ (a.1 y1) (b.1 y1), fun y2 => ⟨fun y3 => hR _ _ ((a.2 y2).1 y3) ((b.2 y2).1 y3), fun y4 => cj_X0_hasRider (fun y5 y6 y7 y8 => fun y9 => ⟨fun y10 => hR _ _ ((y7 y9).1 y10) ((y8 y9).1 y10), fun y11 => cj_X0_carries (fun y12 y13 y14 y15 => fun y16 => ⟨fun y17 => hR _ _ ((y14 y16).1 y17) ((y15 y16).1 y17), fun y18 => ⟨((y14 y16).2 y18).1, ⟨fun y19 => hR _ _ (((y14 y16).2 y18).2.1 y19) (((y15 y16).2 y18).2.1 y19), fun y20 => ⟨(((y14 y16).2 y18).2.2 y20).1, ⟨fun y21 => hR _ _ ((((y14 y16).2 y18).2.2 y20).2.1 y21) ((((y15 y16).2 y18).2.2 y20).2.1 y21), fun y22 => hR _ _ ((((y14 y16).2 y18).2.2 y20).2.2 y22) ((((y15 y16).2 y18).2.2 y20).2.2 y22)⟩⟩⟩⟩⟩) ((y7 y9).2 y11) ((y8 y9).2 y11)⟩) ((a.2 y2).2 y4) ((b.2 y2).2 y4)⟩⟩
set_option maxHeartbeats 4000000 in
theorem cj_X5_wantingAt_17 {q_1 : Nat} {x_2 : Int32} {x_3 : Int32} {P Q R : Int32 → zSto → Prop} (hR : ∀ (z0 : Int32) (z1 : zSto), P z0 z1 → Q z0 z1 → R z0 z1) : ∀ (n1 n2 : Nat) (x_4 : Int32) (x_5 : Int32) (σ : zSto), w_X5_wantingAt_17 q_1 x_2 x_3 P n1 x_4 x_5 σ → w_X5_wantingAt_17 q_1 x_2 x_3 Q n2 x_4 x_5 σ → w_X5_wantingAt_17 q_1 x_2 x_3 R n1 x_4 x_5 σ := by
  intro n1
  induction n1 with
  | zero => intro n2 x_4 x_5 σ a b; exact a.elim
  | succ n1 ih =>
    intro n2 x_4 x_5 σ a b
    cases n2 with
    | zero => exact b.elim
    | succ n2 =>
      unfold w_X5_wantingAt_17 at a b ⊢
      exact ⟨fun y1 => hR _ _ (a.1 y1) (b.1 y1), fun y2 => cj_X5_canPull (fun y3 y4 y5 y6 => fun y7 => ⟨fun y8 => fun y9 => fun y10 => ih _ _ _ _ ((((y5 y7).1 y8) y9) y10) ((((y6 y7).1 y8) y9) y10), fun y11 => ⟨((y5 y7).2 y11).1, ⟨((y5 y7).2 y11).2.1, ⟨fun y12 => fun y13 => fun y14 => ih _ _ _ _ (((((y5 y7).2 y11).2.2.1 y12) y13) y14) (((((y6 y7).2 y11).2.2.1 y12) y13) y14), fun y15 => ⟨(((y5 y7).2 y11).2.2.2 y15).1, ⟨fun y16 => fun y17 => fun y18 => ih _ _ _ _ ((((((y5 y7).2 y11).2.2.2 y15).2.1 y16) y17) y18) ((((((y6 y7).2 y11).2.2.2 y15).2.1 y16) y17) y18), fun y19 => fun y20 => fun y21 => fun y22 => fun y23 => ih _ _ _ _ ((((((((y5 y7).2 y11).2.2.2 y15).2.2 y19) y20) y21) y22) y23) ((((((((y6 y7).2 y11).2.2.2 y15).2.2 y19) y20) y21) y22) y23)⟩⟩⟩⟩⟩⟩) (a.2 y2) (b.2 y2)⟩
set_option maxHeartbeats 4000000 in
theorem cj_X5_wantingAt {b1 : Nat} {a2 : Int32} {σ : zSto} {P Q R : Int32 → zSto → Prop} (hR : ∀ (z0 : Int32) (z1 : zSto), P z0 z1 → Q z0 z1 → R z0 z1) (a : w_X5_wantingAt b1 a2 σ P) (b : w_X5_wantingAt b1 a2 σ Q) : w_X5_wantingAt b1 a2 σ R := by
  unfold w_X5_wantingAt at a b ⊢
  exact cj_X0_cost (fun y1 y2 y3 y4 => fun y5 => fun y6 => Exists.elim ((y3 y5) y6) (fun y7 y9 => Exists.elim ((y4 y5) y6) (fun y8 y10 => ⟨y7, cj_X5_wantingAt_17 hR _ _ _ _ _ y9 y10⟩))) a b
set_option maxHeartbeats 4000000 in
theorem cj_X5_nthOf_4 {x_0 : Int32} {x_1 : Int32} {P Q R : Int32 → zSto → Prop} (hR : ∀ (z0 : Int32) (z1 : zSto), P z0 z1 → Q z0 z1 → R z0 z1) : ∀ (n1 n2 : Nat) (x_2 : Int32) (x_3 : Int32) (σ : zSto), w_X5_nthOf_4 x_0 x_1 P n1 x_2 x_3 σ → w_X5_nthOf_4 x_0 x_1 Q n2 x_2 x_3 σ → w_X5_nthOf_4 x_0 x_1 R n1 x_2 x_3 σ := by
  intro n1
  induction n1 with
  | zero => intro n2 x_2 x_3 σ a b; exact a.elim
  | succ n1 ih =>
    intro n2 x_2 x_3 σ a b
    cases n2 with
    | zero => exact b.elim
    | succ n2 =>
      unfold w_X5_nthOf_4 at a b ⊢
      exact ⟨fun y1 => hR _ _ (a.1 y1) (b.1 y1), fun y2 => ⟨fun y3 => fun y4 => fun y5 => ih _ _ _ _ ((((a.2 y2).1 y3) y4) y5) ((((b.2 y2).1 y3) y4) y5), fun y6 => ⟨fun y7 => fun y8 => fun y9 => fun y10 => fun y11 => ih _ _ _ _ (((((((a.2 y2).2 y6).1 y7) y8) y9) y10) y11) (((((((b.2 y2).2 y6).1 y7) y8) y9) y10) y11), fun y12 => hR _ _ (((a.2 y2).2 y6).2 y12) (((b.2 y2).2 y6).2 y12)⟩⟩⟩
set_option maxHeartbeats 4000000 in
theorem cj_X5_nthOf {a1 : Int32} {a2 : Int32} {σ : zSto} {P Q R : Int32 → zSto → Prop} (hR : ∀ (z0 : Int32) (z1 : zSto), P z0 z1 → Q z0 z1 → R z0 z1) (a : w_X5_nthOf a1 a2 σ P) (b : w_X5_nthOf a1 a2 σ Q) : w_X5_nthOf a1 a2 σ R := by
  unfold w_X5_nthOf at a b ⊢
  exact Exists.elim a (fun y1 y3 => Exists.elim b (fun y2 y4 => ⟨y1, cj_X5_nthOf_4 hR _ _ _ _ _ y3 y4⟩))
set_option maxHeartbeats 4000000 in
theorem cj_X5_leastOf {a1 : Int32} {σ : zSto} {P Q R : Int32 → zSto → Prop} (hR : ∀ (z0 : Int32) (z1 : zSto), P z0 z1 → Q z0 z1 → R z0 z1) (a : w_X5_leastOf a1 σ P) (b : w_X5_leastOf a1 σ Q) : w_X5_leastOf a1 σ R := by
  unfold w_X5_leastOf at a b ⊢
  exact cj_X5_nthOf (fun y1 y2 y3 y4 => hR _ _ y3 y4) a b
set_option maxHeartbeats 4000000 in
theorem cj_J6_bitCount_0f7a4 {a1 : Int32} {σ : zSto} {P Q R : Int32 → zSto → Prop} (hR : ∀ (z0 : Int32) (z1 : zSto), P z0 z1 → Q z0 z1 → R z0 z1) (a : w_J6_bitCount_0f7a4 a1 σ P) (b : w_J6_bitCount_0f7a4 a1 σ Q) : w_J6_bitCount_0f7a4 a1 σ R := by
  unfold w_J6_bitCount_0f7a4 at a b ⊢
  exact fun y1 => fun y2 => fun y3 => fun y4 => fun y5 => fun y6 => fun y7 => fun y8 => fun y9 => fun y10 => hR _ _ ((((((((((a y1) y2) y3) y4) y5) y6) y7) y8) y9) y10) ((((((((((b y1) y2) y3) y4) y5) y6) y7) y8) y9) y10)
set_option maxHeartbeats 4000000 in
theorem cj_X5_drawBelow {a1 : Int32} {σ : zSto} {P Q R : Int32 → zSto → Prop} (hR : ∀ (z0 : Int32) (z1 : zSto), P z0 z1 → Q z0 z1 → R z0 z1) (a : w_X5_drawBelow a1 σ P) (b : w_X5_drawBelow a1 σ Q) : w_X5_drawBelow a1 σ R := by
  unfold w_X5_drawBelow at a b ⊢
  exact fun y1 => fun y2 => ⟨fun y3 => ⟨(((a y1) y2).1 y3).1, hR _ _ (((a y1) y2).1 y3).2 (((b y1) y2).1 y3).2⟩, fun y4 => hR _ _ (((a y1) y2).2 y4) (((b y1) y2).2 y4)⟩
set_option maxHeartbeats 4000000 in
theorem cj_X5_highestFare_4 {q_0 : Nat} {x_1 : Int32} {P Q R : Int32 → zSto → Prop} (hR : ∀ (z0 : Int32) (z1 : zSto), P z0 z1 → Q z0 z1 → R z0 z1) : ∀ (n1 n2 : Nat) (x_2 : Int32) (x_3 : Int32) (σ : zSto), w_X5_highestFare_4 q_0 x_1 P n1 x_2 x_3 σ → w_X5_highestFare_4 q_0 x_1 Q n2 x_2 x_3 σ → w_X5_highestFare_4 q_0 x_1 R n1 x_2 x_3 σ := by
  intro n1
  induction n1 with
  | zero => intro n2 x_2 x_3 σ a b; exact a.elim
  | succ n1 ih =>
    intro n2 x_2 x_3 σ a b
    cases n2 with
    | zero => exact b.elim
    | succ n2 =>
      unfold w_X5_highestFare_4 at a b ⊢
      exact ⟨fun y1 => hR _ _ (a.1 y1) (b.1 y1), fun y2 => ⟨fun y3 => fun y4 => fun y5 => ih _ _ _ _ ((((a.2 y2).1 y3) y4) y5) ((((b.2 y2).1 y3) y4) y5), fun y6 => ⟨fun y7 => fun y8 => fun y9 => ih _ _ _ _ (((((a.2 y2).2 y6).1 y7) y8) y9) (((((b.2 y2).2 y6).1 y7) y8) y9), fun y10 => ⟨(((a.2 y2).2 y6).2 y10).1, ⟨(((a.2 y2).2 y6).2 y10).2.1, ⟨fun y11 => fun y12 => fun y13 => ih _ _ _ _ ((((((a.2 y2).2 y6).2 y10).2.2.1 y11) y12) y13) ((((((b.2 y2).2 y6).2 y10).2.2.1 y11) y12) y13), fun y14 => fun y15 => fun y16 => ih _ _ _ _ ((((((a.2 y2).2 y6).2 y10).2.2.2 y14) y15) y16) ((((((b.2 y2).2 y6).2 y10).2.2.2 y14) y15) y16)⟩⟩⟩⟩⟩⟩
set_option maxHeartbeats 4000000 in
theorem cj_X5_highestFare {b1 : Nat} {a2 : Int32} {σ : zSto} {P Q R : Int32 → zSto → Prop} (hR : ∀ (z0 : Int32) (z1 : zSto), P z0 z1 → Q z0 z1 → R z0 z1) (a : w_X5_highestFare b1 a2 σ P) (b : w_X5_highestFare b1 a2 σ Q) : w_X5_highestFare b1 a2 σ R := by
  unfold w_X5_highestFare at a b ⊢
  exact Exists.elim a (fun y1 y3 => Exists.elim b (fun y2 y4 => ⟨y1, cj_X5_highestFare_4 hR _ _ _ _ _ y3 y4⟩))
set_option maxHeartbeats 4000000 in
theorem cj_X5_chosen {b1 : Nat} {a2 : Int32} {a3 : Int32} {σ : zSto} {P Q R : Int32 → zSto → Prop} (hR : ∀ (z0 : Int32) (z1 : zSto), P z0 z1 → Q z0 z1 → R z0 z1) (a : w_X5_chosen b1 a2 a3 σ P) (b : w_X5_chosen b1 a2 a3 σ Q) : w_X5_chosen b1 a2 a3 σ R := by
  unfold w_X5_chosen at a b ⊢
  exact ⟨fun y1 => ⟨fun y2 => cj_X5_leastOf (fun y3 y4 y5 y6 => hR _ _ y5 y6) ((a.1 y1).1 y2) ((b.1 y1).1 y2), ⟨fun y7 => cj_X5_leastOf (fun y8 y9 y10 y11 => hR _ _ y10 y11) ((a.1 y1).2.1 y7) ((b.1 y1).2.1 y7), ⟨fun y12 => cj_J6_bitCount_0f7a4 (fun y13 y14 y15 y16 => cj_X5_drawBelow (fun y17 y18 y19 y20 => cj_X5_nthOf (fun y21 y22 y23 y24 => hR _ _ y23 y24) y19 y20) y15 y16) ((a.1 y1).2.2.1 y12) ((b.1 y1).2.2.1 y12), ⟨fun y25 => cj_X5_highestFare (fun y26 y27 y28 y29 => hR _ _ y28 y29) ((a.1 y1).2.2.2.1 y25) ((b.1 y1).2.2.2.1 y25), fun y30 => hR _ _ ((a.1 y1).2.2.2.2 y30) ((b.1 y1).2.2.2.2 y30)⟩⟩⟩⟩, fun y31 => hR _ _ (a.2 y31) (b.2 y31)⟩
set_option maxHeartbeats 4000000 in
theorem cj_X5_stopAt {b1 : Nat} {a2 : Int32} {a3 : Int32} {σ : zSto} {P Q R : zSto → Prop} (hR : ∀ (z0 : zSto), P z0 → Q z0 → R z0) (a : w_X5_stopAt b1 a2 a3 σ P) (b : w_X5_stopAt b1 a2 a3 σ Q) : w_X5_stopAt b1 a2 a3 σ R := by
  unfold w_X5_stopAt at a b ⊢
  exact ⟨a.1, ⟨a.2.1, fun y1 => fun y2 => fun y3 => fun y4 => ⟨((((a.2.2 y1) y2) y3) y4).1, ⟨((((a.2.2 y1) y2) y3) y4).2.1, fun y5 => fun y6 => ⟨((((((a.2.2 y1) y2) y3) y4).2.2 y5) y6).1, ⟨((((((a.2.2 y1) y2) y3) y4).2.2 y5) y6).2.1, fun y7 => fun y8 => ⟨((((((((a.2.2 y1) y2) y3) y4).2.2 y5) y6).2.2 y7) y8).1, ⟨((((((((a.2.2 y1) y2) y3) y4).2.2 y5) y6).2.2 y7) y8).2.1, fun y9 => fun y10 => fun y11 => fun y12 => fun y13 => fun y14 => cj_X0_cost (fun y15 y16 y17 y18 => fun y19 => fun y20 => ⟨((y17 y19) y20).1, fun y21 => fun y22 => fun y23 => fun y24 => fun y25 => fun y26 => fun y27 => fun y28 => ⟨fun y29 => hR _ (((((((((((y17 y19) y20).2 y21) y22) y23) y24) y25) y26) y27) y28).1 y29) (((((((((((y18 y19) y20).2 y21) y22) y23) y24) y25) y26) y27) y28).1 y29), fun y30 => fun y31 => fun y32 => hR _ (((((((((((((y17 y19) y20).2 y21) y22) y23) y24) y25) y26) y27) y28).2 y30) y31) y32) (((((((((((((y18 y19) y20).2 y21) y22) y23) y24) y25) y26) y27) y28).2 y30) y31) y32)⟩⟩) ((((((((((((((a.2.2 y1) y2) y3) y4).2.2 y5) y6).2.2 y7) y8).2.2 y9) y10) y11) y12) y13) y14) ((((((((((((((b.2.2 y1) y2) y3) y4).2.2 y5) y6).2.2 y7) y8).2.2 y9) y10) y11) y12) y13) y14)⟩⟩⟩⟩⟩⟩⟩⟩
set_option maxHeartbeats 4000000 in
theorem cj_X5_byLaw_21 {q_1 : Nat} {x_2 : Int32} {x_5 : Int32} {P Q R : zSto → Prop} (hR : ∀ (z0 : zSto), P z0 → Q z0 → R z0) : ∀ (n1 n2 : Nat) (x_6 : Int32) (σ : zSto), w_X5_byLaw_21 q_1 x_2 x_5 P n1 x_6 σ → w_X5_byLaw_21 q_1 x_2 x_5 Q n2 x_6 σ → w_X5_byLaw_21 q_1 x_2 x_5 R n1 x_6 σ := by
  intro n1
  induction n1 with
  | zero => intro n2 x_6 σ a b; exact a.elim
  | succ n1 ih =>
    intro n2 x_6 σ a b
    cases n2 with
    | zero => exact b.elim
    | succ n2 =>
      unfold w_X5_byLaw_21 at a b ⊢
      exact ⟨fun y1 => hR _ (a.1 y1) (b.1 y1), fun y2 => cj_X5_wantingAt (fun y3 y4 y5 y6 => cj_X5_chosen (fun y7 y8 y9 y10 => ⟨fun y11 => fun y12 => fun y13 => ih _ _ _ (((y9.1 y11) y12) y13) (((y10.1 y11) y12) y13), fun y14 => cj_X5_stopAt (fun y15 y16 y17 => fun y18 => fun y19 => ih _ _ _ ((y16 y18) y19) ((y17 y18) y19)) (y9.2 y14) (y10.2 y14)⟩) y5 y6) (a.2 y2) (b.2 y2)⟩
set_option maxHeartbeats 4000000 in
theorem cj_X5_byLaw {b1 : Nat} {a2 : Int32} {a3 : Int32} {a4 : Int32} {a5 : Int32} {σ : zSto} {P Q R : zSto → Prop} (hR : ∀ (z0 : zSto), P z0 → Q z0 → R z0) (a : w_X5_byLaw b1 a2 a3 a4 a5 σ P) (b : w_X5_byLaw b1 a2 a3 a4 a5 σ Q) : w_X5_byLaw b1 a2 a3 a4 a5 σ R := by
  unfold w_X5_byLaw at a b ⊢
  exact cj_X5_begin (fun y1 y2 y3 => fun y4 => fun y5 => ⟨fun y6 => Exists.elim (((y2 y4) y5).1 y6) (fun y7 y9 => Exists.elim (((y3 y4) y5).1 y6) (fun y8 y10 => ⟨y7, cj_X5_byLaw_21 hR _ _ _ _ y9 y10⟩)), fun y11 => hR _ (((y2 y4) y5).2 y11) (((y3 y4) y5).2 y11)⟩) a b
set_option maxHeartbeats 4000000 in
theorem cj_X9_ridden {a1 : Int32} {a2 : Int32} {a3 : Int32} {a4 : Int32} {σ : zSto} {P Q R : Option Nat → zSto → Prop} (hR : ∀ (z0 : Option Nat) (z1 : zSto), P z0 z1 → Q z0 z1 → R z0 z1) (a : w_X9_ridden a1 a2 a3 a4 σ P) (b : w_X9_ridden a1 a2 a3 a4 σ Q) : w_X9_ridden a1 a2 a3 a4 σ R := by
  unfold w_X9_ridden at a b ⊢
  exact cj_X8_lineAt (fun y1 y2 y3 y4 => ⟨fun y5 => hR _ _ (y3.1 y5) (y4.1 y5), fun y6 => fun y7 => ⟨((y3.2 y6) y7).1, ⟨fun y8 => hR _ _ (((y3.2 y6) y7).2.1 y8) (((y4.2 y6) y7).2.1 y8), fun y9 => ⟨fun y10 => hR _ _ ((((y3.2 y6) y7).2.2 y9).1 y10) ((((y4.2 y6) y7).2.2 y9).1 y10), fun y11 => cj_X9_isWeek (fun y12 y13 y14 y15 => fun y16 => ⟨fun y17 => cj_X5_byLaw (fun y18 y19 y20 => hR _ _ y19 y20) ((y14 y16).1 y17) ((y15 y16).1 y17), fun y21 => hR _ _ ((y14 y16).2 y21) ((y15 y16).2 y21)⟩) ((((y3.2 y6) y7).2.2 y9).2 y11) ((((y4.2 y6) y7).2.2 y9).2 y11)⟩⟩⟩⟩) a b
set_option maxHeartbeats 4000000 in
theorem cj_X9_who {a1 : Int32} {a2 : Int32} {a3 : Int32} {a4 : Int32} {a5 : Int32} {σ : zSto} {P Q R : Int32 → zSto → Prop} (hR : ∀ (z0 : Int32) (z1 : zSto), P z0 z1 → Q z0 z1 → R z0 z1) (a : w_X9_who a1 a2 a3 a4 a5 σ P) (b : w_X9_who a1 a2 a3 a4 a5 σ Q) : w_X9_who a1 a2 a3 a4 a5 σ R := by
  unfold w_X9_who at a b ⊢
  exact cj_X9_ridden (fun y1 y2 y3 y4 => ⟨fun y5 => hR _ _ (y3.1 y5) (y4.1 y5), fun y6 => fun y7 => ⟨((y3.2 y6) y7).1, cj_X0_hasPost (fun y8 y9 y10 y11 => fun y12 => ⟨fun y13 => ⟨((y10 y12).1 y13).1, hR _ _ ((y10 y12).1 y13).2 ((y11 y12).1 y13).2⟩, fun y14 => hR _ _ ((y10 y12).2 y14) ((y11 y12).2 y14)⟩) ((y3.2 y6) y7).2 ((y4.2 y6) y7).2⟩⟩) a b
set_option maxHeartbeats 4000000 in
theorem cj_X10_everyone {σ : zSto} {P Q R : Int32 → zSto → Prop} (hR : ∀ (z0 : Int32) (z1 : zSto), P z0 z1 → Q z0 z1 → R z0 z1) (a : w_X10_everyone σ P) (b : w_X10_everyone σ Q) : w_X10_everyone σ R := by
  unfold w_X10_everyone at a b ⊢
  exact hR _ _ a b
set_option maxHeartbeats 4000000 in
theorem cj_X10_begin_12  {P Q R : zSto → Prop} (hR : ∀ (z0 : zSto), P z0 → Q z0 → R z0) : ∀ (n1 n2 : Nat) (x_1 : Int32) (σ : zSto), w_X10_begin_12 P n1 x_1 σ → w_X10_begin_12 Q n2 x_1 σ → w_X10_begin_12 R n1 x_1 σ := by
  intro n1
  induction n1 with
  | zero => intro n2 x_1 σ a b; exact a.elim
  | succ n1 ih =>
    intro n2 x_1 σ a b
    cases n2 with
    | zero => exact b.elim
    | succ n2 =>
      unfold w_X10_begin_12 at a b ⊢
      exact ⟨fun y1 => hR _ (a.1 y1) (b.1 y1), fun y2 => ⟨(a.2 y2).1, fun y3 => fun y4 => ⟨(((a.2 y2).2 y3) y4).1, fun y5 => fun y6 => ⟨(((((a.2 y2).2 y3) y4).2 y5) y6).1, fun y7 => fun y8 => fun y9 => fun y10 => ih _ _ _ (((((((((a.2 y2).2 y3) y4).2 y5) y6).2 y7) y8) y9) y10) (((((((((b.2 y2).2 y3) y4).2 y5) y6).2 y7) y8) y9) y10)⟩⟩⟩⟩
set_option maxHeartbeats 4000000 in
theorem cj_X10_begin {σ : zSto} {P Q R : zSto → Prop} (hR : ∀ (z0 : zSto), P z0 → Q z0 → R z0) (a : w_X10_begin σ P) (b : w_X10_begin σ Q) : w_X10_begin σ R := by
  unfold w_X10_begin at a b ⊢
  exact fun y1 => fun y2 => fun y3 => fun y4 => Exists.elim ((((a y1) y2) y3) y4) (fun y5 y7 => Exists.elim ((((b y1) y2) y3) y4) (fun y6 y8 => ⟨y5, cj_X10_begin_12 hR _ _ _ _ y7 y8⟩))
set_option maxHeartbeats 4000000 in
theorem cj_X10_timesBy_16  {P Q R : zSto → Prop} (hR : ∀ (z0 : zSto), P z0 → Q z0 → R z0) : ∀ (n1 n2 : Nat) (x_1 : Int32) (x_2 : Int32) (x_3 : Int32) (σ : zSto), w_X10_timesBy_16 P n1 x_1 x_2 x_3 σ → w_X10_timesBy_16 Q n2 x_1 x_2 x_3 σ → w_X10_timesBy_16 R n1 x_1 x_2 x_3 σ := by
  intro n1
  induction n1 with
  | zero => intro n2 x_1 x_2 x_3 σ a b; exact a.elim
  | succ n1 ih =>
    intro n2 x_1 x_2 x_3 σ a b
    cases n2 with
    | zero => exact b.elim
    | succ n2 =>
      unfold w_X10_timesBy_16 at a b ⊢
      exact ⟨fun y1 => hR _ (a.1 y1) (b.1 y1), fun y2 => ⟨(a.2 y2).1, fun y3 => fun y4 => cj_X10_postOf (fun y5 y6 y7 y8 => ⟨fun y9 => ⟨(y7.1 y9).1, ⟨fun y10 => ⟨((y7.1 y9).2.1 y10).1, fun y11 => fun y12 => fun y13 => fun y14 => ih _ _ _ _ _ ((((((y7.1 y9).2.1 y10).2 y11) y12) y13) y14) ((((((y8.1 y9).2.1 y10).2 y11) y12) y13) y14)⟩, fun y15 => fun y16 => fun y17 => cj_X10_of (fun y18 y19 y20 y21 => ⟨fun y22 => fun y23 => fun y24 => ⟨(((y20.1 y22) y23) y24).1, fun y25 => fun y26 => ⟨(((((y20.1 y22) y23) y24).2 y25) y26).1, fun y27 => fun y28 => fun y29 => fun y30 => ih _ _ _ _ _ (((((((((y20.1 y22) y23) y24).2 y25) y26).2 y27) y28) y29) y30) (((((((((y21.1 y22) y23) y24).2 y25) y26).2 y27) y28) y29) y30)⟩⟩, fun y31 => fun y32 => fun y33 => ⟨(((y20.2 y31) y32) y33).1, fun y34 => fun y35 => ⟨(((((y20.2 y31) y32) y33).2 y34) y35).1, fun y36 => fun y37 => fun y38 => fun y39 => ih _ _ _ _ _ (((((((((y20.2 y31) y32) y33).2 y34) y35).2 y36) y37) y38) y39) (((((((((y21.2 y31) y32) y33).2 y34) y35).2 y36) y37) y38) y39)⟩⟩⟩) ((((y7.1 y9).2.2 y15) y16) y17) ((((y8.1 y9).2.2 y15) y16) y17)⟩⟩, fun y40 => cj_X10_postOf (fun y41 y42 y43 y44 => cj_X10_of (fun y45 y46 y47 y48 => cj_X10_greater (fun y49 y50 y51 y52 => fun y53 => fun y54 => ⟨((y51 y53) y54).1, ⟨fun y55 => ⟨(((y51 y53) y54).2.1 y55).1, fun y56 => fun y57 => fun y58 => fun y59 => ih _ _ _ _ _ (((((((y51 y53) y54).2.1 y55).2 y56) y57) y58) y59) (((((((y52 y53) y54).2.1 y55).2 y56) y57) y58) y59)⟩, fun y60 => fun y61 => fun y62 => cj_X10_of (fun y63 y64 y65 y66 => ⟨fun y67 => fun y68 => fun y69 => ⟨(((y65.1 y67) y68) y69).1, fun y70 => fun y71 => ⟨(((((y65.1 y67) y68) y69).2 y70) y71).1, fun y72 => fun y73 => fun y74 => fun y75 => ih _ _ _ _ _ (((((((((y65.1 y67) y68) y69).2 y70) y71).2 y72) y73) y74) y75) (((((((((y66.1 y67) y68) y69).2 y70) y71).2 y72) y73) y74) y75)⟩⟩, fun y76 => fun y77 => fun y78 => ⟨(((y65.2 y76) y77) y78).1, fun y79 => fun y80 => ⟨(((((y65.2 y76) y77) y78).2 y79) y80).1, fun y81 => fun y82 => fun y83 => fun y84 => ih _ _ _ _ _ (((((((((y65.2 y76) y77) y78).2 y79) y80).2 y81) y82) y83) y84) (((((((((y66.2 y76) y77) y78).2 y79) y80).2 y81) y82) y83) y84)⟩⟩⟩) (((((y51 y53) y54).2.2 y60) y61) y62) (((((y52 y53) y54).2.2 y60) y61) y62)⟩⟩) y47 y48) y43 y44) (y7.2 y40) (y8.2 y40)⟩) (((a.2 y2).2 y3) y4) (((b.2 y2).2 y3) y4)⟩⟩
set_option maxHeartbeats 4000000 in
theorem cj_X10_timesBy {σ : zSto} {P Q R : zSto → Prop} (hR : ∀ (z0 : zSto), P z0 → Q z0 → R z0) (a : w_X10_timesBy σ P) (b : w_X10_timesBy σ Q) : w_X10_timesBy σ R := by
  unfold w_X10_timesBy at a b ⊢
  exact fun y1 => fun y2 => fun y3 => fun y4 => Exists.elim ((((a y1) y2) y3) y4) (fun y5 y7 => Exists.elim ((((b y1) y2) y3) y4) (fun y6 y8 => ⟨y5, cj_X10_timesBy_16 hR _ _ _ _ _ _ y7 y8⟩))
set_option maxHeartbeats 4000000 in
theorem cj_X10_draw {a1 : Int32} {σ : zSto} {P Q R : Int32 → zSto → Prop} (hR : ∀ (z0 : Int32) (z1 : zSto), P z0 z1 → Q z0 z1 → R z0 z1) (a : w_X10_draw a1 σ P) (b : w_X10_draw a1 σ Q) : w_X10_draw a1 σ R := by
  unfold w_X10_draw at a b ⊢
  exact fun y1 => fun y2 => ⟨((a y1) y2).1, hR _ _ ((a y1) y2).2 ((b y1) y2).2⟩
set_option maxHeartbeats 4000000 in
theorem cj_X10_has {a1 : Int32} {a2 : Int32} {σ : zSto} {P Q R : Int32 → zSto → Prop} (hR : ∀ (z0 : Int32) (z1 : zSto), P z0 z1 → Q z0 z1 → R z0 z1) (a : w_X10_has a1 a2 σ P) (b : w_X10_has a1 a2 σ Q) : w_X10_has a1 a2 σ R := by
  unfold w_X10_has at a b ⊢
  exact ⟨fun y1 => hR _ _ (a.1 y1) (b.1 y1), fun y2 => hR _ _ (a.2 y2) (b.2 y2)⟩
set_option maxHeartbeats 4000000 in
theorem cj_X10_isOn {a1 : Int32} {a2 : Int32} {σ : zSto} {P Q R : Int32 → zSto → Prop} (hR : ∀ (z0 : Int32) (z1 : zSto), P z0 z1 → Q z0 z1 → R z0 z1) (a : w_X10_isOn a1 a2 σ P) (b : w_X10_isOn a1 a2 σ Q) : w_X10_isOn a1 a2 σ R := by
  unfold w_X10_isOn at a b ⊢
  exact cj_X10_riderOf (fun y1 y2 y3 y4 => ⟨fun y5 => hR _ _ (y3.1 y5) (y4.1 y5), fun y6 => cj_X10_riderOf (fun y7 y8 y9 y10 => ⟨fun y11 => hR _ _ (y9.1 y11) (y10.1 y11), fun y12 => hR _ _ (y9.2 y12) (y10.2 y12)⟩) (y3.2 y6) (y4.2 y6)⟩) a b
set_option maxHeartbeats 4000000 in
theorem cj_X10_wants {a1 : Int32} {a2 : Int32} {σ : zSto} {P Q R : Int32 → zSto → Prop} (hR : ∀ (z0 : Int32) (z1 : zSto), P z0 z1 → Q z0 z1 → R z0 z1) (a : w_X10_wants a1 a2 σ P) (b : w_X10_wants a1 a2 σ Q) : w_X10_wants a1 a2 σ R := by
  unfold w_X10_wants at a b ⊢
  exact cj_X10_isOn (fun y1 y2 y3 y4 => fun y5 => ⟨fun y6 => hR _ _ ((y3 y5).1 y6) ((y4 y5).1 y6), fun y7 => ⟨((y3 y5).2 y7).1, ⟨fun y8 => hR _ _ (((y3 y5).2 y7).2.1 y8) (((y4 y5).2 y7).2.1 y8), fun y9 => cj_X10_riderOf (fun y10 y11 y12 y13 => ⟨y12.1, ⟨fun y14 => hR _ _ (y12.2.1 y14) (y13.2.1 y14), fun y15 => ⟨(y12.2.2 y15).1, cj_X10_riderOf (fun y16 y17 y18 y19 => ⟨fun y20 => hR _ _ (y18.1 y20) (y19.1 y20), fun y21 => cj_X10_riderOf (fun y22 y23 y24 y25 => ⟨y24.1, ⟨fun y26 => hR _ _ (y24.2.1 y26) (y25.2.1 y26), fun y27 => hR _ _ (y24.2.2 y27) (y25.2.2 y27)⟩⟩) (y18.2 y21) (y19.2 y21)⟩) (y12.2.2 y15).2 (y13.2.2 y15).2⟩⟩⟩) (((y3 y5).2 y7).2.2 y9) (((y4 y5).2 y7).2.2 y9)⟩⟩⟩) a b
set_option maxHeartbeats 4000000 in
theorem cj_X10_pullerAt_150 {x_1 : Int32} {x_3 : Int32} {P Q R : Int32 → zSto → Prop} (hR : ∀ (z0 : Int32) (z1 : zSto), P z0 z1 → Q z0 z1 → R z0 z1) : ∀ (n1 n2 : Nat) (x_7 : Int32) (x_8 : Int32) (σ : zSto), w_X10_pullerAt_150 x_1 x_3 P n1 x_7 x_8 σ → w_X10_pullerAt_150 x_1 x_3 Q n2 x_7 x_8 σ → w_X10_pullerAt_150 x_1 x_3 R n1 x_7 x_8 σ := by
  intro n1
  induction n1 with
  | zero => intro n2 x_7 x_8 σ a b; exact a.elim
  | succ n1 ih =>
    intro n2 x_7 x_8 σ a b
    cases n2 with
    | zero => exact b.elim
    | succ n2 =>
      unfold w_X10_pullerAt_150 at a b ⊢
      exact ⟨fun y1 => hR _ _ (a.1 y1) (b.1 y1), fun y2 => cj_X10_has (fun y3 y4 y5 y6 => fun y7 => ⟨fun y8 => fun y9 => fun y10 => ih _ _ _ _ ((((y5 y7).1 y8) y9) y10) ((((y6 y7).1 y8) y9) y10), fun y11 => cj_X10_wants (fun y12 y13 y14 y15 => fun y16 => ⟨fun y17 => fun y18 => fun y19 => ih _ _ _ _ ((((y14 y16).1 y17) y18) y19) ((((y15 y16).1 y17) y18) y19), fun y20 => ⟨fun y21 => fun y22 => fun y23 => fun y24 => fun y25 => ih _ _ _ _ (((((((y14 y16).2 y20).1 y21) y22) y23) y24) y25) (((((((y15 y16).2 y20).1 y21) y22) y23) y24) y25), fun y26 => hR _ _ (((y14 y16).2 y20).2 y26) (((y15 y16).2 y20).2 y26)⟩⟩) ((y5 y7).2 y11) ((y6 y7).2 y11)⟩) (a.2 y2) (b.2 y2)⟩
set_option maxHeartbeats 4000000 in
theorem cj_X10_pullerAt_12 {x_1 : Int32} {x_2 : Int32} {x_3 : Int32} {P Q R : Int32 → zSto → Prop} (hR : ∀ (z0 : Int32) (z1 : zSto), P z0 z1 → Q z0 z1 → R z0 z1) : ∀ (n1 n2 : Nat) (x_4 : Int32) (x_5 : Int32) (x_6 : Int32) (x_7 : Int32) (σ : zSto), w_X10_pullerAt_12 x_1 x_2 x_3 P n1 x_4 x_5 x_6 x_7 σ → w_X10_pullerAt_12 x_1 x_2 x_3 Q n2 x_4 x_5 x_6 x_7 σ → w_X10_pullerAt_12 x_1 x_2 x_3 R n1 x_4 x_5 x_6 x_7 σ := by
  intro n1
  induction n1 with
  | zero => intro n2 x_4 x_5 x_6 x_7 σ a b; exact a.elim
  | succ n1 ih =>
    intro n2 x_4 x_5 x_6 x_7 σ a b
    cases n2 with
    | zero => exact b.elim
    | succ n2 =>
      unfold w_X10_pullerAt_12 at a b ⊢
      exact ⟨fun y1 => ⟨fun y2 => ⟨fun y3 => hR _ _ (((a.1 y1).1 y2).1 y3) (((b.1 y1).1 y2).1 y3), fun y4 => hR _ _ (((a.1 y1).1 y2).2 y4) (((b.1 y1).1 y2).2 y4)⟩, fun y5 => ⟨fun y6 => cj_X10_draw (fun y7 y8 y9 y10 => Exists.elim y9 (fun y11 y13 => Exists.elim y10 (fun y12 y14 => ⟨y11, cj_X10_pullerAt_150 hR _ _ _ _ _ y13 y14⟩))) (((a.1 y1).2 y5).1 y6) (((b.1 y1).2 y5).1 y6), fun y15 => ⟨fun y16 => hR _ _ ((((a.1 y1).2 y5).2 y15).1 y16) ((((b.1 y1).2 y5).2 y15).1 y16), fun y17 => hR _ _ ((((a.1 y1).2 y5).2 y15).2 y17) ((((b.1 y1).2 y5).2 y15).2 y17)⟩⟩⟩, fun y18 => ⟨fun y19 => ⟨fun y20 => ⟨fun y21 => hR _ _ ((((a.2 y18).1 y19).1 y20).1 y21) ((((b.2 y18).1 y19).1 y20).1 y21), fun y22 => hR _ _ ((((a.2 y18).1 y19).1 y20).2 y22) ((((b.2 y18).1 y19).1 y20).2 y22)⟩, fun y23 => ⟨fun y24 => cj_X10_draw (fun y25 y26 y27 y28 => Exists.elim y27 (fun y29 y31 => Exists.elim y28 (fun y30 y32 => ⟨y29, cj_X10_pullerAt_150 hR _ _ _ _ _ y31 y32⟩))) ((((a.2 y18).1 y19).2 y23).1 y24) ((((b.2 y18).1 y19).2 y23).1 y24), fun y33 => ⟨fun y34 => hR _ _ (((((a.2 y18).1 y19).2 y23).2 y33).1 y34) (((((b.2 y18).1 y19).2 y23).2 y33).1 y34), fun y35 => hR _ _ (((((a.2 y18).1 y19).2 y23).2 y33).2 y35) (((((b.2 y18).1 y19).2 y23).2 y33).2 y35)⟩⟩⟩, fun y36 => cj_X10_has (fun y37 y38 y39 y40 => fun y41 => ⟨fun y42 => fun y43 => fun y44 => ih _ _ _ _ _ _ ((((y39 y41).1 y42) y43) y44) ((((y40 y41).1 y42) y43) y44), fun y45 => cj_X10_wants (fun y46 y47 y48 y49 => fun y50 => ⟨fun y51 => fun y52 => fun y53 => ih _ _ _ _ _ _ ((((y48 y50).1 y51) y52) y53) ((((y49 y50).1 y51) y52) y53), fun y54 => ⟨fun y55 => ⟨fun y56 => ⟨fun y57 => fun y58 => fun y59 => fun y60 => fun y61 => ih _ _ _ _ _ _ (((((((((y48 y50).2 y54).1 y55).1 y56).1 y57) y58) y59) y60) y61) (((((((((y49 y50).2 y54).1 y55).1 y56).1 y57) y58) y59) y60) y61), fun y62 => cj_X10_riderOf (fun y63 y64 y65 y66 => cj_X10_riderOf (fun y67 y68 y69 y70 => ⟨fun y71 => fun y72 => fun y73 => fun y74 => fun y75 => ih _ _ _ _ _ _ (((((y69.1 y71) y72) y73) y74) y75) (((((y70.1 y71) y72) y73) y74) y75), fun y76 => fun y77 => fun y78 => fun y79 => fun y80 => ih _ _ _ _ _ _ (((((y69.2 y76) y77) y78) y79) y80) (((((y70.2 y76) y77) y78) y79) y80)⟩) y65 y66) (((((y48 y50).2 y54).1 y55).1 y56).2 y62) (((((y49 y50).2 y54).1 y55).1 y56).2 y62)⟩, fun y81 => ⟨fun y82 => fun y83 => fun y84 => fun y85 => fun y86 => ih _ _ _ _ _ _ (((((((((y48 y50).2 y54).1 y55).2 y81).1 y82) y83) y84) y85) y86) (((((((((y49 y50).2 y54).1 y55).2 y81).1 y82) y83) y84) y85) y86), fun y87 => cj_X10_riderOf (fun y88 y89 y90 y91 => cj_X10_riderOf (fun y92 y93 y94 y95 => ⟨fun y96 => fun y97 => fun y98 => fun y99 => fun y100 => ih _ _ _ _ _ _ (((((y94.1 y96) y97) y98) y99) y100) (((((y95.1 y96) y97) y98) y99) y100), fun y101 => fun y102 => fun y103 => fun y104 => fun y105 => ih _ _ _ _ _ _ (((((y94.2 y101) y102) y103) y104) y105) (((((y95.2 y101) y102) y103) y104) y105)⟩) y90 y91) (((((y48 y50).2 y54).1 y55).2 y81).2 y87) (((((y49 y50).2 y54).1 y55).2 y81).2 y87)⟩⟩, fun y106 => ⟨(((y48 y50).2 y54).2 y106).1, ⟨fun y107 => fun y108 => fun y109 => ih _ _ _ _ _ _ ((((((y48 y50).2 y54).2 y106).2.1 y107) y108) y109) ((((((y49 y50).2 y54).2 y106).2.1 y107) y108) y109), fun y110 => ⟨fun y111 => ⟨fun y112 => fun y113 => fun y114 => fun y115 => fun y116 => ih _ _ _ _ _ _ ((((((((((y48 y50).2 y54).2 y106).2.2 y110).1 y111).1 y112) y113) y114) y115) y116) ((((((((((y49 y50).2 y54).2 y106).2.2 y110).1 y111).1 y112) y113) y114) y115) y116), fun y117 => cj_X10_riderOf (fun y118 y119 y120 y121 => cj_X10_riderOf (fun y122 y123 y124 y125 => ⟨fun y126 => fun y127 => fun y128 => fun y129 => fun y130 => ih _ _ _ _ _ _ (((((y124.1 y126) y127) y128) y129) y130) (((((y125.1 y126) y127) y128) y129) y130), fun y131 => fun y132 => fun y133 => fun y134 => fun y135 => ih _ _ _ _ _ _ (((((y124.2 y131) y132) y133) y134) y135) (((((y125.2 y131) y132) y133) y134) y135)⟩) y120 y121) ((((((y48 y50).2 y54).2 y106).2.2 y110).1 y111).2 y117) ((((((y49 y50).2 y54).2 y106).2.2 y110).1 y111).2 y117)⟩, fun y136 => ⟨fun y137 => fun y138 => fun y139 => fun y140 => fun y141 => ih _ _ _ _ _ _ ((((((((((y48 y50).2 y54).2 y106).2.2 y110).2 y136).1 y137) y138) y139) y140) y141) ((((((((((y49 y50).2 y54).2 y106).2.2 y110).2 y136).1 y137) y138) y139) y140) y141), fun y142 => cj_X10_riderOf (fun y143 y144 y145 y146 => cj_X10_riderOf (fun y147 y148 y149 y150 => ⟨fun y151 => fun y152 => fun y153 => fun y154 => fun y155 => ih _ _ _ _ _ _ (((((y149.1 y151) y152) y153) y154) y155) (((((y150.1 y151) y152) y153) y154) y155), fun y156 => fun y157 => fun y158 => fun y159 => fun y160 => ih _ _ _ _ _ _ (((((y149.2 y156) y157) y158) y159) y160) (((((y150.2 y156) y157) y158) y159) y160)⟩) y145 y146) ((((((y48 y50).2 y54).2 y106).2.2 y110).2 y136).2 y142) ((((((y49 y50).2 y54).2 y106).2.2 y110).2 y136).2 y142)⟩⟩⟩⟩⟩⟩) ((y39 y41).2 y45) ((y40 y41).2 y45)⟩) ((a.2 y18).2 y36) ((b.2 y18).2 y36)⟩⟩
set_option maxHeartbeats 4000000 in
theorem cj_X10_pullerAt {a1 : Int32} {a2 : Int32} {a3 : Int32} {σ : zSto} {P Q R : Int32 → zSto → Prop} (hR : ∀ (z0 : Int32) (z1 : zSto), P z0 z1 → Q z0 z1 → R z0 z1) (a : w_X10_pullerAt a1 a2 a3 σ P) (b : w_X10_pullerAt a1 a2 a3 σ Q) : w_X10_pullerAt a1 a2 a3 σ R := by
  unfold w_X10_pullerAt at a b ⊢
  exact Exists.elim a (fun y1 y3 => Exists.elim b (fun y2 y4 => ⟨y1, cj_X10_pullerAt_12 hR _ _ _ _ _ _ _ y3 y4⟩))
set_option maxHeartbeats 4000000 in
theorem cj_X10_pullsAt {a1 : Int32} {a2 : Int32} {σ : zSto} {P Q R : zSto → Prop} (hR : ∀ (z0 : zSto), P z0 → Q z0 → R z0) (a : w_X10_pullsAt a1 a2 σ P) (b : w_X10_pullsAt a1 a2 σ Q) : w_X10_pullsAt a1 a2 σ R := by
  unfold w_X10_pullsAt at a b ⊢
  exact ⟨a.1, fun y1 => fun y2 => ⟨((a.2 y1) y2).1, fun y3 => fun y4 => ⟨fun y5 => cj_X10_riderOf (fun y6 y7 y8 y9 => ⟨y8.1, fun y10 => fun y11 => ⟨((y8.2 y10) y11).1, ⟨fun y12 => ⟨(((y8.2 y10) y11).2.1 y12).1, ⟨(((y8.2 y10) y11).2.1 y12).2.1, fun y13 => fun y14 => ⟨(((((y8.2 y10) y11).2.1 y12).2.2 y13) y14).1, fun y15 => fun y16 => ⟨(((((((y8.2 y10) y11).2.1 y12).2.2 y13) y14).2 y15) y16).1, ⟨(((((((y8.2 y10) y11).2.1 y12).2.2 y13) y14).2 y15) y16).2.1, fun y17 => fun y18 => fun y19 => fun y20 => ⟨(((((((((((y8.2 y10) y11).2.1 y12).2.2 y13) y14).2 y15) y16).2.2 y17) y18) y19) y20).1, fun y21 => fun y22 => ⟨(((((((((((((y8.2 y10) y11).2.1 y12).2.2 y13) y14).2 y15) y16).2.2 y17) y18) y19) y20).2 y21) y22).1, fun y23 => fun y24 => hR _ (((((((((((((((y8.2 y10) y11).2.1 y12).2.2 y13) y14).2 y15) y16).2.2 y17) y18) y19) y20).2 y21) y22).2 y23) y24) (((((((((((((((y9.2 y10) y11).2.1 y12).2.2 y13) y14).2 y15) y16).2.2 y17) y18) y19) y20).2 y21) y22).2 y23) y24)⟩⟩⟩⟩⟩⟩⟩, fun y25 => ⟨(((y8.2 y10) y11).2.2 y25).1, fun y26 => fun y27 => ⟨(((((y8.2 y10) y11).2.2 y25).2 y26) y27).1, ⟨(((((y8.2 y10) y11).2.2 y25).2 y26) y27).2.1, fun y28 => fun y29 => ⟨(((((((y8.2 y10) y11).2.2 y25).2 y26) y27).2.2 y28) y29).1, fun y30 => fun y31 => ⟨(((((((((y8.2 y10) y11).2.2 y25).2 y26) y27).2.2 y28) y29).2 y30) y31).1, ⟨(((((((((y8.2 y10) y11).2.2 y25).2 y26) y27).2.2 y28) y29).2 y30) y31).2.1, fun y32 => fun y33 => fun y34 => fun y35 => ⟨(((((((((((((y8.2 y10) y11).2.2 y25).2 y26) y27).2.2 y28) y29).2 y30) y31).2.2 y32) y33) y34) y35).1, fun y36 => fun y37 => ⟨(((((((((((((((y8.2 y10) y11).2.2 y25).2 y26) y27).2.2 y28) y29).2 y30) y31).2.2 y32) y33) y34) y35).2 y36) y37).1, fun y38 => fun y39 => hR _ (((((((((((((((((y8.2 y10) y11).2.2 y25).2 y26) y27).2.2 y28) y29).2 y30) y31).2.2 y32) y33) y34) y35).2 y36) y37).2 y38) y39) (((((((((((((((((y9.2 y10) y11).2.2 y25).2 y26) y27).2.2 y28) y29).2 y30) y31).2.2 y32) y33) y34) y35).2 y36) y37).2 y38) y39)⟩⟩⟩⟩⟩⟩⟩⟩⟩⟩⟩) (((((a.2 y1) y2).2 y3) y4).1 y5) (((((b.2 y1) y2).2 y3) y4).1 y5), fun y40 => hR _ (((((a.2 y1) y2).2 y3) y4).2 y40) (((((b.2 y1) y2).2 y3) y4).2 y40)⟩⟩⟩
set_option maxHeartbeats 4000000 in
theorem cj_X10_go_12 {x_1 : Int32} {x_3 : Int32} {P Q R : zSto → Prop} (hR : ∀ (z0 : zSto), P z0 → Q z0 → R z0) : ∀ (n1 n2 : Nat) (x_4 : Int32) (σ : zSto), w_X10_go_12 x_1 x_3 P n1 x_4 σ → w_X10_go_12 x_1 x_3 Q n2 x_4 σ → w_X10_go_12 x_1 x_3 R n1 x_4 σ := by
  intro n1
  induction n1 with
  | zero => intro n2 x_4 σ a b; exact a.elim
  | succ n1 ih =>
    intro n2 x_4 σ a b
    cases n2 with
    | zero => exact b.elim
    | succ n2 =>
      unfold w_X10_go_12 at a b ⊢
      exact ⟨fun y1 => ⟨(a.1 y1).1, fun y2 => fun y3 => ⟨(((a.1 y1).2 y2) y3).1, fun y4 => fun y5 => cj_X10_timesBy (fun y6 y7 y8 => hR _ y7 y8) (((((a.1 y1).2 y2) y3).2 y4) y5) (((((b.1 y1).2 y2) y3).2 y4) y5)⟩⟩, fun y9 => cj_X10_pullerAt (fun y10 y11 y12 y13 => cj_X10_pullsAt (fun y14 y15 y16 => fun y17 => fun y18 => ih _ _ _ ((y15 y17) y18) ((y16 y17) y18)) y12 y13) (a.2 y9) (b.2 y9)⟩
set_option maxHeartbeats 4000000 in
theorem cj_X10_go {a1 : Int32} {a2 : Int32} {a3 : Int32} {σ : zSto} {P Q R : zSto → Prop} (hR : ∀ (z0 : zSto), P z0 → Q z0 → R z0) (a : w_X10_go a1 a2 a3 σ P) (b : w_X10_go a1 a2 a3 σ Q) : w_X10_go a1 a2 a3 σ R := by
  unfold w_X10_go at a b ⊢
  exact fun y1 => fun y2 => cj_X10_begin (fun y3 y4 y5 => Exists.elim y4 (fun y6 y8 => Exists.elim y5 (fun y7 y9 => ⟨y6, cj_X10_go_12 hR _ _ _ _ y8 y9⟩))) ((a y1) y2) ((b y1) y2)
set_option maxHeartbeats 4000000 in
theorem cj_X10_layRun {a1 : Int32} {a2 : Int32} {a3 : Int32} {a4 : Int32} {σ : zSto} {P Q R : Int32 → zSto → Prop} (hR : ∀ (z0 : Int32) (z1 : zSto), P z0 z1 → Q z0 z1 → R z0 z1) (a : w_X10_layRun a1 a2 a3 a4 σ P) (b : w_X10_layRun a1 a2 a3 a4 σ Q) : w_X10_layRun a1 a2 a3 a4 σ R := by
  unfold w_X10_layRun at a b ⊢
  exact cj_X10_in (fun y1 y2 y3 y4 => fun y5 => ⟨fun y6 => hR _ _ ((y3 y5).1 y6) ((y4 y5).1 y6), fun y7 => cj_X10_hand (fun y8 y9 y10 y11 => fun y12 => ⟨fun y13 => cj_X10_everyone (fun y14 y15 y16 y17 => cj_X10_go (fun y18 y19 y20 => hR _ _ y19 y20) y16 y17) ((y10 y12).1 y13) ((y11 y12).1 y13), fun y21 => hR _ _ ((y10 y12).2 y21) ((y11 y12).2 y21)⟩) ((y3 y5).2 y7) ((y4 y5).2 y7)⟩) a b
set_option maxHeartbeats 4000000 in
theorem cj_X10_who {a1 : Int32} {a2 : Int32} {a3 : Int32} {a4 : Int32} {a5 : Int32} {σ : zSto} {P Q R : Int32 → zSto → Prop} (hR : ∀ (z0 : Int32) (z1 : zSto), P z0 z1 → Q z0 z1 → R z0 z1) (a : w_X10_who a1 a2 a3 a4 a5 σ P) (b : w_X10_who a1 a2 a3 a4 a5 σ Q) : w_X10_who a1 a2 a3 a4 a5 σ R := by
  unfold w_X10_who at a b ⊢
  exact fun y1 => fun y2 => cj_X10_layRun (fun y3 y4 y5 y6 => fun y7 => ⟨fun y8 => hR _ _ ((y5 y7).1 y8) ((y6 y7).1 y8), fun y9 => cj_X10_isPost (fun y10 y11 y12 y13 => fun y14 => ⟨fun y15 => hR _ _ ((y12 y14).1 y15) ((y13 y14).1 y15), fun y16 => ⟨((y12 y14).2 y16).1, hR _ _ ((y12 y14).2 y16).2 ((y13 y14).2 y16).2⟩⟩) ((y5 y7).2 y9) ((y6 y7).2 y9)⟩) ((a y1) y2) ((b y1) y2)
set_option maxHeartbeats 4000000 in
theorem cj_X0_isStation {t : Nat} {a1 : Int32} {σ : zSto} {P Q R : Int32 → zSto → Prop} (hR : ∀ (z0 : Int32) (z1 : zSto), P z0 z1 → Q z0 z1 → R z0 z1) (a : w_X0_isStation t a1 σ P) (b : w_X0_isStation t a1 σ Q) : w_X0_isStation t a1 σ R := by
  unfold w_X0_isStation at a b ⊢
  exact cj_X0_hasPost (fun y1 y2 y3 y4 => fun y5 => ⟨fun y6 => hR _ _ ((y3 y5).1 y6) ((y4 y5).1 y6), fun y7 => ⟨((y3 y5).2 y7).1, ⟨fun y8 => hR _ _ (((y3 y5).2 y7).2.1 y8) (((y4 y5).2 y7).2.1 y8), fun y9 => hR _ _ (((y3 y5).2 y7).2.2 y9) (((y4 y5).2 y7).2.2 y9)⟩⟩⟩) a b
set_option maxHeartbeats 4000000 in
theorem cj_X0_minutesTo_4 {q_0 : Nat} {x_1 : Int32} {P Q R : Int32 → zSto → Prop} (hR : ∀ (z0 : Int32) (z1 : zSto), P z0 z1 → Q z0 z1 → R z0 z1) : ∀ (n1 n2 : Nat) (x_2 : Int32) (x_3 : Int32) (σ : zSto), w_X0_minutesTo_4 q_0 x_1 P n1 x_2 x_3 σ → w_X0_minutesTo_4 q_0 x_1 Q n2 x_2 x_3 σ → w_X0_minutesTo_4 q_0 x_1 R n1 x_2 x_3 σ := by
  intro n1
  induction n1 with
  | zero => intro n2 x_2 x_3 σ a b; exact a.elim
  | succ n1 ih =>
    intro n2 x_2 x_3 σ a b
    cases n2 with
    | zero => exact b.elim
    | succ n2 =>
      unfold w_X0_minutesTo_4 at a b ⊢
      exact ⟨fun y1 => hR _ _ (a.1 y1) (b.1 y1), fun y2 => ⟨(a.2 y2).1, fun y3 => fun y4 => fun y5 => fun y6 => ih _ _ _ _ (((((a.2 y2).2 y3) y4) y5) y6) (((((b.2 y2).2 y3) y4) y5) y6)⟩⟩
set_option maxHeartbeats 4000000 in
theorem cj_X0_minutesTo {t : Nat} {a1 : Int32} {σ : zSto} {P Q R : Int32 → zSto → Prop} (hR : ∀ (z0 : Int32) (z1 : zSto), P z0 z1 → Q z0 z1 → R z0 z1) (a : w_X0_minutesTo t a1 σ P) (b : w_X0_minutesTo t a1 σ Q) : w_X0_minutesTo t a1 σ R := by
  unfold w_X0_minutesTo at a b ⊢
  exact Exists.elim a (fun y1 y3 => Exists.elim b (fun y2 y4 => ⟨y1, cj_X0_minutesTo_4 hR _ _ _ _ _ y3 y4⟩))
set_option maxHeartbeats 4000000 in
theorem cj_X0_costsBefore_5 {q_0 : Nat} {x_1 : Int32} {x_2 : Int32} {P Q R : Int32 → zSto → Prop} (hR : ∀ (z0 : Int32) (z1 : zSto), P z0 z1 → Q z0 z1 → R z0 z1) : ∀ (n1 n2 : Nat) (x_3 : Int32) (x_4 : Int32) (σ : zSto), w_X0_costsBefore_5 q_0 x_1 x_2 P n1 x_3 x_4 σ → w_X0_costsBefore_5 q_0 x_1 x_2 Q n2 x_3 x_4 σ → w_X0_costsBefore_5 q_0 x_1 x_2 R n1 x_3 x_4 σ := by
  intro n1
  induction n1 with
  | zero => intro n2 x_3 x_4 σ a b; exact a.elim
  | succ n1 ih =>
    intro n2 x_3 x_4 σ a b
    cases n2 with
    | zero => exact b.elim
    | succ n2 =>
      unfold w_X0_costsBefore_5 at a b ⊢
      exact ⟨fun y1 => hR _ _ (a.1 y1) (b.1 y1), fun y2 => ⟨fun y3 => fun y4 => fun y5 => ih _ _ _ _ ((((a.2 y2).1 y3) y4) y5) ((((b.2 y2).1 y3) y4) y5), fun y6 => cj_X0_cost (fun y7 y8 y9 y10 => fun y11 => fun y12 => fun y13 => fun y14 => ih _ _ _ _ ((((y9 y11) y12) y13) y14) ((((y10 y11) y12) y13) y14)) ((a.2 y2).2 y6) ((b.2 y2).2 y6)⟩⟩
set_option maxHeartbeats 4000000 in
theorem cj_X0_costsBefore {t : Nat} {a1 : Int32} {a2 : Int32} {σ : zSto} {P Q R : Int32 → zSto → Prop} (hR : ∀ (z0 : Int32) (z1 : zSto), P z0 z1 → Q z0 z1 → R z0 z1) (a : w_X0_costsBefore t a1 a2 σ P) (b : w_X0_costsBefore t a1 a2 σ Q) : w_X0_costsBefore t a1 a2 σ R := by
  unfold w_X0_costsBefore at a b ⊢
  exact Exists.elim a (fun y1 y3 => Exists.elim b (fun y2 y4 => ⟨y1, cj_X0_costsBefore_5 hR _ _ _ _ _ y3 y4⟩))
set_option maxHeartbeats 4000000 in
theorem cj_X5_arrival {b1 : Nat} {a2 : Int32} {σ : zSto} {P Q R : Int32 → zSto → Prop} (hR : ∀ (z0 : Int32) (z1 : zSto), P z0 z1 → Q z0 z1 → R z0 z1) (a : w_X5_arrival b1 a2 σ P) (b : w_X5_arrival b1 a2 σ Q) : w_X5_arrival b1 a2 σ R := by
  unfold w_X5_arrival at a b ⊢
  exact cj_X0_minutesTo (fun y1 y2 y3 y4 => cj_X0_costsBefore (fun y5 y6 y7 y8 => hR _ _ y7 y8) y3 y4) a b
set_option maxHeartbeats 4000000 in
theorem cj_X5_lateAt {b1 : Nat} {a2 : Int32} {σ : zSto} {P Q R : Int32 → zSto → Prop} (hR : ∀ (z0 : Int32) (z1 : zSto), P z0 z1 → Q z0 z1 → R z0 z1) (a : w_X5_lateAt b1 a2 σ P) (b : w_X5_lateAt b1 a2 σ Q) : w_X5_lateAt b1 a2 σ R := by
  unfold w_X5_lateAt at a b ⊢
  exact cj_X5_arrival (fun y1 y2 y3 y4 => ⟨y3.1, hR _ _ y3.2 y4.2⟩) a b
set_option maxHeartbeats 4000000 in
theorem cj_X9_late {a1 : Int32} {a2 : Int32} {a3 : Int32} {a4 : Int32} {a5 : Int32} {σ : zSto} {P Q R : Int32 → zSto → Prop} (hR : ∀ (z0 : Int32) (z1 : zSto), P z0 z1 → Q z0 z1 → R z0 z1) (a : w_X9_late a1 a2 a3 a4 a5 σ P) (b : w_X9_late a1 a2 a3 a4 a5 σ Q) : w_X9_late a1 a2 a3 a4 a5 σ R := by
  unfold w_X9_late at a b ⊢
  exact cj_X9_ridden (fun y1 y2 y3 y4 => ⟨fun y5 => hR _ _ (y3.1 y5) (y4.1 y5), fun y6 => fun y7 => ⟨((y3.2 y6) y7).1, cj_X0_isStation (fun y8 y9 y10 y11 => fun y12 => ⟨fun y13 => cj_X5_lateAt (fun y14 y15 y16 y17 => hR _ _ y16 y17) ((y10 y12).1 y13) ((y11 y12).1 y13), fun y18 => hR _ _ ((y10 y12).2 y18) ((y11 y12).2 y18)⟩) ((y3.2 y6) y7).2 ((y4.2 y6) y7).2⟩⟩) a b
set_option maxHeartbeats 4000000 in
theorem cj_X10_late {a1 : Int32} {a2 : Int32} {a3 : Int32} {a4 : Int32} {a5 : Int32} {σ : zSto} {P Q R : Int32 → zSto → Prop} (hR : ∀ (z0 : Int32) (z1 : zSto), P z0 z1 → Q z0 z1 → R z0 z1) (a : w_X10_late a1 a2 a3 a4 a5 σ P) (b : w_X10_late a1 a2 a3 a4 a5 σ Q) : w_X10_late a1 a2 a3 a4 a5 σ R := by
  unfold w_X10_late at a b ⊢
  exact fun y1 => fun y2 => cj_X10_layRun (fun y3 y4 y5 y6 => fun y7 => ⟨fun y8 => hR _ _ ((y5 y7).1 y8) ((y6 y7).1 y8), fun y9 => cj_X10_isPost (fun y10 y11 y12 y13 => fun y14 => ⟨fun y15 => hR _ _ ((y12 y14).1 y15) ((y13 y14).1 y15), fun y16 => cj_X10_postOf (fun y17 y18 y19 y20 => ⟨fun y21 => ⟨(y19.1 y21).1, cj_X10_postOf (fun y22 y23 y24 y25 => cj_X10_greater (fun y26 y27 y28 y29 => hR _ _ y28 y29) y24 y25) (y19.1 y21).2 (y20.1 y21).2⟩, fun y30 => hR _ _ (y19.2 y30) (y20.2 y30)⟩) ((y12 y14).2 y16) ((y13 y14).2 y16)⟩) ((y5 y7).2 y9) ((y6 y7).2 y9)⟩) ((a y1) y2) ((b y1) y2)
set_option maxHeartbeats 4000000 in
theorem cj_X5_remainsInAll_4 {q_1 : Nat} {P Q R : Int32 → zSto → Prop} (hR : ∀ (z0 : Int32) (z1 : zSto), P z0 z1 → Q z0 z1 → R z0 z1) : ∀ (n1 n2 : Nat) (x_2 : Int32) (x_3 : Int32) (σ : zSto), w_X5_remainsInAll_4 q_1 P n1 x_2 x_3 σ → w_X5_remainsInAll_4 q_1 Q n2 x_2 x_3 σ → w_X5_remainsInAll_4 q_1 R n1 x_2 x_3 σ := by
  intro n1
  induction n1 with
  | zero => intro n2 x_2 x_3 σ a b; exact a.elim
  | succ n1 ih =>
    intro n2 x_2 x_3 σ a b
    cases n2 with
    | zero => exact b.elim
    | succ n2 =>
      unfold w_X5_remainsInAll_4 at a b ⊢
      exact ⟨fun y1 => hR _ _ (a.1 y1) (b.1 y1), fun y2 => ⟨(a.2 y2).1, fun y3 => fun y4 => fun y5 => fun y6 => ih _ _ _ _ (((((a.2 y2).2 y3) y4) y5) y6) (((((b.2 y2).2 y3) y4) y5) y6)⟩⟩
set_option maxHeartbeats 4000000 in
theorem cj_X5_remainsInAll {b1 : Nat} {σ : zSto} {P Q R : Int32 → zSto → Prop} (hR : ∀ (z0 : Int32) (z1 : zSto), P z0 z1 → Q z0 z1 → R z0 z1) (a : w_X5_remainsInAll b1 σ P) (b : w_X5_remainsInAll b1 σ Q) : w_X5_remainsInAll b1 σ R := by
  unfold w_X5_remainsInAll at a b ⊢
  exact Exists.elim a (fun y1 y3 => Exists.elim b (fun y2 y4 => ⟨y1, cj_X5_remainsInAll_4 hR _ _ _ _ _ y3 y4⟩))
set_option maxHeartbeats 4000000 in
theorem cj_X9_left {a1 : Int32} {a2 : Int32} {a3 : Int32} {a4 : Int32} {a5 : Int32} {σ : zSto} {P Q R : Int32 → zSto → Prop} (hR : ∀ (z0 : Int32) (z1 : zSto), P z0 z1 → Q z0 z1 → R z0 z1) (a : w_X9_left a1 a2 a3 a4 a5 σ P) (b : w_X9_left a1 a2 a3 a4 a5 σ Q) : w_X9_left a1 a2 a3 a4 a5 σ R := by
  unfold w_X9_left at a b ⊢
  exact cj_X9_ridden (fun y1 y2 y3 y4 => ⟨fun y5 => hR _ _ (y3.1 y5) (y4.1 y5), fun y6 => fun y7 => ⟨((y3.2 y6) y7).1, ⟨fun y8 => cj_X0_hasPost (fun y9 y10 y11 y12 => fun y13 => ⟨fun y14 => hR _ _ ((y11 y13).1 y14) ((y12 y13).1 y14), fun y15 => ⟨((y11 y13).2 y15).1, hR _ _ ((y11 y13).2 y15).2 ((y12 y13).2 y15).2⟩⟩) (((y3.2 y6) y7).2.1 y8) (((y4.2 y6) y7).2.1 y8), fun y16 => cj_X5_remainsInAll (fun y17 y18 y19 y20 => hR _ _ y19 y20) (((y3.2 y6) y7).2.2 y16) (((y4.2 y6) y7).2.2 y16)⟩⟩⟩) a b
set_option maxHeartbeats 4000000 in
theorem cj_X10_left_41 {x_5 : Int32} {P Q R : Int32 → zSto → Prop} (hR : ∀ (z0 : Int32) (z1 : zSto), P z0 z1 → Q z0 z1 → R z0 z1) : ∀ (n1 n2 : Nat) (x_6 : Int32) (x_7 : Int32) (σ : zSto), w_X10_left_41 x_5 P n1 x_6 x_7 σ → w_X10_left_41 x_5 Q n2 x_6 x_7 σ → w_X10_left_41 x_5 R n1 x_6 x_7 σ := by
  intro n1
  induction n1 with
  | zero => intro n2 x_6 x_7 σ a b; exact a.elim
  | succ n1 ih =>
    intro n2 x_6 x_7 σ a b
    cases n2 with
    | zero => exact b.elim
    | succ n2 =>
      unfold w_X10_left_41 at a b ⊢
      exact ⟨fun y1 => hR _ _ (a.1 y1) (b.1 y1), fun y2 => ⟨fun y3 => ⟨((a.2 y2).1 y3).1, ⟨((a.2 y2).1 y3).2.1, fun y4 => fun y5 => fun y6 => fun y7 => ih _ _ _ _ ((((((a.2 y2).1 y3).2.2 y4) y5) y6) y7) ((((((b.2 y2).1 y3).2.2 y4) y5) y6) y7)⟩⟩, fun y8 => ⟨fun y9 => fun y10 => fun y11 => fun y12 => fun y13 => ih _ _ _ _ (((((((a.2 y2).2 y8).1 y9) y10) y11) y12) y13) (((((((b.2 y2).2 y8).1 y9) y10) y11) y12) y13), fun y14 => ⟨(((a.2 y2).2 y8).2 y14).1, ⟨(((a.2 y2).2 y8).2 y14).2.1, fun y15 => fun y16 => fun y17 => fun y18 => ih _ _ _ _ (((((((a.2 y2).2 y8).2 y14).2.2 y15) y16) y17) y18) (((((((b.2 y2).2 y8).2 y14).2.2 y15) y16) y17) y18)⟩⟩⟩⟩⟩
set_option maxHeartbeats 4000000 in
theorem cj_X10_left {a1 : Int32} {a2 : Int32} {a3 : Int32} {a4 : Int32} {a5 : Int32} {σ : zSto} {P Q R : Int32 → zSto → Prop} (hR : ∀ (z0 : Int32) (z1 : zSto), P z0 z1 → Q z0 z1 → R z0 z1) (a : w_X10_left a1 a2 a3 a4 a5 σ P) (b : w_X10_left a1 a2 a3 a4 a5 σ Q) : w_X10_left a1 a2 a3 a4 a5 σ R := by
  unfold w_X10_left at a b ⊢
  exact fun y1 => fun y2 => cj_X10_layRun (fun y3 y4 y5 y6 => fun y7 => ⟨fun y8 => hR _ _ ((y5 y7).1 y8) ((y6 y7).1 y8), fun y9 => ⟨fun y10 => Exists.elim (((y5 y7).2 y9).1 y10) (fun y11 y13 => Exists.elim (((y6 y7).2 y9).1 y10) (fun y12 y14 => ⟨y11, cj_X10_left_41 hR _ _ _ _ _ y13 y14⟩)), fun y15 => cj_X10_isPost (fun y16 y17 y18 y19 => fun y20 => ⟨fun y21 => Exists.elim ((y18 y20).1 y21) (fun y22 y24 => Exists.elim ((y19 y20).1 y21) (fun y23 y25 => ⟨y22, cj_X10_left_41 hR _ _ _ _ _ y24 y25⟩)), fun y26 => hR _ _ ((y18 y20).2 y26) ((y19 y20).2 y26)⟩) (((y5 y7).2 y9).2 y15) (((y6 y7).2 y9).2 y15)⟩⟩) ((a y1) y2) ((b y1) y2)
set_option maxHeartbeats 4000000 in
theorem cj_X5_fines_4 {q_1 : Nat} {P Q R : Int32 → zSto → Prop} (hR : ∀ (z0 : Int32) (z1 : zSto), P z0 z1 → Q z0 z1 → R z0 z1) : ∀ (n1 n2 : Nat) (x_2 : Int32) (x_3 : Int32) (σ : zSto), w_X5_fines_4 q_1 P n1 x_2 x_3 σ → w_X5_fines_4 q_1 Q n2 x_2 x_3 σ → w_X5_fines_4 q_1 R n1 x_2 x_3 σ := by
  intro n1
  induction n1 with
  | zero => intro n2 x_2 x_3 σ a b; exact a.elim
  | succ n1 ih =>
    intro n2 x_2 x_3 σ a b
    cases n2 with
    | zero => exact b.elim
    | succ n2 =>
      unfold w_X5_fines_4 at a b ⊢
      exact ⟨fun y1 => hR _ _ (a.1 y1) (b.1 y1), fun y2 => cj_X0_isStation (fun y3 y4 y5 y6 => fun y7 => ⟨fun y8 => fun y9 => fun y10 => ih _ _ _ _ ((((y5 y7).1 y8) y9) y10) ((((y6 y7).1 y8) y9) y10), fun y11 => cj_X5_lateAt (fun y12 y13 y14 y15 => fun y16 => fun y17 => fun y18 => fun y19 => ih _ _ _ _ ((((y14 y16) y17) y18) y19) ((((y15 y16) y17) y18) y19)) ((y5 y7).2 y11) ((y6 y7).2 y11)⟩) (a.2 y2) (b.2 y2)⟩
set_option maxHeartbeats 4000000 in
theorem cj_X5_fines {b1 : Nat} {σ : zSto} {P Q R : Int32 → zSto → Prop} (hR : ∀ (z0 : Int32) (z1 : zSto), P z0 z1 → Q z0 z1 → R z0 z1) (a : w_X5_fines b1 σ P) (b : w_X5_fines b1 σ Q) : w_X5_fines b1 σ R := by
  unfold w_X5_fines at a b ⊢
  exact Exists.elim a (fun y1 y3 => Exists.elim b (fun y2 y4 => ⟨y1, cj_X5_fines_4 hR _ _ _ _ _ y3 y4⟩))
set_option maxHeartbeats 4000000 in
theorem cj_X9_run {a1 : Int32} {a2 : Int32} {a3 : Int32} {a4 : Int32} {a5 : Int32} {σ : zSto} {P Q R : Int32 → zSto → Prop} (hR : ∀ (z0 : Int32) (z1 : zSto), P z0 z1 → Q z0 z1 → R z0 z1) (a : w_X9_run a1 a2 a3 a4 a5 σ P) (b : w_X9_run a1 a2 a3 a4 a5 σ Q) : w_X9_run a1 a2 a3 a4 a5 σ R := by
  unfold w_X9_run at a b ⊢
  exact cj_X9_ridden (fun y1 y2 y3 y4 => ⟨fun y5 => hR _ _ (y3.1 y5) (y4.1 y5), fun y6 => fun y7 => ⟨((y3.2 y6) y7).1, ⟨fun y8 => ⟨fun y9 => ⟨fun y10 => cj_X5_arrival (fun y11 y12 y13 y14 => hR _ _ y13 y14) (((((y3.2 y6) y7).2.1 y8).1 y9).1 y10) (((((y4.2 y6) y7).2.1 y8).1 y9).1 y10), ⟨fun y15 => hR _ _ (((((y3.2 y6) y7).2.1 y8).1 y9).2.1 y15) (((((y4.2 y6) y7).2.1 y8).1 y9).2.1 y15), ⟨fun y16 => hR _ _ (((((y3.2 y6) y7).2.1 y8).1 y9).2.2.1 y16) (((((y4.2 y6) y7).2.1 y8).1 y9).2.2.1 y16), ⟨fun y17 => hR _ _ (((((y3.2 y6) y7).2.1 y8).1 y9).2.2.2.1 y17) (((((y4.2 y6) y7).2.1 y8).1 y9).2.2.2.1 y17), ⟨fun y18 => hR _ _ (((((y3.2 y6) y7).2.1 y8).1 y9).2.2.2.2.1 y18) (((((y4.2 y6) y7).2.1 y8).1 y9).2.2.2.2.1 y18), ⟨fun y19 => cj_X5_fines (fun y20 y21 y22 y23 => hR _ _ y22 y23) (((((y3.2 y6) y7).2.1 y8).1 y9).2.2.2.2.2.1 y19) (((((y4.2 y6) y7).2.1 y8).1 y9).2.2.2.2.2.1 y19), ⟨fun y24 => hR _ _ (((((y3.2 y6) y7).2.1 y8).1 y9).2.2.2.2.2.2.1 y24) (((((y4.2 y6) y7).2.1 y8).1 y9).2.2.2.2.2.2.1 y24), ⟨fun y25 => hR _ _ (((((y3.2 y6) y7).2.1 y8).1 y9).2.2.2.2.2.2.2.1 y25) (((((y4.2 y6) y7).2.1 y8).1 y9).2.2.2.2.2.2.2.1 y25), fun y26 => hR _ _ (((((y3.2 y6) y7).2.1 y8).1 y9).2.2.2.2.2.2.2.2 y26) (((((y4.2 y6) y7).2.1 y8).1 y9).2.2.2.2.2.2.2.2 y26)⟩⟩⟩⟩⟩⟩⟩⟩, fun y27 => ⟨fun y28 => ⟨fun y29 => cj_X5_arrival (fun y30 y31 y32 y33 => hR _ _ y32 y33) ((((((y3.2 y6) y7).2.1 y8).2 y27).1 y28).1 y29) ((((((y4.2 y6) y7).2.1 y8).2 y27).1 y28).1 y29), ⟨fun y34 => hR _ _ ((((((y3.2 y6) y7).2.1 y8).2 y27).1 y28).2.1 y34) ((((((y4.2 y6) y7).2.1 y8).2 y27).1 y28).2.1 y34), ⟨fun y35 => hR _ _ ((((((y3.2 y6) y7).2.1 y8).2 y27).1 y28).2.2.1 y35) ((((((y4.2 y6) y7).2.1 y8).2 y27).1 y28).2.2.1 y35), ⟨fun y36 => hR _ _ ((((((y3.2 y6) y7).2.1 y8).2 y27).1 y28).2.2.2.1 y36) ((((((y4.2 y6) y7).2.1 y8).2 y27).1 y28).2.2.2.1 y36), ⟨fun y37 => hR _ _ ((((((y3.2 y6) y7).2.1 y8).2 y27).1 y28).2.2.2.2.1 y37) ((((((y4.2 y6) y7).2.1 y8).2 y27).1 y28).2.2.2.2.1 y37), ⟨fun y38 => cj_X5_fines (fun y39 y40 y41 y42 => hR _ _ y41 y42) ((((((y3.2 y6) y7).2.1 y8).2 y27).1 y28).2.2.2.2.2.1 y38) ((((((y4.2 y6) y7).2.1 y8).2 y27).1 y28).2.2.2.2.2.1 y38), ⟨fun y43 => hR _ _ ((((((y3.2 y6) y7).2.1 y8).2 y27).1 y28).2.2.2.2.2.2.1 y43) ((((((y4.2 y6) y7).2.1 y8).2 y27).1 y28).2.2.2.2.2.2.1 y43), ⟨fun y44 => hR _ _ ((((((y3.2 y6) y7).2.1 y8).2 y27).1 y28).2.2.2.2.2.2.2.1 y44) ((((((y4.2 y6) y7).2.1 y8).2 y27).1 y28).2.2.2.2.2.2.2.1 y44), fun y45 => hR _ _ ((((((y3.2 y6) y7).2.1 y8).2 y27).1 y28).2.2.2.2.2.2.2.2 y45) ((((((y4.2 y6) y7).2.1 y8).2 y27).1 y28).2.2.2.2.2.2.2.2 y45)⟩⟩⟩⟩⟩⟩⟩⟩, fun y46 => ⟨(((((y3.2 y6) y7).2.1 y8).2 y27).2 y46).1, hR _ _ (((((y3.2 y6) y7).2.1 y8).2 y27).2 y46).2 (((((y4.2 y6) y7).2.1 y8).2 y27).2 y46).2⟩⟩⟩, fun y47 => ⟨fun y48 => ⟨fun y49 => ⟨fun y50 => cj_X5_arrival (fun y51 y52 y53 y54 => hR _ _ y53 y54) ((((((y3.2 y6) y7).2.2 y47).1 y48).1 y49).1 y50) ((((((y4.2 y6) y7).2.2 y47).1 y48).1 y49).1 y50), ⟨fun y55 => hR _ _ ((((((y3.2 y6) y7).2.2 y47).1 y48).1 y49).2.1 y55) ((((((y4.2 y6) y7).2.2 y47).1 y48).1 y49).2.1 y55), ⟨fun y56 => hR _ _ ((((((y3.2 y6) y7).2.2 y47).1 y48).1 y49).2.2.1 y56) ((((((y4.2 y6) y7).2.2 y47).1 y48).1 y49).2.2.1 y56), ⟨fun y57 => hR _ _ ((((((y3.2 y6) y7).2.2 y47).1 y48).1 y49).2.2.2.1 y57) ((((((y4.2 y6) y7).2.2 y47).1 y48).1 y49).2.2.2.1 y57), ⟨fun y58 => hR _ _ ((((((y3.2 y6) y7).2.2 y47).1 y48).1 y49).2.2.2.2.1 y58) ((((((y4.2 y6) y7).2.2 y47).1 y48).1 y49).2.2.2.2.1 y58), ⟨fun y59 => cj_X5_fines (fun y60 y61 y62 y63 => hR _ _ y62 y63) ((((((y3.2 y6) y7).2.2 y47).1 y48).1 y49).2.2.2.2.2.1 y59) ((((((y4.2 y6) y7).2.2 y47).1 y48).1 y49).2.2.2.2.2.1 y59), ⟨fun y64 => hR _ _ ((((((y3.2 y6) y7).2.2 y47).1 y48).1 y49).2.2.2.2.2.2.1 y64) ((((((y4.2 y6) y7).2.2 y47).1 y48).1 y49).2.2.2.2.2.2.1 y64), ⟨fun y65 => hR _ _ ((((((y3.2 y6) y7).2.2 y47).1 y48).1 y49).2.2.2.2.2.2.2.1 y65) ((((((y4.2 y6) y7).2.2 y47).1 y48).1 y49).2.2.2.2.2.2.2.1 y65), fun y66 => hR _ _ ((((((y3.2 y6) y7).2.2 y47).1 y48).1 y49).2.2.2.2.2.2.2.2 y66) ((((((y4.2 y6) y7).2.2 y47).1 y48).1 y49).2.2.2.2.2.2.2.2 y66)⟩⟩⟩⟩⟩⟩⟩⟩, fun y67 => ⟨fun y68 => ⟨fun y69 => cj_X5_arrival (fun y70 y71 y72 y73 => hR _ _ y72 y73) (((((((y3.2 y6) y7).2.2 y47).1 y48).2 y67).1 y68).1 y69) (((((((y4.2 y6) y7).2.2 y47).1 y48).2 y67).1 y68).1 y69), ⟨fun y74 => hR _ _ (((((((y3.2 y6) y7).2.2 y47).1 y48).2 y67).1 y68).2.1 y74) (((((((y4.2 y6) y7).2.2 y47).1 y48).2 y67).1 y68).2.1 y74), ⟨fun y75 => hR _ _ (((((((y3.2 y6) y7).2.2 y47).1 y48).2 y67).1 y68).2.2.1 y75) (((((((y4.2 y6) y7).2.2 y47).1 y48).2 y67).1 y68).2.2.1 y75), ⟨fun y76 => hR _ _ (((((((y3.2 y6) y7).2.2 y47).1 y48).2 y67).1 y68).2.2.2.1 y76) (((((((y4.2 y6) y7).2.2 y47).1 y48).2 y67).1 y68).2.2.2.1 y76), ⟨fun y77 => hR _ _ (((((((y3.2 y6) y7).2.2 y47).1 y48).2 y67).1 y68).2.2.2.2.1 y77) (((((((y4.2 y6) y7).2.2 y47).1 y48).2 y67).1 y68).2.2.2.2.1 y77), ⟨fun y78 => cj_X5_fines (fun y79 y80 y81 y82 => hR _ _ y81 y82) (((((((y3.2 y6) y7).2.2 y47).1 y48).2 y67).1 y68).2.2.2.2.2.1 y78) (((((((y4.2 y6) y7).2.2 y47).1 y48).2 y67).1 y68).2.2.2.2.2.1 y78), ⟨fun y83 => hR _ _ (((((((y3.2 y6) y7).2.2 y47).1 y48).2 y67).1 y68).2.2.2.2.2.2.1 y83) (((((((y4.2 y6) y7).2.2 y47).1 y48).2 y67).1 y68).2.2.2.2.2.2.1 y83), ⟨fun y84 => hR _ _ (((((((y3.2 y6) y7).2.2 y47).1 y48).2 y67).1 y68).2.2.2.2.2.2.2.1 y84) (((((((y4.2 y6) y7).2.2 y47).1 y48).2 y67).1 y68).2.2.2.2.2.2.2.1 y84), fun y85 => hR _ _ (((((((y3.2 y6) y7).2.2 y47).1 y48).2 y67).1 y68).2.2.2.2.2.2.2.2 y85) (((((((y4.2 y6) y7).2.2 y47).1 y48).2 y67).1 y68).2.2.2.2.2.2.2.2 y85)⟩⟩⟩⟩⟩⟩⟩⟩, fun y86 => ⟨((((((y3.2 y6) y7).2.2 y47).1 y48).2 y67).2 y86).1, hR _ _ ((((((y3.2 y6) y7).2.2 y47).1 y48).2 y67).2 y86).2 ((((((y4.2 y6) y7).2.2 y47).1 y48).2 y67).2 y86).2⟩⟩⟩, fun y87 => cj_X5_arrival (fun y88 y89 y90 y91 => hR _ _ y90 y91) ((((y3.2 y6) y7).2.2 y47).2 y87) ((((y4.2 y6) y7).2.2 y47).2 y87)⟩⟩⟩⟩) a b
set_option maxHeartbeats 4000000 in
theorem cj_X10_gathered_4  {P Q R : Int32 → zSto → Prop} (hR : ∀ (z0 : Int32) (z1 : zSto), P z0 z1 → Q z0 z1 → R z0 z1) : ∀ (n1 n2 : Nat) (x_1 : Int32) (x_2 : Int32) (σ : zSto), w_X10_gathered_4 P n1 x_1 x_2 σ → w_X10_gathered_4 Q n2 x_1 x_2 σ → w_X10_gathered_4 R n1 x_1 x_2 σ := by
  intro n1
  induction n1 with
  | zero => intro n2 x_1 x_2 σ a b; exact a.elim
  | succ n1 ih =>
    intro n2 x_1 x_2 σ a b
    cases n2 with
    | zero => exact b.elim
    | succ n2 =>
      unfold w_X10_gathered_4 at a b ⊢
      exact ⟨fun y1 => hR _ _ (a.1 y1) (b.1 y1), fun y2 => ⟨(a.2 y2).1, fun y3 => fun y4 => fun y5 => fun y6 => ih _ _ _ _ (((((a.2 y2).2 y3) y4) y5) y6) (((((b.2 y2).2 y3) y4) y5) y6)⟩⟩
set_option maxHeartbeats 4000000 in
theorem cj_X10_gathered {σ : zSto} {P Q R : Int32 → zSto → Prop} (hR : ∀ (z0 : Int32) (z1 : zSto), P z0 z1 → Q z0 z1 → R z0 z1) (a : w_X10_gathered σ P) (b : w_X10_gathered σ Q) : w_X10_gathered σ R := by
  unfold w_X10_gathered at a b ⊢
  exact Exists.elim a (fun y1 y3 => Exists.elim b (fun y2 y4 => ⟨y1, cj_X10_gathered_4 hR _ _ _ _ _ y3 y4⟩))
set_option maxHeartbeats 4000000 in
theorem cj_X10_stopsOf_4  {P Q R : Int32 → zSto → Prop} (hR : ∀ (z0 : Int32) (z1 : zSto), P z0 z1 → Q z0 z1 → R z0 z1) : ∀ (n1 n2 : Nat) (x_1 : Int32) (x_2 : Int32) (σ : zSto), w_X10_stopsOf_4 P n1 x_1 x_2 σ → w_X10_stopsOf_4 Q n2 x_1 x_2 σ → w_X10_stopsOf_4 R n1 x_1 x_2 σ := by
  intro n1
  induction n1 with
  | zero => intro n2 x_1 x_2 σ a b; exact a.elim
  | succ n1 ih =>
    intro n2 x_1 x_2 σ a b
    cases n2 with
    | zero => exact b.elim
    | succ n2 =>
      unfold w_X10_stopsOf_4 at a b ⊢
      exact ⟨fun y1 => hR _ _ (a.1 y1) (b.1 y1), fun y2 => ⟨(a.2 y2).1, ⟨fun y3 => fun y4 => fun y5 => fun y6 => fun y7 => ih _ _ _ _ ((((((a.2 y2).2.1 y3) y4) y5) y6) y7) ((((((b.2 y2).2.1 y3) y4) y5) y6) y7), fun y8 => fun y9 => fun y10 => fun y11 => fun y12 => ih _ _ _ _ ((((((a.2 y2).2.2 y8) y9) y10) y11) y12) ((((((b.2 y2).2.2 y8) y9) y10) y11) y12)⟩⟩⟩
set_option maxHeartbeats 4000000 in
theorem cj_X10_stopsOf {σ : zSto} {P Q R : Int32 → zSto → Prop} (hR : ∀ (z0 : Int32) (z1 : zSto), P z0 z1 → Q z0 z1 → R z0 z1) (a : w_X10_stopsOf σ P) (b : w_X10_stopsOf σ Q) : w_X10_stopsOf σ R := by
  unfold w_X10_stopsOf at a b ⊢
  exact Exists.elim a (fun y1 y3 => Exists.elim b (fun y2 y4 => ⟨y1, cj_X10_stopsOf_4 hR _ _ _ _ _ y3 y4⟩))
set_option maxHeartbeats 4000000 in
theorem cj_X10_ones_4 {x_0 : Int32} {P Q R : Int32 → zSto → Prop} (hR : ∀ (z0 : Int32) (z1 : zSto), P z0 z1 → Q z0 z1 → R z0 z1) : ∀ (n1 n2 : Nat) (x_1 : Int32) (x_2 : Int32) (σ : zSto), w_X10_ones_4 x_0 P n1 x_1 x_2 σ → w_X10_ones_4 x_0 Q n2 x_1 x_2 σ → w_X10_ones_4 x_0 R n1 x_1 x_2 σ := by
  intro n1
  induction n1 with
  | zero => intro n2 x_1 x_2 σ a b; exact a.elim
  | succ n1 ih =>
    intro n2 x_1 x_2 σ a b
    cases n2 with
    | zero => exact b.elim
    | succ n2 =>
      unfold w_X10_ones_4 at a b ⊢
      exact ⟨fun y1 => hR _ _ (a.1 y1) (b.1 y1), fun y2 => cj_X10_has (fun y3 y4 y5 y6 => fun y7 => ⟨fun y8 => fun y9 => fun y10 => fun y11 => fun y12 => ih _ _ _ _ ((((((y5 y7).1 y8) y9) y10) y11) y12) ((((((y6 y7).1 y8) y9) y10) y11) y12), fun y13 => fun y14 => fun y15 => fun y16 => fun y17 => ih _ _ _ _ ((((((y5 y7).2 y13) y14) y15) y16) y17) ((((((y6 y7).2 y13) y14) y15) y16) y17)⟩) (a.2 y2) (b.2 y2)⟩
set_option maxHeartbeats 4000000 in
theorem cj_X10_ones {a1 : Int32} {σ : zSto} {P Q R : Int32 → zSto → Prop} (hR : ∀ (z0 : Int32) (z1 : zSto), P z0 z1 → Q z0 z1 → R z0 z1) (a : w_X10_ones a1 σ P) (b : w_X10_ones a1 σ Q) : w_X10_ones a1 σ R := by
  unfold w_X10_ones at a b ⊢
  exact Exists.elim a (fun y1 y3 => Exists.elim b (fun y2 y4 => ⟨y1, cj_X10_ones_4 hR _ _ _ _ _ y3 y4⟩))
set_option maxHeartbeats 4000000 in
theorem cj_X10_run {a1 : Int32} {a2 : Int32} {a3 : Int32} {a4 : Int32} {a5 : Int32} {σ : zSto} {P Q R : Int32 → zSto → Prop} (hR : ∀ (z0 : Int32) (z1 : zSto), P z0 z1 → Q z0 z1 → R z0 z1) (a : w_X10_run a1 a2 a3 a4 a5 σ P) (b : w_X10_run a1 a2 a3 a4 a5 σ Q) : w_X10_run a1 a2 a3 a4 a5 σ R := by
  unfold w_X10_run at a b ⊢
  exact fun y1 => fun y2 => cj_X10_layRun (fun y3 y4 y5 y6 => fun y7 => ⟨fun y8 => cj_X10_in (fun y9 y10 y11 y12 => fun y13 => ⟨fun y14 => cj_X10_in (fun y15 y16 y17 y18 => fun y19 => ⟨fun y20 => ⟨fun y21 => ⟨(((y17 y19).1 y20).1 y21).1, hR _ _ (((y17 y19).1 y20).1 y21).2 (((y18 y19).1 y20).1 y21).2⟩, ⟨fun y22 => cj_X10_gathered (fun y23 y24 y25 y26 => hR _ _ y25 y26) (((y17 y19).1 y20).2.1 y22) (((y18 y19).1 y20).2.1 y22), ⟨fun y27 => cj_X10_stopsOf (fun y28 y29 y30 y31 => cj_X10_ones (fun y32 y33 y34 y35 => hR _ _ y34 y35) y30 y31) (((y17 y19).1 y20).2.2.1 y27) (((y18 y19).1 y20).2.2.1 y27), ⟨fun y36 => hR _ _ (((y17 y19).1 y20).2.2.2.1 y36) (((y18 y19).1 y20).2.2.2.1 y36), ⟨fun y37 => hR _ _ (((y17 y19).1 y20).2.2.2.2.1 y37) (((y18 y19).1 y20).2.2.2.2.1 y37), ⟨fun y38 => hR _ _ (((y17 y19).1 y20).2.2.2.2.2.1 y38) (((y18 y19).1 y20).2.2.2.2.2.1 y38), ⟨fun y39 => hR _ _ (((y17 y19).1 y20).2.2.2.2.2.2.1 y39) (((y18 y19).1 y20).2.2.2.2.2.2.1 y39), ⟨fun y40 => cj_X10_stopsOf (fun y41 y42 y43 y44 => hR _ _ y43 y44) (((y17 y19).1 y20).2.2.2.2.2.2.2.1 y40) (((y18 y19).1 y20).2.2.2.2.2.2.2.1 y40), fun y45 => hR _ _ (((y17 y19).1 y20).2.2.2.2.2.2.2.2 y45) (((y18 y19).1 y20).2.2.2.2.2.2.2.2 y45)⟩⟩⟩⟩⟩⟩⟩⟩, fun y46 => ⟨((y17 y19).2 y46).1, hR _ _ ((y17 y19).2 y46).2 ((y18 y19).2 y46).2⟩⟩) ((y11 y13).1 y14) ((y12 y13).1 y14), fun y47 => ⟨((y11 y13).2 y47).1, hR _ _ ((y11 y13).2 y47).2 ((y12 y13).2 y47).2⟩⟩) ((y5 y7).1 y8) ((y6 y7).1 y8), fun y48 => hR _ _ ((y5 y7).2 y48) ((y6 y7).2 y48)⟩) ((a y1) y2) ((b y1) y2)
set_option maxHeartbeats 4000000 in
theorem cj_X0_riderSets {t : Nat} {σ : zSto} {P Q R : Int32 → zSto → Prop} (hR : ∀ (z0 : Int32) (z1 : zSto), P z0 z1 → Q z0 z1 → R z0 z1) (a : w_X0_riderSets t σ P) (b : w_X0_riderSets t σ Q) : w_X0_riderSets t σ R := by
  unfold w_X0_riderSets at a b ⊢
  exact hR _ _ a b
set_option maxHeartbeats 4000000 in
theorem cj_X5_gainOf {b1 : Nat} {a2 : Int32} {σ : zSto} {P Q R : Int32 → zSto → Prop} (hR : ∀ (z0 : Int32) (z1 : zSto), P z0 z1 → Q z0 z1 → R z0 z1) (a : w_X5_gainOf b1 a2 σ P) (b : w_X5_gainOf b1 a2 σ Q) : w_X5_gainOf b1 a2 σ R := by
  unfold w_X5_gainOf at a b ⊢
  exact ⟨a.1, ⟨a.2.1, cj_X0_costsBefore (fun y1 y2 y3 y4 => hR _ _ y3 y4) a.2.2 b.2.2⟩⟩
set_option maxHeartbeats 4000000 in
theorem cj_X9_gain {a1 : Int32} {a2 : Int32} {a3 : Int32} {a4 : Int32} {σ : zSto} {P Q R : Int32 → zSto → Prop} (hR : ∀ (z0 : Int32) (z1 : zSto), P z0 z1 → Q z0 z1 → R z0 z1) (a : w_X9_gain a1 a2 a3 a4 σ P) (b : w_X9_gain a1 a2 a3 a4 σ Q) : w_X9_gain a1 a2 a3 a4 σ R := by
  unfold w_X9_gain at a b ⊢
  exact cj_X8_lineAt (fun y1 y2 y3 y4 => ⟨fun y5 => hR _ _ (y3.1 y5) (y4.1 y5), fun y6 => fun y7 => ⟨((y3.2 y6) y7).1, cj_X9_isWeek (fun y8 y9 y10 y11 => fun y12 => ⟨fun y13 => hR _ _ ((y10 y12).1 y13) ((y11 y12).1 y13), fun y14 => cj_X0_hasRider (fun y15 y16 y17 y18 => fun y19 => ⟨fun y20 => ⟨fun y21 => hR _ _ (((y17 y19).1 y20).1 y21) (((y18 y19).1 y20).1 y21), fun y22 => cj_X0_riderSets (fun y23 y24 y25 y26 => ⟨fun y27 => cj_X5_byLaw (fun y28 y29 y30 => cj_X5_gainOf (fun y31 y32 y33 y34 => hR _ _ y33 y34) y29 y30) (y25.1 y27) (y26.1 y27), fun y35 => hR _ _ (y25.2 y35) (y26.2 y35)⟩) (((y17 y19).1 y20).2 y22) (((y18 y19).1 y20).2 y22)⟩, fun y36 => hR _ _ ((y17 y19).2 y36) ((y18 y19).2 y36)⟩) ((y10 y12).2 y14) ((y11 y12).2 y14)⟩) ((y3.2 y6) y7).2 ((y4.2 y6) y7).2⟩⟩) a b
set_option maxHeartbeats 4000000 in
theorem cj_X10_gainNow_4 {x_1 : Int32} {P Q R : Int32 → zSto → Prop} (hR : ∀ (z0 : Int32) (z1 : zSto), P z0 z1 → Q z0 z1 → R z0 z1) : ∀ (n1 n2 : Nat) (x_2 : Int32) (x_3 : Int32) (σ : zSto), w_X10_gainNow_4 x_1 P n1 x_2 x_3 σ → w_X10_gainNow_4 x_1 Q n2 x_2 x_3 σ → w_X10_gainNow_4 x_1 R n1 x_2 x_3 σ := by
  intro n1
  induction n1 with
  | zero => intro n2 x_2 x_3 σ a b; exact a.elim
  | succ n1 ih =>
    intro n2 x_2 x_3 σ a b
    cases n2 with
    | zero => exact b.elim
    | succ n2 =>
      unfold w_X10_gainNow_4 at a b ⊢
      exact cj_X10_riderOf (fun y1 y2 y3 y4 => ⟨fun y5 => ⟨(y3.1 y5).1, hR _ _ (y3.1 y5).2 (y4.1 y5).2⟩, fun y6 => ⟨(y3.2 y6).1, ⟨fun y7 => fun y8 => fun y9 => fun y10 => fun y11 => ih _ _ _ _ ((((((y3.2 y6).2.1 y7) y8) y9) y10) y11) ((((((y4.2 y6).2.1 y7) y8) y9) y10) y11), fun y12 => ⟨((y3.2 y6).2.2 y12).1, fun y13 => fun y14 => fun y15 => fun y16 => ih _ _ _ _ ((((((y3.2 y6).2.2 y12).2 y13) y14) y15) y16) ((((((y4.2 y6).2.2 y12).2 y13) y14) y15) y16)⟩⟩⟩⟩) a b
set_option maxHeartbeats 4000000 in
theorem cj_X10_gainNow {a1 : Int32} {σ : zSto} {P Q R : Int32 → zSto → Prop} (hR : ∀ (z0 : Int32) (z1 : zSto), P z0 z1 → Q z0 z1 → R z0 z1) (a : w_X10_gainNow a1 σ P) (b : w_X10_gainNow a1 σ Q) : w_X10_gainNow a1 σ R := by
  unfold w_X10_gainNow at a b ⊢
  exact Exists.elim a (fun y1 y3 => Exists.elim b (fun y2 y4 => ⟨y1, cj_X10_gainNow_4 hR _ _ _ _ _ y3 y4⟩))
set_option maxHeartbeats 4000000 in
theorem cj_X10_gainOf {a1 : Int32} {a2 : Int32} {σ : zSto} {P Q R : Int32 → zSto → Prop} (hR : ∀ (z0 : Int32) (z1 : zSto), P z0 z1 → Q z0 z1 → R z0 z1) (a : w_X10_gainOf a1 a2 σ P) (b : w_X10_gainOf a1 a2 σ Q) : w_X10_gainOf a1 a2 σ R := by
  unfold w_X10_gainOf at a b ⊢
  exact cj_X10_go (fun y1 y2 y3 => cj_X10_gainNow (fun y4 y5 y6 y7 => hR _ _ y6 y7) y2 y3) a b
set_option maxHeartbeats 4000000 in
theorem cj_X10_gain {a1 : Int32} {a2 : Int32} {a3 : Int32} {a4 : Int32} {σ : zSto} {P Q R : Int32 → zSto → Prop} (hR : ∀ (z0 : Int32) (z1 : zSto), P z0 z1 → Q z0 z1 → R z0 z1) (a : w_X10_gain a1 a2 a3 a4 σ P) (b : w_X10_gain a1 a2 a3 a4 σ Q) : w_X10_gain a1 a2 a3 a4 σ R := by
  unfold w_X10_gain at a b ⊢
  exact fun y1 => fun y2 => cj_X10_hand (fun y3 y4 y5 y6 => fun y7 => ⟨fun y8 => hR _ _ ((y5 y7).1 y8) ((y6 y7).1 y8), fun y9 => cj_X10_everyone (fun y10 y11 y12 y13 => cj_X10_in (fun y14 y15 y16 y17 => fun y18 => ⟨fun y19 => hR _ _ ((y16 y18).1 y19) ((y17 y18).1 y19), fun y20 => cj_X10_isRider (fun y21 y22 y23 y24 => fun y25 => ⟨fun y26 => hR _ _ ((y23 y25).1 y26) ((y24 y25).1 y26), fun y27 => cj_X10_gainOf (fun y28 y29 y30 y31 => hR _ _ y30 y31) ((y23 y25).2 y27) ((y24 y25).2 y27)⟩) ((y16 y18).2 y20) ((y17 y18).2 y20)⟩) y12 y13) ((y5 y7).2 y9) ((y6 y7).2 y9)⟩) ((a y1) y2) ((b y1) y2)
set_option maxHeartbeats 4000000 in
theorem cj_X9_most_33 {x_2 : Int32} {x_3 : Int32} {x_4 : Int32} {q_5 : Nat} {P Q R : Int32 → zSto → Prop} (hR : ∀ (z0 : Int32) (z1 : zSto), P z0 z1 → Q z0 z1 → R z0 z1) : ∀ (n1 n2 : Nat) (x_6 : Int32) (x_7 : Int32) (x_8 : Int32) (σ : zSto), w_X9_most_33 x_2 x_3 x_4 q_5 P n1 x_6 x_7 x_8 σ → w_X9_most_33 x_2 x_3 x_4 q_5 Q n2 x_6 x_7 x_8 σ → w_X9_most_33 x_2 x_3 x_4 q_5 R n1 x_6 x_7 x_8 σ := by
  intro n1
  induction n1 with
  | zero => intro n2 x_6 x_7 x_8 σ a b; exact a.elim
  | succ n1 ih =>
    intro n2 x_6 x_7 x_8 σ a b
    cases n2 with
    | zero => exact b.elim
    | succ n2 =>
      unfold w_X9_most_33 at a b ⊢
      exact ⟨fun y1 => hR _ _ (a.1 y1) (b.1 y1), fun y2 => cj_X5_byLaw (fun y3 y4 y5 => ⟨fun y6 => fun y7 => fun y8 => ⟨fun y9 => fun y10 => fun y11 => ih _ _ _ _ _ ((((((y4.1 y6) y7) y8).1 y9) y10) y11) ((((((y5.1 y6) y7) y8).1 y9) y10) y11), fun y12 => ⟨fun y13 => fun y14 => fun y15 => ih _ _ _ _ _ (((((((y4.1 y6) y7) y8).2 y12).1 y13) y14) y15) (((((((y5.1 y6) y7) y8).2 y12).1 y13) y14) y15), fun y16 => fun y17 => fun y18 => ih _ _ _ _ _ (((((((y4.1 y6) y7) y8).2 y12).2 y16) y17) y18) (((((((y5.1 y6) y7) y8).2 y12).2 y16) y17) y18)⟩⟩, fun y19 => fun y20 => fun y21 => ⟨fun y22 => fun y23 => fun y24 => ih _ _ _ _ _ ((((((y4.2 y19) y20) y21).1 y22) y23) y24) ((((((y5.2 y19) y20) y21).1 y22) y23) y24), fun y25 => ⟨fun y26 => fun y27 => fun y28 => ih _ _ _ _ _ (((((((y4.2 y19) y20) y21).2 y25).1 y26) y27) y28) (((((((y5.2 y19) y20) y21).2 y25).1 y26) y27) y28), fun y29 => fun y30 => fun y31 => ih _ _ _ _ _ (((((((y4.2 y19) y20) y21).2 y25).2 y29) y30) y31) (((((((y5.2 y19) y20) y21).2 y25).2 y29) y30) y31)⟩⟩⟩) (a.2 y2) (b.2 y2)⟩
set_option maxHeartbeats 4000000 in
theorem cj_X9_most {a1 : Int32} {a2 : Int32} {a3 : Int32} {a4 : Int32} {σ : zSto} {P Q R : Int32 → zSto → Prop} (hR : ∀ (z0 : Int32) (z1 : zSto), P z0 z1 → Q z0 z1 → R z0 z1) (a : w_X9_most a1 a2 a3 a4 σ P) (b : w_X9_most a1 a2 a3 a4 σ Q) : w_X9_most a1 a2 a3 a4 σ R := by
  unfold w_X9_most at a b ⊢
  exact cj_X8_lineAt (fun y1 y2 y3 y4 => ⟨fun y5 => hR _ _ (y3.1 y5) (y4.1 y5), fun y6 => fun y7 => ⟨((y3.2 y6) y7).1, cj_X9_isWeek (fun y8 y9 y10 y11 => fun y12 => ⟨fun y13 => Exists.elim ((y10 y12).1 y13) (fun y14 y16 => Exists.elim ((y11 y12).1 y13) (fun y15 y17 => ⟨y14, cj_X9_most_33 hR _ _ _ _ _ _ y16 y17⟩)), fun y18 => hR _ _ ((y10 y12).2 y18) ((y11 y12).2 y18)⟩) ((y3.2 y6) y7).2 ((y4.2 y6) y7).2⟩⟩) a b
set_option maxHeartbeats 4000000 in
theorem cj_X10_most_25 {x_2 : Int32} {x_4 : Int32} {P Q R : Int32 → zSto → Prop} (hR : ∀ (z0 : Int32) (z1 : zSto), P z0 z1 → Q z0 z1 → R z0 z1) : ∀ (n1 n2 : Nat) (x_5 : Int32) (x_6 : Int32) (x_7 : Int32) (σ : zSto), w_X10_most_25 x_2 x_4 P n1 x_5 x_6 x_7 σ → w_X10_most_25 x_2 x_4 Q n2 x_5 x_6 x_7 σ → w_X10_most_25 x_2 x_4 R n1 x_5 x_6 x_7 σ := by
  intro n1
  induction n1 with
  | zero => intro n2 x_5 x_6 x_7 σ a b; exact a.elim
  | succ n1 ih =>
    intro n2 x_5 x_6 x_7 σ a b
    cases n2 with
    | zero => exact b.elim
    | succ n2 =>
      unfold w_X10_most_25 at a b ⊢
      exact ⟨fun y1 => hR _ _ (a.1 y1) (b.1 y1), fun y2 => cj_X10_everyone (fun y3 y4 y5 y6 => cj_X10_go (fun y7 y8 y9 => ⟨fun y10 => cj_X10_gathered (fun y11 y12 y13 y14 => ⟨fun y15 => ⟨fun y16 => fun y17 => fun y18 => ih _ _ _ _ _ ((((y13.1 y15).1 y16) y17) y18) ((((y14.1 y15).1 y16) y17) y18), fun y19 => fun y20 => fun y21 => ih _ _ _ _ _ ((((y13.1 y15).2 y19) y20) y21) ((((y14.1 y15).2 y19) y20) y21)⟩, fun y22 => ⟨fun y23 => ⟨fun y24 => fun y25 => fun y26 => ih _ _ _ _ _ (((((y13.2 y22).1 y23).1 y24) y25) y26) (((((y14.2 y22).1 y23).1 y24) y25) y26), fun y27 => fun y28 => fun y29 => ih _ _ _ _ _ (((((y13.2 y22).1 y23).2 y27) y28) y29) (((((y14.2 y22).1 y23).2 y27) y28) y29)⟩, fun y30 => ⟨fun y31 => fun y32 => fun y33 => ih _ _ _ _ _ (((((y13.2 y22).2 y30).1 y31) y32) y33) (((((y14.2 y22).2 y30).1 y31) y32) y33), fun y34 => fun y35 => fun y36 => ih _ _ _ _ _ (((((y13.2 y22).2 y30).2 y34) y35) y36) (((((y14.2 y22).2 y30).2 y34) y35) y36)⟩⟩⟩) (y8.1 y10) (y9.1 y10), fun y37 => fun y38 => fun y39 => ⟨fun y40 => ⟨fun y41 => fun y42 => fun y43 => ih _ _ _ _ _ (((((((y8.2 y37) y38) y39).1 y40).1 y41) y42) y43) (((((((y9.2 y37) y38) y39).1 y40).1 y41) y42) y43), fun y44 => fun y45 => fun y46 => ih _ _ _ _ _ (((((((y8.2 y37) y38) y39).1 y40).2 y44) y45) y46) (((((((y9.2 y37) y38) y39).1 y40).2 y44) y45) y46)⟩, fun y47 => ⟨fun y48 => ⟨fun y49 => fun y50 => fun y51 => ih _ _ _ _ _ ((((((((y8.2 y37) y38) y39).2 y47).1 y48).1 y49) y50) y51) ((((((((y9.2 y37) y38) y39).2 y47).1 y48).1 y49) y50) y51), fun y52 => fun y53 => fun y54 => ih _ _ _ _ _ ((((((((y8.2 y37) y38) y39).2 y47).1 y48).2 y52) y53) y54) ((((((((y9.2 y37) y38) y39).2 y47).1 y48).2 y52) y53) y54)⟩, fun y55 => ⟨fun y56 => fun y57 => fun y58 => ih _ _ _ _ _ ((((((((y8.2 y37) y38) y39).2 y47).2 y55).1 y56) y57) y58) ((((((((y9.2 y37) y38) y39).2 y47).2 y55).1 y56) y57) y58), fun y59 => fun y60 => fun y61 => ih _ _ _ _ _ ((((((((y8.2 y37) y38) y39).2 y47).2 y55).2 y59) y60) y61) ((((((((y9.2 y37) y38) y39).2 y47).2 y55).2 y59) y60) y61)⟩⟩⟩⟩) y5 y6) (a.2 y2) (b.2 y2)⟩
set_option maxHeartbeats 4000000 in
theorem cj_X10_most {a1 : Int32} {a2 : Int32} {a3 : Int32} {a4 : Int32} {σ : zSto} {P Q R : Int32 → zSto → Prop} (hR : ∀ (z0 : Int32) (z1 : zSto), P z0 z1 → Q z0 z1 → R z0 z1) (a : w_X10_most a1 a2 a3 a4 σ P) (b : w_X10_most a1 a2 a3 a4 σ Q) : w_X10_most a1 a2 a3 a4 σ R := by
  unfold w_X10_most at a b ⊢
  exact fun y1 => fun y2 => cj_X10_hand (fun y3 y4 y5 y6 => fun y7 => ⟨fun y8 => Exists.elim ((y5 y7).1 y8) (fun y9 y11 => Exists.elim ((y6 y7).1 y8) (fun y10 y12 => ⟨y9, cj_X10_most_25 hR _ _ _ _ _ _ y11 y12⟩)), fun y13 => hR _ _ ((y5 y7).2 y13) ((y6 y7).2 y13)⟩) ((a y1) y2) ((b y1) y2)
set_option maxHeartbeats 4000000 in
theorem cj_X9_weeks_38 {x_2 : Int32} {x_3 : Int32} {x_4 : Int32} {q_5 : Nat} {P Q R : Int32 → zSto → Prop} (hR : ∀ (z0 : Int32) (z1 : zSto), P z0 z1 → Q z0 z1 → R z0 z1) : ∀ (n1 n2 : Nat) (x_6 : Int32) (x_7 : Int32) (x_8 : Int32) (x_9 : Int32) (σ : zSto), w_X9_weeks_38 x_2 x_3 x_4 q_5 P n1 x_6 x_7 x_8 x_9 σ → w_X9_weeks_38 x_2 x_3 x_4 q_5 Q n2 x_6 x_7 x_8 x_9 σ → w_X9_weeks_38 x_2 x_3 x_4 q_5 R n1 x_6 x_7 x_8 x_9 σ := by
  intro n1
  induction n1 with
  | zero => intro n2 x_6 x_7 x_8 x_9 σ a b; exact a.elim
  | succ n1 ih =>
    intro n2 x_6 x_7 x_8 x_9 σ a b
    cases n2 with
    | zero => exact b.elim
    | succ n2 =>
      unfold w_X9_weeks_38 at a b ⊢
      exact ⟨fun y1 => ⟨fun y2 => hR _ _ ((a.1 y1).1 y2) ((b.1 y1).1 y2), fun y3 => hR _ _ ((a.1 y1).2 y3) ((b.1 y1).2 y3)⟩, fun y4 => cj_X5_byLaw (fun y5 y6 y7 => fun y8 => fun y9 => ⟨fun y10 => fun y11 => fun y12 => ih _ _ _ _ _ _ (((((y6 y8) y9).1 y10) y11) y12) (((((y7 y8) y9).1 y10) y11) y12), fun y13 => fun y14 => fun y15 => fun y16 => fun y17 => ih _ _ _ _ _ _ (((((((y6 y8) y9).2 y13) y14) y15) y16) y17) (((((((y7 y8) y9).2 y13) y14) y15) y16) y17)⟩) (a.2 y4) (b.2 y4)⟩
set_option maxHeartbeats 4000000 in
theorem cj_X9_weeks {a1 : Int32} {a2 : Int32} {a3 : Int32} {a4 : Int32} {σ : zSto} {P Q R : Int32 → zSto → Prop} (hR : ∀ (z0 : Int32) (z1 : zSto), P z0 z1 → Q z0 z1 → R z0 z1) (a : w_X9_weeks a1 a2 a3 a4 σ P) (b : w_X9_weeks a1 a2 a3 a4 σ Q) : w_X9_weeks a1 a2 a3 a4 σ R := by
  unfold w_X9_weeks at a b ⊢
  exact cj_X8_lineAt (fun y1 y2 y3 y4 => ⟨fun y5 => hR _ _ (y3.1 y5) (y4.1 y5), fun y6 => fun y7 => ⟨((y3.2 y6) y7).1, ⟨fun y8 => hR _ _ (((y3.2 y6) y7).2.1 y8) (((y4.2 y6) y7).2.1 y8), fun y9 => ⟨fun y10 => Exists.elim ((((y3.2 y6) y7).2.2 y9).1 y10) (fun y11 y13 => Exists.elim ((((y4.2 y6) y7).2.2 y9).1 y10) (fun y12 y14 => ⟨y11, cj_X9_weeks_38 hR _ _ _ _ _ _ _ y13 y14⟩)), fun y15 => hR _ _ ((((y3.2 y6) y7).2.2 y9).2 y15) ((((y4.2 y6) y7).2.2 y9).2 y15)⟩⟩⟩⟩) a b
set_option maxHeartbeats 4000000 in
theorem cj_X10_weeks_37 {x_1 : Int32} {x_2 : Int32} {x_3 : Int32} {x_4 : Int32} {P Q R : Int32 → zSto → Prop} (hR : ∀ (z0 : Int32) (z1 : zSto), P z0 z1 → Q z0 z1 → R z0 z1) : ∀ (n1 n2 : Nat) (x_5 : Int32) (x_6 : Int32) (x_7 : Int32) (x_8 : Int32) (σ : zSto), w_X10_weeks_37 x_1 x_2 x_3 x_4 P n1 x_5 x_6 x_7 x_8 σ → w_X10_weeks_37 x_1 x_2 x_3 x_4 Q n2 x_5 x_6 x_7 x_8 σ → w_X10_weeks_37 x_1 x_2 x_3 x_4 R n1 x_5 x_6 x_7 x_8 σ := by
  intro n1
  induction n1 with
  | zero => intro n2 x_5 x_6 x_7 x_8 σ a b; exact a.elim
  | succ n1 ih =>
    intro n2 x_5 x_6 x_7 x_8 σ a b
    cases n2 with
    | zero => exact b.elim
    | succ n2 =>
      unfold w_X10_weeks_37 at a b ⊢
      exact ⟨fun y1 => ⟨fun y2 => hR _ _ ((a.1 y1).1 y2) ((b.1 y1).1 y2), fun y3 => hR _ _ ((a.1 y1).2 y3) ((b.1 y1).2 y3)⟩, fun y4 => cj_X10_layRun (fun y5 y6 y7 y8 => fun y9 => cj_X10_gathered (fun y10 y11 y12 y13 => fun y14 => fun y15 => ⟨fun y16 => cj_X10_greater (fun y17 y18 y19 y20 => fun y21 => fun y22 => ih _ _ _ _ _ _ ((y19 y21) y22) ((y20 y21) y22)) (((y12 y14) y15).1 y16) (((y13 y14) y15).1 y16), fun y23 => cj_X10_greater (fun y24 y25 y26 y27 => fun y28 => fun y29 => ih _ _ _ _ _ _ ((y26 y28) y29) ((y27 y28) y29)) (((y12 y14) y15).2 y23) (((y13 y14) y15).2 y23)⟩) (y7 y9) (y8 y9)) (a.2 y4) (b.2 y4)⟩
set_option maxHeartbeats 4000000 in
theorem cj_X10_weeks {a1 : Int32} {a2 : Int32} {a3 : Int32} {a4 : Int32} {σ : zSto} {P Q R : Int32 → zSto → Prop} (hR : ∀ (z0 : Int32) (z1 : zSto), P z0 z1 → Q z0 z1 → R z0 z1) (a : w_X10_weeks a1 a2 a3 a4 σ P) (b : w_X10_weeks a1 a2 a3 a4 σ Q) : w_X10_weeks a1 a2 a3 a4 σ R := by
  unfold w_X10_weeks at a b ⊢
  exact fun y1 => fun y2 => cj_X10_in (fun y3 y4 y5 y6 => fun y7 => ⟨fun y8 => hR _ _ ((y5 y7).1 y8) ((y6 y7).1 y8), fun y9 => cj_X10_is (fun y10 y11 y12 y13 => fun y14 => ⟨fun y15 => Exists.elim ((y12 y14).1 y15) (fun y16 y18 => Exists.elim ((y13 y14).1 y15) (fun y17 y19 => ⟨y16, cj_X10_weeks_37 hR _ _ _ _ _ _ _ y18 y19⟩)), fun y20 => hR _ _ ((y12 y14).2 y20) ((y13 y14).2 y20)⟩) ((y5 y7).2 y9) ((y6 y7).2 y9)⟩) ((a y1) y2) ((b y1) y2)
set_option maxHeartbeats 4000000 in
theorem cj_X9_lots_60 {x_2 : Int32} {x_3 : Int32} {x_4 : Int32} {x_5 : Int32} {q_6 : Nat} {P Q R : Int32 → zSto → Prop} (hR : ∀ (z0 : Int32) (z1 : zSto), P z0 z1 → Q z0 z1 → R z0 z1) : ∀ (n1 n2 : Nat) (x_7 : Int32) (x_8 : Int32) (x_9 : Int32) (x_10 : Int32) (σ : zSto), w_X9_lots_60 x_2 x_3 x_4 x_5 q_6 P n1 x_7 x_8 x_9 x_10 σ → w_X9_lots_60 x_2 x_3 x_4 x_5 q_6 Q n2 x_7 x_8 x_9 x_10 σ → w_X9_lots_60 x_2 x_3 x_4 x_5 q_6 R n1 x_7 x_8 x_9 x_10 σ := by
  intro n1
  induction n1 with
  | zero => intro n2 x_7 x_8 x_9 x_10 σ a b; exact a.elim
  | succ n1 ih =>
    intro n2 x_7 x_8 x_9 x_10 σ a b
    cases n2 with
    | zero => exact b.elim
    | succ n2 =>
      unfold w_X9_lots_60 at a b ⊢
      exact ⟨fun y1 => ⟨fun y2 => ⟨fun y3 => hR _ _ (((a.1 y1).1 y2).1 y3) (((b.1 y1).1 y2).1 y3), fun y4 => hR _ _ (((a.1 y1).1 y2).2 y4) (((b.1 y1).1 y2).2 y4)⟩, fun y5 => hR _ _ ((a.1 y1).2 y5) ((b.1 y1).2 y5)⟩, fun y6 => cj_X5_byLaw (fun y7 y8 y9 => fun y10 => fun y11 => fun y12 => fun y13 => ⟨fun y14 => fun y15 => fun y16 => fun y17 => fun y18 => ih _ _ _ _ _ _ (((((((((y8 y10) y11) y12) y13).1 y14) y15) y16) y17) y18) (((((((((y9 y10) y11) y12) y13).1 y14) y15) y16) y17) y18), fun y19 => fun y20 => fun y21 => fun y22 => fun y23 => ih _ _ _ _ _ _ (((((((((y8 y10) y11) y12) y13).2 y19) y20) y21) y22) y23) (((((((((y9 y10) y11) y12) y13).2 y19) y20) y21) y22) y23)⟩) (a.2 y6) (b.2 y6)⟩
set_option maxHeartbeats 4000000 in
theorem cj_X9_lots {a1 : Int32} {a2 : Int32} {a3 : Int32} {a4 : Int32} {a5 : Int32} {σ : zSto} {P Q R : Int32 → zSto → Prop} (hR : ∀ (z0 : Int32) (z1 : zSto), P z0 z1 → Q z0 z1 → R z0 z1) (a : w_X9_lots a1 a2 a3 a4 a5 σ P) (b : w_X9_lots a1 a2 a3 a4 a5 σ Q) : w_X9_lots a1 a2 a3 a4 a5 σ R := by
  unfold w_X9_lots at a b ⊢
  exact cj_X8_lineAt (fun y1 y2 y3 y4 => ⟨fun y5 => hR _ _ (y3.1 y5) (y4.1 y5), fun y6 => fun y7 => ⟨((y3.2 y6) y7).1, cj_X9_isWeek (fun y8 y9 y10 y11 => fun y12 => ⟨fun y13 => hR _ _ ((y10 y12).1 y13) ((y11 y12).1 y13), fun y14 => ⟨fun y15 => hR _ _ (((y10 y12).2 y14).1 y15) (((y11 y12).2 y14).1 y15), fun y16 => ⟨fun y17 => hR _ _ ((((y10 y12).2 y14).2 y16).1 y17) ((((y11 y12).2 y14).2 y16).1 y17), fun y18 => ⟨fun y19 => hR _ _ (((((y10 y12).2 y14).2 y16).2 y18).1 y19) (((((y11 y12).2 y14).2 y16).2 y18).1 y19), fun y20 => ⟨fun y21 => Exists.elim ((((((y10 y12).2 y14).2 y16).2 y18).2 y20).1 y21) (fun y22 y24 => Exists.elim ((((((y11 y12).2 y14).2 y16).2 y18).2 y20).1 y21) (fun y23 y25 => ⟨y22, cj_X9_lots_60 hR _ _ _ _ _ _ _ y24 y25⟩)), fun y26 => hR _ _ ((((((y10 y12).2 y14).2 y16).2 y18).2 y20).2 y26) ((((((y11 y12).2 y14).2 y16).2 y18).2 y20).2 y26)⟩⟩⟩⟩⟩) ((y3.2 y6) y7).2 ((y4.2 y6) y7).2⟩⟩) a b
set_option maxHeartbeats 4000000 in
theorem cj_X10_lots_43 {x_3 : Int32} {x_4 : Int32} {x_5 : Int32} {P Q R : Int32 → zSto → Prop} (hR : ∀ (z0 : Int32) (z1 : zSto), P z0 z1 → Q z0 z1 → R z0 z1) : ∀ (n1 n2 : Nat) (x_6 : Int32) (x_7 : Int32) (σ : zSto), w_X10_lots_43 x_3 x_4 x_5 P n1 x_6 x_7 σ → w_X10_lots_43 x_3 x_4 x_5 Q n2 x_6 x_7 σ → w_X10_lots_43 x_3 x_4 x_5 R n1 x_6 x_7 σ := by
  intro n1
  induction n1 with
  | zero => intro n2 x_6 x_7 σ a b; exact a.elim
  | succ n1 ih =>
    intro n2 x_6 x_7 σ a b
    cases n2 with
    | zero => exact b.elim
    | succ n2 =>
      unfold w_X10_lots_43 at a b ⊢
      exact ⟨fun y1 => hR _ _ (a.1 y1) (b.1 y1), fun y2 => cj_X10_everyone (fun y3 y4 y5 y6 => cj_X10_go (fun y7 y8 y9 => ⟨fun y10 => ⟨fun y11 => ⟨fun y12 => fun y13 => fun y14 => fun y15 => fun y16 => ih _ _ _ _ (((((((y8.1 y10).1 y11).1 y12) y13) y14) y15) y16) (((((((y9.1 y10).1 y11).1 y12) y13) y14) y15) y16), fun y17 => fun y18 => fun y19 => fun y20 => fun y21 => ih _ _ _ _ (((((((y8.1 y10).1 y11).2 y17) y18) y19) y20) y21) (((((((y9.1 y10).1 y11).2 y17) y18) y19) y20) y21)⟩, fun y22 => fun y23 => fun y24 => fun y25 => fun y26 => ih _ _ _ _ ((((((y8.1 y10).2 y22) y23) y24) y25) y26) ((((((y9.1 y10).2 y22) y23) y24) y25) y26)⟩, fun y27 => cj_X10_gathered (fun y28 y29 y30 y31 => fun y32 => fun y33 => fun y34 => fun y35 => ih _ _ _ _ ((((y30 y32) y33) y34) y35) ((((y31 y32) y33) y34) y35)) (y8.2 y27) (y9.2 y27)⟩) y5 y6) (a.2 y2) (b.2 y2)⟩
set_option maxHeartbeats 4000000 in
theorem cj_X10_lots {a1 : Int32} {a2 : Int32} {a3 : Int32} {a4 : Int32} {a5 : Int32} {σ : zSto} {P Q R : Int32 → zSto → Prop} (hR : ∀ (z0 : Int32) (z1 : zSto), P z0 z1 → Q z0 z1 → R z0 z1) (a : w_X10_lots a1 a2 a3 a4 a5 σ P) (b : w_X10_lots a1 a2 a3 a4 a5 σ Q) : w_X10_lots a1 a2 a3 a4 a5 σ R := by
  unfold w_X10_lots at a b ⊢
  exact fun y1 => fun y2 => cj_X10_in (fun y3 y4 y5 y6 => fun y7 => ⟨fun y8 => hR _ _ ((y5 y7).1 y8) ((y6 y7).1 y8), fun y9 => cj_X10_in (fun y10 y11 y12 y13 => fun y14 => ⟨fun y15 => hR _ _ ((y12 y14).1 y15) ((y13 y14).1 y15), fun y16 => cj_X10_hand (fun y17 y18 y19 y20 => fun y21 => ⟨fun y22 => Exists.elim ((y19 y21).1 y22) (fun y23 y25 => Exists.elim ((y20 y21).1 y22) (fun y24 y26 => ⟨y23, cj_X10_lots_43 hR _ _ _ _ _ y25 y26⟩)), fun y27 => hR _ _ ((y19 y21).2 y27) ((y20 y21).2 y27)⟩) ((y12 y14).2 y16) ((y13 y14).2 y16)⟩) ((y5 y7).2 y9) ((y6 y7).2 y9)⟩) ((a y1) y2) ((b y1) y2)
