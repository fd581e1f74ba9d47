/-! two promises of one call make one: calm, vote, rest, rich, bid -/
set_option maxHeartbeats 4000000 in
theorem cj_X9_isCalm {b1 : Nat} {a2 : Int32} {a3 : Int32} {a4 : Int32} {σ : zSto} {P Q R : Int32 → zSto → Prop} (hR : ∀ (z0 : Int32) (z1 : zSto), P z0 z1 → Q z0 z1 → R z0 z1) (a : w_X9_isCalm b1 a2 a3 a4 σ P) (b : w_X9_isCalm b1 a2 a3 a4 σ Q) : w_X9_isCalm b1 a2 a3 a4 σ R := by
  unfold w_X9_isCalm at a b ⊢
  exact cj_X5_byLaw (fun y1 y2 y3 => ⟨fun y4 => ⟨fun y5 => hR _ _ ((y2.1 y4).1 y5) ((y3.1 y4).1 y5), fun y6 => hR _ _ ((y2.1 y4).2 y6) ((y3.1 y4).2 y6)⟩, fun y7 => ⟨fun y8 => hR _ _ ((y2.2 y7).1 y8) ((y3.2 y7).1 y8), fun y9 => hR _ _ ((y2.2 y7).2 y9) ((y3.2 y7).2 y9)⟩⟩) a b
set_option maxHeartbeats 4000000 in
theorem cj_X9_calm_51 {x_2 : Int32} {x_3 : Int32} {q_4 : Nat} {P Q R : Int32 → zSto → Prop} (hR : ∀ (z0 : Int32) (z1 : zSto), P z0 z1 → Q z0 z1 → R z0 z1) : ∀ (n1 n2 : Nat) (x_5 : Int32) (x_6 : Int32) (x_7 : Int32) (σ : zSto), w_X9_calm_51 x_2 x_3 q_4 P n1 x_5 x_6 x_7 σ → w_X9_calm_51 x_2 x_3 q_4 Q n2 x_5 x_6 x_7 σ → w_X9_calm_51 x_2 x_3 q_4 R n1 x_5 x_6 x_7 σ := by
  intro n1
  induction n1 with
  | zero => intro n2 x_5 x_6 x_7 σ a b; exact a.elim
  | succ n1 ih =>
    intro n2 x_5 x_6 x_7 σ a b
    cases n2 with
    | zero => exact b.elim
    | succ n2 =>
      unfold w_X9_calm_51 at a b ⊢
      exact cj_X0_riderSets (fun y1 y2 y3 y4 => ⟨fun y5 => hR _ _ (y3.1 y5) (y4.1 y5), fun y6 => cj_J6_bitCount_0f7a4 (fun y7 y8 y9 y10 => ⟨fun y11 => fun y12 => fun y13 => ih _ _ _ _ _ (((y9.1 y11) y12) y13) (((y10.1 y11) y12) y13), fun y14 => cj_X9_isCalm (fun y15 y16 y17 y18 => fun y19 => ⟨fun y20 => fun y21 => fun y22 => ih _ _ _ _ _ ((((y17 y19).1 y20) y21) y22) ((((y18 y19).1 y20) y21) y22), fun y23 => cj_J6_bitCount_0f7a4 (fun y24 y25 y26 y27 => fun y28 => fun y29 => ih _ _ _ _ _ ((y26 y28) y29) ((y27 y28) y29)) ((y17 y19).2 y23) ((y18 y19).2 y23)⟩) (y9.2 y14) (y10.2 y14)⟩) (y3.2 y6) (y4.2 y6)⟩) a b
set_option maxHeartbeats 4000000 in
theorem cj_X9_calm {a1 : Int32} {a2 : Int32} {a3 : Int32} {σ : zSto} {P Q R : Int32 → zSto → Prop} (hR : ∀ (z0 : Int32) (z1 : zSto), P z0 z1 → Q z0 z1 → R z0 z1) (a : w_X9_calm a1 a2 a3 σ P) (b : w_X9_calm a1 a2 a3 σ Q) : w_X9_calm a1 a2 a3 σ R := by
  unfold w_X9_calm at a b ⊢
  exact cj_X8_lineAt (fun y1 y2 y3 y4 => ⟨fun y5 => hR _ _ (y3.1 y5) (y4.1 y5), fun y6 => fun y7 => ⟨((y3.2 y6) y7).1, cj_X9_isWeek (fun y8 y9 y10 y11 => fun y12 => ⟨fun y13 => hR _ _ ((y10 y12).1 y13) ((y11 y12).1 y13), fun y14 => ⟨fun y15 => hR _ _ (((y10 y12).2 y14).1 y15) (((y11 y12).2 y14).1 y15), fun y16 => ⟨fun y17 => fun y18 => fun y19 => Exists.elim ((((((y10 y12).2 y14).2 y16).1 y17) y18) y19) (fun y20 y22 => Exists.elim ((((((y11 y12).2 y14).2 y16).1 y17) y18) y19) (fun y21 y23 => ⟨y20, cj_X9_calm_51 hR _ _ _ _ _ _ y22 y23⟩)), fun y24 => hR _ _ ((((y10 y12).2 y14).2 y16).2 y24) ((((y11 y12).2 y14).2 y16).2 y24)⟩⟩⟩) ((y3.2 y6) y7).2 ((y4.2 y6) y7).2⟩⟩) a b
set_option maxHeartbeats 4000000 in
theorem cj_X10_isCalm {a1 : Int32} {a2 : Int32} {σ : zSto} {P Q R : Int32 → zSto → Prop} (hR : ∀ (z0 : Int32) (z1 : zSto), P z0 z1 → Q z0 z1 → R z0 z1) (a : w_X10_isCalm a1 a2 σ P) (b : w_X10_isCalm a1 a2 σ Q) : w_X10_isCalm a1 a2 σ R := by
  unfold w_X10_isCalm at a b ⊢
  exact cj_X10_go (fun y1 y2 y3 => ⟨fun y4 => ⟨fun y5 => hR _ _ ((y2.1 y4).1 y5) ((y3.1 y4).1 y5), fun y6 => hR _ _ ((y2.1 y4).2 y6) ((y3.1 y4).2 y6)⟩, fun y7 => ⟨fun y8 => hR _ _ ((y2.2 y7).1 y8) ((y3.2 y7).1 y8), fun y9 => hR _ _ ((y2.2 y7).2 y9) ((y3.2 y7).2 y9)⟩⟩) a b
set_option maxHeartbeats 4000000 in
theorem cj_X9_keepGains_2 {q_1 : Nat} {x_2 : Int32} {P Q R : zSto → Prop} (hR : ∀ (z0 : zSto), P z0 → Q z0 → R z0) : ∀ (n1 n2 : Nat) (x_3 : Int32) (σ : zSto), w_X9_keepGains_2 q_1 x_2 P n1 x_3 σ → w_X9_keepGains_2 q_1 x_2 Q n2 x_3 σ → w_X9_keepGains_2 q_1 x_2 R n1 x_3 σ := by
  intro n1
  induction n1 with
  | zero => intro n2 x_3 σ a b; exact a.elim
  | succ n1 ih =>
    intro n2 x_3 σ a b
    cases n2 with
    | zero => exact b.elim
    | succ n2 =>
      unfold w_X9_keepGains_2 at a b ⊢
      exact ⟨fun y1 => hR _ (a.1 y1) (b.1 y1), fun y2 => cj_X5_gainOf (fun y3 y4 y5 y6 => ⟨y5.1, fun y7 => fun y8 => fun y9 => fun y10 => ih _ _ _ ((((y5.2 y7) y8) y9) y10) ((((y6.2 y7) y8) y9) y10)⟩) (a.2 y2) (b.2 y2)⟩
set_option maxHeartbeats 4000000 in
theorem cj_X9_keepGains {b1 : Nat} {a2 : Int32} {σ : zSto} {P Q R : zSto → Prop} (hR : ∀ (z0 : zSto), P z0 → Q z0 → R z0) (a : w_X9_keepGains b1 a2 σ P) (b : w_X9_keepGains b1 a2 σ Q) : w_X9_keepGains b1 a2 σ R := by
  unfold w_X9_keepGains at a b ⊢
  exact Exists.elim a (fun y1 y3 => Exists.elim b (fun y2 y4 => ⟨y1, cj_X9_keepGains_2 hR _ _ _ _ y3 y4⟩))
set_option maxHeartbeats 4000000 in
theorem cj_X9_fillGainsByLaw_3 {q_1 : Nat} {x_2 : Int32} {x_3 : Int32} {P Q R : zSto → Prop} (hR : ∀ (z0 : zSto), P z0 → Q z0 → R z0) : ∀ (n1 n2 : Nat) (x_4 : Int32) (σ : zSto), w_X9_fillGainsByLaw_3 q_1 x_2 x_3 P n1 x_4 σ → w_X9_fillGainsByLaw_3 q_1 x_2 x_3 Q n2 x_4 σ → w_X9_fillGainsByLaw_3 q_1 x_2 x_3 R n1 x_4 σ := by
  intro n1
  induction n1 with
  | zero => intro n2 x_4 σ a b; exact a.elim
  | succ n1 ih =>
    intro n2 x_4 σ a b
    cases n2 with
    | zero => exact b.elim
    | succ n2 =>
      unfold w_X9_fillGainsByLaw_3 at a b ⊢
      exact ⟨fun y1 => hR _ (a.1 y1) (b.1 y1), fun y2 => cj_X5_byLaw (fun y3 y4 y5 => cj_X9_keepGains (fun y6 y7 y8 => fun y9 => fun y10 => ih _ _ _ ((y7 y9) y10) ((y8 y9) y10)) y4 y5) (a.2 y2) (b.2 y2)⟩
set_option maxHeartbeats 4000000 in
theorem cj_X9_fillGainsByLaw {b1 : Nat} {a2 : Int32} {a3 : Int32} {σ : zSto} {P Q R : zSto → Prop} (hR : ∀ (z0 : zSto), P z0 → Q z0 → R z0) (a : w_X9_fillGainsByLaw b1 a2 a3 σ P) (b : w_X9_fillGainsByLaw b1 a2 a3 σ Q) : w_X9_fillGainsByLaw b1 a2 a3 σ R := by
  unfold w_X9_fillGainsByLaw at a b ⊢
  exact Exists.elim a (fun y1 y3 => Exists.elim b (fun y2 y4 => ⟨y1, cj_X9_fillGainsByLaw_3 hR _ _ _ _ y3 y4⟩))
set_option maxHeartbeats 4000000 in
theorem cj_X9_lawOf_4 {x_1 : Int32} {P Q R : Int32 → zSto → Prop} (hR : ∀ (z0 : Int32) (z1 : zSto), P z0 z1 → Q z0 z1 → R z0 z1) : ∀ (n1 n2 : Nat) (x_2 : Int32) (x_3 : Int32) (σ : zSto), w_X9_lawOf_4 x_1 P n1 x_2 x_3 σ → w_X9_lawOf_4 x_1 Q n2 x_2 x_3 σ → w_X9_lawOf_4 x_1 R n1 x_2 x_3 σ := by
  intro n1
  induction n1 with
  | zero => intro n2 x_2 x_3 σ a b; exact a.elim
  | succ n1 ih =>
    intro n2 x_2 x_3 σ a b
    cases n2 with
    | zero => exact b.elim
    | succ n2 =>
      unfold w_X9_lawOf_4 at a b ⊢
      exact ⟨fun y1 => hR _ _ (a.1 y1) (b.1 y1), fun y2 => ⟨(a.2 y2).1, ⟨(a.2 y2).2.1, ⟨fun y3 => fun y4 => fun y5 => ih _ _ _ _ ((((a.2 y2).2.2.1 y3) y4) y5) ((((b.2 y2).2.2.1 y3) y4) y5), fun y6 => fun y7 => fun y8 => ih _ _ _ _ ((((a.2 y2).2.2.2 y6) y7) y8) ((((b.2 y2).2.2.2 y6) y7) y8)⟩⟩⟩⟩
set_option maxHeartbeats 4000000 in
theorem cj_X9_lawOf {a1 : Int32} {σ : zSto} {P Q R : Int32 → zSto → Prop} (hR : ∀ (z0 : Int32) (z1 : zSto), P z0 z1 → Q z0 z1 → R z0 z1) (a : w_X9_lawOf a1 σ P) (b : w_X9_lawOf a1 σ Q) : w_X9_lawOf a1 σ R := by
  unfold w_X9_lawOf at a b ⊢
  exact Exists.elim a (fun y1 y3 => Exists.elim b (fun y2 y4 => ⟨y1, cj_X9_lawOf_4 hR _ _ _ _ _ y3 y4⟩))
set_option maxHeartbeats 4000000 in
theorem cj_X9_votesFor_5 {q_1 : Nat} {x_2 : Int32} {P Q R : Int32 → zSto → Prop} (hR : ∀ (z0 : Int32) (z1 : zSto), P z0 z1 → Q z0 z1 → R z0 z1) : ∀ (n1 n2 : Nat) (x_3 : Int32) (x_4 : Int32) (σ : zSto), w_X9_votesFor_5 q_1 x_2 P n1 x_3 x_4 σ → w_X9_votesFor_5 q_1 x_2 Q n2 x_3 x_4 σ → w_X9_votesFor_5 q_1 x_2 R n1 x_3 x_4 σ := by
  intro n1
  induction n1 with
  | zero => intro n2 x_3 x_4 σ a b; exact a.elim
  | succ n1 ih =>
    intro n2 x_3 x_4 σ a b
    cases n2 with
    | zero => exact b.elim
    | succ n2 =>
      unfold w_X9_votesFor_5 at a b ⊢
      exact ⟨fun y1 => hR _ _ (a.1 y1) (b.1 y1), fun y2 => cj_X9_lawOf (fun y3 y4 y5 y6 => ⟨fun y7 => fun y8 => fun y9 => fun y10 => fun y11 => ih _ _ _ _ (((((y5.1 y7) y8) y9) y10) y11) (((((y6.1 y7) y8) y9) y10) y11), fun y12 => fun y13 => fun y14 => fun y15 => fun y16 => ih _ _ _ _ (((((y5.2 y12) y13) y14) y15) y16) (((((y6.2 y12) y13) y14) y15) y16)⟩) (a.2 y2) (b.2 y2)⟩
set_option maxHeartbeats 4000000 in
theorem cj_X9_votesFor {b1 : Nat} {a2 : Int32} {σ : zSto} {P Q R : Int32 → zSto → Prop} (hR : ∀ (z0 : Int32) (z1 : zSto), P z0 z1 → Q z0 z1 → R z0 z1) (a : w_X9_votesFor b1 a2 σ P) (b : w_X9_votesFor b1 a2 σ Q) : w_X9_votesFor b1 a2 σ R := by
  unfold w_X9_votesFor at a b ⊢
  exact Exists.elim a (fun y1 y3 => Exists.elim b (fun y2 y4 => ⟨y1, cj_X9_votesFor_5 hR _ _ _ _ _ y3 y4⟩))
set_option maxHeartbeats 4000000 in
theorem cj_X9_vote_49 {x_4 : Int32} {q_5 : Nat} {P Q R : Int32 → zSto → Prop} (hR : ∀ (z0 : Int32) (z1 : zSto), P z0 z1 → Q z0 z1 → R z0 z1) : ∀ (n1 n2 : Nat) (x_6 : Int32) (x_7 : Int32) (x_8 : Int32) (σ : zSto), w_X9_vote_49 x_4 q_5 P n1 x_6 x_7 x_8 σ → w_X9_vote_49 x_4 q_5 Q n2 x_6 x_7 x_8 σ → w_X9_vote_49 x_4 q_5 R n1 x_6 x_7 x_8 σ := by
  intro n1
  induction n1 with
  | zero => intro n2 x_6 x_7 x_8 σ a b; exact a.elim
  | succ n1 ih =>
    intro n2 x_6 x_7 x_8 σ a b
    cases n2 with
    | zero => exact b.elim
    | succ n2 =>
      unfold w_X9_vote_49 at a b ⊢
      exact ⟨fun y1 => ⟨fun y2 => hR _ _ ((a.1 y1).1 y2) ((b.1 y1).1 y2), fun y3 => hR _ _ ((a.1 y1).2 y3) ((b.1 y1).2 y3)⟩, fun y4 => cj_X9_votesFor (fun y5 y6 y7 y8 => ⟨fun y9 => fun y10 => fun y11 => ih _ _ _ _ _ (((y7.1 y9) y10) y11) (((y8.1 y9) y10) y11), fun y12 => fun y13 => fun y14 => ih _ _ _ _ _ (((y7.2 y12) y13) y14) (((y8.2 y12) y13) y14)⟩) (a.2 y4) (b.2 y4)⟩
set_option maxHeartbeats 4000000 in
theorem cj_X9_vote {a1 : Int32} {a2 : Int32} {a3 : Int32} {a4 : Int32} {σ : zSto} {P Q R : Int32 → zSto → Prop} (hR : ∀ (z0 : Int32) (z1 : zSto), P z0 z1 → Q z0 z1 → R z0 z1) (a : w_X9_vote a1 a2 a3 a4 σ P) (b : w_X9_vote a1 a2 a3 a4 σ Q) : w_X9_vote a1 a2 a3 a4 σ R := by
  unfold w_X9_vote at a b ⊢
  exact cj_X8_lineAt (fun y1 y2 y3 y4 => ⟨fun y5 => hR _ _ (y3.1 y5) (y4.1 y5), fun y6 => fun y7 => ⟨((y3.2 y6) y7).1, ⟨fun y8 => hR _ _ (((y3.2 y6) y7).2.1 y8) (((y4.2 y6) y7).2.1 y8), fun y9 => cj_X9_isWeek (fun y10 y11 y12 y13 => fun y14 => ⟨fun y15 => cj_X9_fillGainsByLaw (fun y16 y17 y18 => Exists.elim y17 (fun y19 y21 => Exists.elim y18 (fun y20 y22 => ⟨y19, cj_X9_vote_49 hR _ _ _ _ _ _ y21 y22⟩))) ((y12 y14).1 y15) ((y13 y14).1 y15), fun y23 => hR _ _ ((y12 y14).2 y23) ((y13 y14).2 y23)⟩) (((y3.2 y6) y7).2.2 y9) (((y4.2 y6) y7).2.2 y9)⟩⟩⟩) a b
set_option maxHeartbeats 4000000 in
theorem cj_X10_lawFor_10 {x_1 : Int32} {x_2 : Int32} {P Q R : Int32 → zSto → Prop} (hR : ∀ (z0 : Int32) (z1 : zSto), P z0 z1 → Q z0 z1 → R z0 z1) : ∀ (n1 n2 : Nat) (x_3 : Int32) (x_4 : Int32) (x_5 : Int32) (σ : zSto), w_X10_lawFor_10 x_1 x_2 P n1 x_3 x_4 x_5 σ → w_X10_lawFor_10 x_1 x_2 Q n2 x_3 x_4 x_5 σ → w_X10_lawFor_10 x_1 x_2 R n1 x_3 x_4 x_5 σ := by
  intro n1
  induction n1 with
  | zero => intro n2 x_3 x_4 x_5 σ a b; exact a.elim
  | succ n1 ih =>
    intro n2 x_3 x_4 x_5 σ a b
    cases n2 with
    | zero => exact b.elim
    | succ n2 =>
      unfold w_X10_lawFor_10 at a b ⊢
      exact ⟨fun y1 => hR _ _ (a.1 y1) (b.1 y1), fun y2 => cj_X10_everyone (fun y3 y4 y5 y6 => cj_X10_go (fun y7 y8 y9 => cj_X10_gainNow (fun y10 y11 y12 y13 => ⟨fun y14 => cj_X10_greater (fun y15 y16 y17 y18 => fun y19 => fun y20 => ih _ _ _ _ _ ((y17 y19) y20) ((y18 y19) y20)) (y12.1 y14) (y13.1 y14), fun y21 => cj_X10_greater (fun y22 y23 y24 y25 => fun y26 => fun y27 => ih _ _ _ _ _ ((y24 y26) y27) ((y25 y26) y27)) (y12.2 y21) (y13.2 y21)⟩) y8 y9) y5 y6) (a.2 y2) (b.2 y2)⟩
set_option maxHeartbeats 4000000 in
theorem cj_X10_lawFor {a1 : Int32} {a2 : Int32} {σ : zSto} {P Q R : Int32 → zSto → Prop} (hR : ∀ (z0 : Int32) (z1 : zSto), P z0 z1 → Q z0 z1 → R z0 z1) (a : w_X10_lawFor a1 a2 σ P) (b : w_X10_lawFor a1 a2 σ Q) : w_X10_lawFor a1 a2 σ R := by
  unfold w_X10_lawFor at a b ⊢
  exact Exists.elim a (fun y1 y3 => Exists.elim b (fun y2 y4 => ⟨y1, cj_X10_lawFor_10 hR _ _ _ _ _ _ y3 y4⟩))
set_option maxHeartbeats 4000000 in
theorem cj_X9_fillGains_2 {q_1 : Nat} {x_2 : Int32} {P Q R : zSto → Prop} (hR : ∀ (z0 : zSto), P z0 → Q z0 → R z0) : ∀ (n1 n2 : Nat) (x_3 : Int32) (σ : zSto), w_X9_fillGains_2 q_1 x_2 P n1 x_3 σ → w_X9_fillGains_2 q_1 x_2 Q n2 x_3 σ → w_X9_fillGains_2 q_1 x_2 R n1 x_3 σ := by
  intro n1
  induction n1 with
  | zero => intro n2 x_3 σ a b; exact a.elim
  | succ n1 ih =>
    intro n2 x_3 σ a b
    cases n2 with
    | zero => exact b.elim
    | succ n2 =>
      unfold w_X9_fillGains_2 at a b ⊢
      exact cj_X0_riderSets (fun y1 y2 y3 y4 => ⟨fun y5 => hR _ (y3.1 y5) (y4.1 y5), fun y6 => cj_X5_byLaw (fun y7 y8 y9 => cj_X9_keepGains (fun y10 y11 y12 => fun y13 => fun y14 => ih _ _ _ ((y11 y13) y14) ((y12 y13) y14)) y8 y9) (y3.2 y6) (y4.2 y6)⟩) a b
set_option maxHeartbeats 4000000 in
theorem cj_X9_fillGains {b1 : Nat} {a2 : Int32} {σ : zSto} {P Q R : zSto → Prop} (hR : ∀ (z0 : zSto), P z0 → Q z0 → R z0) (a : w_X9_fillGains b1 a2 σ P) (b : w_X9_fillGains b1 a2 σ Q) : w_X9_fillGains b1 a2 σ R := by
  unfold w_X9_fillGains at a b ⊢
  exact Exists.elim a (fun y1 y3 => Exists.elim b (fun y2 y4 => ⟨y1, cj_X9_fillGains_2 hR _ _ _ _ y3 y4⟩))
set_option maxHeartbeats 4000000 in
theorem cj_X9_isAtRest_2 {q_1 : Nat} {x_2 : Int32} {P Q R : Int32 → zSto → Prop} (hR : ∀ (z0 : Int32) (z1 : zSto), P z0 z1 → Q z0 z1 → R z0 z1) : ∀ (n1 n2 : Nat) (x_3 : Int32) (σ : zSto), w_X9_isAtRest_2 q_1 x_2 P n1 x_3 σ → w_X9_isAtRest_2 q_1 x_2 Q n2 x_3 σ → w_X9_isAtRest_2 q_1 x_2 R n1 x_3 σ := by
  intro n1
  induction n1 with
  | zero => intro n2 x_3 σ a b; exact a.elim
  | succ n1 ih =>
    intro n2 x_3 σ a b
    cases n2 with
    | zero => exact b.elim
    | succ n2 =>
      unfold w_X9_isAtRest_2 at a b ⊢
      exact ⟨fun y1 => hR _ _ (a.1 y1) (b.1 y1), fun y2 => fun y3 => fun y4 => ⟨(((a.2 y2) y3) y4).1, ⟨(((a.2 y2) y3) y4).2.1, ⟨fun y5 => fun y6 => fun y7 => ih _ _ _ ((((((a.2 y2) y3) y4).2.2.1 y5) y6) y7) ((((((b.2 y2) y3) y4).2.2.1 y5) y6) y7), fun y8 => hR _ _ ((((a.2 y2) y3) y4).2.2.2 y8) ((((b.2 y2) y3) y4).2.2.2 y8)⟩⟩⟩⟩
set_option maxHeartbeats 4000000 in
theorem cj_X9_isAtRest {b1 : Nat} {a2 : Int32} {σ : zSto} {P Q R : Int32 → zSto → Prop} (hR : ∀ (z0 : Int32) (z1 : zSto), P z0 z1 → Q z0 z1 → R z0 z1) (a : w_X9_isAtRest b1 a2 σ P) (b : w_X9_isAtRest b1 a2 σ Q) : w_X9_isAtRest b1 a2 σ R := by
  unfold w_X9_isAtRest at a b ⊢
  exact Exists.elim a (fun y1 y3 => Exists.elim b (fun y2 y4 => ⟨y1, cj_X9_isAtRest_2 hR _ _ _ _ y3 y4⟩))
set_option maxHeartbeats 4000000 in
theorem cj_X9_rest_43 {x_3 : Int32} {q_4 : Nat} {P Q R : Int32 → zSto → Prop} (hR : ∀ (z0 : Int32) (z1 : zSto), P z0 z1 → Q z0 z1 → R z0 z1) : ∀ (n1 n2 : Nat) (x_5 : Int32) (x_6 : Int32) (σ : zSto), w_X9_rest_43 x_3 q_4 P n1 x_5 x_6 σ → w_X9_rest_43 x_3 q_4 Q n2 x_5 x_6 σ → w_X9_rest_43 x_3 q_4 R n1 x_5 x_6 σ := by
  intro n1
  induction n1 with
  | zero => intro n2 x_5 x_6 σ a b; exact a.elim
  | succ n1 ih =>
    intro n2 x_5 x_6 σ a b
    cases n2 with
    | zero => exact b.elim
    | succ n2 =>
      unfold w_X9_rest_43 at a b ⊢
      exact cj_X0_riderSets (fun y1 y2 y3 y4 => ⟨fun y5 => ⟨fun y6 => hR _ _ ((y3.1 y5).1 y6) ((y4.1 y5).1 y6), fun y7 => hR _ _ ((y3.1 y5).2 y7) ((y4.1 y5).2 y7)⟩, fun y8 => cj_X9_isAtRest (fun y9 y10 y11 y12 => fun y13 => ⟨fun y14 => fun y15 => fun y16 => ih _ _ _ _ ((((y11 y13).1 y14) y15) y16) ((((y12 y13).1 y14) y15) y16), fun y17 => ⟨fun y18 => fun y19 => fun y20 => fun y21 => fun y22 => ih _ _ _ _ (((((((y11 y13).2 y17).1 y18) y19) y20) y21) y22) (((((((y12 y13).2 y17).1 y18) y19) y20) y21) y22), fun y23 => hR _ _ (((y11 y13).2 y17).2 y23) (((y12 y13).2 y17).2 y23)⟩⟩) (y3.2 y8) (y4.2 y8)⟩) a b
set_option maxHeartbeats 4000000 in
theorem cj_X9_rest {a1 : Int32} {a2 : Int32} {a3 : Int32} {σ : zSto} {P Q R : Int32 → zSto → Prop} (hR : ∀ (z0 : Int32) (z1 : zSto), P z0 z1 → Q z0 z1 → R z0 z1) (a : w_X9_rest a1 a2 a3 σ P) (b : w_X9_rest a1 a2 a3 σ Q) : w_X9_rest a1 a2 a3 σ R := by
  unfold w_X9_rest at a b ⊢
  exact cj_X8_lineAt (fun y1 y2 y3 y4 => ⟨fun y5 => hR _ _ (y3.1 y5) (y4.1 y5), fun y6 => fun y7 => ⟨((y3.2 y6) y7).1, cj_X9_isWeek (fun y8 y9 y10 y11 => fun y12 => ⟨fun y13 => hR _ _ ((y10 y12).1 y13) ((y11 y12).1 y13), fun y14 => ⟨fun y15 => cj_X9_fillGains (fun y16 y17 y18 => Exists.elim y17 (fun y19 y21 => Exists.elim y18 (fun y20 y22 => ⟨y19, cj_X9_rest_43 hR _ _ _ _ _ y21 y22⟩))) (((y10 y12).2 y14).1 y15) (((y11 y12).2 y14).1 y15), fun y23 => hR _ _ (((y10 y12).2 y14).2 y23) (((y11 y12).2 y14).2 y23)⟩⟩) ((y3.2 y6) y7).2 ((y4.2 y6) y7).2⟩⟩) a b
set_option maxHeartbeats 4000000 in
theorem cj_X10_isRest_2 {x_1 : Int32} {P Q R : Int32 → zSto → Prop} (hR : ∀ (z0 : Int32) (z1 : zSto), P z0 z1 → Q z0 z1 → R z0 z1) : ∀ (n1 n2 : Nat) (x_2 : Int32) (σ : zSto), w_X10_isRest_2 x_1 P n1 x_2 σ → w_X10_isRest_2 x_1 Q n2 x_2 σ → w_X10_isRest_2 x_1 R n1 x_2 σ := by
  intro n1
  induction n1 with
  | zero => intro n2 x_2 σ a b; exact a.elim
  | succ n1 ih =>
    intro n2 x_2 σ a b
    cases n2 with
    | zero => exact b.elim
    | succ n2 =>
      unfold w_X10_isRest_2 at a b ⊢
      exact ⟨fun y1 => hR _ _ (a.1 y1) (b.1 y1), fun y2 => cj_X10_gainOf (fun y3 y4 y5 y6 => cj_X10_gainOf (fun y7 y8 y9 y10 => ⟨fun y11 => fun y12 => fun y13 => ih _ _ _ (((y9.1 y11) y12) y13) (((y10.1 y11) y12) y13), fun y14 => hR _ _ (y9.2 y14) (y10.2 y14)⟩) y5 y6) (a.2 y2) (b.2 y2)⟩
set_option maxHeartbeats 4000000 in
theorem cj_X10_isRest {a1 : Int32} {σ : zSto} {P Q R : Int32 → zSto → Prop} (hR : ∀ (z0 : Int32) (z1 : zSto), P z0 z1 → Q z0 z1 → R z0 z1) (a : w_X10_isRest a1 σ P) (b : w_X10_isRest a1 σ Q) : w_X10_isRest a1 σ R := by
  unfold w_X10_isRest at a b ⊢
  exact Exists.elim a (fun y1 y3 => Exists.elim b (fun y2 y4 => ⟨y1, cj_X10_isRest_2 hR _ _ _ _ y3 y4⟩))
set_option maxHeartbeats 4000000 in
theorem cj_X10_rest_23 {x_3 : Int32} {P Q R : Int32 → zSto → Prop} (hR : ∀ (z0 : Int32) (z1 : zSto), P z0 z1 → Q z0 z1 → R z0 z1) : ∀ (n1 n2 : Nat) (x_4 : Int32) (x_5 : Int32) (σ : zSto), w_X10_rest_23 x_3 P n1 x_4 x_5 σ → w_X10_rest_23 x_3 Q n2 x_4 x_5 σ → w_X10_rest_23 x_3 R n1 x_4 x_5 σ := by
  intro n1
  induction n1 with
  | zero => intro n2 x_4 x_5 σ a b; exact a.elim
  | succ n1 ih =>
    intro n2 x_4 x_5 σ a b
    cases n2 with
    | zero => exact b.elim
    | succ n2 =>
      unfold w_X10_rest_23 at a b ⊢
      exact cj_X10_everyone (fun y1 y2 y3 y4 => ⟨fun y5 => ⟨fun y6 => hR _ _ ((y3.1 y5).1 y6) ((y4.1 y5).1 y6), fun y7 => hR _ _ ((y3.1 y5).2 y7) ((y4.1 y5).2 y7)⟩, fun y8 => cj_X10_isRest (fun y9 y10 y11 y12 => fun y13 => ⟨fun y14 => fun y15 => fun y16 => ih _ _ _ _ ((((y11 y13).1 y14) y15) y16) ((((y12 y13).1 y14) y15) y16), fun y17 => ⟨fun y18 => fun y19 => fun y20 => fun y21 => fun y22 => ih _ _ _ _ (((((((y11 y13).2 y17).1 y18) y19) y20) y21) y22) (((((((y12 y13).2 y17).1 y18) y19) y20) y21) y22), fun y23 => hR _ _ (((y11 y13).2 y17).2 y23) (((y12 y13).2 y17).2 y23)⟩⟩) (y3.2 y8) (y4.2 y8)⟩) a b
set_option maxHeartbeats 4000000 in
theorem cj_X10_rest {a1 : Int32} {a2 : Int32} {a3 : Int32} {σ : zSto} {P Q R : Int32 → zSto → Prop} (hR : ∀ (z0 : Int32) (z1 : zSto), P z0 z1 → Q z0 z1 → R z0 z1) (a : w_X10_rest a1 a2 a3 σ P) (b : w_X10_rest a1 a2 a3 σ Q) : w_X10_rest a1 a2 a3 σ R := by
  unfold w_X10_rest at a b ⊢
  exact fun y1 => fun y2 => cj_X10_hand (fun y3 y4 y5 y6 => fun y7 => ⟨fun y8 => Exists.elim ((y5 y7).1 y8) (fun y9 y11 => Exists.elim ((y6 y7).1 y8) (fun y10 y12 => ⟨y9, cj_X10_rest_23 hR _ _ _ _ _ y11 y12⟩)), fun y13 => hR _ _ ((y5 y7).2 y13) ((y6 y7).2 y13)⟩) ((a y1) y2) ((b y1) y2)
set_option maxHeartbeats 4000000 in
theorem cj_X5_richest_7 {q_1 : Nat} {P Q R : Int32 → zSto → Prop} (hR : ∀ (z0 : Int32) (z1 : zSto), P z0 z1 → Q z0 z1 → R z0 z1) : ∀ (n1 n2 : Nat) (x_2 : Int32) (x_3 : Int32) (x_4 : Int32) (σ : zSto), w_X5_richest_7 q_1 P n1 x_2 x_3 x_4 σ → w_X5_richest_7 q_1 Q n2 x_2 x_3 x_4 σ → w_X5_richest_7 q_1 R n1 x_2 x_3 x_4 σ := by
  intro n1
  induction n1 with
  | zero => intro n2 x_2 x_3 x_4 σ a b; exact a.elim
  | succ n1 ih =>
    intro n2 x_2 x_3 x_4 σ a b
    cases n2 with
    | zero => exact b.elim
    | succ n2 =>
      unfold w_X5_richest_7 at a b ⊢
      exact ⟨fun y1 => hR _ _ (a.1 y1) (b.1 y1), fun y2 => ⟨(a.2 y2).1, ⟨fun y3 => fun y4 => fun y5 => ih _ _ _ _ _ ((((a.2 y2).2.1 y3) y4) y5) ((((b.2 y2).2.1 y3) y4) y5), fun y6 => ⟨((a.2 y2).2.2 y6).1, fun y7 => fun y8 => fun y9 => fun y10 => ih _ _ _ _ _ ((((((a.2 y2).2.2 y6).2 y7) y8) y9) y10) ((((((b.2 y2).2.2 y6).2 y7) y8) y9) y10)⟩⟩⟩⟩
set_option maxHeartbeats 4000000 in
theorem cj_X5_richest {b1 : Nat} {σ : zSto} {P Q R : Int32 → zSto → Prop} (hR : ∀ (z0 : Int32) (z1 : zSto), P z0 z1 → Q z0 z1 → R z0 z1) (a : w_X5_richest b1 σ P) (b : w_X5_richest b1 σ Q) : w_X5_richest b1 σ R := by
  unfold w_X5_richest at a b ⊢
  exact Exists.elim a (fun y1 y3 => Exists.elim b (fun y2 y4 => ⟨y1, cj_X5_richest_7 hR _ _ _ _ _ _ y3 y4⟩))
set_option maxHeartbeats 4000000 in
theorem cj_X9_sparePost_23 {q_1 : Nat} {x_2 : Int32} {x_3 : Int32} {x_4 : Int32} {P Q R : Int32 → zSto → Prop} (hR : ∀ (z0 : Int32) (z1 : zSto), P z0 z1 → Q z0 z1 → R z0 z1) : ∀ (n1 n2 : Nat) (x_5 : Int32) (x_6 : Int32) (x_7 : Int32) (σ : zSto), w_X9_sparePost_23 q_1 x_2 x_3 x_4 P n1 x_5 x_6 x_7 σ → w_X9_sparePost_23 q_1 x_2 x_3 x_4 Q n2 x_5 x_6 x_7 σ → w_X9_sparePost_23 q_1 x_2 x_3 x_4 R n1 x_5 x_6 x_7 σ := by
  intro n1
  induction n1 with
  | zero => intro n2 x_5 x_6 x_7 σ a b; exact a.elim
  | succ n1 ih =>
    intro n2 x_5 x_6 x_7 σ a b
    cases n2 with
    | zero => exact b.elim
    | succ n2 =>
      unfold w_X9_sparePost_23 at a b ⊢
      exact ⟨fun y1 => hR _ _ (a.1 y1) (b.1 y1), fun y2 => ⟨(a.2 y2).1, fun y3 => fun y4 => cj_X5_byLaw (fun y5 y6 y7 => ⟨y6.1, ⟨y6.2.1, fun y8 => fun y9 => ⟨fun y10 => fun y11 => fun y12 => ih _ _ _ _ _ (((((y6.2.2 y8) y9).1 y10) y11) y12) (((((y7.2.2 y8) y9).1 y10) y11) y12), fun y13 => fun y14 => fun y15 => fun y16 => fun y17 => ih _ _ _ _ _ (((((((y6.2.2 y8) y9).2 y13) y14) y15) y16) y17) (((((((y7.2.2 y8) y9).2 y13) y14) y15) y16) y17)⟩⟩⟩) (((a.2 y2).2 y3) y4) (((b.2 y2).2 y3) y4)⟩⟩
set_option maxHeartbeats 4000000 in
theorem cj_X9_sparePost {b1 : Nat} {a2 : Int32} {a3 : Int32} {a4 : Int32} {σ : zSto} {P Q R : Int32 → zSto → Prop} (hR : ∀ (z0 : Int32) (z1 : zSto), P z0 z1 → Q z0 z1 → R z0 z1) (a : w_X9_sparePost b1 a2 a3 a4 σ P) (b : w_X9_sparePost b1 a2 a3 a4 σ Q) : w_X9_sparePost b1 a2 a3 a4 σ R := by
  unfold w_X9_sparePost at a b ⊢
  exact fun y1 => fun y2 => cj_X0_copyFrom (fun y3 y4 y5 => Exists.elim y4 (fun y6 y8 => Exists.elim y5 (fun y7 y9 => ⟨y6, cj_X9_sparePost_23 hR _ _ _ _ _ _ y8 y9⟩))) ((a y1) y2) ((b y1) y2)
set_option maxHeartbeats 4000000 in
theorem cj_X9_rich {a1 : Int32} {a2 : Int32} {a3 : Int32} {a4 : Int32} {a5 : Int32} {σ : zSto} {P Q R : Int32 → zSto → Prop} (hR : ∀ (z0 : Int32) (z1 : zSto), P z0 z1 → Q z0 z1 → R z0 z1) (a : w_X9_rich a1 a2 a3 a4 a5 σ P) (b : w_X9_rich a1 a2 a3 a4 a5 σ Q) : w_X9_rich a1 a2 a3 a4 a5 σ R := by
  unfold w_X9_rich at a b ⊢
  exact cj_X9_ridden (fun y1 y2 y3 y4 => ⟨fun y5 => hR _ _ (y3.1 y5) (y4.1 y5), fun y6 => fun y7 => ⟨((y3.2 y6) y7).1, ⟨fun y8 => cj_X5_richest (fun y9 y10 y11 y12 => hR _ _ y11 y12) (((y3.2 y6) y7).2.1 y8) (((y4.2 y6) y7).2.1 y8), fun y13 => cj_X9_sparePost (fun y14 y15 y16 y17 => hR _ _ y16 y17) (((y3.2 y6) y7).2.2 y13) (((y4.2 y6) y7).2.2 y13)⟩⟩⟩) a b
set_option maxHeartbeats 4000000 in
theorem cj_X9_bestChoice_11 {x_1 : Int32} {x_2 : Int32} {x_3 : Int32} {q_4 : Nat} {m_4 : Nat} {x_6 : Int32} {P Q R : Int32 → zSto → Prop} (hR : ∀ (z0 : Int32) (z1 : zSto), P z0 z1 → Q z0 z1 → R z0 z1) : ∀ (n1 n2 : Nat) (x_7 : Int32) (x_8 : Int32) (x_9 : Int32) (σ : zSto), w_X9_bestChoice_11 x_1 x_2 x_3 q_4 m_4 x_6 P n1 x_7 x_8 x_9 σ → w_X9_bestChoice_11 x_1 x_2 x_3 q_4 m_4 x_6 Q n2 x_7 x_8 x_9 σ → w_X9_bestChoice_11 x_1 x_2 x_3 q_4 m_4 x_6 R n1 x_7 x_8 x_9 σ := by
  intro n1
  induction n1 with
  | zero => intro n2 x_7 x_8 x_9 σ a b; exact a.elim
  | succ n1 ih =>
    intro n2 x_7 x_8 x_9 σ a b
    cases n2 with
    | zero => exact b.elim
    | succ n2 =>
      unfold w_X9_bestChoice_11 at a b ⊢
      exact ⟨fun y1 => hR _ _ (a.1 y1) (b.1 y1), fun y2 => ⟨(a.2 y2).1, fun y3 => fun y4 => cj_X5_byLaw (fun y5 y6 y7 => ⟨y6.1, ⟨fun y8 => fun y9 => fun y10 => ih _ _ _ _ _ (((y6.2.1 y8) y9) y10) (((y7.2.1 y8) y9) y10), fun y11 => ⟨(y6.2.2 y11).1, fun y12 => fun y13 => fun y14 => fun y15 => ih _ _ _ _ _ (((((y6.2.2 y11).2 y12) y13) y14) y15) (((((y7.2.2 y11).2 y12) y13) y14) y15)⟩⟩⟩) (((a.2 y2).2 y3) y4) (((b.2 y2).2 y3) y4)⟩⟩
set_option maxHeartbeats 4000000 in
theorem cj_X9_bestChoice {a1 : Int32} {a2 : Int32} {a3 : Int32} {b4 : Nat} {n4 : Nat} {a5 : Int32} {a6 : Int32} {σ : zSto} {P Q R : Int32 → zSto → Prop} (hR : ∀ (z0 : Int32) (z1 : zSto), P z0 z1 → Q z0 z1 → R z0 z1) (a : w_X9_bestChoice a1 a2 a3 b4 n4 a5 a6 σ P) (b : w_X9_bestChoice a1 a2 a3 b4 n4 a5 a6 σ Q) : w_X9_bestChoice a1 a2 a3 b4 n4 a5 a6 σ R := by
  unfold w_X9_bestChoice at a b ⊢
  exact Exists.elim a (fun y1 y3 => Exists.elim b (fun y2 y4 => ⟨y1, cj_X9_bestChoice_11 hR _ _ _ _ _ _ y3 y4⟩))
set_option maxHeartbeats 4000000 in
theorem cj_X9_bid {a1 : Int32} {a2 : Int32} {a3 : Int32} {a4 : Int32} {σ : zSto} {P Q R : Int32 → zSto → Prop} (hR : ∀ (z0 : Int32) (z1 : zSto), P z0 z1 → Q z0 z1 → R z0 z1) (a : w_X9_bid a1 a2 a3 a4 σ P) (b : w_X9_bid a1 a2 a3 a4 σ Q) : w_X9_bid a1 a2 a3 a4 σ R := by
  unfold w_X9_bid at a b ⊢
  exact cj_X8_lineAt (fun y1 y2 y3 y4 => ⟨fun y5 => hR _ _ (y3.1 y5) (y4.1 y5), fun y6 => fun y7 => ⟨((y3.2 y6) y7).1, cj_X9_isWeek (fun y8 y9 y10 y11 => fun y12 => ⟨fun y13 => hR _ _ ((y10 y12).1 y13) ((y11 y12).1 y13), fun y14 => cj_X0_hasRider (fun y15 y16 y17 y18 => fun y19 => ⟨fun y20 => cj_X0_copyFrom (fun y21 y22 y23 => ⟨fun y24 => cj_X9_bestChoice (fun y25 y26 y27 y28 => hR _ _ y27 y28) (y22.1 y24) (y23.1 y24), ⟨fun y29 => cj_X9_bestChoice (fun y30 y31 y32 y33 => hR _ _ y32 y33) (y22.2.1 y29) (y23.2.1 y29), ⟨fun y34 => cj_X9_bestChoice (fun y35 y36 y37 y38 => hR _ _ y37 y38) (y22.2.2.1 y34) (y23.2.2.1 y34), fun y39 => hR _ _ (y22.2.2.2 y39) (y23.2.2.2 y39)⟩⟩⟩) ((y17 y19).1 y20) ((y18 y19).1 y20), fun y40 => hR _ _ ((y17 y19).2 y40) ((y18 y19).2 y40)⟩) ((y10 y12).2 y14) ((y11 y12).2 y14)⟩) ((y3.2 y6) y7).2 ((y4.2 y6) y7).2⟩⟩) a b
set_option maxHeartbeats 4000000 in
theorem cj_X10_calm_42 {x_3 x_4 : Int32} {P Q R : Int32 → zSto → Prop} (hR : ∀ (z0 : Int32) (z1 : zSto), P z0 z1 → Q z0 z1 → R z0 z1) {KP KQ KR : Int32 → zSto → Prop} (hK : ∀ (z0 : Int32) (z1 : zSto), KP z0 z1 → KQ z0 z1 → KR z0 z1) : ∀ (n1 n2 : Nat) (x_5 : Int32) (σ : zSto), w_X10_calm_42 x_3 x_4 P KP n1 x_5 σ → w_X10_calm_42 x_3 x_4 Q KQ n2 x_5 σ → w_X10_calm_42 x_3 x_4 R KR n1 x_5 σ := by
  intro n1
  induction n1 with
  | zero => intro n2 x_5 σ a b; exact a.elim
  | succ n1 ih =>
    intro n2 x_5 σ a b
    cases n2 with
    | zero => exact b.elim
    | succ n2 =>
      unfold w_X10_calm_42 at a b ⊢
      exact cj_X10_everyone (fun r7 σ6 p q => ⟨fun y x8 e8 => hK _ _ (p.1 y x8 e8) (q.1 y x8 e8), fun y => cj_X10_ones (fun r10 σ9 p q => ⟨fun y x11 e11 => ih _ _ _ (p.1 y x11 e11) (q.1 y x11 e11), fun y => cj_X10_everyone (fun r13 σ12 p q => cj_X10_isCalm (fun r15 σ14 p q => fun o => ⟨fun y x16 e16 => ih _ _ _ ((p o).1 y x16 e16) ((q o).1 y x16 e16), fun y => hR _ _ ((p o).2 y) ((q o).2 y)⟩) p q) (p.2 y) (q.2 y)⟩) (p.2 y) (q.2 y)⟩) a b
set_option maxHeartbeats 4000000 in
theorem cj_X10_calm_30 {x_3 : Int32} {P Q R : Int32 → zSto → Prop} (hR : ∀ (z0 : Int32) (z1 : zSto), P z0 z1 → Q z0 z1 → R z0 z1) : ∀ (n1 n2 : Nat) (x_4 : Int32) (σ : zSto), w_X10_calm_30 x_3 P n1 x_4 σ → w_X10_calm_30 x_3 Q n2 x_4 σ → w_X10_calm_30 x_3 R n1 x_4 σ := by
  intro n1
  induction n1 with
  | zero => intro n2 x_4 σ a b; exact a.elim
  | succ n1 ih =>
    intro n2 x_4 σ a b
    cases n2 with
    | zero => exact b.elim
    | succ n2 =>
      unfold w_X10_calm_30 at a b ⊢
      exact ⟨fun y => hR _ _ (a.1 y) (b.1 y), fun y => Exists.elim (a.2 y) (fun m1 p => Exists.elim (b.2 y) (fun m2 q => ⟨m1, cj_X10_calm_42 hR (fun z0 σz p q => ih n2 z0 σz p q) m1 m2 _ _ p q⟩))⟩
set_option maxHeartbeats 4000000 in
theorem cj_X10_calm {a1 a2 a3 : Int32} {σ : zSto} {P Q R : Int32 → zSto → Prop} (hR : ∀ (z0 : Int32) (z1 : zSto), P z0 z1 → Q z0 z1 → R z0 z1) (a : w_X10_calm a1 a2 a3 σ P) (b : w_X10_calm a1 a2 a3 σ Q) : w_X10_calm a1 a2 a3 σ R := by
  unfold w_X10_calm at a b ⊢
  exact fun σ1 e1 => cj_X10_in (fun r3 σ2 p q => fun o => ⟨fun y => hR _ _ ((p o).1 y) ((q o).1 y), fun y => cj_X10_hand (fun r5 σ4 p q => fun o => ⟨fun y => Exists.elim ((p o).1 y) (fun m1 x => Exists.elim ((q o).1 y) (fun m2 z => ⟨m1, cj_X10_calm_30 hR m1 m2 _ _ x z⟩)), fun y => hR _ _ ((p o).2 y) ((q o).2 y)⟩) ((p o).2 y) ((q o).2 y)⟩) (a σ1 e1) (b σ1 e1)
