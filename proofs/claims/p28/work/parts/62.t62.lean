/-! two promises of one call make one: line, post, rider, pull, seen -/
set_option maxHeartbeats 4000000 in
theorem cj_X8_has {t : Nat} {a1 : Int32} {a2 : Int32} {σ : zSto} {P Q R : Int32 → zSto → Prop} (hR : ∀ (z0 : Int32) (z1 : zSto), P z0 z1 → Q z0 z1 → R z0 z1) (a : w_X8_has t a1 a2 σ P) (b : w_X8_has t a1 a2 σ Q) : w_X8_has t a1 a2 σ R := by
  unfold w_X8_has at a b ⊢
  exact ⟨fun y1 => hR _ _ (a.1 y1) (b.1 y1), fun y2 => ⟨(a.2 y2).1, ⟨fun y3 => hR _ _ ((a.2 y2).2.1 y3) ((b.2 y2).2.1 y3), fun y4 => ⟨fun y5 => hR _ _ (((a.2 y2).2.2 y4).1 y5) (((b.2 y2).2.2 y4).1 y5), fun y6 => hR _ _ (((a.2 y2).2.2 y4).2 y6) (((b.2 y2).2.2 y4).2 y6)⟩⟩⟩⟩
set_option maxHeartbeats 4000000 in
theorem cj_X8_lineAt {t : Nat} {a1 : Int32} {σ : zSto} {P Q R : Option Nat → zSto → Prop} (hR : ∀ (z0 : Option Nat) (z1 : zSto), P z0 z1 → Q z0 z1 → R z0 z1) (a : w_X8_lineAt t a1 σ P) (b : w_X8_lineAt t a1 σ Q) : w_X8_lineAt t a1 σ R := by
  unfold w_X8_lineAt at a b ⊢
  exact cj_X8_has (fun y1 y2 y3 y4 => fun y5 => ⟨fun y6 => hR _ _ ((y3 y5).1 y6) ((y4 y5).1 y6), fun y7 => ⟨((y3 y5).2 y7).1, fun y8 => fun y9 => ⟨((((y3 y5).2 y7).2 y8) y9).1, hR _ _ ((((y3 y5).2 y7).2 y8) y9).2 ((((y4 y5).2 y7).2 y8) y9).2⟩⟩⟩) a b
set_option maxHeartbeats 4000000 in
theorem cj_X0_stations_4 {q_0 : Nat} {P Q R : Int32 → zSto → Prop} (hR : ∀ (z0 : Int32) (z1 : zSto), P z0 z1 → Q z0 z1 → R z0 z1) : ∀ (n1 n2 : Nat) (x_1 : Int32) (x_2 : Int32) (σ : zSto), w_X0_stations_4 q_0 P n1 x_1 x_2 σ → w_X0_stations_4 q_0 Q n2 x_1 x_2 σ → w_X0_stations_4 q_0 R n1 x_1 x_2 σ := by
  intro n1
  induction n1 with
  | zero => intro n2 x_1 x_2 σ a b; exact a.elim
  | succ n1 ih =>
    intro n2 x_1 x_2 σ a b
    cases n2 with
    | zero => exact b.elim
    | succ n2 =>
      unfold w_X0_stations_4 at a b ⊢
      exact ⟨fun y1 => hR _ _ (a.1 y1) (b.1 y1), fun y2 => ⟨(a.2 y2).1, ⟨fun y3 => fun y4 => fun y5 => fun y6 => fun y7 => ih _ _ _ _ ((((((a.2 y2).2.1 y3) y4) y5) y6) y7) ((((((b.2 y2).2.1 y3) y4) y5) y6) y7), fun y8 => fun y9 => fun y10 => fun y11 => fun y12 => ih _ _ _ _ ((((((a.2 y2).2.2 y8) y9) y10) y11) y12) ((((((b.2 y2).2.2 y8) y9) y10) y11) y12)⟩⟩⟩
set_option maxHeartbeats 4000000 in
theorem cj_X0_stations {t : Nat} {σ : zSto} {P Q R : Int32 → zSto → Prop} (hR : ∀ (z0 : Int32) (z1 : zSto), P z0 z1 → Q z0 z1 → R z0 z1) (a : w_X0_stations t σ P) (b : w_X0_stations t σ Q) : w_X0_stations t σ R := by
  unfold w_X0_stations at a b ⊢
  exact Exists.elim a (fun y1 y3 => Exists.elim b (fun y2 y4 => ⟨y1, cj_X0_stations_4 hR _ _ _ _ _ y3 y4⟩))
set_option maxHeartbeats 4000000 in
theorem cj_X9_line {a1 : Int32} {a2 : Int32} {σ : zSto} {P Q R : Int32 → zSto → Prop} (hR : ∀ (z0 : Int32) (z1 : zSto), P z0 z1 → Q z0 z1 → R z0 z1) (a : w_X9_line a1 a2 σ P) (b : w_X9_line a1 a2 σ Q) : w_X9_line a1 a2 σ R := by
  unfold w_X9_line at a b ⊢
  exact cj_X8_lineAt (fun y1 y2 y3 y4 => ⟨fun y5 => hR _ _ (y3.1 y5) (y4.1 y5), fun y6 => fun y7 => ⟨((y3.2 y6) y7).1, ⟨fun y8 => hR _ _ (((y3.2 y6) y7).2.1 y8) (((y4.2 y6) y7).2.1 y8), ⟨fun y9 => hR _ _ (((y3.2 y6) y7).2.2.1 y9) (((y4.2 y6) y7).2.2.1 y9), ⟨fun y10 => hR _ _ (((y3.2 y6) y7).2.2.2.1 y10) (((y4.2 y6) y7).2.2.2.1 y10), ⟨fun y11 => hR _ _ (((y3.2 y6) y7).2.2.2.2.1 y11) (((y4.2 y6) y7).2.2.2.2.1 y11), ⟨fun y12 => hR _ _ (((y3.2 y6) y7).2.2.2.2.2.1 y12) (((y4.2 y6) y7).2.2.2.2.2.1 y12), ⟨fun y13 => hR _ _ (((y3.2 y6) y7).2.2.2.2.2.2.1 y13) (((y4.2 y6) y7).2.2.2.2.2.2.1 y13), ⟨fun y14 => hR _ _ (((y3.2 y6) y7).2.2.2.2.2.2.2.1 y14) (((y4.2 y6) y7).2.2.2.2.2.2.2.1 y14), ⟨fun y15 => cj_X0_stations (fun y16 y17 y18 y19 => hR _ _ y18 y19) (((y3.2 y6) y7).2.2.2.2.2.2.2.2.1 y15) (((y4.2 y6) y7).2.2.2.2.2.2.2.2.1 y15), fun y20 => hR _ _ (((y3.2 y6) y7).2.2.2.2.2.2.2.2.2 y20) (((y4.2 y6) y7).2.2.2.2.2.2.2.2.2 y20)⟩⟩⟩⟩⟩⟩⟩⟩⟩⟩) a b
set_option maxHeartbeats 4000000 in
theorem cj_X10_of {a1 : Int32} {σ : zSto} {P Q R : Int32 → zSto → Prop} (hR : ∀ (z0 : Int32) (z1 : zSto), P z0 z1 → Q z0 z1 → R z0 z1) (a : w_X10_of a1 σ P) (b : w_X10_of a1 σ Q) : w_X10_of a1 σ R := by
  unfold w_X10_of at a b ⊢
  exact ⟨a.1, hR _ _ a.2 b.2⟩
set_option maxHeartbeats 4000000 in
theorem cj_X10_postOf {a1 : Int32} {a2 : Int32} {σ : zSto} {P Q R : Int32 → zSto → Prop} (hR : ∀ (z0 : Int32) (z1 : zSto), P z0 z1 → Q z0 z1 → R z0 z1) (a : w_X10_postOf a1 a2 σ P) (b : w_X10_postOf a1 a2 σ Q) : w_X10_postOf a1 a2 σ R := by
  unfold w_X10_postOf at a b ⊢
  exact cj_X10_of (fun y1 y2 y3 y4 => hR _ _ y3 y4) a b
set_option maxHeartbeats 4000000 in
theorem cj_X10_poundsIn {a1 : Int32} {a2 : Int32} {σ : zSto} {P Q R : Int32 → zSto → Prop} (hR : ∀ (z0 : Int32) (z1 : zSto), P z0 z1 → Q z0 z1 → R z0 z1) (a : w_X10_poundsIn a1 a2 σ P) (b : w_X10_poundsIn a1 a2 σ Q) : w_X10_poundsIn a1 a2 σ R := by
  unfold w_X10_poundsIn at a b ⊢
  exact cj_X10_postOf (fun y1 y2 y3 y4 => cj_X10_of (fun y5 y6 y7 y8 => cj_X10_greater (fun y9 y10 y11 y12 => hR _ _ y11 y12) y7 y8) y3 y4) a b
set_option maxHeartbeats 4000000 in
theorem cj_X10_hand_56 {x_2 : Int32} {P Q R : Int32 → zSto → Prop} (hR : ∀ (z0 : Int32) (z1 : zSto), P z0 z1 → Q z0 z1 → R z0 z1) : ∀ (n1 n2 : Nat) (x_3 : Int32) (σ : zSto), w_X10_hand_56 x_2 P n1 x_3 σ → w_X10_hand_56 x_2 Q n2 x_3 σ → w_X10_hand_56 x_2 R n1 x_3 σ := by
  intro n1
  induction n1 with
  | zero => intro n2 x_3 σ a b; exact a.elim
  | succ n1 ih =>
    intro n2 x_3 σ a b
    cases n2 with
    | zero => exact b.elim
    | succ n2 =>
      unfold w_X10_hand_56 at a b ⊢
      exact ⟨fun y1 => hR _ _ (a.1 y1) (b.1 y1), fun y2 => cj_X10_postOf (fun y3 y4 y5 y6 => ⟨y5.1, fun y7 => fun y8 => cj_X10_poundsIn (fun y9 y10 y11 y12 => ⟨y11.1, fun y13 => fun y14 => cj_X10_of (fun y15 y16 y17 y18 => cj_X10_postOf (fun y19 y20 y21 y22 => cj_X10_postOf (fun y23 y24 y25 y26 => ⟨fun y27 => ⟨(y25.1 y27).1, fun y28 => fun y29 => fun y30 => fun y31 => ih _ _ _ (((((y25.1 y27).2 y28) y29) y30) y31) (((((y26.1 y27).2 y28) y29) y30) y31)⟩, fun y32 => ⟨fun y33 => ⟨((y25.2 y32).1 y33).1, fun y34 => fun y35 => fun y36 => fun y37 => ih _ _ _ ((((((y25.2 y32).1 y33).2 y34) y35) y36) y37) ((((((y26.2 y32).1 y33).2 y34) y35) y36) y37)⟩, fun y38 => cj_X10_postOf (fun y39 y40 y41 y42 => ⟨y41.1, fun y43 => fun y44 => fun y45 => fun y46 => ih _ _ _ ((((y41.2 y43) y44) y45) y46) ((((y42.2 y43) y44) y45) y46)⟩) ((y25.2 y32).2 y38) ((y26.2 y32).2 y38)⟩⟩) y21 y22) y17 y18) ((y11.2 y13) y14) ((y12.2 y13) y14)⟩) ((y5.2 y7) y8) ((y6.2 y7) y8)⟩) (a.2 y2) (b.2 y2)⟩
set_option maxHeartbeats 4000000 in
theorem cj_X10_hand {a1 : Int32} {a2 : Int32} {σ : zSto} {P Q R : Int32 → zSto → Prop} (hR : ∀ (z0 : Int32) (z1 : zSto), P z0 z1 → Q z0 z1 → R z0 z1) (a : w_X10_hand a1 a2 σ P) (b : w_X10_hand a1 a2 σ Q) : w_X10_hand a1 a2 σ R := by
  unfold w_X10_hand at a b ⊢
  exact cj_X10_is (fun y1 y2 y3 y4 => fun y5 => ⟨fun y6 => hR _ _ ((y3 y5).1 y6) ((y4 y5).1 y6), fun y7 => cj_X10_in (fun y8 y9 y10 y11 => fun y12 => ⟨fun y13 => fun y14 => fun y15 => cj_X10_of (fun y16 y17 y18 y19 => fun y20 => fun y21 => fun y22 => fun y23 => cj_X10_of (fun y24 y25 y26 y27 => fun y28 => fun y29 => Exists.elim ((y26 y28) y29) (fun y30 y32 => Exists.elim ((y27 y28) y29) (fun y31 y33 => ⟨y30, cj_X10_hand_56 hR _ _ _ _ y32 y33⟩))) ((((y18 y20) y21) y22) y23) ((((y19 y20) y21) y22) y23)) ((((y10 y12).1 y13) y14) y15) ((((y11 y12).1 y13) y14) y15), fun y34 => hR _ _ ((y10 y12).2 y34) ((y11 y12).2 y34)⟩) ((y3 y5).2 y7) ((y4 y5).2 y7)⟩) a b
set_option maxHeartbeats 4000000 in
theorem cj_X10_line_28  {P Q R : Int32 → zSto → Prop} (hR : ∀ (z0 : Int32) (z1 : zSto), P z0 z1 → Q z0 z1 → R z0 z1) : ∀ (n1 n2 : Nat) (x_3 : Int32) (x_4 : Int32) (σ : zSto), w_X10_line_28 P n1 x_3 x_4 σ → w_X10_line_28 Q n2 x_3 x_4 σ → w_X10_line_28 R n1 x_3 x_4 σ := by
  intro n1
  induction n1 with
  | zero => intro n2 x_3 x_4 σ a b; exact a.elim
  | succ n1 ih =>
    intro n2 x_3 x_4 σ a b
    cases n2 with
    | zero => exact b.elim
    | succ n2 =>
      unfold w_X10_line_28 at a b ⊢
      exact ⟨fun y1 => hR _ _ (a.1 y1) (b.1 y1), fun y2 => cj_X10_postOf (fun y3 y4 y5 y6 => ⟨fun y7 => fun y8 => fun y9 => fun y10 => fun y11 => ih _ _ _ _ (((((y5.1 y7) y8) y9) y10) y11) (((((y6.1 y7) y8) y9) y10) y11), fun y12 => fun y13 => fun y14 => fun y15 => fun y16 => ih _ _ _ _ (((((y5.2 y12) y13) y14) y15) y16) (((((y6.2 y12) y13) y14) y15) y16)⟩) (a.2 y2) (b.2 y2)⟩
set_option maxHeartbeats 4000000 in
theorem cj_X10_line {a1 : Int32} {a2 : Int32} {σ : zSto} {P Q R : Int32 → zSto → Prop} (hR : ∀ (z0 : Int32) (z1 : zSto), P z0 z1 → Q z0 z1 → R z0 z1) (a : w_X10_line a1 a2 σ P) (b : w_X10_line a1 a2 σ Q) : w_X10_line a1 a2 σ R := by
  unfold w_X10_line at a b ⊢
  exact fun y1 => fun y2 => cj_X10_hand (fun y3 y4 y5 y6 => fun y7 => ⟨fun y8 => ⟨fun y9 => cj_X10_in (fun y10 y11 y12 y13 => fun y14 => ⟨fun y15 => hR _ _ ((y12 y14).1 y15) ((y13 y14).1 y15), fun y16 => cj_X10_of (fun y17 y18 y19 y20 => hR _ _ y19 y20) ((y12 y14).2 y16) ((y13 y14).2 y16)⟩) (((y5 y7).1 y8).1 y9) (((y6 y7).1 y8).1 y9), fun y21 => Exists.elim (((y5 y7).1 y8).2 y21) (fun y22 y24 => Exists.elim (((y6 y7).1 y8).2 y21) (fun y23 y25 => ⟨y22, cj_X10_line_28 hR _ _ _ _ _ y24 y25⟩))⟩, fun y26 => hR _ _ ((y5 y7).2 y26) ((y6 y7).2 y26)⟩) ((a y1) y2) ((b y1) y2)
set_option maxHeartbeats 4000000 in
theorem cj_X0_hasPost {t : Nat} {a1 : Int32} {σ : zSto} {P Q R : Int32 → zSto → Prop} (hR : ∀ (z0 : Int32) (z1 : zSto), P z0 z1 → Q z0 z1 → R z0 z1) (a : w_X0_hasPost t a1 σ P) (b : w_X0_hasPost t a1 σ Q) : w_X0_hasPost t a1 σ R := by
  unfold w_X0_hasPost at a b ⊢
  exact ⟨fun y1 => hR _ _ (a.1 y1) (b.1 y1), fun y2 => ⟨fun y3 => hR _ _ ((a.2 y2).1 y3) ((b.2 y2).1 y3), fun y4 => hR _ _ ((a.2 y2).2 y4) ((b.2 y2).2 y4)⟩⟩
set_option maxHeartbeats 4000000 in
theorem cj_X0_cost {t : Nat} {a1 : Int32} {σ : zSto} {P Q R : Int32 → zSto → Prop} (hR : ∀ (z0 : Int32) (z1 : zSto), P z0 z1 → Q z0 z1 → R z0 z1) (a : w_X0_cost t a1 σ P) (b : w_X0_cost t a1 σ Q) : w_X0_cost t a1 σ R := by
  unfold w_X0_cost at a b ⊢
  exact ⟨a.1, fun y1 => fun y2 => ⟨((a.2 y1) y2).1, ⟨fun y3 => hR _ _ (((a.2 y1) y2).2.1 y3) (((b.2 y1) y2).2.1 y3), fun y4 => ⟨fun y5 => hR _ _ ((((a.2 y1) y2).2.2 y4).1 y5) ((((b.2 y1) y2).2.2 y4).1 y5), fun y6 => ⟨((((a.2 y1) y2).2.2 y4).2 y6).1, fun y7 => fun y8 => hR _ _ ((((((a.2 y1) y2).2.2 y4).2 y6).2 y7) y8) ((((((b.2 y1) y2).2.2 y4).2 y6).2 y7) y8)⟩⟩⟩⟩⟩
set_option maxHeartbeats 4000000 in
theorem cj_X0_poundsIn {t : Nat} {a1 : Int32} {a2 : Int32} {σ : zSto} {P Q R : Int32 → zSto → Prop} (hR : ∀ (z0 : Int32) (z1 : zSto), P z0 z1 → Q z0 z1 → R z0 z1) (a : w_X0_poundsIn t a1 a2 σ P) (b : w_X0_poundsIn t a1 a2 σ Q) : w_X0_poundsIn t a1 a2 σ R := by
  unfold w_X0_poundsIn at a b ⊢
  exact ⟨a.1, hR _ _ a.2 b.2⟩
set_option maxHeartbeats 4000000 in
theorem cj_X9_post {a1 : Int32} {a2 : Int32} {a3 : Int32} {σ : zSto} {P Q R : Int32 → zSto → Prop} (hR : ∀ (z0 : Int32) (z1 : zSto), P z0 z1 → Q z0 z1 → R z0 z1) (a : w_X9_post a1 a2 a3 σ P) (b : w_X9_post a1 a2 a3 σ Q) : w_X9_post a1 a2 a3 σ R := by
  unfold w_X9_post at a b ⊢
  exact cj_X8_lineAt (fun y1 y2 y3 y4 => ⟨fun y5 => hR _ _ (y3.1 y5) (y4.1 y5), fun y6 => fun y7 => ⟨((y3.2 y6) y7).1, cj_X0_hasPost (fun y8 y9 y10 y11 => fun y12 => ⟨fun y13 => ⟨fun y14 => ⟨fun y15 => ⟨((((y10 y12).1 y13).1 y14).1 y15).1, hR _ _ ((((y10 y12).1 y13).1 y14).1 y15).2 ((((y11 y12).1 y13).1 y14).1 y15).2⟩, ⟨fun y16 => ⟨((((y10 y12).1 y13).1 y14).2.1 y16).1, hR _ _ ((((y10 y12).1 y13).1 y14).2.1 y16).2 ((((y11 y12).1 y13).1 y14).2.1 y16).2⟩, ⟨fun y17 => ⟨((((y10 y12).1 y13).1 y14).2.2.1 y17).1, hR _ _ ((((y10 y12).1 y13).1 y14).2.2.1 y17).2 ((((y11 y12).1 y13).1 y14).2.2.1 y17).2⟩, ⟨fun y18 => ⟨((((y10 y12).1 y13).1 y14).2.2.2.1 y18).1, hR _ _ ((((y10 y12).1 y13).1 y14).2.2.2.1 y18).2 ((((y11 y12).1 y13).1 y14).2.2.2.1 y18).2⟩, ⟨fun y19 => ⟨((((y10 y12).1 y13).1 y14).2.2.2.2.1 y19).1, hR _ _ ((((y10 y12).1 y13).1 y14).2.2.2.2.1 y19).2 ((((y11 y12).1 y13).1 y14).2.2.2.2.1 y19).2⟩, ⟨fun y20 => ⟨fun y21 => cj_X0_cost (fun y22 y23 y24 y25 => hR _ _ y24 y25) (((((y10 y12).1 y13).1 y14).2.2.2.2.2.1 y20).1 y21) (((((y11 y12).1 y13).1 y14).2.2.2.2.2.1 y20).1 y21), fun y26 => hR _ _ (((((y10 y12).1 y13).1 y14).2.2.2.2.2.1 y20).2 y26) (((((y11 y12).1 y13).1 y14).2.2.2.2.2.1 y20).2 y26)⟩, fun y27 => hR _ _ ((((y10 y12).1 y13).1 y14).2.2.2.2.2.2 y27) ((((y11 y12).1 y13).1 y14).2.2.2.2.2.2 y27)⟩⟩⟩⟩⟩⟩, fun y28 => ⟨fun y29 => ⟨fun y30 => ⟨(((((y10 y12).1 y13).2 y28).1 y29).1 y30).1, hR _ _ (((((y10 y12).1 y13).2 y28).1 y29).1 y30).2 (((((y11 y12).1 y13).2 y28).1 y29).1 y30).2⟩, ⟨fun y31 => ⟨(((((y10 y12).1 y13).2 y28).1 y29).2.1 y31).1, hR _ _ (((((y10 y12).1 y13).2 y28).1 y29).2.1 y31).2 (((((y11 y12).1 y13).2 y28).1 y29).2.1 y31).2⟩, ⟨fun y32 => ⟨(((((y10 y12).1 y13).2 y28).1 y29).2.2.1 y32).1, hR _ _ (((((y10 y12).1 y13).2 y28).1 y29).2.2.1 y32).2 (((((y11 y12).1 y13).2 y28).1 y29).2.2.1 y32).2⟩, ⟨fun y33 => ⟨(((((y10 y12).1 y13).2 y28).1 y29).2.2.2.1 y33).1, hR _ _ (((((y10 y12).1 y13).2 y28).1 y29).2.2.2.1 y33).2 (((((y11 y12).1 y13).2 y28).1 y29).2.2.2.1 y33).2⟩, ⟨fun y34 => ⟨(((((y10 y12).1 y13).2 y28).1 y29).2.2.2.2.1 y34).1, hR _ _ (((((y10 y12).1 y13).2 y28).1 y29).2.2.2.2.1 y34).2 (((((y11 y12).1 y13).2 y28).1 y29).2.2.2.2.1 y34).2⟩, ⟨fun y35 => ⟨fun y36 => cj_X0_cost (fun y37 y38 y39 y40 => hR _ _ y39 y40) ((((((y10 y12).1 y13).2 y28).1 y29).2.2.2.2.2.1 y35).1 y36) ((((((y11 y12).1 y13).2 y28).1 y29).2.2.2.2.2.1 y35).1 y36), fun y41 => hR _ _ ((((((y10 y12).1 y13).2 y28).1 y29).2.2.2.2.2.1 y35).2 y41) ((((((y11 y12).1 y13).2 y28).1 y29).2.2.2.2.2.1 y35).2 y41)⟩, fun y42 => hR _ _ (((((y10 y12).1 y13).2 y28).1 y29).2.2.2.2.2.2 y42) (((((y11 y12).1 y13).2 y28).1 y29).2.2.2.2.2.2 y42)⟩⟩⟩⟩⟩⟩, fun y43 => cj_X0_poundsIn (fun y44 y45 y46 y47 => hR _ _ y46 y47) ((((y10 y12).1 y13).2 y28).2 y43) ((((y11 y12).1 y13).2 y28).2 y43)⟩⟩, fun y48 => hR _ _ ((y10 y12).2 y48) ((y11 y12).2 y48)⟩) ((y3.2 y6) y7).2 ((y4.2 y6) y7).2⟩⟩) a b
set_option maxHeartbeats 4000000 in
theorem cj_X10_isPost {a1 : Int32} {σ : zSto} {P Q R : Int32 → zSto → Prop} (hR : ∀ (z0 : Int32) (z1 : zSto), P z0 z1 → Q z0 z1 → R z0 z1) (a : w_X10_isPost a1 σ P) (b : w_X10_isPost a1 σ Q) : w_X10_isPost a1 σ R := by
  unfold w_X10_isPost at a b ⊢
  exact cj_X10_in (fun y1 y2 y3 y4 => fun y5 => ⟨(y3 y5).1, hR _ _ (y3 y5).2 (y4 y5).2⟩) a b
set_option maxHeartbeats 4000000 in
theorem cj_X10_post {a1 : Int32} {a2 : Int32} {a3 : Int32} {σ : zSto} {P Q R : Int32 → zSto → Prop} (hR : ∀ (z0 : Int32) (z1 : zSto), P z0 z1 → Q z0 z1 → R z0 z1) (a : w_X10_post a1 a2 a3 σ P) (b : w_X10_post a1 a2 a3 σ Q) : w_X10_post a1 a2 a3 σ R := by
  unfold w_X10_post at a b ⊢
  exact fun y1 => fun y2 => cj_X10_hand (fun y3 y4 y5 y6 => fun y7 => ⟨fun y8 => hR _ _ ((y5 y7).1 y8) ((y6 y7).1 y8), fun y9 => cj_X10_isPost (fun y10 y11 y12 y13 => fun y14 => ⟨fun y15 => cj_X10_in (fun y16 y17 y18 y19 => fun y20 => ⟨fun y21 => ⟨fun y22 => cj_X10_in (fun y23 y24 y25 y26 => fun y27 => ⟨fun y28 => hR _ _ ((y25 y27).1 y28) ((y26 y27).1 y28), fun y29 => cj_X10_poundsIn (fun y30 y31 y32 y33 => hR _ _ y32 y33) ((y25 y27).2 y29) ((y26 y27).2 y29)⟩) (((y18 y20).1 y21).1 y22) (((y19 y20).1 y21).1 y22), fun y34 => ⟨fun y35 => ⟨((((y18 y20).1 y21).2 y34).1 y35).1, hR _ _ ((((y18 y20).1 y21).2 y34).1 y35).2 ((((y19 y20).1 y21).2 y34).1 y35).2⟩, fun y36 => hR _ _ ((((y18 y20).1 y21).2 y34).2 y36) ((((y19 y20).1 y21).2 y34).2 y36)⟩⟩, fun y37 => cj_X10_postOf (fun y38 y39 y40 y41 => hR _ _ y40 y41) ((y18 y20).2 y37) ((y19 y20).2 y37)⟩) ((y12 y14).1 y15) ((y13 y14).1 y15), fun y42 => hR _ _ ((y12 y14).2 y42) ((y13 y14).2 y42)⟩) ((y5 y7).2 y9) ((y6 y7).2 y9)⟩) ((a y1) y2) ((b y1) y2)
set_option maxHeartbeats 4000000 in
theorem cj_X0_hasRider {t : Nat} {a1 : Int32} {σ : zSto} {P Q R : Int32 → zSto → Prop} (hR : ∀ (z0 : Int32) (z1 : zSto), P z0 z1 → Q z0 z1 → R z0 z1) (a : w_X0_hasRider t a1 σ P) (b : w_X0_hasRider t a1 σ Q) : w_X0_hasRider t a1 σ R := by
  unfold w_X0_hasRider at a b ⊢
  exact ⟨fun y1 => hR _ _ (a.1 y1) (b.1 y1), fun y2 => ⟨fun y3 => hR _ _ ((a.2 y2).1 y3) ((b.2 y2).1 y3), fun y4 => hR _ _ ((a.2 y2).2 y4) ((b.2 y2).2 y4)⟩⟩
set_option maxHeartbeats 4000000 in
theorem cj_X9_rider {a1 : Int32} {a2 : Int32} {a3 : Int32} {σ : zSto} {P Q R : Int32 → zSto → Prop} (hR : ∀ (z0 : Int32) (z1 : zSto), P z0 z1 → Q z0 z1 → R z0 z1) (a : w_X9_rider a1 a2 a3 σ P) (b : w_X9_rider a1 a2 a3 σ Q) : w_X9_rider a1 a2 a3 σ R := by
  unfold w_X9_rider at a b ⊢
  exact cj_X8_lineAt (fun y1 y2 y3 y4 => ⟨fun y5 => hR _ _ (y3.1 y5) (y4.1 y5), fun y6 => fun y7 => ⟨((y3.2 y6) y7).1, cj_X0_hasRider (fun y8 y9 y10 y11 => fun y12 => ⟨fun y13 => ⟨fun y14 => ⟨(((y10 y12).1 y13).1 y14).1, hR _ _ (((y10 y12).1 y13).1 y14).2 (((y11 y12).1 y13).1 y14).2⟩, ⟨fun y15 => ⟨(((y10 y12).1 y13).2.1 y15).1, hR _ _ (((y10 y12).1 y13).2.1 y15).2 (((y11 y12).1 y13).2.1 y15).2⟩, ⟨fun y16 => ⟨(((y10 y12).1 y13).2.2.1 y16).1, hR _ _ (((y10 y12).1 y13).2.2.1 y16).2 (((y11 y12).1 y13).2.2.1 y16).2⟩, ⟨fun y17 => ⟨(((y10 y12).1 y13).2.2.2.1 y17).1, hR _ _ (((y10 y12).1 y13).2.2.2.1 y17).2 (((y11 y12).1 y13).2.2.2.1 y17).2⟩, ⟨fun y18 => ⟨(((y10 y12).1 y13).2.2.2.2.1 y18).1, hR _ _ (((y10 y12).1 y13).2.2.2.2.1 y18).2 (((y11 y12).1 y13).2.2.2.2.1 y18).2⟩, ⟨fun y19 => ⟨(((y10 y12).1 y13).2.2.2.2.2.1 y19).1, hR _ _ (((y10 y12).1 y13).2.2.2.2.2.1 y19).2 (((y11 y12).1 y13).2.2.2.2.2.1 y19).2⟩, fun y20 => hR _ _ (((y10 y12).1 y13).2.2.2.2.2.2 y20) (((y11 y12).1 y13).2.2.2.2.2.2 y20)⟩⟩⟩⟩⟩⟩, fun y21 => hR _ _ ((y10 y12).2 y21) ((y11 y12).2 y21)⟩) ((y3.2 y6) y7).2 ((y4.2 y6) y7).2⟩⟩) a b
set_option maxHeartbeats 4000000 in
theorem cj_X10_isRider {a1 : Int32} {σ : zSto} {P Q R : Int32 → zSto → Prop} (hR : ∀ (z0 : Int32) (z1 : zSto), P z0 z1 → Q z0 z1 → R z0 z1) (a : w_X10_isRider a1 σ P) (b : w_X10_isRider a1 σ Q) : w_X10_isRider a1 σ R := by
  unfold w_X10_isRider at a b ⊢
  exact cj_X10_in (fun y1 y2 y3 y4 => fun y5 => ⟨(y3 y5).1, hR _ _ (y3 y5).2 (y4 y5).2⟩) a b
set_option maxHeartbeats 4000000 in
theorem cj_X10_riderOf {a1 : Int32} {a2 : Int32} {σ : zSto} {P Q R : Int32 → zSto → Prop} (hR : ∀ (z0 : Int32) (z1 : zSto), P z0 z1 → Q z0 z1 → R z0 z1) (a : w_X10_riderOf a1 a2 σ P) (b : w_X10_riderOf a1 a2 σ Q) : w_X10_riderOf a1 a2 σ R := by
  unfold w_X10_riderOf at a b ⊢
  exact cj_X10_of (fun y1 y2 y3 y4 => hR _ _ y3 y4) a b
set_option maxHeartbeats 4000000 in
theorem cj_X10_rider {a1 : Int32} {a2 : Int32} {a3 : Int32} {σ : zSto} {P Q R : Int32 → zSto → Prop} (hR : ∀ (z0 : Int32) (z1 : zSto), P z0 z1 → Q z0 z1 → R z0 z1) (a : w_X10_rider a1 a2 a3 σ P) (b : w_X10_rider a1 a2 a3 σ Q) : w_X10_rider a1 a2 a3 σ R := by
  unfold w_X10_rider at a b ⊢
  exact fun y1 => fun y2 => cj_X10_hand (fun y3 y4 y5 y6 => fun y7 => ⟨fun y8 => hR _ _ ((y5 y7).1 y8) ((y6 y7).1 y8), fun y9 => cj_X10_isRider (fun y10 y11 y12 y13 => fun y14 => ⟨fun y15 => hR _ _ ((y12 y14).1 y15) ((y13 y14).1 y15), fun y16 => cj_X10_in (fun y17 y18 y19 y20 => fun y21 => ⟨fun y22 => hR _ _ ((y19 y21).1 y22) ((y20 y21).1 y22), fun y23 => cj_X10_riderOf (fun y24 y25 y26 y27 => hR _ _ y26 y27) ((y19 y21).2 y23) ((y20 y21).2 y23)⟩) ((y12 y14).2 y16) ((y13 y14).2 y16)⟩) ((y5 y7).2 y9) ((y6 y7).2 y9)⟩) ((a y1) y2) ((b y1) y2)
set_option maxHeartbeats 4000000 in
theorem cj_X8_planAt {t : Nat} {a1 : Int32} {σ : zSto} {P Q R : Option Nat → zSto → Prop} (hR : ∀ (z0 : Option Nat) (z1 : zSto), P z0 z1 → Q z0 z1 → R z0 z1) (a : w_X8_planAt t a1 σ P) (b : w_X8_planAt t a1 σ Q) : w_X8_planAt t a1 σ R := by
  unfold w_X8_planAt at a b ⊢
  exact cj_X8_has (fun y1 y2 y3 y4 => fun y5 => ⟨fun y6 => hR _ _ ((y3 y5).1 y6) ((y4 y5).1 y6), fun y7 => ⟨((y3 y5).2 y7).1, fun y8 => fun y9 => ⟨((((y3 y5).2 y7).2 y8) y9).1, hR _ _ ((((y3 y5).2 y7).2 y8) y9).2 ((((y4 y5).2 y7).2 y8) y9).2⟩⟩⟩) a b
set_option maxHeartbeats 4000000 in
theorem cj_X9_pairAnswer {o1 : Option Nat} {a2 : Int32} {a3 : Int32} {σ : zSto} {P Q R : Int32 → zSto → Prop} (hR : ∀ (z0 : Int32) (z1 : zSto), P z0 z1 → Q z0 z1 → R z0 z1) (a : w_X9_pairAnswer o1 a2 a3 σ P) (b : w_X9_pairAnswer o1 a2 a3 σ Q) : w_X9_pairAnswer o1 a2 a3 σ R := by
  unfold w_X9_pairAnswer at a b ⊢
  exact ⟨fun y1 => hR _ _ (a.1 y1) (b.1 y1), fun y2 => fun y3 => ⟨((a.2 y2) y3).1, ⟨fun y4 => ⟨fun y5 => hR _ _ ((((a.2 y2) y3).2.1 y4).1 y5) ((((b.2 y2) y3).2.1 y4).1 y5), fun y6 => ⟨fun y7 => hR _ _ (((((a.2 y2) y3).2.1 y4).2 y6).1 y7) (((((b.2 y2) y3).2.1 y4).2 y6).1 y7), fun y8 => ⟨fun y9 => hR _ _ ((((((a.2 y2) y3).2.1 y4).2 y6).2 y8).1 y9) ((((((b.2 y2) y3).2.1 y4).2 y6).2 y8).1 y9), fun y10 => ⟨fun y11 => ⟨fun y12 => ⟨((((((((a.2 y2) y3).2.1 y4).2 y6).2 y8).2 y10).1 y11).1 y12).1, hR _ _ ((((((((a.2 y2) y3).2.1 y4).2 y6).2 y8).2 y10).1 y11).1 y12).2 ((((((((b.2 y2) y3).2.1 y4).2 y6).2 y8).2 y10).1 y11).1 y12).2⟩, fun y13 => ⟨((((((((a.2 y2) y3).2.1 y4).2 y6).2 y8).2 y10).1 y11).2 y13).1, hR _ _ ((((((((a.2 y2) y3).2.1 y4).2 y6).2 y8).2 y10).1 y11).2 y13).2 ((((((((b.2 y2) y3).2.1 y4).2 y6).2 y8).2 y10).1 y11).2 y13).2⟩⟩, fun y14 => hR _ _ (((((((a.2 y2) y3).2.1 y4).2 y6).2 y8).2 y10).2 y14) (((((((b.2 y2) y3).2.1 y4).2 y6).2 y8).2 y10).2 y14)⟩⟩⟩⟩, fun y15 => ⟨fun y16 => hR _ _ ((((a.2 y2) y3).2.2 y15).1 y16) ((((b.2 y2) y3).2.2 y15).1 y16), fun y17 => hR _ _ ((((a.2 y2) y3).2.2 y15).2 y17) ((((b.2 y2) y3).2.2 y15).2 y17)⟩⟩⟩⟩
set_option maxHeartbeats 4000000 in
theorem cj_X9_pull {a1 : Int32} {a2 : Int32} {a3 : Int32} {σ : zSto} {P Q R : Int32 → zSto → Prop} (hR : ∀ (z0 : Int32) (z1 : zSto), P z0 z1 → Q z0 z1 → R z0 z1) (a : w_X9_pull a1 a2 a3 σ P) (b : w_X9_pull a1 a2 a3 σ Q) : w_X9_pull a1 a2 a3 σ R := by
  unfold w_X9_pull at a b ⊢
  exact cj_X8_planAt (fun y1 y2 y3 y4 => ⟨fun y5 => cj_X9_pairAnswer (fun y6 y7 y8 y9 => hR _ _ y8 y9) (y3.1 y5) (y4.1 y5), fun y10 => fun y11 => ⟨((y3.2 y10) y11).1, cj_X9_pairAnswer (fun y12 y13 y14 y15 => hR _ _ y14 y15) ((y3.2 y10) y11).2 ((y4.2 y10) y11).2⟩⟩) a b
set_option maxHeartbeats 4000000 in
theorem cj_X10_hasPlan {a1 : Int32} {σ : zSto} {P Q R : Int32 → zSto → Prop} (hR : ∀ (z0 : Int32) (z1 : zSto), P z0 z1 → Q z0 z1 → R z0 z1) (a : w_X10_hasPlan a1 σ P) (b : w_X10_hasPlan a1 σ Q) : w_X10_hasPlan a1 σ R := by
  unfold w_X10_hasPlan at a b ⊢
  exact fun y1 => fun y2 => cj_X10_is (fun y3 y4 y5 y6 => fun y7 => ⟨(y5 y7).1, hR _ _ (y5 y7).2 (y6 y7).2⟩) ((a y1) y2) ((b y1) y2)
set_option maxHeartbeats 4000000 in
theorem cj_X10_pulls {σ : zSto} {P Q R : Int32 → zSto → Prop} (hR : ∀ (z0 : Int32) (z1 : zSto), P z0 z1 → Q z0 z1 → R z0 z1) (a : w_X10_pulls σ P) (b : w_X10_pulls σ Q) : w_X10_pulls σ R := by
  unfold w_X10_pulls at a b ⊢
  exact ⟨a.1, hR _ _ a.2 b.2⟩
set_option maxHeartbeats 4000000 in
theorem cj_X10_pullOf {a1 : Int32} {a2 : Int32} {σ : zSto} {P Q R : Int32 → zSto → Prop} (hR : ∀ (z0 : Int32) (z1 : zSto), P z0 z1 → Q z0 z1 → R z0 z1) (a : w_X10_pullOf a1 a2 σ P) (b : w_X10_pullOf a1 a2 σ Q) : w_X10_pullOf a1 a2 σ R := by
  unfold w_X10_pullOf at a b ⊢
  exact ⟨a.1, hR _ _ a.2 b.2⟩
set_option maxHeartbeats 4000000 in
theorem cj_X10_pull {a1 : Int32} {a2 : Int32} {a3 : Int32} {σ : zSto} {P Q R : Int32 → zSto → Prop} (hR : ∀ (z0 : Int32) (z1 : zSto), P z0 z1 → Q z0 z1 → R z0 z1) (a : w_X10_pull a1 a2 a3 σ P) (b : w_X10_pull a1 a2 a3 σ Q) : w_X10_pull a1 a2 a3 σ R := by
  unfold w_X10_pull at a b ⊢
  exact fun y1 => fun y2 => cj_X10_hasPlan (fun y3 y4 y5 y6 => fun y7 => ⟨fun y8 => ⟨fun y9 => cj_X10_pulls (fun y10 y11 y12 y13 => cj_X10_in (fun y14 y15 y16 y17 => fun y18 => ⟨fun y19 => hR _ _ ((y16 y18).1 y19) ((y17 y18).1 y19), fun y20 => cj_X10_in (fun y21 y22 y23 y24 => fun y25 => ⟨fun y26 => hR _ _ ((y23 y25).1 y26) ((y24 y25).1 y26), fun y27 => cj_X10_pullOf (fun y28 y29 y30 y31 => hR _ _ y30 y31) ((y23 y25).2 y27) ((y24 y25).2 y27)⟩) ((y16 y18).2 y20) ((y17 y18).2 y20)⟩) y12 y13) (((y5 y7).1 y8).1 y9) (((y6 y7).1 y8).1 y9), fun y32 => ⟨fun y33 => hR _ _ ((((y5 y7).1 y8).2 y32).1 y33) ((((y6 y7).1 y8).2 y32).1 y33), fun y34 => cj_X10_pulls (fun y35 y36 y37 y38 => hR _ _ y37 y38) ((((y5 y7).1 y8).2 y32).2 y34) ((((y6 y7).1 y8).2 y32).2 y34)⟩⟩, fun y39 => hR _ _ ((y5 y7).2 y39) ((y6 y7).2 y39)⟩) ((a y1) y2) ((b y1) y2)
set_option maxHeartbeats 4000000 in
theorem cj_X8_logAt {t : Nat} {a1 : Int32} {σ : zSto} {P Q R : Option Nat → zSto → Prop} (hR : ∀ (z0 : Option Nat) (z1 : zSto), P z0 z1 → Q z0 z1 → R z0 z1) (a : w_X8_logAt t a1 σ P) (b : w_X8_logAt t a1 σ Q) : w_X8_logAt t a1 σ R := by
  unfold w_X8_logAt at a b ⊢
  exact cj_X8_has (fun y1 y2 y3 y4 => fun y5 => ⟨fun y6 => hR _ _ ((y3 y5).1 y6) ((y4 y5).1 y6), fun y7 => ⟨((y3 y5).2 y7).1, fun y8 => fun y9 => ⟨((((y3 y5).2 y7).2 y8) y9).1, hR _ _ ((((y3 y5).2 y7).2 y8) y9).2 ((((y4 y5).2 y7).2 y8) y9).2⟩⟩⟩) a b
set_option maxHeartbeats 4000000 in
theorem cj_X9_seen {a1 : Int32} {a2 : Int32} {a3 : Int32} {σ : zSto} {P Q R : Int32 → zSto → Prop} (hR : ∀ (z0 : Int32) (z1 : zSto), P z0 z1 → Q z0 z1 → R z0 z1) (a : w_X9_seen a1 a2 a3 σ P) (b : w_X9_seen a1 a2 a3 σ Q) : w_X9_seen a1 a2 a3 σ R := by
  unfold w_X9_seen at a b ⊢
  exact cj_X8_logAt (fun y1 y2 y3 y4 => ⟨fun y5 => cj_X9_pairAnswer (fun y6 y7 y8 y9 => hR _ _ y8 y9) (y3.1 y5) (y4.1 y5), fun y10 => fun y11 => ⟨((y3.2 y10) y11).1, cj_X9_pairAnswer (fun y12 y13 y14 y15 => hR _ _ y14 y15) ((y3.2 y10) y11).2 ((y4.2 y10) y11).2⟩⟩) a b
set_option maxHeartbeats 4000000 in
theorem cj_X10_hasLog {a1 : Int32} {σ : zSto} {P Q R : Int32 → zSto → Prop} (hR : ∀ (z0 : Int32) (z1 : zSto), P z0 z1 → Q z0 z1 → R z0 z1) (a : w_X10_hasLog a1 σ P) (b : w_X10_hasLog a1 σ Q) : w_X10_hasLog a1 σ R := by
  unfold w_X10_hasLog at a b ⊢
  exact fun y1 => fun y2 => cj_X10_is (fun y3 y4 y5 y6 => fun y7 => ⟨(y5 y7).1, hR _ _ (y5 y7).2 (y6 y7).2⟩) ((a y1) y2) ((b y1) y2)
set_option maxHeartbeats 4000000 in
theorem cj_X10_seenOf {a1 : Int32} {a2 : Int32} {σ : zSto} {P Q R : Int32 → zSto → Prop} (hR : ∀ (z0 : Int32) (z1 : zSto), P z0 z1 → Q z0 z1 → R z0 z1) (a : w_X10_seenOf a1 a2 σ P) (b : w_X10_seenOf a1 a2 σ Q) : w_X10_seenOf a1 a2 σ R := by
  unfold w_X10_seenOf at a b ⊢
  exact ⟨a.1, hR _ _ a.2 b.2⟩
set_option maxHeartbeats 4000000 in
theorem cj_X10_seen {a1 : Int32} {a2 : Int32} {a3 : Int32} {σ : zSto} {P Q R : Int32 → zSto → Prop} (hR : ∀ (z0 : Int32) (z1 : zSto), P z0 z1 → Q z0 z1 → R z0 z1) (a : w_X10_seen a1 a2 a3 σ P) (b : w_X10_seen a1 a2 a3 σ Q) : w_X10_seen a1 a2 a3 σ R := by
  unfold w_X10_seen at a b ⊢
  exact fun y1 => fun y2 => cj_X10_hasLog (fun y3 y4 y5 y6 => fun y7 => ⟨fun y8 => ⟨((y5 y7).1 y8).1, fun y9 => fun y10 => ⟨fun y11 => cj_X10_in (fun y12 y13 y14 y15 => fun y16 => ⟨fun y17 => hR _ _ ((y14 y16).1 y17) ((y15 y16).1 y17), fun y18 => cj_X10_in (fun y19 y20 y21 y22 => fun y23 => ⟨fun y24 => hR _ _ ((y21 y23).1 y24) ((y22 y23).1 y24), fun y25 => cj_X10_seenOf (fun y26 y27 y28 y29 => hR _ _ y28 y29) ((y21 y23).2 y25) ((y22 y23).2 y25)⟩) ((y14 y16).2 y18) ((y15 y16).2 y18)⟩) (((((y5 y7).1 y8).2 y9) y10).1 y11) (((((y6 y7).1 y8).2 y9) y10).1 y11), fun y30 => ⟨fun y31 => hR _ _ ((((((y5 y7).1 y8).2 y9) y10).2 y30).1 y31) ((((((y6 y7).1 y8).2 y9) y10).2 y30).1 y31), fun y32 => hR _ _ ((((((y5 y7).1 y8).2 y9) y10).2 y30).2 y32) ((((((y6 y7).1 y8).2 y9) y10).2 y30).2 y32)⟩⟩⟩, fun y33 => hR _ _ ((y5 y7).2 y33) ((y6 y7).2 y33)⟩) ((a y1) y2) ((b y1) y2)
