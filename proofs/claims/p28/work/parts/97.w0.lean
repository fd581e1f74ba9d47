/-! two promises of one call make one -/
set_option maxHeartbeats 4000000 in
theorem cj_X6_keep {a1 : Int32} {σ : zSto} {P Q R : zSto → Prop} (hR : ∀ (z0 : zSto), P z0 → Q z0 → R z0) (a : w_X6_keep a1 σ P) (b : w_X6_keep a1 σ Q) : w_X6_keep a1 σ R := by
  unfold w_X6_keep at a b ⊢
  exact fun y1 => fun y2 => fun y3 => fun y4 => fun y5 => fun y6 => ⟨fun y7 => fun y8 => fun y9 => hR _ (((((((((a y1) y2) y3) y4) y5) y6).1 y7) y8) y9) (((((((((b y1) y2) y3) y4) y5) y6).1 y7) y8) y9), fun y10 => fun y11 => fun y12 => hR _ (((((((((a y1) y2) y3) y4) y5) y6).2 y10) y11) y12) (((((((((b y1) y2) y3) y4) y5) y6).2 y10) y11) y12)⟩
set_option maxHeartbeats 4000000 in
theorem cj_X6_search0 : ∀ (d : Nat) (a2 a3 a4 a5 : Int32) (σ : zSto) (P Q R : zSto → Prop), (∀ z, P z → Q z → R z) → w_X6_search d a2 a3 a4 a5 σ P → w_X6_search d a2 a3 a4 a5 σ Q → w_X6_search d a2 a3 a4 a5 σ R := by
  intro d
  induction d with
  | zero => intro a2 a3 a4 a5 σ P Q R _ a _; exact a.elim
  | succ d ih =>
    intro a2 a3 a4 a5 σ P Q R hR a b
    unfold w_X6_search at a b ⊢
    refine ⟨fun y => hR _ (a.1 y) (b.1 y), fun y => ?_⟩
    have a1 := a.2 y
    have b1 := b.2 y
    refine ⟨fun y => hR _ (a1.1 y) (b1.1 y), fun y => ?_⟩
    have a2' := a1.2 y
    have b2 := b1.2 y
    refine ⟨fun y => hR _ (a2'.1 y) (b2.1 y), fun y => ?_⟩
    have a3' := a2'.2 y
    have b3 := b2.2 y
    refine ⟨fun y => ?_, fun y => hR _ (a3'.2 y) (b3.2 y)⟩
    have a4' := a3'.1 y
    have b4 := b3.1 y
    refine ⟨a4'.1, fun y => hR _ (a4'.2.1 y) (b4.2.1 y), fun y => ?_⟩
    have a5' := a4'.2.2 y
    have b5 := b4.2.2 y
    refine ⟨a5'.1, fun y => ?_, fun y => hR _ (a5'.2.2 y) (b5.2.2 y)⟩
    have a6 := a5'.2.1 y
    have b6 := b5.2.1 y
    refine ⟨fun y => ih _ _ _ _ _ _ _ _ (fun σ3 p q => ⟨p.1, p.2.1, p.2.2.1, ih _ _ _ _ _ _ _ _ (fun σ7 p q => hR _ p q) p.2.2.2 q.2.2.2⟩) (a6.1 y) (b6.1 y), fun y => cj_X6_keep (fun σ8 p q => hR _ p q) (a6.2 y) (b6.2 y)⟩
theorem cj_X6_search {d : Nat} {a2 a3 a4 a5 : Int32} {σ : zSto} {P Q R : zSto → Prop} (hR : ∀ z, P z → Q z → R z) (a : w_X6_search d a2 a3 a4 a5 σ P) (b : w_X6_search d a2 a3 a4 a5 σ Q) : w_X6_search d a2 a3 a4 a5 σ R := cj_X6_search0 d a2 a3 a4 a5 σ P Q R hR a b
set_option maxHeartbeats 4000000 in
theorem cj_X6_clear {σ : zSto} {P Q R : zSto → Prop} (hR : ∀ (z0 : zSto), P z0 → Q z0 → R z0) (a : w_X6_clear σ P) (b : w_X6_clear σ Q) : w_X6_clear σ R := by
  unfold w_X6_clear at a b ⊢
  exact fun y1 => fun y2 => hR _ ((a y1) y2) ((b y1) y2)
set_option maxHeartbeats 4000000 in
theorem cj_X6_find_47 {x_1 : Int32} {x_2 : Int32} {P Q R : zSto → Prop} (hR : ∀ (z0 : zSto), P z0 → Q z0 → R z0) : ∀ (n1 n2 : Nat) (x_3 : Int32) (σ : zSto), w_X6_find_47 x_1 x_2 P n1 x_3 σ → w_X6_find_47 x_1 x_2 Q n2 x_3 σ → w_X6_find_47 x_1 x_2 R n1 x_3 σ := by
  intro n1
  induction n1 with
  | zero => intro n2 x_3 σ a b; exact a.elim
  | succ n1 ih =>
    intro n2 x_3 σ a b
    cases n2 with
    | zero => exact b.elim
    | succ n2 =>
      unfold w_X6_find_47 at a b ⊢
      exact ⟨fun y1 => cj_X6_search (fun y2 y3 y4 => hR _ y3 y4) (a.1 y1) (b.1 y1), fun y5 => ⟨(a.2 y5).1, ⟨(a.2 y5).2.1, ⟨(a.2 y5).2.2.1, fun y6 => fun y7 => ⟨(((a.2 y5).2.2.2 y6) y7).1, ⟨(((a.2 y5).2.2.2 y6) y7).2.1, ⟨(((a.2 y5).2.2.2 y6) y7).2.2.1, fun y8 => fun y9 => fun y10 => fun y11 => ih _ _ _ (((((((a.2 y5).2.2.2 y6) y7).2.2.2 y8) y9) y10) y11) (((((((b.2 y5).2.2.2 y6) y7).2.2.2 y8) y9) y10) y11)⟩⟩⟩⟩⟩⟩⟩
set_option maxHeartbeats 4000000 in
theorem cj_X6_find {a1 : Int32} {a2 : Int32} {σ : zSto} {P Q R : zSto → Prop} (hR : ∀ (z0 : zSto), P z0 → Q z0 → R z0) (a : w_X6_find a1 a2 σ P) (b : w_X6_find a1 a2 σ Q) : w_X6_find a1 a2 σ R := by
  unfold w_X6_find at a b ⊢
  exact fun y1 => fun y2 => fun y3 => fun y4 => fun y5 => fun y6 => fun y7 => fun y8 => ⟨((((((((a y1) y2) y3) y4) y5) y6) y7) y8).1, fun y9 => fun y10 => ⟨((((((((((a y1) y2) y3) y4) y5) y6) y7) y8).2 y9) y10).1, fun y11 => fun y12 => fun y13 => fun y14 => Exists.elim ((((((((((((((a y1) y2) y3) y4) y5) y6) y7) y8).2 y9) y10).2 y11) y12) y13) y14) (fun y15 y17 => Exists.elim ((((((((((((((b y1) y2) y3) y4) y5) y6) y7) y8).2 y9) y10).2 y11) y12) y13) y14) (fun y16 y18 => ⟨y15, cj_X6_find_47 hR _ _ _ _ y17 y18⟩))⟩⟩
set_option maxHeartbeats 4000000 in
theorem cj_X6_surePosts {σ : zSto} {P Q R : Int32 → zSto → Prop} (hR : ∀ (z0 : Int32) (z1 : zSto), P z0 z1 → Q z0 z1 → R z0 z1) (a : w_X6_surePosts σ P) (b : w_X6_surePosts σ Q) : w_X6_surePosts σ R := by
  unfold w_X6_surePosts at a b ⊢
  exact ⟨fun y1 => hR _ _ (a.1 y1) (b.1 y1), fun y2 => hR _ _ (a.2 y2) (b.2 y2)⟩
set_option maxHeartbeats 4000000 in
theorem cj_X6_add {a1 : Int32} {a2 : Int32} {a3 : Int32} {σ : zSto} {P Q R : zSto → Prop} (hR : ∀ (z0 : zSto), P z0 → Q z0 → R z0) (a : w_X6_add a1 a2 a3 σ P) (b : w_X6_add a1 a2 a3 σ Q) : w_X6_add a1 a2 a3 σ R := by
  unfold w_X6_add at a b ⊢
  exact ⟨fun y1 => hR _ (a.1 y1) (b.1 y1), fun y2 => ⟨(a.2 y2).1, fun y3 => fun y4 => ⟨(((a.2 y2).2 y3) y4).1, fun y5 => fun y6 => ⟨(((((a.2 y2).2 y3) y4).2 y5) y6).1, fun y7 => fun y8 => fun y9 => fun y10 => hR _ (((((((((a.2 y2).2 y3) y4).2 y5) y6).2 y7) y8) y9) y10) (((((((((b.2 y2).2 y3) y4).2 y5) y6).2 y7) y8) y9) y10)⟩⟩⟩⟩
set_option maxHeartbeats 4000000 in
theorem cj_X9_shells_45 {x_2 : Int32} {x_3 : Int32} {x_4 : Int32} {x_5 : Int32} {q_6 : Nat} {P Q R : Int32 → zSto → Prop} (hR : ∀ (z0 : Int32) (z1 : zSto), P z0 z1 → Q z0 z1 → R z0 z1) : ∀ (n1 n2 : Nat) (x_7 : Int32) (σ : zSto), w_X9_shells_45 x_2 x_3 x_4 x_5 q_6 P n1 x_7 σ → w_X9_shells_45 x_2 x_3 x_4 x_5 q_6 Q n2 x_7 σ → w_X9_shells_45 x_2 x_3 x_4 x_5 q_6 R n1 x_7 σ := by
  intro n1
  induction n1 with
  | zero => intro n2 x_7 σ a b; exact a.elim
  | succ n1 ih =>
    intro n2 x_7 σ a b
    cases n2 with
    | zero => exact b.elim
    | succ n2 =>
      unfold w_X9_shells_45 at a b ⊢
      exact ⟨fun y1 => cj_X6_find (fun y2 y3 y4 => ⟨fun y5 => ⟨fun y6 => hR _ _ ((y3.1 y5).1 y6) ((y4.1 y5).1 y6), fun y7 => cj_X6_surePosts (fun y8 y9 y10 y11 => hR _ _ y10 y11) ((y3.1 y5).2 y7) ((y4.1 y5).2 y7)⟩, fun y12 => hR _ _ (y3.2 y12) (y4.2 y12)⟩) (a.1 y1) (b.1 y1), fun y13 => cj_X0_poundsIn (fun y14 y15 y16 y17 => ⟨fun y18 => fun y19 => fun y20 => ih _ _ _ (((y16.1 y18) y19) y20) (((y17.1 y18) y19) y20), fun y21 => cj_X0_cost (fun y22 y23 y24 y25 => cj_X6_add (fun y26 y27 y28 => fun y29 => fun y30 => ih _ _ _ ((y27 y29) y30) ((y28 y29) y30)) y24 y25) (y16.2 y21) (y17.2 y21)⟩) (a.2 y13) (b.2 y13)⟩
set_option maxHeartbeats 4000000 in
theorem cj_X9_shells {a1 : Int32} {a2 : Int32} {a3 : Int32} {a4 : Int32} {a5 : Int32} {σ : zSto} {P Q R : Int32 → zSto → Prop} (hR : ∀ (z0 : Int32) (z1 : zSto), P z0 z1 → Q z0 z1 → R z0 z1) (a : w_X9_shells a1 a2 a3 a4 a5 σ P) (b : w_X9_shells a1 a2 a3 a4 a5 σ Q) : w_X9_shells a1 a2 a3 a4 a5 σ R := by
  unfold w_X9_shells at a b ⊢
  exact cj_X8_lineAt (fun y1 y2 y3 y4 => ⟨fun y5 => hR _ _ (y3.1 y5) (y4.1 y5), fun y6 => fun y7 => ⟨((y3.2 y6) y7).1, cj_X9_isWeek (fun y8 y9 y10 y11 => fun y12 => ⟨fun y13 => hR _ _ ((y10 y12).1 y13) ((y11 y12).1 y13), fun y14 => ⟨fun y15 => hR _ _ (((y10 y12).2 y14).1 y15) (((y11 y12).2 y14).1 y15), fun y16 => ⟨fun y17 => cj_X6_clear (fun y18 y19 y20 => Exists.elim y19 (fun y21 y23 => Exists.elim y20 (fun y22 y24 => ⟨y21, cj_X9_shells_45 hR _ _ _ _ y23 y24⟩))) ((((y10 y12).2 y14).2 y16).1 y17) ((((y11 y12).2 y14).2 y16).1 y17), fun y25 => hR _ _ ((((y10 y12).2 y14).2 y16).2 y25) ((((y11 y12).2 y14).2 y16).2 y25)⟩⟩⟩) ((y3.2 y6) y7).2 ((y4.2 y6) y7).2⟩⟩) a b
set_option maxHeartbeats 4000000 in
theorem cj_X6_fillDues_23 {q_1 : Nat} {q_2 : Nat} {P Q R : Int32 → zSto → Prop} (hR : ∀ (z0 : Int32) (z1 : zSto), P z0 z1 → Q z0 z1 → R z0 z1) : ∀ (n1 n2 : Nat) (x_3 : Int32) (σ : zSto), w_X6_fillDues_23 q_1 q_2 P n1 x_3 σ → w_X6_fillDues_23 q_1 q_2 Q n2 x_3 σ → w_X6_fillDues_23 q_1 q_2 R n1 x_3 σ := by
  intro n1
  induction n1 with
  | zero => intro n2 x_3 σ a b; exact a.elim
  | succ n1 ih =>
    intro n2 x_3 σ a b
    cases n2 with
    | zero => exact b.elim
    | succ n2 =>
      unfold w_X6_fillDues_23 at a b ⊢
      exact ⟨fun y1 => hR _ _ (a.1 y1) (b.1 y1), fun y2 => ⟨(a.2 y2).1, fun y3 => fun y4 => cj_X0_hasPost (fun y5 y6 y7 y8 => fun y9 => ⟨fun y10 => ⟨((y7 y9).1 y10).1, ⟨fun y11 => ⟨(((y7 y9).1 y10).2.1 y11).1, ⟨(((y7 y9).1 y10).2.1 y11).2.1, fun y12 => fun y13 => fun y14 => fun y15 => ih _ _ _ (((((((y7 y9).1 y10).2.1 y11).2.2 y12) y13) y14) y15) (((((((y8 y9).1 y10).2.1 y11).2.2 y12) y13) y14) y15)⟩⟩, fun y16 => ⟨(((y7 y9).1 y10).2.2 y16).1, ⟨(((y7 y9).1 y10).2.2 y16).2.1, ⟨fun y17 => ⟨((((y7 y9).1 y10).2.2 y16).2.2.1 y17).1, ⟨((((y7 y9).1 y10).2.2 y16).2.2.1 y17).2.1, fun y18 => fun y19 => fun y20 => fun y21 => ih _ _ _ ((((((((y7 y9).1 y10).2.2 y16).2.2.1 y17).2.2 y18) y19) y20) y21) ((((((((y8 y9).1 y10).2.2 y16).2.2.1 y17).2.2 y18) y19) y20) y21)⟩⟩, fun y22 => hR _ _ ((((y7 y9).1 y10).2.2 y16).2.2.2 y22) ((((y8 y9).1 y10).2.2 y16).2.2.2 y22)⟩⟩⟩⟩⟩, fun y23 => hR _ _ ((y7 y9).2 y23) ((y8 y9).2 y23)⟩) (((a.2 y2).2 y3) y4) (((b.2 y2).2 y3) y4)⟩⟩
set_option maxHeartbeats 4000000 in
theorem cj_X6_fillDues_2 {q_1 : Nat} {q_2 : Nat} {P Q R : Int32 → zSto → Prop} (hR : ∀ (z0 : Int32) (z1 : zSto), P z0 z1 → Q z0 z1 → R z0 z1) : ∀ (n1 n2 : Nat) (x_3 : Int32) (σ : zSto), w_X6_fillDues_2 q_1 q_2 P n1 x_3 σ → w_X6_fillDues_2 q_1 q_2 Q n2 x_3 σ → w_X6_fillDues_2 q_1 q_2 R n1 x_3 σ := by
  intro n1
  induction n1 with
  | zero => intro n2 x_3 σ a b; exact a.elim
  | succ n1 ih =>
    intro n2 x_3 σ a b
    cases n2 with
    | zero => exact b.elim
    | succ n2 =>
      unfold w_X6_fillDues_2 at a b ⊢
      exact ⟨fun y1 => Exists.elim (a.1 y1) (fun y2 y4 => Exists.elim (b.1 y1) (fun y3 y5 => ⟨y2, cj_X6_fillDues_23 hR _ _ _ _ y4 y5⟩)), fun y6 => ⟨(a.2 y6).1, fun y7 => fun y8 => fun y9 => fun y10 => ih _ _ _ (((((a.2 y6).2 y7) y8) y9) y10) (((((b.2 y6).2 y7) y8) y9) y10)⟩⟩
set_option maxHeartbeats 4000000 in
theorem cj_X6_fillDues {b1 : Nat} {b2 : Nat} {σ : zSto} {P Q R : Int32 → zSto → Prop} (hR : ∀ (z0 : Int32) (z1 : zSto), P z0 z1 → Q z0 z1 → R z0 z1) (a : w_X6_fillDues b1 b2 σ P) (b : w_X6_fillDues b1 b2 σ Q) : w_X6_fillDues b1 b2 σ R := by
  unfold w_X6_fillDues at a b ⊢
  exact Exists.elim a (fun y1 y3 => Exists.elim b (fun y2 y4 => ⟨y1, cj_X6_fillDues_2 hR _ _ _ _ y3 y4⟩))
set_option maxHeartbeats 4000000 in
theorem cj_X6_allBits_4  {P Q R : Int32 → zSto → Prop} (hR : ∀ (z0 : Int32) (z1 : zSto), P z0 z1 → Q z0 z1 → R z0 z1) : ∀ (n1 n2 : Nat) (x_1 : Int32) (x_2 : Int32) (σ : zSto), w_X6_allBits_4 P n1 x_1 x_2 σ → w_X6_allBits_4 Q n2 x_1 x_2 σ → w_X6_allBits_4 R n1 x_1 x_2 σ := by
  intro n1
  induction n1 with
  | zero => intro n2 x_1 x_2 σ a b; exact a.elim
  | succ n1 ih =>
    intro n2 x_1 x_2 σ a b
    cases n2 with
    | zero => exact b.elim
    | succ n2 =>
      unfold w_X6_allBits_4 at a b ⊢
      exact ⟨fun y1 => hR _ _ (a.1 y1) (b.1 y1), fun y2 => ⟨(a.2 y2).1, fun y3 => fun y4 => fun y5 => fun y6 => ih _ _ _ _ (((((a.2 y2).2 y3) y4) y5) y6) (((((b.2 y2).2 y3) y4) y5) y6)⟩⟩
set_option maxHeartbeats 4000000 in
theorem cj_X6_allBits {σ : zSto} {P Q R : Int32 → zSto → Prop} (hR : ∀ (z0 : Int32) (z1 : zSto), P z0 z1 → Q z0 z1 → R z0 z1) (a : w_X6_allBits σ P) (b : w_X6_allBits σ Q) : w_X6_allBits σ R := by
  unfold w_X6_allBits at a b ⊢
  exact Exists.elim a (fun y1 y3 => Exists.elim b (fun y2 y4 => ⟨y1, cj_X6_allBits_4 hR _ _ _ _ _ y3 y4⟩))
set_option maxHeartbeats 4000000 in
theorem cj_X6_findHolding_34 {q_1 : Nat} {P Q R : zSto → Prop} (hR : ∀ (z0 : zSto), P z0 → Q z0 → R z0) : ∀ (n1 n2 : Nat) (x_3 : Int32) (x_4 : Int32) (x_5 : Int32) (x_6 : Int32) (x_7 : Int32) (x_8 : Int32) (σ : zSto), w_X6_findHolding_34 q_1 P n1 x_3 x_4 x_5 x_6 x_7 x_8 σ → w_X6_findHolding_34 q_1 Q n2 x_3 x_4 x_5 x_6 x_7 x_8 σ → w_X6_findHolding_34 q_1 R n1 x_3 x_4 x_5 x_6 x_7 x_8 σ := by
  intro n1
  induction n1 with
  | zero => intro n2 x_3 x_4 x_5 x_6 x_7 x_8 σ a b; exact a.elim
  | succ n1 ih =>
    intro n2 x_3 x_4 x_5 x_6 x_7 x_8 σ a b
    cases n2 with
    | zero => exact b.elim
    | succ n2 =>
      unfold w_X6_findHolding_34 at a b ⊢
      exact ⟨fun y1 => fun y2 => fun y3 => fun y4 => fun y5 => ⟨fun y6 => cj_X6_allBits (fun y7 y8 y9 y10 => fun y11 => fun y12 => fun y13 => fun y14 => hR _ ((((y9 y11) y12) y13) y14) ((((y10 y11) y12) y13) y14)) ((((((a.1 y1) y2) y3) y4) y5).1 y6) ((((((b.1 y1) y2) y3) y4) y5).1 y6), fun y15 => fun y16 => fun y17 => fun y18 => fun y19 => hR _ ((((((((((a.1 y1) y2) y3) y4) y5).2 y15) y16) y17) y18) y19) ((((((((((b.1 y1) y2) y3) y4) y5).2 y15) y16) y17) y18) y19)⟩, fun y20 => ⟨fun y21 => fun y22 => fun y23 => fun y24 => fun y25 => ⟨fun y26 => cj_X6_allBits (fun y27 y28 y29 y30 => fun y31 => fun y32 => fun y33 => fun y34 => hR _ ((((y29 y31) y32) y33) y34) ((((y30 y31) y32) y33) y34)) (((((((a.2 y20).1 y21) y22) y23) y24) y25).1 y26) (((((((b.2 y20).1 y21) y22) y23) y24) y25).1 y26), fun y35 => fun y36 => fun y37 => fun y38 => fun y39 => hR _ (((((((((((a.2 y20).1 y21) y22) y23) y24) y25).2 y35) y36) y37) y38) y39) (((((((((((b.2 y20).1 y21) y22) y23) y24) y25).2 y35) y36) y37) y38) y39)⟩, fun y40 => ⟨((a.2 y20).2 y40).1, ⟨fun y41 => ⟨fun y42 => fun y43 => fun y44 => ih _ _ _ _ _ _ _ _ ((((((a.2 y20).2 y40).2.1 y41).1 y42) y43) y44) ((((((b.2 y20).2 y40).2.1 y41).1 y42) y43) y44), fun y45 => cj_X0_cost (fun y46 y47 y48 y49 => cj_X6_add (fun y50 y51 y52 => fun y53 => fun y54 => ih _ _ _ _ _ _ _ _ ((y51 y53) y54) ((y52 y53) y54)) y48 y49) ((((a.2 y20).2 y40).2.1 y41).2 y45) ((((b.2 y20).2 y40).2.1 y41).2 y45)⟩, fun y55 => ⟨(((a.2 y20).2 y40).2.2 y55).1, cj_X0_minutesTo (fun y56 y57 y58 y59 => cj_X6_find (fun y60 y61 y62 => fun y63 => fun y64 => fun y65 => fun y66 => fun y67 => fun y68 => fun y69 => fun y70 => ⟨((((((((y61 y63) y64) y65) y66) y67) y68) y69) y70).1, cj_X0_minutesTo (fun y71 y72 y73 y74 => fun y75 => fun y76 => cj_X6_clear (fun y77 y78 y79 => ⟨fun y80 => fun y81 => fun y82 => ih _ _ _ _ _ _ _ _ (((y78.1 y80) y81) y82) (((y79.1 y80) y81) y82), fun y83 => cj_X0_cost (fun y84 y85 y86 y87 => cj_X6_add (fun y88 y89 y90 => fun y91 => fun y92 => ih _ _ _ _ _ _ _ _ ((y89 y91) y92) ((y90 y91) y92)) y86 y87) (y78.2 y83) (y79.2 y83)⟩) ((y73 y75) y76) ((y74 y75) y76)) ((((((((y61 y63) y64) y65) y66) y67) y68) y69) y70).2 ((((((((y62 y63) y64) y65) y66) y67) y68) y69) y70).2⟩) y58 y59) (((a.2 y20).2 y40).2.2 y55).2 (((b.2 y20).2 y40).2.2 y55).2⟩⟩⟩⟩⟩
set_option maxHeartbeats 4000000 in
theorem cj_X6_findHolding {b1 : Nat} {b2 : Nat} {σ : zSto} {P Q R : zSto → Prop} (hR : ∀ (z0 : zSto), P z0 → Q z0 → R z0) (a : w_X6_findHolding b1 b2 σ P) (b : w_X6_findHolding b1 b2 σ Q) : w_X6_findHolding b1 b2 σ R := by
  unfold w_X6_findHolding at a b ⊢
  exact cj_X6_fillDues (fun y1 y2 y3 y4 => fun y5 => ⟨fun y6 => cj_X6_clear (fun y7 y8 y9 => Exists.elim y8 (fun y10 y12 => Exists.elim y9 (fun y11 y13 => ⟨y10, cj_X6_findHolding_34 hR _ _ _ _ _ _ _ _ _ y12 y13⟩))) ((y3 y5).1 y6) ((y4 y5).1 y6), fun y14 => cj_X6_clear (fun y15 y16 y17 => Exists.elim y16 (fun y18 y20 => Exists.elim y17 (fun y19 y21 => ⟨y18, cj_X6_findHolding_34 hR _ _ _ _ _ _ _ _ _ y20 y21⟩))) ((y3 y5).2 y14) ((y4 y5).2 y14)⟩) a b
set_option maxHeartbeats 4000000 in
theorem cj_X9_hold {a1 : Int32} {a2 : Int32} {a3 : Int32} {σ : zSto} {P Q R : Int32 → zSto → Prop} (hR : ∀ (z0 : Int32) (z1 : zSto), P z0 z1 → Q z0 z1 → R z0 z1) (a : w_X9_hold a1 a2 a3 σ P) (b : w_X9_hold a1 a2 a3 σ Q) : w_X9_hold a1 a2 a3 σ R := by
  unfold w_X9_hold at a b ⊢
  exact cj_X8_lineAt (fun y1 y2 y3 y4 => ⟨fun y5 => cj_X8_logAt (fun y6 y7 y8 y9 => ⟨fun y10 => hR _ _ (y8.1 y10) (y9.1 y10), fun y11 => fun y12 => ⟨((y8.2 y11) y12).1, hR _ _ ((y8.2 y11) y12).2 ((y9.2 y11) y12).2⟩⟩) (y3.1 y5) (y4.1 y5), fun y13 => fun y14 => ⟨((y3.2 y13) y14).1, cj_X8_logAt (fun y15 y16 y17 y18 => ⟨fun y19 => hR _ _ (y17.1 y19) (y18.1 y19), fun y20 => fun y21 => ⟨((y17.2 y20) y21).1, ⟨fun y22 => hR _ _ (((y17.2 y20) y21).2.1 y22) (((y18.2 y20) y21).2.1 y22), fun y23 => ⟨fun y24 => cj_X6_findHolding (fun y25 y26 y27 => ⟨fun y28 => hR _ _ (y26.1 y28) (y27.1 y28), ⟨fun y29 => cj_X6_surePosts (fun y30 y31 y32 y33 => hR _ _ y32 y33) (y26.2.1 y29) (y27.2.1 y29), ⟨fun y34 => hR _ _ (y26.2.2.1 y34) (y27.2.2.1 y34), fun y35 => ⟨fun y36 => hR _ _ ((y26.2.2.2 y35).1 y36) ((y27.2.2.2 y35).1 y36), fun y37 => hR _ _ ((y26.2.2.2 y35).2 y37) ((y27.2.2.2 y35).2 y37)⟩⟩⟩⟩) ((((y17.2 y20) y21).2.2 y23).1 y24) ((((y18.2 y20) y21).2.2 y23).1 y24), fun y38 => hR _ _ ((((y17.2 y20) y21).2.2 y23).2 y38) ((((y18.2 y20) y21).2.2 y23).2 y38)⟩⟩⟩⟩) ((y3.2 y13) y14).2 ((y4.2 y13) y14).2⟩⟩) a b
