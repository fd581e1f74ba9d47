/-! two promises of one call make one -/
set_option maxHeartbeats 4000000 in
theorem cj_X10_vote_86 {x_4 : Int32} {P Q R : Int32 → zSto → Prop} (hR : ∀ (z0 : Int32) (z1 : zSto), P z0 z1 → Q z0 z1 → R z0 z1) : ∀ (n1 n2 : Nat) (x_5 : Int32) (x_6 : Int32) (σ : zSto), w_X10_vote_86 x_4 P n1 x_5 x_6 σ → w_X10_vote_86 x_4 Q n2 x_5 x_6 σ → w_X10_vote_86 x_4 R n1 x_5 x_6 σ := by
  intro n1
  induction n1 with
  | zero => intro n2 x_5 x_6 σ a b; exact a.elim
  | succ n1 ih =>
    intro n2 x_5 x_6 σ a b
    cases n2 with
    | zero => exact b.elim
    | succ n2 =>
      unfold w_X10_vote_86 at a b ⊢
      exact ⟨fun y1 => ⟨fun y2 => hR _ _ ((a.1 y1).1 y2) ((b.1 y1).1 y2), fun y3 => ⟨((a.1 y1).2 y3).1, hR _ _ ((a.1 y1).2 y3).2 ((b.1 y1).2 y3).2⟩⟩, fun y4 => ⟨(a.2 y4).1, ⟨(a.2 y4).2.1, ⟨fun y5 => fun y6 => fun y7 => ih _ _ _ _ ((((a.2 y4).2.2.1 y5) y6) y7) ((((b.2 y4).2.2.1 y5) y6) y7), fun y8 => fun y9 => fun y10 => ih _ _ _ _ ((((a.2 y4).2.2.2 y8) y9) y10) ((((b.2 y4).2.2.2 y8) y9) y10)⟩⟩⟩⟩
set_option maxHeartbeats 4000000 in
theorem cj_X10_vote_49 {x_2 : Int32} {x_4 : Int32} {P Q R : Int32 → zSto → Prop} (hR : ∀ (z0 : Int32) (z1 : zSto), P z0 z1 → Q z0 z1 → R z0 z1) : ∀ (n1 n2 : Nat) (x_5 : Int32) (σ : zSto), w_X10_vote_49 x_2 x_4 P n1 x_5 σ → w_X10_vote_49 x_2 x_4 Q n2 x_5 σ → w_X10_vote_49 x_2 x_4 R n1 x_5 σ := by
  intro n1
  induction n1 with
  | zero => intro n2 x_5 σ a b; exact a.elim
  | succ n1 ih =>
    intro n2 x_5 σ a b
    cases n2 with
    | zero => exact b.elim
    | succ n2 =>
      unfold w_X10_vote_49 at a b ⊢
      exact ⟨fun y1 => Exists.elim (a.1 y1) (fun y2 y4 => Exists.elim (b.1 y1) (fun y3 y5 => ⟨y2, cj_X10_vote_86 hR _ _ _ _ _ y4 y5⟩)), fun y6 => cj_X10_lawFor (fun y7 y8 y9 y10 => ⟨y9.1, ⟨y9.2.1, fun y11 => fun y12 => fun y13 => fun y14 => ih _ _ _ ((((y9.2.2 y11) y12) y13) y14) ((((y10.2.2 y11) y12) y13) y14)⟩⟩) (a.2 y6) (b.2 y6)⟩
set_option maxHeartbeats 4000000 in
theorem cj_X10_vote_26 {x_2 : Int32} {x_4 : Int32} {P Q R : Int32 → zSto → Prop} (hR : ∀ (z0 : Int32) (z1 : zSto), P z0 z1 → Q z0 z1 → R z0 z1) : ∀ (n1 n2 : Nat) (x_5 : Int32) (σ : zSto), w_X10_vote_26 x_2 x_4 P n1 x_5 σ → w_X10_vote_26 x_2 x_4 Q n2 x_5 σ → w_X10_vote_26 x_2 x_4 R n1 x_5 σ := by
  intro n1
  induction n1 with
  | zero => intro n2 x_5 σ a b; exact a.elim
  | succ n1 ih =>
    intro n2 x_5 σ a b
    cases n2 with
    | zero => exact b.elim
    | succ n2 =>
      unfold w_X10_vote_26 at a b ⊢
      exact ⟨fun y1 => Exists.elim (a.1 y1) (fun y2 y4 => Exists.elim (b.1 y1) (fun y3 y5 => ⟨y2, cj_X10_vote_49 hR _ _ _ _ y4 y5⟩)), fun y6 => ⟨(a.2 y6).1, fun y7 => fun y8 => fun y9 => fun y10 => ih _ _ _ (((((a.2 y6).2 y7) y8) y9) y10) (((((b.2 y6).2 y7) y8) y9) y10)⟩⟩
set_option maxHeartbeats 4000000 in
theorem cj_X10_vote {a1 : Int32} {a2 : Int32} {a3 : Int32} {a4 : Int32} {σ : zSto} {P Q R : Int32 → zSto → Prop} (hR : ∀ (z0 : Int32) (z1 : zSto), P z0 z1 → Q z0 z1 → R z0 z1) (a : w_X10_vote a1 a2 a3 a4 σ P) (b : w_X10_vote a1 a2 a3 a4 σ Q) : w_X10_vote a1 a2 a3 a4 σ R := by
  unfold w_X10_vote at a b ⊢
  exact fun y1 => fun y2 => cj_X10_hand (fun y3 y4 y5 y6 => fun y7 => ⟨fun y8 => hR _ _ ((y5 y7).1 y8) ((y6 y7).1 y8), fun y9 => ⟨fun y10 => Exists.elim (((y5 y7).2 y9).1 y10) (fun y11 y13 => Exists.elim (((y6 y7).2 y9).1 y10) (fun y12 y14 => ⟨y11, cj_X10_vote_26 hR _ _ _ _ y13 y14⟩)), fun y15 => hR _ _ (((y5 y7).2 y9).2 y15) (((y6 y7).2 y9).2 y15)⟩⟩) ((a y1) y2) ((b y1) y2)
set_option maxHeartbeats 4000000 in
theorem cj_X10_richest_6  {P Q R : Int32 → zSto → Prop} (hR : ∀ (z0 : Int32) (z1 : zSto), P z0 z1 → Q z0 z1 → R z0 z1) : ∀ (n1 n2 : Nat) (x_1 : Int32) (x_2 : Int32) (x_3 : Int32) (σ : zSto), w_X10_richest_6 P n1 x_1 x_2 x_3 σ → w_X10_richest_6 Q n2 x_1 x_2 x_3 σ → w_X10_richest_6 R n1 x_1 x_2 x_3 σ := by
  intro n1
  induction n1 with
  | zero => intro n2 x_1 x_2 x_3 σ a b; exact a.elim
  | succ n1 ih =>
    intro n2 x_1 x_2 x_3 σ a b
    cases n2 with
    | zero => exact b.elim
    | succ n2 =>
      unfold w_X10_richest_6 at a b ⊢
      exact ⟨fun y1 => hR _ _ (a.1 y1) (b.1 y1), fun y2 => ⟨(a.2 y2).1, ⟨fun y3 => ⟨((a.2 y2).2.1 y3).1, cj_X10_greater (fun y4 y5 y6 y7 => fun y8 => fun y9 => ih _ _ _ _ _ ((y6 y8) y9) ((y7 y8) y9)) ((a.2 y2).2.1 y3).2 ((b.2 y2).2.1 y3).2⟩, fun y10 => ⟨((a.2 y2).2.2 y10).1, cj_X10_greater (fun y11 y12 y13 y14 => fun y15 => fun y16 => ih _ _ _ _ _ ((y13 y15) y16) ((y14 y15) y16)) ((a.2 y2).2.2 y10).2 ((b.2 y2).2.2 y10).2⟩⟩⟩⟩
set_option maxHeartbeats 4000000 in
theorem cj_X10_richest {σ : zSto} {P Q R : Int32 → zSto → Prop} (hR : ∀ (z0 : Int32) (z1 : zSto), P z0 z1 → Q z0 z1 → R z0 z1) (a : w_X10_richest σ P) (b : w_X10_richest σ Q) : w_X10_richest σ R := by
  unfold w_X10_richest at a b ⊢
  exact Exists.elim a (fun y1 y3 => Exists.elim b (fun y2 y4 => ⟨y1, cj_X10_richest_6 hR _ _ _ _ _ _ y3 y4⟩))
set_option maxHeartbeats 4000000 in
theorem cj_X10_spare_11 {x_1 : Int32} {x_2 : Int32} {P Q R : Int32 → zSto → Prop} (hR : ∀ (z0 : Int32) (z1 : zSto), P z0 z1 → Q z0 z1 → R z0 z1) : ∀ (n1 n2 : Nat) (x_3 : Int32) (x_4 : Int32) (x_5 : Int32) (σ : zSto), w_X10_spare_11 x_1 x_2 P n1 x_3 x_4 x_5 σ → w_X10_spare_11 x_1 x_2 Q n2 x_3 x_4 x_5 σ → w_X10_spare_11 x_1 x_2 R n1 x_3 x_4 x_5 σ := by
  intro n1
  induction n1 with
  | zero => intro n2 x_3 x_4 x_5 σ a b; exact a.elim
  | succ n1 ih =>
    intro n2 x_3 x_4 x_5 σ a b
    cases n2 with
    | zero => exact b.elim
    | succ n2 =>
      unfold w_X10_spare_11 at a b ⊢
      exact ⟨fun y1 => hR _ _ (a.1 y1) (b.1 y1), fun y2 => ⟨(a.2 y2).1, fun y3 => fun y4 => ⟨(((a.2 y2).2 y3) y4).1, fun y5 => fun y6 => cj_X10_everyone (fun y7 y8 y9 y10 => cj_X10_go (fun y11 y12 y13 => ⟨y12.1, fun y14 => fun y15 => ⟨fun y16 => ⟨fun y17 => fun y18 => fun y19 => ih _ _ _ _ _ ((((((y12.2 y14) y15).1 y16).1 y17) y18) y19) ((((((y13.2 y14) y15).1 y16).1 y17) y18) y19), fun y20 => fun y21 => fun y22 => fun y23 => fun y24 => ih _ _ _ _ _ ((((((((y12.2 y14) y15).1 y16).2 y20) y21) y22) y23) y24) ((((((((y13.2 y14) y15).1 y16).2 y20) y21) y22) y23) y24)⟩, fun y25 => ⟨fun y26 => fun y27 => fun y28 => ih _ _ _ _ _ ((((((y12.2 y14) y15).2 y25).1 y26) y27) y28) ((((((y13.2 y14) y15).2 y25).1 y26) y27) y28), fun y29 => fun y30 => fun y31 => fun y32 => fun y33 => ih _ _ _ _ _ ((((((((y12.2 y14) y15).2 y25).2 y29) y30) y31) y32) y33) ((((((((y13.2 y14) y15).2 y25).2 y29) y30) y31) y32) y33)⟩⟩⟩) y9 y10) (((((a.2 y2).2 y3) y4).2 y5) y6) (((((b.2 y2).2 y3) y4).2 y5) y6)⟩⟩⟩
set_option maxHeartbeats 4000000 in
theorem cj_X10_spare {a1 : Int32} {a2 : Int32} {σ : zSto} {P Q R : Int32 → zSto → Prop} (hR : ∀ (z0 : Int32) (z1 : zSto), P z0 z1 → Q z0 z1 → R z0 z1) (a : w_X10_spare a1 a2 σ P) (b : w_X10_spare a1 a2 σ Q) : w_X10_spare a1 a2 σ R := by
  unfold w_X10_spare at a b ⊢
  exact fun y1 => fun y2 => Exists.elim ((a y1) y2) (fun y3 y5 => Exists.elim ((b y1) y2) (fun y4 y6 => ⟨y3, cj_X10_spare_11 hR _ _ _ _ _ _ y5 y6⟩))
set_option maxHeartbeats 4000000 in
theorem cj_X10_rich {a1 : Int32} {a2 : Int32} {a3 : Int32} {a4 : Int32} {a5 : Int32} {σ : zSto} {P Q R : Int32 → zSto → Prop} (hR : ∀ (z0 : Int32) (z1 : zSto), P z0 z1 → Q z0 z1 → R z0 z1) (a : w_X10_rich a1 a2 a3 a4 a5 σ P) (b : w_X10_rich a1 a2 a3 a4 a5 σ Q) : w_X10_rich a1 a2 a3 a4 a5 σ R := by
  unfold w_X10_rich at a b ⊢
  exact fun y1 => fun y2 => cj_X10_layRun (fun y3 y4 y5 y6 => fun y7 => ⟨fun y8 => ⟨fun y9 => cj_X10_richest (fun y10 y11 y12 y13 => hR _ _ y12 y13) (((y5 y7).1 y8).1 y9) (((y6 y7).1 y8).1 y9), fun y14 => cj_X10_spare (fun y15 y16 y17 y18 => hR _ _ y17 y18) (((y5 y7).1 y8).2 y14) (((y6 y7).1 y8).2 y14)⟩, fun y19 => hR _ _ ((y5 y7).2 y19) ((y6 y7).2 y19)⟩) ((a y1) y2) ((b y1) y2)
set_option maxHeartbeats 4000000 in
theorem cj_X10_bid_97 {x_3 : Int32} {x_4 : Int32} {x_5 : Int32} {x_6 : Int32} {P Q R : Int32 → zSto → Prop} (hR : ∀ (z0 : Int32) (z1 : zSto), P z0 z1 → Q z0 z1 → R z0 z1) : ∀ (n1 n2 : Nat) (x_7 : Int32) (x_8 : Int32) (x_9 : Int32) (σ : zSto), w_X10_bid_97 x_3 x_4 x_5 x_6 P n1 x_7 x_8 x_9 σ → w_X10_bid_97 x_3 x_4 x_5 x_6 Q n2 x_7 x_8 x_9 σ → w_X10_bid_97 x_3 x_4 x_5 x_6 R n1 x_7 x_8 x_9 σ := by
  intro n1
  induction n1 with
  | zero => intro n2 x_7 x_8 x_9 σ a b; exact a.elim
  | succ n1 ih =>
    intro n2 x_7 x_8 x_9 σ a b
    cases n2 with
    | zero => exact b.elim
    | succ n2 =>
      unfold w_X10_bid_97 at a b ⊢
      exact ⟨fun y1 => ⟨fun y2 => ⟨fun y3 => ⟨(((a.1 y1).1 y2).1 y3).1, fun y4 => fun y5 => hR _ _ (((((a.1 y1).1 y2).1 y3).2 y4) y5) (((((b.1 y1).1 y2).1 y3).2 y4) y5)⟩, fun y6 => ⟨(((a.1 y1).1 y2).2 y6).1, fun y7 => fun y8 => ⟨fun y9 => cj_X10_everyone (fun y10 y11 y12 y13 => cj_X10_go (fun y14 y15 y16 => ⟨y15.1, ⟨fun y17 => ⟨(y15.2.1 y17).1, cj_X10_greater (fun y18 y19 y20 y21 => fun y22 => fun y23 => ih _ _ _ _ _ ((y20 y22) y23) ((y21 y22) y23)) (y15.2.1 y17).2 (y16.2.1 y17).2⟩, fun y24 => ⟨(y15.2.2 y24).1, cj_X10_greater (fun y25 y26 y27 y28 => fun y29 => fun y30 => ih _ _ _ _ _ ((y27 y29) y30) ((y28 y29) y30)) (y15.2.2 y24).2 (y16.2.2 y24).2⟩⟩⟩) y12 y13) ((((((a.1 y1).1 y2).2 y6).2 y7) y8).1 y9) ((((((b.1 y1).1 y2).2 y6).2 y7) y8).1 y9), fun y31 => cj_X10_everyone (fun y32 y33 y34 y35 => cj_X10_go (fun y36 y37 y38 => ⟨y37.1, ⟨fun y39 => ⟨(y37.2.1 y39).1, cj_X10_greater (fun y40 y41 y42 y43 => fun y44 => fun y45 => ih _ _ _ _ _ ((y42 y44) y45) ((y43 y44) y45)) (y37.2.1 y39).2 (y38.2.1 y39).2⟩, fun y46 => ⟨(y37.2.2 y46).1, cj_X10_greater (fun y47 y48 y49 y50 => fun y51 => fun y52 => ih _ _ _ _ _ ((y49 y51) y52) ((y50 y51) y52)) (y37.2.2 y46).2 (y38.2.2 y46).2⟩⟩⟩) y34 y35) ((((((a.1 y1).1 y2).2 y6).2 y7) y8).2 y31) ((((((b.1 y1).1 y2).2 y6).2 y7) y8).2 y31)⟩⟩⟩, fun y53 => ⟨fun y54 => ⟨(((a.1 y1).2 y53).1 y54).1, fun y55 => fun y56 => hR _ _ (((((a.1 y1).2 y53).1 y54).2 y55) y56) (((((b.1 y1).2 y53).1 y54).2 y55) y56)⟩, fun y57 => ⟨(((a.1 y1).2 y53).2 y57).1, fun y58 => fun y59 => ⟨fun y60 => cj_X10_everyone (fun y61 y62 y63 y64 => cj_X10_go (fun y65 y66 y67 => ⟨y66.1, ⟨fun y68 => ⟨(y66.2.1 y68).1, cj_X10_greater (fun y69 y70 y71 y72 => fun y73 => fun y74 => ih _ _ _ _ _ ((y71 y73) y74) ((y72 y73) y74)) (y66.2.1 y68).2 (y67.2.1 y68).2⟩, fun y75 => ⟨(y66.2.2 y75).1, cj_X10_greater (fun y76 y77 y78 y79 => fun y80 => fun y81 => ih _ _ _ _ _ ((y78 y80) y81) ((y79 y80) y81)) (y66.2.2 y75).2 (y67.2.2 y75).2⟩⟩⟩) y63 y64) ((((((a.1 y1).2 y53).2 y57).2 y58) y59).1 y60) ((((((b.1 y1).2 y53).2 y57).2 y58) y59).1 y60), fun y82 => cj_X10_everyone (fun y83 y84 y85 y86 => cj_X10_go (fun y87 y88 y89 => ⟨y88.1, ⟨fun y90 => ⟨(y88.2.1 y90).1, cj_X10_greater (fun y91 y92 y93 y94 => fun y95 => fun y96 => ih _ _ _ _ _ ((y93 y95) y96) ((y94 y95) y96)) (y88.2.1 y90).2 (y89.2.1 y90).2⟩, fun y97 => ⟨(y88.2.2 y97).1, cj_X10_greater (fun y98 y99 y100 y101 => fun y102 => fun y103 => ih _ _ _ _ _ ((y100 y102) y103) ((y101 y102) y103)) (y88.2.2 y97).2 (y89.2.2 y97).2⟩⟩⟩) y85 y86) ((((((a.1 y1).2 y53).2 y57).2 y58) y59).2 y82) ((((((b.1 y1).2 y53).2 y57).2 y58) y59).2 y82)⟩⟩⟩⟩, fun y104 => ⟨fun y105 => ⟨((a.2 y104).1 y105).1, fun y106 => fun y107 => hR _ _ ((((a.2 y104).1 y105).2 y106) y107) ((((b.2 y104).1 y105).2 y106) y107)⟩, fun y108 => ⟨((a.2 y104).2 y108).1, fun y109 => fun y110 => ⟨fun y111 => cj_X10_everyone (fun y112 y113 y114 y115 => cj_X10_go (fun y116 y117 y118 => ⟨y117.1, ⟨fun y119 => ⟨(y117.2.1 y119).1, cj_X10_greater (fun y120 y121 y122 y123 => fun y124 => fun y125 => ih _ _ _ _ _ ((y122 y124) y125) ((y123 y124) y125)) (y117.2.1 y119).2 (y118.2.1 y119).2⟩, fun y126 => ⟨(y117.2.2 y126).1, cj_X10_greater (fun y127 y128 y129 y130 => fun y131 => fun y132 => ih _ _ _ _ _ ((y129 y131) y132) ((y130 y131) y132)) (y117.2.2 y126).2 (y118.2.2 y126).2⟩⟩⟩) y114 y115) (((((a.2 y104).2 y108).2 y109) y110).1 y111) (((((b.2 y104).2 y108).2 y109) y110).1 y111), fun y133 => cj_X10_everyone (fun y134 y135 y136 y137 => cj_X10_go (fun y138 y139 y140 => ⟨y139.1, ⟨fun y141 => ⟨(y139.2.1 y141).1, cj_X10_greater (fun y142 y143 y144 y145 => fun y146 => fun y147 => ih _ _ _ _ _ ((y144 y146) y147) ((y145 y146) y147)) (y139.2.1 y141).2 (y140.2.1 y141).2⟩, fun y148 => ⟨(y139.2.2 y148).1, cj_X10_greater (fun y149 y150 y151 y152 => fun y153 => fun y154 => ih _ _ _ _ _ ((y151 y153) y154) ((y152 y153) y154)) (y139.2.2 y148).2 (y140.2.2 y148).2⟩⟩⟩) y136 y137) (((((a.2 y104).2 y108).2 y109) y110).2 y133) (((((b.2 y104).2 y108).2 y109) y110).2 y133)⟩⟩⟩⟩
set_option maxHeartbeats 4000000 in
theorem cj_X10_bid {a1 : Int32} {a2 : Int32} {a3 : Int32} {a4 : Int32} {σ : zSto} {P Q R : Int32 → zSto → Prop} (hR : ∀ (z0 : Int32) (z1 : zSto), P z0 z1 → Q z0 z1 → R z0 z1) (a : w_X10_bid a1 a2 a3 a4 σ P) (b : w_X10_bid a1 a2 a3 a4 σ Q) : w_X10_bid a1 a2 a3 a4 σ R := by
  unfold w_X10_bid at a b ⊢
  exact fun y1 => fun y2 => cj_X10_in (fun y3 y4 y5 y6 => fun y7 => ⟨fun y8 => hR _ _ ((y5 y7).1 y8) ((y6 y7).1 y8), fun y9 => cj_X10_hand (fun y10 y11 y12 y13 => fun y14 => ⟨fun y15 => hR _ _ ((y12 y14).1 y15) ((y13 y14).1 y15), fun y16 => cj_X10_isRider (fun y17 y18 y19 y20 => fun y21 => ⟨fun y22 => ⟨fun y23 => ⟨fun y24 => fun y25 => fun y26 => ⟨((((((y19 y21).1 y22).1 y23).1 y24) y25) y26).1, fun y27 => fun y28 => ⟨fun y29 => Exists.elim (((((((((y19 y21).1 y22).1 y23).1 y24) y25) y26).2 y27) y28).1 y29) (fun y30 y32 => Exists.elim (((((((((y20 y21).1 y22).1 y23).1 y24) y25) y26).2 y27) y28).1 y29) (fun y31 y33 => ⟨y30, cj_X10_bid_97 hR _ _ _ _ _ _ y32 y33⟩)), fun y34 => Exists.elim (((((((((y19 y21).1 y22).1 y23).1 y24) y25) y26).2 y27) y28).2 y34) (fun y35 y37 => Exists.elim (((((((((y20 y21).1 y22).1 y23).1 y24) y25) y26).2 y27) y28).2 y34) (fun y36 y38 => ⟨y35, cj_X10_bid_97 hR _ _ _ _ _ _ y37 y38⟩))⟩⟩, fun y39 => fun y40 => fun y41 => ⟨((((((y19 y21).1 y22).1 y23).2 y39) y40) y41).1, fun y42 => fun y43 => ⟨fun y44 => Exists.elim (((((((((y19 y21).1 y22).1 y23).2 y39) y40) y41).2 y42) y43).1 y44) (fun y45 y47 => Exists.elim (((((((((y20 y21).1 y22).1 y23).2 y39) y40) y41).2 y42) y43).1 y44) (fun y46 y48 => ⟨y45, cj_X10_bid_97 hR _ _ _ _ _ _ y47 y48⟩)), fun y49 => Exists.elim (((((((((y19 y21).1 y22).1 y23).2 y39) y40) y41).2 y42) y43).2 y49) (fun y50 y52 => Exists.elim (((((((((y20 y21).1 y22).1 y23).2 y39) y40) y41).2 y42) y43).2 y49) (fun y51 y53 => ⟨y50, cj_X10_bid_97 hR _ _ _ _ _ _ y52 y53⟩))⟩⟩⟩, fun y54 => fun y55 => fun y56 => ⟨(((((y19 y21).1 y22).2 y54) y55) y56).1, fun y57 => fun y58 => ⟨fun y59 => Exists.elim ((((((((y19 y21).1 y22).2 y54) y55) y56).2 y57) y58).1 y59) (fun y60 y62 => Exists.elim ((((((((y20 y21).1 y22).2 y54) y55) y56).2 y57) y58).1 y59) (fun y61 y63 => ⟨y60, cj_X10_bid_97 hR _ _ _ _ _ _ y62 y63⟩)), fun y64 => Exists.elim ((((((((y19 y21).1 y22).2 y54) y55) y56).2 y57) y58).2 y64) (fun y65 y67 => Exists.elim ((((((((y20 y21).1 y22).2 y54) y55) y56).2 y57) y58).2 y64) (fun y66 y68 => ⟨y65, cj_X10_bid_97 hR _ _ _ _ _ _ y67 y68⟩))⟩⟩⟩, fun y69 => hR _ _ ((y19 y21).2 y69) ((y20 y21).2 y69)⟩) ((y12 y14).2 y16) ((y13 y14).2 y16)⟩) ((y5 y7).2 y9) ((y6 y7).2 y9)⟩) ((a y1) y2) ((b y1) y2)
set_option maxHeartbeats 4000000 in
theorem cj_X5_byPlan_12 {q_1 : Nat} {q_2 : Nat} {P Q R : Int32 → zSto → Prop} (hR : ∀ (z0 : Int32) (z1 : zSto), P z0 z1 → Q z0 z1 → R z0 z1) : ∀ (n1 n2 : Nat) (x_4 : Int32) (x_5 : Int32) (σ : zSto), w_X5_byPlan_12 q_1 q_2 P n1 x_4 x_5 σ → w_X5_byPlan_12 q_1 q_2 Q n2 x_4 x_5 σ → w_X5_byPlan_12 q_1 q_2 R n1 x_4 x_5 σ := by
  intro n1
  induction n1 with
  | zero => intro n2 x_4 x_5 σ a b; exact a.elim
  | succ n1 ih =>
    intro n2 x_4 x_5 σ a b
    cases n2 with
    | zero => exact b.elim
    | succ n2 =>
      unfold w_X5_byPlan_12 at a b ⊢
      exact ⟨fun y1 => hR _ _ (a.1 y1) (b.1 y1), fun y2 => ⟨(a.2 y2).1, fun y3 => fun y4 => ⟨(((a.2 y2).2 y3) y4).1, fun y5 => fun y6 => ⟨fun y7 => hR _ _ ((((((a.2 y2).2 y3) y4).2 y5) y6).1 y7) ((((((b.2 y2).2 y3) y4).2 y5) y6).1 y7), fun y8 => cj_X5_canPull (fun y9 y10 y11 y12 => fun y13 => ⟨fun y14 => cj_X5_stopAt (fun y15 y16 y17 => fun y18 => fun y19 => ih _ _ _ _ ((y16 y18) y19) ((y17 y18) y19)) ((y11 y13).1 y14) ((y12 y13).1 y14), fun y20 => hR _ _ ((y11 y13).2 y20) ((y12 y13).2 y20)⟩) ((((((a.2 y2).2 y3) y4).2 y5) y6).2 y8) ((((((b.2 y2).2 y3) y4).2 y5) y6).2 y8)⟩⟩⟩⟩
set_option maxHeartbeats 4000000 in
theorem cj_X5_byPlan {b1 : Nat} {b2 : Nat} {a3 : Int32} {σ : zSto} {P Q R : Int32 → zSto → Prop} (hR : ∀ (z0 : Int32) (z1 : zSto), P z0 z1 → Q z0 z1 → R z0 z1) (a : w_X5_byPlan b1 b2 a3 σ P) (b : w_X5_byPlan b1 b2 a3 σ Q) : w_X5_byPlan b1 b2 a3 σ R := by
  unfold w_X5_byPlan at a b ⊢
  exact cj_X5_begin (fun y1 y2 y3 => Exists.elim y2 (fun y4 y6 => Exists.elim y3 (fun y5 y7 => ⟨y4, cj_X5_byPlan_12 hR _ _ _ _ _ y6 y7⟩))) a b
set_option maxHeartbeats 4000000 in
theorem cj_X9_played {a1 : Int32} {a2 : Int32} {a3 : Int32} {a4 : Int32} {σ : zSto} {P Q R : Int32 → zSto → Prop} (hR : ∀ (z0 : Int32) (z1 : zSto), P z0 z1 → Q z0 z1 → R z0 z1) (a : w_X9_played a1 a2 a3 a4 σ P) (b : w_X9_played a1 a2 a3 a4 σ Q) : w_X9_played a1 a2 a3 a4 σ R := by
  unfold w_X9_played at a b ⊢
  exact cj_X8_lineAt (fun y1 y2 y3 y4 => ⟨fun y5 => cj_X8_planAt (fun y6 y7 y8 y9 => ⟨fun y10 => hR _ _ (y8.1 y10) (y9.1 y10), fun y11 => fun y12 => ⟨((y8.2 y11) y12).1, hR _ _ ((y8.2 y11) y12).2 ((y9.2 y11) y12).2⟩⟩) (y3.1 y5) (y4.1 y5), fun y13 => fun y14 => ⟨((y3.2 y13) y14).1, cj_X8_planAt (fun y15 y16 y17 y18 => ⟨fun y19 => hR _ _ (y17.1 y19) (y18.1 y19), fun y20 => fun y21 => ⟨((y17.2 y20) y21).1, cj_X9_isWeek (fun y22 y23 y24 y25 => fun y26 => ⟨fun y27 => cj_X5_byPlan (fun y28 y29 y30 y31 => ⟨fun y32 => ⟨fun y33 => hR _ _ ((y30.1 y32).1 y33) ((y31.1 y32).1 y33), ⟨fun y34 => hR _ _ ((y30.1 y32).2.1 y34) ((y31.1 y32).2.1 y34), ⟨fun y35 => hR _ _ ((y30.1 y32).2.2.1 y35) ((y31.1 y32).2.2.1 y35), ⟨fun y36 => cj_X5_fines (fun y37 y38 y39 y40 => hR _ _ y39 y40) ((y30.1 y32).2.2.2.1 y36) ((y31.1 y32).2.2.2.1 y36), ⟨fun y41 => hR _ _ ((y30.1 y32).2.2.2.2.1 y41) ((y31.1 y32).2.2.2.2.1 y41), fun y42 => hR _ _ ((y30.1 y32).2.2.2.2.2 y42) ((y31.1 y32).2.2.2.2.2 y42)⟩⟩⟩⟩⟩, fun y43 => ⟨fun y44 => ⟨fun y45 => hR _ _ (((y30.2 y43).1 y44).1 y45) (((y31.2 y43).1 y44).1 y45), ⟨fun y46 => hR _ _ (((y30.2 y43).1 y44).2.1 y46) (((y31.2 y43).1 y44).2.1 y46), ⟨fun y47 => hR _ _ (((y30.2 y43).1 y44).2.2.1 y47) (((y31.2 y43).1 y44).2.2.1 y47), ⟨fun y48 => cj_X5_fines (fun y49 y50 y51 y52 => hR _ _ y51 y52) (((y30.2 y43).1 y44).2.2.2.1 y48) (((y31.2 y43).1 y44).2.2.2.1 y48), ⟨fun y53 => hR _ _ (((y30.2 y43).1 y44).2.2.2.2.1 y53) (((y31.2 y43).1 y44).2.2.2.2.1 y53), fun y54 => hR _ _ (((y30.2 y43).1 y44).2.2.2.2.2 y54) (((y31.2 y43).1 y44).2.2.2.2.2 y54)⟩⟩⟩⟩⟩, fun y55 => ⟨((y30.2 y43).2 y55).1, hR _ _ ((y30.2 y43).2 y55).2 ((y31.2 y43).2 y55).2⟩⟩⟩) ((y24 y26).1 y27) ((y25 y26).1 y27), fun y56 => hR _ _ ((y24 y26).2 y56) ((y25 y26).2 y56)⟩) ((y17.2 y20) y21).2 ((y18.2 y20) y21).2⟩⟩) ((y3.2 y13) y14).2 ((y4.2 y13) y14).2⟩⟩) a b
set_option maxHeartbeats 4000000 in
theorem cj_X10_canPull {a1 : Int32} {σ : zSto} {P Q R : Int32 → zSto → Prop} (hR : ∀ (z0 : Int32) (z1 : zSto), P z0 z1 → Q z0 z1 → R z0 z1) (a : w_X10_canPull a1 σ P) (b : w_X10_canPull a1 σ Q) : w_X10_canPull a1 σ R := by
  unfold w_X10_canPull at a b ⊢
  exact cj_X10_pullOf (fun y1 y2 y3 y4 => cj_X10_pullOf (fun y5 y6 y7 y8 => ⟨fun y9 => hR _ _ (y7.1 y9) (y8.1 y9), fun y10 => ⟨fun y11 => cj_X10_isRider (fun y12 y13 y14 y15 => fun y16 => ⟨fun y17 => hR _ _ ((y14 y16).1 y17) ((y15 y16).1 y17), fun y18 => cj_X10_isOn (fun y19 y20 y21 y22 => fun y23 => ⟨fun y24 => hR _ _ ((y21 y23).1 y24) ((y22 y23).1 y24), fun y25 => ⟨((y21 y23).2 y25).1, cj_X10_riderOf (fun y26 y27 y28 y29 => ⟨fun y30 => hR _ _ (y28.1 y30) (y29.1 y30), fun y31 => ⟨(y28.2 y31).1, ⟨fun y32 => hR _ _ ((y28.2 y31).2.1 y32) ((y29.2 y31).2.1 y32), fun y33 => hR _ _ ((y28.2 y31).2.2 y33) ((y29.2 y31).2.2 y33)⟩⟩⟩) ((y21 y23).2 y25).2 ((y22 y23).2 y25).2⟩⟩) ((y14 y16).2 y18) ((y15 y16).2 y18)⟩) ((y7.2 y10).1 y11) ((y8.2 y10).1 y11), fun y34 => cj_X10_pullOf (fun y35 y36 y37 y38 => ⟨fun y39 => cj_X10_isRider (fun y40 y41 y42 y43 => fun y44 => ⟨fun y45 => hR _ _ ((y42 y44).1 y45) ((y43 y44).1 y45), fun y46 => cj_X10_isOn (fun y47 y48 y49 y50 => fun y51 => ⟨fun y52 => hR _ _ ((y49 y51).1 y52) ((y50 y51).1 y52), fun y53 => ⟨((y49 y51).2 y53).1, cj_X10_riderOf (fun y54 y55 y56 y57 => ⟨fun y58 => hR _ _ (y56.1 y58) (y57.1 y58), fun y59 => ⟨(y56.2 y59).1, ⟨fun y60 => hR _ _ ((y56.2 y59).2.1 y60) ((y57.2 y59).2.1 y60), fun y61 => hR _ _ ((y56.2 y59).2.2 y61) ((y57.2 y59).2.2 y61)⟩⟩⟩) ((y49 y51).2 y53).2 ((y50 y51).2 y53).2⟩⟩) ((y42 y44).2 y46) ((y43 y44).2 y46)⟩) (y37.1 y39) (y38.1 y39), fun y62 => hR _ _ (y37.2 y62) (y38.2 y62)⟩) ((y7.2 y10).2 y34) ((y8.2 y10).2 y34)⟩⟩) y3 y4) a b
set_option maxHeartbeats 4000000 in
theorem cj_X10_doPlan_29  {P Q R : Int32 → zSto → Prop} (hR : ∀ (z0 : Int32) (z1 : zSto), P z0 z1 → Q z0 z1 → R z0 z1) : ∀ (n1 n2 : Nat) (x_1 : Int32) (σ : zSto), w_X10_doPlan_29 P n1 x_1 σ → w_X10_doPlan_29 Q n2 x_1 σ → w_X10_doPlan_29 R n1 x_1 σ := by
  intro n1
  induction n1 with
  | zero => intro n2 x_1 σ a b; exact a.elim
  | succ n1 ih =>
    intro n2 x_1 σ a b
    cases n2 with
    | zero => exact b.elim
    | succ n2 =>
      unfold w_X10_doPlan_29 at a b ⊢
      exact cj_X10_pulls (fun y1 y2 y3 y4 => ⟨fun y5 => cj_X10_timesBy (fun y6 y7 y8 => hR _ _ y7 y8) (y3.1 y5) (y4.1 y5), fun y9 => cj_X10_canPull (fun y10 y11 y12 y13 => fun y14 => ⟨fun y15 => cj_X10_timesBy (fun y16 y17 y18 => hR _ _ y17 y18) ((y12 y14).1 y15) ((y13 y14).1 y15), fun y19 => cj_X10_pullOf (fun y20 y21 y22 y23 => cj_X10_pullOf (fun y24 y25 y26 y27 => cj_X10_pullsAt (fun y28 y29 y30 => fun y31 => fun y32 => ih _ _ _ ((y29 y31) y32) ((y30 y31) y32)) y26 y27) y22 y23) ((y12 y14).2 y19) ((y13 y14).2 y19)⟩) (y3.2 y9) (y4.2 y9)⟩) a b
set_option maxHeartbeats 4000000 in
theorem cj_X10_doPlan_6  {P Q R : Int32 → zSto → Prop} (hR : ∀ (z0 : Int32) (z1 : zSto), P z0 z1 → Q z0 z1 → R z0 z1) : ∀ (n1 n2 : Nat) (x_1 : Int32) (σ : zSto), w_X10_doPlan_6 P n1 x_1 σ → w_X10_doPlan_6 Q n2 x_1 σ → w_X10_doPlan_6 R n1 x_1 σ := by
  intro n1
  induction n1 with
  | zero => intro n2 x_1 σ a b; exact a.elim
  | succ n1 ih =>
    intro n2 x_1 σ a b
    cases n2 with
    | zero => exact b.elim
    | succ n2 =>
      unfold w_X10_doPlan_6 at a b ⊢
      exact ⟨fun y1 => Exists.elim (a.1 y1) (fun y2 y4 => Exists.elim (b.1 y1) (fun y3 y5 => ⟨y2, cj_X10_doPlan_29 hR _ _ _ _ y4 y5⟩)), fun y6 => ⟨(a.2 y6).1, fun y7 => fun y8 => fun y9 => fun y10 => ih _ _ _ (((((a.2 y6).2 y7) y8) y9) y10) (((((b.2 y6).2 y7) y8) y9) y10)⟩⟩
set_option maxHeartbeats 4000000 in
theorem cj_X10_doPlan {σ : zSto} {P Q R : Int32 → zSto → Prop} (hR : ∀ (z0 : Int32) (z1 : zSto), P z0 z1 → Q z0 z1 → R z0 z1) (a : w_X10_doPlan σ P) (b : w_X10_doPlan σ Q) : w_X10_doPlan σ R := by
  unfold w_X10_doPlan at a b ⊢
  exact cj_X10_begin (fun y1 y2 y3 => Exists.elim y2 (fun y4 y6 => Exists.elim y3 (fun y5 y7 => ⟨y4, cj_X10_doPlan_6 hR _ _ _ _ y6 y7⟩))) a b
set_option maxHeartbeats 4000000 in
theorem cj_X10_played {a1 : Int32} {a2 : Int32} {a3 : Int32} {a4 : Int32} {σ : zSto} {P Q R : Int32 → zSto → Prop} (hR : ∀ (z0 : Int32) (z1 : zSto), P z0 z1 → Q z0 z1 → R z0 z1) (a : w_X10_played a1 a2 a3 a4 σ P) (b : w_X10_played a1 a2 a3 a4 σ Q) : w_X10_played a1 a2 a3 a4 σ R := by
  unfold w_X10_played at a b ⊢
  exact fun y1 => fun y2 => cj_X10_hasPlan (fun y3 y4 y5 y6 => fun y7 => ⟨fun y8 => hR _ _ ((y5 y7).1 y8) ((y6 y7).1 y8), fun y9 => cj_X10_hand (fun y10 y11 y12 y13 => fun y14 => ⟨fun y15 => cj_X10_doPlan (fun y16 y17 y18 y19 => cj_X10_in (fun y20 y21 y22 y23 => fun y24 => ⟨fun y25 => ⟨fun y26 => hR _ _ (((y22 y24).1 y25).1 y26) (((y23 y24).1 y25).1 y26), ⟨fun y27 => cj_X10_gathered (fun y28 y29 y30 y31 => hR _ _ y30 y31) (((y22 y24).1 y25).2.1 y27) (((y23 y24).1 y25).2.1 y27), ⟨fun y32 => hR _ _ (((y22 y24).1 y25).2.2.1 y32) (((y23 y24).1 y25).2.2.1 y32), ⟨fun y33 => hR _ _ (((y22 y24).1 y25).2.2.2.1 y33) (((y23 y24).1 y25).2.2.2.1 y33), ⟨fun y34 => hR _ _ (((y22 y24).1 y25).2.2.2.2.1 y34) (((y23 y24).1 y25).2.2.2.2.1 y34), fun y35 => hR _ _ (((y22 y24).1 y25).2.2.2.2.2 y35) (((y23 y24).1 y25).2.2.2.2.2 y35)⟩⟩⟩⟩⟩, fun y36 => ⟨((y22 y24).2 y36).1, hR _ _ ((y22 y24).2 y36).2 ((y23 y24).2 y36).2⟩⟩) y18 y19) ((y12 y14).1 y15) ((y13 y14).1 y15), fun y37 => hR _ _ ((y12 y14).2 y37) ((y13 y14).2 y37)⟩) ((y5 y7).2 y9) ((y6 y7).2 y9)⟩) ((a y1) y2) ((b y1) y2)
set_option maxHeartbeats 4000000 in
theorem cj_X3_addPost_10 {x_1 : Int32} {x_2 : Int32} {x_3 : Int32} {P Q R : zSto → Prop} (hR : ∀ (z0 : zSto), P z0 → Q z0 → R z0) : ∀ (n1 n2 : Nat) (x_5 : Int32) (σ : zSto), w_X3_addPost_10 x_1 x_2 x_3 P n1 x_5 σ → w_X3_addPost_10 x_1 x_2 x_3 Q n2 x_5 σ → w_X3_addPost_10 x_1 x_2 x_3 R n1 x_5 σ := by
  intro n1
  induction n1 with
  | zero => intro n2 x_5 σ a b; exact a.elim
  | succ n1 ih =>
    intro n2 x_5 σ a b
    cases n2 with
    | zero => exact b.elim
    | succ n2 =>
      unfold w_X3_addPost_10 at a b ⊢
      exact ⟨fun y1 => hR _ (a.1 y1) (b.1 y1), fun y2 => ⟨fun y3 => hR _ ((a.2 y2).1 y3) ((b.2 y2).1 y3), fun y4 => ⟨((a.2 y2).2 y4).1, fun y5 => fun y6 => ⟨fun y7 => fun y8 => fun y9 => ih _ _ _ (((((((a.2 y2).2 y4).2 y5) y6).1 y7) y8) y9) (((((((b.2 y2).2 y4).2 y5) y6).1 y7) y8) y9), fun y10 => ⟨(((((a.2 y2).2 y4).2 y5) y6).2 y10).1, ⟨fun y11 => fun y12 => fun y13 => ih _ _ _ ((((((((a.2 y2).2 y4).2 y5) y6).2 y10).2.1 y11) y12) y13) ((((((((b.2 y2).2 y4).2 y5) y6).2 y10).2.1 y11) y12) y13), fun y14 => ⟨((((((a.2 y2).2 y4).2 y5) y6).2 y10).2.2 y14).1, fun y15 => fun y16 => ⟨((((((((a.2 y2).2 y4).2 y5) y6).2 y10).2.2 y14).2 y15) y16).1, ⟨((((((((a.2 y2).2 y4).2 y5) y6).2 y10).2.2 y14).2 y15) y16).2.1, fun y17 => fun y18 => fun y19 => fun y20 => ih _ _ _ ((((((((((((a.2 y2).2 y4).2 y5) y6).2 y10).2.2 y14).2 y15) y16).2.2 y17) y18) y19) y20) ((((((((((((b.2 y2).2 y4).2 y5) y6).2 y10).2.2 y14).2 y15) y16).2.2 y17) y18) y19) y20)⟩⟩⟩⟩⟩⟩⟩⟩⟩
set_option maxHeartbeats 4000000 in
theorem cj_X3_addPost {a1 : Int32} {a2 : Int32} {a3 : Int32} {a4 : Int32} {σ : zSto} {P Q R : zSto → Prop} (hR : ∀ (z0 : zSto), P z0 → Q z0 → R z0) (a : w_X3_addPost a1 a2 a3 a4 σ P) (b : w_X3_addPost a1 a2 a3 a4 σ Q) : w_X3_addPost a1 a2 a3 a4 σ R := by
  unfold w_X3_addPost at a b ⊢
  exact fun y1 => fun y2 => Exists.elim ((a y1) y2) (fun y3 y5 => Exists.elim ((b y1) y2) (fun y4 y6 => ⟨y3, cj_X3_addPost_10 hR _ _ _ _ y5 y6⟩))
set_option maxHeartbeats 4000000 in
theorem cj_X3_fill_41 {q_1 : Nat} {x_2 : Int32} {x_3 : Int32} {P Q R : zSto → Prop} (hR : ∀ (z0 : zSto), P z0 → Q z0 → R z0) : ∀ (n1 n2 : Nat) (x_4 : Int32) (σ : zSto), w_X3_fill_41 q_1 x_2 x_3 P n1 x_4 σ → w_X3_fill_41 q_1 x_2 x_3 Q n2 x_4 σ → w_X3_fill_41 q_1 x_2 x_3 R n1 x_4 σ := by
  intro n1
  induction n1 with
  | zero => intro n2 x_4 σ a b; exact a.elim
  | succ n1 ih =>
    intro n2 x_4 σ a b
    cases n2 with
    | zero => exact b.elim
    | succ n2 =>
      unfold w_X3_fill_41 at a b ⊢
      exact ⟨fun y1 => hR _ (a.1 y1) (b.1 y1), fun y2 => cj_X0_poundsIn (fun y3 y4 y5 y6 => ⟨fun y7 => fun y8 => fun y9 => ih _ _ _ (((y5.1 y7) y8) y9) (((y6.1 y7) y8) y9), fun y10 => cj_X0_cost (fun y11 y12 y13 y14 => cj_X3_addPost (fun y15 y16 y17 => fun y18 => fun y19 => ih _ _ _ ((y16 y18) y19) ((y17 y18) y19)) y13 y14) (y5.2 y10) (y6.2 y10)⟩) (a.2 y2) (b.2 y2)⟩
set_option maxHeartbeats 4000000 in
theorem cj_X3_fill_3 {q_1 : Nat} {x_2 : Int32} {x_3 : Int32} {P Q R : zSto → Prop} (hR : ∀ (z0 : zSto), P z0 → Q z0 → R z0) : ∀ (n1 n2 : Nat) (x_4 : Int32) (σ : zSto), w_X3_fill_3 q_1 x_2 x_3 P n1 x_4 σ → w_X3_fill_3 q_1 x_2 x_3 Q n2 x_4 σ → w_X3_fill_3 q_1 x_2 x_3 R n1 x_4 σ := by
  intro n1
  induction n1 with
  | zero => intro n2 x_4 σ a b; exact a.elim
  | succ n1 ih =>
    intro n2 x_4 σ a b
    cases n2 with
    | zero => exact b.elim
    | succ n2 =>
      unfold w_X3_fill_3 at a b ⊢
      exact ⟨fun y1 => fun y2 => fun y3 => Exists.elim (((a.1 y1) y2) y3) (fun y4 y6 => Exists.elim (((b.1 y1) y2) y3) (fun y5 y7 => ⟨y4, cj_X3_fill_41 hR _ _ _ _ y6 y7⟩)), fun y8 => ⟨fun y9 => fun y10 => fun y11 => Exists.elim ((((a.2 y8).1 y9) y10) y11) (fun y12 y14 => Exists.elim ((((b.2 y8).1 y9) y10) y11) (fun y13 y15 => ⟨y12, cj_X3_fill_41 hR _ _ _ _ y14 y15⟩)), fun y16 => ⟨((a.2 y8).2 y16).1, fun y17 => fun y18 => fun y19 => fun y20 => ih _ _ _ ((((((a.2 y8).2 y16).2 y17) y18) y19) y20) ((((((b.2 y8).2 y16).2 y17) y18) y19) y20)⟩⟩⟩
set_option maxHeartbeats 4000000 in
theorem cj_X3_fill {b1 : Nat} {a2 : Int32} {a3 : Int32} {σ : zSto} {P Q R : zSto → Prop} (hR : ∀ (z0 : zSto), P z0 → Q z0 → R z0) (a : w_X3_fill b1 a2 a3 σ P) (b : w_X3_fill b1 a2 a3 σ Q) : w_X3_fill b1 a2 a3 σ R := by
  unfold w_X3_fill at a b ⊢
  exact Exists.elim a (fun y1 y3 => Exists.elim b (fun y2 y4 => ⟨y1, cj_X3_fill_3 hR _ _ _ _ y3 y4⟩))
set_option maxHeartbeats 4000000 in
theorem cj_X3_bestCosts_4 {x_1 : Int32} {P Q R : Int32 → zSto → Prop} (hR : ∀ (z0 : Int32) (z1 : zSto), P z0 z1 → Q z0 z1 → R z0 z1) : ∀ (n1 n2 : Nat) (x_2 : Int32) (x_3 : Int32) (σ : zSto), w_X3_bestCosts_4 x_1 P n1 x_2 x_3 σ → w_X3_bestCosts_4 x_1 Q n2 x_2 x_3 σ → w_X3_bestCosts_4 x_1 R n1 x_2 x_3 σ := by
  intro n1
  induction n1 with
  | zero => intro n2 x_2 x_3 σ a b; exact a.elim
  | succ n1 ih =>
    intro n2 x_2 x_3 σ a b
    cases n2 with
    | zero => exact b.elim
    | succ n2 =>
      unfold w_X3_bestCosts_4 at a b ⊢
      exact ⟨fun y1 => hR _ _ (a.1 y1) (b.1 y1), fun y2 => ⟨fun y3 => hR _ _ ((a.2 y2).1 y3) ((b.2 y2).1 y3), fun y4 => ⟨((a.2 y2).2 y4).1, ⟨((a.2 y2).2 y4).2.1, ⟨fun y5 => fun y6 => fun y7 => ih _ _ _ _ (((((a.2 y2).2 y4).2.2.1 y5) y6) y7) (((((b.2 y2).2 y4).2.2.1 y5) y6) y7), fun y8 => fun y9 => fun y10 => ih _ _ _ _ (((((a.2 y2).2 y4).2.2.2 y8) y9) y10) (((((b.2 y2).2 y4).2.2.2 y8) y9) y10)⟩⟩⟩⟩⟩
set_option maxHeartbeats 4000000 in
theorem cj_X3_bestCosts {a1 : Int32} {σ : zSto} {P Q R : Int32 → zSto → Prop} (hR : ∀ (z0 : Int32) (z1 : zSto), P z0 z1 → Q z0 z1 → R z0 z1) (a : w_X3_bestCosts a1 σ P) (b : w_X3_bestCosts a1 σ Q) : w_X3_bestCosts a1 σ R := by
  unfold w_X3_bestCosts at a b ⊢
  exact Exists.elim a (fun y1 y3 => Exists.elim b (fun y2 y4 => ⟨y1, cj_X3_bestCosts_4 hR _ _ _ _ _ y3 y4⟩))
set_option maxHeartbeats 4000000 in
theorem cj_X9_purse {a1 : Int32} {a2 : Int32} {a3 : Int32} {a4 : Int32} {σ : zSto} {P Q R : Int32 → zSto → Prop} (hR : ∀ (z0 : Int32) (z1 : zSto), P z0 z1 → Q z0 z1 → R z0 z1) (a : w_X9_purse a1 a2 a3 a4 σ P) (b : w_X9_purse a1 a2 a3 a4 σ Q) : w_X9_purse a1 a2 a3 a4 σ R := by
  unfold w_X9_purse at a b ⊢
  exact cj_X8_lineAt (fun y1 y2 y3 y4 => ⟨fun y5 => hR _ _ (y3.1 y5) (y4.1 y5), fun y6 => fun y7 => ⟨((y3.2 y6) y7).1, cj_X9_isWeek (fun y8 y9 y10 y11 => fun y12 => ⟨fun y13 => hR _ _ ((y10 y12).1 y13) ((y11 y12).1 y13), fun y14 => ⟨fun y15 => hR _ _ (((y10 y12).2 y14).1 y15) (((y11 y12).2 y14).1 y15), fun y16 => ⟨fun y17 => ⟨fun y18 => hR _ _ (((((y10 y12).2 y14).2 y16).1 y17).1 y18) (((((y11 y12).2 y14).2 y16).1 y17).1 y18), fun y19 => ⟨fun y20 => cj_X3_fill (fun y21 y22 y23 => cj_X3_bestCosts (fun y24 y25 y26 y27 => ⟨fun y28 => ⟨fun y29 => hR _ _ ((y26.1 y28).1 y29) ((y27.1 y28).1 y29), fun y30 => ⟨((y26.1 y28).2 y30).1, hR _ _ ((y26.1 y28).2 y30).2 ((y27.1 y28).2 y30).2⟩⟩, fun y31 => ⟨(y26.2 y31).1, hR _ _ (y26.2 y31).2 (y27.2 y31).2⟩⟩) y22 y23) ((((((y10 y12).2 y14).2 y16).1 y17).2 y19).1 y20) ((((((y11 y12).2 y14).2 y16).1 y17).2 y19).1 y20), fun y32 => hR _ _ ((((((y10 y12).2 y14).2 y16).1 y17).2 y19).2 y32) ((((((y11 y12).2 y14).2 y16).1 y17).2 y19).2 y32)⟩⟩, fun y33 => hR _ _ ((((y10 y12).2 y14).2 y16).2 y33) ((((y11 y12).2 y14).2 y16).2 y33)⟩⟩⟩) ((y3.2 y6) y7).2 ((y4.2 y6) y7).2⟩⟩) a b
set_option maxHeartbeats 4000000 in
theorem cj_X10_bearing_4  {P Q R : Int32 → zSto → Prop} (hR : ∀ (z0 : Int32) (z1 : zSto), P z0 z1 → Q z0 z1 → R z0 z1) : ∀ (n1 n2 : Nat) (x_1 : Int32) (x_2 : Int32) (σ : zSto), w_X10_bearing_4 P n1 x_1 x_2 σ → w_X10_bearing_4 Q n2 x_1 x_2 σ → w_X10_bearing_4 R n1 x_1 x_2 σ := by
  intro n1
  induction n1 with
  | zero => intro n2 x_1 x_2 σ a b; exact a.elim
  | succ n1 ih =>
    intro n2 x_1 x_2 σ a b
    cases n2 with
    | zero => exact b.elim
    | succ n2 =>
      unfold w_X10_bearing_4 at a b ⊢
      exact ⟨fun y1 => hR _ _ (a.1 y1) (b.1 y1), fun y2 => ⟨(a.2 y2).1, ⟨fun y3 => fun y4 => fun y5 => fun y6 => fun y7 => ih _ _ _ _ ((((((a.2 y2).2.1 y3) y4) y5) y6) y7) ((((((b.2 y2).2.1 y3) y4) y5) y6) y7), fun y8 => fun y9 => fun y10 => fun y11 => fun y12 => ih _ _ _ _ ((((((a.2 y2).2.2 y8) y9) y10) y11) y12) ((((((b.2 y2).2.2 y8) y9) y10) y11) y12)⟩⟩⟩
set_option maxHeartbeats 4000000 in
theorem cj_X10_bearing {σ : zSto} {P Q R : Int32 → zSto → Prop} (hR : ∀ (z0 : Int32) (z1 : zSto), P z0 z1 → Q z0 z1 → R z0 z1) (a : w_X10_bearing σ P) (b : w_X10_bearing σ Q) : w_X10_bearing σ R := by
  unfold w_X10_bearing at a b ⊢
  exact Exists.elim a (fun y1 y3 => Exists.elim b (fun y2 y4 => ⟨y1, cj_X10_bearing_4 hR _ _ _ _ _ y3 y4⟩))
set_option maxHeartbeats 4000000 in
theorem cj_X10_poundsOf_4 {x_1 : Int32} {P Q R : Int32 → zSto → Prop} (hR : ∀ (z0 : Int32) (z1 : zSto), P z0 z1 → Q z0 z1 → R z0 z1) : ∀ (n1 n2 : Nat) (x_2 : Int32) (x_3 : Int32) (σ : zSto), w_X10_poundsOf_4 x_1 P n1 x_2 x_3 σ → w_X10_poundsOf_4 x_1 Q n2 x_2 x_3 σ → w_X10_poundsOf_4 x_1 R n1 x_2 x_3 σ := by
  intro n1
  induction n1 with
  | zero => intro n2 x_2 x_3 σ a b; exact a.elim
  | succ n1 ih =>
    intro n2 x_2 x_3 σ a b
    cases n2 with
    | zero => exact b.elim
    | succ n2 =>
      unfold w_X10_poundsOf_4 at a b ⊢
      exact ⟨fun y1 => hR _ _ (a.1 y1) (b.1 y1), fun y2 => cj_X10_has (fun y3 y4 y5 y6 => fun y7 => ⟨fun y8 => fun y9 => fun y10 => fun y11 => fun y12 => ih _ _ _ _ ((((((y5 y7).1 y8) y9) y10) y11) y12) ((((((y6 y7).1 y8) y9) y10) y11) y12), fun y13 => ⟨((y5 y7).2 y13).1, fun y14 => fun y15 => fun y16 => fun y17 => ih _ _ _ _ ((((((y5 y7).2 y13).2 y14) y15) y16) y17) ((((((y6 y7).2 y13).2 y14) y15) y16) y17)⟩⟩) (a.2 y2) (b.2 y2)⟩
set_option maxHeartbeats 4000000 in
theorem cj_X10_poundsOf {a1 : Int32} {σ : zSto} {P Q R : Int32 → zSto → Prop} (hR : ∀ (z0 : Int32) (z1 : zSto), P z0 z1 → Q z0 z1 → R z0 z1) (a : w_X10_poundsOf a1 σ P) (b : w_X10_poundsOf a1 σ Q) : w_X10_poundsOf a1 σ R := by
  unfold w_X10_poundsOf at a b ⊢
  exact Exists.elim a (fun y1 y3 => Exists.elim b (fun y2 y4 => ⟨y1, cj_X10_poundsOf_4 hR _ _ _ _ _ y3 y4⟩))
set_option maxHeartbeats 4000000 in
theorem cj_X10_costsOf_4 {x_1 : Int32} {P Q R : Int32 → zSto → Prop} (hR : ∀ (z0 : Int32) (z1 : zSto), P z0 z1 → Q z0 z1 → R z0 z1) : ∀ (n1 n2 : Nat) (x_2 : Int32) (x_3 : Int32) (σ : zSto), w_X10_costsOf_4 x_1 P n1 x_2 x_3 σ → w_X10_costsOf_4 x_1 Q n2 x_2 x_3 σ → w_X10_costsOf_4 x_1 R n1 x_2 x_3 σ := by
  intro n1
  induction n1 with
  | zero => intro n2 x_2 x_3 σ a b; exact a.elim
  | succ n1 ih =>
    intro n2 x_2 x_3 σ a b
    cases n2 with
    | zero => exact b.elim
    | succ n2 =>
      unfold w_X10_costsOf_4 at a b ⊢
      exact ⟨fun y1 => hR _ _ (a.1 y1) (b.1 y1), fun y2 => cj_X10_has (fun y3 y4 y5 y6 => fun y7 => ⟨fun y8 => fun y9 => fun y10 => fun y11 => fun y12 => ih _ _ _ _ ((((((y5 y7).1 y8) y9) y10) y11) y12) ((((((y6 y7).1 y8) y9) y10) y11) y12), fun y13 => ⟨((y5 y7).2 y13).1, fun y14 => fun y15 => fun y16 => fun y17 => ih _ _ _ _ ((((((y5 y7).2 y13).2 y14) y15) y16) y17) ((((((y6 y7).2 y13).2 y14) y15) y16) y17)⟩⟩) (a.2 y2) (b.2 y2)⟩
set_option maxHeartbeats 4000000 in
theorem cj_X10_costsOf {a1 : Int32} {σ : zSto} {P Q R : Int32 → zSto → Prop} (hR : ∀ (z0 : Int32) (z1 : zSto), P z0 z1 → Q z0 z1 → R z0 z1) (a : w_X10_costsOf a1 σ P) (b : w_X10_costsOf a1 σ Q) : w_X10_costsOf a1 σ R := by
  unfold w_X10_costsOf at a b ⊢
  exact Exists.elim a (fun y1 y3 => Exists.elim b (fun y2 y4 => ⟨y1, cj_X10_costsOf_4 hR _ _ _ _ _ y3 y4⟩))
set_option maxHeartbeats 4000000 in
theorem cj_X10_purse_55 {x_3 : Int32} {x_4 : Int32} {x_5 : Int32} {P Q R : Int32 → zSto → Prop} (hR : ∀ (z0 : Int32) (z1 : zSto), P z0 z1 → Q z0 z1 → R z0 z1) : ∀ (n1 n2 : Nat) (x_6 : Int32) (x_7 : Int32) (x_8 : Int32) (x_9 : Int32) (σ : zSto), w_X10_purse_55 x_3 x_4 x_5 P n1 x_6 x_7 x_8 x_9 σ → w_X10_purse_55 x_3 x_4 x_5 Q n2 x_6 x_7 x_8 x_9 σ → w_X10_purse_55 x_3 x_4 x_5 R n1 x_6 x_7 x_8 x_9 σ := by
  intro n1
  induction n1 with
  | zero => intro n2 x_6 x_7 x_8 x_9 σ a b; exact a.elim
  | succ n1 ih =>
    intro n2 x_6 x_7 x_8 x_9 σ a b
    cases n2 with
    | zero => exact b.elim
    | succ n2 =>
      unfold w_X10_purse_55 at a b ⊢
      exact ⟨fun y1 => ⟨fun y2 => ⟨fun y3 => hR _ _ (((a.1 y1).1 y2).1 y3) (((b.1 y1).1 y2).1 y3), fun y4 => hR _ _ (((a.1 y1).1 y2).2 y4) (((b.1 y1).1 y2).2 y4)⟩, fun y5 => hR _ _ ((a.1 y1).2 y5) ((b.1 y1).2 y5)⟩, fun y6 => ⟨fun y7 => fun y8 => fun y9 => ih _ _ _ _ _ _ ((((a.2 y6).1 y7) y8) y9) ((((b.2 y6).1 y7) y8) y9), fun y10 => cj_X10_poundsOf (fun y11 y12 y13 y14 => cj_X10_costsOf (fun y15 y16 y17 y18 => ⟨fun y19 => fun y20 => fun y21 => ih _ _ _ _ _ _ (((y17.1 y19) y20) y21) (((y18.1 y19) y20) y21), fun y22 => ⟨fun y23 => fun y24 => fun y25 => ih _ _ _ _ _ _ ((((y17.2 y22).1 y23) y24) y25) ((((y18.2 y22).1 y23) y24) y25), fun y26 => ⟨fun y27 => fun y28 => fun y29 => ih _ _ _ _ _ _ (((((y17.2 y22).2 y26).1 y27) y28) y29) (((((y18.2 y22).2 y26).1 y27) y28) y29), fun y30 => ⟨fun y31 => fun y32 => fun y33 => ih _ _ _ _ _ _ ((((((y17.2 y22).2 y26).2 y30).1 y31) y32) y33) ((((((y18.2 y22).2 y26).2 y30).1 y31) y32) y33), fun y34 => fun y35 => fun y36 => ih _ _ _ _ _ _ ((((((y17.2 y22).2 y26).2 y30).2 y34) y35) y36) ((((((y18.2 y22).2 y26).2 y30).2 y34) y35) y36)⟩⟩⟩⟩) y13 y14) ((a.2 y6).2 y10) ((b.2 y6).2 y10)⟩⟩
set_option maxHeartbeats 4000000 in
theorem cj_X10_purse {a1 : Int32} {a2 : Int32} {a3 : Int32} {a4 : Int32} {σ : zSto} {P Q R : Int32 → zSto → Prop} (hR : ∀ (z0 : Int32) (z1 : zSto), P z0 z1 → Q z0 z1 → R z0 z1) (a : w_X10_purse a1 a2 a3 a4 σ P) (b : w_X10_purse a1 a2 a3 a4 σ Q) : w_X10_purse a1 a2 a3 a4 σ R := by
  unfold w_X10_purse at a b ⊢
  exact fun y1 => fun y2 => cj_X10_in (fun y3 y4 y5 y6 => fun y7 => ⟨fun y8 => hR _ _ ((y5 y7).1 y8) ((y6 y7).1 y8), fun y9 => cj_X10_in (fun y10 y11 y12 y13 => fun y14 => ⟨fun y15 => hR _ _ ((y12 y14).1 y15) ((y13 y14).1 y15), fun y16 => cj_X10_hand (fun y17 y18 y19 y20 => fun y21 => ⟨fun y22 => cj_X10_bearing (fun y23 y24 y25 y26 => Exists.elim y25 (fun y27 y29 => Exists.elim y26 (fun y28 y30 => ⟨y27, cj_X10_purse_55 hR _ _ _ _ _ _ _ y29 y30⟩))) ((y19 y21).1 y22) ((y20 y21).1 y22), fun y31 => hR _ _ ((y19 y21).2 y31) ((y20 y21).2 y31)⟩) ((y12 y14).2 y16) ((y13 y14).2 y16)⟩) ((y5 y7).2 y9) ((y6 y7).2 y9)⟩) ((a y1) y2) ((b y1) y2)
set_option maxHeartbeats 4000000 in
theorem cj_X10_shells_45 {x_3 : Int32} {x_4 : Int32} {x_5 : Int32} {x_6 : Int32} {P Q R : Int32 → zSto → Prop} (hR : ∀ (z0 : Int32) (z1 : zSto), P z0 z1 → Q z0 z1 → R z0 z1) : ∀ (n1 n2 : Nat) (x_7 : Int32) (x_8 : Int32) (x_9 : Int32) (x_10 : Int32) (σ : zSto), w_X10_shells_45 x_3 x_4 x_5 x_6 P n1 x_7 x_8 x_9 x_10 σ → w_X10_shells_45 x_3 x_4 x_5 x_6 Q n2 x_7 x_8 x_9 x_10 σ → w_X10_shells_45 x_3 x_4 x_5 x_6 R n1 x_7 x_8 x_9 x_10 σ := by
  intro n1
  induction n1 with
  | zero => intro n2 x_7 x_8 x_9 x_10 σ a b; exact a.elim
  | succ n1 ih =>
    intro n2 x_7 x_8 x_9 x_10 σ a b
    cases n2 with
    | zero => exact b.elim
    | succ n2 =>
      unfold w_X10_shells_45 at a b ⊢
      exact ⟨fun y1 => ⟨fun y2 => ⟨fun y3 => ⟨fun y4 => hR _ _ ((((a.1 y1).1 y2).1 y3).1 y4) ((((b.1 y1).1 y2).1 y3).1 y4), fun y5 => hR _ _ ((((a.1 y1).1 y2).1 y3).2 y5) ((((b.1 y1).1 y2).1 y3).2 y5)⟩, fun y6 => hR _ _ (((a.1 y1).1 y2).2 y6) (((b.1 y1).1 y2).2 y6)⟩, fun y7 => hR _ _ ((a.1 y1).2 y7) ((b.1 y1).2 y7)⟩, fun y8 => ⟨fun y9 => fun y10 => fun y11 => ih _ _ _ _ _ _ ((((a.2 y8).1 y9) y10) y11) ((((b.2 y8).1 y9) y10) y11), fun y12 => cj_X10_poundsOf (fun y13 y14 y15 y16 => ⟨fun y17 => fun y18 => fun y19 => ih _ _ _ _ _ _ (((y15.1 y17) y18) y19) (((y16.1 y17) y18) y19), fun y20 => cj_X10_costsOf (fun y21 y22 y23 y24 => ⟨fun y25 => fun y26 => fun y27 => ih _ _ _ _ _ _ (((y23.1 y25) y26) y27) (((y24.1 y25) y26) y27), fun y28 => fun y29 => fun y30 => fun y31 => fun y32 => fun y33 => fun y34 => fun y35 => fun y36 => ih _ _ _ _ _ _ (((((((((y23.2 y28) y29) y30) y31) y32) y33) y34) y35) y36) (((((((((y24.2 y28) y29) y30) y31) y32) y33) y34) y35) y36)⟩) (y15.2 y20) (y16.2 y20)⟩) ((a.2 y8).2 y12) ((b.2 y8).2 y12)⟩⟩
set_option maxHeartbeats 4000000 in
theorem cj_X10_shells {a1 : Int32} {a2 : Int32} {a3 : Int32} {a4 : Int32} {a5 : Int32} {σ : zSto} {P Q R : Int32 → zSto → Prop} (hR : ∀ (z0 : Int32) (z1 : zSto), P z0 z1 → Q z0 z1 → R z0 z1) (a : w_X10_shells a1 a2 a3 a4 a5 σ P) (b : w_X10_shells a1 a2 a3 a4 a5 σ Q) : w_X10_shells a1 a2 a3 a4 a5 σ R := by
  unfold w_X10_shells at a b ⊢
  exact fun y1 => fun y2 => cj_X10_in (fun y3 y4 y5 y6 => fun y7 => ⟨fun y8 => hR _ _ ((y5 y7).1 y8) ((y6 y7).1 y8), fun y9 => cj_X10_hand (fun y10 y11 y12 y13 => fun y14 => ⟨fun y15 => cj_X10_bearing (fun y16 y17 y18 y19 => Exists.elim y18 (fun y20 y22 => Exists.elim y19 (fun y21 y23 => ⟨y20, cj_X10_shells_45 hR _ _ _ _ _ _ _ y22 y23⟩))) ((y12 y14).1 y15) ((y13 y14).1 y15), fun y24 => hR _ _ ((y12 y14).2 y24) ((y13 y14).2 y24)⟩) ((y5 y7).2 y9) ((y6 y7).2 y9)⟩) ((a y1) y2) ((b y1) y2)
set_option maxHeartbeats 4000000 in
theorem cj_X10_holds_55  {P Q R : Int32 → zSto → Prop} (hR : ∀ (z0 : Int32) (z1 : zSto), P z0 z1 → Q z0 z1 → R z0 z1) : ∀ (n1 n2 : Nat) (x_3 : Int32) (σ : zSto), w_X10_holds_55 P n1 x_3 σ → w_X10_holds_55 Q n2 x_3 σ → w_X10_holds_55 R n1 x_3 σ := by
  intro n1
  induction n1 with
  | zero => intro n2 x_3 σ a b; exact a.elim
  | succ n1 ih =>
    intro n2 x_3 σ a b
    cases n2 with
    | zero => exact b.elim
    | succ n2 =>
      unfold w_X10_holds_55 at a b ⊢
      exact ⟨a.1, ⟨fun y1 => hR _ _ (a.2.1 y1) (b.2.1 y1), fun y2 => cj_X10_seenOf (fun y3 y4 y5 y6 => cj_X10_isPost (fun y7 y8 y9 y10 => fun y11 => ⟨fun y12 => hR _ _ ((y9 y11).1 y12) ((y10 y11).1 y12), fun y13 => cj_X10_seenOf (fun y14 y15 y16 y17 => ⟨y16.1, cj_X10_seenOf (fun y18 y19 y20 y21 => ⟨fun y22 => fun y23 => fun y24 => ih _ _ _ (((y20.1 y22) y23) y24) (((y21.1 y22) y23) y24), fun y25 => hR _ _ (y20.2 y25) (y21.2 y25)⟩) y16.2 y17.2⟩) ((y9 y11).2 y13) ((y10 y11).2 y13)⟩) y5 y6) (a.2.2 y2) (b.2.2 y2)⟩⟩
set_option maxHeartbeats 4000000 in
theorem cj_X10_holds_4 {x_1 : Int32} {P Q R : Int32 → zSto → Prop} (hR : ∀ (z0 : Int32) (z1 : zSto), P z0 z1 → Q z0 z1 → R z0 z1) : ∀ (n1 n2 : Nat) (x_2 : Int32) (x_3 : Int32) (σ : zSto), w_X10_holds_4 x_1 P n1 x_2 x_3 σ → w_X10_holds_4 x_1 Q n2 x_2 x_3 σ → w_X10_holds_4 x_1 R n1 x_2 x_3 σ := by
  intro n1
  induction n1 with
  | zero => intro n2 x_2 x_3 σ a b; exact a.elim
  | succ n1 ih =>
    intro n2 x_2 x_3 σ a b
    cases n2 with
    | zero => exact b.elim
    | succ n2 =>
      unfold w_X10_holds_4 at a b ⊢
      exact ⟨fun y1 => Exists.elim (a.1 y1) (fun y2 y4 => Exists.elim (b.1 y1) (fun y3 y5 => ⟨y2, cj_X10_holds_55 hR _ _ _ _ y4 y5⟩)), fun y6 => ⟨(a.2 y6).1, fun y7 => fun y8 => ⟨(((a.2 y6).2 y7) y8).1, cj_X10_has (fun y9 y10 y11 y12 => fun y13 => ⟨fun y14 => fun y15 => fun y16 => fun y17 => fun y18 => ih _ _ _ _ ((((((y11 y13).1 y14) y15) y16) y17) y18) ((((((y12 y13).1 y14) y15) y16) y17) y18), fun y19 => ⟨((y11 y13).2 y19).1, fun y20 => fun y21 => fun y22 => fun y23 => ih _ _ _ _ ((((((y11 y13).2 y19).2 y20) y21) y22) y23) ((((((y12 y13).2 y19).2 y20) y21) y22) y23)⟩⟩) (((a.2 y6).2 y7) y8).2 (((b.2 y6).2 y7) y8).2⟩⟩⟩
set_option maxHeartbeats 4000000 in
theorem cj_X10_holds {a1 : Int32} {σ : zSto} {P Q R : Int32 → zSto → Prop} (hR : ∀ (z0 : Int32) (z1 : zSto), P z0 z1 → Q z0 z1 → R z0 z1) (a : w_X10_holds a1 σ P) (b : w_X10_holds a1 σ Q) : w_X10_holds a1 σ R := by
  unfold w_X10_holds at a b ⊢
  exact Exists.elim a (fun y1 y3 => Exists.elim b (fun y2 y4 => ⟨y1, cj_X10_holds_4 hR _ _ _ _ _ y3 y4⟩))
set_option maxHeartbeats 4000000 in
theorem cj_X10_hold_56 {x_3 : Int32} {P Q R : Int32 → zSto → Prop} (hR : ∀ (z0 : Int32) (z1 : zSto), P z0 z1 → Q z0 z1 → R z0 z1) : ∀ (n1 n2 : Nat) (x_4 : Int32) (x_5 : Int32) (x_6 : Int32) (x_7 : Int32) (x_8 : Int32) (σ : zSto), w_X10_hold_56 x_3 P n1 x_4 x_5 x_6 x_7 x_8 σ → w_X10_hold_56 x_3 Q n2 x_4 x_5 x_6 x_7 x_8 σ → w_X10_hold_56 x_3 R n1 x_4 x_5 x_6 x_7 x_8 σ := by
  intro n1
  induction n1 with
  | zero => intro n2 x_4 x_5 x_6 x_7 x_8 σ a b; exact a.elim
  | succ n1 ih =>
    intro n2 x_4 x_5 x_6 x_7 x_8 σ a b
    cases n2 with
    | zero => exact b.elim
    | succ n2 =>
      unfold w_X10_hold_56 at a b ⊢
      exact ⟨fun y1 => ⟨fun y2 => ⟨fun y3 => ⟨fun y4 => hR _ _ ((((a.1 y1).1 y2).1 y3).1 y4) ((((b.1 y1).1 y2).1 y3).1 y4), fun y5 => hR _ _ ((((a.1 y1).1 y2).1 y3).2 y5) ((((b.1 y1).1 y2).1 y3).2 y5)⟩, fun y6 => ⟨fun y7 => hR _ _ ((((a.1 y1).1 y2).2 y6).1 y7) ((((b.1 y1).1 y2).2 y6).1 y7), fun y8 => hR _ _ ((((a.1 y1).1 y2).2 y6).2 y8) ((((b.1 y1).1 y2).2 y6).2 y8)⟩⟩, fun y9 => hR _ _ ((a.1 y1).2 y9) ((b.1 y1).2 y9)⟩, fun y10 => cj_X10_holds (fun y11 y12 y13 y14 => fun y15 => ⟨fun y16 => fun y17 => fun y18 => ih _ _ _ _ _ _ _ ((((y13 y15).1 y16) y17) y18) ((((y14 y15).1 y16) y17) y18), fun y19 => ⟨fun y20 => fun y21 => fun y22 => fun y23 => fun y24 => fun y25 => fun y26 => fun y27 => fun y28 => ih _ _ _ _ _ _ _ (((((((((((y13 y15).2 y19).1 y20) y21) y22) y23) y24) y25) y26) y27) y28) (((((((((((y14 y15).2 y19).1 y20) y21) y22) y23) y24) y25) y26) y27) y28), fun y29 => fun y30 => fun y31 => fun y32 => fun y33 => fun y34 => fun y35 => fun y36 => fun y37 => ih _ _ _ _ _ _ _ (((((((((((y13 y15).2 y19).2 y29) y30) y31) y32) y33) y34) y35) y36) y37) (((((((((((y14 y15).2 y19).2 y29) y30) y31) y32) y33) y34) y35) y36) y37)⟩⟩) (a.2 y10) (b.2 y10)⟩
set_option maxHeartbeats 4000000 in
theorem cj_X10_hold {a1 : Int32} {a2 : Int32} {a3 : Int32} {σ : zSto} {P Q R : Int32 → zSto → Prop} (hR : ∀ (z0 : Int32) (z1 : zSto), P z0 z1 → Q z0 z1 → R z0 z1) (a : w_X10_hold a1 a2 a3 σ P) (b : w_X10_hold a1 a2 a3 σ Q) : w_X10_hold a1 a2 a3 σ R := by
  unfold w_X10_hold at a b ⊢
  exact fun y1 => fun y2 => cj_X10_hasLog (fun y3 y4 y5 y6 => fun y7 => ⟨fun y8 => hR _ _ ((y5 y7).1 y8) ((y6 y7).1 y8), fun y9 => cj_X10_hand (fun y10 y11 y12 y13 => fun y14 => ⟨fun y15 => hR _ _ ((y12 y14).1 y15) ((y13 y14).1 y15), fun y16 => cj_X10_in (fun y17 y18 y19 y20 => fun y21 => ⟨fun y22 => fun y23 => fun y24 => Exists.elim ((((y19 y21).1 y22) y23) y24) (fun y25 y27 => Exists.elim ((((y20 y21).1 y22) y23) y24) (fun y26 y28 => ⟨y25, cj_X10_hold_56 hR _ _ _ _ _ _ _ _ y27 y28⟩)), fun y29 => hR _ _ ((y19 y21).2 y29) ((y20 y21).2 y29)⟩) ((y12 y14).2 y16) ((y13 y14).2 y16)⟩) ((y5 y7).2 y9) ((y6 y7).2 y9)⟩) ((a y1) y2) ((b y1) y2)
set_option maxHeartbeats 4000000 in
theorem cj_X7_addStop_44 {x_1 : Int32} {x_2 : Int32} {x_3 : Int32} {P Q R : zSto → Prop} (hR : ∀ (z0 : zSto), P z0 → Q z0 → R z0) : ∀ (n1 n2 : Nat) (x_4 : Int32) (σ : zSto), w_X7_addStop_44 x_1 x_2 x_3 P n1 x_4 σ → w_X7_addStop_44 x_1 x_2 x_3 Q n2 x_4 σ → w_X7_addStop_44 x_1 x_2 x_3 R n1 x_4 σ := by
  intro n1
  induction n1 with
  | zero => intro n2 x_4 σ a b; exact a.elim
  | succ n1 ih =>
    intro n2 x_4 σ a b
    cases n2 with
    | zero => exact b.elim
    | succ n2 =>
      unfold w_X7_addStop_44 at a b ⊢
      exact ⟨fun y1 => fun y2 => fun y3 => fun y4 => fun y5 => hR _ (((((a.1 y1) y2) y3) y4) y5) (((((b.1 y1) y2) y3) y4) y5), fun y6 => ⟨fun y7 => ⟨((a.2 y6).1 y7).1, ⟨((a.2 y6).1 y7).2.1, fun y8 => fun y9 => fun y10 => fun y11 => ih _ _ _ ((((((a.2 y6).1 y7).2.2 y8) y9) y10) y11) ((((((b.2 y6).1 y7).2.2 y8) y9) y10) y11)⟩⟩, fun y12 => ⟨((a.2 y6).2 y12).1, fun y13 => fun y14 => ⟨((((a.2 y6).2 y12).2 y13) y14).1, ⟨((((a.2 y6).2 y12).2 y13) y14).2.1, fun y15 => fun y16 => fun y17 => fun y18 => ih _ _ _ ((((((((a.2 y6).2 y12).2 y13) y14).2.2 y15) y16) y17) y18) ((((((((b.2 y6).2 y12).2 y13) y14).2.2 y15) y16) y17) y18)⟩⟩⟩⟩⟩
set_option maxHeartbeats 4000000 in
theorem cj_X7_addStop_21 {x_1 : Int32} {x_2 : Int32} {x_3 : Int32} {P Q R : zSto → Prop} (hR : ∀ (z0 : zSto), P z0 → Q z0 → R z0) : ∀ (n1 n2 : Nat) (x_4 : Int32) (σ : zSto), w_X7_addStop_21 x_1 x_2 x_3 P n1 x_4 σ → w_X7_addStop_21 x_1 x_2 x_3 Q n2 x_4 σ → w_X7_addStop_21 x_1 x_2 x_3 R n1 x_4 σ := by
  intro n1
  induction n1 with
  | zero => intro n2 x_4 σ a b; exact a.elim
  | succ n1 ih =>
    intro n2 x_4 σ a b
    cases n2 with
    | zero => exact b.elim
    | succ n2 =>
      unfold w_X7_addStop_21 at a b ⊢
      exact ⟨fun y1 => Exists.elim (a.1 y1) (fun y2 y4 => Exists.elim (b.1 y1) (fun y3 y5 => ⟨y2, cj_X7_addStop_44 hR _ _ _ _ y4 y5⟩)), fun y6 => ⟨(a.2 y6).1, fun y7 => fun y8 => fun y9 => fun y10 => ih _ _ _ (((((a.2 y6).2 y7) y8) y9) y10) (((((b.2 y6).2 y7) y8) y9) y10)⟩⟩
set_option maxHeartbeats 4000000 in
theorem cj_X7_addStop {a1 : Int32} {a2 : Int32} {σ : zSto} {P Q R : zSto → Prop} (hR : ∀ (z0 : zSto), P z0 → Q z0 → R z0) (a : w_X7_addStop a1 a2 σ P) (b : w_X7_addStop a1 a2 σ Q) : w_X7_addStop a1 a2 σ R := by
  unfold w_X7_addStop at a b ⊢
  exact fun y1 => fun y2 => fun y3 => fun y4 => Exists.elim ((((a y1) y2) y3) y4) (fun y5 y7 => Exists.elim ((((b y1) y2) y3) y4) (fun y6 y8 => ⟨y5, cj_X7_addStop_21 hR _ _ _ _ y7 y8⟩))
set_option maxHeartbeats 4000000 in
theorem cj_X7_overPosts_19 {q_1 : Nat} {x_2 : Int32} {P Q R : zSto → Prop} (hR : ∀ (z0 : zSto), P z0 → Q z0 → R z0) : ∀ (n1 n2 : Nat) (x_3 : Int32) (σ : zSto), w_X7_overPosts_19 q_1 x_2 P n1 x_3 σ → w_X7_overPosts_19 q_1 x_2 Q n2 x_3 σ → w_X7_overPosts_19 q_1 x_2 R n1 x_3 σ := by
  intro n1
  induction n1 with
  | zero => intro n2 x_3 σ a b; exact a.elim
  | succ n1 ih =>
    intro n2 x_3 σ a b
    cases n2 with
    | zero => exact b.elim
    | succ n2 =>
      unfold w_X7_overPosts_19 at a b ⊢
      exact ⟨fun y1 => hR _ (a.1 y1) (b.1 y1), fun y2 => ⟨fun y3 => hR _ ((a.2 y2).1 y3) ((b.2 y2).1 y3), fun y4 => cj_X0_cost (fun y5 y6 y7 y8 => ⟨y7.1, cj_X7_addStop (fun y9 y10 y11 => fun y12 => fun y13 => ih _ _ _ ((y10 y12) y13) ((y11 y12) y13)) y7.2 y8.2⟩) ((a.2 y2).2 y4) ((b.2 y2).2 y4)⟩⟩
set_option maxHeartbeats 4000000 in
theorem cj_X7_overPosts {b1 : Nat} {a2 : Int32} {σ : zSto} {P Q R : zSto → Prop} (hR : ∀ (z0 : zSto), P z0 → Q z0 → R z0) (a : w_X7_overPosts b1 a2 σ P) (b : w_X7_overPosts b1 a2 σ Q) : w_X7_overPosts b1 a2 σ R := by
  unfold w_X7_overPosts at a b ⊢
  exact fun y1 => fun y2 => fun y3 => fun y4 => fun y5 => fun y6 => Exists.elim ((((((a y1) y2) y3) y4) y5) y6) (fun y7 y9 => Exists.elim ((((((b y1) y2) y3) y4) y5) y6) (fun y8 y10 => ⟨y7, cj_X7_overPosts_19 hR _ _ _ _ y9 y10⟩))
set_option maxHeartbeats 4000000 in
theorem cj_X7_weightUpTo_5 {x_1 : Int32} {P Q R : Int64 → zSto → Prop} (hR : ∀ (z0 : Int64) (z1 : zSto), P z0 z1 → Q z0 z1 → R z0 z1) : ∀ (n1 n2 : Nat) (x_2 : Int64) (x_4 : Int32) (σ : zSto), w_X7_weightUpTo_5 x_1 P n1 x_2 x_4 σ → w_X7_weightUpTo_5 x_1 Q n2 x_2 x_4 σ → w_X7_weightUpTo_5 x_1 R n1 x_2 x_4 σ := by
  intro n1
  induction n1 with
  | zero => intro n2 x_2 x_4 σ a b; exact a.elim
  | succ n1 ih =>
    intro n2 x_2 x_4 σ a b
    cases n2 with
    | zero => exact b.elim
    | succ n2 =>
      unfold w_X7_weightUpTo_5 at a b ⊢
      exact ⟨fun y1 => hR _ _ (a.1 y1) (b.1 y1), fun y2 => ⟨fun y3 => hR _ _ ((a.2 y2).1 y3) ((b.2 y2).1 y3), fun y4 => ⟨((a.2 y2).2 y4).1, fun y5 => fun y6 => fun y7 => fun y8 => ih _ _ _ _ ((((((a.2 y2).2 y4).2 y5) y6) y7) y8) ((((((b.2 y2).2 y4).2 y5) y6) y7) y8)⟩⟩⟩
set_option maxHeartbeats 4000000 in
theorem cj_X7_weightUpTo {a1 : Int32} {σ : zSto} {P Q R : Int64 → zSto → Prop} (hR : ∀ (z0 : Int64) (z1 : zSto), P z0 z1 → Q z0 z1 → R z0 z1) (a : w_X7_weightUpTo a1 σ P) (b : w_X7_weightUpTo a1 σ Q) : w_X7_weightUpTo a1 σ R := by
  unfold w_X7_weightUpTo at a b ⊢
  exact Exists.elim a (fun y1 y3 => Exists.elim b (fun y2 y4 => ⟨y1, cj_X7_weightUpTo_5 hR _ _ _ _ _ y3 y4⟩))
set_option maxHeartbeats 4000000 in
theorem cj_X9_commonDivisor_9  {P Q R : Int64 → zSto → Prop} (hR : ∀ (z0 : Int64) (z1 : zSto), P z0 z1 → Q z0 z1 → R z0 z1) : ∀ (n1 n2 : Nat) (x_4 : Int64) (x_6 : Int64) (x_8 : Int32) (σ : zSto), w_X9_commonDivisor_9 P n1 x_4 x_6 x_8 σ → w_X9_commonDivisor_9 Q n2 x_4 x_6 x_8 σ → w_X9_commonDivisor_9 R n1 x_4 x_6 x_8 σ := by
  intro n1
  induction n1 with
  | zero => intro n2 x_4 x_6 x_8 σ a b; exact a.elim
  | succ n1 ih =>
    intro n2 x_4 x_6 x_8 σ a b
    cases n2 with
    | zero => exact b.elim
    | succ n2 =>
      unfold w_X9_commonDivisor_9 at a b ⊢
      exact ⟨fun y1 => hR _ _ (a.1 y1) (b.1 y1), fun y2 => ⟨fun y3 => hR _ _ ((a.2 y2).1 y3) ((b.2 y2).1 y3), fun y4 => ⟨((a.2 y2).2 y4).1, fun y5 => fun y6 => fun y7 => fun y8 => ih _ _ _ _ _ ((((((a.2 y2).2 y4).2 y5) y6) y7) y8) ((((((b.2 y2).2 y4).2 y5) y6) y7) y8)⟩⟩⟩
set_option maxHeartbeats 4000000 in
theorem cj_X9_commonDivisor {a1 : Int64} {a2 : Int64} {σ : zSto} {P Q R : Int64 → zSto → Prop} (hR : ∀ (z0 : Int64) (z1 : zSto), P z0 z1 → Q z0 z1 → R z0 z1) (a : w_X9_commonDivisor a1 a2 σ P) (b : w_X9_commonDivisor a1 a2 σ Q) : w_X9_commonDivisor a1 a2 σ R := by
  unfold w_X9_commonDivisor at a b ⊢
  exact Exists.elim a (fun y1 y3 => Exists.elim b (fun y2 y4 => ⟨y1, cj_X9_commonDivisor_9 hR _ _ _ _ _ _ y3 y4⟩))
set_option maxHeartbeats 4000000 in
theorem cj_X9_leastTerm {a1 : Int64} {a2 : Int64} {a3 : Int32} {σ : zSto} {P Q R : Int64 → zSto → Prop} (hR : ∀ (z0 : Int64) (z1 : zSto), P z0 z1 → Q z0 z1 → R z0 z1) (a : w_X9_leastTerm a1 a2 a3 σ P) (b : w_X9_leastTerm a1 a2 a3 σ Q) : w_X9_leastTerm a1 a2 a3 σ R := by
  unfold w_X9_leastTerm at a b ⊢
  exact cj_X9_commonDivisor (fun y1 y2 y3 y4 => ⟨fun y5 => ⟨fun y6 => ⟨((y3.1 y5).1 y6).1, hR _ _ ((y3.1 y5).1 y6).2 ((y4.1 y5).1 y6).2⟩, fun y7 => hR _ _ ((y3.1 y5).2 y7) ((y4.1 y5).2 y7)⟩, fun y8 => ⟨fun y9 => ⟨((y3.2 y8).1 y9).1, hR _ _ ((y3.2 y8).1 y9).2 ((y4.2 y8).1 y9).2⟩, fun y10 => hR _ _ ((y3.2 y8).2 y10) ((y4.2 y8).2 y10)⟩⟩) a b
set_option maxHeartbeats 4000000 in
theorem cj_X9_tenfoldMean_4 {q_0 : Nat} {P Q R : Int64 → zSto → Prop} (hR : ∀ (z0 : Int64) (z1 : zSto), P z0 z1 → Q z0 z1 → R z0 z1) : ∀ (n1 n2 : Nat) (x_1 : Int64) (x_3 : Int32) (σ : zSto), w_X9_tenfoldMean_4 q_0 P n1 x_1 x_3 σ → w_X9_tenfoldMean_4 q_0 Q n2 x_1 x_3 σ → w_X9_tenfoldMean_4 q_0 R n1 x_1 x_3 σ := by
  intro n1
  induction n1 with
  | zero => intro n2 x_1 x_3 σ a b; exact a.elim
  | succ n1 ih =>
    intro n2 x_1 x_3 σ a b
    cases n2 with
    | zero => exact b.elim
    | succ n2 =>
      unfold w_X9_tenfoldMean_4 at a b ⊢
      exact ⟨fun y1 => hR _ _ (a.1 y1) (b.1 y1), fun y2 => ⟨(a.2 y2).1, cj_X0_cost (fun y3 y4 y5 y6 => fun y7 => fun y8 => fun y9 => fun y10 => ih _ _ _ _ ((((y5 y7) y8) y9) y10) ((((y6 y7) y8) y9) y10)) (a.2 y2).2 (b.2 y2).2⟩⟩
set_option maxHeartbeats 4000000 in
theorem cj_X9_tenfoldMean {b1 : Nat} {σ : zSto} {P Q R : Int64 → zSto → Prop} (hR : ∀ (z0 : Int64) (z1 : zSto), P z0 z1 → Q z0 z1 → R z0 z1) (a : w_X9_tenfoldMean b1 σ P) (b : w_X9_tenfoldMean b1 σ Q) : w_X9_tenfoldMean b1 σ R := by
  unfold w_X9_tenfoldMean at a b ⊢
  exact Exists.elim a (fun y1 y3 => Exists.elim b (fun y2 y4 => ⟨y1, cj_X9_tenfoldMean_4 hR _ _ _ _ _ y3 y4⟩))
set_option maxHeartbeats 4000000 in
theorem cj_X9_chance {a1 : Int32} {a2 : Int32} {a3 : Int32} {σ : zSto} {P Q R : Int64 → zSto → Prop} (hR : ∀ (z0 : Int64) (z1 : zSto), P z0 z1 → Q z0 z1 → R z0 z1) (a : w_X9_chance a1 a2 a3 σ P) (b : w_X9_chance a1 a2 a3 σ Q) : w_X9_chance a1 a2 a3 σ R := by
  unfold w_X9_chance at a b ⊢
  exact cj_X8_lineAt (fun y1 y2 y3 y4 => ⟨fun y5 => hR _ _ (y3.1 y5) (y4.1 y5), fun y6 => fun y7 => ⟨((y3.2 y6) y7).1, ⟨fun y8 => hR _ _ (((y3.2 y6) y7).2.1 y8) (((y4.2 y6) y7).2.1 y8), fun y9 => ⟨fun y10 => ⟨fun y11 => cj_X7_overPosts (fun y12 y13 y14 => cj_X7_weightUpTo (fun y15 y16 y17 y18 => cj_X9_leastTerm (fun y19 y20 y21 y22 => hR _ _ y21 y22) y17 y18) y13 y14) (((((y3.2 y6) y7).2.2 y9).1 y10).1 y11) (((((y4.2 y6) y7).2.2 y9).1 y10).1 y11), fun y23 => cj_X9_tenfoldMean (fun y24 y25 y26 y27 => cj_X9_leastTerm (fun y28 y29 y30 y31 => hR _ _ y30 y31) y26 y27) (((((y3.2 y6) y7).2.2 y9).1 y10).2 y23) (((((y4.2 y6) y7).2.2 y9).1 y10).2 y23)⟩, fun y32 => hR _ _ ((((y3.2 y6) y7).2.2 y9).2 y32) ((((y4.2 y6) y7).2.2 y9).2 y32)⟩⟩⟩⟩) a b
set_option maxHeartbeats 4000000 in
theorem cj_X10_findOdds_65 {x_1 : Int32} {x_2 : Int32} {x_3 : Int32} {P Q R : zSto → Prop} {KP KQ KR : Int32 → zSto → Prop} (hK : ∀ (z0 : Int32) (z1 : zSto), KP z0 z1 → KQ z0 z1 → KR z0 z1) : ∀ (n1 n2 : Nat) (x_4 : Int32) (σ : zSto), w_X10_findOdds_65 x_1 x_2 x_3 P KP n1 x_4 σ → w_X10_findOdds_65 x_1 x_2 x_3 Q KQ n2 x_4 σ → w_X10_findOdds_65 x_1 x_2 x_3 R KR n1 x_4 σ := by
  intro n1
  induction n1 with
  | zero => intro n2 x_4 σ a b; exact a.elim
  | succ n1 ih =>
    intro n2 x_4 σ a b
    cases n2 with
    | zero => exact b.elim
    | succ n2 =>
      unfold w_X10_findOdds_65 at a b ⊢
      exact ⟨fun y x6 e6 => hK _ _ (a.1 y x6 e6) (b.1 y x6 e6), fun y1 => ⟨(a.2 y1).1, ⟨(a.2 y1).2.1, ⟨fun y2 => ⟨((a.2 y1).2.2.1 y2).1, fun y3 => fun y4 => fun y5 => fun y6 => ih _ _ _ ((((((a.2 y1).2.2.1 y2).2 y3) y4) y5) y6) ((((((b.2 y1).2.2.1 y2).2 y3) y4) y5) y6)⟩, fun y7 => ⟨((a.2 y1).2.2.2 y7).1, ⟨((a.2 y1).2.2.2 y7).2.1, ⟨((a.2 y1).2.2.2 y7).2.2.1, fun y8 => fun y9 => fun y10 => fun y11 => ih _ _ _ ((((((a.2 y1).2.2.2 y7).2.2.2 y8) y9) y10) y11) ((((((b.2 y1).2.2.2 y7).2.2.2 y8) y9) y10) y11)⟩⟩⟩⟩⟩⟩⟩
set_option maxHeartbeats 4000000 in
theorem cj_X10_findOdds_36 {x_1 : Int32} {P Q R : zSto → Prop} (hR : ∀ (z0 : zSto), P z0 → Q z0 → R z0) : ∀ (n1 n2 : Nat) (x_2 : Int32) (σ : zSto), w_X10_findOdds_36 x_1 P n1 x_2 σ → w_X10_findOdds_36 x_1 Q n2 x_2 σ → w_X10_findOdds_36 x_1 R n1 x_2 σ := by
  intro n1
  induction n1 with
  | zero => intro n2 x_2 σ a b; exact a.elim
  | succ n1 ih =>
    intro n2 x_2 σ a b
    cases n2 with
    | zero => exact b.elim
    | succ n2 =>
      unfold w_X10_findOdds_36 at a b ⊢
      exact ⟨fun y1 => hR _ (a.1 y1) (b.1 y1), fun y2 => cj_X10_postOf (fun y3 y4 y5 y6 => fun y7 => fun y8 => Exists.elim ((y5 y7) y8) (fun y9 y11 => Exists.elim ((y6 y7) y8) (fun y10 y12 => ⟨y9, cj_X10_findOdds_65 (fun z0 σz p q => ih _ _ _ p q) _ _ _ _ y11 y12⟩))) (a.2 y2) (b.2 y2)⟩
set_option maxHeartbeats 4000000 in
theorem cj_X10_findOdds_2 {x_1 : Int32} {P Q R : zSto → Prop} (hR : ∀ (z0 : zSto), P z0 → Q z0 → R z0) : ∀ (n1 n2 : Nat) (x_2 : Int32) (σ : zSto), w_X10_findOdds_2 x_1 P n1 x_2 σ → w_X10_findOdds_2 x_1 Q n2 x_2 σ → w_X10_findOdds_2 x_1 R n1 x_2 σ := by
  intro n1
  induction n1 with
  | zero => intro n2 x_2 σ a b; exact a.elim
  | succ n1 ih =>
    intro n2 x_2 σ a b
    cases n2 with
    | zero => exact b.elim
    | succ n2 =>
      unfold w_X10_findOdds_2 at a b ⊢
      exact ⟨fun y1 => fun y2 => fun y3 => fun y4 => fun y5 => Exists.elim (((((a.1 y1) y2) y3) y4) y5) (fun y6 y8 => Exists.elim (((((b.1 y1) y2) y3) y4) y5) (fun y7 y9 => ⟨y6, cj_X10_findOdds_36 hR _ _ _ _ y8 y9⟩)), fun y10 => ⟨(a.2 y10).1, fun y11 => fun y12 => fun y13 => fun y14 => ih _ _ _ (((((a.2 y10).2 y11) y12) y13) y14) (((((b.2 y10).2 y11) y12) y13) y14)⟩⟩
set_option maxHeartbeats 4000000 in
theorem cj_X10_findOdds {a1 : Int32} {σ : zSto} {P Q R : zSto → Prop} (hR : ∀ (z0 : zSto), P z0 → Q z0 → R z0) (a : w_X10_findOdds a1 σ P) (b : w_X10_findOdds a1 σ Q) : w_X10_findOdds a1 σ R := by
  unfold w_X10_findOdds at a b ⊢
  exact Exists.elim a (fun y1 y3 => Exists.elim b (fun y2 y4 => ⟨y1, cj_X10_findOdds_2 hR _ _ _ _ y3 y4⟩))
set_option maxHeartbeats 4000000 in
theorem cj_X10_common_6  {P Q R : Int64 → zSto → Prop} (hR : ∀ (z0 : Int64) (z1 : zSto), P z0 z1 → Q z0 z1 → R z0 z1) : ∀ (n1 n2 : Nat) (x_4 : Int64) (x_6 : Int64) (σ : zSto), w_X10_common_6 P n1 x_4 x_6 σ → w_X10_common_6 Q n2 x_4 x_6 σ → w_X10_common_6 R n1 x_4 x_6 σ := by
  intro n1
  induction n1 with
  | zero => intro n2 x_4 x_6 σ a b; exact a.elim
  | succ n1 ih =>
    intro n2 x_4 x_6 σ a b
    cases n2 with
    | zero => exact b.elim
    | succ n2 =>
      unfold w_X10_common_6 at a b ⊢
      exact ⟨fun y1 => hR _ _ (a.1 y1) (b.1 y1), fun y2 => ⟨(a.2 y2).1, fun y3 => fun y4 => ih _ _ _ _ (((a.2 y2).2 y3) y4) (((b.2 y2).2 y3) y4)⟩⟩
set_option maxHeartbeats 4000000 in
theorem cj_X10_common {a1 : Int64} {a2 : Int64} {σ : zSto} {P Q R : Int64 → zSto → Prop} (hR : ∀ (z0 : Int64) (z1 : zSto), P z0 z1 → Q z0 z1 → R z0 z1) (a : w_X10_common a1 a2 σ P) (b : w_X10_common a1 a2 σ Q) : w_X10_common a1 a2 σ R := by
  unfold w_X10_common at a b ⊢
  exact Exists.elim a (fun y1 y3 => Exists.elim b (fun y2 y4 => ⟨y1, cj_X10_common_6 hR _ _ _ _ _ y3 y4⟩))
set_option maxHeartbeats 4000000 in
theorem cj_X10_part {a1 : Int64} {a2 : Int64} {a3 : Int32} {σ : zSto} {P Q R : Int64 → zSto → Prop} (hR : ∀ (z0 : Int64) (z1 : zSto), P z0 z1 → Q z0 z1 → R z0 z1) (a : w_X10_part a1 a2 a3 σ P) (b : w_X10_part a1 a2 a3 σ Q) : w_X10_part a1 a2 a3 σ R := by
  unfold w_X10_part at a b ⊢
  exact cj_X10_common (fun y1 y2 y3 y4 => ⟨fun y5 => ⟨(y3.1 y5).1, hR _ _ (y3.1 y5).2 (y4.1 y5).2⟩, fun y6 => ⟨(y3.2 y6).1, hR _ _ (y3.2 y6).2 (y4.2 y6).2⟩⟩) a b
set_option maxHeartbeats 4000000 in
theorem cj_X10_chance_98 {x_2 : Int32} {x_3 : Int32} {P Q R : Int64 → zSto → Prop} (hR : ∀ (z0 : Int64) (z1 : zSto), P z0 z1 → Q z0 z1 → R z0 z1) : ∀ (n1 n2 : Nat) (x_4 : Int64) (x_6 : Int32) (σ : zSto), w_X10_chance_98 x_2 x_3 P n1 x_4 x_6 σ → w_X10_chance_98 x_2 x_3 Q n2 x_4 x_6 σ → w_X10_chance_98 x_2 x_3 R n1 x_4 x_6 σ := by
  intro n1
  induction n1 with
  | zero => intro n2 x_4 x_6 σ a b; exact a.elim
  | succ n1 ih =>
    intro n2 x_4 x_6 σ a b
    cases n2 with
    | zero => exact b.elim
    | succ n2 =>
      unfold w_X10_chance_98 at a b ⊢
      exact ⟨fun y1 => cj_X10_part (fun y2 y3 y4 y5 => hR _ _ y4 y5) (a.1 y1) (b.1 y1), fun y6 => ⟨(a.2 y6).1, fun y7 => fun y8 => fun y9 => fun y10 => ih _ _ _ _ (((((a.2 y6).2 y7) y8) y9) y10) (((((b.2 y6).2 y7) y8) y9) y10)⟩⟩
set_option maxHeartbeats 4000000 in
theorem cj_X10_chance_40 {x_3 : Int32} {P Q R : Int64 → zSto → Prop} (hR : ∀ (z0 : Int64) (z1 : zSto), P z0 z1 → Q z0 z1 → R z0 z1) : ∀ (n1 n2 : Nat) (x_4 : Int64) (x_6 : Int32) (σ : zSto), w_X10_chance_40 x_3 P n1 x_4 x_6 σ → w_X10_chance_40 x_3 Q n2 x_4 x_6 σ → w_X10_chance_40 x_3 R n1 x_4 x_6 σ := by
  intro n1
  induction n1 with
  | zero => intro n2 x_4 x_6 σ a b; exact a.elim
  | succ n1 ih =>
    intro n2 x_4 x_6 σ a b
    cases n2 with
    | zero => exact b.elim
    | succ n2 =>
      unfold w_X10_chance_40 at a b ⊢
      exact ⟨fun y1 => cj_X10_part (fun y2 y3 y4 y5 => hR _ _ y4 y5) (a.1 y1) (b.1 y1), fun y6 => ⟨(a.2 y6).1, cj_X10_postOf (fun y7 y8 y9 y10 => fun y11 => fun y12 => fun y13 => fun y14 => ih _ _ _ _ ((((y9 y11) y12) y13) y14) ((((y10 y11) y12) y13) y14)) (a.2 y6).2 (b.2 y6).2⟩⟩
set_option maxHeartbeats 4000000 in
theorem cj_X10_chance {a1 : Int32} {a2 : Int32} {a3 : Int32} {σ : zSto} {P Q R : Int64 → zSto → Prop} (hR : ∀ (z0 : Int64) (z1 : zSto), P z0 z1 → Q z0 z1 → R z0 z1) (a : w_X10_chance a1 a2 a3 σ P) (b : w_X10_chance a1 a2 a3 σ Q) : w_X10_chance a1 a2 a3 σ R := by
  unfold w_X10_chance at a b ⊢
  exact fun y1 => fun y2 => cj_X10_in (fun y3 y4 y5 y6 => fun y7 => ⟨fun y8 => hR _ _ ((y5 y7).1 y8) ((y6 y7).1 y8), fun y9 => cj_X10_hand (fun y10 y11 y12 y13 => fun y14 => ⟨fun y15 => ⟨fun y16 => cj_X10_findOdds (fun y17 y18 y19 => Exists.elim y18 (fun y20 y22 => Exists.elim y19 (fun y21 y23 => ⟨y20, cj_X10_chance_98 hR _ _ _ _ _ y22 y23⟩))) (((y12 y14).1 y15).1 y16) (((y13 y14).1 y15).1 y16), fun y24 => Exists.elim (((y12 y14).1 y15).2 y24) (fun y25 y27 => Exists.elim (((y13 y14).1 y15).2 y24) (fun y26 y28 => ⟨y25, cj_X10_chance_40 hR _ _ _ _ _ y27 y28⟩))⟩, fun y29 => hR _ _ ((y12 y14).2 y29) ((y13 y14).2 y29)⟩) ((y5 y7).2 y9) ((y6 y7).2 y9)⟩) ((a y1) y2) ((b y1) y2)
set_option maxHeartbeats 4000000 in
theorem cj_X9_isHundredths {a1 : Int32} {σ : zSto} {P Q R : Int32 → zSto → Prop} (hR : ∀ (z0 : Int32) (z1 : zSto), P z0 z1 → Q z0 z1 → R z0 z1) (a : w_X9_isHundredths a1 σ P) (b : w_X9_isHundredths a1 σ Q) : w_X9_isHundredths a1 σ R := by
  unfold w_X9_isHundredths at a b ⊢
  exact ⟨fun y1 => hR _ _ (a.1 y1) (b.1 y1), fun y2 => ⟨fun y3 => hR _ _ ((a.2 y2).1 y3) ((b.2 y2).1 y3), fun y4 => hR _ _ ((a.2 y2).2 y4) ((b.2 y2).2 y4)⟩⟩
set_option maxHeartbeats 4000000 in
theorem cj_X7_leastCosts_5 {x_1 : Int32} {P Q R : Int32 → zSto → Prop} (hR : ∀ (z0 : Int32) (z1 : zSto), P z0 z1 → Q z0 z1 → R z0 z1) : ∀ (n1 n2 : Nat) (x_2 : Int64) (x_4 : Int32) (σ : zSto), w_X7_leastCosts_5 x_1 P n1 x_2 x_4 σ → w_X7_leastCosts_5 x_1 Q n2 x_2 x_4 σ → w_X7_leastCosts_5 x_1 R n1 x_2 x_4 σ := by
  intro n1
  induction n1 with
  | zero => intro n2 x_2 x_4 σ a b; exact a.elim
  | succ n1 ih =>
    intro n2 x_2 x_4 σ a b
    cases n2 with
    | zero => exact b.elim
    | succ n2 =>
      unfold w_X7_leastCosts_5 at a b ⊢
      exact ⟨fun y1 => hR _ _ (a.1 y1) (b.1 y1), fun y2 => ⟨(a.2 y2).1, fun y3 => fun y4 => ⟨fun y5 => fun y6 => fun y7 => ih _ _ _ _ ((((((a.2 y2).2 y3) y4).1 y5) y6) y7) ((((((b.2 y2).2 y3) y4).1 y5) y6) y7), fun y8 => hR _ _ ((((a.2 y2).2 y3) y4).2 y8) ((((b.2 y2).2 y3) y4).2 y8)⟩⟩⟩
set_option maxHeartbeats 4000000 in
theorem cj_X7_leastCosts {a1 : Int32} {σ : zSto} {P Q R : Int32 → zSto → Prop} (hR : ∀ (z0 : Int32) (z1 : zSto), P z0 z1 → Q z0 z1 → R z0 z1) (a : w_X7_leastCosts a1 σ P) (b : w_X7_leastCosts a1 σ Q) : w_X7_leastCosts a1 σ R := by
  unfold w_X7_leastCosts at a b ⊢
  exact Exists.elim a (fun y1 y3 => Exists.elim b (fun y2 y4 => ⟨y1, cj_X7_leastCosts_5 hR _ _ _ _ _ y3 y4⟩))
set_option maxHeartbeats 4000000 in
theorem cj_X9_slack {a1 : Int32} {a2 : Int32} {σ : zSto} {P Q R : Int32 → zSto → Prop} (hR : ∀ (z0 : Int32) (z1 : zSto), P z0 z1 → Q z0 z1 → R z0 z1) (a : w_X9_slack a1 a2 σ P) (b : w_X9_slack a1 a2 σ Q) : w_X9_slack a1 a2 σ R := by
  unfold w_X9_slack at a b ⊢
  exact cj_X8_lineAt (fun y1 y2 y3 y4 => ⟨fun y5 => hR _ _ (y3.1 y5) (y4.1 y5), fun y6 => fun y7 => ⟨((y3.2 y6) y7).1, cj_X9_isHundredths (fun y8 y9 y10 y11 => fun y12 => ⟨fun y13 => cj_X7_overPosts (fun y14 y15 y16 => cj_X7_leastCosts (fun y17 y18 y19 y20 => hR _ _ y19 y20) y15 y16) ((y10 y12).1 y13) ((y11 y12).1 y13), fun y21 => hR _ _ ((y10 y12).2 y21) ((y11 y12).2 y21)⟩) ((y3.2 y6) y7).2 ((y4.2 y6) y7).2⟩⟩) a b
set_option maxHeartbeats 4000000 in
theorem cj_X10_enough_10 {x_1 : Int32} {P Q R : Int32 → zSto → Prop} (hR : ∀ (z0 : Int32) (z1 : zSto), P z0 z1 → Q z0 z1 → R z0 z1) : ∀ (n1 n2 : Nat) (x_2 : Int64) (x_4 : Int32) (σ : zSto), w_X10_enough_10 x_1 P n1 x_2 x_4 σ → w_X10_enough_10 x_1 Q n2 x_2 x_4 σ → w_X10_enough_10 x_1 R n1 x_2 x_4 σ := by
  intro n1
  induction n1 with
  | zero => intro n2 x_2 x_4 σ a b; exact a.elim
  | succ n1 ih =>
    intro n2 x_2 x_4 σ a b
    cases n2 with
    | zero => exact b.elim
    | succ n2 =>
      unfold w_X10_enough_10 at a b ⊢
      exact ⟨fun y1 => hR _ _ (a.1 y1) (b.1 y1), fun y2 => fun y3 => fun y4 => ⟨(((a.2 y2) y3) y4).1, fun y5 => fun y6 => ih _ _ _ _ (((((a.2 y2) y3) y4).2 y5) y6) (((((b.2 y2) y3) y4).2 y5) y6)⟩⟩
set_option maxHeartbeats 4000000 in
theorem cj_X10_enough {a1 : Int32} {σ : zSto} {P Q R : Int32 → zSto → Prop} (hR : ∀ (z0 : Int32) (z1 : zSto), P z0 z1 → Q z0 z1 → R z0 z1) (a : w_X10_enough a1 σ P) (b : w_X10_enough a1 σ Q) : w_X10_enough a1 σ R := by
  unfold w_X10_enough at a b ⊢
  exact fun y1 => fun y2 => Exists.elim ((a y1) y2) (fun y3 y5 => Exists.elim ((b y1) y2) (fun y4 y6 => ⟨y3, cj_X10_enough_10 hR _ _ _ _ _ y5 y6⟩))
set_option maxHeartbeats 4000000 in
theorem cj_X10_slack {a1 : Int32} {a2 : Int32} {σ : zSto} {P Q R : Int32 → zSto → Prop} (hR : ∀ (z0 : Int32) (z1 : zSto), P z0 z1 → Q z0 z1 → R z0 z1) (a : w_X10_slack a1 a2 σ P) (b : w_X10_slack a1 a2 σ Q) : w_X10_slack a1 a2 σ R := by
  unfold w_X10_slack at a b ⊢
  exact fun y1 => fun y2 => cj_X10_in (fun y3 y4 y5 y6 => fun y7 => ⟨fun y8 => hR _ _ ((y5 y7).1 y8) ((y6 y7).1 y8), fun y9 => cj_X10_hand (fun y10 y11 y12 y13 => fun y14 => ⟨fun y15 => cj_X10_findOdds (fun y16 y17 y18 => cj_X10_enough (fun y19 y20 y21 y22 => hR _ _ y21 y22) y17 y18) ((y12 y14).1 y15) ((y13 y14).1 y15), fun y23 => hR _ _ ((y12 y14).2 y23) ((y13 y14).2 y23)⟩) ((y5 y7).2 y9) ((y6 y7).2 y9)⟩) ((a y1) y2) ((b y1) y2)
set_option maxHeartbeats 4000000 in
theorem cj_X0_stationBehind_4 {q_0 : Nat} {P Q R : Int32 → zSto → Prop} (hR : ∀ (z0 : Int32) (z1 : zSto), P z0 z1 → Q z0 z1 → R z0 z1) : ∀ (n1 n2 : Nat) (x_2 : Int32) (σ : zSto), w_X0_stationBehind_4 q_0 P n1 x_2 σ → w_X0_stationBehind_4 q_0 Q n2 x_2 σ → w_X0_stationBehind_4 q_0 R n1 x_2 σ := by
  intro n1
  induction n1 with
  | zero => intro n2 x_2 σ a b; exact a.elim
  | succ n1 ih =>
    intro n2 x_2 σ a b
    cases n2 with
    | zero => exact b.elim
    | succ n2 =>
      unfold w_X0_stationBehind_4 at a b ⊢
      exact ⟨fun y1 => hR _ _ (a.1 y1) (b.1 y1), fun y2 => ⟨(a.2 y2).1, ⟨fun y3 => fun y4 => fun y5 => ih _ _ _ ((((a.2 y2).2.1 y3) y4) y5) ((((b.2 y2).2.1 y3) y4) y5), fun y6 => hR _ _ ((a.2 y2).2.2 y6) ((b.2 y2).2.2 y6)⟩⟩⟩
set_option maxHeartbeats 4000000 in
theorem cj_X0_stationBehind {t : Nat} {a1 : Int32} {σ : zSto} {P Q R : Int32 → zSto → Prop} (hR : ∀ (z0 : Int32) (z1 : zSto), P z0 z1 → Q z0 z1 → R z0 z1) (a : w_X0_stationBehind t a1 σ P) (b : w_X0_stationBehind t a1 σ Q) : w_X0_stationBehind t a1 σ R := by
  unfold w_X0_stationBehind at a b ⊢
  exact fun y1 => fun y2 => Exists.elim ((a y1) y2) (fun y3 y5 => Exists.elim ((b y1) y2) (fun y4 y6 => ⟨y3, cj_X0_stationBehind_4 hR _ _ _ _ y5 y6⟩))
set_option maxHeartbeats 4000000 in
theorem cj_X1_waitAt {b1 : Nat} {a2 : Int32} {a3 : Int32} {a4 : Int32} {σ : zSto} {P Q R : Int32 → zSto → Prop} (hR : ∀ (z0 : Int32) (z1 : zSto), P z0 z1 → Q z0 z1 → R z0 z1) (a : w_X1_waitAt b1 a2 a3 a4 σ P) (b : w_X1_waitAt b1 a2 a3 a4 σ Q) : w_X1_waitAt b1 a2 a3 a4 σ R := by
  unfold w_X1_waitAt at a b ⊢
  exact cj_X0_isStation (fun y1 y2 y3 y4 => fun y5 => ⟨fun y6 => hR _ _ ((y3 y5).1 y6) ((y4 y5).1 y6), fun y7 => cj_X0_stationBehind (fun y8 y9 y10 y11 => ⟨fun y12 => cj_X0_minutesTo (fun y13 y14 y15 y16 => cj_X0_minutesTo (fun y17 y18 y19 y20 => fun y21 => fun y22 => ⟨fun y23 => hR _ _ (((y19 y21) y22).1 y23) (((y20 y21) y22).1 y23), fun y24 => ⟨fun y25 => hR _ _ ((((y19 y21) y22).2 y24).1 y25) ((((y20 y21) y22).2 y24).1 y25), fun y26 => hR _ _ ((((y19 y21) y22).2 y24).2 y26) ((((y20 y21) y22).2 y24).2 y26)⟩⟩) y15 y16) (y10.1 y12) (y11.1 y12), fun y27 => hR _ _ (y10.2 y27) (y11.2 y27)⟩) ((y3 y5).2 y7) ((y4 y5).2 y7)⟩) a b
set_option maxHeartbeats 4000000 in
theorem cj_X1_follow_32 {q_1 : Nat} {x_2 : Int32} {P Q R : zSto → Prop} (hR : ∀ (z0 : zSto), P z0 → Q z0 → R z0) : ∀ (n1 n2 : Nat) (x_3 : Int32) (x_4 : Int32) (x_5 : Int32) (σ : zSto), w_X1_follow_32 q_1 x_2 P n1 x_3 x_4 x_5 σ → w_X1_follow_32 q_1 x_2 Q n2 x_3 x_4 x_5 σ → w_X1_follow_32 q_1 x_2 R n1 x_3 x_4 x_5 σ := by
  intro n1
  induction n1 with
  | zero => intro n2 x_3 x_4 x_5 σ a b; exact a.elim
  | succ n1 ih =>
    intro n2 x_3 x_4 x_5 σ a b
    cases n2 with
    | zero => exact b.elim
    | succ n2 =>
      unfold w_X1_follow_32 at a b ⊢
      exact ⟨fun y1 => hR _ (a.1 y1) (b.1 y1), fun y2 => ⟨fun y3 => fun y4 => fun y5 => ⟨((((a.2 y2).1 y3) y4) y5).1, fun y6 => fun y7 => cj_X1_waitAt (fun y8 y9 y10 y11 => ⟨y10.1, fun y12 => fun y13 => ⟨((y10.2 y12) y13).1, fun y14 => fun y15 => ⟨((((y10.2 y12) y13).2 y14) y15).1, fun y16 => fun y17 => ⟨((((((y10.2 y12) y13).2 y14) y15).2 y16) y17).1, fun y18 => fun y19 => ⟨((((((((y10.2 y12) y13).2 y14) y15).2 y16) y17).2 y18) y19).1, fun y20 => fun y21 => ⟨fun y22 => fun y23 => fun y24 => ih _ _ _ _ _ (((((((((((((y10.2 y12) y13).2 y14) y15).2 y16) y17).2 y18) y19).2 y20) y21).1 y22) y23) y24) (((((((((((((y11.2 y12) y13).2 y14) y15).2 y16) y17).2 y18) y19).2 y20) y21).1 y22) y23) y24), fun y25 => ⟨fun y26 => fun y27 => fun y28 => ih _ _ _ _ _ ((((((((((((((y10.2 y12) y13).2 y14) y15).2 y16) y17).2 y18) y19).2 y20) y21).2 y25).1 y26) y27) y28) ((((((((((((((y11.2 y12) y13).2 y14) y15).2 y16) y17).2 y18) y19).2 y20) y21).2 y25).1 y26) y27) y28), fun y29 => ⟨fun y30 => fun y31 => fun y32 => ih _ _ _ _ _ (((((((((((((((y10.2 y12) y13).2 y14) y15).2 y16) y17).2 y18) y19).2 y20) y21).2 y25).2 y29).1 y30) y31) y32) (((((((((((((((y11.2 y12) y13).2 y14) y15).2 y16) y17).2 y18) y19).2 y20) y21).2 y25).2 y29).1 y30) y31) y32), fun y33 => ⟨fun y34 => fun y35 => fun y36 => ih _ _ _ _ _ ((((((((((((((((y10.2 y12) y13).2 y14) y15).2 y16) y17).2 y18) y19).2 y20) y21).2 y25).2 y29).2 y33).1 y34) y35) y36) ((((((((((((((((y11.2 y12) y13).2 y14) y15).2 y16) y17).2 y18) y19).2 y20) y21).2 y25).2 y29).2 y33).1 y34) y35) y36), fun y37 => fun y38 => fun y39 => fun y40 => fun y41 => ih _ _ _ _ _ ((((((((((((((((((y10.2 y12) y13).2 y14) y15).2 y16) y17).2 y18) y19).2 y20) y21).2 y25).2 y29).2 y33).2 y37) y38) y39) y40) y41) ((((((((((((((((((y11.2 y12) y13).2 y14) y15).2 y16) y17).2 y18) y19).2 y20) y21).2 y25).2 y29).2 y33).2 y37) y38) y39) y40) y41)⟩⟩⟩⟩⟩⟩⟩⟩⟩) ((((((a.2 y2).1 y3) y4) y5).2 y6) y7) ((((((b.2 y2).1 y3) y4) y5).2 y6) y7)⟩, fun y42 => cj_X0_cost (fun y43 y44 y45 y46 => fun y47 => fun y48 => ⟨((y45 y47) y48).1, fun y49 => fun y50 => cj_X1_waitAt (fun y51 y52 y53 y54 => ⟨y53.1, fun y55 => fun y56 => ⟨((y53.2 y55) y56).1, fun y57 => fun y58 => ⟨((((y53.2 y55) y56).2 y57) y58).1, fun y59 => fun y60 => ⟨((((((y53.2 y55) y56).2 y57) y58).2 y59) y60).1, fun y61 => fun y62 => ⟨((((((((y53.2 y55) y56).2 y57) y58).2 y59) y60).2 y61) y62).1, fun y63 => fun y64 => ⟨fun y65 => fun y66 => fun y67 => ih _ _ _ _ _ (((((((((((((y53.2 y55) y56).2 y57) y58).2 y59) y60).2 y61) y62).2 y63) y64).1 y65) y66) y67) (((((((((((((y54.2 y55) y56).2 y57) y58).2 y59) y60).2 y61) y62).2 y63) y64).1 y65) y66) y67), fun y68 => ⟨fun y69 => fun y70 => fun y71 => ih _ _ _ _ _ ((((((((((((((y53.2 y55) y56).2 y57) y58).2 y59) y60).2 y61) y62).2 y63) y64).2 y68).1 y69) y70) y71) ((((((((((((((y54.2 y55) y56).2 y57) y58).2 y59) y60).2 y61) y62).2 y63) y64).2 y68).1 y69) y70) y71), fun y72 => ⟨fun y73 => fun y74 => fun y75 => ih _ _ _ _ _ (((((((((((((((y53.2 y55) y56).2 y57) y58).2 y59) y60).2 y61) y62).2 y63) y64).2 y68).2 y72).1 y73) y74) y75) (((((((((((((((y54.2 y55) y56).2 y57) y58).2 y59) y60).2 y61) y62).2 y63) y64).2 y68).2 y72).1 y73) y74) y75), fun y76 => ⟨fun y77 => fun y78 => fun y79 => ih _ _ _ _ _ ((((((((((((((((y53.2 y55) y56).2 y57) y58).2 y59) y60).2 y61) y62).2 y63) y64).2 y68).2 y72).2 y76).1 y77) y78) y79) ((((((((((((((((y54.2 y55) y56).2 y57) y58).2 y59) y60).2 y61) y62).2 y63) y64).2 y68).2 y72).2 y76).1 y77) y78) y79), fun y80 => fun y81 => fun y82 => fun y83 => fun y84 => ih _ _ _ _ _ ((((((((((((((((((y53.2 y55) y56).2 y57) y58).2 y59) y60).2 y61) y62).2 y63) y64).2 y68).2 y72).2 y76).2 y80) y81) y82) y83) y84) ((((((((((((((((((y54.2 y55) y56).2 y57) y58).2 y59) y60).2 y61) y62).2 y63) y64).2 y68).2 y72).2 y76).2 y80) y81) y82) y83) y84)⟩⟩⟩⟩⟩⟩⟩⟩⟩) ((((y45 y47) y48).2 y49) y50) ((((y46 y47) y48).2 y49) y50)⟩) ((a.2 y2).2 y42) ((b.2 y2).2 y42)⟩⟩
set_option maxHeartbeats 4000000 in
theorem cj_X1_follow {b1 : Nat} {a2 : Int32} {σ : zSto} {P Q R : zSto → Prop} (hR : ∀ (z0 : zSto), P z0 → Q z0 → R z0) (a : w_X1_follow b1 a2 σ P) (b : w_X1_follow b1 a2 σ Q) : w_X1_follow b1 a2 σ R := by
  unfold w_X1_follow at a b ⊢
  exact cj_X0_minutesTo (fun y1 y2 y3 y4 => fun y5 => fun y6 => fun y7 => fun y8 => fun y9 => fun y10 => Exists.elim ((((((y3 y5) y6) y7) y8) y9) y10) (fun y11 y13 => Exists.elim ((((((y4 y5) y6) y7) y8) y9) y10) (fun y12 y14 => ⟨y11, cj_X1_follow_32 hR _ _ _ _ _ _ y13 y14⟩))) a b
set_option maxHeartbeats 4000000 in
theorem cj_X9_meet {a1 : Int32} {a2 : Int32} {a3 : Int32} {a4 : Int32} {a5 : Int32} {σ : zSto} {P Q R : Int32 → zSto → Prop} (hR : ∀ (z0 : Int32) (z1 : zSto), P z0 z1 → Q z0 z1 → R z0 z1) (a : w_X9_meet a1 a2 a3 a4 a5 σ P) (b : w_X9_meet a1 a2 a3 a4 a5 σ Q) : w_X9_meet a1 a2 a3 a4 a5 σ R := by
  unfold w_X9_meet at a b ⊢
  exact cj_X9_ridden (fun y1 y2 y3 y4 => ⟨fun y5 => hR _ _ (y3.1 y5) (y4.1 y5), fun y6 => fun y7 => ⟨((y3.2 y6) y7).1, ⟨fun y8 => cj_X1_follow (fun y9 y10 y11 => ⟨fun y12 => ⟨fun y13 => ⟨fun y14 => ⟨(((y10.1 y12).1 y13).1 y14).1, hR _ _ (((y10.1 y12).1 y13).1 y14).2 (((y11.1 y12).1 y13).1 y14).2⟩, ⟨fun y15 => hR _ _ (((y10.1 y12).1 y13).2.1 y15) (((y11.1 y12).1 y13).2.1 y15), ⟨fun y16 => hR _ _ (((y10.1 y12).1 y13).2.2.1 y16) (((y11.1 y12).1 y13).2.2.1 y16), fun y17 => hR _ _ (((y10.1 y12).1 y13).2.2.2 y17) (((y11.1 y12).1 y13).2.2.2 y17)⟩⟩⟩, fun y18 => ⟨fun y19 => ⟨fun y20 => ⟨((((y10.1 y12).2 y18).1 y19).1 y20).1, hR _ _ ((((y10.1 y12).2 y18).1 y19).1 y20).2 ((((y11.1 y12).2 y18).1 y19).1 y20).2⟩, ⟨fun y21 => hR _ _ ((((y10.1 y12).2 y18).1 y19).2.1 y21) ((((y11.1 y12).2 y18).1 y19).2.1 y21), ⟨fun y22 => hR _ _ ((((y10.1 y12).2 y18).1 y19).2.2.1 y22) ((((y11.1 y12).2 y18).1 y19).2.2.1 y22), fun y23 => hR _ _ ((((y10.1 y12).2 y18).1 y19).2.2.2 y23) ((((y11.1 y12).2 y18).1 y19).2.2.2 y23)⟩⟩⟩, fun y24 => ⟨(((y10.1 y12).2 y18).2 y24).1, hR _ _ (((y10.1 y12).2 y18).2 y24).2 (((y11.1 y12).2 y18).2 y24).2⟩⟩⟩, fun y25 => ⟨fun y26 => ⟨fun y27 => ⟨fun y28 => ⟨((((y10.2 y25).1 y26).1 y27).1 y28).1, hR _ _ ((((y10.2 y25).1 y26).1 y27).1 y28).2 ((((y11.2 y25).1 y26).1 y27).1 y28).2⟩, ⟨fun y29 => hR _ _ ((((y10.2 y25).1 y26).1 y27).2.1 y29) ((((y11.2 y25).1 y26).1 y27).2.1 y29), ⟨fun y30 => hR _ _ ((((y10.2 y25).1 y26).1 y27).2.2.1 y30) ((((y11.2 y25).1 y26).1 y27).2.2.1 y30), fun y31 => hR _ _ ((((y10.2 y25).1 y26).1 y27).2.2.2 y31) ((((y11.2 y25).1 y26).1 y27).2.2.2 y31)⟩⟩⟩, fun y32 => ⟨fun y33 => ⟨fun y34 => ⟨(((((y10.2 y25).1 y26).2 y32).1 y33).1 y34).1, hR _ _ (((((y10.2 y25).1 y26).2 y32).1 y33).1 y34).2 (((((y11.2 y25).1 y26).2 y32).1 y33).1 y34).2⟩, ⟨fun y35 => hR _ _ (((((y10.2 y25).1 y26).2 y32).1 y33).2.1 y35) (((((y11.2 y25).1 y26).2 y32).1 y33).2.1 y35), ⟨fun y36 => hR _ _ (((((y10.2 y25).1 y26).2 y32).1 y33).2.2.1 y36) (((((y11.2 y25).1 y26).2 y32).1 y33).2.2.1 y36), fun y37 => hR _ _ (((((y10.2 y25).1 y26).2 y32).1 y33).2.2.2 y37) (((((y11.2 y25).1 y26).2 y32).1 y33).2.2.2 y37)⟩⟩⟩, fun y38 => ⟨((((y10.2 y25).1 y26).2 y32).2 y38).1, hR _ _ ((((y10.2 y25).1 y26).2 y32).2 y38).2 ((((y11.2 y25).1 y26).2 y32).2 y38).2⟩⟩⟩, fun y39 => ⟨((y10.2 y25).2 y39).1, hR _ _ ((y10.2 y25).2 y39).2 ((y11.2 y25).2 y39).2⟩⟩⟩) (((y3.2 y6) y7).2.1 y8) (((y4.2 y6) y7).2.1 y8), fun y40 => hR _ _ (((y3.2 y6) y7).2.2 y40) (((y4.2 y6) y7).2.2 y40)⟩⟩⟩) a b
set_option maxHeartbeats 4000000 in
theorem cj_X10_nextStation_4  {P Q R : Int32 → zSto → Prop} (hR : ∀ (z0 : Int32) (z1 : zSto), P z0 z1 → Q z0 z1 → R z0 z1) : ∀ (n1 n2 : Nat) (x_2 : Int32) (σ : zSto), w_X10_nextStation_4 P n1 x_2 σ → w_X10_nextStation_4 Q n2 x_2 σ → w_X10_nextStation_4 R n1 x_2 σ := by
  intro n1
  induction n1 with
  | zero => intro n2 x_2 σ a b; exact a.elim
  | succ n1 ih =>
    intro n2 x_2 σ a b
    cases n2 with
    | zero => exact b.elim
    | succ n2 =>
      unfold w_X10_nextStation_4 at a b ⊢
      exact ⟨fun y1 => hR _ _ (a.1 y1) (b.1 y1), fun y2 => cj_X10_postOf (fun y3 y4 y5 y6 => ⟨fun y7 => fun y8 => fun y9 => ih _ _ _ (((y5.1 y7) y8) y9) (((y6.1 y7) y8) y9), fun y10 => hR _ _ (y5.2 y10) (y6.2 y10)⟩) (a.2 y2) (b.2 y2)⟩
set_option maxHeartbeats 4000000 in
theorem cj_X10_nextStation {a1 : Int32} {σ : zSto} {P Q R : Int32 → zSto → Prop} (hR : ∀ (z0 : Int32) (z1 : zSto), P z0 z1 → Q z0 z1 → R z0 z1) (a : w_X10_nextStation a1 σ P) (b : w_X10_nextStation a1 σ Q) : w_X10_nextStation a1 σ R := by
  unfold w_X10_nextStation at a b ⊢
  exact fun y1 => fun y2 => Exists.elim ((a y1) y2) (fun y3 y5 => Exists.elim ((b y1) y2) (fun y4 y6 => ⟨y3, cj_X10_nextStation_4 hR _ _ _ _ y5 y6⟩))
set_option maxHeartbeats 4000000 in
theorem cj_X10_waitAt_43 {x_1 : Int32} {x_2 : Int32} {x_3 : Int32} {P Q R : Int32 → zSto → Prop} (hR : ∀ (z0 : Int32) (z1 : zSto), P z0 z1 → Q z0 z1 → R z0 z1) : ∀ (n1 n2 : Nat) (x_4 : Int32) (x_5 : Int32) (σ : zSto), w_X10_waitAt_43 x_1 x_2 x_3 P n1 x_4 x_5 σ → w_X10_waitAt_43 x_1 x_2 x_3 Q n2 x_4 x_5 σ → w_X10_waitAt_43 x_1 x_2 x_3 R n1 x_4 x_5 σ := by
  intro n1
  induction n1 with
  | zero => intro n2 x_4 x_5 σ a b; exact a.elim
  | succ n1 ih =>
    intro n2 x_4 x_5 σ a b
    cases n2 with
    | zero => exact b.elim
    | succ n2 =>
      unfold w_X10_waitAt_43 at a b ⊢
      exact ⟨fun y1 => ⟨(a.1 y1).1, ⟨fun y2 => hR _ _ ((a.1 y1).2.1 y2) ((b.1 y1).2.1 y2), fun y3 => ⟨((a.1 y1).2.2 y3).1, hR _ _ ((a.1 y1).2.2 y3).2 ((b.1 y1).2.2 y3).2⟩⟩⟩, fun y4 => ⟨(a.2 y4).1, fun y5 => fun y6 => fun y7 => fun y8 => ih _ _ _ _ (((((a.2 y4).2 y5) y6) y7) y8) (((((b.2 y4).2 y5) y6) y7) y8)⟩⟩
set_option maxHeartbeats 4000000 in
theorem cj_X10_waitAt {a1 : Int32} {a2 : Int32} {σ : zSto} {P Q R : Int32 → zSto → Prop} (hR : ∀ (z0 : Int32) (z1 : zSto), P z0 z1 → Q z0 z1 → R z0 z1) (a : w_X10_waitAt a1 a2 σ P) (b : w_X10_waitAt a1 a2 σ Q) : w_X10_waitAt a1 a2 σ R := by
  unfold w_X10_waitAt at a b ⊢
  exact cj_X10_postOf (fun y1 y2 y3 y4 => ⟨fun y5 => cj_X10_nextStation (fun y6 y7 y8 y9 => ⟨fun y10 => hR _ _ (y8.1 y10) (y9.1 y10), fun y11 => ⟨(y8.2 y11).1, ⟨fun y12 => Exists.elim ((y8.2 y11).2.1 y12) (fun y13 y15 => Exists.elim ((y9.2 y11).2.1 y12) (fun y14 y16 => ⟨y13, cj_X10_waitAt_43 hR _ _ _ _ _ y15 y16⟩)), fun y17 => hR _ _ ((y8.2 y11).2.2 y17) ((y9.2 y11).2.2 y17)⟩⟩⟩) (y3.1 y5) (y4.1 y5), fun y18 => hR _ _ (y3.2 y18) (y4.2 y18)⟩) a b
set_option maxHeartbeats 4000000 in
theorem cj_X10_meetOther_62  {P Q R : zSto → Prop} (hR : ∀ (z0 : zSto), P z0 → Q z0 → R z0) : ∀ (n1 n2 : Nat) (x_1 : Int32) (x_2 : Int32) (σ : zSto), w_X10_meetOther_62 P n1 x_1 x_2 σ → w_X10_meetOther_62 Q n2 x_1 x_2 σ → w_X10_meetOther_62 R n1 x_1 x_2 σ := by
  intro n1
  induction n1 with
  | zero => intro n2 x_1 x_2 σ a b; exact a.elim
  | succ n1 ih =>
    intro n2 x_1 x_2 σ a b
    cases n2 with
    | zero => exact b.elim
    | succ n2 =>
      unfold w_X10_meetOther_62 at a b ⊢
      exact ⟨fun y1 => hR _ (a.1 y1) (b.1 y1), fun y2 => ⟨(a.2 y2).1, fun y3 => fun y4 => ⟨(((a.2 y2).2 y3) y4).1, fun y5 => fun y6 => ⟨fun y7 => fun y8 => fun y9 => ih _ _ _ _ ((((((((a.2 y2).2 y3) y4).2 y5) y6).1 y7) y8) y9) ((((((((b.2 y2).2 y3) y4).2 y5) y6).1 y7) y8) y9), fun y10 => ⟨((((((a.2 y2).2 y3) y4).2 y5) y6).2 y10).1, ⟨fun y11 => fun y12 => fun y13 => cj_X10_waitAt (fun y14 y15 y16 y17 => ⟨y16.1, fun y18 => fun y19 => ⟨((y16.2 y18) y19).1, fun y20 => fun y21 => ⟨((((y16.2 y18) y19).2 y20) y21).1, fun y22 => fun y23 => ⟨fun y24 => fun y25 => fun y26 => fun y27 => fun y28 => ih _ _ _ _ (((((((((((y16.2 y18) y19).2 y20) y21).2 y22) y23).1 y24) y25) y26) y27) y28) (((((((((((y17.2 y18) y19).2 y20) y21).2 y22) y23).1 y24) y25) y26) y27) y28), fun y29 => ⟨(((((((y16.2 y18) y19).2 y20) y21).2 y22) y23).2 y29).1, ⟨fun y30 => fun y31 => fun y32 => fun y33 => fun y34 => ih _ _ _ _ ((((((((((((y16.2 y18) y19).2 y20) y21).2 y22) y23).2 y29).2.1 y30) y31) y32) y33) y34) ((((((((((((y17.2 y18) y19).2 y20) y21).2 y22) y23).2 y29).2.1 y30) y31) y32) y33) y34), fun y35 => ⟨((((((((y16.2 y18) y19).2 y20) y21).2 y22) y23).2 y29).2.2 y35).1, ⟨fun y36 => fun y37 => fun y38 => fun y39 => fun y40 => ih _ _ _ _ (((((((((((((y16.2 y18) y19).2 y20) y21).2 y22) y23).2 y29).2.2 y35).2.1 y36) y37) y38) y39) y40) (((((((((((((y17.2 y18) y19).2 y20) y21).2 y22) y23).2 y29).2.2 y35).2.1 y36) y37) y38) y39) y40), fun y41 => fun y42 => fun y43 => fun y44 => fun y45 => ih _ _ _ _ (((((((((((((y16.2 y18) y19).2 y20) y21).2 y22) y23).2 y29).2.2 y35).2.2 y41) y42) y43) y44) y45) (((((((((((((y17.2 y18) y19).2 y20) y21).2 y22) y23).2 y29).2.2 y35).2.2 y41) y42) y43) y44) y45)⟩⟩⟩⟩⟩⟩⟩⟩) (((((((((a.2 y2).2 y3) y4).2 y5) y6).2 y10).2.1 y11) y12) y13) (((((((((b.2 y2).2 y3) y4).2 y5) y6).2 y10).2.1 y11) y12) y13), fun y46 => ⟨(((((((a.2 y2).2 y3) y4).2 y5) y6).2 y10).2.2 y46).1, fun y47 => fun y48 => cj_X10_waitAt (fun y49 y50 y51 y52 => ⟨y51.1, fun y53 => fun y54 => ⟨((y51.2 y53) y54).1, fun y55 => fun y56 => ⟨((((y51.2 y53) y54).2 y55) y56).1, fun y57 => fun y58 => ⟨fun y59 => fun y60 => fun y61 => fun y62 => fun y63 => ih _ _ _ _ (((((((((((y51.2 y53) y54).2 y55) y56).2 y57) y58).1 y59) y60) y61) y62) y63) (((((((((((y52.2 y53) y54).2 y55) y56).2 y57) y58).1 y59) y60) y61) y62) y63), fun y64 => ⟨(((((((y51.2 y53) y54).2 y55) y56).2 y57) y58).2 y64).1, ⟨fun y65 => fun y66 => fun y67 => fun y68 => fun y69 => ih _ _ _ _ ((((((((((((y51.2 y53) y54).2 y55) y56).2 y57) y58).2 y64).2.1 y65) y66) y67) y68) y69) ((((((((((((y52.2 y53) y54).2 y55) y56).2 y57) y58).2 y64).2.1 y65) y66) y67) y68) y69), fun y70 => ⟨((((((((y51.2 y53) y54).2 y55) y56).2 y57) y58).2 y64).2.2 y70).1, ⟨fun y71 => fun y72 => fun y73 => fun y74 => fun y75 => ih _ _ _ _ (((((((((((((y51.2 y53) y54).2 y55) y56).2 y57) y58).2 y64).2.2 y70).2.1 y71) y72) y73) y74) y75) (((((((((((((y52.2 y53) y54).2 y55) y56).2 y57) y58).2 y64).2.2 y70).2.1 y71) y72) y73) y74) y75), fun y76 => fun y77 => fun y78 => fun y79 => fun y80 => ih _ _ _ _ (((((((((((((y51.2 y53) y54).2 y55) y56).2 y57) y58).2 y64).2.2 y70).2.2 y76) y77) y78) y79) y80) (((((((((((((y52.2 y53) y54).2 y55) y56).2 y57) y58).2 y64).2.2 y70).2.2 y76) y77) y78) y79) y80)⟩⟩⟩⟩⟩⟩⟩⟩) (((((((((a.2 y2).2 y3) y4).2 y5) y6).2 y10).2.2 y46).2 y47) y48) (((((((((b.2 y2).2 y3) y4).2 y5) y6).2 y10).2.2 y46).2 y47) y48)⟩⟩⟩⟩⟩⟩⟩
set_option maxHeartbeats 4000000 in
theorem cj_X10_meetOther_22  {P Q R : zSto → Prop} (hR : ∀ (z0 : zSto), P z0 → Q z0 → R z0) : ∀ (n1 n2 : Nat) (x_1 : Int32) (σ : zSto), w_X10_meetOther_22 P n1 x_1 σ → w_X10_meetOther_22 Q n2 x_1 σ → w_X10_meetOther_22 R n1 x_1 σ := by
  intro n1
  induction n1 with
  | zero => intro n2 x_1 σ a b; exact a.elim
  | succ n1 ih =>
    intro n2 x_1 σ a b
    cases n2 with
    | zero => exact b.elim
    | succ n2 =>
      unfold w_X10_meetOther_22 at a b ⊢
      exact ⟨fun y1 => fun y2 => fun y3 => Exists.elim (((a.1 y1) y2) y3) (fun y4 y6 => Exists.elim (((b.1 y1) y2) y3) (fun y5 y7 => ⟨y4, cj_X10_meetOther_62 hR _ _ _ _ _ y6 y7⟩)), fun y8 => ⟨(a.2 y8).1, ⟨(a.2 y8).2.1, ⟨(a.2 y8).2.2.1, fun y9 => fun y10 => fun y11 => fun y12 => ih _ _ _ (((((a.2 y8).2.2.2 y9) y10) y11) y12) (((((b.2 y8).2.2.2 y9) y10) y11) y12)⟩⟩⟩⟩
set_option maxHeartbeats 4000000 in
theorem cj_X10_meetOther {σ : zSto} {P Q R : zSto → Prop} (hR : ∀ (z0 : zSto), P z0 → Q z0 → R z0) (a : w_X10_meetOther σ P) (b : w_X10_meetOther σ Q) : w_X10_meetOther σ R := by
  unfold w_X10_meetOther at a b ⊢
  exact cj_X10_of (fun y1 y2 y3 y4 => ⟨y3.1, fun y5 => fun y6 => fun y7 => fun y8 => Exists.elim ((((y3.2 y5) y6) y7) y8) (fun y9 y11 => Exists.elim ((((y4.2 y5) y6) y7) y8) (fun y10 y12 => ⟨y9, cj_X10_meetOther_22 hR _ _ _ _ y11 y12⟩))⟩) a b
set_option maxHeartbeats 4000000 in
theorem cj_X10_meet_99 {x_5 : Int32} {P Q R : Int32 → zSto → Prop} (hR : ∀ (z0 : Int32) (z1 : zSto), P z0 z1 → Q z0 z1 → R z0 z1) : ∀ (n1 n2 : Nat) (x_6 : Int32) (x_7 : Int32) (σ : zSto), w_X10_meet_99 x_5 P n1 x_6 x_7 σ → w_X10_meet_99 x_5 Q n2 x_6 x_7 σ → w_X10_meet_99 x_5 R n1 x_6 x_7 σ := by
  intro n1
  induction n1 with
  | zero => intro n2 x_6 x_7 σ a b; exact a.elim
  | succ n1 ih =>
    intro n2 x_6 x_7 σ a b
    cases n2 with
    | zero => exact b.elim
    | succ n2 =>
      unfold w_X10_meet_99 at a b ⊢
      exact ⟨fun y1 => ⟨fun y2 => ⟨fun y3 => ⟨fun y4 => hR _ _ ((((a.1 y1).1 y2).1 y3).1 y4) ((((b.1 y1).1 y2).1 y3).1 y4), fun y5 => hR _ _ ((((a.1 y1).1 y2).1 y3).2 y5) ((((b.1 y1).1 y2).1 y3).2 y5)⟩, fun y6 => hR _ _ (((a.1 y1).1 y2).2 y6) (((b.1 y1).1 y2).2 y6)⟩, fun y7 => ⟨((a.1 y1).2 y7).1, hR _ _ ((a.1 y1).2 y7).2 ((b.1 y1).2 y7).2⟩⟩, fun y8 => ⟨(a.2 y8).1, fun y9 => fun y10 => fun y11 => fun y12 => ih _ _ _ _ (((((a.2 y8).2 y9) y10) y11) y12) (((((b.2 y8).2 y9) y10) y11) y12)⟩⟩
set_option maxHeartbeats 4000000 in
theorem cj_X10_meet {a1 : Int32} {a2 : Int32} {a3 : Int32} {a4 : Int32} {a5 : Int32} {σ : zSto} {P Q R : Int32 → zSto → Prop} (hR : ∀ (z0 : Int32) (z1 : zSto), P z0 z1 → Q z0 z1 → R z0 z1) (a : w_X10_meet a1 a2 a3 a4 a5 σ P) (b : w_X10_meet a1 a2 a3 a4 a5 σ Q) : w_X10_meet a1 a2 a3 a4 a5 σ R := by
  unfold w_X10_meet at a b ⊢
  exact fun y1 => fun y2 => cj_X10_layRun (fun y3 y4 y5 y6 => fun y7 => ⟨fun y8 => hR _ _ ((y5 y7).1 y8) ((y6 y7).1 y8), fun y9 => cj_X10_of (fun y10 y11 y12 y13 => ⟨fun y14 => cj_X10_meetOther (fun y15 y16 y17 => cj_X10_in (fun y18 y19 y20 y21 => fun y22 => ⟨fun y23 => cj_X10_in (fun y24 y25 y26 y27 => fun y28 => ⟨fun y29 => Exists.elim ((y26 y28).1 y29) (fun y30 y32 => Exists.elim ((y27 y28).1 y29) (fun y31 y33 => ⟨y30, cj_X10_meet_99 hR _ _ _ _ _ y32 y33⟩)), fun y34 => ⟨((y26 y28).2 y34).1, hR _ _ ((y26 y28).2 y34).2 ((y27 y28).2 y34).2⟩⟩) ((y20 y22).1 y23) ((y21 y22).1 y23), fun y35 => ⟨((y20 y22).2 y35).1, hR _ _ ((y20 y22).2 y35).2 ((y21 y22).2 y35).2⟩⟩) y16 y17) (y12.1 y14) (y13.1 y14), fun y36 => hR _ _ (y12.2 y36) (y13.2 y36)⟩) ((y5 y7).2 y9) ((y6 y7).2 y9)⟩) ((a y1) y2) ((b y1) y2)
set_option maxHeartbeats 4000000 in
theorem cj_X9_risk_59 {x_2 : Int32} {q_3 : Nat} {x_4 : Int32} {P Q R : Int32 → zSto → Prop} (hR : ∀ (z0 : Int32) (z1 : zSto), P z0 z1 → Q z0 z1 → R z0 z1) : ∀ (n1 n2 : Nat) (x_5 : Int32) (x_6 : Int32) (x_7 : Int32) (σ : zSto), w_X9_risk_59 x_2 q_3 x_4 P n1 x_5 x_6 x_7 σ → w_X9_risk_59 x_2 q_3 x_4 Q n2 x_5 x_6 x_7 σ → w_X9_risk_59 x_2 q_3 x_4 R n1 x_5 x_6 x_7 σ := by
  intro n1
  induction n1 with
  | zero => intro n2 x_5 x_6 x_7 σ a b; exact a.elim
  | succ n1 ih =>
    intro n2 x_5 x_6 x_7 σ a b
    cases n2 with
    | zero => exact b.elim
    | succ n2 =>
      unfold w_X9_risk_59 at a b ⊢
      exact ⟨fun y1 => ⟨fun y2 => hR _ _ ((a.1 y1).1 y2) ((b.1 y1).1 y2), fun y3 => hR _ _ ((a.1 y1).2 y3) ((b.1 y1).2 y3)⟩, fun y4 => cj_X1_follow (fun y5 y6 y7 => ⟨fun y8 => fun y9 => fun y10 => ⟨fun y11 => fun y12 => fun y13 => fun y14 => fun y15 => ih _ _ _ _ _ ((((((((y6.1 y8) y9) y10).1 y11) y12) y13) y14) y15) ((((((((y7.1 y8) y9) y10).1 y11) y12) y13) y14) y15), fun y16 => fun y17 => fun y18 => fun y19 => fun y20 => ih _ _ _ _ _ ((((((((y6.1 y8) y9) y10).2 y16) y17) y18) y19) y20) ((((((((y7.1 y8) y9) y10).2 y16) y17) y18) y19) y20)⟩, fun y21 => fun y22 => fun y23 => ⟨fun y24 => fun y25 => fun y26 => fun y27 => fun y28 => ih _ _ _ _ _ ((((((((y6.2 y21) y22) y23).1 y24) y25) y26) y27) y28) ((((((((y7.2 y21) y22) y23).1 y24) y25) y26) y27) y28), fun y29 => fun y30 => fun y31 => fun y32 => fun y33 => ih _ _ _ _ _ ((((((((y6.2 y21) y22) y23).2 y29) y30) y31) y32) y33) ((((((((y7.2 y21) y22) y23).2 y29) y30) y31) y32) y33)⟩⟩) (a.2 y4) (b.2 y4)⟩
set_option maxHeartbeats 4000000 in
theorem cj_X9_risk {a1 : Int32} {a2 : Int32} {σ : zSto} {P Q R : Int32 → zSto → Prop} (hR : ∀ (z0 : Int32) (z1 : zSto), P z0 z1 → Q z0 z1 → R z0 z1) (a : w_X9_risk a1 a2 σ P) (b : w_X9_risk a1 a2 σ Q) : w_X9_risk a1 a2 σ R := by
  unfold w_X9_risk at a b ⊢
  exact cj_X8_lineAt (fun y1 y2 y3 y4 => ⟨fun y5 => hR _ _ (y3.1 y5) (y4.1 y5), fun y6 => fun y7 => ⟨((y3.2 y6) y7).1, ⟨fun y8 => hR _ _ (((y3.2 y6) y7).2.1 y8) (((y4.2 y6) y7).2.1 y8), fun y9 => ⟨fun y10 => hR _ _ ((((y3.2 y6) y7).2.2 y9).1 y10) ((((y4.2 y6) y7).2.2 y9).1 y10), fun y11 => ⟨fun y12 => cj_X1_follow (fun y13 y14 y15 => fun y16 => fun y17 => Exists.elim ((y14 y16) y17) (fun y18 y20 => Exists.elim ((y15 y16) y17) (fun y19 y21 => ⟨y18, cj_X9_risk_59 hR _ _ _ _ _ _ y20 y21⟩))) (((((y3.2 y6) y7).2.2 y9).2 y11).1 y12) (((((y4.2 y6) y7).2.2 y9).2 y11).1 y12), fun y22 => hR _ _ (((((y3.2 y6) y7).2.2 y9).2 y11).2 y22) (((((y4.2 y6) y7).2.2 y9).2 y11).2 y22)⟩⟩⟩⟩⟩) a b
set_option maxHeartbeats 4000000 in
theorem cj_X10_allWaits_4  {P Q R : Int32 → zSto → Prop} (hR : ∀ (z0 : Int32) (z1 : zSto), P z0 z1 → Q z0 z1 → R z0 z1) : ∀ (n1 n2 : Nat) (x_1 : Int32) (x_2 : Int32) (σ : zSto), w_X10_allWaits_4 P n1 x_1 x_2 σ → w_X10_allWaits_4 Q n2 x_1 x_2 σ → w_X10_allWaits_4 R n1 x_1 x_2 σ := by
  intro n1
  induction n1 with
  | zero => intro n2 x_1 x_2 σ a b; exact a.elim
  | succ n1 ih =>
    intro n2 x_1 x_2 σ a b
    cases n2 with
    | zero => exact b.elim
    | succ n2 =>
      unfold w_X10_allWaits_4 at a b ⊢
      exact ⟨fun y1 => hR _ _ (a.1 y1) (b.1 y1), fun y2 => ⟨(a.2 y2).1, fun y3 => fun y4 => fun y5 => fun y6 => ih _ _ _ _ (((((a.2 y2).2 y3) y4) y5) y6) (((((b.2 y2).2 y3) y4) y5) y6)⟩⟩
set_option maxHeartbeats 4000000 in
theorem cj_X10_allWaits {σ : zSto} {P Q R : Int32 → zSto → Prop} (hR : ∀ (z0 : Int32) (z1 : zSto), P z0 z1 → Q z0 z1 → R z0 z1) (a : w_X10_allWaits σ P) (b : w_X10_allWaits σ Q) : w_X10_allWaits σ R := by
  unfold w_X10_allWaits at a b ⊢
  exact Exists.elim a (fun y1 y3 => Exists.elim b (fun y2 y4 => ⟨y1, cj_X10_allWaits_4 hR _ _ _ _ _ y3 y4⟩))
set_option maxHeartbeats 4000000 in
theorem cj_X10_risk_73 {x_2 : Int32} {x_3 : Int32} {P Q R : Int32 → zSto → Prop} (hR : ∀ (z0 : Int32) (z1 : zSto), P z0 z1 → Q z0 z1 → R z0 z1) : ∀ (n1 n2 : Nat) (x_4 : Int32) (x_5 : Int32) (σ : zSto), w_X10_risk_73 x_2 x_3 P n1 x_4 x_5 σ → w_X10_risk_73 x_2 x_3 Q n2 x_4 x_5 σ → w_X10_risk_73 x_2 x_3 R n1 x_4 x_5 σ := by
  intro n1
  induction n1 with
  | zero => intro n2 x_4 x_5 σ a b; exact a.elim
  | succ n1 ih =>
    intro n2 x_4 x_5 σ a b
    cases n2 with
    | zero => exact b.elim
    | succ n2 =>
      unfold w_X10_risk_73 at a b ⊢
      exact ⟨fun y1 => hR _ _ (a.1 y1) (b.1 y1), fun y2 => ⟨(a.2 y2).1, fun y3 => fun y4 => cj_X10_meetOther (fun y5 y6 y7 => ⟨y6.1, fun y8 => fun y9 => ⟨fun y10 => cj_X10_allWaits (fun y11 y12 y13 y14 => ⟨fun y15 => fun y16 => fun y17 => fun y18 => fun y19 => ih _ _ _ _ (((((y13.1 y15) y16) y17) y18) y19) (((((y14.1 y15) y16) y17) y18) y19), fun y20 => fun y21 => fun y22 => fun y23 => fun y24 => ih _ _ _ _ (((((y13.2 y20) y21) y22) y23) y24) (((((y14.2 y20) y21) y22) y23) y24)⟩) (((y6.2 y8) y9).1 y10) (((y7.2 y8) y9).1 y10), fun y25 => ⟨fun y26 => fun y27 => fun y28 => fun y29 => fun y30 => ih _ _ _ _ ((((((((y6.2 y8) y9).2 y25).1 y26) y27) y28) y29) y30) ((((((((y7.2 y8) y9).2 y25).1 y26) y27) y28) y29) y30), fun y31 => fun y32 => fun y33 => fun y34 => fun y35 => ih _ _ _ _ ((((((((y6.2 y8) y9).2 y25).2 y31) y32) y33) y34) y35) ((((((((y7.2 y8) y9).2 y25).2 y31) y32) y33) y34) y35)⟩⟩⟩) (((a.2 y2).2 y3) y4) (((b.2 y2).2 y3) y4)⟩⟩
set_option maxHeartbeats 4000000 in
theorem cj_X10_risk_37 {x_2 : Int32} {P Q R : Int32 → zSto → Prop} (hR : ∀ (z0 : Int32) (z1 : zSto), P z0 z1 → Q z0 z1 → R z0 z1) : ∀ (n1 n2 : Nat) (x_3 : Int32) (σ : zSto), w_X10_risk_37 x_2 P n1 x_3 σ → w_X10_risk_37 x_2 Q n2 x_3 σ → w_X10_risk_37 x_2 R n1 x_3 σ := by
  intro n1
  induction n1 with
  | zero => intro n2 x_3 σ a b; exact a.elim
  | succ n1 ih =>
    intro n2 x_3 σ a b
    cases n2 with
    | zero => exact b.elim
    | succ n2 =>
      unfold w_X10_risk_37 at a b ⊢
      exact ⟨fun y1 => cj_X10_meetOther (fun y2 y3 y4 => cj_X10_allWaits (fun y5 y6 y7 y8 => Exists.elim y7 (fun y9 y11 => Exists.elim y8 (fun y10 y12 => ⟨y9, cj_X10_risk_73 hR _ _ _ _ _ y11 y12⟩))) y3 y4) (a.1 y1) (b.1 y1), fun y13 => ⟨(a.2 y13).1, fun y14 => fun y15 => fun y16 => fun y17 => ih _ _ _ (((((a.2 y13).2 y14) y15) y16) y17) (((((b.2 y13).2 y14) y15) y16) y17)⟩⟩
set_option maxHeartbeats 4000000 in
theorem cj_X10_risk {a1 : Int32} {a2 : Int32} {σ : zSto} {P Q R : Int32 → zSto → Prop} (hR : ∀ (z0 : Int32) (z1 : zSto), P z0 z1 → Q z0 z1 → R z0 z1) (a : w_X10_risk a1 a2 σ P) (b : w_X10_risk a1 a2 σ Q) : w_X10_risk a1 a2 σ R := by
  unfold w_X10_risk at a b ⊢
  exact fun y1 => fun y2 => cj_X10_in (fun y3 y4 y5 y6 => fun y7 => ⟨fun y8 => hR _ _ ((y5 y7).1 y8) ((y6 y7).1 y8), fun y9 => cj_X10_hand (fun y10 y11 y12 y13 => fun y14 => ⟨fun y15 => hR _ _ ((y12 y14).1 y15) ((y13 y14).1 y15), fun y16 => cj_X10_of (fun y17 y18 y19 y20 => ⟨fun y21 => Exists.elim (y19.1 y21) (fun y22 y24 => Exists.elim (y20.1 y21) (fun y23 y25 => ⟨y22, cj_X10_risk_37 hR _ _ _ _ y24 y25⟩)), fun y26 => hR _ _ (y19.2 y26) (y20.2 y26)⟩) ((y12 y14).2 y16) ((y13 y14).2 y16)⟩) ((y5 y7).2 y9) ((y6 y7).2 y9)⟩) ((a y1) y2) ((b y1) y2)
set_option maxHeartbeats 4000000 in
theorem cj_X9_print {a1 : Int32} {a2 : Int32} {a3 : Int32} {σ : zSto} {P Q R : Int32 → zSto → Prop} (hR : ∀ (z0 : Int32) (z1 : zSto), P z0 z1 → Q z0 z1 → R z0 z1) (a : w_X9_print a1 a2 a3 σ P) (b : w_X9_print a1 a2 a3 σ Q) : w_X9_print a1 a2 a3 σ R := by
  unfold w_X9_print at a b ⊢
  exact cj_X8_lineAt (fun y1 y2 y3 y4 => ⟨fun y5 => hR _ _ (y3.1 y5) (y4.1 y5), fun y6 => fun y7 => ⟨((y3.2 y6) y7).1, cj_X0_isStation (fun y8 y9 y10 y11 => fun y12 => ⟨fun y13 => hR _ _ ((y10 y12).1 y13) ((y11 y12).1 y13), fun y14 => cj_X9_isHundredths (fun y15 y16 y17 y18 => fun y19 => ⟨fun y20 => ⟨fun y21 => cj_X7_overPosts (fun y22 y23 y24 => cj_X0_minutesTo (fun y25 y26 y27 y28 => cj_X7_leastCosts (fun y29 y30 y31 y32 => hR _ _ y31 y32) y27 y28) y23 y24) (((y17 y19).1 y20).1 y21) (((y18 y19).1 y20).1 y21), fun y33 => hR _ _ (((y17 y19).1 y20).2 y33) (((y18 y19).1 y20).2 y33)⟩, fun y34 => hR _ _ ((y17 y19).2 y34) ((y18 y19).2 y34)⟩) ((y10 y12).2 y14) ((y11 y12).2 y14)⟩) ((y3.2 y6) y7).2 ((y4.2 y6) y7).2⟩⟩) a b
set_option maxHeartbeats 4000000 in
theorem cj_X10_print_59 {x_2 : Int32} {P Q R : Int32 → zSto → Prop} (hR : ∀ (z0 : Int32) (z1 : zSto), P z0 z1 → Q z0 z1 → R z0 z1) : ∀ (n1 n2 : Nat) (x_4 : Int32) (x_5 : Int32) (σ : zSto), w_X10_print_59 x_2 P n1 x_4 x_5 σ → w_X10_print_59 x_2 Q n2 x_4 x_5 σ → w_X10_print_59 x_2 R n1 x_4 x_5 σ := by
  intro n1
  induction n1 with
  | zero => intro n2 x_4 x_5 σ a b; exact a.elim
  | succ n1 ih =>
    intro n2 x_4 x_5 σ a b
    cases n2 with
    | zero => exact b.elim
    | succ n2 =>
      unfold w_X10_print_59 at a b ⊢
      exact ⟨fun y1 => hR _ _ (a.1 y1) (b.1 y1), fun y2 => ⟨(a.2 y2).1, fun y3 => fun y4 => fun y5 => fun y6 => ih _ _ _ _ (((((a.2 y2).2 y3) y4) y5) y6) (((((b.2 y2).2 y3) y4) y5) y6)⟩⟩
set_option maxHeartbeats 4000000 in
theorem cj_X10_print {a1 : Int32} {a2 : Int32} {a3 : Int32} {σ : zSto} {P Q R : Int32 → zSto → Prop} (hR : ∀ (z0 : Int32) (z1 : zSto), P z0 z1 → Q z0 z1 → R z0 z1) (a : w_X10_print a1 a2 a3 σ P) (b : w_X10_print a1 a2 a3 σ Q) : w_X10_print a1 a2 a3 σ R := by
  unfold w_X10_print at a b ⊢
  exact fun y1 => fun y2 => cj_X10_in (fun y3 y4 y5 y6 => fun y7 => ⟨fun y8 => hR _ _ ((y5 y7).1 y8) ((y6 y7).1 y8), fun y9 => cj_X10_hand (fun y10 y11 y12 y13 => fun y14 => ⟨fun y15 => hR _ _ ((y12 y14).1 y15) ((y13 y14).1 y15), fun y16 => cj_X10_isPost (fun y17 y18 y19 y20 => fun y21 => ⟨fun y22 => hR _ _ ((y19 y21).1 y22) ((y20 y21).1 y22), fun y23 => cj_X10_postOf (fun y24 y25 y26 y27 => ⟨fun y28 => cj_X10_findOdds (fun y29 y30 y31 => cj_X10_enough (fun y32 y33 y34 y35 => Exists.elim y34 (fun y36 y38 => Exists.elim y35 (fun y37 y39 => ⟨y36, cj_X10_print_59 hR _ _ _ _ _ y38 y39⟩))) y30 y31) (y26.1 y28) (y27.1 y28), fun y40 => hR _ _ (y26.2 y40) (y27.2 y40)⟩) ((y19 y21).2 y23) ((y20 y21).2 y23)⟩) ((y12 y14).2 y16) ((y13 y14).2 y16)⟩) ((y5 y7).2 y9) ((y6 y7).2 y9)⟩) ((a y1) y2) ((b y1) y2)
