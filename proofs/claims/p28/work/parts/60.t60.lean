set_option maxHeartbeats 4000000 in
theorem cj_X9_isSort {a1 : Int32} {σ : zSto} {P Q R : Int32 → zSto → Prop} (hR : ∀ (z0 : Int32) (z1 : zSto), P z0 z1 → Q z0 z1 → R z0 z1) (a : w_X9_isSort a1 σ P) (b : w_X9_isSort a1 σ Q) : w_X9_isSort a1 σ R := by
  unfold w_X9_isSort at a b ⊢
  exact ⟨fun y1 => hR _ _ (a.1 y1) (b.1 y1), fun y2 => ⟨fun y3 => hR _ _ ((a.2 y2).1 y3) ((b.2 y2).1 y3), fun y4 => hR _ _ ((a.2 y2).2 y4) ((b.2 y2).2 y4)⟩⟩
set_option maxHeartbeats 4000000 in
theorem cj_X8_howMany {t : Nat} {a1 : Int32} {σ : zSto} {P Q R : Int32 → zSto → Prop} (hR : ∀ (z0 : Int32) (z1 : zSto), P z0 z1 → Q z0 z1 → R z0 z1) (a : w_X8_howMany t a1 σ P) (b : w_X8_howMany t a1 σ Q) : w_X8_howMany t a1 σ R := by
  unfold w_X8_howMany at a b ⊢
  exact cj_X9_isSort (fun y1 y2 y3 y4 => fun y5 => ⟨fun y6 => hR _ _ ((y3 y5).1 y6) ((y4 y5).1 y6), fun y7 => ⟨((y3 y5).2 y7).1, hR _ _ ((y3 y5).2 y7).2 ((y4 y5).2 y7).2⟩⟩) a b
set_option maxHeartbeats 4000000 in
theorem cj_X9_placeFor {a1 : Int32} {a2 : Int32} {σ : zSto} {P Q R : Int32 → zSto → Prop} (hR : ∀ (z0 : Int32) (z1 : zSto), P z0 z1 → Q z0 z1 → R z0 z1) (a : w_X9_placeFor a1 a2 σ P) (b : w_X9_placeFor a1 a2 σ Q) : w_X9_placeFor a1 a2 σ R := by
  unfold w_X9_placeFor at a b ⊢
  exact cj_X9_isSort (fun y1 y2 y3 y4 => fun y5 => ⟨fun y6 => cj_X8_howMany (fun y7 y8 y9 y10 => ⟨fun y11 => ⟨fun y12 => hR _ _ ((y9.1 y11).1 y12) ((y10.1 y11).1 y12), fun y13 => ⟨fun y14 => hR _ _ (((y9.1 y11).2 y13).1 y14) (((y10.1 y11).2 y13).1 y14), fun y15 => hR _ _ (((y9.1 y11).2 y13).2 y15) (((y10.1 y11).2 y13).2 y15)⟩⟩, fun y16 => ⟨fun y17 => hR _ _ ((y9.2 y16).1 y17) ((y10.2 y16).1 y17), fun y18 => hR _ _ ((y9.2 y16).2 y18) ((y10.2 y16).2 y18)⟩⟩) ((y3 y5).1 y6) ((y4 y5).1 y6), fun y19 => hR _ _ ((y3 y5).2 y19) ((y4 y5).2 y19)⟩) a b
set_option maxHeartbeats 4000000 in
theorem cj_X2_copyFrom {t : Nat} {b1 : Nat} {σ : zSto} {P Q R : zSto → Prop} (hR : ∀ (z0 : zSto), P z0 → Q z0 → R z0) (a : w_X2_copyFrom t b1 σ P) (b : w_X2_copyFrom t b1 σ Q) : w_X2_copyFrom t b1 σ R := by
  unfold w_X2_copyFrom at a b ⊢
  exact fun y1 => fun y2 => fun y3 => fun y4 => fun y5 => fun y6 => hR _ ((((((a y1) y2) y3) y4) y5) y6) ((((((b y1) y2) y3) y4) y5) y6)
set_option maxHeartbeats 4000000 in
theorem cj_X0_copyFrom {t : Nat} {b1 : Nat} {σ : zSto} {P Q R : zSto → Prop} (hR : ∀ (z0 : zSto), P z0 → Q z0 → R z0) (a : w_X0_copyFrom t b1 σ P) (b : w_X0_copyFrom t b1 σ Q) : w_X0_copyFrom t b1 σ R := by
  unfold w_X0_copyFrom at a b ⊢
  exact fun y1 => fun y2 => fun y3 => fun y4 => fun y5 => fun y6 => fun y7 => fun y8 => fun y9 => fun y10 => fun y11 => fun y12 => fun y13 => fun y14 => fun y15 => fun y16 => fun y17 => fun y18 => fun y19 => fun y20 => fun y21 => fun y22 => fun y23 => fun y24 => fun y25 => fun y26 => fun y27 => fun y28 => fun y29 => fun y30 => fun y31 => fun y32 => fun y33 => fun y34 => fun y35 => fun y36 => hR _ ((((((((((((((((((((((((((((((((((((a y1) y2) y3) y4) y5) y6) y7) y8) y9) y10) y11) y12) y13) y14) y15) y16) y17) y18) y19) y20) y21) y22) y23) y24) y25) y26) y27) y28) y29) y30) y31) y32) y33) y34) y35) y36) ((((((((((((((((((((((((((((((((((((b y1) y2) y3) y4) y5) y6) y7) y8) y9) y10) y11) y12) y13) y14) y15) y16) y17) y18) y19) y20) y21) y22) y23) y24) y25) y26) y27) y28) y29) y30) y31) y32) y33) y34) y35) y36)
set_option maxHeartbeats 4000000 in
theorem cj_X8_put {t : Nat} {a1 : Int32} {a2 : Int32} {σ : zSto} {P Q R : zSto → Prop} (hR : ∀ (z0 : zSto), P z0 → Q z0 → R z0) (a : w_X8_put t a1 a2 σ P) (b : w_X8_put t a1 a2 σ Q) : w_X8_put t a1 a2 σ R := by
  unfold w_X8_put at a b ⊢
  exact cj_X9_isSort (fun y1 y2 y3 y4 => fun y5 => ⟨fun y6 => hR _ ((y3 y5).1 y6) ((y4 y5).1 y6), fun y7 => ⟨fun y8 => hR _ (((y3 y5).2 y7).1 y8) (((y4 y5).2 y7).1 y8), fun y9 => ⟨fun y10 => ⟨fun y11 => ⟨fun y12 => ⟨((((((y3 y5).2 y7).2 y9).1 y10).1 y11).1 y12).1, fun y13 => fun y14 => ⟨((((((((y3 y5).2 y7).2 y9).1 y10).1 y11).1 y12).2 y13) y14).1, cj_X2_copyFrom (fun y15 y16 y17 => ⟨y16.1, ⟨y16.2.1, fun y18 => fun y19 => hR _ ((y16.2.2 y18) y19) ((y17.2.2 y18) y19)⟩⟩) ((((((((y3 y5).2 y7).2 y9).1 y10).1 y11).1 y12).2 y13) y14).2 ((((((((y4 y5).2 y7).2 y9).1 y10).1 y11).1 y12).2 y13) y14).2⟩⟩, fun y20 => ⟨((((((y3 y5).2 y7).2 y9).1 y10).1 y11).2 y20).1, fun y21 => fun y22 => ⟨((((((((y3 y5).2 y7).2 y9).1 y10).1 y11).2 y20).2 y21) y22).1, cj_X2_copyFrom (fun y23 y24 y25 => ⟨y24.1, ⟨y24.2.1, fun y26 => fun y27 => hR _ ((y24.2.2 y26) y27) ((y25.2.2 y26) y27)⟩⟩) ((((((((y3 y5).2 y7).2 y9).1 y10).1 y11).2 y20).2 y21) y22).2 ((((((((y4 y5).2 y7).2 y9).1 y10).1 y11).2 y20).2 y21) y22).2⟩⟩⟩, fun y28 => ⟨(((((y3 y5).2 y7).2 y9).1 y10).2 y28).1, fun y29 => fun y30 => ⟨(((((((y3 y5).2 y7).2 y9).1 y10).2 y28).2 y29) y30).1, cj_X0_copyFrom (fun y31 y32 y33 => ⟨y32.1, ⟨y32.2.1, fun y34 => fun y35 => hR _ ((y32.2.2 y34) y35) ((y33.2.2 y34) y35)⟩⟩) (((((((y3 y5).2 y7).2 y9).1 y10).2 y28).2 y29) y30).2 (((((((y4 y5).2 y7).2 y9).1 y10).2 y28).2 y29) y30).2⟩⟩⟩, fun y36 => hR _ ((((y3 y5).2 y7).2 y9).2 y36) ((((y4 y5).2 y7).2 y9).2 y36)⟩⟩⟩) a b
set_option maxHeartbeats 4000000 in
theorem cj_X9_text {a1 : Int32} {a2 : Int32} {σ : zSto} {P Q R : Int32 → zSto → Prop} (hR : ∀ (z0 : Int32) (z1 : zSto), P z0 z1 → Q z0 z1 → R z0 z1) (a : w_X9_text a1 a2 σ P) (b : w_X9_text a1 a2 σ Q) : w_X9_text a1 a2 σ R := by
  unfold w_X9_text at a b ⊢
  exact fun y1 => fun y2 => cj_X9_placeFor (fun y3 y4 y5 y6 => fun y7 => fun y8 => fun y9 => fun y10 => fun y11 => fun y12 => ⟨fun y13 => cj_X4_readTape (fun y14 y15 y16 => fun y17 => fun y18 => fun y19 => fun y20 => ⟨fun y21 => cj_X8_put (fun y22 y23 y24 => hR _ _ y23 y24) (((((y15 y17) y18) y19) y20).1 y21) (((((y16 y17) y18) y19) y20).1 y21), fun y25 => hR _ _ (((((y15 y17) y18) y19) y20).2 y25) (((((y16 y17) y18) y19) y20).2 y25)⟩) (((((((y5 y7) y8) y9) y10) y11) y12).1 y13) (((((((y6 y7) y8) y9) y10) y11) y12).1 y13), fun y26 => hR _ _ (((((((y5 y7) y8) y9) y10) y11) y12).2 y26) (((((((y6 y7) y8) y9) y10) y11) y12).2 y26)⟩) ((a y1) y2) ((b y1) y2)
set_option maxHeartbeats 4000000 in
theorem cj_X10_is {a1 : Int32} {a2 : Int32} {σ : zSto} {P Q R : Int32 → zSto → Prop} (hR : ∀ (z0 : Int32) (z1 : zSto), P z0 z1 → Q z0 z1 → R z0 z1) (a : w_X10_is a1 a2 σ P) (b : w_X10_is a1 a2 σ Q) : w_X10_is a1 a2 σ R := by
  unfold w_X10_is at a b ⊢
  exact ⟨a.1, cj_X10_in (fun y1 y2 y3 y4 => fun y5 => ⟨(y3 y5).1, hR _ _ (y3 y5).2 (y4 y5).2⟩) a.2 b.2⟩
set_option maxHeartbeats 4000000 in
theorem cj_X10_store_3 {q_1 : Nat} {m_1 : Nat} {x_2 : Int32} {x_3 : Int32} {P Q R : zSto → Prop} (hR : ∀ (z0 : zSto), P z0 → Q z0 → R z0) : ∀ (n1 n2 : Nat) (x_4 : Int32) (σ : zSto), w_X10_store_3 q_1 m_1 x_2 x_3 P n1 x_4 σ → w_X10_store_3 q_1 m_1 x_2 x_3 Q n2 x_4 σ → w_X10_store_3 q_1 m_1 x_2 x_3 R n1 x_4 σ := by
  intro n1
  induction n1 with
  | zero => intro n2 x_4 σ a b; exact a.elim
  | succ n1 ih =>
    intro n2 x_4 σ a b
    cases n2 with
    | zero => exact b.elim
    | succ n2 =>
      unfold w_X10_store_3 at a b ⊢
      exact ⟨fun y1 => hR _ (a.1 y1) (b.1 y1), fun y2 => ⟨(a.2 y2).1, ⟨(a.2 y2).2.1, fun y3 => fun y4 => fun y5 => fun y6 => ih _ _ _ (((((a.2 y2).2.2 y3) y4) y5) y6) (((((b.2 y2).2.2 y3) y4) y5) y6)⟩⟩⟩
set_option maxHeartbeats 4000000 in
theorem cj_X10_store {b1 : Nat} {n1 : Nat} {a2 : Int32} {a3 : Int32} {σ : zSto} {P Q R : zSto → Prop} (hR : ∀ (z0 : zSto), P z0 → Q z0 → R z0) (a : w_X10_store b1 n1 a2 a3 σ P) (b : w_X10_store b1 n1 a2 a3 σ Q) : w_X10_store b1 n1 a2 a3 σ R := by
  unfold w_X10_store at a b ⊢
  exact Exists.elim a (fun y1 y3 => Exists.elim b (fun y2 y4 => ⟨y1, cj_X10_store_3 hR _ _ _ _ y3 y4⟩))
set_option maxHeartbeats 4000000 in
theorem cj_X10_text {a1 : Int32} {a2 : Int32} {σ : zSto} {P Q R : Int32 → zSto → Prop} (hR : ∀ (z0 : Int32) (z1 : zSto), P z0 z1 → Q z0 z1 → R z0 z1) (a : w_X10_text a1 a2 σ P) (b : w_X10_text a1 a2 σ Q) : w_X10_text a1 a2 σ R := by
  unfold w_X10_text at a b ⊢
  exact fun y1 => fun y2 => fun y3 => fun y4 => fun y5 => fun y6 => fun y7 => fun y8 => fun y9 => fun y10 => cj_X10_in (fun y11 y12 y13 y14 => fun y15 => ⟨fun y16 => hR _ _ ((y13 y15).1 y16) ((y14 y15).1 y16), fun y17 => ⟨fun y18 => cj_X10_is (fun y19 y20 y21 y22 => fun y23 => ⟨fun y24 => cj_X10_readText (fun y25 y26 y27 y28 => fun y29 => ⟨fun y30 => ⟨fun y31 => ⟨(((y27 y29).1 y30).1 y31).1, ⟨fun y32 => ⟨((((y27 y29).1 y30).1 y31).2.1 y32).1, fun y33 => fun y34 => ⟨fun y35 => ⟨fun y36 => cj_X10_store (fun y37 y38 y39 => hR _ _ y38 y39) ((((((((y27 y29).1 y30).1 y31).2.1 y32).2 y33) y34).1 y35).1 y36) ((((((((y28 y29).1 y30).1 y31).2.1 y32).2 y33) y34).1 y35).1 y36), fun y40 => cj_X10_store (fun y41 y42 y43 => hR _ _ y42 y43) ((((((((y27 y29).1 y30).1 y31).2.1 y32).2 y33) y34).1 y35).2 y40) ((((((((y28 y29).1 y30).1 y31).2.1 y32).2 y33) y34).1 y35).2 y40)⟩, fun y44 => cj_X10_store (fun y45 y46 y47 => hR _ _ y46 y47) (((((((y27 y29).1 y30).1 y31).2.1 y32).2 y33) y34).2 y44) (((((((y28 y29).1 y30).1 y31).2.1 y32).2 y33) y34).2 y44)⟩⟩, fun y48 => ⟨((((y27 y29).1 y30).1 y31).2.2 y48).1, fun y49 => fun y50 => ⟨fun y51 => ⟨fun y52 => cj_X10_store (fun y53 y54 y55 => hR _ _ y54 y55) ((((((((y27 y29).1 y30).1 y31).2.2 y48).2 y49) y50).1 y51).1 y52) ((((((((y28 y29).1 y30).1 y31).2.2 y48).2 y49) y50).1 y51).1 y52), fun y56 => cj_X10_store (fun y57 y58 y59 => hR _ _ y58 y59) ((((((((y27 y29).1 y30).1 y31).2.2 y48).2 y49) y50).1 y51).2 y56) ((((((((y28 y29).1 y30).1 y31).2.2 y48).2 y49) y50).1 y51).2 y56)⟩, fun y60 => cj_X10_store (fun y61 y62 y63 => hR _ _ y62 y63) (((((((y27 y29).1 y30).1 y31).2.2 y48).2 y49) y50).2 y60) (((((((y28 y29).1 y30).1 y31).2.2 y48).2 y49) y50).2 y60)⟩⟩⟩⟩, fun y64 => ⟨(((y27 y29).1 y30).2 y64).1, fun y65 => fun y66 => ⟨(((((y27 y29).1 y30).2 y64).2 y65) y66).1, ⟨fun y67 => ⟨((((((y27 y29).1 y30).2 y64).2 y65) y66).2.1 y67).1, fun y68 => fun y69 => ⟨fun y70 => ⟨fun y71 => cj_X10_store (fun y72 y73 y74 => hR _ _ y73 y74) ((((((((((y27 y29).1 y30).2 y64).2 y65) y66).2.1 y67).2 y68) y69).1 y70).1 y71) ((((((((((y28 y29).1 y30).2 y64).2 y65) y66).2.1 y67).2 y68) y69).1 y70).1 y71), fun y75 => cj_X10_store (fun y76 y77 y78 => hR _ _ y77 y78) ((((((((((y27 y29).1 y30).2 y64).2 y65) y66).2.1 y67).2 y68) y69).1 y70).2 y75) ((((((((((y28 y29).1 y30).2 y64).2 y65) y66).2.1 y67).2 y68) y69).1 y70).2 y75)⟩, fun y79 => cj_X10_store (fun y80 y81 y82 => hR _ _ y81 y82) (((((((((y27 y29).1 y30).2 y64).2 y65) y66).2.1 y67).2 y68) y69).2 y79) (((((((((y28 y29).1 y30).2 y64).2 y65) y66).2.1 y67).2 y68) y69).2 y79)⟩⟩, fun y83 => ⟨((((((y27 y29).1 y30).2 y64).2 y65) y66).2.2 y83).1, fun y84 => fun y85 => ⟨fun y86 => ⟨fun y87 => cj_X10_store (fun y88 y89 y90 => hR _ _ y89 y90) ((((((((((y27 y29).1 y30).2 y64).2 y65) y66).2.2 y83).2 y84) y85).1 y86).1 y87) ((((((((((y28 y29).1 y30).2 y64).2 y65) y66).2.2 y83).2 y84) y85).1 y86).1 y87), fun y91 => cj_X10_store (fun y92 y93 y94 => hR _ _ y93 y94) ((((((((((y27 y29).1 y30).2 y64).2 y65) y66).2.2 y83).2 y84) y85).1 y86).2 y91) ((((((((((y28 y29).1 y30).2 y64).2 y65) y66).2.2 y83).2 y84) y85).1 y86).2 y91)⟩, fun y95 => cj_X10_store (fun y96 y97 y98 => hR _ _ y97 y98) (((((((((y27 y29).1 y30).2 y64).2 y65) y66).2.2 y83).2 y84) y85).2 y95) (((((((((y28 y29).1 y30).2 y64).2 y65) y66).2.2 y83).2 y84) y85).2 y95)⟩⟩⟩⟩⟩⟩, fun y99 => hR _ _ ((y27 y29).2 y99) ((y28 y29).2 y99)⟩) ((y21 y23).1 y24) ((y22 y23).1 y24), fun y100 => hR _ _ ((y21 y23).2 y100) ((y22 y23).2 y100)⟩) (((y13 y15).2 y17).1 y18) (((y14 y15).2 y17).1 y18), fun y101 => ⟨(((y13 y15).2 y17).2 y101).1, ⟨fun y102 => cj_X10_readText (fun y103 y104 y105 y106 => fun y107 => ⟨fun y108 => ⟨fun y109 => ⟨(((y105 y107).1 y108).1 y109).1, ⟨fun y110 => ⟨((((y105 y107).1 y108).1 y109).2.1 y110).1, fun y111 => fun y112 => ⟨fun y113 => ⟨fun y114 => cj_X10_store (fun y115 y116 y117 => hR _ _ y116 y117) ((((((((y105 y107).1 y108).1 y109).2.1 y110).2 y111) y112).1 y113).1 y114) ((((((((y106 y107).1 y108).1 y109).2.1 y110).2 y111) y112).1 y113).1 y114), fun y118 => cj_X10_store (fun y119 y120 y121 => hR _ _ y120 y121) ((((((((y105 y107).1 y108).1 y109).2.1 y110).2 y111) y112).1 y113).2 y118) ((((((((y106 y107).1 y108).1 y109).2.1 y110).2 y111) y112).1 y113).2 y118)⟩, fun y122 => cj_X10_store (fun y123 y124 y125 => hR _ _ y124 y125) (((((((y105 y107).1 y108).1 y109).2.1 y110).2 y111) y112).2 y122) (((((((y106 y107).1 y108).1 y109).2.1 y110).2 y111) y112).2 y122)⟩⟩, fun y126 => ⟨((((y105 y107).1 y108).1 y109).2.2 y126).1, fun y127 => fun y128 => ⟨fun y129 => ⟨fun y130 => cj_X10_store (fun y131 y132 y133 => hR _ _ y132 y133) ((((((((y105 y107).1 y108).1 y109).2.2 y126).2 y127) y128).1 y129).1 y130) ((((((((y106 y107).1 y108).1 y109).2.2 y126).2 y127) y128).1 y129).1 y130), fun y134 => cj_X10_store (fun y135 y136 y137 => hR _ _ y136 y137) ((((((((y105 y107).1 y108).1 y109).2.2 y126).2 y127) y128).1 y129).2 y134) ((((((((y106 y107).1 y108).1 y109).2.2 y126).2 y127) y128).1 y129).2 y134)⟩, fun y138 => cj_X10_store (fun y139 y140 y141 => hR _ _ y140 y141) (((((((y105 y107).1 y108).1 y109).2.2 y126).2 y127) y128).2 y138) (((((((y106 y107).1 y108).1 y109).2.2 y126).2 y127) y128).2 y138)⟩⟩⟩⟩, fun y142 => ⟨(((y105 y107).1 y108).2 y142).1, fun y143 => fun y144 => ⟨(((((y105 y107).1 y108).2 y142).2 y143) y144).1, ⟨fun y145 => ⟨((((((y105 y107).1 y108).2 y142).2 y143) y144).2.1 y145).1, fun y146 => fun y147 => ⟨fun y148 => ⟨fun y149 => cj_X10_store (fun y150 y151 y152 => hR _ _ y151 y152) ((((((((((y105 y107).1 y108).2 y142).2 y143) y144).2.1 y145).2 y146) y147).1 y148).1 y149) ((((((((((y106 y107).1 y108).2 y142).2 y143) y144).2.1 y145).2 y146) y147).1 y148).1 y149), fun y153 => cj_X10_store (fun y154 y155 y156 => hR _ _ y155 y156) ((((((((((y105 y107).1 y108).2 y142).2 y143) y144).2.1 y145).2 y146) y147).1 y148).2 y153) ((((((((((y106 y107).1 y108).2 y142).2 y143) y144).2.1 y145).2 y146) y147).1 y148).2 y153)⟩, fun y157 => cj_X10_store (fun y158 y159 y160 => hR _ _ y159 y160) (((((((((y105 y107).1 y108).2 y142).2 y143) y144).2.1 y145).2 y146) y147).2 y157) (((((((((y106 y107).1 y108).2 y142).2 y143) y144).2.1 y145).2 y146) y147).2 y157)⟩⟩, fun y161 => ⟨((((((y105 y107).1 y108).2 y142).2 y143) y144).2.2 y161).1, fun y162 => fun y163 => ⟨fun y164 => ⟨fun y165 => cj_X10_store (fun y166 y167 y168 => hR _ _ y167 y168) ((((((((((y105 y107).1 y108).2 y142).2 y143) y144).2.2 y161).2 y162) y163).1 y164).1 y165) ((((((((((y106 y107).1 y108).2 y142).2 y143) y144).2.2 y161).2 y162) y163).1 y164).1 y165), fun y169 => cj_X10_store (fun y170 y171 y172 => hR _ _ y171 y172) ((((((((((y105 y107).1 y108).2 y142).2 y143) y144).2.2 y161).2 y162) y163).1 y164).2 y169) ((((((((((y106 y107).1 y108).2 y142).2 y143) y144).2.2 y161).2 y162) y163).1 y164).2 y169)⟩, fun y173 => cj_X10_store (fun y174 y175 y176 => hR _ _ y175 y176) (((((((((y105 y107).1 y108).2 y142).2 y143) y144).2.2 y161).2 y162) y163).2 y173) (((((((((y106 y107).1 y108).2 y142).2 y143) y144).2.2 y161).2 y162) y163).2 y173)⟩⟩⟩⟩⟩⟩, fun y177 => hR _ _ ((y105 y107).2 y177) ((y106 y107).2 y177)⟩) ((((y13 y15).2 y17).2 y101).2.1 y102) ((((y14 y15).2 y17).2 y101).2.1 y102), fun y178 => hR _ _ ((((y13 y15).2 y17).2 y101).2.2 y178) ((((y14 y15).2 y17).2 y101).2.2 y178)⟩⟩⟩⟩) ((((((((((a y1) y2) y3) y4) y5) y6) y7) y8) y9) y10) ((((((((((b y1) y2) y3) y4) y5) y6) y7) y8) y9) y10)
theorem LV_c {a b c d : Int} {s : Nat} (hs : s < 123) (h : LV a b c s) : LV a b d s := by
  unfold LV at h ⊢
  omega
theorem fnS_ag {o s : Nat} {fin fin' f : Nat → Int} (hg : ag fin fin') (hs : s < wdo o) (h0 : f 0 = fnS o fin 0) (h1 : f 1 = fnS o fin 1) (hv : lvo o f s) : fnS o fin s = fnS o fin' s := by
  by_cases c : o = 0
  · have y := hv.1 c
    subst c
    have e0 : f 0 = fin 0 := h0
    have e1 : f 1 = fin 1 := h1
    rw [e0, e1] at y
    exact hg s (LV_c hs y)
  · have y := hv.2 c
    have s3 := wdo_33 c hs
    unfold fnS at h0 ⊢
    rw [if_neg c] at h0
    rw [if_neg c, if_neg c]
    rw [h0] at y
    refine hg (300 + s) ?_
    unfold LV
    have e : fin (300 + 0) = fin 300 := rfl
    rw [e] at y
    rcases y with y | y
    · subst y
      omega
    · by_cases z : s = 0
      · subst z
        omega
      · have e2 : (300 + s - 301) / 2 = (s - 1) / 2 := by omega
        rw [e2]
        omega
theorem fnS_rg {o s : Nat} {fin f : Nat → Int} (hI : RgI (o : Int) fin) (z : fin 200 = 0) (hs : s < wdo o) (h0 : f 0 = fnS o fin 0) (h1 : f 1 = fnS o fin 1) (hv : lvo o f s) : rgo o s (fnS o fin s) := by
  refine ⟨fun c => ?_, fun c => ?_⟩
  · have y := hv.1 c
    subst c
    have e0 : f 0 = fin 0 := h0
    have e1 : f 1 = fin 1 := h1
    rw [e0, e1] at y
    have hs' : s < 123 := hs
    exact hI.2.1 z s (LV_c hs y) (Or.inl hs')
  · have y := hv.2 c
    have s3 := wdo_33 c hs
    unfold fnS at h0 ⊢
    rw [if_neg c] at h0 ⊢
    rw [h0] at y
    refine hI.2.1 z (300 + s) ?_ (Or.inr (by omega))
    unfold LV
    have e : fin (300 + 0) = fin 300 := rfl
    rw [e] at y
    rcases y with y | y
    · subst y
      omega
    · by_cases w : s = 0
      · subst w
        omega
      · have e2 : (300 + s - 301) / 2 = (s - 1) / 2 := by omega
        rw [e2]
        omega
set_option maxHeartbeats 8000000 in
theorem m_text {σ : zSto} (H : Lz σ) (a b : Int32) {P : Int32 → zSto → Prop} (hP : ∀ r σa, (∀ Q : Int32 → zSto → Prop, (∀ σ2, Lz σ2 → Q r σ2) → w_X10_text a b σa Q) → P r σa) : w_X9_text a b σ P := by
  obtain ⟨I, q1, q2, q3⟩ := id H
  have d5 := l600' I kd_1
  obtain ⟨L, hL⟩ : ∃ L : Nat, ti (σ.1 1 5) = (L : Int) := ⟨(ti (σ.1 1 5)).toNat, by omega⟩
  have hR : ti (σ.1 225 0) = (L : Int) := by rw [← q1.1]; exact hL
  have hB : ∀ j, j < L → ti (σ.1 2 j) = gB σ j := fun j hj => by
    have y := q1.2.1 j (by omega)
    rw [show 600 * 0 + j = j by omega] at y
    exact y
  refine cj_X9_text (P := fun r σa => zInv AT σ.1 3 σa ∧ ti (σa.1 1 5) = 0) (Q := fun r σa => ∃ st, Ini st ∧ TX (ti a) (ti b) (ti (σ.1 42 (ti a).toNat)) (FN (ti a) L (RD (ti a) (gB σ) L 601 0 st)) (ti r) (ti (σa.1 1 6)) (ti (σa.1 1 7)) (ti (σa.1 42 (ti a).toNat)) ∧ (∀ j, j ≠ (ti a).toNat → σa.1 42 j = σ.1 42 j) ∧ TK (ti a) (ti b) (ti (σ.1 42 (ti a).toNat)) (FN (ti a) L (RD (ti a) (gB σ) L 601 0 st)) (ti r) (cv σ 1) (cv σa 1)) (fun r σa pa qa => ?_) (s_X9_text (A := AT) (F := σ.1) at_c at_n a b (inv_any I) (fun r σa Ia ga => ⟨Ia, ga⟩)) (f_X9_text a b I hL hB (fun r σ2 st g1 g2 g3 g4 => ⟨st, g1, g2, g3, g4⟩))
  obtain ⟨Ia, ga⟩ := pa
  obtain ⟨st, hst, tx, f42, tk⟩ := qa
  have ua : ∀ q j, 43 ≤ q → (q < 171 ∨ 223 ≤ q) → σa.1 q j = σ.1 q j := fun q j x y => Ia.2.1 q j ⟨x, y⟩
  have hBa : gB σa = gB σ := by funext j; exact congrArg ti (ua 224 j (by omega) (by omega))
  refine hP r σa (fun Q hQ => ?_)
  refine cj_X10_text (P := fun r' σb => zInv AG σa.1 3 σb ∧ ti (σb.1 225 0) = 0) (Q := fun r' σb => TX (ti a) (ti b) (ti (σa.1 228 (ti a).toNat)) (FN (ti a) L (RD (ti a) (gB σ) L 601 0 sI)) (ti r') (ti (σb.1 226 0)) (ti (σb.1 227 0)) (ti (σb.1 228 (ti a).toNat)) ∧ FX (ti a).toNat σa σb ∧ TK (ti a) (ti b) (ti (σa.1 228 (ti a).toNat)) (FN (ti a) L (RD (ti a) (gB σ) L 601 0 sI)) (ti r') (rv σa 0) (rv σb 0) ∧ (∀ i o l s, 1 ≤ i → o < 3 → l < 2 → s < wdo o → rv σb i o l s = rv σa i o l s)) (fun r' σb pb qb => ?_) (s_X10_text (A := AG) (F := σa.1) ag_r ag_5 ag_m a b (inv_any Ia) (fun r' σb Ib gb => ⟨Ib, gb⟩)) (f_X10_text a b (n := L) (inv_none Ia) (by rw [ua 225 0 (by omega) (by omega)]; exact hR) (fun r' σ2 g1 g2 g3 g4 => ⟨by rw [hBa] at g1; exact g1, g2, by rw [hBa] at g3; exact g3, g4⟩))
  obtain ⟨Ib, gb⟩ := pb
  obtain ⟨tx', fx, tk', ri⟩ := qb
  have hg : ag (FN (ti a) L (RD (ti a) (gB σ) L 601 0 st)) (FN (ti a) L (RD (ti a) (gB σ) L 601 0 sI)) := ag_FN (ag_RD _ _ _ _ _ _ _ (ag_ini hst sI_ini))
  have hrg : (ti a = 0 ∨ ti a = 1 ∨ ti a = 2) → RgI (ti a) (FN (ti a) L (RD (ti a) (gB σ) L 601 0 st)) ∧ (ti a = 0 → FN (ti a) L (RD (ti a) (gB σ) L 601 0 st) 200 = 0 → 2 ≤ FN (ti a) L (RD (ti a) (gB σ) L 601 0 st) 0 ∧ ∀ r : Nat, (r : Int) < FN (ti a) L (RD (ti a) (gB σ) L 601 0 st) 1 → FN (ti a) L (RD (ti a) (gB σ) L 601 0 st) (87 + 6 * r + 1) < FN (ti a) L (RD (ti a) (gB σ) L 601 0 st) 0) := fun ho => RgI_FN (RgI_RD ho _ _ _ _ _ (RgI_ini hst))
  obtain ⟨fin, hfin⟩ : ∃ fin, fin = FN (ti a) L (RD (ti a) (gB σ) L 601 0 st) := ⟨_, rfl⟩
  obtain ⟨fin', hfin'⟩ : ∃ fin', fin' = FN (ti a) L (RD (ti a) (gB σ) L 601 0 sI) := ⟨_, rfl⟩
  rw [← hfin] at tx tk hg hrg
  rw [← hfin'] at tx' tk' hg
  have e200 : fin 200 = fin' 200 := hg 200 (by unfold LV; omega)
  have e201 : fin 201 = fin' 201 := hg 201 (by unfold LV; omega)
  have hcc : ∀ o, o < 3 → ti (σ.1 42 o) = ti (σa.1 228 o) := fun o ho => by
    have y := q1.2.2.2.2.1 o ho
    rw [show 3 * 0 + o = o by omega] at y
    rw [ua 228 o (by omega) (by omega)]
    exact y
  obtain ⟨t, ht⟩ : ∃ t, t = (ti a).toNat := ⟨_, rfl⟩
  rw [← ht] at tx tx' tk tk' f42 fx
  have rva : ∀ i o l s, rv σa i o l s = rv σ i o l s := fun i o l s => rv_q (fun k j x y => ua k j (by omega) (by omega))
  have ub : ∀ q j, q < 223 ∨ q = 249 → σb.1 q j = σa.1 q j := fun q j x => fx q j (by omega)
  have cvb : ∀ o l s, l < 2 → s < wdo o → cv σb 1 o l s = cv σa 1 o l s := fun o l s x y => cv_q x y (fun k j _ _ => ub k j (by omega))
  -- what both answer, and what of it is told
  have key : ti r = ti r' ∧ ti (σa.1 1 6) = ti (σb.1 226 0) ∧ ti (σa.1 1 7) = ti (σb.1 227 0) ∧ (t < 3 → ti (σa.1 42 t) = ti (σb.1 228 t)) ∧ (3 ≤ t → σb.1 228 t = σa.1 228 t) ∧ (∀ o l : Nat, o < 3 → ((tOk (ti a) (ti b) (ti (σ.1 42 t)) ∧ fin 200 = 0 ∧ (o : Int) = ti a ∧ (l : Int) = ti r) ↔ (tOk (ti a) (ti b) (ti (σa.1 228 t)) ∧ fin' 200 = 0 ∧ (o : Int) = ti a ∧ (l : Int) = ti r'))) ∧ (∀ o l : Nat, o < 3 → l < 2 → ¬ (tOk (ti a) (ti b) (ti (σ.1 42 t)) ∧ fin 200 = 0 ∧ (o : Int) = ti a ∧ (l : Int) = ti r) → (l : Int) < ti (σa.1 42 o) → (l : Int) < ti (σ.1 42 o)) := by
    by_cases c : 0 ≤ ti a ∧ ti a ≤ 2
    · have t3 : t < 3 := by omega
      have ec := hcc t t3
      rw [← ec] at tx' ⊢
      obtain ⟨k1, k2, k3, k4⟩ := TX_eq tx tx' e200 e201
      refine ⟨k1, k2, k3, fun _ => k4, fun z => by omega, fun o l _ => by rw [e200, k1], fun o l ho hl y z => ?_⟩
      by_cases co : o = t
      · subst co
        by_cases ok : tOk (ti a) (ti b) (ti (σ.1 42 o))
        · by_cases z0 : fin 200 = 0
          · obtain ⟨r1, r2⟩ := (tx.2 ok).2.2.2 z0
            have y' : ¬ (l : Int) = ti r := fun w => y ⟨ok, z0, by omega, w⟩
            by_cases cb : ti b = -1
            · rw [if_pos cb] at r1 r2
              omega
            · rw [if_neg cb] at r1 r2
              omega
          · have r2 := ((tx.2 ok).2.2.1 z0).2
            omega
        · have r2 := (tx.1 ok).2.2.2
          omega
      · rw [f42 o co] at z
        exact z
    · have n1 : ¬ tOk (ti a) (ti b) (ti (σ.1 42 t)) := fun z => c ⟨z.1, z.2.1⟩
      have n2 : ¬ tOk (ti a) (ti b) (ti (σa.1 228 t)) := fun z => c ⟨z.1, z.2.1⟩
      obtain ⟨x1, x2, x3, x4⟩ := tx.1 n1
      obtain ⟨y1, y2, y3, y4⟩ := tx'.1 n2
      refine ⟨by omega, by omega, by omega, fun z => ?_, fun _ => t_inj y4, fun o l _ => ⟨fun z => absurd z.1 n1, fun z => absurd z.1 n2⟩, fun o l ho hl y z => ?_⟩
      · have := hcc t z
        omega
      · by_cases co : o = t
        · subst co
          omega
        · rw [f42 o co] at z
          exact z
  obtain ⟨k1, k2, k3, k4, k5, k6, k7⟩ := key
  have er : r' = r := t_inj k1.symm
  rw [er]
  have cnt : ∀ o, o < 3 → ti (σb.1 42 o) = ti (σb.1 228 o) := fun o ho => by
    rw [ub 42 o (by omega)]
    by_cases co : o = t
    · subst co
      exact k4 ho
    · rw [f42 o co, fx 228 o (by omega)]
      exact hcc o ho
  refine hQ σb ⟨inv_none Ib, ⟨?_, fun j hj => ?_, ?_, ?_, fun o ho => ?_, fun o l s ho hl hc hs hv => ?_, fun l hl hc => ?_⟩, fun k hk z => ?_, fun k hk => ?_⟩
  · rw [ub 1 5 (by omega), ga, gb]
  · rw [ub 1 5 (by omega), ga] at hj
    omega
  · rw [ub 1 6 (by omega)]; exact k2
  · rw [ub 1 7 (by omega)]; exact k3
  · rw [show 3 * 0 + o = o by omega]
    exact cnt o ho
  · have hc1 : (l : Int) < ti (σb.1 42 o) := hc
    rw [ub 42 o (by omega)] at hc1
    have w2 := wdo_2 o
    have va := tk o l s ho hl hs
    have vb := tk' o l s ho hl hs
    rw [cvb o l s hl hs]
    by_cases cd : tOk (ti a) (ti b) (ti (σ.1 42 t)) ∧ fin 200 = 0 ∧ (o : Int) = ti a ∧ (l : Int) = ti r
    · rw [va.1 cd, vb.1 ((k6 o l ho).mp cd)]
      have f0 : cv σb 1 o l 0 = fnS o fin 0 := by rw [cvb o l 0 hl (by omega)]; exact (tk o l 0 ho hl (by omega)).1 cd
      have f1 : cv σb 1 o l 1 = fnS o fin 1 := by rw [cvb o l 1 hl (by omega)]; exact (tk o l 1 ho hl (by omega)).1 cd
      have hI := (hrg (by have := cd.2.2.1; omega)).1
      rw [← cd.2.2.1] at hI
      exact ⟨fnS_ag hg hs f0 f1 hv, fnS_rg hI cd.2.1 hs f0 f1 hv⟩
    · have v0 := (tk o l 0 ho hl (by omega)).2 cd
      have v1 := (tk o l 1 ho hl (by omega)).2 cd
      rw [va.2 cd, vb.2 (fun z => cd ((k6 o l ho).mpr z)), rva]
      refine q1.2.2.2.2.2.1 o l s ho hl (k7 o l ho hl cd hc1) hs ⟨fun z => ?_, fun z => ?_⟩
      · have y := hv.1 z
        rw [cvb o l 0 hl (by omega), cvb o l 1 hl (by omega), v0, v1] at y
        exact y
      · have y := hv.2 z
        rw [cvb o l 0 hl (by omega), v0] at y
        exact y
  · have hc1 : (l : Int) < ti (σb.1 42 0) := hc
    rw [ub 42 0 (by omega)] at hc1
    refine rlx_cg (g := cv σa 1 0 l) (fun s hs => cvb 0 l s hl hs) ?_
    by_cases cd : tOk (ti a) (ti b) (ti (σ.1 42 t)) ∧ fin 200 = 0 ∧ ((0 : Nat) : Int) = ti a ∧ (l : Int) = ti r
    · refine rlx_cg (g := fin) (fun s hs => (tk 0 l s (by omega) hl hs).1 cd) ?_
      have a0 : ti a = 0 := by have := cd.2.2.1; omega
      obtain ⟨i1, i2⟩ := hrg (Or.inl a0)
      have i3 := i2 a0 cd.2.1
      refine ⟨i3.1, fun r' _ hv => ⟨(i1.2.2 cd.2.1 r' hv).1, i3.2 r' hv⟩⟩
    · exact rlx_cg (g := cv σ 1 0 l) (fun s hs => (tk 0 l s (by omega) hl hs).2 cd) (q1.2.2.2.2.2.2 l hl (k7 0 l (by omega) hl cd hc1))
  · have z' : ¬ σ.1 170 k = 0 := by
      rw [ub 170 k (by omega), ua 170 k (by omega) (by omega)] at z
      exact z
    refine LX_im hk (q2 k hk z') (l600' I (kd_st hk)).2 (fun q j x y => by rw [ub q j (by omega), ua q j (by omega) (by omega)]) (fun q j x y w => ?_) (fun i o l s x1 x2 x3 x4 => by rw [ri i o l s x1 x2 x3 x4, rva])
    obtain ⟨w4, w5, w6, w7, w8⟩ := Wd_v
    rw [← ua q j (by omega) (by omega)]
    by_cases c8 : q = 228
    · subst c8
      by_cases cj : j = t
      · subst cj
        exact k5 (by omega)
      · exact fx 228 j (by omega)
    · refine fx q j ?_
      rcases (show q = 224 ∨ q = 225 ∨ q = 226 ∨ q = 227 by omega) with e | e | e | e <;> subst e <;> omega
  · rw [ub 170 k (by omega), ub 249 k (by omega), ua 170 k (by omega) (by omega), ua 249 k (by omega) (by omega)]
    exact q3 k hk
