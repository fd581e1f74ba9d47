set_option maxHeartbeats 4000000 in
theorem law_step {L : Nat} (hL : L ≤ 3072) (xs : Nat → Int32) : ∀ (n : Nat) (x_3 : Int32) (σ : zSto), Lz σ → (0 ≤ ti x_3 ∧ ti x_3 ≤ 4000) → (4000 - ti x_3 < n) → w_law_18 L xs n x_3 σ := by
  intro n
  induction n with
  | zero =>
    intro x_3 σ H h hm
    exfalso
    omega
  | succ n ih =>
    intro x_3 σ H h hm
    unfold w_law_18
    have eL : ti (Int32.ofNat L) = (L : Int) := nI_t (by omega)
    have l1 := lit_1
    have l2 := lit_2
    have l3 := lit_3
    have l4 := lit_4
    have l5 := lit_5
    have l6 := lit_6
    have tL := tsub (x := Int32.ofNat L) (y := (6 : Int32)) (by omega)
    refine ⟨fun _ => trivial, fun q => ?_⟩
    have c := nlt_t q
    have t1 := tadd (x := x_3) (y := (1 : Int32)) (by omega)
    have t2 := tadd (x := x_3) (y := (2 : Int32)) (by omega)
    have t3 := tadd (x := x_3) (y := (3 : Int32)) (by omega)
    have t4 := tadd (x := x_3) (y := (4 : Int32)) (by omega)
    have t5 := tadd (x := x_3) (y := (5 : Int32)) (by omega)
    have t6 := tadd (x := x_3) (y := (6 : Int32)) (by omega)
    have v0 : vp_in x_3 L := vin (by omega)
    have v1 : vp_in (x_3 + (1 : Int32)) L := vin (by omega)
    have v2 : vp_in (x_3 + (2 : Int32)) L := vin (by omega)
    have v3 : vp_in (x_3 + (3 : Int32)) L := vin (by omega)
    have v4 : vp_in (x_3 + (4 : Int32)) L := vin (by omega)
    have v5 : vp_in (x_3 + (5 : Int32)) L := vin (by omega)
    refine ⟨v0, ?_⟩
    refine ⟨?_, ?_⟩
    · intro uq1
      refine ⟨v1, ?_⟩
      refine ⟨v2, ?_⟩
      refine ⟨v3, ?_⟩
      refine ⟨v4, ?_⟩
      refine ⟨v5, ?_⟩
      refine m_feed H _ _ _ _ _ (fun r8 σ7 uz2 => ?_)
      refine ⟨v1, ?_⟩
      refine ⟨v2, ?_⟩
      refine ⟨v3, ?_⟩
      refine ⟨v4, ?_⟩
      refine ⟨v5, ?_⟩
      refine uz2 _ (fun σ14 uH3 => ?_)
      intro x16 ex16
      have ux16 := eq_t ex16
      exact ih x16 σ14 uH3 (by omega) (by omega)
    · refine ⟨?_, ?_⟩
      · intro uq4
        refine ⟨v1, ?_⟩
        refine m_end H _ (fun r19 σ18 uz5 => ?_)
        refine ⟨v1, ?_⟩
        refine uz5 _ (fun σ21 uH6 => ?_)
        intro x23 ex23
        have ux23 := eq_t ex23
        exact ih x23 σ21 uH6 (by omega) (by omega)
      · refine ⟨?_, ?_⟩
        · intro uq7
          refine ⟨v1, ?_⟩
          refine ⟨v2, ?_⟩
          refine m_text H _ _ (fun r27 σ26 uz8 => ?_)
          refine ⟨v1, ?_⟩
          refine ⟨v2, ?_⟩
          refine uz8 _ (fun σ30 uH9 => ?_)
          intro x32 ex32
          have ux32 := eq_t ex32
          exact ih x32 σ30 uH9 (by omega) (by omega)
        · refine ⟨?_, ?_⟩
          · intro uq10
            refine ⟨v1, ?_⟩
            refine m_fault H _ (fun r35 σ34 uz11 => ?_)
            refine ⟨v1, ?_⟩
            refine uz11 _ (fun σ37 uH12 => ?_)
            intro x39 ex39
            have ux39 := eq_t ex39
            exact ih x39 σ37 uH12 (by omega) (by omega)
          · refine ⟨?_, ?_⟩
            · intro uq13
              refine ⟨v1, ?_⟩
              refine ⟨v2, ?_⟩
              refine m_line H _ _ (fun r43 σ42 uz14 => ?_)
              refine ⟨v1, ?_⟩
              refine ⟨v2, ?_⟩
              refine uz14 _ (fun σ46 uH15 => ?_)
              intro x48 ex48
              have ux48 := eq_t ex48
              exact ih x48 σ46 uH15 (by omega) (by omega)
            · refine ⟨?_, ?_⟩
              · intro uq16
                refine ⟨v1, ?_⟩
                refine ⟨v2, ?_⟩
                refine ⟨v3, ?_⟩
                refine m_post H _ _ _ (fun r53 σ52 uz17 => ?_)
                refine ⟨v1, ?_⟩
                refine ⟨v2, ?_⟩
                refine ⟨v3, ?_⟩
                refine uz17 _ (fun σ57 uH18 => ?_)
                intro x59 ex59
                have ux59 := eq_t ex59
                exact ih x59 σ57 uH18 (by omega) (by omega)
              · refine ⟨?_, ?_⟩
                · intro uq19
                  refine ⟨v1, ?_⟩
                  refine ⟨v2, ?_⟩
                  refine ⟨v3, ?_⟩
                  refine m_rider H _ _ _ (fun r64 σ63 uz20 => ?_)
                  refine ⟨v1, ?_⟩
                  refine ⟨v2, ?_⟩
                  refine ⟨v3, ?_⟩
                  refine uz20 _ (fun σ68 uH21 => ?_)
                  intro x70 ex70
                  have ux70 := eq_t ex70
                  exact ih x70 σ68 uH21 (by omega) (by omega)
                · refine ⟨?_, ?_⟩
                  · intro uq22
                    refine ⟨v1, ?_⟩
                    refine ⟨v2, ?_⟩
                    refine ⟨v3, ?_⟩
                    refine ⟨v4, ?_⟩
                    refine ⟨v5, ?_⟩
                    refine s_X9_run (A := AC) (F := σ.1) ac_c _ _ _ _ _ (inv_any H.1) (fun r77 σ76 uI23 => ?_)
                    have uH24 := Lz_C H uI23
                    refine ⟨v1, ?_⟩
                    refine ⟨v2, ?_⟩
                    refine ⟨v3, ?_⟩
                    refine ⟨v4, ?_⟩
                    refine ⟨v5, ?_⟩
                    refine s_X10_run (A := AR2) (F := σ76.1) ar2_r _ _ _ _ _ (inv_any uH24.1) (fun r84 σ83 uI25 => ?_)
                    have uH26 := Lz_R uH24 uI25
                    intro x85 ex85
                    have ux85 := eq_t ex85
                    exact ih x85 σ83 uH26 (by omega) (by omega)
                  · refine ⟨?_, ?_⟩
                    · intro uq27
                      refine ⟨v1, ?_⟩
                      refine ⟨v2, ?_⟩
                      refine ⟨v3, ?_⟩
                      refine ⟨v4, ?_⟩
                      refine ⟨v5, ?_⟩
                      refine m_who H _ _ _ _ _ (fun r92 σ91 uz28 => ?_)
                      refine ⟨v1, ?_⟩
                      refine ⟨v2, ?_⟩
                      refine ⟨v3, ?_⟩
                      refine ⟨v4, ?_⟩
                      refine ⟨v5, ?_⟩
                      refine uz28 _ (fun σ98 uH29 => ?_)
                      intro x100 ex100
                      have ux100 := eq_t ex100
                      exact ih x100 σ98 uH29 (by omega) (by omega)
                    · refine ⟨?_, ?_⟩
                      · intro uq30
                        refine ⟨v1, ?_⟩
                        refine ⟨v2, ?_⟩
                        refine ⟨v3, ?_⟩
                        refine ⟨v4, ?_⟩
                        refine ⟨v5, ?_⟩
                        refine m_late H _ _ _ _ _ (fun r107 σ106 uz31 => ?_)
                        refine ⟨v1, ?_⟩
                        refine ⟨v2, ?_⟩
                        refine ⟨v3, ?_⟩
                        refine ⟨v4, ?_⟩
                        refine ⟨v5, ?_⟩
                        refine uz31 _ (fun σ113 uH32 => ?_)
                        intro x115 ex115
                        have ux115 := eq_t ex115
                        exact ih x115 σ113 uH32 (by omega) (by omega)
                      · refine ⟨?_, ?_⟩
                        · intro uq33
                          refine ⟨v1, ?_⟩
                          refine ⟨v2, ?_⟩
                          refine ⟨v3, ?_⟩
                          refine ⟨v4, ?_⟩
                          refine s_X9_purse (A := AC) (F := σ.1) ac_c _ _ _ _ (inv_any H.1) (fun r121 σ120 uI34 => ?_)
                          have uH35 := Lz_C H uI34
                          refine ⟨v1, ?_⟩
                          refine ⟨v2, ?_⟩
                          refine ⟨v3, ?_⟩
                          refine ⟨v4, ?_⟩
                          refine s_X10_purse (A := AR2) (F := σ120.1) ar2_r _ _ _ _ (inv_any uH35.1) (fun r127 σ126 uI36 => ?_)
                          have uH37 := Lz_R uH35 uI36
                          intro x128 ex128
                          have ux128 := eq_t ex128
                          exact ih x128 σ126 uH37 (by omega) (by omega)
                        · refine ⟨?_, ?_⟩
                          · intro uq38
                            refine ⟨v1, ?_⟩
                            refine ⟨v2, ?_⟩
                            refine ⟨v3, ?_⟩
                            refine s_X9_rest (A := AC) (F := σ.1) ac_c _ _ _ (inv_any H.1) (fun r133 σ132 uI39 => ?_)
                            have uH40 := Lz_C H uI39
                            refine ⟨v1, ?_⟩
                            refine ⟨v2, ?_⟩
                            refine ⟨v3, ?_⟩
                            refine s_X10_rest (A := AR2) (F := σ132.1) ar2_r _ _ _ (inv_any uH40.1) (fun r138 σ137 uI41 => ?_)
                            have uH42 := Lz_R uH40 uI41
                            intro x139 ex139
                            have ux139 := eq_t ex139
                            exact ih x139 σ137 uH42 (by omega) (by omega)
                          · refine ⟨?_, ?_⟩
                            · intro uq43
                              refine ⟨v1, ?_⟩
                              refine ⟨v2, ?_⟩
                              refine ⟨v3, ?_⟩
                              refine ⟨v4, ?_⟩
                              refine s_X9_gain (A := AC) (F := σ.1) ac_c _ _ _ _ (inv_any H.1) (fun r145 σ144 uI44 => ?_)
                              have uH45 := Lz_C H uI44
                              refine ⟨v1, ?_⟩
                              refine ⟨v2, ?_⟩
                              refine ⟨v3, ?_⟩
                              refine ⟨v4, ?_⟩
                              refine s_X10_gain (A := AR2) (F := σ144.1) ar2_r _ _ _ _ (inv_any uH45.1) (fun r151 σ150 uI46 => ?_)
                              have uH47 := Lz_R uH45 uI46
                              intro x152 ex152
                              have ux152 := eq_t ex152
                              exact ih x152 σ150 uH47 (by omega) (by omega)
                            · refine ⟨?_, ?_⟩
                              · intro uq48
                                refine ⟨v1, ?_⟩
                                refine ⟨v2, ?_⟩
                                refine ⟨v3, ?_⟩
                                refine ⟨?_, ?_⟩
                                · intro uq49
                                  refine s_X9_chance (A := AC) (F := σ.1) ac_c _ _ _ (inv_any H.1) (fun r157 σ156 uI50 => ?_)
                                  have uH51 := Lz_C H uI50
                                  refine ⟨v1, ?_⟩
                                  refine ⟨v2, ?_⟩
                                  refine ⟨v3, ?_⟩
                                  refine ⟨?_, ?_⟩
                                  · intro uq52
                                    refine s_X10_chance (A := AR2) (F := σ156.1) ar2_r _ _ _ (inv_any uH51.1) (fun r162 σ161 uI53 => ?_)
                                    have uH54 := Lz_R uH51 uI53
                                    intro x163 ex163
                                    have ux163 := eq_t ex163
                                    exact ih x163 σ161 uH54 (by omega) (by omega)
                                  · intro uq55
                                    exact absurd uq49 uq55
                                · intro uq56
                                  refine s_X9_chance (A := AC) (F := σ.1) ac_c _ _ _ (inv_any H.1) (fun r168 σ167 uI57 => ?_)
                                  have uH58 := Lz_C H uI57
                                  refine ⟨v1, ?_⟩
                                  refine ⟨v2, ?_⟩
                                  refine ⟨v3, ?_⟩
                                  refine ⟨?_, ?_⟩
                                  · intro uq59
                                    exact absurd uq59 uq56
                                  · intro uq60
                                    refine s_X10_chance (A := AR2) (F := σ167.1) ar2_r _ _ _ (inv_any uH58.1) (fun r176 σ175 uI61 => ?_)
                                    have uH62 := Lz_R uH58 uI61
                                    intro x177 ex177
                                    have ux177 := eq_t ex177
                                    exact ih x177 σ175 uH62 (by omega) (by omega)
                              · refine ⟨?_, ?_⟩
                                · intro uq63
                                  refine ⟨v1, ?_⟩
                                  refine ⟨v2, ?_⟩
                                  refine s_X9_slack (A := AC) (F := σ.1) ac_c _ _ (inv_any H.1) (fun r181 σ180 uI64 => ?_)
                                  have uH65 := Lz_C H uI64
                                  refine ⟨v1, ?_⟩
                                  refine ⟨v2, ?_⟩
                                  refine s_X10_slack (A := AR2) (F := σ180.1) ar2_r _ _ (inv_any uH65.1) (fun r185 σ184 uI66 => ?_)
                                  have uH67 := Lz_R uH65 uI66
                                  intro x186 ex186
                                  have ux186 := eq_t ex186
                                  exact ih x186 σ184 uH67 (by omega) (by omega)
                                · refine ⟨?_, ?_⟩
                                  · intro uq68
                                    refine ⟨v1, ?_⟩
                                    refine ⟨v2, ?_⟩
                                    refine ⟨v3, ?_⟩
                                    refine ⟨v4, ?_⟩
                                    refine ⟨v5, ?_⟩
                                    refine s_X9_shells (A := AC) (F := σ.1) ac_c _ _ _ _ _ (inv_any H.1) (fun r193 σ192 uI69 => ?_)
                                    have uH70 := Lz_C H uI69
                                    refine ⟨v1, ?_⟩
                                    refine ⟨v2, ?_⟩
                                    refine ⟨v3, ?_⟩
                                    refine ⟨v4, ?_⟩
                                    refine ⟨v5, ?_⟩
                                    refine s_X10_shells (A := AR2) (F := σ192.1) ar2_r _ _ _ _ _ (inv_any uH70.1) (fun r200 σ199 uI71 => ?_)
                                    have uH72 := Lz_R uH70 uI71
                                    intro x201 ex201
                                    have ux201 := eq_t ex201
                                    exact ih x201 σ199 uH72 (by omega) (by omega)
                                  · refine ⟨?_, ?_⟩
                                    · intro uq73
                                      refine ⟨v1, ?_⟩
                                      refine ⟨v2, ?_⟩
                                      refine ⟨v3, ?_⟩
                                      refine ⟨v4, ?_⟩
                                      refine ⟨v5, ?_⟩
                                      refine s_X9_meet (A := AC) (F := σ.1) ac_c _ _ _ _ _ (inv_any H.1) (fun r208 σ207 uI74 => ?_)
                                      have uH75 := Lz_C H uI74
                                      refine ⟨v1, ?_⟩
                                      refine ⟨v2, ?_⟩
                                      refine ⟨v3, ?_⟩
                                      refine ⟨v4, ?_⟩
                                      refine ⟨v5, ?_⟩
                                      refine s_X10_meet (A := AR2) (F := σ207.1) ar2_r _ _ _ _ _ (inv_any uH75.1) (fun r215 σ214 uI76 => ?_)
                                      have uH77 := Lz_R uH75 uI76
                                      intro x216 ex216
                                      have ux216 := eq_t ex216
                                      exact ih x216 σ214 uH77 (by omega) (by omega)
                                    · refine ⟨?_, ?_⟩
                                      · intro uq78
                                        refine ⟨v1, ?_⟩
                                        refine ⟨v2, ?_⟩
                                        refine ⟨v3, ?_⟩
                                        refine m_pull H _ _ _ (fun r221 σ220 uz79 => ?_)
                                        refine ⟨v1, ?_⟩
                                        refine ⟨v2, ?_⟩
                                        refine ⟨v3, ?_⟩
                                        refine uz79 _ (fun σ225 uH80 => ?_)
                                        intro x227 ex227
                                        have ux227 := eq_t ex227
                                        exact ih x227 σ225 uH80 (by omega) (by omega)
                                      · refine ⟨?_, ?_⟩
                                        · intro uq81
                                          refine ⟨v1, ?_⟩
                                          refine ⟨v2, ?_⟩
                                          refine ⟨v3, ?_⟩
                                          refine ⟨v4, ?_⟩
                                          refine s_X9_played (A := AC) (F := σ.1) ac_c _ _ _ _ (inv_any H.1) (fun r233 σ232 uI82 => ?_)
                                          have uH83 := Lz_C H uI82
                                          refine ⟨v1, ?_⟩
                                          refine ⟨v2, ?_⟩
                                          refine ⟨v3, ?_⟩
                                          refine ⟨v4, ?_⟩
                                          refine s_X10_played (A := AR2) (F := σ232.1) ar2_r ar2_h _ _ _ _ (inv_any uH83.1) (fun r239 σ238 uI84 => ?_)
                                          have uH85 := Lz_R uH83 uI84
                                          intro x240 ex240
                                          have ux240 := eq_t ex240
                                          exact ih x240 σ238 uH85 (by omega) (by omega)
                                        · refine ⟨?_, ?_⟩
                                          · intro uq86
                                            refine ⟨v1, ?_⟩
                                            refine ⟨v2, ?_⟩
                                            refine ⟨v3, ?_⟩
                                            refine s_X9_print (A := AC) (F := σ.1) ac_c _ _ _ (inv_any H.1) (fun r245 σ244 uI87 => ?_)
                                            have uH88 := Lz_C H uI87
                                            refine ⟨v1, ?_⟩
                                            refine ⟨v2, ?_⟩
                                            refine ⟨v3, ?_⟩
                                            refine s_X10_print (A := AR2) (F := σ244.1) ar2_r _ _ _ (inv_any uH88.1) (fun r250 σ249 uI89 => ?_)
                                            have uH90 := Lz_R uH88 uI89
                                            intro x251 ex251
                                            have ux251 := eq_t ex251
                                            exact ih x251 σ249 uH90 (by omega) (by omega)
                                          · refine ⟨?_, ?_⟩
                                            · intro uq91
                                              refine ⟨v1, ?_⟩
                                              refine ⟨v2, ?_⟩
                                              refine ⟨v3, ?_⟩
                                              refine ⟨v4, ?_⟩
                                              refine ⟨?_, ?_⟩
                                              · intro uq92
                                                refine s_X9_most (A := AC) (F := σ.1) ac_c _ _ _ _ (inv_any H.1) (fun r257 σ256 uI93 => ?_)
                                                have uH94 := Lz_C H uI93
                                                refine ⟨v1, ?_⟩
                                                refine ⟨v2, ?_⟩
                                                refine ⟨v3, ?_⟩
                                                refine ⟨v4, ?_⟩
                                                refine ⟨?_, ?_⟩
                                                · intro uq95
                                                  refine s_X10_most (A := AR2) (F := σ256.1) ar2_r _ _ _ _ (inv_any uH94.1) (fun r263 σ262 uI96 => ?_)
                                                  have uH97 := Lz_R uH94 uI96
                                                  intro x264 ex264
                                                  have ux264 := eq_t ex264
                                                  exact ih x264 σ262 uH97 (by omega) (by omega)
                                                · intro uq98
                                                  exact absurd uq92 uq98
                                              · intro uq99
                                                refine s_X9_most (A := AC) (F := σ.1) ac_c _ _ _ _ (inv_any H.1) (fun r269 σ268 uI100 => ?_)
                                                have uH101 := Lz_C H uI100
                                                refine ⟨v1, ?_⟩
                                                refine ⟨v2, ?_⟩
                                                refine ⟨v3, ?_⟩
                                                refine ⟨v4, ?_⟩
                                                refine ⟨?_, ?_⟩
                                                · intro uq102
                                                  exact absurd uq102 uq99
                                                · intro uq103
                                                  refine s_X10_most (A := AR2) (F := σ268.1) ar2_r _ _ _ _ (inv_any uH101.1) (fun r278 σ277 uI104 => ?_)
                                                  have uH105 := Lz_R uH101 uI104
                                                  intro x279 ex279
                                                  have ux279 := eq_t ex279
                                                  exact ih x279 σ277 uH105 (by omega) (by omega)
                                            · refine ⟨?_, ?_⟩
                                              · intro uq106
                                                refine ⟨v1, ?_⟩
                                                refine ⟨v2, ?_⟩
                                                refine ⟨v3, ?_⟩
                                                refine ⟨v4, ?_⟩
                                                refine ⟨?_, ?_⟩
                                                · intro uq107
                                                  refine s_X9_weeks (A := AC) (F := σ.1) ac_c _ _ _ _ (inv_any H.1) (fun r285 σ284 uI108 => ?_)
                                                  have uH109 := Lz_C H uI108
                                                  refine ⟨v1, ?_⟩
                                                  refine ⟨v2, ?_⟩
                                                  refine ⟨v3, ?_⟩
                                                  refine ⟨v4, ?_⟩
                                                  refine ⟨?_, ?_⟩
                                                  · intro uq110
                                                    refine s_X10_weeks (A := AR2) (F := σ284.1) ar2_r _ _ _ _ (inv_any uH109.1) (fun r291 σ290 uI111 => ?_)
                                                    have uH112 := Lz_R uH109 uI111
                                                    intro x292 ex292
                                                    have ux292 := eq_t ex292
                                                    exact ih x292 σ290 uH112 (by omega) (by omega)
                                                  · intro uq113
                                                    exact absurd uq107 uq113
                                                · intro uq114
                                                  refine s_X9_weeks (A := AC) (F := σ.1) ac_c _ _ _ _ (inv_any H.1) (fun r297 σ296 uI115 => ?_)
                                                  have uH116 := Lz_C H uI115
                                                  refine ⟨v1, ?_⟩
                                                  refine ⟨v2, ?_⟩
                                                  refine ⟨v3, ?_⟩
                                                  refine ⟨v4, ?_⟩
                                                  refine ⟨?_, ?_⟩
                                                  · intro uq117
                                                    exact absurd uq117 uq114
                                                  · intro uq118
                                                    refine s_X10_weeks (A := AR2) (F := σ296.1) ar2_r _ _ _ _ (inv_any uH116.1) (fun r306 σ305 uI119 => ?_)
                                                    have uH120 := Lz_R uH116 uI119
                                                    intro x307 ex307
                                                    have ux307 := eq_t ex307
                                                    exact ih x307 σ305 uH120 (by omega) (by omega)
                                              · refine ⟨?_, ?_⟩
                                                · intro uq121
                                                  refine ⟨v1, ?_⟩
                                                  refine ⟨v2, ?_⟩
                                                  refine ⟨v3, ?_⟩
                                                  refine s_X9_calm (A := AC) (F := σ.1) ac_c _ _ _ (inv_any H.1) (fun r312 σ311 uI122 => ?_)
                                                  have uH123 := Lz_C H uI122
                                                  refine ⟨v1, ?_⟩
                                                  refine ⟨v2, ?_⟩
                                                  refine ⟨v3, ?_⟩
                                                  refine s_X10_calm (A := AR2) (F := σ311.1) ar2_r _ _ _ (inv_any uH123.1) (fun r317 σ316 uI124 => ?_)
                                                  have uH125 := Lz_R uH123 uI124
                                                  intro x318 ex318
                                                  have ux318 := eq_t ex318
                                                  exact ih x318 σ316 uH125 (by omega) (by omega)
                                                · refine ⟨?_, ?_⟩
                                                  · intro uq126
                                                    refine ⟨v1, ?_⟩
                                                    refine ⟨v2, ?_⟩
                                                    refine ⟨v3, ?_⟩
                                                    refine ⟨v4, ?_⟩
                                                    refine ⟨v5, ?_⟩
                                                    refine ⟨?_, ?_⟩
                                                    · intro uq127
                                                      refine s_X9_rich (A := AC) (F := σ.1) ac_c _ _ _ _ _ (inv_any H.1) (fun r325 σ324 uI128 => ?_)
                                                      have uH129 := Lz_C H uI128
                                                      refine ⟨v1, ?_⟩
                                                      refine ⟨v2, ?_⟩
                                                      refine ⟨v3, ?_⟩
                                                      refine ⟨v4, ?_⟩
                                                      refine ⟨v5, ?_⟩
                                                      refine ⟨?_, ?_⟩
                                                      · intro uq130
                                                        refine s_X10_rich (A := AR2) (F := σ324.1) ar2_r _ _ _ _ _ (inv_any uH129.1) (fun r332 σ331 uI131 => ?_)
                                                        have uH132 := Lz_R uH129 uI131
                                                        intro x333 ex333
                                                        have ux333 := eq_t ex333
                                                        exact ih x333 σ331 uH132 (by omega) (by omega)
                                                      · intro uq133
                                                        exact absurd uq127 uq133
                                                    · intro uq134
                                                      refine s_X9_rich (A := AC) (F := σ.1) ac_c _ _ _ _ _ (inv_any H.1) (fun r338 σ337 uI135 => ?_)
                                                      have uH136 := Lz_C H uI135
                                                      refine ⟨v1, ?_⟩
                                                      refine ⟨v2, ?_⟩
                                                      refine ⟨v3, ?_⟩
                                                      refine ⟨v4, ?_⟩
                                                      refine ⟨v5, ?_⟩
                                                      refine ⟨?_, ?_⟩
                                                      · intro uq137
                                                        exact absurd uq137 uq134
                                                      · intro uq138
                                                        refine s_X10_rich (A := AR2) (F := σ337.1) ar2_r _ _ _ _ _ (inv_any uH136.1) (fun r348 σ347 uI139 => ?_)
                                                        have uH140 := Lz_R uH136 uI139
                                                        intro x349 ex349
                                                        have ux349 := eq_t ex349
                                                        exact ih x349 σ347 uH140 (by omega) (by omega)
                                                  · refine ⟨?_, ?_⟩
                                                    · intro uq141
                                                      refine ⟨v1, ?_⟩
                                                      refine ⟨v2, ?_⟩
                                                      refine ⟨v3, ?_⟩
                                                      refine ⟨v4, ?_⟩
                                                      refine ⟨v5, ?_⟩
                                                      refine s_X9_lots (A := AC) (F := σ.1) ac_c _ _ _ _ _ (inv_any H.1) (fun r356 σ355 uI142 => ?_)
                                                      have uH143 := Lz_C H uI142
                                                      refine ⟨v1, ?_⟩
                                                      refine ⟨v2, ?_⟩
                                                      refine ⟨v3, ?_⟩
                                                      refine ⟨v4, ?_⟩
                                                      refine ⟨v5, ?_⟩
                                                      refine s_X10_lots (A := AR2) (F := σ355.1) ar2_r _ _ _ _ _ (inv_any uH143.1) (fun r363 σ362 uI144 => ?_)
                                                      have uH145 := Lz_R uH143 uI144
                                                      intro x364 ex364
                                                      have ux364 := eq_t ex364
                                                      exact ih x364 σ362 uH145 (by omega) (by omega)
                                                    · refine ⟨?_, ?_⟩
                                                      · intro uq146
                                                        refine ⟨v1, ?_⟩
                                                        refine ⟨v2, ?_⟩
                                                        refine ⟨v3, ?_⟩
                                                        refine m_seen H _ _ _ (fun r369 σ368 uz147 => ?_)
                                                        refine ⟨v1, ?_⟩
                                                        refine ⟨v2, ?_⟩
                                                        refine ⟨v3, ?_⟩
                                                        refine uz147 _ (fun σ373 uH148 => ?_)
                                                        intro x375 ex375
                                                        have ux375 := eq_t ex375
                                                        exact ih x375 σ373 uH148 (by omega) (by omega)
                                                      · refine ⟨?_, ?_⟩
                                                        · intro uq149
                                                          refine ⟨v1, ?_⟩
                                                          refine ⟨v2, ?_⟩
                                                          refine ⟨v3, ?_⟩
                                                          refine s_X9_hold (A := AC) (F := σ.1) ac_c _ _ _ (inv_any H.1) (fun r380 σ379 uI150 => ?_)
                                                          have uH151 := Lz_C H uI150
                                                          refine ⟨v1, ?_⟩
                                                          refine ⟨v2, ?_⟩
                                                          refine ⟨v3, ?_⟩
                                                          refine s_X10_hold (A := AR2) (F := σ379.1) ar2_r ar2_h _ _ _ (inv_any uH151.1) (fun r385 σ384 uI152 => ?_)
                                                          have uH153 := Lz_R uH151 uI152
                                                          intro x386 ex386
                                                          have ux386 := eq_t ex386
                                                          exact ih x386 σ384 uH153 (by omega) (by omega)
                                                        · refine ⟨?_, ?_⟩
                                                          · intro uq154
                                                            refine ⟨v1, ?_⟩
                                                            refine ⟨v2, ?_⟩
                                                            refine s_X9_risk (A := AC) (F := σ.1) ac_c _ _ (inv_any H.1) (fun r390 σ389 uI155 => ?_)
                                                            have uH156 := Lz_C H uI155
                                                            refine ⟨v1, ?_⟩
                                                            refine ⟨v2, ?_⟩
                                                            refine s_X10_risk (A := AR2) (F := σ389.1) ar2_r _ _ (inv_any uH156.1) (fun r394 σ393 uI157 => ?_)
                                                            have uH158 := Lz_R uH156 uI157
                                                            intro x395 ex395
                                                            have ux395 := eq_t ex395
                                                            exact ih x395 σ393 uH158 (by omega) (by omega)
                                                          · refine ⟨?_, ?_⟩
                                                            · intro uq159
                                                              refine ⟨v1, ?_⟩
                                                              refine ⟨v2, ?_⟩
                                                              refine ⟨v3, ?_⟩
                                                              refine ⟨v4, ?_⟩
                                                              refine ⟨?_, ?_⟩
                                                              · intro uq160
                                                                refine s_X9_vote (A := AC) (F := σ.1) ac_c _ _ _ _ (inv_any H.1) (fun r401 σ400 uI161 => ?_)
                                                                have uH162 := Lz_C H uI161
                                                                refine ⟨v1, ?_⟩
                                                                refine ⟨v2, ?_⟩
                                                                refine ⟨v3, ?_⟩
                                                                refine ⟨v4, ?_⟩
                                                                refine ⟨?_, ?_⟩
                                                                · intro uq163
                                                                  refine s_X10_vote (A := AR2) (F := σ400.1) ar2_r _ _ _ _ (inv_any uH162.1) (fun r407 σ406 uI164 => ?_)
                                                                  have uH165 := Lz_R uH162 uI164
                                                                  intro x408 ex408
                                                                  have ux408 := eq_t ex408
                                                                  exact ih x408 σ406 uH165 (by omega) (by omega)
                                                                · intro uq166
                                                                  exact absurd uq160 uq166
                                                              · intro uq167
                                                                refine s_X9_vote (A := AC) (F := σ.1) ac_c _ _ _ _ (inv_any H.1) (fun r413 σ412 uI168 => ?_)
                                                                have uH169 := Lz_C H uI168
                                                                refine ⟨v1, ?_⟩
                                                                refine ⟨v2, ?_⟩
                                                                refine ⟨v3, ?_⟩
                                                                refine ⟨v4, ?_⟩
                                                                refine ⟨?_, ?_⟩
                                                                · intro uq170
                                                                  exact absurd uq170 uq167
                                                                · intro uq171
                                                                  refine s_X10_vote (A := AR2) (F := σ412.1) ar2_r _ _ _ _ (inv_any uH169.1) (fun r422 σ421 uI172 => ?_)
                                                                  have uH173 := Lz_R uH169 uI172
                                                                  intro x423 ex423
                                                                  have ux423 := eq_t ex423
                                                                  exact ih x423 σ421 uH173 (by omega) (by omega)
                                                            · refine ⟨?_, ?_⟩
                                                              · intro uq174
                                                                refine ⟨v1, ?_⟩
                                                                refine ⟨v2, ?_⟩
                                                                refine ⟨v3, ?_⟩
                                                                refine ⟨v4, ?_⟩
                                                                refine ⟨v5, ?_⟩
                                                                refine m_left H _ _ _ _ _ (fun r430 σ429 uz175 => ?_)
                                                                refine ⟨v1, ?_⟩
                                                                refine ⟨v2, ?_⟩
                                                                refine ⟨v3, ?_⟩
                                                                refine ⟨v4, ?_⟩
                                                                refine ⟨v5, ?_⟩
                                                                refine uz175 _ (fun σ436 uH176 => ?_)
                                                                refine ⟨?_, ?_⟩
                                                                · intro uq177
                                                                  intro x438 ex438
                                                                  have ux438 := eq_t ex438
                                                                  exact ih x438 σ436 uH176 (by omega) (by omega)
                                                                · intro uq178
                                                                  exact absurd rfl uq178
                                                              · refine ⟨?_, ?_⟩
                                                                · intro uq179
                                                                  refine ⟨v1, ?_⟩
                                                                  refine ⟨v2, ?_⟩
                                                                  refine ⟨v3, ?_⟩
                                                                  refine ⟨v4, ?_⟩
                                                                  refine s_X9_bid (A := AC) (F := σ.1) ac_c _ _ _ _ (inv_any H.1) (fun r444 σ443 uI180 => ?_)
                                                                  have uH181 := Lz_C H uI180
                                                                  refine ⟨v1, ?_⟩
                                                                  refine ⟨v2, ?_⟩
                                                                  refine ⟨v3, ?_⟩
                                                                  refine ⟨v4, ?_⟩
                                                                  refine r_X10_bid _ _ _ _ (inv_any uH181.1) (fun r450 σ449 uI182 => ?_)
                                                                  have uH183 := Lz_R uH181 uI182
                                                                  intro x451 ex451
                                                                  have ux451 := eq_t ex451
                                                                  exact ih x451 σ449 uH183 (by omega) (by omega)
                                                                · refine ⟨?_, ?_⟩
                                                                  · intro uq184
                                                                    refine ⟨v1, ?_⟩
                                                                    refine m_count H _ (fun r454 σ453 uz185 => ?_)
                                                                    refine ⟨v1, ?_⟩
                                                                    refine uz185 _ (fun σ456 uH186 => ?_)
                                                                    intro x458 ex458
                                                                    have ux458 := eq_t ex458
                                                                    exact ih x458 σ456 uH186 (by omega) (by omega)
                                                                  · refine ⟨?_, ?_⟩
                                                                    · intro uq187
                                                                      refine ⟨v1, ?_⟩
                                                                      refine m_image H _ (fun r461 σ460 uz188 => ?_)
                                                                      intro uq189
                                                                      refine ⟨v1, ?_⟩
                                                                      refine uz188 _ (fun σ463 uH190 => ?_)
                                                                      intro uq191
                                                                      intro x465 ex465
                                                                      have ux465 := eq_t ex465
                                                                      exact ih x465 σ463 uH190 (by omega) (by omega)
                                                                    · refine ⟨?_, ?_⟩
                                                                      · intro uq192
                                                                        refine ⟨v1, ?_⟩
                                                                        refine m_again H _ (fun r468 σ467 uz193 => ?_)
                                                                        intro uq194
                                                                        refine ⟨v1, ?_⟩
                                                                        refine uz193 _ (fun σ470 uH195 => ?_)
                                                                        intro uq196
                                                                        intro x472 ex472
                                                                        have ux472 := eq_t ex472
                                                                        exact ih x472 σ470 uH195 (by omega) (by omega)
                                                                      · intro uq197
                                                                        intro x473 ex473
                                                                        have ux473 := eq_t ex473
                                                                        exact ih x473 σ H (by omega) (by omega)
theorem law_all {L : Nat} (hL : L ≤ 3072) (xs : Nat → Int32) : ∃ n, w_law_18 L xs n (0 : Int32) σ0 :=
  ⟨5000, law_step hL xs 5000 (0 : Int32) σ0 Lz_0 (by rw [lit_0]; omega) (by rw [lit_0]; omega)⟩
