set_option maxHeartbeats 4000000 in
theorem law_step {L : Nat} (hL : L ≤ 3072) (xs : Nat → Int32) : ∀ (n : Nat) (x_3 : Int32) (σ : zSto), Lz σ → (0 ≤ ti x_3 ∧ ti x_3 ≤ 4000) → (4000 - ti x_3 < n) → w_law_18 L xs n x_3 σ := by
  intro n
  induction n with
  | zero =>
    intro x_3 σ H h hm
    exfalso
    omega
  | succ n ih =>
    intro x_3 σ H h hm
    unfold w_law_18
    have eL : ti (Int32.ofNat L) = (L : Int) := nI_t (by omega)
    have l1 := lit_1
    have l2 := lit_2
    have l3 := lit_3
    have l4 := lit_4
    have l5 := lit_5
    have l6 := lit_6
    have tL := tsub (x := Int32.ofNat L) (y := (6 : Int32)) (by omega)
    refine ⟨fun _ => trivial, fun q => ?_⟩
    have c := nlt_t q
    have t1 := tadd (x := x_3) (y := (1 : Int32)) (by omega)
    have t2 := tadd (x := x_3) (y := (2 : Int32)) (by omega)
    have t3 := tadd (x := x_3) (y := (3 : Int32)) (by omega)
    have t4 := tadd (x := x_3) (y := (4 : Int32)) (by omega)
    have t5 := tadd (x := x_3) (y := (5 : Int32)) (by omega)
    have t6 := tadd (x := x_3) (y := (6 : Int32)) (by omega)
    have v0 : vp_in x_3 L := vin (by omega)
    have v1 : vp_in (x_3 + (1 : Int32)) L := vin (by omega)
    have v2 : vp_in (x_3 + (2 : Int32)) L := vin (by omega)
    have v3 : vp_in (x_3 + (3 : Int32)) L := vin (by omega)
    have v4 : vp_in (x_3 + (4 : Int32)) L := vin (by omega)
    have v5 : vp_in (x_3 + (5 : Int32)) L := vin (by omega)
    refine ⟨v0, ?_⟩
    refine ⟨?_, ?_⟩
    · intro uq1
      refine ⟨v1, ?_⟩
      refine ⟨v2, ?_⟩
      refine ⟨v3, ?_⟩
      refine ⟨v4, ?_⟩
      refine ⟨v5, ?_⟩
      refine m_feed H _ _ _ _ _ (fun r8 σ7 uz2 => ?_)
      refine ⟨v1, ?_⟩
      refine ⟨v2, ?_⟩
      refine ⟨v3, ?_⟩
      refine ⟨v4, ?_⟩
      refine ⟨v5, ?_⟩
      refine uz2 _ (fun σ14 uH3 => ?_)
      intro x16 ex16
      have ux16 := eq_t ex16
      exact ih x16 σ14 uH3 (by omega) (by omega)
    · refine ⟨?_, ?_⟩
      · intro uq4
        refine ⟨v1, ?_⟩
        refine m_end H _ (fun r19 σ18 uz5 => ?_)
        refine ⟨v1, ?_⟩
        refine uz5 _ (fun σ21 uH6 => ?_)
        intro x23 ex23
        have ux23 := eq_t ex23
        exact ih x23 σ21 uH6 (by omega) (by omega)
      · refine ⟨?_, ?_⟩
        · intro uq7
          refine ⟨v1, ?_⟩
          refine ⟨v2, ?_⟩
          refine m_text H _ _ (fun r27 σ26 uz8 => ?_)
          refine ⟨v1, ?_⟩
          refine ⟨v2, ?_⟩
          refine uz8 _ (fun σ30 uH9 => ?_)
          intro x32 ex32
          have ux32 := eq_t ex32
          exact ih x32 σ30 uH9 (by omega) (by omega)
        · refine ⟨?_, ?_⟩
          · intro uq10
            refine ⟨v1, ?_⟩
            refine m_fault H _ (fun r35 σ34 uz11 => ?_)
            refine ⟨v1, ?_⟩
            refine uz11 _ (fun σ37 uH12 => ?_)
            intro x39 ex39
            have ux39 := eq_t ex39
            exact ih x39 σ37 uH12 (by omega) (by omega)
          · refine ⟨?_, ?_⟩
            · intro uq13
              refine ⟨v1, ?_⟩
              refine ⟨v2, ?_⟩
              refine m_line H _ _ (fun r43 σ42 uz14 => ?_)
              refine ⟨v1, ?_⟩
              refine ⟨v2, ?_⟩
              refine uz14 _ (fun σ46 uH15 => ?_)
              intro x48 ex48
              have ux48 := eq_t ex48
              exact ih x48 σ46 uH15 (by omega) (by omega)
            · refine ⟨?_, ?_⟩
              · intro uq16
                refine ⟨v1, ?_⟩
                refine ⟨v2, ?_⟩
                refine ⟨v3, ?_⟩
                refine m_post H _ _ _ (fun r53 σ52 uz17 => ?_)
                refine ⟨v1, ?_⟩
                refine ⟨v2, ?_⟩
                refine ⟨v3, ?_⟩
                refine uz17 _ (fun σ57 uH18 => ?_)
                intro x59 ex59
                have ux59 := eq_t ex59
                exact ih x59 σ57 uH18 (by omega) (by omega)
              · refine ⟨?_, ?_⟩
                · intro uq19
                  refine ⟨v1, ?_⟩
                  refine ⟨v2, ?_⟩
                  refine ⟨v3, ?_⟩
                  refine m_rider H _ _ _ (fun r64 σ63 uz20 => ?_)
                  refine ⟨v1, ?_⟩
                  refine ⟨v2, ?_⟩
                  refine ⟨v3, ?_⟩
                  refine uz20 _ (fun σ68 uH21 => ?_)
                  intro x70 ex70
                  have ux70 := eq_t ex70
                  exact ih x70 σ68 uH21 (by omega) (by omega)
                · refine ⟨?_, ?_⟩
                  · intro uq22
                    refine ⟨v1, ?_⟩
                    refine ⟨v2, ?_⟩
                    refine ⟨v3, ?_⟩
                    refine ⟨v4, ?_⟩
                    refine ⟨v5, ?_⟩
                    refine s_X9_run (A := AC) (F := σ.1) ac_c _ _ _ _ _ (inv_any H.1) (fun r77 σ76 uI23 => ?_)
                    have uH24 := Lz_C H uI23
                    refine ⟨v1, ?_⟩
                    refine ⟨v2, ?_⟩
                    refine ⟨v3, ?_⟩
                    refine ⟨v4, ?_⟩
                    refine ⟨v5, ?_⟩
                    refine s_X10_run (A := AR2) (F := σ76.1) ar2_r _ _ _ _ _ (inv_any uH24.1) (fun r84 σ83 uI25 => ?_)
                    have uH26 := Lz_R uH24 uI25
                    intro x85 ex85
                    have ux85 := eq_t ex85
                    exact ih x85 σ83 uH26 (by omega) (by omega)
                  · refine ⟨?_, ?_⟩
                    · intro uq27
                      refine ⟨v1, ?_⟩
                      refine ⟨v2, ?_⟩
                      refine ⟨v3, ?_⟩
                      refine ⟨v4, ?_⟩
                      refine ⟨v5, ?_⟩
                      refine s_X9_who (A := AC) (F := σ.1) ac_c _ _ _ _ _ (inv_any H.1) (fun r92 σ91 uI28 => ?_)
                      have uH29 := Lz_C H uI28
                      refine ⟨v1, ?_⟩
                      refine ⟨v2, ?_⟩
                      refine ⟨v3, ?_⟩
                      refine ⟨v4, ?_⟩
                      refine ⟨v5, ?_⟩
                      refine s_X10_who (A := AR2) (F := σ91.1) ar2_r _ _ _ _ _ (inv_any uH29.1) (fun r99 σ98 uI30 => ?_)
                      have uH31 := Lz_R uH29 uI30
                      intro x100 ex100
                      have ux100 := eq_t ex100
                      exact ih x100 σ98 uH31 (by omega) (by omega)
                    · refine ⟨?_, ?_⟩
                      · intro uq32
                        refine ⟨v1, ?_⟩
                        refine ⟨v2, ?_⟩
                        refine ⟨v3, ?_⟩
                        refine ⟨v4, ?_⟩
                        refine ⟨v5, ?_⟩
                        refine s_X9_late (A := AC) (F := σ.1) ac_c _ _ _ _ _ (inv_any H.1) (fun r107 σ106 uI33 => ?_)
                        have uH34 := Lz_C H uI33
                        refine ⟨v1, ?_⟩
                        refine ⟨v2, ?_⟩
                        refine ⟨v3, ?_⟩
                        refine ⟨v4, ?_⟩
                        refine ⟨v5, ?_⟩
                        refine s_X10_late (A := AR2) (F := σ106.1) ar2_r _ _ _ _ _ (inv_any uH34.1) (fun r114 σ113 uI35 => ?_)
                        have uH36 := Lz_R uH34 uI35
                        intro x115 ex115
                        have ux115 := eq_t ex115
                        exact ih x115 σ113 uH36 (by omega) (by omega)
                      · refine ⟨?_, ?_⟩
                        · intro uq37
                          refine ⟨v1, ?_⟩
                          refine ⟨v2, ?_⟩
                          refine ⟨v3, ?_⟩
                          refine ⟨v4, ?_⟩
                          refine s_X9_purse (A := AC) (F := σ.1) ac_c _ _ _ _ (inv_any H.1) (fun r121 σ120 uI38 => ?_)
                          have uH39 := Lz_C H uI38
                          refine ⟨v1, ?_⟩
                          refine ⟨v2, ?_⟩
                          refine ⟨v3, ?_⟩
                          refine ⟨v4, ?_⟩
                          refine s_X10_purse (A := AR2) (F := σ120.1) ar2_r _ _ _ _ (inv_any uH39.1) (fun r127 σ126 uI40 => ?_)
                          have uH41 := Lz_R uH39 uI40
                          intro x128 ex128
                          have ux128 := eq_t ex128
                          exact ih x128 σ126 uH41 (by omega) (by omega)
                        · refine ⟨?_, ?_⟩
                          · intro uq42
                            refine ⟨v1, ?_⟩
                            refine ⟨v2, ?_⟩
                            refine ⟨v3, ?_⟩
                            refine s_X9_rest (A := AC) (F := σ.1) ac_c _ _ _ (inv_any H.1) (fun r133 σ132 uI43 => ?_)
                            have uH44 := Lz_C H uI43
                            refine ⟨v1, ?_⟩
                            refine ⟨v2, ?_⟩
                            refine ⟨v3, ?_⟩
                            refine s_X10_rest (A := AR2) (F := σ132.1) ar2_r _ _ _ (inv_any uH44.1) (fun r138 σ137 uI45 => ?_)
                            have uH46 := Lz_R uH44 uI45
                            intro x139 ex139
                            have ux139 := eq_t ex139
                            exact ih x139 σ137 uH46 (by omega) (by omega)
                          · refine ⟨?_, ?_⟩
                            · intro uq47
                              refine ⟨v1, ?_⟩
                              refine ⟨v2, ?_⟩
                              refine ⟨v3, ?_⟩
                              refine ⟨v4, ?_⟩
                              refine s_X9_gain (A := AC) (F := σ.1) ac_c _ _ _ _ (inv_any H.1) (fun r145 σ144 uI48 => ?_)
                              have uH49 := Lz_C H uI48
                              refine ⟨v1, ?_⟩
                              refine ⟨v2, ?_⟩
                              refine ⟨v3, ?_⟩
                              refine ⟨v4, ?_⟩
                              refine s_X10_gain (A := AR2) (F := σ144.1) ar2_r _ _ _ _ (inv_any uH49.1) (fun r151 σ150 uI50 => ?_)
                              have uH51 := Lz_R uH49 uI50
                              intro x152 ex152
                              have ux152 := eq_t ex152
                              exact ih x152 σ150 uH51 (by omega) (by omega)
                            · refine ⟨?_, ?_⟩
                              · intro uq52
                                refine ⟨v1, ?_⟩
                                refine ⟨v2, ?_⟩
                                refine ⟨v3, ?_⟩
                                refine ⟨?_, ?_⟩
                                · intro uq53
                                  refine s_X9_chance (A := AC) (F := σ.1) ac_c _ _ _ (inv_any H.1) (fun r157 σ156 uI54 => ?_)
                                  have uH55 := Lz_C H uI54
                                  refine ⟨v1, ?_⟩
                                  refine ⟨v2, ?_⟩
                                  refine ⟨v3, ?_⟩
                                  refine ⟨?_, ?_⟩
                                  · intro uq56
                                    refine s_X10_chance (A := AR2) (F := σ156.1) ar2_r _ _ _ (inv_any uH55.1) (fun r162 σ161 uI57 => ?_)
                                    have uH58 := Lz_R uH55 uI57
                                    intro x163 ex163
                                    have ux163 := eq_t ex163
                                    exact ih x163 σ161 uH58 (by omega) (by omega)
                                  · intro uq59
                                    exact absurd uq53 uq59
                                · intro uq60
                                  refine s_X9_chance (A := AC) (F := σ.1) ac_c _ _ _ (inv_any H.1) (fun r168 σ167 uI61 => ?_)
                                  have uH62 := Lz_C H uI61
                                  refine ⟨v1, ?_⟩
                                  refine ⟨v2, ?_⟩
                                  refine ⟨v3, ?_⟩
                                  refine ⟨?_, ?_⟩
                                  · intro uq63
                                    exact absurd uq63 uq60
                                  · intro uq64
                                    refine s_X10_chance (A := AR2) (F := σ167.1) ar2_r _ _ _ (inv_any uH62.1) (fun r176 σ175 uI65 => ?_)
                                    have uH66 := Lz_R uH62 uI65
                                    intro x177 ex177
                                    have ux177 := eq_t ex177
                                    exact ih x177 σ175 uH66 (by omega) (by omega)
                              · refine ⟨?_, ?_⟩
                                · intro uq67
                                  refine ⟨v1, ?_⟩
                                  refine ⟨v2, ?_⟩
                                  refine s_X9_slack (A := AC) (F := σ.1) ac_c _ _ (inv_any H.1) (fun r181 σ180 uI68 => ?_)
                                  have uH69 := Lz_C H uI68
                                  refine ⟨v1, ?_⟩
                                  refine ⟨v2, ?_⟩
                                  refine s_X10_slack (A := AR2) (F := σ180.1) ar2_r _ _ (inv_any uH69.1) (fun r185 σ184 uI70 => ?_)
                                  have uH71 := Lz_R uH69 uI70
                                  intro x186 ex186
                                  have ux186 := eq_t ex186
                                  exact ih x186 σ184 uH71 (by omega) (by omega)
                                · refine ⟨?_, ?_⟩
                                  · intro uq72
                                    refine ⟨v1, ?_⟩
                                    refine ⟨v2, ?_⟩
                                    refine ⟨v3, ?_⟩
                                    refine ⟨v4, ?_⟩
                                    refine ⟨v5, ?_⟩
                                    refine s_X9_shells (A := AC) (F := σ.1) ac_c _ _ _ _ _ (inv_any H.1) (fun r193 σ192 uI73 => ?_)
                                    have uH74 := Lz_C H uI73
                                    refine ⟨v1, ?_⟩
                                    refine ⟨v2, ?_⟩
                                    refine ⟨v3, ?_⟩
                                    refine ⟨v4, ?_⟩
                                    refine ⟨v5, ?_⟩
                                    refine s_X10_shells (A := AR2) (F := σ192.1) ar2_r _ _ _ _ _ (inv_any uH74.1) (fun r200 σ199 uI75 => ?_)
                                    have uH76 := Lz_R uH74 uI75
                                    intro x201 ex201
                                    have ux201 := eq_t ex201
                                    exact ih x201 σ199 uH76 (by omega) (by omega)
                                  · refine ⟨?_, ?_⟩
                                    · intro uq77
                                      refine ⟨v1, ?_⟩
                                      refine ⟨v2, ?_⟩
                                      refine ⟨v3, ?_⟩
                                      refine ⟨v4, ?_⟩
                                      refine ⟨v5, ?_⟩
                                      refine s_X9_meet (A := AC) (F := σ.1) ac_c _ _ _ _ _ (inv_any H.1) (fun r208 σ207 uI78 => ?_)
                                      have uH79 := Lz_C H uI78
                                      refine ⟨v1, ?_⟩
                                      refine ⟨v2, ?_⟩
                                      refine ⟨v3, ?_⟩
                                      refine ⟨v4, ?_⟩
                                      refine ⟨v5, ?_⟩
                                      refine s_X10_meet (A := AR2) (F := σ207.1) ar2_r _ _ _ _ _ (inv_any uH79.1) (fun r215 σ214 uI80 => ?_)
                                      have uH81 := Lz_R uH79 uI80
                                      intro x216 ex216
                                      have ux216 := eq_t ex216
                                      exact ih x216 σ214 uH81 (by omega) (by omega)
                                    · refine ⟨?_, ?_⟩
                                      · intro uq82
                                        refine ⟨v1, ?_⟩
                                        refine ⟨v2, ?_⟩
                                        refine ⟨v3, ?_⟩
                                        refine m_pull H _ _ _ (fun r221 σ220 uz83 => ?_)
                                        refine ⟨v1, ?_⟩
                                        refine ⟨v2, ?_⟩
                                        refine ⟨v3, ?_⟩
                                        refine uz83 _ (fun σ225 uH84 => ?_)
                                        intro x227 ex227
                                        have ux227 := eq_t ex227
                                        exact ih x227 σ225 uH84 (by omega) (by omega)
                                      · refine ⟨?_, ?_⟩
                                        · intro uq85
                                          refine ⟨v1, ?_⟩
                                          refine ⟨v2, ?_⟩
                                          refine ⟨v3, ?_⟩
                                          refine ⟨v4, ?_⟩
                                          refine s_X9_played (A := AC) (F := σ.1) ac_c _ _ _ _ (inv_any H.1) (fun r233 σ232 uI86 => ?_)
                                          have uH87 := Lz_C H uI86
                                          refine ⟨v1, ?_⟩
                                          refine ⟨v2, ?_⟩
                                          refine ⟨v3, ?_⟩
                                          refine ⟨v4, ?_⟩
                                          refine s_X10_played (A := AR2) (F := σ232.1) ar2_r ar2_h _ _ _ _ (inv_any uH87.1) (fun r239 σ238 uI88 => ?_)
                                          have uH89 := Lz_R uH87 uI88
                                          intro x240 ex240
                                          have ux240 := eq_t ex240
                                          exact ih x240 σ238 uH89 (by omega) (by omega)
                                        · refine ⟨?_, ?_⟩
                                          · intro uq90
                                            refine ⟨v1, ?_⟩
                                            refine ⟨v2, ?_⟩
                                            refine ⟨v3, ?_⟩
                                            refine s_X9_print (A := AC) (F := σ.1) ac_c _ _ _ (inv_any H.1) (fun r245 σ244 uI91 => ?_)
                                            have uH92 := Lz_C H uI91
                                            refine ⟨v1, ?_⟩
                                            refine ⟨v2, ?_⟩
                                            refine ⟨v3, ?_⟩
                                            refine s_X10_print (A := AR2) (F := σ244.1) ar2_r _ _ _ (inv_any uH92.1) (fun r250 σ249 uI93 => ?_)
                                            have uH94 := Lz_R uH92 uI93
                                            intro x251 ex251
                                            have ux251 := eq_t ex251
                                            exact ih x251 σ249 uH94 (by omega) (by omega)
                                          · refine ⟨?_, ?_⟩
                                            · intro uq95
                                              refine ⟨v1, ?_⟩
                                              refine ⟨v2, ?_⟩
                                              refine ⟨v3, ?_⟩
                                              refine ⟨v4, ?_⟩
                                              refine ⟨?_, ?_⟩
                                              · intro uq96
                                                refine s_X9_most (A := AC) (F := σ.1) ac_c _ _ _ _ (inv_any H.1) (fun r257 σ256 uI97 => ?_)
                                                have uH98 := Lz_C H uI97
                                                refine ⟨v1, ?_⟩
                                                refine ⟨v2, ?_⟩
                                                refine ⟨v3, ?_⟩
                                                refine ⟨v4, ?_⟩
                                                refine ⟨?_, ?_⟩
                                                · intro uq99
                                                  refine s_X10_most (A := AR2) (F := σ256.1) ar2_r _ _ _ _ (inv_any uH98.1) (fun r263 σ262 uI100 => ?_)
                                                  have uH101 := Lz_R uH98 uI100
                                                  intro x264 ex264
                                                  have ux264 := eq_t ex264
                                                  exact ih x264 σ262 uH101 (by omega) (by omega)
                                                · intro uq102
                                                  exact absurd uq96 uq102
                                              · intro uq103
                                                refine s_X9_most (A := AC) (F := σ.1) ac_c _ _ _ _ (inv_any H.1) (fun r269 σ268 uI104 => ?_)
                                                have uH105 := Lz_C H uI104
                                                refine ⟨v1, ?_⟩
                                                refine ⟨v2, ?_⟩
                                                refine ⟨v3, ?_⟩
                                                refine ⟨v4, ?_⟩
                                                refine ⟨?_, ?_⟩
                                                · intro uq106
                                                  exact absurd uq106 uq103
                                                · intro uq107
                                                  refine s_X10_most (A := AR2) (F := σ268.1) ar2_r _ _ _ _ (inv_any uH105.1) (fun r278 σ277 uI108 => ?_)
                                                  have uH109 := Lz_R uH105 uI108
                                                  intro x279 ex279
                                                  have ux279 := eq_t ex279
                                                  exact ih x279 σ277 uH109 (by omega) (by omega)
                                            · refine ⟨?_, ?_⟩
                                              · intro uq110
                                                refine ⟨v1, ?_⟩
                                                refine ⟨v2, ?_⟩
                                                refine ⟨v3, ?_⟩
                                                refine ⟨v4, ?_⟩
                                                refine ⟨?_, ?_⟩
                                                · intro uq111
                                                  refine s_X9_weeks (A := AC) (F := σ.1) ac_c _ _ _ _ (inv_any H.1) (fun r285 σ284 uI112 => ?_)
                                                  have uH113 := Lz_C H uI112
                                                  refine ⟨v1, ?_⟩
                                                  refine ⟨v2, ?_⟩
                                                  refine ⟨v3, ?_⟩
                                                  refine ⟨v4, ?_⟩
                                                  refine ⟨?_, ?_⟩
                                                  · intro uq114
                                                    refine s_X10_weeks (A := AR2) (F := σ284.1) ar2_r _ _ _ _ (inv_any uH113.1) (fun r291 σ290 uI115 => ?_)
                                                    have uH116 := Lz_R uH113 uI115
                                                    intro x292 ex292
                                                    have ux292 := eq_t ex292
                                                    exact ih x292 σ290 uH116 (by omega) (by omega)
                                                  · intro uq117
                                                    exact absurd uq111 uq117
                                                · intro uq118
                                                  refine s_X9_weeks (A := AC) (F := σ.1) ac_c _ _ _ _ (inv_any H.1) (fun r297 σ296 uI119 => ?_)
                                                  have uH120 := Lz_C H uI119
                                                  refine ⟨v1, ?_⟩
                                                  refine ⟨v2, ?_⟩
                                                  refine ⟨v3, ?_⟩
                                                  refine ⟨v4, ?_⟩
                                                  refine ⟨?_, ?_⟩
                                                  · intro uq121
                                                    exact absurd uq121 uq118
                                                  · intro uq122
                                                    refine s_X10_weeks (A := AR2) (F := σ296.1) ar2_r _ _ _ _ (inv_any uH120.1) (fun r306 σ305 uI123 => ?_)
                                                    have uH124 := Lz_R uH120 uI123
                                                    intro x307 ex307
                                                    have ux307 := eq_t ex307
                                                    exact ih x307 σ305 uH124 (by omega) (by omega)
                                              · refine ⟨?_, ?_⟩
                                                · intro uq125
                                                  refine ⟨v1, ?_⟩
                                                  refine ⟨v2, ?_⟩
                                                  refine ⟨v3, ?_⟩
                                                  refine s_X9_calm (A := AC) (F := σ.1) ac_c _ _ _ (inv_any H.1) (fun r312 σ311 uI126 => ?_)
                                                  have uH127 := Lz_C H uI126
                                                  refine ⟨v1, ?_⟩
                                                  refine ⟨v2, ?_⟩
                                                  refine ⟨v3, ?_⟩
                                                  refine s_X10_calm (A := AR2) (F := σ311.1) ar2_r _ _ _ (inv_any uH127.1) (fun r317 σ316 uI128 => ?_)
                                                  have uH129 := Lz_R uH127 uI128
                                                  intro x318 ex318
                                                  have ux318 := eq_t ex318
                                                  exact ih x318 σ316 uH129 (by omega) (by omega)
                                                · refine ⟨?_, ?_⟩
                                                  · intro uq130
                                                    refine ⟨v1, ?_⟩
                                                    refine ⟨v2, ?_⟩
                                                    refine ⟨v3, ?_⟩
                                                    refine ⟨v4, ?_⟩
                                                    refine ⟨v5, ?_⟩
                                                    refine ⟨?_, ?_⟩
                                                    · intro uq131
                                                      refine s_X9_rich (A := AC) (F := σ.1) ac_c _ _ _ _ _ (inv_any H.1) (fun r325 σ324 uI132 => ?_)
                                                      have uH133 := Lz_C H uI132
                                                      refine ⟨v1, ?_⟩
                                                      refine ⟨v2, ?_⟩
                                                      refine ⟨v3, ?_⟩
                                                      refine ⟨v4, ?_⟩
                                                      refine ⟨v5, ?_⟩
                                                      refine ⟨?_, ?_⟩
                                                      · intro uq134
                                                        refine s_X10_rich (A := AR2) (F := σ324.1) ar2_r _ _ _ _ _ (inv_any uH133.1) (fun r332 σ331 uI135 => ?_)
                                                        have uH136 := Lz_R uH133 uI135
                                                        intro x333 ex333
                                                        have ux333 := eq_t ex333
                                                        exact ih x333 σ331 uH136 (by omega) (by omega)
                                                      · intro uq137
                                                        exact absurd uq131 uq137
                                                    · intro uq138
                                                      refine s_X9_rich (A := AC) (F := σ.1) ac_c _ _ _ _ _ (inv_any H.1) (fun r338 σ337 uI139 => ?_)
                                                      have uH140 := Lz_C H uI139
                                                      refine ⟨v1, ?_⟩
                                                      refine ⟨v2, ?_⟩
                                                      refine ⟨v3, ?_⟩
                                                      refine ⟨v4, ?_⟩
                                                      refine ⟨v5, ?_⟩
                                                      refine ⟨?_, ?_⟩
                                                      · intro uq141
                                                        exact absurd uq141 uq138
                                                      · intro uq142
                                                        refine s_X10_rich (A := AR2) (F := σ337.1) ar2_r _ _ _ _ _ (inv_any uH140.1) (fun r348 σ347 uI143 => ?_)
                                                        have uH144 := Lz_R uH140 uI143
                                                        intro x349 ex349
                                                        have ux349 := eq_t ex349
                                                        exact ih x349 σ347 uH144 (by omega) (by omega)
                                                  · refine ⟨?_, ?_⟩
                                                    · intro uq145
                                                      refine ⟨v1, ?_⟩
                                                      refine ⟨v2, ?_⟩
                                                      refine ⟨v3, ?_⟩
                                                      refine ⟨v4, ?_⟩
                                                      refine ⟨v5, ?_⟩
                                                      refine s_X9_lots (A := AC) (F := σ.1) ac_c _ _ _ _ _ (inv_any H.1) (fun r356 σ355 uI146 => ?_)
                                                      have uH147 := Lz_C H uI146
                                                      refine ⟨v1, ?_⟩
                                                      refine ⟨v2, ?_⟩
                                                      refine ⟨v3, ?_⟩
                                                      refine ⟨v4, ?_⟩
                                                      refine ⟨v5, ?_⟩
                                                      refine s_X10_lots (A := AR2) (F := σ355.1) ar2_r _ _ _ _ _ (inv_any uH147.1) (fun r363 σ362 uI148 => ?_)
                                                      have uH149 := Lz_R uH147 uI148
                                                      intro x364 ex364
                                                      have ux364 := eq_t ex364
                                                      exact ih x364 σ362 uH149 (by omega) (by omega)
                                                    · refine ⟨?_, ?_⟩
                                                      · intro uq150
                                                        refine ⟨v1, ?_⟩
                                                        refine ⟨v2, ?_⟩
                                                        refine ⟨v3, ?_⟩
                                                        refine m_seen H _ _ _ (fun r369 σ368 uz151 => ?_)
                                                        refine ⟨v1, ?_⟩
                                                        refine ⟨v2, ?_⟩
                                                        refine ⟨v3, ?_⟩
                                                        refine uz151 _ (fun σ373 uH152 => ?_)
                                                        refine ⟨?_, ?_⟩
                                                        · intro uq153
                                                          intro x375 ex375
                                                          have ux375 := eq_t ex375
                                                          exact ih x375 σ373 uH152 (by omega) (by omega)
                                                        · intro uq154
                                                          exact absurd rfl uq154
                                                      · refine ⟨?_, ?_⟩
                                                        · intro uq155
                                                          refine ⟨v1, ?_⟩
                                                          refine ⟨v2, ?_⟩
                                                          refine ⟨v3, ?_⟩
                                                          refine s_X9_hold (A := AC) (F := σ.1) ac_c _ _ _ (inv_any H.1) (fun r380 σ379 uI156 => ?_)
                                                          have uH157 := Lz_C H uI156
                                                          refine ⟨v1, ?_⟩
                                                          refine ⟨v2, ?_⟩
                                                          refine ⟨v3, ?_⟩
                                                          refine s_X10_hold (A := AR2) (F := σ379.1) ar2_r ar2_h _ _ _ (inv_any uH157.1) (fun r385 σ384 uI158 => ?_)
                                                          have uH159 := Lz_R uH157 uI158
                                                          intro x386 ex386
                                                          have ux386 := eq_t ex386
                                                          exact ih x386 σ384 uH159 (by omega) (by omega)
                                                        · refine ⟨?_, ?_⟩
                                                          · intro uq160
                                                            refine ⟨v1, ?_⟩
                                                            refine ⟨v2, ?_⟩
                                                            refine s_X9_risk (A := AC) (F := σ.1) ac_c _ _ (inv_any H.1) (fun r390 σ389 uI161 => ?_)
                                                            have uH162 := Lz_C H uI161
                                                            refine ⟨v1, ?_⟩
                                                            refine ⟨v2, ?_⟩
                                                            refine s_X10_risk (A := AR2) (F := σ389.1) ar2_r _ _ (inv_any uH162.1) (fun r394 σ393 uI163 => ?_)
                                                            have uH164 := Lz_R uH162 uI163
                                                            intro x395 ex395
                                                            have ux395 := eq_t ex395
                                                            exact ih x395 σ393 uH164 (by omega) (by omega)
                                                          · refine ⟨?_, ?_⟩
                                                            · intro uq165
                                                              refine ⟨v1, ?_⟩
                                                              refine ⟨v2, ?_⟩
                                                              refine ⟨v3, ?_⟩
                                                              refine ⟨v4, ?_⟩
                                                              refine ⟨?_, ?_⟩
                                                              · intro uq166
                                                                refine s_X9_vote (A := AC) (F := σ.1) ac_c _ _ _ _ (inv_any H.1) (fun r401 σ400 uI167 => ?_)
                                                                have uH168 := Lz_C H uI167
                                                                refine ⟨v1, ?_⟩
                                                                refine ⟨v2, ?_⟩
                                                                refine ⟨v3, ?_⟩
                                                                refine ⟨v4, ?_⟩
                                                                refine ⟨?_, ?_⟩
                                                                · intro uq169
                                                                  refine s_X10_vote (A := AR2) (F := σ400.1) ar2_r _ _ _ _ (inv_any uH168.1) (fun r407 σ406 uI170 => ?_)
                                                                  have uH171 := Lz_R uH168 uI170
                                                                  intro x408 ex408
                                                                  have ux408 := eq_t ex408
                                                                  exact ih x408 σ406 uH171 (by omega) (by omega)
                                                                · intro uq172
                                                                  exact absurd uq166 uq172
                                                              · intro uq173
                                                                refine s_X9_vote (A := AC) (F := σ.1) ac_c _ _ _ _ (inv_any H.1) (fun r413 σ412 uI174 => ?_)
                                                                have uH175 := Lz_C H uI174
                                                                refine ⟨v1, ?_⟩
                                                                refine ⟨v2, ?_⟩
                                                                refine ⟨v3, ?_⟩
                                                                refine ⟨v4, ?_⟩
                                                                refine ⟨?_, ?_⟩
                                                                · intro uq176
                                                                  exact absurd uq176 uq173
                                                                · intro uq177
                                                                  refine s_X10_vote (A := AR2) (F := σ412.1) ar2_r _ _ _ _ (inv_any uH175.1) (fun r422 σ421 uI178 => ?_)
                                                                  have uH179 := Lz_R uH175 uI178
                                                                  intro x423 ex423
                                                                  have ux423 := eq_t ex423
                                                                  exact ih x423 σ421 uH179 (by omega) (by omega)
                                                            · refine ⟨?_, ?_⟩
                                                              · intro uq180
                                                                refine ⟨v1, ?_⟩
                                                                refine ⟨v2, ?_⟩
                                                                refine ⟨v3, ?_⟩
                                                                refine ⟨v4, ?_⟩
                                                                refine ⟨v5, ?_⟩
                                                                refine s_X9_left (A := AC) (F := σ.1) ac_c _ _ _ _ _ (inv_any H.1) (fun r430 σ429 uI181 => ?_)
                                                                have uH182 := Lz_C H uI181
                                                                refine ⟨v1, ?_⟩
                                                                refine ⟨v2, ?_⟩
                                                                refine ⟨v3, ?_⟩
                                                                refine ⟨v4, ?_⟩
                                                                refine ⟨v5, ?_⟩
                                                                refine s_X10_left (A := AR2) (F := σ429.1) ar2_r _ _ _ _ _ (inv_any uH182.1) (fun r437 σ436 uI183 => ?_)
                                                                have uH184 := Lz_R uH182 uI183
                                                                intro x438 ex438
                                                                have ux438 := eq_t ex438
                                                                exact ih x438 σ436 uH184 (by omega) (by omega)
                                                              · refine ⟨?_, ?_⟩
                                                                · intro uq185
                                                                  refine ⟨v1, ?_⟩
                                                                  refine ⟨v2, ?_⟩
                                                                  refine ⟨v3, ?_⟩
                                                                  refine ⟨v4, ?_⟩
                                                                  refine s_X9_bid (A := AC) (F := σ.1) ac_c _ _ _ _ (inv_any H.1) (fun r444 σ443 uI186 => ?_)
                                                                  have uH187 := Lz_C H uI186
                                                                  refine ⟨v1, ?_⟩
                                                                  refine ⟨v2, ?_⟩
                                                                  refine ⟨v3, ?_⟩
                                                                  refine ⟨v4, ?_⟩
                                                                  refine r_X10_bid _ _ _ _ (inv_any uH187.1) (fun r450 σ449 uI188 => ?_)
                                                                  have uH189 := Lz_R uH187 uI188
                                                                  intro x451 ex451
                                                                  have ux451 := eq_t ex451
                                                                  exact ih x451 σ449 uH189 (by omega) (by omega)
                                                                · refine ⟨?_, ?_⟩
                                                                  · intro uq190
                                                                    refine ⟨v1, ?_⟩
                                                                    refine m_count H _ (fun r454 σ453 uz191 => ?_)
                                                                    refine ⟨v1, ?_⟩
                                                                    refine uz191 _ (fun σ456 uH192 => ?_)
                                                                    intro x458 ex458
                                                                    have ux458 := eq_t ex458
                                                                    exact ih x458 σ456 uH192 (by omega) (by omega)
                                                                  · refine ⟨?_, ?_⟩
                                                                    · intro uq193
                                                                      refine ⟨v1, ?_⟩
                                                                      refine m_image H _ (fun r461 σ460 uz194 => ?_)
                                                                      intro uq195
                                                                      refine ⟨v1, ?_⟩
                                                                      refine uz194 _ (fun σ463 uH196 => ?_)
                                                                      intro uq197
                                                                      intro x465 ex465
                                                                      have ux465 := eq_t ex465
                                                                      exact ih x465 σ463 uH196 (by omega) (by omega)
                                                                    · refine ⟨?_, ?_⟩
                                                                      · intro uq198
                                                                        refine ⟨v1, ?_⟩
                                                                        refine m_again H _ (fun r468 σ467 uz199 => ?_)
                                                                        intro uq200
                                                                        refine ⟨v1, ?_⟩
                                                                        refine uz199 _ (fun σ470 uH201 => ?_)
                                                                        intro uq202
                                                                        intro x472 ex472
                                                                        have ux472 := eq_t ex472
                                                                        exact ih x472 σ470 uH201 (by omega) (by omega)
                                                                      · intro uq203
                                                                        intro x473 ex473
                                                                        have ux473 := eq_t ex473
                                                                        exact ih x473 σ H (by omega) (by omega)
theorem law_all {L : Nat} (hL : L ≤ 3072) (xs : Nat → Int32) : ∃ n, w_law_18 L xs n (0 : Int32) σ0 :=
  ⟨5000, law_step hL xs 5000 (0 : Int32) σ0 Lz_0 (by rw [lit_0]; omega) (by rw [lit_0]; omega)⟩
