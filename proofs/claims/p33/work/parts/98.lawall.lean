set_option maxHeartbeats 4000000 in
theorem law_step {L : Nat} (hL : L ≤ 3072) (xs : Nat → Int32) : ∀ (n : Nat) (x_3 : Int32) (σ : zSto), Lz σ → (0 ≤ ti x_3 ∧ ti x_3 ≤ 4000) → (4000 - ti x_3 < n) → w_law_18 L xs n x_3 σ := by
  intro n
  induction n with
  | zero =>
    intro x_3 σ H h hm
    exfalso
    omega
  | succ n ih =>
    intro x_3 σ H h hm
    unfold w_law_18
    have eL : ti (Int32.ofNat L) = (L : Int) := nI_t (by omega)
    have l1 := lit_1
    have l2 := lit_2
    have l3 := lit_3
    have l4 := lit_4
    have l5 := lit_5
    have l6 := lit_6
    have tL := tsub (x := Int32.ofNat L) (y := (6 : Int32)) (by omega)
    refine ⟨fun _ => trivial, fun q => ?_⟩
    have c := nlt_t q
    have t1 := tadd (x := x_3) (y := (1 : Int32)) (by omega)
    have t2 := tadd (x := x_3) (y := (2 : Int32)) (by omega)
    have t3 := tadd (x := x_3) (y := (3 : Int32)) (by omega)
    have t4 := tadd (x := x_3) (y := (4 : Int32)) (by omega)
    have t5 := tadd (x := x_3) (y := (5 : Int32)) (by omega)
    have t6 := tadd (x := x_3) (y := (6 : Int32)) (by omega)
    have v0 : vp_in x_3 L := vin (by omega)
    have v1 : vp_in (x_3 + (1 : Int32)) L := vin (by omega)
    have v2 : vp_in (x_3 + (2 : Int32)) L := vin (by omega)
    have v3 : vp_in (x_3 + (3 : Int32)) L := vin (by omega)
    have v4 : vp_in (x_3 + (4 : Int32)) L := vin (by omega)
    have v5 : vp_in (x_3 + (5 : Int32)) L := vin (by omega)
    refine ⟨v0, ?_⟩
    refine ⟨?_, ?_⟩
    · intro uq1
      refine ⟨v1, ?_⟩
      refine ⟨v2, ?_⟩
      refine ⟨v3, ?_⟩
      refine ⟨v4, ?_⟩
      refine ⟨v5, ?_⟩
      refine m_feed H _ _ _ _ _ (fun r8 σ7 uz2 => ?_)
      refine ⟨v1, ?_⟩
      refine ⟨v2, ?_⟩
      refine ⟨v3, ?_⟩
      refine ⟨v4, ?_⟩
      refine ⟨v5, ?_⟩
      refine uz2 _ (fun σ14 uH3 => ?_)
      intro x16 ex16
      have ux16 := eq_t ex16
      exact ih x16 σ14 uH3 (by omega) (by omega)
    · refine ⟨?_, ?_⟩
      · intro uq4
        refine ⟨v1, ?_⟩
        refine m_end H _ (fun r19 σ18 uz5 => ?_)
        refine ⟨v1, ?_⟩
        refine uz5 _ (fun σ21 uH6 => ?_)
        intro x23 ex23
        have ux23 := eq_t ex23
        exact ih x23 σ21 uH6 (by omega) (by omega)
      · refine ⟨?_, ?_⟩
        · intro uq7
          refine ⟨v1, ?_⟩
          refine ⟨v2, ?_⟩
          refine m_text H _ _ (fun r27 σ26 uz8 => ?_)
          refine ⟨v1, ?_⟩
          refine ⟨v2, ?_⟩
          refine uz8 _ (fun σ30 uH9 => ?_)
          intro x32 ex32
          have ux32 := eq_t ex32
          exact ih x32 σ30 uH9 (by omega) (by omega)
        · refine ⟨?_, ?_⟩
          · intro uq10
            refine ⟨v1, ?_⟩
            refine m_fault H _ (fun r35 σ34 uz11 => ?_)
            refine ⟨v1, ?_⟩
            refine uz11 _ (fun σ37 uH12 => ?_)
            intro x39 ex39
            have ux39 := eq_t ex39
            exact ih x39 σ37 uH12 (by omega) (by omega)
          · refine ⟨?_, ?_⟩
            · intro uq13
              refine ⟨v1, ?_⟩
              refine ⟨v2, ?_⟩
              refine s_X9_line _ _ (inv_any (B := AC) H.1) (fun r43 => ?_)
              refine ⟨v1, ?_⟩
              refine ⟨v2, ?_⟩
              refine s_X10_line (A := AR2) (F := σ.1) ar2_r _ _ (inv_any H.1) (fun r47 σ46 uI14 => ?_)
              have uH15 := Lz_R H uI14
              intro x48 ex48
              have ux48 := eq_t ex48
              exact ih x48 σ46 uH15 (by omega) (by omega)
            · refine ⟨?_, ?_⟩
              · intro uq16
                refine ⟨v1, ?_⟩
                refine ⟨v2, ?_⟩
                refine ⟨v3, ?_⟩
                refine s_X9_post _ _ _ (inv_any (B := AC) H.1) (fun r53 => ?_)
                refine ⟨v1, ?_⟩
                refine ⟨v2, ?_⟩
                refine ⟨v3, ?_⟩
                refine s_X10_post (A := AR2) (F := σ.1) ar2_r _ _ _ (inv_any H.1) (fun r58 σ57 uI17 => ?_)
                have uH18 := Lz_R H uI17
                intro x59 ex59
                have ux59 := eq_t ex59
                exact ih x59 σ57 uH18 (by omega) (by omega)
              · refine ⟨?_, ?_⟩
                · intro uq19
                  refine ⟨v1, ?_⟩
                  refine ⟨v2, ?_⟩
                  refine ⟨v3, ?_⟩
                  refine s_X9_rider _ _ _ (inv_any (B := AC) H.1) (fun r64 => ?_)
                  refine ⟨v1, ?_⟩
                  refine ⟨v2, ?_⟩
                  refine ⟨v3, ?_⟩
                  refine s_X10_rider (A := AR2) (F := σ.1) ar2_r _ _ _ (inv_any H.1) (fun r69 σ68 uI20 => ?_)
                  have uH21 := Lz_R H uI20
                  intro x70 ex70
                  have ux70 := eq_t ex70
                  exact ih x70 σ68 uH21 (by omega) (by omega)
                · refine ⟨?_, ?_⟩
                  · intro uq22
                    refine ⟨v1, ?_⟩
                    refine ⟨v2, ?_⟩
                    refine ⟨v3, ?_⟩
                    refine ⟨v4, ?_⟩
                    refine ⟨v5, ?_⟩
                    refine s_X9_run (A := AC) (F := σ.1) ac_c _ _ _ _ _ (inv_any H.1) (fun r77 σ76 uI23 => ?_)
                    have uH24 := Lz_C H uI23
                    refine ⟨v1, ?_⟩
                    refine ⟨v2, ?_⟩
                    refine ⟨v3, ?_⟩
                    refine ⟨v4, ?_⟩
                    refine ⟨v5, ?_⟩
                    refine s_X10_run (A := AR2) (F := σ76.1) ar2_r _ _ _ _ _ (inv_any uH24.1) (fun r84 σ83 uI25 => ?_)
                    have uH26 := Lz_R uH24 uI25
                    intro x85 ex85
                    have ux85 := eq_t ex85
                    exact ih x85 σ83 uH26 (by omega) (by omega)
                  · refine ⟨?_, ?_⟩
                    · intro uq27
                      refine ⟨v1, ?_⟩
                      refine ⟨v2, ?_⟩
                      refine ⟨v3, ?_⟩
                      refine ⟨v4, ?_⟩
                      refine ⟨v5, ?_⟩
                      refine s_X9_who (A := AC) (F := σ.1) ac_c _ _ _ _ _ (inv_any H.1) (fun r92 σ91 uI28 => ?_)
                      have uH29 := Lz_C H uI28
                      refine ⟨v1, ?_⟩
                      refine ⟨v2, ?_⟩
                      refine ⟨v3, ?_⟩
                      refine ⟨v4, ?_⟩
                      refine ⟨v5, ?_⟩
                      refine s_X10_who (A := AR2) (F := σ91.1) ar2_r _ _ _ _ _ (inv_any uH29.1) (fun r99 σ98 uI30 => ?_)
                      have uH31 := Lz_R uH29 uI30
                      intro x100 ex100
                      have ux100 := eq_t ex100
                      exact ih x100 σ98 uH31 (by omega) (by omega)
                    · refine ⟨?_, ?_⟩
                      · intro uq32
                        refine ⟨v1, ?_⟩
                        refine ⟨v2, ?_⟩
                        refine ⟨v3, ?_⟩
                        refine ⟨v4, ?_⟩
                        refine ⟨v5, ?_⟩
                        refine s_X9_late (A := AC) (F := σ.1) ac_c _ _ _ _ _ (inv_any H.1) (fun r107 σ106 uI33 => ?_)
                        have uH34 := Lz_C H uI33
                        refine ⟨v1, ?_⟩
                        refine ⟨v2, ?_⟩
                        refine ⟨v3, ?_⟩
                        refine ⟨v4, ?_⟩
                        refine ⟨v5, ?_⟩
                        refine s_X10_late (A := AR2) (F := σ106.1) ar2_r _ _ _ _ _ (inv_any uH34.1) (fun r114 σ113 uI35 => ?_)
                        have uH36 := Lz_R uH34 uI35
                        intro x115 ex115
                        have ux115 := eq_t ex115
                        exact ih x115 σ113 uH36 (by omega) (by omega)
                      · refine ⟨?_, ?_⟩
                        · intro uq37
                          refine ⟨v1, ?_⟩
                          refine ⟨v2, ?_⟩
                          refine ⟨v3, ?_⟩
                          refine ⟨v4, ?_⟩
                          refine s_X9_purse (A := AC) (F := σ.1) ac_c _ _ _ _ (inv_any H.1) (fun r121 σ120 uI38 => ?_)
                          have uH39 := Lz_C H uI38
                          refine ⟨v1, ?_⟩
                          refine ⟨v2, ?_⟩
                          refine ⟨v3, ?_⟩
                          refine ⟨v4, ?_⟩
                          refine s_X10_purse (A := AR2) (F := σ120.1) ar2_r _ _ _ _ (inv_any uH39.1) (fun r127 σ126 uI40 => ?_)
                          have uH41 := Lz_R uH39 uI40
                          intro x128 ex128
                          have ux128 := eq_t ex128
                          exact ih x128 σ126 uH41 (by omega) (by omega)
                        · refine ⟨?_, ?_⟩
                          · intro uq42
                            refine ⟨v1, ?_⟩
                            refine ⟨v2, ?_⟩
                            refine ⟨v3, ?_⟩
                            refine s_X9_rest (A := AC) (F := σ.1) ac_c _ _ _ (inv_any H.1) (fun r133 σ132 uI43 => ?_)
                            have uH44 := Lz_C H uI43
                            refine ⟨v1, ?_⟩
                            refine ⟨v2, ?_⟩
                            refine ⟨v3, ?_⟩
                            refine s_X10_rest (A := AR2) (F := σ132.1) ar2_r _ _ _ (inv_any uH44.1) (fun r138 σ137 uI45 => ?_)
                            have uH46 := Lz_R uH44 uI45
                            intro x139 ex139
                            have ux139 := eq_t ex139
                            exact ih x139 σ137 uH46 (by omega) (by omega)
                          · refine ⟨?_, ?_⟩
                            · intro uq47
                              refine ⟨v1, ?_⟩
                              refine ⟨v2, ?_⟩
                              refine ⟨v3, ?_⟩
                              refine ⟨v4, ?_⟩
                              refine s_X9_gain (A := AC) (F := σ.1) ac_c _ _ _ _ (inv_any H.1) (fun r145 σ144 uI48 => ?_)
                              have uH49 := Lz_C H uI48
                              refine ⟨v1, ?_⟩
                              refine ⟨v2, ?_⟩
                              refine ⟨v3, ?_⟩
                              refine ⟨v4, ?_⟩
                              refine s_X10_gain (A := AR2) (F := σ144.1) ar2_r _ _ _ _ (inv_any uH49.1) (fun r151 σ150 uI50 => ?_)
                              have uH51 := Lz_R uH49 uI50
                              intro x152 ex152
                              have ux152 := eq_t ex152
                              exact ih x152 σ150 uH51 (by omega) (by omega)
                            · refine ⟨?_, ?_⟩
                              · intro uq52
                                refine ⟨v1, ?_⟩
                                refine ⟨v2, ?_⟩
                                refine ⟨v3, ?_⟩
                                refine ⟨?_, ?_⟩
                                · intro uq53
                                  refine s_X9_chance (A := AC) (F := σ.1) ac_c _ _ _ (inv_any H.1) (fun r157 σ156 uI54 => ?_)
                                  have uH55 := Lz_C H uI54
                                  refine ⟨v1, ?_⟩
                                  refine ⟨v2, ?_⟩
                                  refine ⟨v3, ?_⟩
                                  refine ⟨?_, ?_⟩
                                  · intro uq56
                                    refine s_X10_chance (A := AR2) (F := σ156.1) ar2_r _ _ _ (inv_any uH55.1) (fun r162 σ161 uI57 => ?_)
                                    have uH58 := Lz_R uH55 uI57
                                    intro x163 ex163
                                    have ux163 := eq_t ex163
                                    exact ih x163 σ161 uH58 (by omega) (by omega)
                                  · intro uq59
                                    refine s_X10_chance (A := AR2) (F := σ156.1) ar2_r _ _ _ (inv_any uH55.1) (fun r165 σ164 uI60 => ?_)
                                    have uH61 := Lz_R uH55 uI60
                                    intro x166 ex166
                                    have ux166 := eq_t ex166
                                    exact ih x166 σ164 uH61 (by omega) (by omega)
                                · intro uq62
                                  refine s_X9_chance (A := AC) (F := σ.1) ac_c _ _ _ (inv_any H.1) (fun r168 σ167 uI63 => ?_)
                                  have uH64 := Lz_C H uI63
                                  refine ⟨v1, ?_⟩
                                  refine ⟨v2, ?_⟩
                                  refine ⟨v3, ?_⟩
                                  refine ⟨?_, ?_⟩
                                  · intro uq65
                                    refine s_X10_chance (A := AR2) (F := σ167.1) ar2_r _ _ _ (inv_any uH64.1) (fun r173 σ172 uI66 => ?_)
                                    have uH67 := Lz_R uH64 uI66
                                    intro x174 ex174
                                    have ux174 := eq_t ex174
                                    exact ih x174 σ172 uH67 (by omega) (by omega)
                                  · intro uq68
                                    refine s_X10_chance (A := AR2) (F := σ167.1) ar2_r _ _ _ (inv_any uH64.1) (fun r176 σ175 uI69 => ?_)
                                    have uH70 := Lz_R uH64 uI69
                                    intro x177 ex177
                                    have ux177 := eq_t ex177
                                    exact ih x177 σ175 uH70 (by omega) (by omega)
                              · refine ⟨?_, ?_⟩
                                · intro uq71
                                  refine ⟨v1, ?_⟩
                                  refine ⟨v2, ?_⟩
                                  refine s_X9_slack (A := AC) (F := σ.1) ac_c _ _ (inv_any H.1) (fun r181 σ180 uI72 => ?_)
                                  have uH73 := Lz_C H uI72
                                  refine ⟨v1, ?_⟩
                                  refine ⟨v2, ?_⟩
                                  refine s_X10_slack (A := AR2) (F := σ180.1) ar2_r _ _ (inv_any uH73.1) (fun r185 σ184 uI74 => ?_)
                                  have uH75 := Lz_R uH73 uI74
                                  intro x186 ex186
                                  have ux186 := eq_t ex186
                                  exact ih x186 σ184 uH75 (by omega) (by omega)
                                · refine ⟨?_, ?_⟩
                                  · intro uq76
                                    refine ⟨v1, ?_⟩
                                    refine ⟨v2, ?_⟩
                                    refine ⟨v3, ?_⟩
                                    refine ⟨v4, ?_⟩
                                    refine ⟨v5, ?_⟩
                                    refine s_X9_shells (A := AC) (F := σ.1) ac_c _ _ _ _ _ (inv_any H.1) (fun r193 σ192 uI77 => ?_)
                                    have uH78 := Lz_C H uI77
                                    refine ⟨v1, ?_⟩
                                    refine ⟨v2, ?_⟩
                                    refine ⟨v3, ?_⟩
                                    refine ⟨v4, ?_⟩
                                    refine ⟨v5, ?_⟩
                                    refine s_X10_shells (A := AR2) (F := σ192.1) ar2_r _ _ _ _ _ (inv_any uH78.1) (fun r200 σ199 uI79 => ?_)
                                    have uH80 := Lz_R uH78 uI79
                                    intro x201 ex201
                                    have ux201 := eq_t ex201
                                    exact ih x201 σ199 uH80 (by omega) (by omega)
                                  · refine ⟨?_, ?_⟩
                                    · intro uq81
                                      refine ⟨v1, ?_⟩
                                      refine ⟨v2, ?_⟩
                                      refine ⟨v3, ?_⟩
                                      refine ⟨v4, ?_⟩
                                      refine ⟨v5, ?_⟩
                                      refine s_X9_meet (A := AC) (F := σ.1) ac_c _ _ _ _ _ (inv_any H.1) (fun r208 σ207 uI82 => ?_)
                                      have uH83 := Lz_C H uI82
                                      refine ⟨v1, ?_⟩
                                      refine ⟨v2, ?_⟩
                                      refine ⟨v3, ?_⟩
                                      refine ⟨v4, ?_⟩
                                      refine ⟨v5, ?_⟩
                                      refine s_X10_meet (A := AR2) (F := σ207.1) ar2_r _ _ _ _ _ (inv_any uH83.1) (fun r215 σ214 uI84 => ?_)
                                      have uH85 := Lz_R uH83 uI84
                                      intro x216 ex216
                                      have ux216 := eq_t ex216
                                      exact ih x216 σ214 uH85 (by omega) (by omega)
                                    · refine ⟨?_, ?_⟩
                                      · intro uq86
                                        refine ⟨v1, ?_⟩
                                        refine ⟨v2, ?_⟩
                                        refine ⟨v3, ?_⟩
                                        refine s_X9_pull _ _ _ (inv_any (B := AC) H.1) (fun r221 => ?_)
                                        refine ⟨v1, ?_⟩
                                        refine ⟨v2, ?_⟩
                                        refine ⟨v3, ?_⟩
                                        refine s_X10_pull (A := AR2) (F := σ.1) ar2_r ar2_h _ _ _ (inv_any H.1) (fun r226 σ225 uI87 => ?_)
                                        have uH88 := Lz_R H uI87
                                        intro x227 ex227
                                        have ux227 := eq_t ex227
                                        exact ih x227 σ225 uH88 (by omega) (by omega)
                                      · refine ⟨?_, ?_⟩
                                        · intro uq89
                                          refine ⟨v1, ?_⟩
                                          refine ⟨v2, ?_⟩
                                          refine ⟨v3, ?_⟩
                                          refine ⟨v4, ?_⟩
                                          refine s_X9_played (A := AC) (F := σ.1) ac_c _ _ _ _ (inv_any H.1) (fun r233 σ232 uI90 => ?_)
                                          have uH91 := Lz_C H uI90
                                          refine ⟨v1, ?_⟩
                                          refine ⟨v2, ?_⟩
                                          refine ⟨v3, ?_⟩
                                          refine ⟨v4, ?_⟩
                                          refine s_X10_played (A := AR2) (F := σ232.1) ar2_r ar2_h _ _ _ _ (inv_any uH91.1) (fun r239 σ238 uI92 => ?_)
                                          have uH93 := Lz_R uH91 uI92
                                          intro x240 ex240
                                          have ux240 := eq_t ex240
                                          exact ih x240 σ238 uH93 (by omega) (by omega)
                                        · refine ⟨?_, ?_⟩
                                          · intro uq94
                                            refine ⟨v1, ?_⟩
                                            refine ⟨v2, ?_⟩
                                            refine ⟨v3, ?_⟩
                                            refine s_X9_print (A := AC) (F := σ.1) ac_c _ _ _ (inv_any H.1) (fun r245 σ244 uI95 => ?_)
                                            have uH96 := Lz_C H uI95
                                            refine ⟨v1, ?_⟩
                                            refine ⟨v2, ?_⟩
                                            refine ⟨v3, ?_⟩
                                            refine s_X10_print (A := AR2) (F := σ244.1) ar2_r _ _ _ (inv_any uH96.1) (fun r250 σ249 uI97 => ?_)
                                            have uH98 := Lz_R uH96 uI97
                                            intro x251 ex251
                                            have ux251 := eq_t ex251
                                            exact ih x251 σ249 uH98 (by omega) (by omega)
                                          · refine ⟨?_, ?_⟩
                                            · intro uq99
                                              refine ⟨v1, ?_⟩
                                              refine ⟨v2, ?_⟩
                                              refine ⟨v3, ?_⟩
                                              refine ⟨v4, ?_⟩
                                              refine ⟨?_, ?_⟩
                                              · intro uq100
                                                refine s_X9_most (A := AC) (F := σ.1) ac_c _ _ _ _ (inv_any H.1) (fun r257 σ256 uI101 => ?_)
                                                have uH102 := Lz_C H uI101
                                                refine ⟨v1, ?_⟩
                                                refine ⟨v2, ?_⟩
                                                refine ⟨v3, ?_⟩
                                                refine ⟨v4, ?_⟩
                                                refine ⟨?_, ?_⟩
                                                · intro uq103
                                                  refine s_X10_most (A := AR2) (F := σ256.1) ar2_r _ _ _ _ (inv_any uH102.1) (fun r263 σ262 uI104 => ?_)
                                                  have uH105 := Lz_R uH102 uI104
                                                  intro x264 ex264
                                                  have ux264 := eq_t ex264
                                                  exact ih x264 σ262 uH105 (by omega) (by omega)
                                                · intro uq106
                                                  refine s_X10_most (A := AR2) (F := σ256.1) ar2_r _ _ _ _ (inv_any uH102.1) (fun r266 σ265 uI107 => ?_)
                                                  have uH108 := Lz_R uH102 uI107
                                                  intro x267 ex267
                                                  have ux267 := eq_t ex267
                                                  exact ih x267 σ265 uH108 (by omega) (by omega)
                                              · intro uq109
                                                refine s_X9_most (A := AC) (F := σ.1) ac_c _ _ _ _ (inv_any H.1) (fun r269 σ268 uI110 => ?_)
                                                have uH111 := Lz_C H uI110
                                                refine ⟨v1, ?_⟩
                                                refine ⟨v2, ?_⟩
                                                refine ⟨v3, ?_⟩
                                                refine ⟨v4, ?_⟩
                                                refine ⟨?_, ?_⟩
                                                · intro uq112
                                                  refine s_X10_most (A := AR2) (F := σ268.1) ar2_r _ _ _ _ (inv_any uH111.1) (fun r275 σ274 uI113 => ?_)
                                                  have uH114 := Lz_R uH111 uI113
                                                  intro x276 ex276
                                                  have ux276 := eq_t ex276
                                                  exact ih x276 σ274 uH114 (by omega) (by omega)
                                                · intro uq115
                                                  refine s_X10_most (A := AR2) (F := σ268.1) ar2_r _ _ _ _ (inv_any uH111.1) (fun r278 σ277 uI116 => ?_)
                                                  have uH117 := Lz_R uH111 uI116
                                                  intro x279 ex279
                                                  have ux279 := eq_t ex279
                                                  exact ih x279 σ277 uH117 (by omega) (by omega)
                                            · refine ⟨?_, ?_⟩
                                              · intro uq118
                                                refine ⟨v1, ?_⟩
                                                refine ⟨v2, ?_⟩
                                                refine ⟨v3, ?_⟩
                                                refine ⟨v4, ?_⟩
                                                refine ⟨?_, ?_⟩
                                                · intro uq119
                                                  refine s_X9_weeks (A := AC) (F := σ.1) ac_c _ _ _ _ (inv_any H.1) (fun r285 σ284 uI120 => ?_)
                                                  have uH121 := Lz_C H uI120
                                                  refine ⟨v1, ?_⟩
                                                  refine ⟨v2, ?_⟩
                                                  refine ⟨v3, ?_⟩
                                                  refine ⟨v4, ?_⟩
                                                  refine ⟨?_, ?_⟩
                                                  · intro uq122
                                                    refine s_X10_weeks (A := AR2) (F := σ284.1) ar2_r _ _ _ _ (inv_any uH121.1) (fun r291 σ290 uI123 => ?_)
                                                    have uH124 := Lz_R uH121 uI123
                                                    intro x292 ex292
                                                    have ux292 := eq_t ex292
                                                    exact ih x292 σ290 uH124 (by omega) (by omega)
                                                  · intro uq125
                                                    refine s_X10_weeks (A := AR2) (F := σ284.1) ar2_r _ _ _ _ (inv_any uH121.1) (fun r294 σ293 uI126 => ?_)
                                                    have uH127 := Lz_R uH121 uI126
                                                    intro x295 ex295
                                                    have ux295 := eq_t ex295
                                                    exact ih x295 σ293 uH127 (by omega) (by omega)
                                                · intro uq128
                                                  refine s_X9_weeks (A := AC) (F := σ.1) ac_c _ _ _ _ (inv_any H.1) (fun r297 σ296 uI129 => ?_)
                                                  have uH130 := Lz_C H uI129
                                                  refine ⟨v1, ?_⟩
                                                  refine ⟨v2, ?_⟩
                                                  refine ⟨v3, ?_⟩
                                                  refine ⟨v4, ?_⟩
                                                  refine ⟨?_, ?_⟩
                                                  · intro uq131
                                                    refine s_X10_weeks (A := AR2) (F := σ296.1) ar2_r _ _ _ _ (inv_any uH130.1) (fun r303 σ302 uI132 => ?_)
                                                    have uH133 := Lz_R uH130 uI132
                                                    intro x304 ex304
                                                    have ux304 := eq_t ex304
                                                    exact ih x304 σ302 uH133 (by omega) (by omega)
                                                  · intro uq134
                                                    refine s_X10_weeks (A := AR2) (F := σ296.1) ar2_r _ _ _ _ (inv_any uH130.1) (fun r306 σ305 uI135 => ?_)
                                                    have uH136 := Lz_R uH130 uI135
                                                    intro x307 ex307
                                                    have ux307 := eq_t ex307
                                                    exact ih x307 σ305 uH136 (by omega) (by omega)
                                              · refine ⟨?_, ?_⟩
                                                · intro uq137
                                                  refine ⟨v1, ?_⟩
                                                  refine ⟨v2, ?_⟩
                                                  refine ⟨v3, ?_⟩
                                                  refine s_X9_calm (A := AC) (F := σ.1) ac_c _ _ _ (inv_any H.1) (fun r312 σ311 uI138 => ?_)
                                                  have uH139 := Lz_C H uI138
                                                  refine ⟨v1, ?_⟩
                                                  refine ⟨v2, ?_⟩
                                                  refine ⟨v3, ?_⟩
                                                  refine s_X10_calm (A := AR2) (F := σ311.1) ar2_r _ _ _ (inv_any uH139.1) (fun r317 σ316 uI140 => ?_)
                                                  have uH141 := Lz_R uH139 uI140
                                                  intro x318 ex318
                                                  have ux318 := eq_t ex318
                                                  exact ih x318 σ316 uH141 (by omega) (by omega)
                                                · refine ⟨?_, ?_⟩
                                                  · intro uq142
                                                    refine ⟨v1, ?_⟩
                                                    refine ⟨v2, ?_⟩
                                                    refine ⟨v3, ?_⟩
                                                    refine ⟨v4, ?_⟩
                                                    refine ⟨v5, ?_⟩
                                                    refine ⟨?_, ?_⟩
                                                    · intro uq143
                                                      refine s_X9_rich (A := AC) (F := σ.1) ac_c _ _ _ _ _ (inv_any H.1) (fun r325 σ324 uI144 => ?_)
                                                      have uH145 := Lz_C H uI144
                                                      refine ⟨v1, ?_⟩
                                                      refine ⟨v2, ?_⟩
                                                      refine ⟨v3, ?_⟩
                                                      refine ⟨v4, ?_⟩
                                                      refine ⟨v5, ?_⟩
                                                      refine ⟨?_, ?_⟩
                                                      · intro uq146
                                                        refine s_X10_rich (A := AR2) (F := σ324.1) ar2_r _ _ _ _ _ (inv_any uH145.1) (fun r332 σ331 uI147 => ?_)
                                                        have uH148 := Lz_R uH145 uI147
                                                        intro x333 ex333
                                                        have ux333 := eq_t ex333
                                                        exact ih x333 σ331 uH148 (by omega) (by omega)
                                                      · intro uq149
                                                        refine s_X10_rich (A := AR2) (F := σ324.1) ar2_r _ _ _ _ _ (inv_any uH145.1) (fun r335 σ334 uI150 => ?_)
                                                        have uH151 := Lz_R uH145 uI150
                                                        intro x336 ex336
                                                        have ux336 := eq_t ex336
                                                        exact ih x336 σ334 uH151 (by omega) (by omega)
                                                    · intro uq152
                                                      refine s_X9_rich (A := AC) (F := σ.1) ac_c _ _ _ _ _ (inv_any H.1) (fun r338 σ337 uI153 => ?_)
                                                      have uH154 := Lz_C H uI153
                                                      refine ⟨v1, ?_⟩
                                                      refine ⟨v2, ?_⟩
                                                      refine ⟨v3, ?_⟩
                                                      refine ⟨v4, ?_⟩
                                                      refine ⟨v5, ?_⟩
                                                      refine ⟨?_, ?_⟩
                                                      · intro uq155
                                                        refine s_X10_rich (A := AR2) (F := σ337.1) ar2_r _ _ _ _ _ (inv_any uH154.1) (fun r345 σ344 uI156 => ?_)
                                                        have uH157 := Lz_R uH154 uI156
                                                        intro x346 ex346
                                                        have ux346 := eq_t ex346
                                                        exact ih x346 σ344 uH157 (by omega) (by omega)
                                                      · intro uq158
                                                        refine s_X10_rich (A := AR2) (F := σ337.1) ar2_r _ _ _ _ _ (inv_any uH154.1) (fun r348 σ347 uI159 => ?_)
                                                        have uH160 := Lz_R uH154 uI159
                                                        intro x349 ex349
                                                        have ux349 := eq_t ex349
                                                        exact ih x349 σ347 uH160 (by omega) (by omega)
                                                  · refine ⟨?_, ?_⟩
                                                    · intro uq161
                                                      refine ⟨v1, ?_⟩
                                                      refine ⟨v2, ?_⟩
                                                      refine ⟨v3, ?_⟩
                                                      refine ⟨v4, ?_⟩
                                                      refine ⟨v5, ?_⟩
                                                      refine s_X9_lots (A := AC) (F := σ.1) ac_c _ _ _ _ _ (inv_any H.1) (fun r356 σ355 uI162 => ?_)
                                                      have uH163 := Lz_C H uI162
                                                      refine ⟨v1, ?_⟩
                                                      refine ⟨v2, ?_⟩
                                                      refine ⟨v3, ?_⟩
                                                      refine ⟨v4, ?_⟩
                                                      refine ⟨v5, ?_⟩
                                                      refine s_X10_lots (A := AR2) (F := σ355.1) ar2_r _ _ _ _ _ (inv_any uH163.1) (fun r363 σ362 uI164 => ?_)
                                                      have uH165 := Lz_R uH163 uI164
                                                      intro x364 ex364
                                                      have ux364 := eq_t ex364
                                                      exact ih x364 σ362 uH165 (by omega) (by omega)
                                                    · refine ⟨?_, ?_⟩
                                                      · intro uq166
                                                        refine ⟨v1, ?_⟩
                                                        refine ⟨v2, ?_⟩
                                                        refine ⟨v3, ?_⟩
                                                        refine s_X9_seen _ _ _ (inv_any (B := AC) H.1) (fun r369 => ?_)
                                                        refine ⟨v1, ?_⟩
                                                        refine ⟨v2, ?_⟩
                                                        refine ⟨v3, ?_⟩
                                                        refine s_X10_seen (A := AR2) (F := σ.1) ar2_r ar2_h _ _ _ (inv_any H.1) (fun r374 σ373 uI167 => ?_)
                                                        have uH168 := Lz_R H uI167
                                                        intro x375 ex375
                                                        have ux375 := eq_t ex375
                                                        exact ih x375 σ373 uH168 (by omega) (by omega)
                                                      · refine ⟨?_, ?_⟩
                                                        · intro uq169
                                                          refine ⟨v1, ?_⟩
                                                          refine ⟨v2, ?_⟩
                                                          refine ⟨v3, ?_⟩
                                                          refine s_X9_hold (A := AC) (F := σ.1) ac_c _ _ _ (inv_any H.1) (fun r380 σ379 uI170 => ?_)
                                                          have uH171 := Lz_C H uI170
                                                          refine ⟨v1, ?_⟩
                                                          refine ⟨v2, ?_⟩
                                                          refine ⟨v3, ?_⟩
                                                          refine s_X10_hold (A := AR2) (F := σ379.1) ar2_r ar2_h _ _ _ (inv_any uH171.1) (fun r385 σ384 uI172 => ?_)
                                                          have uH173 := Lz_R uH171 uI172
                                                          intro x386 ex386
                                                          have ux386 := eq_t ex386
                                                          exact ih x386 σ384 uH173 (by omega) (by omega)
                                                        · refine ⟨?_, ?_⟩
                                                          · intro uq174
                                                            refine ⟨v1, ?_⟩
                                                            refine ⟨v2, ?_⟩
                                                            refine s_X9_risk (A := AC) (F := σ.1) ac_c _ _ (inv_any H.1) (fun r390 σ389 uI175 => ?_)
                                                            have uH176 := Lz_C H uI175
                                                            refine ⟨v1, ?_⟩
                                                            refine ⟨v2, ?_⟩
                                                            refine s_X10_risk (A := AR2) (F := σ389.1) ar2_r _ _ (inv_any uH176.1) (fun r394 σ393 uI177 => ?_)
                                                            have uH178 := Lz_R uH176 uI177
                                                            intro x395 ex395
                                                            have ux395 := eq_t ex395
                                                            exact ih x395 σ393 uH178 (by omega) (by omega)
                                                          · refine ⟨?_, ?_⟩
                                                            · intro uq179
                                                              refine ⟨v1, ?_⟩
                                                              refine ⟨v2, ?_⟩
                                                              refine ⟨v3, ?_⟩
                                                              refine ⟨v4, ?_⟩
                                                              refine ⟨?_, ?_⟩
                                                              · intro uq180
                                                                refine s_X9_vote (A := AC) (F := σ.1) ac_c _ _ _ _ (inv_any H.1) (fun r401 σ400 uI181 => ?_)
                                                                have uH182 := Lz_C H uI181
                                                                refine ⟨v1, ?_⟩
                                                                refine ⟨v2, ?_⟩
                                                                refine ⟨v3, ?_⟩
                                                                refine ⟨v4, ?_⟩
                                                                refine ⟨?_, ?_⟩
                                                                · intro uq183
                                                                  refine s_X10_vote (A := AR2) (F := σ400.1) ar2_r _ _ _ _ (inv_any uH182.1) (fun r407 σ406 uI184 => ?_)
                                                                  have uH185 := Lz_R uH182 uI184
                                                                  intro x408 ex408
                                                                  have ux408 := eq_t ex408
                                                                  exact ih x408 σ406 uH185 (by omega) (by omega)
                                                                · intro uq186
                                                                  refine s_X10_vote (A := AR2) (F := σ400.1) ar2_r _ _ _ _ (inv_any uH182.1) (fun r410 σ409 uI187 => ?_)
                                                                  have uH188 := Lz_R uH182 uI187
                                                                  intro x411 ex411
                                                                  have ux411 := eq_t ex411
                                                                  exact ih x411 σ409 uH188 (by omega) (by omega)
                                                              · intro uq189
                                                                refine s_X9_vote (A := AC) (F := σ.1) ac_c _ _ _ _ (inv_any H.1) (fun r413 σ412 uI190 => ?_)
                                                                have uH191 := Lz_C H uI190
                                                                refine ⟨v1, ?_⟩
                                                                refine ⟨v2, ?_⟩
                                                                refine ⟨v3, ?_⟩
                                                                refine ⟨v4, ?_⟩
                                                                refine ⟨?_, ?_⟩
                                                                · intro uq192
                                                                  refine s_X10_vote (A := AR2) (F := σ412.1) ar2_r _ _ _ _ (inv_any uH191.1) (fun r419 σ418 uI193 => ?_)
                                                                  have uH194 := Lz_R uH191 uI193
                                                                  intro x420 ex420
                                                                  have ux420 := eq_t ex420
                                                                  exact ih x420 σ418 uH194 (by omega) (by omega)
                                                                · intro uq195
                                                                  refine s_X10_vote (A := AR2) (F := σ412.1) ar2_r _ _ _ _ (inv_any uH191.1) (fun r422 σ421 uI196 => ?_)
                                                                  have uH197 := Lz_R uH191 uI196
                                                                  intro x423 ex423
                                                                  have ux423 := eq_t ex423
                                                                  exact ih x423 σ421 uH197 (by omega) (by omega)
                                                            · refine ⟨?_, ?_⟩
                                                              · intro uq198
                                                                refine ⟨v1, ?_⟩
                                                                refine ⟨v2, ?_⟩
                                                                refine ⟨v3, ?_⟩
                                                                refine ⟨v4, ?_⟩
                                                                refine ⟨v5, ?_⟩
                                                                refine s_X9_left (A := AC) (F := σ.1) ac_c _ _ _ _ _ (inv_any H.1) (fun r430 σ429 uI199 => ?_)
                                                                have uH200 := Lz_C H uI199
                                                                refine ⟨v1, ?_⟩
                                                                refine ⟨v2, ?_⟩
                                                                refine ⟨v3, ?_⟩
                                                                refine ⟨v4, ?_⟩
                                                                refine ⟨v5, ?_⟩
                                                                refine s_X10_left (A := AR2) (F := σ429.1) ar2_r _ _ _ _ _ (inv_any uH200.1) (fun r437 σ436 uI201 => ?_)
                                                                have uH202 := Lz_R uH200 uI201
                                                                intro x438 ex438
                                                                have ux438 := eq_t ex438
                                                                exact ih x438 σ436 uH202 (by omega) (by omega)
                                                              · refine ⟨?_, ?_⟩
                                                                · intro uq203
                                                                  refine ⟨v1, ?_⟩
                                                                  refine ⟨v2, ?_⟩
                                                                  refine ⟨v3, ?_⟩
                                                                  refine ⟨v4, ?_⟩
                                                                  refine s_X9_bid (A := AC) (F := σ.1) ac_c _ _ _ _ (inv_any H.1) (fun r444 σ443 uI204 => ?_)
                                                                  have uH205 := Lz_C H uI204
                                                                  refine ⟨v1, ?_⟩
                                                                  refine ⟨v2, ?_⟩
                                                                  refine ⟨v3, ?_⟩
                                                                  refine ⟨v4, ?_⟩
                                                                  refine r_X10_bid _ _ _ _ (inv_any uH205.1) (fun r450 σ449 uI206 => ?_)
                                                                  have uH207 := Lz_R uH205 uI206
                                                                  intro x451 ex451
                                                                  have ux451 := eq_t ex451
                                                                  exact ih x451 σ449 uH207 (by omega) (by omega)
                                                                · refine ⟨?_, ?_⟩
                                                                  · intro uq208
                                                                    refine ⟨v1, ?_⟩
                                                                    refine m_count H _ (fun r454 σ453 uz209 => ?_)
                                                                    refine ⟨v1, ?_⟩
                                                                    refine uz209 _ (fun σ456 uH210 => ?_)
                                                                    refine ⟨?_, ?_⟩
                                                                    · intro uq211
                                                                      intro x458 ex458
                                                                      have ux458 := eq_t ex458
                                                                      exact ih x458 σ456 uH210 (by omega) (by omega)
                                                                    · intro uq212
                                                                      exact absurd rfl uq212
                                                                  · refine ⟨?_, ?_⟩
                                                                    · intro uq213
                                                                      refine ⟨v1, ?_⟩
                                                                      refine m_image H _ (fun r461 σ460 uz214 => ?_)
                                                                      intro uq215
                                                                      refine ⟨v1, ?_⟩
                                                                      refine uz214 _ (fun σ463 uH216 => ?_)
                                                                      intro uq217
                                                                      intro x465 ex465
                                                                      have ux465 := eq_t ex465
                                                                      exact ih x465 σ463 uH216 (by omega) (by omega)
                                                                    · refine ⟨?_, ?_⟩
                                                                      · intro uq218
                                                                        refine ⟨v1, ?_⟩
                                                                        refine m_again H _ (fun r468 σ467 uz219 => ?_)
                                                                        intro uq220
                                                                        refine ⟨v1, ?_⟩
                                                                        refine uz219 _ (fun σ470 uH221 => ?_)
                                                                        intro uq222
                                                                        intro x472 ex472
                                                                        have ux472 := eq_t ex472
                                                                        exact ih x472 σ470 uH221 (by omega) (by omega)
                                                                      · intro uq223
                                                                        intro x473 ex473
                                                                        have ux473 := eq_t ex473
                                                                        exact ih x473 σ H (by omega) (by omega)
theorem law_all {L : Nat} (hL : L ≤ 3072) (xs : Nat → Int32) : ∃ n, w_law_18 L xs n (0 : Int32) σ0 :=
  ⟨5000, law_step hL xs 5000 (0 : Int32) σ0 Lz_0 (by rw [lit_0]; omega) (by rw [lit_0]; omega)⟩
