set_option maxHeartbeats 4000000 in
theorem law_step {L : Nat} (hL : L ≤ 3072) (xs : Nat → Int32) : ∀ (n : Nat) (x_3 : Int32) (σ : zSto), Lz σ → (0 ≤ ti x_3 ∧ ti x_3 ≤ 4000) → (4000 - ti x_3 < n) → w_law_18 L xs n x_3 σ := by
  intro n
  induction n with
  | zero =>
    intro x_3 σ H h hm
    exfalso
    omega
  | succ n ih =>
    intro x_3 σ H h hm
    unfold w_law_18
    have eL : ti (Int32.ofNat L) = (L : Int) := nI_t (by omega)
    have l1 := lit_1
    have l2 := lit_2
    have l3 := lit_3
    have l4 := lit_4
    have l5 := lit_5
    have l6 := lit_6
    have tL := tsub (x := Int32.ofNat L) (y := (6 : Int32)) (by omega)
    refine ⟨fun _ => trivial, fun q => ?_⟩
    have c := nlt_t q
    have t1 := tadd (x := x_3) (y := (1 : Int32)) (by omega)
    have t2 := tadd (x := x_3) (y := (2 : Int32)) (by omega)
    have t3 := tadd (x := x_3) (y := (3 : Int32)) (by omega)
    have t4 := tadd (x := x_3) (y := (4 : Int32)) (by omega)
    have t5 := tadd (x := x_3) (y := (5 : Int32)) (by omega)
    have t6 := tadd (x := x_3) (y := (6 : Int32)) (by omega)
    have v0 : vp_in x_3 L := vin (by omega)
    have v1 : vp_in (x_3 + (1 : Int32)) L := vin (by omega)
    have v2 : vp_in (x_3 + (2 : Int32)) L := vin (by omega)
    have v3 : vp_in (x_3 + (3 : Int32)) L := vin (by omega)
    have v4 : vp_in (x_3 + (4 : Int32)) L := vin (by omega)
    have v5 : vp_in (x_3 + (5 : Int32)) L := vin (by omega)
    refine ⟨v0, ?_⟩
    refine ⟨?_, ?_⟩
    · intro uq1
      refine ⟨v1, ?_⟩
      refine ⟨v2, ?_⟩
      refine ⟨v3, ?_⟩
      refine ⟨v4, ?_⟩
      refine ⟨v5, ?_⟩
      refine m_feed H _ _ _ _ _ (fun r8 σ7 uz2 => ?_)
      refine ⟨v1, ?_⟩
      refine ⟨v2, ?_⟩
      refine ⟨v3, ?_⟩
      refine ⟨v4, ?_⟩
      refine ⟨v5, ?_⟩
      refine uz2 _ (fun σ14 uH3 => ?_)
      intro x16 ex16
      have ux16 := eq_t ex16
      exact ih x16 σ14 uH3 (by omega) (by omega)
    · refine ⟨?_, ?_⟩
      · intro uq4
        refine ⟨v1, ?_⟩
        refine m_end H _ (fun r19 σ18 uz5 => ?_)
        refine ⟨v1, ?_⟩
        refine uz5 _ (fun σ21 uH6 => ?_)
        intro x23 ex23
        have ux23 := eq_t ex23
        exact ih x23 σ21 uH6 (by omega) (by omega)
      · refine ⟨?_, ?_⟩
        · intro uq7
          refine ⟨v1, ?_⟩
          refine ⟨v2, ?_⟩
          refine m_text H _ _ (fun r27 σ26 uz8 => ?_)
          refine ⟨v1, ?_⟩
          refine ⟨v2, ?_⟩
          refine uz8 _ (fun σ30 uH9 => ?_)
          refine ⟨?_, ?_⟩
          · intro uq10
            intro x32 ex32
            have ux32 := eq_t ex32
            exact ih x32 σ30 uH9 (by omega) (by omega)
          · intro uq11
            exact absurd rfl uq11
        · refine ⟨?_, ?_⟩
          · intro uq12
            refine ⟨v1, ?_⟩
            refine m_fault H _ (fun r35 σ34 uz13 => ?_)
            refine ⟨v1, ?_⟩
            refine uz13 _ (fun σ37 uH14 => ?_)
            intro x39 ex39
            have ux39 := eq_t ex39
            exact ih x39 σ37 uH14 (by omega) (by omega)
          · refine ⟨?_, ?_⟩
            · intro uq15
              refine ⟨v1, ?_⟩
              refine ⟨v2, ?_⟩
              refine m_line H _ _ (fun r43 σ42 uz16 => ?_)
              refine ⟨v1, ?_⟩
              refine ⟨v2, ?_⟩
              refine uz16 _ (fun σ46 uH17 => ?_)
              intro x48 ex48
              have ux48 := eq_t ex48
              exact ih x48 σ46 uH17 (by omega) (by omega)
            · refine ⟨?_, ?_⟩
              · intro uq18
                refine ⟨v1, ?_⟩
                refine ⟨v2, ?_⟩
                refine ⟨v3, ?_⟩
                refine m_post H _ _ _ (fun r53 σ52 uz19 => ?_)
                refine ⟨v1, ?_⟩
                refine ⟨v2, ?_⟩
                refine ⟨v3, ?_⟩
                refine uz19 _ (fun σ57 uH20 => ?_)
                intro x59 ex59
                have ux59 := eq_t ex59
                exact ih x59 σ57 uH20 (by omega) (by omega)
              · refine ⟨?_, ?_⟩
                · intro uq21
                  refine ⟨v1, ?_⟩
                  refine ⟨v2, ?_⟩
                  refine ⟨v3, ?_⟩
                  refine m_rider H _ _ _ (fun r64 σ63 uz22 => ?_)
                  refine ⟨v1, ?_⟩
                  refine ⟨v2, ?_⟩
                  refine ⟨v3, ?_⟩
                  refine uz22 _ (fun σ68 uH23 => ?_)
                  intro x70 ex70
                  have ux70 := eq_t ex70
                  exact ih x70 σ68 uH23 (by omega) (by omega)
                · refine ⟨?_, ?_⟩
                  · intro uq24
                    refine ⟨v1, ?_⟩
                    refine ⟨v2, ?_⟩
                    refine ⟨v3, ?_⟩
                    refine ⟨v4, ?_⟩
                    refine ⟨v5, ?_⟩
                    refine s_X9_run (A := AC) (F := σ.1) ac_c _ _ _ _ _ (inv_any H.1) (fun r77 σ76 uI25 => ?_)
                    have uH26 := Lz_C H uI25
                    refine ⟨v1, ?_⟩
                    refine ⟨v2, ?_⟩
                    refine ⟨v3, ?_⟩
                    refine ⟨v4, ?_⟩
                    refine ⟨v5, ?_⟩
                    refine s_X10_run (A := AR2) (F := σ76.1) ar2_r _ _ _ _ _ (inv_any uH26.1) (fun r84 σ83 uI27 => ?_)
                    have uH28 := Lz_R uH26 uI27
                    intro x85 ex85
                    have ux85 := eq_t ex85
                    exact ih x85 σ83 uH28 (by omega) (by omega)
                  · refine ⟨?_, ?_⟩
                    · intro uq29
                      refine ⟨v1, ?_⟩
                      refine ⟨v2, ?_⟩
                      refine ⟨v3, ?_⟩
                      refine ⟨v4, ?_⟩
                      refine ⟨v5, ?_⟩
                      refine s_X9_who (A := AC) (F := σ.1) ac_c _ _ _ _ _ (inv_any H.1) (fun r92 σ91 uI30 => ?_)
                      have uH31 := Lz_C H uI30
                      refine ⟨v1, ?_⟩
                      refine ⟨v2, ?_⟩
                      refine ⟨v3, ?_⟩
                      refine ⟨v4, ?_⟩
                      refine ⟨v5, ?_⟩
                      refine s_X10_who (A := AR2) (F := σ91.1) ar2_r _ _ _ _ _ (inv_any uH31.1) (fun r99 σ98 uI32 => ?_)
                      have uH33 := Lz_R uH31 uI32
                      intro x100 ex100
                      have ux100 := eq_t ex100
                      exact ih x100 σ98 uH33 (by omega) (by omega)
                    · refine ⟨?_, ?_⟩
                      · intro uq34
                        refine ⟨v1, ?_⟩
                        refine ⟨v2, ?_⟩
                        refine ⟨v3, ?_⟩
                        refine ⟨v4, ?_⟩
                        refine ⟨v5, ?_⟩
                        refine s_X9_late (A := AC) (F := σ.1) ac_c _ _ _ _ _ (inv_any H.1) (fun r107 σ106 uI35 => ?_)
                        have uH36 := Lz_C H uI35
                        refine ⟨v1, ?_⟩
                        refine ⟨v2, ?_⟩
                        refine ⟨v3, ?_⟩
                        refine ⟨v4, ?_⟩
                        refine ⟨v5, ?_⟩
                        refine s_X10_late (A := AR2) (F := σ106.1) ar2_r _ _ _ _ _ (inv_any uH36.1) (fun r114 σ113 uI37 => ?_)
                        have uH38 := Lz_R uH36 uI37
                        intro x115 ex115
                        have ux115 := eq_t ex115
                        exact ih x115 σ113 uH38 (by omega) (by omega)
                      · refine ⟨?_, ?_⟩
                        · intro uq39
                          refine ⟨v1, ?_⟩
                          refine ⟨v2, ?_⟩
                          refine ⟨v3, ?_⟩
                          refine ⟨v4, ?_⟩
                          refine s_X9_purse (A := AC) (F := σ.1) ac_c _ _ _ _ (inv_any H.1) (fun r121 σ120 uI40 => ?_)
                          have uH41 := Lz_C H uI40
                          refine ⟨v1, ?_⟩
                          refine ⟨v2, ?_⟩
                          refine ⟨v3, ?_⟩
                          refine ⟨v4, ?_⟩
                          refine s_X10_purse (A := AR2) (F := σ120.1) ar2_r _ _ _ _ (inv_any uH41.1) (fun r127 σ126 uI42 => ?_)
                          have uH43 := Lz_R uH41 uI42
                          intro x128 ex128
                          have ux128 := eq_t ex128
                          exact ih x128 σ126 uH43 (by omega) (by omega)
                        · refine ⟨?_, ?_⟩
                          · intro uq44
                            refine ⟨v1, ?_⟩
                            refine ⟨v2, ?_⟩
                            refine ⟨v3, ?_⟩
                            refine s_X9_rest (A := AC) (F := σ.1) ac_c _ _ _ (inv_any H.1) (fun r133 σ132 uI45 => ?_)
                            have uH46 := Lz_C H uI45
                            refine ⟨v1, ?_⟩
                            refine ⟨v2, ?_⟩
                            refine ⟨v3, ?_⟩
                            refine s_X10_rest (A := AR2) (F := σ132.1) ar2_r _ _ _ (inv_any uH46.1) (fun r138 σ137 uI47 => ?_)
                            have uH48 := Lz_R uH46 uI47
                            intro x139 ex139
                            have ux139 := eq_t ex139
                            exact ih x139 σ137 uH48 (by omega) (by omega)
                          · refine ⟨?_, ?_⟩
                            · intro uq49
                              refine ⟨v1, ?_⟩
                              refine ⟨v2, ?_⟩
                              refine ⟨v3, ?_⟩
                              refine ⟨v4, ?_⟩
                              refine s_X9_gain (A := AC) (F := σ.1) ac_c _ _ _ _ (inv_any H.1) (fun r145 σ144 uI50 => ?_)
                              have uH51 := Lz_C H uI50
                              refine ⟨v1, ?_⟩
                              refine ⟨v2, ?_⟩
                              refine ⟨v3, ?_⟩
                              refine ⟨v4, ?_⟩
                              refine s_X10_gain (A := AR2) (F := σ144.1) ar2_r _ _ _ _ (inv_any uH51.1) (fun r151 σ150 uI52 => ?_)
                              have uH53 := Lz_R uH51 uI52
                              intro x152 ex152
                              have ux152 := eq_t ex152
                              exact ih x152 σ150 uH53 (by omega) (by omega)
                            · refine ⟨?_, ?_⟩
                              · intro uq54
                                refine ⟨v1, ?_⟩
                                refine ⟨v2, ?_⟩
                                refine ⟨v3, ?_⟩
                                refine ⟨?_, ?_⟩
                                · intro uq55
                                  refine s_X9_chance (A := AC) (F := σ.1) ac_c _ _ _ (inv_any H.1) (fun r157 σ156 uI56 => ?_)
                                  have uH57 := Lz_C H uI56
                                  refine ⟨v1, ?_⟩
                                  refine ⟨v2, ?_⟩
                                  refine ⟨v3, ?_⟩
                                  refine ⟨?_, ?_⟩
                                  · intro uq58
                                    refine s_X10_chance (A := AR2) (F := σ156.1) ar2_r _ _ _ (inv_any uH57.1) (fun r162 σ161 uI59 => ?_)
                                    have uH60 := Lz_R uH57 uI59
                                    intro x163 ex163
                                    have ux163 := eq_t ex163
                                    exact ih x163 σ161 uH60 (by omega) (by omega)
                                  · intro uq61
                                    refine s_X10_chance (A := AR2) (F := σ156.1) ar2_r _ _ _ (inv_any uH57.1) (fun r165 σ164 uI62 => ?_)
                                    have uH63 := Lz_R uH57 uI62
                                    intro x166 ex166
                                    have ux166 := eq_t ex166
                                    exact ih x166 σ164 uH63 (by omega) (by omega)
                                · intro uq64
                                  refine s_X9_chance (A := AC) (F := σ.1) ac_c _ _ _ (inv_any H.1) (fun r168 σ167 uI65 => ?_)
                                  have uH66 := Lz_C H uI65
                                  refine ⟨v1, ?_⟩
                                  refine ⟨v2, ?_⟩
                                  refine ⟨v3, ?_⟩
                                  refine ⟨?_, ?_⟩
                                  · intro uq67
                                    refine s_X10_chance (A := AR2) (F := σ167.1) ar2_r _ _ _ (inv_any uH66.1) (fun r173 σ172 uI68 => ?_)
                                    have uH69 := Lz_R uH66 uI68
                                    intro x174 ex174
                                    have ux174 := eq_t ex174
                                    exact ih x174 σ172 uH69 (by omega) (by omega)
                                  · intro uq70
                                    refine s_X10_chance (A := AR2) (F := σ167.1) ar2_r _ _ _ (inv_any uH66.1) (fun r176 σ175 uI71 => ?_)
                                    have uH72 := Lz_R uH66 uI71
                                    intro x177 ex177
                                    have ux177 := eq_t ex177
                                    exact ih x177 σ175 uH72 (by omega) (by omega)
                              · refine ⟨?_, ?_⟩
                                · intro uq73
                                  refine ⟨v1, ?_⟩
                                  refine ⟨v2, ?_⟩
                                  refine s_X9_slack (A := AC) (F := σ.1) ac_c _ _ (inv_any H.1) (fun r181 σ180 uI74 => ?_)
                                  have uH75 := Lz_C H uI74
                                  refine ⟨v1, ?_⟩
                                  refine ⟨v2, ?_⟩
                                  refine s_X10_slack (A := AR2) (F := σ180.1) ar2_r _ _ (inv_any uH75.1) (fun r185 σ184 uI76 => ?_)
                                  have uH77 := Lz_R uH75 uI76
                                  intro x186 ex186
                                  have ux186 := eq_t ex186
                                  exact ih x186 σ184 uH77 (by omega) (by omega)
                                · refine ⟨?_, ?_⟩
                                  · intro uq78
                                    refine ⟨v1, ?_⟩
                                    refine ⟨v2, ?_⟩
                                    refine ⟨v3, ?_⟩
                                    refine ⟨v4, ?_⟩
                                    refine ⟨v5, ?_⟩
                                    refine s_X9_shells (A := AC) (F := σ.1) ac_c _ _ _ _ _ (inv_any H.1) (fun r193 σ192 uI79 => ?_)
                                    have uH80 := Lz_C H uI79
                                    refine ⟨v1, ?_⟩
                                    refine ⟨v2, ?_⟩
                                    refine ⟨v3, ?_⟩
                                    refine ⟨v4, ?_⟩
                                    refine ⟨v5, ?_⟩
                                    refine s_X10_shells (A := AR2) (F := σ192.1) ar2_r _ _ _ _ _ (inv_any uH80.1) (fun r200 σ199 uI81 => ?_)
                                    have uH82 := Lz_R uH80 uI81
                                    intro x201 ex201
                                    have ux201 := eq_t ex201
                                    exact ih x201 σ199 uH82 (by omega) (by omega)
                                  · refine ⟨?_, ?_⟩
                                    · intro uq83
                                      refine ⟨v1, ?_⟩
                                      refine ⟨v2, ?_⟩
                                      refine ⟨v3, ?_⟩
                                      refine ⟨v4, ?_⟩
                                      refine ⟨v5, ?_⟩
                                      refine s_X9_meet (A := AC) (F := σ.1) ac_c _ _ _ _ _ (inv_any H.1) (fun r208 σ207 uI84 => ?_)
                                      have uH85 := Lz_C H uI84
                                      refine ⟨v1, ?_⟩
                                      refine ⟨v2, ?_⟩
                                      refine ⟨v3, ?_⟩
                                      refine ⟨v4, ?_⟩
                                      refine ⟨v5, ?_⟩
                                      refine s_X10_meet (A := AR2) (F := σ207.1) ar2_r _ _ _ _ _ (inv_any uH85.1) (fun r215 σ214 uI86 => ?_)
                                      have uH87 := Lz_R uH85 uI86
                                      intro x216 ex216
                                      have ux216 := eq_t ex216
                                      exact ih x216 σ214 uH87 (by omega) (by omega)
                                    · refine ⟨?_, ?_⟩
                                      · intro uq88
                                        refine ⟨v1, ?_⟩
                                        refine ⟨v2, ?_⟩
                                        refine ⟨v3, ?_⟩
                                        refine m_pull H _ _ _ (fun r221 σ220 uz89 => ?_)
                                        refine ⟨v1, ?_⟩
                                        refine ⟨v2, ?_⟩
                                        refine ⟨v3, ?_⟩
                                        refine uz89 _ (fun σ225 uH90 => ?_)
                                        intro x227 ex227
                                        have ux227 := eq_t ex227
                                        exact ih x227 σ225 uH90 (by omega) (by omega)
                                      · refine ⟨?_, ?_⟩
                                        · intro uq91
                                          refine ⟨v1, ?_⟩
                                          refine ⟨v2, ?_⟩
                                          refine ⟨v3, ?_⟩
                                          refine ⟨v4, ?_⟩
                                          refine s_X9_played (A := AC) (F := σ.1) ac_c _ _ _ _ (inv_any H.1) (fun r233 σ232 uI92 => ?_)
                                          have uH93 := Lz_C H uI92
                                          refine ⟨v1, ?_⟩
                                          refine ⟨v2, ?_⟩
                                          refine ⟨v3, ?_⟩
                                          refine ⟨v4, ?_⟩
                                          refine s_X10_played (A := AR2) (F := σ232.1) ar2_r ar2_h _ _ _ _ (inv_any uH93.1) (fun r239 σ238 uI94 => ?_)
                                          have uH95 := Lz_R uH93 uI94
                                          intro x240 ex240
                                          have ux240 := eq_t ex240
                                          exact ih x240 σ238 uH95 (by omega) (by omega)
                                        · refine ⟨?_, ?_⟩
                                          · intro uq96
                                            refine ⟨v1, ?_⟩
                                            refine ⟨v2, ?_⟩
                                            refine ⟨v3, ?_⟩
                                            refine s_X9_print (A := AC) (F := σ.1) ac_c _ _ _ (inv_any H.1) (fun r245 σ244 uI97 => ?_)
                                            have uH98 := Lz_C H uI97
                                            refine ⟨v1, ?_⟩
                                            refine ⟨v2, ?_⟩
                                            refine ⟨v3, ?_⟩
                                            refine s_X10_print (A := AR2) (F := σ244.1) ar2_r _ _ _ (inv_any uH98.1) (fun r250 σ249 uI99 => ?_)
                                            have uH100 := Lz_R uH98 uI99
                                            intro x251 ex251
                                            have ux251 := eq_t ex251
                                            exact ih x251 σ249 uH100 (by omega) (by omega)
                                          · refine ⟨?_, ?_⟩
                                            · intro uq101
                                              refine ⟨v1, ?_⟩
                                              refine ⟨v2, ?_⟩
                                              refine ⟨v3, ?_⟩
                                              refine ⟨v4, ?_⟩
                                              refine ⟨?_, ?_⟩
                                              · intro uq102
                                                refine s_X9_most (A := AC) (F := σ.1) ac_c _ _ _ _ (inv_any H.1) (fun r257 σ256 uI103 => ?_)
                                                have uH104 := Lz_C H uI103
                                                refine ⟨v1, ?_⟩
                                                refine ⟨v2, ?_⟩
                                                refine ⟨v3, ?_⟩
                                                refine ⟨v4, ?_⟩
                                                refine ⟨?_, ?_⟩
                                                · intro uq105
                                                  refine s_X10_most (A := AR2) (F := σ256.1) ar2_r _ _ _ _ (inv_any uH104.1) (fun r263 σ262 uI106 => ?_)
                                                  have uH107 := Lz_R uH104 uI106
                                                  intro x264 ex264
                                                  have ux264 := eq_t ex264
                                                  exact ih x264 σ262 uH107 (by omega) (by omega)
                                                · intro uq108
                                                  refine s_X10_most (A := AR2) (F := σ256.1) ar2_r _ _ _ _ (inv_any uH104.1) (fun r266 σ265 uI109 => ?_)
                                                  have uH110 := Lz_R uH104 uI109
                                                  intro x267 ex267
                                                  have ux267 := eq_t ex267
                                                  exact ih x267 σ265 uH110 (by omega) (by omega)
                                              · intro uq111
                                                refine s_X9_most (A := AC) (F := σ.1) ac_c _ _ _ _ (inv_any H.1) (fun r269 σ268 uI112 => ?_)
                                                have uH113 := Lz_C H uI112
                                                refine ⟨v1, ?_⟩
                                                refine ⟨v2, ?_⟩
                                                refine ⟨v3, ?_⟩
                                                refine ⟨v4, ?_⟩
                                                refine ⟨?_, ?_⟩
                                                · intro uq114
                                                  refine s_X10_most (A := AR2) (F := σ268.1) ar2_r _ _ _ _ (inv_any uH113.1) (fun r275 σ274 uI115 => ?_)
                                                  have uH116 := Lz_R uH113 uI115
                                                  intro x276 ex276
                                                  have ux276 := eq_t ex276
                                                  exact ih x276 σ274 uH116 (by omega) (by omega)
                                                · intro uq117
                                                  refine s_X10_most (A := AR2) (F := σ268.1) ar2_r _ _ _ _ (inv_any uH113.1) (fun r278 σ277 uI118 => ?_)
                                                  have uH119 := Lz_R uH113 uI118
                                                  intro x279 ex279
                                                  have ux279 := eq_t ex279
                                                  exact ih x279 σ277 uH119 (by omega) (by omega)
                                            · refine ⟨?_, ?_⟩
                                              · intro uq120
                                                refine ⟨v1, ?_⟩
                                                refine ⟨v2, ?_⟩
                                                refine ⟨v3, ?_⟩
                                                refine ⟨v4, ?_⟩
                                                refine ⟨?_, ?_⟩
                                                · intro uq121
                                                  refine s_X9_weeks (A := AC) (F := σ.1) ac_c _ _ _ _ (inv_any H.1) (fun r285 σ284 uI122 => ?_)
                                                  have uH123 := Lz_C H uI122
                                                  refine ⟨v1, ?_⟩
                                                  refine ⟨v2, ?_⟩
                                                  refine ⟨v3, ?_⟩
                                                  refine ⟨v4, ?_⟩
                                                  refine ⟨?_, ?_⟩
                                                  · intro uq124
                                                    refine s_X10_weeks (A := AR2) (F := σ284.1) ar2_r _ _ _ _ (inv_any uH123.1) (fun r291 σ290 uI125 => ?_)
                                                    have uH126 := Lz_R uH123 uI125
                                                    intro x292 ex292
                                                    have ux292 := eq_t ex292
                                                    exact ih x292 σ290 uH126 (by omega) (by omega)
                                                  · intro uq127
                                                    refine s_X10_weeks (A := AR2) (F := σ284.1) ar2_r _ _ _ _ (inv_any uH123.1) (fun r294 σ293 uI128 => ?_)
                                                    have uH129 := Lz_R uH123 uI128
                                                    intro x295 ex295
                                                    have ux295 := eq_t ex295
                                                    exact ih x295 σ293 uH129 (by omega) (by omega)
                                                · intro uq130
                                                  refine s_X9_weeks (A := AC) (F := σ.1) ac_c _ _ _ _ (inv_any H.1) (fun r297 σ296 uI131 => ?_)
                                                  have uH132 := Lz_C H uI131
                                                  refine ⟨v1, ?_⟩
                                                  refine ⟨v2, ?_⟩
                                                  refine ⟨v3, ?_⟩
                                                  refine ⟨v4, ?_⟩
                                                  refine ⟨?_, ?_⟩
                                                  · intro uq133
                                                    refine s_X10_weeks (A := AR2) (F := σ296.1) ar2_r _ _ _ _ (inv_any uH132.1) (fun r303 σ302 uI134 => ?_)
                                                    have uH135 := Lz_R uH132 uI134
                                                    intro x304 ex304
                                                    have ux304 := eq_t ex304
                                                    exact ih x304 σ302 uH135 (by omega) (by omega)
                                                  · intro uq136
                                                    refine s_X10_weeks (A := AR2) (F := σ296.1) ar2_r _ _ _ _ (inv_any uH132.1) (fun r306 σ305 uI137 => ?_)
                                                    have uH138 := Lz_R uH132 uI137
                                                    intro x307 ex307
                                                    have ux307 := eq_t ex307
                                                    exact ih x307 σ305 uH138 (by omega) (by omega)
                                              · refine ⟨?_, ?_⟩
                                                · intro uq139
                                                  refine ⟨v1, ?_⟩
                                                  refine ⟨v2, ?_⟩
                                                  refine ⟨v3, ?_⟩
                                                  refine s_X9_calm (A := AC) (F := σ.1) ac_c _ _ _ (inv_any H.1) (fun r312 σ311 uI140 => ?_)
                                                  have uH141 := Lz_C H uI140
                                                  refine ⟨v1, ?_⟩
                                                  refine ⟨v2, ?_⟩
                                                  refine ⟨v3, ?_⟩
                                                  refine s_X10_calm (A := AR2) (F := σ311.1) ar2_r _ _ _ (inv_any uH141.1) (fun r317 σ316 uI142 => ?_)
                                                  have uH143 := Lz_R uH141 uI142
                                                  intro x318 ex318
                                                  have ux318 := eq_t ex318
                                                  exact ih x318 σ316 uH143 (by omega) (by omega)
                                                · refine ⟨?_, ?_⟩
                                                  · intro uq144
                                                    refine ⟨v1, ?_⟩
                                                    refine ⟨v2, ?_⟩
                                                    refine ⟨v3, ?_⟩
                                                    refine ⟨v4, ?_⟩
                                                    refine ⟨v5, ?_⟩
                                                    refine ⟨?_, ?_⟩
                                                    · intro uq145
                                                      refine s_X9_rich (A := AC) (F := σ.1) ac_c _ _ _ _ _ (inv_any H.1) (fun r325 σ324 uI146 => ?_)
                                                      have uH147 := Lz_C H uI146
                                                      refine ⟨v1, ?_⟩
                                                      refine ⟨v2, ?_⟩
                                                      refine ⟨v3, ?_⟩
                                                      refine ⟨v4, ?_⟩
                                                      refine ⟨v5, ?_⟩
                                                      refine ⟨?_, ?_⟩
                                                      · intro uq148
                                                        refine s_X10_rich (A := AR2) (F := σ324.1) ar2_r _ _ _ _ _ (inv_any uH147.1) (fun r332 σ331 uI149 => ?_)
                                                        have uH150 := Lz_R uH147 uI149
                                                        intro x333 ex333
                                                        have ux333 := eq_t ex333
                                                        exact ih x333 σ331 uH150 (by omega) (by omega)
                                                      · intro uq151
                                                        refine s_X10_rich (A := AR2) (F := σ324.1) ar2_r _ _ _ _ _ (inv_any uH147.1) (fun r335 σ334 uI152 => ?_)
                                                        have uH153 := Lz_R uH147 uI152
                                                        intro x336 ex336
                                                        have ux336 := eq_t ex336
                                                        exact ih x336 σ334 uH153 (by omega) (by omega)
                                                    · intro uq154
                                                      refine s_X9_rich (A := AC) (F := σ.1) ac_c _ _ _ _ _ (inv_any H.1) (fun r338 σ337 uI155 => ?_)
                                                      have uH156 := Lz_C H uI155
                                                      refine ⟨v1, ?_⟩
                                                      refine ⟨v2, ?_⟩
                                                      refine ⟨v3, ?_⟩
                                                      refine ⟨v4, ?_⟩
                                                      refine ⟨v5, ?_⟩
                                                      refine ⟨?_, ?_⟩
                                                      · intro uq157
                                                        refine s_X10_rich (A := AR2) (F := σ337.1) ar2_r _ _ _ _ _ (inv_any uH156.1) (fun r345 σ344 uI158 => ?_)
                                                        have uH159 := Lz_R uH156 uI158
                                                        intro x346 ex346
                                                        have ux346 := eq_t ex346
                                                        exact ih x346 σ344 uH159 (by omega) (by omega)
                                                      · intro uq160
                                                        refine s_X10_rich (A := AR2) (F := σ337.1) ar2_r _ _ _ _ _ (inv_any uH156.1) (fun r348 σ347 uI161 => ?_)
                                                        have uH162 := Lz_R uH156 uI161
                                                        intro x349 ex349
                                                        have ux349 := eq_t ex349
                                                        exact ih x349 σ347 uH162 (by omega) (by omega)
                                                  · refine ⟨?_, ?_⟩
                                                    · intro uq163
                                                      refine ⟨v1, ?_⟩
                                                      refine ⟨v2, ?_⟩
                                                      refine ⟨v3, ?_⟩
                                                      refine ⟨v4, ?_⟩
                                                      refine ⟨v5, ?_⟩
                                                      refine s_X9_lots (A := AC) (F := σ.1) ac_c _ _ _ _ _ (inv_any H.1) (fun r356 σ355 uI164 => ?_)
                                                      have uH165 := Lz_C H uI164
                                                      refine ⟨v1, ?_⟩
                                                      refine ⟨v2, ?_⟩
                                                      refine ⟨v3, ?_⟩
                                                      refine ⟨v4, ?_⟩
                                                      refine ⟨v5, ?_⟩
                                                      refine s_X10_lots (A := AR2) (F := σ355.1) ar2_r _ _ _ _ _ (inv_any uH165.1) (fun r363 σ362 uI166 => ?_)
                                                      have uH167 := Lz_R uH165 uI166
                                                      intro x364 ex364
                                                      have ux364 := eq_t ex364
                                                      exact ih x364 σ362 uH167 (by omega) (by omega)
                                                    · refine ⟨?_, ?_⟩
                                                      · intro uq168
                                                        refine ⟨v1, ?_⟩
                                                        refine ⟨v2, ?_⟩
                                                        refine ⟨v3, ?_⟩
                                                        refine m_seen H _ _ _ (fun r369 σ368 uz169 => ?_)
                                                        refine ⟨v1, ?_⟩
                                                        refine ⟨v2, ?_⟩
                                                        refine ⟨v3, ?_⟩
                                                        refine uz169 _ (fun σ373 uH170 => ?_)
                                                        intro x375 ex375
                                                        have ux375 := eq_t ex375
                                                        exact ih x375 σ373 uH170 (by omega) (by omega)
                                                      · refine ⟨?_, ?_⟩
                                                        · intro uq171
                                                          refine ⟨v1, ?_⟩
                                                          refine ⟨v2, ?_⟩
                                                          refine ⟨v3, ?_⟩
                                                          refine s_X9_hold (A := AC) (F := σ.1) ac_c _ _ _ (inv_any H.1) (fun r380 σ379 uI172 => ?_)
                                                          have uH173 := Lz_C H uI172
                                                          refine ⟨v1, ?_⟩
                                                          refine ⟨v2, ?_⟩
                                                          refine ⟨v3, ?_⟩
                                                          refine s_X10_hold (A := AR2) (F := σ379.1) ar2_r ar2_h _ _ _ (inv_any uH173.1) (fun r385 σ384 uI174 => ?_)
                                                          have uH175 := Lz_R uH173 uI174
                                                          intro x386 ex386
                                                          have ux386 := eq_t ex386
                                                          exact ih x386 σ384 uH175 (by omega) (by omega)
                                                        · refine ⟨?_, ?_⟩
                                                          · intro uq176
                                                            refine ⟨v1, ?_⟩
                                                            refine ⟨v2, ?_⟩
                                                            refine s_X9_risk (A := AC) (F := σ.1) ac_c _ _ (inv_any H.1) (fun r390 σ389 uI177 => ?_)
                                                            have uH178 := Lz_C H uI177
                                                            refine ⟨v1, ?_⟩
                                                            refine ⟨v2, ?_⟩
                                                            refine s_X10_risk (A := AR2) (F := σ389.1) ar2_r _ _ (inv_any uH178.1) (fun r394 σ393 uI179 => ?_)
                                                            have uH180 := Lz_R uH178 uI179
                                                            intro x395 ex395
                                                            have ux395 := eq_t ex395
                                                            exact ih x395 σ393 uH180 (by omega) (by omega)
                                                          · refine ⟨?_, ?_⟩
                                                            · intro uq181
                                                              refine ⟨v1, ?_⟩
                                                              refine ⟨v2, ?_⟩
                                                              refine ⟨v3, ?_⟩
                                                              refine ⟨v4, ?_⟩
                                                              refine ⟨?_, ?_⟩
                                                              · intro uq182
                                                                refine s_X9_vote (A := AC) (F := σ.1) ac_c _ _ _ _ (inv_any H.1) (fun r401 σ400 uI183 => ?_)
                                                                have uH184 := Lz_C H uI183
                                                                refine ⟨v1, ?_⟩
                                                                refine ⟨v2, ?_⟩
                                                                refine ⟨v3, ?_⟩
                                                                refine ⟨v4, ?_⟩
                                                                refine ⟨?_, ?_⟩
                                                                · intro uq185
                                                                  refine s_X10_vote (A := AR2) (F := σ400.1) ar2_r _ _ _ _ (inv_any uH184.1) (fun r407 σ406 uI186 => ?_)
                                                                  have uH187 := Lz_R uH184 uI186
                                                                  intro x408 ex408
                                                                  have ux408 := eq_t ex408
                                                                  exact ih x408 σ406 uH187 (by omega) (by omega)
                                                                · intro uq188
                                                                  refine s_X10_vote (A := AR2) (F := σ400.1) ar2_r _ _ _ _ (inv_any uH184.1) (fun r410 σ409 uI189 => ?_)
                                                                  have uH190 := Lz_R uH184 uI189
                                                                  intro x411 ex411
                                                                  have ux411 := eq_t ex411
                                                                  exact ih x411 σ409 uH190 (by omega) (by omega)
                                                              · intro uq191
                                                                refine s_X9_vote (A := AC) (F := σ.1) ac_c _ _ _ _ (inv_any H.1) (fun r413 σ412 uI192 => ?_)
                                                                have uH193 := Lz_C H uI192
                                                                refine ⟨v1, ?_⟩
                                                                refine ⟨v2, ?_⟩
                                                                refine ⟨v3, ?_⟩
                                                                refine ⟨v4, ?_⟩
                                                                refine ⟨?_, ?_⟩
                                                                · intro uq194
                                                                  refine s_X10_vote (A := AR2) (F := σ412.1) ar2_r _ _ _ _ (inv_any uH193.1) (fun r419 σ418 uI195 => ?_)
                                                                  have uH196 := Lz_R uH193 uI195
                                                                  intro x420 ex420
                                                                  have ux420 := eq_t ex420
                                                                  exact ih x420 σ418 uH196 (by omega) (by omega)
                                                                · intro uq197
                                                                  refine s_X10_vote (A := AR2) (F := σ412.1) ar2_r _ _ _ _ (inv_any uH193.1) (fun r422 σ421 uI198 => ?_)
                                                                  have uH199 := Lz_R uH193 uI198
                                                                  intro x423 ex423
                                                                  have ux423 := eq_t ex423
                                                                  exact ih x423 σ421 uH199 (by omega) (by omega)
                                                            · refine ⟨?_, ?_⟩
                                                              · intro uq200
                                                                refine ⟨v1, ?_⟩
                                                                refine ⟨v2, ?_⟩
                                                                refine ⟨v3, ?_⟩
                                                                refine ⟨v4, ?_⟩
                                                                refine ⟨v5, ?_⟩
                                                                refine s_X9_left (A := AC) (F := σ.1) ac_c _ _ _ _ _ (inv_any H.1) (fun r430 σ429 uI201 => ?_)
                                                                have uH202 := Lz_C H uI201
                                                                refine ⟨v1, ?_⟩
                                                                refine ⟨v2, ?_⟩
                                                                refine ⟨v3, ?_⟩
                                                                refine ⟨v4, ?_⟩
                                                                refine ⟨v5, ?_⟩
                                                                refine s_X10_left (A := AR2) (F := σ429.1) ar2_r _ _ _ _ _ (inv_any uH202.1) (fun r437 σ436 uI203 => ?_)
                                                                have uH204 := Lz_R uH202 uI203
                                                                intro x438 ex438
                                                                have ux438 := eq_t ex438
                                                                exact ih x438 σ436 uH204 (by omega) (by omega)
                                                              · refine ⟨?_, ?_⟩
                                                                · intro uq205
                                                                  refine ⟨v1, ?_⟩
                                                                  refine ⟨v2, ?_⟩
                                                                  refine ⟨v3, ?_⟩
                                                                  refine ⟨v4, ?_⟩
                                                                  refine s_X9_bid (A := AC) (F := σ.1) ac_c _ _ _ _ (inv_any H.1) (fun r444 σ443 uI206 => ?_)
                                                                  have uH207 := Lz_C H uI206
                                                                  refine ⟨v1, ?_⟩
                                                                  refine ⟨v2, ?_⟩
                                                                  refine ⟨v3, ?_⟩
                                                                  refine ⟨v4, ?_⟩
                                                                  refine r_X10_bid _ _ _ _ (inv_any uH207.1) (fun r450 σ449 uI208 => ?_)
                                                                  have uH209 := Lz_R uH207 uI208
                                                                  intro x451 ex451
                                                                  have ux451 := eq_t ex451
                                                                  exact ih x451 σ449 uH209 (by omega) (by omega)
                                                                · refine ⟨?_, ?_⟩
                                                                  · intro uq210
                                                                    refine ⟨v1, ?_⟩
                                                                    refine m_count H _ (fun r454 σ453 uz211 => ?_)
                                                                    refine ⟨v1, ?_⟩
                                                                    refine uz211 _ (fun σ456 uH212 => ?_)
                                                                    intro x458 ex458
                                                                    have ux458 := eq_t ex458
                                                                    exact ih x458 σ456 uH212 (by omega) (by omega)
                                                                  · refine ⟨?_, ?_⟩
                                                                    · intro uq213
                                                                      refine ⟨v1, ?_⟩
                                                                      refine m_image H _ (fun r461 σ460 uz214 => ?_)
                                                                      intro uq215
                                                                      refine ⟨v1, ?_⟩
                                                                      refine uz214 _ (fun σ463 uH216 => ?_)
                                                                      intro uq217
                                                                      intro x465 ex465
                                                                      have ux465 := eq_t ex465
                                                                      exact ih x465 σ463 uH216 (by omega) (by omega)
                                                                    · refine ⟨?_, ?_⟩
                                                                      · intro uq218
                                                                        refine ⟨v1, ?_⟩
                                                                        refine m_again H _ (fun r468 σ467 uz219 => ?_)
                                                                        intro uq220
                                                                        refine ⟨v1, ?_⟩
                                                                        refine uz219 _ (fun σ470 uH221 => ?_)
                                                                        intro uq222
                                                                        intro x472 ex472
                                                                        have ux472 := eq_t ex472
                                                                        exact ih x472 σ470 uH221 (by omega) (by omega)
                                                                      · intro uq223
                                                                        intro x473 ex473
                                                                        have ux473 := eq_t ex473
                                                                        exact ih x473 σ H (by omega) (by omega)
theorem law_all {L : Nat} (hL : L ≤ 3072) (xs : Nat → Int32) : ∃ n, w_law_18 L xs n (0 : Int32) σ0 :=
  ⟨5000, law_step hL xs 5000 (0 : Int32) σ0 Lz_0 (by rw [lit_0]; omega) (by rw [lit_0]; omega)⟩
