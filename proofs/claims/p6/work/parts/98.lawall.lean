set_option maxHeartbeats 4000000 in
theorem law_step {L : Nat} (hL : L ≤ 3072) (xs : Nat → Int32) : ∀ (n : Nat) (x_3 : Int32) (σ : zSto), Lz σ → (0 ≤ ti x_3 ∧ ti x_3 ≤ 4000) → (4000 - ti x_3 < n) → w_law_18 L xs n x_3 σ := by
  intro n
  induction n with
  | zero =>
    intro x_3 σ H h hm
    exfalso
    omega
  | succ n ih =>
    intro x_3 σ H h hm
    unfold w_law_18
    have eL : ti (Int32.ofNat L) = (L : Int) := nI_t (by omega)
    have l1 := lit_1
    have l2 := lit_2
    have l3 := lit_3
    have l4 := lit_4
    have l5 := lit_5
    have l6 := lit_6
    have tL := tsub (x := Int32.ofNat L) (y := (6 : Int32)) (by omega)
    refine ⟨fun _ => trivial, fun q => ?_⟩
    have c := nlt_t q
    have t1 := tadd (x := x_3) (y := (1 : Int32)) (by omega)
    have t2 := tadd (x := x_3) (y := (2 : Int32)) (by omega)
    have t3 := tadd (x := x_3) (y := (3 : Int32)) (by omega)
    have t4 := tadd (x := x_3) (y := (4 : Int32)) (by omega)
    have t5 := tadd (x := x_3) (y := (5 : Int32)) (by omega)
    have t6 := tadd (x := x_3) (y := (6 : Int32)) (by omega)
    have v0 : vp_in x_3 L := vin (by omega)
    have v1 : vp_in (x_3 + (1 : Int32)) L := vin (by omega)
    have v2 : vp_in (x_3 + (2 : Int32)) L := vin (by omega)
    have v3 : vp_in (x_3 + (3 : Int32)) L := vin (by omega)
    have v4 : vp_in (x_3 + (4 : Int32)) L := vin (by omega)
    have v5 : vp_in (x_3 + (5 : Int32)) L := vin (by omega)
    refine ⟨v0, ?_⟩
    refine ⟨?_, ?_⟩
    · intro uq1
      refine ⟨v1, ?_⟩
      refine ⟨v2, ?_⟩
      refine ⟨v3, ?_⟩
      refine ⟨v4, ?_⟩
      refine ⟨v5, ?_⟩
      refine m_feed H _ _ _ _ _ (fun r8 σ7 uz2 => ?_)
      refine ⟨v1, ?_⟩
      refine ⟨v2, ?_⟩
      refine ⟨v3, ?_⟩
      refine ⟨v4, ?_⟩
      refine ⟨v5, ?_⟩
      refine uz2 _ (fun σ14 uH3 => ?_)
      intro x16 ex16
      have ux16 := eq_t ex16
      exact ih x16 σ14 uH3 (by omega) (by omega)
    · refine ⟨?_, ?_⟩
      · intro uq4
        refine ⟨v1, ?_⟩
        refine m_end H _ (fun r19 σ18 uz5 => ?_)
        refine ⟨v1, ?_⟩
        refine uz5 _ (fun σ21 uH6 => ?_)
        intro x23 ex23
        have ux23 := eq_t ex23
        exact ih x23 σ21 uH6 (by omega) (by omega)
      · refine ⟨?_, ?_⟩
        · intro uq7
          refine ⟨v1, ?_⟩
          refine ⟨v2, ?_⟩
          refine m_text H _ _ (fun r27 σ26 uz8 => ?_)
          refine ⟨v1, ?_⟩
          refine ⟨v2, ?_⟩
          refine uz8 _ (fun σ30 uH9 => ?_)
          intro x32 ex32
          have ux32 := eq_t ex32
          exact ih x32 σ30 uH9 (by omega) (by omega)
        · refine ⟨?_, ?_⟩
          · intro uq10
            refine ⟨v1, ?_⟩
            refine m_fault H _ (fun r35 σ34 uz11 => ?_)
            refine ⟨v1, ?_⟩
            refine uz11 _ (fun σ37 uH12 => ?_)
            intro x39 ex39
            have ux39 := eq_t ex39
            exact ih x39 σ37 uH12 (by omega) (by omega)
          · refine ⟨?_, ?_⟩
            · intro uq13
              refine ⟨v1, ?_⟩
              refine ⟨v2, ?_⟩
              refine m_line H _ _ (fun r43 σ42 uz14 => ?_)
              refine ⟨v1, ?_⟩
              refine ⟨v2, ?_⟩
              refine uz14 _ (fun σ46 uH15 => ?_)
              refine ⟨?_, ?_⟩
              · intro uq16
                intro x48 ex48
                have ux48 := eq_t ex48
                exact ih x48 σ46 uH15 (by omega) (by omega)
              · intro uq17
                exact absurd rfl uq17
            · refine ⟨?_, ?_⟩
              · intro uq18
                refine ⟨v1, ?_⟩
                refine ⟨v2, ?_⟩
                refine ⟨v3, ?_⟩
                refine m_post H _ _ _ (fun r53 σ52 uz19 => ?_)
                refine ⟨v1, ?_⟩
                refine ⟨v2, ?_⟩
                refine ⟨v3, ?_⟩
                refine uz19 _ (fun σ57 uH20 => ?_)
                intro x59 ex59
                have ux59 := eq_t ex59
                exact ih x59 σ57 uH20 (by omega) (by omega)
              · refine ⟨?_, ?_⟩
                · intro uq21
                  refine ⟨v1, ?_⟩
                  refine ⟨v2, ?_⟩
                  refine ⟨v3, ?_⟩
                  refine m_rider H _ _ _ (fun r64 σ63 uz22 => ?_)
                  refine ⟨v1, ?_⟩
                  refine ⟨v2, ?_⟩
                  refine ⟨v3, ?_⟩
                  refine uz22 _ (fun σ68 uH23 => ?_)
                  intro x70 ex70
                  have ux70 := eq_t ex70
                  exact ih x70 σ68 uH23 (by omega) (by omega)
                · refine ⟨?_, ?_⟩
                  · intro uq24
                    refine ⟨v1, ?_⟩
                    refine ⟨v2, ?_⟩
                    refine ⟨v3, ?_⟩
                    refine ⟨v4, ?_⟩
                    refine ⟨v5, ?_⟩
                    refine m_run H _ _ _ _ _ (fun r77 σ76 uz25 => ?_)
                    refine ⟨v1, ?_⟩
                    refine ⟨v2, ?_⟩
                    refine ⟨v3, ?_⟩
                    refine ⟨v4, ?_⟩
                    refine ⟨v5, ?_⟩
                    refine uz25 _ (fun σ83 uH26 => ?_)
                    intro x85 ex85
                    have ux85 := eq_t ex85
                    exact ih x85 σ83 uH26 (by omega) (by omega)
                  · refine ⟨?_, ?_⟩
                    · intro uq27
                      refine ⟨v1, ?_⟩
                      refine ⟨v2, ?_⟩
                      refine ⟨v3, ?_⟩
                      refine ⟨v4, ?_⟩
                      refine ⟨v5, ?_⟩
                      refine m_who H _ _ _ _ _ (fun r92 σ91 uz28 => ?_)
                      refine ⟨v1, ?_⟩
                      refine ⟨v2, ?_⟩
                      refine ⟨v3, ?_⟩
                      refine ⟨v4, ?_⟩
                      refine ⟨v5, ?_⟩
                      refine uz28 _ (fun σ98 uH29 => ?_)
                      intro x100 ex100
                      have ux100 := eq_t ex100
                      exact ih x100 σ98 uH29 (by omega) (by omega)
                    · refine ⟨?_, ?_⟩
                      · intro uq30
                        refine ⟨v1, ?_⟩
                        refine ⟨v2, ?_⟩
                        refine ⟨v3, ?_⟩
                        refine ⟨v4, ?_⟩
                        refine ⟨v5, ?_⟩
                        refine m_late H _ _ _ _ _ (fun r107 σ106 uz31 => ?_)
                        refine ⟨v1, ?_⟩
                        refine ⟨v2, ?_⟩
                        refine ⟨v3, ?_⟩
                        refine ⟨v4, ?_⟩
                        refine ⟨v5, ?_⟩
                        refine uz31 _ (fun σ113 uH32 => ?_)
                        intro x115 ex115
                        have ux115 := eq_t ex115
                        exact ih x115 σ113 uH32 (by omega) (by omega)
                      · refine ⟨?_, ?_⟩
                        · intro uq33
                          refine ⟨v1, ?_⟩
                          refine ⟨v2, ?_⟩
                          refine ⟨v3, ?_⟩
                          refine ⟨v4, ?_⟩
                          refine s_X9_purse (A := AC) (F := σ.1) ac_c _ _ _ _ (inv_any H.1) (fun r121 σ120 uI34 => ?_)
                          have uH35 := Lz_C H uI34
                          refine ⟨v1, ?_⟩
                          refine ⟨v2, ?_⟩
                          refine ⟨v3, ?_⟩
                          refine ⟨v4, ?_⟩
                          refine s_X10_purse (A := AR2) (F := σ120.1) ar2_r _ _ _ _ (inv_any uH35.1) (fun r127 σ126 uI36 => ?_)
                          have uH37 := Lz_R uH35 uI36
                          intro x128 ex128
                          have ux128 := eq_t ex128
                          exact ih x128 σ126 uH37 (by omega) (by omega)
                        · refine ⟨?_, ?_⟩
                          · intro uq38
                            refine ⟨v1, ?_⟩
                            refine ⟨v2, ?_⟩
                            refine ⟨v3, ?_⟩
                            refine s_X9_rest (A := AC) (F := σ.1) ac_c _ _ _ (inv_any H.1) (fun r133 σ132 uI39 => ?_)
                            have uH40 := Lz_C H uI39
                            refine ⟨v1, ?_⟩
                            refine ⟨v2, ?_⟩
                            refine ⟨v3, ?_⟩
                            refine s_X10_rest (A := AR2) (F := σ132.1) ar2_r _ _ _ (inv_any uH40.1) (fun r138 σ137 uI41 => ?_)
                            have uH42 := Lz_R uH40 uI41
                            intro x139 ex139
                            have ux139 := eq_t ex139
                            exact ih x139 σ137 uH42 (by omega) (by omega)
                          · refine ⟨?_, ?_⟩
                            · intro uq43
                              refine ⟨v1, ?_⟩
                              refine ⟨v2, ?_⟩
                              refine ⟨v3, ?_⟩
                              refine ⟨v4, ?_⟩
                              refine m_gain H _ _ _ _ (fun r145 σ144 uz44 => ?_)
                              refine ⟨v1, ?_⟩
                              refine ⟨v2, ?_⟩
                              refine ⟨v3, ?_⟩
                              refine ⟨v4, ?_⟩
                              refine uz44 _ (fun σ150 uH45 => ?_)
                              intro x152 ex152
                              have ux152 := eq_t ex152
                              exact ih x152 σ150 uH45 (by omega) (by omega)
                            · refine ⟨?_, ?_⟩
                              · intro uq46
                                refine ⟨v1, ?_⟩
                                refine ⟨v2, ?_⟩
                                refine ⟨v3, ?_⟩
                                refine ⟨?_, ?_⟩
                                · intro uq47
                                  refine s_X9_chance (A := AC) (F := σ.1) ac_c _ _ _ (inv_any H.1) (fun r157 σ156 uI48 => ?_)
                                  have uH49 := Lz_C H uI48
                                  refine ⟨v1, ?_⟩
                                  refine ⟨v2, ?_⟩
                                  refine ⟨v3, ?_⟩
                                  refine ⟨?_, ?_⟩
                                  · intro uq50
                                    refine s_X10_chance (A := AR2) (F := σ156.1) ar2_r _ _ _ (inv_any uH49.1) (fun r162 σ161 uI51 => ?_)
                                    have uH52 := Lz_R uH49 uI51
                                    intro x163 ex163
                                    have ux163 := eq_t ex163
                                    exact ih x163 σ161 uH52 (by omega) (by omega)
                                  · intro uq53
                                    exact absurd uq47 uq53
                                · intro uq54
                                  refine s_X9_chance (A := AC) (F := σ.1) ac_c _ _ _ (inv_any H.1) (fun r168 σ167 uI55 => ?_)
                                  have uH56 := Lz_C H uI55
                                  refine ⟨v1, ?_⟩
                                  refine ⟨v2, ?_⟩
                                  refine ⟨v3, ?_⟩
                                  refine ⟨?_, ?_⟩
                                  · intro uq57
                                    exact absurd uq57 uq54
                                  · intro uq58
                                    refine s_X10_chance (A := AR2) (F := σ167.1) ar2_r _ _ _ (inv_any uH56.1) (fun r176 σ175 uI59 => ?_)
                                    have uH60 := Lz_R uH56 uI59
                                    intro x177 ex177
                                    have ux177 := eq_t ex177
                                    exact ih x177 σ175 uH60 (by omega) (by omega)
                              · refine ⟨?_, ?_⟩
                                · intro uq61
                                  refine ⟨v1, ?_⟩
                                  refine ⟨v2, ?_⟩
                                  refine s_X9_slack (A := AC) (F := σ.1) ac_c _ _ (inv_any H.1) (fun r181 σ180 uI62 => ?_)
                                  have uH63 := Lz_C H uI62
                                  refine ⟨v1, ?_⟩
                                  refine ⟨v2, ?_⟩
                                  refine s_X10_slack (A := AR2) (F := σ180.1) ar2_r _ _ (inv_any uH63.1) (fun r185 σ184 uI64 => ?_)
                                  have uH65 := Lz_R uH63 uI64
                                  intro x186 ex186
                                  have ux186 := eq_t ex186
                                  exact ih x186 σ184 uH65 (by omega) (by omega)
                                · refine ⟨?_, ?_⟩
                                  · intro uq66
                                    refine ⟨v1, ?_⟩
                                    refine ⟨v2, ?_⟩
                                    refine ⟨v3, ?_⟩
                                    refine ⟨v4, ?_⟩
                                    refine ⟨v5, ?_⟩
                                    refine s_X9_shells (A := AC) (F := σ.1) ac_c _ _ _ _ _ (inv_any H.1) (fun r193 σ192 uI67 => ?_)
                                    have uH68 := Lz_C H uI67
                                    refine ⟨v1, ?_⟩
                                    refine ⟨v2, ?_⟩
                                    refine ⟨v3, ?_⟩
                                    refine ⟨v4, ?_⟩
                                    refine ⟨v5, ?_⟩
                                    refine s_X10_shells (A := AR2) (F := σ192.1) ar2_r _ _ _ _ _ (inv_any uH68.1) (fun r200 σ199 uI69 => ?_)
                                    have uH70 := Lz_R uH68 uI69
                                    intro x201 ex201
                                    have ux201 := eq_t ex201
                                    exact ih x201 σ199 uH70 (by omega) (by omega)
                                  · refine ⟨?_, ?_⟩
                                    · intro uq71
                                      refine ⟨v1, ?_⟩
                                      refine ⟨v2, ?_⟩
                                      refine ⟨v3, ?_⟩
                                      refine ⟨v4, ?_⟩
                                      refine ⟨v5, ?_⟩
                                      refine s_X9_meet (A := AC) (F := σ.1) ac_c _ _ _ _ _ (inv_any H.1) (fun r208 σ207 uI72 => ?_)
                                      have uH73 := Lz_C H uI72
                                      refine ⟨v1, ?_⟩
                                      refine ⟨v2, ?_⟩
                                      refine ⟨v3, ?_⟩
                                      refine ⟨v4, ?_⟩
                                      refine ⟨v5, ?_⟩
                                      refine s_X10_meet (A := AR2) (F := σ207.1) ar2_r _ _ _ _ _ (inv_any uH73.1) (fun r215 σ214 uI74 => ?_)
                                      have uH75 := Lz_R uH73 uI74
                                      intro x216 ex216
                                      have ux216 := eq_t ex216
                                      exact ih x216 σ214 uH75 (by omega) (by omega)
                                    · refine ⟨?_, ?_⟩
                                      · intro uq76
                                        refine ⟨v1, ?_⟩
                                        refine ⟨v2, ?_⟩
                                        refine ⟨v3, ?_⟩
                                        refine m_pull H _ _ _ (fun r221 σ220 uz77 => ?_)
                                        refine ⟨v1, ?_⟩
                                        refine ⟨v2, ?_⟩
                                        refine ⟨v3, ?_⟩
                                        refine uz77 _ (fun σ225 uH78 => ?_)
                                        intro x227 ex227
                                        have ux227 := eq_t ex227
                                        exact ih x227 σ225 uH78 (by omega) (by omega)
                                      · refine ⟨?_, ?_⟩
                                        · intro uq79
                                          refine ⟨v1, ?_⟩
                                          refine ⟨v2, ?_⟩
                                          refine ⟨v3, ?_⟩
                                          refine ⟨v4, ?_⟩
                                          refine s_X9_played (A := AC) (F := σ.1) ac_c _ _ _ _ (inv_any H.1) (fun r233 σ232 uI80 => ?_)
                                          have uH81 := Lz_C H uI80
                                          refine ⟨v1, ?_⟩
                                          refine ⟨v2, ?_⟩
                                          refine ⟨v3, ?_⟩
                                          refine ⟨v4, ?_⟩
                                          refine s_X10_played (A := AR2) (F := σ232.1) ar2_r ar2_h _ _ _ _ (inv_any uH81.1) (fun r239 σ238 uI82 => ?_)
                                          have uH83 := Lz_R uH81 uI82
                                          intro x240 ex240
                                          have ux240 := eq_t ex240
                                          exact ih x240 σ238 uH83 (by omega) (by omega)
                                        · refine ⟨?_, ?_⟩
                                          · intro uq84
                                            refine ⟨v1, ?_⟩
                                            refine ⟨v2, ?_⟩
                                            refine ⟨v3, ?_⟩
                                            refine s_X9_print (A := AC) (F := σ.1) ac_c _ _ _ (inv_any H.1) (fun r245 σ244 uI85 => ?_)
                                            have uH86 := Lz_C H uI85
                                            refine ⟨v1, ?_⟩
                                            refine ⟨v2, ?_⟩
                                            refine ⟨v3, ?_⟩
                                            refine s_X10_print (A := AR2) (F := σ244.1) ar2_r _ _ _ (inv_any uH86.1) (fun r250 σ249 uI87 => ?_)
                                            have uH88 := Lz_R uH86 uI87
                                            intro x251 ex251
                                            have ux251 := eq_t ex251
                                            exact ih x251 σ249 uH88 (by omega) (by omega)
                                          · refine ⟨?_, ?_⟩
                                            · intro uq89
                                              refine ⟨v1, ?_⟩
                                              refine ⟨v2, ?_⟩
                                              refine ⟨v3, ?_⟩
                                              refine ⟨v4, ?_⟩
                                              refine ⟨?_, ?_⟩
                                              · intro uq90
                                                refine m_most H _ _ _ _ (fun r257 σ256 uz91 => ?_)
                                                refine ⟨v1, ?_⟩
                                                refine ⟨v2, ?_⟩
                                                refine ⟨v3, ?_⟩
                                                refine ⟨v4, ?_⟩
                                                refine ⟨?_, ?_⟩
                                                · intro uq92
                                                  refine uz91 _ (fun σ262 uH93 => ?_)
                                                  intro x264 ex264
                                                  have ux264 := eq_t ex264
                                                  exact ih x264 σ262 uH93 (by omega) (by omega)
                                                · intro uq94
                                                  exact absurd uq90 uq94
                                              · intro uq95
                                                refine m_most H _ _ _ _ (fun r269 σ268 uz96 => ?_)
                                                refine ⟨v1, ?_⟩
                                                refine ⟨v2, ?_⟩
                                                refine ⟨v3, ?_⟩
                                                refine ⟨v4, ?_⟩
                                                refine ⟨?_, ?_⟩
                                                · intro uq97
                                                  exact absurd uq97 uq95
                                                · intro uq98
                                                  refine uz96 _ (fun σ277 uH99 => ?_)
                                                  intro x279 ex279
                                                  have ux279 := eq_t ex279
                                                  exact ih x279 σ277 uH99 (by omega) (by omega)
                                            · refine ⟨?_, ?_⟩
                                              · intro uq100
                                                refine ⟨v1, ?_⟩
                                                refine ⟨v2, ?_⟩
                                                refine ⟨v3, ?_⟩
                                                refine ⟨v4, ?_⟩
                                                refine ⟨?_, ?_⟩
                                                · intro uq101
                                                  refine m_weeks H _ _ _ _ (fun r285 σ284 uz102 => ?_)
                                                  refine ⟨v1, ?_⟩
                                                  refine ⟨v2, ?_⟩
                                                  refine ⟨v3, ?_⟩
                                                  refine ⟨v4, ?_⟩
                                                  refine ⟨?_, ?_⟩
                                                  · intro uq103
                                                    refine uz102 _ (fun σ290 uH104 => ?_)
                                                    intro x292 ex292
                                                    have ux292 := eq_t ex292
                                                    exact ih x292 σ290 uH104 (by omega) (by omega)
                                                  · intro uq105
                                                    exact absurd uq101 uq105
                                                · intro uq106
                                                  refine m_weeks H _ _ _ _ (fun r297 σ296 uz107 => ?_)
                                                  refine ⟨v1, ?_⟩
                                                  refine ⟨v2, ?_⟩
                                                  refine ⟨v3, ?_⟩
                                                  refine ⟨v4, ?_⟩
                                                  refine ⟨?_, ?_⟩
                                                  · intro uq108
                                                    exact absurd uq108 uq106
                                                  · intro uq109
                                                    refine uz107 _ (fun σ305 uH110 => ?_)
                                                    intro x307 ex307
                                                    have ux307 := eq_t ex307
                                                    exact ih x307 σ305 uH110 (by omega) (by omega)
                                              · refine ⟨?_, ?_⟩
                                                · intro uq111
                                                  refine ⟨v1, ?_⟩
                                                  refine ⟨v2, ?_⟩
                                                  refine ⟨v3, ?_⟩
                                                  refine s_X9_calm (A := AC) (F := σ.1) ac_c _ _ _ (inv_any H.1) (fun r312 σ311 uI112 => ?_)
                                                  have uH113 := Lz_C H uI112
                                                  refine ⟨v1, ?_⟩
                                                  refine ⟨v2, ?_⟩
                                                  refine ⟨v3, ?_⟩
                                                  refine s_X10_calm (A := AR2) (F := σ311.1) ar2_r _ _ _ (inv_any uH113.1) (fun r317 σ316 uI114 => ?_)
                                                  have uH115 := Lz_R uH113 uI114
                                                  intro x318 ex318
                                                  have ux318 := eq_t ex318
                                                  exact ih x318 σ316 uH115 (by omega) (by omega)
                                                · refine ⟨?_, ?_⟩
                                                  · intro uq116
                                                    refine ⟨v1, ?_⟩
                                                    refine ⟨v2, ?_⟩
                                                    refine ⟨v3, ?_⟩
                                                    refine ⟨v4, ?_⟩
                                                    refine ⟨v5, ?_⟩
                                                    refine ⟨?_, ?_⟩
                                                    · intro uq117
                                                      refine s_X9_rich (A := AC) (F := σ.1) ac_c _ _ _ _ _ (inv_any H.1) (fun r325 σ324 uI118 => ?_)
                                                      have uH119 := Lz_C H uI118
                                                      refine ⟨v1, ?_⟩
                                                      refine ⟨v2, ?_⟩
                                                      refine ⟨v3, ?_⟩
                                                      refine ⟨v4, ?_⟩
                                                      refine ⟨v5, ?_⟩
                                                      refine ⟨?_, ?_⟩
                                                      · intro uq120
                                                        refine s_X10_rich (A := AR2) (F := σ324.1) ar2_r _ _ _ _ _ (inv_any uH119.1) (fun r332 σ331 uI121 => ?_)
                                                        have uH122 := Lz_R uH119 uI121
                                                        intro x333 ex333
                                                        have ux333 := eq_t ex333
                                                        exact ih x333 σ331 uH122 (by omega) (by omega)
                                                      · intro uq123
                                                        exact absurd uq117 uq123
                                                    · intro uq124
                                                      refine s_X9_rich (A := AC) (F := σ.1) ac_c _ _ _ _ _ (inv_any H.1) (fun r338 σ337 uI125 => ?_)
                                                      have uH126 := Lz_C H uI125
                                                      refine ⟨v1, ?_⟩
                                                      refine ⟨v2, ?_⟩
                                                      refine ⟨v3, ?_⟩
                                                      refine ⟨v4, ?_⟩
                                                      refine ⟨v5, ?_⟩
                                                      refine ⟨?_, ?_⟩
                                                      · intro uq127
                                                        exact absurd uq127 uq124
                                                      · intro uq128
                                                        refine s_X10_rich (A := AR2) (F := σ337.1) ar2_r _ _ _ _ _ (inv_any uH126.1) (fun r348 σ347 uI129 => ?_)
                                                        have uH130 := Lz_R uH126 uI129
                                                        intro x349 ex349
                                                        have ux349 := eq_t ex349
                                                        exact ih x349 σ347 uH130 (by omega) (by omega)
                                                  · refine ⟨?_, ?_⟩
                                                    · intro uq131
                                                      refine ⟨v1, ?_⟩
                                                      refine ⟨v2, ?_⟩
                                                      refine ⟨v3, ?_⟩
                                                      refine ⟨v4, ?_⟩
                                                      refine ⟨v5, ?_⟩
                                                      refine m_lots H _ _ _ _ _ (fun r356 σ355 uz132 => ?_)
                                                      refine ⟨v1, ?_⟩
                                                      refine ⟨v2, ?_⟩
                                                      refine ⟨v3, ?_⟩
                                                      refine ⟨v4, ?_⟩
                                                      refine ⟨v5, ?_⟩
                                                      refine uz132 _ (fun σ362 uH133 => ?_)
                                                      intro x364 ex364
                                                      have ux364 := eq_t ex364
                                                      exact ih x364 σ362 uH133 (by omega) (by omega)
                                                    · refine ⟨?_, ?_⟩
                                                      · intro uq134
                                                        refine ⟨v1, ?_⟩
                                                        refine ⟨v2, ?_⟩
                                                        refine ⟨v3, ?_⟩
                                                        refine m_seen H _ _ _ (fun r369 σ368 uz135 => ?_)
                                                        refine ⟨v1, ?_⟩
                                                        refine ⟨v2, ?_⟩
                                                        refine ⟨v3, ?_⟩
                                                        refine uz135 _ (fun σ373 uH136 => ?_)
                                                        intro x375 ex375
                                                        have ux375 := eq_t ex375
                                                        exact ih x375 σ373 uH136 (by omega) (by omega)
                                                      · refine ⟨?_, ?_⟩
                                                        · intro uq137
                                                          refine ⟨v1, ?_⟩
                                                          refine ⟨v2, ?_⟩
                                                          refine ⟨v3, ?_⟩
                                                          refine s_X9_hold (A := AC) (F := σ.1) ac_c _ _ _ (inv_any H.1) (fun r380 σ379 uI138 => ?_)
                                                          have uH139 := Lz_C H uI138
                                                          refine ⟨v1, ?_⟩
                                                          refine ⟨v2, ?_⟩
                                                          refine ⟨v3, ?_⟩
                                                          refine s_X10_hold (A := AR2) (F := σ379.1) ar2_r ar2_h _ _ _ (inv_any uH139.1) (fun r385 σ384 uI140 => ?_)
                                                          have uH141 := Lz_R uH139 uI140
                                                          intro x386 ex386
                                                          have ux386 := eq_t ex386
                                                          exact ih x386 σ384 uH141 (by omega) (by omega)
                                                        · refine ⟨?_, ?_⟩
                                                          · intro uq142
                                                            refine ⟨v1, ?_⟩
                                                            refine ⟨v2, ?_⟩
                                                            refine s_X9_risk (A := AC) (F := σ.1) ac_c _ _ (inv_any H.1) (fun r390 σ389 uI143 => ?_)
                                                            have uH144 := Lz_C H uI143
                                                            refine ⟨v1, ?_⟩
                                                            refine ⟨v2, ?_⟩
                                                            refine s_X10_risk (A := AR2) (F := σ389.1) ar2_r _ _ (inv_any uH144.1) (fun r394 σ393 uI145 => ?_)
                                                            have uH146 := Lz_R uH144 uI145
                                                            intro x395 ex395
                                                            have ux395 := eq_t ex395
                                                            exact ih x395 σ393 uH146 (by omega) (by omega)
                                                          · refine ⟨?_, ?_⟩
                                                            · intro uq147
                                                              refine ⟨v1, ?_⟩
                                                              refine ⟨v2, ?_⟩
                                                              refine ⟨v3, ?_⟩
                                                              refine ⟨v4, ?_⟩
                                                              refine ⟨?_, ?_⟩
                                                              · intro uq148
                                                                refine s_X9_vote (A := AC) (F := σ.1) ac_c _ _ _ _ (inv_any H.1) (fun r401 σ400 uI149 => ?_)
                                                                have uH150 := Lz_C H uI149
                                                                refine ⟨v1, ?_⟩
                                                                refine ⟨v2, ?_⟩
                                                                refine ⟨v3, ?_⟩
                                                                refine ⟨v4, ?_⟩
                                                                refine ⟨?_, ?_⟩
                                                                · intro uq151
                                                                  refine s_X10_vote (A := AR2) (F := σ400.1) ar2_r _ _ _ _ (inv_any uH150.1) (fun r407 σ406 uI152 => ?_)
                                                                  have uH153 := Lz_R uH150 uI152
                                                                  intro x408 ex408
                                                                  have ux408 := eq_t ex408
                                                                  exact ih x408 σ406 uH153 (by omega) (by omega)
                                                                · intro uq154
                                                                  exact absurd uq148 uq154
                                                              · intro uq155
                                                                refine s_X9_vote (A := AC) (F := σ.1) ac_c _ _ _ _ (inv_any H.1) (fun r413 σ412 uI156 => ?_)
                                                                have uH157 := Lz_C H uI156
                                                                refine ⟨v1, ?_⟩
                                                                refine ⟨v2, ?_⟩
                                                                refine ⟨v3, ?_⟩
                                                                refine ⟨v4, ?_⟩
                                                                refine ⟨?_, ?_⟩
                                                                · intro uq158
                                                                  exact absurd uq158 uq155
                                                                · intro uq159
                                                                  refine s_X10_vote (A := AR2) (F := σ412.1) ar2_r _ _ _ _ (inv_any uH157.1) (fun r422 σ421 uI160 => ?_)
                                                                  have uH161 := Lz_R uH157 uI160
                                                                  intro x423 ex423
                                                                  have ux423 := eq_t ex423
                                                                  exact ih x423 σ421 uH161 (by omega) (by omega)
                                                            · refine ⟨?_, ?_⟩
                                                              · intro uq162
                                                                refine ⟨v1, ?_⟩
                                                                refine ⟨v2, ?_⟩
                                                                refine ⟨v3, ?_⟩
                                                                refine ⟨v4, ?_⟩
                                                                refine ⟨v5, ?_⟩
                                                                refine m_left H _ _ _ _ _ (fun r430 σ429 uz163 => ?_)
                                                                refine ⟨v1, ?_⟩
                                                                refine ⟨v2, ?_⟩
                                                                refine ⟨v3, ?_⟩
                                                                refine ⟨v4, ?_⟩
                                                                refine ⟨v5, ?_⟩
                                                                refine uz163 _ (fun σ436 uH164 => ?_)
                                                                intro x438 ex438
                                                                have ux438 := eq_t ex438
                                                                exact ih x438 σ436 uH164 (by omega) (by omega)
                                                              · refine ⟨?_, ?_⟩
                                                                · intro uq165
                                                                  refine ⟨v1, ?_⟩
                                                                  refine ⟨v2, ?_⟩
                                                                  refine ⟨v3, ?_⟩
                                                                  refine ⟨v4, ?_⟩
                                                                  refine s_X9_bid (A := AC) (F := σ.1) ac_c _ _ _ _ (inv_any H.1) (fun r444 σ443 uI166 => ?_)
                                                                  have uH167 := Lz_C H uI166
                                                                  refine ⟨v1, ?_⟩
                                                                  refine ⟨v2, ?_⟩
                                                                  refine ⟨v3, ?_⟩
                                                                  refine ⟨v4, ?_⟩
                                                                  refine r_X10_bid _ _ _ _ (inv_any uH167.1) (fun r450 σ449 uI168 => ?_)
                                                                  have uH169 := Lz_R uH167 uI168
                                                                  intro x451 ex451
                                                                  have ux451 := eq_t ex451
                                                                  exact ih x451 σ449 uH169 (by omega) (by omega)
                                                                · refine ⟨?_, ?_⟩
                                                                  · intro uq170
                                                                    refine ⟨v1, ?_⟩
                                                                    refine m_count H _ (fun r454 σ453 uz171 => ?_)
                                                                    refine ⟨v1, ?_⟩
                                                                    refine uz171 _ (fun σ456 uH172 => ?_)
                                                                    intro x458 ex458
                                                                    have ux458 := eq_t ex458
                                                                    exact ih x458 σ456 uH172 (by omega) (by omega)
                                                                  · refine ⟨?_, ?_⟩
                                                                    · intro uq173
                                                                      refine ⟨v1, ?_⟩
                                                                      refine m_image H _ (fun r461 σ460 uz174 => ?_)
                                                                      intro uq175
                                                                      refine ⟨v1, ?_⟩
                                                                      refine uz174 _ (fun σ463 uH176 => ?_)
                                                                      intro uq177
                                                                      intro x465 ex465
                                                                      have ux465 := eq_t ex465
                                                                      exact ih x465 σ463 uH176 (by omega) (by omega)
                                                                    · refine ⟨?_, ?_⟩
                                                                      · intro uq178
                                                                        refine ⟨v1, ?_⟩
                                                                        refine m_again H _ (fun r468 σ467 uz179 => ?_)
                                                                        intro uq180
                                                                        refine ⟨v1, ?_⟩
                                                                        refine uz179 _ (fun σ470 uH181 => ?_)
                                                                        intro uq182
                                                                        intro x472 ex472
                                                                        have ux472 := eq_t ex472
                                                                        exact ih x472 σ470 uH181 (by omega) (by omega)
                                                                      · intro uq183
                                                                        intro x473 ex473
                                                                        have ux473 := eq_t ex473
                                                                        exact ih x473 σ H (by omega) (by omega)
theorem law_all {L : Nat} (hL : L ≤ 3072) (xs : Nat → Int32) : ∃ n, w_law_18 L xs n (0 : Int32) σ0 :=
  ⟨5000, law_step hL xs 5000 (0 : Int32) σ0 Lz_0 (by rw [lit_0]; omega) (by rw [lit_0]; omega)⟩
