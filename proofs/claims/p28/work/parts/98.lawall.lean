set_option maxHeartbeats 4000000 in
theorem law_step {L : Nat} (hL : L ≤ 3072) (xs : Nat → Int32) : ∀ (n : Nat) (x_3 : Int32) (σ : zSto), Lz σ → (0 ≤ ti x_3 ∧ ti x_3 ≤ 4000) → (4000 - ti x_3 < n) → w_law_18 L xs n x_3 σ := by
  intro n
  induction n with
  | zero =>
    intro x_3 σ H h hm
    exfalso
    omega
  | succ n ih =>
    intro x_3 σ H h hm
    unfold w_law_18
    have eL : ti (Int32.ofNat L) = (L : Int) := nI_t (by omega)
    have l1 := lit_1
    have l2 := lit_2
    have l3 := lit_3
    have l4 := lit_4
    have l5 := lit_5
    have l6 := lit_6
    have tL := tsub (x := Int32.ofNat L) (y := (6 : Int32)) (by omega)
    refine ⟨fun _ => trivial, fun q => ?_⟩
    have c := nlt_t q
    have t1 := tadd (x := x_3) (y := (1 : Int32)) (by omega)
    have t2 := tadd (x := x_3) (y := (2 : Int32)) (by omega)
    have t3 := tadd (x := x_3) (y := (3 : Int32)) (by omega)
    have t4 := tadd (x := x_3) (y := (4 : Int32)) (by omega)
    have t5 := tadd (x := x_3) (y := (5 : Int32)) (by omega)
    have t6 := tadd (x := x_3) (y := (6 : Int32)) (by omega)
    have v0 : vp_in x_3 L := vin (by omega)
    have v1 : vp_in (x_3 + (1 : Int32)) L := vin (by omega)
    have v2 : vp_in (x_3 + (2 : Int32)) L := vin (by omega)
    have v3 : vp_in (x_3 + (3 : Int32)) L := vin (by omega)
    have v4 : vp_in (x_3 + (4 : Int32)) L := vin (by omega)
    have v5 : vp_in (x_3 + (5 : Int32)) L := vin (by omega)
    refine ⟨v0, ?_⟩
    refine ⟨?_, ?_⟩
    · intro uq1
      refine ⟨v1, ?_⟩
      refine ⟨v2, ?_⟩
      refine ⟨v3, ?_⟩
      refine ⟨v4, ?_⟩
      refine ⟨v5, ?_⟩
      refine m_feed H _ _ _ _ _ (fun r8 σ7 uz2 => ?_)
      refine ⟨v1, ?_⟩
      refine ⟨v2, ?_⟩
      refine ⟨v3, ?_⟩
      refine ⟨v4, ?_⟩
      refine ⟨v5, ?_⟩
      refine uz2 _ (fun σ14 uH3 => ?_)
      intro x16 ex16
      have ux16 := eq_t ex16
      exact ih x16 σ14 uH3 (by omega) (by omega)
    · refine ⟨?_, ?_⟩
      · intro uq4
        refine ⟨v1, ?_⟩
        refine m_end H _ (fun r19 σ18 uz5 => ?_)
        refine ⟨v1, ?_⟩
        refine uz5 _ (fun σ21 uH6 => ?_)
        intro x23 ex23
        have ux23 := eq_t ex23
        exact ih x23 σ21 uH6 (by omega) (by omega)
      · refine ⟨?_, ?_⟩
        · intro uq7
          refine ⟨v1, ?_⟩
          refine ⟨v2, ?_⟩
          refine m_text H _ _ (fun r27 σ26 uz8 => ?_)
          refine ⟨v1, ?_⟩
          refine ⟨v2, ?_⟩
          refine uz8 _ (fun σ30 uH9 => ?_)
          intro x32 ex32
          have ux32 := eq_t ex32
          exact ih x32 σ30 uH9 (by omega) (by omega)
        · refine ⟨?_, ?_⟩
          · intro uq10
            refine ⟨v1, ?_⟩
            refine m_fault H _ (fun r35 σ34 uz11 => ?_)
            refine ⟨v1, ?_⟩
            refine uz11 _ (fun σ37 uH12 => ?_)
            intro x39 ex39
            have ux39 := eq_t ex39
            exact ih x39 σ37 uH12 (by omega) (by omega)
          · refine ⟨?_, ?_⟩
            · intro uq13
              refine ⟨v1, ?_⟩
              refine ⟨v2, ?_⟩
              refine m_line H _ _ (fun r43 σ42 uz14 => ?_)
              refine ⟨v1, ?_⟩
              refine ⟨v2, ?_⟩
              refine uz14 _ (fun σ46 uH15 => ?_)
              intro x48 ex48
              have ux48 := eq_t ex48
              exact ih x48 σ46 uH15 (by omega) (by omega)
            · refine ⟨?_, ?_⟩
              · intro uq16
                refine ⟨v1, ?_⟩
                refine ⟨v2, ?_⟩
                refine ⟨v3, ?_⟩
                refine m_post H _ _ _ (fun r53 σ52 uz17 => ?_)
                refine ⟨v1, ?_⟩
                refine ⟨v2, ?_⟩
                refine ⟨v3, ?_⟩
                refine uz17 _ (fun σ57 uH18 => ?_)
                intro x59 ex59
                have ux59 := eq_t ex59
                exact ih x59 σ57 uH18 (by omega) (by omega)
              · refine ⟨?_, ?_⟩
                · intro uq19
                  refine ⟨v1, ?_⟩
                  refine ⟨v2, ?_⟩
                  refine ⟨v3, ?_⟩
                  refine m_rider H _ _ _ (fun r64 σ63 uz20 => ?_)
                  refine ⟨v1, ?_⟩
                  refine ⟨v2, ?_⟩
                  refine ⟨v3, ?_⟩
                  refine uz20 _ (fun σ68 uH21 => ?_)
                  intro x70 ex70
                  have ux70 := eq_t ex70
                  exact ih x70 σ68 uH21 (by omega) (by omega)
                · refine ⟨?_, ?_⟩
                  · intro uq22
                    refine ⟨v1, ?_⟩
                    refine ⟨v2, ?_⟩
                    refine ⟨v3, ?_⟩
                    refine ⟨v4, ?_⟩
                    refine ⟨v5, ?_⟩
                    refine m_run H _ _ _ _ _ (fun r77 σ76 uz23 => ?_)
                    refine ⟨v1, ?_⟩
                    refine ⟨v2, ?_⟩
                    refine ⟨v3, ?_⟩
                    refine ⟨v4, ?_⟩
                    refine ⟨v5, ?_⟩
                    refine uz23 _ (fun σ83 uH24 => ?_)
                    intro x85 ex85
                    have ux85 := eq_t ex85
                    exact ih x85 σ83 uH24 (by omega) (by omega)
                  · refine ⟨?_, ?_⟩
                    · intro uq25
                      refine ⟨v1, ?_⟩
                      refine ⟨v2, ?_⟩
                      refine ⟨v3, ?_⟩
                      refine ⟨v4, ?_⟩
                      refine ⟨v5, ?_⟩
                      refine m_who H _ _ _ _ _ (fun r92 σ91 uz26 => ?_)
                      refine ⟨v1, ?_⟩
                      refine ⟨v2, ?_⟩
                      refine ⟨v3, ?_⟩
                      refine ⟨v4, ?_⟩
                      refine ⟨v5, ?_⟩
                      refine uz26 _ (fun σ98 uH27 => ?_)
                      intro x100 ex100
                      have ux100 := eq_t ex100
                      exact ih x100 σ98 uH27 (by omega) (by omega)
                    · refine ⟨?_, ?_⟩
                      · intro uq28
                        refine ⟨v1, ?_⟩
                        refine ⟨v2, ?_⟩
                        refine ⟨v3, ?_⟩
                        refine ⟨v4, ?_⟩
                        refine ⟨v5, ?_⟩
                        refine m_late H _ _ _ _ _ (fun r107 σ106 uz29 => ?_)
                        refine ⟨v1, ?_⟩
                        refine ⟨v2, ?_⟩
                        refine ⟨v3, ?_⟩
                        refine ⟨v4, ?_⟩
                        refine ⟨v5, ?_⟩
                        refine uz29 _ (fun σ113 uH30 => ?_)
                        intro x115 ex115
                        have ux115 := eq_t ex115
                        exact ih x115 σ113 uH30 (by omega) (by omega)
                      · refine ⟨?_, ?_⟩
                        · intro uq31
                          refine ⟨v1, ?_⟩
                          refine ⟨v2, ?_⟩
                          refine ⟨v3, ?_⟩
                          refine ⟨v4, ?_⟩
                          refine s_X9_purse (A := AC) (F := σ.1) ac_c _ _ _ _ (inv_any H.1) (fun r121 σ120 uI32 => ?_)
                          have uH33 := Lz_C H uI32
                          refine ⟨v1, ?_⟩
                          refine ⟨v2, ?_⟩
                          refine ⟨v3, ?_⟩
                          refine ⟨v4, ?_⟩
                          refine s_X10_purse (A := AR2) (F := σ120.1) ar2_r _ _ _ _ (inv_any uH33.1) (fun r127 σ126 uI34 => ?_)
                          have uH35 := Lz_R uH33 uI34
                          intro x128 ex128
                          have ux128 := eq_t ex128
                          exact ih x128 σ126 uH35 (by omega) (by omega)
                        · refine ⟨?_, ?_⟩
                          · intro uq36
                            refine ⟨v1, ?_⟩
                            refine ⟨v2, ?_⟩
                            refine ⟨v3, ?_⟩
                            refine m_rest H _ _ _ (fun r133 σ132 uz37 => ?_)
                            refine ⟨v1, ?_⟩
                            refine ⟨v2, ?_⟩
                            refine ⟨v3, ?_⟩
                            refine uz37 _ (fun σ137 uH38 => ?_)
                            intro x139 ex139
                            have ux139 := eq_t ex139
                            exact ih x139 σ137 uH38 (by omega) (by omega)
                          · refine ⟨?_, ?_⟩
                            · intro uq39
                              refine ⟨v1, ?_⟩
                              refine ⟨v2, ?_⟩
                              refine ⟨v3, ?_⟩
                              refine ⟨v4, ?_⟩
                              refine m_gain H _ _ _ _ (fun r145 σ144 uz40 => ?_)
                              refine ⟨v1, ?_⟩
                              refine ⟨v2, ?_⟩
                              refine ⟨v3, ?_⟩
                              refine ⟨v4, ?_⟩
                              refine uz40 _ (fun σ150 uH41 => ?_)
                              intro x152 ex152
                              have ux152 := eq_t ex152
                              exact ih x152 σ150 uH41 (by omega) (by omega)
                            · refine ⟨?_, ?_⟩
                              · intro uq42
                                refine ⟨v1, ?_⟩
                                refine ⟨v2, ?_⟩
                                refine ⟨v3, ?_⟩
                                refine ⟨?_, ?_⟩
                                · intro uq43
                                  refine m_chance H _ _ _ (fun r157 σ156 uz44 => ?_)
                                  refine ⟨v1, ?_⟩
                                  refine ⟨v2, ?_⟩
                                  refine ⟨v3, ?_⟩
                                  refine ⟨?_, ?_⟩
                                  · intro uq45
                                    refine uz44 _ (fun σ161 uH46 => ?_)
                                    intro x163 ex163
                                    have ux163 := eq_t ex163
                                    exact ih x163 σ161 uH46 (by omega) (by omega)
                                  · intro uq47
                                    exact absurd uq43 uq47
                                · intro uq48
                                  refine m_chance H _ _ _ (fun r168 σ167 uz49 => ?_)
                                  refine ⟨v1, ?_⟩
                                  refine ⟨v2, ?_⟩
                                  refine ⟨v3, ?_⟩
                                  refine ⟨?_, ?_⟩
                                  · intro uq50
                                    exact absurd uq50 uq48
                                  · intro uq51
                                    refine uz49 _ (fun σ175 uH52 => ?_)
                                    intro x177 ex177
                                    have ux177 := eq_t ex177
                                    exact ih x177 σ175 uH52 (by omega) (by omega)
                              · refine ⟨?_, ?_⟩
                                · intro uq53
                                  refine ⟨v1, ?_⟩
                                  refine ⟨v2, ?_⟩
                                  refine m_slack H _ _ (fun r181 σ180 uz54 => ?_)
                                  refine ⟨v1, ?_⟩
                                  refine ⟨v2, ?_⟩
                                  refine uz54 _ (fun σ184 uH55 => ?_)
                                  intro x186 ex186
                                  have ux186 := eq_t ex186
                                  exact ih x186 σ184 uH55 (by omega) (by omega)
                                · refine ⟨?_, ?_⟩
                                  · intro uq56
                                    refine ⟨v1, ?_⟩
                                    refine ⟨v2, ?_⟩
                                    refine ⟨v3, ?_⟩
                                    refine ⟨v4, ?_⟩
                                    refine ⟨v5, ?_⟩
                                    refine m_shells H _ _ _ _ _ (fun r193 σ192 uz57 => ?_)
                                    refine ⟨v1, ?_⟩
                                    refine ⟨v2, ?_⟩
                                    refine ⟨v3, ?_⟩
                                    refine ⟨v4, ?_⟩
                                    refine ⟨v5, ?_⟩
                                    refine uz57 _ (fun σ199 uH58 => ?_)
                                    intro x201 ex201
                                    have ux201 := eq_t ex201
                                    exact ih x201 σ199 uH58 (by omega) (by omega)
                                  · refine ⟨?_, ?_⟩
                                    · intro uq59
                                      refine ⟨v1, ?_⟩
                                      refine ⟨v2, ?_⟩
                                      refine ⟨v3, ?_⟩
                                      refine ⟨v4, ?_⟩
                                      refine ⟨v5, ?_⟩
                                      refine m_meet H _ _ _ _ _ (fun r208 σ207 uz60 => ?_)
                                      refine ⟨v1, ?_⟩
                                      refine ⟨v2, ?_⟩
                                      refine ⟨v3, ?_⟩
                                      refine ⟨v4, ?_⟩
                                      refine ⟨v5, ?_⟩
                                      refine uz60 _ (fun σ214 uH61 => ?_)
                                      intro x216 ex216
                                      have ux216 := eq_t ex216
                                      exact ih x216 σ214 uH61 (by omega) (by omega)
                                    · refine ⟨?_, ?_⟩
                                      · intro uq62
                                        refine ⟨v1, ?_⟩
                                        refine ⟨v2, ?_⟩
                                        refine ⟨v3, ?_⟩
                                        refine m_pull H _ _ _ (fun r221 σ220 uz63 => ?_)
                                        refine ⟨v1, ?_⟩
                                        refine ⟨v2, ?_⟩
                                        refine ⟨v3, ?_⟩
                                        refine uz63 _ (fun σ225 uH64 => ?_)
                                        intro x227 ex227
                                        have ux227 := eq_t ex227
                                        exact ih x227 σ225 uH64 (by omega) (by omega)
                                      · refine ⟨?_, ?_⟩
                                        · intro uq65
                                          refine ⟨v1, ?_⟩
                                          refine ⟨v2, ?_⟩
                                          refine ⟨v3, ?_⟩
                                          refine ⟨v4, ?_⟩
                                          refine m_played H _ _ _ _ (fun r233 σ232 uz66 => ?_)
                                          refine ⟨v1, ?_⟩
                                          refine ⟨v2, ?_⟩
                                          refine ⟨v3, ?_⟩
                                          refine ⟨v4, ?_⟩
                                          refine uz66 _ (fun σ238 uH67 => ?_)
                                          intro x240 ex240
                                          have ux240 := eq_t ex240
                                          exact ih x240 σ238 uH67 (by omega) (by omega)
                                        · refine ⟨?_, ?_⟩
                                          · intro uq68
                                            refine ⟨v1, ?_⟩
                                            refine ⟨v2, ?_⟩
                                            refine ⟨v3, ?_⟩
                                            refine s_X9_print (A := AC) (F := σ.1) ac_c _ _ _ (inv_any H.1) (fun r245 σ244 uI69 => ?_)
                                            have uH70 := Lz_C H uI69
                                            refine ⟨v1, ?_⟩
                                            refine ⟨v2, ?_⟩
                                            refine ⟨v3, ?_⟩
                                            refine s_X10_print (A := AR2) (F := σ244.1) ar2_r _ _ _ (inv_any uH70.1) (fun r250 σ249 uI71 => ?_)
                                            have uH72 := Lz_R uH70 uI71
                                            intro x251 ex251
                                            have ux251 := eq_t ex251
                                            exact ih x251 σ249 uH72 (by omega) (by omega)
                                          · refine ⟨?_, ?_⟩
                                            · intro uq73
                                              refine ⟨v1, ?_⟩
                                              refine ⟨v2, ?_⟩
                                              refine ⟨v3, ?_⟩
                                              refine ⟨v4, ?_⟩
                                              refine ⟨?_, ?_⟩
                                              · intro uq74
                                                refine m_most H _ _ _ _ (fun r257 σ256 uz75 => ?_)
                                                refine ⟨v1, ?_⟩
                                                refine ⟨v2, ?_⟩
                                                refine ⟨v3, ?_⟩
                                                refine ⟨v4, ?_⟩
                                                refine ⟨?_, ?_⟩
                                                · intro uq76
                                                  refine uz75 _ (fun σ262 uH77 => ?_)
                                                  intro x264 ex264
                                                  have ux264 := eq_t ex264
                                                  exact ih x264 σ262 uH77 (by omega) (by omega)
                                                · intro uq78
                                                  exact absurd uq74 uq78
                                              · intro uq79
                                                refine m_most H _ _ _ _ (fun r269 σ268 uz80 => ?_)
                                                refine ⟨v1, ?_⟩
                                                refine ⟨v2, ?_⟩
                                                refine ⟨v3, ?_⟩
                                                refine ⟨v4, ?_⟩
                                                refine ⟨?_, ?_⟩
                                                · intro uq81
                                                  exact absurd uq81 uq79
                                                · intro uq82
                                                  refine uz80 _ (fun σ277 uH83 => ?_)
                                                  intro x279 ex279
                                                  have ux279 := eq_t ex279
                                                  exact ih x279 σ277 uH83 (by omega) (by omega)
                                            · refine ⟨?_, ?_⟩
                                              · intro uq84
                                                refine ⟨v1, ?_⟩
                                                refine ⟨v2, ?_⟩
                                                refine ⟨v3, ?_⟩
                                                refine ⟨v4, ?_⟩
                                                refine ⟨?_, ?_⟩
                                                · intro uq85
                                                  refine m_weeks H _ _ _ _ (fun r285 σ284 uz86 => ?_)
                                                  refine ⟨v1, ?_⟩
                                                  refine ⟨v2, ?_⟩
                                                  refine ⟨v3, ?_⟩
                                                  refine ⟨v4, ?_⟩
                                                  refine ⟨?_, ?_⟩
                                                  · intro uq87
                                                    refine uz86 _ (fun σ290 uH88 => ?_)
                                                    intro x292 ex292
                                                    have ux292 := eq_t ex292
                                                    exact ih x292 σ290 uH88 (by omega) (by omega)
                                                  · intro uq89
                                                    exact absurd uq85 uq89
                                                · intro uq90
                                                  refine m_weeks H _ _ _ _ (fun r297 σ296 uz91 => ?_)
                                                  refine ⟨v1, ?_⟩
                                                  refine ⟨v2, ?_⟩
                                                  refine ⟨v3, ?_⟩
                                                  refine ⟨v4, ?_⟩
                                                  refine ⟨?_, ?_⟩
                                                  · intro uq92
                                                    exact absurd uq92 uq90
                                                  · intro uq93
                                                    refine uz91 _ (fun σ305 uH94 => ?_)
                                                    intro x307 ex307
                                                    have ux307 := eq_t ex307
                                                    exact ih x307 σ305 uH94 (by omega) (by omega)
                                              · refine ⟨?_, ?_⟩
                                                · intro uq95
                                                  refine ⟨v1, ?_⟩
                                                  refine ⟨v2, ?_⟩
                                                  refine ⟨v3, ?_⟩
                                                  refine m_calm H _ _ _ (fun r312 σ311 uz96 => ?_)
                                                  refine ⟨v1, ?_⟩
                                                  refine ⟨v2, ?_⟩
                                                  refine ⟨v3, ?_⟩
                                                  refine uz96 _ (fun σ316 uH97 => ?_)
                                                  intro x318 ex318
                                                  have ux318 := eq_t ex318
                                                  exact ih x318 σ316 uH97 (by omega) (by omega)
                                                · refine ⟨?_, ?_⟩
                                                  · intro uq98
                                                    refine ⟨v1, ?_⟩
                                                    refine ⟨v2, ?_⟩
                                                    refine ⟨v3, ?_⟩
                                                    refine ⟨v4, ?_⟩
                                                    refine ⟨v5, ?_⟩
                                                    refine ⟨?_, ?_⟩
                                                    · intro uq99
                                                      refine m_rich H _ _ _ _ _ (fun r325 σ324 uz100 => ?_)
                                                      refine ⟨v1, ?_⟩
                                                      refine ⟨v2, ?_⟩
                                                      refine ⟨v3, ?_⟩
                                                      refine ⟨v4, ?_⟩
                                                      refine ⟨v5, ?_⟩
                                                      refine ⟨?_, ?_⟩
                                                      · intro uq101
                                                        refine uz100 _ (fun σ331 uH102 => ?_)
                                                        intro x333 ex333
                                                        have ux333 := eq_t ex333
                                                        exact ih x333 σ331 uH102 (by omega) (by omega)
                                                      · intro uq103
                                                        exact absurd uq99 uq103
                                                    · intro uq104
                                                      refine m_rich H _ _ _ _ _ (fun r338 σ337 uz105 => ?_)
                                                      refine ⟨v1, ?_⟩
                                                      refine ⟨v2, ?_⟩
                                                      refine ⟨v3, ?_⟩
                                                      refine ⟨v4, ?_⟩
                                                      refine ⟨v5, ?_⟩
                                                      refine ⟨?_, ?_⟩
                                                      · intro uq106
                                                        exact absurd uq106 uq104
                                                      · intro uq107
                                                        refine uz105 _ (fun σ347 uH108 => ?_)
                                                        intro x349 ex349
                                                        have ux349 := eq_t ex349
                                                        exact ih x349 σ347 uH108 (by omega) (by omega)
                                                  · refine ⟨?_, ?_⟩
                                                    · intro uq109
                                                      refine ⟨v1, ?_⟩
                                                      refine ⟨v2, ?_⟩
                                                      refine ⟨v3, ?_⟩
                                                      refine ⟨v4, ?_⟩
                                                      refine ⟨v5, ?_⟩
                                                      refine m_lots H _ _ _ _ _ (fun r356 σ355 uz110 => ?_)
                                                      refine ⟨v1, ?_⟩
                                                      refine ⟨v2, ?_⟩
                                                      refine ⟨v3, ?_⟩
                                                      refine ⟨v4, ?_⟩
                                                      refine ⟨v5, ?_⟩
                                                      refine uz110 _ (fun σ362 uH111 => ?_)
                                                      intro x364 ex364
                                                      have ux364 := eq_t ex364
                                                      exact ih x364 σ362 uH111 (by omega) (by omega)
                                                    · refine ⟨?_, ?_⟩
                                                      · intro uq112
                                                        refine ⟨v1, ?_⟩
                                                        refine ⟨v2, ?_⟩
                                                        refine ⟨v3, ?_⟩
                                                        refine m_seen H _ _ _ (fun r369 σ368 uz113 => ?_)
                                                        refine ⟨v1, ?_⟩
                                                        refine ⟨v2, ?_⟩
                                                        refine ⟨v3, ?_⟩
                                                        refine uz113 _ (fun σ373 uH114 => ?_)
                                                        intro x375 ex375
                                                        have ux375 := eq_t ex375
                                                        exact ih x375 σ373 uH114 (by omega) (by omega)
                                                      · refine ⟨?_, ?_⟩
                                                        · intro uq115
                                                          refine ⟨v1, ?_⟩
                                                          refine ⟨v2, ?_⟩
                                                          refine ⟨v3, ?_⟩
                                                          refine m_hold H _ _ _ (fun r380 σ379 uz116 => ?_)
                                                          refine ⟨v1, ?_⟩
                                                          refine ⟨v2, ?_⟩
                                                          refine ⟨v3, ?_⟩
                                                          refine uz116 _ (fun σ384 uH117 => ?_)
                                                          refine ⟨?_, ?_⟩
                                                          · intro uq118
                                                            intro x386 ex386
                                                            have ux386 := eq_t ex386
                                                            exact ih x386 σ384 uH117 (by omega) (by omega)
                                                          · intro uq119
                                                            exact absurd rfl uq119
                                                        · refine ⟨?_, ?_⟩
                                                          · intro uq120
                                                            refine ⟨v1, ?_⟩
                                                            refine ⟨v2, ?_⟩
                                                            refine m_risk H _ _ (fun r390 σ389 uz121 => ?_)
                                                            refine ⟨v1, ?_⟩
                                                            refine ⟨v2, ?_⟩
                                                            refine uz121 _ (fun σ393 uH122 => ?_)
                                                            intro x395 ex395
                                                            have ux395 := eq_t ex395
                                                            exact ih x395 σ393 uH122 (by omega) (by omega)
                                                          · refine ⟨?_, ?_⟩
                                                            · intro uq123
                                                              refine ⟨v1, ?_⟩
                                                              refine ⟨v2, ?_⟩
                                                              refine ⟨v3, ?_⟩
                                                              refine ⟨v4, ?_⟩
                                                              refine ⟨?_, ?_⟩
                                                              · intro uq124
                                                                refine m_vote H _ _ _ _ (fun r401 σ400 uz125 => ?_)
                                                                refine ⟨v1, ?_⟩
                                                                refine ⟨v2, ?_⟩
                                                                refine ⟨v3, ?_⟩
                                                                refine ⟨v4, ?_⟩
                                                                refine ⟨?_, ?_⟩
                                                                · intro uq126
                                                                  refine uz125 _ (fun σ406 uH127 => ?_)
                                                                  intro x408 ex408
                                                                  have ux408 := eq_t ex408
                                                                  exact ih x408 σ406 uH127 (by omega) (by omega)
                                                                · intro uq128
                                                                  exact absurd uq124 uq128
                                                              · intro uq129
                                                                refine m_vote H _ _ _ _ (fun r413 σ412 uz130 => ?_)
                                                                refine ⟨v1, ?_⟩
                                                                refine ⟨v2, ?_⟩
                                                                refine ⟨v3, ?_⟩
                                                                refine ⟨v4, ?_⟩
                                                                refine ⟨?_, ?_⟩
                                                                · intro uq131
                                                                  exact absurd uq131 uq129
                                                                · intro uq132
                                                                  refine uz130 _ (fun σ421 uH133 => ?_)
                                                                  intro x423 ex423
                                                                  have ux423 := eq_t ex423
                                                                  exact ih x423 σ421 uH133 (by omega) (by omega)
                                                            · refine ⟨?_, ?_⟩
                                                              · intro uq134
                                                                refine ⟨v1, ?_⟩
                                                                refine ⟨v2, ?_⟩
                                                                refine ⟨v3, ?_⟩
                                                                refine ⟨v4, ?_⟩
                                                                refine ⟨v5, ?_⟩
                                                                refine m_left H _ _ _ _ _ (fun r430 σ429 uz135 => ?_)
                                                                refine ⟨v1, ?_⟩
                                                                refine ⟨v2, ?_⟩
                                                                refine ⟨v3, ?_⟩
                                                                refine ⟨v4, ?_⟩
                                                                refine ⟨v5, ?_⟩
                                                                refine uz135 _ (fun σ436 uH136 => ?_)
                                                                intro x438 ex438
                                                                have ux438 := eq_t ex438
                                                                exact ih x438 σ436 uH136 (by omega) (by omega)
                                                              · refine ⟨?_, ?_⟩
                                                                · intro uq137
                                                                  refine ⟨v1, ?_⟩
                                                                  refine ⟨v2, ?_⟩
                                                                  refine ⟨v3, ?_⟩
                                                                  refine ⟨v4, ?_⟩
                                                                  refine m_bid H _ _ _ _ (fun r444 σ443 uz138 => ?_)
                                                                  refine ⟨v1, ?_⟩
                                                                  refine ⟨v2, ?_⟩
                                                                  refine ⟨v3, ?_⟩
                                                                  refine ⟨v4, ?_⟩
                                                                  refine uz138 _ (fun σ449 uH139 => ?_)
                                                                  intro x451 ex451
                                                                  have ux451 := eq_t ex451
                                                                  exact ih x451 σ449 uH139 (by omega) (by omega)
                                                                · refine ⟨?_, ?_⟩
                                                                  · intro uq140
                                                                    refine ⟨v1, ?_⟩
                                                                    refine m_count H _ (fun r454 σ453 uz141 => ?_)
                                                                    refine ⟨v1, ?_⟩
                                                                    refine uz141 _ (fun σ456 uH142 => ?_)
                                                                    intro x458 ex458
                                                                    have ux458 := eq_t ex458
                                                                    exact ih x458 σ456 uH142 (by omega) (by omega)
                                                                  · refine ⟨?_, ?_⟩
                                                                    · intro uq143
                                                                      refine ⟨v1, ?_⟩
                                                                      refine m_image H _ (fun r461 σ460 uz144 => ?_)
                                                                      intro uq145
                                                                      refine ⟨v1, ?_⟩
                                                                      refine uz144 _ (fun σ463 uH146 => ?_)
                                                                      intro uq147
                                                                      intro x465 ex465
                                                                      have ux465 := eq_t ex465
                                                                      exact ih x465 σ463 uH146 (by omega) (by omega)
                                                                    · refine ⟨?_, ?_⟩
                                                                      · intro uq148
                                                                        refine ⟨v1, ?_⟩
                                                                        refine m_again H _ (fun r468 σ467 uz149 => ?_)
                                                                        intro uq150
                                                                        refine ⟨v1, ?_⟩
                                                                        refine uz149 _ (fun σ470 uH151 => ?_)
                                                                        intro uq152
                                                                        intro x472 ex472
                                                                        have ux472 := eq_t ex472
                                                                        exact ih x472 σ470 uH151 (by omega) (by omega)
                                                                      · intro uq153
                                                                        intro x473 ex473
                                                                        have ux473 := eq_t ex473
                                                                        exact ih x473 σ H (by omega) (by omega)
theorem law_all {L : Nat} (hL : L ≤ 3072) (xs : Nat → Int32) : ∃ n, w_law_18 L xs n (0 : Int32) σ0 :=
  ⟨5000, law_step hL xs 5000 (0 : Int32) σ0 Lz_0 (by rw [lit_0]; omega) (by rw [lit_0]; omega)⟩
