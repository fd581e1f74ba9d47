theorem fg_X9_41 : zFG RX9 41 9 5 := ⟨RX9, TX9, 11, rfl, lay_X9, by decide, fl_X9_41⟩
theorem lk_X9_378 : zLV RX9 378 RX1 yX1_follow cX1_follow 9 none 2 := zLV_of ml_X9_378 im_X1_follow se_X1_follow ini_X1 cd_X1_follow (by decide +kernel)
theorem fg_X9_381 : zFG RX9 381 1 0 := ⟨RX1, TX1, 4, rfl, lay_X1, by decide, fl_X9_381⟩
theorem fg_X9_387 : zFG RX9 387 1 2 := ⟨RX1, TX1, 4, rfl, lay_X1, by decide, fl_X9_387⟩
theorem fg_X9_390 : zFG RX9 390 1 3 := ⟨RX1, TX1, 4, rfl, lay_X1, by decide, fl_X9_390⟩
theorem fg_X9_384 : zFG RX9 384 1 1 := ⟨RX1, TX1, 4, rfl, lay_X1, by decide, fl_X9_384⟩
def w_X9_meet (a1 : Int32) (a2 : Int32) (a3 : Int32) (a4 : Int32) (a5 : Int32) (σ : zSto) (P : Int32 → zSto → Prop) : Prop := (w_X9_ridden a1 a2 a3 a4 σ (fun (q2 : Option Nat) (σ1 : zSto) => ((q2 = none → P (-2 : Int32) σ1) ∧ (∀ j3 : Nat, q2 = some j3 → zIsLine j3 ∧ ((¬ (σ1.1 j3 17) = (-1 : Int32) → (w_X1_follow j3 (σ1.1 190 6) σ1 (fun (σ4 : zSto) => ((a5 < (100 : Int32) → ((a5 < (200 : Int32) → ((a5 = 0 → (vp_in ((σ4.1 j3 11) - (1 : Int32)) 16 ∧ P (σ4.1 196 (((σ4.1 j3 11) - (1 : Int32))).toNatClampNeg) σ4)) ∧ (a5 = 1 → P (σ4.1 195 2) σ4) ∧ (a5 = 2 → P (σ4.1 195 3) σ4) ∧ ((a5.toInt < 0 ∨ 2 < a5.toInt) → P (-2 : Int32) σ4))) ∧ (¬ a5 < (200 : Int32) → ((((200 : Int32) + (σ4.1 j3 11)) ≤ a5 → ((a5 = 0 → (vp_in ((σ4.1 j3 11) - (1 : Int32)) 16 ∧ P (σ4.1 196 (((σ4.1 j3 11) - (1 : Int32))).toNatClampNeg) σ4)) ∧ (a5 = 1 → P (σ4.1 195 2) σ4) ∧ (a5 = 2 → P (σ4.1 195 3) σ4) ∧ ((a5.toInt < 0 ∨ 2 < a5.toInt) → P (-2 : Int32) σ4))) ∧ (¬ ((200 : Int32) + (σ4.1 j3 11)) ≤ a5 → (vp_in (a5 - (200 : Int32)) 16 ∧ P (σ4.1 197 ((a5 - (200 : Int32))).toNatClampNeg) σ4)))))) ∧ (¬ a5 < (100 : Int32) → ((((100 : Int32) + (σ4.1 j3 11)) ≤ a5 → ((a5 < (200 : Int32) → ((a5 = 0 → (vp_in ((σ4.1 j3 11) - (1 : Int32)) 16 ∧ P (σ4.1 196 (((σ4.1 j3 11) - (1 : Int32))).toNatClampNeg) σ4)) ∧ (a5 = 1 → P (σ4.1 195 2) σ4) ∧ (a5 = 2 → P (σ4.1 195 3) σ4) ∧ ((a5.toInt < 0 ∨ 2 < a5.toInt) → P (-2 : Int32) σ4))) ∧ (¬ a5 < (200 : Int32) → ((((200 : Int32) + (σ4.1 j3 11)) ≤ a5 → ((a5 = 0 → (vp_in ((σ4.1 j3 11) - (1 : Int32)) 16 ∧ P (σ4.1 196 (((σ4.1 j3 11) - (1 : Int32))).toNatClampNeg) σ4)) ∧ (a5 = 1 → P (σ4.1 195 2) σ4) ∧ (a5 = 2 → P (σ4.1 195 3) σ4) ∧ ((a5.toInt < 0 ∨ 2 < a5.toInt) → P (-2 : Int32) σ4))) ∧ (¬ ((200 : Int32) + (σ4.1 j3 11)) ≤ a5 → (vp_in (a5 - (200 : Int32)) 16 ∧ P (σ4.1 197 ((a5 - (200 : Int32))).toNatClampNeg) σ4)))))) ∧ (¬ ((100 : Int32) + (σ4.1 j3 11)) ≤ a5 → (vp_in (a5 - (100 : Int32)) 16 ∧ P (σ4.1 196 ((a5 - (100 : Int32))).toNatClampNeg) σ4)))))))) ∧ ((σ1.1 j3 17) = (-1 : Int32) → P (-2 : Int32) σ1))))))
set_option maxRecDepth 100000 in
set_option maxHeartbeats 4000000 in
theorem c_X9_meet (l : Launch) (D : va_G) (cy : Nat → ClassId) (g : Nat → Nat) (a1 : Int32) (a2 : Int32) (a3 : Int32) (a4 : Int32) (a5 : Int32)  (σ : zSto) {P : Int32 → zSto → Prop} (h : w_X9_meet a1 a2 a3 a4 a5 σ P) : zMi l yX9_meet cX9_meet 7 (some .int) (zrm 5 161) D cy g [.ref (g 0), .int a1, .int a2, .int a3, .int a4, .int a5] σ P := by
  unfold w_X9_meet at h
  refine zm_i RX9 rfl (by decide +kernel) (Nat.le_of_ble_eq_true rfl) ?_
  intro p e s m below meth c C hr
  refine zx_lv (lv' := [(0, .ref (g 0)), (1, .int a1), (2, .int a2), (3, .int a3), (4, .int a4), (5, .int a5)]) [0, 1, 2, 3, 4, 5] rfl ?_
  refine zx_aload_n C dX9_meet_0 0 rfl ?_
  refine zx_iload_n C dX9_meet_1 1 rfl ?_
  refine zx_iload_n C dX9_meet_2 2 rfl ?_
  refine zx_iload_n C dX9_meet_3 3 rfl ?_
  refine zx_iload C dX9_meet_4 4 rfl ?_
  refine zx_cVq C [.int a1, .int a2, .int a3, .int a4] lk_X9_206 (c_X9_ridden l D cy g a1 a2 a3 a4  σ h) zs_0 rfl ⟨by decide, by decide⟩ ⟨rfl, rfl⟩ ⟨Nat.zero_le _, Nat.zero_le _⟩ rfl rfl (Nat.le_of_ble_eq_true rfl) dX9_meet_6 (fun σ1 h => ?_) (fun j3 σ1 h => ?_)
  · replace h := h.1 rfl
    refine zx_astoreN (lv' := [(6, .null), (0, .ref (g 0)), (1, .int a1), (2, .int a2), (3, .int a3), (4, .int a4), (5, .int a5)]) C dX9_meet_9 (by decide) rfl ?_
    refine zx_aloadN C dX9_meet_11 0 rfl ?_
    refine zx_ifnullN C 25 dX9_meet_13 (by decide) ?_
    refine zx_bipush (v := (-2 : Int32)) C dX9_meet_25 (by decide) ?_
    exact zx_iret C hr dX9_meet_27 h
  · obtain ⟨hj3, h⟩ := h.2 j3 rfl
    refine zx_astore (lv' := [(6, .ref (g j3)), (0, .ref (g 0)), (1, .int a1), (2, .int a2), (3, .int a3), (4, .int a4), (5, .int a5)]) C dX9_meet_9 (by decide) rfl ?_
    refine zx_aload C dX9_meet_11 0 rfl ?_
    refine zx_ifnull C dX9_meet_13 ?_
    refine zx_aload C dX9_meet_16 0 rfl ?_
    refine zx_getI C hj3.1 fg_X9_143 rfl dX9_meet_18 ?_
    refine zx_iconst (v := (-1 : Int32)) C dX9_meet_21 (by decide) ?_
    refine zx_icmp_ne C 28 dX9_meet_22 (by decide) (fun q => ?_) (fun q => ?_)
    · replace h := h.1 q
      refine zx_aload_n C dX9_meet_28 1 rfl ?_
      refine zx_getR C zs_0 fg_X9_41 rfl 195 rfl dX9_meet_29 ?_
      refine zx_aload C dX9_meet_32 0 rfl ?_
      refine zx_aload_n C dX9_meet_34 1 rfl ?_
      refine zx_getR C zs_0 fg_X9_34 rfl 190 rfl dX9_meet_35 ?_
      refine zx_getI C zs_190 fg_X9_236 rfl dX9_meet_38 ?_
      refine zx_cVv C [.ref (g j3), .int (σ1.1 190 6)] lk_X9_378 (c_X1_follow l D cy g j3 (σ1.1 190 6) hj3 σ1 h) zs_195 rfl ⟨by decide, by decide⟩ ⟨rfl, rfl⟩ ⟨Nat.zero_le _, Nat.zero_le _⟩ rfl rfl (Nat.le_of_ble_eq_true rfl) dX9_meet_41 (fun σ4 h => ?_)
      refine zx_iload C dX9_meet_44 6 rfl ?_
      refine zx_bipush (v := (100 : Int32)) C dX9_meet_46 (by decide) ?_
      refine zx_icmp_lt C 78 dX9_meet_48 (by decide) (fun q => ?_) (fun q => ?_)
      · replace h := h.1 q
        refine zx_iload C dX9_meet_78 6 rfl ?_
        refine zx_sipush (v := (200 : Int32)) C dX9_meet_80 (by decide) ?_
        refine zx_icmp_lt C 115 dX9_meet_83 (by decide) (fun q => ?_) (fun q => ?_)
        · replace h := h.1 q
          refine zx_iload C dX9_meet_115 6 rfl ?_
          refine zsw (x := a5) 2 (fun q => ?_) (fun i hi q => ?_)
          · replace h := h.2.2.2 q
            refine zx_tableOut C 176 dX9_meet_117 q (by decide) ?_
            refine zx_bipush (v := (-2 : Int32)) C dX9_meet_176 (by decide) ?_
            exact zx_iret C hr dX9_meet_178 h
          · match i, hi, q with
            | 0, _, q =>
              replace h := h.1 q
              refine zx_tableIn C 144 (0 : Int32) q dX9_meet_117 (by decide) (by decide) rfl (by decide) ?_
              refine zx_aload_n C dX9_meet_144 1 rfl ?_
              refine zx_getR C zs_0 fg_X9_41 rfl 195 rfl dX9_meet_145 ?_
              refine zx_getR C zs_195 fg_X9_381 rfl 196 rfl dX9_meet_148 ?_
              refine zx_aload C dX9_meet_151 0 rfl ?_
              refine zx_getI C hj3.1 fg_X9_125 rfl dX9_meet_153 ?_
              refine zx_iconst (v := (1 : Int32)) C dX9_meet_156 (by decide) ?_
              refine zx_isub C dX9_meet_157 ?_
              obtain ⟨bd5, h⟩ := h
              refine zx_iald C (((σ4.1 j3 11) - (1 : Int32))).toNatClampNeg zs_196 bd5 rfl dX9_meet_158 ?_
              exact zx_iret C hr dX9_meet_159 h
            | 1, _, q =>
              replace h := h.2.1 q
              refine zx_tableIn C 160 (1 : Int32) q dX9_meet_117 (by decide) (by decide) rfl (by decide) ?_
              refine zx_aload_n C dX9_meet_160 1 rfl ?_
              refine zx_getR C zs_0 fg_X9_41 rfl 195 rfl dX9_meet_161 ?_
              refine zx_getI C zs_195 fg_X9_387 rfl dX9_meet_164 ?_
              exact zx_iret C hr dX9_meet_167 h
            | 2, _, q =>
              replace h := h.2.2.1 q
              refine zx_tableIn C 168 (2 : Int32) q dX9_meet_117 (by decide) (by decide) rfl (by decide) ?_
              refine zx_aload_n C dX9_meet_168 1 rfl ?_
              refine zx_getR C zs_0 fg_X9_41 rfl 195 rfl dX9_meet_169 ?_
              refine zx_getI C zs_195 fg_X9_390 rfl dX9_meet_172 ?_
              exact zx_iret C hr dX9_meet_175 h
            | i + 3, hi, _ => exact absurd hi (by omega)
        · replace h := h.2 q
          refine zx_iload C dX9_meet_86 6 rfl ?_
          refine zx_sipush (v := (200 : Int32)) C dX9_meet_88 (by decide) ?_
          refine zx_aload C dX9_meet_91 0 rfl ?_
          refine zx_getI C hj3.1 fg_X9_125 rfl dX9_meet_93 ?_
          refine zx_iadd C dX9_meet_96 ?_
          refine zx_icmp_ge C 115 dX9_meet_97 (by decide) (fun q => ?_) (fun q => ?_)
          · replace h := h.1 q
            refine zx_iload C dX9_meet_115 6 rfl ?_
            refine zsw (x := a5) 2 (fun q => ?_) (fun i hi q => ?_)
            · replace h := h.2.2.2 q
              refine zx_tableOut C 176 dX9_meet_117 q (by decide) ?_
              refine zx_bipush (v := (-2 : Int32)) C dX9_meet_176 (by decide) ?_
              exact zx_iret C hr dX9_meet_178 h
            · match i, hi, q with
              | 0, _, q =>
                replace h := h.1 q
                refine zx_tableIn C 144 (0 : Int32) q dX9_meet_117 (by decide) (by decide) rfl (by decide) ?_
                refine zx_aload_n C dX9_meet_144 1 rfl ?_
                refine zx_getR C zs_0 fg_X9_41 rfl 195 rfl dX9_meet_145 ?_
                refine zx_getR C zs_195 fg_X9_381 rfl 196 rfl dX9_meet_148 ?_
                refine zx_aload C dX9_meet_151 0 rfl ?_
                refine zx_getI C hj3.1 fg_X9_125 rfl dX9_meet_153 ?_
                refine zx_iconst (v := (1 : Int32)) C dX9_meet_156 (by decide) ?_
                refine zx_isub C dX9_meet_157 ?_
                obtain ⟨bd6, h⟩ := h
                refine zx_iald C (((σ4.1 j3 11) - (1 : Int32))).toNatClampNeg zs_196 bd6 rfl dX9_meet_158 ?_
                exact zx_iret C hr dX9_meet_159 h
              | 1, _, q =>
                replace h := h.2.1 q
                refine zx_tableIn C 160 (1 : Int32) q dX9_meet_117 (by decide) (by decide) rfl (by decide) ?_
                refine zx_aload_n C dX9_meet_160 1 rfl ?_
                refine zx_getR C zs_0 fg_X9_41 rfl 195 rfl dX9_meet_161 ?_
                refine zx_getI C zs_195 fg_X9_387 rfl dX9_meet_164 ?_
                exact zx_iret C hr dX9_meet_167 h
              | 2, _, q =>
                replace h := h.2.2.1 q
                refine zx_tableIn C 168 (2 : Int32) q dX9_meet_117 (by decide) (by decide) rfl (by decide) ?_
                refine zx_aload_n C dX9_meet_168 1 rfl ?_
                refine zx_getR C zs_0 fg_X9_41 rfl 195 rfl dX9_meet_169 ?_
                refine zx_getI C zs_195 fg_X9_390 rfl dX9_meet_172 ?_
                exact zx_iret C hr dX9_meet_175 h
              | i + 3, hi, _ => exact absurd hi (by omega)
          · replace h := h.2 q
            refine zx_aload_n C dX9_meet_100 1 rfl ?_
            refine zx_getR C zs_0 fg_X9_41 rfl 195 rfl dX9_meet_101 ?_
            refine zx_getR C zs_195 fg_X9_384 rfl 197 rfl dX9_meet_104 ?_
            refine zx_iload C dX9_meet_107 6 rfl ?_
            refine zx_sipush (v := (200 : Int32)) C dX9_meet_109 (by decide) ?_
            refine zx_isub C dX9_meet_112 ?_
            obtain ⟨bd7, h⟩ := h
            refine zx_iald C ((a5 - (200 : Int32))).toNatClampNeg zs_197 bd7 rfl dX9_meet_113 ?_
            exact zx_iret C hr dX9_meet_114 h
      · replace h := h.2 q
        refine zx_iload C dX9_meet_51 6 rfl ?_
        refine zx_bipush (v := (100 : Int32)) C dX9_meet_53 (by decide) ?_
        refine zx_aload C dX9_meet_55 0 rfl ?_
        refine zx_getI C hj3.1 fg_X9_125 rfl dX9_meet_57 ?_
        refine zx_iadd C dX9_meet_60 ?_
        refine zx_icmp_ge C 78 dX9_meet_61 (by decide) (fun q => ?_) (fun q => ?_)
        · replace h := h.1 q
          refine zx_iload C dX9_meet_78 6 rfl ?_
          refine zx_sipush (v := (200 : Int32)) C dX9_meet_80 (by decide) ?_
          refine zx_icmp_lt C 115 dX9_meet_83 (by decide) (fun q => ?_) (fun q => ?_)
          · replace h := h.1 q
            refine zx_iload C dX9_meet_115 6 rfl ?_
            refine zsw (x := a5) 2 (fun q => ?_) (fun i hi q => ?_)
            · replace h := h.2.2.2 q
              refine zx_tableOut C 176 dX9_meet_117 q (by decide) ?_
              refine zx_bipush (v := (-2 : Int32)) C dX9_meet_176 (by decide) ?_
              exact zx_iret C hr dX9_meet_178 h
            · match i, hi, q with
              | 0, _, q =>
                replace h := h.1 q
                refine zx_tableIn C 144 (0 : Int32) q dX9_meet_117 (by decide) (by decide) rfl (by decide) ?_
                refine zx_aload_n C dX9_meet_144 1 rfl ?_
                refine zx_getR C zs_0 fg_X9_41 rfl 195 rfl dX9_meet_145 ?_
                refine zx_getR C zs_195 fg_X9_381 rfl 196 rfl dX9_meet_148 ?_
                refine zx_aload C dX9_meet_151 0 rfl ?_
                refine zx_getI C hj3.1 fg_X9_125 rfl dX9_meet_153 ?_
                refine zx_iconst (v := (1 : Int32)) C dX9_meet_156 (by decide) ?_
                refine zx_isub C dX9_meet_157 ?_
                obtain ⟨bd8, h⟩ := h
                refine zx_iald C (((σ4.1 j3 11) - (1 : Int32))).toNatClampNeg zs_196 bd8 rfl dX9_meet_158 ?_
                exact zx_iret C hr dX9_meet_159 h
              | 1, _, q =>
                replace h := h.2.1 q
                refine zx_tableIn C 160 (1 : Int32) q dX9_meet_117 (by decide) (by decide) rfl (by decide) ?_
                refine zx_aload_n C dX9_meet_160 1 rfl ?_
                refine zx_getR C zs_0 fg_X9_41 rfl 195 rfl dX9_meet_161 ?_
                refine zx_getI C zs_195 fg_X9_387 rfl dX9_meet_164 ?_
                exact zx_iret C hr dX9_meet_167 h
              | 2, _, q =>
                replace h := h.2.2.1 q
                refine zx_tableIn C 168 (2 : Int32) q dX9_meet_117 (by decide) (by decide) rfl (by decide) ?_
                refine zx_aload_n C dX9_meet_168 1 rfl ?_
                refine zx_getR C zs_0 fg_X9_41 rfl 195 rfl dX9_meet_169 ?_
                refine zx_getI C zs_195 fg_X9_390 rfl dX9_meet_172 ?_
                exact zx_iret C hr dX9_meet_175 h
              | i + 3, hi, _ => exact absurd hi (by omega)
          · replace h := h.2 q
            refine zx_iload C dX9_meet_86 6 rfl ?_
            refine zx_sipush (v := (200 : Int32)) C dX9_meet_88 (by decide) ?_
            refine zx_aload C dX9_meet_91 0 rfl ?_
            refine zx_getI C hj3.1 fg_X9_125 rfl dX9_meet_93 ?_
            refine zx_iadd C dX9_meet_96 ?_
            refine zx_icmp_ge C 115 dX9_meet_97 (by decide) (fun q => ?_) (fun q => ?_)
            · replace h := h.1 q
              refine zx_iload C dX9_meet_115 6 rfl ?_
              refine zsw (x := a5) 2 (fun q => ?_) (fun i hi q => ?_)
              · replace h := h.2.2.2 q
                refine zx_tableOut C 176 dX9_meet_117 q (by decide) ?_
                refine zx_bipush (v := (-2 : Int32)) C dX9_meet_176 (by decide) ?_
                exact zx_iret C hr dX9_meet_178 h
              · match i, hi, q with
                | 0, _, q =>
                  replace h := h.1 q
                  refine zx_tableIn C 144 (0 : Int32) q dX9_meet_117 (by decide) (by decide) rfl (by decide) ?_
                  refine zx_aload_n C dX9_meet_144 1 rfl ?_
                  refine zx_getR C zs_0 fg_X9_41 rfl 195 rfl dX9_meet_145 ?_
                  refine zx_getR C zs_195 fg_X9_381 rfl 196 rfl dX9_meet_148 ?_
                  refine zx_aload C dX9_meet_151 0 rfl ?_
                  refine zx_getI C hj3.1 fg_X9_125 rfl dX9_meet_153 ?_
                  refine zx_iconst (v := (1 : Int32)) C dX9_meet_156 (by decide) ?_
                  refine zx_isub C dX9_meet_157 ?_
                  obtain ⟨bd9, h⟩ := h
                  refine zx_iald C (((σ4.1 j3 11) - (1 : Int32))).toNatClampNeg zs_196 bd9 rfl dX9_meet_158 ?_
                  exact zx_iret C hr dX9_meet_159 h
                | 1, _, q =>
                  replace h := h.2.1 q
                  refine zx_tableIn C 160 (1 : Int32) q dX9_meet_117 (by decide) (by decide) rfl (by decide) ?_
                  refine zx_aload_n C dX9_meet_160 1 rfl ?_
                  refine zx_getR C zs_0 fg_X9_41 rfl 195 rfl dX9_meet_161 ?_
                  refine zx_getI C zs_195 fg_X9_387 rfl dX9_meet_164 ?_
                  exact zx_iret C hr dX9_meet_167 h
                | 2, _, q =>
                  replace h := h.2.2.1 q
                  refine zx_tableIn C 168 (2 : Int32) q dX9_meet_117 (by decide) (by decide) rfl (by decide) ?_
                  refine zx_aload_n C dX9_meet_168 1 rfl ?_
                  refine zx_getR C zs_0 fg_X9_41 rfl 195 rfl dX9_meet_169 ?_
                  refine zx_getI C zs_195 fg_X9_390 rfl dX9_meet_172 ?_
                  exact zx_iret C hr dX9_meet_175 h
                | i + 3, hi, _ => exact absurd hi (by omega)
            · replace h := h.2 q
              refine zx_aload_n C dX9_meet_100 1 rfl ?_
              refine zx_getR C zs_0 fg_X9_41 rfl 195 rfl dX9_meet_101 ?_
              refine zx_getR C zs_195 fg_X9_384 rfl 197 rfl dX9_meet_104 ?_
              refine zx_iload C dX9_meet_107 6 rfl ?_
              refine zx_sipush (v := (200 : Int32)) C dX9_meet_109 (by decide) ?_
              refine zx_isub C dX9_meet_112 ?_
              obtain ⟨bd10, h⟩ := h
              refine zx_iald C ((a5 - (200 : Int32))).toNatClampNeg zs_197 bd10 rfl dX9_meet_113 ?_
              exact zx_iret C hr dX9_meet_114 h
        · replace h := h.2 q
          refine zx_aload_n C dX9_meet_64 1 rfl ?_
          refine zx_getR C zs_0 fg_X9_41 rfl 195 rfl dX9_meet_65 ?_
          refine zx_getR C zs_195 fg_X9_381 rfl 196 rfl dX9_meet_68 ?_
          refine zx_iload C dX9_meet_71 6 rfl ?_
          refine zx_bipush (v := (100 : Int32)) C dX9_meet_73 (by decide) ?_
          refine zx_isub C dX9_meet_75 ?_
          obtain ⟨bd11, h⟩ := h
          refine zx_iald C ((a5 - (100 : Int32))).toNatClampNeg zs_196 bd11 rfl dX9_meet_76 ?_
          exact zx_iret C hr dX9_meet_77 h
    · replace h := h.2 q
      refine zx_bipush (v := (-2 : Int32)) C dX9_meet_25 (by decide) ?_
      exact zx_iret C hr dX9_meet_27 h
def w_X9_risk_59 (x_2 : Int32) (q_3 : Nat) (x_4 : Int32) (P : Int32 → zSto → Prop)  : Nat → Int32 → Int32 → Int32 → zSto → Prop
  | 0, _, _, _, _ => False
  | n + 1, x_5, x_6, x_7, σ => ((((σ.1 q_3 11) - (1 : Int32)) ≤ x_7 → ((¬ x_2 = 0 → P x_6 σ) ∧ (x_2 = 0 → P x_5 σ))) ∧ (¬ ((σ.1 q_3 11) - (1 : Int32)) ≤ x_7 → (w_X1_follow q_3 ((1 : Int32) <<< (x_7 &&& 31)) σ (fun (σ6 : zSto) => ((¬ (σ6.1 195 3) = (-1 : Int32) → (∀ x7 : Int32, x7 = (x_5 ||| ((1 : Int32) <<< (x_7 &&& 31))) → (((σ6.1 195 2) ≤ x_4 → (∀ x8 : Int32, x8 = (x_6 ||| (0 : Int32)) → (∀ x9 : Int32, x9 = (x_7 + (1 : Int32)) → w_X9_risk_59 x_2 q_3 x_4 P n x7 x8 x9 σ6))) ∧ (¬ (σ6.1 195 2) ≤ x_4 → (∀ x10 : Int32, x10 = (x_6 ||| ((1 : Int32) <<< (x_7 &&& 31))) → (∀ x11 : Int32, x11 = (x_7 + (1 : Int32)) → w_X9_risk_59 x_2 q_3 x_4 P n x7 x10 x11 σ6)))))) ∧ ((σ6.1 195 3) = (-1 : Int32) → (∀ x12 : Int32, x12 = (x_5 ||| (0 : Int32)) → (((σ6.1 195 2) ≤ x_4 → (∀ x13 : Int32, x13 = (x_6 ||| (0 : Int32)) → (∀ x14 : Int32, x14 = (x_7 + (1 : Int32)) → w_X9_risk_59 x_2 q_3 x_4 P n x12 x13 x14 σ6))) ∧ (¬ (σ6.1 195 2) ≤ x_4 → (∀ x15 : Int32, x15 = (x_6 ||| ((1 : Int32) <<< (x_7 &&& 31))) → (∀ x16 : Int32, x16 = (x_7 + (1 : Int32)) → w_X9_risk_59 x_2 q_3 x_4 P n x12 x15 x16 σ6)))))))))))
def w_X9_risk (a1 : Int32) (a2 : Int32) (σ : zSto) (P : Int32 → zSto → Prop) : Prop := (w_X8_lineAt 1 a1 σ (fun (q2 : Option Nat) (σ1 : zSto) => ((q2 = none → P (-1 : Int32) σ1) ∧ (∀ j3 : Nat, q2 = some j3 → zIsLine j3 ∧ (((σ1.1 j3 17) = (-1 : Int32) → P (-1 : Int32) σ1) ∧ (¬ (σ1.1 j3 17) = (-1 : Int32) → ((a2 < 0 → P (-1 : Int32) σ1) ∧ (¬ a2 < 0 → ((a2 ≤ (1 : Int32) → (w_X1_follow j3 (0 : Int32) σ1 (fun (σ4 : zSto) => (∀ x5 : Int32, x5 = (σ4.1 195 2) → (∃ n : Nat, w_X9_risk_59 a2 j3 x5 P  n (0 : Int32) (0 : Int32) (0 : Int32) σ4))))) ∧ (¬ a2 ≤ (1 : Int32) → P (-1 : Int32) σ1))))))))))
set_option maxRecDepth 100000 in
set_option maxHeartbeats 4000000 in
theorem k_X9_risk_59 {p : Program} {l : Launch} {e : Env} {s : State} {m : MethodId} {args : Array Value} {below : List Frame} {meth : Method} {c : Code} {D : va_G} {cy : Nat → ClassId} {g : Nat → Nat} (C : zC p s m args meth c cX9_risk RX9 8 D cy g) (hr : meth.sig.returnType = (some .int)) {P : Int32 → zSto → Prop} (x_2 : Int32) (q_3 : Nat) (x_4 : Int32) (hq_3 : zIsLine q_3)   : ∀ (n : Nat) (x_5 : Int32) (x_6 : Int32) (x_7 : Int32) (σ : zSto), w_X9_risk_59 x_2 q_3 x_4 P n x_5 x_6 x_7 σ → zX p l e (zrm 4 95) s m args below meth c 0 0 (zQi P below args s D cy g) 8 D cy g 59 [(0, .ref (g 0)), (2, .int x_2), (3, .ref (g q_3)), (4, .int x_4), (5, .int x_5), (6, .int x_6), (7, .int x_7)] [] σ := by
  intro n
  induction n with
  | zero => intro x_5 x_6 x_7 σ h; exact h.elim
  | succ n ih =>
    intro x_5 x_6 x_7 σ h
    unfold w_X9_risk_59 at h
    refine zx_iload C dX9_risk_59 6 rfl ?_
    refine zx_aload_n C dX9_risk_61 2 rfl ?_
    refine zx_getI C hq_3.1 fg_X9_125 rfl dX9_risk_62 ?_
    refine zx_iconst (v := (1 : Int32)) C dX9_risk_65 (by decide) ?_
    refine zx_isub C dX9_risk_66 ?_
    refine zx_icmp_ge C 137 dX9_risk_67 (by decide) (fun q => ?_) (fun q => ?_)
    · replace h := h.1 q
      refine zx_iload_n C dX9_risk_137 1 rfl ?_
      refine zx_if_ne C 146 dX9_risk_138 (by decide) (fun q => ?_) (fun q => ?_)
      · replace h := h.1 q
        refine zx_iload C dX9_risk_146 5 rfl ?_
        exact zx_iret C hr dX9_risk_148 h
      · replace h := h.2 q
        refine zx_iload C dX9_risk_141 4 rfl ?_
        refine zx_goto C 148 dX9_risk_143 (by decide) ?_
        exact zx_iret C hr dX9_risk_148 h
    · replace h := h.2 q
      refine zx_aload_n C dX9_risk_70 0 rfl ?_
      refine zx_getR C zs_0 fg_X9_41 rfl 195 rfl dX9_risk_71 ?_
      refine zx_aload_n C dX9_risk_74 2 rfl ?_
      refine zx_iconst (v := (1 : Int32)) C dX9_risk_75 (by decide) ?_
      refine zx_iload C dX9_risk_76 6 rfl ?_
      refine zx_ishl C dX9_risk_78 ?_
      refine zx_cVv C [.ref (g q_3), .int ((1 : Int32) <<< (x_7 &&& 31))] lk_X9_378 (c_X1_follow l D cy g q_3 ((1 : Int32) <<< (x_7 &&& 31)) hq_3 σ h) zs_195 rfl ⟨by decide, by decide⟩ ⟨rfl, rfl⟩ ⟨Nat.zero_le _, Nat.zero_le _⟩ rfl rfl (Nat.le_of_ble_eq_true rfl) dX9_risk_79 (fun σ6 h => ?_)
      refine zx_iload C dX9_risk_82 4 rfl ?_
      refine zx_aload_n C dX9_risk_84 0 rfl ?_
      refine zx_getR C zs_0 fg_X9_41 rfl 195 rfl dX9_risk_85 ?_
      refine zx_getI C zs_195 fg_X9_390 rfl dX9_risk_88 ?_
      refine zx_iconst (v := (-1 : Int32)) C dX9_risk_91 (by decide) ?_
      refine zx_icmp_ne C 99 dX9_risk_92 (by decide) (fun q => ?_) (fun q => ?_)
      · replace h := h.1 q
        refine zx_iconst (v := (1 : Int32)) C dX9_risk_99 (by decide) ?_
        refine zx_iload C dX9_risk_100 6 rfl ?_
        refine zx_ishl C dX9_risk_102 ?_
        refine zx_ior C dX9_risk_103 ?_
        refine zx_topi (fun x7 ex7 => ?_)
        replace h := h x7 ex7
        refine zx_istore (lv' := [(5, .int x7), (0, .ref (g 0)), (2, .int x_2), (3, .ref (g q_3)), (4, .int x_4), (6, .int x_6), (7, .int x_7)]) C dX9_risk_104 (by decide) rfl ?_
        refine zx_iload C dX9_risk_106 5 rfl ?_
        refine zx_aload_n C dX9_risk_108 1 rfl ?_
        refine zx_getR C zs_0 fg_X9_41 rfl 195 rfl dX9_risk_109 ?_
        refine zx_getI C zs_195 fg_X9_387 rfl dX9_risk_112 ?_
        refine zx_iload C dX9_risk_115 4 rfl ?_
        refine zx_icmp_le C 127 dX9_risk_117 (by decide) (fun q => ?_) (fun q => ?_)
        · replace h := h.1 q
          refine zx_iconst (v := (0 : Int32)) C dX9_risk_127 (by decide) ?_
          refine zx_ior C dX9_risk_128 ?_
          refine zx_topi (fun x8 ex8 => ?_)
          replace h := h x8 ex8
          refine zx_istore (lv' := [(6, .int x8), (5, .int x7), (0, .ref (g 0)), (2, .int x_2), (3, .ref (g q_3)), (4, .int x_4), (7, .int x_7)]) C dX9_risk_129 (by decide) rfl ?_
          obtain ⟨x9, ex9⟩ : ∃ y : Int32, y = (x_7 + (1 : Int32)) := ⟨_, rfl⟩
          replace h := h x9 ex9
          refine zx_iinc (v := x9) (lv' := [(7, .int x9), (6, .int x8), (5, .int x7), (0, .ref (g 0)), (2, .int x_2), (3, .ref (g q_3)), (4, .int x_4)]) C dX9_risk_131 6 rfl (by rw [ex9]; rfl) (by decide) rfl ?_
          refine zx_goto C 59 dX9_risk_134 (by decide) ?_
          refine zx_lv (lv' := [(0, .ref (g 0)), (2, .int x_2), (3, .ref (g q_3)), (4, .int x_4), (5, .int x7), (6, .int x8), (7, .int x9)]) [3, 4, 5, 6, 2, 1, 0] rfl ?_
          exact ih x7 x8 x9 σ6 h
        · replace h := h.2 q
          refine zx_iconst (v := (1 : Int32)) C dX9_risk_120 (by decide) ?_
          refine zx_iload C dX9_risk_121 6 rfl ?_
          refine zx_ishl C dX9_risk_123 ?_
          refine zx_goto C 128 dX9_risk_124 (by decide) ?_
          refine zx_ior C dX9_risk_128 ?_
          refine zx_topi (fun x10 ex10 => ?_)
          replace h := h x10 ex10
          refine zx_istore (lv' := [(6, .int x10), (5, .int x7), (0, .ref (g 0)), (2, .int x_2), (3, .ref (g q_3)), (4, .int x_4), (7, .int x_7)]) C dX9_risk_129 (by decide) rfl ?_
          obtain ⟨x11, ex11⟩ : ∃ y : Int32, y = (x_7 + (1 : Int32)) := ⟨_, rfl⟩
          replace h := h x11 ex11
          refine zx_iinc (v := x11) (lv' := [(7, .int x11), (6, .int x10), (5, .int x7), (0, .ref (g 0)), (2, .int x_2), (3, .ref (g q_3)), (4, .int x_4)]) C dX9_risk_131 6 rfl (by rw [ex11]; rfl) (by decide) rfl ?_
          refine zx_goto C 59 dX9_risk_134 (by decide) ?_
          refine zx_lv (lv' := [(0, .ref (g 0)), (2, .int x_2), (3, .ref (g q_3)), (4, .int x_4), (5, .int x7), (6, .int x10), (7, .int x11)]) [3, 4, 5, 6, 2, 1, 0] rfl ?_
          exact ih x7 x10 x11 σ6 h
      · replace h := h.2 q
        refine zx_iconst (v := (0 : Int32)) C dX9_risk_95 (by decide) ?_
        refine zx_goto C 103 dX9_risk_96 (by decide) ?_
        refine zx_ior C dX9_risk_103 ?_
        refine zx_topi (fun x12 ex12 => ?_)
        replace h := h x12 ex12
        refine zx_istore (lv' := [(5, .int x12), (0, .ref (g 0)), (2, .int x_2), (3, .ref (g q_3)), (4, .int x_4), (6, .int x_6), (7, .int x_7)]) C dX9_risk_104 (by decide) rfl ?_
        refine zx_iload C dX9_risk_106 5 rfl ?_
        refine zx_aload_n C dX9_risk_108 1 rfl ?_
        refine zx_getR C zs_0 fg_X9_41 rfl 195 rfl dX9_risk_109 ?_
        refine zx_getI C zs_195 fg_X9_387 rfl dX9_risk_112 ?_
        refine zx_iload C dX9_risk_115 4 rfl ?_
        refine zx_icmp_le C 127 dX9_risk_117 (by decide) (fun q => ?_) (fun q => ?_)
        · replace h := h.1 q
          refine zx_iconst (v := (0 : Int32)) C dX9_risk_127 (by decide) ?_
          refine zx_ior C dX9_risk_128 ?_
          refine zx_topi (fun x13 ex13 => ?_)
          replace h := h x13 ex13
          refine zx_istore (lv' := [(6, .int x13), (5, .int x12), (0, .ref (g 0)), (2, .int x_2), (3, .ref (g q_3)), (4, .int x_4), (7, .int x_7)]) C dX9_risk_129 (by decide) rfl ?_
          obtain ⟨x14, ex14⟩ : ∃ y : Int32, y = (x_7 + (1 : Int32)) := ⟨_, rfl⟩
          replace h := h x14 ex14
          refine zx_iinc (v := x14) (lv' := [(7, .int x14), (6, .int x13), (5, .int x12), (0, .ref (g 0)), (2, .int x_2), (3, .ref (g q_3)), (4, .int x_4)]) C dX9_risk_131 6 rfl (by rw [ex14]; rfl) (by decide) rfl ?_
          refine zx_goto C 59 dX9_risk_134 (by decide) ?_
          refine zx_lv (lv' := [(0, .ref (g 0)), (2, .int x_2), (3, .ref (g q_3)), (4, .int x_4), (5, .int x12), (6, .int x13), (7, .int x14)]) [3, 4, 5, 6, 2, 1, 0] rfl ?_
          exact ih x12 x13 x14 σ6 h
        · replace h := h.2 q
          refine zx_iconst (v := (1 : Int32)) C dX9_risk_120 (by decide) ?_
          refine zx_iload C dX9_risk_121 6 rfl ?_
          refine zx_ishl C dX9_risk_123 ?_
          refine zx_goto C 128 dX9_risk_124 (by decide) ?_
          refine zx_ior C dX9_risk_128 ?_
          refine zx_topi (fun x15 ex15 => ?_)
          replace h := h x15 ex15
          refine zx_istore (lv' := [(6, .int x15), (5, .int x12), (0, .ref (g 0)), (2, .int x_2), (3, .ref (g q_3)), (4, .int x_4), (7, .int x_7)]) C dX9_risk_129 (by decide) rfl ?_
          obtain ⟨x16, ex16⟩ : ∃ y : Int32, y = (x_7 + (1 : Int32)) := ⟨_, rfl⟩
          replace h := h x16 ex16
          refine zx_iinc (v := x16) (lv' := [(7, .int x16), (6, .int x15), (5, .int x12), (0, .ref (g 0)), (2, .int x_2), (3, .ref (g q_3)), (4, .int x_4)]) C dX9_risk_131 6 rfl (by rw [ex16]; rfl) (by decide) rfl ?_
          refine zx_goto C 59 dX9_risk_134 (by decide) ?_
          refine zx_lv (lv' := [(0, .ref (g 0)), (2, .int x_2), (3, .ref (g q_3)), (4, .int x_4), (5, .int x12), (6, .int x15), (7, .int x16)]) [3, 4, 5, 6, 2, 1, 0] rfl ?_
          exact ih x12 x15 x16 σ6 h
set_option maxRecDepth 100000 in
set_option maxHeartbeats 4000000 in
theorem c_X9_risk (l : Launch) (D : va_G) (cy : Nat → ClassId) (g : Nat → Nat) (a1 : Int32) (a2 : Int32)  (σ : zSto) {P : Int32 → zSto → Prop} (h : w_X9_risk a1 a2 σ P) : zMi l yX9_risk cX9_risk 8 (some .int) (zrm 4 95) D cy g [.ref (g 0), .int a1, .int a2] σ P := by
  unfold w_X9_risk at h
  refine zm_i RX9 rfl (by decide +kernel) (Nat.le_of_ble_eq_true rfl) ?_
  intro p e s m below meth c C hr
  refine zx_lv (lv' := [(0, .ref (g 0)), (1, .int a1), (2, .int a2)]) [0, 1, 2] rfl ?_
  refine zx_aload_n C dX9_risk_0 0 rfl ?_
  refine zx_getR C zs_0 fg_X9_12 rfl 1 rfl dX9_risk_1 ?_
  refine zx_iload_n C dX9_risk_4 1 rfl ?_
  refine zx_cVq C [.int a1] lk_X9_121 (c_X8_lineAt l D cy g 1 a1 zIsState_1 σ h) zIsState_1.1 rfl ⟨by decide, by decide⟩ ⟨rfl, rfl⟩ ⟨Nat.zero_le _, Nat.zero_le _⟩ rfl rfl (Nat.le_of_ble_eq_true rfl) dX9_risk_5 (fun σ1 h => ?_) (fun j3 σ1 h => ?_)
  · replace h := h.1 rfl
    refine zx_astore_nN (lv' := [(3, .null), (0, .ref (g 0)), (1, .int a1), (2, .int a2)]) C dX9_risk_8 (by decide) rfl ?_
    refine zx_aload_nN C dX9_risk_9 0 rfl ?_
    refine zx_ifnullN C 30 dX9_risk_10 (by decide) ?_
    refine zx_iconst (v := (-1 : Int32)) C dX9_risk_30 (by decide) ?_
    exact zx_iret C hr dX9_risk_31 h
  · obtain ⟨hj3, h⟩ := h.2 j3 rfl
    refine zx_astore_n (lv' := [(3, .ref (g j3)), (0, .ref (g 0)), (1, .int a1), (2, .int a2)]) C dX9_risk_8 (by decide) rfl ?_
    refine zx_aload_n C dX9_risk_9 0 rfl ?_
    refine zx_ifnull C dX9_risk_10 ?_
    refine zx_aload_n C dX9_risk_13 0 rfl ?_
    refine zx_getI C hj3.1 fg_X9_143 rfl dX9_risk_14 ?_
    refine zx_iconst (v := (-1 : Int32)) C dX9_risk_17 (by decide) ?_
    refine zx_icmp_eq C 30 dX9_risk_18 (by decide) (fun q => ?_) (fun q => ?_)
    · replace h := h.1 q
      refine zx_iconst (v := (-1 : Int32)) C dX9_risk_30 (by decide) ?_
      exact zx_iret C hr dX9_risk_31 h
    · replace h := h.2 q
      refine zx_iload_n C dX9_risk_21 3 rfl ?_
      refine zx_if_lt C 30 dX9_risk_22 (by decide) (fun q => ?_) (fun q => ?_)
      · replace h := h.1 q
        refine zx_iconst (v := (-1 : Int32)) C dX9_risk_30 (by decide) ?_
        exact zx_iret C hr dX9_risk_31 h
      · replace h := h.2 q
        refine zx_iload_n C dX9_risk_25 3 rfl ?_
        refine zx_iconst (v := (1 : Int32)) C dX9_risk_26 (by decide) ?_
        refine zx_icmp_le C 32 dX9_risk_27 (by decide) (fun q => ?_) (fun q => ?_)
        · replace h := h.1 q
          refine zx_aload_n C dX9_risk_32 1 rfl ?_
          refine zx_getR C zs_0 fg_X9_41 rfl 195 rfl dX9_risk_33 ?_
          refine zx_aload_n C dX9_risk_36 0 rfl ?_
          refine zx_iconst (v := (0 : Int32)) C dX9_risk_37 (by decide) ?_
          refine zx_cVv C [.ref (g j3), .int (0 : Int32)] lk_X9_378 (c_X1_follow l D cy g j3 (0 : Int32) hj3 σ1 h) zs_195 rfl ⟨by decide, by decide⟩ ⟨rfl, rfl⟩ ⟨Nat.zero_le _, Nat.zero_le _⟩ rfl rfl (Nat.le_of_ble_eq_true rfl) dX9_risk_38 (fun σ4 h => ?_)
          refine zx_aload_n C dX9_risk_41 1 rfl ?_
          refine zx_getR C zs_0 fg_X9_41 rfl 195 rfl dX9_risk_42 ?_
          refine zx_getI C zs_195 fg_X9_387 rfl dX9_risk_45 ?_
          refine zx_topi (fun x5 ex5 => ?_)
          replace h := h x5 ex5
          refine zx_istore (lv' := [(4, .int x5), (3, .ref (g j3)), (0, .ref (g 0)), (1, .int a1), (2, .int a2)]) C dX9_risk_48 (by decide) rfl ?_
          refine zx_iconst (v := (0 : Int32)) C dX9_risk_50 (by decide) ?_
          refine zx_istore (lv' := [(5, .int (0 : Int32)), (4, .int x5), (3, .ref (g j3)), (0, .ref (g 0)), (1, .int a1), (2, .int a2)]) C dX9_risk_51 (by decide) rfl ?_
          refine zx_iconst (v := (0 : Int32)) C dX9_risk_53 (by decide) ?_
          refine zx_istore (lv' := [(6, .int (0 : Int32)), (5, .int (0 : Int32)), (4, .int x5), (3, .ref (g j3)), (0, .ref (g 0)), (1, .int a1), (2, .int a2)]) C dX9_risk_54 (by decide) rfl ?_
          refine zx_iconst (v := (0 : Int32)) C dX9_risk_56 (by decide) ?_
          refine zx_istore (lv' := [(7, .int (0 : Int32)), (6, .int (0 : Int32)), (5, .int (0 : Int32)), (4, .int x5), (3, .ref (g j3)), (0, .ref (g 0)), (1, .int a1), (2, .int a2)]) C dX9_risk_57 (by decide) rfl ?_
          obtain ⟨n, h⟩ := h
          refine zx_lv (lv' := [(0, .ref (g 0)), (2, .int a2), (3, .ref (g j3)), (4, .int x5), (5, .int (0 : Int32)), (6, .int (0 : Int32)), (7, .int (0 : Int32))]) [5, 7, 4, 3, 2, 1, 0] rfl ?_
          exact k_X9_risk_59 C hr (a2) (j3) (x5) hj3  n (0 : Int32) (0 : Int32) (0 : Int32) σ4 h
        · replace h := h.2 q
          refine zx_iconst (v := (-1 : Int32)) C dX9_risk_30 (by decide) ?_
          exact zx_iret C hr dX9_risk_31 h
def w_X10_in (a1 : Int32) (a2 : Int32) (a3 : Int32) (σ : zSto) (P : Int32 → zSto → Prop) : Prop := ((a1 < a2 → P (0 : Int32) σ) ∧ (¬ a1 < a2 → ((a3 < a1 → P (0 : Int32) σ) ∧ (¬ a3 < a1 → P (1 : Int32) σ))))
set_option maxRecDepth 100000 in
set_option maxHeartbeats 4000000 in
theorem c_X10_in (l : Launch) (D : va_G) (cy : Nat → ClassId) (g : Nat → Nat) (a1 : Int32) (a2 : Int32) (a3 : Int32)  (σ : zSto) {P : Int32 → zSto → Prop} (h : w_X10_in a1 a2 a3 σ P) : zMb l yX10_in cX10_in 3 (some .boolean) (zrm 0 0) D cy g [.int a1, .int a2, .int a3] σ P := by
  unfold w_X10_in at h
  refine zm_b RX10 rfl (by decide +kernel) (Nat.le_of_ble_eq_true rfl) ?_
  intro p e s m below meth c C hr
  refine zx_lv (lv' := [(0, .int a1), (1, .int a2), (2, .int a3)]) [0, 1, 2] rfl ?_
  refine zx_iload_n C dX10_in_0 0 rfl ?_
  refine zx_iload_n C dX10_in_1 1 rfl ?_
  refine zx_icmp_lt C 14 dX10_in_2 (by decide) (fun q => ?_) (fun q => ?_)
  · replace h := h.1 q
    refine zx_iconst (v := (0 : Int32)) C dX10_in_14 (by decide) ?_
    exact zx_zret C hr dX10_in_15 (Or.inl rfl) h
  · replace h := h.2 q
    refine zx_iload_n C dX10_in_5 0 rfl ?_
    refine zx_iload_n C dX10_in_6 2 rfl ?_
    refine zx_icmp_gt C 14 dX10_in_7 (by decide) (fun q => ?_) (fun q => ?_)
    · replace h := h.1 q
      refine zx_iconst (v := (0 : Int32)) C dX10_in_14 (by decide) ?_
      exact zx_zret C hr dX10_in_15 (Or.inl rfl) h
    · replace h := h.2 q
      refine zx_iconst (v := (1 : Int32)) C dX10_in_10 (by decide) ?_
      refine zx_goto C 15 dX10_in_11 (by decide) ?_
      exact zx_zret C hr dX10_in_15 (Or.inr rfl) h
def w_X10_has (a1 : Int32) (a2 : Int32) (σ : zSto) (P : Int32 → zSto → Prop) : Prop := ((¬ ((a1 >>> (a2 &&& 31)) &&& (1 : Int32)) = (1 : Int32) → P (0 : Int32) σ) ∧ (((a1 >>> (a2 &&& 31)) &&& (1 : Int32)) = (1 : Int32) → P (1 : Int32) σ))
set_option maxRecDepth 100000 in
set_option maxHeartbeats 4000000 in
theorem c_X10_has (l : Launch) (D : va_G) (cy : Nat → ClassId) (g : Nat → Nat) (a1 : Int32) (a2 : Int32)  (σ : zSto) {P : Int32 → zSto → Prop} (h : w_X10_has a1 a2 σ P) : zMb l yX10_has cX10_has 2 (some .boolean) (zrm 0 0) D cy g [.int a1, .int a2] σ P := by
  unfold w_X10_has at h
  refine zm_b RX10 rfl (by decide +kernel) (Nat.le_of_ble_eq_true rfl) ?_
  intro p e s m below meth c C hr
  refine zx_lv (lv' := [(0, .int a1), (1, .int a2)]) [0, 1] rfl ?_
  refine zx_iload_n C dX10_has_0 0 rfl ?_
  refine zx_iload_n C dX10_has_1 1 rfl ?_
  refine zx_ishr C dX10_has_2 ?_
  refine zx_iconst (v := (1 : Int32)) C dX10_has_3 (by decide) ?_
  refine zx_iand C dX10_has_4 ?_
  refine zx_iconst (v := (1 : Int32)) C dX10_has_5 (by decide) ?_
  refine zx_icmp_ne C 13 dX10_has_6 (by decide) (fun q => ?_) (fun q => ?_)
  · replace h := h.1 q
    refine zx_iconst (v := (0 : Int32)) C dX10_has_13 (by decide) ?_
    exact zx_zret C hr dX10_has_14 (Or.inl rfl) h
  · replace h := h.2 q
    refine zx_iconst (v := (1 : Int32)) C dX10_has_9 (by decide) ?_
    refine zx_goto C 14 dX10_has_10 (by decide) ?_
    exact zx_zret C hr dX10_has_14 (Or.inr rfl) h
theorem lk_X10_95 : zLS RX10 95 yX10_has cX10_has 2 (some .boolean) 2 := zLS_of ml_X10_95 st_X10_has ini_X10 cd_X10_has (by decide +kernel)
def w_X10_ones_4 (x_0 : Int32) (P : Int32 → zSto → Prop)  : Nat → Int32 → Int32 → zSto → Prop
  | 0, _, _, _ => False
  | n + 1, x_1, x_2, σ => (((16 : Int32) ≤ x_2 → P x_1 σ) ∧ (¬ (16 : Int32) ≤ x_2 → (w_X10_has x_0 x_2 σ (fun (r2 : Int32) (σ1 : zSto) => (r2 = 0 ∨ r2 = 1) → ((r2 = 0 → (∀ x3 : Int32, x3 = (x_1 + (0 : Int32)) → (∀ x4 : Int32, x4 = (x_2 + (1 : Int32)) → w_X10_ones_4 x_0 P n x3 x4 σ1))) ∧ (¬ r2 = 0 → (∀ x5 : Int32, x5 = (x_1 + (1 : Int32)) → (∀ x6 : Int32, x6 = (x_2 + (1 : Int32)) → w_X10_ones_4 x_0 P n x5 x6 σ1))))))))
def w_X10_ones (a1 : Int32) (σ : zSto) (P : Int32 → zSto → Prop) : Prop := (∃ n : Nat, w_X10_ones_4 a1 P  n (0 : Int32) (0 : Int32) σ)
set_option maxRecDepth 100000 in
set_option maxHeartbeats 4000000 in
theorem k_X10_ones_4 {p : Program} {l : Launch} {e : Env} {s : State} {m : MethodId} {args : Array Value} {below : List Frame} {meth : Method} {c : Code} {D : va_G} {cy : Nat → ClassId} {g : Nat → Nat} (C : zC p s m args meth c cX10_ones RX10 3 D cy g) (hr : meth.sig.returnType = (some .int)) {P : Int32 → zSto → Prop} (x_0 : Int32)    : ∀ (n : Nat) (x_1 : Int32) (x_2 : Int32) (σ : zSto), w_X10_ones_4 x_0 P n x_1 x_2 σ → zX p l e (zrm 1 21) s m args below meth c 0 0 (zQi P below args s D cy g) 3 D cy g 4 [(0, .int x_0), (1, .int x_1), (2, .int x_2)] [] σ := by
  intro n
  induction n with
  | zero => intro x_1 x_2 σ h; exact h.elim
  | succ n ih =>
    intro x_1 x_2 σ h
    unfold w_X10_ones_4 at h
    refine zx_iload_n C dX10_ones_4 2 rfl ?_
    refine zx_bipush (v := (16 : Int32)) C dX10_ones_5 (by decide) ?_
    refine zx_icmp_ge C 32 dX10_ones_7 (by decide) (fun q => ?_) (fun q => ?_)
    · replace h := h.1 q
      refine zx_iload_n C dX10_ones_32 1 rfl ?_
      exact zx_iret C hr dX10_ones_33 h
    · replace h := h.2 q
      refine zx_iload_n C dX10_ones_10 1 rfl ?_
      refine zx_iload_n C dX10_ones_11 0 rfl ?_
      refine zx_iload_n C dX10_ones_12 2 rfl ?_
      refine zx_cSb C [.int x_0, .int x_2] lk_X10_95 (c_X10_has l D cy g x_0 x_2  σ h) ⟨by decide, by decide⟩ ⟨rfl, rfl⟩ ⟨Nat.zero_le _, Nat.zero_le _⟩ rfl rfl (Nat.le_of_ble_eq_true rfl) dX10_ones_13 (fun r2 σ1 hb h => ?_)
      replace h := h hb
      refine zx_if_eq C 23 dX10_ones_16 (by decide) (fun q => ?_) (fun q => ?_)
      · replace h := h.1 q
        refine zx_iconst (v := (0 : Int32)) C dX10_ones_23 (by decide) ?_
        refine zx_iadd C dX10_ones_24 ?_
        refine zx_topi (fun x3 ex3 => ?_)
        replace h := h x3 ex3
        refine zx_istore_n (lv' := [(1, .int x3), (0, .int x_0), (2, .int x_2)]) C dX10_ones_25 (by decide) rfl ?_
        obtain ⟨x4, ex4⟩ : ∃ y : Int32, y = (x_2 + (1 : Int32)) := ⟨_, rfl⟩
        replace h := h x4 ex4
        refine zx_iinc (v := x4) (lv' := [(2, .int x4), (1, .int x3), (0, .int x_0)]) C dX10_ones_26 2 rfl (by rw [ex4]; rfl) (by decide) rfl ?_
        refine zx_goto C 4 dX10_ones_29 (by decide) ?_
        refine zx_lv (lv' := [(0, .int x_0), (1, .int x3), (2, .int x4)]) [2, 1, 0] rfl ?_
        exact ih x3 x4 σ1 h
      · replace h := h.2 q
        refine zx_iconst (v := (1 : Int32)) C dX10_ones_19 (by decide) ?_
        refine zx_goto C 24 dX10_ones_20 (by decide) ?_
        refine zx_iadd C dX10_ones_24 ?_
        refine zx_topi (fun x5 ex5 => ?_)
        replace h := h x5 ex5
        refine zx_istore_n (lv' := [(1, .int x5), (0, .int x_0), (2, .int x_2)]) C dX10_ones_25 (by decide) rfl ?_
        obtain ⟨x6, ex6⟩ : ∃ y : Int32, y = (x_2 + (1 : Int32)) := ⟨_, rfl⟩
        replace h := h x6 ex6
        refine zx_iinc (v := x6) (lv' := [(2, .int x6), (1, .int x5), (0, .int x_0)]) C dX10_ones_26 2 rfl (by rw [ex6]; rfl) (by decide) rfl ?_
        refine zx_goto C 4 dX10_ones_29 (by decide) ?_
        refine zx_lv (lv' := [(0, .int x_0), (1, .int x5), (2, .int x6)]) [2, 1, 0] rfl ?_
        exact ih x5 x6 σ1 h
set_option maxRecDepth 100000 in
set_option maxHeartbeats 4000000 in
theorem c_X10_ones (l : Launch) (D : va_G) (cy : Nat → ClassId) (g : Nat → Nat) (a1 : Int32)  (σ : zSto) {P : Int32 → zSto → Prop} (h : w_X10_ones a1 σ P) : zMi l yX10_ones cX10_ones 3 (some .int) (zrm 1 21) D cy g [.int a1] σ P := by
  unfold w_X10_ones at h
  refine zm_i RX10 rfl (by decide +kernel) (Nat.le_of_ble_eq_true rfl) ?_
  intro p e s m below meth c C hr
  refine zx_lv (lv' := [(0, .int a1)]) [0] rfl ?_
  refine zx_iconst (v := (0 : Int32)) C dX10_ones_0 (by decide) ?_
  refine zx_istore_n (lv' := [(1, .int (0 : Int32)), (0, .int a1)]) C dX10_ones_1 (by decide) rfl ?_
  refine zx_iconst (v := (0 : Int32)) C dX10_ones_2 (by decide) ?_
  refine zx_istore_n (lv' := [(2, .int (0 : Int32)), (1, .int (0 : Int32)), (0, .int a1)]) C dX10_ones_3 (by decide) rfl ?_
  obtain ⟨n, h⟩ := h
  refine zx_lv (lv' := [(0, .int a1), (1, .int (0 : Int32)), (2, .int (0 : Int32))]) [2, 1, 0] rfl ?_
  exact k_X10_ones_4 C hr (a1)   n (0 : Int32) (0 : Int32) σ h
def w_X10_greater (a1 : Int32) (a2 : Int32) (σ : zSto) (P : Int32 → zSto → Prop) : Prop := ((a1 ≤ a2 → P a2 σ) ∧ (¬ a1 ≤ a2 → P a1 σ))
set_option maxRecDepth 100000 in
set_option maxHeartbeats 4000000 in
theorem c_X10_greater (l : Launch) (D : va_G) (cy : Nat → ClassId) (g : Nat → Nat) (a1 : Int32) (a2 : Int32)  (σ : zSto) {P : Int32 → zSto → Prop} (h : w_X10_greater a1 a2 σ P) : zMi l yX10_greater cX10_greater 2 (some .int) (zrm 0 0) D cy g [.int a1, .int a2] σ P := by
  unfold w_X10_greater at h
  refine zm_i RX10 rfl (by decide +kernel) (Nat.le_of_ble_eq_true rfl) ?_
  intro p e s m below meth c C hr
  refine zx_lv (lv' := [(0, .int a1), (1, .int a2)]) [0, 1] rfl ?_
  refine zx_iload_n C dX10_greater_0 0 rfl ?_
  refine zx_iload_n C dX10_greater_1 1 rfl ?_
  refine zx_icmp_le C 9 dX10_greater_2 (by decide) (fun q => ?_) (fun q => ?_)
  · replace h := h.1 q
    refine zx_iload_n C dX10_greater_9 1 rfl ?_
    exact zx_iret C hr dX10_greater_10 h
  · replace h := h.2 q
    refine zx_iload_n C dX10_greater_5 0 rfl ?_
    refine zx_goto C 10 dX10_greater_6 (by decide) ?_
    exact zx_iret C hr dX10_greater_10 h
def w_X10_copyRow_3 (q_0 : Nat) (m_0 : Nat) (x_1 : Int32) (x_2 : Int32) (x_3 : Int32) (P : zSto → Prop)  : Nat → Int32 → zSto → Prop
  | 0, _, _ => False
  | n + 1, x_4, σ => ((x_1 ≤ x_4 → P σ) ∧ (¬ x_1 ≤ x_4 → (vp_in ((x_1 * x_2) + x_4) m_0 ∧ (vp_in ((x_1 * x_3) + x_4) m_0 ∧ (∀ σ3 : zSto, σ3 = zI σ q_0 (((x_1 * x_3) + x_4)).toNatClampNeg (σ.1 q_0 (((x_1 * x_2) + x_4)).toNatClampNeg) → (∀ x4 : Int32, x4 = (x_4 + (1 : Int32)) → w_X10_copyRow_3 q_0 m_0 x_1 x_2 x_3 P n x4 σ3))))))
def w_X10_copyRow (b1 n1 : Nat) (a2 : Int32) (a3 : Int32) (a4 : Int32) (σ : zSto) (P : zSto → Prop) : Prop := (∃ n : Nat, w_X10_copyRow_3 b1 n1 a2 a3 a4 P  n (0 : Int32) σ)
set_option maxRecDepth 100000 in
set_option maxHeartbeats 4000000 in
theorem k_X10_copyRow_3 {p : Program} {l : Launch} {e : Env} {s : State} {m : MethodId} {args : Array Value} {below : List Frame} {meth : Method} {c : Code} {D : va_G} {cy : Nat → ClassId} {g : Nat → Nat} (C : zC p s m args meth c cX10_copyRow RX10 5 D cy g) (hr : meth.sig.returnType = none) {P : zSto → Prop} (q_0 : Nat) (m_0 : Nat) (x_1 : Int32) (x_2 : Int32) (x_3 : Int32) (hq_0 : zsh q_0 = za 0 m_0)   : ∀ (n : Nat) (x_4 : Int32) (σ : zSto), w_X10_copyRow_3 q_0 m_0 x_1 x_2 x_3 P n x_4 σ → zX p l e (zrm 0 0) s m args below meth c 0 0 (zQv P below args s D cy g) 5 D cy g 3 [(0, .ref (g q_0)), (1, .int x_1), (2, .int x_2), (3, .int x_3), (4, .int x_4)] [] σ := by
  intro n
  induction n with
  | zero => intro x_4 σ h; exact h.elim
  | succ n ih =>
    intro x_4 σ h
    unfold w_X10_copyRow_3 at h
    refine zx_iload C dX10_copyRow_3 4 rfl ?_
    refine zx_iload_n C dX10_copyRow_5 1 rfl ?_
    refine zx_icmp_ge C 31 dX10_copyRow_6 (by decide) (fun q => ?_) (fun q => ?_)
    · replace h := h.1 q
      exact zx_vret C hr dX10_copyRow_31 h
    · replace h := h.2 q
      refine zx_aload_n C dX10_copyRow_9 0 rfl ?_
      refine zx_iload_n C dX10_copyRow_10 1 rfl ?_
      refine zx_iload_n C dX10_copyRow_11 3 rfl ?_
      refine zx_imul C dX10_copyRow_12 ?_
      refine zx_iload C dX10_copyRow_13 4 rfl ?_
      refine zx_iadd C dX10_copyRow_15 ?_
      refine zx_aload_n C dX10_copyRow_16 0 rfl ?_
      refine zx_iload_n C dX10_copyRow_17 1 rfl ?_
      refine zx_iload_n C dX10_copyRow_18 2 rfl ?_
      refine zx_imul C dX10_copyRow_19 ?_
      refine zx_iload C dX10_copyRow_20 4 rfl ?_
      refine zx_iadd C dX10_copyRow_22 ?_
      obtain ⟨bd1, h⟩ := h
      refine zx_iald C (((x_1 * x_2) + x_4)).toNatClampNeg hq_0 bd1 rfl dX10_copyRow_23 ?_
      obtain ⟨bd2, h⟩ := h
      refine zx_iast C (((x_1 * x_3) + x_4)).toNatClampNeg hq_0 bd2 rfl dX10_copyRow_24 ?_
      refine zx_sig (fun σ3 eσ3 => ?_)
      replace h := h σ3 eσ3
      obtain ⟨x4, ex4⟩ : ∃ y : Int32, y = (x_4 + (1 : Int32)) := ⟨_, rfl⟩
      replace h := h x4 ex4
      refine zx_iinc (v := x4) (lv' := [(4, .int x4), (0, .ref (g q_0)), (1, .int x_1), (2, .int x_2), (3, .int x_3)]) C dX10_copyRow_25 4 rfl (by rw [ex4]; rfl) (by decide) rfl ?_
      refine zx_goto C 3 dX10_copyRow_28 (by decide) ?_
      refine zx_lv (lv' := [(0, .ref (g q_0)), (1, .int x_1), (2, .int x_2), (3, .int x_3), (4, .int x4)]) [1, 2, 3, 4, 0] rfl ?_
      exact ih x4 σ3 h
set_option maxRecDepth 100000 in
set_option maxHeartbeats 4000000 in
theorem c_X10_copyRow (l : Launch) (D : va_G) (cy : Nat → ClassId) (g : Nat → Nat) (b1 n1 : Nat) (a2 : Int32) (a3 : Int32) (a4 : Int32) (hb1 : zsh b1 = za 0 n1) (σ : zSto) {P : zSto → Prop} (h : w_X10_copyRow b1 n1 a2 a3 a4 σ P) : zMv l yX10_copyRow cX10_copyRow 5 none (zrm 0 0) D cy g [.ref (g b1), .int a2, .int a3, .int a4] σ P := by
  unfold w_X10_copyRow at h
  refine zm_v RX10 rfl (by decide +kernel) (Nat.le_of_ble_eq_true rfl) ?_
  intro p e s m below meth c C hr
  refine zx_lv (lv' := [(0, .ref (g b1)), (1, .int a2), (2, .int a3), (3, .int a4)]) [0, 1, 2, 3] rfl ?_
  refine zx_iconst (v := (0 : Int32)) C dX10_copyRow_0 (by decide) ?_
  refine zx_istore (lv' := [(4, .int (0 : Int32)), (0, .ref (g b1)), (1, .int a2), (2, .int a3), (3, .int a4)]) C dX10_copyRow_1 (by decide) rfl ?_
  obtain ⟨n, h⟩ := h
  refine zx_lv (lv' := [(0, .ref (g b1)), (1, .int a2), (2, .int a3), (3, .int a4), (4, .int (0 : Int32))]) [1, 2, 3, 4, 0] rfl ?_
  exact k_X10_copyRow_3 C hr (b1) (n1) (a2) (a3) (a4) hb1  n (0 : Int32) σ h
theorem fg_X10_13 : zFG RX10 13 10 2 := ⟨RX10, TX10, 50, rfl, lay_X10, by decide, fl_X10_13⟩
theorem lk_X10_99 : zLS RX10 99 yX10_copyRow cX10_copyRow 5 none 4 := zLS_of ml_X10_99 st_X10_copyRow ini_X10 cd_X10_copyRow (by decide +kernel)
theorem fg_X10_17 : zFG RX10 17 10 3 := ⟨RX10, TX10, 50, rfl, lay_X10, by decide, fl_X10_17⟩
theorem fg_X10_20 : zFG RX10 20 10 4 := ⟨RX10, TX10, 50, rfl, lay_X10, by decide, fl_X10_20⟩
theorem fg_X10_23 : zFG RX10 23 10 5 := ⟨RX10, TX10, 50, rfl, lay_X10, by decide, fl_X10_23⟩
theorem fg_X10_26 : zFG RX10 26 10 6 := ⟨RX10, TX10, 50, rfl, lay_X10, by decide, fl_X10_26⟩
theorem fg_X10_29 : zFG RX10 29 10 7 := ⟨RX10, TX10, 50, rfl, lay_X10, by decide, fl_X10_29⟩
theorem fg_X10_32 : zFG RX10 32 10 8 := ⟨RX10, TX10, 50, rfl, lay_X10, by decide, fl_X10_32⟩
theorem fg_X10_7 : zFG RX10 7 10 1 := ⟨RX10, TX10, 50, rfl, lay_X10, by decide, fl_X10_7⟩
def w_X10_copyAll_2 (x_1 : Int32) (x_2 : Int32) (P : zSto → Prop)  : Nat → Int32 → zSto → Prop
  | 0, _, _ => False
  | n + 1, x_3, σ => (((600 : Int32) ≤ x_3 → (w_X10_copyRow 225 4 (1 : Int32) x_1 x_2 σ (fun (σ1 : zSto) => (w_X10_copyRow 226 4 (1 : Int32) x_1 x_2 σ1 (fun (σ2 : zSto) => (w_X10_copyRow 227 4 (1 : Int32) x_1 x_2 σ2 (fun (σ3 : zSto) => (w_X10_copyRow 228 12 (3 : Int32) x_1 x_2 σ3 (fun (σ4 : zSto) => (w_X10_copyRow 229 984 (246 : Int32) x_1 x_2 σ4 (fun (σ5 : zSto) => (w_X10_copyRow 230 264 (66 : Int32) x_1 x_2 σ5 (fun (σ6 : zSto) => (w_X10_copyRow 231 168 (42 : Int32) x_1 x_2 σ6 (fun (σ7 : zSto) => P σ7))))))))))))))) ∧ (¬ (600 : Int32) ≤ x_3 → (vp_in (((600 : Int32) * x_1) + x_3) 2400 ∧ (vp_in (((600 : Int32) * x_2) + x_3) 2400 ∧ (∀ σ10 : zSto, σ10 = zI σ 224 ((((600 : Int32) * x_2) + x_3)).toNatClampNeg (vp_nar .byte (σ.1 224 ((((600 : Int32) * x_1) + x_3)).toNatClampNeg)) → (∀ x11 : Int32, x11 = (x_3 + (1 : Int32)) → w_X10_copyAll_2 x_1 x_2 P n x11 σ10))))))
def w_X10_copyAll (a1 : Int32) (a2 : Int32) (σ : zSto) (P : zSto → Prop) : Prop := (∃ n : Nat, w_X10_copyAll_2 a1 a2 P  n (0 : Int32) σ)
set_option maxRecDepth 100000 in
set_option maxHeartbeats 4000000 in
theorem k_X10_copyAll_2 {p : Program} {l : Launch} {e : Env} {s : State} {m : MethodId} {args : Array Value} {below : List Frame} {meth : Method} {c : Code} {D : va_G} {cy : Nat → ClassId} {g : Nat → Nat} (C : zC p s m args meth c cX10_copyAll RX10 4 D cy g) (hr : meth.sig.returnType = none) {P : zSto → Prop} (x_1 : Int32) (x_2 : Int32)    : ∀ (n : Nat) (x_3 : Int32) (σ : zSto), w_X10_copyAll_2 x_1 x_2 P n x_3 σ → zX p l e (zrm 1 24) s m args below meth c 0 0 (zQv P below args s D cy g) 4 D cy g 2 [(0, .ref (g 223)), (1, .int x_1), (2, .int x_2), (3, .int x_3)] [] σ := by
  intro n
  induction n with
  | zero => intro x_3 σ h; exact h.elim
  | succ n ih =>
    intro x_3 σ h
    unfold w_X10_copyAll_2 at h
    refine zx_iload_n C dX10_copyAll_2 3 rfl ?_
    refine zx_sipush (v := (600 : Int32)) C dX10_copyAll_3 (by decide) ?_
    refine zx_icmp_ge C 39 dX10_copyAll_6 (by decide) (fun q => ?_) (fun q => ?_)
    · replace h := h.1 q
      refine zx_aload_n C dX10_copyAll_39 0 rfl ?_
      refine zx_getR C zs_223 fg_X10_13 rfl 225 rfl dX10_copyAll_40 ?_
      refine zx_iconst (v := (1 : Int32)) C dX10_copyAll_43 (by decide) ?_
      refine zx_iload_n C dX10_copyAll_44 1 rfl ?_
      refine zx_iload_n C dX10_copyAll_45 2 rfl ?_
      refine zx_cSv C [.ref (g 225), .int (1 : Int32), .int x_1, .int x_2] lk_X10_99 (c_X10_copyRow l D cy g 225 4 (1 : Int32) x_1 x_2 zs_225 σ h) ⟨by decide, by decide⟩ ⟨rfl, rfl⟩ ⟨Nat.zero_le _, Nat.zero_le _⟩ rfl rfl (Nat.le_of_ble_eq_true rfl) dX10_copyAll_46 (fun σ1 h => ?_)
      refine zx_aload_n C dX10_copyAll_49 0 rfl ?_
      refine zx_getR C zs_223 fg_X10_17 rfl 226 rfl dX10_copyAll_50 ?_
      refine zx_iconst (v := (1 : Int32)) C dX10_copyAll_53 (by decide) ?_
      refine zx_iload_n C dX10_copyAll_54 1 rfl ?_
      refine zx_iload_n C dX10_copyAll_55 2 rfl ?_
      refine zx_cSv C [.ref (g 226), .int (1 : Int32), .int x_1, .int x_2] lk_X10_99 (c_X10_copyRow l D cy g 226 4 (1 : Int32) x_1 x_2 zs_226 σ1 h) ⟨by decide, by decide⟩ ⟨rfl, rfl⟩ ⟨Nat.zero_le _, Nat.zero_le _⟩ rfl rfl (Nat.le_of_ble_eq_true rfl) dX10_copyAll_56 (fun σ2 h => ?_)
      refine zx_aload_n C dX10_copyAll_59 0 rfl ?_
      refine zx_getR C zs_223 fg_X10_20 rfl 227 rfl dX10_copyAll_60 ?_
      refine zx_iconst (v := (1 : Int32)) C dX10_copyAll_63 (by decide) ?_
      refine zx_iload_n C dX10_copyAll_64 1 rfl ?_
      refine zx_iload_n C dX10_copyAll_65 2 rfl ?_
      refine zx_cSv C [.ref (g 227), .int (1 : Int32), .int x_1, .int x_2] lk_X10_99 (c_X10_copyRow l D cy g 227 4 (1 : Int32) x_1 x_2 zs_227 σ2 h) ⟨by decide, by decide⟩ ⟨rfl, rfl⟩ ⟨Nat.zero_le _, Nat.zero_le _⟩ rfl rfl (Nat.le_of_ble_eq_true rfl) dX10_copyAll_66 (fun σ3 h => ?_)
      refine zx_aload_n C dX10_copyAll_69 0 rfl ?_
      refine zx_getR C zs_223 fg_X10_23 rfl 228 rfl dX10_copyAll_70 ?_
      refine zx_iconst (v := (3 : Int32)) C dX10_copyAll_73 (by decide) ?_
      refine zx_iload_n C dX10_copyAll_74 1 rfl ?_
      refine zx_iload_n C dX10_copyAll_75 2 rfl ?_
      refine zx_cSv C [.ref (g 228), .int (3 : Int32), .int x_1, .int x_2] lk_X10_99 (c_X10_copyRow l D cy g 228 12 (3 : Int32) x_1 x_2 zs_228 σ3 h) ⟨by decide, by decide⟩ ⟨rfl, rfl⟩ ⟨Nat.zero_le _, Nat.zero_le _⟩ rfl rfl (Nat.le_of_ble_eq_true rfl) dX10_copyAll_76 (fun σ4 h => ?_)
      refine zx_aload_n C dX10_copyAll_79 0 rfl ?_
      refine zx_getR C zs_223 fg_X10_26 rfl 229 rfl dX10_copyAll_80 ?_
      refine zx_sipush (v := (246 : Int32)) C dX10_copyAll_83 (by decide) ?_
      refine zx_iload_n C dX10_copyAll_86 1 rfl ?_
      refine zx_iload_n C dX10_copyAll_87 2 rfl ?_
      refine zx_cSv C [.ref (g 229), .int (246 : Int32), .int x_1, .int x_2] lk_X10_99 (c_X10_copyRow l D cy g 229 984 (246 : Int32) x_1 x_2 zs_229 σ4 h) ⟨by decide, by decide⟩ ⟨rfl, rfl⟩ ⟨Nat.zero_le _, Nat.zero_le _⟩ rfl rfl (Nat.le_of_ble_eq_true rfl) dX10_copyAll_88 (fun σ5 h => ?_)
      refine zx_aload_n C dX10_copyAll_91 0 rfl ?_
      refine zx_getR C zs_223 fg_X10_29 rfl 230 rfl dX10_copyAll_92 ?_
      refine zx_bipush (v := (66 : Int32)) C dX10_copyAll_95 (by decide) ?_
      refine zx_iload_n C dX10_copyAll_97 1 rfl ?_
      refine zx_iload_n C dX10_copyAll_98 2 rfl ?_
      refine zx_cSv C [.ref (g 230), .int (66 : Int32), .int x_1, .int x_2] lk_X10_99 (c_X10_copyRow l D cy g 230 264 (66 : Int32) x_1 x_2 zs_230 σ5 h) ⟨by decide, by decide⟩ ⟨rfl, rfl⟩ ⟨Nat.zero_le _, Nat.zero_le _⟩ rfl rfl (Nat.le_of_ble_eq_true rfl) dX10_copyAll_99 (fun σ6 h => ?_)
      refine zx_aload_n C dX10_copyAll_102 0 rfl ?_
      refine zx_getR C zs_223 fg_X10_32 rfl 231 rfl dX10_copyAll_103 ?_
      refine zx_bipush (v := (42 : Int32)) C dX10_copyAll_106 (by decide) ?_
      refine zx_iload_n C dX10_copyAll_108 1 rfl ?_
      refine zx_iload_n C dX10_copyAll_109 2 rfl ?_
      refine zx_cSv C [.ref (g 231), .int (42 : Int32), .int x_1, .int x_2] lk_X10_99 (c_X10_copyRow l D cy g 231 168 (42 : Int32) x_1 x_2 zs_231 σ6 h) ⟨by decide, by decide⟩ ⟨rfl, rfl⟩ ⟨Nat.zero_le _, Nat.zero_le _⟩ rfl rfl (Nat.le_of_ble_eq_true rfl) dX10_copyAll_110 (fun σ7 h => ?_)
      exact zx_vret C hr dX10_copyAll_113 h
    · replace h := h.2 q
      refine zx_aload_n C dX10_copyAll_9 0 rfl ?_
      refine zx_getR C zs_223 fg_X10_7 rfl 224 rfl dX10_copyAll_10 ?_
      refine zx_sipush (v := (600 : Int32)) C dX10_copyAll_13 (by decide) ?_
      refine zx_iload_n C dX10_copyAll_16 2 rfl ?_
      refine zx_imul C dX10_copyAll_17 ?_
      refine zx_iload_n C dX10_copyAll_18 3 rfl ?_
      refine zx_iadd C dX10_copyAll_19 ?_
      refine zx_aload_n C dX10_copyAll_20 0 rfl ?_
      refine zx_getR C zs_223 fg_X10_7 rfl 224 rfl dX10_copyAll_21 ?_
      refine zx_sipush (v := (600 : Int32)) C dX10_copyAll_24 (by decide) ?_
      refine zx_iload_n C dX10_copyAll_27 1 rfl ?_
      refine zx_imul C dX10_copyAll_28 ?_
      refine zx_iload_n C dX10_copyAll_29 3 rfl ?_
      refine zx_iadd C dX10_copyAll_30 ?_
      obtain ⟨bd8, h⟩ := h
      refine zx_bald C ((((600 : Int32) * x_1) + x_3)).toNatClampNeg zs_224 bd8 rfl dX10_copyAll_31 ?_
      obtain ⟨bd9, h⟩ := h
      refine zx_bast C ((((600 : Int32) * x_2) + x_3)).toNatClampNeg zs_224 bd9 rfl dX10_copyAll_32 ?_
      refine zx_sig (fun σ10 eσ10 => ?_)
      replace h := h σ10 eσ10
      obtain ⟨x11, ex11⟩ : ∃ y : Int32, y = (x_3 + (1 : Int32)) := ⟨_, rfl⟩
      replace h := h x11 ex11
      refine zx_iinc (v := x11) (lv' := [(3, .int x11), (0, .ref (g 223)), (1, .int x_1), (2, .int x_2)]) C dX10_copyAll_33 3 rfl (by rw [ex11]; rfl) (by decide) rfl ?_
      refine zx_goto C 2 dX10_copyAll_36 (by decide) ?_
      refine zx_lv (lv' := [(0, .ref (g 223)), (1, .int x_1), (2, .int x_2), (3, .int x11)]) [1, 2, 3, 0] rfl ?_
      exact ih x11 σ10 h
set_option maxRecDepth 100000 in
set_option maxHeartbeats 4000000 in
theorem c_X10_copyAll (l : Launch) (D : va_G) (cy : Nat → ClassId) (g : Nat → Nat) (a1 : Int32) (a2 : Int32)  (σ : zSto) {P : zSto → Prop} (h : w_X10_copyAll a1 a2 σ P) : zMv l yX10_copyAll cX10_copyAll 4 none (zrm 1 24) D cy g [.ref (g 223), .int a1, .int a2] σ P := by
  unfold w_X10_copyAll at h
  refine zm_v RX10 rfl (by decide +kernel) (Nat.le_of_ble_eq_true rfl) ?_
  intro p e s m below meth c C hr
  refine zx_lv (lv' := [(0, .ref (g 223)), (1, .int a1), (2, .int a2)]) [0, 1, 2] rfl ?_
  refine zx_iconst (v := (0 : Int32)) C dX10_copyAll_0 (by decide) ?_
  refine zx_istore_n (lv' := [(3, .int (0 : Int32)), (0, .ref (g 223)), (1, .int a1), (2, .int a2)]) C dX10_copyAll_1 (by decide) rfl ?_
  obtain ⟨n, h⟩ := h
  refine zx_lv (lv' := [(0, .ref (g 223)), (1, .int a1), (2, .int a2), (3, .int (0 : Int32))]) [1, 2, 3, 0] rfl ?_
  exact k_X10_copyAll_2 C hr (a1) (a2)   n (0 : Int32) σ h
theorem lk_X10_103 : zLS RX10 103 yX10_in cX10_in 3 (some .boolean) 3 := zLS_of ml_X10_103 st_X10_in ini_X10 cd_X10_in (by decide +kernel)
def w_X10_is (a1 : Int32) (a2 : Int32) (σ : zSto) (P : Int32 → zSto → Prop) : Prop := (vp_in a1 12 ∧ (w_X10_in a2 (0 : Int32) ((σ.1 228 (a1).toNatClampNeg) - (1 : Int32)) σ (fun (r3 : Int32) (σ2 : zSto) => (r3 = 0 ∨ r3 = 1) → ((r3 = 0 ∨ r3 = 1) ∧ P r3 σ2))))
set_option maxRecDepth 100000 in
set_option maxHeartbeats 4000000 in
theorem c_X10_is (l : Launch) (D : va_G) (cy : Nat → ClassId) (g : Nat → Nat) (a1 : Int32) (a2 : Int32)  (σ : zSto) {P : Int32 → zSto → Prop} (h : w_X10_is a1 a2 σ P) : zMb l yX10_is cX10_is 3 (some .boolean) (zrm 1 22) D cy g [.ref (g 223), .int a1, .int a2] σ P := by
  unfold w_X10_is at h
  refine zm_b RX10 rfl (by decide +kernel) (Nat.le_of_ble_eq_true rfl) ?_
  intro p e s m below meth c C hr
  refine zx_lv (lv' := [(0, .ref (g 223)), (1, .int a1), (2, .int a2)]) [0, 1, 2] rfl ?_
  refine zx_iload_n C dX10_is_0 2 rfl ?_
  refine zx_iconst (v := (0 : Int32)) C dX10_is_1 (by decide) ?_
  refine zx_aload_n C dX10_is_2 0 rfl ?_
  refine zx_getR C zs_223 fg_X10_23 rfl 228 rfl dX10_is_3 ?_
  refine zx_iload_n C dX10_is_6 1 rfl ?_
  obtain ⟨bd1, h⟩ := h
  refine zx_iald C (a1).toNatClampNeg zs_228 bd1 rfl dX10_is_7 ?_
  refine zx_iconst (v := (1 : Int32)) C dX10_is_8 (by decide) ?_
  refine zx_isub C dX10_is_9 ?_
  refine zx_cSb C [.int a2, .int (0 : Int32), .int ((σ.1 228 (a1).toNatClampNeg) - (1 : Int32))] lk_X10_103 (c_X10_in l D cy g a2 (0 : Int32) ((σ.1 228 (a1).toNatClampNeg) - (1 : Int32))  σ h) ⟨by decide, by decide⟩ ⟨rfl, rfl⟩ ⟨Nat.zero_le _, Nat.zero_le _⟩ rfl rfl (Nat.le_of_ble_eq_true rfl) dX10_is_10 (fun r3 σ2 hb h => ?_)
  replace h := h hb
  exact zx_zret C hr dX10_is_13 h.1 h.2
def w_X10_four_3 (x_1 : Int32) (P : zSto → Prop)  : Nat → Int32 → zSto → Prop
  | 0, _, _ => False
  | n + 1, x_2, σ => ((x_2 < 0 → P σ) ∧ (¬ x_2 < 0 → (vp_in (σ.1 225 0) 2400 ∧ (∀ σ2 : zSto, σ2 = zI σ 224 ((σ.1 225 0)).toNatClampNeg (vp_nar .byte (x_1 >>> (x_2 &&& 31)).toInt8.toInt32) → (∀ σ3 : zSto, σ3 = zI σ2 225 0 ((σ2.1 225 0) + (1 : Int32)) → (∀ x4 : Int32, x4 = (x_2 + (-8 : Int32)) → w_X10_four_3 x_1 P n x4 σ3))))))
def w_X10_four (a1 : Int32) (σ : zSto) (P : zSto → Prop) : Prop := (∃ n : Nat, w_X10_four_3 a1 P  n (24 : Int32) σ)
set_option maxRecDepth 100000 in
set_option maxHeartbeats 4000000 in
theorem k_X10_four_3 {p : Program} {l : Launch} {e : Env} {s : State} {m : MethodId} {args : Array Value} {below : List Frame} {meth : Method} {c : Code} {D : va_G} {cy : Nat → ClassId} {g : Nat → Nat} (C : zC p s m args meth c cX10_four RX10 3 D cy g) (hr : meth.sig.returnType = none) {P : zSto → Prop} (x_1 : Int32)    : ∀ (n : Nat) (x_2 : Int32) (σ : zSto), w_X10_four_3 x_1 P n x_2 σ → zX p l e (zrm 0 0) s m args below meth c 0 0 (zQv P below args s D cy g) 3 D cy g 3 [(0, .ref (g 223)), (1, .int x_1), (2, .int x_2)] [] σ := by
  intro n
  induction n with
  | zero => intro x_2 σ h; exact h.elim
  | succ n ih =>
    intro x_2 σ h
    unfold w_X10_four_3 at h
    refine zx_iload_n C dX10_four_3 2 rfl ?_
    refine zx_if_lt C 38 dX10_four_4 (by decide) (fun q => ?_) (fun q => ?_)
    · replace h := h.1 q
      exact zx_vret C hr dX10_four_38 h
    · replace h := h.2 q
      refine zx_aload_n C dX10_four_7 0 rfl ?_
      refine zx_getR C zs_223 fg_X10_7 rfl 224 rfl dX10_four_8 ?_
      refine zx_aload_n C dX10_four_11 0 rfl ?_
      refine zx_getR C zs_223 fg_X10_13 rfl 225 rfl dX10_four_12 ?_
      refine zx_iconst (v := (0 : Int32)) C dX10_four_15 (by decide) ?_
      refine zx_iald C 0 zs_225 (by unfold vp_in; decide) (by decide) dX10_four_16 ?_
      refine zx_iload_n C dX10_four_17 1 rfl ?_
      refine zx_iload_n C dX10_four_18 2 rfl ?_
      refine zx_ishr C dX10_four_19 ?_
      refine zx_i2b C dX10_four_20 ?_
      obtain ⟨bd1, h⟩ := h
      refine zx_bast C ((σ.1 225 0)).toNatClampNeg zs_224 bd1 rfl dX10_four_21 ?_
      refine zx_sig (fun σ2 eσ2 => ?_)
      replace h := h σ2 eσ2
      refine zx_aload_n C dX10_four_22 0 rfl ?_
      refine zx_getR C zs_223 fg_X10_13 rfl 225 rfl dX10_four_23 ?_
      refine zx_iconst (v := (0 : Int32)) C dX10_four_26 (by decide) ?_
      refine zx_dup2 C dX10_four_27 rfl rfl ?_
      refine zx_iald C 0 zs_225 (by unfold vp_in; decide) (by decide) dX10_four_28 ?_
      refine zx_iconst (v := (1 : Int32)) C dX10_four_29 (by decide) ?_
      refine zx_iadd C dX10_four_30 ?_
      refine zx_iast C 0 zs_225 (by unfold vp_in; decide) (by decide) dX10_four_31 ?_
      refine zx_sig (fun σ3 eσ3 => ?_)
      replace h := h σ3 eσ3
      obtain ⟨x4, ex4⟩ : ∃ y : Int32, y = (x_2 + (-8 : Int32)) := ⟨_, rfl⟩
      replace h := h x4 ex4
      refine zx_iinc (v := x4) (lv' := [(2, .int x4), (0, .ref (g 223)), (1, .int x_1)]) C dX10_four_32 2 rfl (by rw [ex4]; rfl) (by decide) rfl ?_
      refine zx_goto C 3 dX10_four_35 (by decide) ?_
      refine zx_lv (lv' := [(0, .ref (g 223)), (1, .int x_1), (2, .int x4)]) [1, 2, 0] rfl ?_
      exact ih x4 σ3 h
set_option maxRecDepth 100000 in
set_option maxHeartbeats 4000000 in
theorem c_X10_four (l : Launch) (D : va_G) (cy : Nat → ClassId) (g : Nat → Nat) (a1 : Int32)  (σ : zSto) {P : zSto → Prop} (h : w_X10_four a1 σ P) : zMv l yX10_four cX10_four 3 none (zrm 0 0) D cy g [.ref (g 223), .int a1] σ P := by
  unfold w_X10_four at h
  refine zm_v RX10 rfl (by decide +kernel) (Nat.le_of_ble_eq_true rfl) ?_
  intro p e s m below meth c C hr
  refine zx_lv (lv' := [(0, .ref (g 223)), (1, .int a1)]) [0, 1] rfl ?_
  refine zx_bipush (v := (24 : Int32)) C dX10_four_0 (by decide) ?_
  refine zx_istore_n (lv' := [(2, .int (24 : Int32)), (0, .ref (g 223)), (1, .int a1)]) C dX10_four_2 (by decide) rfl ?_
  obtain ⟨n, h⟩ := h
  refine zx_lv (lv' := [(0, .ref (g 223)), (1, .int a1), (2, .int (24 : Int32))]) [1, 2, 0] rfl ?_
  exact k_X10_four_3 C hr (a1)   n (24 : Int32) σ h
theorem fp_X10_91 : zFP RX10 91 10 0 .int := ⟨RX10, TX10, 50, tyX10, rfl, lay_X10, by decide, fl_X10_91, tyX10_ok, nmX10, rfl, by decide +kernel⟩
theorem lk_X10_107 : zLV RX10 107 RX10 yX10_four cX10_four 3 none 1 := zLV_of ml_X10_107 im_X10_four se_X10_four ini_X10 cd_X10_four (by decide +kernel)
def w_X10_feed (a1 : Int32) (a2 : Int32) (a3 : Int32) (a4 : Int32) (a5 : Int32) (σ : zSto) (P : Int32 → zSto → Prop) : Prop := (∀ σ1 : zSto, σ1 = zI σ 223 0 (0 : Int32) → ((((σ1.1 225 0) + (20 : Int32)) ≤ (600 : Int32) → (w_X10_four a1 σ1 (fun (σ2 : zSto) => (w_X10_four a2 σ2 (fun (σ3 : zSto) => (w_X10_four a3 σ3 (fun (σ4 : zSto) => (w_X10_four a4 σ4 (fun (σ5 : zSto) => (w_X10_four a5 σ5 (fun (σ6 : zSto) => P (σ6.1 225 0) σ6))))))))))) ∧ (¬ ((σ1.1 225 0) + (20 : Int32)) ≤ (600 : Int32) → P (-1 : Int32) σ1)))
set_option maxRecDepth 100000 in
set_option maxHeartbeats 4000000 in
theorem c_X10_feed (l : Launch) (D : va_G) (cy : Nat → ClassId) (g : Nat → Nat) (a1 : Int32) (a2 : Int32) (a3 : Int32) (a4 : Int32) (a5 : Int32)  (σ : zSto) {P : Int32 → zSto → Prop} (h : w_X10_feed a1 a2 a3 a4 a5 σ P) : zMi l yX10_feed cX10_feed 6 (some .int) (zrm 1 22) D cy g [.ref (g 223), .int a1, .int a2, .int a3, .int a4, .int a5] σ P := by
  unfold w_X10_feed at h
  refine zm_i RX10 rfl (by decide +kernel) (Nat.le_of_ble_eq_true rfl) ?_
  intro p e s m below meth c C hr
  refine zx_lv (lv' := [(0, .ref (g 223)), (1, .int a1), (2, .int a2), (3, .int a3), (4, .int a4), (5, .int a5)]) [0, 1, 2, 3, 4, 5] rfl ?_
  refine zx_aload_n C dX10_feed_0 0 rfl ?_
  refine zx_iconst (v := (0 : Int32)) C dX10_feed_1 (by decide) ?_
  refine zx_putI C zs_223 fp_X10_91 rfl dX10_feed_2 ?_
  refine zx_sig (fun σ1 eσ1 => ?_)
  replace h := h σ1 eσ1
  refine zx_aload_n C dX10_feed_5 0 rfl ?_
  refine zx_getR C zs_223 fg_X10_13 rfl 225 rfl dX10_feed_6 ?_
  refine zx_iconst (v := (0 : Int32)) C dX10_feed_9 (by decide) ?_
  refine zx_iald C 0 zs_225 (by unfold vp_in; decide) (by decide) dX10_feed_10 ?_
  refine zx_bipush (v := (20 : Int32)) C dX10_feed_11 (by decide) ?_
  refine zx_iadd C dX10_feed_13 ?_
  refine zx_sipush (v := (600 : Int32)) C dX10_feed_14 (by decide) ?_
  refine zx_icmp_le C 22 dX10_feed_17 (by decide) (fun q => ?_) (fun q => ?_)
  · replace h := h.1 q
    refine zx_aload_n C dX10_feed_22 0 rfl ?_
    refine zx_iload_n C dX10_feed_23 1 rfl ?_
    refine zx_cVv C [.int a1] lk_X10_107 (c_X10_four l D cy g a1  σ1 h) zs_223 rfl ⟨by decide, by decide⟩ ⟨rfl, rfl⟩ ⟨Nat.zero_le _, Nat.zero_le _⟩ rfl rfl (Nat.le_of_ble_eq_true rfl) dX10_feed_24 (fun σ2 h => ?_)
    refine zx_aload_n C dX10_feed_27 0 rfl ?_
    refine zx_iload_n C dX10_feed_28 2 rfl ?_
    refine zx_cVv C [.int a2] lk_X10_107 (c_X10_four l D cy g a2  σ2 h) zs_223 rfl ⟨by decide, by decide⟩ ⟨rfl, rfl⟩ ⟨Nat.zero_le _, Nat.zero_le _⟩ rfl rfl (Nat.le_of_ble_eq_true rfl) dX10_feed_29 (fun σ3 h => ?_)
    refine zx_aload_n C dX10_feed_32 0 rfl ?_
    refine zx_iload_n C dX10_feed_33 3 rfl ?_
    refine zx_cVv C [.int a3] lk_X10_107 (c_X10_four l D cy g a3  σ3 h) zs_223 rfl ⟨by decide, by decide⟩ ⟨rfl, rfl⟩ ⟨Nat.zero_le _, Nat.zero_le _⟩ rfl rfl (Nat.le_of_ble_eq_true rfl) dX10_feed_34 (fun σ4 h => ?_)
    refine zx_aload_n C dX10_feed_37 0 rfl ?_
    refine zx_iload C dX10_feed_38 4 rfl ?_
    refine zx_cVv C [.int a4] lk_X10_107 (c_X10_four l D cy g a4  σ4 h) zs_223 rfl ⟨by decide, by decide⟩ ⟨rfl, rfl⟩ ⟨Nat.zero_le _, Nat.zero_le _⟩ rfl rfl (Nat.le_of_ble_eq_true rfl) dX10_feed_40 (fun σ5 h => ?_)
    refine zx_aload_n C dX10_feed_43 0 rfl ?_
    refine zx_iload C dX10_feed_44 5 rfl ?_
    refine zx_cVv C [.int a5] lk_X10_107 (c_X10_four l D cy g a5  σ5 h) zs_223 rfl ⟨by decide, by decide⟩ ⟨rfl, rfl⟩ ⟨Nat.zero_le _, Nat.zero_le _⟩ rfl rfl (Nat.le_of_ble_eq_true rfl) dX10_feed_46 (fun σ6 h => ?_)
    refine zx_aload_n C dX10_feed_49 0 rfl ?_
    refine zx_getR C zs_223 fg_X10_13 rfl 225 rfl dX10_feed_50 ?_
    refine zx_iconst (v := (0 : Int32)) C dX10_feed_53 (by decide) ?_
    refine zx_iald C 0 zs_225 (by unfold vp_in; decide) (by decide) dX10_feed_54 ?_
    exact zx_iret C hr dX10_feed_55 h
  · replace h := h.2 q
    refine zx_iconst (v := (-1 : Int32)) C dX10_feed_20 (by decide) ?_
    exact zx_iret C hr dX10_feed_21 h
def w_X10_end (a1 : Int32) (σ : zSto) (P : Int32 → zSto → Prop) : Prop := (∀ σ1 : zSto, σ1 = zI σ 223 0 (0 : Int32) → (w_X10_in a1 (0 : Int32) (σ1.1 225 0) σ1 (fun (r3 : Int32) (σ2 : zSto) => (r3 = 0 ∨ r3 = 1) → ((¬ r3 = 0 → (∀ σ4 : zSto, σ4 = zI σ2 225 0 a1 → P a1 σ4)) ∧ (r3 = 0 → P (-1 : Int32) σ2)))))
set_option maxRecDepth 100000 in
set_option maxHeartbeats 4000000 in
theorem c_X10_end (l : Launch) (D : va_G) (cy : Nat → ClassId) (g : Nat → Nat) (a1 : Int32)  (σ : zSto) {P : Int32 → zSto → Prop} (h : w_X10_end a1 σ P) : zMi l yX10_end cX10_end 2 (some .int) (zrm 1 22) D cy g [.ref (g 223), .int a1] σ P := by
  unfold w_X10_end at h
  refine zm_i RX10 rfl (by decide +kernel) (Nat.le_of_ble_eq_true rfl) ?_
  intro p e s m below meth c C hr
  refine zx_lv (lv' := [(0, .ref (g 223)), (1, .int a1)]) [0, 1] rfl ?_
  refine zx_aload_n C dX10_end_0 0 rfl ?_
  refine zx_iconst (v := (0 : Int32)) C dX10_end_1 (by decide) ?_
  refine zx_putI C zs_223 fp_X10_91 rfl dX10_end_2 ?_
  refine zx_sig (fun σ1 eσ1 => ?_)
  replace h := h σ1 eσ1
  refine zx_iload_n C dX10_end_5 1 rfl ?_
  refine zx_iconst (v := (0 : Int32)) C dX10_end_6 (by decide) ?_
  refine zx_aload_n C dX10_end_7 0 rfl ?_
  refine zx_getR C zs_223 fg_X10_13 rfl 225 rfl dX10_end_8 ?_
  refine zx_iconst (v := (0 : Int32)) C dX10_end_11 (by decide) ?_
  refine zx_iald C 0 zs_225 (by unfold vp_in; decide) (by decide) dX10_end_12 ?_
  refine zx_cSb C [.int a1, .int (0 : Int32), .int (σ1.1 225 0)] lk_X10_103 (c_X10_in l D cy g a1 (0 : Int32) (σ1.1 225 0)  σ1 h) ⟨by decide, by decide⟩ ⟨rfl, rfl⟩ ⟨Nat.zero_le _, Nat.zero_le _⟩ rfl rfl (Nat.le_of_ble_eq_true rfl) dX10_end_13 (fun r3 σ2 hb h => ?_)
  replace h := h hb
  refine zx_if_ne C 21 dX10_end_16 (by decide) (fun q => ?_) (fun q => ?_)
  · replace h := h.1 q
    refine zx_aload_n C dX10_end_21 0 rfl ?_
    refine zx_getR C zs_223 fg_X10_13 rfl 225 rfl dX10_end_22 ?_
    refine zx_iconst (v := (0 : Int32)) C dX10_end_25 (by decide) ?_
    refine zx_iload_n C dX10_end_26 1 rfl ?_
    refine zx_iast C 0 zs_225 (by unfold vp_in; decide) (by decide) dX10_end_27 ?_
    refine zx_sig (fun σ4 eσ4 => ?_)
    replace h := h σ4 eσ4
    refine zx_iload_n C dX10_end_28 1 rfl ?_
    exact zx_iret C hr dX10_end_29 h
  · replace h := h.2 q
    refine zx_iconst (v := (-1 : Int32)) C dX10_end_19 (by decide) ?_
    exact zx_iret C hr dX10_end_20 h
theorem fg_X10_111 : zFG RX10 111 10 9 := ⟨RX10, TX10, 50, rfl, lay_X10, by decide, fl_X10_111⟩
theorem fg_X10_114 : zFG RX10 114 10 10 := ⟨RX10, TX10, 50, rfl, lay_X10, by decide, fl_X10_114⟩
def w_X10_see  (σ : zSto) (P : Int32 → zSto → Prop) : Prop := (((σ.1 223 10) ≤ (σ.1 223 9) → P (-1 : Int32) σ) ∧ (¬ (σ.1 223 10) ≤ (σ.1 223 9) → (vp_in (σ.1 223 9) 2400 ∧ P ((σ.1 224 ((σ.1 223 9)).toNatClampNeg) &&& (255 : Int32)) σ)))
set_option maxRecDepth 100000 in
set_option maxHeartbeats 4000000 in
theorem c_X10_see (l : Launch) (D : va_G) (cy : Nat → ClassId) (g : Nat → Nat)   (σ : zSto) {P : Int32 → zSto → Prop} (h : w_X10_see  σ P) : zMi l yX10_see cX10_see 1 (some .int) (zrm 0 0) D cy g [.ref (g 223)] σ P := by
  unfold w_X10_see at h
  refine zm_i RX10 rfl (by decide +kernel) (Nat.le_of_ble_eq_true rfl) ?_
  intro p e s m below meth c C hr
  refine zx_lv (lv' := [(0, .ref (g 223))]) [0] rfl ?_
  refine zx_aload_n C dX10_see_0 0 rfl ?_
  refine zx_getI C zs_223 fg_X10_111 rfl dX10_see_1 ?_
  refine zx_aload_n C dX10_see_4 0 rfl ?_
  refine zx_getI C zs_223 fg_X10_114 rfl dX10_see_5 ?_
  refine zx_icmp_ge C 27 dX10_see_8 (by decide) (fun q => ?_) (fun q => ?_)
  · replace h := h.1 q
    refine zx_iconst (v := (-1 : Int32)) C dX10_see_27 (by decide) ?_
    exact zx_iret C hr dX10_see_28 h
  · replace h := h.2 q
    refine zx_aload_n C dX10_see_11 0 rfl ?_
    refine zx_getR C zs_223 fg_X10_7 rfl 224 rfl dX10_see_12 ?_
    refine zx_aload_n C dX10_see_15 0 rfl ?_
    refine zx_getI C zs_223 fg_X10_111 rfl dX10_see_16 ?_
    obtain ⟨bd1, h⟩ := h
    refine zx_bald C ((σ.1 223 9)).toNatClampNeg zs_224 bd1 rfl dX10_see_19 ?_
    refine zx_sipush (v := (255 : Int32)) C dX10_see_20 (by decide) ?_
    refine zx_iand C dX10_see_23 ?_
    refine zx_goto C 28 dX10_see_24 (by decide) ?_
    exact zx_iret C hr dX10_see_28 h
theorem lk_X10_117 : zLV RX10 117 RX10 yX10_see cX10_see 1 (some .int) 0 := zLV_of ml_X10_117 im_X10_see se_X10_see ini_X10 cd_X10_see (by decide +kernel)
theorem fp_X10_111 : zFP RX10 111 10 9 .int := ⟨RX10, TX10, 50, tyX10, rfl, lay_X10, by decide, fl_X10_111, tyX10_ok, nmX10, rfl, by decide +kernel⟩
theorem fp_X10_121 : zFP RX10 121 10 11 .int := ⟨RX10, TX10, 50, tyX10, rfl, lay_X10, by decide, fl_X10_121, tyX10_ok, nmX10, rfl, by decide +kernel⟩
theorem fp_X10_124 : zFP RX10 124 10 14 .long := ⟨RX10, TX10, 50, tyX10, rfl, lay_X10, by decide, fl_X10_124, tyX10_ok, nmX10, rfl, by decide +kernel⟩
theorem fp_X10_128 : zFP RX10 128 10 12 .int := ⟨RX10, TX10, 50, tyX10, rfl, lay_X10, by decide, fl_X10_128, tyX10_ok, nmX10, rfl, by decide +kernel⟩
theorem fp_X10_131 : zFP RX10 131 10 13 .int := ⟨RX10, TX10, 50, tyX10, rfl, lay_X10, by decide, fl_X10_131, tyX10_ok, nmX10, rfl, by decide +kernel⟩
theorem fg_X10_131 : zFG RX10 131 10 13 := ⟨RX10, TX10, 50, rfl, lay_X10, by decide, fl_X10_131⟩
theorem fg_X10_124 : zFG RX10 124 10 14 := ⟨RX10, TX10, 50, rfl, lay_X10, by decide, fl_X10_124⟩
def w_X10_token_163  (P : zSto → Prop)  : Nat → Int32 → zSto → Prop
  | 0, _, _ => False
  | n + 1, x_2, σ => (w_X10_see  σ (fun (r19 : Int32) (σ18 : zSto) => (w_X10_in r19 (48 : Int32) (57 : Int32) σ18 (fun (r21 : Int32) (σ20 : zSto) => (r21 = 0 ∨ r21 = 1) → ((r21 = 0 → ((x_2 ≤ (3 : Int32) → (∀ σ22 : zSto, σ22 = zI σ20 223 12 (3 : Int32) → P σ22)) ∧ (¬ x_2 ≤ (3 : Int32) → (∀ σ23 : zSto, σ23 = zI σ20 223 12 (1 : Int32) → P σ23)))) ∧ (¬ r21 = 0 → (((3 : Int32) ≤ x_2 → (∀ σ24 : zSto, σ24 = zI σ20 223 13 (σ20.1 223 13) → (∀ σ25 : zSto, σ25 = zI σ24 223 9 ((σ24.1 223 9) + (1 : Int32)) → (∀ x26 : Int32, x26 = (x_2 + (1 : Int32)) → w_X10_token_163 P n x26 σ25)))) ∧ (¬ (3 : Int32) ≤ x_2 → (w_X10_see  σ20 (fun (r28 : Int32) (σ27 : zSto) => (∀ σ29 : zSto, σ29 = zI σ27 223 13 ((((10 : Int32) * (σ20.1 223 13)) + r28) - (48 : Int32)) → (∀ σ30 : zSto, σ30 = zI σ29 223 9 ((σ29.1 223 9) + (1 : Int32)) → (∀ x31 : Int32, x31 = (x_2 + (1 : Int32)) → w_X10_token_163 P n x31 σ30)))))))))))))
def w_X10_token_74  (P : zSto → Prop)  : Nat → Int32 → zSto → Prop
  | 0, _, _ => False
  | n + 1, x_2, σ => (w_X10_see  σ (fun (r33 : Int32) (σ32 : zSto) => (w_X10_in r33 (97 : Int32) (122 : Int32) σ32 (fun (r35 : Int32) (σ34 : zSto) => (r35 = 0 ∨ r35 = 1) → ((r35 = 0 → ((x_2 ≤ (8 : Int32) → (∀ σ36 : zSto, σ36 = zJ σ34 223 14 (σ34.2 223 14) → (∀ σ37 : zSto, σ37 = zI σ36 223 12 (2 : Int32) → P σ37))) ∧ (¬ x_2 ≤ (8 : Int32) → (∀ σ38 : zSto, σ38 = zJ σ34 223 14 (0 : Int64) → (∀ σ39 : zSto, σ39 = zI σ38 223 12 (2 : Int32) → P σ39))))) ∧ (¬ r35 = 0 → (w_X10_see  σ34 (fun (r41 : Int32) (σ40 : zSto) => (∀ σ42 : zSto, σ42 = zJ σ40 223 14 (((σ34.2 223 14) <<< ((8 : Int32).toInt64 &&& 63)) ||| r41.toInt64) → (∀ σ43 : zSto, σ43 = zI σ42 223 9 ((σ42.1 223 9) + (1 : Int32)) → (∀ x44 : Int32, x44 = (x_2 + (1 : Int32)) → w_X10_token_74 P n x44 σ43)))))))))))
def w_X10_token_0  (P : zSto → Prop)  : Nat → zSto → Prop
  | 0, _ => False
  | n + 1, σ => (w_X10_see  σ (fun (r2 : Int32) (σ1 : zSto) => ((r2 = (10 : Int32) → (∀ σ3 : zSto, σ3 = zI σ1 223 9 ((σ1.1 223 9) + (1 : Int32)) → w_X10_token_0 P n  σ3)) ∧ (¬ r2 = (10 : Int32) → (w_X10_see  σ1 (fun (r5 : Int32) (σ4 : zSto) => ((¬ r5 = (32 : Int32) → (∀ σ6 : zSto, σ6 = zI σ4 223 11 (σ4.1 223 9) → (w_X10_see  σ6 (fun (r8 : Int32) (σ7 : zSto) => (∀ σ9 : zSto, σ9 = zJ σ7 223 14 (0 : Int64) → ((0 ≤ r8 → (w_X10_in r8 (97 : Int32) (122 : Int32) σ9 (fun (r11 : Int32) (σ10 : zSto) => (r11 = 0 ∨ r11 = 1) → ((r11 = 0 → (w_X10_in r8 (48 : Int32) (57 : Int32) σ10 (fun (r13 : Int32) (σ12 : zSto) => (r13 = 0 ∨ r13 = 1) → ((r13 = 0 → (∀ σ14 : zSto, σ14 = zI σ12 223 9 ((σ12.1 223 9) + (1 : Int32)) → ((¬ r8 = (59 : Int32) → (∀ σ15 : zSto, σ15 = zI σ14 223 12 (1 : Int32) → P σ15)) ∧ (r8 = (59 : Int32) → (∀ σ16 : zSto, σ16 = zI σ14 223 12 (4 : Int32) → P σ16))))) ∧ (¬ r13 = 0 → (∀ σ17 : zSto, σ17 = zI σ12 223 13 (0 : Int32) → (∃ n2 : Nat, w_X10_token_163  P  n2 (0 : Int32) σ17))))))) ∧ (¬ r11 = 0 → (∃ n2 : Nat, w_X10_token_74  P  n2 (0 : Int32) σ10)))))) ∧ (¬ 0 ≤ r8 → (∀ σ45 : zSto, σ45 = zI σ9 223 12 (0 : Int32) → P σ45)))))))) ∧ (r5 = (32 : Int32) → (∀ σ46 : zSto, σ46 = zI σ4 223 9 ((σ4.1 223 9) + (1 : Int32)) → w_X10_token_0 P n  σ46)))))))))
def w_X10_token  (σ : zSto) (P : zSto → Prop) : Prop := (∃ n : Nat, w_X10_token_0  P  n  σ)
set_option maxRecDepth 100000 in
set_option maxHeartbeats 4000000 in
theorem k_X10_token_163 {p : Program} {l : Launch} {e : Env} {s : State} {m : MethodId} {args : Array Value} {below : List Frame} {meth : Method} {c : Code} {D : va_G} {cy : Nat → ClassId} {g : Nat → Nat} (C : zC p s m args meth c cX10_token RX10 3 D cy g) (hr : meth.sig.returnType = none) {P : zSto → Prop}     : ∀ (n : Nat) (x_2 : Int32) (σ : zSto), w_X10_token_163 P n x_2 σ → zX p l e (zrm 1 22) s m args below meth c 0 0 (zQv P below args s D cy g) 3 D cy g 163 [(0, .ref (g 223)), (2, .int x_2)] [] σ := by
  intro n
  induction n with
  | zero => intro x_2 σ h; exact h.elim
  | succ n ih =>
    intro x_2 σ h
    unfold w_X10_token_163 at h
    refine zx_aload_n C dX10_token_163 0 rfl ?_
    refine zx_cVi C [] lk_X10_117 (c_X10_see l D cy g   σ h) zs_223 rfl ⟨by decide, by decide⟩ ⟨rfl, rfl⟩ ⟨Nat.zero_le _, Nat.zero_le _⟩ rfl rfl (Nat.le_of_ble_eq_true rfl) dX10_token_164 (fun r19 σ18 h => ?_)
    refine zx_bipush (v := (48 : Int32)) C dX10_token_167 (by decide) ?_
    refine zx_bipush (v := (57 : Int32)) C dX10_token_169 (by decide) ?_
    refine zx_cSb C [.int r19, .int (48 : Int32), .int (57 : Int32)] lk_X10_103 (c_X10_in l D cy g r19 (48 : Int32) (57 : Int32)  σ18 h) ⟨by decide, by decide⟩ ⟨rfl, rfl⟩ ⟨Nat.zero_le _, Nat.zero_le _⟩ rfl rfl (Nat.le_of_ble_eq_true rfl) dX10_token_171 (fun r21 σ20 hb h => ?_)
    replace h := h hb
    refine zx_if_eq C 224 dX10_token_174 (by decide) (fun q => ?_) (fun q => ?_)
    · replace h := h.1 q
      refine zx_aload_n C dX10_token_224 0 rfl ?_
      refine zx_iload_n C dX10_token_225 1 rfl ?_
      refine zx_iconst (v := (3 : Int32)) C dX10_token_226 (by decide) ?_
      refine zx_icmp_le C 234 dX10_token_227 (by decide) (fun q => ?_) (fun q => ?_)
      · replace h := h.1 q
        refine zx_iconst (v := (3 : Int32)) C dX10_token_234 (by decide) ?_
        refine zx_putI C zs_223 fp_X10_128 rfl dX10_token_235 ?_
        refine zx_sig (fun σ22 eσ22 => ?_)
        replace h := h σ22 eσ22
        refine zx_goto C 266 dX10_token_238 (by decide) ?_
        exact zx_vret C hr dX10_token_266 h
      · replace h := h.2 q
        refine zx_iconst (v := (1 : Int32)) C dX10_token_230 (by decide) ?_
        refine zx_goto C 235 dX10_token_231 (by decide) ?_
        refine zx_putI C zs_223 fp_X10_128 rfl dX10_token_235 ?_
        refine zx_sig (fun σ23 eσ23 => ?_)
        replace h := h σ23 eσ23
        refine zx_goto C 266 dX10_token_238 (by decide) ?_
        exact zx_vret C hr dX10_token_266 h
    · replace h := h.2 q
      refine zx_aload_n C dX10_token_177 0 rfl ?_
      refine zx_iload_n C dX10_token_178 1 rfl ?_
      refine zx_iconst (v := (3 : Int32)) C dX10_token_179 (by decide) ?_
      refine zx_icmp_ge C 201 dX10_token_180 (by decide) (fun q => ?_) (fun q => ?_)
      · replace h := h.1 q
        refine zx_aload_n C dX10_token_201 0 rfl ?_
        refine zx_getI C zs_223 fg_X10_131 rfl dX10_token_202 ?_
        refine zx_putI C zs_223 fp_X10_131 rfl dX10_token_205 ?_
        refine zx_sig (fun σ24 eσ24 => ?_)
        replace h := h σ24 eσ24
        refine zx_aload_n C dX10_token_208 0 rfl ?_
        refine zx_dup C dX10_token_209 rfl ?_
        refine zx_getI C zs_223 fg_X10_111 rfl dX10_token_210 ?_
        refine zx_iconst (v := (1 : Int32)) C dX10_token_213 (by decide) ?_
        refine zx_iadd C dX10_token_214 ?_
        refine zx_putI C zs_223 fp_X10_111 rfl dX10_token_215 ?_
        refine zx_sig (fun σ25 eσ25 => ?_)
        replace h := h σ25 eσ25
        obtain ⟨x26, ex26⟩ : ∃ y : Int32, y = (x_2 + (1 : Int32)) := ⟨_, rfl⟩
        replace h := h x26 ex26
        refine zx_iinc (v := x26) (lv' := [(2, .int x26), (0, .ref (g 223))]) C dX10_token_218 1 rfl (by rw [ex26]; rfl) (by decide) rfl ?_
        refine zx_goto C 163 dX10_token_221 (by decide) ?_
        refine zx_lv (lv' := [(0, .ref (g 223)), (2, .int x26)]) [1, 0] rfl ?_
        exact ih x26 σ25 h
      · replace h := h.2 q
        refine zx_bipush (v := (10 : Int32)) C dX10_token_183 (by decide) ?_
        refine zx_aload_n C dX10_token_185 0 rfl ?_
        refine zx_getI C zs_223 fg_X10_131 rfl dX10_token_186 ?_
        refine zx_imul C dX10_token_189 ?_
        refine zx_aload_n C dX10_token_190 0 rfl ?_
        refine zx_cVi C [] lk_X10_117 (c_X10_see l D cy g   σ20 h) zs_223 rfl ⟨by decide, by decide⟩ ⟨rfl, rfl⟩ ⟨Nat.zero_le _, Nat.zero_le _⟩ rfl rfl (Nat.le_of_ble_eq_true rfl) dX10_token_191 (fun r28 σ27 h => ?_)
        refine zx_iadd C dX10_token_194 ?_
        refine zx_bipush (v := (48 : Int32)) C dX10_token_195 (by decide) ?_
        refine zx_isub C dX10_token_197 ?_
        refine zx_goto C 205 dX10_token_198 (by decide) ?_
        refine zx_putI C zs_223 fp_X10_131 rfl dX10_token_205 ?_
        refine zx_sig (fun σ29 eσ29 => ?_)
        replace h := h σ29 eσ29
        refine zx_aload_n C dX10_token_208 0 rfl ?_
        refine zx_dup C dX10_token_209 rfl ?_
        refine zx_getI C zs_223 fg_X10_111 rfl dX10_token_210 ?_
        refine zx_iconst (v := (1 : Int32)) C dX10_token_213 (by decide) ?_
        refine zx_iadd C dX10_token_214 ?_
        refine zx_putI C zs_223 fp_X10_111 rfl dX10_token_215 ?_
        refine zx_sig (fun σ30 eσ30 => ?_)
        replace h := h σ30 eσ30
        obtain ⟨x31, ex31⟩ : ∃ y : Int32, y = (x_2 + (1 : Int32)) := ⟨_, rfl⟩
        replace h := h x31 ex31
        refine zx_iinc (v := x31) (lv' := [(2, .int x31), (0, .ref (g 223))]) C dX10_token_218 1 rfl (by rw [ex31]; rfl) (by decide) rfl ?_
        refine zx_goto C 163 dX10_token_221 (by decide) ?_
        refine zx_lv (lv' := [(0, .ref (g 223)), (2, .int x31)]) [1, 0] rfl ?_
        exact ih x31 σ30 h
set_option maxRecDepth 100000 in
set_option maxHeartbeats 4000000 in
theorem k_X10_token_74 {p : Program} {l : Launch} {e : Env} {s : State} {m : MethodId} {args : Array Value} {below : List Frame} {meth : Method} {c : Code} {D : va_G} {cy : Nat → ClassId} {g : Nat → Nat} (C : zC p s m args meth c cX10_token RX10 3 D cy g) (hr : meth.sig.returnType = none) {P : zSto → Prop}     : ∀ (n : Nat) (x_2 : Int32) (σ : zSto), w_X10_token_74 P n x_2 σ → zX p l e (zrm 1 22) s m args below meth c 0 0 (zQv P below args s D cy g) 3 D cy g 74 [(0, .ref (g 223)), (2, .int x_2)] [] σ := by
  intro n
  induction n with
  | zero => intro x_2 σ h; exact h.elim
  | succ n ih =>
    intro x_2 σ h
    unfold w_X10_token_74 at h
    refine zx_aload_n C dX10_token_74 0 rfl ?_
    refine zx_cVi C [] lk_X10_117 (c_X10_see l D cy g   σ h) zs_223 rfl ⟨by decide, by decide⟩ ⟨rfl, rfl⟩ ⟨Nat.zero_le _, Nat.zero_le _⟩ rfl rfl (Nat.le_of_ble_eq_true rfl) dX10_token_75 (fun r33 σ32 h => ?_)
    refine zx_bipush (v := (97 : Int32)) C dX10_token_78 (by decide) ?_
    refine zx_bipush (v := (122 : Int32)) C dX10_token_80 (by decide) ?_
    refine zx_cSb C [.int r33, .int (97 : Int32), .int (122 : Int32)] lk_X10_103 (c_X10_in l D cy g r33 (97 : Int32) (122 : Int32)  σ32 h) ⟨by decide, by decide⟩ ⟨rfl, rfl⟩ ⟨Nat.zero_le _, Nat.zero_le _⟩ rfl rfl (Nat.le_of_ble_eq_true rfl) dX10_token_82 (fun r35 σ34 hb h => ?_)
    replace h := h hb
    refine zx_if_eq C 121 dX10_token_85 (by decide) (fun q => ?_) (fun q => ?_)
    · replace h := h.1 q
      refine zx_aload_n C dX10_token_121 0 rfl ?_
      refine zx_iload_n C dX10_token_122 1 rfl ?_
      refine zx_bipush (v := (8 : Int32)) C dX10_token_123 (by decide) ?_
      refine zx_icmp_le C 132 dX10_token_125 (by decide) (fun q => ?_) (fun q => ?_)
      · replace h := h.1 q
        refine zx_aload_n C dX10_token_132 0 rfl ?_
        refine zx_getL C zs_223 fg_X10_124 rfl dX10_token_133 ?_
        refine zx_putL C zs_223 fp_X10_124 rfl dX10_token_136 ?_
        refine zx_sig (fun σ36 eσ36 => ?_)
        replace h := h σ36 eσ36
        refine zx_aload_n C dX10_token_139 0 rfl ?_
        refine zx_iconst (v := (2 : Int32)) C dX10_token_140 (by decide) ?_
        refine zx_putI C zs_223 fp_X10_128 rfl dX10_token_141 ?_
        refine zx_sig (fun σ37 eσ37 => ?_)
        replace h := h σ37 eσ37
        refine zx_goto C 266 dX10_token_144 (by decide) ?_
        exact zx_vret C hr dX10_token_266 h
      · replace h := h.2 q
        refine zx_lconst (v := (0 : Int64)) C dX10_token_128 (by decide) ?_
        refine zx_goto C 136 dX10_token_129 (by decide) ?_
        refine zx_putL C zs_223 fp_X10_124 rfl dX10_token_136 ?_
        refine zx_sig (fun σ38 eσ38 => ?_)
        replace h := h σ38 eσ38
        refine zx_aload_n C dX10_token_139 0 rfl ?_
        refine zx_iconst (v := (2 : Int32)) C dX10_token_140 (by decide) ?_
        refine zx_putI C zs_223 fp_X10_128 rfl dX10_token_141 ?_
        refine zx_sig (fun σ39 eσ39 => ?_)
        replace h := h σ39 eσ39
        refine zx_goto C 266 dX10_token_144 (by decide) ?_
        exact zx_vret C hr dX10_token_266 h
    · replace h := h.2 q
      refine zx_aload_n C dX10_token_88 0 rfl ?_
      refine zx_aload_n C dX10_token_89 0 rfl ?_
      refine zx_getL C zs_223 fg_X10_124 rfl dX10_token_90 ?_
      refine zx_bipush (v := (8 : Int32)) C dX10_token_93 (by decide) ?_
      refine zx_lshl C dX10_token_95 ?_
      refine zx_aload_n C dX10_token_96 0 rfl ?_
      refine zx_cVi C [] lk_X10_117 (c_X10_see l D cy g   σ34 h) zs_223 rfl ⟨by decide, by decide⟩ ⟨rfl, rfl⟩ ⟨Nat.zero_le _, Nat.zero_le _⟩ rfl rfl (Nat.le_of_ble_eq_true rfl) dX10_token_97 (fun r41 σ40 h => ?_)
      refine zx_i2l C dX10_token_100 ?_
      refine zx_lor C dX10_token_101 ?_
      refine zx_putL C zs_223 fp_X10_124 rfl dX10_token_102 ?_
      refine zx_sig (fun σ42 eσ42 => ?_)
      replace h := h σ42 eσ42
      refine zx_aload_n C dX10_token_105 0 rfl ?_
      refine zx_dup C dX10_token_106 rfl ?_
      refine zx_getI C zs_223 fg_X10_111 rfl dX10_token_107 ?_
      refine zx_iconst (v := (1 : Int32)) C dX10_token_110 (by decide) ?_
      refine zx_iadd C dX10_token_111 ?_
      refine zx_putI C zs_223 fp_X10_111 rfl dX10_token_112 ?_
      refine zx_sig (fun σ43 eσ43 => ?_)
      replace h := h σ43 eσ43
      obtain ⟨x44, ex44⟩ : ∃ y : Int32, y = (x_2 + (1 : Int32)) := ⟨_, rfl⟩
      replace h := h x44 ex44
      refine zx_iinc (v := x44) (lv' := [(2, .int x44), (0, .ref (g 223))]) C dX10_token_115 1 rfl (by rw [ex44]; rfl) (by decide) rfl ?_
      refine zx_goto C 74 dX10_token_118 (by decide) ?_
      refine zx_lv (lv' := [(0, .ref (g 223)), (2, .int x44)]) [1, 0] rfl ?_
      exact ih x44 σ43 h
set_option maxRecDepth 100000 in
set_option maxHeartbeats 4000000 in
theorem k_X10_token_0 {p : Program} {l : Launch} {e : Env} {s : State} {m : MethodId} {args : Array Value} {below : List Frame} {meth : Method} {c : Code} {D : va_G} {cy : Nat → ClassId} {g : Nat → Nat} (C : zC p s m args meth c cX10_token RX10 3 D cy g) (hr : meth.sig.returnType = none) {P : zSto → Prop}     : ∀ (n : Nat)  (σ : zSto), w_X10_token_0 P n  σ → zX p l e (zrm 1 22) s m args below meth c 0 0 (zQv P below args s D cy g) 3 D cy g 0 [(0, .ref (g 223))] [] σ := by
  intro n
  induction n with
  | zero => intro  σ h; exact h.elim
  | succ n ih =>
    intro  σ h
    unfold w_X10_token_0 at h
    refine zx_aload_n C dX10_token_0 0 rfl ?_
    refine zx_cVi C [] lk_X10_117 (c_X10_see l D cy g   σ h) zs_223 rfl ⟨by decide, by decide⟩ ⟨rfl, rfl⟩ ⟨Nat.zero_le _, Nat.zero_le _⟩ rfl rfl (Nat.le_of_ble_eq_true rfl) dX10_token_1 (fun r2 σ1 h => ?_)
    refine zx_bipush (v := (10 : Int32)) C dX10_token_4 (by decide) ?_
    refine zx_icmp_eq C 18 dX10_token_6 (by decide) (fun q => ?_) (fun q => ?_)
    · replace h := h.1 q
      refine zx_aload_n C dX10_token_18 0 rfl ?_
      refine zx_dup C dX10_token_19 rfl ?_
      refine zx_getI C zs_223 fg_X10_111 rfl dX10_token_20 ?_
      refine zx_iconst (v := (1 : Int32)) C dX10_token_23 (by decide) ?_
      refine zx_iadd C dX10_token_24 ?_
      refine zx_putI C zs_223 fp_X10_111 rfl dX10_token_25 ?_
      refine zx_sig (fun σ3 eσ3 => ?_)
      replace h := h σ3 eσ3
      refine zx_goto C 0 dX10_token_28 (by decide) ?_
      refine zx_lv (lv' := [(0, .ref (g 223))]) [0] rfl ?_
      exact ih  σ3 h
    · replace h := h.2 q
      refine zx_aload_n C dX10_token_9 0 rfl ?_
      refine zx_cVi C [] lk_X10_117 (c_X10_see l D cy g   σ1 h) zs_223 rfl ⟨by decide, by decide⟩ ⟨rfl, rfl⟩ ⟨Nat.zero_le _, Nat.zero_le _⟩ rfl rfl (Nat.le_of_ble_eq_true rfl) dX10_token_10 (fun r5 σ4 h => ?_)
      refine zx_bipush (v := (32 : Int32)) C dX10_token_13 (by decide) ?_
      refine zx_icmp_ne C 31 dX10_token_15 (by decide) (fun q => ?_) (fun q => ?_)
      · replace h := h.1 q
        refine zx_aload_n C dX10_token_31 0 rfl ?_
        refine zx_aload_n C dX10_token_32 0 rfl ?_
        refine zx_getI C zs_223 fg_X10_111 rfl dX10_token_33 ?_
        refine zx_putI C zs_223 fp_X10_121 rfl dX10_token_36 ?_
        refine zx_sig (fun σ6 eσ6 => ?_)
        replace h := h σ6 eσ6
        refine zx_aload_n C dX10_token_39 0 rfl ?_
        refine zx_cVi C [] lk_X10_117 (c_X10_see l D cy g   σ6 h) zs_223 rfl ⟨by decide, by decide⟩ ⟨rfl, rfl⟩ ⟨Nat.zero_le _, Nat.zero_le _⟩ rfl rfl (Nat.le_of_ble_eq_true rfl) dX10_token_40 (fun r8 σ7 h => ?_)
        refine zx_istore_n (lv' := [(1, .int r8), (0, .ref (g 223))]) C dX10_token_43 (by decide) rfl ?_
        refine zx_aload_n C dX10_token_44 1 rfl ?_
        refine zx_lconst (v := (0 : Int64)) C dX10_token_45 (by decide) ?_
        refine zx_putL C zs_223 fp_X10_124 rfl dX10_token_46 ?_
        refine zx_sig (fun σ9 eσ9 => ?_)
        replace h := h σ9 eσ9
        refine zx_iconst (v := (0 : Int32)) C dX10_token_49 (by decide) ?_
        refine zx_istore_n (lv' := [(2, .int (0 : Int32)), (1, .int r8), (0, .ref (g 223))]) C dX10_token_50 (by decide) rfl ?_
        refine zx_iload_n C dX10_token_51 1 rfl ?_
        refine zx_if_ge C 63 dX10_token_52 (by decide) (fun q => ?_) (fun q => ?_)
        · replace h := h.1 q
          refine zx_iload_n C dX10_token_63 1 rfl ?_
          refine zx_bipush (v := (97 : Int32)) C dX10_token_64 (by decide) ?_
          refine zx_bipush (v := (122 : Int32)) C dX10_token_66 (by decide) ?_
          refine zx_cSb C [.int r8, .int (97 : Int32), .int (122 : Int32)] lk_X10_103 (c_X10_in l D cy g r8 (97 : Int32) (122 : Int32)  σ9 h) ⟨by decide, by decide⟩ ⟨rfl, rfl⟩ ⟨Nat.zero_le _, Nat.zero_le _⟩ rfl rfl (Nat.le_of_ble_eq_true rfl) dX10_token_68 (fun r11 σ10 hb h => ?_)
          replace h := h hb
          refine zx_if_eq C 147 dX10_token_71 (by decide) (fun q => ?_) (fun q => ?_)
          · replace h := h.1 q
            refine zx_iload_n C dX10_token_147 1 rfl ?_
            refine zx_bipush (v := (48 : Int32)) C dX10_token_148 (by decide) ?_
            refine zx_bipush (v := (57 : Int32)) C dX10_token_150 (by decide) ?_
            refine zx_cSb C [.int r8, .int (48 : Int32), .int (57 : Int32)] lk_X10_103 (c_X10_in l D cy g r8 (48 : Int32) (57 : Int32)  σ10 h) ⟨by decide, by decide⟩ ⟨rfl, rfl⟩ ⟨Nat.zero_le _, Nat.zero_le _⟩ rfl rfl (Nat.le_of_ble_eq_true rfl) dX10_token_152 (fun r13 σ12 hb h => ?_)
            replace h := h hb
            refine zx_if_eq C 241 dX10_token_155 (by decide) (fun q => ?_) (fun q => ?_)
            · replace h := h.1 q
              refine zx_aload_n C dX10_token_241 2 rfl ?_
              refine zx_dup C dX10_token_242 rfl ?_
              refine zx_getI C zs_223 fg_X10_111 rfl dX10_token_243 ?_
              refine zx_iconst (v := (1 : Int32)) C dX10_token_246 (by decide) ?_
              refine zx_iadd C dX10_token_247 ?_
              refine zx_putI C zs_223 fp_X10_111 rfl dX10_token_248 ?_
              refine zx_sig (fun σ14 eσ14 => ?_)
              replace h := h σ14 eσ14
              refine zx_aload_n C dX10_token_251 2 rfl ?_
              refine zx_iload_n C dX10_token_252 1 rfl ?_
              refine zx_bipush (v := (59 : Int32)) C dX10_token_253 (by decide) ?_
              refine zx_icmp_ne C 262 dX10_token_255 (by decide) (fun q => ?_) (fun q => ?_)
              · replace h := h.1 q
                refine zx_iconst (v := (1 : Int32)) C dX10_token_262 (by decide) ?_
                refine zx_putI C zs_223 fp_X10_128 rfl dX10_token_263 ?_
                refine zx_sig (fun σ15 eσ15 => ?_)
                replace h := h σ15 eσ15
                exact zx_vret C hr dX10_token_266 h
              · replace h := h.2 q
                refine zx_iconst (v := (4 : Int32)) C dX10_token_258 (by decide) ?_
                refine zx_goto C 263 dX10_token_259 (by decide) ?_
                refine zx_putI C zs_223 fp_X10_128 rfl dX10_token_263 ?_
                refine zx_sig (fun σ16 eσ16 => ?_)
                replace h := h σ16 eσ16
                exact zx_vret C hr dX10_token_266 h
            · replace h := h.2 q
              refine zx_aload_n C dX10_token_158 2 rfl ?_
              refine zx_iconst (v := (0 : Int32)) C dX10_token_159 (by decide) ?_
              refine zx_putI C zs_223 fp_X10_131 rfl dX10_token_160 ?_
              refine zx_sig (fun σ17 eσ17 => ?_)
              replace h := h σ17 eσ17
              obtain ⟨n2, h⟩ := h
              refine zx_lv (lv' := [(0, .ref (g 223)), (2, .int (0 : Int32))]) [2, 0] rfl ?_
              exact k_X10_token_163 C hr    n2 (0 : Int32) σ17 h
          · replace h := h.2 q
            obtain ⟨n2, h⟩ := h
            refine zx_lv (lv' := [(0, .ref (g 223)), (2, .int (0 : Int32))]) [2, 0] rfl ?_
            exact k_X10_token_74 C hr    n2 (0 : Int32) σ10 h
        · replace h := h.2 q
          refine zx_aload_n C dX10_token_55 2 rfl ?_
          refine zx_iconst (v := (0 : Int32)) C dX10_token_56 (by decide) ?_
          refine zx_putI C zs_223 fp_X10_128 rfl dX10_token_57 ?_
          refine zx_sig (fun σ45 eσ45 => ?_)
          replace h := h σ45 eσ45
          refine zx_goto C 266 dX10_token_60 (by decide) ?_
          exact zx_vret C hr dX10_token_266 h
      · replace h := h.2 q
        refine zx_aload_n C dX10_token_18 0 rfl ?_
        refine zx_dup C dX10_token_19 rfl ?_
        refine zx_getI C zs_223 fg_X10_111 rfl dX10_token_20 ?_
        refine zx_iconst (v := (1 : Int32)) C dX10_token_23 (by decide) ?_
        refine zx_iadd C dX10_token_24 ?_
        refine zx_putI C zs_223 fp_X10_111 rfl dX10_token_25 ?_
        refine zx_sig (fun σ46 eσ46 => ?_)
        replace h := h σ46 eσ46
        refine zx_goto C 0 dX10_token_28 (by decide) ?_
        refine zx_lv (lv' := [(0, .ref (g 223))]) [0] rfl ?_
        exact ih  σ46 h
set_option maxRecDepth 100000 in
set_option maxHeartbeats 4000000 in
theorem c_X10_token (l : Launch) (D : va_G) (cy : Nat → ClassId) (g : Nat → Nat)   (σ : zSto) {P : zSto → Prop} (h : w_X10_token  σ P) : zMv l yX10_token cX10_token 3 none (zrm 1 22) D cy g [.ref (g 223)] σ P := by
  unfold w_X10_token at h
  refine zm_v RX10 rfl (by decide +kernel) (Nat.le_of_ble_eq_true rfl) ?_
  intro p e s m below meth c C hr
  refine zx_lv (lv' := [(0, .ref (g 223))]) [0] rfl ?_
  obtain ⟨n, h⟩ := h
  refine zx_lv (lv' := [(0, .ref (g 223))]) [0] rfl ?_
  exact k_X10_token_0 C hr    n  σ h
theorem fg_X10_121 : zFG RX10 121 10 11 := ⟨RX10, TX10, 50, rfl, lay_X10, by decide, fl_X10_121⟩
theorem fp_X10_134 : zFP RX10 134 10 15 .int := ⟨RX10, TX10, 50, tyX10, rfl, lay_X10, by decide, fl_X10_134, tyX10_ok, nmX10, rfl, by decide +kernel⟩
def w_X10_fails  (σ : zSto) (P : Int32 → zSto → Prop) : Prop := (∀ σ1 : zSto, σ1 = zI σ 223 15 (σ.1 223 11) → P (0 : Int32) σ1)
set_option maxRecDepth 100000 in
set_option maxHeartbeats 4000000 in
theorem c_X10_fails (l : Launch) (D : va_G) (cy : Nat → ClassId) (g : Nat → Nat)   (σ : zSto) {P : Int32 → zSto → Prop} (h : w_X10_fails  σ P) : zMb l yX10_fails cX10_fails 1 (some .boolean) (zrm 0 0) D cy g [.ref (g 223)] σ P := by
  unfold w_X10_fails at h
  refine zm_b RX10 rfl (by decide +kernel) (Nat.le_of_ble_eq_true rfl) ?_
  intro p e s m below meth c C hr
  refine zx_lv (lv' := [(0, .ref (g 223))]) [0] rfl ?_
  refine zx_aload_n C dX10_fails_0 0 rfl ?_
  refine zx_aload_n C dX10_fails_1 0 rfl ?_
  refine zx_getI C zs_223 fg_X10_121 rfl dX10_fails_2 ?_
  refine zx_putI C zs_223 fp_X10_134 rfl dX10_fails_5 ?_
  refine zx_sig (fun σ1 eσ1 => ?_)
  replace h := h σ1 eσ1
  refine zx_iconst (v := (0 : Int32)) C dX10_fails_8 (by decide) ?_
  exact zx_zret C hr dX10_fails_9 (Or.inl rfl) h
theorem fg_X10_137 : zFG RX10 137 10 16 := ⟨RX10, TX10, 50, rfl, lay_X10, by decide, fl_X10_137⟩
theorem fp_X10_137 : zFP RX10 137 10 16 .int := ⟨RX10, TX10, 50, tyX10, rfl, lay_X10, by decide, fl_X10_137, tyX10_ok, nmX10, rfl, by decide +kernel⟩
theorem fp_X10_140 : zFP RX10 140 10 17 .int := ⟨RX10, TX10, 50, tyX10, rfl, lay_X10, by decide, fl_X10_140, tyX10_ok, nmX10, rfl, by decide +kernel⟩
theorem fg_X10_140 : zFG RX10 140 10 17 := ⟨RX10, TX10, 50, rfl, lay_X10, by decide, fl_X10_140⟩
def w_X10_later (a1 : Int32) (a2 : Int32) (σ : zSto) (P : zSto → Prop) : Prop := (((σ.1 223 16) = 0 → (∀ σ1 : zSto, σ1 = zI σ 223 16 a1 → (∀ σ2 : zSto, σ2 = zI σ1 223 17 a2 → P σ2))) ∧ (¬ (σ.1 223 16) = 0 → ((a2 < (σ.1 223 17) → (∀ σ3 : zSto, σ3 = zI σ 223 16 a1 → (∀ σ4 : zSto, σ4 = zI σ3 223 17 a2 → P σ4))) ∧ (¬ a2 < (σ.1 223 17) → ((¬ a2 = (σ.1 223 17) → P σ) ∧ (a2 = (σ.1 223 17) → (((σ.1 223 16) ≤ a1 → P σ) ∧ (¬ (σ.1 223 16) ≤ a1 → (∀ σ5 : zSto, σ5 = zI σ 223 16 a1 → (∀ σ6 : zSto, σ6 = zI σ5 223 17 a2 → P σ6))))))))))
set_option maxRecDepth 100000 in
set_option maxHeartbeats 4000000 in
theorem c_X10_later (l : Launch) (D : va_G) (cy : Nat → ClassId) (g : Nat → Nat) (a1 : Int32) (a2 : Int32)  (σ : zSto) {P : zSto → Prop} (h : w_X10_later a1 a2 σ P) : zMv l yX10_later cX10_later 3 none (zrm 0 0) D cy g [.ref (g 223), .int a1, .int a2] σ P := by
  unfold w_X10_later at h
  refine zm_v RX10 rfl (by decide +kernel) (Nat.le_of_ble_eq_true rfl) ?_
  intro p e s m below meth c C hr
  refine zx_lv (lv' := [(0, .ref (g 223)), (1, .int a1), (2, .int a2)]) [0, 1, 2] rfl ?_
  refine zx_aload_n C dX10_later_0 0 rfl ?_
  refine zx_getI C zs_223 fg_X10_137 rfl dX10_later_1 ?_
  refine zx_if_eq C 31 dX10_later_4 (by decide) (fun q => ?_) (fun q => ?_)
  · replace h := h.1 q
    refine zx_aload_n C dX10_later_31 0 rfl ?_
    refine zx_iload_n C dX10_later_32 1 rfl ?_
    refine zx_putI C zs_223 fp_X10_137 rfl dX10_later_33 ?_
    refine zx_sig (fun σ1 eσ1 => ?_)
    replace h := h σ1 eσ1
    refine zx_aload_n C dX10_later_36 0 rfl ?_
    refine zx_iload_n C dX10_later_37 2 rfl ?_
    refine zx_putI C zs_223 fp_X10_140 rfl dX10_later_38 ?_
    refine zx_sig (fun σ2 eσ2 => ?_)
    replace h := h σ2 eσ2
    exact zx_vret C hr dX10_later_41 h
  · replace h := h.2 q
    refine zx_iload_n C dX10_later_7 2 rfl ?_
    refine zx_aload_n C dX10_later_8 0 rfl ?_
    refine zx_getI C zs_223 fg_X10_140 rfl dX10_later_9 ?_
    refine zx_icmp_lt C 31 dX10_later_12 (by decide) (fun q => ?_) (fun q => ?_)
    · replace h := h.1 q
      refine zx_aload_n C dX10_later_31 0 rfl ?_
      refine zx_iload_n C dX10_later_32 1 rfl ?_
      refine zx_putI C zs_223 fp_X10_137 rfl dX10_later_33 ?_
      refine zx_sig (fun σ3 eσ3 => ?_)
      replace h := h σ3 eσ3
      refine zx_aload_n C dX10_later_36 0 rfl ?_
      refine zx_iload_n C dX10_later_37 2 rfl ?_
      refine zx_putI C zs_223 fp_X10_140 rfl dX10_later_38 ?_
      refine zx_sig (fun σ4 eσ4 => ?_)
      replace h := h σ4 eσ4
      exact zx_vret C hr dX10_later_41 h
    · replace h := h.2 q
      refine zx_iload_n C dX10_later_15 2 rfl ?_
      refine zx_aload_n C dX10_later_16 0 rfl ?_
      refine zx_getI C zs_223 fg_X10_140 rfl dX10_later_17 ?_
      refine zx_icmp_ne C 41 dX10_later_20 (by decide) (fun q => ?_) (fun q => ?_)
      · replace h := h.1 q
        exact zx_vret C hr dX10_later_41 h
      · replace h := h.2 q
        refine zx_iload_n C dX10_later_23 1 rfl ?_
        refine zx_aload_n C dX10_later_24 0 rfl ?_
        refine zx_getI C zs_223 fg_X10_137 rfl dX10_later_25 ?_
        refine zx_icmp_ge C 41 dX10_later_28 (by decide) (fun q => ?_) (fun q => ?_)
        · replace h := h.1 q
          exact zx_vret C hr dX10_later_41 h
        · replace h := h.2 q
          refine zx_aload_n C dX10_later_31 0 rfl ?_
          refine zx_iload_n C dX10_later_32 1 rfl ?_
          refine zx_putI C zs_223 fp_X10_137 rfl dX10_later_33 ?_
          refine zx_sig (fun σ5 eσ5 => ?_)
          replace h := h σ5 eσ5
          refine zx_aload_n C dX10_later_36 0 rfl ?_
          refine zx_iload_n C dX10_later_37 2 rfl ?_
          refine zx_putI C zs_223 fp_X10_140 rfl dX10_later_38 ?_
          refine zx_sig (fun σ6 eσ6 => ?_)
          replace h := h σ6 eσ6
          exact zx_vret C hr dX10_later_41 h
theorem fg_X10_128 : zFG RX10 128 10 12 := ⟨RX10, TX10, 50, rfl, lay_X10, by decide, fl_X10_128⟩
theorem fg_X10_38 : zFG RX10 38 10 19 := ⟨RX10, TX10, 50, rfl, lay_X10, by decide, fl_X10_38⟩
theorem lk_X10_151 : zLV RX10 151 RX10 yX10_token cX10_token 3 none 0 := zLV_of ml_X10_151 im_X10_token se_X10_token ini_X10 cd_X10_token (by decide +kernel)
theorem lk_X10_147 : zLV RX10 147 RX10 yX10_later cX10_later 3 none 2 := zLV_of ml_X10_147 im_X10_later se_X10_later ini_X10 cd_X10_later (by decide +kernel)
theorem lk_X10_143 : zLV RX10 143 RX10 yX10_fails cX10_fails 1 (some .boolean) 0 := zLV_of ml_X10_143 im_X10_fails se_X10_fails ini_X10 cd_X10_fails (by decide +kernel)
def w_X10_take (a1 : Int32) (a2 : Int32) (a3 : Int32) (σ : zSto) (P : Int32 → zSto → Prop) : Prop := (((σ.1 223 12) = (3 : Int32) → (vp_in a1 6 ∧ (∀ σ2 : zSto, σ2 = zI σ 233 (a1).toNatClampNeg (σ.1 223 13) → (w_X10_in (σ2.1 223 13) a2 a3 σ2 (fun (r4 : Int32) (σ3 : zSto) => (r4 = 0 ∨ r4 = 1) → ((¬ r4 = 0 → (w_X10_token  σ3 (fun (σ5 : zSto) => P (1 : Int32) σ5))) ∧ (r4 = 0 → (w_X10_later (2 : Int32) (σ3.1 223 11) σ3 (fun (σ6 : zSto) => (w_X10_token  σ6 (fun (σ7 : zSto) => P (1 : Int32) σ7))))))))))) ∧ (¬ (σ.1 223 12) = (3 : Int32) → (w_X10_fails  σ (fun (r9 : Int32) (σ8 : zSto) => (r9 = 0 ∨ r9 = 1) → ((r9 = 0 ∨ r9 = 1) ∧ P r9 σ8)))))
set_option maxRecDepth 100000 in
set_option maxHeartbeats 4000000 in
theorem c_X10_take (l : Launch) (D : va_G) (cy : Nat → ClassId) (g : Nat → Nat) (a1 : Int32) (a2 : Int32) (a3 : Int32)  (σ : zSto) {P : Int32 → zSto → Prop} (h : w_X10_take a1 a2 a3 σ P) : zMb l yX10_take cX10_take 4 (some .boolean) (zrm 2 44) D cy g [.ref (g 223), .int a1, .int a2, .int a3] σ P := by
  unfold w_X10_take at h
  refine zm_b RX10 rfl (by decide +kernel) (Nat.le_of_ble_eq_true rfl) ?_
  intro p e s m below meth c C hr
  refine zx_lv (lv' := [(0, .ref (g 223)), (1, .int a1), (2, .int a2), (3, .int a3)]) [0, 1, 2, 3] rfl ?_
  refine zx_aload_n C dX10_take_0 0 rfl ?_
  refine zx_getI C zs_223 fg_X10_128 rfl dX10_take_1 ?_
  refine zx_iconst (v := (3 : Int32)) C dX10_take_4 (by decide) ?_
  refine zx_icmp_eq C 13 dX10_take_5 (by decide) (fun q => ?_) (fun q => ?_)
  · replace h := h.1 q
    refine zx_aload_n C dX10_take_13 0 rfl ?_
    refine zx_getR C zs_223 fg_X10_38 rfl 233 rfl dX10_take_14 ?_
    refine zx_iload_n C dX10_take_17 1 rfl ?_
    refine zx_aload_n C dX10_take_18 0 rfl ?_
    refine zx_getI C zs_223 fg_X10_131 rfl dX10_take_19 ?_
    obtain ⟨bd1, h⟩ := h
    refine zx_iast C (a1).toNatClampNeg zs_233 bd1 rfl dX10_take_22 ?_
    refine zx_sig (fun σ2 eσ2 => ?_)
    replace h := h σ2 eσ2
    refine zx_aload_n C dX10_take_23 0 rfl ?_
    refine zx_getI C zs_223 fg_X10_131 rfl dX10_take_24 ?_
    refine zx_iload_n C dX10_take_27 2 rfl ?_
    refine zx_iload_n C dX10_take_28 3 rfl ?_
    refine zx_cSb C [.int (σ2.1 223 13), .int a2, .int a3] lk_X10_103 (c_X10_in l D cy g (σ2.1 223 13) a2 a3  σ2 h) ⟨by decide, by decide⟩ ⟨rfl, rfl⟩ ⟨Nat.zero_le _, Nat.zero_le _⟩ rfl rfl (Nat.le_of_ble_eq_true rfl) dX10_take_29 (fun r4 σ3 hb h => ?_)
    replace h := h hb
    refine zx_if_ne C 44 dX10_take_32 (by decide) (fun q => ?_) (fun q => ?_)
    · replace h := h.1 q
      refine zx_aload_n C dX10_take_44 0 rfl ?_
      refine zx_cVv C [] lk_X10_151 (c_X10_token l D cy g   σ3 h) zs_223 rfl ⟨by decide, by decide⟩ ⟨rfl, rfl⟩ ⟨Nat.zero_le _, Nat.zero_le _⟩ rfl rfl (Nat.le_of_ble_eq_true rfl) dX10_take_45 (fun σ5 h => ?_)
      refine zx_iconst (v := (1 : Int32)) C dX10_take_48 (by decide) ?_
      exact zx_zret C hr dX10_take_49 (Or.inr rfl) h
    · replace h := h.2 q
      refine zx_aload_n C dX10_take_35 0 rfl ?_
      refine zx_iconst (v := (2 : Int32)) C dX10_take_36 (by decide) ?_
      refine zx_aload_n C dX10_take_37 0 rfl ?_
      refine zx_getI C zs_223 fg_X10_121 rfl dX10_take_38 ?_
      refine zx_cVv C [.int (2 : Int32), .int (σ3.1 223 11)] lk_X10_147 (c_X10_later l D cy g (2 : Int32) (σ3.1 223 11)  σ3 h) zs_223 rfl ⟨by decide, by decide⟩ ⟨rfl, rfl⟩ ⟨Nat.zero_le _, Nat.zero_le _⟩ rfl rfl (Nat.le_of_ble_eq_true rfl) dX10_take_41 (fun σ6 h => ?_)
      refine zx_aload_n C dX10_take_44 0 rfl ?_
      refine zx_cVv C [] lk_X10_151 (c_X10_token l D cy g   σ6 h) zs_223 rfl ⟨by decide, by decide⟩ ⟨rfl, rfl⟩ ⟨Nat.zero_le _, Nat.zero_le _⟩ rfl rfl (Nat.le_of_ble_eq_true rfl) dX10_take_45 (fun σ7 h => ?_)
      refine zx_iconst (v := (1 : Int32)) C dX10_take_48 (by decide) ?_
      exact zx_zret C hr dX10_take_49 (Or.inr rfl) h
  · replace h := h.2 q
    refine zx_aload_n C dX10_take_8 0 rfl ?_
    refine zx_cVb C [] lk_X10_143 (c_X10_fails l D cy g   σ h) zs_223 rfl ⟨by decide, by decide⟩ ⟨rfl, rfl⟩ ⟨Nat.zero_le _, Nat.zero_le _⟩ rfl rfl (Nat.le_of_ble_eq_true rfl) dX10_take_9 (fun r9 σ8 hb h => ?_)
    replace h := h hb
    exact zx_zret C hr dX10_take_12 h.1 h.2
theorem lk_X10_154 : zLV RX10 154 RX10 yX10_take cX10_take 4 (some .boolean) 3 := zLV_of ml_X10_154 im_X10_take se_X10_take ini_X10 cd_X10_take (by decide +kernel)
theorem fg_X10_157 : zFG RX10 157 10 22 := ⟨RX10, TX10, 50, rfl, lay_X10, by decide, fl_X10_157⟩
theorem fp_X10_157 : zFP RX10 157 10 22 .int := ⟨RX10, TX10, 50, tyX10, rfl, lay_X10, by decide, fl_X10_157, tyX10_ok, nmX10, rfl, by decide +kernel⟩
theorem lk_X10_160 : zLS RX10 160 yX10_greater cX10_greater 2 (some .int) 2 := zLS_of ml_X10_160 st_X10_greater ini_X10 cd_X10_greater (by decide +kernel)
def w_X10_takePost (a1 : Int32) (a2 : Int32) (σ : zSto) (P : Int32 → zSto → Prop) : Prop := (w_X10_take a1 a2 (15 : Int32) σ (fun (r2 : Int32) (σ1 : zSto) => (r2 = 0 ∨ r2 = 1) → ((r2 = 0 → (∀ σ3 : zSto, σ3 = zI σ1 223 22 (σ1.1 223 22) → ((r2 = 0 ∨ r2 = 1) ∧ P r2 σ3))) ∧ (¬ r2 = 0 → (vp_in a1 6 ∧ (w_X10_greater (σ1.1 223 22) (σ1.1 233 (a1).toNatClampNeg) σ1 (fun (r6 : Int32) (σ5 : zSto) => (∀ σ7 : zSto, σ7 = zI σ5 223 22 r6 → ((r2 = 0 ∨ r2 = 1) ∧ P r2 σ7)))))))))
set_option maxRecDepth 100000 in
set_option maxHeartbeats 4000000 in
theorem c_X10_takePost (l : Launch) (D : va_G) (cy : Nat → ClassId) (g : Nat → Nat) (a1 : Int32) (a2 : Int32)  (σ : zSto) {P : Int32 → zSto → Prop} (h : w_X10_takePost a1 a2 σ P) : zMb l yX10_takePost cX10_takePost 4 (some .boolean) (zrm 3 67) D cy g [.ref (g 223), .int a1, .int a2] σ P := by
  unfold w_X10_takePost at h
  refine zm_b RX10 rfl (by decide +kernel) (Nat.le_of_ble_eq_true rfl) ?_
  intro p e s m below meth c C hr
  refine zx_lv (lv' := [(0, .ref (g 223)), (1, .int a1), (2, .int a2)]) [0, 1, 2] rfl ?_
  refine zx_aload_n C dX10_takePost_0 0 rfl ?_
  refine zx_iload_n C dX10_takePost_1 1 rfl ?_
  refine zx_iload_n C dX10_takePost_2 2 rfl ?_
  refine zx_bipush (v := (15 : Int32)) C dX10_takePost_3 (by decide) ?_
  refine zx_cVb C [.int a1, .int a2, .int (15 : Int32)] lk_X10_154 (c_X10_take l D cy g a1 a2 (15 : Int32)  σ h) zs_223 rfl ⟨by decide, by decide⟩ ⟨rfl, rfl⟩ ⟨Nat.zero_le _, Nat.zero_le _⟩ rfl rfl (Nat.le_of_ble_eq_true rfl) dX10_takePost_5 (fun r2 σ1 hb h => ?_)
  replace h := h hb
  refine zx_istore_n (lv' := [(3, .int r2), (0, .ref (g 223)), (1, .int a1), (2, .int a2)]) C dX10_takePost_8 (by decide) rfl ?_
  refine zx_aload_n C dX10_takePost_9 1 rfl ?_
  refine zx_iload_n C dX10_takePost_10 0 rfl ?_
  refine zx_if_eq C 30 dX10_takePost_11 (by decide) (fun q => ?_) (fun q => ?_)
  · replace h := h.1 q
    refine zx_aload_n C dX10_takePost_30 1 rfl ?_
    refine zx_getI C zs_223 fg_X10_157 rfl dX10_takePost_31 ?_
    refine zx_putI C zs_223 fp_X10_157 rfl dX10_takePost_34 ?_
    refine zx_sig (fun σ3 eσ3 => ?_)
    replace h := h σ3 eσ3
    refine zx_iload_n C dX10_takePost_37 0 rfl ?_
    exact zx_zret C hr dX10_takePost_38 h.1 h.2
  · replace h := h.2 q
    refine zx_aload_n C dX10_takePost_14 1 rfl ?_
    refine zx_getI C zs_223 fg_X10_157 rfl dX10_takePost_15 ?_
    refine zx_aload_n C dX10_takePost_18 1 rfl ?_
    refine zx_getR C zs_223 fg_X10_38 rfl 233 rfl dX10_takePost_19 ?_
    refine zx_iload_n C dX10_takePost_22 2 rfl ?_
    obtain ⟨bd4, h⟩ := h
    refine zx_iald C (a1).toNatClampNeg zs_233 bd4 rfl dX10_takePost_23 ?_
    refine zx_cSi C [.int (σ1.1 223 22), .int (σ1.1 233 (a1).toNatClampNeg)] lk_X10_160 (c_X10_greater l D cy g (σ1.1 223 22) (σ1.1 233 (a1).toNatClampNeg)  σ1 h) ⟨by decide, by decide⟩ ⟨rfl, rfl⟩ ⟨Nat.zero_le _, Nat.zero_le _⟩ rfl rfl (Nat.le_of_ble_eq_true rfl) dX10_takePost_24 (fun r6 σ5 h => ?_)
    refine zx_goto C 34 dX10_takePost_27 (by decide) ?_
    refine zx_putI C zs_223 fp_X10_157 rfl dX10_takePost_34 ?_
    refine zx_sig (fun σ7 eσ7 => ?_)
    replace h := h σ7 eσ7
    refine zx_iload_n C dX10_takePost_37 0 rfl ?_
    exact zx_zret C hr dX10_takePost_38 h.1 h.2
theorem fg_X10_35 : zFG RX10 35 10 18 := ⟨RX10, TX10, 50, rfl, lay_X10, by decide, fl_X10_35⟩
def w_X10_full (a1 : Int32) (a2 : Int32) (a3 : Int32) (σ : zSto) (P : zSto → Prop) : Prop := (vp_in a1 123 ∧ ((¬ (σ.1 232 (a1).toNatClampNeg) = a2 → P σ) ∧ ((σ.1 232 (a1).toNatClampNeg) = a2 → (w_X10_later (3 : Int32) a3 σ (fun (σ2 : zSto) => P σ2)))))
set_option maxRecDepth 100000 in
set_option maxHeartbeats 4000000 in
theorem c_X10_full (l : Launch) (D : va_G) (cy : Nat → ClassId) (g : Nat → Nat) (a1 : Int32) (a2 : Int32) (a3 : Int32)  (σ : zSto) {P : zSto → Prop} (h : w_X10_full a1 a2 a3 σ P) : zMv l yX10_full cX10_full 4 none (zrm 1 22) D cy g [.ref (g 223), .int a1, .int a2, .int a3] σ P := by
  unfold w_X10_full at h
  refine zm_v RX10 rfl (by decide +kernel) (Nat.le_of_ble_eq_true rfl) ?_
  intro p e s m below meth c C hr
  refine zx_lv (lv' := [(0, .ref (g 223)), (1, .int a1), (2, .int a2), (3, .int a3)]) [0, 1, 2, 3] rfl ?_
  refine zx_aload_n C dX10_full_0 0 rfl ?_
  refine zx_getR C zs_223 fg_X10_35 rfl 232 rfl dX10_full_1 ?_
  refine zx_iload_n C dX10_full_4 1 rfl ?_
  obtain ⟨bd1, h⟩ := h
  refine zx_iald C (a1).toNatClampNeg zs_232 bd1 rfl dX10_full_5 ?_
  refine zx_iload_n C dX10_full_6 2 rfl ?_
  refine zx_icmp_ne C 16 dX10_full_7 (by decide) (fun q => ?_) (fun q => ?_)
  · replace h := h.1 q
    exact zx_vret C hr dX10_full_16 h
  · replace h := h.2 q
    refine zx_aload_n C dX10_full_10 0 rfl ?_
    refine zx_iconst (v := (3 : Int32)) C dX10_full_11 (by decide) ?_
    refine zx_iload_n C dX10_full_12 3 rfl ?_
    refine zx_cVv C [.int (3 : Int32), .int a3] lk_X10_147 (c_X10_later l D cy g (3 : Int32) a3  σ h) zs_223 rfl ⟨by decide, by decide⟩ ⟨rfl, rfl⟩ ⟨Nat.zero_le _, Nat.zero_le _⟩ rfl rfl (Nat.le_of_ble_eq_true rfl) dX10_full_13 (fun σ2 h => ?_)
    exact zx_vret C hr dX10_full_16 h
def w_X10_keep_19 (x_1 : Int32) (x_2 : Int32) (x_3 : Int32) (x_5 : Int32) (x_6 : Int32) (P : zSto → Prop)  : Nat → Int32 → zSto → Prop
  | 0, _, _ => False
  | n + 1, x_7, σ => ((x_5 ≤ x_7 → (vp_in x_1 123 ∧ (vp_in x_1 123 ∧ (∀ σ5 : zSto, σ5 = zI σ 232 (x_1).toNatClampNeg ((σ.1 232 (x_1).toNatClampNeg) + (1 : Int32)) → P σ5)))) ∧ (¬ x_5 ≤ x_7 → (vp_in x_7 6 ∧ (vp_in ((x_2 + (x_3 * x_6)) + x_7) 123 ∧ (∀ σ8 : zSto, σ8 = zI σ 232 (((x_2 + (x_3 * x_6)) + x_7)).toNatClampNeg (σ.1 233 (x_7).toNatClampNeg) → (∀ x9 : Int32, x9 = (x_7 + (1 : Int32)) → w_X10_keep_19 x_1 x_2 x_3 x_5 x_6 P n x9 σ8))))))
def w_X10_keep (a1 : Int32) (a2 : Int32) (a3 : Int32) (a4 : Int32) (a5 : Int32) (σ : zSto) (P : zSto → Prop) : Prop := (vp_in a1 123 ∧ (∀ x2 : Int32, x2 = (σ.1 232 (a1).toNatClampNeg) → ((¬ x2 = a4 → (∃ n : Nat, w_X10_keep_19 a1 a2 a3 a5 x2 P  n (0 : Int32) σ)) ∧ (x2 = a4 → P σ))))
set_option maxRecDepth 100000 in
set_option maxHeartbeats 4000000 in
theorem k_X10_keep_19 {p : Program} {l : Launch} {e : Env} {s : State} {m : MethodId} {args : Array Value} {below : List Frame} {meth : Method} {c : Code} {D : va_G} {cy : Nat → ClassId} {g : Nat → Nat} (C : zC p s m args meth c cX10_keep RX10 8 D cy g) (hr : meth.sig.returnType = none) {P : zSto → Prop} (x_1 : Int32) (x_2 : Int32) (x_3 : Int32) (x_5 : Int32) (x_6 : Int32)    : ∀ (n : Nat) (x_7 : Int32) (σ : zSto), w_X10_keep_19 x_1 x_2 x_3 x_5 x_6 P n x_7 σ → zX p l e (zrm 0 0) s m args below meth c 0 0 (zQv P below args s D cy g) 8 D cy g 19 [(0, .ref (g 223)), (1, .int x_1), (2, .int x_2), (3, .int x_3), (5, .int x_5), (6, .int x_6), (7, .int x_7)] [] σ := by
  intro n
  induction n with
  | zero => intro x_7 σ h; exact h.elim
  | succ n ih =>
    intro x_7 σ h
    unfold w_X10_keep_19 at h
    refine zx_iload C dX10_keep_19 6 rfl ?_
    refine zx_iload C dX10_keep_21 4 rfl ?_
    refine zx_icmp_ge C 53 dX10_keep_23 (by decide) (fun q => ?_) (fun q => ?_)
    · replace h := h.1 q
      refine zx_aload_n C dX10_keep_53 0 rfl ?_
      refine zx_getR C zs_223 fg_X10_35 rfl 232 rfl dX10_keep_54 ?_
      refine zx_iload_n C dX10_keep_57 1 rfl ?_
      refine zx_dup2 C dX10_keep_58 rfl rfl ?_
      obtain ⟨bd3, h⟩ := h
      refine zx_iald C (x_1).toNatClampNeg zs_232 bd3 rfl dX10_keep_59 ?_
      refine zx_iconst (v := (1 : Int32)) C dX10_keep_60 (by decide) ?_
      refine zx_iadd C dX10_keep_61 ?_
      obtain ⟨bd4, h⟩ := h
      refine zx_iast C (x_1).toNatClampNeg zs_232 bd4 rfl dX10_keep_62 ?_
      refine zx_sig (fun σ5 eσ5 => ?_)
      replace h := h σ5 eσ5
      exact zx_vret C hr dX10_keep_63 h
    · replace h := h.2 q
      refine zx_aload_n C dX10_keep_26 0 rfl ?_
      refine zx_getR C zs_223 fg_X10_35 rfl 232 rfl dX10_keep_27 ?_
      refine zx_iload_n C dX10_keep_30 2 rfl ?_
      refine zx_iload_n C dX10_keep_31 3 rfl ?_
      refine zx_iload C dX10_keep_32 5 rfl ?_
      refine zx_imul C dX10_keep_34 ?_
      refine zx_iadd C dX10_keep_35 ?_
      refine zx_iload C dX10_keep_36 6 rfl ?_
      refine zx_iadd C dX10_keep_38 ?_
      refine zx_aload_n C dX10_keep_39 0 rfl ?_
      refine zx_getR C zs_223 fg_X10_38 rfl 233 rfl dX10_keep_40 ?_
      refine zx_iload C dX10_keep_43 6 rfl ?_
      obtain ⟨bd6, h⟩ := h
      refine zx_iald C (x_7).toNatClampNeg zs_233 bd6 rfl dX10_keep_45 ?_
      obtain ⟨bd7, h⟩ := h
      refine zx_iast C (((x_2 + (x_3 * x_6)) + x_7)).toNatClampNeg zs_232 bd7 rfl dX10_keep_46 ?_
      refine zx_sig (fun σ8 eσ8 => ?_)
      replace h := h σ8 eσ8
      obtain ⟨x9, ex9⟩ : ∃ y : Int32, y = (x_7 + (1 : Int32)) := ⟨_, rfl⟩
      replace h := h x9 ex9
      refine zx_iinc (v := x9) (lv' := [(7, .int x9), (0, .ref (g 223)), (1, .int x_1), (2, .int x_2), (3, .int x_3), (5, .int x_5), (6, .int x_6)]) C dX10_keep_47 6 rfl (by rw [ex9]; rfl) (by decide) rfl ?_
      refine zx_goto C 19 dX10_keep_50 (by decide) ?_
      refine zx_lv (lv' := [(0, .ref (g 223)), (1, .int x_1), (2, .int x_2), (3, .int x_3), (5, .int x_5), (6, .int x_6), (7, .int x9)]) [1, 2, 3, 4, 5, 6, 0] rfl ?_
      exact ih x9 σ8 h
set_option maxRecDepth 100000 in
set_option maxHeartbeats 4000000 in
theorem c_X10_keep (l : Launch) (D : va_G) (cy : Nat → ClassId) (g : Nat → Nat) (a1 : Int32) (a2 : Int32) (a3 : Int32) (a4 : Int32) (a5 : Int32)  (σ : zSto) {P : zSto → Prop} (h : w_X10_keep a1 a2 a3 a4 a5 σ P) : zMv l yX10_keep cX10_keep 8 none (zrm 0 0) D cy g [.ref (g 223), .int a1, .int a2, .int a3, .int a4, .int a5] σ P := by
  unfold w_X10_keep at h
  refine zm_v RX10 rfl (by decide +kernel) (Nat.le_of_ble_eq_true rfl) ?_
  intro p e s m below meth c C hr
  refine zx_lv (lv' := [(0, .ref (g 223)), (1, .int a1), (2, .int a2), (3, .int a3), (4, .int a4), (5, .int a5)]) [0, 1, 2, 3, 4, 5] rfl ?_
  refine zx_aload_n C dX10_keep_0 0 rfl ?_
  refine zx_getR C zs_223 fg_X10_35 rfl 232 rfl dX10_keep_1 ?_
  refine zx_iload_n C dX10_keep_4 1 rfl ?_
  obtain ⟨bd1, h⟩ := h
  refine zx_iald C (a1).toNatClampNeg zs_232 bd1 rfl dX10_keep_5 ?_
  refine zx_topi (fun x2 ex2 => ?_)
  replace h := h x2 ex2
  refine zx_istore (lv' := [(6, .int x2), (0, .ref (g 223)), (1, .int a1), (2, .int a2), (3, .int a3), (4, .int a4), (5, .int a5)]) C dX10_keep_6 (by decide) rfl ?_
  refine zx_iload C dX10_keep_8 0 rfl ?_
  refine zx_iload C dX10_keep_10 5 rfl ?_
  refine zx_icmp_ne C 16 dX10_keep_12 (by decide) (fun q => ?_) (fun q => ?_)
  · replace h := h.1 q
    refine zx_iconst (v := (0 : Int32)) C dX10_keep_16 (by decide) ?_
    refine zx_istore (lv' := [(7, .int (0 : Int32)), (6, .int x2), (0, .ref (g 223)), (1, .int a1), (2, .int a2), (3, .int a3), (4, .int a4), (5, .int a5)]) C dX10_keep_17 (by decide) rfl ?_
    obtain ⟨n, h⟩ := h
    refine zx_lv (lv' := [(0, .ref (g 223)), (1, .int a1), (2, .int a2), (3, .int a3), (5, .int a5), (6, .int x2), (7, .int (0 : Int32))]) [2, 3, 4, 5, 7, 1, 0] rfl ?_
    exact k_X10_keep_19 C hr (a1) (a2) (a3) (a5) (x2)   n (0 : Int32) σ h
  · replace h := h.2 q
    exact zx_vret C hr dX10_keep_15 h
theorem lk_X10_164 : zLV RX10 164 RX10 yX10_takePost cX10_takePost 4 (some .boolean) 2 := zLV_of ml_X10_164 im_X10_takePost se_X10_takePost ini_X10 cd_X10_takePost (by decide +kernel)
theorem lk_X10_167 : zLV RX10 167 RX10 yX10_keep cX10_keep 8 none 5 := zLV_of ml_X10_167 im_X10_keep se_X10_keep ini_X10 cd_X10_keep (by decide +kernel)
def w_X10_riderLine  (σ : zSto) (P : Int32 → zSto → Prop) : Prop := (w_X10_takePost (0 : Int32) (0 : Int32) σ (fun (r2 : Int32) (σ1 : zSto) => (r2 = 0 ∨ r2 = 1) → ((r2 = 0 → P (0 : Int32) σ1) ∧ (¬ r2 = 0 → (w_X10_takePost (1 : Int32) ((σ1.1 233 0) + (1 : Int32)) σ1 (fun (r4 : Int32) (σ3 : zSto) => (r4 = 0 ∨ r4 = 1) → ((r4 = 0 → P (0 : Int32) σ3) ∧ (¬ r4 = 0 → (w_X10_take (2 : Int32) (1 : Int32) (60 : Int32) σ3 (fun (r6 : Int32) (σ5 : zSto) => (r6 = 0 ∨ r6 = 1) → ((r6 = 0 → P (0 : Int32) σ5) ∧ (¬ r6 = 0 → (w_X10_take (3 : Int32) (1 : Int32) (30 : Int32) σ5 (fun (r8 : Int32) (σ7 : zSto) => (r8 = 0 ∨ r8 = 1) → ((r8 = 0 → P (0 : Int32) σ7) ∧ (¬ r8 = 0 → (w_X10_take (4 : Int32) (0 : Int32) (200 : Int32) σ7 (fun (r10 : Int32) (σ9 : zSto) => (r10 = 0 ∨ r10 = 1) → ((r10 = 0 → P (0 : Int32) σ9) ∧ (¬ r10 = 0 → (w_X10_take (5 : Int32) (0 : Int32) (9 : Int32) σ9 (fun (r12 : Int32) (σ11 : zSto) => (r12 = 0 ∨ r12 = 1) → ((¬ r12 = 0 → (w_X10_keep (1 : Int32) (87 : Int32) (6 : Int32) (6 : Int32) (6 : Int32) σ11 (fun (σ13 : zSto) => P (1 : Int32) σ13))) ∧ (r12 = 0 → P (0 : Int32) σ11))))))))))))))))))))))))
set_option maxRecDepth 100000 in
set_option maxHeartbeats 4000000 in
theorem c_X10_riderLine (l : Launch) (D : va_G) (cy : Nat → ClassId) (g : Nat → Nat)   (σ : zSto) {P : Int32 → zSto → Prop} (h : w_X10_riderLine  σ P) : zMb l yX10_riderLine cX10_riderLine 1 (some .boolean) (zrm 4 90) D cy g [.ref (g 223)] σ P := by
  unfold w_X10_riderLine at h
  refine zm_b RX10 rfl (by decide +kernel) (Nat.le_of_ble_eq_true rfl) ?_
  intro p e s m below meth c C hr
  refine zx_lv (lv' := [(0, .ref (g 223))]) [0] rfl ?_
  refine zx_aload_n C dX10_riderLine_0 0 rfl ?_
  refine zx_iconst (v := (0 : Int32)) C dX10_riderLine_1 (by decide) ?_
  refine zx_iconst (v := (0 : Int32)) C dX10_riderLine_2 (by decide) ?_
  refine zx_cVb C [.int (0 : Int32), .int (0 : Int32)] lk_X10_164 (c_X10_takePost l D cy g (0 : Int32) (0 : Int32)  σ h) zs_223 rfl ⟨by decide, by decide⟩ ⟨rfl, rfl⟩ ⟨Nat.zero_le _, Nat.zero_le _⟩ rfl rfl (Nat.le_of_ble_eq_true rfl) dX10_riderLine_3 (fun r2 σ1 hb h => ?_)
  replace h := h hb
  refine zx_if_eq C 70 dX10_riderLine_6 (by decide) (fun q => ?_) (fun q => ?_)
  · replace h := h.1 q
    refine zx_iconst (v := (0 : Int32)) C dX10_riderLine_70 (by decide) ?_
    exact zx_zret C hr dX10_riderLine_71 (Or.inl rfl) h
  · replace h := h.2 q
    refine zx_aload_n C dX10_riderLine_9 0 rfl ?_
    refine zx_iconst (v := (1 : Int32)) C dX10_riderLine_10 (by decide) ?_
    refine zx_aload_n C dX10_riderLine_11 0 rfl ?_
    refine zx_getR C zs_223 fg_X10_38 rfl 233 rfl dX10_riderLine_12 ?_
    refine zx_iconst (v := (0 : Int32)) C dX10_riderLine_15 (by decide) ?_
    refine zx_iald C 0 zs_233 (by unfold vp_in; decide) (by decide) dX10_riderLine_16 ?_
    refine zx_iconst (v := (1 : Int32)) C dX10_riderLine_17 (by decide) ?_
    refine zx_iadd C dX10_riderLine_18 ?_
    refine zx_cVb C [.int (1 : Int32), .int ((σ1.1 233 0) + (1 : Int32))] lk_X10_164 (c_X10_takePost l D cy g (1 : Int32) ((σ1.1 233 0) + (1 : Int32))  σ1 h) zs_223 rfl ⟨by decide, by decide⟩ ⟨rfl, rfl⟩ ⟨Nat.zero_le _, Nat.zero_le _⟩ rfl rfl (Nat.le_of_ble_eq_true rfl) dX10_riderLine_19 (fun r4 σ3 hb h => ?_)
    replace h := h hb
    refine zx_if_eq C 70 dX10_riderLine_22 (by decide) (fun q => ?_) (fun q => ?_)
    · replace h := h.1 q
      refine zx_iconst (v := (0 : Int32)) C dX10_riderLine_70 (by decide) ?_
      exact zx_zret C hr dX10_riderLine_71 (Or.inl rfl) h
    · replace h := h.2 q
      refine zx_aload_n C dX10_riderLine_25 0 rfl ?_
      refine zx_iconst (v := (2 : Int32)) C dX10_riderLine_26 (by decide) ?_
      refine zx_iconst (v := (1 : Int32)) C dX10_riderLine_27 (by decide) ?_
      refine zx_bipush (v := (60 : Int32)) C dX10_riderLine_28 (by decide) ?_
      refine zx_cVb C [.int (2 : Int32), .int (1 : Int32), .int (60 : Int32)] lk_X10_154 (c_X10_take l D cy g (2 : Int32) (1 : Int32) (60 : Int32)  σ3 h) zs_223 rfl ⟨by decide, by decide⟩ ⟨rfl, rfl⟩ ⟨Nat.zero_le _, Nat.zero_le _⟩ rfl rfl (Nat.le_of_ble_eq_true rfl) dX10_riderLine_30 (fun r6 σ5 hb h => ?_)
      replace h := h hb
      refine zx_if_eq C 70 dX10_riderLine_33 (by decide) (fun q => ?_) (fun q => ?_)
      · replace h := h.1 q
        refine zx_iconst (v := (0 : Int32)) C dX10_riderLine_70 (by decide) ?_
        exact zx_zret C hr dX10_riderLine_71 (Or.inl rfl) h
      · replace h := h.2 q
        refine zx_aload_n C dX10_riderLine_36 0 rfl ?_
        refine zx_iconst (v := (3 : Int32)) C dX10_riderLine_37 (by decide) ?_
        refine zx_iconst (v := (1 : Int32)) C dX10_riderLine_38 (by decide) ?_
        refine zx_bipush (v := (30 : Int32)) C dX10_riderLine_39 (by decide) ?_
        refine zx_cVb C [.int (3 : Int32), .int (1 : Int32), .int (30 : Int32)] lk_X10_154 (c_X10_take l D cy g (3 : Int32) (1 : Int32) (30 : Int32)  σ5 h) zs_223 rfl ⟨by decide, by decide⟩ ⟨rfl, rfl⟩ ⟨Nat.zero_le _, Nat.zero_le _⟩ rfl rfl (Nat.le_of_ble_eq_true rfl) dX10_riderLine_41 (fun r8 σ7 hb h => ?_)
        replace h := h hb
        refine zx_if_eq C 70 dX10_riderLine_44 (by decide) (fun q => ?_) (fun q => ?_)
        · replace h := h.1 q
          refine zx_iconst (v := (0 : Int32)) C dX10_riderLine_70 (by decide) ?_
          exact zx_zret C hr dX10_riderLine_71 (Or.inl rfl) h
        · replace h := h.2 q
          refine zx_aload_n C dX10_riderLine_47 0 rfl ?_
          refine zx_iconst (v := (4 : Int32)) C dX10_riderLine_48 (by decide) ?_
          refine zx_iconst (v := (0 : Int32)) C dX10_riderLine_49 (by decide) ?_
          refine zx_sipush (v := (200 : Int32)) C dX10_riderLine_50 (by decide) ?_
          refine zx_cVb C [.int (4 : Int32), .int (0 : Int32), .int (200 : Int32)] lk_X10_154 (c_X10_take l D cy g (4 : Int32) (0 : Int32) (200 : Int32)  σ7 h) zs_223 rfl ⟨by decide, by decide⟩ ⟨rfl, rfl⟩ ⟨Nat.zero_le _, Nat.zero_le _⟩ rfl rfl (Nat.le_of_ble_eq_true rfl) dX10_riderLine_53 (fun r10 σ9 hb h => ?_)
          replace h := h hb
          refine zx_if_eq C 70 dX10_riderLine_56 (by decide) (fun q => ?_) (fun q => ?_)
          · replace h := h.1 q
            refine zx_iconst (v := (0 : Int32)) C dX10_riderLine_70 (by decide) ?_
            exact zx_zret C hr dX10_riderLine_71 (Or.inl rfl) h
          · replace h := h.2 q
            refine zx_aload_n C dX10_riderLine_59 0 rfl ?_
            refine zx_iconst (v := (5 : Int32)) C dX10_riderLine_60 (by decide) ?_
            refine zx_iconst (v := (0 : Int32)) C dX10_riderLine_61 (by decide) ?_
            refine zx_bipush (v := (9 : Int32)) C dX10_riderLine_62 (by decide) ?_
            refine zx_cVb C [.int (5 : Int32), .int (0 : Int32), .int (9 : Int32)] lk_X10_154 (c_X10_take l D cy g (5 : Int32) (0 : Int32) (9 : Int32)  σ9 h) zs_223 rfl ⟨by decide, by decide⟩ ⟨rfl, rfl⟩ ⟨Nat.zero_le _, Nat.zero_le _⟩ rfl rfl (Nat.le_of_ble_eq_true rfl) dX10_riderLine_64 (fun r12 σ11 hb h => ?_)
            replace h := h hb
            refine zx_if_ne C 72 dX10_riderLine_67 (by decide) (fun q => ?_) (fun q => ?_)
            · replace h := h.1 q
              refine zx_aload_n C dX10_riderLine_72 0 rfl ?_
              refine zx_iconst (v := (1 : Int32)) C dX10_riderLine_73 (by decide) ?_
              refine zx_bipush (v := (87 : Int32)) C dX10_riderLine_74 (by decide) ?_
              refine zx_bipush (v := (6 : Int32)) C dX10_riderLine_76 (by decide) ?_
              refine zx_bipush (v := (6 : Int32)) C dX10_riderLine_78 (by decide) ?_
              refine zx_bipush (v := (6 : Int32)) C dX10_riderLine_80 (by decide) ?_
              refine zx_cVv C [.int (1 : Int32), .int (87 : Int32), .int (6 : Int32), .int (6 : Int32), .int (6 : Int32)] lk_X10_167 (c_X10_keep l D cy g (1 : Int32) (87 : Int32) (6 : Int32) (6 : Int32) (6 : Int32)  σ11 h) zs_223 rfl ⟨by decide, by decide⟩ ⟨rfl, rfl⟩ ⟨Nat.zero_le _, Nat.zero_le _⟩ rfl rfl (Nat.le_of_ble_eq_true rfl) dX10_riderLine_82 (fun σ13 h => ?_)
              refine zx_iconst (v := (1 : Int32)) C dX10_riderLine_85 (by decide) ?_
              exact zx_zret C hr dX10_riderLine_86 (Or.inr rfl) h
            · replace h := h.2 q
              refine zx_iconst (v := (0 : Int32)) C dX10_riderLine_70 (by decide) ?_
              exact zx_zret C hr dX10_riderLine_71 (Or.inl rfl) h
def w_X10_postLine  (σ : zSto) (P : Int32 → zSto → Prop) : Prop := (w_X10_take (0 : Int32) (1 : Int32) (30 : Int32) σ (fun (r2 : Int32) (σ1 : zSto) => (r2 = 0 ∨ r2 = 1) → ((r2 = 0 → P (0 : Int32) σ1) ∧ (¬ r2 = 0 → (w_X10_take (1 : Int32) (0 : Int32) (3 : Int32) σ1 (fun (r4 : Int32) (σ3 : zSto) => (r4 = 0 ∨ r4 = 1) → ((r4 = 0 → P (0 : Int32) σ3) ∧ (¬ r4 = 0 → (w_X10_take (2 : Int32) (0 : Int32) (30 : Int32) σ3 (fun (r6 : Int32) (σ5 : zSto) => (r6 = 0 ∨ r6 = 1) → ((¬ r6 = 0 → (w_X10_keep (0 : Int32) (7 : Int32) (5 : Int32) (16 : Int32) (3 : Int32) σ5 (fun (σ7 : zSto) => P (1 : Int32) σ7))) ∧ (r6 = 0 → P (0 : Int32) σ5))))))))))))
set_option maxRecDepth 100000 in
set_option maxHeartbeats 4000000 in
theorem c_X10_postLine (l : Launch) (D : va_G) (cy : Nat → ClassId) (g : Nat → Nat)   (σ : zSto) {P : Int32 → zSto → Prop} (h : w_X10_postLine  σ P) : zMb l yX10_postLine cX10_postLine 1 (some .boolean) (zrm 3 67) D cy g [.ref (g 223)] σ P := by
  unfold w_X10_postLine at h
  refine zm_b RX10 rfl (by decide +kernel) (Nat.le_of_ble_eq_true rfl) ?_
  intro p e s m below meth c C hr
  refine zx_lv (lv' := [(0, .ref (g 223))]) [0] rfl ?_
  refine zx_aload_n C dX10_postLine_0 0 rfl ?_
  refine zx_iconst (v := (0 : Int32)) C dX10_postLine_1 (by decide) ?_
  refine zx_iconst (v := (1 : Int32)) C dX10_postLine_2 (by decide) ?_
  refine zx_bipush (v := (30 : Int32)) C dX10_postLine_3 (by decide) ?_
  refine zx_cVb C [.int (0 : Int32), .int (1 : Int32), .int (30 : Int32)] lk_X10_154 (c_X10_take l D cy g (0 : Int32) (1 : Int32) (30 : Int32)  σ h) zs_223 rfl ⟨by decide, by decide⟩ ⟨rfl, rfl⟩ ⟨Nat.zero_le _, Nat.zero_le _⟩ rfl rfl (Nat.le_of_ble_eq_true rfl) dX10_postLine_5 (fun r2 σ1 hb h => ?_)
  replace h := h hb
  refine zx_if_eq C 32 dX10_postLine_8 (by decide) (fun q => ?_) (fun q => ?_)
  · replace h := h.1 q
    refine zx_iconst (v := (0 : Int32)) C dX10_postLine_32 (by decide) ?_
    exact zx_zret C hr dX10_postLine_33 (Or.inl rfl) h
  · replace h := h.2 q
    refine zx_aload_n C dX10_postLine_11 0 rfl ?_
    refine zx_iconst (v := (1 : Int32)) C dX10_postLine_12 (by decide) ?_
    refine zx_iconst (v := (0 : Int32)) C dX10_postLine_13 (by decide) ?_
    refine zx_iconst (v := (3 : Int32)) C dX10_postLine_14 (by decide) ?_
    refine zx_cVb C [.int (1 : Int32), .int (0 : Int32), .int (3 : Int32)] lk_X10_154 (c_X10_take l D cy g (1 : Int32) (0 : Int32) (3 : Int32)  σ1 h) zs_223 rfl ⟨by decide, by decide⟩ ⟨rfl, rfl⟩ ⟨Nat.zero_le _, Nat.zero_le _⟩ rfl rfl (Nat.le_of_ble_eq_true rfl) dX10_postLine_15 (fun r4 σ3 hb h => ?_)
    replace h := h hb
    refine zx_if_eq C 32 dX10_postLine_18 (by decide) (fun q => ?_) (fun q => ?_)
    · replace h := h.1 q
      refine zx_iconst (v := (0 : Int32)) C dX10_postLine_32 (by decide) ?_
      exact zx_zret C hr dX10_postLine_33 (Or.inl rfl) h
    · replace h := h.2 q
      refine zx_aload_n C dX10_postLine_21 0 rfl ?_
      refine zx_iconst (v := (2 : Int32)) C dX10_postLine_22 (by decide) ?_
      refine zx_iconst (v := (0 : Int32)) C dX10_postLine_23 (by decide) ?_
      refine zx_bipush (v := (30 : Int32)) C dX10_postLine_24 (by decide) ?_
      refine zx_cVb C [.int (2 : Int32), .int (0 : Int32), .int (30 : Int32)] lk_X10_154 (c_X10_take l D cy g (2 : Int32) (0 : Int32) (30 : Int32)  σ3 h) zs_223 rfl ⟨by decide, by decide⟩ ⟨rfl, rfl⟩ ⟨Nat.zero_le _, Nat.zero_le _⟩ rfl rfl (Nat.le_of_ble_eq_true rfl) dX10_postLine_26 (fun r6 σ5 hb h => ?_)
      replace h := h hb
      refine zx_if_ne C 34 dX10_postLine_29 (by decide) (fun q => ?_) (fun q => ?_)
      · replace h := h.1 q
        refine zx_aload_n C dX10_postLine_34 0 rfl ?_
        refine zx_iconst (v := (0 : Int32)) C dX10_postLine_35 (by decide) ?_
        refine zx_bipush (v := (7 : Int32)) C dX10_postLine_36 (by decide) ?_
        refine zx_iconst (v := (5 : Int32)) C dX10_postLine_38 (by decide) ?_
        refine zx_bipush (v := (16 : Int32)) C dX10_postLine_39 (by decide) ?_
        refine zx_iconst (v := (3 : Int32)) C dX10_postLine_41 (by decide) ?_
        refine zx_cVv C [.int (0 : Int32), .int (7 : Int32), .int (5 : Int32), .int (16 : Int32), .int (3 : Int32)] lk_X10_167 (c_X10_keep l D cy g (0 : Int32) (7 : Int32) (5 : Int32) (16 : Int32) (3 : Int32)  σ5 h) zs_223 rfl ⟨by decide, by decide⟩ ⟨rfl, rfl⟩ ⟨Nat.zero_le _, Nat.zero_le _⟩ rfl rfl (Nat.le_of_ble_eq_true rfl) dX10_postLine_42 (fun σ7 h => ?_)
        refine zx_iconst (v := (1 : Int32)) C dX10_postLine_45 (by decide) ?_
        exact zx_zret C hr dX10_postLine_46 (Or.inr rfl) h
      · replace h := h.2 q
        refine zx_iconst (v := (0 : Int32)) C dX10_postLine_32 (by decide) ?_
        exact zx_zret C hr dX10_postLine_33 (Or.inl rfl) h
theorem fg_X10_44 : zFG RX10 44 10 21 := ⟨RX10, TX10, 50, rfl, lay_X10, by decide, fl_X10_44⟩
theorem fg_X10_41 : zFG RX10 41 10 20 := ⟨RX10, TX10, 50, rfl, lay_X10, by decide, fl_X10_41⟩
def w_X10_ofPost (a1 : Int32) (σ : zSto) (P : Int32 → zSto → Prop) : Prop := (w_X10_takePost (0 : Int32) (0 : Int32) σ (fun (r2 : Int32) (σ1 : zSto) => (r2 = 0 ∨ r2 = 1) → ((r2 = 0 → P (0 : Int32) σ1) ∧ (¬ r2 = 0 → ((a1 = 0 → (w_X10_take (1 : Int32) (0 : Int32) (999 : Int32) σ1 (fun (r4 : Int32) (σ3 : zSto) => (r4 = 0 ∨ r4 = 1) → ((¬ r4 = 0 → (((16 : Int32) ≤ (σ3.1 233 0) → P (1 : Int32) σ3) ∧ (¬ (16 : Int32) ≤ (σ3.1 233 0) → ((a1 = 0 → (vp_in (σ3.1 233 0) 16 ∧ (∀ σ6 : zSto, σ6 = zI σ3 235 ((σ3.1 233 0)).toNatClampNeg (σ3.1 233 1) → P (1 : Int32) σ6))) ∧ (¬ a1 = 0 → (vp_in (σ3.1 233 0) 16 ∧ (∀ σ8 : zSto, σ8 = zI σ3 234 ((σ3.1 233 0)).toNatClampNeg (σ3.1 233 1) → P (1 : Int32) σ8))))))) ∧ (r4 = 0 → P (0 : Int32) σ3))))) ∧ (¬ a1 = 0 → (w_X10_take (1 : Int32) (0 : Int32) (10 : Int32) σ1 (fun (r10 : Int32) (σ9 : zSto) => (r10 = 0 ∨ r10 = 1) → ((¬ r10 = 0 → (((16 : Int32) ≤ (σ9.1 233 0) → P (1 : Int32) σ9) ∧ (¬ (16 : Int32) ≤ (σ9.1 233 0) → ((a1 = 0 → (vp_in (σ9.1 233 0) 16 ∧ (∀ σ12 : zSto, σ12 = zI σ9 235 ((σ9.1 233 0)).toNatClampNeg (σ9.1 233 1) → P (1 : Int32) σ12))) ∧ (¬ a1 = 0 → (vp_in (σ9.1 233 0) 16 ∧ (∀ σ14 : zSto, σ14 = zI σ9 234 ((σ9.1 233 0)).toNatClampNeg (σ9.1 233 1) → P (1 : Int32) σ14))))))) ∧ (r10 = 0 → P (0 : Int32) σ9))))))))))
set_option maxRecDepth 100000 in
set_option maxHeartbeats 4000000 in
theorem c_X10_ofPost (l : Launch) (D : va_G) (cy : Nat → ClassId) (g : Nat → Nat) (a1 : Int32)  (σ : zSto) {P : Int32 → zSto → Prop} (h : w_X10_ofPost a1 σ P) : zMb l yX10_ofPost cX10_ofPost 2 (some .boolean) (zrm 4 90) D cy g [.ref (g 223), .int a1] σ P := by
  unfold w_X10_ofPost at h
  refine zm_b RX10 rfl (by decide +kernel) (Nat.le_of_ble_eq_true rfl) ?_
  intro p e s m below meth c C hr
  refine zx_lv (lv' := [(0, .ref (g 223)), (1, .int a1)]) [0, 1] rfl ?_
  refine zx_aload_n C dX10_ofPost_0 0 rfl ?_
  refine zx_iconst (v := (0 : Int32)) C dX10_ofPost_1 (by decide) ?_
  refine zx_iconst (v := (0 : Int32)) C dX10_ofPost_2 (by decide) ?_
  refine zx_cVb C [.int (0 : Int32), .int (0 : Int32)] lk_X10_164 (c_X10_takePost l D cy g (0 : Int32) (0 : Int32)  σ h) zs_223 rfl ⟨by decide, by decide⟩ ⟨rfl, rfl⟩ ⟨Nat.zero_le _, Nat.zero_le _⟩ rfl rfl (Nat.le_of_ble_eq_true rfl) dX10_ofPost_3 (fun r2 σ1 hb h => ?_)
  replace h := h hb
  refine zx_if_eq C 30 dX10_ofPost_6 (by decide) (fun q => ?_) (fun q => ?_)
  · replace h := h.1 q
    refine zx_iconst (v := (0 : Int32)) C dX10_ofPost_30 (by decide) ?_
    exact zx_zret C hr dX10_ofPost_31 (Or.inl rfl) h
  · replace h := h.2 q
    refine zx_aload_n C dX10_ofPost_9 0 rfl ?_
    refine zx_iconst (v := (1 : Int32)) C dX10_ofPost_10 (by decide) ?_
    refine zx_iconst (v := (0 : Int32)) C dX10_ofPost_11 (by decide) ?_
    refine zx_iload_n C dX10_ofPost_12 1 rfl ?_
    refine zx_if_eq C 21 dX10_ofPost_13 (by decide) (fun q => ?_) (fun q => ?_)
    · replace h := h.1 q
      refine zx_sipush (v := (999 : Int32)) C dX10_ofPost_21 (by decide) ?_
      refine zx_cVb C [.int (1 : Int32), .int (0 : Int32), .int (999 : Int32)] lk_X10_154 (c_X10_take l D cy g (1 : Int32) (0 : Int32) (999 : Int32)  σ1 h) zs_223 rfl ⟨by decide, by decide⟩ ⟨rfl, rfl⟩ ⟨Nat.zero_le _, Nat.zero_le _⟩ rfl rfl (Nat.le_of_ble_eq_true rfl) dX10_ofPost_24 (fun r4 σ3 hb h => ?_)
      replace h := h hb
      refine zx_if_ne C 32 dX10_ofPost_27 (by decide) (fun q => ?_) (fun q => ?_)
      · replace h := h.1 q
        refine zx_aload_n C dX10_ofPost_32 0 rfl ?_
        refine zx_getR C zs_223 fg_X10_38 rfl 233 rfl dX10_ofPost_33 ?_
        refine zx_iconst (v := (0 : Int32)) C dX10_ofPost_36 (by decide) ?_
        refine zx_iald C 0 zs_233 (by unfold vp_in; decide) (by decide) dX10_ofPost_37 ?_
        refine zx_bipush (v := (16 : Int32)) C dX10_ofPost_38 (by decide) ?_
        refine zx_icmp_ge C 84 dX10_ofPost_40 (by decide) (fun q => ?_) (fun q => ?_)
        · replace h := h.1 q
          refine zx_iconst (v := (1 : Int32)) C dX10_ofPost_84 (by decide) ?_
          exact zx_zret C hr dX10_ofPost_85 (Or.inr rfl) h
        · replace h := h.2 q
          refine zx_iload_n C dX10_ofPost_43 1 rfl ?_
          refine zx_if_eq C 67 dX10_ofPost_44 (by decide) (fun q => ?_) (fun q => ?_)
          · replace h := h.1 q
            refine zx_aload_n C dX10_ofPost_67 0 rfl ?_
            refine zx_getR C zs_223 fg_X10_44 rfl 235 rfl dX10_ofPost_68 ?_
            refine zx_aload_n C dX10_ofPost_71 0 rfl ?_
            refine zx_getR C zs_223 fg_X10_38 rfl 233 rfl dX10_ofPost_72 ?_
            refine zx_iconst (v := (0 : Int32)) C dX10_ofPost_75 (by decide) ?_
            refine zx_iald C 0 zs_233 (by unfold vp_in; decide) (by decide) dX10_ofPost_76 ?_
            refine zx_aload_n C dX10_ofPost_77 0 rfl ?_
            refine zx_getR C zs_223 fg_X10_38 rfl 233 rfl dX10_ofPost_78 ?_
            refine zx_iconst (v := (1 : Int32)) C dX10_ofPost_81 (by decide) ?_
            refine zx_iald C 1 zs_233 (by unfold vp_in; decide) (by decide) dX10_ofPost_82 ?_
            obtain ⟨bd5, h⟩ := h
            refine zx_iast C ((σ3.1 233 0)).toNatClampNeg zs_235 bd5 rfl dX10_ofPost_83 ?_
            refine zx_sig (fun σ6 eσ6 => ?_)
            replace h := h σ6 eσ6
            refine zx_iconst (v := (1 : Int32)) C dX10_ofPost_84 (by decide) ?_
            exact zx_zret C hr dX10_ofPost_85 (Or.inr rfl) h
          · replace h := h.2 q
            refine zx_aload_n C dX10_ofPost_47 0 rfl ?_
            refine zx_getR C zs_223 fg_X10_41 rfl 234 rfl dX10_ofPost_48 ?_
            refine zx_aload_n C dX10_ofPost_51 0 rfl ?_
            refine zx_getR C zs_223 fg_X10_38 rfl 233 rfl dX10_ofPost_52 ?_
            refine zx_iconst (v := (0 : Int32)) C dX10_ofPost_55 (by decide) ?_
            refine zx_iald C 0 zs_233 (by unfold vp_in; decide) (by decide) dX10_ofPost_56 ?_
            refine zx_aload_n C dX10_ofPost_57 0 rfl ?_
            refine zx_getR C zs_223 fg_X10_38 rfl 233 rfl dX10_ofPost_58 ?_
            refine zx_iconst (v := (1 : Int32)) C dX10_ofPost_61 (by decide) ?_
            refine zx_iald C 1 zs_233 (by unfold vp_in; decide) (by decide) dX10_ofPost_62 ?_
            obtain ⟨bd7, h⟩ := h
            refine zx_iast C ((σ3.1 233 0)).toNatClampNeg zs_234 bd7 rfl dX10_ofPost_63 ?_
            refine zx_sig (fun σ8 eσ8 => ?_)
            replace h := h σ8 eσ8
            refine zx_goto C 84 dX10_ofPost_64 (by decide) ?_
            refine zx_iconst (v := (1 : Int32)) C dX10_ofPost_84 (by decide) ?_
            exact zx_zret C hr dX10_ofPost_85 (Or.inr rfl) h
      · replace h := h.2 q
        refine zx_iconst (v := (0 : Int32)) C dX10_ofPost_30 (by decide) ?_
        exact zx_zret C hr dX10_ofPost_31 (Or.inl rfl) h
    · replace h := h.2 q
      refine zx_bipush (v := (10 : Int32)) C dX10_ofPost_16 (by decide) ?_
      refine zx_goto C 24 dX10_ofPost_18 (by decide) ?_
      refine zx_cVb C [.int (1 : Int32), .int (0 : Int32), .int (10 : Int32)] lk_X10_154 (c_X10_take l D cy g (1 : Int32) (0 : Int32) (10 : Int32)  σ1 h) zs_223 rfl ⟨by decide, by decide⟩ ⟨rfl, rfl⟩ ⟨Nat.zero_le _, Nat.zero_le _⟩ rfl rfl (Nat.le_of_ble_eq_true rfl) dX10_ofPost_24 (fun r10 σ9 hb h => ?_)
      replace h := h hb
      refine zx_if_ne C 32 dX10_ofPost_27 (by decide) (fun q => ?_) (fun q => ?_)
      · replace h := h.1 q
        refine zx_aload_n C dX10_ofPost_32 0 rfl ?_
        refine zx_getR C zs_223 fg_X10_38 rfl 233 rfl dX10_ofPost_33 ?_
        refine zx_iconst (v := (0 : Int32)) C dX10_ofPost_36 (by decide) ?_
        refine zx_iald C 0 zs_233 (by unfold vp_in; decide) (by decide) dX10_ofPost_37 ?_
        refine zx_bipush (v := (16 : Int32)) C dX10_ofPost_38 (by decide) ?_
        refine zx_icmp_ge C 84 dX10_ofPost_40 (by decide) (fun q => ?_) (fun q => ?_)
        · replace h := h.1 q
          refine zx_iconst (v := (1 : Int32)) C dX10_ofPost_84 (by decide) ?_
          exact zx_zret C hr dX10_ofPost_85 (Or.inr rfl) h
        · replace h := h.2 q
          refine zx_iload_n C dX10_ofPost_43 1 rfl ?_
          refine zx_if_eq C 67 dX10_ofPost_44 (by decide) (fun q => ?_) (fun q => ?_)
          · replace h := h.1 q
            refine zx_aload_n C dX10_ofPost_67 0 rfl ?_
            refine zx_getR C zs_223 fg_X10_44 rfl 235 rfl dX10_ofPost_68 ?_
            refine zx_aload_n C dX10_ofPost_71 0 rfl ?_
            refine zx_getR C zs_223 fg_X10_38 rfl 233 rfl dX10_ofPost_72 ?_
            refine zx_iconst (v := (0 : Int32)) C dX10_ofPost_75 (by decide) ?_
            refine zx_iald C 0 zs_233 (by unfold vp_in; decide) (by decide) dX10_ofPost_76 ?_
            refine zx_aload_n C dX10_ofPost_77 0 rfl ?_
            refine zx_getR C zs_223 fg_X10_38 rfl 233 rfl dX10_ofPost_78 ?_
            refine zx_iconst (v := (1 : Int32)) C dX10_ofPost_81 (by decide) ?_
            refine zx_iald C 1 zs_233 (by unfold vp_in; decide) (by decide) dX10_ofPost_82 ?_
            obtain ⟨bd11, h⟩ := h
            refine zx_iast C ((σ9.1 233 0)).toNatClampNeg zs_235 bd11 rfl dX10_ofPost_83 ?_
            refine zx_sig (fun σ12 eσ12 => ?_)
            replace h := h σ12 eσ12
            refine zx_iconst (v := (1 : Int32)) C dX10_ofPost_84 (by decide) ?_
            exact zx_zret C hr dX10_ofPost_85 (Or.inr rfl) h
          · replace h := h.2 q
            refine zx_aload_n C dX10_ofPost_47 0 rfl ?_
            refine zx_getR C zs_223 fg_X10_41 rfl 234 rfl dX10_ofPost_48 ?_
            refine zx_aload_n C dX10_ofPost_51 0 rfl ?_
            refine zx_getR C zs_223 fg_X10_38 rfl 233 rfl dX10_ofPost_52 ?_
            refine zx_iconst (v := (0 : Int32)) C dX10_ofPost_55 (by decide) ?_
            refine zx_iald C 0 zs_233 (by unfold vp_in; decide) (by decide) dX10_ofPost_56 ?_
            refine zx_aload_n C dX10_ofPost_57 0 rfl ?_
            refine zx_getR C zs_223 fg_X10_38 rfl 233 rfl dX10_ofPost_58 ?_
            refine zx_iconst (v := (1 : Int32)) C dX10_ofPost_61 (by decide) ?_
            refine zx_iald C 1 zs_233 (by unfold vp_in; decide) (by decide) dX10_ofPost_62 ?_
            obtain ⟨bd13, h⟩ := h
            refine zx_iast C ((σ9.1 233 0)).toNatClampNeg zs_234 bd13 rfl dX10_ofPost_63 ?_
            refine zx_sig (fun σ14 eσ14 => ?_)
            replace h := h σ14 eσ14
            refine zx_goto C 84 dX10_ofPost_64 (by decide) ?_
            refine zx_iconst (v := (1 : Int32)) C dX10_ofPost_84 (by decide) ?_
            exact zx_zret C hr dX10_ofPost_85 (Or.inr rfl) h
      · replace h := h.2 q
        refine zx_iconst (v := (0 : Int32)) C dX10_ofPost_30 (by decide) ?_
        exact zx_zret C hr dX10_ofPost_31 (Or.inl rfl) h
def w_X10_plainOf (a1 : Int64) (σ : zSto) (P : Int32 → zSto → Prop) : Prop := ((¬ (lg_cmp a1 (1751215220 : Int64)) = 0 → ((¬ (lg_cmp a1 (6644084 : Int64)) = 0 → ((¬ (lg_cmp a1 (444300616549 : Int64)) = 0 → ((¬ (lg_cmp a1 (108205047312240 : Int64)) = 0 → ((¬ (lg_cmp a1 (478694368626 : Int64)) = 0 → P (-1 : Int32) σ) ∧ ((lg_cmp a1 (478694368626 : Int64)) = 0 → P (6 : Int32) σ))) ∧ ((lg_cmp a1 (108205047312240 : Int64)) = 0 → P (5 : Int32) σ))) ∧ ((lg_cmp a1 (444300616549 : Int64)) = 0 → P (4 : Int32) σ))) ∧ ((lg_cmp a1 (6644084 : Int64)) = 0 → P (3 : Int32) σ))) ∧ ((lg_cmp a1 (1751215220 : Int64)) = 0 → P (2 : Int32) σ))
set_option maxRecDepth 100000 in
set_option maxHeartbeats 4000000 in
theorem c_X10_plainOf (l : Launch) (D : va_G) (cy : Nat → ClassId) (g : Nat → Nat) (a1 : Int64)  (σ : zSto) {P : Int32 → zSto → Prop} (h : w_X10_plainOf a1 σ P) : zMi l yX10_plainOf cX10_plainOf 2 (some .int) (zrm 0 0) D cy g [.long a1] σ P := by
  unfold w_X10_plainOf at h
  refine zm_i RX10 rfl (by decide +kernel) (Nat.le_of_ble_eq_true rfl) ?_
  intro p e s m below meth c C hr
  refine zx_lv (lv' := [(0, .long a1)]) [0] rfl ?_
  refine zx_lload_n C dX10_plainOf_0 0 rfl ?_
  refine zx_ldc2 C dX10_plainOf_1 co_X10_171 ?_
  refine zx_lcmp C dX10_plainOf_4 ?_
  refine zx_if_ne C 12 dX10_plainOf_5 (by decide) (fun q => ?_) (fun q => ?_)
  · replace h := h.1 q
    refine zx_lload_n C dX10_plainOf_12 0 rfl ?_
    refine zx_ldc2 C dX10_plainOf_13 co_X10_173 ?_
    refine zx_lcmp C dX10_plainOf_16 ?_
    refine zx_if_ne C 24 dX10_plainOf_17 (by decide) (fun q => ?_) (fun q => ?_)
    · replace h := h.1 q
      refine zx_lload_n C dX10_plainOf_24 0 rfl ?_
      refine zx_ldc2 C dX10_plainOf_25 co_X10_175 ?_
      refine zx_lcmp C dX10_plainOf_28 ?_
      refine zx_if_ne C 36 dX10_plainOf_29 (by decide) (fun q => ?_) (fun q => ?_)
      · replace h := h.1 q
        refine zx_lload_n C dX10_plainOf_36 0 rfl ?_
        refine zx_ldc2 C dX10_plainOf_37 co_X10_177 ?_
        refine zx_lcmp C dX10_plainOf_40 ?_
        refine zx_if_ne C 48 dX10_plainOf_41 (by decide) (fun q => ?_) (fun q => ?_)
        · replace h := h.1 q
          refine zx_lload_n C dX10_plainOf_48 0 rfl ?_
          refine zx_ldc2 C dX10_plainOf_49 co_X10_179 ?_
          refine zx_lcmp C dX10_plainOf_52 ?_
          refine zx_if_ne C 61 dX10_plainOf_53 (by decide) (fun q => ?_) (fun q => ?_)
          · replace h := h.1 q
            refine zx_iconst (v := (-1 : Int32)) C dX10_plainOf_61 (by decide) ?_
            exact zx_iret C hr dX10_plainOf_62 h
          · replace h := h.2 q
            refine zx_bipush (v := (6 : Int32)) C dX10_plainOf_56 (by decide) ?_
            refine zx_goto C 62 dX10_plainOf_58 (by decide) ?_
            exact zx_iret C hr dX10_plainOf_62 h
        · replace h := h.2 q
          refine zx_iconst (v := (5 : Int32)) C dX10_plainOf_44 (by decide) ?_
          refine zx_goto C 62 dX10_plainOf_45 (by decide) ?_
          exact zx_iret C hr dX10_plainOf_62 h
      · replace h := h.2 q
        refine zx_iconst (v := (4 : Int32)) C dX10_plainOf_32 (by decide) ?_
        refine zx_goto C 62 dX10_plainOf_33 (by decide) ?_
        exact zx_iret C hr dX10_plainOf_62 h
    · replace h := h.2 q
      refine zx_iconst (v := (3 : Int32)) C dX10_plainOf_20 (by decide) ?_
      refine zx_goto C 62 dX10_plainOf_21 (by decide) ?_
      exact zx_iret C hr dX10_plainOf_62 h
  · replace h := h.2 q
    refine zx_iconst (v := (2 : Int32)) C dX10_plainOf_8 (by decide) ?_
    refine zx_goto C 62 dX10_plainOf_9 (by decide) ?_
    exact zx_iret C hr dX10_plainOf_62 h
theorem lk_X10_181 : zLS RX10 181 yX10_plainOf cX10_plainOf 2 (some .int) 1 := zLS_of ml_X10_181 st_X10_plainOf ini_X10 cd_X10_plainOf (by decide +kernel)
theorem lk_X10_203 : zLV RX10 203 RX10 yX10_ofPost cX10_ofPost 2 (some .boolean) 1 := zLV_of ml_X10_203 im_X10_ofPost se_X10_ofPost ini_X10 cd_X10_ofPost (by decide +kernel)
theorem lk_X10_200 : zLV RX10 200 RX10 yX10_riderLine cX10_riderLine 1 (some .boolean) 0 := zLV_of ml_X10_200 im_X10_riderLine se_X10_riderLine ini_X10 cd_X10_riderLine (by decide +kernel)
theorem lk_X10_197 : zLV RX10 197 RX10 yX10_postLine cX10_postLine 1 (some .boolean) 0 := zLV_of ml_X10_197 im_X10_postLine se_X10_postLine ini_X10 cd_X10_postLine (by decide +kernel)
theorem lk_X10_193 : zLV RX10 193 RX10 yX10_full cX10_full 4 none 3 := zLV_of ml_X10_193 im_X10_full se_X10_full ini_X10 cd_X10_full (by decide +kernel)
def w_X10_lineLine (a1 : Int64) (a2 : Int32) (σ : zSto) (P : Int32 → zSto → Prop) : Prop := (w_X10_plainOf a1 σ (fun (r2 : Int32) (σ1 : zSto) => ((¬ r2 = (-1 : Int32) → ((¬ (lg_cmp a1 (1886352244 : Int64)) = 0 → ((¬ (lg_cmp a1 (491394458994 : Int64)) = 0 → (w_X10_token  σ1 (fun (σ3 : zSto) => ((¬ r2 = (-1 : Int32) → ((¬ r2 = (2 : Int32) → ((¬ r2 = (4 : Int32) → ((¬ r2 = (6 : Int32) → (w_X10_take (0 : Int32) (0 : Int32) (9 : Int32) σ3 (fun (r5 : Int32) (σ4 : zSto) => (r5 = 0 ∨ r5 = 1) → ((¬ r5 = 0 → (vp_in r2 123 ∧ (∀ σ7 : zSto, σ7 = zI σ4 232 (r2).toNatClampNeg (σ4.1 233 0) → P (1 : Int32) σ7))) ∧ (r5 = 0 → P (0 : Int32) σ4))))) ∧ (r2 = (6 : Int32) → (w_X10_take (0 : Int32) (0 : Int32) (999 : Int32) σ3 (fun (r9 : Int32) (σ8 : zSto) => (r9 = 0 ∨ r9 = 1) → ((¬ r9 = 0 → (vp_in r2 123 ∧ (∀ σ11 : zSto, σ11 = zI σ8 232 (r2).toNatClampNeg (σ8.1 233 0) → P (1 : Int32) σ11))) ∧ (r9 = 0 → P (0 : Int32) σ8))))))) ∧ (r2 = (4 : Int32) → (w_X10_take (0 : Int32) (0 : Int32) (60 : Int32) σ3 (fun (r13 : Int32) (σ12 : zSto) => (r13 = 0 ∨ r13 = 1) → ((¬ r13 = 0 → (vp_in r2 123 ∧ (∀ σ15 : zSto, σ15 = zI σ12 232 (r2).toNatClampNeg (σ12.1 233 0) → P (1 : Int32) σ15))) ∧ (r13 = 0 → P (0 : Int32) σ12))))))) ∧ (r2 = (2 : Int32) → ((¬ r2 = (4 : Int32) → ((¬ r2 = (6 : Int32) → (w_X10_take (0 : Int32) (1 : Int32) (9 : Int32) σ3 (fun (r17 : Int32) (σ16 : zSto) => (r17 = 0 ∨ r17 = 1) → ((¬ r17 = 0 → (vp_in r2 123 ∧ (∀ σ19 : zSto, σ19 = zI σ16 232 (r2).toNatClampNeg (σ16.1 233 0) → P (1 : Int32) σ19))) ∧ (r17 = 0 → P (0 : Int32) σ16))))) ∧ (r2 = (6 : Int32) → (w_X10_take (0 : Int32) (1 : Int32) (999 : Int32) σ3 (fun (r21 : Int32) (σ20 : zSto) => (r21 = 0 ∨ r21 = 1) → ((¬ r21 = 0 → (vp_in r2 123 ∧ (∀ σ23 : zSto, σ23 = zI σ20 232 (r2).toNatClampNeg (σ20.1 233 0) → P (1 : Int32) σ23))) ∧ (r21 = 0 → P (0 : Int32) σ20))))))) ∧ (r2 = (4 : Int32) → (w_X10_take (0 : Int32) (1 : Int32) (60 : Int32) σ3 (fun (r25 : Int32) (σ24 : zSto) => (r25 = 0 ∨ r25 = 1) → ((¬ r25 = 0 → (vp_in r2 123 ∧ (∀ σ27 : zSto, σ27 = zI σ24 232 (r2).toNatClampNeg (σ24.1 233 0) → P (1 : Int32) σ27))) ∧ (r25 = 0 → P (0 : Int32) σ24))))))))) ∧ (r2 = (-1 : Int32) → ((¬ (lg_cmp a1 (1886352244 : Int64)) = 0 → ((¬ (lg_cmp a1 (491394458994 : Int64)) = 0 → ((¬ (lg_cmp a1 (1868850291 : Int64)) = 0 → (w_X10_ofPost (0 : Int32) σ3 (fun (r29 : Int32) (σ28 : zSto) => (r29 = 0 ∨ r29 = 1) → ((r29 = 0 ∨ r29 = 1) ∧ P r29 σ28)))) ∧ ((lg_cmp a1 (1868850291 : Int64)) = 0 → (w_X10_ofPost (1 : Int32) σ3 (fun (r31 : Int32) (σ30 : zSto) => (r31 = 0 ∨ r31 = 1) → ((r31 = 0 ∨ r31 = 1) ∧ P r31 σ30)))))) ∧ ((lg_cmp a1 (491394458994 : Int64)) = 0 → (w_X10_riderLine  σ3 (fun (r33 : Int32) (σ32 : zSto) => (r33 = 0 ∨ r33 = 1) → ((r33 = 0 ∨ r33 = 1) ∧ P r33 σ32)))))) ∧ ((lg_cmp a1 (1886352244 : Int64)) = 0 → (w_X10_postLine  σ3 (fun (r35 : Int32) (σ34 : zSto) => (r35 = 0 ∨ r35 = 1) → ((r35 = 0 ∨ r35 = 1) ∧ P r35 σ34)))))))))) ∧ ((lg_cmp a1 (491394458994 : Int64)) = 0 → (w_X10_full (1 : Int32) (6 : Int32) a2 σ1 (fun (σ36 : zSto) => (w_X10_token  σ36 (fun (σ37 : zSto) => ((¬ r2 = (-1 : Int32) → ((¬ r2 = (2 : Int32) → ((¬ r2 = (4 : Int32) → ((¬ r2 = (6 : Int32) → (w_X10_take (0 : Int32) (0 : Int32) (9 : Int32) σ37 (fun (r39 : Int32) (σ38 : zSto) => (r39 = 0 ∨ r39 = 1) → ((¬ r39 = 0 → (vp_in r2 123 ∧ (∀ σ41 : zSto, σ41 = zI σ38 232 (r2).toNatClampNeg (σ38.1 233 0) → P (1 : Int32) σ41))) ∧ (r39 = 0 → P (0 : Int32) σ38))))) ∧ (r2 = (6 : Int32) → (w_X10_take (0 : Int32) (0 : Int32) (999 : Int32) σ37 (fun (r43 : Int32) (σ42 : zSto) => (r43 = 0 ∨ r43 = 1) → ((¬ r43 = 0 → (vp_in r2 123 ∧ (∀ σ45 : zSto, σ45 = zI σ42 232 (r2).toNatClampNeg (σ42.1 233 0) → P (1 : Int32) σ45))) ∧ (r43 = 0 → P (0 : Int32) σ42))))))) ∧ (r2 = (4 : Int32) → (w_X10_take (0 : Int32) (0 : Int32) (60 : Int32) σ37 (fun (r47 : Int32) (σ46 : zSto) => (r47 = 0 ∨ r47 = 1) → ((¬ r47 = 0 → (vp_in r2 123 ∧ (∀ σ49 : zSto, σ49 = zI σ46 232 (r2).toNatClampNeg (σ46.1 233 0) → P (1 : Int32) σ49))) ∧ (r47 = 0 → P (0 : Int32) σ46))))))) ∧ (r2 = (2 : Int32) → ((¬ r2 = (4 : Int32) → ((¬ r2 = (6 : Int32) → (w_X10_take (0 : Int32) (1 : Int32) (9 : Int32) σ37 (fun (r51 : Int32) (σ50 : zSto) => (r51 = 0 ∨ r51 = 1) → ((¬ r51 = 0 → (vp_in r2 123 ∧ (∀ σ53 : zSto, σ53 = zI σ50 232 (r2).toNatClampNeg (σ50.1 233 0) → P (1 : Int32) σ53))) ∧ (r51 = 0 → P (0 : Int32) σ50))))) ∧ (r2 = (6 : Int32) → (w_X10_take (0 : Int32) (1 : Int32) (999 : Int32) σ37 (fun (r55 : Int32) (σ54 : zSto) => (r55 = 0 ∨ r55 = 1) → ((¬ r55 = 0 → (vp_in r2 123 ∧ (∀ σ57 : zSto, σ57 = zI σ54 232 (r2).toNatClampNeg (σ54.1 233 0) → P (1 : Int32) σ57))) ∧ (r55 = 0 → P (0 : Int32) σ54))))))) ∧ (r2 = (4 : Int32) → (w_X10_take (0 : Int32) (1 : Int32) (60 : Int32) σ37 (fun (r59 : Int32) (σ58 : zSto) => (r59 = 0 ∨ r59 = 1) → ((¬ r59 = 0 → (vp_in r2 123 ∧ (∀ σ61 : zSto, σ61 = zI σ58 232 (r2).toNatClampNeg (σ58.1 233 0) → P (1 : Int32) σ61))) ∧ (r59 = 0 → P (0 : Int32) σ58))))))))) ∧ (r2 = (-1 : Int32) → ((¬ (lg_cmp a1 (1886352244 : Int64)) = 0 → ((¬ (lg_cmp a1 (491394458994 : Int64)) = 0 → ((¬ (lg_cmp a1 (1868850291 : Int64)) = 0 → (w_X10_ofPost (0 : Int32) σ37 (fun (r63 : Int32) (σ62 : zSto) => (r63 = 0 ∨ r63 = 1) → ((r63 = 0 ∨ r63 = 1) ∧ P r63 σ62)))) ∧ ((lg_cmp a1 (1868850291 : Int64)) = 0 → (w_X10_ofPost (1 : Int32) σ37 (fun (r65 : Int32) (σ64 : zSto) => (r65 = 0 ∨ r65 = 1) → ((r65 = 0 ∨ r65 = 1) ∧ P r65 σ64)))))) ∧ ((lg_cmp a1 (491394458994 : Int64)) = 0 → (w_X10_riderLine  σ37 (fun (r67 : Int32) (σ66 : zSto) => (r67 = 0 ∨ r67 = 1) → ((r67 = 0 ∨ r67 = 1) ∧ P r67 σ66)))))) ∧ ((lg_cmp a1 (1886352244 : Int64)) = 0 → (w_X10_postLine  σ37 (fun (r69 : Int32) (σ68 : zSto) => (r69 = 0 ∨ r69 = 1) → ((r69 = 0 ∨ r69 = 1) ∧ P r69 σ68)))))))))))))) ∧ ((lg_cmp a1 (1886352244 : Int64)) = 0 → (w_X10_full (0 : Int32) (16 : Int32) a2 σ1 (fun (σ70 : zSto) => (w_X10_token  σ70 (fun (σ71 : zSto) => ((¬ r2 = (-1 : Int32) → ((¬ r2 = (2 : Int32) → ((¬ r2 = (4 : Int32) → ((¬ r2 = (6 : Int32) → (w_X10_take (0 : Int32) (0 : Int32) (9 : Int32) σ71 (fun (r73 : Int32) (σ72 : zSto) => (r73 = 0 ∨ r73 = 1) → ((¬ r73 = 0 → (vp_in r2 123 ∧ (∀ σ75 : zSto, σ75 = zI σ72 232 (r2).toNatClampNeg (σ72.1 233 0) → P (1 : Int32) σ75))) ∧ (r73 = 0 → P (0 : Int32) σ72))))) ∧ (r2 = (6 : Int32) → (w_X10_take (0 : Int32) (0 : Int32) (999 : Int32) σ71 (fun (r77 : Int32) (σ76 : zSto) => (r77 = 0 ∨ r77 = 1) → ((¬ r77 = 0 → (vp_in r2 123 ∧ (∀ σ79 : zSto, σ79 = zI σ76 232 (r2).toNatClampNeg (σ76.1 233 0) → P (1 : Int32) σ79))) ∧ (r77 = 0 → P (0 : Int32) σ76))))))) ∧ (r2 = (4 : Int32) → (w_X10_take (0 : Int32) (0 : Int32) (60 : Int32) σ71 (fun (r81 : Int32) (σ80 : zSto) => (r81 = 0 ∨ r81 = 1) → ((¬ r81 = 0 → (vp_in r2 123 ∧ (∀ σ83 : zSto, σ83 = zI σ80 232 (r2).toNatClampNeg (σ80.1 233 0) → P (1 : Int32) σ83))) ∧ (r81 = 0 → P (0 : Int32) σ80))))))) ∧ (r2 = (2 : Int32) → ((¬ r2 = (4 : Int32) → ((¬ r2 = (6 : Int32) → (w_X10_take (0 : Int32) (1 : Int32) (9 : Int32) σ71 (fun (r85 : Int32) (σ84 : zSto) => (r85 = 0 ∨ r85 = 1) → ((¬ r85 = 0 → (vp_in r2 123 ∧ (∀ σ87 : zSto, σ87 = zI σ84 232 (r2).toNatClampNeg (σ84.1 233 0) → P (1 : Int32) σ87))) ∧ (r85 = 0 → P (0 : Int32) σ84))))) ∧ (r2 = (6 : Int32) → (w_X10_take (0 : Int32) (1 : Int32) (999 : Int32) σ71 (fun (r89 : Int32) (σ88 : zSto) => (r89 = 0 ∨ r89 = 1) → ((¬ r89 = 0 → (vp_in r2 123 ∧ (∀ σ91 : zSto, σ91 = zI σ88 232 (r2).toNatClampNeg (σ88.1 233 0) → P (1 : Int32) σ91))) ∧ (r89 = 0 → P (0 : Int32) σ88))))))) ∧ (r2 = (4 : Int32) → (w_X10_take (0 : Int32) (1 : Int32) (60 : Int32) σ71 (fun (r93 : Int32) (σ92 : zSto) => (r93 = 0 ∨ r93 = 1) → ((¬ r93 = 0 → (vp_in r2 123 ∧ (∀ σ95 : zSto, σ95 = zI σ92 232 (r2).toNatClampNeg (σ92.1 233 0) → P (1 : Int32) σ95))) ∧ (r93 = 0 → P (0 : Int32) σ92))))))))) ∧ (r2 = (-1 : Int32) → ((¬ (lg_cmp a1 (1886352244 : Int64)) = 0 → ((¬ (lg_cmp a1 (491394458994 : Int64)) = 0 → ((¬ (lg_cmp a1 (1868850291 : Int64)) = 0 → (w_X10_ofPost (0 : Int32) σ71 (fun (r97 : Int32) (σ96 : zSto) => (r97 = 0 ∨ r97 = 1) → ((r97 = 0 ∨ r97 = 1) ∧ P r97 σ96)))) ∧ ((lg_cmp a1 (1868850291 : Int64)) = 0 → (w_X10_ofPost (1 : Int32) σ71 (fun (r99 : Int32) (σ98 : zSto) => (r99 = 0 ∨ r99 = 1) → ((r99 = 0 ∨ r99 = 1) ∧ P r99 σ98)))))) ∧ ((lg_cmp a1 (491394458994 : Int64)) = 0 → (w_X10_riderLine  σ71 (fun (r101 : Int32) (σ100 : zSto) => (r101 = 0 ∨ r101 = 1) → ((r101 = 0 ∨ r101 = 1) ∧ P r101 σ100)))))) ∧ ((lg_cmp a1 (1886352244 : Int64)) = 0 → (w_X10_postLine  σ71 (fun (r103 : Int32) (σ102 : zSto) => (r103 = 0 ∨ r103 = 1) → ((r103 = 0 ∨ r103 = 1) ∧ P r103 σ102)))))))))))))) ∧ (r2 = (-1 : Int32) → (((lg_cmp a1 (1886352244 : Int64)) = 0 → ((¬ (lg_cmp a1 (1886352244 : Int64)) = 0 → ((¬ (lg_cmp a1 (491394458994 : Int64)) = 0 → (w_X10_token  σ1 (fun (σ104 : zSto) => ((¬ r2 = (-1 : Int32) → ((¬ r2 = (2 : Int32) → ((¬ r2 = (4 : Int32) → ((¬ r2 = (6 : Int32) → (w_X10_take (0 : Int32) (0 : Int32) (9 : Int32) σ104 (fun (r106 : Int32) (σ105 : zSto) => (r106 = 0 ∨ r106 = 1) → ((¬ r106 = 0 → (vp_in r2 123 ∧ (∀ σ108 : zSto, σ108 = zI σ105 232 (r2).toNatClampNeg (σ105.1 233 0) → P (1 : Int32) σ108))) ∧ (r106 = 0 → P (0 : Int32) σ105))))) ∧ (r2 = (6 : Int32) → (w_X10_take (0 : Int32) (0 : Int32) (999 : Int32) σ104 (fun (r110 : Int32) (σ109 : zSto) => (r110 = 0 ∨ r110 = 1) → ((¬ r110 = 0 → (vp_in r2 123 ∧ (∀ σ112 : zSto, σ112 = zI σ109 232 (r2).toNatClampNeg (σ109.1 233 0) → P (1 : Int32) σ112))) ∧ (r110 = 0 → P (0 : Int32) σ109))))))) ∧ (r2 = (4 : Int32) → (w_X10_take (0 : Int32) (0 : Int32) (60 : Int32) σ104 (fun (r114 : Int32) (σ113 : zSto) => (r114 = 0 ∨ r114 = 1) → ((¬ r114 = 0 → (vp_in r2 123 ∧ (∀ σ116 : zSto, σ116 = zI σ113 232 (r2).toNatClampNeg (σ113.1 233 0) → P (1 : Int32) σ116))) ∧ (r114 = 0 → P (0 : Int32) σ113))))))) ∧ (r2 = (2 : Int32) → ((¬ r2 = (4 : Int32) → ((¬ r2 = (6 : Int32) → (w_X10_take (0 : Int32) (1 : Int32) (9 : Int32) σ104 (fun (r118 : Int32) (σ117 : zSto) => (r118 = 0 ∨ r118 = 1) → ((¬ r118 = 0 → (vp_in r2 123 ∧ (∀ σ120 : zSto, σ120 = zI σ117 232 (r2).toNatClampNeg (σ117.1 233 0) → P (1 : Int32) σ120))) ∧ (r118 = 0 → P (0 : Int32) σ117))))) ∧ (r2 = (6 : Int32) → (w_X10_take (0 : Int32) (1 : Int32) (999 : Int32) σ104 (fun (r122 : Int32) (σ121 : zSto) => (r122 = 0 ∨ r122 = 1) → ((¬ r122 = 0 → (vp_in r2 123 ∧ (∀ σ124 : zSto, σ124 = zI σ121 232 (r2).toNatClampNeg (σ121.1 233 0) → P (1 : Int32) σ124))) ∧ (r122 = 0 → P (0 : Int32) σ121))))))) ∧ (r2 = (4 : Int32) → (w_X10_take (0 : Int32) (1 : Int32) (60 : Int32) σ104 (fun (r126 : Int32) (σ125 : zSto) => (r126 = 0 ∨ r126 = 1) → ((¬ r126 = 0 → (vp_in r2 123 ∧ (∀ σ128 : zSto, σ128 = zI σ125 232 (r2).toNatClampNeg (σ125.1 233 0) → P (1 : Int32) σ128))) ∧ (r126 = 0 → P (0 : Int32) σ125))))))))) ∧ (r2 = (-1 : Int32) → ((¬ (lg_cmp a1 (1886352244 : Int64)) = 0 → ((¬ (lg_cmp a1 (491394458994 : Int64)) = 0 → ((¬ (lg_cmp a1 (1868850291 : Int64)) = 0 → (w_X10_ofPost (0 : Int32) σ104 (fun (r130 : Int32) (σ129 : zSto) => (r130 = 0 ∨ r130 = 1) → ((r130 = 0 ∨ r130 = 1) ∧ P r130 σ129)))) ∧ ((lg_cmp a1 (1868850291 : Int64)) = 0 → (w_X10_ofPost (1 : Int32) σ104 (fun (r132 : Int32) (σ131 : zSto) => (r132 = 0 ∨ r132 = 1) → ((r132 = 0 ∨ r132 = 1) ∧ P r132 σ131)))))) ∧ ((lg_cmp a1 (491394458994 : Int64)) = 0 → (w_X10_riderLine  σ104 (fun (r134 : Int32) (σ133 : zSto) => (r134 = 0 ∨ r134 = 1) → ((r134 = 0 ∨ r134 = 1) ∧ P r134 σ133)))))) ∧ ((lg_cmp a1 (1886352244 : Int64)) = 0 → (w_X10_postLine  σ104 (fun (r136 : Int32) (σ135 : zSto) => (r136 = 0 ∨ r136 = 1) → ((r136 = 0 ∨ r136 = 1) ∧ P r136 σ135)))))))))) ∧ ((lg_cmp a1 (491394458994 : Int64)) = 0 → (w_X10_full (1 : Int32) (6 : Int32) a2 σ1 (fun (σ137 : zSto) => (w_X10_token  σ137 (fun (σ138 : zSto) => ((¬ r2 = (-1 : Int32) → ((¬ r2 = (2 : Int32) → ((¬ r2 = (4 : Int32) → ((¬ r2 = (6 : Int32) → (w_X10_take (0 : Int32) (0 : Int32) (9 : Int32) σ138 (fun (r140 : Int32) (σ139 : zSto) => (r140 = 0 ∨ r140 = 1) → ((¬ r140 = 0 → (vp_in r2 123 ∧ (∀ σ142 : zSto, σ142 = zI σ139 232 (r2).toNatClampNeg (σ139.1 233 0) → P (1 : Int32) σ142))) ∧ (r140 = 0 → P (0 : Int32) σ139))))) ∧ (r2 = (6 : Int32) → (w_X10_take (0 : Int32) (0 : Int32) (999 : Int32) σ138 (fun (r144 : Int32) (σ143 : zSto) => (r144 = 0 ∨ r144 = 1) → ((¬ r144 = 0 → (vp_in r2 123 ∧ (∀ σ146 : zSto, σ146 = zI σ143 232 (r2).toNatClampNeg (σ143.1 233 0) → P (1 : Int32) σ146))) ∧ (r144 = 0 → P (0 : Int32) σ143))))))) ∧ (r2 = (4 : Int32) → (w_X10_take (0 : Int32) (0 : Int32) (60 : Int32) σ138 (fun (r148 : Int32) (σ147 : zSto) => (r148 = 0 ∨ r148 = 1) → ((¬ r148 = 0 → (vp_in r2 123 ∧ (∀ σ150 : zSto, σ150 = zI σ147 232 (r2).toNatClampNeg (σ147.1 233 0) → P (1 : Int32) σ150))) ∧ (r148 = 0 → P (0 : Int32) σ147))))))) ∧ (r2 = (2 : Int32) → ((¬ r2 = (4 : Int32) → ((¬ r2 = (6 : Int32) → (w_X10_take (0 : Int32) (1 : Int32) (9 : Int32) σ138 (fun (r152 : Int32) (σ151 : zSto) => (r152 = 0 ∨ r152 = 1) → ((¬ r152 = 0 → (vp_in r2 123 ∧ (∀ σ154 : zSto, σ154 = zI σ151 232 (r2).toNatClampNeg (σ151.1 233 0) → P (1 : Int32) σ154))) ∧ (r152 = 0 → P (0 : Int32) σ151))))) ∧ (r2 = (6 : Int32) → (w_X10_take (0 : Int32) (1 : Int32) (999 : Int32) σ138 (fun (r156 : Int32) (σ155 : zSto) => (r156 = 0 ∨ r156 = 1) → ((¬ r156 = 0 → (vp_in r2 123 ∧ (∀ σ158 : zSto, σ158 = zI σ155 232 (r2).toNatClampNeg (σ155.1 233 0) → P (1 : Int32) σ158))) ∧ (r156 = 0 → P (0 : Int32) σ155))))))) ∧ (r2 = (4 : Int32) → (w_X10_take (0 : Int32) (1 : Int32) (60 : Int32) σ138 (fun (r160 : Int32) (σ159 : zSto) => (r160 = 0 ∨ r160 = 1) → ((¬ r160 = 0 → (vp_in r2 123 ∧ (∀ σ162 : zSto, σ162 = zI σ159 232 (r2).toNatClampNeg (σ159.1 233 0) → P (1 : Int32) σ162))) ∧ (r160 = 0 → P (0 : Int32) σ159))))))))) ∧ (r2 = (-1 : Int32) → ((¬ (lg_cmp a1 (1886352244 : Int64)) = 0 → ((¬ (lg_cmp a1 (491394458994 : Int64)) = 0 → ((¬ (lg_cmp a1 (1868850291 : Int64)) = 0 → (w_X10_ofPost (0 : Int32) σ138 (fun (r164 : Int32) (σ163 : zSto) => (r164 = 0 ∨ r164 = 1) → ((r164 = 0 ∨ r164 = 1) ∧ P r164 σ163)))) ∧ ((lg_cmp a1 (1868850291 : Int64)) = 0 → (w_X10_ofPost (1 : Int32) σ138 (fun (r166 : Int32) (σ165 : zSto) => (r166 = 0 ∨ r166 = 1) → ((r166 = 0 ∨ r166 = 1) ∧ P r166 σ165)))))) ∧ ((lg_cmp a1 (491394458994 : Int64)) = 0 → (w_X10_riderLine  σ138 (fun (r168 : Int32) (σ167 : zSto) => (r168 = 0 ∨ r168 = 1) → ((r168 = 0 ∨ r168 = 1) ∧ P r168 σ167)))))) ∧ ((lg_cmp a1 (1886352244 : Int64)) = 0 → (w_X10_postLine  σ138 (fun (r170 : Int32) (σ169 : zSto) => (r170 = 0 ∨ r170 = 1) → ((r170 = 0 ∨ r170 = 1) ∧ P r170 σ169)))))))))))))) ∧ ((lg_cmp a1 (1886352244 : Int64)) = 0 → (w_X10_full (0 : Int32) (16 : Int32) a2 σ1 (fun (σ171 : zSto) => (w_X10_token  σ171 (fun (σ172 : zSto) => ((¬ r2 = (-1 : Int32) → ((¬ r2 = (2 : Int32) → ((¬ r2 = (4 : Int32) → ((¬ r2 = (6 : Int32) → (w_X10_take (0 : Int32) (0 : Int32) (9 : Int32) σ172 (fun (r174 : Int32) (σ173 : zSto) => (r174 = 0 ∨ r174 = 1) → ((¬ r174 = 0 → (vp_in r2 123 ∧ (∀ σ176 : zSto, σ176 = zI σ173 232 (r2).toNatClampNeg (σ173.1 233 0) → P (1 : Int32) σ176))) ∧ (r174 = 0 → P (0 : Int32) σ173))))) ∧ (r2 = (6 : Int32) → (w_X10_take (0 : Int32) (0 : Int32) (999 : Int32) σ172 (fun (r178 : Int32) (σ177 : zSto) => (r178 = 0 ∨ r178 = 1) → ((¬ r178 = 0 → (vp_in r2 123 ∧ (∀ σ180 : zSto, σ180 = zI σ177 232 (r2).toNatClampNeg (σ177.1 233 0) → P (1 : Int32) σ180))) ∧ (r178 = 0 → P (0 : Int32) σ177))))))) ∧ (r2 = (4 : Int32) → (w_X10_take (0 : Int32) (0 : Int32) (60 : Int32) σ172 (fun (r182 : Int32) (σ181 : zSto) => (r182 = 0 ∨ r182 = 1) → ((¬ r182 = 0 → (vp_in r2 123 ∧ (∀ σ184 : zSto, σ184 = zI σ181 232 (r2).toNatClampNeg (σ181.1 233 0) → P (1 : Int32) σ184))) ∧ (r182 = 0 → P (0 : Int32) σ181))))))) ∧ (r2 = (2 : Int32) → ((¬ r2 = (4 : Int32) → ((¬ r2 = (6 : Int32) → (w_X10_take (0 : Int32) (1 : Int32) (9 : Int32) σ172 (fun (r186 : Int32) (σ185 : zSto) => (r186 = 0 ∨ r186 = 1) → ((¬ r186 = 0 → (vp_in r2 123 ∧ (∀ σ188 : zSto, σ188 = zI σ185 232 (r2).toNatClampNeg (σ185.1 233 0) → P (1 : Int32) σ188))) ∧ (r186 = 0 → P (0 : Int32) σ185))))) ∧ (r2 = (6 : Int32) → (w_X10_take (0 : Int32) (1 : Int32) (999 : Int32) σ172 (fun (r190 : Int32) (σ189 : zSto) => (r190 = 0 ∨ r190 = 1) → ((¬ r190 = 0 → (vp_in r2 123 ∧ (∀ σ192 : zSto, σ192 = zI σ189 232 (r2).toNatClampNeg (σ189.1 233 0) → P (1 : Int32) σ192))) ∧ (r190 = 0 → P (0 : Int32) σ189))))))) ∧ (r2 = (4 : Int32) → (w_X10_take (0 : Int32) (1 : Int32) (60 : Int32) σ172 (fun (r194 : Int32) (σ193 : zSto) => (r194 = 0 ∨ r194 = 1) → ((¬ r194 = 0 → (vp_in r2 123 ∧ (∀ σ196 : zSto, σ196 = zI σ193 232 (r2).toNatClampNeg (σ193.1 233 0) → P (1 : Int32) σ196))) ∧ (r194 = 0 → P (0 : Int32) σ193))))))))) ∧ (r2 = (-1 : Int32) → ((¬ (lg_cmp a1 (1886352244 : Int64)) = 0 → ((¬ (lg_cmp a1 (491394458994 : Int64)) = 0 → ((¬ (lg_cmp a1 (1868850291 : Int64)) = 0 → (w_X10_ofPost (0 : Int32) σ172 (fun (r198 : Int32) (σ197 : zSto) => (r198 = 0 ∨ r198 = 1) → ((r198 = 0 ∨ r198 = 1) ∧ P r198 σ197)))) ∧ ((lg_cmp a1 (1868850291 : Int64)) = 0 → (w_X10_ofPost (1 : Int32) σ172 (fun (r200 : Int32) (σ199 : zSto) => (r200 = 0 ∨ r200 = 1) → ((r200 = 0 ∨ r200 = 1) ∧ P r200 σ199)))))) ∧ ((lg_cmp a1 (491394458994 : Int64)) = 0 → (w_X10_riderLine  σ172 (fun (r202 : Int32) (σ201 : zSto) => (r202 = 0 ∨ r202 = 1) → ((r202 = 0 ∨ r202 = 1) ∧ P r202 σ201)))))) ∧ ((lg_cmp a1 (1886352244 : Int64)) = 0 → (w_X10_postLine  σ172 (fun (r204 : Int32) (σ203 : zSto) => (r204 = 0 ∨ r204 = 1) → ((r204 = 0 ∨ r204 = 1) ∧ P r204 σ203)))))))))))))) ∧ (¬ (lg_cmp a1 (1886352244 : Int64)) = 0 → (((lg_cmp a1 (491394458994 : Int64)) = 0 → ((¬ (lg_cmp a1 (1886352244 : Int64)) = 0 → ((¬ (lg_cmp a1 (491394458994 : Int64)) = 0 → (w_X10_token  σ1 (fun (σ205 : zSto) => ((¬ r2 = (-1 : Int32) → ((¬ r2 = (2 : Int32) → ((¬ r2 = (4 : Int32) → ((¬ r2 = (6 : Int32) → (w_X10_take (0 : Int32) (0 : Int32) (9 : Int32) σ205 (fun (r207 : Int32) (σ206 : zSto) => (r207 = 0 ∨ r207 = 1) → ((¬ r207 = 0 → (vp_in r2 123 ∧ (∀ σ209 : zSto, σ209 = zI σ206 232 (r2).toNatClampNeg (σ206.1 233 0) → P (1 : Int32) σ209))) ∧ (r207 = 0 → P (0 : Int32) σ206))))) ∧ (r2 = (6 : Int32) → (w_X10_take (0 : Int32) (0 : Int32) (999 : Int32) σ205 (fun (r211 : Int32) (σ210 : zSto) => (r211 = 0 ∨ r211 = 1) → ((¬ r211 = 0 → (vp_in r2 123 ∧ (∀ σ213 : zSto, σ213 = zI σ210 232 (r2).toNatClampNeg (σ210.1 233 0) → P (1 : Int32) σ213))) ∧ (r211 = 0 → P (0 : Int32) σ210))))))) ∧ (r2 = (4 : Int32) → (w_X10_take (0 : Int32) (0 : Int32) (60 : Int32) σ205 (fun (r215 : Int32) (σ214 : zSto) => (r215 = 0 ∨ r215 = 1) → ((¬ r215 = 0 → (vp_in r2 123 ∧ (∀ σ217 : zSto, σ217 = zI σ214 232 (r2).toNatClampNeg (σ214.1 233 0) → P (1 : Int32) σ217))) ∧ (r215 = 0 → P (0 : Int32) σ214))))))) ∧ (r2 = (2 : Int32) → ((¬ r2 = (4 : Int32) → ((¬ r2 = (6 : Int32) → (w_X10_take (0 : Int32) (1 : Int32) (9 : Int32) σ205 (fun (r219 : Int32) (σ218 : zSto) => (r219 = 0 ∨ r219 = 1) → ((¬ r219 = 0 → (vp_in r2 123 ∧ (∀ σ221 : zSto, σ221 = zI σ218 232 (r2).toNatClampNeg (σ218.1 233 0) → P (1 : Int32) σ221))) ∧ (r219 = 0 → P (0 : Int32) σ218))))) ∧ (r2 = (6 : Int32) → (w_X10_take (0 : Int32) (1 : Int32) (999 : Int32) σ205 (fun (r223 : Int32) (σ222 : zSto) => (r223 = 0 ∨ r223 = 1) → ((¬ r223 = 0 → (vp_in r2 123 ∧ (∀ σ225 : zSto, σ225 = zI σ222 232 (r2).toNatClampNeg (σ222.1 233 0) → P (1 : Int32) σ225))) ∧ (r223 = 0 → P (0 : Int32) σ222))))))) ∧ (r2 = (4 : Int32) → (w_X10_take (0 : Int32) (1 : Int32) (60 : Int32) σ205 (fun (r227 : Int32) (σ226 : zSto) => (r227 = 0 ∨ r227 = 1) → ((¬ r227 = 0 → (vp_in r2 123 ∧ (∀ σ229 : zSto, σ229 = zI σ226 232 (r2).toNatClampNeg (σ226.1 233 0) → P (1 : Int32) σ229))) ∧ (r227 = 0 → P (0 : Int32) σ226))))))))) ∧ (r2 = (-1 : Int32) → ((¬ (lg_cmp a1 (1886352244 : Int64)) = 0 → ((¬ (lg_cmp a1 (491394458994 : Int64)) = 0 → ((¬ (lg_cmp a1 (1868850291 : Int64)) = 0 → (w_X10_ofPost (0 : Int32) σ205 (fun (r231 : Int32) (σ230 : zSto) => (r231 = 0 ∨ r231 = 1) → ((r231 = 0 ∨ r231 = 1) ∧ P r231 σ230)))) ∧ ((lg_cmp a1 (1868850291 : Int64)) = 0 → (w_X10_ofPost (1 : Int32) σ205 (fun (r233 : Int32) (σ232 : zSto) => (r233 = 0 ∨ r233 = 1) → ((r233 = 0 ∨ r233 = 1) ∧ P r233 σ232)))))) ∧ ((lg_cmp a1 (491394458994 : Int64)) = 0 → (w_X10_riderLine  σ205 (fun (r235 : Int32) (σ234 : zSto) => (r235 = 0 ∨ r235 = 1) → ((r235 = 0 ∨ r235 = 1) ∧ P r235 σ234)))))) ∧ ((lg_cmp a1 (1886352244 : Int64)) = 0 → (w_X10_postLine  σ205 (fun (r237 : Int32) (σ236 : zSto) => (r237 = 0 ∨ r237 = 1) → ((r237 = 0 ∨ r237 = 1) ∧ P r237 σ236)))))))))) ∧ ((lg_cmp a1 (491394458994 : Int64)) = 0 → (w_X10_full (1 : Int32) (6 : Int32) a2 σ1 (fun (σ238 : zSto) => (w_X10_token  σ238 (fun (σ239 : zSto) => ((¬ r2 = (-1 : Int32) → ((¬ r2 = (2 : Int32) → ((¬ r2 = (4 : Int32) → ((¬ r2 = (6 : Int32) → (w_X10_take (0 : Int32) (0 : Int32) (9 : Int32) σ239 (fun (r241 : Int32) (σ240 : zSto) => (r241 = 0 ∨ r241 = 1) → ((¬ r241 = 0 → (vp_in r2 123 ∧ (∀ σ243 : zSto, σ243 = zI σ240 232 (r2).toNatClampNeg (σ240.1 233 0) → P (1 : Int32) σ243))) ∧ (r241 = 0 → P (0 : Int32) σ240))))) ∧ (r2 = (6 : Int32) → (w_X10_take (0 : Int32) (0 : Int32) (999 : Int32) σ239 (fun (r245 : Int32) (σ244 : zSto) => (r245 = 0 ∨ r245 = 1) → ((¬ r245 = 0 → (vp_in r2 123 ∧ (∀ σ247 : zSto, σ247 = zI σ244 232 (r2).toNatClampNeg (σ244.1 233 0) → P (1 : Int32) σ247))) ∧ (r245 = 0 → P (0 : Int32) σ244))))))) ∧ (r2 = (4 : Int32) → (w_X10_take (0 : Int32) (0 : Int32) (60 : Int32) σ239 (fun (r249 : Int32) (σ248 : zSto) => (r249 = 0 ∨ r249 = 1) → ((¬ r249 = 0 → (vp_in r2 123 ∧ (∀ σ251 : zSto, σ251 = zI σ248 232 (r2).toNatClampNeg (σ248.1 233 0) → P (1 : Int32) σ251))) ∧ (r249 = 0 → P (0 : Int32) σ248))))))) ∧ (r2 = (2 : Int32) → ((¬ r2 = (4 : Int32) → ((¬ r2 = (6 : Int32) → (w_X10_take (0 : Int32) (1 : Int32) (9 : Int32) σ239 (fun (r253 : Int32) (σ252 : zSto) => (r253 = 0 ∨ r253 = 1) → ((¬ r253 = 0 → (vp_in r2 123 ∧ (∀ σ255 : zSto, σ255 = zI σ252 232 (r2).toNatClampNeg (σ252.1 233 0) → P (1 : Int32) σ255))) ∧ (r253 = 0 → P (0 : Int32) σ252))))) ∧ (r2 = (6 : Int32) → (w_X10_take (0 : Int32) (1 : Int32) (999 : Int32) σ239 (fun (r257 : Int32) (σ256 : zSto) => (r257 = 0 ∨ r257 = 1) → ((¬ r257 = 0 → (vp_in r2 123 ∧ (∀ σ259 : zSto, σ259 = zI σ256 232 (r2).toNatClampNeg (σ256.1 233 0) → P (1 : Int32) σ259))) ∧ (r257 = 0 → P (0 : Int32) σ256))))))) ∧ (r2 = (4 : Int32) → (w_X10_take (0 : Int32) (1 : Int32) (60 : Int32) σ239 (fun (r261 : Int32) (σ260 : zSto) => (r261 = 0 ∨ r261 = 1) → ((¬ r261 = 0 → (vp_in r2 123 ∧ (∀ σ263 : zSto, σ263 = zI σ260 232 (r2).toNatClampNeg (σ260.1 233 0) → P (1 : Int32) σ263))) ∧ (r261 = 0 → P (0 : Int32) σ260))))))))) ∧ (r2 = (-1 : Int32) → ((¬ (lg_cmp a1 (1886352244 : Int64)) = 0 → ((¬ (lg_cmp a1 (491394458994 : Int64)) = 0 → ((¬ (lg_cmp a1 (1868850291 : Int64)) = 0 → (w_X10_ofPost (0 : Int32) σ239 (fun (r265 : Int32) (σ264 : zSto) => (r265 = 0 ∨ r265 = 1) → ((r265 = 0 ∨ r265 = 1) ∧ P r265 σ264)))) ∧ ((lg_cmp a1 (1868850291 : Int64)) = 0 → (w_X10_ofPost (1 : Int32) σ239 (fun (r267 : Int32) (σ266 : zSto) => (r267 = 0 ∨ r267 = 1) → ((r267 = 0 ∨ r267 = 1) ∧ P r267 σ266)))))) ∧ ((lg_cmp a1 (491394458994 : Int64)) = 0 → (w_X10_riderLine  σ239 (fun (r269 : Int32) (σ268 : zSto) => (r269 = 0 ∨ r269 = 1) → ((r269 = 0 ∨ r269 = 1) ∧ P r269 σ268)))))) ∧ ((lg_cmp a1 (1886352244 : Int64)) = 0 → (w_X10_postLine  σ239 (fun (r271 : Int32) (σ270 : zSto) => (r271 = 0 ∨ r271 = 1) → ((r271 = 0 ∨ r271 = 1) ∧ P r271 σ270)))))))))))))) ∧ ((lg_cmp a1 (1886352244 : Int64)) = 0 → (w_X10_full (0 : Int32) (16 : Int32) a2 σ1 (fun (σ272 : zSto) => (w_X10_token  σ272 (fun (σ273 : zSto) => ((¬ r2 = (-1 : Int32) → ((¬ r2 = (2 : Int32) → ((¬ r2 = (4 : Int32) → ((¬ r2 = (6 : Int32) → (w_X10_take (0 : Int32) (0 : Int32) (9 : Int32) σ273 (fun (r275 : Int32) (σ274 : zSto) => (r275 = 0 ∨ r275 = 1) → ((¬ r275 = 0 → (vp_in r2 123 ∧ (∀ σ277 : zSto, σ277 = zI σ274 232 (r2).toNatClampNeg (σ274.1 233 0) → P (1 : Int32) σ277))) ∧ (r275 = 0 → P (0 : Int32) σ274))))) ∧ (r2 = (6 : Int32) → (w_X10_take (0 : Int32) (0 : Int32) (999 : Int32) σ273 (fun (r279 : Int32) (σ278 : zSto) => (r279 = 0 ∨ r279 = 1) → ((¬ r279 = 0 → (vp_in r2 123 ∧ (∀ σ281 : zSto, σ281 = zI σ278 232 (r2).toNatClampNeg (σ278.1 233 0) → P (1 : Int32) σ281))) ∧ (r279 = 0 → P (0 : Int32) σ278))))))) ∧ (r2 = (4 : Int32) → (w_X10_take (0 : Int32) (0 : Int32) (60 : Int32) σ273 (fun (r283 : Int32) (σ282 : zSto) => (r283 = 0 ∨ r283 = 1) → ((¬ r283 = 0 → (vp_in r2 123 ∧ (∀ σ285 : zSto, σ285 = zI σ282 232 (r2).toNatClampNeg (σ282.1 233 0) → P (1 : Int32) σ285))) ∧ (r283 = 0 → P (0 : Int32) σ282))))))) ∧ (r2 = (2 : Int32) → ((¬ r2 = (4 : Int32) → ((¬ r2 = (6 : Int32) → (w_X10_take (0 : Int32) (1 : Int32) (9 : Int32) σ273 (fun (r287 : Int32) (σ286 : zSto) => (r287 = 0 ∨ r287 = 1) → ((¬ r287 = 0 → (vp_in r2 123 ∧ (∀ σ289 : zSto, σ289 = zI σ286 232 (r2).toNatClampNeg (σ286.1 233 0) → P (1 : Int32) σ289))) ∧ (r287 = 0 → P (0 : Int32) σ286))))) ∧ (r2 = (6 : Int32) → (w_X10_take (0 : Int32) (1 : Int32) (999 : Int32) σ273 (fun (r291 : Int32) (σ290 : zSto) => (r291 = 0 ∨ r291 = 1) → ((¬ r291 = 0 → (vp_in r2 123 ∧ (∀ σ293 : zSto, σ293 = zI σ290 232 (r2).toNatClampNeg (σ290.1 233 0) → P (1 : Int32) σ293))) ∧ (r291 = 0 → P (0 : Int32) σ290))))))) ∧ (r2 = (4 : Int32) → (w_X10_take (0 : Int32) (1 : Int32) (60 : Int32) σ273 (fun (r295 : Int32) (σ294 : zSto) => (r295 = 0 ∨ r295 = 1) → ((¬ r295 = 0 → (vp_in r2 123 ∧ (∀ σ297 : zSto, σ297 = zI σ294 232 (r2).toNatClampNeg (σ294.1 233 0) → P (1 : Int32) σ297))) ∧ (r295 = 0 → P (0 : Int32) σ294))))))))) ∧ (r2 = (-1 : Int32) → ((¬ (lg_cmp a1 (1886352244 : Int64)) = 0 → ((¬ (lg_cmp a1 (491394458994 : Int64)) = 0 → ((¬ (lg_cmp a1 (1868850291 : Int64)) = 0 → (w_X10_ofPost (0 : Int32) σ273 (fun (r299 : Int32) (σ298 : zSto) => (r299 = 0 ∨ r299 = 1) → ((r299 = 0 ∨ r299 = 1) ∧ P r299 σ298)))) ∧ ((lg_cmp a1 (1868850291 : Int64)) = 0 → (w_X10_ofPost (1 : Int32) σ273 (fun (r301 : Int32) (σ300 : zSto) => (r301 = 0 ∨ r301 = 1) → ((r301 = 0 ∨ r301 = 1) ∧ P r301 σ300)))))) ∧ ((lg_cmp a1 (491394458994 : Int64)) = 0 → (w_X10_riderLine  σ273 (fun (r303 : Int32) (σ302 : zSto) => (r303 = 0 ∨ r303 = 1) → ((r303 = 0 ∨ r303 = 1) ∧ P r303 σ302)))))) ∧ ((lg_cmp a1 (1886352244 : Int64)) = 0 → (w_X10_postLine  σ273 (fun (r305 : Int32) (σ304 : zSto) => (r305 = 0 ∨ r305 = 1) → ((r305 = 0 ∨ r305 = 1) ∧ P r305 σ304)))))))))))))) ∧ (¬ (lg_cmp a1 (491394458994 : Int64)) = 0 → (((lg_cmp a1 (32497584235442030 : Int64)) = 0 → ((¬ (lg_cmp a1 (1886352244 : Int64)) = 0 → ((¬ (lg_cmp a1 (491394458994 : Int64)) = 0 → (w_X10_token  σ1 (fun (σ306 : zSto) => ((¬ r2 = (-1 : Int32) → ((¬ r2 = (2 : Int32) → ((¬ r2 = (4 : Int32) → ((¬ r2 = (6 : Int32) → (w_X10_take (0 : Int32) (0 : Int32) (9 : Int32) σ306 (fun (r308 : Int32) (σ307 : zSto) => (r308 = 0 ∨ r308 = 1) → ((¬ r308 = 0 → (vp_in r2 123 ∧ (∀ σ310 : zSto, σ310 = zI σ307 232 (r2).toNatClampNeg (σ307.1 233 0) → P (1 : Int32) σ310))) ∧ (r308 = 0 → P (0 : Int32) σ307))))) ∧ (r2 = (6 : Int32) → (w_X10_take (0 : Int32) (0 : Int32) (999 : Int32) σ306 (fun (r312 : Int32) (σ311 : zSto) => (r312 = 0 ∨ r312 = 1) → ((¬ r312 = 0 → (vp_in r2 123 ∧ (∀ σ314 : zSto, σ314 = zI σ311 232 (r2).toNatClampNeg (σ311.1 233 0) → P (1 : Int32) σ314))) ∧ (r312 = 0 → P (0 : Int32) σ311))))))) ∧ (r2 = (4 : Int32) → (w_X10_take (0 : Int32) (0 : Int32) (60 : Int32) σ306 (fun (r316 : Int32) (σ315 : zSto) => (r316 = 0 ∨ r316 = 1) → ((¬ r316 = 0 → (vp_in r2 123 ∧ (∀ σ318 : zSto, σ318 = zI σ315 232 (r2).toNatClampNeg (σ315.1 233 0) → P (1 : Int32) σ318))) ∧ (r316 = 0 → P (0 : Int32) σ315))))))) ∧ (r2 = (2 : Int32) → ((¬ r2 = (4 : Int32) → ((¬ r2 = (6 : Int32) → (w_X10_take (0 : Int32) (1 : Int32) (9 : Int32) σ306 (fun (r320 : Int32) (σ319 : zSto) => (r320 = 0 ∨ r320 = 1) → ((¬ r320 = 0 → (vp_in r2 123 ∧ (∀ σ322 : zSto, σ322 = zI σ319 232 (r2).toNatClampNeg (σ319.1 233 0) → P (1 : Int32) σ322))) ∧ (r320 = 0 → P (0 : Int32) σ319))))) ∧ (r2 = (6 : Int32) → (w_X10_take (0 : Int32) (1 : Int32) (999 : Int32) σ306 (fun (r324 : Int32) (σ323 : zSto) => (r324 = 0 ∨ r324 = 1) → ((¬ r324 = 0 → (vp_in r2 123 ∧ (∀ σ326 : zSto, σ326 = zI σ323 232 (r2).toNatClampNeg (σ323.1 233 0) → P (1 : Int32) σ326))) ∧ (r324 = 0 → P (0 : Int32) σ323))))))) ∧ (r2 = (4 : Int32) → (w_X10_take (0 : Int32) (1 : Int32) (60 : Int32) σ306 (fun (r328 : Int32) (σ327 : zSto) => (r328 = 0 ∨ r328 = 1) → ((¬ r328 = 0 → (vp_in r2 123 ∧ (∀ σ330 : zSto, σ330 = zI σ327 232 (r2).toNatClampNeg (σ327.1 233 0) → P (1 : Int32) σ330))) ∧ (r328 = 0 → P (0 : Int32) σ327))))))))) ∧ (r2 = (-1 : Int32) → ((¬ (lg_cmp a1 (1886352244 : Int64)) = 0 → ((¬ (lg_cmp a1 (491394458994 : Int64)) = 0 → ((¬ (lg_cmp a1 (1868850291 : Int64)) = 0 → (w_X10_ofPost (0 : Int32) σ306 (fun (r332 : Int32) (σ331 : zSto) => (r332 = 0 ∨ r332 = 1) → ((r332 = 0 ∨ r332 = 1) ∧ P r332 σ331)))) ∧ ((lg_cmp a1 (1868850291 : Int64)) = 0 → (w_X10_ofPost (1 : Int32) σ306 (fun (r334 : Int32) (σ333 : zSto) => (r334 = 0 ∨ r334 = 1) → ((r334 = 0 ∨ r334 = 1) ∧ P r334 σ333)))))) ∧ ((lg_cmp a1 (491394458994 : Int64)) = 0 → (w_X10_riderLine  σ306 (fun (r336 : Int32) (σ335 : zSto) => (r336 = 0 ∨ r336 = 1) → ((r336 = 0 ∨ r336 = 1) ∧ P r336 σ335)))))) ∧ ((lg_cmp a1 (1886352244 : Int64)) = 0 → (w_X10_postLine  σ306 (fun (r338 : Int32) (σ337 : zSto) => (r338 = 0 ∨ r338 = 1) → ((r338 = 0 ∨ r338 = 1) ∧ P r338 σ337)))))))))) ∧ ((lg_cmp a1 (491394458994 : Int64)) = 0 → (w_X10_full (1 : Int32) (6 : Int32) a2 σ1 (fun (σ339 : zSto) => (w_X10_token  σ339 (fun (σ340 : zSto) => ((¬ r2 = (-1 : Int32) → ((¬ r2 = (2 : Int32) → ((¬ r2 = (4 : Int32) → ((¬ r2 = (6 : Int32) → (w_X10_take (0 : Int32) (0 : Int32) (9 : Int32) σ340 (fun (r342 : Int32) (σ341 : zSto) => (r342 = 0 ∨ r342 = 1) → ((¬ r342 = 0 → (vp_in r2 123 ∧ (∀ σ344 : zSto, σ344 = zI σ341 232 (r2).toNatClampNeg (σ341.1 233 0) → P (1 : Int32) σ344))) ∧ (r342 = 0 → P (0 : Int32) σ341))))) ∧ (r2 = (6 : Int32) → (w_X10_take (0 : Int32) (0 : Int32) (999 : Int32) σ340 (fun (r346 : Int32) (σ345 : zSto) => (r346 = 0 ∨ r346 = 1) → ((¬ r346 = 0 → (vp_in r2 123 ∧ (∀ σ348 : zSto, σ348 = zI σ345 232 (r2).toNatClampNeg (σ345.1 233 0) → P (1 : Int32) σ348))) ∧ (r346 = 0 → P (0 : Int32) σ345))))))) ∧ (r2 = (4 : Int32) → (w_X10_take (0 : Int32) (0 : Int32) (60 : Int32) σ340 (fun (r350 : Int32) (σ349 : zSto) => (r350 = 0 ∨ r350 = 1) → ((¬ r350 = 0 → (vp_in r2 123 ∧ (∀ σ352 : zSto, σ352 = zI σ349 232 (r2).toNatClampNeg (σ349.1 233 0) → P (1 : Int32) σ352))) ∧ (r350 = 0 → P (0 : Int32) σ349))))))) ∧ (r2 = (2 : Int32) → ((¬ r2 = (4 : Int32) → ((¬ r2 = (6 : Int32) → (w_X10_take (0 : Int32) (1 : Int32) (9 : Int32) σ340 (fun (r354 : Int32) (σ353 : zSto) => (r354 = 0 ∨ r354 = 1) → ((¬ r354 = 0 → (vp_in r2 123 ∧ (∀ σ356 : zSto, σ356 = zI σ353 232 (r2).toNatClampNeg (σ353.1 233 0) → P (1 : Int32) σ356))) ∧ (r354 = 0 → P (0 : Int32) σ353))))) ∧ (r2 = (6 : Int32) → (w_X10_take (0 : Int32) (1 : Int32) (999 : Int32) σ340 (fun (r358 : Int32) (σ357 : zSto) => (r358 = 0 ∨ r358 = 1) → ((¬ r358 = 0 → (vp_in r2 123 ∧ (∀ σ360 : zSto, σ360 = zI σ357 232 (r2).toNatClampNeg (σ357.1 233 0) → P (1 : Int32) σ360))) ∧ (r358 = 0 → P (0 : Int32) σ357))))))) ∧ (r2 = (4 : Int32) → (w_X10_take (0 : Int32) (1 : Int32) (60 : Int32) σ340 (fun (r362 : Int32) (σ361 : zSto) => (r362 = 0 ∨ r362 = 1) → ((¬ r362 = 0 → (vp_in r2 123 ∧ (∀ σ364 : zSto, σ364 = zI σ361 232 (r2).toNatClampNeg (σ361.1 233 0) → P (1 : Int32) σ364))) ∧ (r362 = 0 → P (0 : Int32) σ361))))))))) ∧ (r2 = (-1 : Int32) → ((¬ (lg_cmp a1 (1886352244 : Int64)) = 0 → ((¬ (lg_cmp a1 (491394458994 : Int64)) = 0 → ((¬ (lg_cmp a1 (1868850291 : Int64)) = 0 → (w_X10_ofPost (0 : Int32) σ340 (fun (r366 : Int32) (σ365 : zSto) => (r366 = 0 ∨ r366 = 1) → ((r366 = 0 ∨ r366 = 1) ∧ P r366 σ365)))) ∧ ((lg_cmp a1 (1868850291 : Int64)) = 0 → (w_X10_ofPost (1 : Int32) σ340 (fun (r368 : Int32) (σ367 : zSto) => (r368 = 0 ∨ r368 = 1) → ((r368 = 0 ∨ r368 = 1) ∧ P r368 σ367)))))) ∧ ((lg_cmp a1 (491394458994 : Int64)) = 0 → (w_X10_riderLine  σ340 (fun (r370 : Int32) (σ369 : zSto) => (r370 = 0 ∨ r370 = 1) → ((r370 = 0 ∨ r370 = 1) ∧ P r370 σ369)))))) ∧ ((lg_cmp a1 (1886352244 : Int64)) = 0 → (w_X10_postLine  σ340 (fun (r372 : Int32) (σ371 : zSto) => (r372 = 0 ∨ r372 = 1) → ((r372 = 0 ∨ r372 = 1) ∧ P r372 σ371)))))))))))))) ∧ ((lg_cmp a1 (1886352244 : Int64)) = 0 → (w_X10_full (0 : Int32) (16 : Int32) a2 σ1 (fun (σ373 : zSto) => (w_X10_token  σ373 (fun (σ374 : zSto) => ((¬ r2 = (-1 : Int32) → ((¬ r2 = (2 : Int32) → ((¬ r2 = (4 : Int32) → ((¬ r2 = (6 : Int32) → (w_X10_take (0 : Int32) (0 : Int32) (9 : Int32) σ374 (fun (r376 : Int32) (σ375 : zSto) => (r376 = 0 ∨ r376 = 1) → ((¬ r376 = 0 → (vp_in r2 123 ∧ (∀ σ378 : zSto, σ378 = zI σ375 232 (r2).toNatClampNeg (σ375.1 233 0) → P (1 : Int32) σ378))) ∧ (r376 = 0 → P (0 : Int32) σ375))))) ∧ (r2 = (6 : Int32) → (w_X10_take (0 : Int32) (0 : Int32) (999 : Int32) σ374 (fun (r380 : Int32) (σ379 : zSto) => (r380 = 0 ∨ r380 = 1) → ((¬ r380 = 0 → (vp_in r2 123 ∧ (∀ σ382 : zSto, σ382 = zI σ379 232 (r2).toNatClampNeg (σ379.1 233 0) → P (1 : Int32) σ382))) ∧ (r380 = 0 → P (0 : Int32) σ379))))))) ∧ (r2 = (4 : Int32) → (w_X10_take (0 : Int32) (0 : Int32) (60 : Int32) σ374 (fun (r384 : Int32) (σ383 : zSto) => (r384 = 0 ∨ r384 = 1) → ((¬ r384 = 0 → (vp_in r2 123 ∧ (∀ σ386 : zSto, σ386 = zI σ383 232 (r2).toNatClampNeg (σ383.1 233 0) → P (1 : Int32) σ386))) ∧ (r384 = 0 → P (0 : Int32) σ383))))))) ∧ (r2 = (2 : Int32) → ((¬ r2 = (4 : Int32) → ((¬ r2 = (6 : Int32) → (w_X10_take (0 : Int32) (1 : Int32) (9 : Int32) σ374 (fun (r388 : Int32) (σ387 : zSto) => (r388 = 0 ∨ r388 = 1) → ((¬ r388 = 0 → (vp_in r2 123 ∧ (∀ σ390 : zSto, σ390 = zI σ387 232 (r2).toNatClampNeg (σ387.1 233 0) → P (1 : Int32) σ390))) ∧ (r388 = 0 → P (0 : Int32) σ387))))) ∧ (r2 = (6 : Int32) → (w_X10_take (0 : Int32) (1 : Int32) (999 : Int32) σ374 (fun (r392 : Int32) (σ391 : zSto) => (r392 = 0 ∨ r392 = 1) → ((¬ r392 = 0 → (vp_in r2 123 ∧ (∀ σ394 : zSto, σ394 = zI σ391 232 (r2).toNatClampNeg (σ391.1 233 0) → P (1 : Int32) σ394))) ∧ (r392 = 0 → P (0 : Int32) σ391))))))) ∧ (r2 = (4 : Int32) → (w_X10_take (0 : Int32) (1 : Int32) (60 : Int32) σ374 (fun (r396 : Int32) (σ395 : zSto) => (r396 = 0 ∨ r396 = 1) → ((¬ r396 = 0 → (vp_in r2 123 ∧ (∀ σ398 : zSto, σ398 = zI σ395 232 (r2).toNatClampNeg (σ395.1 233 0) → P (1 : Int32) σ398))) ∧ (r396 = 0 → P (0 : Int32) σ395))))))))) ∧ (r2 = (-1 : Int32) → ((¬ (lg_cmp a1 (1886352244 : Int64)) = 0 → ((¬ (lg_cmp a1 (491394458994 : Int64)) = 0 → ((¬ (lg_cmp a1 (1868850291 : Int64)) = 0 → (w_X10_ofPost (0 : Int32) σ374 (fun (r400 : Int32) (σ399 : zSto) => (r400 = 0 ∨ r400 = 1) → ((r400 = 0 ∨ r400 = 1) ∧ P r400 σ399)))) ∧ ((lg_cmp a1 (1868850291 : Int64)) = 0 → (w_X10_ofPost (1 : Int32) σ374 (fun (r402 : Int32) (σ401 : zSto) => (r402 = 0 ∨ r402 = 1) → ((r402 = 0 ∨ r402 = 1) ∧ P r402 σ401)))))) ∧ ((lg_cmp a1 (491394458994 : Int64)) = 0 → (w_X10_riderLine  σ374 (fun (r404 : Int32) (σ403 : zSto) => (r404 = 0 ∨ r404 = 1) → ((r404 = 0 ∨ r404 = 1) ∧ P r404 σ403)))))) ∧ ((lg_cmp a1 (1886352244 : Int64)) = 0 → (w_X10_postLine  σ374 (fun (r406 : Int32) (σ405 : zSto) => (r406 = 0 ∨ r406 = 1) → ((r406 = 0 ∨ r406 = 1) ∧ P r406 σ405)))))))))))))) ∧ (¬ (lg_cmp a1 (32497584235442030 : Int64)) = 0 → (((lg_cmp a1 (1868850291 : Int64)) = 0 → ((¬ (lg_cmp a1 (1886352244 : Int64)) = 0 → ((¬ (lg_cmp a1 (491394458994 : Int64)) = 0 → (w_X10_token  σ1 (fun (σ407 : zSto) => ((¬ r2 = (-1 : Int32) → ((¬ r2 = (2 : Int32) → ((¬ r2 = (4 : Int32) → ((¬ r2 = (6 : Int32) → (w_X10_take (0 : Int32) (0 : Int32) (9 : Int32) σ407 (fun (r409 : Int32) (σ408 : zSto) => (r409 = 0 ∨ r409 = 1) → ((¬ r409 = 0 → (vp_in r2 123 ∧ (∀ σ411 : zSto, σ411 = zI σ408 232 (r2).toNatClampNeg (σ408.1 233 0) → P (1 : Int32) σ411))) ∧ (r409 = 0 → P (0 : Int32) σ408))))) ∧ (r2 = (6 : Int32) → (w_X10_take (0 : Int32) (0 : Int32) (999 : Int32) σ407 (fun (r413 : Int32) (σ412 : zSto) => (r413 = 0 ∨ r413 = 1) → ((¬ r413 = 0 → (vp_in r2 123 ∧ (∀ σ415 : zSto, σ415 = zI σ412 232 (r2).toNatClampNeg (σ412.1 233 0) → P (1 : Int32) σ415))) ∧ (r413 = 0 → P (0 : Int32) σ412))))))) ∧ (r2 = (4 : Int32) → (w_X10_take (0 : Int32) (0 : Int32) (60 : Int32) σ407 (fun (r417 : Int32) (σ416 : zSto) => (r417 = 0 ∨ r417 = 1) → ((¬ r417 = 0 → (vp_in r2 123 ∧ (∀ σ419 : zSto, σ419 = zI σ416 232 (r2).toNatClampNeg (σ416.1 233 0) → P (1 : Int32) σ419))) ∧ (r417 = 0 → P (0 : Int32) σ416))))))) ∧ (r2 = (2 : Int32) → ((¬ r2 = (4 : Int32) → ((¬ r2 = (6 : Int32) → (w_X10_take (0 : Int32) (1 : Int32) (9 : Int32) σ407 (fun (r421 : Int32) (σ420 : zSto) => (r421 = 0 ∨ r421 = 1) → ((¬ r421 = 0 → (vp_in r2 123 ∧ (∀ σ423 : zSto, σ423 = zI σ420 232 (r2).toNatClampNeg (σ420.1 233 0) → P (1 : Int32) σ423))) ∧ (r421 = 0 → P (0 : Int32) σ420))))) ∧ (r2 = (6 : Int32) → (w_X10_take (0 : Int32) (1 : Int32) (999 : Int32) σ407 (fun (r425 : Int32) (σ424 : zSto) => (r425 = 0 ∨ r425 = 1) → ((¬ r425 = 0 → (vp_in r2 123 ∧ (∀ σ427 : zSto, σ427 = zI σ424 232 (r2).toNatClampNeg (σ424.1 233 0) → P (1 : Int32) σ427))) ∧ (r425 = 0 → P (0 : Int32) σ424))))))) ∧ (r2 = (4 : Int32) → (w_X10_take (0 : Int32) (1 : Int32) (60 : Int32) σ407 (fun (r429 : Int32) (σ428 : zSto) => (r429 = 0 ∨ r429 = 1) → ((¬ r429 = 0 → (vp_in r2 123 ∧ (∀ σ431 : zSto, σ431 = zI σ428 232 (r2).toNatClampNeg (σ428.1 233 0) → P (1 : Int32) σ431))) ∧ (r429 = 0 → P (0 : Int32) σ428))))))))) ∧ (r2 = (-1 : Int32) → ((¬ (lg_cmp a1 (1886352244 : Int64)) = 0 → ((¬ (lg_cmp a1 (491394458994 : Int64)) = 0 → ((¬ (lg_cmp a1 (1868850291 : Int64)) = 0 → (w_X10_ofPost (0 : Int32) σ407 (fun (r433 : Int32) (σ432 : zSto) => (r433 = 0 ∨ r433 = 1) → ((r433 = 0 ∨ r433 = 1) ∧ P r433 σ432)))) ∧ ((lg_cmp a1 (1868850291 : Int64)) = 0 → (w_X10_ofPost (1 : Int32) σ407 (fun (r435 : Int32) (σ434 : zSto) => (r435 = 0 ∨ r435 = 1) → ((r435 = 0 ∨ r435 = 1) ∧ P r435 σ434)))))) ∧ ((lg_cmp a1 (491394458994 : Int64)) = 0 → (w_X10_riderLine  σ407 (fun (r437 : Int32) (σ436 : zSto) => (r437 = 0 ∨ r437 = 1) → ((r437 = 0 ∨ r437 = 1) ∧ P r437 σ436)))))) ∧ ((lg_cmp a1 (1886352244 : Int64)) = 0 → (w_X10_postLine  σ407 (fun (r439 : Int32) (σ438 : zSto) => (r439 = 0 ∨ r439 = 1) → ((r439 = 0 ∨ r439 = 1) ∧ P r439 σ438)))))))))) ∧ ((lg_cmp a1 (491394458994 : Int64)) = 0 → (w_X10_full (1 : Int32) (6 : Int32) a2 σ1 (fun (σ440 : zSto) => (w_X10_token  σ440 (fun (σ441 : zSto) => ((¬ r2 = (-1 : Int32) → ((¬ r2 = (2 : Int32) → ((¬ r2 = (4 : Int32) → ((¬ r2 = (6 : Int32) → (w_X10_take (0 : Int32) (0 : Int32) (9 : Int32) σ441 (fun (r443 : Int32) (σ442 : zSto) => (r443 = 0 ∨ r443 = 1) → ((¬ r443 = 0 → (vp_in r2 123 ∧ (∀ σ445 : zSto, σ445 = zI σ442 232 (r2).toNatClampNeg (σ442.1 233 0) → P (1 : Int32) σ445))) ∧ (r443 = 0 → P (0 : Int32) σ442))))) ∧ (r2 = (6 : Int32) → (w_X10_take (0 : Int32) (0 : Int32) (999 : Int32) σ441 (fun (r447 : Int32) (σ446 : zSto) => (r447 = 0 ∨ r447 = 1) → ((¬ r447 = 0 → (vp_in r2 123 ∧ (∀ σ449 : zSto, σ449 = zI σ446 232 (r2).toNatClampNeg (σ446.1 233 0) → P (1 : Int32) σ449))) ∧ (r447 = 0 → P (0 : Int32) σ446))))))) ∧ (r2 = (4 : Int32) → (w_X10_take (0 : Int32) (0 : Int32) (60 : Int32) σ441 (fun (r451 : Int32) (σ450 : zSto) => (r451 = 0 ∨ r451 = 1) → ((¬ r451 = 0 → (vp_in r2 123 ∧ (∀ σ453 : zSto, σ453 = zI σ450 232 (r2).toNatClampNeg (σ450.1 233 0) → P (1 : Int32) σ453))) ∧ (r451 = 0 → P (0 : Int32) σ450))))))) ∧ (r2 = (2 : Int32) → ((¬ r2 = (4 : Int32) → ((¬ r2 = (6 : Int32) → (w_X10_take (0 : Int32) (1 : Int32) (9 : Int32) σ441 (fun (r455 : Int32) (σ454 : zSto) => (r455 = 0 ∨ r455 = 1) → ((¬ r455 = 0 → (vp_in r2 123 ∧ (∀ σ457 : zSto, σ457 = zI σ454 232 (r2).toNatClampNeg (σ454.1 233 0) → P (1 : Int32) σ457))) ∧ (r455 = 0 → P (0 : Int32) σ454))))) ∧ (r2 = (6 : Int32) → (w_X10_take (0 : Int32) (1 : Int32) (999 : Int32) σ441 (fun (r459 : Int32) (σ458 : zSto) => (r459 = 0 ∨ r459 = 1) → ((¬ r459 = 0 → (vp_in r2 123 ∧ (∀ σ461 : zSto, σ461 = zI σ458 232 (r2).toNatClampNeg (σ458.1 233 0) → P (1 : Int32) σ461))) ∧ (r459 = 0 → P (0 : Int32) σ458))))))) ∧ (r2 = (4 : Int32) → (w_X10_take (0 : Int32) (1 : Int32) (60 : Int32) σ441 (fun (r463 : Int32) (σ462 : zSto) => (r463 = 0 ∨ r463 = 1) → ((¬ r463 = 0 → (vp_in r2 123 ∧ (∀ σ465 : zSto, σ465 = zI σ462 232 (r2).toNatClampNeg (σ462.1 233 0) → P (1 : Int32) σ465))) ∧ (r463 = 0 → P (0 : Int32) σ462))))))))) ∧ (r2 = (-1 : Int32) → ((¬ (lg_cmp a1 (1886352244 : Int64)) = 0 → ((¬ (lg_cmp a1 (491394458994 : Int64)) = 0 → ((¬ (lg_cmp a1 (1868850291 : Int64)) = 0 → (w_X10_ofPost (0 : Int32) σ441 (fun (r467 : Int32) (σ466 : zSto) => (r467 = 0 ∨ r467 = 1) → ((r467 = 0 ∨ r467 = 1) ∧ P r467 σ466)))) ∧ ((lg_cmp a1 (1868850291 : Int64)) = 0 → (w_X10_ofPost (1 : Int32) σ441 (fun (r469 : Int32) (σ468 : zSto) => (r469 = 0 ∨ r469 = 1) → ((r469 = 0 ∨ r469 = 1) ∧ P r469 σ468)))))) ∧ ((lg_cmp a1 (491394458994 : Int64)) = 0 → (w_X10_riderLine  σ441 (fun (r471 : Int32) (σ470 : zSto) => (r471 = 0 ∨ r471 = 1) → ((r471 = 0 ∨ r471 = 1) ∧ P r471 σ470)))))) ∧ ((lg_cmp a1 (1886352244 : Int64)) = 0 → (w_X10_postLine  σ441 (fun (r473 : Int32) (σ472 : zSto) => (r473 = 0 ∨ r473 = 1) → ((r473 = 0 ∨ r473 = 1) ∧ P r473 σ472)))))))))))))) ∧ ((lg_cmp a1 (1886352244 : Int64)) = 0 → (w_X10_full (0 : Int32) (16 : Int32) a2 σ1 (fun (σ474 : zSto) => (w_X10_token  σ474 (fun (σ475 : zSto) => ((¬ r2 = (-1 : Int32) → ((¬ r2 = (2 : Int32) → ((¬ r2 = (4 : Int32) → ((¬ r2 = (6 : Int32) → (w_X10_take (0 : Int32) (0 : Int32) (9 : Int32) σ475 (fun (r477 : Int32) (σ476 : zSto) => (r477 = 0 ∨ r477 = 1) → ((¬ r477 = 0 → (vp_in r2 123 ∧ (∀ σ479 : zSto, σ479 = zI σ476 232 (r2).toNatClampNeg (σ476.1 233 0) → P (1 : Int32) σ479))) ∧ (r477 = 0 → P (0 : Int32) σ476))))) ∧ (r2 = (6 : Int32) → (w_X10_take (0 : Int32) (0 : Int32) (999 : Int32) σ475 (fun (r481 : Int32) (σ480 : zSto) => (r481 = 0 ∨ r481 = 1) → ((¬ r481 = 0 → (vp_in r2 123 ∧ (∀ σ483 : zSto, σ483 = zI σ480 232 (r2).toNatClampNeg (σ480.1 233 0) → P (1 : Int32) σ483))) ∧ (r481 = 0 → P (0 : Int32) σ480))))))) ∧ (r2 = (4 : Int32) → (w_X10_take (0 : Int32) (0 : Int32) (60 : Int32) σ475 (fun (r485 : Int32) (σ484 : zSto) => (r485 = 0 ∨ r485 = 1) → ((¬ r485 = 0 → (vp_in r2 123 ∧ (∀ σ487 : zSto, σ487 = zI σ484 232 (r2).toNatClampNeg (σ484.1 233 0) → P (1 : Int32) σ487))) ∧ (r485 = 0 → P (0 : Int32) σ484))))))) ∧ (r2 = (2 : Int32) → ((¬ r2 = (4 : Int32) → ((¬ r2 = (6 : Int32) → (w_X10_take (0 : Int32) (1 : Int32) (9 : Int32) σ475 (fun (r489 : Int32) (σ488 : zSto) => (r489 = 0 ∨ r489 = 1) → ((¬ r489 = 0 → (vp_in r2 123 ∧ (∀ σ491 : zSto, σ491 = zI σ488 232 (r2).toNatClampNeg (σ488.1 233 0) → P (1 : Int32) σ491))) ∧ (r489 = 0 → P (0 : Int32) σ488))))) ∧ (r2 = (6 : Int32) → (w_X10_take (0 : Int32) (1 : Int32) (999 : Int32) σ475 (fun (r493 : Int32) (σ492 : zSto) => (r493 = 0 ∨ r493 = 1) → ((¬ r493 = 0 → (vp_in r2 123 ∧ (∀ σ495 : zSto, σ495 = zI σ492 232 (r2).toNatClampNeg (σ492.1 233 0) → P (1 : Int32) σ495))) ∧ (r493 = 0 → P (0 : Int32) σ492))))))) ∧ (r2 = (4 : Int32) → (w_X10_take (0 : Int32) (1 : Int32) (60 : Int32) σ475 (fun (r497 : Int32) (σ496 : zSto) => (r497 = 0 ∨ r497 = 1) → ((¬ r497 = 0 → (vp_in r2 123 ∧ (∀ σ499 : zSto, σ499 = zI σ496 232 (r2).toNatClampNeg (σ496.1 233 0) → P (1 : Int32) σ499))) ∧ (r497 = 0 → P (0 : Int32) σ496))))))))) ∧ (r2 = (-1 : Int32) → ((¬ (lg_cmp a1 (1886352244 : Int64)) = 0 → ((¬ (lg_cmp a1 (491394458994 : Int64)) = 0 → ((¬ (lg_cmp a1 (1868850291 : Int64)) = 0 → (w_X10_ofPost (0 : Int32) σ475 (fun (r501 : Int32) (σ500 : zSto) => (r501 = 0 ∨ r501 = 1) → ((r501 = 0 ∨ r501 = 1) ∧ P r501 σ500)))) ∧ ((lg_cmp a1 (1868850291 : Int64)) = 0 → (w_X10_ofPost (1 : Int32) σ475 (fun (r503 : Int32) (σ502 : zSto) => (r503 = 0 ∨ r503 = 1) → ((r503 = 0 ∨ r503 = 1) ∧ P r503 σ502)))))) ∧ ((lg_cmp a1 (491394458994 : Int64)) = 0 → (w_X10_riderLine  σ475 (fun (r505 : Int32) (σ504 : zSto) => (r505 = 0 ∨ r505 = 1) → ((r505 = 0 ∨ r505 = 1) ∧ P r505 σ504)))))) ∧ ((lg_cmp a1 (1886352244 : Int64)) = 0 → (w_X10_postLine  σ475 (fun (r507 : Int32) (σ506 : zSto) => (r507 = 0 ∨ r507 = 1) → ((r507 = 0 ∨ r507 = 1) ∧ P r507 σ506)))))))))))))) ∧ (¬ (lg_cmp a1 (1868850291 : Int64)) = 0 → (w_X10_fails  σ1 (fun (r509 : Int32) (σ508 : zSto) => (r509 = 0 ∨ r509 = 1) → ((r509 = 0 ∨ r509 = 1) ∧ P r509 σ508)))))))))))))))
set_option maxRecDepth 100000 in
set_option maxHeartbeats 4000000 in
theorem c_X10_lineLine (l : Launch) (D : va_G) (cy : Nat → ClassId) (g : Nat → Nat) (a1 : Int64) (a2 : Int32)  (σ : zSto) {P : Int32 → zSto → Prop} (h : w_X10_lineLine a1 a2 σ P) : zMb l yX10_lineLine cX10_lineLine 5 (some .boolean) (zrm 5 111) D cy g [.ref (g 223), .long a1, .int a2] σ P := by
  unfold w_X10_lineLine at h
  refine zm_b RX10 rfl (by decide +kernel) (Nat.le_of_ble_eq_true rfl) ?_
  intro p e s m below meth c C hr
  refine zx_lv (lv' := [(0, .ref (g 223)), (1, .long a1), (3, .int a2)]) [0, 1, 2] rfl ?_
  refine zx_lload_n C dX10_lineLine_0 1 rfl ?_
  refine zx_cSi C [.long a1] lk_X10_181 (c_X10_plainOf l D cy g a1  σ h) ⟨by decide, by decide⟩ ⟨rfl, rfl⟩ ⟨Nat.zero_le _, Nat.zero_le _⟩ rfl rfl (Nat.le_of_ble_eq_true rfl) dX10_lineLine_1 (fun r2 σ1 h => ?_)
  refine zx_istore (lv' := [(4, .int r2), (0, .ref (g 223)), (1, .long a1), (3, .int a2)]) C dX10_lineLine_4 (by decide) rfl ?_
  refine zx_iload C dX10_lineLine_6 0 rfl ?_
  refine zx_iconst (v := (-1 : Int32)) C dX10_lineLine_8 (by decide) ?_
  refine zx_icmp_ne C 49 dX10_lineLine_9 (by decide) (fun q => ?_) (fun q => ?_)
  · replace h := h.1 q
    refine zx_lload_n C dX10_lineLine_49 2 rfl ?_
    refine zx_ldc2 C dX10_lineLine_50 co_X10_185 ?_
    refine zx_lcmp C dX10_lineLine_53 ?_
    refine zx_if_ne C 68 dX10_lineLine_54 (by decide) (fun q => ?_) (fun q => ?_)
    · replace h := h.1 q
      refine zx_lload_n C dX10_lineLine_68 2 rfl ?_
      refine zx_ldc2 C dX10_lineLine_69 co_X10_187 ?_
      refine zx_lcmp C dX10_lineLine_72 ?_
      refine zx_if_ne C 84 dX10_lineLine_73 (by decide) (fun q => ?_) (fun q => ?_)
      · replace h := h.1 q
        refine zx_aload_n C dX10_lineLine_84 1 rfl ?_
        refine zx_cVv C [] lk_X10_151 (c_X10_token l D cy g   σ1 h) zs_223 rfl ⟨by decide, by decide⟩ ⟨rfl, rfl⟩ ⟨Nat.zero_le _, Nat.zero_le _⟩ rfl rfl (Nat.le_of_ble_eq_true rfl) dX10_lineLine_85 (fun σ3 h => ?_)
        refine zx_iload C dX10_lineLine_88 0 rfl ?_
        refine zx_iconst (v := (-1 : Int32)) C dX10_lineLine_90 (by decide) ?_
        refine zx_icmp_ne C 142 dX10_lineLine_91 (by decide) (fun q => ?_) (fun q => ?_)
        · replace h := h.1 q
          refine zx_aload_n C dX10_lineLine_142 1 rfl ?_
          refine zx_iconst (v := (0 : Int32)) C dX10_lineLine_143 (by decide) ?_
          refine zx_iload C dX10_lineLine_144 0 rfl ?_
          refine zx_iconst (v := (2 : Int32)) C dX10_lineLine_146 (by decide) ?_
          refine zx_icmp_ne C 154 dX10_lineLine_147 (by decide) (fun q => ?_) (fun q => ?_)
          · replace h := h.1 q
            refine zx_iconst (v := (0 : Int32)) C dX10_lineLine_154 (by decide) ?_
            refine zx_iload C dX10_lineLine_155 0 rfl ?_
            refine zx_iconst (v := (4 : Int32)) C dX10_lineLine_157 (by decide) ?_
            refine zx_icmp_ne C 166 dX10_lineLine_158 (by decide) (fun q => ?_) (fun q => ?_)
            · replace h := h.1 q
              refine zx_iload C dX10_lineLine_166 0 rfl ?_
              refine zx_bipush (v := (6 : Int32)) C dX10_lineLine_168 (by decide) ?_
              refine zx_icmp_ne C 179 dX10_lineLine_170 (by decide) (fun q => ?_) (fun q => ?_)
              · replace h := h.1 q
                refine zx_bipush (v := (9 : Int32)) C dX10_lineLine_179 (by decide) ?_
                refine zx_cVb C [.int (0 : Int32), .int (0 : Int32), .int (9 : Int32)] lk_X10_154 (c_X10_take l D cy g (0 : Int32) (0 : Int32) (9 : Int32)  σ3 h) zs_223 rfl ⟨by decide, by decide⟩ ⟨rfl, rfl⟩ ⟨Nat.zero_le _, Nat.zero_le _⟩ rfl rfl (Nat.le_of_ble_eq_true rfl) dX10_lineLine_181 (fun r5 σ4 hb h => ?_)
                replace h := h hb
                refine zx_if_ne C 189 dX10_lineLine_184 (by decide) (fun q => ?_) (fun q => ?_)
                · replace h := h.1 q
                  refine zx_aload_n C dX10_lineLine_189 1 rfl ?_
                  refine zx_getR C zs_223 fg_X10_35 rfl 232 rfl dX10_lineLine_190 ?_
                  refine zx_iload C dX10_lineLine_193 0 rfl ?_
                  refine zx_aload_n C dX10_lineLine_195 1 rfl ?_
                  refine zx_getR C zs_223 fg_X10_38 rfl 233 rfl dX10_lineLine_196 ?_
                  refine zx_iconst (v := (0 : Int32)) C dX10_lineLine_199 (by decide) ?_
                  refine zx_iald C 0 zs_233 (by unfold vp_in; decide) (by decide) dX10_lineLine_200 ?_
                  obtain ⟨bd6, h⟩ := h
                  refine zx_iast C (r2).toNatClampNeg zs_232 bd6 rfl dX10_lineLine_201 ?_
                  refine zx_sig (fun σ7 eσ7 => ?_)
                  replace h := h σ7 eσ7
                  refine zx_iconst (v := (1 : Int32)) C dX10_lineLine_202 (by decide) ?_
                  exact zx_zret C hr dX10_lineLine_203 (Or.inr rfl) h
                · replace h := h.2 q
                  refine zx_iconst (v := (0 : Int32)) C dX10_lineLine_187 (by decide) ?_
                  exact zx_zret C hr dX10_lineLine_188 (Or.inl rfl) h
              · replace h := h.2 q
                refine zx_sipush (v := (999 : Int32)) C dX10_lineLine_173 (by decide) ?_
                refine zx_goto C 181 dX10_lineLine_176 (by decide) ?_
                refine zx_cVb C [.int (0 : Int32), .int (0 : Int32), .int (999 : Int32)] lk_X10_154 (c_X10_take l D cy g (0 : Int32) (0 : Int32) (999 : Int32)  σ3 h) zs_223 rfl ⟨by decide, by decide⟩ ⟨rfl, rfl⟩ ⟨Nat.zero_le _, Nat.zero_le _⟩ rfl rfl (Nat.le_of_ble_eq_true rfl) dX10_lineLine_181 (fun r9 σ8 hb h => ?_)
                replace h := h hb
                refine zx_if_ne C 189 dX10_lineLine_184 (by decide) (fun q => ?_) (fun q => ?_)
                · replace h := h.1 q
                  refine zx_aload_n C dX10_lineLine_189 1 rfl ?_
                  refine zx_getR C zs_223 fg_X10_35 rfl 232 rfl dX10_lineLine_190 ?_
                  refine zx_iload C dX10_lineLine_193 0 rfl ?_
                  refine zx_aload_n C dX10_lineLine_195 1 rfl ?_
                  refine zx_getR C zs_223 fg_X10_38 rfl 233 rfl dX10_lineLine_196 ?_
                  refine zx_iconst (v := (0 : Int32)) C dX10_lineLine_199 (by decide) ?_
                  refine zx_iald C 0 zs_233 (by unfold vp_in; decide) (by decide) dX10_lineLine_200 ?_
                  obtain ⟨bd10, h⟩ := h
                  refine zx_iast C (r2).toNatClampNeg zs_232 bd10 rfl dX10_lineLine_201 ?_
                  refine zx_sig (fun σ11 eσ11 => ?_)
                  replace h := h σ11 eσ11
                  refine zx_iconst (v := (1 : Int32)) C dX10_lineLine_202 (by decide) ?_
                  exact zx_zret C hr dX10_lineLine_203 (Or.inr rfl) h
                · replace h := h.2 q
                  refine zx_iconst (v := (0 : Int32)) C dX10_lineLine_187 (by decide) ?_
                  exact zx_zret C hr dX10_lineLine_188 (Or.inl rfl) h
            · replace h := h.2 q
              refine zx_bipush (v := (60 : Int32)) C dX10_lineLine_161 (by decide) ?_
              refine zx_goto C 181 dX10_lineLine_163 (by decide) ?_
              refine zx_cVb C [.int (0 : Int32), .int (0 : Int32), .int (60 : Int32)] lk_X10_154 (c_X10_take l D cy g (0 : Int32) (0 : Int32) (60 : Int32)  σ3 h) zs_223 rfl ⟨by decide, by decide⟩ ⟨rfl, rfl⟩ ⟨Nat.zero_le _, Nat.zero_le _⟩ rfl rfl (Nat.le_of_ble_eq_true rfl) dX10_lineLine_181 (fun r13 σ12 hb h => ?_)
              replace h := h hb
              refine zx_if_ne C 189 dX10_lineLine_184 (by decide) (fun q => ?_) (fun q => ?_)
              · replace h := h.1 q
                refine zx_aload_n C dX10_lineLine_189 1 rfl ?_
                refine zx_getR C zs_223 fg_X10_35 rfl 232 rfl dX10_lineLine_190 ?_
                refine zx_iload C dX10_lineLine_193 0 rfl ?_
                refine zx_aload_n C dX10_lineLine_195 1 rfl ?_
                refine zx_getR C zs_223 fg_X10_38 rfl 233 rfl dX10_lineLine_196 ?_
                refine zx_iconst (v := (0 : Int32)) C dX10_lineLine_199 (by decide) ?_
                refine zx_iald C 0 zs_233 (by unfold vp_in; decide) (by decide) dX10_lineLine_200 ?_
                obtain ⟨bd14, h⟩ := h
                refine zx_iast C (r2).toNatClampNeg zs_232 bd14 rfl dX10_lineLine_201 ?_
                refine zx_sig (fun σ15 eσ15 => ?_)
                replace h := h σ15 eσ15
                refine zx_iconst (v := (1 : Int32)) C dX10_lineLine_202 (by decide) ?_
                exact zx_zret C hr dX10_lineLine_203 (Or.inr rfl) h
              · replace h := h.2 q
                refine zx_iconst (v := (0 : Int32)) C dX10_lineLine_187 (by decide) ?_
                exact zx_zret C hr dX10_lineLine_188 (Or.inl rfl) h
          · replace h := h.2 q
            refine zx_iconst (v := (1 : Int32)) C dX10_lineLine_150 (by decide) ?_
            refine zx_goto C 155 dX10_lineLine_151 (by decide) ?_
            refine zx_iload C dX10_lineLine_155 0 rfl ?_
            refine zx_iconst (v := (4 : Int32)) C dX10_lineLine_157 (by decide) ?_
            refine zx_icmp_ne C 166 dX10_lineLine_158 (by decide) (fun q => ?_) (fun q => ?_)
            · replace h := h.1 q
              refine zx_iload C dX10_lineLine_166 0 rfl ?_
              refine zx_bipush (v := (6 : Int32)) C dX10_lineLine_168 (by decide) ?_
              refine zx_icmp_ne C 179 dX10_lineLine_170 (by decide) (fun q => ?_) (fun q => ?_)
              · replace h := h.1 q
                refine zx_bipush (v := (9 : Int32)) C dX10_lineLine_179 (by decide) ?_
                refine zx_cVb C [.int (0 : Int32), .int (1 : Int32), .int (9 : Int32)] lk_X10_154 (c_X10_take l D cy g (0 : Int32) (1 : Int32) (9 : Int32)  σ3 h) zs_223 rfl ⟨by decide, by decide⟩ ⟨rfl, rfl⟩ ⟨Nat.zero_le _, Nat.zero_le _⟩ rfl rfl (Nat.le_of_ble_eq_true rfl) dX10_lineLine_181 (fun r17 σ16 hb h => ?_)
                replace h := h hb
                refine zx_if_ne C 189 dX10_lineLine_184 (by decide) (fun q => ?_) (fun q => ?_)
                · replace h := h.1 q
                  refine zx_aload_n C dX10_lineLine_189 1 rfl ?_
                  refine zx_getR C zs_223 fg_X10_35 rfl 232 rfl dX10_lineLine_190 ?_
                  refine zx_iload C dX10_lineLine_193 0 rfl ?_
                  refine zx_aload_n C dX10_lineLine_195 1 rfl ?_
                  refine zx_getR C zs_223 fg_X10_38 rfl 233 rfl dX10_lineLine_196 ?_
                  refine zx_iconst (v := (0 : Int32)) C dX10_lineLine_199 (by decide) ?_
                  refine zx_iald C 0 zs_233 (by unfold vp_in; decide) (by decide) dX10_lineLine_200 ?_
                  obtain ⟨bd18, h⟩ := h
                  refine zx_iast C (r2).toNatClampNeg zs_232 bd18 rfl dX10_lineLine_201 ?_
                  refine zx_sig (fun σ19 eσ19 => ?_)
                  replace h := h σ19 eσ19
                  refine zx_iconst (v := (1 : Int32)) C dX10_lineLine_202 (by decide) ?_
                  exact zx_zret C hr dX10_lineLine_203 (Or.inr rfl) h
                · replace h := h.2 q
                  refine zx_iconst (v := (0 : Int32)) C dX10_lineLine_187 (by decide) ?_
                  exact zx_zret C hr dX10_lineLine_188 (Or.inl rfl) h
              · replace h := h.2 q
                refine zx_sipush (v := (999 : Int32)) C dX10_lineLine_173 (by decide) ?_
                refine zx_goto C 181 dX10_lineLine_176 (by decide) ?_
                refine zx_cVb C [.int (0 : Int32), .int (1 : Int32), .int (999 : Int32)] lk_X10_154 (c_X10_take l D cy g (0 : Int32) (1 : Int32) (999 : Int32)  σ3 h) zs_223 rfl ⟨by decide, by decide⟩ ⟨rfl, rfl⟩ ⟨Nat.zero_le _, Nat.zero_le _⟩ rfl rfl (Nat.le_of_ble_eq_true rfl) dX10_lineLine_181 (fun r21 σ20 hb h => ?_)
                replace h := h hb
                refine zx_if_ne C 189 dX10_lineLine_184 (by decide) (fun q => ?_) (fun q => ?_)
                · replace h := h.1 q
                  refine zx_aload_n C dX10_lineLine_189 1 rfl ?_
                  refine zx_getR C zs_223 fg_X10_35 rfl 232 rfl dX10_lineLine_190 ?_
                  refine zx_iload C dX10_lineLine_193 0 rfl ?_
                  refine zx_aload_n C dX10_lineLine_195 1 rfl ?_
                  refine zx_getR C zs_223 fg_X10_38 rfl 233 rfl dX10_lineLine_196 ?_
                  refine zx_iconst (v := (0 : Int32)) C dX10_lineLine_199 (by decide) ?_
                  refine zx_iald C 0 zs_233 (by unfold vp_in; decide) (by decide) dX10_lineLine_200 ?_
                  obtain ⟨bd22, h⟩ := h
                  refine zx_iast C (r2).toNatClampNeg zs_232 bd22 rfl dX10_lineLine_201 ?_
                  refine zx_sig (fun σ23 eσ23 => ?_)
                  replace h := h σ23 eσ23
                  refine zx_iconst (v := (1 : Int32)) C dX10_lineLine_202 (by decide) ?_
                  exact zx_zret C hr dX10_lineLine_203 (Or.inr rfl) h
                · replace h := h.2 q
                  refine zx_iconst (v := (0 : Int32)) C dX10_lineLine_187 (by decide) ?_
                  exact zx_zret C hr dX10_lineLine_188 (Or.inl rfl) h
            · replace h := h.2 q
              refine zx_bipush (v := (60 : Int32)) C dX10_lineLine_161 (by decide) ?_
              refine zx_goto C 181 dX10_lineLine_163 (by decide) ?_
              refine zx_cVb C [.int (0 : Int32), .int (1 : Int32), .int (60 : Int32)] lk_X10_154 (c_X10_take l D cy g (0 : Int32) (1 : Int32) (60 : Int32)  σ3 h) zs_223 rfl ⟨by decide, by decide⟩ ⟨rfl, rfl⟩ ⟨Nat.zero_le _, Nat.zero_le _⟩ rfl rfl (Nat.le_of_ble_eq_true rfl) dX10_lineLine_181 (fun r25 σ24 hb h => ?_)
              replace h := h hb
              refine zx_if_ne C 189 dX10_lineLine_184 (by decide) (fun q => ?_) (fun q => ?_)
              · replace h := h.1 q
                refine zx_aload_n C dX10_lineLine_189 1 rfl ?_
                refine zx_getR C zs_223 fg_X10_35 rfl 232 rfl dX10_lineLine_190 ?_
                refine zx_iload C dX10_lineLine_193 0 rfl ?_
                refine zx_aload_n C dX10_lineLine_195 1 rfl ?_
                refine zx_getR C zs_223 fg_X10_38 rfl 233 rfl dX10_lineLine_196 ?_
                refine zx_iconst (v := (0 : Int32)) C dX10_lineLine_199 (by decide) ?_
                refine zx_iald C 0 zs_233 (by unfold vp_in; decide) (by decide) dX10_lineLine_200 ?_
                obtain ⟨bd26, h⟩ := h
                refine zx_iast C (r2).toNatClampNeg zs_232 bd26 rfl dX10_lineLine_201 ?_
                refine zx_sig (fun σ27 eσ27 => ?_)
                replace h := h σ27 eσ27
                refine zx_iconst (v := (1 : Int32)) C dX10_lineLine_202 (by decide) ?_
                exact zx_zret C hr dX10_lineLine_203 (Or.inr rfl) h
              · replace h := h.2 q
                refine zx_iconst (v := (0 : Int32)) C dX10_lineLine_187 (by decide) ?_
                exact zx_zret C hr dX10_lineLine_188 (Or.inl rfl) h
        · replace h := h.2 q
          refine zx_lload_n C dX10_lineLine_94 2 rfl ?_
          refine zx_ldc2 C dX10_lineLine_95 co_X10_185 ?_
          refine zx_lcmp C dX10_lineLine_98 ?_
          refine zx_if_ne C 109 dX10_lineLine_99 (by decide) (fun q => ?_) (fun q => ?_)
          · replace h := h.1 q
            refine zx_lload_n C dX10_lineLine_109 2 rfl ?_
            refine zx_ldc2 C dX10_lineLine_110 co_X10_187 ?_
            refine zx_lcmp C dX10_lineLine_113 ?_
            refine zx_if_ne C 124 dX10_lineLine_114 (by decide) (fun q => ?_) (fun q => ?_)
            · replace h := h.1 q
              refine zx_aload_n C dX10_lineLine_124 1 rfl ?_
              refine zx_lload_n C dX10_lineLine_125 2 rfl ?_
              refine zx_ldc2 C dX10_lineLine_126 co_X10_191 ?_
              refine zx_lcmp C dX10_lineLine_129 ?_
              refine zx_if_ne C 137 dX10_lineLine_130 (by decide) (fun q => ?_) (fun q => ?_)
              · replace h := h.1 q
                refine zx_iconst (v := (0 : Int32)) C dX10_lineLine_137 (by decide) ?_
                refine zx_cVb C [.int (0 : Int32)] lk_X10_203 (c_X10_ofPost l D cy g (0 : Int32)  σ3 h) zs_223 rfl ⟨by decide, by decide⟩ ⟨rfl, rfl⟩ ⟨Nat.zero_le _, Nat.zero_le _⟩ rfl rfl (Nat.le_of_ble_eq_true rfl) dX10_lineLine_138 (fun r29 σ28 hb h => ?_)
                replace h := h hb
                exact zx_zret C hr dX10_lineLine_141 h.1 h.2
              · replace h := h.2 q
                refine zx_iconst (v := (1 : Int32)) C dX10_lineLine_133 (by decide) ?_
                refine zx_goto C 138 dX10_lineLine_134 (by decide) ?_
                refine zx_cVb C [.int (1 : Int32)] lk_X10_203 (c_X10_ofPost l D cy g (1 : Int32)  σ3 h) zs_223 rfl ⟨by decide, by decide⟩ ⟨rfl, rfl⟩ ⟨Nat.zero_le _, Nat.zero_le _⟩ rfl rfl (Nat.le_of_ble_eq_true rfl) dX10_lineLine_138 (fun r31 σ30 hb h => ?_)
                replace h := h hb
                exact zx_zret C hr dX10_lineLine_141 h.1 h.2
            · replace h := h.2 q
              refine zx_aload_n C dX10_lineLine_117 1 rfl ?_
              refine zx_cVb C [] lk_X10_200 (c_X10_riderLine l D cy g   σ3 h) zs_223 rfl ⟨by decide, by decide⟩ ⟨rfl, rfl⟩ ⟨Nat.zero_le _, Nat.zero_le _⟩ rfl rfl (Nat.le_of_ble_eq_true rfl) dX10_lineLine_118 (fun r33 σ32 hb h => ?_)
              replace h := h hb
              refine zx_goto C 141 dX10_lineLine_121 (by decide) ?_
              exact zx_zret C hr dX10_lineLine_141 h.1 h.2
          · replace h := h.2 q
            refine zx_aload_n C dX10_lineLine_102 1 rfl ?_
            refine zx_cVb C [] lk_X10_197 (c_X10_postLine l D cy g   σ3 h) zs_223 rfl ⟨by decide, by decide⟩ ⟨rfl, rfl⟩ ⟨Nat.zero_le _, Nat.zero_le _⟩ rfl rfl (Nat.le_of_ble_eq_true rfl) dX10_lineLine_103 (fun r35 σ34 hb h => ?_)
            replace h := h hb
            refine zx_goto C 141 dX10_lineLine_106 (by decide) ?_
            exact zx_zret C hr dX10_lineLine_141 h.1 h.2
      · replace h := h.2 q
        refine zx_aload_n C dX10_lineLine_76 1 rfl ?_
        refine zx_iconst (v := (1 : Int32)) C dX10_lineLine_77 (by decide) ?_
        refine zx_bipush (v := (6 : Int32)) C dX10_lineLine_78 (by decide) ?_
        refine zx_iload_n C dX10_lineLine_80 3 rfl ?_
        refine zx_cVv C [.int (1 : Int32), .int (6 : Int32), .int a2] lk_X10_193 (c_X10_full l D cy g (1 : Int32) (6 : Int32) a2  σ1 h) zs_223 rfl ⟨by decide, by decide⟩ ⟨rfl, rfl⟩ ⟨Nat.zero_le _, Nat.zero_le _⟩ rfl rfl (Nat.le_of_ble_eq_true rfl) dX10_lineLine_81 (fun σ36 h => ?_)
        refine zx_aload_n C dX10_lineLine_84 1 rfl ?_
        refine zx_cVv C [] lk_X10_151 (c_X10_token l D cy g   σ36 h) zs_223 rfl ⟨by decide, by decide⟩ ⟨rfl, rfl⟩ ⟨Nat.zero_le _, Nat.zero_le _⟩ rfl rfl (Nat.le_of_ble_eq_true rfl) dX10_lineLine_85 (fun σ37 h => ?_)
        refine zx_iload C dX10_lineLine_88 0 rfl ?_
        refine zx_iconst (v := (-1 : Int32)) C dX10_lineLine_90 (by decide) ?_
        refine zx_icmp_ne C 142 dX10_lineLine_91 (by decide) (fun q => ?_) (fun q => ?_)
        · replace h := h.1 q
          refine zx_aload_n C dX10_lineLine_142 1 rfl ?_
          refine zx_iconst (v := (0 : Int32)) C dX10_lineLine_143 (by decide) ?_
          refine zx_iload C dX10_lineLine_144 0 rfl ?_
          refine zx_iconst (v := (2 : Int32)) C dX10_lineLine_146 (by decide) ?_
          refine zx_icmp_ne C 154 dX10_lineLine_147 (by decide) (fun q => ?_) (fun q => ?_)
          · replace h := h.1 q
            refine zx_iconst (v := (0 : Int32)) C dX10_lineLine_154 (by decide) ?_
            refine zx_iload C dX10_lineLine_155 0 rfl ?_
            refine zx_iconst (v := (4 : Int32)) C dX10_lineLine_157 (by decide) ?_
            refine zx_icmp_ne C 166 dX10_lineLine_158 (by decide) (fun q => ?_) (fun q => ?_)
            · replace h := h.1 q
              refine zx_iload C dX10_lineLine_166 0 rfl ?_
              refine zx_bipush (v := (6 : Int32)) C dX10_lineLine_168 (by decide) ?_
              refine zx_icmp_ne C 179 dX10_lineLine_170 (by decide) (fun q => ?_) (fun q => ?_)
              · replace h := h.1 q
                refine zx_bipush (v := (9 : Int32)) C dX10_lineLine_179 (by decide) ?_
                refine zx_cVb C [.int (0 : Int32), .int (0 : Int32), .int (9 : Int32)] lk_X10_154 (c_X10_take l D cy g (0 : Int32) (0 : Int32) (9 : Int32)  σ37 h) zs_223 rfl ⟨by decide, by decide⟩ ⟨rfl, rfl⟩ ⟨Nat.zero_le _, Nat.zero_le _⟩ rfl rfl (Nat.le_of_ble_eq_true rfl) dX10_lineLine_181 (fun r39 σ38 hb h => ?_)
                replace h := h hb
                refine zx_if_ne C 189 dX10_lineLine_184 (by decide) (fun q => ?_) (fun q => ?_)
                · replace h := h.1 q
                  refine zx_aload_n C dX10_lineLine_189 1 rfl ?_
                  refine zx_getR C zs_223 fg_X10_35 rfl 232 rfl dX10_lineLine_190 ?_
                  refine zx_iload C dX10_lineLine_193 0 rfl ?_
                  refine zx_aload_n C dX10_lineLine_195 1 rfl ?_
                  refine zx_getR C zs_223 fg_X10_38 rfl 233 rfl dX10_lineLine_196 ?_
                  refine zx_iconst (v := (0 : Int32)) C dX10_lineLine_199 (by decide) ?_
                  refine zx_iald C 0 zs_233 (by unfold vp_in; decide) (by decide) dX10_lineLine_200 ?_
                  obtain ⟨bd40, h⟩ := h
                  refine zx_iast C (r2).toNatClampNeg zs_232 bd40 rfl dX10_lineLine_201 ?_
                  refine zx_sig (fun σ41 eσ41 => ?_)
                  replace h := h σ41 eσ41
                  refine zx_iconst (v := (1 : Int32)) C dX10_lineLine_202 (by decide) ?_
                  exact zx_zret C hr dX10_lineLine_203 (Or.inr rfl) h
                · replace h := h.2 q
                  refine zx_iconst (v := (0 : Int32)) C dX10_lineLine_187 (by decide) ?_
                  exact zx_zret C hr dX10_lineLine_188 (Or.inl rfl) h
              · replace h := h.2 q
                refine zx_sipush (v := (999 : Int32)) C dX10_lineLine_173 (by decide) ?_
                refine zx_goto C 181 dX10_lineLine_176 (by decide) ?_
                refine zx_cVb C [.int (0 : Int32), .int (0 : Int32), .int (999 : Int32)] lk_X10_154 (c_X10_take l D cy g (0 : Int32) (0 : Int32) (999 : Int32)  σ37 h) zs_223 rfl ⟨by decide, by decide⟩ ⟨rfl, rfl⟩ ⟨Nat.zero_le _, Nat.zero_le _⟩ rfl rfl (Nat.le_of_ble_eq_true rfl) dX10_lineLine_181 (fun r43 σ42 hb h => ?_)
                replace h := h hb
                refine zx_if_ne C 189 dX10_lineLine_184 (by decide) (fun q => ?_) (fun q => ?_)
                · replace h := h.1 q
                  refine zx_aload_n C dX10_lineLine_189 1 rfl ?_
                  refine zx_getR C zs_223 fg_X10_35 rfl 232 rfl dX10_lineLine_190 ?_
                  refine zx_iload C dX10_lineLine_193 0 rfl ?_
                  refine zx_aload_n C dX10_lineLine_195 1 rfl ?_
                  refine zx_getR C zs_223 fg_X10_38 rfl 233 rfl dX10_lineLine_196 ?_
                  refine zx_iconst (v := (0 : Int32)) C dX10_lineLine_199 (by decide) ?_
                  refine zx_iald C 0 zs_233 (by unfold vp_in; decide) (by decide) dX10_lineLine_200 ?_
                  obtain ⟨bd44, h⟩ := h
                  refine zx_iast C (r2).toNatClampNeg zs_232 bd44 rfl dX10_lineLine_201 ?_
                  refine zx_sig (fun σ45 eσ45 => ?_)
                  replace h := h σ45 eσ45
                  refine zx_iconst (v := (1 : Int32)) C dX10_lineLine_202 (by decide) ?_
                  exact zx_zret C hr dX10_lineLine_203 (Or.inr rfl) h
                · replace h := h.2 q
                  refine zx_iconst (v := (0 : Int32)) C dX10_lineLine_187 (by decide) ?_
                  exact zx_zret C hr dX10_lineLine_188 (Or.inl rfl) h
            · replace h := h.2 q
              refine zx_bipush (v := (60 : Int32)) C dX10_lineLine_161 (by decide) ?_
              refine zx_goto C 181 dX10_lineLine_163 (by decide) ?_
              refine zx_cVb C [.int (0 : Int32), .int (0 : Int32), .int (60 : Int32)] lk_X10_154 (c_X10_take l D cy g (0 : Int32) (0 : Int32) (60 : Int32)  σ37 h) zs_223 rfl ⟨by decide, by decide⟩ ⟨rfl, rfl⟩ ⟨Nat.zero_le _, Nat.zero_le _⟩ rfl rfl (Nat.le_of_ble_eq_true rfl) dX10_lineLine_181 (fun r47 σ46 hb h => ?_)
              replace h := h hb
              refine zx_if_ne C 189 dX10_lineLine_184 (by decide) (fun q => ?_) (fun q => ?_)
              · replace h := h.1 q
                refine zx_aload_n C dX10_lineLine_189 1 rfl ?_
                refine zx_getR C zs_223 fg_X10_35 rfl 232 rfl dX10_lineLine_190 ?_
                refine zx_iload C dX10_lineLine_193 0 rfl ?_
                refine zx_aload_n C dX10_lineLine_195 1 rfl ?_
                refine zx_getR C zs_223 fg_X10_38 rfl 233 rfl dX10_lineLine_196 ?_
                refine zx_iconst (v := (0 : Int32)) C dX10_lineLine_199 (by decide) ?_
                refine zx_iald C 0 zs_233 (by unfold vp_in; decide) (by decide) dX10_lineLine_200 ?_
                obtain ⟨bd48, h⟩ := h
                refine zx_iast C (r2).toNatClampNeg zs_232 bd48 rfl dX10_lineLine_201 ?_
                refine zx_sig (fun σ49 eσ49 => ?_)
                replace h := h σ49 eσ49
                refine zx_iconst (v := (1 : Int32)) C dX10_lineLine_202 (by decide) ?_
                exact zx_zret C hr dX10_lineLine_203 (Or.inr rfl) h
              · replace h := h.2 q
                refine zx_iconst (v := (0 : Int32)) C dX10_lineLine_187 (by decide) ?_
                exact zx_zret C hr dX10_lineLine_188 (Or.inl rfl) h
          · replace h := h.2 q
            refine zx_iconst (v := (1 : Int32)) C dX10_lineLine_150 (by decide) ?_
            refine zx_goto C 155 dX10_lineLine_151 (by decide) ?_
            refine zx_iload C dX10_lineLine_155 0 rfl ?_
            refine zx_iconst (v := (4 : Int32)) C dX10_lineLine_157 (by decide) ?_
            refine zx_icmp_ne C 166 dX10_lineLine_158 (by decide) (fun q => ?_) (fun q => ?_)
            · replace h := h.1 q
              refine zx_iload C dX10_lineLine_166 0 rfl ?_
              refine zx_bipush (v := (6 : Int32)) C dX10_lineLine_168 (by decide) ?_
              refine zx_icmp_ne C 179 dX10_lineLine_170 (by decide) (fun q => ?_) (fun q => ?_)
              · replace h := h.1 q
                refine zx_bipush (v := (9 : Int32)) C dX10_lineLine_179 (by decide) ?_
                refine zx_cVb C [.int (0 : Int32), .int (1 : Int32), .int (9 : Int32)] lk_X10_154 (c_X10_take l D cy g (0 : Int32) (1 : Int32) (9 : Int32)  σ37 h) zs_223 rfl ⟨by decide, by decide⟩ ⟨rfl, rfl⟩ ⟨Nat.zero_le _, Nat.zero_le _⟩ rfl rfl (Nat.le_of_ble_eq_true rfl) dX10_lineLine_181 (fun r51 σ50 hb h => ?_)
                replace h := h hb
                refine zx_if_ne C 189 dX10_lineLine_184 (by decide) (fun q => ?_) (fun q => ?_)
                · replace h := h.1 q
                  refine zx_aload_n C dX10_lineLine_189 1 rfl ?_
                  refine zx_getR C zs_223 fg_X10_35 rfl 232 rfl dX10_lineLine_190 ?_
                  refine zx_iload C dX10_lineLine_193 0 rfl ?_
                  refine zx_aload_n C dX10_lineLine_195 1 rfl ?_
                  refine zx_getR C zs_223 fg_X10_38 rfl 233 rfl dX10_lineLine_196 ?_
                  refine zx_iconst (v := (0 : Int32)) C dX10_lineLine_199 (by decide) ?_
                  refine zx_iald C 0 zs_233 (by unfold vp_in; decide) (by decide) dX10_lineLine_200 ?_
                  obtain ⟨bd52, h⟩ := h
                  refine zx_iast C (r2).toNatClampNeg zs_232 bd52 rfl dX10_lineLine_201 ?_
                  refine zx_sig (fun σ53 eσ53 => ?_)
                  replace h := h σ53 eσ53
                  refine zx_iconst (v := (1 : Int32)) C dX10_lineLine_202 (by decide) ?_
                  exact zx_zret C hr dX10_lineLine_203 (Or.inr rfl) h
                · replace h := h.2 q
                  refine zx_iconst (v := (0 : Int32)) C dX10_lineLine_187 (by decide) ?_
                  exact zx_zret C hr dX10_lineLine_188 (Or.inl rfl) h
              · replace h := h.2 q
                refine zx_sipush (v := (999 : Int32)) C dX10_lineLine_173 (by decide) ?_
                refine zx_goto C 181 dX10_lineLine_176 (by decide) ?_
                refine zx_cVb C [.int (0 : Int32), .int (1 : Int32), .int (999 : Int32)] lk_X10_154 (c_X10_take l D cy g (0 : Int32) (1 : Int32) (999 : Int32)  σ37 h) zs_223 rfl ⟨by decide, by decide⟩ ⟨rfl, rfl⟩ ⟨Nat.zero_le _, Nat.zero_le _⟩ rfl rfl (Nat.le_of_ble_eq_true rfl) dX10_lineLine_181 (fun r55 σ54 hb h => ?_)
                replace h := h hb
                refine zx_if_ne C 189 dX10_lineLine_184 (by decide) (fun q => ?_) (fun q => ?_)
                · replace h := h.1 q
                  refine zx_aload_n C dX10_lineLine_189 1 rfl ?_
                  refine zx_getR C zs_223 fg_X10_35 rfl 232 rfl dX10_lineLine_190 ?_
                  refine zx_iload C dX10_lineLine_193 0 rfl ?_
                  refine zx_aload_n C dX10_lineLine_195 1 rfl ?_
                  refine zx_getR C zs_223 fg_X10_38 rfl 233 rfl dX10_lineLine_196 ?_
                  refine zx_iconst (v := (0 : Int32)) C dX10_lineLine_199 (by decide) ?_
                  refine zx_iald C 0 zs_233 (by unfold vp_in; decide) (by decide) dX10_lineLine_200 ?_
                  obtain ⟨bd56, h⟩ := h
                  refine zx_iast C (r2).toNatClampNeg zs_232 bd56 rfl dX10_lineLine_201 ?_
                  refine zx_sig (fun σ57 eσ57 => ?_)
                  replace h := h σ57 eσ57
                  refine zx_iconst (v := (1 : Int32)) C dX10_lineLine_202 (by decide) ?_
                  exact zx_zret C hr dX10_lineLine_203 (Or.inr rfl) h
                · replace h := h.2 q
                  refine zx_iconst (v := (0 : Int32)) C dX10_lineLine_187 (by decide) ?_
                  exact zx_zret C hr dX10_lineLine_188 (Or.inl rfl) h
            · replace h := h.2 q
              refine zx_bipush (v := (60 : Int32)) C dX10_lineLine_161 (by decide) ?_
              refine zx_goto C 181 dX10_lineLine_163 (by decide) ?_
              refine zx_cVb C [.int (0 : Int32), .int (1 : Int32), .int (60 : Int32)] lk_X10_154 (c_X10_take l D cy g (0 : Int32) (1 : Int32) (60 : Int32)  σ37 h) zs_223 rfl ⟨by decide, by decide⟩ ⟨rfl, rfl⟩ ⟨Nat.zero_le _, Nat.zero_le _⟩ rfl rfl (Nat.le_of_ble_eq_true rfl) dX10_lineLine_181 (fun r59 σ58 hb h => ?_)
              replace h := h hb
              refine zx_if_ne C 189 dX10_lineLine_184 (by decide) (fun q => ?_) (fun q => ?_)
              · replace h := h.1 q
                refine zx_aload_n C dX10_lineLine_189 1 rfl ?_
                refine zx_getR C zs_223 fg_X10_35 rfl 232 rfl dX10_lineLine_190 ?_
                refine zx_iload C dX10_lineLine_193 0 rfl ?_
                refine zx_aload_n C dX10_lineLine_195 1 rfl ?_
                refine zx_getR C zs_223 fg_X10_38 rfl 233 rfl dX10_lineLine_196 ?_
                refine zx_iconst (v := (0 : Int32)) C dX10_lineLine_199 (by decide) ?_
                refine zx_iald C 0 zs_233 (by unfold vp_in; decide) (by decide) dX10_lineLine_200 ?_
                obtain ⟨bd60, h⟩ := h
                refine zx_iast C (r2).toNatClampNeg zs_232 bd60 rfl dX10_lineLine_201 ?_
                refine zx_sig (fun σ61 eσ61 => ?_)
                replace h := h σ61 eσ61
                refine zx_iconst (v := (1 : Int32)) C dX10_lineLine_202 (by decide) ?_
                exact zx_zret C hr dX10_lineLine_203 (Or.inr rfl) h
              · replace h := h.2 q
                refine zx_iconst (v := (0 : Int32)) C dX10_lineLine_187 (by decide) ?_
                exact zx_zret C hr dX10_lineLine_188 (Or.inl rfl) h
        · replace h := h.2 q
          refine zx_lload_n C dX10_lineLine_94 2 rfl ?_
          refine zx_ldc2 C dX10_lineLine_95 co_X10_185 ?_
          refine zx_lcmp C dX10_lineLine_98 ?_
          refine zx_if_ne C 109 dX10_lineLine_99 (by decide) (fun q => ?_) (fun q => ?_)
          · replace h := h.1 q
            refine zx_lload_n C dX10_lineLine_109 2 rfl ?_
            refine zx_ldc2 C dX10_lineLine_110 co_X10_187 ?_
            refine zx_lcmp C dX10_lineLine_113 ?_
            refine zx_if_ne C 124 dX10_lineLine_114 (by decide) (fun q => ?_) (fun q => ?_)
            · replace h := h.1 q
              refine zx_aload_n C dX10_lineLine_124 1 rfl ?_
              refine zx_lload_n C dX10_lineLine_125 2 rfl ?_
              refine zx_ldc2 C dX10_lineLine_126 co_X10_191 ?_
              refine zx_lcmp C dX10_lineLine_129 ?_
              refine zx_if_ne C 137 dX10_lineLine_130 (by decide) (fun q => ?_) (fun q => ?_)
              · replace h := h.1 q
                refine zx_iconst (v := (0 : Int32)) C dX10_lineLine_137 (by decide) ?_
                refine zx_cVb C [.int (0 : Int32)] lk_X10_203 (c_X10_ofPost l D cy g (0 : Int32)  σ37 h) zs_223 rfl ⟨by decide, by decide⟩ ⟨rfl, rfl⟩ ⟨Nat.zero_le _, Nat.zero_le _⟩ rfl rfl (Nat.le_of_ble_eq_true rfl) dX10_lineLine_138 (fun r63 σ62 hb h => ?_)
                replace h := h hb
                exact zx_zret C hr dX10_lineLine_141 h.1 h.2
              · replace h := h.2 q
                refine zx_iconst (v := (1 : Int32)) C dX10_lineLine_133 (by decide) ?_
                refine zx_goto C 138 dX10_lineLine_134 (by decide) ?_
                refine zx_cVb C [.int (1 : Int32)] lk_X10_203 (c_X10_ofPost l D cy g (1 : Int32)  σ37 h) zs_223 rfl ⟨by decide, by decide⟩ ⟨rfl, rfl⟩ ⟨Nat.zero_le _, Nat.zero_le _⟩ rfl rfl (Nat.le_of_ble_eq_true rfl) dX10_lineLine_138 (fun r65 σ64 hb h => ?_)
                replace h := h hb
                exact zx_zret C hr dX10_lineLine_141 h.1 h.2
            · replace h := h.2 q
              refine zx_aload_n C dX10_lineLine_117 1 rfl ?_
              refine zx_cVb C [] lk_X10_200 (c_X10_riderLine l D cy g   σ37 h) zs_223 rfl ⟨by decide, by decide⟩ ⟨rfl, rfl⟩ ⟨Nat.zero_le _, Nat.zero_le _⟩ rfl rfl (Nat.le_of_ble_eq_true rfl) dX10_lineLine_118 (fun r67 σ66 hb h => ?_)
              replace h := h hb
              refine zx_goto C 141 dX10_lineLine_121 (by decide) ?_
              exact zx_zret C hr dX10_lineLine_141 h.1 h.2
          · replace h := h.2 q
            refine zx_aload_n C dX10_lineLine_102 1 rfl ?_
            refine zx_cVb C [] lk_X10_197 (c_X10_postLine l D cy g   σ37 h) zs_223 rfl ⟨by decide, by decide⟩ ⟨rfl, rfl⟩ ⟨Nat.zero_le _, Nat.zero_le _⟩ rfl rfl (Nat.le_of_ble_eq_true rfl) dX10_lineLine_103 (fun r69 σ68 hb h => ?_)
            replace h := h hb
            refine zx_goto C 141 dX10_lineLine_106 (by decide) ?_
            exact zx_zret C hr dX10_lineLine_141 h.1 h.2
    · replace h := h.2 q
      refine zx_aload_n C dX10_lineLine_57 1 rfl ?_
      refine zx_iconst (v := (0 : Int32)) C dX10_lineLine_58 (by decide) ?_
      refine zx_bipush (v := (16 : Int32)) C dX10_lineLine_59 (by decide) ?_
      refine zx_iload_n C dX10_lineLine_61 3 rfl ?_
      refine zx_cVv C [.int (0 : Int32), .int (16 : Int32), .int a2] lk_X10_193 (c_X10_full l D cy g (0 : Int32) (16 : Int32) a2  σ1 h) zs_223 rfl ⟨by decide, by decide⟩ ⟨rfl, rfl⟩ ⟨Nat.zero_le _, Nat.zero_le _⟩ rfl rfl (Nat.le_of_ble_eq_true rfl) dX10_lineLine_62 (fun σ70 h => ?_)
      refine zx_goto C 84 dX10_lineLine_65 (by decide) ?_
      refine zx_aload_n C dX10_lineLine_84 1 rfl ?_
      refine zx_cVv C [] lk_X10_151 (c_X10_token l D cy g   σ70 h) zs_223 rfl ⟨by decide, by decide⟩ ⟨rfl, rfl⟩ ⟨Nat.zero_le _, Nat.zero_le _⟩ rfl rfl (Nat.le_of_ble_eq_true rfl) dX10_lineLine_85 (fun σ71 h => ?_)
      refine zx_iload C dX10_lineLine_88 0 rfl ?_
      refine zx_iconst (v := (-1 : Int32)) C dX10_lineLine_90 (by decide) ?_
      refine zx_icmp_ne C 142 dX10_lineLine_91 (by decide) (fun q => ?_) (fun q => ?_)
      · replace h := h.1 q
        refine zx_aload_n C dX10_lineLine_142 1 rfl ?_
        refine zx_iconst (v := (0 : Int32)) C dX10_lineLine_143 (by decide) ?_
        refine zx_iload C dX10_lineLine_144 0 rfl ?_
        refine zx_iconst (v := (2 : Int32)) C dX10_lineLine_146 (by decide) ?_
        refine zx_icmp_ne C 154 dX10_lineLine_147 (by decide) (fun q => ?_) (fun q => ?_)
        · replace h := h.1 q
          refine zx_iconst (v := (0 : Int32)) C dX10_lineLine_154 (by decide) ?_
          refine zx_iload C dX10_lineLine_155 0 rfl ?_
          refine zx_iconst (v := (4 : Int32)) C dX10_lineLine_157 (by decide) ?_
          refine zx_icmp_ne C 166 dX10_lineLine_158 (by decide) (fun q => ?_) (fun q => ?_)
          · replace h := h.1 q
            refine zx_iload C dX10_lineLine_166 0 rfl ?_
            refine zx_bipush (v := (6 : Int32)) C dX10_lineLine_168 (by decide) ?_
            refine zx_icmp_ne C 179 dX10_lineLine_170 (by decide) (fun q => ?_) (fun q => ?_)
            · replace h := h.1 q
              refine zx_bipush (v := (9 : Int32)) C dX10_lineLine_179 (by decide) ?_
              refine zx_cVb C [.int (0 : Int32), .int (0 : Int32), .int (9 : Int32)] lk_X10_154 (c_X10_take l D cy g (0 : Int32) (0 : Int32) (9 : Int32)  σ71 h) zs_223 rfl ⟨by decide, by decide⟩ ⟨rfl, rfl⟩ ⟨Nat.zero_le _, Nat.zero_le _⟩ rfl rfl (Nat.le_of_ble_eq_true rfl) dX10_lineLine_181 (fun r73 σ72 hb h => ?_)
              replace h := h hb
              refine zx_if_ne C 189 dX10_lineLine_184 (by decide) (fun q => ?_) (fun q => ?_)
              · replace h := h.1 q
                refine zx_aload_n C dX10_lineLine_189 1 rfl ?_
                refine zx_getR C zs_223 fg_X10_35 rfl 232 rfl dX10_lineLine_190 ?_
                refine zx_iload C dX10_lineLine_193 0 rfl ?_
                refine zx_aload_n C dX10_lineLine_195 1 rfl ?_
                refine zx_getR C zs_223 fg_X10_38 rfl 233 rfl dX10_lineLine_196 ?_
                refine zx_iconst (v := (0 : Int32)) C dX10_lineLine_199 (by decide) ?_
                refine zx_iald C 0 zs_233 (by unfold vp_in; decide) (by decide) dX10_lineLine_200 ?_
                obtain ⟨bd74, h⟩ := h
                refine zx_iast C (r2).toNatClampNeg zs_232 bd74 rfl dX10_lineLine_201 ?_
                refine zx_sig (fun σ75 eσ75 => ?_)
                replace h := h σ75 eσ75
                refine zx_iconst (v := (1 : Int32)) C dX10_lineLine_202 (by decide) ?_
                exact zx_zret C hr dX10_lineLine_203 (Or.inr rfl) h
              · replace h := h.2 q
                refine zx_iconst (v := (0 : Int32)) C dX10_lineLine_187 (by decide) ?_
                exact zx_zret C hr dX10_lineLine_188 (Or.inl rfl) h
            · replace h := h.2 q
              refine zx_sipush (v := (999 : Int32)) C dX10_lineLine_173 (by decide) ?_
              refine zx_goto C 181 dX10_lineLine_176 (by decide) ?_
              refine zx_cVb C [.int (0 : Int32), .int (0 : Int32), .int (999 : Int32)] lk_X10_154 (c_X10_take l D cy g (0 : Int32) (0 : Int32) (999 : Int32)  σ71 h) zs_223 rfl ⟨by decide, by decide⟩ ⟨rfl, rfl⟩ ⟨Nat.zero_le _, Nat.zero_le _⟩ rfl rfl (Nat.le_of_ble_eq_true rfl) dX10_lineLine_181 (fun r77 σ76 hb h => ?_)
              replace h := h hb
              refine zx_if_ne C 189 dX10_lineLine_184 (by decide) (fun q => ?_) (fun q => ?_)
              · replace h := h.1 q
                refine zx_aload_n C dX10_lineLine_189 1 rfl ?_
                refine zx_getR C zs_223 fg_X10_35 rfl 232 rfl dX10_lineLine_190 ?_
                refine zx_iload C dX10_lineLine_193 0 rfl ?_
                refine zx_aload_n C dX10_lineLine_195 1 rfl ?_
                refine zx_getR C zs_223 fg_X10_38 rfl 233 rfl dX10_lineLine_196 ?_
                refine zx_iconst (v := (0 : Int32)) C dX10_lineLine_199 (by decide) ?_
                refine zx_iald C 0 zs_233 (by unfold vp_in; decide) (by decide) dX10_lineLine_200 ?_
                obtain ⟨bd78, h⟩ := h
                refine zx_iast C (r2).toNatClampNeg zs_232 bd78 rfl dX10_lineLine_201 ?_
                refine zx_sig (fun σ79 eσ79 => ?_)
                replace h := h σ79 eσ79
                refine zx_iconst (v := (1 : Int32)) C dX10_lineLine_202 (by decide) ?_
                exact zx_zret C hr dX10_lineLine_203 (Or.inr rfl) h
              · replace h := h.2 q
                refine zx_iconst (v := (0 : Int32)) C dX10_lineLine_187 (by decide) ?_
                exact zx_zret C hr dX10_lineLine_188 (Or.inl rfl) h
          · replace h := h.2 q
            refine zx_bipush (v := (60 : Int32)) C dX10_lineLine_161 (by decide) ?_
            refine zx_goto C 181 dX10_lineLine_163 (by decide) ?_
            refine zx_cVb C [.int (0 : Int32), .int (0 : Int32), .int (60 : Int32)] lk_X10_154 (c_X10_take l D cy g (0 : Int32) (0 : Int32) (60 : Int32)  σ71 h) zs_223 rfl ⟨by decide, by decide⟩ ⟨rfl, rfl⟩ ⟨Nat.zero_le _, Nat.zero_le _⟩ rfl rfl (Nat.le_of_ble_eq_true rfl) dX10_lineLine_181 (fun r81 σ80 hb h => ?_)
            replace h := h hb
            refine zx_if_ne C 189 dX10_lineLine_184 (by decide) (fun q => ?_) (fun q => ?_)
            · replace h := h.1 q
              refine zx_aload_n C dX10_lineLine_189 1 rfl ?_
              refine zx_getR C zs_223 fg_X10_35 rfl 232 rfl dX10_lineLine_190 ?_
              refine zx_iload C dX10_lineLine_193 0 rfl ?_
              refine zx_aload_n C dX10_lineLine_195 1 rfl ?_
              refine zx_getR C zs_223 fg_X10_38 rfl 233 rfl dX10_lineLine_196 ?_
              refine zx_iconst (v := (0 : Int32)) C dX10_lineLine_199 (by decide) ?_
              refine zx_iald C 0 zs_233 (by unfold vp_in; decide) (by decide) dX10_lineLine_200 ?_
              obtain ⟨bd82, h⟩ := h
              refine zx_iast C (r2).toNatClampNeg zs_232 bd82 rfl dX10_lineLine_201 ?_
              refine zx_sig (fun σ83 eσ83 => ?_)
              replace h := h σ83 eσ83
              refine zx_iconst (v := (1 : Int32)) C dX10_lineLine_202 (by decide) ?_
              exact zx_zret C hr dX10_lineLine_203 (Or.inr rfl) h
            · replace h := h.2 q
              refine zx_iconst (v := (0 : Int32)) C dX10_lineLine_187 (by decide) ?_
              exact zx_zret C hr dX10_lineLine_188 (Or.inl rfl) h
        · replace h := h.2 q
          refine zx_iconst (v := (1 : Int32)) C dX10_lineLine_150 (by decide) ?_
          refine zx_goto C 155 dX10_lineLine_151 (by decide) ?_
          refine zx_iload C dX10_lineLine_155 0 rfl ?_
          refine zx_iconst (v := (4 : Int32)) C dX10_lineLine_157 (by decide) ?_
          refine zx_icmp_ne C 166 dX10_lineLine_158 (by decide) (fun q => ?_) (fun q => ?_)
          · replace h := h.1 q
            refine zx_iload C dX10_lineLine_166 0 rfl ?_
            refine zx_bipush (v := (6 : Int32)) C dX10_lineLine_168 (by decide) ?_
            refine zx_icmp_ne C 179 dX10_lineLine_170 (by decide) (fun q => ?_) (fun q => ?_)
            · replace h := h.1 q
              refine zx_bipush (v := (9 : Int32)) C dX10_lineLine_179 (by decide) ?_
              refine zx_cVb C [.int (0 : Int32), .int (1 : Int32), .int (9 : Int32)] lk_X10_154 (c_X10_take l D cy g (0 : Int32) (1 : Int32) (9 : Int32)  σ71 h) zs_223 rfl ⟨by decide, by decide⟩ ⟨rfl, rfl⟩ ⟨Nat.zero_le _, Nat.zero_le _⟩ rfl rfl (Nat.le_of_ble_eq_true rfl) dX10_lineLine_181 (fun r85 σ84 hb h => ?_)
              replace h := h hb
              refine zx_if_ne C 189 dX10_lineLine_184 (by decide) (fun q => ?_) (fun q => ?_)
              · replace h := h.1 q
                refine zx_aload_n C dX10_lineLine_189 1 rfl ?_
                refine zx_getR C zs_223 fg_X10_35 rfl 232 rfl dX10_lineLine_190 ?_
                refine zx_iload C dX10_lineLine_193 0 rfl ?_
                refine zx_aload_n C dX10_lineLine_195 1 rfl ?_
                refine zx_getR C zs_223 fg_X10_38 rfl 233 rfl dX10_lineLine_196 ?_
                refine zx_iconst (v := (0 : Int32)) C dX10_lineLine_199 (by decide) ?_
                refine zx_iald C 0 zs_233 (by unfold vp_in; decide) (by decide) dX10_lineLine_200 ?_
                obtain ⟨bd86, h⟩ := h
                refine zx_iast C (r2).toNatClampNeg zs_232 bd86 rfl dX10_lineLine_201 ?_
                refine zx_sig (fun σ87 eσ87 => ?_)
                replace h := h σ87 eσ87
                refine zx_iconst (v := (1 : Int32)) C dX10_lineLine_202 (by decide) ?_
                exact zx_zret C hr dX10_lineLine_203 (Or.inr rfl) h
              · replace h := h.2 q
                refine zx_iconst (v := (0 : Int32)) C dX10_lineLine_187 (by decide) ?_
                exact zx_zret C hr dX10_lineLine_188 (Or.inl rfl) h
            · replace h := h.2 q
              refine zx_sipush (v := (999 : Int32)) C dX10_lineLine_173 (by decide) ?_
              refine zx_goto C 181 dX10_lineLine_176 (by decide) ?_
              refine zx_cVb C [.int (0 : Int32), .int (1 : Int32), .int (999 : Int32)] lk_X10_154 (c_X10_take l D cy g (0 : Int32) (1 : Int32) (999 : Int32)  σ71 h) zs_223 rfl ⟨by decide, by decide⟩ ⟨rfl, rfl⟩ ⟨Nat.zero_le _, Nat.zero_le _⟩ rfl rfl (Nat.le_of_ble_eq_true rfl) dX10_lineLine_181 (fun r89 σ88 hb h => ?_)
              replace h := h hb
              refine zx_if_ne C 189 dX10_lineLine_184 (by decide) (fun q => ?_) (fun q => ?_)
              · replace h := h.1 q
                refine zx_aload_n C dX10_lineLine_189 1 rfl ?_
                refine zx_getR C zs_223 fg_X10_35 rfl 232 rfl dX10_lineLine_190 ?_
                refine zx_iload C dX10_lineLine_193 0 rfl ?_
                refine zx_aload_n C dX10_lineLine_195 1 rfl ?_
                refine zx_getR C zs_223 fg_X10_38 rfl 233 rfl dX10_lineLine_196 ?_
                refine zx_iconst (v := (0 : Int32)) C dX10_lineLine_199 (by decide) ?_
                refine zx_iald C 0 zs_233 (by unfold vp_in; decide) (by decide) dX10_lineLine_200 ?_
                obtain ⟨bd90, h⟩ := h
                refine zx_iast C (r2).toNatClampNeg zs_232 bd90 rfl dX10_lineLine_201 ?_
                refine zx_sig (fun σ91 eσ91 => ?_)
                replace h := h σ91 eσ91
                refine zx_iconst (v := (1 : Int32)) C dX10_lineLine_202 (by decide) ?_
                exact zx_zret C hr dX10_lineLine_203 (Or.inr rfl) h
              · replace h := h.2 q
                refine zx_iconst (v := (0 : Int32)) C dX10_lineLine_187 (by decide) ?_
                exact zx_zret C hr dX10_lineLine_188 (Or.inl rfl) h
          · replace h := h.2 q
            refine zx_bipush (v := (60 : Int32)) C dX10_lineLine_161 (by decide) ?_
            refine zx_goto C 181 dX10_lineLine_163 (by decide) ?_
            refine zx_cVb C [.int (0 : Int32), .int (1 : Int32), .int (60 : Int32)] lk_X10_154 (c_X10_take l D cy g (0 : Int32) (1 : Int32) (60 : Int32)  σ71 h) zs_223 rfl ⟨by decide, by decide⟩ ⟨rfl, rfl⟩ ⟨Nat.zero_le _, Nat.zero_le _⟩ rfl rfl (Nat.le_of_ble_eq_true rfl) dX10_lineLine_181 (fun r93 σ92 hb h => ?_)
            replace h := h hb
            refine zx_if_ne C 189 dX10_lineLine_184 (by decide) (fun q => ?_) (fun q => ?_)
            · replace h := h.1 q
              refine zx_aload_n C dX10_lineLine_189 1 rfl ?_
              refine zx_getR C zs_223 fg_X10_35 rfl 232 rfl dX10_lineLine_190 ?_
              refine zx_iload C dX10_lineLine_193 0 rfl ?_
              refine zx_aload_n C dX10_lineLine_195 1 rfl ?_
              refine zx_getR C zs_223 fg_X10_38 rfl 233 rfl dX10_lineLine_196 ?_
              refine zx_iconst (v := (0 : Int32)) C dX10_lineLine_199 (by decide) ?_
              refine zx_iald C 0 zs_233 (by unfold vp_in; decide) (by decide) dX10_lineLine_200 ?_
              obtain ⟨bd94, h⟩ := h
              refine zx_iast C (r2).toNatClampNeg zs_232 bd94 rfl dX10_lineLine_201 ?_
              refine zx_sig (fun σ95 eσ95 => ?_)
              replace h := h σ95 eσ95
              refine zx_iconst (v := (1 : Int32)) C dX10_lineLine_202 (by decide) ?_
              exact zx_zret C hr dX10_lineLine_203 (Or.inr rfl) h
            · replace h := h.2 q
              refine zx_iconst (v := (0 : Int32)) C dX10_lineLine_187 (by decide) ?_
              exact zx_zret C hr dX10_lineLine_188 (Or.inl rfl) h
      · replace h := h.2 q
        refine zx_lload_n C dX10_lineLine_94 2 rfl ?_
        refine zx_ldc2 C dX10_lineLine_95 co_X10_185 ?_
        refine zx_lcmp C dX10_lineLine_98 ?_
        refine zx_if_ne C 109 dX10_lineLine_99 (by decide) (fun q => ?_) (fun q => ?_)
        · replace h := h.1 q
          refine zx_lload_n C dX10_lineLine_109 2 rfl ?_
          refine zx_ldc2 C dX10_lineLine_110 co_X10_187 ?_
          refine zx_lcmp C dX10_lineLine_113 ?_
          refine zx_if_ne C 124 dX10_lineLine_114 (by decide) (fun q => ?_) (fun q => ?_)
          · replace h := h.1 q
            refine zx_aload_n C dX10_lineLine_124 1 rfl ?_
            refine zx_lload_n C dX10_lineLine_125 2 rfl ?_
            refine zx_ldc2 C dX10_lineLine_126 co_X10_191 ?_
            refine zx_lcmp C dX10_lineLine_129 ?_
            refine zx_if_ne C 137 dX10_lineLine_130 (by decide) (fun q => ?_) (fun q => ?_)
            · replace h := h.1 q
              refine zx_iconst (v := (0 : Int32)) C dX10_lineLine_137 (by decide) ?_
              refine zx_cVb C [.int (0 : Int32)] lk_X10_203 (c_X10_ofPost l D cy g (0 : Int32)  σ71 h) zs_223 rfl ⟨by decide, by decide⟩ ⟨rfl, rfl⟩ ⟨Nat.zero_le _, Nat.zero_le _⟩ rfl rfl (Nat.le_of_ble_eq_true rfl) dX10_lineLine_138 (fun r97 σ96 hb h => ?_)
              replace h := h hb
              exact zx_zret C hr dX10_lineLine_141 h.1 h.2
            · replace h := h.2 q
              refine zx_iconst (v := (1 : Int32)) C dX10_lineLine_133 (by decide) ?_
              refine zx_goto C 138 dX10_lineLine_134 (by decide) ?_
              refine zx_cVb C [.int (1 : Int32)] lk_X10_203 (c_X10_ofPost l D cy g (1 : Int32)  σ71 h) zs_223 rfl ⟨by decide, by decide⟩ ⟨rfl, rfl⟩ ⟨Nat.zero_le _, Nat.zero_le _⟩ rfl rfl (Nat.le_of_ble_eq_true rfl) dX10_lineLine_138 (fun r99 σ98 hb h => ?_)
              replace h := h hb
              exact zx_zret C hr dX10_lineLine_141 h.1 h.2
          · replace h := h.2 q
            refine zx_aload_n C dX10_lineLine_117 1 rfl ?_
            refine zx_cVb C [] lk_X10_200 (c_X10_riderLine l D cy g   σ71 h) zs_223 rfl ⟨by decide, by decide⟩ ⟨rfl, rfl⟩ ⟨Nat.zero_le _, Nat.zero_le _⟩ rfl rfl (Nat.le_of_ble_eq_true rfl) dX10_lineLine_118 (fun r101 σ100 hb h => ?_)
            replace h := h hb
            refine zx_goto C 141 dX10_lineLine_121 (by decide) ?_
            exact zx_zret C hr dX10_lineLine_141 h.1 h.2
        · replace h := h.2 q
          refine zx_aload_n C dX10_lineLine_102 1 rfl ?_
          refine zx_cVb C [] lk_X10_197 (c_X10_postLine l D cy g   σ71 h) zs_223 rfl ⟨by decide, by decide⟩ ⟨rfl, rfl⟩ ⟨Nat.zero_le _, Nat.zero_le _⟩ rfl rfl (Nat.le_of_ble_eq_true rfl) dX10_lineLine_103 (fun r103 σ102 hb h => ?_)
          replace h := h hb
          refine zx_goto C 141 dX10_lineLine_106 (by decide) ?_
          exact zx_zret C hr dX10_lineLine_141 h.1 h.2
  · replace h := h.2 q
    refine zx_lload_n C dX10_lineLine_12 2 rfl ?_
    refine zx_ldc2 C dX10_lineLine_13 co_X10_185 ?_
    refine zx_lcmp C dX10_lineLine_16 ?_
    refine zx_if_eq C 49 dX10_lineLine_17 (by decide) (fun q => ?_) (fun q => ?_)
    · replace h := h.1 q
      refine zx_lload_n C dX10_lineLine_49 2 rfl ?_
      refine zx_ldc2 C dX10_lineLine_50 co_X10_185 ?_
      refine zx_lcmp C dX10_lineLine_53 ?_
      refine zx_if_ne C 68 dX10_lineLine_54 (by decide) (fun q => ?_) (fun q => ?_)
      · replace h := h.1 q
        refine zx_lload_n C dX10_lineLine_68 2 rfl ?_
        refine zx_ldc2 C dX10_lineLine_69 co_X10_187 ?_
        refine zx_lcmp C dX10_lineLine_72 ?_
        refine zx_if_ne C 84 dX10_lineLine_73 (by decide) (fun q => ?_) (fun q => ?_)
        · replace h := h.1 q
          refine zx_aload_n C dX10_lineLine_84 1 rfl ?_
          refine zx_cVv C [] lk_X10_151 (c_X10_token l D cy g   σ1 h) zs_223 rfl ⟨by decide, by decide⟩ ⟨rfl, rfl⟩ ⟨Nat.zero_le _, Nat.zero_le _⟩ rfl rfl (Nat.le_of_ble_eq_true rfl) dX10_lineLine_85 (fun σ104 h => ?_)
          refine zx_iload C dX10_lineLine_88 0 rfl ?_
          refine zx_iconst (v := (-1 : Int32)) C dX10_lineLine_90 (by decide) ?_
          refine zx_icmp_ne C 142 dX10_lineLine_91 (by decide) (fun q => ?_) (fun q => ?_)
          · replace h := h.1 q
            refine zx_aload_n C dX10_lineLine_142 1 rfl ?_
            refine zx_iconst (v := (0 : Int32)) C dX10_lineLine_143 (by decide) ?_
            refine zx_iload C dX10_lineLine_144 0 rfl ?_
            refine zx_iconst (v := (2 : Int32)) C dX10_lineLine_146 (by decide) ?_
            refine zx_icmp_ne C 154 dX10_lineLine_147 (by decide) (fun q => ?_) (fun q => ?_)
            · replace h := h.1 q
              refine zx_iconst (v := (0 : Int32)) C dX10_lineLine_154 (by decide) ?_
              refine zx_iload C dX10_lineLine_155 0 rfl ?_
              refine zx_iconst (v := (4 : Int32)) C dX10_lineLine_157 (by decide) ?_
              refine zx_icmp_ne C 166 dX10_lineLine_158 (by decide) (fun q => ?_) (fun q => ?_)
              · replace h := h.1 q
                refine zx_iload C dX10_lineLine_166 0 rfl ?_
                refine zx_bipush (v := (6 : Int32)) C dX10_lineLine_168 (by decide) ?_
                refine zx_icmp_ne C 179 dX10_lineLine_170 (by decide) (fun q => ?_) (fun q => ?_)
                · replace h := h.1 q
                  refine zx_bipush (v := (9 : Int32)) C dX10_lineLine_179 (by decide) ?_
                  refine zx_cVb C [.int (0 : Int32), .int (0 : Int32), .int (9 : Int32)] lk_X10_154 (c_X10_take l D cy g (0 : Int32) (0 : Int32) (9 : Int32)  σ104 h) zs_223 rfl ⟨by decide, by decide⟩ ⟨rfl, rfl⟩ ⟨Nat.zero_le _, Nat.zero_le _⟩ rfl rfl (Nat.le_of_ble_eq_true rfl) dX10_lineLine_181 (fun r106 σ105 hb h => ?_)
                  replace h := h hb
                  refine zx_if_ne C 189 dX10_lineLine_184 (by decide) (fun q => ?_) (fun q => ?_)
                  · replace h := h.1 q
                    refine zx_aload_n C dX10_lineLine_189 1 rfl ?_
                    refine zx_getR C zs_223 fg_X10_35 rfl 232 rfl dX10_lineLine_190 ?_
                    refine zx_iload C dX10_lineLine_193 0 rfl ?_
                    refine zx_aload_n C dX10_lineLine_195 1 rfl ?_
                    refine zx_getR C zs_223 fg_X10_38 rfl 233 rfl dX10_lineLine_196 ?_
                    refine zx_iconst (v := (0 : Int32)) C dX10_lineLine_199 (by decide) ?_
                    refine zx_iald C 0 zs_233 (by unfold vp_in; decide) (by decide) dX10_lineLine_200 ?_
                    obtain ⟨bd107, h⟩ := h
                    refine zx_iast C (r2).toNatClampNeg zs_232 bd107 rfl dX10_lineLine_201 ?_
                    refine zx_sig (fun σ108 eσ108 => ?_)
                    replace h := h σ108 eσ108
                    refine zx_iconst (v := (1 : Int32)) C dX10_lineLine_202 (by decide) ?_
                    exact zx_zret C hr dX10_lineLine_203 (Or.inr rfl) h
                  · replace h := h.2 q
                    refine zx_iconst (v := (0 : Int32)) C dX10_lineLine_187 (by decide) ?_
                    exact zx_zret C hr dX10_lineLine_188 (Or.inl rfl) h
                · replace h := h.2 q
                  refine zx_sipush (v := (999 : Int32)) C dX10_lineLine_173 (by decide) ?_
                  refine zx_goto C 181 dX10_lineLine_176 (by decide) ?_
                  refine zx_cVb C [.int (0 : Int32), .int (0 : Int32), .int (999 : Int32)] lk_X10_154 (c_X10_take l D cy g (0 : Int32) (0 : Int32) (999 : Int32)  σ104 h) zs_223 rfl ⟨by decide, by decide⟩ ⟨rfl, rfl⟩ ⟨Nat.zero_le _, Nat.zero_le _⟩ rfl rfl (Nat.le_of_ble_eq_true rfl) dX10_lineLine_181 (fun r110 σ109 hb h => ?_)
                  replace h := h hb
                  refine zx_if_ne C 189 dX10_lineLine_184 (by decide) (fun q => ?_) (fun q => ?_)
                  · replace h := h.1 q
                    refine zx_aload_n C dX10_lineLine_189 1 rfl ?_
                    refine zx_getR C zs_223 fg_X10_35 rfl 232 rfl dX10_lineLine_190 ?_
                    refine zx_iload C dX10_lineLine_193 0 rfl ?_
                    refine zx_aload_n C dX10_lineLine_195 1 rfl ?_
                    refine zx_getR C zs_223 fg_X10_38 rfl 233 rfl dX10_lineLine_196 ?_
                    refine zx_iconst (v := (0 : Int32)) C dX10_lineLine_199 (by decide) ?_
                    refine zx_iald C 0 zs_233 (by unfold vp_in; decide) (by decide) dX10_lineLine_200 ?_
                    obtain ⟨bd111, h⟩ := h
                    refine zx_iast C (r2).toNatClampNeg zs_232 bd111 rfl dX10_lineLine_201 ?_
                    refine zx_sig (fun σ112 eσ112 => ?_)
                    replace h := h σ112 eσ112
                    refine zx_iconst (v := (1 : Int32)) C dX10_lineLine_202 (by decide) ?_
                    exact zx_zret C hr dX10_lineLine_203 (Or.inr rfl) h
                  · replace h := h.2 q
                    refine zx_iconst (v := (0 : Int32)) C dX10_lineLine_187 (by decide) ?_
                    exact zx_zret C hr dX10_lineLine_188 (Or.inl rfl) h
              · replace h := h.2 q
                refine zx_bipush (v := (60 : Int32)) C dX10_lineLine_161 (by decide) ?_
                refine zx_goto C 181 dX10_lineLine_163 (by decide) ?_
                refine zx_cVb C [.int (0 : Int32), .int (0 : Int32), .int (60 : Int32)] lk_X10_154 (c_X10_take l D cy g (0 : Int32) (0 : Int32) (60 : Int32)  σ104 h) zs_223 rfl ⟨by decide, by decide⟩ ⟨rfl, rfl⟩ ⟨Nat.zero_le _, Nat.zero_le _⟩ rfl rfl (Nat.le_of_ble_eq_true rfl) dX10_lineLine_181 (fun r114 σ113 hb h => ?_)
                replace h := h hb
                refine zx_if_ne C 189 dX10_lineLine_184 (by decide) (fun q => ?_) (fun q => ?_)
                · replace h := h.1 q
                  refine zx_aload_n C dX10_lineLine_189 1 rfl ?_
                  refine zx_getR C zs_223 fg_X10_35 rfl 232 rfl dX10_lineLine_190 ?_
                  refine zx_iload C dX10_lineLine_193 0 rfl ?_
                  refine zx_aload_n C dX10_lineLine_195 1 rfl ?_
                  refine zx_getR C zs_223 fg_X10_38 rfl 233 rfl dX10_lineLine_196 ?_
                  refine zx_iconst (v := (0 : Int32)) C dX10_lineLine_199 (by decide) ?_
                  refine zx_iald C 0 zs_233 (by unfold vp_in; decide) (by decide) dX10_lineLine_200 ?_
                  obtain ⟨bd115, h⟩ := h
                  refine zx_iast C (r2).toNatClampNeg zs_232 bd115 rfl dX10_lineLine_201 ?_
                  refine zx_sig (fun σ116 eσ116 => ?_)
                  replace h := h σ116 eσ116
                  refine zx_iconst (v := (1 : Int32)) C dX10_lineLine_202 (by decide) ?_
                  exact zx_zret C hr dX10_lineLine_203 (Or.inr rfl) h
                · replace h := h.2 q
                  refine zx_iconst (v := (0 : Int32)) C dX10_lineLine_187 (by decide) ?_
                  exact zx_zret C hr dX10_lineLine_188 (Or.inl rfl) h
            · replace h := h.2 q
              refine zx_iconst (v := (1 : Int32)) C dX10_lineLine_150 (by decide) ?_
              refine zx_goto C 155 dX10_lineLine_151 (by decide) ?_
              refine zx_iload C dX10_lineLine_155 0 rfl ?_
              refine zx_iconst (v := (4 : Int32)) C dX10_lineLine_157 (by decide) ?_
              refine zx_icmp_ne C 166 dX10_lineLine_158 (by decide) (fun q => ?_) (fun q => ?_)
              · replace h := h.1 q
                refine zx_iload C dX10_lineLine_166 0 rfl ?_
                refine zx_bipush (v := (6 : Int32)) C dX10_lineLine_168 (by decide) ?_
                refine zx_icmp_ne C 179 dX10_lineLine_170 (by decide) (fun q => ?_) (fun q => ?_)
                · replace h := h.1 q
                  refine zx_bipush (v := (9 : Int32)) C dX10_lineLine_179 (by decide) ?_
                  refine zx_cVb C [.int (0 : Int32), .int (1 : Int32), .int (9 : Int32)] lk_X10_154 (c_X10_take l D cy g (0 : Int32) (1 : Int32) (9 : Int32)  σ104 h) zs_223 rfl ⟨by decide, by decide⟩ ⟨rfl, rfl⟩ ⟨Nat.zero_le _, Nat.zero_le _⟩ rfl rfl (Nat.le_of_ble_eq_true rfl) dX10_lineLine_181 (fun r118 σ117 hb h => ?_)
                  replace h := h hb
                  refine zx_if_ne C 189 dX10_lineLine_184 (by decide) (fun q => ?_) (fun q => ?_)
                  · replace h := h.1 q
                    refine zx_aload_n C dX10_lineLine_189 1 rfl ?_
                    refine zx_getR C zs_223 fg_X10_35 rfl 232 rfl dX10_lineLine_190 ?_
                    refine zx_iload C dX10_lineLine_193 0 rfl ?_
                    refine zx_aload_n C dX10_lineLine_195 1 rfl ?_
                    refine zx_getR C zs_223 fg_X10_38 rfl 233 rfl dX10_lineLine_196 ?_
                    refine zx_iconst (v := (0 : Int32)) C dX10_lineLine_199 (by decide) ?_
                    refine zx_iald C 0 zs_233 (by unfold vp_in; decide) (by decide) dX10_lineLine_200 ?_
                    obtain ⟨bd119, h⟩ := h
                    refine zx_iast C (r2).toNatClampNeg zs_232 bd119 rfl dX10_lineLine_201 ?_
                    refine zx_sig (fun σ120 eσ120 => ?_)
                    replace h := h σ120 eσ120
                    refine zx_iconst (v := (1 : Int32)) C dX10_lineLine_202 (by decide) ?_
                    exact zx_zret C hr dX10_lineLine_203 (Or.inr rfl) h
                  · replace h := h.2 q
                    refine zx_iconst (v := (0 : Int32)) C dX10_lineLine_187 (by decide) ?_
                    exact zx_zret C hr dX10_lineLine_188 (Or.inl rfl) h
                · replace h := h.2 q
                  refine zx_sipush (v := (999 : Int32)) C dX10_lineLine_173 (by decide) ?_
                  refine zx_goto C 181 dX10_lineLine_176 (by decide) ?_
                  refine zx_cVb C [.int (0 : Int32), .int (1 : Int32), .int (999 : Int32)] lk_X10_154 (c_X10_take l D cy g (0 : Int32) (1 : Int32) (999 : Int32)  σ104 h) zs_223 rfl ⟨by decide, by decide⟩ ⟨rfl, rfl⟩ ⟨Nat.zero_le _, Nat.zero_le _⟩ rfl rfl (Nat.le_of_ble_eq_true rfl) dX10_lineLine_181 (fun r122 σ121 hb h => ?_)
                  replace h := h hb
                  refine zx_if_ne C 189 dX10_lineLine_184 (by decide) (fun q => ?_) (fun q => ?_)
                  · replace h := h.1 q
                    refine zx_aload_n C dX10_lineLine_189 1 rfl ?_
                    refine zx_getR C zs_223 fg_X10_35 rfl 232 rfl dX10_lineLine_190 ?_
                    refine zx_iload C dX10_lineLine_193 0 rfl ?_
                    refine zx_aload_n C dX10_lineLine_195 1 rfl ?_
                    refine zx_getR C zs_223 fg_X10_38 rfl 233 rfl dX10_lineLine_196 ?_
                    refine zx_iconst (v := (0 : Int32)) C dX10_lineLine_199 (by decide) ?_
                    refine zx_iald C 0 zs_233 (by unfold vp_in; decide) (by decide) dX10_lineLine_200 ?_
                    obtain ⟨bd123, h⟩ := h
                    refine zx_iast C (r2).toNatClampNeg zs_232 bd123 rfl dX10_lineLine_201 ?_
                    refine zx_sig (fun σ124 eσ124 => ?_)
                    replace h := h σ124 eσ124
                    refine zx_iconst (v := (1 : Int32)) C dX10_lineLine_202 (by decide) ?_
                    exact zx_zret C hr dX10_lineLine_203 (Or.inr rfl) h
                  · replace h := h.2 q
                    refine zx_iconst (v := (0 : Int32)) C dX10_lineLine_187 (by decide) ?_
                    exact zx_zret C hr dX10_lineLine_188 (Or.inl rfl) h
              · replace h := h.2 q
                refine zx_bipush (v := (60 : Int32)) C dX10_lineLine_161 (by decide) ?_
                refine zx_goto C 181 dX10_lineLine_163 (by decide) ?_
                refine zx_cVb C [.int (0 : Int32), .int (1 : Int32), .int (60 : Int32)] lk_X10_154 (c_X10_take l D cy g (0 : Int32) (1 : Int32) (60 : Int32)  σ104 h) zs_223 rfl ⟨by decide, by decide⟩ ⟨rfl, rfl⟩ ⟨Nat.zero_le _, Nat.zero_le _⟩ rfl rfl (Nat.le_of_ble_eq_true rfl) dX10_lineLine_181 (fun r126 σ125 hb h => ?_)
                replace h := h hb
                refine zx_if_ne C 189 dX10_lineLine_184 (by decide) (fun q => ?_) (fun q => ?_)
                · replace h := h.1 q
                  refine zx_aload_n C dX10_lineLine_189 1 rfl ?_
                  refine zx_getR C zs_223 fg_X10_35 rfl 232 rfl dX10_lineLine_190 ?_
                  refine zx_iload C dX10_lineLine_193 0 rfl ?_
                  refine zx_aload_n C dX10_lineLine_195 1 rfl ?_
                  refine zx_getR C zs_223 fg_X10_38 rfl 233 rfl dX10_lineLine_196 ?_
                  refine zx_iconst (v := (0 : Int32)) C dX10_lineLine_199 (by decide) ?_
                  refine zx_iald C 0 zs_233 (by unfold vp_in; decide) (by decide) dX10_lineLine_200 ?_
                  obtain ⟨bd127, h⟩ := h
                  refine zx_iast C (r2).toNatClampNeg zs_232 bd127 rfl dX10_lineLine_201 ?_
                  refine zx_sig (fun σ128 eσ128 => ?_)
                  replace h := h σ128 eσ128
                  refine zx_iconst (v := (1 : Int32)) C dX10_lineLine_202 (by decide) ?_
                  exact zx_zret C hr dX10_lineLine_203 (Or.inr rfl) h
                · replace h := h.2 q
                  refine zx_iconst (v := (0 : Int32)) C dX10_lineLine_187 (by decide) ?_
                  exact zx_zret C hr dX10_lineLine_188 (Or.inl rfl) h
          · replace h := h.2 q
            refine zx_lload_n C dX10_lineLine_94 2 rfl ?_
            refine zx_ldc2 C dX10_lineLine_95 co_X10_185 ?_
            refine zx_lcmp C dX10_lineLine_98 ?_
            refine zx_if_ne C 109 dX10_lineLine_99 (by decide) (fun q => ?_) (fun q => ?_)
            · replace h := h.1 q
              refine zx_lload_n C dX10_lineLine_109 2 rfl ?_
              refine zx_ldc2 C dX10_lineLine_110 co_X10_187 ?_
              refine zx_lcmp C dX10_lineLine_113 ?_
              refine zx_if_ne C 124 dX10_lineLine_114 (by decide) (fun q => ?_) (fun q => ?_)
              · replace h := h.1 q
                refine zx_aload_n C dX10_lineLine_124 1 rfl ?_
                refine zx_lload_n C dX10_lineLine_125 2 rfl ?_
                refine zx_ldc2 C dX10_lineLine_126 co_X10_191 ?_
                refine zx_lcmp C dX10_lineLine_129 ?_
                refine zx_if_ne C 137 dX10_lineLine_130 (by decide) (fun q => ?_) (fun q => ?_)
                · replace h := h.1 q
                  refine zx_iconst (v := (0 : Int32)) C dX10_lineLine_137 (by decide) ?_
                  refine zx_cVb C [.int (0 : Int32)] lk_X10_203 (c_X10_ofPost l D cy g (0 : Int32)  σ104 h) zs_223 rfl ⟨by decide, by decide⟩ ⟨rfl, rfl⟩ ⟨Nat.zero_le _, Nat.zero_le _⟩ rfl rfl (Nat.le_of_ble_eq_true rfl) dX10_lineLine_138 (fun r130 σ129 hb h => ?_)
                  replace h := h hb
                  exact zx_zret C hr dX10_lineLine_141 h.1 h.2
                · replace h := h.2 q
                  refine zx_iconst (v := (1 : Int32)) C dX10_lineLine_133 (by decide) ?_
                  refine zx_goto C 138 dX10_lineLine_134 (by decide) ?_
                  refine zx_cVb C [.int (1 : Int32)] lk_X10_203 (c_X10_ofPost l D cy g (1 : Int32)  σ104 h) zs_223 rfl ⟨by decide, by decide⟩ ⟨rfl, rfl⟩ ⟨Nat.zero_le _, Nat.zero_le _⟩ rfl rfl (Nat.le_of_ble_eq_true rfl) dX10_lineLine_138 (fun r132 σ131 hb h => ?_)
                  replace h := h hb
                  exact zx_zret C hr dX10_lineLine_141 h.1 h.2
              · replace h := h.2 q
                refine zx_aload_n C dX10_lineLine_117 1 rfl ?_
                refine zx_cVb C [] lk_X10_200 (c_X10_riderLine l D cy g   σ104 h) zs_223 rfl ⟨by decide, by decide⟩ ⟨rfl, rfl⟩ ⟨Nat.zero_le _, Nat.zero_le _⟩ rfl rfl (Nat.le_of_ble_eq_true rfl) dX10_lineLine_118 (fun r134 σ133 hb h => ?_)
                replace h := h hb
                refine zx_goto C 141 dX10_lineLine_121 (by decide) ?_
                exact zx_zret C hr dX10_lineLine_141 h.1 h.2
            · replace h := h.2 q
              refine zx_aload_n C dX10_lineLine_102 1 rfl ?_
              refine zx_cVb C [] lk_X10_197 (c_X10_postLine l D cy g   σ104 h) zs_223 rfl ⟨by decide, by decide⟩ ⟨rfl, rfl⟩ ⟨Nat.zero_le _, Nat.zero_le _⟩ rfl rfl (Nat.le_of_ble_eq_true rfl) dX10_lineLine_103 (fun r136 σ135 hb h => ?_)
              replace h := h hb
              refine zx_goto C 141 dX10_lineLine_106 (by decide) ?_
              exact zx_zret C hr dX10_lineLine_141 h.1 h.2
        · replace h := h.2 q
          refine zx_aload_n C dX10_lineLine_76 1 rfl ?_
          refine zx_iconst (v := (1 : Int32)) C dX10_lineLine_77 (by decide) ?_
          refine zx_bipush (v := (6 : Int32)) C dX10_lineLine_78 (by decide) ?_
          refine zx_iload_n C dX10_lineLine_80 3 rfl ?_
          refine zx_cVv C [.int (1 : Int32), .int (6 : Int32), .int a2] lk_X10_193 (c_X10_full l D cy g (1 : Int32) (6 : Int32) a2  σ1 h) zs_223 rfl ⟨by decide, by decide⟩ ⟨rfl, rfl⟩ ⟨Nat.zero_le _, Nat.zero_le _⟩ rfl rfl (Nat.le_of_ble_eq_true rfl) dX10_lineLine_81 (fun σ137 h => ?_)
          refine zx_aload_n C dX10_lineLine_84 1 rfl ?_
          refine zx_cVv C [] lk_X10_151 (c_X10_token l D cy g   σ137 h) zs_223 rfl ⟨by decide, by decide⟩ ⟨rfl, rfl⟩ ⟨Nat.zero_le _, Nat.zero_le _⟩ rfl rfl (Nat.le_of_ble_eq_true rfl) dX10_lineLine_85 (fun σ138 h => ?_)
          refine zx_iload C dX10_lineLine_88 0 rfl ?_
          refine zx_iconst (v := (-1 : Int32)) C dX10_lineLine_90 (by decide) ?_
          refine zx_icmp_ne C 142 dX10_lineLine_91 (by decide) (fun q => ?_) (fun q => ?_)
          · replace h := h.1 q
            refine zx_aload_n C dX10_lineLine_142 1 rfl ?_
            refine zx_iconst (v := (0 : Int32)) C dX10_lineLine_143 (by decide) ?_
            refine zx_iload C dX10_lineLine_144 0 rfl ?_
            refine zx_iconst (v := (2 : Int32)) C dX10_lineLine_146 (by decide) ?_
            refine zx_icmp_ne C 154 dX10_lineLine_147 (by decide) (fun q => ?_) (fun q => ?_)
            · replace h := h.1 q
              refine zx_iconst (v := (0 : Int32)) C dX10_lineLine_154 (by decide) ?_
              refine zx_iload C dX10_lineLine_155 0 rfl ?_
              refine zx_iconst (v := (4 : Int32)) C dX10_lineLine_157 (by decide) ?_
              refine zx_icmp_ne C 166 dX10_lineLine_158 (by decide) (fun q => ?_) (fun q => ?_)
              · replace h := h.1 q
                refine zx_iload C dX10_lineLine_166 0 rfl ?_
                refine zx_bipush (v := (6 : Int32)) C dX10_lineLine_168 (by decide) ?_
                refine zx_icmp_ne C 179 dX10_lineLine_170 (by decide) (fun q => ?_) (fun q => ?_)
                · replace h := h.1 q
                  refine zx_bipush (v := (9 : Int32)) C dX10_lineLine_179 (by decide) ?_
                  refine zx_cVb C [.int (0 : Int32), .int (0 : Int32), .int (9 : Int32)] lk_X10_154 (c_X10_take l D cy g (0 : Int32) (0 : Int32) (9 : Int32)  σ138 h) zs_223 rfl ⟨by decide, by decide⟩ ⟨rfl, rfl⟩ ⟨Nat.zero_le _, Nat.zero_le _⟩ rfl rfl (Nat.le_of_ble_eq_true rfl) dX10_lineLine_181 (fun r140 σ139 hb h => ?_)
                  replace h := h hb
                  refine zx_if_ne C 189 dX10_lineLine_184 (by decide) (fun q => ?_) (fun q => ?_)
                  · replace h := h.1 q
                    refine zx_aload_n C dX10_lineLine_189 1 rfl ?_
                    refine zx_getR C zs_223 fg_X10_35 rfl 232 rfl dX10_lineLine_190 ?_
                    refine zx_iload C dX10_lineLine_193 0 rfl ?_
                    refine zx_aload_n C dX10_lineLine_195 1 rfl ?_
                    refine zx_getR C zs_223 fg_X10_38 rfl 233 rfl dX10_lineLine_196 ?_
                    refine zx_iconst (v := (0 : Int32)) C dX10_lineLine_199 (by decide) ?_
                    refine zx_iald C 0 zs_233 (by unfold vp_in; decide) (by decide) dX10_lineLine_200 ?_
                    obtain ⟨bd141, h⟩ := h
                    refine zx_iast C (r2).toNatClampNeg zs_232 bd141 rfl dX10_lineLine_201 ?_
                    refine zx_sig (fun σ142 eσ142 => ?_)
                    replace h := h σ142 eσ142
                    refine zx_iconst (v := (1 : Int32)) C dX10_lineLine_202 (by decide) ?_
                    exact zx_zret C hr dX10_lineLine_203 (Or.inr rfl) h
                  · replace h := h.2 q
                    refine zx_iconst (v := (0 : Int32)) C dX10_lineLine_187 (by decide) ?_
                    exact zx_zret C hr dX10_lineLine_188 (Or.inl rfl) h
                · replace h := h.2 q
                  refine zx_sipush (v := (999 : Int32)) C dX10_lineLine_173 (by decide) ?_
                  refine zx_goto C 181 dX10_lineLine_176 (by decide) ?_
                  refine zx_cVb C [.int (0 : Int32), .int (0 : Int32), .int (999 : Int32)] lk_X10_154 (c_X10_take l D cy g (0 : Int32) (0 : Int32) (999 : Int32)  σ138 h) zs_223 rfl ⟨by decide, by decide⟩ ⟨rfl, rfl⟩ ⟨Nat.zero_le _, Nat.zero_le _⟩ rfl rfl (Nat.le_of_ble_eq_true rfl) dX10_lineLine_181 (fun r144 σ143 hb h => ?_)
                  replace h := h hb
                  refine zx_if_ne C 189 dX10_lineLine_184 (by decide) (fun q => ?_) (fun q => ?_)
                  · replace h := h.1 q
                    refine zx_aload_n C dX10_lineLine_189 1 rfl ?_
                    refine zx_getR C zs_223 fg_X10_35 rfl 232 rfl dX10_lineLine_190 ?_
                    refine zx_iload C dX10_lineLine_193 0 rfl ?_
                    refine zx_aload_n C dX10_lineLine_195 1 rfl ?_
                    refine zx_getR C zs_223 fg_X10_38 rfl 233 rfl dX10_lineLine_196 ?_
                    refine zx_iconst (v := (0 : Int32)) C dX10_lineLine_199 (by decide) ?_
                    refine zx_iald C 0 zs_233 (by unfold vp_in; decide) (by decide) dX10_lineLine_200 ?_
                    obtain ⟨bd145, h⟩ := h
                    refine zx_iast C (r2).toNatClampNeg zs_232 bd145 rfl dX10_lineLine_201 ?_
                    refine zx_sig (fun σ146 eσ146 => ?_)
                    replace h := h σ146 eσ146
                    refine zx_iconst (v := (1 : Int32)) C dX10_lineLine_202 (by decide) ?_
                    exact zx_zret C hr dX10_lineLine_203 (Or.inr rfl) h
                  · replace h := h.2 q
                    refine zx_iconst (v := (0 : Int32)) C dX10_lineLine_187 (by decide) ?_
                    exact zx_zret C hr dX10_lineLine_188 (Or.inl rfl) h
              · replace h := h.2 q
                refine zx_bipush (v := (60 : Int32)) C dX10_lineLine_161 (by decide) ?_
                refine zx_goto C 181 dX10_lineLine_163 (by decide) ?_
                refine zx_cVb C [.int (0 : Int32), .int (0 : Int32), .int (60 : Int32)] lk_X10_154 (c_X10_take l D cy g (0 : Int32) (0 : Int32) (60 : Int32)  σ138 h) zs_223 rfl ⟨by decide, by decide⟩ ⟨rfl, rfl⟩ ⟨Nat.zero_le _, Nat.zero_le _⟩ rfl rfl (Nat.le_of_ble_eq_true rfl) dX10_lineLine_181 (fun r148 σ147 hb h => ?_)
                replace h := h hb
                refine zx_if_ne C 189 dX10_lineLine_184 (by decide) (fun q => ?_) (fun q => ?_)
                · replace h := h.1 q
                  refine zx_aload_n C dX10_lineLine_189 1 rfl ?_
                  refine zx_getR C zs_223 fg_X10_35 rfl 232 rfl dX10_lineLine_190 ?_
                  refine zx_iload C dX10_lineLine_193 0 rfl ?_
                  refine zx_aload_n C dX10_lineLine_195 1 rfl ?_
                  refine zx_getR C zs_223 fg_X10_38 rfl 233 rfl dX10_lineLine_196 ?_
                  refine zx_iconst (v := (0 : Int32)) C dX10_lineLine_199 (by decide) ?_
                  refine zx_iald C 0 zs_233 (by unfold vp_in; decide) (by decide) dX10_lineLine_200 ?_
                  obtain ⟨bd149, h⟩ := h
                  refine zx_iast C (r2).toNatClampNeg zs_232 bd149 rfl dX10_lineLine_201 ?_
                  refine zx_sig (fun σ150 eσ150 => ?_)
                  replace h := h σ150 eσ150
                  refine zx_iconst (v := (1 : Int32)) C dX10_lineLine_202 (by decide) ?_
                  exact zx_zret C hr dX10_lineLine_203 (Or.inr rfl) h
                · replace h := h.2 q
                  refine zx_iconst (v := (0 : Int32)) C dX10_lineLine_187 (by decide) ?_
                  exact zx_zret C hr dX10_lineLine_188 (Or.inl rfl) h
            · replace h := h.2 q
              refine zx_iconst (v := (1 : Int32)) C dX10_lineLine_150 (by decide) ?_
              refine zx_goto C 155 dX10_lineLine_151 (by decide) ?_
              refine zx_iload C dX10_lineLine_155 0 rfl ?_
              refine zx_iconst (v := (4 : Int32)) C dX10_lineLine_157 (by decide) ?_
              refine zx_icmp_ne C 166 dX10_lineLine_158 (by decide) (fun q => ?_) (fun q => ?_)
              · replace h := h.1 q
                refine zx_iload C dX10_lineLine_166 0 rfl ?_
                refine zx_bipush (v := (6 : Int32)) C dX10_lineLine_168 (by decide) ?_
                refine zx_icmp_ne C 179 dX10_lineLine_170 (by decide) (fun q => ?_) (fun q => ?_)
                · replace h := h.1 q
                  refine zx_bipush (v := (9 : Int32)) C dX10_lineLine_179 (by decide) ?_
                  refine zx_cVb C [.int (0 : Int32), .int (1 : Int32), .int (9 : Int32)] lk_X10_154 (c_X10_take l D cy g (0 : Int32) (1 : Int32) (9 : Int32)  σ138 h) zs_223 rfl ⟨by decide, by decide⟩ ⟨rfl, rfl⟩ ⟨Nat.zero_le _, Nat.zero_le _⟩ rfl rfl (Nat.le_of_ble_eq_true rfl) dX10_lineLine_181 (fun r152 σ151 hb h => ?_)
                  replace h := h hb
                  refine zx_if_ne C 189 dX10_lineLine_184 (by decide) (fun q => ?_) (fun q => ?_)
                  · replace h := h.1 q
                    refine zx_aload_n C dX10_lineLine_189 1 rfl ?_
                    refine zx_getR C zs_223 fg_X10_35 rfl 232 rfl dX10_lineLine_190 ?_
                    refine zx_iload C dX10_lineLine_193 0 rfl ?_
                    refine zx_aload_n C dX10_lineLine_195 1 rfl ?_
                    refine zx_getR C zs_223 fg_X10_38 rfl 233 rfl dX10_lineLine_196 ?_
                    refine zx_iconst (v := (0 : Int32)) C dX10_lineLine_199 (by decide) ?_
                    refine zx_iald C 0 zs_233 (by unfold vp_in; decide) (by decide) dX10_lineLine_200 ?_
                    obtain ⟨bd153, h⟩ := h
                    refine zx_iast C (r2).toNatClampNeg zs_232 bd153 rfl dX10_lineLine_201 ?_
                    refine zx_sig (fun σ154 eσ154 => ?_)
                    replace h := h σ154 eσ154
                    refine zx_iconst (v := (1 : Int32)) C dX10_lineLine_202 (by decide) ?_
                    exact zx_zret C hr dX10_lineLine_203 (Or.inr rfl) h
                  · replace h := h.2 q
                    refine zx_iconst (v := (0 : Int32)) C dX10_lineLine_187 (by decide) ?_
                    exact zx_zret C hr dX10_lineLine_188 (Or.inl rfl) h
                · replace h := h.2 q
                  refine zx_sipush (v := (999 : Int32)) C dX10_lineLine_173 (by decide) ?_
                  refine zx_goto C 181 dX10_lineLine_176 (by decide) ?_
                  refine zx_cVb C [.int (0 : Int32), .int (1 : Int32), .int (999 : Int32)] lk_X10_154 (c_X10_take l D cy g (0 : Int32) (1 : Int32) (999 : Int32)  σ138 h) zs_223 rfl ⟨by decide, by decide⟩ ⟨rfl, rfl⟩ ⟨Nat.zero_le _, Nat.zero_le _⟩ rfl rfl (Nat.le_of_ble_eq_true rfl) dX10_lineLine_181 (fun r156 σ155 hb h => ?_)
                  replace h := h hb
                  refine zx_if_ne C 189 dX10_lineLine_184 (by decide) (fun q => ?_) (fun q => ?_)
                  · replace h := h.1 q
                    refine zx_aload_n C dX10_lineLine_189 1 rfl ?_
                    refine zx_getR C zs_223 fg_X10_35 rfl 232 rfl dX10_lineLine_190 ?_
                    refine zx_iload C dX10_lineLine_193 0 rfl ?_
                    refine zx_aload_n C dX10_lineLine_195 1 rfl ?_
                    refine zx_getR C zs_223 fg_X10_38 rfl 233 rfl dX10_lineLine_196 ?_
                    refine zx_iconst (v := (0 : Int32)) C dX10_lineLine_199 (by decide) ?_
                    refine zx_iald C 0 zs_233 (by unfold vp_in; decide) (by decide) dX10_lineLine_200 ?_
                    obtain ⟨bd157, h⟩ := h
                    refine zx_iast C (r2).toNatClampNeg zs_232 bd157 rfl dX10_lineLine_201 ?_
                    refine zx_sig (fun σ158 eσ158 => ?_)
                    replace h := h σ158 eσ158
                    refine zx_iconst (v := (1 : Int32)) C dX10_lineLine_202 (by decide) ?_
                    exact zx_zret C hr dX10_lineLine_203 (Or.inr rfl) h
                  · replace h := h.2 q
                    refine zx_iconst (v := (0 : Int32)) C dX10_lineLine_187 (by decide) ?_
                    exact zx_zret C hr dX10_lineLine_188 (Or.inl rfl) h
              · replace h := h.2 q
                refine zx_bipush (v := (60 : Int32)) C dX10_lineLine_161 (by decide) ?_
                refine zx_goto C 181 dX10_lineLine_163 (by decide) ?_
                refine zx_cVb C [.int (0 : Int32), .int (1 : Int32), .int (60 : Int32)] lk_X10_154 (c_X10_take l D cy g (0 : Int32) (1 : Int32) (60 : Int32)  σ138 h) zs_223 rfl ⟨by decide, by decide⟩ ⟨rfl, rfl⟩ ⟨Nat.zero_le _, Nat.zero_le _⟩ rfl rfl (Nat.le_of_ble_eq_true rfl) dX10_lineLine_181 (fun r160 σ159 hb h => ?_)
                replace h := h hb
                refine zx_if_ne C 189 dX10_lineLine_184 (by decide) (fun q => ?_) (fun q => ?_)
                · replace h := h.1 q
                  refine zx_aload_n C dX10_lineLine_189 1 rfl ?_
                  refine zx_getR C zs_223 fg_X10_35 rfl 232 rfl dX10_lineLine_190 ?_
                  refine zx_iload C dX10_lineLine_193 0 rfl ?_
                  refine zx_aload_n C dX10_lineLine_195 1 rfl ?_
                  refine zx_getR C zs_223 fg_X10_38 rfl 233 rfl dX10_lineLine_196 ?_
                  refine zx_iconst (v := (0 : Int32)) C dX10_lineLine_199 (by decide) ?_
                  refine zx_iald C 0 zs_233 (by unfold vp_in; decide) (by decide) dX10_lineLine_200 ?_
                  obtain ⟨bd161, h⟩ := h
                  refine zx_iast C (r2).toNatClampNeg zs_232 bd161 rfl dX10_lineLine_201 ?_
                  refine zx_sig (fun σ162 eσ162 => ?_)
                  replace h := h σ162 eσ162
                  refine zx_iconst (v := (1 : Int32)) C dX10_lineLine_202 (by decide) ?_
                  exact zx_zret C hr dX10_lineLine_203 (Or.inr rfl) h
                · replace h := h.2 q
                  refine zx_iconst (v := (0 : Int32)) C dX10_lineLine_187 (by decide) ?_
                  exact zx_zret C hr dX10_lineLine_188 (Or.inl rfl) h
          · replace h := h.2 q
            refine zx_lload_n C dX10_lineLine_94 2 rfl ?_
            refine zx_ldc2 C dX10_lineLine_95 co_X10_185 ?_
            refine zx_lcmp C dX10_lineLine_98 ?_
            refine zx_if_ne C 109 dX10_lineLine_99 (by decide) (fun q => ?_) (fun q => ?_)
            · replace h := h.1 q
              refine zx_lload_n C dX10_lineLine_109 2 rfl ?_
              refine zx_ldc2 C dX10_lineLine_110 co_X10_187 ?_
              refine zx_lcmp C dX10_lineLine_113 ?_
              refine zx_if_ne C 124 dX10_lineLine_114 (by decide) (fun q => ?_) (fun q => ?_)
              · replace h := h.1 q
                refine zx_aload_n C dX10_lineLine_124 1 rfl ?_
                refine zx_lload_n C dX10_lineLine_125 2 rfl ?_
                refine zx_ldc2 C dX10_lineLine_126 co_X10_191 ?_
                refine zx_lcmp C dX10_lineLine_129 ?_
                refine zx_if_ne C 137 dX10_lineLine_130 (by decide) (fun q => ?_) (fun q => ?_)
                · replace h := h.1 q
                  refine zx_iconst (v := (0 : Int32)) C dX10_lineLine_137 (by decide) ?_
                  refine zx_cVb C [.int (0 : Int32)] lk_X10_203 (c_X10_ofPost l D cy g (0 : Int32)  σ138 h) zs_223 rfl ⟨by decide, by decide⟩ ⟨rfl, rfl⟩ ⟨Nat.zero_le _, Nat.zero_le _⟩ rfl rfl (Nat.le_of_ble_eq_true rfl) dX10_lineLine_138 (fun r164 σ163 hb h => ?_)
                  replace h := h hb
                  exact zx_zret C hr dX10_lineLine_141 h.1 h.2
                · replace h := h.2 q
                  refine zx_iconst (v := (1 : Int32)) C dX10_lineLine_133 (by decide) ?_
                  refine zx_goto C 138 dX10_lineLine_134 (by decide) ?_
                  refine zx_cVb C [.int (1 : Int32)] lk_X10_203 (c_X10_ofPost l D cy g (1 : Int32)  σ138 h) zs_223 rfl ⟨by decide, by decide⟩ ⟨rfl, rfl⟩ ⟨Nat.zero_le _, Nat.zero_le _⟩ rfl rfl (Nat.le_of_ble_eq_true rfl) dX10_lineLine_138 (fun r166 σ165 hb h => ?_)
                  replace h := h hb
                  exact zx_zret C hr dX10_lineLine_141 h.1 h.2
              · replace h := h.2 q
                refine zx_aload_n C dX10_lineLine_117 1 rfl ?_
                refine zx_cVb C [] lk_X10_200 (c_X10_riderLine l D cy g   σ138 h) zs_223 rfl ⟨by decide, by decide⟩ ⟨rfl, rfl⟩ ⟨Nat.zero_le _, Nat.zero_le _⟩ rfl rfl (Nat.le_of_ble_eq_true rfl) dX10_lineLine_118 (fun r168 σ167 hb h => ?_)
                replace h := h hb
                refine zx_goto C 141 dX10_lineLine_121 (by decide) ?_
                exact zx_zret C hr dX10_lineLine_141 h.1 h.2
            · replace h := h.2 q
              refine zx_aload_n C dX10_lineLine_102 1 rfl ?_
              refine zx_cVb C [] lk_X10_197 (c_X10_postLine l D cy g   σ138 h) zs_223 rfl ⟨by decide, by decide⟩ ⟨rfl, rfl⟩ ⟨Nat.zero_le _, Nat.zero_le _⟩ rfl rfl (Nat.le_of_ble_eq_true rfl) dX10_lineLine_103 (fun r170 σ169 hb h => ?_)
              replace h := h hb
              refine zx_goto C 141 dX10_lineLine_106 (by decide) ?_
              exact zx_zret C hr dX10_lineLine_141 h.1 h.2
      · replace h := h.2 q
        refine zx_aload_n C dX10_lineLine_57 1 rfl ?_
        refine zx_iconst (v := (0 : Int32)) C dX10_lineLine_58 (by decide) ?_
        refine zx_bipush (v := (16 : Int32)) C dX10_lineLine_59 (by decide) ?_
        refine zx_iload_n C dX10_lineLine_61 3 rfl ?_
        refine zx_cVv C [.int (0 : Int32), .int (16 : Int32), .int a2] lk_X10_193 (c_X10_full l D cy g (0 : Int32) (16 : Int32) a2  σ1 h) zs_223 rfl ⟨by decide, by decide⟩ ⟨rfl, rfl⟩ ⟨Nat.zero_le _, Nat.zero_le _⟩ rfl rfl (Nat.le_of_ble_eq_true rfl) dX10_lineLine_62 (fun σ171 h => ?_)
        refine zx_goto C 84 dX10_lineLine_65 (by decide) ?_
        refine zx_aload_n C dX10_lineLine_84 1 rfl ?_
        refine zx_cVv C [] lk_X10_151 (c_X10_token l D cy g   σ171 h) zs_223 rfl ⟨by decide, by decide⟩ ⟨rfl, rfl⟩ ⟨Nat.zero_le _, Nat.zero_le _⟩ rfl rfl (Nat.le_of_ble_eq_true rfl) dX10_lineLine_85 (fun σ172 h => ?_)
        refine zx_iload C dX10_lineLine_88 0 rfl ?_
        refine zx_iconst (v := (-1 : Int32)) C dX10_lineLine_90 (by decide) ?_
        refine zx_icmp_ne C 142 dX10_lineLine_91 (by decide) (fun q => ?_) (fun q => ?_)
        · replace h := h.1 q
          refine zx_aload_n C dX10_lineLine_142 1 rfl ?_
          refine zx_iconst (v := (0 : Int32)) C dX10_lineLine_143 (by decide) ?_
          refine zx_iload C dX10_lineLine_144 0 rfl ?_
          refine zx_iconst (v := (2 : Int32)) C dX10_lineLine_146 (by decide) ?_
          refine zx_icmp_ne C 154 dX10_lineLine_147 (by decide) (fun q => ?_) (fun q => ?_)
          · replace h := h.1 q
            refine zx_iconst (v := (0 : Int32)) C dX10_lineLine_154 (by decide) ?_
            refine zx_iload C dX10_lineLine_155 0 rfl ?_
            refine zx_iconst (v := (4 : Int32)) C dX10_lineLine_157 (by decide) ?_
            refine zx_icmp_ne C 166 dX10_lineLine_158 (by decide) (fun q => ?_) (fun q => ?_)
            · replace h := h.1 q
              refine zx_iload C dX10_lineLine_166 0 rfl ?_
              refine zx_bipush (v := (6 : Int32)) C dX10_lineLine_168 (by decide) ?_
              refine zx_icmp_ne C 179 dX10_lineLine_170 (by decide) (fun q => ?_) (fun q => ?_)
              · replace h := h.1 q
                refine zx_bipush (v := (9 : Int32)) C dX10_lineLine_179 (by decide) ?_
                refine zx_cVb C [.int (0 : Int32), .int (0 : Int32), .int (9 : Int32)] lk_X10_154 (c_X10_take l D cy g (0 : Int32) (0 : Int32) (9 : Int32)  σ172 h) zs_223 rfl ⟨by decide, by decide⟩ ⟨rfl, rfl⟩ ⟨Nat.zero_le _, Nat.zero_le _⟩ rfl rfl (Nat.le_of_ble_eq_true rfl) dX10_lineLine_181 (fun r174 σ173 hb h => ?_)
                replace h := h hb
                refine zx_if_ne C 189 dX10_lineLine_184 (by decide) (fun q => ?_) (fun q => ?_)
                · replace h := h.1 q
                  refine zx_aload_n C dX10_lineLine_189 1 rfl ?_
                  refine zx_getR C zs_223 fg_X10_35 rfl 232 rfl dX10_lineLine_190 ?_
                  refine zx_iload C dX10_lineLine_193 0 rfl ?_
                  refine zx_aload_n C dX10_lineLine_195 1 rfl ?_
                  refine zx_getR C zs_223 fg_X10_38 rfl 233 rfl dX10_lineLine_196 ?_
                  refine zx_iconst (v := (0 : Int32)) C dX10_lineLine_199 (by decide) ?_
                  refine zx_iald C 0 zs_233 (by unfold vp_in; decide) (by decide) dX10_lineLine_200 ?_
                  obtain ⟨bd175, h⟩ := h
                  refine zx_iast C (r2).toNatClampNeg zs_232 bd175 rfl dX10_lineLine_201 ?_
                  refine zx_sig (fun σ176 eσ176 => ?_)
                  replace h := h σ176 eσ176
                  refine zx_iconst (v := (1 : Int32)) C dX10_lineLine_202 (by decide) ?_
                  exact zx_zret C hr dX10_lineLine_203 (Or.inr rfl) h
                · replace h := h.2 q
                  refine zx_iconst (v := (0 : Int32)) C dX10_lineLine_187 (by decide) ?_
                  exact zx_zret C hr dX10_lineLine_188 (Or.inl rfl) h
              · replace h := h.2 q
                refine zx_sipush (v := (999 : Int32)) C dX10_lineLine_173 (by decide) ?_
                refine zx_goto C 181 dX10_lineLine_176 (by decide) ?_
                refine zx_cVb C [.int (0 : Int32), .int (0 : Int32), .int (999 : Int32)] lk_X10_154 (c_X10_take l D cy g (0 : Int32) (0 : Int32) (999 : Int32)  σ172 h) zs_223 rfl ⟨by decide, by decide⟩ ⟨rfl, rfl⟩ ⟨Nat.zero_le _, Nat.zero_le _⟩ rfl rfl (Nat.le_of_ble_eq_true rfl) dX10_lineLine_181 (fun r178 σ177 hb h => ?_)
                replace h := h hb
                refine zx_if_ne C 189 dX10_lineLine_184 (by decide) (fun q => ?_) (fun q => ?_)
                · replace h := h.1 q
                  refine zx_aload_n C dX10_lineLine_189 1 rfl ?_
                  refine zx_getR C zs_223 fg_X10_35 rfl 232 rfl dX10_lineLine_190 ?_
                  refine zx_iload C dX10_lineLine_193 0 rfl ?_
                  refine zx_aload_n C dX10_lineLine_195 1 rfl ?_
                  refine zx_getR C zs_223 fg_X10_38 rfl 233 rfl dX10_lineLine_196 ?_
                  refine zx_iconst (v := (0 : Int32)) C dX10_lineLine_199 (by decide) ?_
                  refine zx_iald C 0 zs_233 (by unfold vp_in; decide) (by decide) dX10_lineLine_200 ?_
                  obtain ⟨bd179, h⟩ := h
                  refine zx_iast C (r2).toNatClampNeg zs_232 bd179 rfl dX10_lineLine_201 ?_
                  refine zx_sig (fun σ180 eσ180 => ?_)
                  replace h := h σ180 eσ180
                  refine zx_iconst (v := (1 : Int32)) C dX10_lineLine_202 (by decide) ?_
                  exact zx_zret C hr dX10_lineLine_203 (Or.inr rfl) h
                · replace h := h.2 q
                  refine zx_iconst (v := (0 : Int32)) C dX10_lineLine_187 (by decide) ?_
                  exact zx_zret C hr dX10_lineLine_188 (Or.inl rfl) h
            · replace h := h.2 q
              refine zx_bipush (v := (60 : Int32)) C dX10_lineLine_161 (by decide) ?_
              refine zx_goto C 181 dX10_lineLine_163 (by decide) ?_
              refine zx_cVb C [.int (0 : Int32), .int (0 : Int32), .int (60 : Int32)] lk_X10_154 (c_X10_take l D cy g (0 : Int32) (0 : Int32) (60 : Int32)  σ172 h) zs_223 rfl ⟨by decide, by decide⟩ ⟨rfl, rfl⟩ ⟨Nat.zero_le _, Nat.zero_le _⟩ rfl rfl (Nat.le_of_ble_eq_true rfl) dX10_lineLine_181 (fun r182 σ181 hb h => ?_)
              replace h := h hb
              refine zx_if_ne C 189 dX10_lineLine_184 (by decide) (fun q => ?_) (fun q => ?_)
              · replace h := h.1 q
                refine zx_aload_n C dX10_lineLine_189 1 rfl ?_
                refine zx_getR C zs_223 fg_X10_35 rfl 232 rfl dX10_lineLine_190 ?_
                refine zx_iload C dX10_lineLine_193 0 rfl ?_
                refine zx_aload_n C dX10_lineLine_195 1 rfl ?_
                refine zx_getR C zs_223 fg_X10_38 rfl 233 rfl dX10_lineLine_196 ?_
                refine zx_iconst (v := (0 : Int32)) C dX10_lineLine_199 (by decide) ?_
                refine zx_iald C 0 zs_233 (by unfold vp_in; decide) (by decide) dX10_lineLine_200 ?_
                obtain ⟨bd183, h⟩ := h
                refine zx_iast C (r2).toNatClampNeg zs_232 bd183 rfl dX10_lineLine_201 ?_
                refine zx_sig (fun σ184 eσ184 => ?_)
                replace h := h σ184 eσ184
                refine zx_iconst (v := (1 : Int32)) C dX10_lineLine_202 (by decide) ?_
                exact zx_zret C hr dX10_lineLine_203 (Or.inr rfl) h
              · replace h := h.2 q
                refine zx_iconst (v := (0 : Int32)) C dX10_lineLine_187 (by decide) ?_
                exact zx_zret C hr dX10_lineLine_188 (Or.inl rfl) h
          · replace h := h.2 q
            refine zx_iconst (v := (1 : Int32)) C dX10_lineLine_150 (by decide) ?_
            refine zx_goto C 155 dX10_lineLine_151 (by decide) ?_
            refine zx_iload C dX10_lineLine_155 0 rfl ?_
            refine zx_iconst (v := (4 : Int32)) C dX10_lineLine_157 (by decide) ?_
            refine zx_icmp_ne C 166 dX10_lineLine_158 (by decide) (fun q => ?_) (fun q => ?_)
            · replace h := h.1 q
              refine zx_iload C dX10_lineLine_166 0 rfl ?_
              refine zx_bipush (v := (6 : Int32)) C dX10_lineLine_168 (by decide) ?_
              refine zx_icmp_ne C 179 dX10_lineLine_170 (by decide) (fun q => ?_) (fun q => ?_)
              · replace h := h.1 q
                refine zx_bipush (v := (9 : Int32)) C dX10_lineLine_179 (by decide) ?_
                refine zx_cVb C [.int (0 : Int32), .int (1 : Int32), .int (9 : Int32)] lk_X10_154 (c_X10_take l D cy g (0 : Int32) (1 : Int32) (9 : Int32)  σ172 h) zs_223 rfl ⟨by decide, by decide⟩ ⟨rfl, rfl⟩ ⟨Nat.zero_le _, Nat.zero_le _⟩ rfl rfl (Nat.le_of_ble_eq_true rfl) dX10_lineLine_181 (fun r186 σ185 hb h => ?_)
                replace h := h hb
                refine zx_if_ne C 189 dX10_lineLine_184 (by decide) (fun q => ?_) (fun q => ?_)
                · replace h := h.1 q
                  refine zx_aload_n C dX10_lineLine_189 1 rfl ?_
                  refine zx_getR C zs_223 fg_X10_35 rfl 232 rfl dX10_lineLine_190 ?_
                  refine zx_iload C dX10_lineLine_193 0 rfl ?_
                  refine zx_aload_n C dX10_lineLine_195 1 rfl ?_
                  refine zx_getR C zs_223 fg_X10_38 rfl 233 rfl dX10_lineLine_196 ?_
                  refine zx_iconst (v := (0 : Int32)) C dX10_lineLine_199 (by decide) ?_
                  refine zx_iald C 0 zs_233 (by unfold vp_in; decide) (by decide) dX10_lineLine_200 ?_
                  obtain ⟨bd187, h⟩ := h
                  refine zx_iast C (r2).toNatClampNeg zs_232 bd187 rfl dX10_lineLine_201 ?_
                  refine zx_sig (fun σ188 eσ188 => ?_)
                  replace h := h σ188 eσ188
                  refine zx_iconst (v := (1 : Int32)) C dX10_lineLine_202 (by decide) ?_
                  exact zx_zret C hr dX10_lineLine_203 (Or.inr rfl) h
                · replace h := h.2 q
                  refine zx_iconst (v := (0 : Int32)) C dX10_lineLine_187 (by decide) ?_
                  exact zx_zret C hr dX10_lineLine_188 (Or.inl rfl) h
              · replace h := h.2 q
                refine zx_sipush (v := (999 : Int32)) C dX10_lineLine_173 (by decide) ?_
                refine zx_goto C 181 dX10_lineLine_176 (by decide) ?_
                refine zx_cVb C [.int (0 : Int32), .int (1 : Int32), .int (999 : Int32)] lk_X10_154 (c_X10_take l D cy g (0 : Int32) (1 : Int32) (999 : Int32)  σ172 h) zs_223 rfl ⟨by decide, by decide⟩ ⟨rfl, rfl⟩ ⟨Nat.zero_le _, Nat.zero_le _⟩ rfl rfl (Nat.le_of_ble_eq_true rfl) dX10_lineLine_181 (fun r190 σ189 hb h => ?_)
                replace h := h hb
                refine zx_if_ne C 189 dX10_lineLine_184 (by decide) (fun q => ?_) (fun q => ?_)
                · replace h := h.1 q
                  refine zx_aload_n C dX10_lineLine_189 1 rfl ?_
                  refine zx_getR C zs_223 fg_X10_35 rfl 232 rfl dX10_lineLine_190 ?_
                  refine zx_iload C dX10_lineLine_193 0 rfl ?_
                  refine zx_aload_n C dX10_lineLine_195 1 rfl ?_
                  refine zx_getR C zs_223 fg_X10_38 rfl 233 rfl dX10_lineLine_196 ?_
                  refine zx_iconst (v := (0 : Int32)) C dX10_lineLine_199 (by decide) ?_
                  refine zx_iald C 0 zs_233 (by unfold vp_in; decide) (by decide) dX10_lineLine_200 ?_
                  obtain ⟨bd191, h⟩ := h
                  refine zx_iast C (r2).toNatClampNeg zs_232 bd191 rfl dX10_lineLine_201 ?_
                  refine zx_sig (fun σ192 eσ192 => ?_)
                  replace h := h σ192 eσ192
                  refine zx_iconst (v := (1 : Int32)) C dX10_lineLine_202 (by decide) ?_
                  exact zx_zret C hr dX10_lineLine_203 (Or.inr rfl) h
                · replace h := h.2 q
                  refine zx_iconst (v := (0 : Int32)) C dX10_lineLine_187 (by decide) ?_
                  exact zx_zret C hr dX10_lineLine_188 (Or.inl rfl) h
            · replace h := h.2 q
              refine zx_bipush (v := (60 : Int32)) C dX10_lineLine_161 (by decide) ?_
              refine zx_goto C 181 dX10_lineLine_163 (by decide) ?_
              refine zx_cVb C [.int (0 : Int32), .int (1 : Int32), .int (60 : Int32)] lk_X10_154 (c_X10_take l D cy g (0 : Int32) (1 : Int32) (60 : Int32)  σ172 h) zs_223 rfl ⟨by decide, by decide⟩ ⟨rfl, rfl⟩ ⟨Nat.zero_le _, Nat.zero_le _⟩ rfl rfl (Nat.le_of_ble_eq_true rfl) dX10_lineLine_181 (fun r194 σ193 hb h => ?_)
              replace h := h hb
              refine zx_if_ne C 189 dX10_lineLine_184 (by decide) (fun q => ?_) (fun q => ?_)
              · replace h := h.1 q
                refine zx_aload_n C dX10_lineLine_189 1 rfl ?_
                refine zx_getR C zs_223 fg_X10_35 rfl 232 rfl dX10_lineLine_190 ?_
                refine zx_iload C dX10_lineLine_193 0 rfl ?_
                refine zx_aload_n C dX10_lineLine_195 1 rfl ?_
                refine zx_getR C zs_223 fg_X10_38 rfl 233 rfl dX10_lineLine_196 ?_
                refine zx_iconst (v := (0 : Int32)) C dX10_lineLine_199 (by decide) ?_
                refine zx_iald C 0 zs_233 (by unfold vp_in; decide) (by decide) dX10_lineLine_200 ?_
                obtain ⟨bd195, h⟩ := h
                refine zx_iast C (r2).toNatClampNeg zs_232 bd195 rfl dX10_lineLine_201 ?_
                refine zx_sig (fun σ196 eσ196 => ?_)
                replace h := h σ196 eσ196
                refine zx_iconst (v := (1 : Int32)) C dX10_lineLine_202 (by decide) ?_
                exact zx_zret C hr dX10_lineLine_203 (Or.inr rfl) h
              · replace h := h.2 q
                refine zx_iconst (v := (0 : Int32)) C dX10_lineLine_187 (by decide) ?_
                exact zx_zret C hr dX10_lineLine_188 (Or.inl rfl) h
        · replace h := h.2 q
          refine zx_lload_n C dX10_lineLine_94 2 rfl ?_
          refine zx_ldc2 C dX10_lineLine_95 co_X10_185 ?_
          refine zx_lcmp C dX10_lineLine_98 ?_
          refine zx_if_ne C 109 dX10_lineLine_99 (by decide) (fun q => ?_) (fun q => ?_)
          · replace h := h.1 q
            refine zx_lload_n C dX10_lineLine_109 2 rfl ?_
            refine zx_ldc2 C dX10_lineLine_110 co_X10_187 ?_
            refine zx_lcmp C dX10_lineLine_113 ?_
            refine zx_if_ne C 124 dX10_lineLine_114 (by decide) (fun q => ?_) (fun q => ?_)
            · replace h := h.1 q
              refine zx_aload_n C dX10_lineLine_124 1 rfl ?_
              refine zx_lload_n C dX10_lineLine_125 2 rfl ?_
              refine zx_ldc2 C dX10_lineLine_126 co_X10_191 ?_
              refine zx_lcmp C dX10_lineLine_129 ?_
              refine zx_if_ne C 137 dX10_lineLine_130 (by decide) (fun q => ?_) (fun q => ?_)
              · replace h := h.1 q
                refine zx_iconst (v := (0 : Int32)) C dX10_lineLine_137 (by decide) ?_
                refine zx_cVb C [.int (0 : Int32)] lk_X10_203 (c_X10_ofPost l D cy g (0 : Int32)  σ172 h) zs_223 rfl ⟨by decide, by decide⟩ ⟨rfl, rfl⟩ ⟨Nat.zero_le _, Nat.zero_le _⟩ rfl rfl (Nat.le_of_ble_eq_true rfl) dX10_lineLine_138 (fun r198 σ197 hb h => ?_)
                replace h := h hb
                exact zx_zret C hr dX10_lineLine_141 h.1 h.2
              · replace h := h.2 q
                refine zx_iconst (v := (1 : Int32)) C dX10_lineLine_133 (by decide) ?_
                refine zx_goto C 138 dX10_lineLine_134 (by decide) ?_
                refine zx_cVb C [.int (1 : Int32)] lk_X10_203 (c_X10_ofPost l D cy g (1 : Int32)  σ172 h) zs_223 rfl ⟨by decide, by decide⟩ ⟨rfl, rfl⟩ ⟨Nat.zero_le _, Nat.zero_le _⟩ rfl rfl (Nat.le_of_ble_eq_true rfl) dX10_lineLine_138 (fun r200 σ199 hb h => ?_)
                replace h := h hb
                exact zx_zret C hr dX10_lineLine_141 h.1 h.2
            · replace h := h.2 q
              refine zx_aload_n C dX10_lineLine_117 1 rfl ?_
              refine zx_cVb C [] lk_X10_200 (c_X10_riderLine l D cy g   σ172 h) zs_223 rfl ⟨by decide, by decide⟩ ⟨rfl, rfl⟩ ⟨Nat.zero_le _, Nat.zero_le _⟩ rfl rfl (Nat.le_of_ble_eq_true rfl) dX10_lineLine_118 (fun r202 σ201 hb h => ?_)
              replace h := h hb
              refine zx_goto C 141 dX10_lineLine_121 (by decide) ?_
              exact zx_zret C hr dX10_lineLine_141 h.1 h.2
          · replace h := h.2 q
            refine zx_aload_n C dX10_lineLine_102 1 rfl ?_
            refine zx_cVb C [] lk_X10_197 (c_X10_postLine l D cy g   σ172 h) zs_223 rfl ⟨by decide, by decide⟩ ⟨rfl, rfl⟩ ⟨Nat.zero_le _, Nat.zero_le _⟩ rfl rfl (Nat.le_of_ble_eq_true rfl) dX10_lineLine_103 (fun r204 σ203 hb h => ?_)
            replace h := h hb
            refine zx_goto C 141 dX10_lineLine_106 (by decide) ?_
            exact zx_zret C hr dX10_lineLine_141 h.1 h.2
    · replace h := h.2 q
      refine zx_lload_n C dX10_lineLine_20 2 rfl ?_
      refine zx_ldc2 C dX10_lineLine_21 co_X10_187 ?_
      refine zx_lcmp C dX10_lineLine_24 ?_
      refine zx_if_eq C 49 dX10_lineLine_25 (by decide) (fun q => ?_) (fun q => ?_)
      · replace h := h.1 q
        refine zx_lload_n C dX10_lineLine_49 2 rfl ?_
        refine zx_ldc2 C dX10_lineLine_50 co_X10_185 ?_
        refine zx_lcmp C dX10_lineLine_53 ?_
        refine zx_if_ne C 68 dX10_lineLine_54 (by decide) (fun q => ?_) (fun q => ?_)
        · replace h := h.1 q
          refine zx_lload_n C dX10_lineLine_68 2 rfl ?_
          refine zx_ldc2 C dX10_lineLine_69 co_X10_187 ?_
          refine zx_lcmp C dX10_lineLine_72 ?_
          refine zx_if_ne C 84 dX10_lineLine_73 (by decide) (fun q => ?_) (fun q => ?_)
          · replace h := h.1 q
            refine zx_aload_n C dX10_lineLine_84 1 rfl ?_
            refine zx_cVv C [] lk_X10_151 (c_X10_token l D cy g   σ1 h) zs_223 rfl ⟨by decide, by decide⟩ ⟨rfl, rfl⟩ ⟨Nat.zero_le _, Nat.zero_le _⟩ rfl rfl (Nat.le_of_ble_eq_true rfl) dX10_lineLine_85 (fun σ205 h => ?_)
            refine zx_iload C dX10_lineLine_88 0 rfl ?_
            refine zx_iconst (v := (-1 : Int32)) C dX10_lineLine_90 (by decide) ?_
            refine zx_icmp_ne C 142 dX10_lineLine_91 (by decide) (fun q => ?_) (fun q => ?_)
            · replace h := h.1 q
              refine zx_aload_n C dX10_lineLine_142 1 rfl ?_
              refine zx_iconst (v := (0 : Int32)) C dX10_lineLine_143 (by decide) ?_
              refine zx_iload C dX10_lineLine_144 0 rfl ?_
              refine zx_iconst (v := (2 : Int32)) C dX10_lineLine_146 (by decide) ?_
              refine zx_icmp_ne C 154 dX10_lineLine_147 (by decide) (fun q => ?_) (fun q => ?_)
              · replace h := h.1 q
                refine zx_iconst (v := (0 : Int32)) C dX10_lineLine_154 (by decide) ?_
                refine zx_iload C dX10_lineLine_155 0 rfl ?_
                refine zx_iconst (v := (4 : Int32)) C dX10_lineLine_157 (by decide) ?_
                refine zx_icmp_ne C 166 dX10_lineLine_158 (by decide) (fun q => ?_) (fun q => ?_)
                · replace h := h.1 q
                  refine zx_iload C dX10_lineLine_166 0 rfl ?_
                  refine zx_bipush (v := (6 : Int32)) C dX10_lineLine_168 (by decide) ?_
                  refine zx_icmp_ne C 179 dX10_lineLine_170 (by decide) (fun q => ?_) (fun q => ?_)
                  · replace h := h.1 q
                    refine zx_bipush (v := (9 : Int32)) C dX10_lineLine_179 (by decide) ?_
                    refine zx_cVb C [.int (0 : Int32), .int (0 : Int32), .int (9 : Int32)] lk_X10_154 (c_X10_take l D cy g (0 : Int32) (0 : Int32) (9 : Int32)  σ205 h) zs_223 rfl ⟨by decide, by decide⟩ ⟨rfl, rfl⟩ ⟨Nat.zero_le _, Nat.zero_le _⟩ rfl rfl (Nat.le_of_ble_eq_true rfl) dX10_lineLine_181 (fun r207 σ206 hb h => ?_)
                    replace h := h hb
                    refine zx_if_ne C 189 dX10_lineLine_184 (by decide) (fun q => ?_) (fun q => ?_)
                    · replace h := h.1 q
                      refine zx_aload_n C dX10_lineLine_189 1 rfl ?_
                      refine zx_getR C zs_223 fg_X10_35 rfl 232 rfl dX10_lineLine_190 ?_
                      refine zx_iload C dX10_lineLine_193 0 rfl ?_
                      refine zx_aload_n C dX10_lineLine_195 1 rfl ?_
                      refine zx_getR C zs_223 fg_X10_38 rfl 233 rfl dX10_lineLine_196 ?_
                      refine zx_iconst (v := (0 : Int32)) C dX10_lineLine_199 (by decide) ?_
                      refine zx_iald C 0 zs_233 (by unfold vp_in; decide) (by decide) dX10_lineLine_200 ?_
                      obtain ⟨bd208, h⟩ := h
                      refine zx_iast C (r2).toNatClampNeg zs_232 bd208 rfl dX10_lineLine_201 ?_
                      refine zx_sig (fun σ209 eσ209 => ?_)
                      replace h := h σ209 eσ209
                      refine zx_iconst (v := (1 : Int32)) C dX10_lineLine_202 (by decide) ?_
                      exact zx_zret C hr dX10_lineLine_203 (Or.inr rfl) h
                    · replace h := h.2 q
                      refine zx_iconst (v := (0 : Int32)) C dX10_lineLine_187 (by decide) ?_
                      exact zx_zret C hr dX10_lineLine_188 (Or.inl rfl) h
                  · replace h := h.2 q
                    refine zx_sipush (v := (999 : Int32)) C dX10_lineLine_173 (by decide) ?_
                    refine zx_goto C 181 dX10_lineLine_176 (by decide) ?_
                    refine zx_cVb C [.int (0 : Int32), .int (0 : Int32), .int (999 : Int32)] lk_X10_154 (c_X10_take l D cy g (0 : Int32) (0 : Int32) (999 : Int32)  σ205 h) zs_223 rfl ⟨by decide, by decide⟩ ⟨rfl, rfl⟩ ⟨Nat.zero_le _, Nat.zero_le _⟩ rfl rfl (Nat.le_of_ble_eq_true rfl) dX10_lineLine_181 (fun r211 σ210 hb h => ?_)
                    replace h := h hb
                    refine zx_if_ne C 189 dX10_lineLine_184 (by decide) (fun q => ?_) (fun q => ?_)
                    · replace h := h.1 q
                      refine zx_aload_n C dX10_lineLine_189 1 rfl ?_
                      refine zx_getR C zs_223 fg_X10_35 rfl 232 rfl dX10_lineLine_190 ?_
                      refine zx_iload C dX10_lineLine_193 0 rfl ?_
                      refine zx_aload_n C dX10_lineLine_195 1 rfl ?_
                      refine zx_getR C zs_223 fg_X10_38 rfl 233 rfl dX10_lineLine_196 ?_
                      refine zx_iconst (v := (0 : Int32)) C dX10_lineLine_199 (by decide) ?_
                      refine zx_iald C 0 zs_233 (by unfold vp_in; decide) (by decide) dX10_lineLine_200 ?_
                      obtain ⟨bd212, h⟩ := h
                      refine zx_iast C (r2).toNatClampNeg zs_232 bd212 rfl dX10_lineLine_201 ?_
                      refine zx_sig (fun σ213 eσ213 => ?_)
                      replace h := h σ213 eσ213
                      refine zx_iconst (v := (1 : Int32)) C dX10_lineLine_202 (by decide) ?_
                      exact zx_zret C hr dX10_lineLine_203 (Or.inr rfl) h
                    · replace h := h.2 q
                      refine zx_iconst (v := (0 : Int32)) C dX10_lineLine_187 (by decide) ?_
                      exact zx_zret C hr dX10_lineLine_188 (Or.inl rfl) h
                · replace h := h.2 q
                  refine zx_bipush (v := (60 : Int32)) C dX10_lineLine_161 (by decide) ?_
                  refine zx_goto C 181 dX10_lineLine_163 (by decide) ?_
                  refine zx_cVb C [.int (0 : Int32), .int (0 : Int32), .int (60 : Int32)] lk_X10_154 (c_X10_take l D cy g (0 : Int32) (0 : Int32) (60 : Int32)  σ205 h) zs_223 rfl ⟨by decide, by decide⟩ ⟨rfl, rfl⟩ ⟨Nat.zero_le _, Nat.zero_le _⟩ rfl rfl (Nat.le_of_ble_eq_true rfl) dX10_lineLine_181 (fun r215 σ214 hb h => ?_)
                  replace h := h hb
                  refine zx_if_ne C 189 dX10_lineLine_184 (by decide) (fun q => ?_) (fun q => ?_)
                  · replace h := h.1 q
                    refine zx_aload_n C dX10_lineLine_189 1 rfl ?_
                    refine zx_getR C zs_223 fg_X10_35 rfl 232 rfl dX10_lineLine_190 ?_
                    refine zx_iload C dX10_lineLine_193 0 rfl ?_
                    refine zx_aload_n C dX10_lineLine_195 1 rfl ?_
                    refine zx_getR C zs_223 fg_X10_38 rfl 233 rfl dX10_lineLine_196 ?_
                    refine zx_iconst (v := (0 : Int32)) C dX10_lineLine_199 (by decide) ?_
                    refine zx_iald C 0 zs_233 (by unfold vp_in; decide) (by decide) dX10_lineLine_200 ?_
                    obtain ⟨bd216, h⟩ := h
                    refine zx_iast C (r2).toNatClampNeg zs_232 bd216 rfl dX10_lineLine_201 ?_
                    refine zx_sig (fun σ217 eσ217 => ?_)
                    replace h := h σ217 eσ217
                    refine zx_iconst (v := (1 : Int32)) C dX10_lineLine_202 (by decide) ?_
                    exact zx_zret C hr dX10_lineLine_203 (Or.inr rfl) h
                  · replace h := h.2 q
                    refine zx_iconst (v := (0 : Int32)) C dX10_lineLine_187 (by decide) ?_
                    exact zx_zret C hr dX10_lineLine_188 (Or.inl rfl) h
              · replace h := h.2 q
                refine zx_iconst (v := (1 : Int32)) C dX10_lineLine_150 (by decide) ?_
                refine zx_goto C 155 dX10_lineLine_151 (by decide) ?_
                refine zx_iload C dX10_lineLine_155 0 rfl ?_
                refine zx_iconst (v := (4 : Int32)) C dX10_lineLine_157 (by decide) ?_
                refine zx_icmp_ne C 166 dX10_lineLine_158 (by decide) (fun q => ?_) (fun q => ?_)
                · replace h := h.1 q
                  refine zx_iload C dX10_lineLine_166 0 rfl ?_
                  refine zx_bipush (v := (6 : Int32)) C dX10_lineLine_168 (by decide) ?_
                  refine zx_icmp_ne C 179 dX10_lineLine_170 (by decide) (fun q => ?_) (fun q => ?_)
                  · replace h := h.1 q
                    refine zx_bipush (v := (9 : Int32)) C dX10_lineLine_179 (by decide) ?_
                    refine zx_cVb C [.int (0 : Int32), .int (1 : Int32), .int (9 : Int32)] lk_X10_154 (c_X10_take l D cy g (0 : Int32) (1 : Int32) (9 : Int32)  σ205 h) zs_223 rfl ⟨by decide, by decide⟩ ⟨rfl, rfl⟩ ⟨Nat.zero_le _, Nat.zero_le _⟩ rfl rfl (Nat.le_of_ble_eq_true rfl) dX10_lineLine_181 (fun r219 σ218 hb h => ?_)
                    replace h := h hb
                    refine zx_if_ne C 189 dX10_lineLine_184 (by decide) (fun q => ?_) (fun q => ?_)
                    · replace h := h.1 q
                      refine zx_aload_n C dX10_lineLine_189 1 rfl ?_
                      refine zx_getR C zs_223 fg_X10_35 rfl 232 rfl dX10_lineLine_190 ?_
                      refine zx_iload C dX10_lineLine_193 0 rfl ?_
                      refine zx_aload_n C dX10_lineLine_195 1 rfl ?_
                      refine zx_getR C zs_223 fg_X10_38 rfl 233 rfl dX10_lineLine_196 ?_
                      refine zx_iconst (v := (0 : Int32)) C dX10_lineLine_199 (by decide) ?_
                      refine zx_iald C 0 zs_233 (by unfold vp_in; decide) (by decide) dX10_lineLine_200 ?_
                      obtain ⟨bd220, h⟩ := h
                      refine zx_iast C (r2).toNatClampNeg zs_232 bd220 rfl dX10_lineLine_201 ?_
                      refine zx_sig (fun σ221 eσ221 => ?_)
                      replace h := h σ221 eσ221
                      refine zx_iconst (v := (1 : Int32)) C dX10_lineLine_202 (by decide) ?_
                      exact zx_zret C hr dX10_lineLine_203 (Or.inr rfl) h
                    · replace h := h.2 q
                      refine zx_iconst (v := (0 : Int32)) C dX10_lineLine_187 (by decide) ?_
                      exact zx_zret C hr dX10_lineLine_188 (Or.inl rfl) h
                  · replace h := h.2 q
                    refine zx_sipush (v := (999 : Int32)) C dX10_lineLine_173 (by decide) ?_
                    refine zx_goto C 181 dX10_lineLine_176 (by decide) ?_
                    refine zx_cVb C [.int (0 : Int32), .int (1 : Int32), .int (999 : Int32)] lk_X10_154 (c_X10_take l D cy g (0 : Int32) (1 : Int32) (999 : Int32)  σ205 h) zs_223 rfl ⟨by decide, by decide⟩ ⟨rfl, rfl⟩ ⟨Nat.zero_le _, Nat.zero_le _⟩ rfl rfl (Nat.le_of_ble_eq_true rfl) dX10_lineLine_181 (fun r223 σ222 hb h => ?_)
                    replace h := h hb
                    refine zx_if_ne C 189 dX10_lineLine_184 (by decide) (fun q => ?_) (fun q => ?_)
                    · replace h := h.1 q
                      refine zx_aload_n C dX10_lineLine_189 1 rfl ?_
                      refine zx_getR C zs_223 fg_X10_35 rfl 232 rfl dX10_lineLine_190 ?_
                      refine zx_iload C dX10_lineLine_193 0 rfl ?_
                      refine zx_aload_n C dX10_lineLine_195 1 rfl ?_
                      refine zx_getR C zs_223 fg_X10_38 rfl 233 rfl dX10_lineLine_196 ?_
                      refine zx_iconst (v := (0 : Int32)) C dX10_lineLine_199 (by decide) ?_
                      refine zx_iald C 0 zs_233 (by unfold vp_in; decide) (by decide) dX10_lineLine_200 ?_
                      obtain ⟨bd224, h⟩ := h
                      refine zx_iast C (r2).toNatClampNeg zs_232 bd224 rfl dX10_lineLine_201 ?_
                      refine zx_sig (fun σ225 eσ225 => ?_)
                      replace h := h σ225 eσ225
                      refine zx_iconst (v := (1 : Int32)) C dX10_lineLine_202 (by decide) ?_
                      exact zx_zret C hr dX10_lineLine_203 (Or.inr rfl) h
                    · replace h := h.2 q
                      refine zx_iconst (v := (0 : Int32)) C dX10_lineLine_187 (by decide) ?_
                      exact zx_zret C hr dX10_lineLine_188 (Or.inl rfl) h
                · replace h := h.2 q
                  refine zx_bipush (v := (60 : Int32)) C dX10_lineLine_161 (by decide) ?_
                  refine zx_goto C 181 dX10_lineLine_163 (by decide) ?_
                  refine zx_cVb C [.int (0 : Int32), .int (1 : Int32), .int (60 : Int32)] lk_X10_154 (c_X10_take l D cy g (0 : Int32) (1 : Int32) (60 : Int32)  σ205 h) zs_223 rfl ⟨by decide, by decide⟩ ⟨rfl, rfl⟩ ⟨Nat.zero_le _, Nat.zero_le _⟩ rfl rfl (Nat.le_of_ble_eq_true rfl) dX10_lineLine_181 (fun r227 σ226 hb h => ?_)
                  replace h := h hb
                  refine zx_if_ne C 189 dX10_lineLine_184 (by decide) (fun q => ?_) (fun q => ?_)
                  · replace h := h.1 q
                    refine zx_aload_n C dX10_lineLine_189 1 rfl ?_
                    refine zx_getR C zs_223 fg_X10_35 rfl 232 rfl dX10_lineLine_190 ?_
                    refine zx_iload C dX10_lineLine_193 0 rfl ?_
                    refine zx_aload_n C dX10_lineLine_195 1 rfl ?_
                    refine zx_getR C zs_223 fg_X10_38 rfl 233 rfl dX10_lineLine_196 ?_
                    refine zx_iconst (v := (0 : Int32)) C dX10_lineLine_199 (by decide) ?_
                    refine zx_iald C 0 zs_233 (by unfold vp_in; decide) (by decide) dX10_lineLine_200 ?_
                    obtain ⟨bd228, h⟩ := h
                    refine zx_iast C (r2).toNatClampNeg zs_232 bd228 rfl dX10_lineLine_201 ?_
                    refine zx_sig (fun σ229 eσ229 => ?_)
                    replace h := h σ229 eσ229
                    refine zx_iconst (v := (1 : Int32)) C dX10_lineLine_202 (by decide) ?_
                    exact zx_zret C hr dX10_lineLine_203 (Or.inr rfl) h
                  · replace h := h.2 q
                    refine zx_iconst (v := (0 : Int32)) C dX10_lineLine_187 (by decide) ?_
                    exact zx_zret C hr dX10_lineLine_188 (Or.inl rfl) h
            · replace h := h.2 q
              refine zx_lload_n C dX10_lineLine_94 2 rfl ?_
              refine zx_ldc2 C dX10_lineLine_95 co_X10_185 ?_
              refine zx_lcmp C dX10_lineLine_98 ?_
              refine zx_if_ne C 109 dX10_lineLine_99 (by decide) (fun q => ?_) (fun q => ?_)
              · replace h := h.1 q
                refine zx_lload_n C dX10_lineLine_109 2 rfl ?_
                refine zx_ldc2 C dX10_lineLine_110 co_X10_187 ?_
                refine zx_lcmp C dX10_lineLine_113 ?_
                refine zx_if_ne C 124 dX10_lineLine_114 (by decide) (fun q => ?_) (fun q => ?_)
                · replace h := h.1 q
                  refine zx_aload_n C dX10_lineLine_124 1 rfl ?_
                  refine zx_lload_n C dX10_lineLine_125 2 rfl ?_
                  refine zx_ldc2 C dX10_lineLine_126 co_X10_191 ?_
                  refine zx_lcmp C dX10_lineLine_129 ?_
                  refine zx_if_ne C 137 dX10_lineLine_130 (by decide) (fun q => ?_) (fun q => ?_)
                  · replace h := h.1 q
                    refine zx_iconst (v := (0 : Int32)) C dX10_lineLine_137 (by decide) ?_
                    refine zx_cVb C [.int (0 : Int32)] lk_X10_203 (c_X10_ofPost l D cy g (0 : Int32)  σ205 h) zs_223 rfl ⟨by decide, by decide⟩ ⟨rfl, rfl⟩ ⟨Nat.zero_le _, Nat.zero_le _⟩ rfl rfl (Nat.le_of_ble_eq_true rfl) dX10_lineLine_138 (fun r231 σ230 hb h => ?_)
                    replace h := h hb
                    exact zx_zret C hr dX10_lineLine_141 h.1 h.2
                  · replace h := h.2 q
                    refine zx_iconst (v := (1 : Int32)) C dX10_lineLine_133 (by decide) ?_
                    refine zx_goto C 138 dX10_lineLine_134 (by decide) ?_
                    refine zx_cVb C [.int (1 : Int32)] lk_X10_203 (c_X10_ofPost l D cy g (1 : Int32)  σ205 h) zs_223 rfl ⟨by decide, by decide⟩ ⟨rfl, rfl⟩ ⟨Nat.zero_le _, Nat.zero_le _⟩ rfl rfl (Nat.le_of_ble_eq_true rfl) dX10_lineLine_138 (fun r233 σ232 hb h => ?_)
                    replace h := h hb
                    exact zx_zret C hr dX10_lineLine_141 h.1 h.2
                · replace h := h.2 q
                  refine zx_aload_n C dX10_lineLine_117 1 rfl ?_
                  refine zx_cVb C [] lk_X10_200 (c_X10_riderLine l D cy g   σ205 h) zs_223 rfl ⟨by decide, by decide⟩ ⟨rfl, rfl⟩ ⟨Nat.zero_le _, Nat.zero_le _⟩ rfl rfl (Nat.le_of_ble_eq_true rfl) dX10_lineLine_118 (fun r235 σ234 hb h => ?_)
                  replace h := h hb
                  refine zx_goto C 141 dX10_lineLine_121 (by decide) ?_
                  exact zx_zret C hr dX10_lineLine_141 h.1 h.2
              · replace h := h.2 q
                refine zx_aload_n C dX10_lineLine_102 1 rfl ?_
                refine zx_cVb C [] lk_X10_197 (c_X10_postLine l D cy g   σ205 h) zs_223 rfl ⟨by decide, by decide⟩ ⟨rfl, rfl⟩ ⟨Nat.zero_le _, Nat.zero_le _⟩ rfl rfl (Nat.le_of_ble_eq_true rfl) dX10_lineLine_103 (fun r237 σ236 hb h => ?_)
                replace h := h hb
                refine zx_goto C 141 dX10_lineLine_106 (by decide) ?_
                exact zx_zret C hr dX10_lineLine_141 h.1 h.2
          · replace h := h.2 q
            refine zx_aload_n C dX10_lineLine_76 1 rfl ?_
            refine zx_iconst (v := (1 : Int32)) C dX10_lineLine_77 (by decide) ?_
            refine zx_bipush (v := (6 : Int32)) C dX10_lineLine_78 (by decide) ?_
            refine zx_iload_n C dX10_lineLine_80 3 rfl ?_
            refine zx_cVv C [.int (1 : Int32), .int (6 : Int32), .int a2] lk_X10_193 (c_X10_full l D cy g (1 : Int32) (6 : Int32) a2  σ1 h) zs_223 rfl ⟨by decide, by decide⟩ ⟨rfl, rfl⟩ ⟨Nat.zero_le _, Nat.zero_le _⟩ rfl rfl (Nat.le_of_ble_eq_true rfl) dX10_lineLine_81 (fun σ238 h => ?_)
            refine zx_aload_n C dX10_lineLine_84 1 rfl ?_
            refine zx_cVv C [] lk_X10_151 (c_X10_token l D cy g   σ238 h) zs_223 rfl ⟨by decide, by decide⟩ ⟨rfl, rfl⟩ ⟨Nat.zero_le _, Nat.zero_le _⟩ rfl rfl (Nat.le_of_ble_eq_true rfl) dX10_lineLine_85 (fun σ239 h => ?_)
            refine zx_iload C dX10_lineLine_88 0 rfl ?_
            refine zx_iconst (v := (-1 : Int32)) C dX10_lineLine_90 (by decide) ?_
            refine zx_icmp_ne C 142 dX10_lineLine_91 (by decide) (fun q => ?_) (fun q => ?_)
            · replace h := h.1 q
              refine zx_aload_n C dX10_lineLine_142 1 rfl ?_
              refine zx_iconst (v := (0 : Int32)) C dX10_lineLine_143 (by decide) ?_
              refine zx_iload C dX10_lineLine_144 0 rfl ?_
              refine zx_iconst (v := (2 : Int32)) C dX10_lineLine_146 (by decide) ?_
              refine zx_icmp_ne C 154 dX10_lineLine_147 (by decide) (fun q => ?_) (fun q => ?_)
              · replace h := h.1 q
                refine zx_iconst (v := (0 : Int32)) C dX10_lineLine_154 (by decide) ?_
                refine zx_iload C dX10_lineLine_155 0 rfl ?_
                refine zx_iconst (v := (4 : Int32)) C dX10_lineLine_157 (by decide) ?_
                refine zx_icmp_ne C 166 dX10_lineLine_158 (by decide) (fun q => ?_) (fun q => ?_)
                · replace h := h.1 q
                  refine zx_iload C dX10_lineLine_166 0 rfl ?_
                  refine zx_bipush (v := (6 : Int32)) C dX10_lineLine_168 (by decide) ?_
                  refine zx_icmp_ne C 179 dX10_lineLine_170 (by decide) (fun q => ?_) (fun q => ?_)
                  · replace h := h.1 q
                    refine zx_bipush (v := (9 : Int32)) C dX10_lineLine_179 (by decide) ?_
                    refine zx_cVb C [.int (0 : Int32), .int (0 : Int32), .int (9 : Int32)] lk_X10_154 (c_X10_take l D cy g (0 : Int32) (0 : Int32) (9 : Int32)  σ239 h) zs_223 rfl ⟨by decide, by decide⟩ ⟨rfl, rfl⟩ ⟨Nat.zero_le _, Nat.zero_le _⟩ rfl rfl (Nat.le_of_ble_eq_true rfl) dX10_lineLine_181 (fun r241 σ240 hb h => ?_)
                    replace h := h hb
                    refine zx_if_ne C 189 dX10_lineLine_184 (by decide) (fun q => ?_) (fun q => ?_)
                    · replace h := h.1 q
                      refine zx_aload_n C dX10_lineLine_189 1 rfl ?_
                      refine zx_getR C zs_223 fg_X10_35 rfl 232 rfl dX10_lineLine_190 ?_
                      refine zx_iload C dX10_lineLine_193 0 rfl ?_
                      refine zx_aload_n C dX10_lineLine_195 1 rfl ?_
                      refine zx_getR C zs_223 fg_X10_38 rfl 233 rfl dX10_lineLine_196 ?_
                      refine zx_iconst (v := (0 : Int32)) C dX10_lineLine_199 (by decide) ?_
                      refine zx_iald C 0 zs_233 (by unfold vp_in; decide) (by decide) dX10_lineLine_200 ?_
                      obtain ⟨bd242, h⟩ := h
                      refine zx_iast C (r2).toNatClampNeg zs_232 bd242 rfl dX10_lineLine_201 ?_
                      refine zx_sig (fun σ243 eσ243 => ?_)
                      replace h := h σ243 eσ243
                      refine zx_iconst (v := (1 : Int32)) C dX10_lineLine_202 (by decide) ?_
                      exact zx_zret C hr dX10_lineLine_203 (Or.inr rfl) h
                    · replace h := h.2 q
                      refine zx_iconst (v := (0 : Int32)) C dX10_lineLine_187 (by decide) ?_
                      exact zx_zret C hr dX10_lineLine_188 (Or.inl rfl) h
                  · replace h := h.2 q
                    refine zx_sipush (v := (999 : Int32)) C dX10_lineLine_173 (by decide) ?_
                    refine zx_goto C 181 dX10_lineLine_176 (by decide) ?_
                    refine zx_cVb C [.int (0 : Int32), .int (0 : Int32), .int (999 : Int32)] lk_X10_154 (c_X10_take l D cy g (0 : Int32) (0 : Int32) (999 : Int32)  σ239 h) zs_223 rfl ⟨by decide, by decide⟩ ⟨rfl, rfl⟩ ⟨Nat.zero_le _, Nat.zero_le _⟩ rfl rfl (Nat.le_of_ble_eq_true rfl) dX10_lineLine_181 (fun r245 σ244 hb h => ?_)
                    replace h := h hb
                    refine zx_if_ne C 189 dX10_lineLine_184 (by decide) (fun q => ?_) (fun q => ?_)
                    · replace h := h.1 q
                      refine zx_aload_n C dX10_lineLine_189 1 rfl ?_
                      refine zx_getR C zs_223 fg_X10_35 rfl 232 rfl dX10_lineLine_190 ?_
                      refine zx_iload C dX10_lineLine_193 0 rfl ?_
                      refine zx_aload_n C dX10_lineLine_195 1 rfl ?_
                      refine zx_getR C zs_223 fg_X10_38 rfl 233 rfl dX10_lineLine_196 ?_
                      refine zx_iconst (v := (0 : Int32)) C dX10_lineLine_199 (by decide) ?_
                      refine zx_iald C 0 zs_233 (by unfold vp_in; decide) (by decide) dX10_lineLine_200 ?_
                      obtain ⟨bd246, h⟩ := h
                      refine zx_iast C (r2).toNatClampNeg zs_232 bd246 rfl dX10_lineLine_201 ?_
                      refine zx_sig (fun σ247 eσ247 => ?_)
                      replace h := h σ247 eσ247
                      refine zx_iconst (v := (1 : Int32)) C dX10_lineLine_202 (by decide) ?_
                      exact zx_zret C hr dX10_lineLine_203 (Or.inr rfl) h
                    · replace h := h.2 q
                      refine zx_iconst (v := (0 : Int32)) C dX10_lineLine_187 (by decide) ?_
                      exact zx_zret C hr dX10_lineLine_188 (Or.inl rfl) h
                · replace h := h.2 q
                  refine zx_bipush (v := (60 : Int32)) C dX10_lineLine_161 (by decide) ?_
                  refine zx_goto C 181 dX10_lineLine_163 (by decide) ?_
                  refine zx_cVb C [.int (0 : Int32), .int (0 : Int32), .int (60 : Int32)] lk_X10_154 (c_X10_take l D cy g (0 : Int32) (0 : Int32) (60 : Int32)  σ239 h) zs_223 rfl ⟨by decide, by decide⟩ ⟨rfl, rfl⟩ ⟨Nat.zero_le _, Nat.zero_le _⟩ rfl rfl (Nat.le_of_ble_eq_true rfl) dX10_lineLine_181 (fun r249 σ248 hb h => ?_)
                  replace h := h hb
                  refine zx_if_ne C 189 dX10_lineLine_184 (by decide) (fun q => ?_) (fun q => ?_)
                  · replace h := h.1 q
                    refine zx_aload_n C dX10_lineLine_189 1 rfl ?_
                    refine zx_getR C zs_223 fg_X10_35 rfl 232 rfl dX10_lineLine_190 ?_
                    refine zx_iload C dX10_lineLine_193 0 rfl ?_
                    refine zx_aload_n C dX10_lineLine_195 1 rfl ?_
                    refine zx_getR C zs_223 fg_X10_38 rfl 233 rfl dX10_lineLine_196 ?_
                    refine zx_iconst (v := (0 : Int32)) C dX10_lineLine_199 (by decide) ?_
                    refine zx_iald C 0 zs_233 (by unfold vp_in; decide) (by decide) dX10_lineLine_200 ?_
                    obtain ⟨bd250, h⟩ := h
                    refine zx_iast C (r2).toNatClampNeg zs_232 bd250 rfl dX10_lineLine_201 ?_
                    refine zx_sig (fun σ251 eσ251 => ?_)
                    replace h := h σ251 eσ251
                    refine zx_iconst (v := (1 : Int32)) C dX10_lineLine_202 (by decide) ?_
                    exact zx_zret C hr dX10_lineLine_203 (Or.inr rfl) h
                  · replace h := h.2 q
                    refine zx_iconst (v := (0 : Int32)) C dX10_lineLine_187 (by decide) ?_
                    exact zx_zret C hr dX10_lineLine_188 (Or.inl rfl) h
              · replace h := h.2 q
                refine zx_iconst (v := (1 : Int32)) C dX10_lineLine_150 (by decide) ?_
                refine zx_goto C 155 dX10_lineLine_151 (by decide) ?_
                refine zx_iload C dX10_lineLine_155 0 rfl ?_
                refine zx_iconst (v := (4 : Int32)) C dX10_lineLine_157 (by decide) ?_
                refine zx_icmp_ne C 166 dX10_lineLine_158 (by decide) (fun q => ?_) (fun q => ?_)
                · replace h := h.1 q
                  refine zx_iload C dX10_lineLine_166 0 rfl ?_
                  refine zx_bipush (v := (6 : Int32)) C dX10_lineLine_168 (by decide) ?_
                  refine zx_icmp_ne C 179 dX10_lineLine_170 (by decide) (fun q => ?_) (fun q => ?_)
                  · replace h := h.1 q
                    refine zx_bipush (v := (9 : Int32)) C dX10_lineLine_179 (by decide) ?_
                    refine zx_cVb C [.int (0 : Int32), .int (1 : Int32), .int (9 : Int32)] lk_X10_154 (c_X10_take l D cy g (0 : Int32) (1 : Int32) (9 : Int32)  σ239 h) zs_223 rfl ⟨by decide, by decide⟩ ⟨rfl, rfl⟩ ⟨Nat.zero_le _, Nat.zero_le _⟩ rfl rfl (Nat.le_of_ble_eq_true rfl) dX10_lineLine_181 (fun r253 σ252 hb h => ?_)
                    replace h := h hb
                    refine zx_if_ne C 189 dX10_lineLine_184 (by decide) (fun q => ?_) (fun q => ?_)
                    · replace h := h.1 q
                      refine zx_aload_n C dX10_lineLine_189 1 rfl ?_
                      refine zx_getR C zs_223 fg_X10_35 rfl 232 rfl dX10_lineLine_190 ?_
                      refine zx_iload C dX10_lineLine_193 0 rfl ?_
                      refine zx_aload_n C dX10_lineLine_195 1 rfl ?_
                      refine zx_getR C zs_223 fg_X10_38 rfl 233 rfl dX10_lineLine_196 ?_
                      refine zx_iconst (v := (0 : Int32)) C dX10_lineLine_199 (by decide) ?_
                      refine zx_iald C 0 zs_233 (by unfold vp_in; decide) (by decide) dX10_lineLine_200 ?_
                      obtain ⟨bd254, h⟩ := h
                      refine zx_iast C (r2).toNatClampNeg zs_232 bd254 rfl dX10_lineLine_201 ?_
                      refine zx_sig (fun σ255 eσ255 => ?_)
                      replace h := h σ255 eσ255
                      refine zx_iconst (v := (1 : Int32)) C dX10_lineLine_202 (by decide) ?_
                      exact zx_zret C hr dX10_lineLine_203 (Or.inr rfl) h
                    · replace h := h.2 q
                      refine zx_iconst (v := (0 : Int32)) C dX10_lineLine_187 (by decide) ?_
                      exact zx_zret C hr dX10_lineLine_188 (Or.inl rfl) h
                  · replace h := h.2 q
                    refine zx_sipush (v := (999 : Int32)) C dX10_lineLine_173 (by decide) ?_
                    refine zx_goto C 181 dX10_lineLine_176 (by decide) ?_
                    refine zx_cVb C [.int (0 : Int32), .int (1 : Int32), .int (999 : Int32)] lk_X10_154 (c_X10_take l D cy g (0 : Int32) (1 : Int32) (999 : Int32)  σ239 h) zs_223 rfl ⟨by decide, by decide⟩ ⟨rfl, rfl⟩ ⟨Nat.zero_le _, Nat.zero_le _⟩ rfl rfl (Nat.le_of_ble_eq_true rfl) dX10_lineLine_181 (fun r257 σ256 hb h => ?_)
                    replace h := h hb
                    refine zx_if_ne C 189 dX10_lineLine_184 (by decide) (fun q => ?_) (fun q => ?_)
                    · replace h := h.1 q
                      refine zx_aload_n C dX10_lineLine_189 1 rfl ?_
                      refine zx_getR C zs_223 fg_X10_35 rfl 232 rfl dX10_lineLine_190 ?_
                      refine zx_iload C dX10_lineLine_193 0 rfl ?_
                      refine zx_aload_n C dX10_lineLine_195 1 rfl ?_
                      refine zx_getR C zs_223 fg_X10_38 rfl 233 rfl dX10_lineLine_196 ?_
                      refine zx_iconst (v := (0 : Int32)) C dX10_lineLine_199 (by decide) ?_
                      refine zx_iald C 0 zs_233 (by unfold vp_in; decide) (by decide) dX10_lineLine_200 ?_
                      obtain ⟨bd258, h⟩ := h
                      refine zx_iast C (r2).toNatClampNeg zs_232 bd258 rfl dX10_lineLine_201 ?_
                      refine zx_sig (fun σ259 eσ259 => ?_)
                      replace h := h σ259 eσ259
                      refine zx_iconst (v := (1 : Int32)) C dX10_lineLine_202 (by decide) ?_
                      exact zx_zret C hr dX10_lineLine_203 (Or.inr rfl) h
                    · replace h := h.2 q
                      refine zx_iconst (v := (0 : Int32)) C dX10_lineLine_187 (by decide) ?_
                      exact zx_zret C hr dX10_lineLine_188 (Or.inl rfl) h
                · replace h := h.2 q
                  refine zx_bipush (v := (60 : Int32)) C dX10_lineLine_161 (by decide) ?_
                  refine zx_goto C 181 dX10_lineLine_163 (by decide) ?_
                  refine zx_cVb C [.int (0 : Int32), .int (1 : Int32), .int (60 : Int32)] lk_X10_154 (c_X10_take l D cy g (0 : Int32) (1 : Int32) (60 : Int32)  σ239 h) zs_223 rfl ⟨by decide, by decide⟩ ⟨rfl, rfl⟩ ⟨Nat.zero_le _, Nat.zero_le _⟩ rfl rfl (Nat.le_of_ble_eq_true rfl) dX10_lineLine_181 (fun r261 σ260 hb h => ?_)
                  replace h := h hb
                  refine zx_if_ne C 189 dX10_lineLine_184 (by decide) (fun q => ?_) (fun q => ?_)
                  · replace h := h.1 q
                    refine zx_aload_n C dX10_lineLine_189 1 rfl ?_
                    refine zx_getR C zs_223 fg_X10_35 rfl 232 rfl dX10_lineLine_190 ?_
                    refine zx_iload C dX10_lineLine_193 0 rfl ?_
                    refine zx_aload_n C dX10_lineLine_195 1 rfl ?_
                    refine zx_getR C zs_223 fg_X10_38 rfl 233 rfl dX10_lineLine_196 ?_
                    refine zx_iconst (v := (0 : Int32)) C dX10_lineLine_199 (by decide) ?_
                    refine zx_iald C 0 zs_233 (by unfold vp_in; decide) (by decide) dX10_lineLine_200 ?_
                    obtain ⟨bd262, h⟩ := h
                    refine zx_iast C (r2).toNatClampNeg zs_232 bd262 rfl dX10_lineLine_201 ?_
                    refine zx_sig (fun σ263 eσ263 => ?_)
                    replace h := h σ263 eσ263
                    refine zx_iconst (v := (1 : Int32)) C dX10_lineLine_202 (by decide) ?_
                    exact zx_zret C hr dX10_lineLine_203 (Or.inr rfl) h
                  · replace h := h.2 q
                    refine zx_iconst (v := (0 : Int32)) C dX10_lineLine_187 (by decide) ?_
                    exact zx_zret C hr dX10_lineLine_188 (Or.inl rfl) h
            · replace h := h.2 q
              refine zx_lload_n C dX10_lineLine_94 2 rfl ?_
              refine zx_ldc2 C dX10_lineLine_95 co_X10_185 ?_
              refine zx_lcmp C dX10_lineLine_98 ?_
              refine zx_if_ne C 109 dX10_lineLine_99 (by decide) (fun q => ?_) (fun q => ?_)
              · replace h := h.1 q
                refine zx_lload_n C dX10_lineLine_109 2 rfl ?_
                refine zx_ldc2 C dX10_lineLine_110 co_X10_187 ?_
                refine zx_lcmp C dX10_lineLine_113 ?_
                refine zx_if_ne C 124 dX10_lineLine_114 (by decide) (fun q => ?_) (fun q => ?_)
                · replace h := h.1 q
                  refine zx_aload_n C dX10_lineLine_124 1 rfl ?_
                  refine zx_lload_n C dX10_lineLine_125 2 rfl ?_
                  refine zx_ldc2 C dX10_lineLine_126 co_X10_191 ?_
                  refine zx_lcmp C dX10_lineLine_129 ?_
                  refine zx_if_ne C 137 dX10_lineLine_130 (by decide) (fun q => ?_) (fun q => ?_)
                  · replace h := h.1 q
                    refine zx_iconst (v := (0 : Int32)) C dX10_lineLine_137 (by decide) ?_
                    refine zx_cVb C [.int (0 : Int32)] lk_X10_203 (c_X10_ofPost l D cy g (0 : Int32)  σ239 h) zs_223 rfl ⟨by decide, by decide⟩ ⟨rfl, rfl⟩ ⟨Nat.zero_le _, Nat.zero_le _⟩ rfl rfl (Nat.le_of_ble_eq_true rfl) dX10_lineLine_138 (fun r265 σ264 hb h => ?_)
                    replace h := h hb
                    exact zx_zret C hr dX10_lineLine_141 h.1 h.2
                  · replace h := h.2 q
                    refine zx_iconst (v := (1 : Int32)) C dX10_lineLine_133 (by decide) ?_
                    refine zx_goto C 138 dX10_lineLine_134 (by decide) ?_
                    refine zx_cVb C [.int (1 : Int32)] lk_X10_203 (c_X10_ofPost l D cy g (1 : Int32)  σ239 h) zs_223 rfl ⟨by decide, by decide⟩ ⟨rfl, rfl⟩ ⟨Nat.zero_le _, Nat.zero_le _⟩ rfl rfl (Nat.le_of_ble_eq_true rfl) dX10_lineLine_138 (fun r267 σ266 hb h => ?_)
                    replace h := h hb
                    exact zx_zret C hr dX10_lineLine_141 h.1 h.2
                · replace h := h.2 q
                  refine zx_aload_n C dX10_lineLine_117 1 rfl ?_
                  refine zx_cVb C [] lk_X10_200 (c_X10_riderLine l D cy g   σ239 h) zs_223 rfl ⟨by decide, by decide⟩ ⟨rfl, rfl⟩ ⟨Nat.zero_le _, Nat.zero_le _⟩ rfl rfl (Nat.le_of_ble_eq_true rfl) dX10_lineLine_118 (fun r269 σ268 hb h => ?_)
                  replace h := h hb
                  refine zx_goto C 141 dX10_lineLine_121 (by decide) ?_
                  exact zx_zret C hr dX10_lineLine_141 h.1 h.2
              · replace h := h.2 q
                refine zx_aload_n C dX10_lineLine_102 1 rfl ?_
                refine zx_cVb C [] lk_X10_197 (c_X10_postLine l D cy g   σ239 h) zs_223 rfl ⟨by decide, by decide⟩ ⟨rfl, rfl⟩ ⟨Nat.zero_le _, Nat.zero_le _⟩ rfl rfl (Nat.le_of_ble_eq_true rfl) dX10_lineLine_103 (fun r271 σ270 hb h => ?_)
                replace h := h hb
                refine zx_goto C 141 dX10_lineLine_106 (by decide) ?_
                exact zx_zret C hr dX10_lineLine_141 h.1 h.2
        · replace h := h.2 q
          refine zx_aload_n C dX10_lineLine_57 1 rfl ?_
          refine zx_iconst (v := (0 : Int32)) C dX10_lineLine_58 (by decide) ?_
          refine zx_bipush (v := (16 : Int32)) C dX10_lineLine_59 (by decide) ?_
          refine zx_iload_n C dX10_lineLine_61 3 rfl ?_
          refine zx_cVv C [.int (0 : Int32), .int (16 : Int32), .int a2] lk_X10_193 (c_X10_full l D cy g (0 : Int32) (16 : Int32) a2  σ1 h) zs_223 rfl ⟨by decide, by decide⟩ ⟨rfl, rfl⟩ ⟨Nat.zero_le _, Nat.zero_le _⟩ rfl rfl (Nat.le_of_ble_eq_true rfl) dX10_lineLine_62 (fun σ272 h => ?_)
          refine zx_goto C 84 dX10_lineLine_65 (by decide) ?_
          refine zx_aload_n C dX10_lineLine_84 1 rfl ?_
          refine zx_cVv C [] lk_X10_151 (c_X10_token l D cy g   σ272 h) zs_223 rfl ⟨by decide, by decide⟩ ⟨rfl, rfl⟩ ⟨Nat.zero_le _, Nat.zero_le _⟩ rfl rfl (Nat.le_of_ble_eq_true rfl) dX10_lineLine_85 (fun σ273 h => ?_)
          refine zx_iload C dX10_lineLine_88 0 rfl ?_
          refine zx_iconst (v := (-1 : Int32)) C dX10_lineLine_90 (by decide) ?_
          refine zx_icmp_ne C 142 dX10_lineLine_91 (by decide) (fun q => ?_) (fun q => ?_)
          · replace h := h.1 q
            refine zx_aload_n C dX10_lineLine_142 1 rfl ?_
            refine zx_iconst (v := (0 : Int32)) C dX10_lineLine_143 (by decide) ?_
            refine zx_iload C dX10_lineLine_144 0 rfl ?_
            refine zx_iconst (v := (2 : Int32)) C dX10_lineLine_146 (by decide) ?_
            refine zx_icmp_ne C 154 dX10_lineLine_147 (by decide) (fun q => ?_) (fun q => ?_)
            · replace h := h.1 q
              refine zx_iconst (v := (0 : Int32)) C dX10_lineLine_154 (by decide) ?_
              refine zx_iload C dX10_lineLine_155 0 rfl ?_
              refine zx_iconst (v := (4 : Int32)) C dX10_lineLine_157 (by decide) ?_
              refine zx_icmp_ne C 166 dX10_lineLine_158 (by decide) (fun q => ?_) (fun q => ?_)
              · replace h := h.1 q
                refine zx_iload C dX10_lineLine_166 0 rfl ?_
                refine zx_bipush (v := (6 : Int32)) C dX10_lineLine_168 (by decide) ?_
                refine zx_icmp_ne C 179 dX10_lineLine_170 (by decide) (fun q => ?_) (fun q => ?_)
                · replace h := h.1 q
                  refine zx_bipush (v := (9 : Int32)) C dX10_lineLine_179 (by decide) ?_
                  refine zx_cVb C [.int (0 : Int32), .int (0 : Int32), .int (9 : Int32)] lk_X10_154 (c_X10_take l D cy g (0 : Int32) (0 : Int32) (9 : Int32)  σ273 h) zs_223 rfl ⟨by decide, by decide⟩ ⟨rfl, rfl⟩ ⟨Nat.zero_le _, Nat.zero_le _⟩ rfl rfl (Nat.le_of_ble_eq_true rfl) dX10_lineLine_181 (fun r275 σ274 hb h => ?_)
                  replace h := h hb
                  refine zx_if_ne C 189 dX10_lineLine_184 (by decide) (fun q => ?_) (fun q => ?_)
                  · replace h := h.1 q
                    refine zx_aload_n C dX10_lineLine_189 1 rfl ?_
                    refine zx_getR C zs_223 fg_X10_35 rfl 232 rfl dX10_lineLine_190 ?_
                    refine zx_iload C dX10_lineLine_193 0 rfl ?_
                    refine zx_aload_n C dX10_lineLine_195 1 rfl ?_
                    refine zx_getR C zs_223 fg_X10_38 rfl 233 rfl dX10_lineLine_196 ?_
                    refine zx_iconst (v := (0 : Int32)) C dX10_lineLine_199 (by decide) ?_
                    refine zx_iald C 0 zs_233 (by unfold vp_in; decide) (by decide) dX10_lineLine_200 ?_
                    obtain ⟨bd276, h⟩ := h
                    refine zx_iast C (r2).toNatClampNeg zs_232 bd276 rfl dX10_lineLine_201 ?_
                    refine zx_sig (fun σ277 eσ277 => ?_)
                    replace h := h σ277 eσ277
                    refine zx_iconst (v := (1 : Int32)) C dX10_lineLine_202 (by decide) ?_
                    exact zx_zret C hr dX10_lineLine_203 (Or.inr rfl) h
                  · replace h := h.2 q
                    refine zx_iconst (v := (0 : Int32)) C dX10_lineLine_187 (by decide) ?_
                    exact zx_zret C hr dX10_lineLine_188 (Or.inl rfl) h
                · replace h := h.2 q
                  refine zx_sipush (v := (999 : Int32)) C dX10_lineLine_173 (by decide) ?_
                  refine zx_goto C 181 dX10_lineLine_176 (by decide) ?_
                  refine zx_cVb C [.int (0 : Int32), .int (0 : Int32), .int (999 : Int32)] lk_X10_154 (c_X10_take l D cy g (0 : Int32) (0 : Int32) (999 : Int32)  σ273 h) zs_223 rfl ⟨by decide, by decide⟩ ⟨rfl, rfl⟩ ⟨Nat.zero_le _, Nat.zero_le _⟩ rfl rfl (Nat.le_of_ble_eq_true rfl) dX10_lineLine_181 (fun r279 σ278 hb h => ?_)
                  replace h := h hb
                  refine zx_if_ne C 189 dX10_lineLine_184 (by decide) (fun q => ?_) (fun q => ?_)
                  · replace h := h.1 q
                    refine zx_aload_n C dX10_lineLine_189 1 rfl ?_
                    refine zx_getR C zs_223 fg_X10_35 rfl 232 rfl dX10_lineLine_190 ?_
                    refine zx_iload C dX10_lineLine_193 0 rfl ?_
                    refine zx_aload_n C dX10_lineLine_195 1 rfl ?_
                    refine zx_getR C zs_223 fg_X10_38 rfl 233 rfl dX10_lineLine_196 ?_
                    refine zx_iconst (v := (0 : Int32)) C dX10_lineLine_199 (by decide) ?_
                    refine zx_iald C 0 zs_233 (by unfold vp_in; decide) (by decide) dX10_lineLine_200 ?_
                    obtain ⟨bd280, h⟩ := h
                    refine zx_iast C (r2).toNatClampNeg zs_232 bd280 rfl dX10_lineLine_201 ?_
                    refine zx_sig (fun σ281 eσ281 => ?_)
                    replace h := h σ281 eσ281
                    refine zx_iconst (v := (1 : Int32)) C dX10_lineLine_202 (by decide) ?_
                    exact zx_zret C hr dX10_lineLine_203 (Or.inr rfl) h
                  · replace h := h.2 q
                    refine zx_iconst (v := (0 : Int32)) C dX10_lineLine_187 (by decide) ?_
                    exact zx_zret C hr dX10_lineLine_188 (Or.inl rfl) h
              · replace h := h.2 q
                refine zx_bipush (v := (60 : Int32)) C dX10_lineLine_161 (by decide) ?_
                refine zx_goto C 181 dX10_lineLine_163 (by decide) ?_
                refine zx_cVb C [.int (0 : Int32), .int (0 : Int32), .int (60 : Int32)] lk_X10_154 (c_X10_take l D cy g (0 : Int32) (0 : Int32) (60 : Int32)  σ273 h) zs_223 rfl ⟨by decide, by decide⟩ ⟨rfl, rfl⟩ ⟨Nat.zero_le _, Nat.zero_le _⟩ rfl rfl (Nat.le_of_ble_eq_true rfl) dX10_lineLine_181 (fun r283 σ282 hb h => ?_)
                replace h := h hb
                refine zx_if_ne C 189 dX10_lineLine_184 (by decide) (fun q => ?_) (fun q => ?_)
                · replace h := h.1 q
                  refine zx_aload_n C dX10_lineLine_189 1 rfl ?_
                  refine zx_getR C zs_223 fg_X10_35 rfl 232 rfl dX10_lineLine_190 ?_
                  refine zx_iload C dX10_lineLine_193 0 rfl ?_
                  refine zx_aload_n C dX10_lineLine_195 1 rfl ?_
                  refine zx_getR C zs_223 fg_X10_38 rfl 233 rfl dX10_lineLine_196 ?_
                  refine zx_iconst (v := (0 : Int32)) C dX10_lineLine_199 (by decide) ?_
                  refine zx_iald C 0 zs_233 (by unfold vp_in; decide) (by decide) dX10_lineLine_200 ?_
                  obtain ⟨bd284, h⟩ := h
                  refine zx_iast C (r2).toNatClampNeg zs_232 bd284 rfl dX10_lineLine_201 ?_
                  refine zx_sig (fun σ285 eσ285 => ?_)
                  replace h := h σ285 eσ285
                  refine zx_iconst (v := (1 : Int32)) C dX10_lineLine_202 (by decide) ?_
                  exact zx_zret C hr dX10_lineLine_203 (Or.inr rfl) h
                · replace h := h.2 q
                  refine zx_iconst (v := (0 : Int32)) C dX10_lineLine_187 (by decide) ?_
                  exact zx_zret C hr dX10_lineLine_188 (Or.inl rfl) h
            · replace h := h.2 q
              refine zx_iconst (v := (1 : Int32)) C dX10_lineLine_150 (by decide) ?_
              refine zx_goto C 155 dX10_lineLine_151 (by decide) ?_
              refine zx_iload C dX10_lineLine_155 0 rfl ?_
              refine zx_iconst (v := (4 : Int32)) C dX10_lineLine_157 (by decide) ?_
              refine zx_icmp_ne C 166 dX10_lineLine_158 (by decide) (fun q => ?_) (fun q => ?_)
              · replace h := h.1 q
                refine zx_iload C dX10_lineLine_166 0 rfl ?_
                refine zx_bipush (v := (6 : Int32)) C dX10_lineLine_168 (by decide) ?_
                refine zx_icmp_ne C 179 dX10_lineLine_170 (by decide) (fun q => ?_) (fun q => ?_)
                · replace h := h.1 q
                  refine zx_bipush (v := (9 : Int32)) C dX10_lineLine_179 (by decide) ?_
                  refine zx_cVb C [.int (0 : Int32), .int (1 : Int32), .int (9 : Int32)] lk_X10_154 (c_X10_take l D cy g (0 : Int32) (1 : Int32) (9 : Int32)  σ273 h) zs_223 rfl ⟨by decide, by decide⟩ ⟨rfl, rfl⟩ ⟨Nat.zero_le _, Nat.zero_le _⟩ rfl rfl (Nat.le_of_ble_eq_true rfl) dX10_lineLine_181 (fun r287 σ286 hb h => ?_)
                  replace h := h hb
                  refine zx_if_ne C 189 dX10_lineLine_184 (by decide) (fun q => ?_) (fun q => ?_)
                  · replace h := h.1 q
                    refine zx_aload_n C dX10_lineLine_189 1 rfl ?_
                    refine zx_getR C zs_223 fg_X10_35 rfl 232 rfl dX10_lineLine_190 ?_
                    refine zx_iload C dX10_lineLine_193 0 rfl ?_
                    refine zx_aload_n C dX10_lineLine_195 1 rfl ?_
                    refine zx_getR C zs_223 fg_X10_38 rfl 233 rfl dX10_lineLine_196 ?_
                    refine zx_iconst (v := (0 : Int32)) C dX10_lineLine_199 (by decide) ?_
                    refine zx_iald C 0 zs_233 (by unfold vp_in; decide) (by decide) dX10_lineLine_200 ?_
                    obtain ⟨bd288, h⟩ := h
                    refine zx_iast C (r2).toNatClampNeg zs_232 bd288 rfl dX10_lineLine_201 ?_
                    refine zx_sig (fun σ289 eσ289 => ?_)
                    replace h := h σ289 eσ289
                    refine zx_iconst (v := (1 : Int32)) C dX10_lineLine_202 (by decide) ?_
                    exact zx_zret C hr dX10_lineLine_203 (Or.inr rfl) h
                  · replace h := h.2 q
                    refine zx_iconst (v := (0 : Int32)) C dX10_lineLine_187 (by decide) ?_
                    exact zx_zret C hr dX10_lineLine_188 (Or.inl rfl) h
                · replace h := h.2 q
                  refine zx_sipush (v := (999 : Int32)) C dX10_lineLine_173 (by decide) ?_
                  refine zx_goto C 181 dX10_lineLine_176 (by decide) ?_
                  refine zx_cVb C [.int (0 : Int32), .int (1 : Int32), .int (999 : Int32)] lk_X10_154 (c_X10_take l D cy g (0 : Int32) (1 : Int32) (999 : Int32)  σ273 h) zs_223 rfl ⟨by decide, by decide⟩ ⟨rfl, rfl⟩ ⟨Nat.zero_le _, Nat.zero_le _⟩ rfl rfl (Nat.le_of_ble_eq_true rfl) dX10_lineLine_181 (fun r291 σ290 hb h => ?_)
                  replace h := h hb
                  refine zx_if_ne C 189 dX10_lineLine_184 (by decide) (fun q => ?_) (fun q => ?_)
                  · replace h := h.1 q
                    refine zx_aload_n C dX10_lineLine_189 1 rfl ?_
                    refine zx_getR C zs_223 fg_X10_35 rfl 232 rfl dX10_lineLine_190 ?_
                    refine zx_iload C dX10_lineLine_193 0 rfl ?_
                    refine zx_aload_n C dX10_lineLine_195 1 rfl ?_
                    refine zx_getR C zs_223 fg_X10_38 rfl 233 rfl dX10_lineLine_196 ?_
                    refine zx_iconst (v := (0 : Int32)) C dX10_lineLine_199 (by decide) ?_
                    refine zx_iald C 0 zs_233 (by unfold vp_in; decide) (by decide) dX10_lineLine_200 ?_
                    obtain ⟨bd292, h⟩ := h
                    refine zx_iast C (r2).toNatClampNeg zs_232 bd292 rfl dX10_lineLine_201 ?_
                    refine zx_sig (fun σ293 eσ293 => ?_)
                    replace h := h σ293 eσ293
                    refine zx_iconst (v := (1 : Int32)) C dX10_lineLine_202 (by decide) ?_
                    exact zx_zret C hr dX10_lineLine_203 (Or.inr rfl) h
                  · replace h := h.2 q
                    refine zx_iconst (v := (0 : Int32)) C dX10_lineLine_187 (by decide) ?_
                    exact zx_zret C hr dX10_lineLine_188 (Or.inl rfl) h
              · replace h := h.2 q
                refine zx_bipush (v := (60 : Int32)) C dX10_lineLine_161 (by decide) ?_
                refine zx_goto C 181 dX10_lineLine_163 (by decide) ?_
                refine zx_cVb C [.int (0 : Int32), .int (1 : Int32), .int (60 : Int32)] lk_X10_154 (c_X10_take l D cy g (0 : Int32) (1 : Int32) (60 : Int32)  σ273 h) zs_223 rfl ⟨by decide, by decide⟩ ⟨rfl, rfl⟩ ⟨Nat.zero_le _, Nat.zero_le _⟩ rfl rfl (Nat.le_of_ble_eq_true rfl) dX10_lineLine_181 (fun r295 σ294 hb h => ?_)
                replace h := h hb
                refine zx_if_ne C 189 dX10_lineLine_184 (by decide) (fun q => ?_) (fun q => ?_)
                · replace h := h.1 q
                  refine zx_aload_n C dX10_lineLine_189 1 rfl ?_
                  refine zx_getR C zs_223 fg_X10_35 rfl 232 rfl dX10_lineLine_190 ?_
                  refine zx_iload C dX10_lineLine_193 0 rfl ?_
                  refine zx_aload_n C dX10_lineLine_195 1 rfl ?_
                  refine zx_getR C zs_223 fg_X10_38 rfl 233 rfl dX10_lineLine_196 ?_
                  refine zx_iconst (v := (0 : Int32)) C dX10_lineLine_199 (by decide) ?_
                  refine zx_iald C 0 zs_233 (by unfold vp_in; decide) (by decide) dX10_lineLine_200 ?_
                  obtain ⟨bd296, h⟩ := h
                  refine zx_iast C (r2).toNatClampNeg zs_232 bd296 rfl dX10_lineLine_201 ?_
                  refine zx_sig (fun σ297 eσ297 => ?_)
                  replace h := h σ297 eσ297
                  refine zx_iconst (v := (1 : Int32)) C dX10_lineLine_202 (by decide) ?_
                  exact zx_zret C hr dX10_lineLine_203 (Or.inr rfl) h
                · replace h := h.2 q
                  refine zx_iconst (v := (0 : Int32)) C dX10_lineLine_187 (by decide) ?_
                  exact zx_zret C hr dX10_lineLine_188 (Or.inl rfl) h
          · replace h := h.2 q
            refine zx_lload_n C dX10_lineLine_94 2 rfl ?_
            refine zx_ldc2 C dX10_lineLine_95 co_X10_185 ?_
            refine zx_lcmp C dX10_lineLine_98 ?_
            refine zx_if_ne C 109 dX10_lineLine_99 (by decide) (fun q => ?_) (fun q => ?_)
            · replace h := h.1 q
              refine zx_lload_n C dX10_lineLine_109 2 rfl ?_
              refine zx_ldc2 C dX10_lineLine_110 co_X10_187 ?_
              refine zx_lcmp C dX10_lineLine_113 ?_
              refine zx_if_ne C 124 dX10_lineLine_114 (by decide) (fun q => ?_) (fun q => ?_)
              · replace h := h.1 q
                refine zx_aload_n C dX10_lineLine_124 1 rfl ?_
                refine zx_lload_n C dX10_lineLine_125 2 rfl ?_
                refine zx_ldc2 C dX10_lineLine_126 co_X10_191 ?_
                refine zx_lcmp C dX10_lineLine_129 ?_
                refine zx_if_ne C 137 dX10_lineLine_130 (by decide) (fun q => ?_) (fun q => ?_)
                · replace h := h.1 q
                  refine zx_iconst (v := (0 : Int32)) C dX10_lineLine_137 (by decide) ?_
                  refine zx_cVb C [.int (0 : Int32)] lk_X10_203 (c_X10_ofPost l D cy g (0 : Int32)  σ273 h) zs_223 rfl ⟨by decide, by decide⟩ ⟨rfl, rfl⟩ ⟨Nat.zero_le _, Nat.zero_le _⟩ rfl rfl (Nat.le_of_ble_eq_true rfl) dX10_lineLine_138 (fun r299 σ298 hb h => ?_)
                  replace h := h hb
                  exact zx_zret C hr dX10_lineLine_141 h.1 h.2
                · replace h := h.2 q
                  refine zx_iconst (v := (1 : Int32)) C dX10_lineLine_133 (by decide) ?_
                  refine zx_goto C 138 dX10_lineLine_134 (by decide) ?_
                  refine zx_cVb C [.int (1 : Int32)] lk_X10_203 (c_X10_ofPost l D cy g (1 : Int32)  σ273 h) zs_223 rfl ⟨by decide, by decide⟩ ⟨rfl, rfl⟩ ⟨Nat.zero_le _, Nat.zero_le _⟩ rfl rfl (Nat.le_of_ble_eq_true rfl) dX10_lineLine_138 (fun r301 σ300 hb h => ?_)
                  replace h := h hb
                  exact zx_zret C hr dX10_lineLine_141 h.1 h.2
              · replace h := h.2 q
                refine zx_aload_n C dX10_lineLine_117 1 rfl ?_
                refine zx_cVb C [] lk_X10_200 (c_X10_riderLine l D cy g   σ273 h) zs_223 rfl ⟨by decide, by decide⟩ ⟨rfl, rfl⟩ ⟨Nat.zero_le _, Nat.zero_le _⟩ rfl rfl (Nat.le_of_ble_eq_true rfl) dX10_lineLine_118 (fun r303 σ302 hb h => ?_)
                replace h := h hb
                refine zx_goto C 141 dX10_lineLine_121 (by decide) ?_
                exact zx_zret C hr dX10_lineLine_141 h.1 h.2
            · replace h := h.2 q
              refine zx_aload_n C dX10_lineLine_102 1 rfl ?_
              refine zx_cVb C [] lk_X10_197 (c_X10_postLine l D cy g   σ273 h) zs_223 rfl ⟨by decide, by decide⟩ ⟨rfl, rfl⟩ ⟨Nat.zero_le _, Nat.zero_le _⟩ rfl rfl (Nat.le_of_ble_eq_true rfl) dX10_lineLine_103 (fun r305 σ304 hb h => ?_)
              replace h := h hb
              refine zx_goto C 141 dX10_lineLine_106 (by decide) ?_
              exact zx_zret C hr dX10_lineLine_141 h.1 h.2
      · replace h := h.2 q
        refine zx_lload_n C dX10_lineLine_28 2 rfl ?_
        refine zx_ldc2 C dX10_lineLine_29 co_X10_189 ?_
        refine zx_lcmp C dX10_lineLine_32 ?_
        refine zx_if_eq C 49 dX10_lineLine_33 (by decide) (fun q => ?_) (fun q => ?_)
        · replace h := h.1 q
          refine zx_lload_n C dX10_lineLine_49 2 rfl ?_
          refine zx_ldc2 C dX10_lineLine_50 co_X10_185 ?_
          refine zx_lcmp C dX10_lineLine_53 ?_
          refine zx_if_ne C 68 dX10_lineLine_54 (by decide) (fun q => ?_) (fun q => ?_)
          · replace h := h.1 q
            refine zx_lload_n C dX10_lineLine_68 2 rfl ?_
            refine zx_ldc2 C dX10_lineLine_69 co_X10_187 ?_
            refine zx_lcmp C dX10_lineLine_72 ?_
            refine zx_if_ne C 84 dX10_lineLine_73 (by decide) (fun q => ?_) (fun q => ?_)
            · replace h := h.1 q
              refine zx_aload_n C dX10_lineLine_84 1 rfl ?_
              refine zx_cVv C [] lk_X10_151 (c_X10_token l D cy g   σ1 h) zs_223 rfl ⟨by decide, by decide⟩ ⟨rfl, rfl⟩ ⟨Nat.zero_le _, Nat.zero_le _⟩ rfl rfl (Nat.le_of_ble_eq_true rfl) dX10_lineLine_85 (fun σ306 h => ?_)
              refine zx_iload C dX10_lineLine_88 0 rfl ?_
              refine zx_iconst (v := (-1 : Int32)) C dX10_lineLine_90 (by decide) ?_
              refine zx_icmp_ne C 142 dX10_lineLine_91 (by decide) (fun q => ?_) (fun q => ?_)
              · replace h := h.1 q
                refine zx_aload_n C dX10_lineLine_142 1 rfl ?_
                refine zx_iconst (v := (0 : Int32)) C dX10_lineLine_143 (by decide) ?_
                refine zx_iload C dX10_lineLine_144 0 rfl ?_
                refine zx_iconst (v := (2 : Int32)) C dX10_lineLine_146 (by decide) ?_
                refine zx_icmp_ne C 154 dX10_lineLine_147 (by decide) (fun q => ?_) (fun q => ?_)
                · replace h := h.1 q
                  refine zx_iconst (v := (0 : Int32)) C dX10_lineLine_154 (by decide) ?_
                  refine zx_iload C dX10_lineLine_155 0 rfl ?_
                  refine zx_iconst (v := (4 : Int32)) C dX10_lineLine_157 (by decide) ?_
                  refine zx_icmp_ne C 166 dX10_lineLine_158 (by decide) (fun q => ?_) (fun q => ?_)
                  · replace h := h.1 q
                    refine zx_iload C dX10_lineLine_166 0 rfl ?_
                    refine zx_bipush (v := (6 : Int32)) C dX10_lineLine_168 (by decide) ?_
                    refine zx_icmp_ne C 179 dX10_lineLine_170 (by decide) (fun q => ?_) (fun q => ?_)
                    · replace h := h.1 q
                      refine zx_bipush (v := (9 : Int32)) C dX10_lineLine_179 (by decide) ?_
                      refine zx_cVb C [.int (0 : Int32), .int (0 : Int32), .int (9 : Int32)] lk_X10_154 (c_X10_take l D cy g (0 : Int32) (0 : Int32) (9 : Int32)  σ306 h) zs_223 rfl ⟨by decide, by decide⟩ ⟨rfl, rfl⟩ ⟨Nat.zero_le _, Nat.zero_le _⟩ rfl rfl (Nat.le_of_ble_eq_true rfl) dX10_lineLine_181 (fun r308 σ307 hb h => ?_)
                      replace h := h hb
                      refine zx_if_ne C 189 dX10_lineLine_184 (by decide) (fun q => ?_) (fun q => ?_)
                      · replace h := h.1 q
                        refine zx_aload_n C dX10_lineLine_189 1 rfl ?_
                        refine zx_getR C zs_223 fg_X10_35 rfl 232 rfl dX10_lineLine_190 ?_
                        refine zx_iload C dX10_lineLine_193 0 rfl ?_
                        refine zx_aload_n C dX10_lineLine_195 1 rfl ?_
                        refine zx_getR C zs_223 fg_X10_38 rfl 233 rfl dX10_lineLine_196 ?_
                        refine zx_iconst (v := (0 : Int32)) C dX10_lineLine_199 (by decide) ?_
                        refine zx_iald C 0 zs_233 (by unfold vp_in; decide) (by decide) dX10_lineLine_200 ?_
                        obtain ⟨bd309, h⟩ := h
                        refine zx_iast C (r2).toNatClampNeg zs_232 bd309 rfl dX10_lineLine_201 ?_
                        refine zx_sig (fun σ310 eσ310 => ?_)
                        replace h := h σ310 eσ310
                        refine zx_iconst (v := (1 : Int32)) C dX10_lineLine_202 (by decide) ?_
                        exact zx_zret C hr dX10_lineLine_203 (Or.inr rfl) h
                      · replace h := h.2 q
                        refine zx_iconst (v := (0 : Int32)) C dX10_lineLine_187 (by decide) ?_
                        exact zx_zret C hr dX10_lineLine_188 (Or.inl rfl) h
                    · replace h := h.2 q
                      refine zx_sipush (v := (999 : Int32)) C dX10_lineLine_173 (by decide) ?_
                      refine zx_goto C 181 dX10_lineLine_176 (by decide) ?_
                      refine zx_cVb C [.int (0 : Int32), .int (0 : Int32), .int (999 : Int32)] lk_X10_154 (c_X10_take l D cy g (0 : Int32) (0 : Int32) (999 : Int32)  σ306 h) zs_223 rfl ⟨by decide, by decide⟩ ⟨rfl, rfl⟩ ⟨Nat.zero_le _, Nat.zero_le _⟩ rfl rfl (Nat.le_of_ble_eq_true rfl) dX10_lineLine_181 (fun r312 σ311 hb h => ?_)
                      replace h := h hb
                      refine zx_if_ne C 189 dX10_lineLine_184 (by decide) (fun q => ?_) (fun q => ?_)
                      · replace h := h.1 q
                        refine zx_aload_n C dX10_lineLine_189 1 rfl ?_
                        refine zx_getR C zs_223 fg_X10_35 rfl 232 rfl dX10_lineLine_190 ?_
                        refine zx_iload C dX10_lineLine_193 0 rfl ?_
                        refine zx_aload_n C dX10_lineLine_195 1 rfl ?_
                        refine zx_getR C zs_223 fg_X10_38 rfl 233 rfl dX10_lineLine_196 ?_
                        refine zx_iconst (v := (0 : Int32)) C dX10_lineLine_199 (by decide) ?_
                        refine zx_iald C 0 zs_233 (by unfold vp_in; decide) (by decide) dX10_lineLine_200 ?_
                        obtain ⟨bd313, h⟩ := h
                        refine zx_iast C (r2).toNatClampNeg zs_232 bd313 rfl dX10_lineLine_201 ?_
                        refine zx_sig (fun σ314 eσ314 => ?_)
                        replace h := h σ314 eσ314
                        refine zx_iconst (v := (1 : Int32)) C dX10_lineLine_202 (by decide) ?_
                        exact zx_zret C hr dX10_lineLine_203 (Or.inr rfl) h
                      · replace h := h.2 q
                        refine zx_iconst (v := (0 : Int32)) C dX10_lineLine_187 (by decide) ?_
                        exact zx_zret C hr dX10_lineLine_188 (Or.inl rfl) h
                  · replace h := h.2 q
                    refine zx_bipush (v := (60 : Int32)) C dX10_lineLine_161 (by decide) ?_
                    refine zx_goto C 181 dX10_lineLine_163 (by decide) ?_
                    refine zx_cVb C [.int (0 : Int32), .int (0 : Int32), .int (60 : Int32)] lk_X10_154 (c_X10_take l D cy g (0 : Int32) (0 : Int32) (60 : Int32)  σ306 h) zs_223 rfl ⟨by decide, by decide⟩ ⟨rfl, rfl⟩ ⟨Nat.zero_le _, Nat.zero_le _⟩ rfl rfl (Nat.le_of_ble_eq_true rfl) dX10_lineLine_181 (fun r316 σ315 hb h => ?_)
                    replace h := h hb
                    refine zx_if_ne C 189 dX10_lineLine_184 (by decide) (fun q => ?_) (fun q => ?_)
                    · replace h := h.1 q
                      refine zx_aload_n C dX10_lineLine_189 1 rfl ?_
                      refine zx_getR C zs_223 fg_X10_35 rfl 232 rfl dX10_lineLine_190 ?_
                      refine zx_iload C dX10_lineLine_193 0 rfl ?_
                      refine zx_aload_n C dX10_lineLine_195 1 rfl ?_
                      refine zx_getR C zs_223 fg_X10_38 rfl 233 rfl dX10_lineLine_196 ?_
                      refine zx_iconst (v := (0 : Int32)) C dX10_lineLine_199 (by decide) ?_
                      refine zx_iald C 0 zs_233 (by unfold vp_in; decide) (by decide) dX10_lineLine_200 ?_
                      obtain ⟨bd317, h⟩ := h
                      refine zx_iast C (r2).toNatClampNeg zs_232 bd317 rfl dX10_lineLine_201 ?_
                      refine zx_sig (fun σ318 eσ318 => ?_)
                      replace h := h σ318 eσ318
                      refine zx_iconst (v := (1 : Int32)) C dX10_lineLine_202 (by decide) ?_
                      exact zx_zret C hr dX10_lineLine_203 (Or.inr rfl) h
                    · replace h := h.2 q
                      refine zx_iconst (v := (0 : Int32)) C dX10_lineLine_187 (by decide) ?_
                      exact zx_zret C hr dX10_lineLine_188 (Or.inl rfl) h
                · replace h := h.2 q
                  refine zx_iconst (v := (1 : Int32)) C dX10_lineLine_150 (by decide) ?_
                  refine zx_goto C 155 dX10_lineLine_151 (by decide) ?_
                  refine zx_iload C dX10_lineLine_155 0 rfl ?_
                  refine zx_iconst (v := (4 : Int32)) C dX10_lineLine_157 (by decide) ?_
                  refine zx_icmp_ne C 166 dX10_lineLine_158 (by decide) (fun q => ?_) (fun q => ?_)
                  · replace h := h.1 q
                    refine zx_iload C dX10_lineLine_166 0 rfl ?_
                    refine zx_bipush (v := (6 : Int32)) C dX10_lineLine_168 (by decide) ?_
                    refine zx_icmp_ne C 179 dX10_lineLine_170 (by decide) (fun q => ?_) (fun q => ?_)
                    · replace h := h.1 q
                      refine zx_bipush (v := (9 : Int32)) C dX10_lineLine_179 (by decide) ?_
                      refine zx_cVb C [.int (0 : Int32), .int (1 : Int32), .int (9 : Int32)] lk_X10_154 (c_X10_take l D cy g (0 : Int32) (1 : Int32) (9 : Int32)  σ306 h) zs_223 rfl ⟨by decide, by decide⟩ ⟨rfl, rfl⟩ ⟨Nat.zero_le _, Nat.zero_le _⟩ rfl rfl (Nat.le_of_ble_eq_true rfl) dX10_lineLine_181 (fun r320 σ319 hb h => ?_)
                      replace h := h hb
                      refine zx_if_ne C 189 dX10_lineLine_184 (by decide) (fun q => ?_) (fun q => ?_)
                      · replace h := h.1 q
                        refine zx_aload_n C dX10_lineLine_189 1 rfl ?_
                        refine zx_getR C zs_223 fg_X10_35 rfl 232 rfl dX10_lineLine_190 ?_
                        refine zx_iload C dX10_lineLine_193 0 rfl ?_
                        refine zx_aload_n C dX10_lineLine_195 1 rfl ?_
                        refine zx_getR C zs_223 fg_X10_38 rfl 233 rfl dX10_lineLine_196 ?_
                        refine zx_iconst (v := (0 : Int32)) C dX10_lineLine_199 (by decide) ?_
                        refine zx_iald C 0 zs_233 (by unfold vp_in; decide) (by decide) dX10_lineLine_200 ?_
                        obtain ⟨bd321, h⟩ := h
                        refine zx_iast C (r2).toNatClampNeg zs_232 bd321 rfl dX10_lineLine_201 ?_
                        refine zx_sig (fun σ322 eσ322 => ?_)
                        replace h := h σ322 eσ322
                        refine zx_iconst (v := (1 : Int32)) C dX10_lineLine_202 (by decide) ?_
                        exact zx_zret C hr dX10_lineLine_203 (Or.inr rfl) h
                      · replace h := h.2 q
                        refine zx_iconst (v := (0 : Int32)) C dX10_lineLine_187 (by decide) ?_
                        exact zx_zret C hr dX10_lineLine_188 (Or.inl rfl) h
                    · replace h := h.2 q
                      refine zx_sipush (v := (999 : Int32)) C dX10_lineLine_173 (by decide) ?_
                      refine zx_goto C 181 dX10_lineLine_176 (by decide) ?_
                      refine zx_cVb C [.int (0 : Int32), .int (1 : Int32), .int (999 : Int32)] lk_X10_154 (c_X10_take l D cy g (0 : Int32) (1 : Int32) (999 : Int32)  σ306 h) zs_223 rfl ⟨by decide, by decide⟩ ⟨rfl, rfl⟩ ⟨Nat.zero_le _, Nat.zero_le _⟩ rfl rfl (Nat.le_of_ble_eq_true rfl) dX10_lineLine_181 (fun r324 σ323 hb h => ?_)
                      replace h := h hb
                      refine zx_if_ne C 189 dX10_lineLine_184 (by decide) (fun q => ?_) (fun q => ?_)
                      · replace h := h.1 q
                        refine zx_aload_n C dX10_lineLine_189 1 rfl ?_
                        refine zx_getR C zs_223 fg_X10_35 rfl 232 rfl dX10_lineLine_190 ?_
                        refine zx_iload C dX10_lineLine_193 0 rfl ?_
                        refine zx_aload_n C dX10_lineLine_195 1 rfl ?_
                        refine zx_getR C zs_223 fg_X10_38 rfl 233 rfl dX10_lineLine_196 ?_
                        refine zx_iconst (v := (0 : Int32)) C dX10_lineLine_199 (by decide) ?_
                        refine zx_iald C 0 zs_233 (by unfold vp_in; decide) (by decide) dX10_lineLine_200 ?_
                        obtain ⟨bd325, h⟩ := h
                        refine zx_iast C (r2).toNatClampNeg zs_232 bd325 rfl dX10_lineLine_201 ?_
                        refine zx_sig (fun σ326 eσ326 => ?_)
                        replace h := h σ326 eσ326
                        refine zx_iconst (v := (1 : Int32)) C dX10_lineLine_202 (by decide) ?_
                        exact zx_zret C hr dX10_lineLine_203 (Or.inr rfl) h
                      · replace h := h.2 q
                        refine zx_iconst (v := (0 : Int32)) C dX10_lineLine_187 (by decide) ?_
                        exact zx_zret C hr dX10_lineLine_188 (Or.inl rfl) h
                  · replace h := h.2 q
                    refine zx_bipush (v := (60 : Int32)) C dX10_lineLine_161 (by decide) ?_
                    refine zx_goto C 181 dX10_lineLine_163 (by decide) ?_
                    refine zx_cVb C [.int (0 : Int32), .int (1 : Int32), .int (60 : Int32)] lk_X10_154 (c_X10_take l D cy g (0 : Int32) (1 : Int32) (60 : Int32)  σ306 h) zs_223 rfl ⟨by decide, by decide⟩ ⟨rfl, rfl⟩ ⟨Nat.zero_le _, Nat.zero_le _⟩ rfl rfl (Nat.le_of_ble_eq_true rfl) dX10_lineLine_181 (fun r328 σ327 hb h => ?_)
                    replace h := h hb
                    refine zx_if_ne C 189 dX10_lineLine_184 (by decide) (fun q => ?_) (fun q => ?_)
                    · replace h := h.1 q
                      refine zx_aload_n C dX10_lineLine_189 1 rfl ?_
                      refine zx_getR C zs_223 fg_X10_35 rfl 232 rfl dX10_lineLine_190 ?_
                      refine zx_iload C dX10_lineLine_193 0 rfl ?_
                      refine zx_aload_n C dX10_lineLine_195 1 rfl ?_
                      refine zx_getR C zs_223 fg_X10_38 rfl 233 rfl dX10_lineLine_196 ?_
                      refine zx_iconst (v := (0 : Int32)) C dX10_lineLine_199 (by decide) ?_
                      refine zx_iald C 0 zs_233 (by unfold vp_in; decide) (by decide) dX10_lineLine_200 ?_
                      obtain ⟨bd329, h⟩ := h
                      refine zx_iast C (r2).toNatClampNeg zs_232 bd329 rfl dX10_lineLine_201 ?_
                      refine zx_sig (fun σ330 eσ330 => ?_)
                      replace h := h σ330 eσ330
                      refine zx_iconst (v := (1 : Int32)) C dX10_lineLine_202 (by decide) ?_
                      exact zx_zret C hr dX10_lineLine_203 (Or.inr rfl) h
                    · replace h := h.2 q
                      refine zx_iconst (v := (0 : Int32)) C dX10_lineLine_187 (by decide) ?_
                      exact zx_zret C hr dX10_lineLine_188 (Or.inl rfl) h
              · replace h := h.2 q
                refine zx_lload_n C dX10_lineLine_94 2 rfl ?_
                refine zx_ldc2 C dX10_lineLine_95 co_X10_185 ?_
                refine zx_lcmp C dX10_lineLine_98 ?_
                refine zx_if_ne C 109 dX10_lineLine_99 (by decide) (fun q => ?_) (fun q => ?_)
                · replace h := h.1 q
                  refine zx_lload_n C dX10_lineLine_109 2 rfl ?_
                  refine zx_ldc2 C dX10_lineLine_110 co_X10_187 ?_
                  refine zx_lcmp C dX10_lineLine_113 ?_
                  refine zx_if_ne C 124 dX10_lineLine_114 (by decide) (fun q => ?_) (fun q => ?_)
                  · replace h := h.1 q
                    refine zx_aload_n C dX10_lineLine_124 1 rfl ?_
                    refine zx_lload_n C dX10_lineLine_125 2 rfl ?_
                    refine zx_ldc2 C dX10_lineLine_126 co_X10_191 ?_
                    refine zx_lcmp C dX10_lineLine_129 ?_
                    refine zx_if_ne C 137 dX10_lineLine_130 (by decide) (fun q => ?_) (fun q => ?_)
                    · replace h := h.1 q
                      refine zx_iconst (v := (0 : Int32)) C dX10_lineLine_137 (by decide) ?_
                      refine zx_cVb C [.int (0 : Int32)] lk_X10_203 (c_X10_ofPost l D cy g (0 : Int32)  σ306 h) zs_223 rfl ⟨by decide, by decide⟩ ⟨rfl, rfl⟩ ⟨Nat.zero_le _, Nat.zero_le _⟩ rfl rfl (Nat.le_of_ble_eq_true rfl) dX10_lineLine_138 (fun r332 σ331 hb h => ?_)
                      replace h := h hb
                      exact zx_zret C hr dX10_lineLine_141 h.1 h.2
                    · replace h := h.2 q
                      refine zx_iconst (v := (1 : Int32)) C dX10_lineLine_133 (by decide) ?_
                      refine zx_goto C 138 dX10_lineLine_134 (by decide) ?_
                      refine zx_cVb C [.int (1 : Int32)] lk_X10_203 (c_X10_ofPost l D cy g (1 : Int32)  σ306 h) zs_223 rfl ⟨by decide, by decide⟩ ⟨rfl, rfl⟩ ⟨Nat.zero_le _, Nat.zero_le _⟩ rfl rfl (Nat.le_of_ble_eq_true rfl) dX10_lineLine_138 (fun r334 σ333 hb h => ?_)
                      replace h := h hb
                      exact zx_zret C hr dX10_lineLine_141 h.1 h.2
                  · replace h := h.2 q
                    refine zx_aload_n C dX10_lineLine_117 1 rfl ?_
                    refine zx_cVb C [] lk_X10_200 (c_X10_riderLine l D cy g   σ306 h) zs_223 rfl ⟨by decide, by decide⟩ ⟨rfl, rfl⟩ ⟨Nat.zero_le _, Nat.zero_le _⟩ rfl rfl (Nat.le_of_ble_eq_true rfl) dX10_lineLine_118 (fun r336 σ335 hb h => ?_)
                    replace h := h hb
                    refine zx_goto C 141 dX10_lineLine_121 (by decide) ?_
                    exact zx_zret C hr dX10_lineLine_141 h.1 h.2
                · replace h := h.2 q
                  refine zx_aload_n C dX10_lineLine_102 1 rfl ?_
                  refine zx_cVb C [] lk_X10_197 (c_X10_postLine l D cy g   σ306 h) zs_223 rfl ⟨by decide, by decide⟩ ⟨rfl, rfl⟩ ⟨Nat.zero_le _, Nat.zero_le _⟩ rfl rfl (Nat.le_of_ble_eq_true rfl) dX10_lineLine_103 (fun r338 σ337 hb h => ?_)
                  replace h := h hb
                  refine zx_goto C 141 dX10_lineLine_106 (by decide) ?_
                  exact zx_zret C hr dX10_lineLine_141 h.1 h.2
            · replace h := h.2 q
              refine zx_aload_n C dX10_lineLine_76 1 rfl ?_
              refine zx_iconst (v := (1 : Int32)) C dX10_lineLine_77 (by decide) ?_
              refine zx_bipush (v := (6 : Int32)) C dX10_lineLine_78 (by decide) ?_
              refine zx_iload_n C dX10_lineLine_80 3 rfl ?_
              refine zx_cVv C [.int (1 : Int32), .int (6 : Int32), .int a2] lk_X10_193 (c_X10_full l D cy g (1 : Int32) (6 : Int32) a2  σ1 h) zs_223 rfl ⟨by decide, by decide⟩ ⟨rfl, rfl⟩ ⟨Nat.zero_le _, Nat.zero_le _⟩ rfl rfl (Nat.le_of_ble_eq_true rfl) dX10_lineLine_81 (fun σ339 h => ?_)
              refine zx_aload_n C dX10_lineLine_84 1 rfl ?_
              refine zx_cVv C [] lk_X10_151 (c_X10_token l D cy g   σ339 h) zs_223 rfl ⟨by decide, by decide⟩ ⟨rfl, rfl⟩ ⟨Nat.zero_le _, Nat.zero_le _⟩ rfl rfl (Nat.le_of_ble_eq_true rfl) dX10_lineLine_85 (fun σ340 h => ?_)
              refine zx_iload C dX10_lineLine_88 0 rfl ?_
              refine zx_iconst (v := (-1 : Int32)) C dX10_lineLine_90 (by decide) ?_
              refine zx_icmp_ne C 142 dX10_lineLine_91 (by decide) (fun q => ?_) (fun q => ?_)
              · replace h := h.1 q
                refine zx_aload_n C dX10_lineLine_142 1 rfl ?_
                refine zx_iconst (v := (0 : Int32)) C dX10_lineLine_143 (by decide) ?_
                refine zx_iload C dX10_lineLine_144 0 rfl ?_
                refine zx_iconst (v := (2 : Int32)) C dX10_lineLine_146 (by decide) ?_
                refine zx_icmp_ne C 154 dX10_lineLine_147 (by decide) (fun q => ?_) (fun q => ?_)
                · replace h := h.1 q
                  refine zx_iconst (v := (0 : Int32)) C dX10_lineLine_154 (by decide) ?_
                  refine zx_iload C dX10_lineLine_155 0 rfl ?_
                  refine zx_iconst (v := (4 : Int32)) C dX10_lineLine_157 (by decide) ?_
                  refine zx_icmp_ne C 166 dX10_lineLine_158 (by decide) (fun q => ?_) (fun q => ?_)
                  · replace h := h.1 q
                    refine zx_iload C dX10_lineLine_166 0 rfl ?_
                    refine zx_bipush (v := (6 : Int32)) C dX10_lineLine_168 (by decide) ?_
                    refine zx_icmp_ne C 179 dX10_lineLine_170 (by decide) (fun q => ?_) (fun q => ?_)
                    · replace h := h.1 q
                      refine zx_bipush (v := (9 : Int32)) C dX10_lineLine_179 (by decide) ?_
                      refine zx_cVb C [.int (0 : Int32), .int (0 : Int32), .int (9 : Int32)] lk_X10_154 (c_X10_take l D cy g (0 : Int32) (0 : Int32) (9 : Int32)  σ340 h) zs_223 rfl ⟨by decide, by decide⟩ ⟨rfl, rfl⟩ ⟨Nat.zero_le _, Nat.zero_le _⟩ rfl rfl (Nat.le_of_ble_eq_true rfl) dX10_lineLine_181 (fun r342 σ341 hb h => ?_)
                      replace h := h hb
                      refine zx_if_ne C 189 dX10_lineLine_184 (by decide) (fun q => ?_) (fun q => ?_)
                      · replace h := h.1 q
                        refine zx_aload_n C dX10_lineLine_189 1 rfl ?_
                        refine zx_getR C zs_223 fg_X10_35 rfl 232 rfl dX10_lineLine_190 ?_
                        refine zx_iload C dX10_lineLine_193 0 rfl ?_
                        refine zx_aload_n C dX10_lineLine_195 1 rfl ?_
                        refine zx_getR C zs_223 fg_X10_38 rfl 233 rfl dX10_lineLine_196 ?_
                        refine zx_iconst (v := (0 : Int32)) C dX10_lineLine_199 (by decide) ?_
                        refine zx_iald C 0 zs_233 (by unfold vp_in; decide) (by decide) dX10_lineLine_200 ?_
                        obtain ⟨bd343, h⟩ := h
                        refine zx_iast C (r2).toNatClampNeg zs_232 bd343 rfl dX10_lineLine_201 ?_
                        refine zx_sig (fun σ344 eσ344 => ?_)
                        replace h := h σ344 eσ344
                        refine zx_iconst (v := (1 : Int32)) C dX10_lineLine_202 (by decide) ?_
                        exact zx_zret C hr dX10_lineLine_203 (Or.inr rfl) h
                      · replace h := h.2 q
                        refine zx_iconst (v := (0 : Int32)) C dX10_lineLine_187 (by decide) ?_
                        exact zx_zret C hr dX10_lineLine_188 (Or.inl rfl) h
                    · replace h := h.2 q
                      refine zx_sipush (v := (999 : Int32)) C dX10_lineLine_173 (by decide) ?_
                      refine zx_goto C 181 dX10_lineLine_176 (by decide) ?_
                      refine zx_cVb C [.int (0 : Int32), .int (0 : Int32), .int (999 : Int32)] lk_X10_154 (c_X10_take l D cy g (0 : Int32) (0 : Int32) (999 : Int32)  σ340 h) zs_223 rfl ⟨by decide, by decide⟩ ⟨rfl, rfl⟩ ⟨Nat.zero_le _, Nat.zero_le _⟩ rfl rfl (Nat.le_of_ble_eq_true rfl) dX10_lineLine_181 (fun r346 σ345 hb h => ?_)
                      replace h := h hb
                      refine zx_if_ne C 189 dX10_lineLine_184 (by decide) (fun q => ?_) (fun q => ?_)
                      · replace h := h.1 q
                        refine zx_aload_n C dX10_lineLine_189 1 rfl ?_
                        refine zx_getR C zs_223 fg_X10_35 rfl 232 rfl dX10_lineLine_190 ?_
                        refine zx_iload C dX10_lineLine_193 0 rfl ?_
                        refine zx_aload_n C dX10_lineLine_195 1 rfl ?_
                        refine zx_getR C zs_223 fg_X10_38 rfl 233 rfl dX10_lineLine_196 ?_
                        refine zx_iconst (v := (0 : Int32)) C dX10_lineLine_199 (by decide) ?_
                        refine zx_iald C 0 zs_233 (by unfold vp_in; decide) (by decide) dX10_lineLine_200 ?_
                        obtain ⟨bd347, h⟩ := h
                        refine zx_iast C (r2).toNatClampNeg zs_232 bd347 rfl dX10_lineLine_201 ?_
                        refine zx_sig (fun σ348 eσ348 => ?_)
                        replace h := h σ348 eσ348
                        refine zx_iconst (v := (1 : Int32)) C dX10_lineLine_202 (by decide) ?_
                        exact zx_zret C hr dX10_lineLine_203 (Or.inr rfl) h
                      · replace h := h.2 q
                        refine zx_iconst (v := (0 : Int32)) C dX10_lineLine_187 (by decide) ?_
                        exact zx_zret C hr dX10_lineLine_188 (Or.inl rfl) h
                  · replace h := h.2 q
                    refine zx_bipush (v := (60 : Int32)) C dX10_lineLine_161 (by decide) ?_
                    refine zx_goto C 181 dX10_lineLine_163 (by decide) ?_
                    refine zx_cVb C [.int (0 : Int32), .int (0 : Int32), .int (60 : Int32)] lk_X10_154 (c_X10_take l D cy g (0 : Int32) (0 : Int32) (60 : Int32)  σ340 h) zs_223 rfl ⟨by decide, by decide⟩ ⟨rfl, rfl⟩ ⟨Nat.zero_le _, Nat.zero_le _⟩ rfl rfl (Nat.le_of_ble_eq_true rfl) dX10_lineLine_181 (fun r350 σ349 hb h => ?_)
                    replace h := h hb
                    refine zx_if_ne C 189 dX10_lineLine_184 (by decide) (fun q => ?_) (fun q => ?_)
                    · replace h := h.1 q
                      refine zx_aload_n C dX10_lineLine_189 1 rfl ?_
                      refine zx_getR C zs_223 fg_X10_35 rfl 232 rfl dX10_lineLine_190 ?_
                      refine zx_iload C dX10_lineLine_193 0 rfl ?_
                      refine zx_aload_n C dX10_lineLine_195 1 rfl ?_
                      refine zx_getR C zs_223 fg_X10_38 rfl 233 rfl dX10_lineLine_196 ?_
                      refine zx_iconst (v := (0 : Int32)) C dX10_lineLine_199 (by decide) ?_
                      refine zx_iald C 0 zs_233 (by unfold vp_in; decide) (by decide) dX10_lineLine_200 ?_
                      obtain ⟨bd351, h⟩ := h
                      refine zx_iast C (r2).toNatClampNeg zs_232 bd351 rfl dX10_lineLine_201 ?_
                      refine zx_sig (fun σ352 eσ352 => ?_)
                      replace h := h σ352 eσ352
                      refine zx_iconst (v := (1 : Int32)) C dX10_lineLine_202 (by decide) ?_
                      exact zx_zret C hr dX10_lineLine_203 (Or.inr rfl) h
                    · replace h := h.2 q
                      refine zx_iconst (v := (0 : Int32)) C dX10_lineLine_187 (by decide) ?_
                      exact zx_zret C hr dX10_lineLine_188 (Or.inl rfl) h
                · replace h := h.2 q
                  refine zx_iconst (v := (1 : Int32)) C dX10_lineLine_150 (by decide) ?_
                  refine zx_goto C 155 dX10_lineLine_151 (by decide) ?_
                  refine zx_iload C dX10_lineLine_155 0 rfl ?_
                  refine zx_iconst (v := (4 : Int32)) C dX10_lineLine_157 (by decide) ?_
                  refine zx_icmp_ne C 166 dX10_lineLine_158 (by decide) (fun q => ?_) (fun q => ?_)
                  · replace h := h.1 q
                    refine zx_iload C dX10_lineLine_166 0 rfl ?_
                    refine zx_bipush (v := (6 : Int32)) C dX10_lineLine_168 (by decide) ?_
                    refine zx_icmp_ne C 179 dX10_lineLine_170 (by decide) (fun q => ?_) (fun q => ?_)
                    · replace h := h.1 q
                      refine zx_bipush (v := (9 : Int32)) C dX10_lineLine_179 (by decide) ?_
                      refine zx_cVb C [.int (0 : Int32), .int (1 : Int32), .int (9 : Int32)] lk_X10_154 (c_X10_take l D cy g (0 : Int32) (1 : Int32) (9 : Int32)  σ340 h) zs_223 rfl ⟨by decide, by decide⟩ ⟨rfl, rfl⟩ ⟨Nat.zero_le _, Nat.zero_le _⟩ rfl rfl (Nat.le_of_ble_eq_true rfl) dX10_lineLine_181 (fun r354 σ353 hb h => ?_)
                      replace h := h hb
                      refine zx_if_ne C 189 dX10_lineLine_184 (by decide) (fun q => ?_) (fun q => ?_)
                      · replace h := h.1 q
                        refine zx_aload_n C dX10_lineLine_189 1 rfl ?_
                        refine zx_getR C zs_223 fg_X10_35 rfl 232 rfl dX10_lineLine_190 ?_
                        refine zx_iload C dX10_lineLine_193 0 rfl ?_
                        refine zx_aload_n C dX10_lineLine_195 1 rfl ?_
                        refine zx_getR C zs_223 fg_X10_38 rfl 233 rfl dX10_lineLine_196 ?_
                        refine zx_iconst (v := (0 : Int32)) C dX10_lineLine_199 (by decide) ?_
                        refine zx_iald C 0 zs_233 (by unfold vp_in; decide) (by decide) dX10_lineLine_200 ?_
                        obtain ⟨bd355, h⟩ := h
                        refine zx_iast C (r2).toNatClampNeg zs_232 bd355 rfl dX10_lineLine_201 ?_
                        refine zx_sig (fun σ356 eσ356 => ?_)
                        replace h := h σ356 eσ356
                        refine zx_iconst (v := (1 : Int32)) C dX10_lineLine_202 (by decide) ?_
                        exact zx_zret C hr dX10_lineLine_203 (Or.inr rfl) h
                      · replace h := h.2 q
                        refine zx_iconst (v := (0 : Int32)) C dX10_lineLine_187 (by decide) ?_
                        exact zx_zret C hr dX10_lineLine_188 (Or.inl rfl) h
                    · replace h := h.2 q
                      refine zx_sipush (v := (999 : Int32)) C dX10_lineLine_173 (by decide) ?_
                      refine zx_goto C 181 dX10_lineLine_176 (by decide) ?_
                      refine zx_cVb C [.int (0 : Int32), .int (1 : Int32), .int (999 : Int32)] lk_X10_154 (c_X10_take l D cy g (0 : Int32) (1 : Int32) (999 : Int32)  σ340 h) zs_223 rfl ⟨by decide, by decide⟩ ⟨rfl, rfl⟩ ⟨Nat.zero_le _, Nat.zero_le _⟩ rfl rfl (Nat.le_of_ble_eq_true rfl) dX10_lineLine_181 (fun r358 σ357 hb h => ?_)
                      replace h := h hb
                      refine zx_if_ne C 189 dX10_lineLine_184 (by decide) (fun q => ?_) (fun q => ?_)
                      · replace h := h.1 q
                        refine zx_aload_n C dX10_lineLine_189 1 rfl ?_
                        refine zx_getR C zs_223 fg_X10_35 rfl 232 rfl dX10_lineLine_190 ?_
                        refine zx_iload C dX10_lineLine_193 0 rfl ?_
                        refine zx_aload_n C dX10_lineLine_195 1 rfl ?_
                        refine zx_getR C zs_223 fg_X10_38 rfl 233 rfl dX10_lineLine_196 ?_
                        refine zx_iconst (v := (0 : Int32)) C dX10_lineLine_199 (by decide) ?_
                        refine zx_iald C 0 zs_233 (by unfold vp_in; decide) (by decide) dX10_lineLine_200 ?_
                        obtain ⟨bd359, h⟩ := h
                        refine zx_iast C (r2).toNatClampNeg zs_232 bd359 rfl dX10_lineLine_201 ?_
                        refine zx_sig (fun σ360 eσ360 => ?_)
                        replace h := h σ360 eσ360
                        refine zx_iconst (v := (1 : Int32)) C dX10_lineLine_202 (by decide) ?_
                        exact zx_zret C hr dX10_lineLine_203 (Or.inr rfl) h
                      · replace h := h.2 q
                        refine zx_iconst (v := (0 : Int32)) C dX10_lineLine_187 (by decide) ?_
                        exact zx_zret C hr dX10_lineLine_188 (Or.inl rfl) h
                  · replace h := h.2 q
                    refine zx_bipush (v := (60 : Int32)) C dX10_lineLine_161 (by decide) ?_
                    refine zx_goto C 181 dX10_lineLine_163 (by decide) ?_
                    refine zx_cVb C [.int (0 : Int32), .int (1 : Int32), .int (60 : Int32)] lk_X10_154 (c_X10_take l D cy g (0 : Int32) (1 : Int32) (60 : Int32)  σ340 h) zs_223 rfl ⟨by decide, by decide⟩ ⟨rfl, rfl⟩ ⟨Nat.zero_le _, Nat.zero_le _⟩ rfl rfl (Nat.le_of_ble_eq_true rfl) dX10_lineLine_181 (fun r362 σ361 hb h => ?_)
                    replace h := h hb
                    refine zx_if_ne C 189 dX10_lineLine_184 (by decide) (fun q => ?_) (fun q => ?_)
                    · replace h := h.1 q
                      refine zx_aload_n C dX10_lineLine_189 1 rfl ?_
                      refine zx_getR C zs_223 fg_X10_35 rfl 232 rfl dX10_lineLine_190 ?_
                      refine zx_iload C dX10_lineLine_193 0 rfl ?_
                      refine zx_aload_n C dX10_lineLine_195 1 rfl ?_
                      refine zx_getR C zs_223 fg_X10_38 rfl 233 rfl dX10_lineLine_196 ?_
                      refine zx_iconst (v := (0 : Int32)) C dX10_lineLine_199 (by decide) ?_
                      refine zx_iald C 0 zs_233 (by unfold vp_in; decide) (by decide) dX10_lineLine_200 ?_
                      obtain ⟨bd363, h⟩ := h
                      refine zx_iast C (r2).toNatClampNeg zs_232 bd363 rfl dX10_lineLine_201 ?_
                      refine zx_sig (fun σ364 eσ364 => ?_)
                      replace h := h σ364 eσ364
                      refine zx_iconst (v := (1 : Int32)) C dX10_lineLine_202 (by decide) ?_
                      exact zx_zret C hr dX10_lineLine_203 (Or.inr rfl) h
                    · replace h := h.2 q
                      refine zx_iconst (v := (0 : Int32)) C dX10_lineLine_187 (by decide) ?_
                      exact zx_zret C hr dX10_lineLine_188 (Or.inl rfl) h
              · replace h := h.2 q
                refine zx_lload_n C dX10_lineLine_94 2 rfl ?_
                refine zx_ldc2 C dX10_lineLine_95 co_X10_185 ?_
                refine zx_lcmp C dX10_lineLine_98 ?_
                refine zx_if_ne C 109 dX10_lineLine_99 (by decide) (fun q => ?_) (fun q => ?_)
                · replace h := h.1 q
                  refine zx_lload_n C dX10_lineLine_109 2 rfl ?_
                  refine zx_ldc2 C dX10_lineLine_110 co_X10_187 ?_
                  refine zx_lcmp C dX10_lineLine_113 ?_
                  refine zx_if_ne C 124 dX10_lineLine_114 (by decide) (fun q => ?_) (fun q => ?_)
                  · replace h := h.1 q
                    refine zx_aload_n C dX10_lineLine_124 1 rfl ?_
                    refine zx_lload_n C dX10_lineLine_125 2 rfl ?_
                    refine zx_ldc2 C dX10_lineLine_126 co_X10_191 ?_
                    refine zx_lcmp C dX10_lineLine_129 ?_
                    refine zx_if_ne C 137 dX10_lineLine_130 (by decide) (fun q => ?_) (fun q => ?_)
                    · replace h := h.1 q
                      refine zx_iconst (v := (0 : Int32)) C dX10_lineLine_137 (by decide) ?_
                      refine zx_cVb C [.int (0 : Int32)] lk_X10_203 (c_X10_ofPost l D cy g (0 : Int32)  σ340 h) zs_223 rfl ⟨by decide, by decide⟩ ⟨rfl, rfl⟩ ⟨Nat.zero_le _, Nat.zero_le _⟩ rfl rfl (Nat.le_of_ble_eq_true rfl) dX10_lineLine_138 (fun r366 σ365 hb h => ?_)
                      replace h := h hb
                      exact zx_zret C hr dX10_lineLine_141 h.1 h.2
                    · replace h := h.2 q
                      refine zx_iconst (v := (1 : Int32)) C dX10_lineLine_133 (by decide) ?_
                      refine zx_goto C 138 dX10_lineLine_134 (by decide) ?_
                      refine zx_cVb C [.int (1 : Int32)] lk_X10_203 (c_X10_ofPost l D cy g (1 : Int32)  σ340 h) zs_223 rfl ⟨by decide, by decide⟩ ⟨rfl, rfl⟩ ⟨Nat.zero_le _, Nat.zero_le _⟩ rfl rfl (Nat.le_of_ble_eq_true rfl) dX10_lineLine_138 (fun r368 σ367 hb h => ?_)
                      replace h := h hb
                      exact zx_zret C hr dX10_lineLine_141 h.1 h.2
                  · replace h := h.2 q
                    refine zx_aload_n C dX10_lineLine_117 1 rfl ?_
                    refine zx_cVb C [] lk_X10_200 (c_X10_riderLine l D cy g   σ340 h) zs_223 rfl ⟨by decide, by decide⟩ ⟨rfl, rfl⟩ ⟨Nat.zero_le _, Nat.zero_le _⟩ rfl rfl (Nat.le_of_ble_eq_true rfl) dX10_lineLine_118 (fun r370 σ369 hb h => ?_)
                    replace h := h hb
                    refine zx_goto C 141 dX10_lineLine_121 (by decide) ?_
                    exact zx_zret C hr dX10_lineLine_141 h.1 h.2
                · replace h := h.2 q
                  refine zx_aload_n C dX10_lineLine_102 1 rfl ?_
                  refine zx_cVb C [] lk_X10_197 (c_X10_postLine l D cy g   σ340 h) zs_223 rfl ⟨by decide, by decide⟩ ⟨rfl, rfl⟩ ⟨Nat.zero_le _, Nat.zero_le _⟩ rfl rfl (Nat.le_of_ble_eq_true rfl) dX10_lineLine_103 (fun r372 σ371 hb h => ?_)
                  replace h := h hb
                  refine zx_goto C 141 dX10_lineLine_106 (by decide) ?_
                  exact zx_zret C hr dX10_lineLine_141 h.1 h.2
          · replace h := h.2 q
            refine zx_aload_n C dX10_lineLine_57 1 rfl ?_
            refine zx_iconst (v := (0 : Int32)) C dX10_lineLine_58 (by decide) ?_
            refine zx_bipush (v := (16 : Int32)) C dX10_lineLine_59 (by decide) ?_
            refine zx_iload_n C dX10_lineLine_61 3 rfl ?_
            refine zx_cVv C [.int (0 : Int32), .int (16 : Int32), .int a2] lk_X10_193 (c_X10_full l D cy g (0 : Int32) (16 : Int32) a2  σ1 h) zs_223 rfl ⟨by decide, by decide⟩ ⟨rfl, rfl⟩ ⟨Nat.zero_le _, Nat.zero_le _⟩ rfl rfl (Nat.le_of_ble_eq_true rfl) dX10_lineLine_62 (fun σ373 h => ?_)
            refine zx_goto C 84 dX10_lineLine_65 (by decide) ?_
            refine zx_aload_n C dX10_lineLine_84 1 rfl ?_
            refine zx_cVv C [] lk_X10_151 (c_X10_token l D cy g   σ373 h) zs_223 rfl ⟨by decide, by decide⟩ ⟨rfl, rfl⟩ ⟨Nat.zero_le _, Nat.zero_le _⟩ rfl rfl (Nat.le_of_ble_eq_true rfl) dX10_lineLine_85 (fun σ374 h => ?_)
            refine zx_iload C dX10_lineLine_88 0 rfl ?_
            refine zx_iconst (v := (-1 : Int32)) C dX10_lineLine_90 (by decide) ?_
            refine zx_icmp_ne C 142 dX10_lineLine_91 (by decide) (fun q => ?_) (fun q => ?_)
            · replace h := h.1 q
              refine zx_aload_n C dX10_lineLine_142 1 rfl ?_
              refine zx_iconst (v := (0 : Int32)) C dX10_lineLine_143 (by decide) ?_
              refine zx_iload C dX10_lineLine_144 0 rfl ?_
              refine zx_iconst (v := (2 : Int32)) C dX10_lineLine_146 (by decide) ?_
              refine zx_icmp_ne C 154 dX10_lineLine_147 (by decide) (fun q => ?_) (fun q => ?_)
              · replace h := h.1 q
                refine zx_iconst (v := (0 : Int32)) C dX10_lineLine_154 (by decide) ?_
                refine zx_iload C dX10_lineLine_155 0 rfl ?_
                refine zx_iconst (v := (4 : Int32)) C dX10_lineLine_157 (by decide) ?_
                refine zx_icmp_ne C 166 dX10_lineLine_158 (by decide) (fun q => ?_) (fun q => ?_)
                · replace h := h.1 q
                  refine zx_iload C dX10_lineLine_166 0 rfl ?_
                  refine zx_bipush (v := (6 : Int32)) C dX10_lineLine_168 (by decide) ?_
                  refine zx_icmp_ne C 179 dX10_lineLine_170 (by decide) (fun q => ?_) (fun q => ?_)
                  · replace h := h.1 q
                    refine zx_bipush (v := (9 : Int32)) C dX10_lineLine_179 (by decide) ?_
                    refine zx_cVb C [.int (0 : Int32), .int (0 : Int32), .int (9 : Int32)] lk_X10_154 (c_X10_take l D cy g (0 : Int32) (0 : Int32) (9 : Int32)  σ374 h) zs_223 rfl ⟨by decide, by decide⟩ ⟨rfl, rfl⟩ ⟨Nat.zero_le _, Nat.zero_le _⟩ rfl rfl (Nat.le_of_ble_eq_true rfl) dX10_lineLine_181 (fun r376 σ375 hb h => ?_)
                    replace h := h hb
                    refine zx_if_ne C 189 dX10_lineLine_184 (by decide) (fun q => ?_) (fun q => ?_)
                    · replace h := h.1 q
                      refine zx_aload_n C dX10_lineLine_189 1 rfl ?_
                      refine zx_getR C zs_223 fg_X10_35 rfl 232 rfl dX10_lineLine_190 ?_
                      refine zx_iload C dX10_lineLine_193 0 rfl ?_
                      refine zx_aload_n C dX10_lineLine_195 1 rfl ?_
                      refine zx_getR C zs_223 fg_X10_38 rfl 233 rfl dX10_lineLine_196 ?_
                      refine zx_iconst (v := (0 : Int32)) C dX10_lineLine_199 (by decide) ?_
                      refine zx_iald C 0 zs_233 (by unfold vp_in; decide) (by decide) dX10_lineLine_200 ?_
                      obtain ⟨bd377, h⟩ := h
                      refine zx_iast C (r2).toNatClampNeg zs_232 bd377 rfl dX10_lineLine_201 ?_
                      refine zx_sig (fun σ378 eσ378 => ?_)
                      replace h := h σ378 eσ378
                      refine zx_iconst (v := (1 : Int32)) C dX10_lineLine_202 (by decide) ?_
                      exact zx_zret C hr dX10_lineLine_203 (Or.inr rfl) h
                    · replace h := h.2 q
                      refine zx_iconst (v := (0 : Int32)) C dX10_lineLine_187 (by decide) ?_
                      exact zx_zret C hr dX10_lineLine_188 (Or.inl rfl) h
                  · replace h := h.2 q
                    refine zx_sipush (v := (999 : Int32)) C dX10_lineLine_173 (by decide) ?_
                    refine zx_goto C 181 dX10_lineLine_176 (by decide) ?_
                    refine zx_cVb C [.int (0 : Int32), .int (0 : Int32), .int (999 : Int32)] lk_X10_154 (c_X10_take l D cy g (0 : Int32) (0 : Int32) (999 : Int32)  σ374 h) zs_223 rfl ⟨by decide, by decide⟩ ⟨rfl, rfl⟩ ⟨Nat.zero_le _, Nat.zero_le _⟩ rfl rfl (Nat.le_of_ble_eq_true rfl) dX10_lineLine_181 (fun r380 σ379 hb h => ?_)
                    replace h := h hb
                    refine zx_if_ne C 189 dX10_lineLine_184 (by decide) (fun q => ?_) (fun q => ?_)
                    · replace h := h.1 q
                      refine zx_aload_n C dX10_lineLine_189 1 rfl ?_
                      refine zx_getR C zs_223 fg_X10_35 rfl 232 rfl dX10_lineLine_190 ?_
                      refine zx_iload C dX10_lineLine_193 0 rfl ?_
                      refine zx_aload_n C dX10_lineLine_195 1 rfl ?_
                      refine zx_getR C zs_223 fg_X10_38 rfl 233 rfl dX10_lineLine_196 ?_
                      refine zx_iconst (v := (0 : Int32)) C dX10_lineLine_199 (by decide) ?_
                      refine zx_iald C 0 zs_233 (by unfold vp_in; decide) (by decide) dX10_lineLine_200 ?_
                      obtain ⟨bd381, h⟩ := h
                      refine zx_iast C (r2).toNatClampNeg zs_232 bd381 rfl dX10_lineLine_201 ?_
                      refine zx_sig (fun σ382 eσ382 => ?_)
                      replace h := h σ382 eσ382
                      refine zx_iconst (v := (1 : Int32)) C dX10_lineLine_202 (by decide) ?_
                      exact zx_zret C hr dX10_lineLine_203 (Or.inr rfl) h
                    · replace h := h.2 q
                      refine zx_iconst (v := (0 : Int32)) C dX10_lineLine_187 (by decide) ?_
                      exact zx_zret C hr dX10_lineLine_188 (Or.inl rfl) h
                · replace h := h.2 q
                  refine zx_bipush (v := (60 : Int32)) C dX10_lineLine_161 (by decide) ?_
                  refine zx_goto C 181 dX10_lineLine_163 (by decide) ?_
                  refine zx_cVb C [.int (0 : Int32), .int (0 : Int32), .int (60 : Int32)] lk_X10_154 (c_X10_take l D cy g (0 : Int32) (0 : Int32) (60 : Int32)  σ374 h) zs_223 rfl ⟨by decide, by decide⟩ ⟨rfl, rfl⟩ ⟨Nat.zero_le _, Nat.zero_le _⟩ rfl rfl (Nat.le_of_ble_eq_true rfl) dX10_lineLine_181 (fun r384 σ383 hb h => ?_)
                  replace h := h hb
                  refine zx_if_ne C 189 dX10_lineLine_184 (by decide) (fun q => ?_) (fun q => ?_)
                  · replace h := h.1 q
                    refine zx_aload_n C dX10_lineLine_189 1 rfl ?_
                    refine zx_getR C zs_223 fg_X10_35 rfl 232 rfl dX10_lineLine_190 ?_
                    refine zx_iload C dX10_lineLine_193 0 rfl ?_
                    refine zx_aload_n C dX10_lineLine_195 1 rfl ?_
                    refine zx_getR C zs_223 fg_X10_38 rfl 233 rfl dX10_lineLine_196 ?_
                    refine zx_iconst (v := (0 : Int32)) C dX10_lineLine_199 (by decide) ?_
                    refine zx_iald C 0 zs_233 (by unfold vp_in; decide) (by decide) dX10_lineLine_200 ?_
                    obtain ⟨bd385, h⟩ := h
                    refine zx_iast C (r2).toNatClampNeg zs_232 bd385 rfl dX10_lineLine_201 ?_
                    refine zx_sig (fun σ386 eσ386 => ?_)
                    replace h := h σ386 eσ386
                    refine zx_iconst (v := (1 : Int32)) C dX10_lineLine_202 (by decide) ?_
                    exact zx_zret C hr dX10_lineLine_203 (Or.inr rfl) h
                  · replace h := h.2 q
                    refine zx_iconst (v := (0 : Int32)) C dX10_lineLine_187 (by decide) ?_
                    exact zx_zret C hr dX10_lineLine_188 (Or.inl rfl) h
              · replace h := h.2 q
                refine zx_iconst (v := (1 : Int32)) C dX10_lineLine_150 (by decide) ?_
                refine zx_goto C 155 dX10_lineLine_151 (by decide) ?_
                refine zx_iload C dX10_lineLine_155 0 rfl ?_
                refine zx_iconst (v := (4 : Int32)) C dX10_lineLine_157 (by decide) ?_
                refine zx_icmp_ne C 166 dX10_lineLine_158 (by decide) (fun q => ?_) (fun q => ?_)
                · replace h := h.1 q
                  refine zx_iload C dX10_lineLine_166 0 rfl ?_
                  refine zx_bipush (v := (6 : Int32)) C dX10_lineLine_168 (by decide) ?_
                  refine zx_icmp_ne C 179 dX10_lineLine_170 (by decide) (fun q => ?_) (fun q => ?_)
                  · replace h := h.1 q
                    refine zx_bipush (v := (9 : Int32)) C dX10_lineLine_179 (by decide) ?_
                    refine zx_cVb C [.int (0 : Int32), .int (1 : Int32), .int (9 : Int32)] lk_X10_154 (c_X10_take l D cy g (0 : Int32) (1 : Int32) (9 : Int32)  σ374 h) zs_223 rfl ⟨by decide, by decide⟩ ⟨rfl, rfl⟩ ⟨Nat.zero_le _, Nat.zero_le _⟩ rfl rfl (Nat.le_of_ble_eq_true rfl) dX10_lineLine_181 (fun r388 σ387 hb h => ?_)
                    replace h := h hb
                    refine zx_if_ne C 189 dX10_lineLine_184 (by decide) (fun q => ?_) (fun q => ?_)
                    · replace h := h.1 q
                      refine zx_aload_n C dX10_lineLine_189 1 rfl ?_
                      refine zx_getR C zs_223 fg_X10_35 rfl 232 rfl dX10_lineLine_190 ?_
                      refine zx_iload C dX10_lineLine_193 0 rfl ?_
                      refine zx_aload_n C dX10_lineLine_195 1 rfl ?_
                      refine zx_getR C zs_223 fg_X10_38 rfl 233 rfl dX10_lineLine_196 ?_
                      refine zx_iconst (v := (0 : Int32)) C dX10_lineLine_199 (by decide) ?_
                      refine zx_iald C 0 zs_233 (by unfold vp_in; decide) (by decide) dX10_lineLine_200 ?_
                      obtain ⟨bd389, h⟩ := h
                      refine zx_iast C (r2).toNatClampNeg zs_232 bd389 rfl dX10_lineLine_201 ?_
                      refine zx_sig (fun σ390 eσ390 => ?_)
                      replace h := h σ390 eσ390
                      refine zx_iconst (v := (1 : Int32)) C dX10_lineLine_202 (by decide) ?_
                      exact zx_zret C hr dX10_lineLine_203 (Or.inr rfl) h
                    · replace h := h.2 q
                      refine zx_iconst (v := (0 : Int32)) C dX10_lineLine_187 (by decide) ?_
                      exact zx_zret C hr dX10_lineLine_188 (Or.inl rfl) h
                  · replace h := h.2 q
                    refine zx_sipush (v := (999 : Int32)) C dX10_lineLine_173 (by decide) ?_
                    refine zx_goto C 181 dX10_lineLine_176 (by decide) ?_
                    refine zx_cVb C [.int (0 : Int32), .int (1 : Int32), .int (999 : Int32)] lk_X10_154 (c_X10_take l D cy g (0 : Int32) (1 : Int32) (999 : Int32)  σ374 h) zs_223 rfl ⟨by decide, by decide⟩ ⟨rfl, rfl⟩ ⟨Nat.zero_le _, Nat.zero_le _⟩ rfl rfl (Nat.le_of_ble_eq_true rfl) dX10_lineLine_181 (fun r392 σ391 hb h => ?_)
                    replace h := h hb
                    refine zx_if_ne C 189 dX10_lineLine_184 (by decide) (fun q => ?_) (fun q => ?_)
                    · replace h := h.1 q
                      refine zx_aload_n C dX10_lineLine_189 1 rfl ?_
                      refine zx_getR C zs_223 fg_X10_35 rfl 232 rfl dX10_lineLine_190 ?_
                      refine zx_iload C dX10_lineLine_193 0 rfl ?_
                      refine zx_aload_n C dX10_lineLine_195 1 rfl ?_
                      refine zx_getR C zs_223 fg_X10_38 rfl 233 rfl dX10_lineLine_196 ?_
                      refine zx_iconst (v := (0 : Int32)) C dX10_lineLine_199 (by decide) ?_
                      refine zx_iald C 0 zs_233 (by unfold vp_in; decide) (by decide) dX10_lineLine_200 ?_
                      obtain ⟨bd393, h⟩ := h
                      refine zx_iast C (r2).toNatClampNeg zs_232 bd393 rfl dX10_lineLine_201 ?_
                      refine zx_sig (fun σ394 eσ394 => ?_)
                      replace h := h σ394 eσ394
                      refine zx_iconst (v := (1 : Int32)) C dX10_lineLine_202 (by decide) ?_
                      exact zx_zret C hr dX10_lineLine_203 (Or.inr rfl) h
                    · replace h := h.2 q
                      refine zx_iconst (v := (0 : Int32)) C dX10_lineLine_187 (by decide) ?_
                      exact zx_zret C hr dX10_lineLine_188 (Or.inl rfl) h
                · replace h := h.2 q
                  refine zx_bipush (v := (60 : Int32)) C dX10_lineLine_161 (by decide) ?_
                  refine zx_goto C 181 dX10_lineLine_163 (by decide) ?_
                  refine zx_cVb C [.int (0 : Int32), .int (1 : Int32), .int (60 : Int32)] lk_X10_154 (c_X10_take l D cy g (0 : Int32) (1 : Int32) (60 : Int32)  σ374 h) zs_223 rfl ⟨by decide, by decide⟩ ⟨rfl, rfl⟩ ⟨Nat.zero_le _, Nat.zero_le _⟩ rfl rfl (Nat.le_of_ble_eq_true rfl) dX10_lineLine_181 (fun r396 σ395 hb h => ?_)
                  replace h := h hb
                  refine zx_if_ne C 189 dX10_lineLine_184 (by decide) (fun q => ?_) (fun q => ?_)
                  · replace h := h.1 q
                    refine zx_aload_n C dX10_lineLine_189 1 rfl ?_
                    refine zx_getR C zs_223 fg_X10_35 rfl 232 rfl dX10_lineLine_190 ?_
                    refine zx_iload C dX10_lineLine_193 0 rfl ?_
                    refine zx_aload_n C dX10_lineLine_195 1 rfl ?_
                    refine zx_getR C zs_223 fg_X10_38 rfl 233 rfl dX10_lineLine_196 ?_
                    refine zx_iconst (v := (0 : Int32)) C dX10_lineLine_199 (by decide) ?_
                    refine zx_iald C 0 zs_233 (by unfold vp_in; decide) (by decide) dX10_lineLine_200 ?_
                    obtain ⟨bd397, h⟩ := h
                    refine zx_iast C (r2).toNatClampNeg zs_232 bd397 rfl dX10_lineLine_201 ?_
                    refine zx_sig (fun σ398 eσ398 => ?_)
                    replace h := h σ398 eσ398
                    refine zx_iconst (v := (1 : Int32)) C dX10_lineLine_202 (by decide) ?_
                    exact zx_zret C hr dX10_lineLine_203 (Or.inr rfl) h
                  · replace h := h.2 q
                    refine zx_iconst (v := (0 : Int32)) C dX10_lineLine_187 (by decide) ?_
                    exact zx_zret C hr dX10_lineLine_188 (Or.inl rfl) h
            · replace h := h.2 q
              refine zx_lload_n C dX10_lineLine_94 2 rfl ?_
              refine zx_ldc2 C dX10_lineLine_95 co_X10_185 ?_
              refine zx_lcmp C dX10_lineLine_98 ?_
              refine zx_if_ne C 109 dX10_lineLine_99 (by decide) (fun q => ?_) (fun q => ?_)
              · replace h := h.1 q
                refine zx_lload_n C dX10_lineLine_109 2 rfl ?_
                refine zx_ldc2 C dX10_lineLine_110 co_X10_187 ?_
                refine zx_lcmp C dX10_lineLine_113 ?_
                refine zx_if_ne C 124 dX10_lineLine_114 (by decide) (fun q => ?_) (fun q => ?_)
                · replace h := h.1 q
                  refine zx_aload_n C dX10_lineLine_124 1 rfl ?_
                  refine zx_lload_n C dX10_lineLine_125 2 rfl ?_
                  refine zx_ldc2 C dX10_lineLine_126 co_X10_191 ?_
                  refine zx_lcmp C dX10_lineLine_129 ?_
                  refine zx_if_ne C 137 dX10_lineLine_130 (by decide) (fun q => ?_) (fun q => ?_)
                  · replace h := h.1 q
                    refine zx_iconst (v := (0 : Int32)) C dX10_lineLine_137 (by decide) ?_
                    refine zx_cVb C [.int (0 : Int32)] lk_X10_203 (c_X10_ofPost l D cy g (0 : Int32)  σ374 h) zs_223 rfl ⟨by decide, by decide⟩ ⟨rfl, rfl⟩ ⟨Nat.zero_le _, Nat.zero_le _⟩ rfl rfl (Nat.le_of_ble_eq_true rfl) dX10_lineLine_138 (fun r400 σ399 hb h => ?_)
                    replace h := h hb
                    exact zx_zret C hr dX10_lineLine_141 h.1 h.2
                  · replace h := h.2 q
                    refine zx_iconst (v := (1 : Int32)) C dX10_lineLine_133 (by decide) ?_
                    refine zx_goto C 138 dX10_lineLine_134 (by decide) ?_
                    refine zx_cVb C [.int (1 : Int32)] lk_X10_203 (c_X10_ofPost l D cy g (1 : Int32)  σ374 h) zs_223 rfl ⟨by decide, by decide⟩ ⟨rfl, rfl⟩ ⟨Nat.zero_le _, Nat.zero_le _⟩ rfl rfl (Nat.le_of_ble_eq_true rfl) dX10_lineLine_138 (fun r402 σ401 hb h => ?_)
                    replace h := h hb
                    exact zx_zret C hr dX10_lineLine_141 h.1 h.2
                · replace h := h.2 q
                  refine zx_aload_n C dX10_lineLine_117 1 rfl ?_
                  refine zx_cVb C [] lk_X10_200 (c_X10_riderLine l D cy g   σ374 h) zs_223 rfl ⟨by decide, by decide⟩ ⟨rfl, rfl⟩ ⟨Nat.zero_le _, Nat.zero_le _⟩ rfl rfl (Nat.le_of_ble_eq_true rfl) dX10_lineLine_118 (fun r404 σ403 hb h => ?_)
                  replace h := h hb
                  refine zx_goto C 141 dX10_lineLine_121 (by decide) ?_
                  exact zx_zret C hr dX10_lineLine_141 h.1 h.2
              · replace h := h.2 q
                refine zx_aload_n C dX10_lineLine_102 1 rfl ?_
                refine zx_cVb C [] lk_X10_197 (c_X10_postLine l D cy g   σ374 h) zs_223 rfl ⟨by decide, by decide⟩ ⟨rfl, rfl⟩ ⟨Nat.zero_le _, Nat.zero_le _⟩ rfl rfl (Nat.le_of_ble_eq_true rfl) dX10_lineLine_103 (fun r406 σ405 hb h => ?_)
                replace h := h hb
                refine zx_goto C 141 dX10_lineLine_106 (by decide) ?_
                exact zx_zret C hr dX10_lineLine_141 h.1 h.2
        · replace h := h.2 q
          refine zx_lload_n C dX10_lineLine_36 2 rfl ?_
          refine zx_ldc2 C dX10_lineLine_37 co_X10_191 ?_
          refine zx_lcmp C dX10_lineLine_40 ?_
          refine zx_if_eq C 49 dX10_lineLine_41 (by decide) (fun q => ?_) (fun q => ?_)
          · replace h := h.1 q
            refine zx_lload_n C dX10_lineLine_49 2 rfl ?_
            refine zx_ldc2 C dX10_lineLine_50 co_X10_185 ?_
            refine zx_lcmp C dX10_lineLine_53 ?_
            refine zx_if_ne C 68 dX10_lineLine_54 (by decide) (fun q => ?_) (fun q => ?_)
            · replace h := h.1 q
              refine zx_lload_n C dX10_lineLine_68 2 rfl ?_
              refine zx_ldc2 C dX10_lineLine_69 co_X10_187 ?_
              refine zx_lcmp C dX10_lineLine_72 ?_
              refine zx_if_ne C 84 dX10_lineLine_73 (by decide) (fun q => ?_) (fun q => ?_)
              · replace h := h.1 q
                refine zx_aload_n C dX10_lineLine_84 1 rfl ?_
                refine zx_cVv C [] lk_X10_151 (c_X10_token l D cy g   σ1 h) zs_223 rfl ⟨by decide, by decide⟩ ⟨rfl, rfl⟩ ⟨Nat.zero_le _, Nat.zero_le _⟩ rfl rfl (Nat.le_of_ble_eq_true rfl) dX10_lineLine_85 (fun σ407 h => ?_)
                refine zx_iload C dX10_lineLine_88 0 rfl ?_
                refine zx_iconst (v := (-1 : Int32)) C dX10_lineLine_90 (by decide) ?_
                refine zx_icmp_ne C 142 dX10_lineLine_91 (by decide) (fun q => ?_) (fun q => ?_)
                · replace h := h.1 q
                  refine zx_aload_n C dX10_lineLine_142 1 rfl ?_
                  refine zx_iconst (v := (0 : Int32)) C dX10_lineLine_143 (by decide) ?_
                  refine zx_iload C dX10_lineLine_144 0 rfl ?_
                  refine zx_iconst (v := (2 : Int32)) C dX10_lineLine_146 (by decide) ?_
                  refine zx_icmp_ne C 154 dX10_lineLine_147 (by decide) (fun q => ?_) (fun q => ?_)
                  · replace h := h.1 q
                    refine zx_iconst (v := (0 : Int32)) C dX10_lineLine_154 (by decide) ?_
                    refine zx_iload C dX10_lineLine_155 0 rfl ?_
                    refine zx_iconst (v := (4 : Int32)) C dX10_lineLine_157 (by decide) ?_
                    refine zx_icmp_ne C 166 dX10_lineLine_158 (by decide) (fun q => ?_) (fun q => ?_)
                    · replace h := h.1 q
                      refine zx_iload C dX10_lineLine_166 0 rfl ?_
                      refine zx_bipush (v := (6 : Int32)) C dX10_lineLine_168 (by decide) ?_
                      refine zx_icmp_ne C 179 dX10_lineLine_170 (by decide) (fun q => ?_) (fun q => ?_)
                      · replace h := h.1 q
                        refine zx_bipush (v := (9 : Int32)) C dX10_lineLine_179 (by decide) ?_
                        refine zx_cVb C [.int (0 : Int32), .int (0 : Int32), .int (9 : Int32)] lk_X10_154 (c_X10_take l D cy g (0 : Int32) (0 : Int32) (9 : Int32)  σ407 h) zs_223 rfl ⟨by decide, by decide⟩ ⟨rfl, rfl⟩ ⟨Nat.zero_le _, Nat.zero_le _⟩ rfl rfl (Nat.le_of_ble_eq_true rfl) dX10_lineLine_181 (fun r409 σ408 hb h => ?_)
                        replace h := h hb
                        refine zx_if_ne C 189 dX10_lineLine_184 (by decide) (fun q => ?_) (fun q => ?_)
                        · replace h := h.1 q
                          refine zx_aload_n C dX10_lineLine_189 1 rfl ?_
                          refine zx_getR C zs_223 fg_X10_35 rfl 232 rfl dX10_lineLine_190 ?_
                          refine zx_iload C dX10_lineLine_193 0 rfl ?_
                          refine zx_aload_n C dX10_lineLine_195 1 rfl ?_
                          refine zx_getR C zs_223 fg_X10_38 rfl 233 rfl dX10_lineLine_196 ?_
                          refine zx_iconst (v := (0 : Int32)) C dX10_lineLine_199 (by decide) ?_
                          refine zx_iald C 0 zs_233 (by unfold vp_in; decide) (by decide) dX10_lineLine_200 ?_
                          obtain ⟨bd410, h⟩ := h
                          refine zx_iast C (r2).toNatClampNeg zs_232 bd410 rfl dX10_lineLine_201 ?_
                          refine zx_sig (fun σ411 eσ411 => ?_)
                          replace h := h σ411 eσ411
                          refine zx_iconst (v := (1 : Int32)) C dX10_lineLine_202 (by decide) ?_
                          exact zx_zret C hr dX10_lineLine_203 (Or.inr rfl) h
                        · replace h := h.2 q
                          refine zx_iconst (v := (0 : Int32)) C dX10_lineLine_187 (by decide) ?_
                          exact zx_zret C hr dX10_lineLine_188 (Or.inl rfl) h
                      · replace h := h.2 q
                        refine zx_sipush (v := (999 : Int32)) C dX10_lineLine_173 (by decide) ?_
                        refine zx_goto C 181 dX10_lineLine_176 (by decide) ?_
                        refine zx_cVb C [.int (0 : Int32), .int (0 : Int32), .int (999 : Int32)] lk_X10_154 (c_X10_take l D cy g (0 : Int32) (0 : Int32) (999 : Int32)  σ407 h) zs_223 rfl ⟨by decide, by decide⟩ ⟨rfl, rfl⟩ ⟨Nat.zero_le _, Nat.zero_le _⟩ rfl rfl (Nat.le_of_ble_eq_true rfl) dX10_lineLine_181 (fun r413 σ412 hb h => ?_)
                        replace h := h hb
                        refine zx_if_ne C 189 dX10_lineLine_184 (by decide) (fun q => ?_) (fun q => ?_)
                        · replace h := h.1 q
                          refine zx_aload_n C dX10_lineLine_189 1 rfl ?_
                          refine zx_getR C zs_223 fg_X10_35 rfl 232 rfl dX10_lineLine_190 ?_
                          refine zx_iload C dX10_lineLine_193 0 rfl ?_
                          refine zx_aload_n C dX10_lineLine_195 1 rfl ?_
                          refine zx_getR C zs_223 fg_X10_38 rfl 233 rfl dX10_lineLine_196 ?_
                          refine zx_iconst (v := (0 : Int32)) C dX10_lineLine_199 (by decide) ?_
                          refine zx_iald C 0 zs_233 (by unfold vp_in; decide) (by decide) dX10_lineLine_200 ?_
                          obtain ⟨bd414, h⟩ := h
                          refine zx_iast C (r2).toNatClampNeg zs_232 bd414 rfl dX10_lineLine_201 ?_
                          refine zx_sig (fun σ415 eσ415 => ?_)
                          replace h := h σ415 eσ415
                          refine zx_iconst (v := (1 : Int32)) C dX10_lineLine_202 (by decide) ?_
                          exact zx_zret C hr dX10_lineLine_203 (Or.inr rfl) h
                        · replace h := h.2 q
                          refine zx_iconst (v := (0 : Int32)) C dX10_lineLine_187 (by decide) ?_
                          exact zx_zret C hr dX10_lineLine_188 (Or.inl rfl) h
                    · replace h := h.2 q
                      refine zx_bipush (v := (60 : Int32)) C dX10_lineLine_161 (by decide) ?_
                      refine zx_goto C 181 dX10_lineLine_163 (by decide) ?_
                      refine zx_cVb C [.int (0 : Int32), .int (0 : Int32), .int (60 : Int32)] lk_X10_154 (c_X10_take l D cy g (0 : Int32) (0 : Int32) (60 : Int32)  σ407 h) zs_223 rfl ⟨by decide, by decide⟩ ⟨rfl, rfl⟩ ⟨Nat.zero_le _, Nat.zero_le _⟩ rfl rfl (Nat.le_of_ble_eq_true rfl) dX10_lineLine_181 (fun r417 σ416 hb h => ?_)
                      replace h := h hb
                      refine zx_if_ne C 189 dX10_lineLine_184 (by decide) (fun q => ?_) (fun q => ?_)
                      · replace h := h.1 q
                        refine zx_aload_n C dX10_lineLine_189 1 rfl ?_
                        refine zx_getR C zs_223 fg_X10_35 rfl 232 rfl dX10_lineLine_190 ?_
                        refine zx_iload C dX10_lineLine_193 0 rfl ?_
                        refine zx_aload_n C dX10_lineLine_195 1 rfl ?_
                        refine zx_getR C zs_223 fg_X10_38 rfl 233 rfl dX10_lineLine_196 ?_
                        refine zx_iconst (v := (0 : Int32)) C dX10_lineLine_199 (by decide) ?_
                        refine zx_iald C 0 zs_233 (by unfold vp_in; decide) (by decide) dX10_lineLine_200 ?_
                        obtain ⟨bd418, h⟩ := h
                        refine zx_iast C (r2).toNatClampNeg zs_232 bd418 rfl dX10_lineLine_201 ?_
                        refine zx_sig (fun σ419 eσ419 => ?_)
                        replace h := h σ419 eσ419
                        refine zx_iconst (v := (1 : Int32)) C dX10_lineLine_202 (by decide) ?_
                        exact zx_zret C hr dX10_lineLine_203 (Or.inr rfl) h
                      · replace h := h.2 q
                        refine zx_iconst (v := (0 : Int32)) C dX10_lineLine_187 (by decide) ?_
                        exact zx_zret C hr dX10_lineLine_188 (Or.inl rfl) h
                  · replace h := h.2 q
                    refine zx_iconst (v := (1 : Int32)) C dX10_lineLine_150 (by decide) ?_
                    refine zx_goto C 155 dX10_lineLine_151 (by decide) ?_
                    refine zx_iload C dX10_lineLine_155 0 rfl ?_
                    refine zx_iconst (v := (4 : Int32)) C dX10_lineLine_157 (by decide) ?_
                    refine zx_icmp_ne C 166 dX10_lineLine_158 (by decide) (fun q => ?_) (fun q => ?_)
                    · replace h := h.1 q
                      refine zx_iload C dX10_lineLine_166 0 rfl ?_
                      refine zx_bipush (v := (6 : Int32)) C dX10_lineLine_168 (by decide) ?_
                      refine zx_icmp_ne C 179 dX10_lineLine_170 (by decide) (fun q => ?_) (fun q => ?_)
                      · replace h := h.1 q
                        refine zx_bipush (v := (9 : Int32)) C dX10_lineLine_179 (by decide) ?_
                        refine zx_cVb C [.int (0 : Int32), .int (1 : Int32), .int (9 : Int32)] lk_X10_154 (c_X10_take l D cy g (0 : Int32) (1 : Int32) (9 : Int32)  σ407 h) zs_223 rfl ⟨by decide, by decide⟩ ⟨rfl, rfl⟩ ⟨Nat.zero_le _, Nat.zero_le _⟩ rfl rfl (Nat.le_of_ble_eq_true rfl) dX10_lineLine_181 (fun r421 σ420 hb h => ?_)
                        replace h := h hb
                        refine zx_if_ne C 189 dX10_lineLine_184 (by decide) (fun q => ?_) (fun q => ?_)
                        · replace h := h.1 q
                          refine zx_aload_n C dX10_lineLine_189 1 rfl ?_
                          refine zx_getR C zs_223 fg_X10_35 rfl 232 rfl dX10_lineLine_190 ?_
                          refine zx_iload C dX10_lineLine_193 0 rfl ?_
                          refine zx_aload_n C dX10_lineLine_195 1 rfl ?_
                          refine zx_getR C zs_223 fg_X10_38 rfl 233 rfl dX10_lineLine_196 ?_
                          refine zx_iconst (v := (0 : Int32)) C dX10_lineLine_199 (by decide) ?_
                          refine zx_iald C 0 zs_233 (by unfold vp_in; decide) (by decide) dX10_lineLine_200 ?_
                          obtain ⟨bd422, h⟩ := h
                          refine zx_iast C (r2).toNatClampNeg zs_232 bd422 rfl dX10_lineLine_201 ?_
                          refine zx_sig (fun σ423 eσ423 => ?_)
                          replace h := h σ423 eσ423
                          refine zx_iconst (v := (1 : Int32)) C dX10_lineLine_202 (by decide) ?_
                          exact zx_zret C hr dX10_lineLine_203 (Or.inr rfl) h
                        · replace h := h.2 q
                          refine zx_iconst (v := (0 : Int32)) C dX10_lineLine_187 (by decide) ?_
                          exact zx_zret C hr dX10_lineLine_188 (Or.inl rfl) h
                      · replace h := h.2 q
                        refine zx_sipush (v := (999 : Int32)) C dX10_lineLine_173 (by decide) ?_
                        refine zx_goto C 181 dX10_lineLine_176 (by decide) ?_
                        refine zx_cVb C [.int (0 : Int32), .int (1 : Int32), .int (999 : Int32)] lk_X10_154 (c_X10_take l D cy g (0 : Int32) (1 : Int32) (999 : Int32)  σ407 h) zs_223 rfl ⟨by decide, by decide⟩ ⟨rfl, rfl⟩ ⟨Nat.zero_le _, Nat.zero_le _⟩ rfl rfl (Nat.le_of_ble_eq_true rfl) dX10_lineLine_181 (fun r425 σ424 hb h => ?_)
                        replace h := h hb
                        refine zx_if_ne C 189 dX10_lineLine_184 (by decide) (fun q => ?_) (fun q => ?_)
                        · replace h := h.1 q
                          refine zx_aload_n C dX10_lineLine_189 1 rfl ?_
                          refine zx_getR C zs_223 fg_X10_35 rfl 232 rfl dX10_lineLine_190 ?_
                          refine zx_iload C dX10_lineLine_193 0 rfl ?_
                          refine zx_aload_n C dX10_lineLine_195 1 rfl ?_
                          refine zx_getR C zs_223 fg_X10_38 rfl 233 rfl dX10_lineLine_196 ?_
                          refine zx_iconst (v := (0 : Int32)) C dX10_lineLine_199 (by decide) ?_
                          refine zx_iald C 0 zs_233 (by unfold vp_in; decide) (by decide) dX10_lineLine_200 ?_
                          obtain ⟨bd426, h⟩ := h
                          refine zx_iast C (r2).toNatClampNeg zs_232 bd426 rfl dX10_lineLine_201 ?_
                          refine zx_sig (fun σ427 eσ427 => ?_)
                          replace h := h σ427 eσ427
                          refine zx_iconst (v := (1 : Int32)) C dX10_lineLine_202 (by decide) ?_
                          exact zx_zret C hr dX10_lineLine_203 (Or.inr rfl) h
                        · replace h := h.2 q
                          refine zx_iconst (v := (0 : Int32)) C dX10_lineLine_187 (by decide) ?_
                          exact zx_zret C hr dX10_lineLine_188 (Or.inl rfl) h
                    · replace h := h.2 q
                      refine zx_bipush (v := (60 : Int32)) C dX10_lineLine_161 (by decide) ?_
                      refine zx_goto C 181 dX10_lineLine_163 (by decide) ?_
                      refine zx_cVb C [.int (0 : Int32), .int (1 : Int32), .int (60 : Int32)] lk_X10_154 (c_X10_take l D cy g (0 : Int32) (1 : Int32) (60 : Int32)  σ407 h) zs_223 rfl ⟨by decide, by decide⟩ ⟨rfl, rfl⟩ ⟨Nat.zero_le _, Nat.zero_le _⟩ rfl rfl (Nat.le_of_ble_eq_true rfl) dX10_lineLine_181 (fun r429 σ428 hb h => ?_)
                      replace h := h hb
                      refine zx_if_ne C 189 dX10_lineLine_184 (by decide) (fun q => ?_) (fun q => ?_)
                      · replace h := h.1 q
                        refine zx_aload_n C dX10_lineLine_189 1 rfl ?_
                        refine zx_getR C zs_223 fg_X10_35 rfl 232 rfl dX10_lineLine_190 ?_
                        refine zx_iload C dX10_lineLine_193 0 rfl ?_
                        refine zx_aload_n C dX10_lineLine_195 1 rfl ?_
                        refine zx_getR C zs_223 fg_X10_38 rfl 233 rfl dX10_lineLine_196 ?_
                        refine zx_iconst (v := (0 : Int32)) C dX10_lineLine_199 (by decide) ?_
                        refine zx_iald C 0 zs_233 (by unfold vp_in; decide) (by decide) dX10_lineLine_200 ?_
                        obtain ⟨bd430, h⟩ := h
                        refine zx_iast C (r2).toNatClampNeg zs_232 bd430 rfl dX10_lineLine_201 ?_
                        refine zx_sig (fun σ431 eσ431 => ?_)
                        replace h := h σ431 eσ431
                        refine zx_iconst (v := (1 : Int32)) C dX10_lineLine_202 (by decide) ?_
                        exact zx_zret C hr dX10_lineLine_203 (Or.inr rfl) h
                      · replace h := h.2 q
                        refine zx_iconst (v := (0 : Int32)) C dX10_lineLine_187 (by decide) ?_
                        exact zx_zret C hr dX10_lineLine_188 (Or.inl rfl) h
                · replace h := h.2 q
                  refine zx_lload_n C dX10_lineLine_94 2 rfl ?_
                  refine zx_ldc2 C dX10_lineLine_95 co_X10_185 ?_
                  refine zx_lcmp C dX10_lineLine_98 ?_
                  refine zx_if_ne C 109 dX10_lineLine_99 (by decide) (fun q => ?_) (fun q => ?_)
                  · replace h := h.1 q
                    refine zx_lload_n C dX10_lineLine_109 2 rfl ?_
                    refine zx_ldc2 C dX10_lineLine_110 co_X10_187 ?_
                    refine zx_lcmp C dX10_lineLine_113 ?_
                    refine zx_if_ne C 124 dX10_lineLine_114 (by decide) (fun q => ?_) (fun q => ?_)
                    · replace h := h.1 q
                      refine zx_aload_n C dX10_lineLine_124 1 rfl ?_
                      refine zx_lload_n C dX10_lineLine_125 2 rfl ?_
                      refine zx_ldc2 C dX10_lineLine_126 co_X10_191 ?_
                      refine zx_lcmp C dX10_lineLine_129 ?_
                      refine zx_if_ne C 137 dX10_lineLine_130 (by decide) (fun q => ?_) (fun q => ?_)
                      · replace h := h.1 q
                        refine zx_iconst (v := (0 : Int32)) C dX10_lineLine_137 (by decide) ?_
                        refine zx_cVb C [.int (0 : Int32)] lk_X10_203 (c_X10_ofPost l D cy g (0 : Int32)  σ407 h) zs_223 rfl ⟨by decide, by decide⟩ ⟨rfl, rfl⟩ ⟨Nat.zero_le _, Nat.zero_le _⟩ rfl rfl (Nat.le_of_ble_eq_true rfl) dX10_lineLine_138 (fun r433 σ432 hb h => ?_)
                        replace h := h hb
                        exact zx_zret C hr dX10_lineLine_141 h.1 h.2
                      · replace h := h.2 q
                        refine zx_iconst (v := (1 : Int32)) C dX10_lineLine_133 (by decide) ?_
                        refine zx_goto C 138 dX10_lineLine_134 (by decide) ?_
                        refine zx_cVb C [.int (1 : Int32)] lk_X10_203 (c_X10_ofPost l D cy g (1 : Int32)  σ407 h) zs_223 rfl ⟨by decide, by decide⟩ ⟨rfl, rfl⟩ ⟨Nat.zero_le _, Nat.zero_le _⟩ rfl rfl (Nat.le_of_ble_eq_true rfl) dX10_lineLine_138 (fun r435 σ434 hb h => ?_)
                        replace h := h hb
                        exact zx_zret C hr dX10_lineLine_141 h.1 h.2
                    · replace h := h.2 q
                      refine zx_aload_n C dX10_lineLine_117 1 rfl ?_
                      refine zx_cVb C [] lk_X10_200 (c_X10_riderLine l D cy g   σ407 h) zs_223 rfl ⟨by decide, by decide⟩ ⟨rfl, rfl⟩ ⟨Nat.zero_le _, Nat.zero_le _⟩ rfl rfl (Nat.le_of_ble_eq_true rfl) dX10_lineLine_118 (fun r437 σ436 hb h => ?_)
                      replace h := h hb
                      refine zx_goto C 141 dX10_lineLine_121 (by decide) ?_
                      exact zx_zret C hr dX10_lineLine_141 h.1 h.2
                  · replace h := h.2 q
                    refine zx_aload_n C dX10_lineLine_102 1 rfl ?_
                    refine zx_cVb C [] lk_X10_197 (c_X10_postLine l D cy g   σ407 h) zs_223 rfl ⟨by decide, by decide⟩ ⟨rfl, rfl⟩ ⟨Nat.zero_le _, Nat.zero_le _⟩ rfl rfl (Nat.le_of_ble_eq_true rfl) dX10_lineLine_103 (fun r439 σ438 hb h => ?_)
                    replace h := h hb
                    refine zx_goto C 141 dX10_lineLine_106 (by decide) ?_
                    exact zx_zret C hr dX10_lineLine_141 h.1 h.2
              · replace h := h.2 q
                refine zx_aload_n C dX10_lineLine_76 1 rfl ?_
                refine zx_iconst (v := (1 : Int32)) C dX10_lineLine_77 (by decide) ?_
                refine zx_bipush (v := (6 : Int32)) C dX10_lineLine_78 (by decide) ?_
                refine zx_iload_n C dX10_lineLine_80 3 rfl ?_
                refine zx_cVv C [.int (1 : Int32), .int (6 : Int32), .int a2] lk_X10_193 (c_X10_full l D cy g (1 : Int32) (6 : Int32) a2  σ1 h) zs_223 rfl ⟨by decide, by decide⟩ ⟨rfl, rfl⟩ ⟨Nat.zero_le _, Nat.zero_le _⟩ rfl rfl (Nat.le_of_ble_eq_true rfl) dX10_lineLine_81 (fun σ440 h => ?_)
                refine zx_aload_n C dX10_lineLine_84 1 rfl ?_
                refine zx_cVv C [] lk_X10_151 (c_X10_token l D cy g   σ440 h) zs_223 rfl ⟨by decide, by decide⟩ ⟨rfl, rfl⟩ ⟨Nat.zero_le _, Nat.zero_le _⟩ rfl rfl (Nat.le_of_ble_eq_true rfl) dX10_lineLine_85 (fun σ441 h => ?_)
                refine zx_iload C dX10_lineLine_88 0 rfl ?_
                refine zx_iconst (v := (-1 : Int32)) C dX10_lineLine_90 (by decide) ?_
                refine zx_icmp_ne C 142 dX10_lineLine_91 (by decide) (fun q => ?_) (fun q => ?_)
                · replace h := h.1 q
                  refine zx_aload_n C dX10_lineLine_142 1 rfl ?_
                  refine zx_iconst (v := (0 : Int32)) C dX10_lineLine_143 (by decide) ?_
                  refine zx_iload C dX10_lineLine_144 0 rfl ?_
                  refine zx_iconst (v := (2 : Int32)) C dX10_lineLine_146 (by decide) ?_
                  refine zx_icmp_ne C 154 dX10_lineLine_147 (by decide) (fun q => ?_) (fun q => ?_)
                  · replace h := h.1 q
                    refine zx_iconst (v := (0 : Int32)) C dX10_lineLine_154 (by decide) ?_
                    refine zx_iload C dX10_lineLine_155 0 rfl ?_
                    refine zx_iconst (v := (4 : Int32)) C dX10_lineLine_157 (by decide) ?_
                    refine zx_icmp_ne C 166 dX10_lineLine_158 (by decide) (fun q => ?_) (fun q => ?_)
                    · replace h := h.1 q
                      refine zx_iload C dX10_lineLine_166 0 rfl ?_
                      refine zx_bipush (v := (6 : Int32)) C dX10_lineLine_168 (by decide) ?_
                      refine zx_icmp_ne C 179 dX10_lineLine_170 (by decide) (fun q => ?_) (fun q => ?_)
                      · replace h := h.1 q
                        refine zx_bipush (v := (9 : Int32)) C dX10_lineLine_179 (by decide) ?_
                        refine zx_cVb C [.int (0 : Int32), .int (0 : Int32), .int (9 : Int32)] lk_X10_154 (c_X10_take l D cy g (0 : Int32) (0 : Int32) (9 : Int32)  σ441 h) zs_223 rfl ⟨by decide, by decide⟩ ⟨rfl, rfl⟩ ⟨Nat.zero_le _, Nat.zero_le _⟩ rfl rfl (Nat.le_of_ble_eq_true rfl) dX10_lineLine_181 (fun r443 σ442 hb h => ?_)
                        replace h := h hb
                        refine zx_if_ne C 189 dX10_lineLine_184 (by decide) (fun q => ?_) (fun q => ?_)
                        · replace h := h.1 q
                          refine zx_aload_n C dX10_lineLine_189 1 rfl ?_
                          refine zx_getR C zs_223 fg_X10_35 rfl 232 rfl dX10_lineLine_190 ?_
                          refine zx_iload C dX10_lineLine_193 0 rfl ?_
                          refine zx_aload_n C dX10_lineLine_195 1 rfl ?_
                          refine zx_getR C zs_223 fg_X10_38 rfl 233 rfl dX10_lineLine_196 ?_
                          refine zx_iconst (v := (0 : Int32)) C dX10_lineLine_199 (by decide) ?_
                          refine zx_iald C 0 zs_233 (by unfold vp_in; decide) (by decide) dX10_lineLine_200 ?_
                          obtain ⟨bd444, h⟩ := h
                          refine zx_iast C (r2).toNatClampNeg zs_232 bd444 rfl dX10_lineLine_201 ?_
                          refine zx_sig (fun σ445 eσ445 => ?_)
                          replace h := h σ445 eσ445
                          refine zx_iconst (v := (1 : Int32)) C dX10_lineLine_202 (by decide) ?_
                          exact zx_zret C hr dX10_lineLine_203 (Or.inr rfl) h
                        · replace h := h.2 q
                          refine zx_iconst (v := (0 : Int32)) C dX10_lineLine_187 (by decide) ?_
                          exact zx_zret C hr dX10_lineLine_188 (Or.inl rfl) h
                      · replace h := h.2 q
                        refine zx_sipush (v := (999 : Int32)) C dX10_lineLine_173 (by decide) ?_
                        refine zx_goto C 181 dX10_lineLine_176 (by decide) ?_
                        refine zx_cVb C [.int (0 : Int32), .int (0 : Int32), .int (999 : Int32)] lk_X10_154 (c_X10_take l D cy g (0 : Int32) (0 : Int32) (999 : Int32)  σ441 h) zs_223 rfl ⟨by decide, by decide⟩ ⟨rfl, rfl⟩ ⟨Nat.zero_le _, Nat.zero_le _⟩ rfl rfl (Nat.le_of_ble_eq_true rfl) dX10_lineLine_181 (fun r447 σ446 hb h => ?_)
                        replace h := h hb
                        refine zx_if_ne C 189 dX10_lineLine_184 (by decide) (fun q => ?_) (fun q => ?_)
                        · replace h := h.1 q
                          refine zx_aload_n C dX10_lineLine_189 1 rfl ?_
                          refine zx_getR C zs_223 fg_X10_35 rfl 232 rfl dX10_lineLine_190 ?_
                          refine zx_iload C dX10_lineLine_193 0 rfl ?_
                          refine zx_aload_n C dX10_lineLine_195 1 rfl ?_
                          refine zx_getR C zs_223 fg_X10_38 rfl 233 rfl dX10_lineLine_196 ?_
                          refine zx_iconst (v := (0 : Int32)) C dX10_lineLine_199 (by decide) ?_
                          refine zx_iald C 0 zs_233 (by unfold vp_in; decide) (by decide) dX10_lineLine_200 ?_
                          obtain ⟨bd448, h⟩ := h
                          refine zx_iast C (r2).toNatClampNeg zs_232 bd448 rfl dX10_lineLine_201 ?_
                          refine zx_sig (fun σ449 eσ449 => ?_)
                          replace h := h σ449 eσ449
                          refine zx_iconst (v := (1 : Int32)) C dX10_lineLine_202 (by decide) ?_
                          exact zx_zret C hr dX10_lineLine_203 (Or.inr rfl) h
                        · replace h := h.2 q
                          refine zx_iconst (v := (0 : Int32)) C dX10_lineLine_187 (by decide) ?_
                          exact zx_zret C hr dX10_lineLine_188 (Or.inl rfl) h
                    · replace h := h.2 q
                      refine zx_bipush (v := (60 : Int32)) C dX10_lineLine_161 (by decide) ?_
                      refine zx_goto C 181 dX10_lineLine_163 (by decide) ?_
                      refine zx_cVb C [.int (0 : Int32), .int (0 : Int32), .int (60 : Int32)] lk_X10_154 (c_X10_take l D cy g (0 : Int32) (0 : Int32) (60 : Int32)  σ441 h) zs_223 rfl ⟨by decide, by decide⟩ ⟨rfl, rfl⟩ ⟨Nat.zero_le _, Nat.zero_le _⟩ rfl rfl (Nat.le_of_ble_eq_true rfl) dX10_lineLine_181 (fun r451 σ450 hb h => ?_)
                      replace h := h hb
                      refine zx_if_ne C 189 dX10_lineLine_184 (by decide) (fun q => ?_) (fun q => ?_)
                      · replace h := h.1 q
                        refine zx_aload_n C dX10_lineLine_189 1 rfl ?_
                        refine zx_getR C zs_223 fg_X10_35 rfl 232 rfl dX10_lineLine_190 ?_
                        refine zx_iload C dX10_lineLine_193 0 rfl ?_
                        refine zx_aload_n C dX10_lineLine_195 1 rfl ?_
                        refine zx_getR C zs_223 fg_X10_38 rfl 233 rfl dX10_lineLine_196 ?_
                        refine zx_iconst (v := (0 : Int32)) C dX10_lineLine_199 (by decide) ?_
                        refine zx_iald C 0 zs_233 (by unfold vp_in; decide) (by decide) dX10_lineLine_200 ?_
                        obtain ⟨bd452, h⟩ := h
                        refine zx_iast C (r2).toNatClampNeg zs_232 bd452 rfl dX10_lineLine_201 ?_
                        refine zx_sig (fun σ453 eσ453 => ?_)
                        replace h := h σ453 eσ453
                        refine zx_iconst (v := (1 : Int32)) C dX10_lineLine_202 (by decide) ?_
                        exact zx_zret C hr dX10_lineLine_203 (Or.inr rfl) h
                      · replace h := h.2 q
                        refine zx_iconst (v := (0 : Int32)) C dX10_lineLine_187 (by decide) ?_
                        exact zx_zret C hr dX10_lineLine_188 (Or.inl rfl) h
                  · replace h := h.2 q
                    refine zx_iconst (v := (1 : Int32)) C dX10_lineLine_150 (by decide) ?_
                    refine zx_goto C 155 dX10_lineLine_151 (by decide) ?_
                    refine zx_iload C dX10_lineLine_155 0 rfl ?_
                    refine zx_iconst (v := (4 : Int32)) C dX10_lineLine_157 (by decide) ?_
                    refine zx_icmp_ne C 166 dX10_lineLine_158 (by decide) (fun q => ?_) (fun q => ?_)
                    · replace h := h.1 q
                      refine zx_iload C dX10_lineLine_166 0 rfl ?_
                      refine zx_bipush (v := (6 : Int32)) C dX10_lineLine_168 (by decide) ?_
                      refine zx_icmp_ne C 179 dX10_lineLine_170 (by decide) (fun q => ?_) (fun q => ?_)
                      · replace h := h.1 q
                        refine zx_bipush (v := (9 : Int32)) C dX10_lineLine_179 (by decide) ?_
                        refine zx_cVb C [.int (0 : Int32), .int (1 : Int32), .int (9 : Int32)] lk_X10_154 (c_X10_take l D cy g (0 : Int32) (1 : Int32) (9 : Int32)  σ441 h) zs_223 rfl ⟨by decide, by decide⟩ ⟨rfl, rfl⟩ ⟨Nat.zero_le _, Nat.zero_le _⟩ rfl rfl (Nat.le_of_ble_eq_true rfl) dX10_lineLine_181 (fun r455 σ454 hb h => ?_)
                        replace h := h hb
                        refine zx_if_ne C 189 dX10_lineLine_184 (by decide) (fun q => ?_) (fun q => ?_)
                        · replace h := h.1 q
                          refine zx_aload_n C dX10_lineLine_189 1 rfl ?_
                          refine zx_getR C zs_223 fg_X10_35 rfl 232 rfl dX10_lineLine_190 ?_
                          refine zx_iload C dX10_lineLine_193 0 rfl ?_
                          refine zx_aload_n C dX10_lineLine_195 1 rfl ?_
                          refine zx_getR C zs_223 fg_X10_38 rfl 233 rfl dX10_lineLine_196 ?_
                          refine zx_iconst (v := (0 : Int32)) C dX10_lineLine_199 (by decide) ?_
                          refine zx_iald C 0 zs_233 (by unfold vp_in; decide) (by decide) dX10_lineLine_200 ?_
                          obtain ⟨bd456, h⟩ := h
                          refine zx_iast C (r2).toNatClampNeg zs_232 bd456 rfl dX10_lineLine_201 ?_
                          refine zx_sig (fun σ457 eσ457 => ?_)
                          replace h := h σ457 eσ457
                          refine zx_iconst (v := (1 : Int32)) C dX10_lineLine_202 (by decide) ?_
                          exact zx_zret C hr dX10_lineLine_203 (Or.inr rfl) h
                        · replace h := h.2 q
                          refine zx_iconst (v := (0 : Int32)) C dX10_lineLine_187 (by decide) ?_
                          exact zx_zret C hr dX10_lineLine_188 (Or.inl rfl) h
                      · replace h := h.2 q
                        refine zx_sipush (v := (999 : Int32)) C dX10_lineLine_173 (by decide) ?_
                        refine zx_goto C 181 dX10_lineLine_176 (by decide) ?_
                        refine zx_cVb C [.int (0 : Int32), .int (1 : Int32), .int (999 : Int32)] lk_X10_154 (c_X10_take l D cy g (0 : Int32) (1 : Int32) (999 : Int32)  σ441 h) zs_223 rfl ⟨by decide, by decide⟩ ⟨rfl, rfl⟩ ⟨Nat.zero_le _, Nat.zero_le _⟩ rfl rfl (Nat.le_of_ble_eq_true rfl) dX10_lineLine_181 (fun r459 σ458 hb h => ?_)
                        replace h := h hb
                        refine zx_if_ne C 189 dX10_lineLine_184 (by decide) (fun q => ?_) (fun q => ?_)
                        · replace h := h.1 q
                          refine zx_aload_n C dX10_lineLine_189 1 rfl ?_
                          refine zx_getR C zs_223 fg_X10_35 rfl 232 rfl dX10_lineLine_190 ?_
                          refine zx_iload C dX10_lineLine_193 0 rfl ?_
                          refine zx_aload_n C dX10_lineLine_195 1 rfl ?_
                          refine zx_getR C zs_223 fg_X10_38 rfl 233 rfl dX10_lineLine_196 ?_
                          refine zx_iconst (v := (0 : Int32)) C dX10_lineLine_199 (by decide) ?_
                          refine zx_iald C 0 zs_233 (by unfold vp_in; decide) (by decide) dX10_lineLine_200 ?_
                          obtain ⟨bd460, h⟩ := h
                          refine zx_iast C (r2).toNatClampNeg zs_232 bd460 rfl dX10_lineLine_201 ?_
                          refine zx_sig (fun σ461 eσ461 => ?_)
                          replace h := h σ461 eσ461
                          refine zx_iconst (v := (1 : Int32)) C dX10_lineLine_202 (by decide) ?_
                          exact zx_zret C hr dX10_lineLine_203 (Or.inr rfl) h
                        · replace h := h.2 q
                          refine zx_iconst (v := (0 : Int32)) C dX10_lineLine_187 (by decide) ?_
                          exact zx_zret C hr dX10_lineLine_188 (Or.inl rfl) h
                    · replace h := h.2 q
                      refine zx_bipush (v := (60 : Int32)) C dX10_lineLine_161 (by decide) ?_
                      refine zx_goto C 181 dX10_lineLine_163 (by decide) ?_
                      refine zx_cVb C [.int (0 : Int32), .int (1 : Int32), .int (60 : Int32)] lk_X10_154 (c_X10_take l D cy g (0 : Int32) (1 : Int32) (60 : Int32)  σ441 h) zs_223 rfl ⟨by decide, by decide⟩ ⟨rfl, rfl⟩ ⟨Nat.zero_le _, Nat.zero_le _⟩ rfl rfl (Nat.le_of_ble_eq_true rfl) dX10_lineLine_181 (fun r463 σ462 hb h => ?_)
                      replace h := h hb
                      refine zx_if_ne C 189 dX10_lineLine_184 (by decide) (fun q => ?_) (fun q => ?_)
                      · replace h := h.1 q
                        refine zx_aload_n C dX10_lineLine_189 1 rfl ?_
                        refine zx_getR C zs_223 fg_X10_35 rfl 232 rfl dX10_lineLine_190 ?_
                        refine zx_iload C dX10_lineLine_193 0 rfl ?_
                        refine zx_aload_n C dX10_lineLine_195 1 rfl ?_
                        refine zx_getR C zs_223 fg_X10_38 rfl 233 rfl dX10_lineLine_196 ?_
                        refine zx_iconst (v := (0 : Int32)) C dX10_lineLine_199 (by decide) ?_
                        refine zx_iald C 0 zs_233 (by unfold vp_in; decide) (by decide) dX10_lineLine_200 ?_
                        obtain ⟨bd464, h⟩ := h
                        refine zx_iast C (r2).toNatClampNeg zs_232 bd464 rfl dX10_lineLine_201 ?_
                        refine zx_sig (fun σ465 eσ465 => ?_)
                        replace h := h σ465 eσ465
                        refine zx_iconst (v := (1 : Int32)) C dX10_lineLine_202 (by decide) ?_
                        exact zx_zret C hr dX10_lineLine_203 (Or.inr rfl) h
                      · replace h := h.2 q
                        refine zx_iconst (v := (0 : Int32)) C dX10_lineLine_187 (by decide) ?_
                        exact zx_zret C hr dX10_lineLine_188 (Or.inl rfl) h
                · replace h := h.2 q
                  refine zx_lload_n C dX10_lineLine_94 2 rfl ?_
                  refine zx_ldc2 C dX10_lineLine_95 co_X10_185 ?_
                  refine zx_lcmp C dX10_lineLine_98 ?_
                  refine zx_if_ne C 109 dX10_lineLine_99 (by decide) (fun q => ?_) (fun q => ?_)
                  · replace h := h.1 q
                    refine zx_lload_n C dX10_lineLine_109 2 rfl ?_
                    refine zx_ldc2 C dX10_lineLine_110 co_X10_187 ?_
                    refine zx_lcmp C dX10_lineLine_113 ?_
                    refine zx_if_ne C 124 dX10_lineLine_114 (by decide) (fun q => ?_) (fun q => ?_)
                    · replace h := h.1 q
                      refine zx_aload_n C dX10_lineLine_124 1 rfl ?_
                      refine zx_lload_n C dX10_lineLine_125 2 rfl ?_
                      refine zx_ldc2 C dX10_lineLine_126 co_X10_191 ?_
                      refine zx_lcmp C dX10_lineLine_129 ?_
                      refine zx_if_ne C 137 dX10_lineLine_130 (by decide) (fun q => ?_) (fun q => ?_)
                      · replace h := h.1 q
                        refine zx_iconst (v := (0 : Int32)) C dX10_lineLine_137 (by decide) ?_
                        refine zx_cVb C [.int (0 : Int32)] lk_X10_203 (c_X10_ofPost l D cy g (0 : Int32)  σ441 h) zs_223 rfl ⟨by decide, by decide⟩ ⟨rfl, rfl⟩ ⟨Nat.zero_le _, Nat.zero_le _⟩ rfl rfl (Nat.le_of_ble_eq_true rfl) dX10_lineLine_138 (fun r467 σ466 hb h => ?_)
                        replace h := h hb
                        exact zx_zret C hr dX10_lineLine_141 h.1 h.2
                      · replace h := h.2 q
                        refine zx_iconst (v := (1 : Int32)) C dX10_lineLine_133 (by decide) ?_
                        refine zx_goto C 138 dX10_lineLine_134 (by decide) ?_
                        refine zx_cVb C [.int (1 : Int32)] lk_X10_203 (c_X10_ofPost l D cy g (1 : Int32)  σ441 h) zs_223 rfl ⟨by decide, by decide⟩ ⟨rfl, rfl⟩ ⟨Nat.zero_le _, Nat.zero_le _⟩ rfl rfl (Nat.le_of_ble_eq_true rfl) dX10_lineLine_138 (fun r469 σ468 hb h => ?_)
                        replace h := h hb
                        exact zx_zret C hr dX10_lineLine_141 h.1 h.2
                    · replace h := h.2 q
                      refine zx_aload_n C dX10_lineLine_117 1 rfl ?_
                      refine zx_cVb C [] lk_X10_200 (c_X10_riderLine l D cy g   σ441 h) zs_223 rfl ⟨by decide, by decide⟩ ⟨rfl, rfl⟩ ⟨Nat.zero_le _, Nat.zero_le _⟩ rfl rfl (Nat.le_of_ble_eq_true rfl) dX10_lineLine_118 (fun r471 σ470 hb h => ?_)
                      replace h := h hb
                      refine zx_goto C 141 dX10_lineLine_121 (by decide) ?_
                      exact zx_zret C hr dX10_lineLine_141 h.1 h.2
                  · replace h := h.2 q
                    refine zx_aload_n C dX10_lineLine_102 1 rfl ?_
                    refine zx_cVb C [] lk_X10_197 (c_X10_postLine l D cy g   σ441 h) zs_223 rfl ⟨by decide, by decide⟩ ⟨rfl, rfl⟩ ⟨Nat.zero_le _, Nat.zero_le _⟩ rfl rfl (Nat.le_of_ble_eq_true rfl) dX10_lineLine_103 (fun r473 σ472 hb h => ?_)
                    replace h := h hb
                    refine zx_goto C 141 dX10_lineLine_106 (by decide) ?_
                    exact zx_zret C hr dX10_lineLine_141 h.1 h.2
            · replace h := h.2 q
              refine zx_aload_n C dX10_lineLine_57 1 rfl ?_
              refine zx_iconst (v := (0 : Int32)) C dX10_lineLine_58 (by decide) ?_
              refine zx_bipush (v := (16 : Int32)) C dX10_lineLine_59 (by decide) ?_
              refine zx_iload_n C dX10_lineLine_61 3 rfl ?_
              refine zx_cVv C [.int (0 : Int32), .int (16 : Int32), .int a2] lk_X10_193 (c_X10_full l D cy g (0 : Int32) (16 : Int32) a2  σ1 h) zs_223 rfl ⟨by decide, by decide⟩ ⟨rfl, rfl⟩ ⟨Nat.zero_le _, Nat.zero_le _⟩ rfl rfl (Nat.le_of_ble_eq_true rfl) dX10_lineLine_62 (fun σ474 h => ?_)
              refine zx_goto C 84 dX10_lineLine_65 (by decide) ?_
              refine zx_aload_n C dX10_lineLine_84 1 rfl ?_
              refine zx_cVv C [] lk_X10_151 (c_X10_token l D cy g   σ474 h) zs_223 rfl ⟨by decide, by decide⟩ ⟨rfl, rfl⟩ ⟨Nat.zero_le _, Nat.zero_le _⟩ rfl rfl (Nat.le_of_ble_eq_true rfl) dX10_lineLine_85 (fun σ475 h => ?_)
              refine zx_iload C dX10_lineLine_88 0 rfl ?_
              refine zx_iconst (v := (-1 : Int32)) C dX10_lineLine_90 (by decide) ?_
              refine zx_icmp_ne C 142 dX10_lineLine_91 (by decide) (fun q => ?_) (fun q => ?_)
              · replace h := h.1 q
                refine zx_aload_n C dX10_lineLine_142 1 rfl ?_
                refine zx_iconst (v := (0 : Int32)) C dX10_lineLine_143 (by decide) ?_
                refine zx_iload C dX10_lineLine_144 0 rfl ?_
                refine zx_iconst (v := (2 : Int32)) C dX10_lineLine_146 (by decide) ?_
                refine zx_icmp_ne C 154 dX10_lineLine_147 (by decide) (fun q => ?_) (fun q => ?_)
                · replace h := h.1 q
                  refine zx_iconst (v := (0 : Int32)) C dX10_lineLine_154 (by decide) ?_
                  refine zx_iload C dX10_lineLine_155 0 rfl ?_
                  refine zx_iconst (v := (4 : Int32)) C dX10_lineLine_157 (by decide) ?_
                  refine zx_icmp_ne C 166 dX10_lineLine_158 (by decide) (fun q => ?_) (fun q => ?_)
                  · replace h := h.1 q
                    refine zx_iload C dX10_lineLine_166 0 rfl ?_
                    refine zx_bipush (v := (6 : Int32)) C dX10_lineLine_168 (by decide) ?_
                    refine zx_icmp_ne C 179 dX10_lineLine_170 (by decide) (fun q => ?_) (fun q => ?_)
                    · replace h := h.1 q
                      refine zx_bipush (v := (9 : Int32)) C dX10_lineLine_179 (by decide) ?_
                      refine zx_cVb C [.int (0 : Int32), .int (0 : Int32), .int (9 : Int32)] lk_X10_154 (c_X10_take l D cy g (0 : Int32) (0 : Int32) (9 : Int32)  σ475 h) zs_223 rfl ⟨by decide, by decide⟩ ⟨rfl, rfl⟩ ⟨Nat.zero_le _, Nat.zero_le _⟩ rfl rfl (Nat.le_of_ble_eq_true rfl) dX10_lineLine_181 (fun r477 σ476 hb h => ?_)
                      replace h := h hb
                      refine zx_if_ne C 189 dX10_lineLine_184 (by decide) (fun q => ?_) (fun q => ?_)
                      · replace h := h.1 q
                        refine zx_aload_n C dX10_lineLine_189 1 rfl ?_
                        refine zx_getR C zs_223 fg_X10_35 rfl 232 rfl dX10_lineLine_190 ?_
                        refine zx_iload C dX10_lineLine_193 0 rfl ?_
                        refine zx_aload_n C dX10_lineLine_195 1 rfl ?_
                        refine zx_getR C zs_223 fg_X10_38 rfl 233 rfl dX10_lineLine_196 ?_
                        refine zx_iconst (v := (0 : Int32)) C dX10_lineLine_199 (by decide) ?_
                        refine zx_iald C 0 zs_233 (by unfold vp_in; decide) (by decide) dX10_lineLine_200 ?_
                        obtain ⟨bd478, h⟩ := h
                        refine zx_iast C (r2).toNatClampNeg zs_232 bd478 rfl dX10_lineLine_201 ?_
                        refine zx_sig (fun σ479 eσ479 => ?_)
                        replace h := h σ479 eσ479
                        refine zx_iconst (v := (1 : Int32)) C dX10_lineLine_202 (by decide) ?_
                        exact zx_zret C hr dX10_lineLine_203 (Or.inr rfl) h
                      · replace h := h.2 q
                        refine zx_iconst (v := (0 : Int32)) C dX10_lineLine_187 (by decide) ?_
                        exact zx_zret C hr dX10_lineLine_188 (Or.inl rfl) h
                    · replace h := h.2 q
                      refine zx_sipush (v := (999 : Int32)) C dX10_lineLine_173 (by decide) ?_
                      refine zx_goto C 181 dX10_lineLine_176 (by decide) ?_
                      refine zx_cVb C [.int (0 : Int32), .int (0 : Int32), .int (999 : Int32)] lk_X10_154 (c_X10_take l D cy g (0 : Int32) (0 : Int32) (999 : Int32)  σ475 h) zs_223 rfl ⟨by decide, by decide⟩ ⟨rfl, rfl⟩ ⟨Nat.zero_le _, Nat.zero_le _⟩ rfl rfl (Nat.le_of_ble_eq_true rfl) dX10_lineLine_181 (fun r481 σ480 hb h => ?_)
                      replace h := h hb
                      refine zx_if_ne C 189 dX10_lineLine_184 (by decide) (fun q => ?_) (fun q => ?_)
                      · replace h := h.1 q
                        refine zx_aload_n C dX10_lineLine_189 1 rfl ?_
                        refine zx_getR C zs_223 fg_X10_35 rfl 232 rfl dX10_lineLine_190 ?_
                        refine zx_iload C dX10_lineLine_193 0 rfl ?_
                        refine zx_aload_n C dX10_lineLine_195 1 rfl ?_
                        refine zx_getR C zs_223 fg_X10_38 rfl 233 rfl dX10_lineLine_196 ?_
                        refine zx_iconst (v := (0 : Int32)) C dX10_lineLine_199 (by decide) ?_
                        refine zx_iald C 0 zs_233 (by unfold vp_in; decide) (by decide) dX10_lineLine_200 ?_
                        obtain ⟨bd482, h⟩ := h
                        refine zx_iast C (r2).toNatClampNeg zs_232 bd482 rfl dX10_lineLine_201 ?_
                        refine zx_sig (fun σ483 eσ483 => ?_)
                        replace h := h σ483 eσ483
                        refine zx_iconst (v := (1 : Int32)) C dX10_lineLine_202 (by decide) ?_
                        exact zx_zret C hr dX10_lineLine_203 (Or.inr rfl) h
                      · replace h := h.2 q
                        refine zx_iconst (v := (0 : Int32)) C dX10_lineLine_187 (by decide) ?_
                        exact zx_zret C hr dX10_lineLine_188 (Or.inl rfl) h
                  · replace h := h.2 q
                    refine zx_bipush (v := (60 : Int32)) C dX10_lineLine_161 (by decide) ?_
                    refine zx_goto C 181 dX10_lineLine_163 (by decide) ?_
                    refine zx_cVb C [.int (0 : Int32), .int (0 : Int32), .int (60 : Int32)] lk_X10_154 (c_X10_take l D cy g (0 : Int32) (0 : Int32) (60 : Int32)  σ475 h) zs_223 rfl ⟨by decide, by decide⟩ ⟨rfl, rfl⟩ ⟨Nat.zero_le _, Nat.zero_le _⟩ rfl rfl (Nat.le_of_ble_eq_true rfl) dX10_lineLine_181 (fun r485 σ484 hb h => ?_)
                    replace h := h hb
                    refine zx_if_ne C 189 dX10_lineLine_184 (by decide) (fun q => ?_) (fun q => ?_)
                    · replace h := h.1 q
                      refine zx_aload_n C dX10_lineLine_189 1 rfl ?_
                      refine zx_getR C zs_223 fg_X10_35 rfl 232 rfl dX10_lineLine_190 ?_
                      refine zx_iload C dX10_lineLine_193 0 rfl ?_
                      refine zx_aload_n C dX10_lineLine_195 1 rfl ?_
                      refine zx_getR C zs_223 fg_X10_38 rfl 233 rfl dX10_lineLine_196 ?_
                      refine zx_iconst (v := (0 : Int32)) C dX10_lineLine_199 (by decide) ?_
                      refine zx_iald C 0 zs_233 (by unfold vp_in; decide) (by decide) dX10_lineLine_200 ?_
                      obtain ⟨bd486, h⟩ := h
                      refine zx_iast C (r2).toNatClampNeg zs_232 bd486 rfl dX10_lineLine_201 ?_
                      refine zx_sig (fun σ487 eσ487 => ?_)
                      replace h := h σ487 eσ487
                      refine zx_iconst (v := (1 : Int32)) C dX10_lineLine_202 (by decide) ?_
                      exact zx_zret C hr dX10_lineLine_203 (Or.inr rfl) h
                    · replace h := h.2 q
                      refine zx_iconst (v := (0 : Int32)) C dX10_lineLine_187 (by decide) ?_
                      exact zx_zret C hr dX10_lineLine_188 (Or.inl rfl) h
                · replace h := h.2 q
                  refine zx_iconst (v := (1 : Int32)) C dX10_lineLine_150 (by decide) ?_
                  refine zx_goto C 155 dX10_lineLine_151 (by decide) ?_
                  refine zx_iload C dX10_lineLine_155 0 rfl ?_
                  refine zx_iconst (v := (4 : Int32)) C dX10_lineLine_157 (by decide) ?_
                  refine zx_icmp_ne C 166 dX10_lineLine_158 (by decide) (fun q => ?_) (fun q => ?_)
                  · replace h := h.1 q
                    refine zx_iload C dX10_lineLine_166 0 rfl ?_
                    refine zx_bipush (v := (6 : Int32)) C dX10_lineLine_168 (by decide) ?_
                    refine zx_icmp_ne C 179 dX10_lineLine_170 (by decide) (fun q => ?_) (fun q => ?_)
                    · replace h := h.1 q
                      refine zx_bipush (v := (9 : Int32)) C dX10_lineLine_179 (by decide) ?_
                      refine zx_cVb C [.int (0 : Int32), .int (1 : Int32), .int (9 : Int32)] lk_X10_154 (c_X10_take l D cy g (0 : Int32) (1 : Int32) (9 : Int32)  σ475 h) zs_223 rfl ⟨by decide, by decide⟩ ⟨rfl, rfl⟩ ⟨Nat.zero_le _, Nat.zero_le _⟩ rfl rfl (Nat.le_of_ble_eq_true rfl) dX10_lineLine_181 (fun r489 σ488 hb h => ?_)
                      replace h := h hb
                      refine zx_if_ne C 189 dX10_lineLine_184 (by decide) (fun q => ?_) (fun q => ?_)
                      · replace h := h.1 q
                        refine zx_aload_n C dX10_lineLine_189 1 rfl ?_
                        refine zx_getR C zs_223 fg_X10_35 rfl 232 rfl dX10_lineLine_190 ?_
                        refine zx_iload C dX10_lineLine_193 0 rfl ?_
                        refine zx_aload_n C dX10_lineLine_195 1 rfl ?_
                        refine zx_getR C zs_223 fg_X10_38 rfl 233 rfl dX10_lineLine_196 ?_
                        refine zx_iconst (v := (0 : Int32)) C dX10_lineLine_199 (by decide) ?_
                        refine zx_iald C 0 zs_233 (by unfold vp_in; decide) (by decide) dX10_lineLine_200 ?_
                        obtain ⟨bd490, h⟩ := h
                        refine zx_iast C (r2).toNatClampNeg zs_232 bd490 rfl dX10_lineLine_201 ?_
                        refine zx_sig (fun σ491 eσ491 => ?_)
                        replace h := h σ491 eσ491
                        refine zx_iconst (v := (1 : Int32)) C dX10_lineLine_202 (by decide) ?_
                        exact zx_zret C hr dX10_lineLine_203 (Or.inr rfl) h
                      · replace h := h.2 q
                        refine zx_iconst (v := (0 : Int32)) C dX10_lineLine_187 (by decide) ?_
                        exact zx_zret C hr dX10_lineLine_188 (Or.inl rfl) h
                    · replace h := h.2 q
                      refine zx_sipush (v := (999 : Int32)) C dX10_lineLine_173 (by decide) ?_
                      refine zx_goto C 181 dX10_lineLine_176 (by decide) ?_
                      refine zx_cVb C [.int (0 : Int32), .int (1 : Int32), .int (999 : Int32)] lk_X10_154 (c_X10_take l D cy g (0 : Int32) (1 : Int32) (999 : Int32)  σ475 h) zs_223 rfl ⟨by decide, by decide⟩ ⟨rfl, rfl⟩ ⟨Nat.zero_le _, Nat.zero_le _⟩ rfl rfl (Nat.le_of_ble_eq_true rfl) dX10_lineLine_181 (fun r493 σ492 hb h => ?_)
                      replace h := h hb
                      refine zx_if_ne C 189 dX10_lineLine_184 (by decide) (fun q => ?_) (fun q => ?_)
                      · replace h := h.1 q
                        refine zx_aload_n C dX10_lineLine_189 1 rfl ?_
                        refine zx_getR C zs_223 fg_X10_35 rfl 232 rfl dX10_lineLine_190 ?_
                        refine zx_iload C dX10_lineLine_193 0 rfl ?_
                        refine zx_aload_n C dX10_lineLine_195 1 rfl ?_
                        refine zx_getR C zs_223 fg_X10_38 rfl 233 rfl dX10_lineLine_196 ?_
                        refine zx_iconst (v := (0 : Int32)) C dX10_lineLine_199 (by decide) ?_
                        refine zx_iald C 0 zs_233 (by unfold vp_in; decide) (by decide) dX10_lineLine_200 ?_
                        obtain ⟨bd494, h⟩ := h
                        refine zx_iast C (r2).toNatClampNeg zs_232 bd494 rfl dX10_lineLine_201 ?_
                        refine zx_sig (fun σ495 eσ495 => ?_)
                        replace h := h σ495 eσ495
                        refine zx_iconst (v := (1 : Int32)) C dX10_lineLine_202 (by decide) ?_
                        exact zx_zret C hr dX10_lineLine_203 (Or.inr rfl) h
                      · replace h := h.2 q
                        refine zx_iconst (v := (0 : Int32)) C dX10_lineLine_187 (by decide) ?_
                        exact zx_zret C hr dX10_lineLine_188 (Or.inl rfl) h
                  · replace h := h.2 q
                    refine zx_bipush (v := (60 : Int32)) C dX10_lineLine_161 (by decide) ?_
                    refine zx_goto C 181 dX10_lineLine_163 (by decide) ?_
                    refine zx_cVb C [.int (0 : Int32), .int (1 : Int32), .int (60 : Int32)] lk_X10_154 (c_X10_take l D cy g (0 : Int32) (1 : Int32) (60 : Int32)  σ475 h) zs_223 rfl ⟨by decide, by decide⟩ ⟨rfl, rfl⟩ ⟨Nat.zero_le _, Nat.zero_le _⟩ rfl rfl (Nat.le_of_ble_eq_true rfl) dX10_lineLine_181 (fun r497 σ496 hb h => ?_)
                    replace h := h hb
                    refine zx_if_ne C 189 dX10_lineLine_184 (by decide) (fun q => ?_) (fun q => ?_)
                    · replace h := h.1 q
                      refine zx_aload_n C dX10_lineLine_189 1 rfl ?_
                      refine zx_getR C zs_223 fg_X10_35 rfl 232 rfl dX10_lineLine_190 ?_
                      refine zx_iload C dX10_lineLine_193 0 rfl ?_
                      refine zx_aload_n C dX10_lineLine_195 1 rfl ?_
                      refine zx_getR C zs_223 fg_X10_38 rfl 233 rfl dX10_lineLine_196 ?_
                      refine zx_iconst (v := (0 : Int32)) C dX10_lineLine_199 (by decide) ?_
                      refine zx_iald C 0 zs_233 (by unfold vp_in; decide) (by decide) dX10_lineLine_200 ?_
                      obtain ⟨bd498, h⟩ := h
                      refine zx_iast C (r2).toNatClampNeg zs_232 bd498 rfl dX10_lineLine_201 ?_
                      refine zx_sig (fun σ499 eσ499 => ?_)
                      replace h := h σ499 eσ499
                      refine zx_iconst (v := (1 : Int32)) C dX10_lineLine_202 (by decide) ?_
                      exact zx_zret C hr dX10_lineLine_203 (Or.inr rfl) h
                    · replace h := h.2 q
                      refine zx_iconst (v := (0 : Int32)) C dX10_lineLine_187 (by decide) ?_
                      exact zx_zret C hr dX10_lineLine_188 (Or.inl rfl) h
              · replace h := h.2 q
                refine zx_lload_n C dX10_lineLine_94 2 rfl ?_
                refine zx_ldc2 C dX10_lineLine_95 co_X10_185 ?_
                refine zx_lcmp C dX10_lineLine_98 ?_
                refine zx_if_ne C 109 dX10_lineLine_99 (by decide) (fun q => ?_) (fun q => ?_)
                · replace h := h.1 q
                  refine zx_lload_n C dX10_lineLine_109 2 rfl ?_
                  refine zx_ldc2 C dX10_lineLine_110 co_X10_187 ?_
                  refine zx_lcmp C dX10_lineLine_113 ?_
                  refine zx_if_ne C 124 dX10_lineLine_114 (by decide) (fun q => ?_) (fun q => ?_)
                  · replace h := h.1 q
                    refine zx_aload_n C dX10_lineLine_124 1 rfl ?_
                    refine zx_lload_n C dX10_lineLine_125 2 rfl ?_
                    refine zx_ldc2 C dX10_lineLine_126 co_X10_191 ?_
                    refine zx_lcmp C dX10_lineLine_129 ?_
                    refine zx_if_ne C 137 dX10_lineLine_130 (by decide) (fun q => ?_) (fun q => ?_)
                    · replace h := h.1 q
                      refine zx_iconst (v := (0 : Int32)) C dX10_lineLine_137 (by decide) ?_
                      refine zx_cVb C [.int (0 : Int32)] lk_X10_203 (c_X10_ofPost l D cy g (0 : Int32)  σ475 h) zs_223 rfl ⟨by decide, by decide⟩ ⟨rfl, rfl⟩ ⟨Nat.zero_le _, Nat.zero_le _⟩ rfl rfl (Nat.le_of_ble_eq_true rfl) dX10_lineLine_138 (fun r501 σ500 hb h => ?_)
                      replace h := h hb
                      exact zx_zret C hr dX10_lineLine_141 h.1 h.2
                    · replace h := h.2 q
                      refine zx_iconst (v := (1 : Int32)) C dX10_lineLine_133 (by decide) ?_
                      refine zx_goto C 138 dX10_lineLine_134 (by decide) ?_
                      refine zx_cVb C [.int (1 : Int32)] lk_X10_203 (c_X10_ofPost l D cy g (1 : Int32)  σ475 h) zs_223 rfl ⟨by decide, by decide⟩ ⟨rfl, rfl⟩ ⟨Nat.zero_le _, Nat.zero_le _⟩ rfl rfl (Nat.le_of_ble_eq_true rfl) dX10_lineLine_138 (fun r503 σ502 hb h => ?_)
                      replace h := h hb
                      exact zx_zret C hr dX10_lineLine_141 h.1 h.2
                  · replace h := h.2 q
                    refine zx_aload_n C dX10_lineLine_117 1 rfl ?_
                    refine zx_cVb C [] lk_X10_200 (c_X10_riderLine l D cy g   σ475 h) zs_223 rfl ⟨by decide, by decide⟩ ⟨rfl, rfl⟩ ⟨Nat.zero_le _, Nat.zero_le _⟩ rfl rfl (Nat.le_of_ble_eq_true rfl) dX10_lineLine_118 (fun r505 σ504 hb h => ?_)
                    replace h := h hb
                    refine zx_goto C 141 dX10_lineLine_121 (by decide) ?_
                    exact zx_zret C hr dX10_lineLine_141 h.1 h.2
                · replace h := h.2 q
                  refine zx_aload_n C dX10_lineLine_102 1 rfl ?_
                  refine zx_cVb C [] lk_X10_197 (c_X10_postLine l D cy g   σ475 h) zs_223 rfl ⟨by decide, by decide⟩ ⟨rfl, rfl⟩ ⟨Nat.zero_le _, Nat.zero_le _⟩ rfl rfl (Nat.le_of_ble_eq_true rfl) dX10_lineLine_103 (fun r507 σ506 hb h => ?_)
                  replace h := h hb
                  refine zx_goto C 141 dX10_lineLine_106 (by decide) ?_
                  exact zx_zret C hr dX10_lineLine_141 h.1 h.2
          · replace h := h.2 q
            refine zx_aload_n C dX10_lineLine_44 1 rfl ?_
            refine zx_cVb C [] lk_X10_143 (c_X10_fails l D cy g   σ1 h) zs_223 rfl ⟨by decide, by decide⟩ ⟨rfl, rfl⟩ ⟨Nat.zero_le _, Nat.zero_le _⟩ rfl rfl (Nat.le_of_ble_eq_true rfl) dX10_lineLine_45 (fun r509 σ508 hb h => ?_)
            replace h := h hb
            exact zx_zret C hr dX10_lineLine_48 h.1 h.2
