theorem fg_X10_269 : zFG RX10 269 10 30 := ⟨RX10, TX10, 50, rfl, lay_X10, by decide, fl_X10_269⟩
theorem fp_X10_269 : zFP RX10 269 10 30 .int := ⟨RX10, TX10, 50, tyX10, rfl, lay_X10, by decide, fl_X10_269, tyX10_ok, nmX10, rfl, by decide +kernel⟩
def w_X10_draw (a1 : Int32) (σ : zSto) (P : Int32 → zSto → Prop) : Prop := (∀ σ1 : zSto, σ1 = zI σ 223 30 (((σ.1 223 30) * (1103515245 : Int32)) + (12345 : Int32)) → (¬ a1 = 0 ∧ P (((σ1.1 223 30).toUInt32 >>> ((16 : Int32).toUInt32 &&& Int32.toUInt32 31)).toInt32 - ((σ1.1 223 30).toUInt32 >>> ((16 : Int32).toUInt32 &&& Int32.toUInt32 31)).toInt32 / a1 * a1) σ1))
set_option maxRecDepth 100000 in
set_option maxHeartbeats 4000000 in
theorem c_X10_draw (l : Launch) (D : va_G) (cy : Nat → ClassId) (g : Nat → Nat) (a1 : Int32)  (σ : zSto) {P : Int32 → zSto → Prop} (h : w_X10_draw a1 σ P) : zMi l yX10_draw cX10_draw 2 (some .int) (zrm 0 0) D cy g [.ref (g 223), .int a1] σ P := by
  unfold w_X10_draw at h
  refine zm_i RX10 rfl (by decide +kernel) (Nat.le_of_ble_eq_true rfl) ?_
  intro p e s m below meth c C hr
  refine zx_lv (lv' := [(0, .ref (g 223)), (1, .int a1)]) [0, 1] rfl ?_
  refine zx_aload_n C dX10_draw_0 0 rfl ?_
  refine zx_aload_n C dX10_draw_1 0 rfl ?_
  refine zx_getI C zs_223 fg_X10_269 rfl dX10_draw_2 ?_
  refine zx_ldcw C dX10_draw_5 co_X10_272 ?_
  refine zx_imul C dX10_draw_8 ?_
  refine zx_sipush (v := (12345 : Int32)) C dX10_draw_9 (by decide) ?_
  refine zx_iadd C dX10_draw_12 ?_
  refine zx_putI C zs_223 fp_X10_269 rfl dX10_draw_13 ?_
  refine zx_sig (fun σ1 eσ1 => ?_)
  replace h := h σ1 eσ1
  refine zx_aload_n C dX10_draw_16 0 rfl ?_
  refine zx_getI C zs_223 fg_X10_269 rfl dX10_draw_17 ?_
  refine zx_bipush (v := (16 : Int32)) C dX10_draw_20 (by decide) ?_
  refine zx_iushr C dX10_draw_22 ?_
  refine zx_iload_n C dX10_draw_23 1 rfl ?_
  obtain ⟨q2, h⟩ := h
  refine zx_irem C dX10_draw_24 q2 ?_
  exact zx_iret C hr dX10_draw_25 h
def w_X10_isOn (a1 : Int32) (a2 : Int32) (σ : zSto) (P : Int32 → zSto → Prop) : Prop := (w_X10_riderOf a1 (0 : Int32) σ (fun (r2 : Int32) (σ1 : zSto) => ((a2 < r2 → P (0 : Int32) σ1) ∧ (¬ a2 < r2 → (w_X10_riderOf a1 (1 : Int32) σ1 (fun (r4 : Int32) (σ3 : zSto) => ((r4 ≤ a2 → P (0 : Int32) σ3) ∧ (¬ r4 ≤ a2 → P (1 : Int32) σ3))))))))
set_option maxRecDepth 100000 in
set_option maxHeartbeats 4000000 in
theorem c_X10_isOn (l : Launch) (D : va_G) (cy : Nat → ClassId) (g : Nat → Nat) (a1 : Int32) (a2 : Int32)  (σ : zSto) {P : Int32 → zSto → Prop} (h : w_X10_isOn a1 a2 σ P) : zMb l yX10_isOn cX10_isOn 3 (some .boolean) (zrm 2 43) D cy g [.ref (g 223), .int a1, .int a2] σ P := by
  unfold w_X10_isOn at h
  refine zm_b RX10 rfl (by decide +kernel) (Nat.le_of_ble_eq_true rfl) ?_
  intro p e s m below meth c C hr
  refine zx_lv (lv' := [(0, .ref (g 223)), (1, .int a1), (2, .int a2)]) [0, 1, 2] rfl ?_
  refine zx_aload_n C dX10_isOn_0 0 rfl ?_
  refine zx_iload_n C dX10_isOn_1 1 rfl ?_
  refine zx_iconst (v := (0 : Int32)) C dX10_isOn_2 (by decide) ?_
  refine zx_cVi C [.int a1, .int (0 : Int32)] lk_X10_266 (c_X10_riderOf l D cy g a1 (0 : Int32)  σ h) zs_223 rfl ⟨by decide, by decide⟩ ⟨rfl, rfl⟩ ⟨Nat.zero_le _, Nat.zero_le _⟩ rfl rfl (Nat.le_of_ble_eq_true rfl) dX10_isOn_3 (fun r2 σ1 h => ?_)
  refine zx_iload_n C dX10_isOn_6 2 rfl ?_
  refine zx_icmp_gt C 24 dX10_isOn_7 (by decide) (fun q => ?_) (fun q => ?_)
  · replace h := h.1 q
    refine zx_iconst (v := (0 : Int32)) C dX10_isOn_24 (by decide) ?_
    exact zx_zret C hr dX10_isOn_25 (Or.inl rfl) h
  · replace h := h.2 q
    refine zx_iload_n C dX10_isOn_10 2 rfl ?_
    refine zx_aload_n C dX10_isOn_11 0 rfl ?_
    refine zx_iload_n C dX10_isOn_12 1 rfl ?_
    refine zx_iconst (v := (1 : Int32)) C dX10_isOn_13 (by decide) ?_
    refine zx_cVi C [.int a1, .int (1 : Int32)] lk_X10_266 (c_X10_riderOf l D cy g a1 (1 : Int32)  σ1 h) zs_223 rfl ⟨by decide, by decide⟩ ⟨rfl, rfl⟩ ⟨Nat.zero_le _, Nat.zero_le _⟩ rfl rfl (Nat.le_of_ble_eq_true rfl) dX10_isOn_14 (fun r4 σ3 h => ?_)
    refine zx_icmp_ge C 24 dX10_isOn_17 (by decide) (fun q => ?_) (fun q => ?_)
    · replace h := h.1 q
      refine zx_iconst (v := (0 : Int32)) C dX10_isOn_24 (by decide) ?_
      exact zx_zret C hr dX10_isOn_25 (Or.inl rfl) h
    · replace h := h.2 q
      refine zx_iconst (v := (1 : Int32)) C dX10_isOn_20 (by decide) ?_
      refine zx_goto C 25 dX10_isOn_21 (by decide) ?_
      exact zx_zret C hr dX10_isOn_25 (Or.inr rfl) h
theorem lk_X10_273 : zLV RX10 273 RX10 yX10_isOn cX10_isOn 3 (some .boolean) 2 := zLV_of ml_X10_273 im_X10_isOn se_X10_isOn ini_X10 cd_X10_isOn (by decide +kernel)
theorem fg_X10_62 : zFG RX10 62 10 37 := ⟨RX10, TX10, 50, rfl, lay_X10, by decide, fl_X10_62⟩
theorem fg_X10_276 : zFG RX10 276 10 31 := ⟨RX10, TX10, 50, rfl, lay_X10, by decide, fl_X10_276⟩
def w_X10_wants (a1 : Int32) (a2 : Int32) (σ : zSto) (P : Int32 → zSto → Prop) : Prop := (w_X10_isOn a1 a2 σ (fun (r2 : Int32) (σ1 : zSto) => (r2 = 0 ∨ r2 = 1) → ((r2 = 0 → P (0 : Int32) σ1) ∧ (¬ r2 = 0 → (vp_in a2 16 ∧ (((σ1.1 238 (a2).toNatClampNeg) ≤ 0 → P (0 : Int32) σ1) ∧ (¬ (σ1.1 238 (a2).toNatClampNeg) ≤ 0 → (w_X10_riderOf a1 (3 : Int32) σ1 (fun (r5 : Int32) (σ4 : zSto) => (vp_in a2 16 ∧ (((σ4.1 238 (a2).toNatClampNeg) < r5 → P (0 : Int32) σ4) ∧ (¬ (σ4.1 238 (a2).toNatClampNeg) < r5 → (vp_in a1 6 ∧ (w_X10_riderOf a1 (2 : Int32) σ4 (fun (r9 : Int32) (σ8 : zSto) => ((r9 ≤ (σ4.1 241 (a1).toNatClampNeg) → P (0 : Int32) σ8) ∧ (¬ r9 ≤ (σ4.1 241 (a1).toNatClampNeg) → (w_X10_riderOf a1 (4 : Int32) σ8 (fun (r11 : Int32) (σ10 : zSto) => (vp_in a2 16 ∧ ((r11 < ((σ10.1 223 31) + (σ10.1 237 (a2).toNatClampNeg)) → P (0 : Int32) σ10) ∧ (¬ r11 < ((σ10.1 223 31) + (σ10.1 237 (a2).toNatClampNeg)) → P (1 : Int32) σ10))))))))))))))))))))))
set_option maxRecDepth 100000 in
set_option maxHeartbeats 4000000 in
theorem c_X10_wants (l : Launch) (D : va_G) (cy : Nat → ClassId) (g : Nat → Nat) (a1 : Int32) (a2 : Int32)  (σ : zSto) {P : Int32 → zSto → Prop} (h : w_X10_wants a1 a2 σ P) : zMb l yX10_wants cX10_wants 3 (some .boolean) (zrm 3 65) D cy g [.ref (g 223), .int a1, .int a2] σ P := by
  unfold w_X10_wants at h
  refine zm_b RX10 rfl (by decide +kernel) (Nat.le_of_ble_eq_true rfl) ?_
  intro p e s m below meth c C hr
  refine zx_lv (lv' := [(0, .ref (g 223)), (1, .int a1), (2, .int a2)]) [0, 1, 2] rfl ?_
  refine zx_aload_n C dX10_wants_0 0 rfl ?_
  refine zx_iload_n C dX10_wants_1 1 rfl ?_
  refine zx_iload_n C dX10_wants_2 2 rfl ?_
  refine zx_cVb C [.int a1, .int a2] lk_X10_273 (c_X10_isOn l D cy g a1 a2  σ h) zs_223 rfl ⟨by decide, by decide⟩ ⟨rfl, rfl⟩ ⟨Nat.zero_le _, Nat.zero_le _⟩ rfl rfl (Nat.le_of_ble_eq_true rfl) dX10_wants_3 (fun r2 σ1 hb h => ?_)
  replace h := h hb
  refine zx_if_eq C 72 dX10_wants_6 (by decide) (fun q => ?_) (fun q => ?_)
  · replace h := h.1 q
    refine zx_iconst (v := (0 : Int32)) C dX10_wants_72 (by decide) ?_
    exact zx_zret C hr dX10_wants_73 (Or.inl rfl) h
  · replace h := h.2 q
    refine zx_aload_n C dX10_wants_9 0 rfl ?_
    refine zx_getR C zs_223 fg_X10_53 rfl 238 rfl dX10_wants_10 ?_
    refine zx_iload_n C dX10_wants_13 2 rfl ?_
    obtain ⟨bd3, h⟩ := h
    refine zx_iald C (a2).toNatClampNeg zs_238 bd3 rfl dX10_wants_14 ?_
    refine zx_if_le C 72 dX10_wants_15 (by decide) (fun q => ?_) (fun q => ?_)
    · replace h := h.1 q
      refine zx_iconst (v := (0 : Int32)) C dX10_wants_72 (by decide) ?_
      exact zx_zret C hr dX10_wants_73 (Or.inl rfl) h
    · replace h := h.2 q
      refine zx_aload_n C dX10_wants_18 0 rfl ?_
      refine zx_iload_n C dX10_wants_19 1 rfl ?_
      refine zx_iconst (v := (3 : Int32)) C dX10_wants_20 (by decide) ?_
      refine zx_cVi C [.int a1, .int (3 : Int32)] lk_X10_266 (c_X10_riderOf l D cy g a1 (3 : Int32)  σ1 h) zs_223 rfl ⟨by decide, by decide⟩ ⟨rfl, rfl⟩ ⟨Nat.zero_le _, Nat.zero_le _⟩ rfl rfl (Nat.le_of_ble_eq_true rfl) dX10_wants_21 (fun r5 σ4 h => ?_)
      refine zx_aload_n C dX10_wants_24 0 rfl ?_
      refine zx_getR C zs_223 fg_X10_53 rfl 238 rfl dX10_wants_25 ?_
      refine zx_iload_n C dX10_wants_28 2 rfl ?_
      obtain ⟨bd6, h⟩ := h
      refine zx_iald C (a2).toNatClampNeg zs_238 bd6 rfl dX10_wants_29 ?_
      refine zx_icmp_gt C 72 dX10_wants_30 (by decide) (fun q => ?_) (fun q => ?_)
      · replace h := h.1 q
        refine zx_iconst (v := (0 : Int32)) C dX10_wants_72 (by decide) ?_
        exact zx_zret C hr dX10_wants_73 (Or.inl rfl) h
      · replace h := h.2 q
        refine zx_aload_n C dX10_wants_33 0 rfl ?_
        refine zx_getR C zs_223 fg_X10_62 rfl 241 rfl dX10_wants_34 ?_
        refine zx_iload_n C dX10_wants_37 1 rfl ?_
        obtain ⟨bd7, h⟩ := h
        refine zx_iald C (a1).toNatClampNeg zs_241 bd7 rfl dX10_wants_38 ?_
        refine zx_aload_n C dX10_wants_39 0 rfl ?_
        refine zx_iload_n C dX10_wants_40 1 rfl ?_
        refine zx_iconst (v := (2 : Int32)) C dX10_wants_41 (by decide) ?_
        refine zx_cVi C [.int a1, .int (2 : Int32)] lk_X10_266 (c_X10_riderOf l D cy g a1 (2 : Int32)  σ4 h) zs_223 rfl ⟨by decide, by decide⟩ ⟨rfl, rfl⟩ ⟨Nat.zero_le _, Nat.zero_le _⟩ rfl rfl (Nat.le_of_ble_eq_true rfl) dX10_wants_42 (fun r9 σ8 h => ?_)
        refine zx_icmp_ge C 72 dX10_wants_45 (by decide) (fun q => ?_) (fun q => ?_)
        · replace h := h.1 q
          refine zx_iconst (v := (0 : Int32)) C dX10_wants_72 (by decide) ?_
          exact zx_zret C hr dX10_wants_73 (Or.inl rfl) h
        · replace h := h.2 q
          refine zx_aload_n C dX10_wants_48 0 rfl ?_
          refine zx_iload_n C dX10_wants_49 1 rfl ?_
          refine zx_iconst (v := (4 : Int32)) C dX10_wants_50 (by decide) ?_
          refine zx_cVi C [.int a1, .int (4 : Int32)] lk_X10_266 (c_X10_riderOf l D cy g a1 (4 : Int32)  σ8 h) zs_223 rfl ⟨by decide, by decide⟩ ⟨rfl, rfl⟩ ⟨Nat.zero_le _, Nat.zero_le _⟩ rfl rfl (Nat.le_of_ble_eq_true rfl) dX10_wants_51 (fun r11 σ10 h => ?_)
          refine zx_aload_n C dX10_wants_54 0 rfl ?_
          refine zx_getI C zs_223 fg_X10_276 rfl dX10_wants_55 ?_
          refine zx_aload_n C dX10_wants_58 0 rfl ?_
          refine zx_getR C zs_223 fg_X10_50 rfl 237 rfl dX10_wants_59 ?_
          refine zx_iload_n C dX10_wants_62 2 rfl ?_
          obtain ⟨bd12, h⟩ := h
          refine zx_iald C (a2).toNatClampNeg zs_237 bd12 rfl dX10_wants_63 ?_
          refine zx_iadd C dX10_wants_64 ?_
          refine zx_icmp_lt C 72 dX10_wants_65 (by decide) (fun q => ?_) (fun q => ?_)
          · replace h := h.1 q
            refine zx_iconst (v := (0 : Int32)) C dX10_wants_72 (by decide) ?_
            exact zx_zret C hr dX10_wants_73 (Or.inl rfl) h
          · replace h := h.2 q
            refine zx_iconst (v := (1 : Int32)) C dX10_wants_68 (by decide) ?_
            refine zx_goto C 73 dX10_wants_69 (by decide) ?_
            exact zx_zret C hr dX10_wants_73 (Or.inr rfl) h
theorem lk_X10_282 : zLV RX10 282 RX10 yX10_draw cX10_draw 2 (some .int) 1 := zLV_of ml_X10_282 im_X10_draw se_X10_draw ini_X10 cd_X10_draw (by decide +kernel)
theorem lk_X10_279 : zLV RX10 279 RX10 yX10_wants cX10_wants 3 (some .boolean) 2 := zLV_of ml_X10_279 im_X10_wants se_X10_wants ini_X10 cd_X10_wants (by decide +kernel)
theorem fg_X10_71 : zFG RX10 71 10 40 := ⟨RX10, TX10, 50, rfl, lay_X10, by decide, fl_X10_71⟩
def w_X10_pullerAt_150 (x_1 : Int32) (x_3 : Int32) (P : Int32 → zSto → Prop)  : Nat → Int32 → Int32 → zSto → Prop
  | 0, _, _, _ => False
  | n + 1, x_7, x_8, σ => (((σ.1 223 26) ≤ x_8 → P (-1 : Int32) σ) ∧ (¬ (σ.1 223 26) ≤ x_8 → (w_X10_has x_3 x_8 σ (fun (r4 : Int32) (σ3 : zSto) => (r4 = 0 ∨ r4 = 1) → ((r4 = 0 → (∀ x5 : Int32, x5 = (x_8 + (1 : Int32)) → w_X10_pullerAt_150 x_1 x_3 P n x_7 x5 σ3)) ∧ (¬ r4 = 0 → (w_X10_wants x_8 x_1 σ3 (fun (r7 : Int32) (σ6 : zSto) => (r7 = 0 ∨ r7 = 1) → ((r7 = 0 → (∀ x8 : Int32, x8 = (x_8 + (1 : Int32)) → w_X10_pullerAt_150 x_1 x_3 P n x_7 x8 σ6)) ∧ (¬ r7 = 0 → ((¬ x_7 = 0 → (∀ x9 : Int32, x9 = (x_7 + (-1 : Int32)) → (∀ x10 : Int32, x10 = (x_8 + (1 : Int32)) → w_X10_pullerAt_150 x_1 x_3 P n x9 x10 σ6))) ∧ (x_7 = 0 → P x_8 σ6))))))))))))
def w_X10_pullerAt_12 (x_1 : Int32) (x_2 : Int32) (x_3 : Int32) (P : Int32 → zSto → Prop)  : Nat → Int32 → Int32 → Int32 → Int32 → zSto → Prop
  | 0, _, _, _, _, _ => False
  | n + 1, x_4, x_5, x_6, x_7, σ => (((σ.1 223 26) ≤ x_7 → ((¬ x_2 = (2 : Int32) → ((¬ x_2 = (3 : Int32) → P x_4 σ) ∧ (x_2 = (3 : Int32) → P x_5 σ))) ∧ (x_2 = (2 : Int32) → ((¬ x_6 = 0 → (w_X10_draw x_6 σ (fun (r2 : Int32) (σ1 : zSto) => (∃ n2 : Nat, w_X10_pullerAt_150 x_1 x_3 P  n2 r2 (0 : Int32) σ1)))) ∧ (x_6 = 0 → ((¬ x_2 = (3 : Int32) → P x_4 σ) ∧ (x_2 = (3 : Int32) → P x_5 σ))))))) ∧ (¬ (σ.1 223 26) ≤ x_7 → ((x_2 = (-1 : Int32) → ((¬ x_2 = (2 : Int32) → ((¬ x_2 = (3 : Int32) → P x_4 σ) ∧ (x_2 = (3 : Int32) → P x_5 σ))) ∧ (x_2 = (2 : Int32) → ((¬ x_6 = 0 → (w_X10_draw x_6 σ (fun (r12 : Int32) (σ11 : zSto) => (∃ n2 : Nat, w_X10_pullerAt_150 x_1 x_3 P  n2 r12 (0 : Int32) σ11)))) ∧ (x_6 = 0 → ((¬ x_2 = (3 : Int32) → P x_4 σ) ∧ (x_2 = (3 : Int32) → P x_5 σ))))))) ∧ (¬ x_2 = (-1 : Int32) → (w_X10_has x_3 x_7 σ (fun (r14 : Int32) (σ13 : zSto) => (r14 = 0 ∨ r14 = 1) → ((r14 = 0 → (∀ x15 : Int32, x15 = (x_7 + (1 : Int32)) → w_X10_pullerAt_12 x_1 x_2 x_3 P n x_4 x_5 x_6 x15 σ13)) ∧ (¬ r14 = 0 → (w_X10_wants x_7 x_1 σ13 (fun (r17 : Int32) (σ16 : zSto) => (r17 = 0 ∨ r17 = 1) → ((r17 = 0 → (∀ x18 : Int32, x18 = (x_7 + (1 : Int32)) → w_X10_pullerAt_12 x_1 x_2 x_3 P n x_4 x_5 x_6 x18 σ16)) ∧ (¬ r17 = 0 → ((¬ x_2 = (1 : Int32) → ((¬ x_4 = (-1 : Int32) → ((x_5 = (-1 : Int32) → (∀ x19 : Int32, x19 = (x_6 + (1 : Int32)) → (∀ x20 : Int32, x20 = (x_7 + (1 : Int32)) → w_X10_pullerAt_12 x_1 x_2 x_3 P n x_4 x_7 x19 x20 σ16))) ∧ (¬ x_5 = (-1 : Int32) → (w_X10_riderOf x_7 (5 : Int32) σ16 (fun (r22 : Int32) (σ21 : zSto) => (w_X10_riderOf x_5 (5 : Int32) σ21 (fun (r24 : Int32) (σ23 : zSto) => ((r22 ≤ r24 → (∀ x25 : Int32, x25 = (x_6 + (1 : Int32)) → (∀ x26 : Int32, x26 = (x_7 + (1 : Int32)) → w_X10_pullerAt_12 x_1 x_2 x_3 P n x_4 x_5 x25 x26 σ23))) ∧ (¬ r22 ≤ r24 → (∀ x27 : Int32, x27 = (x_6 + (1 : Int32)) → (∀ x28 : Int32, x28 = (x_7 + (1 : Int32)) → w_X10_pullerAt_12 x_1 x_2 x_3 P n x_4 x_7 x27 x28 σ23))))))))))) ∧ (x_4 = (-1 : Int32) → ((x_5 = (-1 : Int32) → (∀ x29 : Int32, x29 = (x_6 + (1 : Int32)) → (∀ x30 : Int32, x30 = (x_7 + (1 : Int32)) → w_X10_pullerAt_12 x_1 x_2 x_3 P n x_7 x_7 x29 x30 σ16))) ∧ (¬ x_5 = (-1 : Int32) → (w_X10_riderOf x_7 (5 : Int32) σ16 (fun (r32 : Int32) (σ31 : zSto) => (w_X10_riderOf x_5 (5 : Int32) σ31 (fun (r34 : Int32) (σ33 : zSto) => ((r32 ≤ r34 → (∀ x35 : Int32, x35 = (x_6 + (1 : Int32)) → (∀ x36 : Int32, x36 = (x_7 + (1 : Int32)) → w_X10_pullerAt_12 x_1 x_2 x_3 P n x_7 x_5 x35 x36 σ33))) ∧ (¬ r32 ≤ r34 → (∀ x37 : Int32, x37 = (x_6 + (1 : Int32)) → (∀ x38 : Int32, x38 = (x_7 + (1 : Int32)) → w_X10_pullerAt_12 x_1 x_2 x_3 P n x_7 x_7 x37 x38 σ33))))))))))))) ∧ (x_2 = (1 : Int32) → (vp_in x_7 6 ∧ ((¬ (σ16.1 244 (x_7).toNatClampNeg) = 0 → (∀ x40 : Int32, x40 = (x_7 + (1 : Int32)) → w_X10_pullerAt_12 x_1 x_2 x_3 P n x_4 x_5 x_6 x40 σ16)) ∧ ((σ16.1 244 (x_7).toNatClampNeg) = 0 → ((¬ x_4 = (-1 : Int32) → ((x_5 = (-1 : Int32) → (∀ x41 : Int32, x41 = (x_6 + (1 : Int32)) → (∀ x42 : Int32, x42 = (x_7 + (1 : Int32)) → w_X10_pullerAt_12 x_1 x_2 x_3 P n x_4 x_7 x41 x42 σ16))) ∧ (¬ x_5 = (-1 : Int32) → (w_X10_riderOf x_7 (5 : Int32) σ16 (fun (r44 : Int32) (σ43 : zSto) => (w_X10_riderOf x_5 (5 : Int32) σ43 (fun (r46 : Int32) (σ45 : zSto) => ((r44 ≤ r46 → (∀ x47 : Int32, x47 = (x_6 + (1 : Int32)) → (∀ x48 : Int32, x48 = (x_7 + (1 : Int32)) → w_X10_pullerAt_12 x_1 x_2 x_3 P n x_4 x_5 x47 x48 σ45))) ∧ (¬ r44 ≤ r46 → (∀ x49 : Int32, x49 = (x_6 + (1 : Int32)) → (∀ x50 : Int32, x50 = (x_7 + (1 : Int32)) → w_X10_pullerAt_12 x_1 x_2 x_3 P n x_4 x_7 x49 x50 σ45))))))))))) ∧ (x_4 = (-1 : Int32) → ((x_5 = (-1 : Int32) → (∀ x51 : Int32, x51 = (x_6 + (1 : Int32)) → (∀ x52 : Int32, x52 = (x_7 + (1 : Int32)) → w_X10_pullerAt_12 x_1 x_2 x_3 P n x_7 x_7 x51 x52 σ16))) ∧ (¬ x_5 = (-1 : Int32) → (w_X10_riderOf x_7 (5 : Int32) σ16 (fun (r54 : Int32) (σ53 : zSto) => (w_X10_riderOf x_5 (5 : Int32) σ53 (fun (r56 : Int32) (σ55 : zSto) => ((r54 ≤ r56 → (∀ x57 : Int32, x57 = (x_6 + (1 : Int32)) → (∀ x58 : Int32, x58 = (x_7 + (1 : Int32)) → w_X10_pullerAt_12 x_1 x_2 x_3 P n x_7 x_5 x57 x58 σ55))) ∧ (¬ r54 ≤ r56 → (∀ x59 : Int32, x59 = (x_6 + (1 : Int32)) → (∀ x60 : Int32, x60 = (x_7 + (1 : Int32)) → w_X10_pullerAt_12 x_1 x_2 x_3 P n x_7 x_7 x59 x60 σ55)))))))))))))))))))))))))))))
def w_X10_pullerAt (a1 : Int32) (a2 : Int32) (a3 : Int32) (σ : zSto) (P : Int32 → zSto → Prop) : Prop := (∃ n : Nat, w_X10_pullerAt_12 a1 a2 a3 P  n (-1 : Int32) (-1 : Int32) (0 : Int32) (0 : Int32) σ)
set_option maxRecDepth 100000 in
set_option maxHeartbeats 4000000 in
theorem k_X10_pullerAt_150 {p : Program} {l : Launch} {e : Env} {s : State} {m : MethodId} {args : Array Value} {below : List Frame} {meth : Method} {c : Code} {D : va_G} {cy : Nat → ClassId} {g : Nat → Nat} (C : zC p s m args meth c cX10_pullerAt RX10 9 D cy g) (hr : meth.sig.returnType = (some .int)) {P : Int32 → zSto → Prop} (x_1 : Int32) (x_3 : Int32)    : ∀ (n : Nat) (x_7 : Int32) (x_8 : Int32) (σ : zSto), w_X10_pullerAt_150 x_1 x_3 P n x_7 x_8 σ → zX p l e (zrm 4 87) s m args below meth c 0 0 (zQi P below args s D cy g) 9 D cy g 150 [(0, .ref (g 223)), (1, .int x_1), (3, .int x_3), (7, .int x_7), (8, .int x_8)] [] σ := by
  intro n
  induction n with
  | zero => intro x_7 x_8 σ h; exact h.elim
  | succ n ih =>
    intro x_7 x_8 σ h
    unfold w_X10_pullerAt_150 at h
    refine zx_iload C dX10_pullerAt_150 4 rfl ?_
    refine zx_aload_n C dX10_pullerAt_152 0 rfl ?_
    refine zx_getI C zs_223 fg_X10_251 rfl dX10_pullerAt_153 ?_
    refine zx_icmp_ge C 195 dX10_pullerAt_156 (by decide) (fun q => ?_) (fun q => ?_)
    · replace h := h.1 q
      refine zx_iconst (v := (-1 : Int32)) C dX10_pullerAt_195 (by decide) ?_
      exact zx_iret C hr dX10_pullerAt_196 h
    · replace h := h.2 q
      refine zx_iload_n C dX10_pullerAt_159 2 rfl ?_
      refine zx_iload C dX10_pullerAt_160 4 rfl ?_
      refine zx_cSb C [.int x_3, .int x_8] lk_X10_95 (c_X10_has l D cy g x_3 x_8  σ h) ⟨by decide, by decide⟩ ⟨rfl, rfl⟩ ⟨Nat.zero_le _, Nat.zero_le _⟩ rfl rfl (Nat.le_of_ble_eq_true rfl) dX10_pullerAt_162 (fun r4 σ3 hb h => ?_)
      replace h := h hb
      refine zx_if_eq C 189 dX10_pullerAt_165 (by decide) (fun q => ?_) (fun q => ?_)
      · replace h := h.1 q
        obtain ⟨x5, ex5⟩ : ∃ y : Int32, y = (x_8 + (1 : Int32)) := ⟨_, rfl⟩
        replace h := h x5 ex5
        refine zx_iinc (v := x5) (lv' := [(8, .int x5), (0, .ref (g 223)), (1, .int x_1), (3, .int x_3), (7, .int x_7)]) C dX10_pullerAt_189 4 rfl (by rw [ex5]; rfl) (by decide) rfl ?_
        refine zx_goto C 150 dX10_pullerAt_192 (by decide) ?_
        refine zx_lv (lv' := [(0, .ref (g 223)), (1, .int x_1), (3, .int x_3), (7, .int x_7), (8, .int x5)]) [1, 2, 3, 4, 0] rfl ?_
        exact ih x_7 x5 σ3 h
      · replace h := h.2 q
        refine zx_aload_n C dX10_pullerAt_168 0 rfl ?_
        refine zx_iload C dX10_pullerAt_169 4 rfl ?_
        refine zx_iload_n C dX10_pullerAt_171 1 rfl ?_
        refine zx_cVb C [.int x_8, .int x_1] lk_X10_279 (c_X10_wants l D cy g x_8 x_1  σ3 h) zs_223 rfl ⟨by decide, by decide⟩ ⟨rfl, rfl⟩ ⟨Nat.zero_le _, Nat.zero_le _⟩ rfl rfl (Nat.le_of_ble_eq_true rfl) dX10_pullerAt_172 (fun r7 σ6 hb h => ?_)
        replace h := h hb
        refine zx_if_eq C 189 dX10_pullerAt_175 (by decide) (fun q => ?_) (fun q => ?_)
        · replace h := h.1 q
          obtain ⟨x8, ex8⟩ : ∃ y : Int32, y = (x_8 + (1 : Int32)) := ⟨_, rfl⟩
          replace h := h x8 ex8
          refine zx_iinc (v := x8) (lv' := [(8, .int x8), (0, .ref (g 223)), (1, .int x_1), (3, .int x_3), (7, .int x_7)]) C dX10_pullerAt_189 4 rfl (by rw [ex8]; rfl) (by decide) rfl ?_
          refine zx_goto C 150 dX10_pullerAt_192 (by decide) ?_
          refine zx_lv (lv' := [(0, .ref (g 223)), (1, .int x_1), (3, .int x_3), (7, .int x_7), (8, .int x8)]) [1, 2, 3, 4, 0] rfl ?_
          exact ih x_7 x8 σ6 h
        · replace h := h.2 q
          refine zx_iload C dX10_pullerAt_178 3 rfl ?_
          refine zx_if_ne C 186 dX10_pullerAt_180 (by decide) (fun q => ?_) (fun q => ?_)
          · replace h := h.1 q
            obtain ⟨x9, ex9⟩ : ∃ y : Int32, y = (x_7 + (-1 : Int32)) := ⟨_, rfl⟩
            replace h := h x9 ex9
            refine zx_iinc (v := x9) (lv' := [(7, .int x9), (0, .ref (g 223)), (1, .int x_1), (3, .int x_3), (8, .int x_8)]) C dX10_pullerAt_186 3 rfl (by rw [ex9]; rfl) (by decide) rfl ?_
            obtain ⟨x10, ex10⟩ : ∃ y : Int32, y = (x_8 + (1 : Int32)) := ⟨_, rfl⟩
            replace h := h x10 ex10
            refine zx_iinc (v := x10) (lv' := [(8, .int x10), (7, .int x9), (0, .ref (g 223)), (1, .int x_1), (3, .int x_3)]) C dX10_pullerAt_189 4 rfl (by rw [ex10]; rfl) (by decide) rfl ?_
            refine zx_goto C 150 dX10_pullerAt_192 (by decide) ?_
            refine zx_lv (lv' := [(0, .ref (g 223)), (1, .int x_1), (3, .int x_3), (7, .int x9), (8, .int x10)]) [2, 3, 4, 1, 0] rfl ?_
            exact ih x9 x10 σ6 h
          · replace h := h.2 q
            refine zx_iload C dX10_pullerAt_183 4 rfl ?_
            exact zx_iret C hr dX10_pullerAt_185 h
set_option maxRecDepth 100000 in
set_option maxHeartbeats 4000000 in
theorem k_X10_pullerAt_12 {p : Program} {l : Launch} {e : Env} {s : State} {m : MethodId} {args : Array Value} {below : List Frame} {meth : Method} {c : Code} {D : va_G} {cy : Nat → ClassId} {g : Nat → Nat} (C : zC p s m args meth c cX10_pullerAt RX10 9 D cy g) (hr : meth.sig.returnType = (some .int)) {P : Int32 → zSto → Prop} (x_1 : Int32) (x_2 : Int32) (x_3 : Int32)    : ∀ (n : Nat) (x_4 : Int32) (x_5 : Int32) (x_6 : Int32) (x_7 : Int32) (σ : zSto), w_X10_pullerAt_12 x_1 x_2 x_3 P n x_4 x_5 x_6 x_7 σ → zX p l e (zrm 4 87) s m args below meth c 0 0 (zQi P below args s D cy g) 9 D cy g 12 [(0, .ref (g 223)), (1, .int x_1), (2, .int x_2), (3, .int x_3), (4, .int x_4), (5, .int x_5), (6, .int x_6), (7, .int x_7)] [] σ := by
  intro n
  induction n with
  | zero => intro x_4 x_5 x_6 x_7 σ h; exact h.elim
  | succ n ih =>
    intro x_4 x_5 x_6 x_7 σ h
    unfold w_X10_pullerAt_12 at h
    refine zx_iload C dX10_pullerAt_12 7 rfl ?_
    refine zx_aload_n C dX10_pullerAt_14 0 rfl ?_
    refine zx_getI C zs_223 fg_X10_251 rfl dX10_pullerAt_15 ?_
    refine zx_icmp_ge C 116 dX10_pullerAt_18 (by decide) (fun q => ?_) (fun q => ?_)
    · replace h := h.1 q
      refine zx_iload_n C dX10_pullerAt_116 2 rfl ?_
      refine zx_iconst (v := (2 : Int32)) C dX10_pullerAt_117 (by decide) ?_
      refine zx_icmp_ne C 126 dX10_pullerAt_118 (by decide) (fun q => ?_) (fun q => ?_)
      · replace h := h.1 q
        refine zx_iload_n C dX10_pullerAt_126 2 rfl ?_
        refine zx_iconst (v := (3 : Int32)) C dX10_pullerAt_127 (by decide) ?_
        refine zx_icmp_ne C 136 dX10_pullerAt_128 (by decide) (fun q => ?_) (fun q => ?_)
        · replace h := h.1 q
          refine zx_iload C dX10_pullerAt_136 4 rfl ?_
          exact zx_iret C hr dX10_pullerAt_138 h
        · replace h := h.2 q
          refine zx_iload C dX10_pullerAt_131 5 rfl ?_
          refine zx_goto C 138 dX10_pullerAt_133 (by decide) ?_
          exact zx_iret C hr dX10_pullerAt_138 h
      · replace h := h.2 q
        refine zx_iload C dX10_pullerAt_121 6 rfl ?_
        refine zx_if_ne C 139 dX10_pullerAt_123 (by decide) (fun q => ?_) (fun q => ?_)
        · replace h := h.1 q
          refine zx_aload_n C dX10_pullerAt_139 0 rfl ?_
          refine zx_iload C dX10_pullerAt_140 6 rfl ?_
          refine zx_cVi C [.int x_6] lk_X10_282 (c_X10_draw l D cy g x_6  σ h) zs_223 rfl ⟨by decide, by decide⟩ ⟨rfl, rfl⟩ ⟨Nat.zero_le _, Nat.zero_le _⟩ rfl rfl (Nat.le_of_ble_eq_true rfl) dX10_pullerAt_142 (fun r2 σ1 h => ?_)
          refine zx_istore (lv' := [(7, .int r2), (0, .ref (g 223)), (1, .int x_1), (2, .int x_2), (3, .int x_3), (4, .int x_4), (5, .int x_5), (6, .int x_6)]) C dX10_pullerAt_145 (by decide) rfl ?_
          refine zx_iconst (v := (0 : Int32)) C dX10_pullerAt_147 (by decide) ?_
          refine zx_istore (lv' := [(8, .int (0 : Int32)), (7, .int r2), (0, .ref (g 223)), (1, .int x_1), (2, .int x_2), (3, .int x_3), (4, .int x_4), (5, .int x_5), (6, .int x_6)]) C dX10_pullerAt_148 (by decide) rfl ?_
          obtain ⟨n2, h⟩ := h
          refine zx_lv (lv' := [(0, .ref (g 223)), (1, .int x_1), (3, .int x_3), (7, .int r2), (8, .int (0 : Int32))]) [2, 3, 5, 1, 0] rfl ?_
          exact k_X10_pullerAt_150 C hr (x_1) (x_3)   n2 r2 (0 : Int32) σ1 h
        · replace h := h.2 q
          refine zx_iload_n C dX10_pullerAt_126 2 rfl ?_
          refine zx_iconst (v := (3 : Int32)) C dX10_pullerAt_127 (by decide) ?_
          refine zx_icmp_ne C 136 dX10_pullerAt_128 (by decide) (fun q => ?_) (fun q => ?_)
          · replace h := h.1 q
            refine zx_iload C dX10_pullerAt_136 4 rfl ?_
            exact zx_iret C hr dX10_pullerAt_138 h
          · replace h := h.2 q
            refine zx_iload C dX10_pullerAt_131 5 rfl ?_
            refine zx_goto C 138 dX10_pullerAt_133 (by decide) ?_
            exact zx_iret C hr dX10_pullerAt_138 h
    · replace h := h.2 q
      refine zx_iload_n C dX10_pullerAt_21 2 rfl ?_
      refine zx_iconst (v := (-1 : Int32)) C dX10_pullerAt_22 (by decide) ?_
      refine zx_icmp_eq C 116 dX10_pullerAt_23 (by decide) (fun q => ?_) (fun q => ?_)
      · replace h := h.1 q
        refine zx_iload_n C dX10_pullerAt_116 2 rfl ?_
        refine zx_iconst (v := (2 : Int32)) C dX10_pullerAt_117 (by decide) ?_
        refine zx_icmp_ne C 126 dX10_pullerAt_118 (by decide) (fun q => ?_) (fun q => ?_)
        · replace h := h.1 q
          refine zx_iload_n C dX10_pullerAt_126 2 rfl ?_
          refine zx_iconst (v := (3 : Int32)) C dX10_pullerAt_127 (by decide) ?_
          refine zx_icmp_ne C 136 dX10_pullerAt_128 (by decide) (fun q => ?_) (fun q => ?_)
          · replace h := h.1 q
            refine zx_iload C dX10_pullerAt_136 4 rfl ?_
            exact zx_iret C hr dX10_pullerAt_138 h
          · replace h := h.2 q
            refine zx_iload C dX10_pullerAt_131 5 rfl ?_
            refine zx_goto C 138 dX10_pullerAt_133 (by decide) ?_
            exact zx_iret C hr dX10_pullerAt_138 h
        · replace h := h.2 q
          refine zx_iload C dX10_pullerAt_121 6 rfl ?_
          refine zx_if_ne C 139 dX10_pullerAt_123 (by decide) (fun q => ?_) (fun q => ?_)
          · replace h := h.1 q
            refine zx_aload_n C dX10_pullerAt_139 0 rfl ?_
            refine zx_iload C dX10_pullerAt_140 6 rfl ?_
            refine zx_cVi C [.int x_6] lk_X10_282 (c_X10_draw l D cy g x_6  σ h) zs_223 rfl ⟨by decide, by decide⟩ ⟨rfl, rfl⟩ ⟨Nat.zero_le _, Nat.zero_le _⟩ rfl rfl (Nat.le_of_ble_eq_true rfl) dX10_pullerAt_142 (fun r12 σ11 h => ?_)
            refine zx_istore (lv' := [(7, .int r12), (0, .ref (g 223)), (1, .int x_1), (2, .int x_2), (3, .int x_3), (4, .int x_4), (5, .int x_5), (6, .int x_6)]) C dX10_pullerAt_145 (by decide) rfl ?_
            refine zx_iconst (v := (0 : Int32)) C dX10_pullerAt_147 (by decide) ?_
            refine zx_istore (lv' := [(8, .int (0 : Int32)), (7, .int r12), (0, .ref (g 223)), (1, .int x_1), (2, .int x_2), (3, .int x_3), (4, .int x_4), (5, .int x_5), (6, .int x_6)]) C dX10_pullerAt_148 (by decide) rfl ?_
            obtain ⟨n2, h⟩ := h
            refine zx_lv (lv' := [(0, .ref (g 223)), (1, .int x_1), (3, .int x_3), (7, .int r12), (8, .int (0 : Int32))]) [2, 3, 5, 1, 0] rfl ?_
            exact k_X10_pullerAt_150 C hr (x_1) (x_3)   n2 r12 (0 : Int32) σ11 h
          · replace h := h.2 q
            refine zx_iload_n C dX10_pullerAt_126 2 rfl ?_
            refine zx_iconst (v := (3 : Int32)) C dX10_pullerAt_127 (by decide) ?_
            refine zx_icmp_ne C 136 dX10_pullerAt_128 (by decide) (fun q => ?_) (fun q => ?_)
            · replace h := h.1 q
              refine zx_iload C dX10_pullerAt_136 4 rfl ?_
              exact zx_iret C hr dX10_pullerAt_138 h
            · replace h := h.2 q
              refine zx_iload C dX10_pullerAt_131 5 rfl ?_
              refine zx_goto C 138 dX10_pullerAt_133 (by decide) ?_
              exact zx_iret C hr dX10_pullerAt_138 h
      · replace h := h.2 q
        refine zx_iload_n C dX10_pullerAt_26 3 rfl ?_
        refine zx_iload C dX10_pullerAt_27 7 rfl ?_
        refine zx_cSb C [.int x_3, .int x_7] lk_X10_95 (c_X10_has l D cy g x_3 x_7  σ h) ⟨by decide, by decide⟩ ⟨rfl, rfl⟩ ⟨Nat.zero_le _, Nat.zero_le _⟩ rfl rfl (Nat.le_of_ble_eq_true rfl) dX10_pullerAt_29 (fun r14 σ13 hb h => ?_)
        replace h := h hb
        refine zx_if_eq C 110 dX10_pullerAt_32 (by decide) (fun q => ?_) (fun q => ?_)
        · replace h := h.1 q
          obtain ⟨x15, ex15⟩ : ∃ y : Int32, y = (x_7 + (1 : Int32)) := ⟨_, rfl⟩
          replace h := h x15 ex15
          refine zx_iinc (v := x15) (lv' := [(7, .int x15), (0, .ref (g 223)), (1, .int x_1), (2, .int x_2), (3, .int x_3), (4, .int x_4), (5, .int x_5), (6, .int x_6)]) C dX10_pullerAt_110 7 rfl (by rw [ex15]; rfl) (by decide) rfl ?_
          refine zx_goto C 12 dX10_pullerAt_113 (by decide) ?_
          refine zx_lv (lv' := [(0, .ref (g 223)), (1, .int x_1), (2, .int x_2), (3, .int x_3), (4, .int x_4), (5, .int x_5), (6, .int x_6), (7, .int x15)]) [1, 2, 3, 4, 5, 6, 7, 0] rfl ?_
          exact ih x_4 x_5 x_6 x15 σ13 h
        · replace h := h.2 q
          refine zx_aload_n C dX10_pullerAt_35 0 rfl ?_
          refine zx_iload C dX10_pullerAt_36 7 rfl ?_
          refine zx_iload_n C dX10_pullerAt_38 1 rfl ?_
          refine zx_cVb C [.int x_7, .int x_1] lk_X10_279 (c_X10_wants l D cy g x_7 x_1  σ13 h) zs_223 rfl ⟨by decide, by decide⟩ ⟨rfl, rfl⟩ ⟨Nat.zero_le _, Nat.zero_le _⟩ rfl rfl (Nat.le_of_ble_eq_true rfl) dX10_pullerAt_39 (fun r17 σ16 hb h => ?_)
          replace h := h hb
          refine zx_if_eq C 110 dX10_pullerAt_42 (by decide) (fun q => ?_) (fun q => ?_)
          · replace h := h.1 q
            obtain ⟨x18, ex18⟩ : ∃ y : Int32, y = (x_7 + (1 : Int32)) := ⟨_, rfl⟩
            replace h := h x18 ex18
            refine zx_iinc (v := x18) (lv' := [(7, .int x18), (0, .ref (g 223)), (1, .int x_1), (2, .int x_2), (3, .int x_3), (4, .int x_4), (5, .int x_5), (6, .int x_6)]) C dX10_pullerAt_110 7 rfl (by rw [ex18]; rfl) (by decide) rfl ?_
            refine zx_goto C 12 dX10_pullerAt_113 (by decide) ?_
            refine zx_lv (lv' := [(0, .ref (g 223)), (1, .int x_1), (2, .int x_2), (3, .int x_3), (4, .int x_4), (5, .int x_5), (6, .int x_6), (7, .int x18)]) [1, 2, 3, 4, 5, 6, 7, 0] rfl ?_
            exact ih x_4 x_5 x_6 x18 σ16 h
          · replace h := h.2 q
            refine zx_iload_n C dX10_pullerAt_45 2 rfl ?_
            refine zx_iconst (v := (1 : Int32)) C dX10_pullerAt_46 (by decide) ?_
            refine zx_icmp_ne C 60 dX10_pullerAt_47 (by decide) (fun q => ?_) (fun q => ?_)
            · replace h := h.1 q
              refine zx_iload C dX10_pullerAt_60 4 rfl ?_
              refine zx_iconst (v := (-1 : Int32)) C dX10_pullerAt_62 (by decide) ?_
              refine zx_icmp_ne C 71 dX10_pullerAt_63 (by decide) (fun q => ?_) (fun q => ?_)
              · replace h := h.1 q
                refine zx_iload C dX10_pullerAt_71 4 rfl ?_
                refine zx_istore (lv' := [(4, .int x_4), (0, .ref (g 223)), (1, .int x_1), (2, .int x_2), (3, .int x_3), (5, .int x_5), (6, .int x_6), (7, .int x_7)]) C dX10_pullerAt_73 (by decide) rfl ?_
                refine zx_iload C dX10_pullerAt_75 5 rfl ?_
                refine zx_iconst (v := (-1 : Int32)) C dX10_pullerAt_77 (by decide) ?_
                refine zx_icmp_eq C 98 dX10_pullerAt_78 (by decide) (fun q => ?_) (fun q => ?_)
                · replace h := h.1 q
                  refine zx_iload C dX10_pullerAt_98 7 rfl ?_
                  refine zx_goto C 105 dX10_pullerAt_100 (by decide) ?_
                  refine zx_istore (lv' := [(5, .int x_7), (4, .int x_4), (0, .ref (g 223)), (1, .int x_1), (2, .int x_2), (3, .int x_3), (6, .int x_6), (7, .int x_7)]) C dX10_pullerAt_105 (by decide) rfl ?_
                  obtain ⟨x19, ex19⟩ : ∃ y : Int32, y = (x_6 + (1 : Int32)) := ⟨_, rfl⟩
                  replace h := h x19 ex19
                  refine zx_iinc (v := x19) (lv' := [(6, .int x19), (5, .int x_7), (4, .int x_4), (0, .ref (g 223)), (1, .int x_1), (2, .int x_2), (3, .int x_3), (7, .int x_7)]) C dX10_pullerAt_107 6 rfl (by rw [ex19]; rfl) (by decide) rfl ?_
                  obtain ⟨x20, ex20⟩ : ∃ y : Int32, y = (x_7 + (1 : Int32)) := ⟨_, rfl⟩
                  replace h := h x20 ex20
                  refine zx_iinc (v := x20) (lv' := [(7, .int x20), (6, .int x19), (5, .int x_7), (4, .int x_4), (0, .ref (g 223)), (1, .int x_1), (2, .int x_2), (3, .int x_3)]) C dX10_pullerAt_110 7 rfl (by rw [ex20]; rfl) (by decide) rfl ?_
                  refine zx_goto C 12 dX10_pullerAt_113 (by decide) ?_
                  refine zx_lv (lv' := [(0, .ref (g 223)), (1, .int x_1), (2, .int x_2), (3, .int x_3), (4, .int x_4), (5, .int x_7), (6, .int x19), (7, .int x20)]) [4, 5, 6, 7, 3, 2, 1, 0] rfl ?_
                  exact ih x_4 x_7 x19 x20 σ16 h
                · replace h := h.2 q
                  refine zx_aload_n C dX10_pullerAt_81 1 rfl ?_
                  refine zx_iload C dX10_pullerAt_82 7 rfl ?_
                  refine zx_iconst (v := (5 : Int32)) C dX10_pullerAt_84 (by decide) ?_
                  refine zx_cVi C [.int x_7, .int (5 : Int32)] lk_X10_266 (c_X10_riderOf l D cy g x_7 (5 : Int32)  σ16 h) zs_223 rfl ⟨by decide, by decide⟩ ⟨rfl, rfl⟩ ⟨Nat.zero_le _, Nat.zero_le _⟩ rfl rfl (Nat.le_of_ble_eq_true rfl) dX10_pullerAt_85 (fun r22 σ21 h => ?_)
                  refine zx_aload_n C dX10_pullerAt_88 1 rfl ?_
                  refine zx_iload C dX10_pullerAt_89 5 rfl ?_
                  refine zx_iconst (v := (5 : Int32)) C dX10_pullerAt_91 (by decide) ?_
                  refine zx_cVi C [.int x_5, .int (5 : Int32)] lk_X10_266 (c_X10_riderOf l D cy g x_5 (5 : Int32)  σ21 h) zs_223 rfl ⟨by decide, by decide⟩ ⟨rfl, rfl⟩ ⟨Nat.zero_le _, Nat.zero_le _⟩ rfl rfl (Nat.le_of_ble_eq_true rfl) dX10_pullerAt_92 (fun r24 σ23 h => ?_)
                  refine zx_icmp_le C 103 dX10_pullerAt_95 (by decide) (fun q => ?_) (fun q => ?_)
                  · replace h := h.1 q
                    refine zx_iload C dX10_pullerAt_103 5 rfl ?_
                    refine zx_istore (lv' := [(5, .int x_5), (4, .int x_4), (0, .ref (g 223)), (1, .int x_1), (2, .int x_2), (3, .int x_3), (6, .int x_6), (7, .int x_7)]) C dX10_pullerAt_105 (by decide) rfl ?_
                    obtain ⟨x25, ex25⟩ : ∃ y : Int32, y = (x_6 + (1 : Int32)) := ⟨_, rfl⟩
                    replace h := h x25 ex25
                    refine zx_iinc (v := x25) (lv' := [(6, .int x25), (5, .int x_5), (4, .int x_4), (0, .ref (g 223)), (1, .int x_1), (2, .int x_2), (3, .int x_3), (7, .int x_7)]) C dX10_pullerAt_107 6 rfl (by rw [ex25]; rfl) (by decide) rfl ?_
                    obtain ⟨x26, ex26⟩ : ∃ y : Int32, y = (x_7 + (1 : Int32)) := ⟨_, rfl⟩
                    replace h := h x26 ex26
                    refine zx_iinc (v := x26) (lv' := [(7, .int x26), (6, .int x25), (5, .int x_5), (4, .int x_4), (0, .ref (g 223)), (1, .int x_1), (2, .int x_2), (3, .int x_3)]) C dX10_pullerAt_110 7 rfl (by rw [ex26]; rfl) (by decide) rfl ?_
                    refine zx_goto C 12 dX10_pullerAt_113 (by decide) ?_
                    refine zx_lv (lv' := [(0, .ref (g 223)), (1, .int x_1), (2, .int x_2), (3, .int x_3), (4, .int x_4), (5, .int x_5), (6, .int x25), (7, .int x26)]) [4, 5, 6, 7, 3, 2, 1, 0] rfl ?_
                    exact ih x_4 x_5 x25 x26 σ23 h
                  · replace h := h.2 q
                    refine zx_iload C dX10_pullerAt_98 7 rfl ?_
                    refine zx_goto C 105 dX10_pullerAt_100 (by decide) ?_
                    refine zx_istore (lv' := [(5, .int x_7), (4, .int x_4), (0, .ref (g 223)), (1, .int x_1), (2, .int x_2), (3, .int x_3), (6, .int x_6), (7, .int x_7)]) C dX10_pullerAt_105 (by decide) rfl ?_
                    obtain ⟨x27, ex27⟩ : ∃ y : Int32, y = (x_6 + (1 : Int32)) := ⟨_, rfl⟩
                    replace h := h x27 ex27
                    refine zx_iinc (v := x27) (lv' := [(6, .int x27), (5, .int x_7), (4, .int x_4), (0, .ref (g 223)), (1, .int x_1), (2, .int x_2), (3, .int x_3), (7, .int x_7)]) C dX10_pullerAt_107 6 rfl (by rw [ex27]; rfl) (by decide) rfl ?_
                    obtain ⟨x28, ex28⟩ : ∃ y : Int32, y = (x_7 + (1 : Int32)) := ⟨_, rfl⟩
                    replace h := h x28 ex28
                    refine zx_iinc (v := x28) (lv' := [(7, .int x28), (6, .int x27), (5, .int x_7), (4, .int x_4), (0, .ref (g 223)), (1, .int x_1), (2, .int x_2), (3, .int x_3)]) C dX10_pullerAt_110 7 rfl (by rw [ex28]; rfl) (by decide) rfl ?_
                    refine zx_goto C 12 dX10_pullerAt_113 (by decide) ?_
                    refine zx_lv (lv' := [(0, .ref (g 223)), (1, .int x_1), (2, .int x_2), (3, .int x_3), (4, .int x_4), (5, .int x_7), (6, .int x27), (7, .int x28)]) [4, 5, 6, 7, 3, 2, 1, 0] rfl ?_
                    exact ih x_4 x_7 x27 x28 σ23 h
              · replace h := h.2 q
                refine zx_iload C dX10_pullerAt_66 7 rfl ?_
                refine zx_goto C 73 dX10_pullerAt_68 (by decide) ?_
                refine zx_istore (lv' := [(4, .int x_7), (0, .ref (g 223)), (1, .int x_1), (2, .int x_2), (3, .int x_3), (5, .int x_5), (6, .int x_6), (7, .int x_7)]) C dX10_pullerAt_73 (by decide) rfl ?_
                refine zx_iload C dX10_pullerAt_75 5 rfl ?_
                refine zx_iconst (v := (-1 : Int32)) C dX10_pullerAt_77 (by decide) ?_
                refine zx_icmp_eq C 98 dX10_pullerAt_78 (by decide) (fun q => ?_) (fun q => ?_)
                · replace h := h.1 q
                  refine zx_iload C dX10_pullerAt_98 7 rfl ?_
                  refine zx_goto C 105 dX10_pullerAt_100 (by decide) ?_
                  refine zx_istore (lv' := [(5, .int x_7), (4, .int x_7), (0, .ref (g 223)), (1, .int x_1), (2, .int x_2), (3, .int x_3), (6, .int x_6), (7, .int x_7)]) C dX10_pullerAt_105 (by decide) rfl ?_
                  obtain ⟨x29, ex29⟩ : ∃ y : Int32, y = (x_6 + (1 : Int32)) := ⟨_, rfl⟩
                  replace h := h x29 ex29
                  refine zx_iinc (v := x29) (lv' := [(6, .int x29), (5, .int x_7), (4, .int x_7), (0, .ref (g 223)), (1, .int x_1), (2, .int x_2), (3, .int x_3), (7, .int x_7)]) C dX10_pullerAt_107 6 rfl (by rw [ex29]; rfl) (by decide) rfl ?_
                  obtain ⟨x30, ex30⟩ : ∃ y : Int32, y = (x_7 + (1 : Int32)) := ⟨_, rfl⟩
                  replace h := h x30 ex30
                  refine zx_iinc (v := x30) (lv' := [(7, .int x30), (6, .int x29), (5, .int x_7), (4, .int x_7), (0, .ref (g 223)), (1, .int x_1), (2, .int x_2), (3, .int x_3)]) C dX10_pullerAt_110 7 rfl (by rw [ex30]; rfl) (by decide) rfl ?_
                  refine zx_goto C 12 dX10_pullerAt_113 (by decide) ?_
                  refine zx_lv (lv' := [(0, .ref (g 223)), (1, .int x_1), (2, .int x_2), (3, .int x_3), (4, .int x_7), (5, .int x_7), (6, .int x29), (7, .int x30)]) [4, 5, 6, 7, 3, 2, 1, 0] rfl ?_
                  exact ih x_7 x_7 x29 x30 σ16 h
                · replace h := h.2 q
                  refine zx_aload_n C dX10_pullerAt_81 1 rfl ?_
                  refine zx_iload C dX10_pullerAt_82 7 rfl ?_
                  refine zx_iconst (v := (5 : Int32)) C dX10_pullerAt_84 (by decide) ?_
                  refine zx_cVi C [.int x_7, .int (5 : Int32)] lk_X10_266 (c_X10_riderOf l D cy g x_7 (5 : Int32)  σ16 h) zs_223 rfl ⟨by decide, by decide⟩ ⟨rfl, rfl⟩ ⟨Nat.zero_le _, Nat.zero_le _⟩ rfl rfl (Nat.le_of_ble_eq_true rfl) dX10_pullerAt_85 (fun r32 σ31 h => ?_)
                  refine zx_aload_n C dX10_pullerAt_88 1 rfl ?_
                  refine zx_iload C dX10_pullerAt_89 5 rfl ?_
                  refine zx_iconst (v := (5 : Int32)) C dX10_pullerAt_91 (by decide) ?_
                  refine zx_cVi C [.int x_5, .int (5 : Int32)] lk_X10_266 (c_X10_riderOf l D cy g x_5 (5 : Int32)  σ31 h) zs_223 rfl ⟨by decide, by decide⟩ ⟨rfl, rfl⟩ ⟨Nat.zero_le _, Nat.zero_le _⟩ rfl rfl (Nat.le_of_ble_eq_true rfl) dX10_pullerAt_92 (fun r34 σ33 h => ?_)
                  refine zx_icmp_le C 103 dX10_pullerAt_95 (by decide) (fun q => ?_) (fun q => ?_)
                  · replace h := h.1 q
                    refine zx_iload C dX10_pullerAt_103 5 rfl ?_
                    refine zx_istore (lv' := [(5, .int x_5), (4, .int x_7), (0, .ref (g 223)), (1, .int x_1), (2, .int x_2), (3, .int x_3), (6, .int x_6), (7, .int x_7)]) C dX10_pullerAt_105 (by decide) rfl ?_
                    obtain ⟨x35, ex35⟩ : ∃ y : Int32, y = (x_6 + (1 : Int32)) := ⟨_, rfl⟩
                    replace h := h x35 ex35
                    refine zx_iinc (v := x35) (lv' := [(6, .int x35), (5, .int x_5), (4, .int x_7), (0, .ref (g 223)), (1, .int x_1), (2, .int x_2), (3, .int x_3), (7, .int x_7)]) C dX10_pullerAt_107 6 rfl (by rw [ex35]; rfl) (by decide) rfl ?_
                    obtain ⟨x36, ex36⟩ : ∃ y : Int32, y = (x_7 + (1 : Int32)) := ⟨_, rfl⟩
                    replace h := h x36 ex36
                    refine zx_iinc (v := x36) (lv' := [(7, .int x36), (6, .int x35), (5, .int x_5), (4, .int x_7), (0, .ref (g 223)), (1, .int x_1), (2, .int x_2), (3, .int x_3)]) C dX10_pullerAt_110 7 rfl (by rw [ex36]; rfl) (by decide) rfl ?_
                    refine zx_goto C 12 dX10_pullerAt_113 (by decide) ?_
                    refine zx_lv (lv' := [(0, .ref (g 223)), (1, .int x_1), (2, .int x_2), (3, .int x_3), (4, .int x_7), (5, .int x_5), (6, .int x35), (7, .int x36)]) [4, 5, 6, 7, 3, 2, 1, 0] rfl ?_
                    exact ih x_7 x_5 x35 x36 σ33 h
                  · replace h := h.2 q
                    refine zx_iload C dX10_pullerAt_98 7 rfl ?_
                    refine zx_goto C 105 dX10_pullerAt_100 (by decide) ?_
                    refine zx_istore (lv' := [(5, .int x_7), (4, .int x_7), (0, .ref (g 223)), (1, .int x_1), (2, .int x_2), (3, .int x_3), (6, .int x_6), (7, .int x_7)]) C dX10_pullerAt_105 (by decide) rfl ?_
                    obtain ⟨x37, ex37⟩ : ∃ y : Int32, y = (x_6 + (1 : Int32)) := ⟨_, rfl⟩
                    replace h := h x37 ex37
                    refine zx_iinc (v := x37) (lv' := [(6, .int x37), (5, .int x_7), (4, .int x_7), (0, .ref (g 223)), (1, .int x_1), (2, .int x_2), (3, .int x_3), (7, .int x_7)]) C dX10_pullerAt_107 6 rfl (by rw [ex37]; rfl) (by decide) rfl ?_
                    obtain ⟨x38, ex38⟩ : ∃ y : Int32, y = (x_7 + (1 : Int32)) := ⟨_, rfl⟩
                    replace h := h x38 ex38
                    refine zx_iinc (v := x38) (lv' := [(7, .int x38), (6, .int x37), (5, .int x_7), (4, .int x_7), (0, .ref (g 223)), (1, .int x_1), (2, .int x_2), (3, .int x_3)]) C dX10_pullerAt_110 7 rfl (by rw [ex38]; rfl) (by decide) rfl ?_
                    refine zx_goto C 12 dX10_pullerAt_113 (by decide) ?_
                    refine zx_lv (lv' := [(0, .ref (g 223)), (1, .int x_1), (2, .int x_2), (3, .int x_3), (4, .int x_7), (5, .int x_7), (6, .int x37), (7, .int x38)]) [4, 5, 6, 7, 3, 2, 1, 0] rfl ?_
                    exact ih x_7 x_7 x37 x38 σ33 h
            · replace h := h.2 q
              refine zx_aload_n C dX10_pullerAt_50 0 rfl ?_
              refine zx_getR C zs_223 fg_X10_71 rfl 244 rfl dX10_pullerAt_51 ?_
              refine zx_iload C dX10_pullerAt_54 7 rfl ?_
              obtain ⟨bd39, h⟩ := h
              refine zx_zald C (x_7).toNatClampNeg zs_244 bd39 rfl dX10_pullerAt_56 ?_
              refine zx_if_ne C 110 dX10_pullerAt_57 (by decide) (fun q => ?_) (fun q => ?_)
              · replace h := h.1 q
                obtain ⟨x40, ex40⟩ : ∃ y : Int32, y = (x_7 + (1 : Int32)) := ⟨_, rfl⟩
                replace h := h x40 ex40
                refine zx_iinc (v := x40) (lv' := [(7, .int x40), (0, .ref (g 223)), (1, .int x_1), (2, .int x_2), (3, .int x_3), (4, .int x_4), (5, .int x_5), (6, .int x_6)]) C dX10_pullerAt_110 7 rfl (by rw [ex40]; rfl) (by decide) rfl ?_
                refine zx_goto C 12 dX10_pullerAt_113 (by decide) ?_
                refine zx_lv (lv' := [(0, .ref (g 223)), (1, .int x_1), (2, .int x_2), (3, .int x_3), (4, .int x_4), (5, .int x_5), (6, .int x_6), (7, .int x40)]) [1, 2, 3, 4, 5, 6, 7, 0] rfl ?_
                exact ih x_4 x_5 x_6 x40 σ16 h
              · replace h := h.2 q
                refine zx_iload C dX10_pullerAt_60 4 rfl ?_
                refine zx_iconst (v := (-1 : Int32)) C dX10_pullerAt_62 (by decide) ?_
                refine zx_icmp_ne C 71 dX10_pullerAt_63 (by decide) (fun q => ?_) (fun q => ?_)
                · replace h := h.1 q
                  refine zx_iload C dX10_pullerAt_71 4 rfl ?_
                  refine zx_istore (lv' := [(4, .int x_4), (0, .ref (g 223)), (1, .int x_1), (2, .int x_2), (3, .int x_3), (5, .int x_5), (6, .int x_6), (7, .int x_7)]) C dX10_pullerAt_73 (by decide) rfl ?_
                  refine zx_iload C dX10_pullerAt_75 5 rfl ?_
                  refine zx_iconst (v := (-1 : Int32)) C dX10_pullerAt_77 (by decide) ?_
                  refine zx_icmp_eq C 98 dX10_pullerAt_78 (by decide) (fun q => ?_) (fun q => ?_)
                  · replace h := h.1 q
                    refine zx_iload C dX10_pullerAt_98 7 rfl ?_
                    refine zx_goto C 105 dX10_pullerAt_100 (by decide) ?_
                    refine zx_istore (lv' := [(5, .int x_7), (4, .int x_4), (0, .ref (g 223)), (1, .int x_1), (2, .int x_2), (3, .int x_3), (6, .int x_6), (7, .int x_7)]) C dX10_pullerAt_105 (by decide) rfl ?_
                    obtain ⟨x41, ex41⟩ : ∃ y : Int32, y = (x_6 + (1 : Int32)) := ⟨_, rfl⟩
                    replace h := h x41 ex41
                    refine zx_iinc (v := x41) (lv' := [(6, .int x41), (5, .int x_7), (4, .int x_4), (0, .ref (g 223)), (1, .int x_1), (2, .int x_2), (3, .int x_3), (7, .int x_7)]) C dX10_pullerAt_107 6 rfl (by rw [ex41]; rfl) (by decide) rfl ?_
                    obtain ⟨x42, ex42⟩ : ∃ y : Int32, y = (x_7 + (1 : Int32)) := ⟨_, rfl⟩
                    replace h := h x42 ex42
                    refine zx_iinc (v := x42) (lv' := [(7, .int x42), (6, .int x41), (5, .int x_7), (4, .int x_4), (0, .ref (g 223)), (1, .int x_1), (2, .int x_2), (3, .int x_3)]) C dX10_pullerAt_110 7 rfl (by rw [ex42]; rfl) (by decide) rfl ?_
                    refine zx_goto C 12 dX10_pullerAt_113 (by decide) ?_
                    refine zx_lv (lv' := [(0, .ref (g 223)), (1, .int x_1), (2, .int x_2), (3, .int x_3), (4, .int x_4), (5, .int x_7), (6, .int x41), (7, .int x42)]) [4, 5, 6, 7, 3, 2, 1, 0] rfl ?_
                    exact ih x_4 x_7 x41 x42 σ16 h
                  · replace h := h.2 q
                    refine zx_aload_n C dX10_pullerAt_81 1 rfl ?_
                    refine zx_iload C dX10_pullerAt_82 7 rfl ?_
                    refine zx_iconst (v := (5 : Int32)) C dX10_pullerAt_84 (by decide) ?_
                    refine zx_cVi C [.int x_7, .int (5 : Int32)] lk_X10_266 (c_X10_riderOf l D cy g x_7 (5 : Int32)  σ16 h) zs_223 rfl ⟨by decide, by decide⟩ ⟨rfl, rfl⟩ ⟨Nat.zero_le _, Nat.zero_le _⟩ rfl rfl (Nat.le_of_ble_eq_true rfl) dX10_pullerAt_85 (fun r44 σ43 h => ?_)
                    refine zx_aload_n C dX10_pullerAt_88 1 rfl ?_
                    refine zx_iload C dX10_pullerAt_89 5 rfl ?_
                    refine zx_iconst (v := (5 : Int32)) C dX10_pullerAt_91 (by decide) ?_
                    refine zx_cVi C [.int x_5, .int (5 : Int32)] lk_X10_266 (c_X10_riderOf l D cy g x_5 (5 : Int32)  σ43 h) zs_223 rfl ⟨by decide, by decide⟩ ⟨rfl, rfl⟩ ⟨Nat.zero_le _, Nat.zero_le _⟩ rfl rfl (Nat.le_of_ble_eq_true rfl) dX10_pullerAt_92 (fun r46 σ45 h => ?_)
                    refine zx_icmp_le C 103 dX10_pullerAt_95 (by decide) (fun q => ?_) (fun q => ?_)
                    · replace h := h.1 q
                      refine zx_iload C dX10_pullerAt_103 5 rfl ?_
                      refine zx_istore (lv' := [(5, .int x_5), (4, .int x_4), (0, .ref (g 223)), (1, .int x_1), (2, .int x_2), (3, .int x_3), (6, .int x_6), (7, .int x_7)]) C dX10_pullerAt_105 (by decide) rfl ?_
                      obtain ⟨x47, ex47⟩ : ∃ y : Int32, y = (x_6 + (1 : Int32)) := ⟨_, rfl⟩
                      replace h := h x47 ex47
                      refine zx_iinc (v := x47) (lv' := [(6, .int x47), (5, .int x_5), (4, .int x_4), (0, .ref (g 223)), (1, .int x_1), (2, .int x_2), (3, .int x_3), (7, .int x_7)]) C dX10_pullerAt_107 6 rfl (by rw [ex47]; rfl) (by decide) rfl ?_
                      obtain ⟨x48, ex48⟩ : ∃ y : Int32, y = (x_7 + (1 : Int32)) := ⟨_, rfl⟩
                      replace h := h x48 ex48
                      refine zx_iinc (v := x48) (lv' := [(7, .int x48), (6, .int x47), (5, .int x_5), (4, .int x_4), (0, .ref (g 223)), (1, .int x_1), (2, .int x_2), (3, .int x_3)]) C dX10_pullerAt_110 7 rfl (by rw [ex48]; rfl) (by decide) rfl ?_
                      refine zx_goto C 12 dX10_pullerAt_113 (by decide) ?_
                      refine zx_lv (lv' := [(0, .ref (g 223)), (1, .int x_1), (2, .int x_2), (3, .int x_3), (4, .int x_4), (5, .int x_5), (6, .int x47), (7, .int x48)]) [4, 5, 6, 7, 3, 2, 1, 0] rfl ?_
                      exact ih x_4 x_5 x47 x48 σ45 h
                    · replace h := h.2 q
                      refine zx_iload C dX10_pullerAt_98 7 rfl ?_
                      refine zx_goto C 105 dX10_pullerAt_100 (by decide) ?_
                      refine zx_istore (lv' := [(5, .int x_7), (4, .int x_4), (0, .ref (g 223)), (1, .int x_1), (2, .int x_2), (3, .int x_3), (6, .int x_6), (7, .int x_7)]) C dX10_pullerAt_105 (by decide) rfl ?_
                      obtain ⟨x49, ex49⟩ : ∃ y : Int32, y = (x_6 + (1 : Int32)) := ⟨_, rfl⟩
                      replace h := h x49 ex49
                      refine zx_iinc (v := x49) (lv' := [(6, .int x49), (5, .int x_7), (4, .int x_4), (0, .ref (g 223)), (1, .int x_1), (2, .int x_2), (3, .int x_3), (7, .int x_7)]) C dX10_pullerAt_107 6 rfl (by rw [ex49]; rfl) (by decide) rfl ?_
                      obtain ⟨x50, ex50⟩ : ∃ y : Int32, y = (x_7 + (1 : Int32)) := ⟨_, rfl⟩
                      replace h := h x50 ex50
                      refine zx_iinc (v := x50) (lv' := [(7, .int x50), (6, .int x49), (5, .int x_7), (4, .int x_4), (0, .ref (g 223)), (1, .int x_1), (2, .int x_2), (3, .int x_3)]) C dX10_pullerAt_110 7 rfl (by rw [ex50]; rfl) (by decide) rfl ?_
                      refine zx_goto C 12 dX10_pullerAt_113 (by decide) ?_
                      refine zx_lv (lv' := [(0, .ref (g 223)), (1, .int x_1), (2, .int x_2), (3, .int x_3), (4, .int x_4), (5, .int x_7), (6, .int x49), (7, .int x50)]) [4, 5, 6, 7, 3, 2, 1, 0] rfl ?_
                      exact ih x_4 x_7 x49 x50 σ45 h
                · replace h := h.2 q
                  refine zx_iload C dX10_pullerAt_66 7 rfl ?_
                  refine zx_goto C 73 dX10_pullerAt_68 (by decide) ?_
                  refine zx_istore (lv' := [(4, .int x_7), (0, .ref (g 223)), (1, .int x_1), (2, .int x_2), (3, .int x_3), (5, .int x_5), (6, .int x_6), (7, .int x_7)]) C dX10_pullerAt_73 (by decide) rfl ?_
                  refine zx_iload C dX10_pullerAt_75 5 rfl ?_
                  refine zx_iconst (v := (-1 : Int32)) C dX10_pullerAt_77 (by decide) ?_
                  refine zx_icmp_eq C 98 dX10_pullerAt_78 (by decide) (fun q => ?_) (fun q => ?_)
                  · replace h := h.1 q
                    refine zx_iload C dX10_pullerAt_98 7 rfl ?_
                    refine zx_goto C 105 dX10_pullerAt_100 (by decide) ?_
                    refine zx_istore (lv' := [(5, .int x_7), (4, .int x_7), (0, .ref (g 223)), (1, .int x_1), (2, .int x_2), (3, .int x_3), (6, .int x_6), (7, .int x_7)]) C dX10_pullerAt_105 (by decide) rfl ?_
                    obtain ⟨x51, ex51⟩ : ∃ y : Int32, y = (x_6 + (1 : Int32)) := ⟨_, rfl⟩
                    replace h := h x51 ex51
                    refine zx_iinc (v := x51) (lv' := [(6, .int x51), (5, .int x_7), (4, .int x_7), (0, .ref (g 223)), (1, .int x_1), (2, .int x_2), (3, .int x_3), (7, .int x_7)]) C dX10_pullerAt_107 6 rfl (by rw [ex51]; rfl) (by decide) rfl ?_
                    obtain ⟨x52, ex52⟩ : ∃ y : Int32, y = (x_7 + (1 : Int32)) := ⟨_, rfl⟩
                    replace h := h x52 ex52
                    refine zx_iinc (v := x52) (lv' := [(7, .int x52), (6, .int x51), (5, .int x_7), (4, .int x_7), (0, .ref (g 223)), (1, .int x_1), (2, .int x_2), (3, .int x_3)]) C dX10_pullerAt_110 7 rfl (by rw [ex52]; rfl) (by decide) rfl ?_
                    refine zx_goto C 12 dX10_pullerAt_113 (by decide) ?_
                    refine zx_lv (lv' := [(0, .ref (g 223)), (1, .int x_1), (2, .int x_2), (3, .int x_3), (4, .int x_7), (5, .int x_7), (6, .int x51), (7, .int x52)]) [4, 5, 6, 7, 3, 2, 1, 0] rfl ?_
                    exact ih x_7 x_7 x51 x52 σ16 h
                  · replace h := h.2 q
                    refine zx_aload_n C dX10_pullerAt_81 1 rfl ?_
                    refine zx_iload C dX10_pullerAt_82 7 rfl ?_
                    refine zx_iconst (v := (5 : Int32)) C dX10_pullerAt_84 (by decide) ?_
                    refine zx_cVi C [.int x_7, .int (5 : Int32)] lk_X10_266 (c_X10_riderOf l D cy g x_7 (5 : Int32)  σ16 h) zs_223 rfl ⟨by decide, by decide⟩ ⟨rfl, rfl⟩ ⟨Nat.zero_le _, Nat.zero_le _⟩ rfl rfl (Nat.le_of_ble_eq_true rfl) dX10_pullerAt_85 (fun r54 σ53 h => ?_)
                    refine zx_aload_n C dX10_pullerAt_88 1 rfl ?_
                    refine zx_iload C dX10_pullerAt_89 5 rfl ?_
                    refine zx_iconst (v := (5 : Int32)) C dX10_pullerAt_91 (by decide) ?_
                    refine zx_cVi C [.int x_5, .int (5 : Int32)] lk_X10_266 (c_X10_riderOf l D cy g x_5 (5 : Int32)  σ53 h) zs_223 rfl ⟨by decide, by decide⟩ ⟨rfl, rfl⟩ ⟨Nat.zero_le _, Nat.zero_le _⟩ rfl rfl (Nat.le_of_ble_eq_true rfl) dX10_pullerAt_92 (fun r56 σ55 h => ?_)
                    refine zx_icmp_le C 103 dX10_pullerAt_95 (by decide) (fun q => ?_) (fun q => ?_)
                    · replace h := h.1 q
                      refine zx_iload C dX10_pullerAt_103 5 rfl ?_
                      refine zx_istore (lv' := [(5, .int x_5), (4, .int x_7), (0, .ref (g 223)), (1, .int x_1), (2, .int x_2), (3, .int x_3), (6, .int x_6), (7, .int x_7)]) C dX10_pullerAt_105 (by decide) rfl ?_
                      obtain ⟨x57, ex57⟩ : ∃ y : Int32, y = (x_6 + (1 : Int32)) := ⟨_, rfl⟩
                      replace h := h x57 ex57
                      refine zx_iinc (v := x57) (lv' := [(6, .int x57), (5, .int x_5), (4, .int x_7), (0, .ref (g 223)), (1, .int x_1), (2, .int x_2), (3, .int x_3), (7, .int x_7)]) C dX10_pullerAt_107 6 rfl (by rw [ex57]; rfl) (by decide) rfl ?_
                      obtain ⟨x58, ex58⟩ : ∃ y : Int32, y = (x_7 + (1 : Int32)) := ⟨_, rfl⟩
                      replace h := h x58 ex58
                      refine zx_iinc (v := x58) (lv' := [(7, .int x58), (6, .int x57), (5, .int x_5), (4, .int x_7), (0, .ref (g 223)), (1, .int x_1), (2, .int x_2), (3, .int x_3)]) C dX10_pullerAt_110 7 rfl (by rw [ex58]; rfl) (by decide) rfl ?_
                      refine zx_goto C 12 dX10_pullerAt_113 (by decide) ?_
                      refine zx_lv (lv' := [(0, .ref (g 223)), (1, .int x_1), (2, .int x_2), (3, .int x_3), (4, .int x_7), (5, .int x_5), (6, .int x57), (7, .int x58)]) [4, 5, 6, 7, 3, 2, 1, 0] rfl ?_
                      exact ih x_7 x_5 x57 x58 σ55 h
                    · replace h := h.2 q
                      refine zx_iload C dX10_pullerAt_98 7 rfl ?_
                      refine zx_goto C 105 dX10_pullerAt_100 (by decide) ?_
                      refine zx_istore (lv' := [(5, .int x_7), (4, .int x_7), (0, .ref (g 223)), (1, .int x_1), (2, .int x_2), (3, .int x_3), (6, .int x_6), (7, .int x_7)]) C dX10_pullerAt_105 (by decide) rfl ?_
                      obtain ⟨x59, ex59⟩ : ∃ y : Int32, y = (x_6 + (1 : Int32)) := ⟨_, rfl⟩
                      replace h := h x59 ex59
                      refine zx_iinc (v := x59) (lv' := [(6, .int x59), (5, .int x_7), (4, .int x_7), (0, .ref (g 223)), (1, .int x_1), (2, .int x_2), (3, .int x_3), (7, .int x_7)]) C dX10_pullerAt_107 6 rfl (by rw [ex59]; rfl) (by decide) rfl ?_
                      obtain ⟨x60, ex60⟩ : ∃ y : Int32, y = (x_7 + (1 : Int32)) := ⟨_, rfl⟩
                      replace h := h x60 ex60
                      refine zx_iinc (v := x60) (lv' := [(7, .int x60), (6, .int x59), (5, .int x_7), (4, .int x_7), (0, .ref (g 223)), (1, .int x_1), (2, .int x_2), (3, .int x_3)]) C dX10_pullerAt_110 7 rfl (by rw [ex60]; rfl) (by decide) rfl ?_
                      refine zx_goto C 12 dX10_pullerAt_113 (by decide) ?_
                      refine zx_lv (lv' := [(0, .ref (g 223)), (1, .int x_1), (2, .int x_2), (3, .int x_3), (4, .int x_7), (5, .int x_7), (6, .int x59), (7, .int x60)]) [4, 5, 6, 7, 3, 2, 1, 0] rfl ?_
                      exact ih x_7 x_7 x59 x60 σ55 h
set_option maxRecDepth 100000 in
set_option maxHeartbeats 4000000 in
theorem c_X10_pullerAt (l : Launch) (D : va_G) (cy : Nat → ClassId) (g : Nat → Nat) (a1 : Int32) (a2 : Int32) (a3 : Int32)  (σ : zSto) {P : Int32 → zSto → Prop} (h : w_X10_pullerAt a1 a2 a3 σ P) : zMi l yX10_pullerAt cX10_pullerAt 9 (some .int) (zrm 4 87) D cy g [.ref (g 223), .int a1, .int a2, .int a3] σ P := by
  unfold w_X10_pullerAt at h
  refine zm_i RX10 rfl (by decide +kernel) (Nat.le_of_ble_eq_true rfl) ?_
  intro p e s m below meth c C hr
  refine zx_lv (lv' := [(0, .ref (g 223)), (1, .int a1), (2, .int a2), (3, .int a3)]) [0, 1, 2, 3] rfl ?_
  refine zx_iconst (v := (-1 : Int32)) C dX10_pullerAt_0 (by decide) ?_
  refine zx_istore (lv' := [(4, .int (-1 : Int32)), (0, .ref (g 223)), (1, .int a1), (2, .int a2), (3, .int a3)]) C dX10_pullerAt_1 (by decide) rfl ?_
  refine zx_iconst (v := (-1 : Int32)) C dX10_pullerAt_3 (by decide) ?_
  refine zx_istore (lv' := [(5, .int (-1 : Int32)), (4, .int (-1 : Int32)), (0, .ref (g 223)), (1, .int a1), (2, .int a2), (3, .int a3)]) C dX10_pullerAt_4 (by decide) rfl ?_
  refine zx_iconst (v := (0 : Int32)) C dX10_pullerAt_6 (by decide) ?_
  refine zx_istore (lv' := [(6, .int (0 : Int32)), (5, .int (-1 : Int32)), (4, .int (-1 : Int32)), (0, .ref (g 223)), (1, .int a1), (2, .int a2), (3, .int a3)]) C dX10_pullerAt_7 (by decide) rfl ?_
  refine zx_iconst (v := (0 : Int32)) C dX10_pullerAt_9 (by decide) ?_
  refine zx_istore (lv' := [(7, .int (0 : Int32)), (6, .int (0 : Int32)), (5, .int (-1 : Int32)), (4, .int (-1 : Int32)), (0, .ref (g 223)), (1, .int a1), (2, .int a2), (3, .int a3)]) C dX10_pullerAt_10 (by decide) rfl ?_
  obtain ⟨n, h⟩ := h
  refine zx_lv (lv' := [(0, .ref (g 223)), (1, .int a1), (2, .int a2), (3, .int a3), (4, .int (-1 : Int32)), (5, .int (-1 : Int32)), (6, .int (0 : Int32)), (7, .int (0 : Int32))]) [4, 5, 6, 7, 3, 2, 1, 0] rfl ?_
  exact k_X10_pullerAt_12 C hr (a1) (a2) (a3)   n (-1 : Int32) (-1 : Int32) (0 : Int32) (0 : Int32) σ h
theorem fp_X10_276 : zFP RX10 276 10 31 .int := ⟨RX10, TX10, 50, tyX10, rfl, lay_X10, by decide, fl_X10_276, tyX10_ok, nmX10, rfl, by decide +kernel⟩
theorem fp_X10_285 : zFP RX10 285 10 32 .int := ⟨RX10, TX10, 50, tyX10, rfl, lay_X10, by decide, fl_X10_285, tyX10_ok, nmX10, rfl, by decide +kernel⟩
theorem fg_X10_68 : zFG RX10 68 10 39 := ⟨RX10, TX10, 50, rfl, lay_X10, by decide, fl_X10_68⟩
def w_X10_begin_12  (P : zSto → Prop)  : Nat → Int32 → zSto → Prop
  | 0, _, _ => False
  | n + 1, x_1, σ => (((6 : Int32) ≤ x_1 → P σ) ∧ (¬ (6 : Int32) ≤ x_1 → (vp_in x_1 6 ∧ (∀ σ4 : zSto, σ4 = zI σ 241 (x_1).toNatClampNeg (0 : Int32) → (vp_in x_1 6 ∧ (∀ σ6 : zSto, σ6 = zI σ4 243 (x_1).toNatClampNeg (0 : Int32) → (vp_in x_1 6 ∧ (∀ σ8 : zSto, σ8 = zI σ6 244 (x_1).toNatClampNeg (vp_nar .boolean (0 : Int32)) → (∀ x9 : Int32, x9 = (x_1 + (1 : Int32)) → w_X10_begin_12 P n x9 σ8)))))))))
def w_X10_begin  (σ : zSto) (P : zSto → Prop) : Prop := (∀ σ1 : zSto, σ1 = zI σ 223 31 (0 : Int32) → (∀ σ2 : zSto, σ2 = zI σ1 223 32 (0 : Int32) → (∃ n : Nat, w_X10_begin_12  P  n (0 : Int32) σ2)))
set_option maxRecDepth 100000 in
set_option maxHeartbeats 4000000 in
theorem k_X10_begin_12 {p : Program} {l : Launch} {e : Env} {s : State} {m : MethodId} {args : Array Value} {below : List Frame} {meth : Method} {c : Code} {D : va_G} {cy : Nat → ClassId} {g : Nat → Nat} (C : zC p s m args meth c cX10_begin RX10 2 D cy g) (hr : meth.sig.returnType = none) {P : zSto → Prop}     : ∀ (n : Nat) (x_1 : Int32) (σ : zSto), w_X10_begin_12 P n x_1 σ → zX p l e (zrm 0 0) s m args below meth c 0 0 (zQv P below args s D cy g) 2 D cy g 12 [(0, .ref (g 223)), (1, .int x_1)] [] σ := by
  intro n
  induction n with
  | zero => intro x_1 σ h; exact h.elim
  | succ n ih =>
    intro x_1 σ h
    unfold w_X10_begin_12 at h
    refine zx_iload_n C dX10_begin_12 1 rfl ?_
    refine zx_bipush (v := (6 : Int32)) C dX10_begin_13 (by decide) ?_
    refine zx_icmp_ge C 45 dX10_begin_15 (by decide) (fun q => ?_) (fun q => ?_)
    · replace h := h.1 q
      exact zx_vret C hr dX10_begin_45 h
    · replace h := h.2 q
      refine zx_aload_n C dX10_begin_18 0 rfl ?_
      refine zx_getR C zs_223 fg_X10_62 rfl 241 rfl dX10_begin_19 ?_
      refine zx_iload_n C dX10_begin_22 1 rfl ?_
      refine zx_iconst (v := (0 : Int32)) C dX10_begin_23 (by decide) ?_
      obtain ⟨bd3, h⟩ := h
      refine zx_iast C (x_1).toNatClampNeg zs_241 bd3 rfl dX10_begin_24 ?_
      refine zx_sig (fun σ4 eσ4 => ?_)
      replace h := h σ4 eσ4
      refine zx_aload_n C dX10_begin_25 0 rfl ?_
      refine zx_getR C zs_223 fg_X10_68 rfl 243 rfl dX10_begin_26 ?_
      refine zx_iload_n C dX10_begin_29 1 rfl ?_
      refine zx_iconst (v := (0 : Int32)) C dX10_begin_30 (by decide) ?_
      obtain ⟨bd5, h⟩ := h
      refine zx_iast C (x_1).toNatClampNeg zs_243 bd5 rfl dX10_begin_31 ?_
      refine zx_sig (fun σ6 eσ6 => ?_)
      replace h := h σ6 eσ6
      refine zx_aload_n C dX10_begin_32 0 rfl ?_
      refine zx_getR C zs_223 fg_X10_71 rfl 244 rfl dX10_begin_33 ?_
      refine zx_iload_n C dX10_begin_36 1 rfl ?_
      refine zx_iconst (v := (0 : Int32)) C dX10_begin_37 (by decide) ?_
      obtain ⟨bd7, h⟩ := h
      refine zx_zast C (x_1).toNatClampNeg zs_244 bd7 rfl dX10_begin_38 ?_
      refine zx_sig (fun σ8 eσ8 => ?_)
      replace h := h σ8 eσ8
      obtain ⟨x9, ex9⟩ : ∃ y : Int32, y = (x_1 + (1 : Int32)) := ⟨_, rfl⟩
      replace h := h x9 ex9
      refine zx_iinc (v := x9) (lv' := [(1, .int x9), (0, .ref (g 223))]) C dX10_begin_39 1 rfl (by rw [ex9]; rfl) (by decide) rfl ?_
      refine zx_goto C 12 dX10_begin_42 (by decide) ?_
      refine zx_lv (lv' := [(0, .ref (g 223)), (1, .int x9)]) [1, 0] rfl ?_
      exact ih x9 σ8 h
set_option maxRecDepth 100000 in
set_option maxHeartbeats 4000000 in
theorem c_X10_begin (l : Launch) (D : va_G) (cy : Nat → ClassId) (g : Nat → Nat)   (σ : zSto) {P : zSto → Prop} (h : w_X10_begin  σ P) : zMv l yX10_begin cX10_begin 2 none (zrm 0 0) D cy g [.ref (g 223)] σ P := by
  unfold w_X10_begin at h
  refine zm_v RX10 rfl (by decide +kernel) (Nat.le_of_ble_eq_true rfl) ?_
  intro p e s m below meth c C hr
  refine zx_lv (lv' := [(0, .ref (g 223))]) [0] rfl ?_
  refine zx_aload_n C dX10_begin_0 0 rfl ?_
  refine zx_iconst (v := (0 : Int32)) C dX10_begin_1 (by decide) ?_
  refine zx_putI C zs_223 fp_X10_276 rfl dX10_begin_2 ?_
  refine zx_sig (fun σ1 eσ1 => ?_)
  replace h := h σ1 eσ1
  refine zx_aload_n C dX10_begin_5 0 rfl ?_
  refine zx_iconst (v := (0 : Int32)) C dX10_begin_6 (by decide) ?_
  refine zx_putI C zs_223 fp_X10_285 rfl dX10_begin_7 ?_
  refine zx_sig (fun σ2 eσ2 => ?_)
  replace h := h σ2 eσ2
  refine zx_iconst (v := (0 : Int32)) C dX10_begin_10 (by decide) ?_
  refine zx_istore_n (lv' := [(1, .int (0 : Int32)), (0, .ref (g 223))]) C dX10_begin_11 (by decide) rfl ?_
  obtain ⟨n, h⟩ := h
  refine zx_lv (lv' := [(0, .ref (g 223)), (1, .int (0 : Int32))]) [1, 0] rfl ?_
  exact k_X10_begin_12 C hr    n (0 : Int32) σ2 h
theorem fg_X10_59 : zFG RX10 59 10 36 := ⟨RX10, TX10, 50, rfl, lay_X10, by decide, fl_X10_59⟩
theorem fg_X10_65 : zFG RX10 65 10 38 := ⟨RX10, TX10, 50, rfl, lay_X10, by decide, fl_X10_65⟩
theorem fg_X10_285 : zFG RX10 285 10 32 := ⟨RX10, TX10, 50, rfl, lay_X10, by decide, fl_X10_285⟩
def w_X10_pullsAt (a1 : Int32) (a2 : Int32) (σ : zSto) (P : zSto → Prop) : Prop := (vp_in a1 16 ∧ (∀ σ2 : zSto, σ2 = zI σ 240 (a1).toNatClampNeg a2 → (vp_in a1 16 ∧ (∀ σ4 : zSto, σ4 = zI σ2 242 (a1).toNatClampNeg (0 : Int32) → ((¬ a2 = (-1 : Int32) → (w_X10_riderOf a2 (2 : Int32) σ4 (fun (r6 : Int32) (σ5 : zSto) => (vp_in a2 6 ∧ (∀ x8 : Int32, x8 = (r6 - (σ5.1 241 (a2).toNatClampNeg)) → (vp_in a1 16 ∧ ((x8 ≤ (σ5.1 238 (a1).toNatClampNeg) → (vp_in a2 6 ∧ (vp_in a2 6 ∧ (∀ σ12 : zSto, σ12 = zI σ5 241 (a2).toNatClampNeg ((σ5.1 241 (a2).toNatClampNeg) + x8) → (vp_in a1 16 ∧ (∀ σ14 : zSto, σ14 = zI σ12 242 (a1).toNatClampNeg x8 → (vp_in a2 6 ∧ (vp_in a2 6 ∧ (∀ σ17 : zSto, σ17 = zI σ14 243 (a2).toNatClampNeg ((σ14.1 243 (a2).toNatClampNeg) + (x8 - (x8 / (3 : Int32)))) → (∀ σ18 : zSto, σ18 = zI σ17 223 32 ((σ17.1 223 32) + (x8 / (3 : Int32))) → (vp_in a2 6 ∧ (∀ σ20 : zSto, σ20 = zI σ18 244 (a2).toNatClampNeg (vp_nar .boolean (1 : Int32)) → (vp_in a1 16 ∧ (∀ σ22 : zSto, σ22 = zI σ20 223 31 ((σ20.1 223 31) + (σ20.1 237 (a1).toNatClampNeg)) → P σ22)))))))))))))) ∧ (¬ x8 ≤ (σ5.1 238 (a1).toNatClampNeg) → (vp_in a1 16 ∧ (∀ x24 : Int32, x24 = (σ5.1 238 (a1).toNatClampNeg) → (vp_in a2 6 ∧ (vp_in a2 6 ∧ (∀ σ27 : zSto, σ27 = zI σ5 241 (a2).toNatClampNeg ((σ5.1 241 (a2).toNatClampNeg) + x24) → (vp_in a1 16 ∧ (∀ σ29 : zSto, σ29 = zI σ27 242 (a1).toNatClampNeg x24 → (vp_in a2 6 ∧ (vp_in a2 6 ∧ (∀ σ32 : zSto, σ32 = zI σ29 243 (a2).toNatClampNeg ((σ29.1 243 (a2).toNatClampNeg) + (x24 - (x24 / (3 : Int32)))) → (∀ σ33 : zSto, σ33 = zI σ32 223 32 ((σ32.1 223 32) + (x24 / (3 : Int32))) → (vp_in a2 6 ∧ (∀ σ35 : zSto, σ35 = zI σ33 244 (a2).toNatClampNeg (vp_nar .boolean (1 : Int32)) → (vp_in a1 16 ∧ (∀ σ37 : zSto, σ37 = zI σ35 223 31 ((σ35.1 223 31) + (σ35.1 237 (a1).toNatClampNeg)) → P σ37))))))))))))))))))))))) ∧ (a2 = (-1 : Int32) → P σ4))))))
set_option maxRecDepth 100000 in
set_option maxHeartbeats 4000000 in
theorem c_X10_pullsAt (l : Launch) (D : va_G) (cy : Nat → ClassId) (g : Nat → Nat) (a1 : Int32) (a2 : Int32)  (σ : zSto) {P : zSto → Prop} (h : w_X10_pullsAt a1 a2 σ P) : zMv l yX10_pullsAt cX10_pullsAt 5 none (zrm 2 43) D cy g [.ref (g 223), .int a1, .int a2] σ P := by
  unfold w_X10_pullsAt at h
  refine zm_v RX10 rfl (by decide +kernel) (Nat.le_of_ble_eq_true rfl) ?_
  intro p e s m below meth c C hr
  refine zx_lv (lv' := [(0, .ref (g 223)), (1, .int a1), (2, .int a2)]) [0, 1, 2] rfl ?_
  refine zx_aload_n C dX10_pullsAt_0 0 rfl ?_
  refine zx_getR C zs_223 fg_X10_59 rfl 240 rfl dX10_pullsAt_1 ?_
  refine zx_iload_n C dX10_pullsAt_4 1 rfl ?_
  refine zx_iload_n C dX10_pullsAt_5 2 rfl ?_
  obtain ⟨bd1, h⟩ := h
  refine zx_iast C (a1).toNatClampNeg zs_240 bd1 rfl dX10_pullsAt_6 ?_
  refine zx_sig (fun σ2 eσ2 => ?_)
  replace h := h σ2 eσ2
  refine zx_aload_n C dX10_pullsAt_7 0 rfl ?_
  refine zx_getR C zs_223 fg_X10_65 rfl 242 rfl dX10_pullsAt_8 ?_
  refine zx_iload_n C dX10_pullsAt_11 1 rfl ?_
  refine zx_iconst (v := (0 : Int32)) C dX10_pullsAt_12 (by decide) ?_
  obtain ⟨bd3, h⟩ := h
  refine zx_iast C (a1).toNatClampNeg zs_242 bd3 rfl dX10_pullsAt_13 ?_
  refine zx_sig (fun σ4 eσ4 => ?_)
  replace h := h σ4 eσ4
  refine zx_iload_n C dX10_pullsAt_14 2 rfl ?_
  refine zx_iconst (v := (-1 : Int32)) C dX10_pullsAt_15 (by decide) ?_
  refine zx_icmp_ne C 20 dX10_pullsAt_16 (by decide) (fun q => ?_) (fun q => ?_)
  · replace h := h.1 q
    refine zx_aload_n C dX10_pullsAt_20 0 rfl ?_
    refine zx_iload_n C dX10_pullsAt_21 2 rfl ?_
    refine zx_iconst (v := (2 : Int32)) C dX10_pullsAt_22 (by decide) ?_
    refine zx_cVi C [.int a2, .int (2 : Int32)] lk_X10_266 (c_X10_riderOf l D cy g a2 (2 : Int32)  σ4 h) zs_223 rfl ⟨by decide, by decide⟩ ⟨rfl, rfl⟩ ⟨Nat.zero_le _, Nat.zero_le _⟩ rfl rfl (Nat.le_of_ble_eq_true rfl) dX10_pullsAt_23 (fun r6 σ5 h => ?_)
    refine zx_aload_n C dX10_pullsAt_26 0 rfl ?_
    refine zx_getR C zs_223 fg_X10_62 rfl 241 rfl dX10_pullsAt_27 ?_
    refine zx_iload_n C dX10_pullsAt_30 2 rfl ?_
    obtain ⟨bd7, h⟩ := h
    refine zx_iald C (a2).toNatClampNeg zs_241 bd7 rfl dX10_pullsAt_31 ?_
    refine zx_isub C dX10_pullsAt_32 ?_
    refine zx_topi (fun x8 ex8 => ?_)
    replace h := h x8 ex8
    refine zx_istore_n (lv' := [(3, .int x8), (0, .ref (g 223)), (1, .int a1), (2, .int a2)]) C dX10_pullsAt_33 (by decide) rfl ?_
    refine zx_aload_n C dX10_pullsAt_34 1 rfl ?_
    refine zx_getR C zs_223 fg_X10_53 rfl 238 rfl dX10_pullsAt_35 ?_
    refine zx_iload_n C dX10_pullsAt_38 2 rfl ?_
    obtain ⟨bd9, h⟩ := h
    refine zx_iald C (a1).toNatClampNeg zs_238 bd9 rfl dX10_pullsAt_39 ?_
    refine zx_iload_n C dX10_pullsAt_40 0 rfl ?_
    refine zx_icmp_ge C 53 dX10_pullsAt_41 (by decide) (fun q => ?_) (fun q => ?_)
    · replace h := h.1 q
      refine zx_iload_n C dX10_pullsAt_53 0 rfl ?_
      refine zx_istore (lv' := [(4, .int x8), (3, .int x8), (0, .ref (g 223)), (1, .int a1), (2, .int a2)]) C dX10_pullsAt_54 (by decide) rfl ?_
      refine zx_aload_n C dX10_pullsAt_56 2 rfl ?_
      refine zx_getR C zs_223 fg_X10_62 rfl 241 rfl dX10_pullsAt_57 ?_
      refine zx_iload_n C dX10_pullsAt_60 4 rfl ?_
      refine zx_dup2 C dX10_pullsAt_61 rfl rfl ?_
      obtain ⟨bd10, h⟩ := h
      refine zx_iald C (a2).toNatClampNeg zs_241 bd10 rfl dX10_pullsAt_62 ?_
      refine zx_iload C dX10_pullsAt_63 0 rfl ?_
      refine zx_iadd C dX10_pullsAt_65 ?_
      obtain ⟨bd11, h⟩ := h
      refine zx_iast C (a2).toNatClampNeg zs_241 bd11 rfl dX10_pullsAt_66 ?_
      refine zx_sig (fun σ12 eσ12 => ?_)
      replace h := h σ12 eσ12
      refine zx_aload_n C dX10_pullsAt_67 2 rfl ?_
      refine zx_getR C zs_223 fg_X10_65 rfl 242 rfl dX10_pullsAt_68 ?_
      refine zx_iload_n C dX10_pullsAt_71 3 rfl ?_
      refine zx_iload C dX10_pullsAt_72 0 rfl ?_
      obtain ⟨bd13, h⟩ := h
      refine zx_iast C (a1).toNatClampNeg zs_242 bd13 rfl dX10_pullsAt_74 ?_
      refine zx_sig (fun σ14 eσ14 => ?_)
      replace h := h σ14 eσ14
      refine zx_aload_n C dX10_pullsAt_75 2 rfl ?_
      refine zx_getR C zs_223 fg_X10_68 rfl 243 rfl dX10_pullsAt_76 ?_
      refine zx_iload_n C dX10_pullsAt_79 4 rfl ?_
      refine zx_dup2 C dX10_pullsAt_80 rfl rfl ?_
      obtain ⟨bd15, h⟩ := h
      refine zx_iald C (a2).toNatClampNeg zs_243 bd15 rfl dX10_pullsAt_81 ?_
      refine zx_iload C dX10_pullsAt_82 0 rfl ?_
      refine zx_iload C dX10_pullsAt_84 0 rfl ?_
      refine zx_iconst (v := (3 : Int32)) C dX10_pullsAt_86 (by decide) ?_
      refine zx_idiv C dX10_pullsAt_87 (by decide) ?_
      refine zx_isub C dX10_pullsAt_88 ?_
      refine zx_iadd C dX10_pullsAt_89 ?_
      obtain ⟨bd16, h⟩ := h
      refine zx_iast C (a2).toNatClampNeg zs_243 bd16 rfl dX10_pullsAt_90 ?_
      refine zx_sig (fun σ17 eσ17 => ?_)
      replace h := h σ17 eσ17
      refine zx_aload_n C dX10_pullsAt_91 2 rfl ?_
      refine zx_dup C dX10_pullsAt_92 rfl ?_
      refine zx_getI C zs_223 fg_X10_285 rfl dX10_pullsAt_93 ?_
      refine zx_iload C dX10_pullsAt_96 0 rfl ?_
      refine zx_iconst (v := (3 : Int32)) C dX10_pullsAt_98 (by decide) ?_
      refine zx_idiv C dX10_pullsAt_99 (by decide) ?_
      refine zx_iadd C dX10_pullsAt_100 ?_
      refine zx_putI C zs_223 fp_X10_285 rfl dX10_pullsAt_101 ?_
      refine zx_sig (fun σ18 eσ18 => ?_)
      replace h := h σ18 eσ18
      refine zx_aload_n C dX10_pullsAt_104 2 rfl ?_
      refine zx_getR C zs_223 fg_X10_71 rfl 244 rfl dX10_pullsAt_105 ?_
      refine zx_iload_n C dX10_pullsAt_108 4 rfl ?_
      refine zx_iconst (v := (1 : Int32)) C dX10_pullsAt_109 (by decide) ?_
      obtain ⟨bd19, h⟩ := h
      refine zx_zast C (a2).toNatClampNeg zs_244 bd19 rfl dX10_pullsAt_110 ?_
      refine zx_sig (fun σ20 eσ20 => ?_)
      replace h := h σ20 eσ20
      refine zx_aload_n C dX10_pullsAt_111 2 rfl ?_
      refine zx_dup C dX10_pullsAt_112 rfl ?_
      refine zx_getI C zs_223 fg_X10_276 rfl dX10_pullsAt_113 ?_
      refine zx_aload_n C dX10_pullsAt_116 2 rfl ?_
      refine zx_getR C zs_223 fg_X10_50 rfl 237 rfl dX10_pullsAt_117 ?_
      refine zx_iload_n C dX10_pullsAt_120 3 rfl ?_
      obtain ⟨bd21, h⟩ := h
      refine zx_iald C (a1).toNatClampNeg zs_237 bd21 rfl dX10_pullsAt_121 ?_
      refine zx_iadd C dX10_pullsAt_122 ?_
      refine zx_putI C zs_223 fp_X10_276 rfl dX10_pullsAt_123 ?_
      refine zx_sig (fun σ22 eσ22 => ?_)
      replace h := h σ22 eσ22
      exact zx_vret C hr dX10_pullsAt_126 h
    · replace h := h.2 q
      refine zx_aload_n C dX10_pullsAt_44 1 rfl ?_
      refine zx_getR C zs_223 fg_X10_53 rfl 238 rfl dX10_pullsAt_45 ?_
      refine zx_iload_n C dX10_pullsAt_48 2 rfl ?_
      obtain ⟨bd23, h⟩ := h
      refine zx_iald C (a1).toNatClampNeg zs_238 bd23 rfl dX10_pullsAt_49 ?_
      refine zx_goto C 54 dX10_pullsAt_50 (by decide) ?_
      refine zx_topi (fun x24 ex24 => ?_)
      replace h := h x24 ex24
      refine zx_istore (lv' := [(4, .int x24), (3, .int x8), (0, .ref (g 223)), (1, .int a1), (2, .int a2)]) C dX10_pullsAt_54 (by decide) rfl ?_
      refine zx_aload_n C dX10_pullsAt_56 2 rfl ?_
      refine zx_getR C zs_223 fg_X10_62 rfl 241 rfl dX10_pullsAt_57 ?_
      refine zx_iload_n C dX10_pullsAt_60 4 rfl ?_
      refine zx_dup2 C dX10_pullsAt_61 rfl rfl ?_
      obtain ⟨bd25, h⟩ := h
      refine zx_iald C (a2).toNatClampNeg zs_241 bd25 rfl dX10_pullsAt_62 ?_
      refine zx_iload C dX10_pullsAt_63 0 rfl ?_
      refine zx_iadd C dX10_pullsAt_65 ?_
      obtain ⟨bd26, h⟩ := h
      refine zx_iast C (a2).toNatClampNeg zs_241 bd26 rfl dX10_pullsAt_66 ?_
      refine zx_sig (fun σ27 eσ27 => ?_)
      replace h := h σ27 eσ27
      refine zx_aload_n C dX10_pullsAt_67 2 rfl ?_
      refine zx_getR C zs_223 fg_X10_65 rfl 242 rfl dX10_pullsAt_68 ?_
      refine zx_iload_n C dX10_pullsAt_71 3 rfl ?_
      refine zx_iload C dX10_pullsAt_72 0 rfl ?_
      obtain ⟨bd28, h⟩ := h
      refine zx_iast C (a1).toNatClampNeg zs_242 bd28 rfl dX10_pullsAt_74 ?_
      refine zx_sig (fun σ29 eσ29 => ?_)
      replace h := h σ29 eσ29
      refine zx_aload_n C dX10_pullsAt_75 2 rfl ?_
      refine zx_getR C zs_223 fg_X10_68 rfl 243 rfl dX10_pullsAt_76 ?_
      refine zx_iload_n C dX10_pullsAt_79 4 rfl ?_
      refine zx_dup2 C dX10_pullsAt_80 rfl rfl ?_
      obtain ⟨bd30, h⟩ := h
      refine zx_iald C (a2).toNatClampNeg zs_243 bd30 rfl dX10_pullsAt_81 ?_
      refine zx_iload C dX10_pullsAt_82 0 rfl ?_
      refine zx_iload C dX10_pullsAt_84 0 rfl ?_
      refine zx_iconst (v := (3 : Int32)) C dX10_pullsAt_86 (by decide) ?_
      refine zx_idiv C dX10_pullsAt_87 (by decide) ?_
      refine zx_isub C dX10_pullsAt_88 ?_
      refine zx_iadd C dX10_pullsAt_89 ?_
      obtain ⟨bd31, h⟩ := h
      refine zx_iast C (a2).toNatClampNeg zs_243 bd31 rfl dX10_pullsAt_90 ?_
      refine zx_sig (fun σ32 eσ32 => ?_)
      replace h := h σ32 eσ32
      refine zx_aload_n C dX10_pullsAt_91 2 rfl ?_
      refine zx_dup C dX10_pullsAt_92 rfl ?_
      refine zx_getI C zs_223 fg_X10_285 rfl dX10_pullsAt_93 ?_
      refine zx_iload C dX10_pullsAt_96 0 rfl ?_
      refine zx_iconst (v := (3 : Int32)) C dX10_pullsAt_98 (by decide) ?_
      refine zx_idiv C dX10_pullsAt_99 (by decide) ?_
      refine zx_iadd C dX10_pullsAt_100 ?_
      refine zx_putI C zs_223 fp_X10_285 rfl dX10_pullsAt_101 ?_
      refine zx_sig (fun σ33 eσ33 => ?_)
      replace h := h σ33 eσ33
      refine zx_aload_n C dX10_pullsAt_104 2 rfl ?_
      refine zx_getR C zs_223 fg_X10_71 rfl 244 rfl dX10_pullsAt_105 ?_
      refine zx_iload_n C dX10_pullsAt_108 4 rfl ?_
      refine zx_iconst (v := (1 : Int32)) C dX10_pullsAt_109 (by decide) ?_
      obtain ⟨bd34, h⟩ := h
      refine zx_zast C (a2).toNatClampNeg zs_244 bd34 rfl dX10_pullsAt_110 ?_
      refine zx_sig (fun σ35 eσ35 => ?_)
      replace h := h σ35 eσ35
      refine zx_aload_n C dX10_pullsAt_111 2 rfl ?_
      refine zx_dup C dX10_pullsAt_112 rfl ?_
      refine zx_getI C zs_223 fg_X10_276 rfl dX10_pullsAt_113 ?_
      refine zx_aload_n C dX10_pullsAt_116 2 rfl ?_
      refine zx_getR C zs_223 fg_X10_50 rfl 237 rfl dX10_pullsAt_117 ?_
      refine zx_iload_n C dX10_pullsAt_120 3 rfl ?_
      obtain ⟨bd36, h⟩ := h
      refine zx_iald C (a1).toNatClampNeg zs_237 bd36 rfl dX10_pullsAt_121 ?_
      refine zx_iadd C dX10_pullsAt_122 ?_
      refine zx_putI C zs_223 fp_X10_276 rfl dX10_pullsAt_123 ?_
      refine zx_sig (fun σ37 eσ37 => ?_)
      replace h := h σ37 eσ37
      exact zx_vret C hr dX10_pullsAt_126 h
  · replace h := h.2 q
    exact zx_vret C hr dX10_pullsAt_19 h
theorem fp_X10_288 : zFP RX10 288 10 33 .int := ⟨RX10, TX10, 50, tyX10, rfl, lay_X10, by decide, fl_X10_288, tyX10_ok, nmX10, rfl, by decide +kernel⟩
theorem fp_X10_291 : zFP RX10 291 10 34 .int := ⟨RX10, TX10, 50, tyX10, rfl, lay_X10, by decide, fl_X10_291, tyX10_ok, nmX10, rfl, by decide +kernel⟩
theorem fg_X10_56 : zFG RX10 56 10 35 := ⟨RX10, TX10, 50, rfl, lay_X10, by decide, fl_X10_56⟩
theorem fg_X10_291 : zFG RX10 291 10 34 := ⟨RX10, TX10, 50, rfl, lay_X10, by decide, fl_X10_291⟩
theorem fg_X10_288 : zFG RX10 288 10 33 := ⟨RX10, TX10, 50, rfl, lay_X10, by decide, fl_X10_288⟩
def w_X10_timesBy_16  (P : zSto → Prop)  : Nat → Int32 → Int32 → Int32 → zSto → Prop
  | 0, _, _, _, _ => False
  | n + 1, x_1, x_2, x_3, σ => (((σ.1 223 24) ≤ x_3 → P σ) ∧ (¬ (σ.1 223 24) ≤ x_3 → (vp_in x_3 16 ∧ (∀ σ4 : zSto, σ4 = zI σ 239 (x_3).toNatClampNeg x_1 → (w_X10_postOf x_3 (4 : Int32) σ4 (fun (r6 : Int32) (σ5 : zSto) => ((r6 = (-1 : Int32) → (vp_in x_3 16 ∧ (((σ5.1 240 (x_3).toNatClampNeg) = (-1 : Int32) → (vp_in x_3 16 ∧ (∀ x9 : Int32, x9 = (x_1 + (σ5.1 236 (x_3).toNatClampNeg)) → (∀ x10 : Int32, x10 = (x_3 + (1 : Int32)) → w_X10_timesBy_16 P n x9 x_2 x10 σ5)))) ∧ (¬ (σ5.1 240 (x_3).toNatClampNeg) = (-1 : Int32) → (∀ x11 : Int32, x11 = (x_2 + (1 : Int32)) → (w_X10_of (5 : Int32) σ5 (fun (r13 : Int32) (σ12 : zSto) => ((¬ x11 = r13 → (∀ σ14 : zSto, σ14 = zI σ12 223 34 (σ12.1 223 34) → (vp_in x_3 16 ∧ (∀ x16 : Int32, x16 = (x_1 + (σ14.1 237 (x_3).toNatClampNeg)) → (vp_in x_3 16 ∧ (∀ x18 : Int32, x18 = (x16 + (σ14.1 236 (x_3).toNatClampNeg)) → (∀ x19 : Int32, x19 = (x_3 + (1 : Int32)) → w_X10_timesBy_16 P n x18 x11 x19 σ14))))))) ∧ (x11 = r13 → (∀ σ20 : zSto, σ20 = zI σ12 223 34 x_3 → (vp_in x_3 16 ∧ (∀ x22 : Int32, x22 = (x_1 + (σ20.1 237 (x_3).toNatClampNeg)) → (vp_in x_3 16 ∧ (∀ x24 : Int32, x24 = (x22 + (σ20.1 236 (x_3).toNatClampNeg)) → (∀ x25 : Int32, x25 = (x_3 + (1 : Int32)) → w_X10_timesBy_16 P n x24 x11 x25 σ20))))))))))))))) ∧ (¬ r6 = (-1 : Int32) → (w_X10_postOf x_3 (4 : Int32) σ5 (fun (r27 : Int32) (σ26 : zSto) => (w_X10_of (4 : Int32) σ26 (fun (r29 : Int32) (σ28 : zSto) => (w_X10_greater (0 : Int32) ((x_1 - r27) - r29) σ28 (fun (r31 : Int32) (σ30 : zSto) => (∀ σ32 : zSto, σ32 = zI σ30 223 33 ((σ5.1 223 33) + r31) → (vp_in x_3 16 ∧ (((σ32.1 240 (x_3).toNatClampNeg) = (-1 : Int32) → (vp_in x_3 16 ∧ (∀ x35 : Int32, x35 = (x_1 + (σ32.1 236 (x_3).toNatClampNeg)) → (∀ x36 : Int32, x36 = (x_3 + (1 : Int32)) → w_X10_timesBy_16 P n x35 x_2 x36 σ32)))) ∧ (¬ (σ32.1 240 (x_3).toNatClampNeg) = (-1 : Int32) → (∀ x37 : Int32, x37 = (x_2 + (1 : Int32)) → (w_X10_of (5 : Int32) σ32 (fun (r39 : Int32) (σ38 : zSto) => ((¬ x37 = r39 → (∀ σ40 : zSto, σ40 = zI σ38 223 34 (σ38.1 223 34) → (vp_in x_3 16 ∧ (∀ x42 : Int32, x42 = (x_1 + (σ40.1 237 (x_3).toNatClampNeg)) → (vp_in x_3 16 ∧ (∀ x44 : Int32, x44 = (x42 + (σ40.1 236 (x_3).toNatClampNeg)) → (∀ x45 : Int32, x45 = (x_3 + (1 : Int32)) → w_X10_timesBy_16 P n x44 x37 x45 σ40))))))) ∧ (x37 = r39 → (∀ σ46 : zSto, σ46 = zI σ38 223 34 x_3 → (vp_in x_3 16 ∧ (∀ x48 : Int32, x48 = (x_1 + (σ46.1 237 (x_3).toNatClampNeg)) → (vp_in x_3 16 ∧ (∀ x50 : Int32, x50 = (x48 + (σ46.1 236 (x_3).toNatClampNeg)) → (∀ x51 : Int32, x51 = (x_3 + (1 : Int32)) → w_X10_timesBy_16 P n x50 x37 x51 σ46)))))))))))))))))))))))))))))
def w_X10_timesBy  (σ : zSto) (P : zSto → Prop) : Prop := (∀ σ1 : zSto, σ1 = zI σ 223 33 (0 : Int32) → (∀ σ2 : zSto, σ2 = zI σ1 223 34 (-1 : Int32) → (∃ n : Nat, w_X10_timesBy_16  P  n (0 : Int32) (0 : Int32) (0 : Int32) σ2)))
set_option maxRecDepth 100000 in
set_option maxHeartbeats 4000000 in
theorem k_X10_timesBy_16 {p : Program} {l : Launch} {e : Env} {s : State} {m : MethodId} {args : Array Value} {below : List Frame} {meth : Method} {c : Code} {D : va_G} {cy : Nat → ClassId} {g : Nat → Nat} (C : zC p s m args meth c cX10_timesBy RX10 4 D cy g) (hr : meth.sig.returnType = none) {P : zSto → Prop}     : ∀ (n : Nat) (x_1 : Int32) (x_2 : Int32) (x_3 : Int32) (σ : zSto), w_X10_timesBy_16 P n x_1 x_2 x_3 σ → zX p l e (zrm 2 43) s m args below meth c 0 0 (zQv P below args s D cy g) 4 D cy g 16 [(0, .ref (g 223)), (1, .int x_1), (2, .int x_2), (3, .int x_3)] [] σ := by
  intro n
  induction n with
  | zero => intro x_1 x_2 x_3 σ h; exact h.elim
  | succ n ih =>
    intro x_1 x_2 x_3 σ h
    unfold w_X10_timesBy_16 at h
    refine zx_iload_n C dX10_timesBy_16 3 rfl ?_
    refine zx_aload_n C dX10_timesBy_17 0 rfl ?_
    refine zx_getI C zs_223 fg_X10_245 rfl dX10_timesBy_18 ?_
    refine zx_icmp_ge C 126 dX10_timesBy_21 (by decide) (fun q => ?_) (fun q => ?_)
    · replace h := h.1 q
      exact zx_vret C hr dX10_timesBy_126 h
    · replace h := h.2 q
      refine zx_aload_n C dX10_timesBy_24 0 rfl ?_
      refine zx_getR C zs_223 fg_X10_56 rfl 239 rfl dX10_timesBy_25 ?_
      refine zx_iload_n C dX10_timesBy_28 3 rfl ?_
      refine zx_iload_n C dX10_timesBy_29 1 rfl ?_
      obtain ⟨bd3, h⟩ := h
      refine zx_iast C (x_3).toNatClampNeg zs_239 bd3 rfl dX10_timesBy_30 ?_
      refine zx_sig (fun σ4 eσ4 => ?_)
      replace h := h σ4 eσ4
      refine zx_aload_n C dX10_timesBy_31 0 rfl ?_
      refine zx_iload_n C dX10_timesBy_32 3 rfl ?_
      refine zx_iconst (v := (4 : Int32)) C dX10_timesBy_33 (by decide) ?_
      refine zx_cVi C [.int x_3, .int (4 : Int32)] lk_X10_242 (c_X10_postOf l D cy g x_3 (4 : Int32)  σ4 h) zs_223 rfl ⟨by decide, by decide⟩ ⟨rfl, rfl⟩ ⟨Nat.zero_le _, Nat.zero_le _⟩ rfl rfl (Nat.le_of_ble_eq_true rfl) dX10_timesBy_34 (fun r6 σ5 h => ?_)
      refine zx_iconst (v := (-1 : Int32)) C dX10_timesBy_37 (by decide) ?_
      refine zx_icmp_eq C 68 dX10_timesBy_38 (by decide) (fun q => ?_) (fun q => ?_)
      · replace h := h.1 q
        refine zx_aload_n C dX10_timesBy_68 0 rfl ?_
        refine zx_getR C zs_223 fg_X10_59 rfl 240 rfl dX10_timesBy_69 ?_
        refine zx_iload_n C dX10_timesBy_72 3 rfl ?_
        obtain ⟨bd7, h⟩ := h
        refine zx_iald C (x_3).toNatClampNeg zs_240 bd7 rfl dX10_timesBy_73 ?_
        refine zx_iconst (v := (-1 : Int32)) C dX10_timesBy_74 (by decide) ?_
        refine zx_icmp_eq C 111 dX10_timesBy_75 (by decide) (fun q => ?_) (fun q => ?_)
        · replace h := h.1 q
          refine zx_iload_n C dX10_timesBy_111 1 rfl ?_
          refine zx_aload_n C dX10_timesBy_112 0 rfl ?_
          refine zx_getR C zs_223 fg_X10_47 rfl 236 rfl dX10_timesBy_113 ?_
          refine zx_iload_n C dX10_timesBy_116 3 rfl ?_
          obtain ⟨bd8, h⟩ := h
          refine zx_iald C (x_3).toNatClampNeg zs_236 bd8 rfl dX10_timesBy_117 ?_
          refine zx_iadd C dX10_timesBy_118 ?_
          refine zx_topi (fun x9 ex9 => ?_)
          replace h := h x9 ex9
          refine zx_istore_n (lv' := [(1, .int x9), (0, .ref (g 223)), (2, .int x_2), (3, .int x_3)]) C dX10_timesBy_119 (by decide) rfl ?_
          obtain ⟨x10, ex10⟩ : ∃ y : Int32, y = (x_3 + (1 : Int32)) := ⟨_, rfl⟩
          replace h := h x10 ex10
          refine zx_iinc (v := x10) (lv' := [(3, .int x10), (1, .int x9), (0, .ref (g 223)), (2, .int x_2)]) C dX10_timesBy_120 3 rfl (by rw [ex10]; rfl) (by decide) rfl ?_
          refine zx_goto C 16 dX10_timesBy_123 (by decide) ?_
          refine zx_lv (lv' := [(0, .ref (g 223)), (1, .int x9), (2, .int x_2), (3, .int x10)]) [2, 1, 3, 0] rfl ?_
          exact ih x9 x_2 x10 σ5 h
        · replace h := h.2 q
          obtain ⟨x11, ex11⟩ : ∃ y : Int32, y = (x_2 + (1 : Int32)) := ⟨_, rfl⟩
          replace h := h x11 ex11
          refine zx_iinc (v := x11) (lv' := [(2, .int x11), (0, .ref (g 223)), (1, .int x_1), (3, .int x_3)]) C dX10_timesBy_78 2 rfl (by rw [ex11]; rfl) (by decide) rfl ?_
          refine zx_aload_n C dX10_timesBy_81 1 rfl ?_
          refine zx_iload_n C dX10_timesBy_82 0 rfl ?_
          refine zx_aload_n C dX10_timesBy_83 1 rfl ?_
          refine zx_iconst (v := (5 : Int32)) C dX10_timesBy_84 (by decide) ?_
          refine zx_cVi C [.int (5 : Int32)] lk_X10_238 (c_X10_of l D cy g (5 : Int32)  σ5 h) zs_223 rfl ⟨by decide, by decide⟩ ⟨rfl, rfl⟩ ⟨Nat.zero_le _, Nat.zero_le _⟩ rfl rfl (Nat.le_of_ble_eq_true rfl) dX10_timesBy_85 (fun r13 σ12 h => ?_)
          refine zx_icmp_ne C 95 dX10_timesBy_88 (by decide) (fun q => ?_) (fun q => ?_)
          · replace h := h.1 q
            refine zx_aload_n C dX10_timesBy_95 1 rfl ?_
            refine zx_getI C zs_223 fg_X10_291 rfl dX10_timesBy_96 ?_
            refine zx_putI C zs_223 fp_X10_291 rfl dX10_timesBy_99 ?_
            refine zx_sig (fun σ14 eσ14 => ?_)
            replace h := h σ14 eσ14
            refine zx_iload_n C dX10_timesBy_102 2 rfl ?_
            refine zx_aload_n C dX10_timesBy_103 1 rfl ?_
            refine zx_getR C zs_223 fg_X10_50 rfl 237 rfl dX10_timesBy_104 ?_
            refine zx_iload_n C dX10_timesBy_107 3 rfl ?_
            obtain ⟨bd15, h⟩ := h
            refine zx_iald C (x_3).toNatClampNeg zs_237 bd15 rfl dX10_timesBy_108 ?_
            refine zx_iadd C dX10_timesBy_109 ?_
            refine zx_topi (fun x16 ex16 => ?_)
            replace h := h x16 ex16
            refine zx_istore_n (lv' := [(1, .int x16), (2, .int x11), (0, .ref (g 223)), (3, .int x_3)]) C dX10_timesBy_110 (by decide) rfl ?_
            refine zx_iload_n C dX10_timesBy_111 0 rfl ?_
            refine zx_aload_n C dX10_timesBy_112 2 rfl ?_
            refine zx_getR C zs_223 fg_X10_47 rfl 236 rfl dX10_timesBy_113 ?_
            refine zx_iload_n C dX10_timesBy_116 3 rfl ?_
            obtain ⟨bd17, h⟩ := h
            refine zx_iald C (x_3).toNatClampNeg zs_236 bd17 rfl dX10_timesBy_117 ?_
            refine zx_iadd C dX10_timesBy_118 ?_
            refine zx_topi (fun x18 ex18 => ?_)
            replace h := h x18 ex18
            refine zx_istore_n (lv' := [(1, .int x18), (2, .int x11), (0, .ref (g 223)), (3, .int x_3)]) C dX10_timesBy_119 (by decide) rfl ?_
            obtain ⟨x19, ex19⟩ : ∃ y : Int32, y = (x_3 + (1 : Int32)) := ⟨_, rfl⟩
            replace h := h x19 ex19
            refine zx_iinc (v := x19) (lv' := [(3, .int x19), (1, .int x18), (2, .int x11), (0, .ref (g 223))]) C dX10_timesBy_120 3 rfl (by rw [ex19]; rfl) (by decide) rfl ?_
            refine zx_goto C 16 dX10_timesBy_123 (by decide) ?_
            refine zx_lv (lv' := [(0, .ref (g 223)), (1, .int x18), (2, .int x11), (3, .int x19)]) [3, 1, 2, 0] rfl ?_
            exact ih x18 x11 x19 σ14 h
          · replace h := h.2 q
            refine zx_iload_n C dX10_timesBy_91 3 rfl ?_
            refine zx_goto C 99 dX10_timesBy_92 (by decide) ?_
            refine zx_putI C zs_223 fp_X10_291 rfl dX10_timesBy_99 ?_
            refine zx_sig (fun σ20 eσ20 => ?_)
            replace h := h σ20 eσ20
            refine zx_iload_n C dX10_timesBy_102 2 rfl ?_
            refine zx_aload_n C dX10_timesBy_103 1 rfl ?_
            refine zx_getR C zs_223 fg_X10_50 rfl 237 rfl dX10_timesBy_104 ?_
            refine zx_iload_n C dX10_timesBy_107 3 rfl ?_
            obtain ⟨bd21, h⟩ := h
            refine zx_iald C (x_3).toNatClampNeg zs_237 bd21 rfl dX10_timesBy_108 ?_
            refine zx_iadd C dX10_timesBy_109 ?_
            refine zx_topi (fun x22 ex22 => ?_)
            replace h := h x22 ex22
            refine zx_istore_n (lv' := [(1, .int x22), (2, .int x11), (0, .ref (g 223)), (3, .int x_3)]) C dX10_timesBy_110 (by decide) rfl ?_
            refine zx_iload_n C dX10_timesBy_111 0 rfl ?_
            refine zx_aload_n C dX10_timesBy_112 2 rfl ?_
            refine zx_getR C zs_223 fg_X10_47 rfl 236 rfl dX10_timesBy_113 ?_
            refine zx_iload_n C dX10_timesBy_116 3 rfl ?_
            obtain ⟨bd23, h⟩ := h
            refine zx_iald C (x_3).toNatClampNeg zs_236 bd23 rfl dX10_timesBy_117 ?_
            refine zx_iadd C dX10_timesBy_118 ?_
            refine zx_topi (fun x24 ex24 => ?_)
            replace h := h x24 ex24
            refine zx_istore_n (lv' := [(1, .int x24), (2, .int x11), (0, .ref (g 223)), (3, .int x_3)]) C dX10_timesBy_119 (by decide) rfl ?_
            obtain ⟨x25, ex25⟩ : ∃ y : Int32, y = (x_3 + (1 : Int32)) := ⟨_, rfl⟩
            replace h := h x25 ex25
            refine zx_iinc (v := x25) (lv' := [(3, .int x25), (1, .int x24), (2, .int x11), (0, .ref (g 223))]) C dX10_timesBy_120 3 rfl (by rw [ex25]; rfl) (by decide) rfl ?_
            refine zx_goto C 16 dX10_timesBy_123 (by decide) ?_
            refine zx_lv (lv' := [(0, .ref (g 223)), (1, .int x24), (2, .int x11), (3, .int x25)]) [3, 1, 2, 0] rfl ?_
            exact ih x24 x11 x25 σ20 h
      · replace h := h.2 q
        refine zx_aload_n C dX10_timesBy_41 0 rfl ?_
        refine zx_dup C dX10_timesBy_42 rfl ?_
        refine zx_getI C zs_223 fg_X10_288 rfl dX10_timesBy_43 ?_
        refine zx_iconst (v := (0 : Int32)) C dX10_timesBy_46 (by decide) ?_
        refine zx_iload_n C dX10_timesBy_47 1 rfl ?_
        refine zx_aload_n C dX10_timesBy_48 0 rfl ?_
        refine zx_iload_n C dX10_timesBy_49 3 rfl ?_
        refine zx_iconst (v := (4 : Int32)) C dX10_timesBy_50 (by decide) ?_
        refine zx_cVi C [.int x_3, .int (4 : Int32)] lk_X10_242 (c_X10_postOf l D cy g x_3 (4 : Int32)  σ5 h) zs_223 rfl ⟨by decide, by decide⟩ ⟨rfl, rfl⟩ ⟨Nat.zero_le _, Nat.zero_le _⟩ rfl rfl (Nat.le_of_ble_eq_true rfl) dX10_timesBy_51 (fun r27 σ26 h => ?_)
        refine zx_isub C dX10_timesBy_54 ?_
        refine zx_aload_n C dX10_timesBy_55 0 rfl ?_
        refine zx_iconst (v := (4 : Int32)) C dX10_timesBy_56 (by decide) ?_
        refine zx_cVi C [.int (4 : Int32)] lk_X10_238 (c_X10_of l D cy g (4 : Int32)  σ26 h) zs_223 rfl ⟨by decide, by decide⟩ ⟨rfl, rfl⟩ ⟨Nat.zero_le _, Nat.zero_le _⟩ rfl rfl (Nat.le_of_ble_eq_true rfl) dX10_timesBy_57 (fun r29 σ28 h => ?_)
        refine zx_isub C dX10_timesBy_60 ?_
        refine zx_cSi C [.int (0 : Int32), .int ((x_1 - r27) - r29)] lk_X10_160 (c_X10_greater l D cy g (0 : Int32) ((x_1 - r27) - r29)  σ28 h) ⟨by decide, by decide⟩ ⟨rfl, rfl⟩ ⟨Nat.zero_le _, Nat.zero_le _⟩ rfl rfl (Nat.le_of_ble_eq_true rfl) dX10_timesBy_61 (fun r31 σ30 h => ?_)
        refine zx_iadd C dX10_timesBy_64 ?_
        refine zx_putI C zs_223 fp_X10_288 rfl dX10_timesBy_65 ?_
        refine zx_sig (fun σ32 eσ32 => ?_)
        replace h := h σ32 eσ32
        refine zx_aload_n C dX10_timesBy_68 0 rfl ?_
        refine zx_getR C zs_223 fg_X10_59 rfl 240 rfl dX10_timesBy_69 ?_
        refine zx_iload_n C dX10_timesBy_72 3 rfl ?_
        obtain ⟨bd33, h⟩ := h
        refine zx_iald C (x_3).toNatClampNeg zs_240 bd33 rfl dX10_timesBy_73 ?_
        refine zx_iconst (v := (-1 : Int32)) C dX10_timesBy_74 (by decide) ?_
        refine zx_icmp_eq C 111 dX10_timesBy_75 (by decide) (fun q => ?_) (fun q => ?_)
        · replace h := h.1 q
          refine zx_iload_n C dX10_timesBy_111 1 rfl ?_
          refine zx_aload_n C dX10_timesBy_112 0 rfl ?_
          refine zx_getR C zs_223 fg_X10_47 rfl 236 rfl dX10_timesBy_113 ?_
          refine zx_iload_n C dX10_timesBy_116 3 rfl ?_
          obtain ⟨bd34, h⟩ := h
          refine zx_iald C (x_3).toNatClampNeg zs_236 bd34 rfl dX10_timesBy_117 ?_
          refine zx_iadd C dX10_timesBy_118 ?_
          refine zx_topi (fun x35 ex35 => ?_)
          replace h := h x35 ex35
          refine zx_istore_n (lv' := [(1, .int x35), (0, .ref (g 223)), (2, .int x_2), (3, .int x_3)]) C dX10_timesBy_119 (by decide) rfl ?_
          obtain ⟨x36, ex36⟩ : ∃ y : Int32, y = (x_3 + (1 : Int32)) := ⟨_, rfl⟩
          replace h := h x36 ex36
          refine zx_iinc (v := x36) (lv' := [(3, .int x36), (1, .int x35), (0, .ref (g 223)), (2, .int x_2)]) C dX10_timesBy_120 3 rfl (by rw [ex36]; rfl) (by decide) rfl ?_
          refine zx_goto C 16 dX10_timesBy_123 (by decide) ?_
          refine zx_lv (lv' := [(0, .ref (g 223)), (1, .int x35), (2, .int x_2), (3, .int x36)]) [2, 1, 3, 0] rfl ?_
          exact ih x35 x_2 x36 σ32 h
        · replace h := h.2 q
          obtain ⟨x37, ex37⟩ : ∃ y : Int32, y = (x_2 + (1 : Int32)) := ⟨_, rfl⟩
          replace h := h x37 ex37
          refine zx_iinc (v := x37) (lv' := [(2, .int x37), (0, .ref (g 223)), (1, .int x_1), (3, .int x_3)]) C dX10_timesBy_78 2 rfl (by rw [ex37]; rfl) (by decide) rfl ?_
          refine zx_aload_n C dX10_timesBy_81 1 rfl ?_
          refine zx_iload_n C dX10_timesBy_82 0 rfl ?_
          refine zx_aload_n C dX10_timesBy_83 1 rfl ?_
          refine zx_iconst (v := (5 : Int32)) C dX10_timesBy_84 (by decide) ?_
          refine zx_cVi C [.int (5 : Int32)] lk_X10_238 (c_X10_of l D cy g (5 : Int32)  σ32 h) zs_223 rfl ⟨by decide, by decide⟩ ⟨rfl, rfl⟩ ⟨Nat.zero_le _, Nat.zero_le _⟩ rfl rfl (Nat.le_of_ble_eq_true rfl) dX10_timesBy_85 (fun r39 σ38 h => ?_)
          refine zx_icmp_ne C 95 dX10_timesBy_88 (by decide) (fun q => ?_) (fun q => ?_)
          · replace h := h.1 q
            refine zx_aload_n C dX10_timesBy_95 1 rfl ?_
            refine zx_getI C zs_223 fg_X10_291 rfl dX10_timesBy_96 ?_
            refine zx_putI C zs_223 fp_X10_291 rfl dX10_timesBy_99 ?_
            refine zx_sig (fun σ40 eσ40 => ?_)
            replace h := h σ40 eσ40
            refine zx_iload_n C dX10_timesBy_102 2 rfl ?_
            refine zx_aload_n C dX10_timesBy_103 1 rfl ?_
            refine zx_getR C zs_223 fg_X10_50 rfl 237 rfl dX10_timesBy_104 ?_
            refine zx_iload_n C dX10_timesBy_107 3 rfl ?_
            obtain ⟨bd41, h⟩ := h
            refine zx_iald C (x_3).toNatClampNeg zs_237 bd41 rfl dX10_timesBy_108 ?_
            refine zx_iadd C dX10_timesBy_109 ?_
            refine zx_topi (fun x42 ex42 => ?_)
            replace h := h x42 ex42
            refine zx_istore_n (lv' := [(1, .int x42), (2, .int x37), (0, .ref (g 223)), (3, .int x_3)]) C dX10_timesBy_110 (by decide) rfl ?_
            refine zx_iload_n C dX10_timesBy_111 0 rfl ?_
            refine zx_aload_n C dX10_timesBy_112 2 rfl ?_
            refine zx_getR C zs_223 fg_X10_47 rfl 236 rfl dX10_timesBy_113 ?_
            refine zx_iload_n C dX10_timesBy_116 3 rfl ?_
            obtain ⟨bd43, h⟩ := h
            refine zx_iald C (x_3).toNatClampNeg zs_236 bd43 rfl dX10_timesBy_117 ?_
            refine zx_iadd C dX10_timesBy_118 ?_
            refine zx_topi (fun x44 ex44 => ?_)
            replace h := h x44 ex44
            refine zx_istore_n (lv' := [(1, .int x44), (2, .int x37), (0, .ref (g 223)), (3, .int x_3)]) C dX10_timesBy_119 (by decide) rfl ?_
            obtain ⟨x45, ex45⟩ : ∃ y : Int32, y = (x_3 + (1 : Int32)) := ⟨_, rfl⟩
            replace h := h x45 ex45
            refine zx_iinc (v := x45) (lv' := [(3, .int x45), (1, .int x44), (2, .int x37), (0, .ref (g 223))]) C dX10_timesBy_120 3 rfl (by rw [ex45]; rfl) (by decide) rfl ?_
            refine zx_goto C 16 dX10_timesBy_123 (by decide) ?_
            refine zx_lv (lv' := [(0, .ref (g 223)), (1, .int x44), (2, .int x37), (3, .int x45)]) [3, 1, 2, 0] rfl ?_
            exact ih x44 x37 x45 σ40 h
          · replace h := h.2 q
            refine zx_iload_n C dX10_timesBy_91 3 rfl ?_
            refine zx_goto C 99 dX10_timesBy_92 (by decide) ?_
            refine zx_putI C zs_223 fp_X10_291 rfl dX10_timesBy_99 ?_
            refine zx_sig (fun σ46 eσ46 => ?_)
            replace h := h σ46 eσ46
            refine zx_iload_n C dX10_timesBy_102 2 rfl ?_
            refine zx_aload_n C dX10_timesBy_103 1 rfl ?_
            refine zx_getR C zs_223 fg_X10_50 rfl 237 rfl dX10_timesBy_104 ?_
            refine zx_iload_n C dX10_timesBy_107 3 rfl ?_
            obtain ⟨bd47, h⟩ := h
            refine zx_iald C (x_3).toNatClampNeg zs_237 bd47 rfl dX10_timesBy_108 ?_
            refine zx_iadd C dX10_timesBy_109 ?_
            refine zx_topi (fun x48 ex48 => ?_)
            replace h := h x48 ex48
            refine zx_istore_n (lv' := [(1, .int x48), (2, .int x37), (0, .ref (g 223)), (3, .int x_3)]) C dX10_timesBy_110 (by decide) rfl ?_
            refine zx_iload_n C dX10_timesBy_111 0 rfl ?_
            refine zx_aload_n C dX10_timesBy_112 2 rfl ?_
            refine zx_getR C zs_223 fg_X10_47 rfl 236 rfl dX10_timesBy_113 ?_
            refine zx_iload_n C dX10_timesBy_116 3 rfl ?_
            obtain ⟨bd49, h⟩ := h
            refine zx_iald C (x_3).toNatClampNeg zs_236 bd49 rfl dX10_timesBy_117 ?_
            refine zx_iadd C dX10_timesBy_118 ?_
            refine zx_topi (fun x50 ex50 => ?_)
            replace h := h x50 ex50
            refine zx_istore_n (lv' := [(1, .int x50), (2, .int x37), (0, .ref (g 223)), (3, .int x_3)]) C dX10_timesBy_119 (by decide) rfl ?_
            obtain ⟨x51, ex51⟩ : ∃ y : Int32, y = (x_3 + (1 : Int32)) := ⟨_, rfl⟩
            replace h := h x51 ex51
            refine zx_iinc (v := x51) (lv' := [(3, .int x51), (1, .int x50), (2, .int x37), (0, .ref (g 223))]) C dX10_timesBy_120 3 rfl (by rw [ex51]; rfl) (by decide) rfl ?_
            refine zx_goto C 16 dX10_timesBy_123 (by decide) ?_
            refine zx_lv (lv' := [(0, .ref (g 223)), (1, .int x50), (2, .int x37), (3, .int x51)]) [3, 1, 2, 0] rfl ?_
            exact ih x50 x37 x51 σ46 h
set_option maxRecDepth 100000 in
set_option maxHeartbeats 4000000 in
theorem c_X10_timesBy (l : Launch) (D : va_G) (cy : Nat → ClassId) (g : Nat → Nat)   (σ : zSto) {P : zSto → Prop} (h : w_X10_timesBy  σ P) : zMv l yX10_timesBy cX10_timesBy 4 none (zrm 2 43) D cy g [.ref (g 223)] σ P := by
  unfold w_X10_timesBy at h
  refine zm_v RX10 rfl (by decide +kernel) (Nat.le_of_ble_eq_true rfl) ?_
  intro p e s m below meth c C hr
  refine zx_lv (lv' := [(0, .ref (g 223))]) [0] rfl ?_
  refine zx_iconst (v := (0 : Int32)) C dX10_timesBy_0 (by decide) ?_
  refine zx_istore_n (lv' := [(1, .int (0 : Int32)), (0, .ref (g 223))]) C dX10_timesBy_1 (by decide) rfl ?_
  refine zx_iconst (v := (0 : Int32)) C dX10_timesBy_2 (by decide) ?_
  refine zx_istore_n (lv' := [(2, .int (0 : Int32)), (1, .int (0 : Int32)), (0, .ref (g 223))]) C dX10_timesBy_3 (by decide) rfl ?_
  refine zx_aload_n C dX10_timesBy_4 2 rfl ?_
  refine zx_iconst (v := (0 : Int32)) C dX10_timesBy_5 (by decide) ?_
  refine zx_putI C zs_223 fp_X10_288 rfl dX10_timesBy_6 ?_
  refine zx_sig (fun σ1 eσ1 => ?_)
  replace h := h σ1 eσ1
  refine zx_aload_n C dX10_timesBy_9 2 rfl ?_
  refine zx_iconst (v := (-1 : Int32)) C dX10_timesBy_10 (by decide) ?_
  refine zx_putI C zs_223 fp_X10_291 rfl dX10_timesBy_11 ?_
  refine zx_sig (fun σ2 eσ2 => ?_)
  replace h := h σ2 eσ2
  refine zx_iconst (v := (0 : Int32)) C dX10_timesBy_14 (by decide) ?_
  refine zx_istore_n (lv' := [(3, .int (0 : Int32)), (2, .int (0 : Int32)), (1, .int (0 : Int32)), (0, .ref (g 223))]) C dX10_timesBy_15 (by decide) rfl ?_
  obtain ⟨n, h⟩ := h
  refine zx_lv (lv' := [(0, .ref (g 223)), (1, .int (0 : Int32)), (2, .int (0 : Int32)), (3, .int (0 : Int32))]) [3, 2, 1, 0] rfl ?_
  exact k_X10_timesBy_16 C hr    n (0 : Int32) (0 : Int32) (0 : Int32) σ2 h
theorem lk_X10_294 : zLV RX10 294 RX10 yX10_begin cX10_begin 2 none 0 := zLV_of ml_X10_294 im_X10_begin se_X10_begin ini_X10 cd_X10_begin (by decide +kernel)
theorem lk_X10_304 : zLV RX10 304 RX10 yX10_timesBy cX10_timesBy 4 none 0 := zLV_of ml_X10_304 im_X10_timesBy se_X10_timesBy ini_X10 cd_X10_timesBy (by decide +kernel)
theorem lk_X10_297 : zLV RX10 297 RX10 yX10_pullerAt cX10_pullerAt 9 (some .int) 3 := zLV_of ml_X10_297 im_X10_pullerAt se_X10_pullerAt ini_X10 cd_X10_pullerAt (by decide +kernel)
theorem lk_X10_301 : zLV RX10 301 RX10 yX10_pullsAt cX10_pullsAt 5 none 2 := zLV_of ml_X10_301 im_X10_pullsAt se_X10_pullsAt ini_X10 cd_X10_pullsAt (by decide +kernel)
def w_X10_go_12 (x_1 : Int32) (x_3 : Int32) (P : zSto → Prop)  : Nat → Int32 → zSto → Prop
  | 0, _, _ => False
  | n + 1, x_4, σ => (((σ.1 223 25) ≤ x_4 → (vp_in (σ.1 223 25) 16 ∧ (∀ σ4 : zSto, σ4 = zI σ 240 ((σ.1 223 25)).toNatClampNeg (-1 : Int32) → (vp_in (σ4.1 223 25) 16 ∧ (∀ σ6 : zSto, σ6 = zI σ4 242 ((σ4.1 223 25)).toNatClampNeg (0 : Int32) → (w_X10_timesBy  σ6 (fun (σ7 : zSto) => P σ7))))))) ∧ (¬ (σ.1 223 25) ≤ x_4 → (w_X10_pullerAt x_4 x_1 x_3 σ (fun (r9 : Int32) (σ8 : zSto) => (w_X10_pullsAt x_4 r9 σ8 (fun (σ10 : zSto) => (∀ x11 : Int32, x11 = (x_4 + (1 : Int32)) → w_X10_go_12 x_1 x_3 P n x11 σ10)))))))
def w_X10_go (a1 : Int32) (a2 : Int32) (a3 : Int32) (σ : zSto) (P : zSto → Prop) : Prop := (∀ σ1 : zSto, σ1 = zI σ 223 30 a2 → (w_X10_begin  σ1 (fun (σ2 : zSto) => (∃ n : Nat, w_X10_go_12 a1 a3 P  n (0 : Int32) σ2))))
set_option maxRecDepth 100000 in
set_option maxHeartbeats 4000000 in
theorem k_X10_go_12 {p : Program} {l : Launch} {e : Env} {s : State} {m : MethodId} {args : Array Value} {below : List Frame} {meth : Method} {c : Code} {D : va_G} {cy : Nat → ClassId} {g : Nat → Nat} (C : zC p s m args meth c cX10_go RX10 5 D cy g) (hr : meth.sig.returnType = none) {P : zSto → Prop} (x_1 : Int32) (x_3 : Int32)    : ∀ (n : Nat) (x_4 : Int32) (σ : zSto), w_X10_go_12 x_1 x_3 P n x_4 σ → zX p l e (zrm 5 115) s m args below meth c 0 0 (zQv P below args s D cy g) 5 D cy g 12 [(0, .ref (g 223)), (1, .int x_1), (3, .int x_3), (4, .int x_4)] [] σ := by
  intro n
  induction n with
  | zero => intro x_4 σ h; exact h.elim
  | succ n ih =>
    intro x_4 σ h
    unfold w_X10_go_12 at h
    refine zx_iload C dX10_go_12 3 rfl ?_
    refine zx_aload_n C dX10_go_14 0 rfl ?_
    refine zx_getI C zs_223 fg_X10_248 rfl dX10_go_15 ?_
    refine zx_icmp_ge C 41 dX10_go_18 (by decide) (fun q => ?_) (fun q => ?_)
    · replace h := h.1 q
      refine zx_aload_n C dX10_go_41 0 rfl ?_
      refine zx_getR C zs_223 fg_X10_59 rfl 240 rfl dX10_go_42 ?_
      refine zx_aload_n C dX10_go_45 0 rfl ?_
      refine zx_getI C zs_223 fg_X10_248 rfl dX10_go_46 ?_
      refine zx_iconst (v := (-1 : Int32)) C dX10_go_49 (by decide) ?_
      obtain ⟨bd3, h⟩ := h
      refine zx_iast C ((σ.1 223 25)).toNatClampNeg zs_240 bd3 rfl dX10_go_50 ?_
      refine zx_sig (fun σ4 eσ4 => ?_)
      replace h := h σ4 eσ4
      refine zx_aload_n C dX10_go_51 0 rfl ?_
      refine zx_getR C zs_223 fg_X10_65 rfl 242 rfl dX10_go_52 ?_
      refine zx_aload_n C dX10_go_55 0 rfl ?_
      refine zx_getI C zs_223 fg_X10_248 rfl dX10_go_56 ?_
      refine zx_iconst (v := (0 : Int32)) C dX10_go_59 (by decide) ?_
      obtain ⟨bd5, h⟩ := h
      refine zx_iast C ((σ4.1 223 25)).toNatClampNeg zs_242 bd5 rfl dX10_go_60 ?_
      refine zx_sig (fun σ6 eσ6 => ?_)
      replace h := h σ6 eσ6
      refine zx_aload_n C dX10_go_61 0 rfl ?_
      refine zx_cVv C [] lk_X10_304 (c_X10_timesBy l D cy g   σ6 h) zs_223 rfl ⟨by decide, by decide⟩ ⟨rfl, rfl⟩ ⟨Nat.zero_le _, Nat.zero_le _⟩ rfl rfl (Nat.le_of_ble_eq_true rfl) dX10_go_62 (fun σ7 h => ?_)
      exact zx_vret C hr dX10_go_65 h
    · replace h := h.2 q
      refine zx_aload_n C dX10_go_21 0 rfl ?_
      refine zx_iload C dX10_go_22 3 rfl ?_
      refine zx_aload_n C dX10_go_24 0 rfl ?_
      refine zx_iload C dX10_go_25 3 rfl ?_
      refine zx_iload_n C dX10_go_27 1 rfl ?_
      refine zx_iload_n C dX10_go_28 2 rfl ?_
      refine zx_cVi C [.int x_4, .int x_1, .int x_3] lk_X10_297 (c_X10_pullerAt l D cy g x_4 x_1 x_3  σ h) zs_223 rfl ⟨by decide, by decide⟩ ⟨rfl, rfl⟩ ⟨Nat.zero_le _, Nat.zero_le _⟩ rfl rfl (Nat.le_of_ble_eq_true rfl) dX10_go_29 (fun r9 σ8 h => ?_)
      refine zx_cVv C [.int x_4, .int r9] lk_X10_301 (c_X10_pullsAt l D cy g x_4 r9  σ8 h) zs_223 rfl ⟨by decide, by decide⟩ ⟨rfl, rfl⟩ ⟨Nat.zero_le _, Nat.zero_le _⟩ rfl rfl (Nat.le_of_ble_eq_true rfl) dX10_go_32 (fun σ10 h => ?_)
      obtain ⟨x11, ex11⟩ : ∃ y : Int32, y = (x_4 + (1 : Int32)) := ⟨_, rfl⟩
      replace h := h x11 ex11
      refine zx_iinc (v := x11) (lv' := [(4, .int x11), (0, .ref (g 223)), (1, .int x_1), (3, .int x_3)]) C dX10_go_35 3 rfl (by rw [ex11]; rfl) (by decide) rfl ?_
      refine zx_goto C 12 dX10_go_38 (by decide) ?_
      refine zx_lv (lv' := [(0, .ref (g 223)), (1, .int x_1), (3, .int x_3), (4, .int x11)]) [1, 2, 3, 0] rfl ?_
      exact ih x11 σ10 h
set_option maxRecDepth 100000 in
set_option maxHeartbeats 4000000 in
theorem c_X10_go (l : Launch) (D : va_G) (cy : Nat → ClassId) (g : Nat → Nat) (a1 : Int32) (a2 : Int32) (a3 : Int32)  (σ : zSto) {P : zSto → Prop} (h : w_X10_go a1 a2 a3 σ P) : zMv l yX10_go cX10_go 5 none (zrm 5 115) D cy g [.ref (g 223), .int a1, .int a2, .int a3] σ P := by
  unfold w_X10_go at h
  refine zm_v RX10 rfl (by decide +kernel) (Nat.le_of_ble_eq_true rfl) ?_
  intro p e s m below meth c C hr
  refine zx_lv (lv' := [(0, .ref (g 223)), (1, .int a1), (2, .int a2), (3, .int a3)]) [0, 1, 2, 3] rfl ?_
  refine zx_aload_n C dX10_go_0 0 rfl ?_
  refine zx_iload_n C dX10_go_1 2 rfl ?_
  refine zx_putI C zs_223 fp_X10_269 rfl dX10_go_2 ?_
  refine zx_sig (fun σ1 eσ1 => ?_)
  replace h := h σ1 eσ1
  refine zx_aload_n C dX10_go_5 0 rfl ?_
  refine zx_cVv C [] lk_X10_294 (c_X10_begin l D cy g   σ1 h) zs_223 rfl ⟨by decide, by decide⟩ ⟨rfl, rfl⟩ ⟨Nat.zero_le _, Nat.zero_le _⟩ rfl rfl (Nat.le_of_ble_eq_true rfl) dX10_go_6 (fun σ2 h => ?_)
  refine zx_iconst (v := (0 : Int32)) C dX10_go_9 (by decide) ?_
  refine zx_istore (lv' := [(4, .int (0 : Int32)), (0, .ref (g 223)), (1, .int a1), (2, .int a2), (3, .int a3)]) C dX10_go_10 (by decide) rfl ?_
  obtain ⟨n, h⟩ := h
  refine zx_lv (lv' := [(0, .ref (g 223)), (1, .int a1), (3, .int a3), (4, .int (0 : Int32))]) [1, 2, 4, 0] rfl ?_
  exact k_X10_go_12 C hr (a1) (a3)   n (0 : Int32) σ2 h
def w_X10_everyone  (σ : zSto) (P : Int32 → zSto → Prop) : Prop := P (((1 : Int32) <<< ((σ.1 223 26) &&& 31)) - (1 : Int32)) σ
set_option maxRecDepth 100000 in
set_option maxHeartbeats 4000000 in
theorem c_X10_everyone (l : Launch) (D : va_G) (cy : Nat → ClassId) (g : Nat → Nat)   (σ : zSto) {P : Int32 → zSto → Prop} (h : w_X10_everyone  σ P) : zMi l yX10_everyone cX10_everyone 1 (some .int) (zrm 0 0) D cy g [.ref (g 223)] σ P := by
  unfold w_X10_everyone at h
  refine zm_i RX10 rfl (by decide +kernel) (Nat.le_of_ble_eq_true rfl) ?_
  intro p e s m below meth c C hr
  refine zx_lv (lv' := [(0, .ref (g 223))]) [0] rfl ?_
  refine zx_iconst (v := (1 : Int32)) C dX10_everyone_0 (by decide) ?_
  refine zx_aload_n C dX10_everyone_1 0 rfl ?_
  refine zx_getI C zs_223 fg_X10_251 rfl dX10_everyone_2 ?_
  refine zx_ishl C dX10_everyone_5 ?_
  refine zx_iconst (v := (1 : Int32)) C dX10_everyone_6 (by decide) ?_
  refine zx_isub C dX10_everyone_7 ?_
  exact zx_iret C hr dX10_everyone_8 h
theorem lk_X10_307 : zLV RX10 307 RX10 yX10_everyone cX10_everyone 1 (some .int) 0 := zLV_of ml_X10_307 im_X10_everyone se_X10_everyone ini_X10 cd_X10_everyone (by decide +kernel)
theorem lk_X10_310 : zLV RX10 310 RX10 yX10_go cX10_go 5 none 3 := zLV_of ml_X10_310 im_X10_go se_X10_go ini_X10 cd_X10_go (by decide +kernel)
def w_X10_layRun (a1 : Int32) (a2 : Int32) (a3 : Int32) (a4 : Int32) (σ : zSto) (P : Int32 → zSto → Prop) : Prop := (w_X10_in a2 (-1 : Int32) (3 : Int32) σ (fun (r2 : Int32) (σ1 : zSto) => (r2 = 0 ∨ r2 = 1) → ((r2 = 0 → P (0 : Int32) σ1) ∧ (¬ r2 = 0 → (w_X10_hand a1 a4 σ1 (fun (r4 : Int32) (σ3 : zSto) => (r4 = 0 ∨ r4 = 1) → ((¬ r4 = 0 → (w_X10_everyone  σ3 (fun (r6 : Int32) (σ5 : zSto) => (w_X10_go a2 a3 r6 σ5 (fun (σ7 : zSto) => P (1 : Int32) σ7))))) ∧ (r4 = 0 → P (0 : Int32) σ3))))))))
set_option maxRecDepth 100000 in
set_option maxHeartbeats 4000000 in
theorem c_X10_layRun (l : Launch) (D : va_G) (cy : Nat → ClassId) (g : Nat → Nat) (a1 : Int32) (a2 : Int32) (a3 : Int32) (a4 : Int32)  (σ : zSto) {P : Int32 → zSto → Prop} (h : w_X10_layRun a1 a2 a3 a4 σ P) : zMb l yX10_layRun cX10_layRun 5 (some .boolean) (zrm 6 139) D cy g [.ref (g 223), .int a1, .int a2, .int a3, .int a4] σ P := by
  unfold w_X10_layRun at h
  refine zm_b RX10 rfl (by decide +kernel) (Nat.le_of_ble_eq_true rfl) ?_
  intro p e s m below meth c C hr
  refine zx_lv (lv' := [(0, .ref (g 223)), (1, .int a1), (2, .int a2), (3, .int a3), (4, .int a4)]) [0, 1, 2, 3, 4] rfl ?_
  refine zx_iload_n C dX10_layRun_0 2 rfl ?_
  refine zx_iconst (v := (-1 : Int32)) C dX10_layRun_1 (by decide) ?_
  refine zx_iconst (v := (3 : Int32)) C dX10_layRun_2 (by decide) ?_
  refine zx_cSb C [.int a2, .int (-1 : Int32), .int (3 : Int32)] lk_X10_103 (c_X10_in l D cy g a2 (-1 : Int32) (3 : Int32)  σ h) ⟨by decide, by decide⟩ ⟨rfl, rfl⟩ ⟨Nat.zero_le _, Nat.zero_le _⟩ rfl rfl (Nat.le_of_ble_eq_true rfl) dX10_layRun_3 (fun r2 σ1 hb h => ?_)
  replace h := h hb
  refine zx_if_eq C 19 dX10_layRun_6 (by decide) (fun q => ?_) (fun q => ?_)
  · replace h := h.1 q
    refine zx_iconst (v := (0 : Int32)) C dX10_layRun_19 (by decide) ?_
    exact zx_zret C hr dX10_layRun_20 (Or.inl rfl) h
  · replace h := h.2 q
    refine zx_aload_n C dX10_layRun_9 0 rfl ?_
    refine zx_iload_n C dX10_layRun_10 1 rfl ?_
    refine zx_iload C dX10_layRun_11 4 rfl ?_
    refine zx_cVb C [.int a1, .int a4] lk_X10_257 (c_X10_hand l D cy g a1 a4  σ1 h) zs_223 rfl ⟨by decide, by decide⟩ ⟨rfl, rfl⟩ ⟨Nat.zero_le _, Nat.zero_le _⟩ rfl rfl (Nat.le_of_ble_eq_true rfl) dX10_layRun_13 (fun r4 σ3 hb h => ?_)
    replace h := h hb
    refine zx_if_ne C 21 dX10_layRun_16 (by decide) (fun q => ?_) (fun q => ?_)
    · replace h := h.1 q
      refine zx_aload_n C dX10_layRun_21 0 rfl ?_
      refine zx_iload_n C dX10_layRun_22 2 rfl ?_
      refine zx_iload_n C dX10_layRun_23 3 rfl ?_
      refine zx_aload_n C dX10_layRun_24 0 rfl ?_
      refine zx_cVi C [] lk_X10_307 (c_X10_everyone l D cy g   σ3 h) zs_223 rfl ⟨by decide, by decide⟩ ⟨rfl, rfl⟩ ⟨Nat.zero_le _, Nat.zero_le _⟩ rfl rfl (Nat.le_of_ble_eq_true rfl) dX10_layRun_25 (fun r6 σ5 h => ?_)
      refine zx_cVv C [.int a2, .int a3, .int r6] lk_X10_310 (c_X10_go l D cy g a2 a3 r6  σ5 h) zs_223 rfl ⟨by decide, by decide⟩ ⟨rfl, rfl⟩ ⟨Nat.zero_le _, Nat.zero_le _⟩ rfl rfl (Nat.le_of_ble_eq_true rfl) dX10_layRun_28 (fun σ7 h => ?_)
      refine zx_iconst (v := (1 : Int32)) C dX10_layRun_31 (by decide) ?_
      exact zx_zret C hr dX10_layRun_32 (Or.inr rfl) h
    · replace h := h.2 q
      refine zx_iconst (v := (0 : Int32)) C dX10_layRun_19 (by decide) ?_
      exact zx_zret C hr dX10_layRun_20 (Or.inl rfl) h
def w_X10_gathered_4  (P : Int32 → zSto → Prop)  : Nat → Int32 → Int32 → zSto → Prop
  | 0, _, _, _ => False
  | n + 1, x_1, x_2, σ => (((σ.1 223 26) ≤ x_2 → P x_1 σ) ∧ (¬ (σ.1 223 26) ≤ x_2 → (vp_in x_2 6 ∧ (∀ x2 : Int32, x2 = (x_1 + (σ.1 241 (x_2).toNatClampNeg)) → (∀ x3 : Int32, x3 = (x_2 + (1 : Int32)) → w_X10_gathered_4 P n x2 x3 σ)))))
def w_X10_gathered  (σ : zSto) (P : Int32 → zSto → Prop) : Prop := (∃ n : Nat, w_X10_gathered_4  P  n (0 : Int32) (0 : Int32) σ)
set_option maxRecDepth 100000 in
set_option maxHeartbeats 4000000 in
theorem k_X10_gathered_4 {p : Program} {l : Launch} {e : Env} {s : State} {m : MethodId} {args : Array Value} {below : List Frame} {meth : Method} {c : Code} {D : va_G} {cy : Nat → ClassId} {g : Nat → Nat} (C : zC p s m args meth c cX10_gathered RX10 3 D cy g) (hr : meth.sig.returnType = (some .int)) {P : Int32 → zSto → Prop}     : ∀ (n : Nat) (x_1 : Int32) (x_2 : Int32) (σ : zSto), w_X10_gathered_4 P n x_1 x_2 σ → zX p l e (zrm 0 0) s m args below meth c 0 0 (zQi P below args s D cy g) 3 D cy g 4 [(0, .ref (g 223)), (1, .int x_1), (2, .int x_2)] [] σ := by
  intro n
  induction n with
  | zero => intro x_1 x_2 σ h; exact h.elim
  | succ n ih =>
    intro x_1 x_2 σ h
    unfold w_X10_gathered_4 at h
    refine zx_iload_n C dX10_gathered_4 2 rfl ?_
    refine zx_aload_n C dX10_gathered_5 0 rfl ?_
    refine zx_getI C zs_223 fg_X10_251 rfl dX10_gathered_6 ?_
    refine zx_icmp_ge C 27 dX10_gathered_9 (by decide) (fun q => ?_) (fun q => ?_)
    · replace h := h.1 q
      refine zx_iload_n C dX10_gathered_27 1 rfl ?_
      exact zx_iret C hr dX10_gathered_28 h
    · replace h := h.2 q
      refine zx_iload_n C dX10_gathered_12 1 rfl ?_
      refine zx_aload_n C dX10_gathered_13 0 rfl ?_
      refine zx_getR C zs_223 fg_X10_62 rfl 241 rfl dX10_gathered_14 ?_
      refine zx_iload_n C dX10_gathered_17 2 rfl ?_
      obtain ⟨bd1, h⟩ := h
      refine zx_iald C (x_2).toNatClampNeg zs_241 bd1 rfl dX10_gathered_18 ?_
      refine zx_iadd C dX10_gathered_19 ?_
      refine zx_topi (fun x2 ex2 => ?_)
      replace h := h x2 ex2
      refine zx_istore_n (lv' := [(1, .int x2), (0, .ref (g 223)), (2, .int x_2)]) C dX10_gathered_20 (by decide) rfl ?_
      obtain ⟨x3, ex3⟩ : ∃ y : Int32, y = (x_2 + (1 : Int32)) := ⟨_, rfl⟩
      replace h := h x3 ex3
      refine zx_iinc (v := x3) (lv' := [(2, .int x3), (1, .int x2), (0, .ref (g 223))]) C dX10_gathered_21 2 rfl (by rw [ex3]; rfl) (by decide) rfl ?_
      refine zx_goto C 4 dX10_gathered_24 (by decide) ?_
      refine zx_lv (lv' := [(0, .ref (g 223)), (1, .int x2), (2, .int x3)]) [2, 1, 0] rfl ?_
      exact ih x2 x3 σ h
set_option maxRecDepth 100000 in
set_option maxHeartbeats 4000000 in
theorem c_X10_gathered (l : Launch) (D : va_G) (cy : Nat → ClassId) (g : Nat → Nat)   (σ : zSto) {P : Int32 → zSto → Prop} (h : w_X10_gathered  σ P) : zMi l yX10_gathered cX10_gathered 3 (some .int) (zrm 0 0) D cy g [.ref (g 223)] σ P := by
  unfold w_X10_gathered at h
  refine zm_i RX10 rfl (by decide +kernel) (Nat.le_of_ble_eq_true rfl) ?_
  intro p e s m below meth c C hr
  refine zx_lv (lv' := [(0, .ref (g 223))]) [0] rfl ?_
  refine zx_iconst (v := (0 : Int32)) C dX10_gathered_0 (by decide) ?_
  refine zx_istore_n (lv' := [(1, .int (0 : Int32)), (0, .ref (g 223))]) C dX10_gathered_1 (by decide) rfl ?_
  refine zx_iconst (v := (0 : Int32)) C dX10_gathered_2 (by decide) ?_
  refine zx_istore_n (lv' := [(2, .int (0 : Int32)), (1, .int (0 : Int32)), (0, .ref (g 223))]) C dX10_gathered_3 (by decide) rfl ?_
  obtain ⟨n, h⟩ := h
  refine zx_lv (lv' := [(0, .ref (g 223)), (1, .int (0 : Int32)), (2, .int (0 : Int32))]) [2, 1, 0] rfl ?_
  exact k_X10_gathered_4 C hr    n (0 : Int32) (0 : Int32) σ h
def w_X10_stopsOf_4  (P : Int32 → zSto → Prop)  : Nat → Int32 → Int32 → zSto → Prop
  | 0, _, _, _ => False
  | n + 1, x_1, x_2, σ => (((σ.1 223 24) ≤ x_2 → P x_1 σ) ∧ (¬ (σ.1 223 24) ≤ x_2 → (vp_in x_2 16 ∧ (((σ.1 240 (x_2).toNatClampNeg) = (-1 : Int32) → (∀ x2 : Int32, x2 = (x_1 ||| (0 : Int32)) → (∀ x3 : Int32, x3 = (x_2 + (1 : Int32)) → w_X10_stopsOf_4 P n x2 x3 σ))) ∧ (¬ (σ.1 240 (x_2).toNatClampNeg) = (-1 : Int32) → (∀ x4 : Int32, x4 = (x_1 ||| ((1 : Int32) <<< (x_2 &&& 31))) → (∀ x5 : Int32, x5 = (x_2 + (1 : Int32)) → w_X10_stopsOf_4 P n x4 x5 σ)))))))
def w_X10_stopsOf  (σ : zSto) (P : Int32 → zSto → Prop) : Prop := (∃ n : Nat, w_X10_stopsOf_4  P  n (0 : Int32) (0 : Int32) σ)
set_option maxRecDepth 100000 in
set_option maxHeartbeats 4000000 in
theorem k_X10_stopsOf_4 {p : Program} {l : Launch} {e : Env} {s : State} {m : MethodId} {args : Array Value} {below : List Frame} {meth : Method} {c : Code} {D : va_G} {cy : Nat → ClassId} {g : Nat → Nat} (C : zC p s m args meth c cX10_stopsOf RX10 3 D cy g) (hr : meth.sig.returnType = (some .int)) {P : Int32 → zSto → Prop}     : ∀ (n : Nat) (x_1 : Int32) (x_2 : Int32) (σ : zSto), w_X10_stopsOf_4 P n x_1 x_2 σ → zX p l e (zrm 0 0) s m args below meth c 0 0 (zQi P below args s D cy g) 3 D cy g 4 [(0, .ref (g 223)), (1, .int x_1), (2, .int x_2)] [] σ := by
  intro n
  induction n with
  | zero => intro x_1 x_2 σ h; exact h.elim
  | succ n ih =>
    intro x_1 x_2 σ h
    unfold w_X10_stopsOf_4 at h
    refine zx_iload_n C dX10_stopsOf_4 2 rfl ?_
    refine zx_aload_n C dX10_stopsOf_5 0 rfl ?_
    refine zx_getI C zs_223 fg_X10_245 rfl dX10_stopsOf_6 ?_
    refine zx_icmp_ge C 38 dX10_stopsOf_9 (by decide) (fun q => ?_) (fun q => ?_)
    · replace h := h.1 q
      refine zx_iload_n C dX10_stopsOf_38 1 rfl ?_
      exact zx_iret C hr dX10_stopsOf_39 h
    · replace h := h.2 q
      refine zx_iload_n C dX10_stopsOf_12 1 rfl ?_
      refine zx_aload_n C dX10_stopsOf_13 0 rfl ?_
      refine zx_getR C zs_223 fg_X10_59 rfl 240 rfl dX10_stopsOf_14 ?_
      refine zx_iload_n C dX10_stopsOf_17 2 rfl ?_
      obtain ⟨bd1, h⟩ := h
      refine zx_iald C (x_2).toNatClampNeg zs_240 bd1 rfl dX10_stopsOf_18 ?_
      refine zx_iconst (v := (-1 : Int32)) C dX10_stopsOf_19 (by decide) ?_
      refine zx_icmp_eq C 29 dX10_stopsOf_20 (by decide) (fun q => ?_) (fun q => ?_)
      · replace h := h.1 q
        refine zx_iconst (v := (0 : Int32)) C dX10_stopsOf_29 (by decide) ?_
        refine zx_ior C dX10_stopsOf_30 ?_
        refine zx_topi (fun x2 ex2 => ?_)
        replace h := h x2 ex2
        refine zx_istore_n (lv' := [(1, .int x2), (0, .ref (g 223)), (2, .int x_2)]) C dX10_stopsOf_31 (by decide) rfl ?_
        obtain ⟨x3, ex3⟩ : ∃ y : Int32, y = (x_2 + (1 : Int32)) := ⟨_, rfl⟩
        replace h := h x3 ex3
        refine zx_iinc (v := x3) (lv' := [(2, .int x3), (1, .int x2), (0, .ref (g 223))]) C dX10_stopsOf_32 2 rfl (by rw [ex3]; rfl) (by decide) rfl ?_
        refine zx_goto C 4 dX10_stopsOf_35 (by decide) ?_
        refine zx_lv (lv' := [(0, .ref (g 223)), (1, .int x2), (2, .int x3)]) [2, 1, 0] rfl ?_
        exact ih x2 x3 σ h
      · replace h := h.2 q
        refine zx_iconst (v := (1 : Int32)) C dX10_stopsOf_23 (by decide) ?_
        refine zx_iload_n C dX10_stopsOf_24 2 rfl ?_
        refine zx_ishl C dX10_stopsOf_25 ?_
        refine zx_goto C 30 dX10_stopsOf_26 (by decide) ?_
        refine zx_ior C dX10_stopsOf_30 ?_
        refine zx_topi (fun x4 ex4 => ?_)
        replace h := h x4 ex4
        refine zx_istore_n (lv' := [(1, .int x4), (0, .ref (g 223)), (2, .int x_2)]) C dX10_stopsOf_31 (by decide) rfl ?_
        obtain ⟨x5, ex5⟩ : ∃ y : Int32, y = (x_2 + (1 : Int32)) := ⟨_, rfl⟩
        replace h := h x5 ex5
        refine zx_iinc (v := x5) (lv' := [(2, .int x5), (1, .int x4), (0, .ref (g 223))]) C dX10_stopsOf_32 2 rfl (by rw [ex5]; rfl) (by decide) rfl ?_
        refine zx_goto C 4 dX10_stopsOf_35 (by decide) ?_
        refine zx_lv (lv' := [(0, .ref (g 223)), (1, .int x4), (2, .int x5)]) [2, 1, 0] rfl ?_
        exact ih x4 x5 σ h
set_option maxRecDepth 100000 in
set_option maxHeartbeats 4000000 in
theorem c_X10_stopsOf (l : Launch) (D : va_G) (cy : Nat → ClassId) (g : Nat → Nat)   (σ : zSto) {P : Int32 → zSto → Prop} (h : w_X10_stopsOf  σ P) : zMi l yX10_stopsOf cX10_stopsOf 3 (some .int) (zrm 0 0) D cy g [.ref (g 223)] σ P := by
  unfold w_X10_stopsOf at h
  refine zm_i RX10 rfl (by decide +kernel) (Nat.le_of_ble_eq_true rfl) ?_
  intro p e s m below meth c C hr
  refine zx_lv (lv' := [(0, .ref (g 223))]) [0] rfl ?_
  refine zx_iconst (v := (0 : Int32)) C dX10_stopsOf_0 (by decide) ?_
  refine zx_istore_n (lv' := [(1, .int (0 : Int32)), (0, .ref (g 223))]) C dX10_stopsOf_1 (by decide) rfl ?_
  refine zx_iconst (v := (0 : Int32)) C dX10_stopsOf_2 (by decide) ?_
  refine zx_istore_n (lv' := [(2, .int (0 : Int32)), (1, .int (0 : Int32)), (0, .ref (g 223))]) C dX10_stopsOf_3 (by decide) rfl ?_
  obtain ⟨n, h⟩ := h
  refine zx_lv (lv' := [(0, .ref (g 223)), (1, .int (0 : Int32)), (2, .int (0 : Int32))]) [2, 1, 0] rfl ?_
  exact k_X10_stopsOf_4 C hr    n (0 : Int32) (0 : Int32) σ h
theorem lk_X10_313 : zLV RX10 313 RX10 yX10_layRun cX10_layRun 5 (some .boolean) 4 := zLV_of ml_X10_313 im_X10_layRun se_X10_layRun ini_X10 cd_X10_layRun (by decide +kernel)
theorem lk_X10_317 : zLV RX10 317 RX10 yX10_gathered cX10_gathered 3 (some .int) 0 := zLV_of ml_X10_317 im_X10_gathered se_X10_gathered ini_X10 cd_X10_gathered (by decide +kernel)
theorem lk_X10_320 : zLV RX10 320 RX10 yX10_stopsOf cX10_stopsOf 3 (some .int) 0 := zLV_of ml_X10_320 im_X10_stopsOf se_X10_stopsOf ini_X10 cd_X10_stopsOf (by decide +kernel)
theorem lk_X10_323 : zLS RX10 323 yX10_ones cX10_ones 3 (some .int) 1 := zLS_of ml_X10_323 st_X10_ones ini_X10 cd_X10_ones (by decide +kernel)
def w_X10_run (a1 : Int32) (a2 : Int32) (a3 : Int32) (a4 : Int32) (a5 : Int32) (σ : zSto) (P : Int32 → zSto → Prop) : Prop := (∀ σ1 : zSto, σ1 = zI σ 223 0 (0 : Int32) → (w_X10_layRun a1 a2 a3 a4 σ1 (fun (r3 : Int32) (σ2 : zSto) => (r3 = 0 ∨ r3 = 1) → ((¬ r3 = 0 → (w_X10_in a5 (100 : Int32) ((100 : Int32) + (σ2.1 223 25)) σ2 (fun (r5 : Int32) (σ4 : zSto) => (r5 = 0 ∨ r5 = 1) → ((r5 = 0 → (w_X10_in a5 (200 : Int32) ((199 : Int32) + (σ4.1 223 26)) σ4 (fun (r7 : Int32) (σ6 : zSto) => (r7 = 0 ∨ r7 = 1) → ((r7 = 0 → ((a5 = 0 → (vp_in (σ6.1 223 25) 16 ∧ P (σ6.1 239 ((σ6.1 223 25)).toNatClampNeg) σ6)) ∧ (a5 = 1 → (w_X10_gathered  σ6 (fun (r10 : Int32) (σ9 : zSto) => P r10 σ9))) ∧ (a5 = 2 → (w_X10_stopsOf  σ6 (fun (r12 : Int32) (σ11 : zSto) => (w_X10_ones r12 σ11 (fun (r14 : Int32) (σ13 : zSto) => P r14 σ13))))) ∧ (a5 = 3 → P (σ6.1 223 31) σ6) ∧ (a5 = 4 → P (σ6.1 223 32) σ6) ∧ (a5 = 5 → P (σ6.1 223 33) σ6) ∧ (a5 = 6 → P (σ6.1 223 34) σ6) ∧ (a5 = 7 → (w_X10_stopsOf  σ6 (fun (r16 : Int32) (σ15 : zSto) => P r16 σ15))) ∧ ((a5.toInt < 0 ∨ 7 < a5.toInt) → P (-2 : Int32) σ6))) ∧ (¬ r7 = 0 → (vp_in (a5 - (200 : Int32)) 6 ∧ P (σ6.1 243 ((a5 - (200 : Int32))).toNatClampNeg) σ6)))))) ∧ (¬ r5 = 0 → (vp_in (a5 - (100 : Int32)) 16 ∧ P (σ4.1 239 ((a5 - (100 : Int32))).toNatClampNeg) σ4)))))) ∧ (r3 = 0 → P (-2 : Int32) σ2)))))
set_option maxRecDepth 100000 in
set_option maxHeartbeats 4000000 in
theorem c_X10_run (l : Launch) (D : va_G) (cy : Nat → ClassId) (g : Nat → Nat) (a1 : Int32) (a2 : Int32) (a3 : Int32) (a4 : Int32) (a5 : Int32)  (σ : zSto) {P : Int32 → zSto → Prop} (h : w_X10_run a1 a2 a3 a4 a5 σ P) : zMi l yX10_run cX10_run 6 (some .int) (zrm 7 163) D cy g [.ref (g 223), .int a1, .int a2, .int a3, .int a4, .int a5] σ P := by
  unfold w_X10_run at h
  refine zm_i RX10 rfl (by decide +kernel) (Nat.le_of_ble_eq_true rfl) ?_
  intro p e s m below meth c C hr
  refine zx_lv (lv' := [(0, .ref (g 223)), (1, .int a1), (2, .int a2), (3, .int a3), (4, .int a4), (5, .int a5)]) [0, 1, 2, 3, 4, 5] rfl ?_
  refine zx_aload_n C dX10_run_0 0 rfl ?_
  refine zx_iconst (v := (0 : Int32)) C dX10_run_1 (by decide) ?_
  refine zx_putI C zs_223 fp_X10_91 rfl dX10_run_2 ?_
  refine zx_sig (fun σ1 eσ1 => ?_)
  replace h := h σ1 eσ1
  refine zx_aload_n C dX10_run_5 0 rfl ?_
  refine zx_iload_n C dX10_run_6 1 rfl ?_
  refine zx_iload_n C dX10_run_7 2 rfl ?_
  refine zx_iload_n C dX10_run_8 3 rfl ?_
  refine zx_iload C dX10_run_9 4 rfl ?_
  refine zx_cVb C [.int a1, .int a2, .int a3, .int a4] lk_X10_313 (c_X10_layRun l D cy g a1 a2 a3 a4  σ1 h) zs_223 rfl ⟨by decide, by decide⟩ ⟨rfl, rfl⟩ ⟨Nat.zero_le _, Nat.zero_le _⟩ rfl rfl (Nat.le_of_ble_eq_true rfl) dX10_run_11 (fun r3 σ2 hb h => ?_)
  replace h := h hb
  refine zx_if_ne C 20 dX10_run_14 (by decide) (fun q => ?_) (fun q => ?_)
  · replace h := h.1 q
    refine zx_iload C dX10_run_20 5 rfl ?_
    refine zx_bipush (v := (100 : Int32)) C dX10_run_22 (by decide) ?_
    refine zx_bipush (v := (100 : Int32)) C dX10_run_24 (by decide) ?_
    refine zx_aload_n C dX10_run_26 0 rfl ?_
    refine zx_getI C zs_223 fg_X10_248 rfl dX10_run_27 ?_
    refine zx_iadd C dX10_run_30 ?_
    refine zx_cSb C [.int a5, .int (100 : Int32), .int ((100 : Int32) + (σ2.1 223 25))] lk_X10_103 (c_X10_in l D cy g a5 (100 : Int32) ((100 : Int32) + (σ2.1 223 25))  σ2 h) ⟨by decide, by decide⟩ ⟨rfl, rfl⟩ ⟨Nat.zero_le _, Nat.zero_le _⟩ rfl rfl (Nat.le_of_ble_eq_true rfl) dX10_run_31 (fun r5 σ4 hb h => ?_)
    replace h := h hb
    refine zx_if_eq C 48 dX10_run_34 (by decide) (fun q => ?_) (fun q => ?_)
    · replace h := h.1 q
      refine zx_iload C dX10_run_48 5 rfl ?_
      refine zx_sipush (v := (200 : Int32)) C dX10_run_50 (by decide) ?_
      refine zx_sipush (v := (199 : Int32)) C dX10_run_53 (by decide) ?_
      refine zx_aload_n C dX10_run_56 0 rfl ?_
      refine zx_getI C zs_223 fg_X10_251 rfl dX10_run_57 ?_
      refine zx_iadd C dX10_run_60 ?_
      refine zx_cSb C [.int a5, .int (200 : Int32), .int ((199 : Int32) + (σ4.1 223 26))] lk_X10_103 (c_X10_in l D cy g a5 (200 : Int32) ((199 : Int32) + (σ4.1 223 26))  σ4 h) ⟨by decide, by decide⟩ ⟨rfl, rfl⟩ ⟨Nat.zero_le _, Nat.zero_le _⟩ rfl rfl (Nat.le_of_ble_eq_true rfl) dX10_run_61 (fun r7 σ6 hb h => ?_)
      replace h := h hb
      refine zx_if_eq C 79 dX10_run_64 (by decide) (fun q => ?_) (fun q => ?_)
      · replace h := h.1 q
        refine zx_iload C dX10_run_79 5 rfl ?_
        refine zsw (x := a5) 7 (fun q => ?_) (fun i hi q => ?_)
        · replace h := h.2.2.2.2.2.2.2.2 q
          refine zx_tableOut C 176 dX10_run_81 q (by decide) ?_
          refine zx_bipush (v := (-2 : Int32)) C dX10_run_176 (by decide) ?_
          exact zx_iret C hr dX10_run_178 h
        · match i, hi, q with
          | 0, _, q =>
            replace h := h.1 q
            refine zx_tableIn C 128 (0 : Int32) q dX10_run_81 (by decide) (by decide) rfl (by decide) ?_
            refine zx_aload_n C dX10_run_128 0 rfl ?_
            refine zx_getR C zs_223 fg_X10_56 rfl 239 rfl dX10_run_129 ?_
            refine zx_aload_n C dX10_run_132 0 rfl ?_
            refine zx_getI C zs_223 fg_X10_248 rfl dX10_run_133 ?_
            obtain ⟨bd8, h⟩ := h
            refine zx_iald C ((σ6.1 223 25)).toNatClampNeg zs_239 bd8 rfl dX10_run_136 ?_
            exact zx_iret C hr dX10_run_137 h
          | 1, _, q =>
            replace h := h.2.1 q
            refine zx_tableIn C 138 (1 : Int32) q dX10_run_81 (by decide) (by decide) rfl (by decide) ?_
            refine zx_aload_n C dX10_run_138 0 rfl ?_
            refine zx_cVi C [] lk_X10_317 (c_X10_gathered l D cy g   σ6 h) zs_223 rfl ⟨by decide, by decide⟩ ⟨rfl, rfl⟩ ⟨Nat.zero_le _, Nat.zero_le _⟩ rfl rfl (Nat.le_of_ble_eq_true rfl) dX10_run_139 (fun r10 σ9 h => ?_)
            exact zx_iret C hr dX10_run_142 h
          | 2, _, q =>
            replace h := h.2.2.1 q
            refine zx_tableIn C 143 (2 : Int32) q dX10_run_81 (by decide) (by decide) rfl (by decide) ?_
            refine zx_aload_n C dX10_run_143 0 rfl ?_
            refine zx_cVi C [] lk_X10_320 (c_X10_stopsOf l D cy g   σ6 h) zs_223 rfl ⟨by decide, by decide⟩ ⟨rfl, rfl⟩ ⟨Nat.zero_le _, Nat.zero_le _⟩ rfl rfl (Nat.le_of_ble_eq_true rfl) dX10_run_144 (fun r12 σ11 h => ?_)
            refine zx_cSi C [.int r12] lk_X10_323 (c_X10_ones l D cy g r12  σ11 h) ⟨by decide, by decide⟩ ⟨rfl, rfl⟩ ⟨Nat.zero_le _, Nat.zero_le _⟩ rfl rfl (Nat.le_of_ble_eq_true rfl) dX10_run_147 (fun r14 σ13 h => ?_)
            exact zx_iret C hr dX10_run_150 h
          | 3, _, q =>
            replace h := h.2.2.2.1 q
            refine zx_tableIn C 151 (3 : Int32) q dX10_run_81 (by decide) (by decide) rfl (by decide) ?_
            refine zx_aload_n C dX10_run_151 0 rfl ?_
            refine zx_getI C zs_223 fg_X10_276 rfl dX10_run_152 ?_
            exact zx_iret C hr dX10_run_155 h
          | 4, _, q =>
            replace h := h.2.2.2.2.1 q
            refine zx_tableIn C 156 (4 : Int32) q dX10_run_81 (by decide) (by decide) rfl (by decide) ?_
            refine zx_aload_n C dX10_run_156 0 rfl ?_
            refine zx_getI C zs_223 fg_X10_285 rfl dX10_run_157 ?_
            exact zx_iret C hr dX10_run_160 h
          | 5, _, q =>
            replace h := h.2.2.2.2.2.1 q
            refine zx_tableIn C 161 (5 : Int32) q dX10_run_81 (by decide) (by decide) rfl (by decide) ?_
            refine zx_aload_n C dX10_run_161 0 rfl ?_
            refine zx_getI C zs_223 fg_X10_288 rfl dX10_run_162 ?_
            exact zx_iret C hr dX10_run_165 h
          | 6, _, q =>
            replace h := h.2.2.2.2.2.2.1 q
            refine zx_tableIn C 166 (6 : Int32) q dX10_run_81 (by decide) (by decide) rfl (by decide) ?_
            refine zx_aload_n C dX10_run_166 0 rfl ?_
            refine zx_getI C zs_223 fg_X10_291 rfl dX10_run_167 ?_
            exact zx_iret C hr dX10_run_170 h
          | 7, _, q =>
            replace h := h.2.2.2.2.2.2.2.1 q
            refine zx_tableIn C 171 (7 : Int32) q dX10_run_81 (by decide) (by decide) rfl (by decide) ?_
            refine zx_aload_n C dX10_run_171 0 rfl ?_
            refine zx_cVi C [] lk_X10_320 (c_X10_stopsOf l D cy g   σ6 h) zs_223 rfl ⟨by decide, by decide⟩ ⟨rfl, rfl⟩ ⟨Nat.zero_le _, Nat.zero_le _⟩ rfl rfl (Nat.le_of_ble_eq_true rfl) dX10_run_172 (fun r16 σ15 h => ?_)
            exact zx_iret C hr dX10_run_175 h
          | i + 8, hi, _ => exact absurd hi (by omega)
      · replace h := h.2 q
        refine zx_aload_n C dX10_run_67 0 rfl ?_
        refine zx_getR C zs_223 fg_X10_68 rfl 243 rfl dX10_run_68 ?_
        refine zx_iload C dX10_run_71 5 rfl ?_
        refine zx_sipush (v := (200 : Int32)) C dX10_run_73 (by decide) ?_
        refine zx_isub C dX10_run_76 ?_
        obtain ⟨bd17, h⟩ := h
        refine zx_iald C ((a5 - (200 : Int32))).toNatClampNeg zs_243 bd17 rfl dX10_run_77 ?_
        exact zx_iret C hr dX10_run_78 h
    · replace h := h.2 q
      refine zx_aload_n C dX10_run_37 0 rfl ?_
      refine zx_getR C zs_223 fg_X10_56 rfl 239 rfl dX10_run_38 ?_
      refine zx_iload C dX10_run_41 5 rfl ?_
      refine zx_bipush (v := (100 : Int32)) C dX10_run_43 (by decide) ?_
      refine zx_isub C dX10_run_45 ?_
      obtain ⟨bd18, h⟩ := h
      refine zx_iald C ((a5 - (100 : Int32))).toNatClampNeg zs_239 bd18 rfl dX10_run_46 ?_
      exact zx_iret C hr dX10_run_47 h
  · replace h := h.2 q
    refine zx_bipush (v := (-2 : Int32)) C dX10_run_17 (by decide) ?_
    exact zx_iret C hr dX10_run_19 h
def w_X10_who (a1 : Int32) (a2 : Int32) (a3 : Int32) (a4 : Int32) (a5 : Int32) (σ : zSto) (P : Int32 → zSto → Prop) : Prop := (∀ σ1 : zSto, σ1 = zI σ 223 0 (0 : Int32) → (w_X10_layRun a1 a2 a3 a4 σ1 (fun (r3 : Int32) (σ2 : zSto) => (r3 = 0 ∨ r3 = 1) → ((r3 = 0 → P (-2 : Int32) σ2) ∧ (¬ r3 = 0 → (w_X10_isPost a5 σ2 (fun (r5 : Int32) (σ4 : zSto) => (r5 = 0 ∨ r5 = 1) → ((r5 = 0 → P (-2 : Int32) σ4) ∧ (¬ r5 = 0 → (vp_in a5 16 ∧ P (σ4.1 240 (a5).toNatClampNeg) σ4))))))))))
set_option maxRecDepth 100000 in
set_option maxHeartbeats 4000000 in
theorem c_X10_who (l : Launch) (D : va_G) (cy : Nat → ClassId) (g : Nat → Nat) (a1 : Int32) (a2 : Int32) (a3 : Int32) (a4 : Int32) (a5 : Int32)  (σ : zSto) {P : Int32 → zSto → Prop} (h : w_X10_who a1 a2 a3 a4 a5 σ P) : zMi l yX10_who cX10_who 6 (some .int) (zrm 7 163) D cy g [.ref (g 223), .int a1, .int a2, .int a3, .int a4, .int a5] σ P := by
  unfold w_X10_who at h
  refine zm_i RX10 rfl (by decide +kernel) (Nat.le_of_ble_eq_true rfl) ?_
  intro p e s m below meth c C hr
  refine zx_lv (lv' := [(0, .ref (g 223)), (1, .int a1), (2, .int a2), (3, .int a3), (4, .int a4), (5, .int a5)]) [0, 1, 2, 3, 4, 5] rfl ?_
  refine zx_aload_n C dX10_who_0 0 rfl ?_
  refine zx_iconst (v := (0 : Int32)) C dX10_who_1 (by decide) ?_
  refine zx_putI C zs_223 fp_X10_91 rfl dX10_who_2 ?_
  refine zx_sig (fun σ1 eσ1 => ?_)
  replace h := h σ1 eσ1
  refine zx_aload_n C dX10_who_5 0 rfl ?_
  refine zx_iload_n C dX10_who_6 1 rfl ?_
  refine zx_iload_n C dX10_who_7 2 rfl ?_
  refine zx_iload_n C dX10_who_8 3 rfl ?_
  refine zx_iload C dX10_who_9 4 rfl ?_
  refine zx_cVb C [.int a1, .int a2, .int a3, .int a4] lk_X10_313 (c_X10_layRun l D cy g a1 a2 a3 a4  σ1 h) zs_223 rfl ⟨by decide, by decide⟩ ⟨rfl, rfl⟩ ⟨Nat.zero_le _, Nat.zero_le _⟩ rfl rfl (Nat.le_of_ble_eq_true rfl) dX10_who_11 (fun r3 σ2 hb h => ?_)
  replace h := h hb
  refine zx_if_eq C 36 dX10_who_14 (by decide) (fun q => ?_) (fun q => ?_)
  · replace h := h.1 q
    refine zx_bipush (v := (-2 : Int32)) C dX10_who_36 (by decide) ?_
    exact zx_iret C hr dX10_who_38 h
  · replace h := h.2 q
    refine zx_aload_n C dX10_who_17 0 rfl ?_
    refine zx_iload C dX10_who_18 5 rfl ?_
    refine zx_cVb C [.int a5] lk_X10_260 (c_X10_isPost l D cy g a5  σ2 h) zs_223 rfl ⟨by decide, by decide⟩ ⟨rfl, rfl⟩ ⟨Nat.zero_le _, Nat.zero_le _⟩ rfl rfl (Nat.le_of_ble_eq_true rfl) dX10_who_20 (fun r5 σ4 hb h => ?_)
    replace h := h hb
    refine zx_if_eq C 36 dX10_who_23 (by decide) (fun q => ?_) (fun q => ?_)
    · replace h := h.1 q
      refine zx_bipush (v := (-2 : Int32)) C dX10_who_36 (by decide) ?_
      exact zx_iret C hr dX10_who_38 h
    · replace h := h.2 q
      refine zx_aload_n C dX10_who_26 0 rfl ?_
      refine zx_getR C zs_223 fg_X10_59 rfl 240 rfl dX10_who_27 ?_
      refine zx_iload C dX10_who_30 5 rfl ?_
      obtain ⟨bd6, h⟩ := h
      refine zx_iald C (a5).toNatClampNeg zs_240 bd6 rfl dX10_who_32 ?_
      refine zx_goto C 38 dX10_who_33 (by decide) ?_
      exact zx_iret C hr dX10_who_38 h
def w_X10_late (a1 : Int32) (a2 : Int32) (a3 : Int32) (a4 : Int32) (a5 : Int32) (σ : zSto) (P : Int32 → zSto → Prop) : Prop := (∀ σ1 : zSto, σ1 = zI σ 223 0 (0 : Int32) → (w_X10_layRun a1 a2 a3 a4 σ1 (fun (r3 : Int32) (σ2 : zSto) => (r3 = 0 ∨ r3 = 1) → ((r3 = 0 → P (-1 : Int32) σ2) ∧ (¬ r3 = 0 → (w_X10_isPost a5 σ2 (fun (r5 : Int32) (σ4 : zSto) => (r5 = 0 ∨ r5 = 1) → ((r5 = 0 → P (-1 : Int32) σ4) ∧ (¬ r5 = 0 → (w_X10_postOf a5 (4 : Int32) σ4 (fun (r7 : Int32) (σ6 : zSto) => ((¬ r7 = (-1 : Int32) → (vp_in a5 16 ∧ (w_X10_postOf a5 (4 : Int32) σ6 (fun (r10 : Int32) (σ9 : zSto) => (w_X10_greater (0 : Int32) ((σ6.1 239 (a5).toNatClampNeg) - r10) σ9 (fun (r12 : Int32) (σ11 : zSto) => P r12 σ11)))))) ∧ (r7 = (-1 : Int32) → P (-1 : Int32) σ6)))))))))))))
set_option maxRecDepth 100000 in
set_option maxHeartbeats 4000000 in
theorem c_X10_late (l : Launch) (D : va_G) (cy : Nat → ClassId) (g : Nat → Nat) (a1 : Int32) (a2 : Int32) (a3 : Int32) (a4 : Int32) (a5 : Int32)  (σ : zSto) {P : Int32 → zSto → Prop} (h : w_X10_late a1 a2 a3 a4 a5 σ P) : zMi l yX10_late cX10_late 6 (some .int) (zrm 7 163) D cy g [.ref (g 223), .int a1, .int a2, .int a3, .int a4, .int a5] σ P := by
  unfold w_X10_late at h
  refine zm_i RX10 rfl (by decide +kernel) (Nat.le_of_ble_eq_true rfl) ?_
  intro p e s m below meth c C hr
  refine zx_lv (lv' := [(0, .ref (g 223)), (1, .int a1), (2, .int a2), (3, .int a3), (4, .int a4), (5, .int a5)]) [0, 1, 2, 3, 4, 5] rfl ?_
  refine zx_aload_n C dX10_late_0 0 rfl ?_
  refine zx_iconst (v := (0 : Int32)) C dX10_late_1 (by decide) ?_
  refine zx_putI C zs_223 fp_X10_91 rfl dX10_late_2 ?_
  refine zx_sig (fun σ1 eσ1 => ?_)
  replace h := h σ1 eσ1
  refine zx_aload_n C dX10_late_5 0 rfl ?_
  refine zx_iload_n C dX10_late_6 1 rfl ?_
  refine zx_iload_n C dX10_late_7 2 rfl ?_
  refine zx_iload_n C dX10_late_8 3 rfl ?_
  refine zx_iload C dX10_late_9 4 rfl ?_
  refine zx_cVb C [.int a1, .int a2, .int a3, .int a4] lk_X10_313 (c_X10_layRun l D cy g a1 a2 a3 a4  σ1 h) zs_223 rfl ⟨by decide, by decide⟩ ⟨rfl, rfl⟩ ⟨Nat.zero_le _, Nat.zero_le _⟩ rfl rfl (Nat.le_of_ble_eq_true rfl) dX10_late_11 (fun r3 σ2 hb h => ?_)
  replace h := h hb
  refine zx_if_eq C 37 dX10_late_14 (by decide) (fun q => ?_) (fun q => ?_)
  · replace h := h.1 q
    refine zx_iconst (v := (-1 : Int32)) C dX10_late_37 (by decide) ?_
    exact zx_iret C hr dX10_late_38 h
  · replace h := h.2 q
    refine zx_aload_n C dX10_late_17 0 rfl ?_
    refine zx_iload C dX10_late_18 5 rfl ?_
    refine zx_cVb C [.int a5] lk_X10_260 (c_X10_isPost l D cy g a5  σ2 h) zs_223 rfl ⟨by decide, by decide⟩ ⟨rfl, rfl⟩ ⟨Nat.zero_le _, Nat.zero_le _⟩ rfl rfl (Nat.le_of_ble_eq_true rfl) dX10_late_20 (fun r5 σ4 hb h => ?_)
    replace h := h hb
    refine zx_if_eq C 37 dX10_late_23 (by decide) (fun q => ?_) (fun q => ?_)
    · replace h := h.1 q
      refine zx_iconst (v := (-1 : Int32)) C dX10_late_37 (by decide) ?_
      exact zx_iret C hr dX10_late_38 h
    · replace h := h.2 q
      refine zx_aload_n C dX10_late_26 0 rfl ?_
      refine zx_iload C dX10_late_27 5 rfl ?_
      refine zx_iconst (v := (4 : Int32)) C dX10_late_29 (by decide) ?_
      refine zx_cVi C [.int a5, .int (4 : Int32)] lk_X10_242 (c_X10_postOf l D cy g a5 (4 : Int32)  σ4 h) zs_223 rfl ⟨by decide, by decide⟩ ⟨rfl, rfl⟩ ⟨Nat.zero_le _, Nat.zero_le _⟩ rfl rfl (Nat.le_of_ble_eq_true rfl) dX10_late_30 (fun r7 σ6 h => ?_)
      refine zx_iconst (v := (-1 : Int32)) C dX10_late_33 (by decide) ?_
      refine zx_icmp_ne C 39 dX10_late_34 (by decide) (fun q => ?_) (fun q => ?_)
      · replace h := h.1 q
        refine zx_iconst (v := (0 : Int32)) C dX10_late_39 (by decide) ?_
        refine zx_aload_n C dX10_late_40 0 rfl ?_
        refine zx_getR C zs_223 fg_X10_56 rfl 239 rfl dX10_late_41 ?_
        refine zx_iload C dX10_late_44 5 rfl ?_
        obtain ⟨bd8, h⟩ := h
        refine zx_iald C (a5).toNatClampNeg zs_239 bd8 rfl dX10_late_46 ?_
        refine zx_aload_n C dX10_late_47 0 rfl ?_
        refine zx_iload C dX10_late_48 5 rfl ?_
        refine zx_iconst (v := (4 : Int32)) C dX10_late_50 (by decide) ?_
        refine zx_cVi C [.int a5, .int (4 : Int32)] lk_X10_242 (c_X10_postOf l D cy g a5 (4 : Int32)  σ6 h) zs_223 rfl ⟨by decide, by decide⟩ ⟨rfl, rfl⟩ ⟨Nat.zero_le _, Nat.zero_le _⟩ rfl rfl (Nat.le_of_ble_eq_true rfl) dX10_late_51 (fun r10 σ9 h => ?_)
        refine zx_isub C dX10_late_54 ?_
        refine zx_cSi C [.int (0 : Int32), .int ((σ6.1 239 (a5).toNatClampNeg) - r10)] lk_X10_160 (c_X10_greater l D cy g (0 : Int32) ((σ6.1 239 (a5).toNatClampNeg) - r10)  σ9 h) ⟨by decide, by decide⟩ ⟨rfl, rfl⟩ ⟨Nat.zero_le _, Nat.zero_le _⟩ rfl rfl (Nat.le_of_ble_eq_true rfl) dX10_late_55 (fun r12 σ11 h => ?_)
        exact zx_iret C hr dX10_late_58 h
      · replace h := h.2 q
        refine zx_iconst (v := (-1 : Int32)) C dX10_late_37 (by decide) ?_
        exact zx_iret C hr dX10_late_38 h
def w_X10_poundsOf_4 (x_1 : Int32) (P : Int32 → zSto → Prop)  : Nat → Int32 → Int32 → zSto → Prop
  | 0, _, _, _ => False
  | n + 1, x_2, x_3, σ => (((σ.1 223 25) ≤ x_3 → P x_2 σ) ∧ (¬ (σ.1 223 25) ≤ x_3 → (w_X10_has x_1 x_3 σ (fun (r2 : Int32) (σ1 : zSto) => (r2 = 0 ∨ r2 = 1) → ((r2 = 0 → (∀ x3 : Int32, x3 = (x_2 + (0 : Int32)) → (∀ x4 : Int32, x4 = (x_3 + (1 : Int32)) → w_X10_poundsOf_4 x_1 P n x3 x4 σ1))) ∧ (¬ r2 = 0 → (vp_in x_3 16 ∧ (∀ x6 : Int32, x6 = (x_2 + (σ1.1 238 (x_3).toNatClampNeg)) → (∀ x7 : Int32, x7 = (x_3 + (1 : Int32)) → w_X10_poundsOf_4 x_1 P n x6 x7 σ1)))))))))
def w_X10_poundsOf (a1 : Int32) (σ : zSto) (P : Int32 → zSto → Prop) : Prop := (∃ n : Nat, w_X10_poundsOf_4 a1 P  n (0 : Int32) (0 : Int32) σ)
set_option maxRecDepth 100000 in
set_option maxHeartbeats 4000000 in
theorem k_X10_poundsOf_4 {p : Program} {l : Launch} {e : Env} {s : State} {m : MethodId} {args : Array Value} {below : List Frame} {meth : Method} {c : Code} {D : va_G} {cy : Nat → ClassId} {g : Nat → Nat} (C : zC p s m args meth c cX10_poundsOf RX10 4 D cy g) (hr : meth.sig.returnType = (some .int)) {P : Int32 → zSto → Prop} (x_1 : Int32)    : ∀ (n : Nat) (x_2 : Int32) (x_3 : Int32) (σ : zSto), w_X10_poundsOf_4 x_1 P n x_2 x_3 σ → zX p l e (zrm 1 21) s m args below meth c 0 0 (zQi P below args s D cy g) 4 D cy g 4 [(0, .ref (g 223)), (1, .int x_1), (2, .int x_2), (3, .int x_3)] [] σ := by
  intro n
  induction n with
  | zero => intro x_2 x_3 σ h; exact h.elim
  | succ n ih =>
    intro x_2 x_3 σ h
    unfold w_X10_poundsOf_4 at h
    refine zx_iload_n C dX10_poundsOf_4 3 rfl ?_
    refine zx_aload_n C dX10_poundsOf_5 0 rfl ?_
    refine zx_getI C zs_223 fg_X10_248 rfl dX10_poundsOf_6 ?_
    refine zx_icmp_ge C 39 dX10_poundsOf_9 (by decide) (fun q => ?_) (fun q => ?_)
    · replace h := h.1 q
      refine zx_iload_n C dX10_poundsOf_39 2 rfl ?_
      exact zx_iret C hr dX10_poundsOf_40 h
    · replace h := h.2 q
      refine zx_iload_n C dX10_poundsOf_12 2 rfl ?_
      refine zx_iload_n C dX10_poundsOf_13 1 rfl ?_
      refine zx_iload_n C dX10_poundsOf_14 3 rfl ?_
      refine zx_cSb C [.int x_1, .int x_3] lk_X10_95 (c_X10_has l D cy g x_1 x_3  σ h) ⟨by decide, by decide⟩ ⟨rfl, rfl⟩ ⟨Nat.zero_le _, Nat.zero_le _⟩ rfl rfl (Nat.le_of_ble_eq_true rfl) dX10_poundsOf_15 (fun r2 σ1 hb h => ?_)
      replace h := h hb
      refine zx_if_eq C 30 dX10_poundsOf_18 (by decide) (fun q => ?_) (fun q => ?_)
      · replace h := h.1 q
        refine zx_iconst (v := (0 : Int32)) C dX10_poundsOf_30 (by decide) ?_
        refine zx_iadd C dX10_poundsOf_31 ?_
        refine zx_topi (fun x3 ex3 => ?_)
        replace h := h x3 ex3
        refine zx_istore_n (lv' := [(2, .int x3), (0, .ref (g 223)), (1, .int x_1), (3, .int x_3)]) C dX10_poundsOf_32 (by decide) rfl ?_
        obtain ⟨x4, ex4⟩ : ∃ y : Int32, y = (x_3 + (1 : Int32)) := ⟨_, rfl⟩
        replace h := h x4 ex4
        refine zx_iinc (v := x4) (lv' := [(3, .int x4), (2, .int x3), (0, .ref (g 223)), (1, .int x_1)]) C dX10_poundsOf_33 3 rfl (by rw [ex4]; rfl) (by decide) rfl ?_
        refine zx_goto C 4 dX10_poundsOf_36 (by decide) ?_
        refine zx_lv (lv' := [(0, .ref (g 223)), (1, .int x_1), (2, .int x3), (3, .int x4)]) [2, 3, 1, 0] rfl ?_
        exact ih x3 x4 σ1 h
      · replace h := h.2 q
        refine zx_aload_n C dX10_poundsOf_21 0 rfl ?_
        refine zx_getR C zs_223 fg_X10_53 rfl 238 rfl dX10_poundsOf_22 ?_
        refine zx_iload_n C dX10_poundsOf_25 3 rfl ?_
        obtain ⟨bd5, h⟩ := h
        refine zx_iald C (x_3).toNatClampNeg zs_238 bd5 rfl dX10_poundsOf_26 ?_
        refine zx_goto C 31 dX10_poundsOf_27 (by decide) ?_
        refine zx_iadd C dX10_poundsOf_31 ?_
        refine zx_topi (fun x6 ex6 => ?_)
        replace h := h x6 ex6
        refine zx_istore_n (lv' := [(2, .int x6), (0, .ref (g 223)), (1, .int x_1), (3, .int x_3)]) C dX10_poundsOf_32 (by decide) rfl ?_
        obtain ⟨x7, ex7⟩ : ∃ y : Int32, y = (x_3 + (1 : Int32)) := ⟨_, rfl⟩
        replace h := h x7 ex7
        refine zx_iinc (v := x7) (lv' := [(3, .int x7), (2, .int x6), (0, .ref (g 223)), (1, .int x_1)]) C dX10_poundsOf_33 3 rfl (by rw [ex7]; rfl) (by decide) rfl ?_
        refine zx_goto C 4 dX10_poundsOf_36 (by decide) ?_
        refine zx_lv (lv' := [(0, .ref (g 223)), (1, .int x_1), (2, .int x6), (3, .int x7)]) [2, 3, 1, 0] rfl ?_
        exact ih x6 x7 σ1 h
set_option maxRecDepth 100000 in
set_option maxHeartbeats 4000000 in
theorem c_X10_poundsOf (l : Launch) (D : va_G) (cy : Nat → ClassId) (g : Nat → Nat) (a1 : Int32)  (σ : zSto) {P : Int32 → zSto → Prop} (h : w_X10_poundsOf a1 σ P) : zMi l yX10_poundsOf cX10_poundsOf 4 (some .int) (zrm 1 21) D cy g [.ref (g 223), .int a1] σ P := by
  unfold w_X10_poundsOf at h
  refine zm_i RX10 rfl (by decide +kernel) (Nat.le_of_ble_eq_true rfl) ?_
  intro p e s m below meth c C hr
  refine zx_lv (lv' := [(0, .ref (g 223)), (1, .int a1)]) [0, 1] rfl ?_
  refine zx_iconst (v := (0 : Int32)) C dX10_poundsOf_0 (by decide) ?_
  refine zx_istore_n (lv' := [(2, .int (0 : Int32)), (0, .ref (g 223)), (1, .int a1)]) C dX10_poundsOf_1 (by decide) rfl ?_
  refine zx_iconst (v := (0 : Int32)) C dX10_poundsOf_2 (by decide) ?_
  refine zx_istore_n (lv' := [(3, .int (0 : Int32)), (2, .int (0 : Int32)), (0, .ref (g 223)), (1, .int a1)]) C dX10_poundsOf_3 (by decide) rfl ?_
  obtain ⟨n, h⟩ := h
  refine zx_lv (lv' := [(0, .ref (g 223)), (1, .int a1), (2, .int (0 : Int32)), (3, .int (0 : Int32))]) [2, 3, 1, 0] rfl ?_
  exact k_X10_poundsOf_4 C hr (a1)   n (0 : Int32) (0 : Int32) σ h
def w_X10_costsOf_4 (x_1 : Int32) (P : Int32 → zSto → Prop)  : Nat → Int32 → Int32 → zSto → Prop
  | 0, _, _, _ => False
  | n + 1, x_2, x_3, σ => (((σ.1 223 25) ≤ x_3 → P x_2 σ) ∧ (¬ (σ.1 223 25) ≤ x_3 → (w_X10_has x_1 x_3 σ (fun (r2 : Int32) (σ1 : zSto) => (r2 = 0 ∨ r2 = 1) → ((r2 = 0 → (∀ x3 : Int32, x3 = (x_2 + (0 : Int32)) → (∀ x4 : Int32, x4 = (x_3 + (1 : Int32)) → w_X10_costsOf_4 x_1 P n x3 x4 σ1))) ∧ (¬ r2 = 0 → (vp_in x_3 16 ∧ (∀ x6 : Int32, x6 = (x_2 + (σ1.1 237 (x_3).toNatClampNeg)) → (∀ x7 : Int32, x7 = (x_3 + (1 : Int32)) → w_X10_costsOf_4 x_1 P n x6 x7 σ1)))))))))
def w_X10_costsOf (a1 : Int32) (σ : zSto) (P : Int32 → zSto → Prop) : Prop := (∃ n : Nat, w_X10_costsOf_4 a1 P  n (0 : Int32) (0 : Int32) σ)
set_option maxRecDepth 100000 in
set_option maxHeartbeats 4000000 in
theorem k_X10_costsOf_4 {p : Program} {l : Launch} {e : Env} {s : State} {m : MethodId} {args : Array Value} {below : List Frame} {meth : Method} {c : Code} {D : va_G} {cy : Nat → ClassId} {g : Nat → Nat} (C : zC p s m args meth c cX10_costsOf RX10 4 D cy g) (hr : meth.sig.returnType = (some .int)) {P : Int32 → zSto → Prop} (x_1 : Int32)    : ∀ (n : Nat) (x_2 : Int32) (x_3 : Int32) (σ : zSto), w_X10_costsOf_4 x_1 P n x_2 x_3 σ → zX p l e (zrm 1 21) s m args below meth c 0 0 (zQi P below args s D cy g) 4 D cy g 4 [(0, .ref (g 223)), (1, .int x_1), (2, .int x_2), (3, .int x_3)] [] σ := by
  intro n
  induction n with
  | zero => intro x_2 x_3 σ h; exact h.elim
  | succ n ih =>
    intro x_2 x_3 σ h
    unfold w_X10_costsOf_4 at h
    refine zx_iload_n C dX10_costsOf_4 3 rfl ?_
    refine zx_aload_n C dX10_costsOf_5 0 rfl ?_
    refine zx_getI C zs_223 fg_X10_248 rfl dX10_costsOf_6 ?_
    refine zx_icmp_ge C 39 dX10_costsOf_9 (by decide) (fun q => ?_) (fun q => ?_)
    · replace h := h.1 q
      refine zx_iload_n C dX10_costsOf_39 2 rfl ?_
      exact zx_iret C hr dX10_costsOf_40 h
    · replace h := h.2 q
      refine zx_iload_n C dX10_costsOf_12 2 rfl ?_
      refine zx_iload_n C dX10_costsOf_13 1 rfl ?_
      refine zx_iload_n C dX10_costsOf_14 3 rfl ?_
      refine zx_cSb C [.int x_1, .int x_3] lk_X10_95 (c_X10_has l D cy g x_1 x_3  σ h) ⟨by decide, by decide⟩ ⟨rfl, rfl⟩ ⟨Nat.zero_le _, Nat.zero_le _⟩ rfl rfl (Nat.le_of_ble_eq_true rfl) dX10_costsOf_15 (fun r2 σ1 hb h => ?_)
      replace h := h hb
      refine zx_if_eq C 30 dX10_costsOf_18 (by decide) (fun q => ?_) (fun q => ?_)
      · replace h := h.1 q
        refine zx_iconst (v := (0 : Int32)) C dX10_costsOf_30 (by decide) ?_
        refine zx_iadd C dX10_costsOf_31 ?_
        refine zx_topi (fun x3 ex3 => ?_)
        replace h := h x3 ex3
        refine zx_istore_n (lv' := [(2, .int x3), (0, .ref (g 223)), (1, .int x_1), (3, .int x_3)]) C dX10_costsOf_32 (by decide) rfl ?_
        obtain ⟨x4, ex4⟩ : ∃ y : Int32, y = (x_3 + (1 : Int32)) := ⟨_, rfl⟩
        replace h := h x4 ex4
        refine zx_iinc (v := x4) (lv' := [(3, .int x4), (2, .int x3), (0, .ref (g 223)), (1, .int x_1)]) C dX10_costsOf_33 3 rfl (by rw [ex4]; rfl) (by decide) rfl ?_
        refine zx_goto C 4 dX10_costsOf_36 (by decide) ?_
        refine zx_lv (lv' := [(0, .ref (g 223)), (1, .int x_1), (2, .int x3), (3, .int x4)]) [2, 3, 1, 0] rfl ?_
        exact ih x3 x4 σ1 h
      · replace h := h.2 q
        refine zx_aload_n C dX10_costsOf_21 0 rfl ?_
        refine zx_getR C zs_223 fg_X10_50 rfl 237 rfl dX10_costsOf_22 ?_
        refine zx_iload_n C dX10_costsOf_25 3 rfl ?_
        obtain ⟨bd5, h⟩ := h
        refine zx_iald C (x_3).toNatClampNeg zs_237 bd5 rfl dX10_costsOf_26 ?_
        refine zx_goto C 31 dX10_costsOf_27 (by decide) ?_
        refine zx_iadd C dX10_costsOf_31 ?_
        refine zx_topi (fun x6 ex6 => ?_)
        replace h := h x6 ex6
        refine zx_istore_n (lv' := [(2, .int x6), (0, .ref (g 223)), (1, .int x_1), (3, .int x_3)]) C dX10_costsOf_32 (by decide) rfl ?_
        obtain ⟨x7, ex7⟩ : ∃ y : Int32, y = (x_3 + (1 : Int32)) := ⟨_, rfl⟩
        replace h := h x7 ex7
        refine zx_iinc (v := x7) (lv' := [(3, .int x7), (2, .int x6), (0, .ref (g 223)), (1, .int x_1)]) C dX10_costsOf_33 3 rfl (by rw [ex7]; rfl) (by decide) rfl ?_
        refine zx_goto C 4 dX10_costsOf_36 (by decide) ?_
        refine zx_lv (lv' := [(0, .ref (g 223)), (1, .int x_1), (2, .int x6), (3, .int x7)]) [2, 3, 1, 0] rfl ?_
        exact ih x6 x7 σ1 h
set_option maxRecDepth 100000 in
set_option maxHeartbeats 4000000 in
theorem c_X10_costsOf (l : Launch) (D : va_G) (cy : Nat → ClassId) (g : Nat → Nat) (a1 : Int32)  (σ : zSto) {P : Int32 → zSto → Prop} (h : w_X10_costsOf a1 σ P) : zMi l yX10_costsOf cX10_costsOf 4 (some .int) (zrm 1 21) D cy g [.ref (g 223), .int a1] σ P := by
  unfold w_X10_costsOf at h
  refine zm_i RX10 rfl (by decide +kernel) (Nat.le_of_ble_eq_true rfl) ?_
  intro p e s m below meth c C hr
  refine zx_lv (lv' := [(0, .ref (g 223)), (1, .int a1)]) [0, 1] rfl ?_
  refine zx_iconst (v := (0 : Int32)) C dX10_costsOf_0 (by decide) ?_
  refine zx_istore_n (lv' := [(2, .int (0 : Int32)), (0, .ref (g 223)), (1, .int a1)]) C dX10_costsOf_1 (by decide) rfl ?_
  refine zx_iconst (v := (0 : Int32)) C dX10_costsOf_2 (by decide) ?_
  refine zx_istore_n (lv' := [(3, .int (0 : Int32)), (2, .int (0 : Int32)), (0, .ref (g 223)), (1, .int a1)]) C dX10_costsOf_3 (by decide) rfl ?_
  obtain ⟨n, h⟩ := h
  refine zx_lv (lv' := [(0, .ref (g 223)), (1, .int a1), (2, .int (0 : Int32)), (3, .int (0 : Int32))]) [2, 3, 1, 0] rfl ?_
  exact k_X10_costsOf_4 C hr (a1)   n (0 : Int32) (0 : Int32) σ h
def w_X10_bearing_4  (P : Int32 → zSto → Prop)  : Nat → Int32 → Int32 → zSto → Prop
  | 0, _, _, _ => False
  | n + 1, x_1, x_2, σ => (((σ.1 223 25) ≤ x_2 → P x_1 σ) ∧ (¬ (σ.1 223 25) ≤ x_2 → (vp_in x_2 16 ∧ (((σ.1 238 (x_2).toNatClampNeg) ≤ 0 → (∀ x2 : Int32, x2 = (x_1 ||| (0 : Int32)) → (∀ x3 : Int32, x3 = (x_2 + (1 : Int32)) → w_X10_bearing_4 P n x2 x3 σ))) ∧ (¬ (σ.1 238 (x_2).toNatClampNeg) ≤ 0 → (∀ x4 : Int32, x4 = (x_1 ||| ((1 : Int32) <<< (x_2 &&& 31))) → (∀ x5 : Int32, x5 = (x_2 + (1 : Int32)) → w_X10_bearing_4 P n x4 x5 σ)))))))
def w_X10_bearing  (σ : zSto) (P : Int32 → zSto → Prop) : Prop := (∃ n : Nat, w_X10_bearing_4  P  n (0 : Int32) (0 : Int32) σ)
set_option maxRecDepth 100000 in
set_option maxHeartbeats 4000000 in
theorem k_X10_bearing_4 {p : Program} {l : Launch} {e : Env} {s : State} {m : MethodId} {args : Array Value} {below : List Frame} {meth : Method} {c : Code} {D : va_G} {cy : Nat → ClassId} {g : Nat → Nat} (C : zC p s m args meth c cX10_bearing RX10 3 D cy g) (hr : meth.sig.returnType = (some .int)) {P : Int32 → zSto → Prop}     : ∀ (n : Nat) (x_1 : Int32) (x_2 : Int32) (σ : zSto), w_X10_bearing_4 P n x_1 x_2 σ → zX p l e (zrm 0 0) s m args below meth c 0 0 (zQi P below args s D cy g) 3 D cy g 4 [(0, .ref (g 223)), (1, .int x_1), (2, .int x_2)] [] σ := by
  intro n
  induction n with
  | zero => intro x_1 x_2 σ h; exact h.elim
  | succ n ih =>
    intro x_1 x_2 σ h
    unfold w_X10_bearing_4 at h
    refine zx_iload_n C dX10_bearing_4 2 rfl ?_
    refine zx_aload_n C dX10_bearing_5 0 rfl ?_
    refine zx_getI C zs_223 fg_X10_248 rfl dX10_bearing_6 ?_
    refine zx_icmp_ge C 37 dX10_bearing_9 (by decide) (fun q => ?_) (fun q => ?_)
    · replace h := h.1 q
      refine zx_iload_n C dX10_bearing_37 1 rfl ?_
      exact zx_iret C hr dX10_bearing_38 h
    · replace h := h.2 q
      refine zx_iload_n C dX10_bearing_12 1 rfl ?_
      refine zx_aload_n C dX10_bearing_13 0 rfl ?_
      refine zx_getR C zs_223 fg_X10_53 rfl 238 rfl dX10_bearing_14 ?_
      refine zx_iload_n C dX10_bearing_17 2 rfl ?_
      obtain ⟨bd1, h⟩ := h
      refine zx_iald C (x_2).toNatClampNeg zs_238 bd1 rfl dX10_bearing_18 ?_
      refine zx_if_le C 28 dX10_bearing_19 (by decide) (fun q => ?_) (fun q => ?_)
      · replace h := h.1 q
        refine zx_iconst (v := (0 : Int32)) C dX10_bearing_28 (by decide) ?_
        refine zx_ior C dX10_bearing_29 ?_
        refine zx_topi (fun x2 ex2 => ?_)
        replace h := h x2 ex2
        refine zx_istore_n (lv' := [(1, .int x2), (0, .ref (g 223)), (2, .int x_2)]) C dX10_bearing_30 (by decide) rfl ?_
        obtain ⟨x3, ex3⟩ : ∃ y : Int32, y = (x_2 + (1 : Int32)) := ⟨_, rfl⟩
        replace h := h x3 ex3
        refine zx_iinc (v := x3) (lv' := [(2, .int x3), (1, .int x2), (0, .ref (g 223))]) C dX10_bearing_31 2 rfl (by rw [ex3]; rfl) (by decide) rfl ?_
        refine zx_goto C 4 dX10_bearing_34 (by decide) ?_
        refine zx_lv (lv' := [(0, .ref (g 223)), (1, .int x2), (2, .int x3)]) [2, 1, 0] rfl ?_
        exact ih x2 x3 σ h
      · replace h := h.2 q
        refine zx_iconst (v := (1 : Int32)) C dX10_bearing_22 (by decide) ?_
        refine zx_iload_n C dX10_bearing_23 2 rfl ?_
        refine zx_ishl C dX10_bearing_24 ?_
        refine zx_goto C 29 dX10_bearing_25 (by decide) ?_
        refine zx_ior C dX10_bearing_29 ?_
        refine zx_topi (fun x4 ex4 => ?_)
        replace h := h x4 ex4
        refine zx_istore_n (lv' := [(1, .int x4), (0, .ref (g 223)), (2, .int x_2)]) C dX10_bearing_30 (by decide) rfl ?_
        obtain ⟨x5, ex5⟩ : ∃ y : Int32, y = (x_2 + (1 : Int32)) := ⟨_, rfl⟩
        replace h := h x5 ex5
        refine zx_iinc (v := x5) (lv' := [(2, .int x5), (1, .int x4), (0, .ref (g 223))]) C dX10_bearing_31 2 rfl (by rw [ex5]; rfl) (by decide) rfl ?_
        refine zx_goto C 4 dX10_bearing_34 (by decide) ?_
        refine zx_lv (lv' := [(0, .ref (g 223)), (1, .int x4), (2, .int x5)]) [2, 1, 0] rfl ?_
        exact ih x4 x5 σ h
set_option maxRecDepth 100000 in
set_option maxHeartbeats 4000000 in
theorem c_X10_bearing (l : Launch) (D : va_G) (cy : Nat → ClassId) (g : Nat → Nat)   (σ : zSto) {P : Int32 → zSto → Prop} (h : w_X10_bearing  σ P) : zMi l yX10_bearing cX10_bearing 3 (some .int) (zrm 0 0) D cy g [.ref (g 223)] σ P := by
  unfold w_X10_bearing at h
  refine zm_i RX10 rfl (by decide +kernel) (Nat.le_of_ble_eq_true rfl) ?_
  intro p e s m below meth c C hr
  refine zx_lv (lv' := [(0, .ref (g 223))]) [0] rfl ?_
  refine zx_iconst (v := (0 : Int32)) C dX10_bearing_0 (by decide) ?_
  refine zx_istore_n (lv' := [(1, .int (0 : Int32)), (0, .ref (g 223))]) C dX10_bearing_1 (by decide) rfl ?_
  refine zx_iconst (v := (0 : Int32)) C dX10_bearing_2 (by decide) ?_
  refine zx_istore_n (lv' := [(2, .int (0 : Int32)), (1, .int (0 : Int32)), (0, .ref (g 223))]) C dX10_bearing_3 (by decide) rfl ?_
  obtain ⟨n, h⟩ := h
  refine zx_lv (lv' := [(0, .ref (g 223)), (1, .int (0 : Int32)), (2, .int (0 : Int32))]) [2, 1, 0] rfl ?_
  exact k_X10_bearing_4 C hr    n (0 : Int32) (0 : Int32) σ h
theorem lk_X10_326 : zLV RX10 326 RX10 yX10_bearing cX10_bearing 3 (some .int) 0 := zLV_of ml_X10_326 im_X10_bearing se_X10_bearing ini_X10 cd_X10_bearing (by decide +kernel)
theorem lk_X10_329 : zLV RX10 329 RX10 yX10_poundsOf cX10_poundsOf 4 (some .int) 1 := zLV_of ml_X10_329 im_X10_poundsOf se_X10_poundsOf ini_X10 cd_X10_poundsOf (by decide +kernel)
theorem lk_X10_332 : zLV RX10 332 RX10 yX10_costsOf cX10_costsOf 4 (some .int) 1 := zLV_of ml_X10_332 im_X10_costsOf se_X10_costsOf ini_X10 cd_X10_costsOf (by decide +kernel)
def w_X10_purse_55 (x_3 : Int32) (x_4 : Int32) (x_5 : Int32) (P : Int32 → zSto → Prop)  : Nat → Int32 → Int32 → Int32 → Int32 → zSto → Prop
  | 0, _, _, _, _, _ => False
  | n + 1, x_6, x_7, x_8, x_9, σ => ((x_5 < x_9 → ((¬ x_4 = 0 → ((¬ x_4 = (1 : Int32) → P x_8 σ) ∧ (x_4 = (1 : Int32) → P x_6 σ))) ∧ (x_4 = 0 → P x_7 σ))) ∧ (¬ x_5 < x_9 → ((¬ (x_9 &&& (x_5 ^^^ (-1 : Int32))) = 0 → (∀ x10 : Int32, x10 = (x_9 + (1 : Int32)) → w_X10_purse_55 x_3 x_4 x_5 P n x_6 x_7 x_8 x10 σ)) ∧ ((x_9 &&& (x_5 ^^^ (-1 : Int32))) = 0 → (w_X10_poundsOf x_9 σ (fun (r12 : Int32) (σ11 : zSto) => (w_X10_costsOf x_9 σ11 (fun (r14 : Int32) (σ13 : zSto) => ((x_3 < r14 → (∀ x15 : Int32, x15 = (x_9 + (1 : Int32)) → w_X10_purse_55 x_3 x_4 x_5 P n x_6 x_7 x_8 x15 σ13)) ∧ (¬ x_3 < r14 → ((x_7 < r12 → (∀ x16 : Int32, x16 = (x_9 + (1 : Int32)) → w_X10_purse_55 x_3 x_4 x_5 P n x_9 r12 r14 x16 σ13)) ∧ (¬ x_7 < r12 → ((¬ r12 = x_7 → (∀ x17 : Int32, x17 = (x_9 + (1 : Int32)) → w_X10_purse_55 x_3 x_4 x_5 P n x_6 x_7 x_8 x17 σ13)) ∧ (r12 = x_7 → ((x_8 ≤ r14 → (∀ x18 : Int32, x18 = (x_9 + (1 : Int32)) → w_X10_purse_55 x_3 x_4 x_5 P n x_6 x_7 x_8 x18 σ13)) ∧ (¬ x_8 ≤ r14 → (∀ x19 : Int32, x19 = (x_9 + (1 : Int32)) → w_X10_purse_55 x_3 x_4 x_5 P n x_9 r12 r14 x19 σ13)))))))))))))))))
def w_X10_purse (a1 : Int32) (a2 : Int32) (a3 : Int32) (a4 : Int32) (σ : zSto) (P : Int32 → zSto → Prop) : Prop := (∀ σ1 : zSto, σ1 = zI σ 223 0 (0 : Int32) → (w_X10_in a3 (0 : Int32) (999 : Int32) σ1 (fun (r3 : Int32) (σ2 : zSto) => (r3 = 0 ∨ r3 = 1) → ((r3 = 0 → P (-1 : Int32) σ2) ∧ (¬ r3 = 0 → (w_X10_in a4 (0 : Int32) (2 : Int32) σ2 (fun (r5 : Int32) (σ4 : zSto) => (r5 = 0 ∨ r5 = 1) → ((r5 = 0 → P (-1 : Int32) σ4) ∧ (¬ r5 = 0 → (w_X10_hand a1 a2 σ4 (fun (r7 : Int32) (σ6 : zSto) => (r7 = 0 ∨ r7 = 1) → ((¬ r7 = 0 → (w_X10_bearing  σ6 (fun (r9 : Int32) (σ8 : zSto) => (∃ n : Nat, w_X10_purse_55 a3 a4 r9 P  n (0 : Int32) (0 : Int32) (0 : Int32) (1 : Int32) σ8)))) ∧ (r7 = 0 → P (-1 : Int32) σ6)))))))))))))
set_option maxRecDepth 100000 in
set_option maxHeartbeats 4000000 in
theorem k_X10_purse_55 {p : Program} {l : Launch} {e : Env} {s : State} {m : MethodId} {args : Array Value} {below : List Frame} {meth : Method} {c : Code} {D : va_G} {cy : Nat → ClassId} {g : Nat → Nat} (C : zC p s m args meth c cX10_purse RX10 12 D cy g) (hr : meth.sig.returnType = (some .int)) {P : Int32 → zSto → Prop} (x_3 : Int32) (x_4 : Int32) (x_5 : Int32)    : ∀ (n : Nat) (x_6 : Int32) (x_7 : Int32) (x_8 : Int32) (x_9 : Int32) (σ : zSto), w_X10_purse_55 x_3 x_4 x_5 P n x_6 x_7 x_8 x_9 σ → zX p l e (zrm 4 88) s m args below meth c 0 0 (zQi P below args s D cy g) 12 D cy g 55 [(0, .ref (g 223)), (3, .int x_3), (4, .int x_4), (5, .int x_5), (6, .int x_6), (7, .int x_7), (8, .int x_8), (9, .int x_9)] [] σ := by
  intro n
  induction n with
  | zero => intro x_6 x_7 x_8 x_9 σ h; exact h.elim
  | succ n ih =>
    intro x_6 x_7 x_8 x_9 σ h
    unfold w_X10_purse_55 at h
    refine zx_iload C dX10_purse_55 7 rfl ?_
    refine zx_iload C dX10_purse_57 3 rfl ?_
    refine zx_icmp_gt C 133 dX10_purse_59 (by decide) (fun q => ?_) (fun q => ?_)
    · replace h := h.1 q
      refine zx_iload C dX10_purse_133 2 rfl ?_
      refine zx_if_ne C 143 dX10_purse_135 (by decide) (fun q => ?_) (fun q => ?_)
      · replace h := h.1 q
        refine zx_iload C dX10_purse_143 2 rfl ?_
        refine zx_iconst (v := (1 : Int32)) C dX10_purse_145 (by decide) ?_
        refine zx_icmp_ne C 154 dX10_purse_146 (by decide) (fun q => ?_) (fun q => ?_)
        · replace h := h.1 q
          refine zx_iload C dX10_purse_154 6 rfl ?_
          exact zx_iret C hr dX10_purse_156 h
        · replace h := h.2 q
          refine zx_iload C dX10_purse_149 4 rfl ?_
          refine zx_goto C 156 dX10_purse_151 (by decide) ?_
          exact zx_iret C hr dX10_purse_156 h
      · replace h := h.2 q
        refine zx_iload C dX10_purse_138 5 rfl ?_
        refine zx_goto C 156 dX10_purse_140 (by decide) ?_
        exact zx_iret C hr dX10_purse_156 h
    · replace h := h.2 q
      refine zx_iload C dX10_purse_62 7 rfl ?_
      refine zx_iload C dX10_purse_64 3 rfl ?_
      refine zx_iconst (v := (-1 : Int32)) C dX10_purse_66 (by decide) ?_
      refine zx_ixor C dX10_purse_67 ?_
      refine zx_iand C dX10_purse_68 ?_
      refine zx_if_ne C 127 dX10_purse_69 (by decide) (fun q => ?_) (fun q => ?_)
      · replace h := h.1 q
        obtain ⟨x10, ex10⟩ : ∃ y : Int32, y = (x_9 + (1 : Int32)) := ⟨_, rfl⟩
        replace h := h x10 ex10
        refine zx_iinc (v := x10) (lv' := [(9, .int x10), (0, .ref (g 223)), (3, .int x_3), (4, .int x_4), (5, .int x_5), (6, .int x_6), (7, .int x_7), (8, .int x_8)]) C dX10_purse_127 7 rfl (by rw [ex10]; rfl) (by decide) rfl ?_
        refine zx_goto C 55 dX10_purse_130 (by decide) ?_
        refine zx_lv (lv' := [(0, .ref (g 223)), (3, .int x_3), (4, .int x_4), (5, .int x_5), (6, .int x_6), (7, .int x_7), (8, .int x_8), (9, .int x10)]) [1, 2, 3, 4, 5, 6, 7, 0] rfl ?_
        exact ih x_6 x_7 x_8 x10 σ h
      · replace h := h.2 q
        refine zx_aload_n C dX10_purse_72 0 rfl ?_
        refine zx_iload C dX10_purse_73 7 rfl ?_
        refine zx_cVi C [.int x_9] lk_X10_329 (c_X10_poundsOf l D cy g x_9  σ h) zs_223 rfl ⟨by decide, by decide⟩ ⟨rfl, rfl⟩ ⟨Nat.zero_le _, Nat.zero_le _⟩ rfl rfl (Nat.le_of_ble_eq_true rfl) dX10_purse_75 (fun r12 σ11 h => ?_)
        refine zx_istore (lv' := [(10, .int r12), (0, .ref (g 223)), (3, .int x_3), (4, .int x_4), (5, .int x_5), (6, .int x_6), (7, .int x_7), (8, .int x_8), (9, .int x_9)]) C dX10_purse_78 (by decide) rfl ?_
        refine zx_aload_n C dX10_purse_80 1 rfl ?_
        refine zx_iload C dX10_purse_81 8 rfl ?_
        refine zx_cVi C [.int x_9] lk_X10_332 (c_X10_costsOf l D cy g x_9  σ11 h) zs_223 rfl ⟨by decide, by decide⟩ ⟨rfl, rfl⟩ ⟨Nat.zero_le _, Nat.zero_le _⟩ rfl rfl (Nat.le_of_ble_eq_true rfl) dX10_purse_83 (fun r14 σ13 h => ?_)
        refine zx_istore (lv' := [(11, .int r14), (10, .int r12), (0, .ref (g 223)), (3, .int x_3), (4, .int x_4), (5, .int x_5), (6, .int x_6), (7, .int x_7), (8, .int x_8), (9, .int x_9)]) C dX10_purse_86 (by decide) rfl ?_
        refine zx_iload C dX10_purse_88 0 rfl ?_
        refine zx_iload_n C dX10_purse_90 3 rfl ?_
        refine zx_icmp_gt C 127 dX10_purse_91 (by decide) (fun q => ?_) (fun q => ?_)
        · replace h := h.1 q
          obtain ⟨x15, ex15⟩ : ∃ y : Int32, y = (x_9 + (1 : Int32)) := ⟨_, rfl⟩
          replace h := h x15 ex15
          refine zx_iinc (v := x15) (lv' := [(9, .int x15), (11, .int r14), (10, .int r12), (0, .ref (g 223)), (3, .int x_3), (4, .int x_4), (5, .int x_5), (6, .int x_6), (7, .int x_7), (8, .int x_8)]) C dX10_purse_127 9 rfl (by rw [ex15]; rfl) (by decide) rfl ?_
          refine zx_goto C 55 dX10_purse_130 (by decide) ?_
          refine zx_lv (lv' := [(0, .ref (g 223)), (3, .int x_3), (4, .int x_4), (5, .int x_5), (6, .int x_6), (7, .int x_7), (8, .int x_8), (9, .int x15)]) [3, 4, 5, 6, 7, 8, 9, 0] rfl ?_
          exact ih x_6 x_7 x_8 x15 σ13 h
        · replace h := h.2 q
          refine zx_iload C dX10_purse_94 1 rfl ?_
          refine zx_iload C dX10_purse_96 7 rfl ?_
          refine zx_icmp_gt C 115 dX10_purse_98 (by decide) (fun q => ?_) (fun q => ?_)
          · replace h := h.1 q
            refine zx_iload C dX10_purse_115 9 rfl ?_
            refine zx_istore (lv' := [(6, .int x_9), (11, .int r14), (10, .int r12), (0, .ref (g 223)), (3, .int x_3), (4, .int x_4), (5, .int x_5), (7, .int x_7), (8, .int x_8), (9, .int x_9)]) C dX10_purse_117 (by decide) rfl ?_
            refine zx_iload C dX10_purse_119 2 rfl ?_
            refine zx_istore (lv' := [(7, .int r12), (6, .int x_9), (11, .int r14), (10, .int r12), (0, .ref (g 223)), (3, .int x_3), (4, .int x_4), (5, .int x_5), (8, .int x_8), (9, .int x_9)]) C dX10_purse_121 (by decide) rfl ?_
            refine zx_iload C dX10_purse_123 2 rfl ?_
            refine zx_istore (lv' := [(8, .int r14), (7, .int r12), (6, .int x_9), (11, .int r14), (10, .int r12), (0, .ref (g 223)), (3, .int x_3), (4, .int x_4), (5, .int x_5), (9, .int x_9)]) C dX10_purse_125 (by decide) rfl ?_
            obtain ⟨x16, ex16⟩ : ∃ y : Int32, y = (x_9 + (1 : Int32)) := ⟨_, rfl⟩
            replace h := h x16 ex16
            refine zx_iinc (v := x16) (lv' := [(9, .int x16), (8, .int r14), (7, .int r12), (6, .int x_9), (11, .int r14), (10, .int r12), (0, .ref (g 223)), (3, .int x_3), (4, .int x_4), (5, .int x_5)]) C dX10_purse_127 9 rfl (by rw [ex16]; rfl) (by decide) rfl ?_
            refine zx_goto C 55 dX10_purse_130 (by decide) ?_
            refine zx_lv (lv' := [(0, .ref (g 223)), (3, .int x_3), (4, .int x_4), (5, .int x_5), (6, .int x_9), (7, .int r12), (8, .int r14), (9, .int x16)]) [6, 7, 8, 9, 3, 2, 1, 0] rfl ?_
            exact ih x_9 r12 r14 x16 σ13 h
          · replace h := h.2 q
            refine zx_iload C dX10_purse_101 1 rfl ?_
            refine zx_iload C dX10_purse_103 7 rfl ?_
            refine zx_icmp_ne C 127 dX10_purse_105 (by decide) (fun q => ?_) (fun q => ?_)
            · replace h := h.1 q
              obtain ⟨x17, ex17⟩ : ∃ y : Int32, y = (x_9 + (1 : Int32)) := ⟨_, rfl⟩
              replace h := h x17 ex17
              refine zx_iinc (v := x17) (lv' := [(9, .int x17), (11, .int r14), (10, .int r12), (0, .ref (g 223)), (3, .int x_3), (4, .int x_4), (5, .int x_5), (6, .int x_6), (7, .int x_7), (8, .int x_8)]) C dX10_purse_127 9 rfl (by rw [ex17]; rfl) (by decide) rfl ?_
              refine zx_goto C 55 dX10_purse_130 (by decide) ?_
              refine zx_lv (lv' := [(0, .ref (g 223)), (3, .int x_3), (4, .int x_4), (5, .int x_5), (6, .int x_6), (7, .int x_7), (8, .int x_8), (9, .int x17)]) [3, 4, 5, 6, 7, 8, 9, 0] rfl ?_
              exact ih x_6 x_7 x_8 x17 σ13 h
            · replace h := h.2 q
              refine zx_iload C dX10_purse_108 0 rfl ?_
              refine zx_iload C dX10_purse_110 8 rfl ?_
              refine zx_icmp_ge C 127 dX10_purse_112 (by decide) (fun q => ?_) (fun q => ?_)
              · replace h := h.1 q
                obtain ⟨x18, ex18⟩ : ∃ y : Int32, y = (x_9 + (1 : Int32)) := ⟨_, rfl⟩
                replace h := h x18 ex18
                refine zx_iinc (v := x18) (lv' := [(9, .int x18), (11, .int r14), (10, .int r12), (0, .ref (g 223)), (3, .int x_3), (4, .int x_4), (5, .int x_5), (6, .int x_6), (7, .int x_7), (8, .int x_8)]) C dX10_purse_127 9 rfl (by rw [ex18]; rfl) (by decide) rfl ?_
                refine zx_goto C 55 dX10_purse_130 (by decide) ?_
                refine zx_lv (lv' := [(0, .ref (g 223)), (3, .int x_3), (4, .int x_4), (5, .int x_5), (6, .int x_6), (7, .int x_7), (8, .int x_8), (9, .int x18)]) [3, 4, 5, 6, 7, 8, 9, 0] rfl ?_
                exact ih x_6 x_7 x_8 x18 σ13 h
              · replace h := h.2 q
                refine zx_iload C dX10_purse_115 9 rfl ?_
                refine zx_istore (lv' := [(6, .int x_9), (11, .int r14), (10, .int r12), (0, .ref (g 223)), (3, .int x_3), (4, .int x_4), (5, .int x_5), (7, .int x_7), (8, .int x_8), (9, .int x_9)]) C dX10_purse_117 (by decide) rfl ?_
                refine zx_iload C dX10_purse_119 2 rfl ?_
                refine zx_istore (lv' := [(7, .int r12), (6, .int x_9), (11, .int r14), (10, .int r12), (0, .ref (g 223)), (3, .int x_3), (4, .int x_4), (5, .int x_5), (8, .int x_8), (9, .int x_9)]) C dX10_purse_121 (by decide) rfl ?_
                refine zx_iload C dX10_purse_123 2 rfl ?_
                refine zx_istore (lv' := [(8, .int r14), (7, .int r12), (6, .int x_9), (11, .int r14), (10, .int r12), (0, .ref (g 223)), (3, .int x_3), (4, .int x_4), (5, .int x_5), (9, .int x_9)]) C dX10_purse_125 (by decide) rfl ?_
                obtain ⟨x19, ex19⟩ : ∃ y : Int32, y = (x_9 + (1 : Int32)) := ⟨_, rfl⟩
                replace h := h x19 ex19
                refine zx_iinc (v := x19) (lv' := [(9, .int x19), (8, .int r14), (7, .int r12), (6, .int x_9), (11, .int r14), (10, .int r12), (0, .ref (g 223)), (3, .int x_3), (4, .int x_4), (5, .int x_5)]) C dX10_purse_127 9 rfl (by rw [ex19]; rfl) (by decide) rfl ?_
                refine zx_goto C 55 dX10_purse_130 (by decide) ?_
                refine zx_lv (lv' := [(0, .ref (g 223)), (3, .int x_3), (4, .int x_4), (5, .int x_5), (6, .int x_9), (7, .int r12), (8, .int r14), (9, .int x19)]) [6, 7, 8, 9, 3, 2, 1, 0] rfl ?_
                exact ih x_9 r12 r14 x19 σ13 h
set_option maxRecDepth 100000 in
set_option maxHeartbeats 4000000 in
theorem c_X10_purse (l : Launch) (D : va_G) (cy : Nat → ClassId) (g : Nat → Nat) (a1 : Int32) (a2 : Int32) (a3 : Int32) (a4 : Int32)  (σ : zSto) {P : Int32 → zSto → Prop} (h : w_X10_purse a1 a2 a3 a4 σ P) : zMi l yX10_purse cX10_purse 12 (some .int) (zrm 4 88) D cy g [.ref (g 223), .int a1, .int a2, .int a3, .int a4] σ P := by
  unfold w_X10_purse at h
  refine zm_i RX10 rfl (by decide +kernel) (Nat.le_of_ble_eq_true rfl) ?_
  intro p e s m below meth c C hr
  refine zx_lv (lv' := [(0, .ref (g 223)), (1, .int a1), (2, .int a2), (3, .int a3), (4, .int a4)]) [0, 1, 2, 3, 4] rfl ?_
  refine zx_aload_n C dX10_purse_0 0 rfl ?_
  refine zx_iconst (v := (0 : Int32)) C dX10_purse_1 (by decide) ?_
  refine zx_putI C zs_223 fp_X10_91 rfl dX10_purse_2 ?_
  refine zx_sig (fun σ1 eσ1 => ?_)
  replace h := h σ1 eσ1
  refine zx_iload_n C dX10_purse_5 3 rfl ?_
  refine zx_iconst (v := (0 : Int32)) C dX10_purse_6 (by decide) ?_
  refine zx_sipush (v := (999 : Int32)) C dX10_purse_7 (by decide) ?_
  refine zx_cSb C [.int a3, .int (0 : Int32), .int (999 : Int32)] lk_X10_103 (c_X10_in l D cy g a3 (0 : Int32) (999 : Int32)  σ1 h) ⟨by decide, by decide⟩ ⟨rfl, rfl⟩ ⟨Nat.zero_le _, Nat.zero_le _⟩ rfl rfl (Nat.le_of_ble_eq_true rfl) dX10_purse_10 (fun r3 σ2 hb h => ?_)
  replace h := h hb
  refine zx_if_eq C 35 dX10_purse_13 (by decide) (fun q => ?_) (fun q => ?_)
  · replace h := h.1 q
    refine zx_iconst (v := (-1 : Int32)) C dX10_purse_35 (by decide) ?_
    exact zx_iret C hr dX10_purse_36 h
  · replace h := h.2 q
    refine zx_iload C dX10_purse_16 4 rfl ?_
    refine zx_iconst (v := (0 : Int32)) C dX10_purse_18 (by decide) ?_
    refine zx_iconst (v := (2 : Int32)) C dX10_purse_19 (by decide) ?_
    refine zx_cSb C [.int a4, .int (0 : Int32), .int (2 : Int32)] lk_X10_103 (c_X10_in l D cy g a4 (0 : Int32) (2 : Int32)  σ2 h) ⟨by decide, by decide⟩ ⟨rfl, rfl⟩ ⟨Nat.zero_le _, Nat.zero_le _⟩ rfl rfl (Nat.le_of_ble_eq_true rfl) dX10_purse_20 (fun r5 σ4 hb h => ?_)
    replace h := h hb
    refine zx_if_eq C 35 dX10_purse_23 (by decide) (fun q => ?_) (fun q => ?_)
    · replace h := h.1 q
      refine zx_iconst (v := (-1 : Int32)) C dX10_purse_35 (by decide) ?_
      exact zx_iret C hr dX10_purse_36 h
    · replace h := h.2 q
      refine zx_aload_n C dX10_purse_26 0 rfl ?_
      refine zx_iload_n C dX10_purse_27 1 rfl ?_
      refine zx_iload_n C dX10_purse_28 2 rfl ?_
      refine zx_cVb C [.int a1, .int a2] lk_X10_257 (c_X10_hand l D cy g a1 a2  σ4 h) zs_223 rfl ⟨by decide, by decide⟩ ⟨rfl, rfl⟩ ⟨Nat.zero_le _, Nat.zero_le _⟩ rfl rfl (Nat.le_of_ble_eq_true rfl) dX10_purse_29 (fun r7 σ6 hb h => ?_)
      replace h := h hb
      refine zx_if_ne C 37 dX10_purse_32 (by decide) (fun q => ?_) (fun q => ?_)
      · replace h := h.1 q
        refine zx_aload_n C dX10_purse_37 0 rfl ?_
        refine zx_cVi C [] lk_X10_326 (c_X10_bearing l D cy g   σ6 h) zs_223 rfl ⟨by decide, by decide⟩ ⟨rfl, rfl⟩ ⟨Nat.zero_le _, Nat.zero_le _⟩ rfl rfl (Nat.le_of_ble_eq_true rfl) dX10_purse_38 (fun r9 σ8 h => ?_)
        refine zx_istore (lv' := [(5, .int r9), (0, .ref (g 223)), (1, .int a1), (2, .int a2), (3, .int a3), (4, .int a4)]) C dX10_purse_41 (by decide) rfl ?_
        refine zx_iconst (v := (0 : Int32)) C dX10_purse_43 (by decide) ?_
        refine zx_istore (lv' := [(6, .int (0 : Int32)), (5, .int r9), (0, .ref (g 223)), (1, .int a1), (2, .int a2), (3, .int a3), (4, .int a4)]) C dX10_purse_44 (by decide) rfl ?_
        refine zx_iconst (v := (0 : Int32)) C dX10_purse_46 (by decide) ?_
        refine zx_istore (lv' := [(7, .int (0 : Int32)), (6, .int (0 : Int32)), (5, .int r9), (0, .ref (g 223)), (1, .int a1), (2, .int a2), (3, .int a3), (4, .int a4)]) C dX10_purse_47 (by decide) rfl ?_
        refine zx_iconst (v := (0 : Int32)) C dX10_purse_49 (by decide) ?_
        refine zx_istore (lv' := [(8, .int (0 : Int32)), (7, .int (0 : Int32)), (6, .int (0 : Int32)), (5, .int r9), (0, .ref (g 223)), (1, .int a1), (2, .int a2), (3, .int a3), (4, .int a4)]) C dX10_purse_50 (by decide) rfl ?_
        refine zx_iconst (v := (1 : Int32)) C dX10_purse_52 (by decide) ?_
        refine zx_istore (lv' := [(9, .int (1 : Int32)), (8, .int (0 : Int32)), (7, .int (0 : Int32)), (6, .int (0 : Int32)), (5, .int r9), (0, .ref (g 223)), (1, .int a1), (2, .int a2), (3, .int a3), (4, .int a4)]) C dX10_purse_53 (by decide) rfl ?_
        obtain ⟨n, h⟩ := h
        refine zx_lv (lv' := [(0, .ref (g 223)), (3, .int a3), (4, .int a4), (5, .int r9), (6, .int (0 : Int32)), (7, .int (0 : Int32)), (8, .int (0 : Int32)), (9, .int (1 : Int32))]) [5, 8, 9, 4, 3, 2, 1, 0] rfl ?_
        exact k_X10_purse_55 C hr (a3) (a4) (r9)   n (0 : Int32) (0 : Int32) (0 : Int32) (1 : Int32) σ8 h
      · replace h := h.2 q
        refine zx_iconst (v := (-1 : Int32)) C dX10_purse_35 (by decide) ?_
        exact zx_iret C hr dX10_purse_36 h
def w_X10_gainNow_4 (x_1 : Int32) (P : Int32 → zSto → Prop)  : Nat → Int32 → Int32 → zSto → Prop
  | 0, _, _, _ => False
  | n + 1, x_2, x_3, σ => (w_X10_riderOf x_1 (1 : Int32) σ (fun (r2 : Int32) (σ1 : zSto) => ((r2 ≤ x_3 → (vp_in x_1 6 ∧ P (((10 : Int32) * (σ1.1 243 (x_1).toNatClampNeg)) - x_2) σ1)) ∧ (¬ r2 ≤ x_3 → (vp_in x_3 16 ∧ (((σ1.1 240 (x_3).toNatClampNeg) = (-1 : Int32) → (∀ x5 : Int32, x5 = (x_2 + (0 : Int32)) → (∀ x6 : Int32, x6 = (x_3 + (1 : Int32)) → w_X10_gainNow_4 x_1 P n x5 x6 σ1))) ∧ (¬ (σ1.1 240 (x_3).toNatClampNeg) = (-1 : Int32) → (vp_in x_3 16 ∧ (∀ x8 : Int32, x8 = (x_2 + (σ1.1 237 (x_3).toNatClampNeg)) → (∀ x9 : Int32, x9 = (x_3 + (1 : Int32)) → w_X10_gainNow_4 x_1 P n x8 x9 σ1))))))))))
def w_X10_gainNow (a1 : Int32) (σ : zSto) (P : Int32 → zSto → Prop) : Prop := (∃ n : Nat, w_X10_gainNow_4 a1 P  n (0 : Int32) (0 : Int32) σ)
set_option maxRecDepth 100000 in
set_option maxHeartbeats 4000000 in
theorem k_X10_gainNow_4 {p : Program} {l : Launch} {e : Env} {s : State} {m : MethodId} {args : Array Value} {below : List Frame} {meth : Method} {c : Code} {D : va_G} {cy : Nat → ClassId} {g : Nat → Nat} (C : zC p s m args meth c cX10_gainNow RX10 4 D cy g) (hr : meth.sig.returnType = (some .int)) {P : Int32 → zSto → Prop} (x_1 : Int32)    : ∀ (n : Nat) (x_2 : Int32) (x_3 : Int32) (σ : zSto), w_X10_gainNow_4 x_1 P n x_2 x_3 σ → zX p l e (zrm 2 43) s m args below meth c 0 0 (zQi P below args s D cy g) 4 D cy g 4 [(0, .ref (g 223)), (1, .int x_1), (2, .int x_2), (3, .int x_3)] [] σ := by
  intro n
  induction n with
  | zero => intro x_2 x_3 σ h; exact h.elim
  | succ n ih =>
    intro x_2 x_3 σ h
    unfold w_X10_gainNow_4 at h
    refine zx_iload_n C dX10_gainNow_4 3 rfl ?_
    refine zx_aload_n C dX10_gainNow_5 0 rfl ?_
    refine zx_iload_n C dX10_gainNow_6 1 rfl ?_
    refine zx_iconst (v := (1 : Int32)) C dX10_gainNow_7 (by decide) ?_
    refine zx_cVi C [.int x_1, .int (1 : Int32)] lk_X10_266 (c_X10_riderOf l D cy g x_1 (1 : Int32)  σ h) zs_223 rfl ⟨by decide, by decide⟩ ⟨rfl, rfl⟩ ⟨Nat.zero_le _, Nat.zero_le _⟩ rfl rfl (Nat.le_of_ble_eq_true rfl) dX10_gainNow_8 (fun r2 σ1 h => ?_)
    refine zx_icmp_ge C 43 dX10_gainNow_11 (by decide) (fun q => ?_) (fun q => ?_)
    · replace h := h.1 q
      refine zx_bipush (v := (10 : Int32)) C dX10_gainNow_43 (by decide) ?_
      refine zx_aload_n C dX10_gainNow_45 0 rfl ?_
      refine zx_getR C zs_223 fg_X10_68 rfl 243 rfl dX10_gainNow_46 ?_
      refine zx_iload_n C dX10_gainNow_49 1 rfl ?_
      obtain ⟨bd3, h⟩ := h
      refine zx_iald C (x_1).toNatClampNeg zs_243 bd3 rfl dX10_gainNow_50 ?_
      refine zx_imul C dX10_gainNow_51 ?_
      refine zx_iload_n C dX10_gainNow_52 2 rfl ?_
      refine zx_isub C dX10_gainNow_53 ?_
      exact zx_iret C hr dX10_gainNow_54 h
    · replace h := h.2 q
      refine zx_iload_n C dX10_gainNow_14 2 rfl ?_
      refine zx_aload_n C dX10_gainNow_15 0 rfl ?_
      refine zx_getR C zs_223 fg_X10_59 rfl 240 rfl dX10_gainNow_16 ?_
      refine zx_iload_n C dX10_gainNow_19 3 rfl ?_
      obtain ⟨bd4, h⟩ := h
      refine zx_iald C (x_3).toNatClampNeg zs_240 bd4 rfl dX10_gainNow_20 ?_
      refine zx_iconst (v := (-1 : Int32)) C dX10_gainNow_21 (by decide) ?_
      refine zx_icmp_eq C 34 dX10_gainNow_22 (by decide) (fun q => ?_) (fun q => ?_)
      · replace h := h.1 q
        refine zx_iconst (v := (0 : Int32)) C dX10_gainNow_34 (by decide) ?_
        refine zx_iadd C dX10_gainNow_35 ?_
        refine zx_topi (fun x5 ex5 => ?_)
        replace h := h x5 ex5
        refine zx_istore_n (lv' := [(2, .int x5), (0, .ref (g 223)), (1, .int x_1), (3, .int x_3)]) C dX10_gainNow_36 (by decide) rfl ?_
        obtain ⟨x6, ex6⟩ : ∃ y : Int32, y = (x_3 + (1 : Int32)) := ⟨_, rfl⟩
        replace h := h x6 ex6
        refine zx_iinc (v := x6) (lv' := [(3, .int x6), (2, .int x5), (0, .ref (g 223)), (1, .int x_1)]) C dX10_gainNow_37 3 rfl (by rw [ex6]; rfl) (by decide) rfl ?_
        refine zx_goto C 4 dX10_gainNow_40 (by decide) ?_
        refine zx_lv (lv' := [(0, .ref (g 223)), (1, .int x_1), (2, .int x5), (3, .int x6)]) [2, 3, 1, 0] rfl ?_
        exact ih x5 x6 σ1 h
      · replace h := h.2 q
        refine zx_aload_n C dX10_gainNow_25 0 rfl ?_
        refine zx_getR C zs_223 fg_X10_50 rfl 237 rfl dX10_gainNow_26 ?_
        refine zx_iload_n C dX10_gainNow_29 3 rfl ?_
        obtain ⟨bd7, h⟩ := h
        refine zx_iald C (x_3).toNatClampNeg zs_237 bd7 rfl dX10_gainNow_30 ?_
        refine zx_goto C 35 dX10_gainNow_31 (by decide) ?_
        refine zx_iadd C dX10_gainNow_35 ?_
        refine zx_topi (fun x8 ex8 => ?_)
        replace h := h x8 ex8
        refine zx_istore_n (lv' := [(2, .int x8), (0, .ref (g 223)), (1, .int x_1), (3, .int x_3)]) C dX10_gainNow_36 (by decide) rfl ?_
        obtain ⟨x9, ex9⟩ : ∃ y : Int32, y = (x_3 + (1 : Int32)) := ⟨_, rfl⟩
        replace h := h x9 ex9
        refine zx_iinc (v := x9) (lv' := [(3, .int x9), (2, .int x8), (0, .ref (g 223)), (1, .int x_1)]) C dX10_gainNow_37 3 rfl (by rw [ex9]; rfl) (by decide) rfl ?_
        refine zx_goto C 4 dX10_gainNow_40 (by decide) ?_
        refine zx_lv (lv' := [(0, .ref (g 223)), (1, .int x_1), (2, .int x8), (3, .int x9)]) [2, 3, 1, 0] rfl ?_
        exact ih x8 x9 σ1 h
set_option maxRecDepth 100000 in
set_option maxHeartbeats 4000000 in
theorem c_X10_gainNow (l : Launch) (D : va_G) (cy : Nat → ClassId) (g : Nat → Nat) (a1 : Int32)  (σ : zSto) {P : Int32 → zSto → Prop} (h : w_X10_gainNow a1 σ P) : zMi l yX10_gainNow cX10_gainNow 4 (some .int) (zrm 2 43) D cy g [.ref (g 223), .int a1] σ P := by
  unfold w_X10_gainNow at h
  refine zm_i RX10 rfl (by decide +kernel) (Nat.le_of_ble_eq_true rfl) ?_
  intro p e s m below meth c C hr
  refine zx_lv (lv' := [(0, .ref (g 223)), (1, .int a1)]) [0, 1] rfl ?_
  refine zx_iconst (v := (0 : Int32)) C dX10_gainNow_0 (by decide) ?_
  refine zx_istore_n (lv' := [(2, .int (0 : Int32)), (0, .ref (g 223)), (1, .int a1)]) C dX10_gainNow_1 (by decide) rfl ?_
  refine zx_iconst (v := (0 : Int32)) C dX10_gainNow_2 (by decide) ?_
  refine zx_istore_n (lv' := [(3, .int (0 : Int32)), (2, .int (0 : Int32)), (0, .ref (g 223)), (1, .int a1)]) C dX10_gainNow_3 (by decide) rfl ?_
  obtain ⟨n, h⟩ := h
  refine zx_lv (lv' := [(0, .ref (g 223)), (1, .int a1), (2, .int (0 : Int32)), (3, .int (0 : Int32))]) [2, 3, 1, 0] rfl ?_
  exact k_X10_gainNow_4 C hr (a1)   n (0 : Int32) (0 : Int32) σ h
theorem lk_X10_335 : zLV RX10 335 RX10 yX10_gainNow cX10_gainNow 4 (some .int) 1 := zLV_of ml_X10_335 im_X10_gainNow se_X10_gainNow ini_X10 cd_X10_gainNow (by decide +kernel)
def w_X10_gainOf (a1 : Int32) (a2 : Int32) (σ : zSto) (P : Int32 → zSto → Prop) : Prop := (w_X10_go (0 : Int32) (0 : Int32) a1 σ (fun (σ1 : zSto) => (w_X10_gainNow a2 σ1 (fun (r3 : Int32) (σ2 : zSto) => P r3 σ2))))
set_option maxRecDepth 100000 in
set_option maxHeartbeats 4000000 in
theorem c_X10_gainOf (l : Launch) (D : va_G) (cy : Nat → ClassId) (g : Nat → Nat) (a1 : Int32) (a2 : Int32)  (σ : zSto) {P : Int32 → zSto → Prop} (h : w_X10_gainOf a1 a2 σ P) : zMi l yX10_gainOf cX10_gainOf 3 (some .int) (zrm 6 139) D cy g [.ref (g 223), .int a1, .int a2] σ P := by
  unfold w_X10_gainOf at h
  refine zm_i RX10 rfl (by decide +kernel) (Nat.le_of_ble_eq_true rfl) ?_
  intro p e s m below meth c C hr
  refine zx_lv (lv' := [(0, .ref (g 223)), (1, .int a1), (2, .int a2)]) [0, 1, 2] rfl ?_
  refine zx_aload_n C dX10_gainOf_0 0 rfl ?_
  refine zx_iconst (v := (0 : Int32)) C dX10_gainOf_1 (by decide) ?_
  refine zx_iconst (v := (0 : Int32)) C dX10_gainOf_2 (by decide) ?_
  refine zx_iload_n C dX10_gainOf_3 1 rfl ?_
  refine zx_cVv C [.int (0 : Int32), .int (0 : Int32), .int a1] lk_X10_310 (c_X10_go l D cy g (0 : Int32) (0 : Int32) a1  σ h) zs_223 rfl ⟨by decide, by decide⟩ ⟨rfl, rfl⟩ ⟨Nat.zero_le _, Nat.zero_le _⟩ rfl rfl (Nat.le_of_ble_eq_true rfl) dX10_gainOf_4 (fun σ1 h => ?_)
  refine zx_aload_n C dX10_gainOf_7 0 rfl ?_
  refine zx_iload_n C dX10_gainOf_8 2 rfl ?_
  refine zx_cVi C [.int a2] lk_X10_335 (c_X10_gainNow l D cy g a2  σ1 h) zs_223 rfl ⟨by decide, by decide⟩ ⟨rfl, rfl⟩ ⟨Nat.zero_le _, Nat.zero_le _⟩ rfl rfl (Nat.le_of_ble_eq_true rfl) dX10_gainOf_9 (fun r3 σ2 h => ?_)
  exact zx_iret C hr dX10_gainOf_12 h
theorem lk_X10_338 : zLV RX10 338 RX10 yX10_gainOf cX10_gainOf 3 (some .int) 2 := zLV_of ml_X10_338 im_X10_gainOf se_X10_gainOf ini_X10 cd_X10_gainOf (by decide +kernel)
def w_X10_isRest_2 (x_1 : Int32) (P : Int32 → zSto → Prop)  : Nat → Int32 → zSto → Prop
  | 0, _, _ => False
  | n + 1, x_2, σ => (((σ.1 223 26) ≤ x_2 → P (1 : Int32) σ) ∧ (¬ (σ.1 223 26) ≤ x_2 → (w_X10_gainOf (x_1 ^^^ ((1 : Int32) <<< (x_2 &&& 31))) x_2 σ (fun (r2 : Int32) (σ1 : zSto) => (w_X10_gainOf x_1 x_2 σ1 (fun (r4 : Int32) (σ3 : zSto) => ((r2 ≤ r4 → (∀ x5 : Int32, x5 = (x_2 + (1 : Int32)) → w_X10_isRest_2 x_1 P n x5 σ3)) ∧ (¬ r2 ≤ r4 → P (0 : Int32) σ3))))))))
def w_X10_isRest (a1 : Int32) (σ : zSto) (P : Int32 → zSto → Prop) : Prop := (∃ n : Nat, w_X10_isRest_2 a1 P  n (0 : Int32) σ)
set_option maxRecDepth 100000 in
set_option maxHeartbeats 4000000 in
theorem k_X10_isRest_2 {p : Program} {l : Launch} {e : Env} {s : State} {m : MethodId} {args : Array Value} {below : List Frame} {meth : Method} {c : Code} {D : va_G} {cy : Nat → ClassId} {g : Nat → Nat} (C : zC p s m args meth c cX10_isRest RX10 3 D cy g) (hr : meth.sig.returnType = (some .boolean)) {P : Int32 → zSto → Prop} (x_1 : Int32)    : ∀ (n : Nat) (x_2 : Int32) (σ : zSto), w_X10_isRest_2 x_1 P n x_2 σ → zX p l e (zrm 7 161) s m args below meth c 0 0 (zQb P below args s D cy g) 3 D cy g 2 [(0, .ref (g 223)), (1, .int x_1), (2, .int x_2)] [] σ := by
  intro n
  induction n with
  | zero => intro x_2 σ h; exact h.elim
  | succ n ih =>
    intro x_2 σ h
    unfold w_X10_isRest_2 at h
    refine zx_iload_n C dX10_isRest_2 2 rfl ?_
    refine zx_aload_n C dX10_isRest_3 0 rfl ?_
    refine zx_getI C zs_223 fg_X10_251 rfl dX10_isRest_4 ?_
    refine zx_icmp_ge C 37 dX10_isRest_7 (by decide) (fun q => ?_) (fun q => ?_)
    · replace h := h.1 q
      refine zx_iconst (v := (1 : Int32)) C dX10_isRest_37 (by decide) ?_
      exact zx_zret C hr dX10_isRest_38 (Or.inr rfl) h
    · replace h := h.2 q
      refine zx_aload_n C dX10_isRest_10 0 rfl ?_
      refine zx_iload_n C dX10_isRest_11 1 rfl ?_
      refine zx_iconst (v := (1 : Int32)) C dX10_isRest_12 (by decide) ?_
      refine zx_iload_n C dX10_isRest_13 2 rfl ?_
      refine zx_ishl C dX10_isRest_14 ?_
      refine zx_ixor C dX10_isRest_15 ?_
      refine zx_iload_n C dX10_isRest_16 2 rfl ?_
      refine zx_cVi C [.int (x_1 ^^^ ((1 : Int32) <<< (x_2 &&& 31))), .int x_2] lk_X10_338 (c_X10_gainOf l D cy g (x_1 ^^^ ((1 : Int32) <<< (x_2 &&& 31))) x_2  σ h) zs_223 rfl ⟨by decide, by decide⟩ ⟨rfl, rfl⟩ ⟨Nat.zero_le _, Nat.zero_le _⟩ rfl rfl (Nat.le_of_ble_eq_true rfl) dX10_isRest_17 (fun r2 σ1 h => ?_)
      refine zx_aload_n C dX10_isRest_20 0 rfl ?_
      refine zx_iload_n C dX10_isRest_21 1 rfl ?_
      refine zx_iload_n C dX10_isRest_22 2 rfl ?_
      refine zx_cVi C [.int x_1, .int x_2] lk_X10_338 (c_X10_gainOf l D cy g x_1 x_2  σ1 h) zs_223 rfl ⟨by decide, by decide⟩ ⟨rfl, rfl⟩ ⟨Nat.zero_le _, Nat.zero_le _⟩ rfl rfl (Nat.le_of_ble_eq_true rfl) dX10_isRest_23 (fun r4 σ3 h => ?_)
      refine zx_icmp_le C 31 dX10_isRest_26 (by decide) (fun q => ?_) (fun q => ?_)
      · replace h := h.1 q
        obtain ⟨x5, ex5⟩ : ∃ y : Int32, y = (x_2 + (1 : Int32)) := ⟨_, rfl⟩
        replace h := h x5 ex5
        refine zx_iinc (v := x5) (lv' := [(2, .int x5), (0, .ref (g 223)), (1, .int x_1)]) C dX10_isRest_31 2 rfl (by rw [ex5]; rfl) (by decide) rfl ?_
        refine zx_goto C 2 dX10_isRest_34 (by decide) ?_
        refine zx_lv (lv' := [(0, .ref (g 223)), (1, .int x_1), (2, .int x5)]) [1, 2, 0] rfl ?_
        exact ih x5 σ3 h
      · replace h := h.2 q
        refine zx_iconst (v := (0 : Int32)) C dX10_isRest_29 (by decide) ?_
        exact zx_zret C hr dX10_isRest_30 (Or.inl rfl) h
set_option maxRecDepth 100000 in
set_option maxHeartbeats 4000000 in
theorem c_X10_isRest (l : Launch) (D : va_G) (cy : Nat → ClassId) (g : Nat → Nat) (a1 : Int32)  (σ : zSto) {P : Int32 → zSto → Prop} (h : w_X10_isRest a1 σ P) : zMb l yX10_isRest cX10_isRest 3 (some .boolean) (zrm 7 161) D cy g [.ref (g 223), .int a1] σ P := by
  unfold w_X10_isRest at h
  refine zm_b RX10 rfl (by decide +kernel) (Nat.le_of_ble_eq_true rfl) ?_
  intro p e s m below meth c C hr
  refine zx_lv (lv' := [(0, .ref (g 223)), (1, .int a1)]) [0, 1] rfl ?_
  refine zx_iconst (v := (0 : Int32)) C dX10_isRest_0 (by decide) ?_
  refine zx_istore_n (lv' := [(2, .int (0 : Int32)), (0, .ref (g 223)), (1, .int a1)]) C dX10_isRest_1 (by decide) rfl ?_
  obtain ⟨n, h⟩ := h
  refine zx_lv (lv' := [(0, .ref (g 223)), (1, .int a1), (2, .int (0 : Int32))]) [1, 2, 0] rfl ?_
  exact k_X10_isRest_2 C hr (a1)   n (0 : Int32) σ h
theorem lk_X10_341 : zLV RX10 341 RX10 yX10_isRest cX10_isRest 3 (some .boolean) 1 := zLV_of ml_X10_341 im_X10_isRest se_X10_isRest ini_X10 cd_X10_isRest (by decide +kernel)
def w_X10_rest_23 (x_3 : Int32) (P : Int32 → zSto → Prop)  : Nat → Int32 → Int32 → zSto → Prop
  | 0, _, _, _ => False
  | n + 1, x_4, x_5, σ => (w_X10_everyone  σ (fun (r5 : Int32) (σ4 : zSto) => ((r5 < x_5 → ((¬ x_3 = (-1 : Int32) → P (-2 : Int32) σ4) ∧ (x_3 = (-1 : Int32) → P x_4 σ4))) ∧ (¬ r5 < x_5 → (w_X10_isRest x_5 σ4 (fun (r7 : Int32) (σ6 : zSto) => (r7 = 0 ∨ r7 = 1) → ((r7 = 0 → (∀ x8 : Int32, x8 = (x_5 + (1 : Int32)) → w_X10_rest_23 x_3 P n x_4 x8 σ6)) ∧ (¬ r7 = 0 → ((¬ x_4 = x_3 → (∀ x9 : Int32, x9 = (x_4 + (1 : Int32)) → (∀ x10 : Int32, x10 = (x_5 + (1 : Int32)) → w_X10_rest_23 x_3 P n x9 x10 σ6))) ∧ (x_4 = x_3 → P x_5 σ6))))))))))
def w_X10_rest (a1 : Int32) (a2 : Int32) (a3 : Int32) (σ : zSto) (P : Int32 → zSto → Prop) : Prop := (∀ σ1 : zSto, σ1 = zI σ 223 0 (0 : Int32) → (w_X10_hand a1 a2 σ1 (fun (r3 : Int32) (σ2 : zSto) => (r3 = 0 ∨ r3 = 1) → ((¬ r3 = 0 → (∃ n : Nat, w_X10_rest_23 a3 P  n (0 : Int32) (0 : Int32) σ2)) ∧ (r3 = 0 → P (-2 : Int32) σ2)))))
set_option maxRecDepth 100000 in
set_option maxHeartbeats 4000000 in
theorem k_X10_rest_23 {p : Program} {l : Launch} {e : Env} {s : State} {m : MethodId} {args : Array Value} {below : List Frame} {meth : Method} {c : Code} {D : va_G} {cy : Nat → ClassId} {g : Nat → Nat} (C : zC p s m args meth c cX10_rest RX10 6 D cy g) (hr : meth.sig.returnType = (some .int)) {P : Int32 → zSto → Prop} (x_3 : Int32)    : ∀ (n : Nat) (x_4 : Int32) (x_5 : Int32) (σ : zSto), w_X10_rest_23 x_3 P n x_4 x_5 σ → zX p l e (zrm 8 183) s m args below meth c 0 0 (zQi P below args s D cy g) 6 D cy g 23 [(0, .ref (g 223)), (3, .int x_3), (4, .int x_4), (5, .int x_5)] [] σ := by
  intro n
  induction n with
  | zero => intro x_4 x_5 σ h; exact h.elim
  | succ n ih =>
    intro x_4 x_5 σ h
    unfold w_X10_rest_23 at h
    refine zx_iload C dX10_rest_23 3 rfl ?_
    refine zx_aload_n C dX10_rest_25 0 rfl ?_
    refine zx_cVi C [] lk_X10_307 (c_X10_everyone l D cy g   σ h) zs_223 rfl ⟨by decide, by decide⟩ ⟨rfl, rfl⟩ ⟨Nat.zero_le _, Nat.zero_le _⟩ rfl rfl (Nat.le_of_ble_eq_true rfl) dX10_rest_26 (fun r5 σ4 h => ?_)
    refine zx_icmp_gt C 59 dX10_rest_29 (by decide) (fun q => ?_) (fun q => ?_)
    · replace h := h.1 q
      refine zx_iload_n C dX10_rest_59 1 rfl ?_
      refine zx_iconst (v := (-1 : Int32)) C dX10_rest_60 (by decide) ?_
      refine zx_icmp_ne C 69 dX10_rest_61 (by decide) (fun q => ?_) (fun q => ?_)
      · replace h := h.1 q
        refine zx_bipush (v := (-2 : Int32)) C dX10_rest_69 (by decide) ?_
        exact zx_iret C hr dX10_rest_71 h
      · replace h := h.2 q
        refine zx_iload C dX10_rest_64 2 rfl ?_
        refine zx_goto C 71 dX10_rest_66 (by decide) ?_
        exact zx_iret C hr dX10_rest_71 h
    · replace h := h.2 q
      refine zx_aload_n C dX10_rest_32 0 rfl ?_
      refine zx_iload C dX10_rest_33 3 rfl ?_
      refine zx_cVb C [.int x_5] lk_X10_341 (c_X10_isRest l D cy g x_5  σ4 h) zs_223 rfl ⟨by decide, by decide⟩ ⟨rfl, rfl⟩ ⟨Nat.zero_le _, Nat.zero_le _⟩ rfl rfl (Nat.le_of_ble_eq_true rfl) dX10_rest_35 (fun r7 σ6 hb h => ?_)
      replace h := h hb
      refine zx_if_eq C 53 dX10_rest_38 (by decide) (fun q => ?_) (fun q => ?_)
      · replace h := h.1 q
        obtain ⟨x8, ex8⟩ : ∃ y : Int32, y = (x_5 + (1 : Int32)) := ⟨_, rfl⟩
        replace h := h x8 ex8
        refine zx_iinc (v := x8) (lv' := [(5, .int x8), (0, .ref (g 223)), (3, .int x_3), (4, .int x_4)]) C dX10_rest_53 3 rfl (by rw [ex8]; rfl) (by decide) rfl ?_
        refine zx_goto C 23 dX10_rest_56 (by decide) ?_
        refine zx_lv (lv' := [(0, .ref (g 223)), (3, .int x_3), (4, .int x_4), (5, .int x8)]) [1, 2, 3, 0] rfl ?_
        exact ih x_4 x8 σ6 h
      · replace h := h.2 q
        refine zx_iload C dX10_rest_41 2 rfl ?_
        refine zx_iload_n C dX10_rest_43 1 rfl ?_
        refine zx_icmp_ne C 50 dX10_rest_44 (by decide) (fun q => ?_) (fun q => ?_)
        · replace h := h.1 q
          obtain ⟨x9, ex9⟩ : ∃ y : Int32, y = (x_4 + (1 : Int32)) := ⟨_, rfl⟩
          replace h := h x9 ex9
          refine zx_iinc (v := x9) (lv' := [(4, .int x9), (0, .ref (g 223)), (3, .int x_3), (5, .int x_5)]) C dX10_rest_50 2 rfl (by rw [ex9]; rfl) (by decide) rfl ?_
          obtain ⟨x10, ex10⟩ : ∃ y : Int32, y = (x_5 + (1 : Int32)) := ⟨_, rfl⟩
          replace h := h x10 ex10
          refine zx_iinc (v := x10) (lv' := [(5, .int x10), (4, .int x9), (0, .ref (g 223)), (3, .int x_3)]) C dX10_rest_53 3 rfl (by rw [ex10]; rfl) (by decide) rfl ?_
          refine zx_goto C 23 dX10_rest_56 (by decide) ?_
          refine zx_lv (lv' := [(0, .ref (g 223)), (3, .int x_3), (4, .int x9), (5, .int x10)]) [2, 3, 1, 0] rfl ?_
          exact ih x9 x10 σ6 h
        · replace h := h.2 q
          refine zx_iload C dX10_rest_47 3 rfl ?_
          exact zx_iret C hr dX10_rest_49 h
set_option maxRecDepth 100000 in
set_option maxHeartbeats 4000000 in
theorem c_X10_rest (l : Launch) (D : va_G) (cy : Nat → ClassId) (g : Nat → Nat) (a1 : Int32) (a2 : Int32) (a3 : Int32)  (σ : zSto) {P : Int32 → zSto → Prop} (h : w_X10_rest a1 a2 a3 σ P) : zMi l yX10_rest cX10_rest 6 (some .int) (zrm 8 183) D cy g [.ref (g 223), .int a1, .int a2, .int a3] σ P := by
  unfold w_X10_rest at h
  refine zm_i RX10 rfl (by decide +kernel) (Nat.le_of_ble_eq_true rfl) ?_
  intro p e s m below meth c C hr
  refine zx_lv (lv' := [(0, .ref (g 223)), (1, .int a1), (2, .int a2), (3, .int a3)]) [0, 1, 2, 3] rfl ?_
  refine zx_aload_n C dX10_rest_0 0 rfl ?_
  refine zx_iconst (v := (0 : Int32)) C dX10_rest_1 (by decide) ?_
  refine zx_putI C zs_223 fp_X10_91 rfl dX10_rest_2 ?_
  refine zx_sig (fun σ1 eσ1 => ?_)
  replace h := h σ1 eσ1
  refine zx_aload_n C dX10_rest_5 0 rfl ?_
  refine zx_iload_n C dX10_rest_6 1 rfl ?_
  refine zx_iload_n C dX10_rest_7 2 rfl ?_
  refine zx_cVb C [.int a1, .int a2] lk_X10_257 (c_X10_hand l D cy g a1 a2  σ1 h) zs_223 rfl ⟨by decide, by decide⟩ ⟨rfl, rfl⟩ ⟨Nat.zero_le _, Nat.zero_le _⟩ rfl rfl (Nat.le_of_ble_eq_true rfl) dX10_rest_8 (fun r3 σ2 hb h => ?_)
  replace h := h hb
  refine zx_if_ne C 17 dX10_rest_11 (by decide) (fun q => ?_) (fun q => ?_)
  · replace h := h.1 q
    refine zx_iconst (v := (0 : Int32)) C dX10_rest_17 (by decide) ?_
    refine zx_istore (lv' := [(4, .int (0 : Int32)), (0, .ref (g 223)), (1, .int a1), (2, .int a2), (3, .int a3)]) C dX10_rest_18 (by decide) rfl ?_
    refine zx_iconst (v := (0 : Int32)) C dX10_rest_20 (by decide) ?_
    refine zx_istore (lv' := [(5, .int (0 : Int32)), (4, .int (0 : Int32)), (0, .ref (g 223)), (1, .int a1), (2, .int a2), (3, .int a3)]) C dX10_rest_21 (by decide) rfl ?_
    obtain ⟨n, h⟩ := h
    refine zx_lv (lv' := [(0, .ref (g 223)), (3, .int a3), (4, .int (0 : Int32)), (5, .int (0 : Int32))]) [2, 5, 1, 0] rfl ?_
    exact k_X10_rest_23 C hr (a3)   n (0 : Int32) (0 : Int32) σ2 h
  · replace h := h.2 q
    refine zx_bipush (v := (-2 : Int32)) C dX10_rest_14 (by decide) ?_
    exact zx_iret C hr dX10_rest_16 h
def w_X10_gain (a1 : Int32) (a2 : Int32) (a3 : Int32) (a4 : Int32) (σ : zSto) (P : Int32 → zSto → Prop) : Prop := (∀ σ1 : zSto, σ1 = zI σ 223 0 (0 : Int32) → (w_X10_hand a1 a2 σ1 (fun (r3 : Int32) (σ2 : zSto) => (r3 = 0 ∨ r3 = 1) → ((r3 = 0 → P (-1000000 : Int32) σ2) ∧ (¬ r3 = 0 → (w_X10_everyone  σ2 (fun (r5 : Int32) (σ4 : zSto) => (w_X10_in a3 (0 : Int32) r5 σ4 (fun (r7 : Int32) (σ6 : zSto) => (r7 = 0 ∨ r7 = 1) → ((r7 = 0 → P (-1000000 : Int32) σ6) ∧ (¬ r7 = 0 → (w_X10_isRider a4 σ6 (fun (r9 : Int32) (σ8 : zSto) => (r9 = 0 ∨ r9 = 1) → ((r9 = 0 → P (-1000000 : Int32) σ8) ∧ (¬ r9 = 0 → (w_X10_gainOf a3 a4 σ8 (fun (r11 : Int32) (σ10 : zSto) => P r11 σ10)))))))))))))))))
set_option maxRecDepth 100000 in
set_option maxHeartbeats 4000000 in
theorem c_X10_gain (l : Launch) (D : va_G) (cy : Nat → ClassId) (g : Nat → Nat) (a1 : Int32) (a2 : Int32) (a3 : Int32) (a4 : Int32)  (σ : zSto) {P : Int32 → zSto → Prop} (h : w_X10_gain a1 a2 a3 a4 σ P) : zMi l yX10_gain cX10_gain 5 (some .int) (zrm 7 161) D cy g [.ref (g 223), .int a1, .int a2, .int a3, .int a4] σ P := by
  unfold w_X10_gain at h
  refine zm_i RX10 rfl (by decide +kernel) (Nat.le_of_ble_eq_true rfl) ?_
  intro p e s m below meth c C hr
  refine zx_lv (lv' := [(0, .ref (g 223)), (1, .int a1), (2, .int a2), (3, .int a3), (4, .int a4)]) [0, 1, 2, 3, 4] rfl ?_
  refine zx_aload_n C dX10_gain_0 0 rfl ?_
  refine zx_iconst (v := (0 : Int32)) C dX10_gain_1 (by decide) ?_
  refine zx_putI C zs_223 fp_X10_91 rfl dX10_gain_2 ?_
  refine zx_sig (fun σ1 eσ1 => ?_)
  replace h := h σ1 eσ1
  refine zx_aload_n C dX10_gain_5 0 rfl ?_
  refine zx_iload_n C dX10_gain_6 1 rfl ?_
  refine zx_iload_n C dX10_gain_7 2 rfl ?_
  refine zx_cVb C [.int a1, .int a2] lk_X10_257 (c_X10_hand l D cy g a1 a2  σ1 h) zs_223 rfl ⟨by decide, by decide⟩ ⟨rfl, rfl⟩ ⟨Nat.zero_le _, Nat.zero_le _⟩ rfl rfl (Nat.le_of_ble_eq_true rfl) dX10_gain_8 (fun r3 σ2 hb h => ?_)
  replace h := h hb
  refine zx_if_eq C 45 dX10_gain_11 (by decide) (fun q => ?_) (fun q => ?_)
  · replace h := h.1 q
    refine zx_ldcw C dX10_gain_45 co_X10_344 ?_
    exact zx_iret C hr dX10_gain_48 h
  · replace h := h.2 q
    refine zx_iload_n C dX10_gain_14 3 rfl ?_
    refine zx_iconst (v := (0 : Int32)) C dX10_gain_15 (by decide) ?_
    refine zx_aload_n C dX10_gain_16 0 rfl ?_
    refine zx_cVi C [] lk_X10_307 (c_X10_everyone l D cy g   σ2 h) zs_223 rfl ⟨by decide, by decide⟩ ⟨rfl, rfl⟩ ⟨Nat.zero_le _, Nat.zero_le _⟩ rfl rfl (Nat.le_of_ble_eq_true rfl) dX10_gain_17 (fun r5 σ4 h => ?_)
    refine zx_cSb C [.int a3, .int (0 : Int32), .int r5] lk_X10_103 (c_X10_in l D cy g a3 (0 : Int32) r5  σ4 h) ⟨by decide, by decide⟩ ⟨rfl, rfl⟩ ⟨Nat.zero_le _, Nat.zero_le _⟩ rfl rfl (Nat.le_of_ble_eq_true rfl) dX10_gain_20 (fun r7 σ6 hb h => ?_)
    replace h := h hb
    refine zx_if_eq C 45 dX10_gain_23 (by decide) (fun q => ?_) (fun q => ?_)
    · replace h := h.1 q
      refine zx_ldcw C dX10_gain_45 co_X10_344 ?_
      exact zx_iret C hr dX10_gain_48 h
    · replace h := h.2 q
      refine zx_aload_n C dX10_gain_26 0 rfl ?_
      refine zx_iload C dX10_gain_27 4 rfl ?_
      refine zx_cVb C [.int a4] lk_X10_263 (c_X10_isRider l D cy g a4  σ6 h) zs_223 rfl ⟨by decide, by decide⟩ ⟨rfl, rfl⟩ ⟨Nat.zero_le _, Nat.zero_le _⟩ rfl rfl (Nat.le_of_ble_eq_true rfl) dX10_gain_29 (fun r9 σ8 hb h => ?_)
      replace h := h hb
      refine zx_if_eq C 45 dX10_gain_32 (by decide) (fun q => ?_) (fun q => ?_)
      · replace h := h.1 q
        refine zx_ldcw C dX10_gain_45 co_X10_344 ?_
        exact zx_iret C hr dX10_gain_48 h
      · replace h := h.2 q
        refine zx_aload_n C dX10_gain_35 0 rfl ?_
        refine zx_iload_n C dX10_gain_36 3 rfl ?_
        refine zx_iload C dX10_gain_37 4 rfl ?_
        refine zx_cVi C [.int a3, .int a4] lk_X10_338 (c_X10_gainOf l D cy g a3 a4  σ8 h) zs_223 rfl ⟨by decide, by decide⟩ ⟨rfl, rfl⟩ ⟨Nat.zero_le _, Nat.zero_le _⟩ rfl rfl (Nat.le_of_ble_eq_true rfl) dX10_gain_39 (fun r11 σ10 h => ?_)
        refine zx_goto C 48 dX10_gain_42 (by decide) ?_
        exact zx_iret C hr dX10_gain_48 h
theorem fg_X10_75 : zFG RX10 75 10 41 := ⟨RX10, TX10, 50, rfl, lay_X10, by decide, fl_X10_75⟩
theorem fp_X10_345 : zFP RX10 345 10 42 .long := ⟨RX10, TX10, 50, tyX10, rfl, lay_X10, by decide, fl_X10_345, tyX10_ok, nmX10, rfl, by decide +kernel⟩
theorem fg_X10_345 : zFG RX10 345 10 42 := ⟨RX10, TX10, 50, rfl, lay_X10, by decide, fl_X10_345⟩
def w_X10_findOdds_65 (x_1 : Int32) (x_2 : Int32) (x_3 : Int32) (P : zSto → Prop) (K36 : Int32 → zSto → Prop) : Nat → Int32 → zSto → Prop
  | 0, _, _ => False
  | n + 1, x_4, σ => ((x_4 < 0 → (∀ x6 : Int32, x6 = (x_2 + (1 : Int32)) → K36 x6 σ)) ∧ (¬ x_4 < 0 → (vp_in x_4 1200 ∧ (vp_in x_2 16 ∧ ((x_4 < (σ.1 237 (x_2).toNatClampNeg) → (vp_in x_4 1200 ∧ (∀ σ10 : zSto, σ10 = zJ σ 245 (x_4).toNatClampNeg (((σ.2 245 (x_4).toNatClampNeg) * ((10 : Int32) - x_3).toInt64) + (0 : Int64)) → (∀ x11 : Int32, x11 = (x_4 + (-1 : Int32)) → w_X10_findOdds_65 x_1 x_2 x_3 P K36 n x11 σ10)))) ∧ (¬ x_4 < (σ.1 237 (x_2).toNatClampNeg) → (vp_in x_2 16 ∧ (vp_in (x_4 - (σ.1 237 (x_2).toNatClampNeg)) 1200 ∧ (vp_in x_4 1200 ∧ (∀ σ15 : zSto, σ15 = zJ σ 245 (x_4).toNatClampNeg (((σ.2 245 (x_4).toNatClampNeg) * ((10 : Int32) - x_3).toInt64) + ((σ.2 245 ((x_4 - (σ.1 237 (x_2).toNatClampNeg))).toNatClampNeg) * x_3.toInt64)) → (∀ x16 : Int32, x16 = (x_4 + (-1 : Int32)) → w_X10_findOdds_65 x_1 x_2 x_3 P K36 n x16 σ15)))))))))))
def w_X10_findOdds_36 (x_1 : Int32) (P : zSto → Prop)  : Nat → Int32 → zSto → Prop
  | 0, _, _ => False
  | n + 1, x_2, σ => ((x_1 ≤ x_2 → P σ) ∧ (¬ x_1 ≤ x_2 → (w_X10_postOf x_2 (3 : Int32) σ (fun (r4 : Int32) (σ3 : zSto) => (∀ σ5 : zSto, σ5 = zJ σ3 223 42 ((σ3.2 223 42) * (10 : Int64)) → (∃ n2 : Nat, w_X10_findOdds_65 x_1 x_2 r4 P (fun z0 σz => w_X10_findOdds_36 x_1 P n z0 σz) n2 (1199 : Int32) σ5))))))
def w_X10_findOdds_2 (x_1 : Int32) (P : zSto → Prop)  : Nat → Int32 → zSto → Prop
  | 0, _, _ => False
  | n + 1, x_2, σ => (((1200 : Int32) ≤ x_2 → (∀ σ1 : zSto, σ1 = zJ σ 245 0 (1 : Int64) → (∀ σ2 : zSto, σ2 = zJ σ1 223 42 (1 : Int64) → (∃ n2 : Nat, w_X10_findOdds_36 x_1 P  n2 (0 : Int32) σ2)))) ∧ (¬ (1200 : Int32) ≤ x_2 → (vp_in x_2 1200 ∧ (∀ σ18 : zSto, σ18 = zJ σ 245 (x_2).toNatClampNeg (0 : Int64) → (∀ x19 : Int32, x19 = (x_2 + (1 : Int32)) → w_X10_findOdds_2 x_1 P n x19 σ18)))))
def w_X10_findOdds (a1 : Int32) (σ : zSto) (P : zSto → Prop) : Prop := (∃ n : Nat, w_X10_findOdds_2 a1 P  n (0 : Int32) σ)
set_option maxRecDepth 100000 in
set_option maxHeartbeats 4000000 in
theorem k_X10_findOdds_65 {p : Program} {l : Launch} {e : Env} {s : State} {m : MethodId} {args : Array Value} {below : List Frame} {meth : Method} {c : Code} {D : va_G} {cy : Nat → ClassId} {g : Nat → Nat} (C : zC p s m args meth c cX10_findOdds RX10 5 D cy g) (hr : meth.sig.returnType = none) {P : zSto → Prop} (x_1 : Int32) (x_2 : Int32) (x_3 : Int32)  {K36 : Int32 → zSto → Prop} (hK36 : ∀ (z0 : Int32) (σz : zSto), K36 z0 σz → zX p l e (zrm 2 43) s m args below meth c 0 0 (zQv P below args s D cy g) 5 D cy g 36 [(0, .ref (g 223)), (1, .int x_1), (2, .int z0)] [] σz) : ∀ (n : Nat) (x_4 : Int32) (σ : zSto), w_X10_findOdds_65 x_1 x_2 x_3 P K36 n x_4 σ → zX p l e (zrm 2 43) s m args below meth c 0 0 (zQv P below args s D cy g) 5 D cy g 65 [(0, .ref (g 223)), (1, .int x_1), (2, .int x_2), (3, .int x_3), (4, .int x_4)] [] σ := by
  intro n
  induction n with
  | zero => intro x_4 σ h; exact h.elim
  | succ n ih =>
    intro x_4 σ h
    unfold w_X10_findOdds_65 at h
    refine zx_iload C dX10_findOdds_65 4 rfl ?_
    refine zx_if_lt C 129 dX10_findOdds_67 (by decide) (fun q => ?_) (fun q => ?_)
    · replace h := h.1 q
      obtain ⟨x6, ex6⟩ : ∃ y : Int32, y = (x_2 + (1 : Int32)) := ⟨_, rfl⟩
      replace h := h x6 ex6
      refine zx_iinc (v := x6) (lv' := [(2, .int x6), (0, .ref (g 223)), (1, .int x_1), (3, .int x_3), (4, .int x_4)]) C dX10_findOdds_129 2 rfl (by rw [ex6]; rfl) (by decide) rfl ?_
      refine zx_goto C 36 dX10_findOdds_132 (by decide) ?_
      refine zx_lv (lv' := [(0, .ref (g 223)), (1, .int x_1), (2, .int x6)]) [1, 2, 0] rfl ?_
      exact hK36 x6 σ h
    · replace h := h.2 q
      refine zx_aload_n C dX10_findOdds_70 0 rfl ?_
      refine zx_getR C zs_223 fg_X10_75 rfl 245 rfl dX10_findOdds_71 ?_
      refine zx_iload C dX10_findOdds_74 4 rfl ?_
      refine zx_aload_n C dX10_findOdds_76 0 rfl ?_
      refine zx_getR C zs_223 fg_X10_75 rfl 245 rfl dX10_findOdds_77 ?_
      refine zx_iload C dX10_findOdds_80 4 rfl ?_
      obtain ⟨bd7, h⟩ := h
      refine zx_lald C (x_4).toNatClampNeg zs_245 bd7 rfl dX10_findOdds_82 ?_
      refine zx_bipush (v := (10 : Int32)) C dX10_findOdds_83 (by decide) ?_
      refine zx_iload_n C dX10_findOdds_85 3 rfl ?_
      refine zx_isub C dX10_findOdds_86 ?_
      refine zx_i2l C dX10_findOdds_87 ?_
      refine zx_lmul C dX10_findOdds_88 ?_
      refine zx_iload C dX10_findOdds_89 4 rfl ?_
      refine zx_aload_n C dX10_findOdds_91 0 rfl ?_
      refine zx_getR C zs_223 fg_X10_50 rfl 237 rfl dX10_findOdds_92 ?_
      refine zx_iload_n C dX10_findOdds_95 2 rfl ?_
      obtain ⟨bd8, h⟩ := h
      refine zx_iald C (x_2).toNatClampNeg zs_237 bd8 rfl dX10_findOdds_96 ?_
      refine zx_icmp_lt C 120 dX10_findOdds_97 (by decide) (fun q => ?_) (fun q => ?_)
      · replace h := h.1 q
        refine zx_lconst (v := (0 : Int64)) C dX10_findOdds_120 (by decide) ?_
        refine zx_ladd C dX10_findOdds_121 ?_
        obtain ⟨bd9, h⟩ := h
        refine zx_last C (x_4).toNatClampNeg zs_245 bd9 rfl dX10_findOdds_122 ?_
        refine zx_sig (fun σ10 eσ10 => ?_)
        replace h := h σ10 eσ10
        obtain ⟨x11, ex11⟩ : ∃ y : Int32, y = (x_4 + (-1 : Int32)) := ⟨_, rfl⟩
        replace h := h x11 ex11
        refine zx_iinc (v := x11) (lv' := [(4, .int x11), (0, .ref (g 223)), (1, .int x_1), (2, .int x_2), (3, .int x_3)]) C dX10_findOdds_123 4 rfl (by rw [ex11]; rfl) (by decide) rfl ?_
        refine zx_goto C 65 dX10_findOdds_126 (by decide) ?_
        refine zx_lv (lv' := [(0, .ref (g 223)), (1, .int x_1), (2, .int x_2), (3, .int x_3), (4, .int x11)]) [1, 2, 3, 4, 0] rfl ?_
        exact ih x11 σ10 h
      · replace h := h.2 q
        refine zx_aload_n C dX10_findOdds_100 0 rfl ?_
        refine zx_getR C zs_223 fg_X10_75 rfl 245 rfl dX10_findOdds_101 ?_
        refine zx_iload C dX10_findOdds_104 4 rfl ?_
        refine zx_aload_n C dX10_findOdds_106 0 rfl ?_
        refine zx_getR C zs_223 fg_X10_50 rfl 237 rfl dX10_findOdds_107 ?_
        refine zx_iload_n C dX10_findOdds_110 2 rfl ?_
        obtain ⟨bd12, h⟩ := h
        refine zx_iald C (x_2).toNatClampNeg zs_237 bd12 rfl dX10_findOdds_111 ?_
        refine zx_isub C dX10_findOdds_112 ?_
        obtain ⟨bd13, h⟩ := h
        refine zx_lald C ((x_4 - (σ.1 237 (x_2).toNatClampNeg))).toNatClampNeg zs_245 bd13 rfl dX10_findOdds_113 ?_
        refine zx_iload_n C dX10_findOdds_114 3 rfl ?_
        refine zx_i2l C dX10_findOdds_115 ?_
        refine zx_lmul C dX10_findOdds_116 ?_
        refine zx_goto C 121 dX10_findOdds_117 (by decide) ?_
        refine zx_ladd C dX10_findOdds_121 ?_
        obtain ⟨bd14, h⟩ := h
        refine zx_last C (x_4).toNatClampNeg zs_245 bd14 rfl dX10_findOdds_122 ?_
        refine zx_sig (fun σ15 eσ15 => ?_)
        replace h := h σ15 eσ15
        obtain ⟨x16, ex16⟩ : ∃ y : Int32, y = (x_4 + (-1 : Int32)) := ⟨_, rfl⟩
        replace h := h x16 ex16
        refine zx_iinc (v := x16) (lv' := [(4, .int x16), (0, .ref (g 223)), (1, .int x_1), (2, .int x_2), (3, .int x_3)]) C dX10_findOdds_123 4 rfl (by rw [ex16]; rfl) (by decide) rfl ?_
        refine zx_goto C 65 dX10_findOdds_126 (by decide) ?_
        refine zx_lv (lv' := [(0, .ref (g 223)), (1, .int x_1), (2, .int x_2), (3, .int x_3), (4, .int x16)]) [1, 2, 3, 4, 0] rfl ?_
        exact ih x16 σ15 h
set_option maxRecDepth 100000 in
set_option maxHeartbeats 4000000 in
theorem k_X10_findOdds_36 {p : Program} {l : Launch} {e : Env} {s : State} {m : MethodId} {args : Array Value} {below : List Frame} {meth : Method} {c : Code} {D : va_G} {cy : Nat → ClassId} {g : Nat → Nat} (C : zC p s m args meth c cX10_findOdds RX10 5 D cy g) (hr : meth.sig.returnType = none) {P : zSto → Prop} (x_1 : Int32)    : ∀ (n : Nat) (x_2 : Int32) (σ : zSto), w_X10_findOdds_36 x_1 P n x_2 σ → zX p l e (zrm 2 43) s m args below meth c 0 0 (zQv P below args s D cy g) 5 D cy g 36 [(0, .ref (g 223)), (1, .int x_1), (2, .int x_2)] [] σ := by
  intro n
  induction n with
  | zero => intro x_2 σ h; exact h.elim
  | succ n ih =>
    intro x_2 σ h
    unfold w_X10_findOdds_36 at h
    refine zx_iload_n C dX10_findOdds_36 2 rfl ?_
    refine zx_iload_n C dX10_findOdds_37 1 rfl ?_
    refine zx_icmp_ge C 135 dX10_findOdds_38 (by decide) (fun q => ?_) (fun q => ?_)
    · replace h := h.1 q
      exact zx_vret C hr dX10_findOdds_135 h
    · replace h := h.2 q
      refine zx_aload_n C dX10_findOdds_41 0 rfl ?_
      refine zx_iload_n C dX10_findOdds_42 2 rfl ?_
      refine zx_iconst (v := (3 : Int32)) C dX10_findOdds_43 (by decide) ?_
      refine zx_cVi C [.int x_2, .int (3 : Int32)] lk_X10_242 (c_X10_postOf l D cy g x_2 (3 : Int32)  σ h) zs_223 rfl ⟨by decide, by decide⟩ ⟨rfl, rfl⟩ ⟨Nat.zero_le _, Nat.zero_le _⟩ rfl rfl (Nat.le_of_ble_eq_true rfl) dX10_findOdds_44 (fun r4 σ3 h => ?_)
      refine zx_istore_n (lv' := [(3, .int r4), (0, .ref (g 223)), (1, .int x_1), (2, .int x_2)]) C dX10_findOdds_47 (by decide) rfl ?_
      refine zx_aload_n C dX10_findOdds_48 1 rfl ?_
      refine zx_dup C dX10_findOdds_49 rfl ?_
      refine zx_getL C zs_223 fg_X10_345 rfl dX10_findOdds_50 ?_
      refine zx_ldc2 C dX10_findOdds_53 co_X10_348 ?_
      refine zx_lmul C dX10_findOdds_56 ?_
      refine zx_putL C zs_223 fp_X10_345 rfl dX10_findOdds_57 ?_
      refine zx_sig (fun σ5 eσ5 => ?_)
      replace h := h σ5 eσ5
      refine zx_sipush (v := (1199 : Int32)) C dX10_findOdds_60 (by decide) ?_
      refine zx_istore (lv' := [(4, .int (1199 : Int32)), (3, .int r4), (0, .ref (g 223)), (1, .int x_1), (2, .int x_2)]) C dX10_findOdds_63 (by decide) rfl ?_
      obtain ⟨n2, h⟩ := h
      refine zx_lv (lv' := [(0, .ref (g 223)), (1, .int x_1), (2, .int x_2), (3, .int r4), (4, .int (1199 : Int32))]) [2, 3, 4, 1, 0] rfl ?_
      exact k_X10_findOdds_65 C hr (x_1) (x_2) (r4)  (fun z0 σz h => ih z0 σz h) n2 (1199 : Int32) σ5 h
set_option maxRecDepth 100000 in
set_option maxHeartbeats 4000000 in
theorem k_X10_findOdds_2 {p : Program} {l : Launch} {e : Env} {s : State} {m : MethodId} {args : Array Value} {below : List Frame} {meth : Method} {c : Code} {D : va_G} {cy : Nat → ClassId} {g : Nat → Nat} (C : zC p s m args meth c cX10_findOdds RX10 5 D cy g) (hr : meth.sig.returnType = none) {P : zSto → Prop} (x_1 : Int32)    : ∀ (n : Nat) (x_2 : Int32) (σ : zSto), w_X10_findOdds_2 x_1 P n x_2 σ → zX p l e (zrm 2 43) s m args below meth c 0 0 (zQv P below args s D cy g) 5 D cy g 2 [(0, .ref (g 223)), (1, .int x_1), (2, .int x_2)] [] σ := by
  intro n
  induction n with
  | zero => intro x_2 σ h; exact h.elim
  | succ n ih =>
    intro x_2 σ h
    unfold w_X10_findOdds_2 at h
    refine zx_iload_n C dX10_findOdds_2 2 rfl ?_
    refine zx_sipush (v := (1200 : Int32)) C dX10_findOdds_3 (by decide) ?_
    refine zx_icmp_ge C 22 dX10_findOdds_6 (by decide) (fun q => ?_) (fun q => ?_)
    · replace h := h.1 q
      refine zx_aload_n C dX10_findOdds_22 0 rfl ?_
      refine zx_getR C zs_223 fg_X10_75 rfl 245 rfl dX10_findOdds_23 ?_
      refine zx_iconst (v := (0 : Int32)) C dX10_findOdds_26 (by decide) ?_
      refine zx_lconst (v := (1 : Int64)) C dX10_findOdds_27 (by decide) ?_
      refine zx_last C 0 zs_245 (by unfold vp_in; decide) (by decide) dX10_findOdds_28 ?_
      refine zx_sig (fun σ1 eσ1 => ?_)
      replace h := h σ1 eσ1
      refine zx_aload_n C dX10_findOdds_29 0 rfl ?_
      refine zx_lconst (v := (1 : Int64)) C dX10_findOdds_30 (by decide) ?_
      refine zx_putL C zs_223 fp_X10_345 rfl dX10_findOdds_31 ?_
      refine zx_sig (fun σ2 eσ2 => ?_)
      replace h := h σ2 eσ2
      refine zx_iconst (v := (0 : Int32)) C dX10_findOdds_34 (by decide) ?_
      refine zx_istore_n (lv' := [(2, .int (0 : Int32)), (0, .ref (g 223)), (1, .int x_1)]) C dX10_findOdds_35 (by decide) rfl ?_
      obtain ⟨n2, h⟩ := h
      refine zx_lv (lv' := [(0, .ref (g 223)), (1, .int x_1), (2, .int (0 : Int32))]) [1, 2, 0] rfl ?_
      exact k_X10_findOdds_36 C hr (x_1)   n2 (0 : Int32) σ2 h
    · replace h := h.2 q
      refine zx_aload_n C dX10_findOdds_9 0 rfl ?_
      refine zx_getR C zs_223 fg_X10_75 rfl 245 rfl dX10_findOdds_10 ?_
      refine zx_iload_n C dX10_findOdds_13 2 rfl ?_
      refine zx_lconst (v := (0 : Int64)) C dX10_findOdds_14 (by decide) ?_
      obtain ⟨bd17, h⟩ := h
      refine zx_last C (x_2).toNatClampNeg zs_245 bd17 rfl dX10_findOdds_15 ?_
      refine zx_sig (fun σ18 eσ18 => ?_)
      replace h := h σ18 eσ18
      obtain ⟨x19, ex19⟩ : ∃ y : Int32, y = (x_2 + (1 : Int32)) := ⟨_, rfl⟩
      replace h := h x19 ex19
      refine zx_iinc (v := x19) (lv' := [(2, .int x19), (0, .ref (g 223)), (1, .int x_1)]) C dX10_findOdds_16 2 rfl (by rw [ex19]; rfl) (by decide) rfl ?_
      refine zx_goto C 2 dX10_findOdds_19 (by decide) ?_
      refine zx_lv (lv' := [(0, .ref (g 223)), (1, .int x_1), (2, .int x19)]) [1, 2, 0] rfl ?_
      exact ih x19 σ18 h
set_option maxRecDepth 100000 in
set_option maxHeartbeats 4000000 in
theorem c_X10_findOdds (l : Launch) (D : va_G) (cy : Nat → ClassId) (g : Nat → Nat) (a1 : Int32)  (σ : zSto) {P : zSto → Prop} (h : w_X10_findOdds a1 σ P) : zMv l yX10_findOdds cX10_findOdds 5 none (zrm 2 43) D cy g [.ref (g 223), .int a1] σ P := by
  unfold w_X10_findOdds at h
  refine zm_v RX10 rfl (by decide +kernel) (Nat.le_of_ble_eq_true rfl) ?_
  intro p e s m below meth c C hr
  refine zx_lv (lv' := [(0, .ref (g 223)), (1, .int a1)]) [0, 1] rfl ?_
  refine zx_iconst (v := (0 : Int32)) C dX10_findOdds_0 (by decide) ?_
  refine zx_istore_n (lv' := [(2, .int (0 : Int32)), (0, .ref (g 223)), (1, .int a1)]) C dX10_findOdds_1 (by decide) rfl ?_
  obtain ⟨n, h⟩ := h
  refine zx_lv (lv' := [(0, .ref (g 223)), (1, .int a1), (2, .int (0 : Int32))]) [1, 2, 0] rfl ?_
  exact k_X10_findOdds_2 C hr (a1)   n (0 : Int32) σ h
def w_X10_common_6  (P : Int64 → zSto → Prop)  : Nat → Int64 → Int64 → zSto → Prop
  | 0, _, _, _ => False
  | n + 1, x_4, x_6, σ => (((lg_cmp x_6 (0 : Int64)) = 0 → P x_4 σ) ∧ (¬ (lg_cmp x_6 (0 : Int64)) = 0 → (¬ x_6 = 0 ∧ (∀ x2 : Int64, x2 = (x_4 - x_4 / x_6 * x_6) → w_X10_common_6 P n x_6 x2 σ))))
def w_X10_common (a1 : Int64) (a2 : Int64) (σ : zSto) (P : Int64 → zSto → Prop) : Prop := (∃ n : Nat, w_X10_common_6  P  n a1 a2 σ)
set_option maxRecDepth 100000 in
set_option maxHeartbeats 4000000 in
theorem k_X10_common_6 {p : Program} {l : Launch} {e : Env} {s : State} {m : MethodId} {args : Array Value} {below : List Frame} {meth : Method} {c : Code} {D : va_G} {cy : Nat → ClassId} {g : Nat → Nat} (C : zC p s m args meth c cX10_common RX10 10 D cy g) (hr : meth.sig.returnType = (some .long)) {P : Int64 → zSto → Prop}     : ∀ (n : Nat) (x_4 : Int64) (x_6 : Int64) (σ : zSto), w_X10_common_6 P n x_4 x_6 σ → zX p l e (zrm 0 0) s m args below meth c 0 0 (zQl P below args s D cy g) 10 D cy g 6 [(4, .long x_4), (6, .long x_6)] [] σ := by
  intro n
  induction n with
  | zero => intro x_4 x_6 σ h; exact h.elim
  | succ n ih =>
    intro x_4 x_6 σ h
    unfold w_X10_common_6 at h
    refine zx_lload C dX10_common_6 1 rfl ?_
    refine zx_lconst (v := (0 : Int64)) C dX10_common_8 (by decide) ?_
    refine zx_lcmp C dX10_common_9 ?_
    refine zx_if_eq C 31 dX10_common_10 (by decide) (fun q => ?_) (fun q => ?_)
    · replace h := h.1 q
      refine zx_lload C dX10_common_31 0 rfl ?_
      exact zx_lret C hr dX10_common_33 h
    · replace h := h.2 q
      refine zx_lload C dX10_common_13 0 rfl ?_
      refine zx_lload C dX10_common_15 1 rfl ?_
      obtain ⟨q1, h⟩ := h
      refine zx_lrem C dX10_common_17 q1 ?_
      refine zx_topl (fun x2 ex2 => ?_)
      replace h := h x2 ex2
      refine zx_lstore (lv' := [(8, .long x2), (4, .long x_4), (6, .long x_6)]) C dX10_common_18 (by decide) rfl ?_
      refine zx_lload C dX10_common_20 2 rfl ?_
      refine zx_lstore (lv' := [(4, .long x_6), (8, .long x2), (6, .long x_6)]) C dX10_common_22 (by decide) rfl ?_
      refine zx_lload C dX10_common_24 1 rfl ?_
      refine zx_lstore (lv' := [(6, .long x2), (4, .long x_6), (8, .long x2)]) C dX10_common_26 (by decide) rfl ?_
      refine zx_goto C 6 dX10_common_28 (by decide) ?_
      refine zx_lv (lv' := [(4, .long x_6), (6, .long x2)]) [1, 0] rfl ?_
      exact ih x_6 x2 σ h
set_option maxRecDepth 100000 in
set_option maxHeartbeats 4000000 in
theorem c_X10_common (l : Launch) (D : va_G) (cy : Nat → ClassId) (g : Nat → Nat) (a1 : Int64) (a2 : Int64)  (σ : zSto) {P : Int64 → zSto → Prop} (h : w_X10_common a1 a2 σ P) : zMl l yX10_common cX10_common 10 (some .long) (zrm 0 0) D cy g [.long a1, .long a2] σ P := by
  unfold w_X10_common at h
  refine zm_l RX10 rfl (by decide +kernel) (Nat.le_of_ble_eq_true rfl) ?_
  intro p e s m below meth c C hr
  refine zx_lv (lv' := [(0, .long a1), (2, .long a2)]) [0, 1] rfl ?_
  refine zx_lload_n C dX10_common_0 0 rfl ?_
  refine zx_lstore (lv' := [(4, .long a1), (0, .long a1), (2, .long a2)]) C dX10_common_1 (by decide) rfl ?_
  refine zx_lload_n C dX10_common_3 2 rfl ?_
  refine zx_lstore (lv' := [(6, .long a2), (4, .long a1), (0, .long a1), (2, .long a2)]) C dX10_common_4 (by decide) rfl ?_
  obtain ⟨n, h⟩ := h
  refine zx_lv (lv' := [(4, .long a1), (6, .long a2)]) [1, 0] rfl ?_
  exact k_X10_common_6 C hr    n a1 a2 σ h
