theorem lk_X9_242 : zLV RX9 242 RX0 yX0_isStation cX0_isStation 2 (some .boolean) 1 := zLV_of ml_X9_242 im_X0_isStation se_X0_isStation ini_X0 cd_X0_isStation (by decide +kernel)
theorem lk_X9_245 : zLV RX9 245 RX5 yX5_lateAt cX5_lateAt 3 (some .int) 2 := zLV_of ml_X9_245 im_X5_lateAt se_X5_lateAt ini_X5 cd_X5_lateAt (by decide +kernel)
def w_X9_late (a1 : Int32) (a2 : Int32) (a3 : Int32) (a4 : Int32) (a5 : Int32) (σ : zSto) (P : Int32 → zSto → Prop) : Prop := (w_X9_ridden a1 a2 a3 a4 σ (fun (q2 : Option Nat) (σ1 : zSto) => ((q2 = none → P (-1 : Int32) σ1) ∧ (∀ j3 : Nat, q2 = some j3 → zIsLine j3 ∧ (w_X0_isStation j3 a5 σ1 (fun (r5 : Int32) (σ4 : zSto) => (r5 = 0 ∨ r5 = 1) → ((¬ r5 = 0 → (w_X5_lateAt j3 a5 σ4 (fun (r7 : Int32) (σ6 : zSto) => P r7 σ6))) ∧ (r5 = 0 → P (-1 : Int32) σ4))))))))
set_option maxRecDepth 100000 in
set_option maxHeartbeats 4000000 in
theorem c_X9_late (l : Launch) (D : va_G) (cy : Nat → ClassId) (g : Nat → Nat) (a1 : Int32) (a2 : Int32) (a3 : Int32) (a4 : Int32) (a5 : Int32)  (σ : zSto) {P : Int32 → zSto → Prop} (h : w_X9_late a1 a2 a3 a4 a5 σ P) : zMi l yX9_late cX9_late 7 (some .int) (zrm 5 161) D cy g [.ref (g 0), .int a1, .int a2, .int a3, .int a4, .int a5] σ P := by
  unfold w_X9_late at h
  refine zm_i RX9 rfl (by decide +kernel) (Nat.le_of_ble_eq_true rfl) ?_
  intro p e s m below meth c C hr
  refine zx_lv (lv' := [(0, .ref (g 0)), (1, .int a1), (2, .int a2), (3, .int a3), (4, .int a4), (5, .int a5)]) [0, 1, 2, 3, 4, 5] rfl ?_
  refine zx_aload_n C dX9_late_0 0 rfl ?_
  refine zx_iload_n C dX9_late_1 1 rfl ?_
  refine zx_iload_n C dX9_late_2 2 rfl ?_
  refine zx_iload_n C dX9_late_3 3 rfl ?_
  refine zx_iload C dX9_late_4 4 rfl ?_
  refine zx_cVq C [.int a1, .int a2, .int a3, .int a4] lk_X9_206 (c_X9_ridden l D cy g a1 a2 a3 a4  σ h) zs_0 rfl ⟨by decide, by decide⟩ ⟨rfl, rfl⟩ ⟨Nat.zero_le _, Nat.zero_le _⟩ rfl rfl (Nat.le_of_ble_eq_true rfl) dX9_late_6 (fun σ1 h => ?_) (fun j3 σ1 h => ?_)
  · replace h := h.1 rfl
    refine zx_astoreN (lv' := [(6, .null), (0, .ref (g 0)), (1, .int a1), (2, .int a2), (3, .int a3), (4, .int a4), (5, .int a5)]) C dX9_late_9 (by decide) rfl ?_
    refine zx_aloadN C dX9_late_11 0 rfl ?_
    refine zx_ifnullN C 26 dX9_late_13 (by decide) ?_
    refine zx_iconst (v := (-1 : Int32)) C dX9_late_26 (by decide) ?_
    exact zx_iret C hr dX9_late_27 h
  · obtain ⟨hj3, h⟩ := h.2 j3 rfl
    refine zx_astore (lv' := [(6, .ref (g j3)), (0, .ref (g 0)), (1, .int a1), (2, .int a2), (3, .int a3), (4, .int a4), (5, .int a5)]) C dX9_late_9 (by decide) rfl ?_
    refine zx_aload C dX9_late_11 0 rfl ?_
    refine zx_ifnull C dX9_late_13 ?_
    refine zx_aload C dX9_late_16 0 rfl ?_
    refine zx_iload C dX9_late_18 6 rfl ?_
    refine zx_cVb C [.int a5] lk_X9_242 (c_X0_isStation l D cy g j3 a5 hj3 σ1 h) hj3.1 rfl ⟨by decide, by decide⟩ ⟨rfl, rfl⟩ ⟨Nat.zero_le _, Nat.zero_le _⟩ rfl rfl (Nat.le_of_ble_eq_true rfl) dX9_late_20 (fun r5 σ4 hb h => ?_)
    replace h := h hb
    refine zx_if_ne C 28 dX9_late_23 (by decide) (fun q => ?_) (fun q => ?_)
    · replace h := h.1 q
      refine zx_aload_n C dX9_late_28 1 rfl ?_
      refine zx_getR C zs_0 fg_X9_34 rfl 190 rfl dX9_late_29 ?_
      refine zx_aload C dX9_late_32 0 rfl ?_
      refine zx_iload C dX9_late_34 6 rfl ?_
      refine zx_cVi C [.ref (g j3), .int a5] lk_X9_245 (c_X5_lateAt l D cy g j3 a5 hj3 σ4 h) zs_190 rfl ⟨by decide, by decide⟩ ⟨rfl, rfl⟩ ⟨Nat.zero_le _, Nat.zero_le _⟩ rfl rfl (Nat.le_of_ble_eq_true rfl) dX9_late_36 (fun r7 σ6 h => ?_)
      exact zx_iret C hr dX9_late_39 h
    · replace h := h.2 q
      refine zx_iconst (v := (-1 : Int32)) C dX9_late_26 (by decide) ?_
      exact zx_iret C hr dX9_late_27 h
theorem fg_X9_251 : zFG RX9 251 5 1 := ⟨RX5, TX5, 12, rfl, lay_X5, by decide, fl_X9_251⟩
theorem lk_X9_248 : zLV RX9 248 RX5 yX5_remainsInAll cX5_remainsInAll 4 (some .int) 1 := zLV_of ml_X9_248 im_X5_remainsInAll se_X5_remainsInAll ini_X5 cd_X5_remainsInAll (by decide +kernel)
def w_X9_left (a1 : Int32) (a2 : Int32) (a3 : Int32) (a4 : Int32) (a5 : Int32) (σ : zSto) (P : Int32 → zSto → Prop) : Prop := (w_X9_ridden a1 a2 a3 a4 σ (fun (q2 : Option Nat) (σ1 : zSto) => ((q2 = none → P (-2 : Int32) σ1) ∧ (∀ j3 : Nat, q2 = some j3 → zIsLine j3 ∧ ((¬ a5 = (-1 : Int32) → (w_X0_hasPost j3 a5 σ1 (fun (r5 : Int32) (σ4 : zSto) => (r5 = 0 ∨ r5 = 1) → ((r5 = 0 → P (-2 : Int32) σ4) ∧ (¬ r5 = 0 → (vp_in a5 16 ∧ P (σ4.1 192 (a5).toNatClampNeg) σ4)))))) ∧ (a5 = (-1 : Int32) → (w_X5_remainsInAll j3 σ1 (fun (r8 : Int32) (σ7 : zSto) => P r8 σ7))))))))
set_option maxRecDepth 100000 in
set_option maxHeartbeats 4000000 in
theorem c_X9_left (l : Launch) (D : va_G) (cy : Nat → ClassId) (g : Nat → Nat) (a1 : Int32) (a2 : Int32) (a3 : Int32) (a4 : Int32) (a5 : Int32)  (σ : zSto) {P : Int32 → zSto → Prop} (h : w_X9_left a1 a2 a3 a4 a5 σ P) : zMi l yX9_left cX9_left 7 (some .int) (zrm 5 161) D cy g [.ref (g 0), .int a1, .int a2, .int a3, .int a4, .int a5] σ P := by
  unfold w_X9_left at h
  refine zm_i RX9 rfl (by decide +kernel) (Nat.le_of_ble_eq_true rfl) ?_
  intro p e s m below meth c C hr
  refine zx_lv (lv' := [(0, .ref (g 0)), (1, .int a1), (2, .int a2), (3, .int a3), (4, .int a4), (5, .int a5)]) [0, 1, 2, 3, 4, 5] rfl ?_
  refine zx_aload_n C dX9_left_0 0 rfl ?_
  refine zx_iload_n C dX9_left_1 1 rfl ?_
  refine zx_iload_n C dX9_left_2 2 rfl ?_
  refine zx_iload_n C dX9_left_3 3 rfl ?_
  refine zx_iload C dX9_left_4 4 rfl ?_
  refine zx_cVq C [.int a1, .int a2, .int a3, .int a4] lk_X9_206 (c_X9_ridden l D cy g a1 a2 a3 a4  σ h) zs_0 rfl ⟨by decide, by decide⟩ ⟨rfl, rfl⟩ ⟨Nat.zero_le _, Nat.zero_le _⟩ rfl rfl (Nat.le_of_ble_eq_true rfl) dX9_left_6 (fun σ1 h => ?_) (fun j3 σ1 h => ?_)
  · replace h := h.1 rfl
    refine zx_astoreN (lv' := [(6, .null), (0, .ref (g 0)), (1, .int a1), (2, .int a2), (3, .int a3), (4, .int a4), (5, .int a5)]) C dX9_left_9 (by decide) rfl ?_
    refine zx_aloadN C dX9_left_11 0 rfl ?_
    refine zx_ifnonnullN C dX9_left_13 ?_
    refine zx_bipush (v := (-2 : Int32)) C dX9_left_16 (by decide) ?_
    exact zx_iret C hr dX9_left_18 h
  · obtain ⟨hj3, h⟩ := h.2 j3 rfl
    refine zx_astore (lv' := [(6, .ref (g j3)), (0, .ref (g 0)), (1, .int a1), (2, .int a2), (3, .int a3), (4, .int a4), (5, .int a5)]) C dX9_left_9 (by decide) rfl ?_
    refine zx_aload C dX9_left_11 0 rfl ?_
    refine zx_ifnonnull C 19 dX9_left_13 (by decide) ?_
    refine zx_iload C dX9_left_19 6 rfl ?_
    refine zx_iconst (v := (-1 : Int32)) C dX9_left_21 (by decide) ?_
    refine zx_icmp_ne C 35 dX9_left_22 (by decide) (fun q => ?_) (fun q => ?_)
    · replace h := h.1 q
      refine zx_aload C dX9_left_35 0 rfl ?_
      refine zx_iload C dX9_left_37 6 rfl ?_
      refine zx_cVb C [.int a5] lk_X9_150 (c_X0_hasPost l D cy g j3 a5 hj3 σ1 h) hj3.1 rfl ⟨by decide, by decide⟩ ⟨rfl, rfl⟩ ⟨Nat.zero_le _, Nat.zero_le _⟩ rfl rfl (Nat.le_of_ble_eq_true rfl) dX9_left_39 (fun r5 σ4 hb h => ?_)
      replace h := h hb
      refine zx_if_eq C 58 dX9_left_42 (by decide) (fun q => ?_) (fun q => ?_)
      · replace h := h.1 q
        refine zx_bipush (v := (-2 : Int32)) C dX9_left_58 (by decide) ?_
        exact zx_iret C hr dX9_left_60 h
      · replace h := h.2 q
        refine zx_aload_n C dX9_left_45 1 rfl ?_
        refine zx_getR C zs_0 fg_X9_34 rfl 190 rfl dX9_left_46 ?_
        refine zx_getR C zs_190 fg_X9_251 rfl 192 rfl dX9_left_49 ?_
        refine zx_iload C dX9_left_52 6 rfl ?_
        obtain ⟨bd6, h⟩ := h
        refine zx_iald C (a5).toNatClampNeg zs_192 bd6 rfl dX9_left_54 ?_
        refine zx_goto C 60 dX9_left_55 (by decide) ?_
        exact zx_iret C hr dX9_left_60 h
    · replace h := h.2 q
      refine zx_aload_n C dX9_left_25 1 rfl ?_
      refine zx_getR C zs_0 fg_X9_34 rfl 190 rfl dX9_left_26 ?_
      refine zx_aload C dX9_left_29 0 rfl ?_
      refine zx_cVi C [.ref (g j3)] lk_X9_248 (c_X5_remainsInAll l D cy g j3 hj3 σ1 h) zs_190 rfl ⟨by decide, by decide⟩ ⟨rfl, rfl⟩ ⟨Nat.zero_le _, Nat.zero_le _⟩ rfl rfl (Nat.le_of_ble_eq_true rfl) dX9_left_31 (fun r8 σ7 h => ?_)
      exact zx_iret C hr dX9_left_34 h
theorem lk_X9_257 : zLV RX9 257 RX5 yX5_byPlan cX5_byPlan 8 (some .int) 3 := zLV_of ml_X9_257 im_X5_byPlan se_X5_byPlan ini_X5 cd_X5_byPlan (by decide +kernel)
def w_X9_played (a1 : Int32) (a2 : Int32) (a3 : Int32) (a4 : Int32) (σ : zSto) (P : Int32 → zSto → Prop) : Prop := (w_X8_lineAt 1 a1 σ (fun (q2 : Option Nat) (σ1 : zSto) => ((q2 = none → (w_X8_planAt 1 a2 σ1 (fun (q5 : Option Nat) (σ4 : zSto) => ((q5 = none → P (-2 : Int32) σ4) ∧ (∀ j6 : Nat, q5 = some j6 → zIsPairs j6 ∧ P (-2 : Int32) σ4))))) ∧ (∀ j3 : Nat, q2 = some j3 → zIsLine j3 ∧ (w_X8_planAt 1 a2 σ1 (fun (q8 : Option Nat) (σ7 : zSto) => ((q8 = none → P (-2 : Int32) σ7) ∧ (∀ j9 : Nat, q8 = some j9 → zIsPairs j9 ∧ (w_X9_isWeek a3 σ7 (fun (r11 : Int32) (σ10 : zSto) => (r11 = 0 ∨ r11 = 1) → ((¬ r11 = 0 → (w_X5_byPlan j3 j9 a3 σ10 (fun (r13 : Int32) (σ12 : zSto) => ((a4 < (200 : Int32) → ((a4 = 0 → P r13 σ12) ∧ (a4 = 1 → P (σ12.1 190 9) σ12) ∧ (a4 = 2 → P (σ12.1 190 8) σ12) ∧ (a4 = 3 → (w_X5_fines j3 σ12 (fun (r15 : Int32) (σ14 : zSto) => P r15 σ14))) ∧ (a4 = 4 → P (σ12.1 190 10) σ12) ∧ ((a4.toInt < 0 ∨ 4 < a4.toInt) → P (-2 : Int32) σ12))) ∧ (¬ a4 < (200 : Int32) → ((((200 : Int32) + (σ12.1 j3 12)) ≤ a4 → ((a4 = 0 → P r13 σ12) ∧ (a4 = 1 → P (σ12.1 190 9) σ12) ∧ (a4 = 2 → P (σ12.1 190 8) σ12) ∧ (a4 = 3 → (w_X5_fines j3 σ12 (fun (r17 : Int32) (σ16 : zSto) => P r17 σ16))) ∧ (a4 = 4 → P (σ12.1 190 10) σ12) ∧ ((a4.toInt < 0 ∨ 4 < a4.toInt) → P (-2 : Int32) σ12))) ∧ (¬ ((200 : Int32) + (σ12.1 j3 12)) ≤ a4 → (vp_in (a4 - (200 : Int32)) 6 ∧ P (σ12.1 193 ((a4 - (200 : Int32))).toNatClampNeg) σ12)))))))) ∧ (r11 = 0 → P (-2 : Int32) σ10))))))))))))
set_option maxRecDepth 100000 in
set_option maxHeartbeats 4000000 in
theorem c_X9_played (l : Launch) (D : va_G) (cy : Nat → ClassId) (g : Nat → Nat) (a1 : Int32) (a2 : Int32) (a3 : Int32) (a4 : Int32)  (σ : zSto) {P : Int32 → zSto → Prop} (h : w_X9_played a1 a2 a3 a4 σ P) : zMi l yX9_played cX9_played 8 (some .int) (zrm 5 136) D cy g [.ref (g 0), .int a1, .int a2, .int a3, .int a4] σ P := by
  unfold w_X9_played at h
  refine zm_i RX9 rfl (by decide +kernel) (Nat.le_of_ble_eq_true rfl) ?_
  intro p e s m below meth c C hr
  refine zx_lv (lv' := [(0, .ref (g 0)), (1, .int a1), (2, .int a2), (3, .int a3), (4, .int a4)]) [0, 1, 2, 3, 4] rfl ?_
  refine zx_aload_n C dX9_played_0 0 rfl ?_
  refine zx_getR C zs_0 fg_X9_12 rfl 1 rfl dX9_played_1 ?_
  refine zx_iload_n C dX9_played_4 1 rfl ?_
  refine zx_cVq C [.int a1] lk_X9_121 (c_X8_lineAt l D cy g 1 a1 zIsState_1 σ h) zIsState_1.1 rfl ⟨by decide, by decide⟩ ⟨rfl, rfl⟩ ⟨Nat.zero_le _, Nat.zero_le _⟩ rfl rfl (Nat.le_of_ble_eq_true rfl) dX9_played_5 (fun σ1 h => ?_) (fun j3 σ1 h => ?_)
  · replace h := h.1 rfl
    refine zx_astoreN (lv' := [(5, .null), (0, .ref (g 0)), (1, .int a1), (2, .int a2), (3, .int a3), (4, .int a4)]) C dX9_played_8 (by decide) rfl ?_
    refine zx_aload_n C dX9_played_10 1 rfl ?_
    refine zx_getR C zs_0 fg_X9_12 rfl 1 rfl dX9_played_11 ?_
    refine zx_iload_n C dX9_played_14 3 rfl ?_
    refine zx_cVq C [.int a2] lk_X9_195 (c_X8_planAt l D cy g 1 a2 zIsState_1 σ1 h) zIsState_1.1 rfl ⟨by decide, by decide⟩ ⟨rfl, rfl⟩ ⟨Nat.zero_le _, Nat.zero_le _⟩ rfl rfl (Nat.le_of_ble_eq_true rfl) dX9_played_15 (fun σ4 h => ?_) (fun j6 σ4 h => ?_)
    · replace h := h.1 rfl
      refine zx_astoreN (lv' := [(6, .null), (5, .null), (0, .ref (g 0)), (1, .int a1), (2, .int a2), (3, .int a3), (4, .int a4)]) C dX9_played_18 (by decide) rfl ?_
      refine zx_aloadN C dX9_played_20 1 rfl ?_
      refine zx_ifnullN C 37 dX9_played_22 (by decide) ?_
      refine zx_bipush (v := (-2 : Int32)) C dX9_played_37 (by decide) ?_
      exact zx_iret C hr dX9_played_39 h
    · obtain ⟨hj6, h⟩ := h.2 j6 rfl
      refine zx_astore (lv' := [(6, .ref (g j6)), (5, .null), (0, .ref (g 0)), (1, .int a1), (2, .int a2), (3, .int a3), (4, .int a4)]) C dX9_played_18 (by decide) rfl ?_
      refine zx_aloadN C dX9_played_20 1 rfl ?_
      refine zx_ifnullN C 37 dX9_played_22 (by decide) ?_
      refine zx_bipush (v := (-2 : Int32)) C dX9_played_37 (by decide) ?_
      exact zx_iret C hr dX9_played_39 h
  · obtain ⟨hj3, h⟩ := h.2 j3 rfl
    refine zx_astore (lv' := [(5, .ref (g j3)), (0, .ref (g 0)), (1, .int a1), (2, .int a2), (3, .int a3), (4, .int a4)]) C dX9_played_8 (by decide) rfl ?_
    refine zx_aload_n C dX9_played_10 1 rfl ?_
    refine zx_getR C zs_0 fg_X9_12 rfl 1 rfl dX9_played_11 ?_
    refine zx_iload_n C dX9_played_14 3 rfl ?_
    refine zx_cVq C [.int a2] lk_X9_195 (c_X8_planAt l D cy g 1 a2 zIsState_1 σ1 h) zIsState_1.1 rfl ⟨by decide, by decide⟩ ⟨rfl, rfl⟩ ⟨Nat.zero_le _, Nat.zero_le _⟩ rfl rfl (Nat.le_of_ble_eq_true rfl) dX9_played_15 (fun σ7 h => ?_) (fun j9 σ7 h => ?_)
    · replace h := h.1 rfl
      refine zx_astoreN (lv' := [(6, .null), (5, .ref (g j3)), (0, .ref (g 0)), (1, .int a1), (2, .int a2), (3, .int a3), (4, .int a4)]) C dX9_played_18 (by decide) rfl ?_
      refine zx_aload C dX9_played_20 1 rfl ?_
      refine zx_ifnull C dX9_played_22 ?_
      refine zx_aloadN C dX9_played_25 0 rfl ?_
      refine zx_ifnullN C 37 dX9_played_27 (by decide) ?_
      refine zx_bipush (v := (-2 : Int32)) C dX9_played_37 (by decide) ?_
      exact zx_iret C hr dX9_played_39 h
    · obtain ⟨hj9, h⟩ := h.2 j9 rfl
      refine zx_astore (lv' := [(6, .ref (g j9)), (5, .ref (g j3)), (0, .ref (g 0)), (1, .int a1), (2, .int a2), (3, .int a3), (4, .int a4)]) C dX9_played_18 (by decide) rfl ?_
      refine zx_aload C dX9_played_20 1 rfl ?_
      refine zx_ifnull C dX9_played_22 ?_
      refine zx_aload C dX9_played_25 0 rfl ?_
      refine zx_ifnull C dX9_played_27 ?_
      refine zx_iload_n C dX9_played_30 5 rfl ?_
      refine zx_cSb C [.int a3] lk_X9_254 (c_X9_isWeek l D cy g a3  σ7 h) ⟨by decide, by decide⟩ ⟨rfl, rfl⟩ ⟨Nat.zero_le _, Nat.zero_le _⟩ rfl rfl (Nat.le_of_ble_eq_true rfl) dX9_played_31 (fun r11 σ10 hb h => ?_)
      replace h := h hb
      refine zx_if_ne C 40 dX9_played_34 (by decide) (fun q => ?_) (fun q => ?_)
      · replace h := h.1 q
        refine zx_aload_n C dX9_played_40 2 rfl ?_
        refine zx_getR C zs_0 fg_X9_34 rfl 190 rfl dX9_played_41 ?_
        refine zx_aload C dX9_played_44 1 rfl ?_
        refine zx_aload C dX9_played_46 0 rfl ?_
        refine zx_iload_n C dX9_played_48 5 rfl ?_
        refine zx_cVi C [.ref (g j3), .ref (g j9), .int a3] lk_X9_257 (c_X5_byPlan l D cy g j3 j9 a3 hj3 hj9 σ10 h) zs_190 rfl ⟨by decide, by decide⟩ ⟨rfl, rfl⟩ ⟨Nat.zero_le _, Nat.zero_le _⟩ rfl rfl (Nat.le_of_ble_eq_true rfl) dX9_played_49 (fun r13 σ12 h => ?_)
        refine zx_istore (lv' := [(7, .int r13), (6, .ref (g j9)), (5, .ref (g j3)), (0, .ref (g 0)), (1, .int a1), (2, .int a2), (3, .int a3), (4, .int a4)]) C dX9_played_52 (by decide) rfl ?_
        refine zx_iload C dX9_played_54 7 rfl ?_
        refine zx_sipush (v := (200 : Int32)) C dX9_played_56 (by decide) ?_
        refine zx_icmp_lt C 91 dX9_played_59 (by decide) (fun q => ?_) (fun q => ?_)
        · replace h := h.1 q
          refine zx_iload C dX9_played_91 7 rfl ?_
          refine zsw (x := a4) 4 (fun q => ?_) (fun i hi q => ?_)
          · replace h := h.2.2.2.2.2 q
            refine zx_tableOut C 165 dX9_played_93 q (by decide) ?_
            refine zx_bipush (v := (-2 : Int32)) C dX9_played_165 (by decide) ?_
            exact zx_iret C hr dX9_played_167 h
          · match i, hi, q with
            | 0, _, q =>
              replace h := h.1 q
              refine zx_tableIn C 128 (0 : Int32) q dX9_played_93 (by decide) (by decide) rfl (by decide) ?_
              refine zx_iload C dX9_played_128 0 rfl ?_
              exact zx_iret C hr dX9_played_130 h
            | 1, _, q =>
              replace h := h.2.1 q
              refine zx_tableIn C 131 (1 : Int32) q dX9_played_93 (by decide) (by decide) rfl (by decide) ?_
              refine zx_aload_n C dX9_played_131 3 rfl ?_
              refine zx_getR C zs_0 fg_X9_34 rfl 190 rfl dX9_played_132 ?_
              refine zx_getI C zs_190 fg_X9_217 rfl dX9_played_135 ?_
              exact zx_iret C hr dX9_played_138 h
            | 2, _, q =>
              replace h := h.2.2.1 q
              refine zx_tableIn C 139 (2 : Int32) q dX9_played_93 (by decide) (by decide) rfl (by decide) ?_
              refine zx_aload_n C dX9_played_139 3 rfl ?_
              refine zx_getR C zs_0 fg_X9_34 rfl 190 rfl dX9_played_140 ?_
              refine zx_getI C zs_190 fg_X9_223 rfl dX9_played_143 ?_
              exact zx_iret C hr dX9_played_146 h
            | 3, _, q =>
              replace h := h.2.2.2.1 q
              refine zx_tableIn C 147 (3 : Int32) q dX9_played_93 (by decide) (by decide) rfl (by decide) ?_
              refine zx_aload_n C dX9_played_147 3 rfl ?_
              refine zx_getR C zs_0 fg_X9_34 rfl 190 rfl dX9_played_148 ?_
              refine zx_aload C dX9_played_151 2 rfl ?_
              refine zx_cVi C [.ref (g j3)] lk_X9_229 (c_X5_fines l D cy g j3 hj3 σ12 h) zs_190 rfl ⟨by decide, by decide⟩ ⟨rfl, rfl⟩ ⟨Nat.zero_le _, Nat.zero_le _⟩ rfl rfl (Nat.le_of_ble_eq_true rfl) dX9_played_153 (fun r15 σ14 h => ?_)
              exact zx_iret C hr dX9_played_156 h
            | 4, _, q =>
              replace h := h.2.2.2.2.1 q
              refine zx_tableIn C 157 (4 : Int32) q dX9_played_93 (by decide) (by decide) rfl (by decide) ?_
              refine zx_aload_n C dX9_played_157 3 rfl ?_
              refine zx_getR C zs_0 fg_X9_34 rfl 190 rfl dX9_played_158 ?_
              refine zx_getI C zs_190 fg_X9_226 rfl dX9_played_161 ?_
              exact zx_iret C hr dX9_played_164 h
            | i + 5, hi, _ => exact absurd hi (by omega)
        · replace h := h.2 q
          refine zx_iload C dX9_played_62 7 rfl ?_
          refine zx_sipush (v := (200 : Int32)) C dX9_played_64 (by decide) ?_
          refine zx_aload C dX9_played_67 2 rfl ?_
          refine zx_getI C hj3.1 fg_X9_128 rfl dX9_played_69 ?_
          refine zx_iadd C dX9_played_72 ?_
          refine zx_icmp_ge C 91 dX9_played_73 (by decide) (fun q => ?_) (fun q => ?_)
          · replace h := h.1 q
            refine zx_iload C dX9_played_91 7 rfl ?_
            refine zsw (x := a4) 4 (fun q => ?_) (fun i hi q => ?_)
            · replace h := h.2.2.2.2.2 q
              refine zx_tableOut C 165 dX9_played_93 q (by decide) ?_
              refine zx_bipush (v := (-2 : Int32)) C dX9_played_165 (by decide) ?_
              exact zx_iret C hr dX9_played_167 h
            · match i, hi, q with
              | 0, _, q =>
                replace h := h.1 q
                refine zx_tableIn C 128 (0 : Int32) q dX9_played_93 (by decide) (by decide) rfl (by decide) ?_
                refine zx_iload C dX9_played_128 0 rfl ?_
                exact zx_iret C hr dX9_played_130 h
              | 1, _, q =>
                replace h := h.2.1 q
                refine zx_tableIn C 131 (1 : Int32) q dX9_played_93 (by decide) (by decide) rfl (by decide) ?_
                refine zx_aload_n C dX9_played_131 3 rfl ?_
                refine zx_getR C zs_0 fg_X9_34 rfl 190 rfl dX9_played_132 ?_
                refine zx_getI C zs_190 fg_X9_217 rfl dX9_played_135 ?_
                exact zx_iret C hr dX9_played_138 h
              | 2, _, q =>
                replace h := h.2.2.1 q
                refine zx_tableIn C 139 (2 : Int32) q dX9_played_93 (by decide) (by decide) rfl (by decide) ?_
                refine zx_aload_n C dX9_played_139 3 rfl ?_
                refine zx_getR C zs_0 fg_X9_34 rfl 190 rfl dX9_played_140 ?_
                refine zx_getI C zs_190 fg_X9_223 rfl dX9_played_143 ?_
                exact zx_iret C hr dX9_played_146 h
              | 3, _, q =>
                replace h := h.2.2.2.1 q
                refine zx_tableIn C 147 (3 : Int32) q dX9_played_93 (by decide) (by decide) rfl (by decide) ?_
                refine zx_aload_n C dX9_played_147 3 rfl ?_
                refine zx_getR C zs_0 fg_X9_34 rfl 190 rfl dX9_played_148 ?_
                refine zx_aload C dX9_played_151 2 rfl ?_
                refine zx_cVi C [.ref (g j3)] lk_X9_229 (c_X5_fines l D cy g j3 hj3 σ12 h) zs_190 rfl ⟨by decide, by decide⟩ ⟨rfl, rfl⟩ ⟨Nat.zero_le _, Nat.zero_le _⟩ rfl rfl (Nat.le_of_ble_eq_true rfl) dX9_played_153 (fun r17 σ16 h => ?_)
                exact zx_iret C hr dX9_played_156 h
              | 4, _, q =>
                replace h := h.2.2.2.2.1 q
                refine zx_tableIn C 157 (4 : Int32) q dX9_played_93 (by decide) (by decide) rfl (by decide) ?_
                refine zx_aload_n C dX9_played_157 3 rfl ?_
                refine zx_getR C zs_0 fg_X9_34 rfl 190 rfl dX9_played_158 ?_
                refine zx_getI C zs_190 fg_X9_226 rfl dX9_played_161 ?_
                exact zx_iret C hr dX9_played_164 h
              | i + 5, hi, _ => exact absurd hi (by omega)
          · replace h := h.2 q
            refine zx_aload_n C dX9_played_76 3 rfl ?_
            refine zx_getR C zs_0 fg_X9_34 rfl 190 rfl dX9_played_77 ?_
            refine zx_getR C zs_190 fg_X9_214 rfl 193 rfl dX9_played_80 ?_
            refine zx_iload C dX9_played_83 7 rfl ?_
            refine zx_sipush (v := (200 : Int32)) C dX9_played_85 (by decide) ?_
            refine zx_isub C dX9_played_88 ?_
            obtain ⟨bd18, h⟩ := h
            refine zx_iald C ((a4 - (200 : Int32))).toNatClampNeg zs_193 bd18 rfl dX9_played_89 ?_
            exact zx_iret C hr dX9_played_90 h
      · replace h := h.2 q
        refine zx_bipush (v := (-2 : Int32)) C dX9_played_37 (by decide) ?_
        exact zx_iret C hr dX9_played_39 h
def w_X9_most_33 (x_2 : Int32) (x_3 : Int32) (x_4 : Int32) (q_5 : Nat) (P : Int32 → zSto → Prop)  : Nat → Int32 → Int32 → Int32 → zSto → Prop
  | 0, _, _, _, _ => False
  | n + 1, x_6, x_7, x_8, σ => (((4 : Int32) ≤ x_8 → P x_6 σ) ∧ (¬ (4 : Int32) ≤ x_8 → (w_X5_byLaw q_5 x_8 x_2 x_3 (-1 : Int32) σ (fun (σ6 : zSto) => ((x_4 = 0 → (∀ x7 : Int32, x7 = (σ6.1 190 9) → ((x_6 = (-1 : Int32) → (∀ x8 : Int32, x8 = (x_8 + (1 : Int32)) → w_X9_most_33 x_2 x_3 x_4 q_5 P n x_8 x7 x8 σ6)) ∧ (¬ x_6 = (-1 : Int32) → ((x7 ≤ x_7 → (∀ x9 : Int32, x9 = (x_8 + (1 : Int32)) → w_X9_most_33 x_2 x_3 x_4 q_5 P n x_6 x_7 x9 σ6)) ∧ (¬ x7 ≤ x_7 → (∀ x10 : Int32, x10 = (x_8 + (1 : Int32)) → w_X9_most_33 x_2 x_3 x_4 q_5 P n x_8 x7 x10 σ6))))))) ∧ (¬ x_4 = 0 → (∀ x11 : Int32, x11 = (-(σ6.1 190 8)) → ((x_6 = (-1 : Int32) → (∀ x12 : Int32, x12 = (x_8 + (1 : Int32)) → w_X9_most_33 x_2 x_3 x_4 q_5 P n x_8 x11 x12 σ6)) ∧ (¬ x_6 = (-1 : Int32) → ((x11 ≤ x_7 → (∀ x13 : Int32, x13 = (x_8 + (1 : Int32)) → w_X9_most_33 x_2 x_3 x_4 q_5 P n x_6 x_7 x13 σ6)) ∧ (¬ x11 ≤ x_7 → (∀ x14 : Int32, x14 = (x_8 + (1 : Int32)) → w_X9_most_33 x_2 x_3 x_4 q_5 P n x_8 x11 x14 σ6))))))))))))
def w_X9_most (a1 : Int32) (a2 : Int32) (a3 : Int32) (a4 : Int32) (σ : zSto) (P : Int32 → zSto → Prop) : Prop := (w_X8_lineAt 1 a1 σ (fun (q2 : Option Nat) (σ1 : zSto) => ((q2 = none → P (-1 : Int32) σ1) ∧ (∀ j3 : Nat, q2 = some j3 → zIsLine j3 ∧ (w_X9_isWeek a3 σ1 (fun (r5 : Int32) (σ4 : zSto) => (r5 = 0 ∨ r5 = 1) → ((¬ r5 = 0 → (∃ n : Nat, w_X9_most_33 a2 a3 a4 j3 P  n (-1 : Int32) (0 : Int32) (0 : Int32) σ4)) ∧ (r5 = 0 → P (-1 : Int32) σ4))))))))
set_option maxRecDepth 100000 in
set_option maxHeartbeats 4000000 in
theorem k_X9_most_33 {p : Program} {l : Launch} {e : Env} {s : State} {m : MethodId} {args : Array Value} {below : List Frame} {meth : Method} {c : Code} {D : va_G} {cy : Nat → ClassId} {g : Nat → Nat} (C : zC p s m args meth c cX9_most RX9 10 D cy g) (hr : meth.sig.returnType = (some .int)) {P : Int32 → zSto → Prop} (x_2 : Int32) (x_3 : Int32) (x_4 : Int32) (q_5 : Nat) (hq_5 : zIsLine q_5)   : ∀ (n : Nat) (x_6 : Int32) (x_7 : Int32) (x_8 : Int32) (σ : zSto), w_X9_most_33 x_2 x_3 x_4 q_5 P n x_6 x_7 x_8 σ → zX p l e (zrm 4 136) s m args below meth c 0 0 (zQi P below args s D cy g) 10 D cy g 33 [(0, .ref (g 0)), (2, .int x_2), (3, .int x_3), (4, .int x_4), (5, .ref (g q_5)), (6, .int x_6), (7, .int x_7), (8, .int x_8)] [] σ := by
  intro n
  induction n with
  | zero => intro x_6 x_7 x_8 σ h; exact h.elim
  | succ n ih =>
    intro x_6 x_7 x_8 σ h
    unfold w_X9_most_33 at h
    refine zx_iload C dX9_most_33 7 rfl ?_
    refine zx_iconst (v := (4 : Int32)) C dX9_most_35 (by decide) ?_
    refine zx_icmp_ge C 105 dX9_most_36 (by decide) (fun q => ?_) (fun q => ?_)
    · replace h := h.1 q
      refine zx_iload C dX9_most_105 5 rfl ?_
      exact zx_iret C hr dX9_most_107 h
    · replace h := h.2 q
      refine zx_aload_n C dX9_most_39 0 rfl ?_
      refine zx_getR C zs_0 fg_X9_34 rfl 190 rfl dX9_most_40 ?_
      refine zx_aload C dX9_most_43 4 rfl ?_
      refine zx_iload C dX9_most_45 7 rfl ?_
      refine zx_iload_n C dX9_most_47 1 rfl ?_
      refine zx_iload_n C dX9_most_48 2 rfl ?_
      refine zx_iconst (v := (-1 : Int32)) C dX9_most_49 (by decide) ?_
      refine zx_cVv C [.ref (g q_5), .int x_8, .int x_2, .int x_3, .int (-1 : Int32)] lk_X9_261 (c_X5_byLaw l D cy g q_5 x_8 x_2 x_3 (-1 : Int32) hq_5 σ h) zs_190 rfl ⟨by decide, by decide⟩ ⟨rfl, rfl⟩ ⟨Nat.zero_le _, Nat.zero_le _⟩ rfl rfl (Nat.le_of_ble_eq_true rfl) dX9_most_50 (fun σ6 h => ?_)
      refine zx_iload C dX9_most_53 3 rfl ?_
      refine zx_if_eq C 69 dX9_most_55 (by decide) (fun q => ?_) (fun q => ?_)
      · replace h := h.1 q
        refine zx_aload_n C dX9_most_69 0 rfl ?_
        refine zx_getR C zs_0 fg_X9_34 rfl 190 rfl dX9_most_70 ?_
        refine zx_getI C zs_190 fg_X9_217 rfl dX9_most_73 ?_
        refine zx_topi (fun x7 ex7 => ?_)
        replace h := h x7 ex7
        refine zx_istore (lv' := [(9, .int x7), (0, .ref (g 0)), (2, .int x_2), (3, .int x_3), (4, .int x_4), (5, .ref (g q_5)), (6, .int x_6), (7, .int x_7), (8, .int x_8)]) C dX9_most_76 (by decide) rfl ?_
        refine zx_iload C dX9_most_78 6 rfl ?_
        refine zx_iconst (v := (-1 : Int32)) C dX9_most_80 (by decide) ?_
        refine zx_icmp_eq C 91 dX9_most_81 (by decide) (fun q => ?_) (fun q => ?_)
        · replace h := h.1 q
          refine zx_iload C dX9_most_91 8 rfl ?_
          refine zx_istore (lv' := [(6, .int x_8), (9, .int x7), (0, .ref (g 0)), (2, .int x_2), (3, .int x_3), (4, .int x_4), (5, .ref (g q_5)), (7, .int x_7), (8, .int x_8)]) C dX9_most_93 (by decide) rfl ?_
          refine zx_iload C dX9_most_95 1 rfl ?_
          refine zx_istore (lv' := [(7, .int x7), (6, .int x_8), (9, .int x7), (0, .ref (g 0)), (2, .int x_2), (3, .int x_3), (4, .int x_4), (5, .ref (g q_5)), (8, .int x_8)]) C dX9_most_97 (by decide) rfl ?_
          obtain ⟨x8, ex8⟩ : ∃ y : Int32, y = (x_8 + (1 : Int32)) := ⟨_, rfl⟩
          replace h := h x8 ex8
          refine zx_iinc (v := x8) (lv' := [(8, .int x8), (7, .int x7), (6, .int x_8), (9, .int x7), (0, .ref (g 0)), (2, .int x_2), (3, .int x_3), (4, .int x_4), (5, .ref (g q_5))]) C dX9_most_99 8 rfl (by rw [ex8]; rfl) (by decide) rfl ?_
          refine zx_goto C 33 dX9_most_102 (by decide) ?_
          refine zx_lv (lv' := [(0, .ref (g 0)), (2, .int x_2), (3, .int x_3), (4, .int x_4), (5, .ref (g q_5)), (6, .int x_8), (7, .int x7), (8, .int x8)]) [4, 5, 6, 7, 8, 2, 1, 0] rfl ?_
          exact ih x_8 x7 x8 σ6 h
        · replace h := h.2 q
          refine zx_iload C dX9_most_84 0 rfl ?_
          refine zx_iload C dX9_most_86 7 rfl ?_
          refine zx_icmp_le C 99 dX9_most_88 (by decide) (fun q => ?_) (fun q => ?_)
          · replace h := h.1 q
            obtain ⟨x9, ex9⟩ : ∃ y : Int32, y = (x_8 + (1 : Int32)) := ⟨_, rfl⟩
            replace h := h x9 ex9
            refine zx_iinc (v := x9) (lv' := [(8, .int x9), (9, .int x7), (0, .ref (g 0)), (2, .int x_2), (3, .int x_3), (4, .int x_4), (5, .ref (g q_5)), (6, .int x_6), (7, .int x_7)]) C dX9_most_99 8 rfl (by rw [ex9]; rfl) (by decide) rfl ?_
            refine zx_goto C 33 dX9_most_102 (by decide) ?_
            refine zx_lv (lv' := [(0, .ref (g 0)), (2, .int x_2), (3, .int x_3), (4, .int x_4), (5, .ref (g q_5)), (6, .int x_6), (7, .int x_7), (8, .int x9)]) [2, 3, 4, 5, 6, 7, 8, 0] rfl ?_
            exact ih x_6 x_7 x9 σ6 h
          · replace h := h.2 q
            refine zx_iload C dX9_most_91 8 rfl ?_
            refine zx_istore (lv' := [(6, .int x_8), (9, .int x7), (0, .ref (g 0)), (2, .int x_2), (3, .int x_3), (4, .int x_4), (5, .ref (g q_5)), (7, .int x_7), (8, .int x_8)]) C dX9_most_93 (by decide) rfl ?_
            refine zx_iload C dX9_most_95 1 rfl ?_
            refine zx_istore (lv' := [(7, .int x7), (6, .int x_8), (9, .int x7), (0, .ref (g 0)), (2, .int x_2), (3, .int x_3), (4, .int x_4), (5, .ref (g q_5)), (8, .int x_8)]) C dX9_most_97 (by decide) rfl ?_
            obtain ⟨x10, ex10⟩ : ∃ y : Int32, y = (x_8 + (1 : Int32)) := ⟨_, rfl⟩
            replace h := h x10 ex10
            refine zx_iinc (v := x10) (lv' := [(8, .int x10), (7, .int x7), (6, .int x_8), (9, .int x7), (0, .ref (g 0)), (2, .int x_2), (3, .int x_3), (4, .int x_4), (5, .ref (g q_5))]) C dX9_most_99 8 rfl (by rw [ex10]; rfl) (by decide) rfl ?_
            refine zx_goto C 33 dX9_most_102 (by decide) ?_
            refine zx_lv (lv' := [(0, .ref (g 0)), (2, .int x_2), (3, .int x_3), (4, .int x_4), (5, .ref (g q_5)), (6, .int x_8), (7, .int x7), (8, .int x10)]) [4, 5, 6, 7, 8, 2, 1, 0] rfl ?_
            exact ih x_8 x7 x10 σ6 h
      · replace h := h.2 q
        refine zx_aload_n C dX9_most_58 0 rfl ?_
        refine zx_getR C zs_0 fg_X9_34 rfl 190 rfl dX9_most_59 ?_
        refine zx_getI C zs_190 fg_X9_223 rfl dX9_most_62 ?_
        refine zx_ineg C dX9_most_65 ?_
        refine zx_goto C 76 dX9_most_66 (by decide) ?_
        refine zx_topi (fun x11 ex11 => ?_)
        replace h := h x11 ex11
        refine zx_istore (lv' := [(9, .int x11), (0, .ref (g 0)), (2, .int x_2), (3, .int x_3), (4, .int x_4), (5, .ref (g q_5)), (6, .int x_6), (7, .int x_7), (8, .int x_8)]) C dX9_most_76 (by decide) rfl ?_
        refine zx_iload C dX9_most_78 6 rfl ?_
        refine zx_iconst (v := (-1 : Int32)) C dX9_most_80 (by decide) ?_
        refine zx_icmp_eq C 91 dX9_most_81 (by decide) (fun q => ?_) (fun q => ?_)
        · replace h := h.1 q
          refine zx_iload C dX9_most_91 8 rfl ?_
          refine zx_istore (lv' := [(6, .int x_8), (9, .int x11), (0, .ref (g 0)), (2, .int x_2), (3, .int x_3), (4, .int x_4), (5, .ref (g q_5)), (7, .int x_7), (8, .int x_8)]) C dX9_most_93 (by decide) rfl ?_
          refine zx_iload C dX9_most_95 1 rfl ?_
          refine zx_istore (lv' := [(7, .int x11), (6, .int x_8), (9, .int x11), (0, .ref (g 0)), (2, .int x_2), (3, .int x_3), (4, .int x_4), (5, .ref (g q_5)), (8, .int x_8)]) C dX9_most_97 (by decide) rfl ?_
          obtain ⟨x12, ex12⟩ : ∃ y : Int32, y = (x_8 + (1 : Int32)) := ⟨_, rfl⟩
          replace h := h x12 ex12
          refine zx_iinc (v := x12) (lv' := [(8, .int x12), (7, .int x11), (6, .int x_8), (9, .int x11), (0, .ref (g 0)), (2, .int x_2), (3, .int x_3), (4, .int x_4), (5, .ref (g q_5))]) C dX9_most_99 8 rfl (by rw [ex12]; rfl) (by decide) rfl ?_
          refine zx_goto C 33 dX9_most_102 (by decide) ?_
          refine zx_lv (lv' := [(0, .ref (g 0)), (2, .int x_2), (3, .int x_3), (4, .int x_4), (5, .ref (g q_5)), (6, .int x_8), (7, .int x11), (8, .int x12)]) [4, 5, 6, 7, 8, 2, 1, 0] rfl ?_
          exact ih x_8 x11 x12 σ6 h
        · replace h := h.2 q
          refine zx_iload C dX9_most_84 0 rfl ?_
          refine zx_iload C dX9_most_86 7 rfl ?_
          refine zx_icmp_le C 99 dX9_most_88 (by decide) (fun q => ?_) (fun q => ?_)
          · replace h := h.1 q
            obtain ⟨x13, ex13⟩ : ∃ y : Int32, y = (x_8 + (1 : Int32)) := ⟨_, rfl⟩
            replace h := h x13 ex13
            refine zx_iinc (v := x13) (lv' := [(8, .int x13), (9, .int x11), (0, .ref (g 0)), (2, .int x_2), (3, .int x_3), (4, .int x_4), (5, .ref (g q_5)), (6, .int x_6), (7, .int x_7)]) C dX9_most_99 8 rfl (by rw [ex13]; rfl) (by decide) rfl ?_
            refine zx_goto C 33 dX9_most_102 (by decide) ?_
            refine zx_lv (lv' := [(0, .ref (g 0)), (2, .int x_2), (3, .int x_3), (4, .int x_4), (5, .ref (g q_5)), (6, .int x_6), (7, .int x_7), (8, .int x13)]) [2, 3, 4, 5, 6, 7, 8, 0] rfl ?_
            exact ih x_6 x_7 x13 σ6 h
          · replace h := h.2 q
            refine zx_iload C dX9_most_91 8 rfl ?_
            refine zx_istore (lv' := [(6, .int x_8), (9, .int x11), (0, .ref (g 0)), (2, .int x_2), (3, .int x_3), (4, .int x_4), (5, .ref (g q_5)), (7, .int x_7), (8, .int x_8)]) C dX9_most_93 (by decide) rfl ?_
            refine zx_iload C dX9_most_95 1 rfl ?_
            refine zx_istore (lv' := [(7, .int x11), (6, .int x_8), (9, .int x11), (0, .ref (g 0)), (2, .int x_2), (3, .int x_3), (4, .int x_4), (5, .ref (g q_5)), (8, .int x_8)]) C dX9_most_97 (by decide) rfl ?_
            obtain ⟨x14, ex14⟩ : ∃ y : Int32, y = (x_8 + (1 : Int32)) := ⟨_, rfl⟩
            replace h := h x14 ex14
            refine zx_iinc (v := x14) (lv' := [(8, .int x14), (7, .int x11), (6, .int x_8), (9, .int x11), (0, .ref (g 0)), (2, .int x_2), (3, .int x_3), (4, .int x_4), (5, .ref (g q_5))]) C dX9_most_99 8 rfl (by rw [ex14]; rfl) (by decide) rfl ?_
            refine zx_goto C 33 dX9_most_102 (by decide) ?_
            refine zx_lv (lv' := [(0, .ref (g 0)), (2, .int x_2), (3, .int x_3), (4, .int x_4), (5, .ref (g q_5)), (6, .int x_8), (7, .int x11), (8, .int x14)]) [4, 5, 6, 7, 8, 2, 1, 0] rfl ?_
            exact ih x_8 x11 x14 σ6 h
set_option maxRecDepth 100000 in
set_option maxHeartbeats 4000000 in
theorem c_X9_most (l : Launch) (D : va_G) (cy : Nat → ClassId) (g : Nat → Nat) (a1 : Int32) (a2 : Int32) (a3 : Int32) (a4 : Int32)  (σ : zSto) {P : Int32 → zSto → Prop} (h : w_X9_most a1 a2 a3 a4 σ P) : zMi l yX9_most cX9_most 10 (some .int) (zrm 4 136) D cy g [.ref (g 0), .int a1, .int a2, .int a3, .int a4] σ P := by
  unfold w_X9_most at h
  refine zm_i RX9 rfl (by decide +kernel) (Nat.le_of_ble_eq_true rfl) ?_
  intro p e s m below meth c C hr
  refine zx_lv (lv' := [(0, .ref (g 0)), (1, .int a1), (2, .int a2), (3, .int a3), (4, .int a4)]) [0, 1, 2, 3, 4] rfl ?_
  refine zx_aload_n C dX9_most_0 0 rfl ?_
  refine zx_getR C zs_0 fg_X9_12 rfl 1 rfl dX9_most_1 ?_
  refine zx_iload_n C dX9_most_4 1 rfl ?_
  refine zx_cVq C [.int a1] lk_X9_121 (c_X8_lineAt l D cy g 1 a1 zIsState_1 σ h) zIsState_1.1 rfl ⟨by decide, by decide⟩ ⟨rfl, rfl⟩ ⟨Nat.zero_le _, Nat.zero_le _⟩ rfl rfl (Nat.le_of_ble_eq_true rfl) dX9_most_5 (fun σ1 h => ?_) (fun j3 σ1 h => ?_)
  · replace h := h.1 rfl
    refine zx_astoreN (lv' := [(5, .null), (0, .ref (g 0)), (1, .int a1), (2, .int a2), (3, .int a3), (4, .int a4)]) C dX9_most_8 (by decide) rfl ?_
    refine zx_aloadN C dX9_most_10 0 rfl ?_
    refine zx_ifnullN C 22 dX9_most_12 (by decide) ?_
    refine zx_iconst (v := (-1 : Int32)) C dX9_most_22 (by decide) ?_
    exact zx_iret C hr dX9_most_23 h
  · obtain ⟨hj3, h⟩ := h.2 j3 rfl
    refine zx_astore (lv' := [(5, .ref (g j3)), (0, .ref (g 0)), (1, .int a1), (2, .int a2), (3, .int a3), (4, .int a4)]) C dX9_most_8 (by decide) rfl ?_
    refine zx_aload C dX9_most_10 0 rfl ?_
    refine zx_ifnull C dX9_most_12 ?_
    refine zx_iload_n C dX9_most_15 4 rfl ?_
    refine zx_cSb C [.int a3] lk_X9_254 (c_X9_isWeek l D cy g a3  σ1 h) ⟨by decide, by decide⟩ ⟨rfl, rfl⟩ ⟨Nat.zero_le _, Nat.zero_le _⟩ rfl rfl (Nat.le_of_ble_eq_true rfl) dX9_most_16 (fun r5 σ4 hb h => ?_)
    replace h := h hb
    refine zx_if_ne C 24 dX9_most_19 (by decide) (fun q => ?_) (fun q => ?_)
    · replace h := h.1 q
      refine zx_iconst (v := (-1 : Int32)) C dX9_most_24 (by decide) ?_
      refine zx_istore (lv' := [(6, .int (-1 : Int32)), (5, .ref (g j3)), (0, .ref (g 0)), (1, .int a1), (2, .int a2), (3, .int a3), (4, .int a4)]) C dX9_most_25 (by decide) rfl ?_
      refine zx_iconst (v := (0 : Int32)) C dX9_most_27 (by decide) ?_
      refine zx_istore (lv' := [(7, .int (0 : Int32)), (6, .int (-1 : Int32)), (5, .ref (g j3)), (0, .ref (g 0)), (1, .int a1), (2, .int a2), (3, .int a3), (4, .int a4)]) C dX9_most_28 (by decide) rfl ?_
      refine zx_iconst (v := (0 : Int32)) C dX9_most_30 (by decide) ?_
      refine zx_istore (lv' := [(8, .int (0 : Int32)), (7, .int (0 : Int32)), (6, .int (-1 : Int32)), (5, .ref (g j3)), (0, .ref (g 0)), (1, .int a1), (2, .int a2), (3, .int a3), (4, .int a4)]) C dX9_most_31 (by decide) rfl ?_
      obtain ⟨n, h⟩ := h
      refine zx_lv (lv' := [(0, .ref (g 0)), (2, .int a2), (3, .int a3), (4, .int a4), (5, .ref (g j3)), (6, .int (-1 : Int32)), (7, .int (0 : Int32)), (8, .int (0 : Int32))]) [4, 6, 7, 8, 3, 2, 1, 0] rfl ?_
      exact k_X9_most_33 C hr (a2) (a3) (a4) (j3) hj3  n (-1 : Int32) (0 : Int32) (0 : Int32) σ4 h
    · replace h := h.2 q
      refine zx_iconst (v := (-1 : Int32)) C dX9_most_22 (by decide) ?_
      exact zx_iret C hr dX9_most_23 h
def w_X9_weeks_38 (x_2 : Int32) (x_3 : Int32) (x_4 : Int32) (q_5 : Nat) (P : Int32 → zSto → Prop)  : Nat → Int32 → Int32 → Int32 → Int32 → zSto → Prop
  | 0, _, _, _, _, _ => False
  | n + 1, x_6, x_7, x_8, x_9, σ => (((10 : Int32) ≤ x_9 → ((x_4 = 0 → P x_6 σ) ∧ (¬ x_4 = 0 → P x_8 σ))) ∧ (¬ (10 : Int32) ≤ x_9 → (w_X5_byLaw q_5 x_2 x_3 x_9 (-1 : Int32) σ (fun (σ4 : zSto) => (∀ x5 : Int32, x5 = (x_8 + (σ4.1 190 9)) → (((σ4.1 190 9) ≤ x_7 → (∀ x6 : Int32, x6 = (x_9 + (1 : Int32)) → w_X9_weeks_38 x_2 x_3 x_4 q_5 P n x_6 x_7 x5 x6 σ4)) ∧ (¬ (σ4.1 190 9) ≤ x_7 → (∀ x7 : Int32, x7 = (σ4.1 190 9) → (∀ x8 : Int32, x8 = (x_9 + (1 : Int32)) → w_X9_weeks_38 x_2 x_3 x_4 q_5 P n x_9 x7 x5 x8 σ4)))))))))
def w_X9_weeks (a1 : Int32) (a2 : Int32) (a3 : Int32) (a4 : Int32) (σ : zSto) (P : Int32 → zSto → Prop) : Prop := (w_X8_lineAt 1 a1 σ (fun (q2 : Option Nat) (σ1 : zSto) => ((q2 = none → P (-1 : Int32) σ1) ∧ (∀ j3 : Nat, q2 = some j3 → zIsLine j3 ∧ ((a2 < 0 → P (-1 : Int32) σ1) ∧ (¬ a2 < 0 → ((a2 < (4 : Int32) → (∃ n : Nat, w_X9_weeks_38 a2 a3 a4 j3 P  n (0 : Int32) (-1 : Int32) (0 : Int32) (0 : Int32) σ1)) ∧ (¬ a2 < (4 : Int32) → P (-1 : Int32) σ1))))))))
set_option maxRecDepth 100000 in
set_option maxHeartbeats 4000000 in
theorem k_X9_weeks_38 {p : Program} {l : Launch} {e : Env} {s : State} {m : MethodId} {args : Array Value} {below : List Frame} {meth : Method} {c : Code} {D : va_G} {cy : Nat → ClassId} {g : Nat → Nat} (C : zC p s m args meth c cX9_weeks RX9 10 D cy g) (hr : meth.sig.returnType = (some .int)) {P : Int32 → zSto → Prop} (x_2 : Int32) (x_3 : Int32) (x_4 : Int32) (q_5 : Nat) (hq_5 : zIsLine q_5)   : ∀ (n : Nat) (x_6 : Int32) (x_7 : Int32) (x_8 : Int32) (x_9 : Int32) (σ : zSto), w_X9_weeks_38 x_2 x_3 x_4 q_5 P n x_6 x_7 x_8 x_9 σ → zX p l e (zrm 4 136) s m args below meth c 0 0 (zQi P below args s D cy g) 10 D cy g 38 [(0, .ref (g 0)), (2, .int x_2), (3, .int x_3), (4, .int x_4), (5, .ref (g q_5)), (6, .int x_6), (7, .int x_7), (8, .int x_8), (9, .int x_9)] [] σ := by
  intro n
  induction n with
  | zero => intro x_6 x_7 x_8 x_9 σ h; exact h.elim
  | succ n ih =>
    intro x_6 x_7 x_8 x_9 σ h
    unfold w_X9_weeks_38 at h
    refine zx_iload C dX9_weeks_38 8 rfl ?_
    refine zx_bipush (v := (10 : Int32)) C dX9_weeks_40 (by decide) ?_
    refine zx_icmp_ge C 102 dX9_weeks_42 (by decide) (fun q => ?_) (fun q => ?_)
    · replace h := h.1 q
      refine zx_iload C dX9_weeks_102 3 rfl ?_
      refine zx_if_eq C 112 dX9_weeks_104 (by decide) (fun q => ?_) (fun q => ?_)
      · replace h := h.1 q
        refine zx_iload C dX9_weeks_112 5 rfl ?_
        exact zx_iret C hr dX9_weeks_114 h
      · replace h := h.2 q
        refine zx_iload C dX9_weeks_107 7 rfl ?_
        refine zx_goto C 114 dX9_weeks_109 (by decide) ?_
        exact zx_iret C hr dX9_weeks_114 h
    · replace h := h.2 q
      refine zx_aload_n C dX9_weeks_45 0 rfl ?_
      refine zx_getR C zs_0 fg_X9_34 rfl 190 rfl dX9_weeks_46 ?_
      refine zx_aload C dX9_weeks_49 4 rfl ?_
      refine zx_iload_n C dX9_weeks_51 1 rfl ?_
      refine zx_iload_n C dX9_weeks_52 2 rfl ?_
      refine zx_iload C dX9_weeks_53 8 rfl ?_
      refine zx_iconst (v := (-1 : Int32)) C dX9_weeks_55 (by decide) ?_
      refine zx_cVv C [.ref (g q_5), .int x_2, .int x_3, .int x_9, .int (-1 : Int32)] lk_X9_261 (c_X5_byLaw l D cy g q_5 x_2 x_3 x_9 (-1 : Int32) hq_5 σ h) zs_190 rfl ⟨by decide, by decide⟩ ⟨rfl, rfl⟩ ⟨Nat.zero_le _, Nat.zero_le _⟩ rfl rfl (Nat.le_of_ble_eq_true rfl) dX9_weeks_56 (fun σ4 h => ?_)
      refine zx_iload C dX9_weeks_59 7 rfl ?_
      refine zx_aload_n C dX9_weeks_61 0 rfl ?_
      refine zx_getR C zs_0 fg_X9_34 rfl 190 rfl dX9_weeks_62 ?_
      refine zx_getI C zs_190 fg_X9_217 rfl dX9_weeks_65 ?_
      refine zx_iadd C dX9_weeks_68 ?_
      refine zx_topi (fun x5 ex5 => ?_)
      replace h := h x5 ex5
      refine zx_istore (lv' := [(8, .int x5), (0, .ref (g 0)), (2, .int x_2), (3, .int x_3), (4, .int x_4), (5, .ref (g q_5)), (6, .int x_6), (7, .int x_7), (9, .int x_9)]) C dX9_weeks_69 (by decide) rfl ?_
      refine zx_aload_n C dX9_weeks_71 1 rfl ?_
      refine zx_getR C zs_0 fg_X9_34 rfl 190 rfl dX9_weeks_72 ?_
      refine zx_getI C zs_190 fg_X9_217 rfl dX9_weeks_75 ?_
      refine zx_iload C dX9_weeks_78 7 rfl ?_
      refine zx_icmp_le C 96 dX9_weeks_80 (by decide) (fun q => ?_) (fun q => ?_)
      · replace h := h.1 q
        obtain ⟨x6, ex6⟩ : ∃ y : Int32, y = (x_9 + (1 : Int32)) := ⟨_, rfl⟩
        replace h := h x6 ex6
        refine zx_iinc (v := x6) (lv' := [(9, .int x6), (8, .int x5), (0, .ref (g 0)), (2, .int x_2), (3, .int x_3), (4, .int x_4), (5, .ref (g q_5)), (6, .int x_6), (7, .int x_7)]) C dX9_weeks_96 8 rfl (by rw [ex6]; rfl) (by decide) rfl ?_
        refine zx_goto C 38 dX9_weeks_99 (by decide) ?_
        refine zx_lv (lv' := [(0, .ref (g 0)), (2, .int x_2), (3, .int x_3), (4, .int x_4), (5, .ref (g q_5)), (6, .int x_6), (7, .int x_7), (8, .int x5), (9, .int x6)]) [2, 3, 4, 5, 6, 7, 8, 1, 0] rfl ?_
        exact ih x_6 x_7 x5 x6 σ4 h
      · replace h := h.2 q
        refine zx_iload C dX9_weeks_83 8 rfl ?_
        refine zx_istore (lv' := [(6, .int x_9), (8, .int x5), (0, .ref (g 0)), (2, .int x_2), (3, .int x_3), (4, .int x_4), (5, .ref (g q_5)), (7, .int x_7), (9, .int x_9)]) C dX9_weeks_85 (by decide) rfl ?_
        refine zx_aload_n C dX9_weeks_87 2 rfl ?_
        refine zx_getR C zs_0 fg_X9_34 rfl 190 rfl dX9_weeks_88 ?_
        refine zx_getI C zs_190 fg_X9_217 rfl dX9_weeks_91 ?_
        refine zx_topi (fun x7 ex7 => ?_)
        replace h := h x7 ex7
        refine zx_istore (lv' := [(7, .int x7), (6, .int x_9), (8, .int x5), (0, .ref (g 0)), (2, .int x_2), (3, .int x_3), (4, .int x_4), (5, .ref (g q_5)), (9, .int x_9)]) C dX9_weeks_94 (by decide) rfl ?_
        obtain ⟨x8, ex8⟩ : ∃ y : Int32, y = (x_9 + (1 : Int32)) := ⟨_, rfl⟩
        replace h := h x8 ex8
        refine zx_iinc (v := x8) (lv' := [(9, .int x8), (7, .int x7), (6, .int x_9), (8, .int x5), (0, .ref (g 0)), (2, .int x_2), (3, .int x_3), (4, .int x_4), (5, .ref (g q_5))]) C dX9_weeks_96 8 rfl (by rw [ex8]; rfl) (by decide) rfl ?_
        refine zx_goto C 38 dX9_weeks_99 (by decide) ?_
        refine zx_lv (lv' := [(0, .ref (g 0)), (2, .int x_2), (3, .int x_3), (4, .int x_4), (5, .ref (g q_5)), (6, .int x_9), (7, .int x7), (8, .int x5), (9, .int x8)]) [4, 5, 6, 7, 8, 2, 1, 3, 0] rfl ?_
        exact ih x_9 x7 x5 x8 σ4 h
set_option maxRecDepth 100000 in
set_option maxHeartbeats 4000000 in
theorem c_X9_weeks (l : Launch) (D : va_G) (cy : Nat → ClassId) (g : Nat → Nat) (a1 : Int32) (a2 : Int32) (a3 : Int32) (a4 : Int32)  (σ : zSto) {P : Int32 → zSto → Prop} (h : w_X9_weeks a1 a2 a3 a4 σ P) : zMi l yX9_weeks cX9_weeks 10 (some .int) (zrm 4 136) D cy g [.ref (g 0), .int a1, .int a2, .int a3, .int a4] σ P := by
  unfold w_X9_weeks at h
  refine zm_i RX9 rfl (by decide +kernel) (Nat.le_of_ble_eq_true rfl) ?_
  intro p e s m below meth c C hr
  refine zx_lv (lv' := [(0, .ref (g 0)), (1, .int a1), (2, .int a2), (3, .int a3), (4, .int a4)]) [0, 1, 2, 3, 4] rfl ?_
  refine zx_aload_n C dX9_weeks_0 0 rfl ?_
  refine zx_getR C zs_0 fg_X9_12 rfl 1 rfl dX9_weeks_1 ?_
  refine zx_iload_n C dX9_weeks_4 1 rfl ?_
  refine zx_cVq C [.int a1] lk_X9_121 (c_X8_lineAt l D cy g 1 a1 zIsState_1 σ h) zIsState_1.1 rfl ⟨by decide, by decide⟩ ⟨rfl, rfl⟩ ⟨Nat.zero_le _, Nat.zero_le _⟩ rfl rfl (Nat.le_of_ble_eq_true rfl) dX9_weeks_5 (fun σ1 h => ?_) (fun j3 σ1 h => ?_)
  · replace h := h.1 rfl
    refine zx_astoreN (lv' := [(5, .null), (0, .ref (g 0)), (1, .int a1), (2, .int a2), (3, .int a3), (4, .int a4)]) C dX9_weeks_8 (by decide) rfl ?_
    refine zx_aloadN C dX9_weeks_10 0 rfl ?_
    refine zx_ifnullN C 24 dX9_weeks_12 (by decide) ?_
    refine zx_iconst (v := (-1 : Int32)) C dX9_weeks_24 (by decide) ?_
    exact zx_iret C hr dX9_weeks_25 h
  · obtain ⟨hj3, h⟩ := h.2 j3 rfl
    refine zx_astore (lv' := [(5, .ref (g j3)), (0, .ref (g 0)), (1, .int a1), (2, .int a2), (3, .int a3), (4, .int a4)]) C dX9_weeks_8 (by decide) rfl ?_
    refine zx_aload C dX9_weeks_10 0 rfl ?_
    refine zx_ifnull C dX9_weeks_12 ?_
    refine zx_iload_n C dX9_weeks_15 3 rfl ?_
    refine zx_if_lt C 24 dX9_weeks_16 (by decide) (fun q => ?_) (fun q => ?_)
    · replace h := h.1 q
      refine zx_iconst (v := (-1 : Int32)) C dX9_weeks_24 (by decide) ?_
      exact zx_iret C hr dX9_weeks_25 h
    · replace h := h.2 q
      refine zx_iload_n C dX9_weeks_19 3 rfl ?_
      refine zx_iconst (v := (4 : Int32)) C dX9_weeks_20 (by decide) ?_
      refine zx_icmp_lt C 26 dX9_weeks_21 (by decide) (fun q => ?_) (fun q => ?_)
      · replace h := h.1 q
        refine zx_iconst (v := (0 : Int32)) C dX9_weeks_26 (by decide) ?_
        refine zx_istore (lv' := [(6, .int (0 : Int32)), (5, .ref (g j3)), (0, .ref (g 0)), (1, .int a1), (2, .int a2), (3, .int a3), (4, .int a4)]) C dX9_weeks_27 (by decide) rfl ?_
        refine zx_iconst (v := (-1 : Int32)) C dX9_weeks_29 (by decide) ?_
        refine zx_istore (lv' := [(7, .int (-1 : Int32)), (6, .int (0 : Int32)), (5, .ref (g j3)), (0, .ref (g 0)), (1, .int a1), (2, .int a2), (3, .int a3), (4, .int a4)]) C dX9_weeks_30 (by decide) rfl ?_
        refine zx_iconst (v := (0 : Int32)) C dX9_weeks_32 (by decide) ?_
        refine zx_istore (lv' := [(8, .int (0 : Int32)), (7, .int (-1 : Int32)), (6, .int (0 : Int32)), (5, .ref (g j3)), (0, .ref (g 0)), (1, .int a1), (2, .int a2), (3, .int a3), (4, .int a4)]) C dX9_weeks_33 (by decide) rfl ?_
        refine zx_iconst (v := (0 : Int32)) C dX9_weeks_35 (by decide) ?_
        refine zx_istore (lv' := [(9, .int (0 : Int32)), (8, .int (0 : Int32)), (7, .int (-1 : Int32)), (6, .int (0 : Int32)), (5, .ref (g j3)), (0, .ref (g 0)), (1, .int a1), (2, .int a2), (3, .int a3), (4, .int a4)]) C dX9_weeks_36 (by decide) rfl ?_
        obtain ⟨n, h⟩ := h
        refine zx_lv (lv' := [(0, .ref (g 0)), (2, .int a2), (3, .int a3), (4, .int a4), (5, .ref (g j3)), (6, .int (0 : Int32)), (7, .int (-1 : Int32)), (8, .int (0 : Int32)), (9, .int (0 : Int32))]) [5, 7, 8, 9, 4, 3, 2, 1, 0] rfl ?_
        exact k_X9_weeks_38 C hr (a2) (a3) (a4) (j3) hj3  n (0 : Int32) (-1 : Int32) (0 : Int32) (0 : Int32) σ1 h
      · replace h := h.2 q
        refine zx_iconst (v := (-1 : Int32)) C dX9_weeks_24 (by decide) ?_
        exact zx_iret C hr dX9_weeks_25 h
def w_X9_lots_60 (x_2 : Int32) (x_3 : Int32) (x_4 : Int32) (x_5 : Int32) (q_6 : Nat) (P : Int32 → zSto → Prop)  : Nat → Int32 → Int32 → Int32 → Int32 → zSto → Prop
  | 0, _, _, _, _, _ => False
  | n + 1, x_7, x_8, x_9, x_10, σ => ((x_4 ≤ x_10 → ((¬ x_5 = 0 → ((¬ x_5 = (1 : Int32) → P x_9 σ) ∧ (x_5 = (1 : Int32) → P x_8 σ))) ∧ (x_5 = 0 → P x_7 σ))) ∧ (¬ x_4 ≤ x_10 → (w_X5_byLaw q_6 (2 : Int32) (x_3 + x_10) x_2 (-1 : Int32) σ (fun (σ6 : zSto) => (∀ x7 : Int32, x7 = (x_7 + (σ6.1 190 9)) → (∀ x8 : Int32, x8 = (x_8 + (σ6.1 190 8)) → ((¬ (σ6.1 190 11) = (-1 : Int32) → (∀ x9 : Int32, x9 = (x_9 + (1 : Int32)) → (∀ x10 : Int32, x10 = (x_10 + (1 : Int32)) → w_X9_lots_60 x_2 x_3 x_4 x_5 q_6 P n x7 x8 x9 x10 σ6))) ∧ ((σ6.1 190 11) = (-1 : Int32) → (∀ x11 : Int32, x11 = (x_9 + (0 : Int32)) → (∀ x12 : Int32, x12 = (x_10 + (1 : Int32)) → w_X9_lots_60 x_2 x_3 x_4 x_5 q_6 P n x7 x8 x11 x12 σ6))))))))))
def w_X9_lots (a1 : Int32) (a2 : Int32) (a3 : Int32) (a4 : Int32) (a5 : Int32) (σ : zSto) (P : Int32 → zSto → Prop) : Prop := (w_X8_lineAt 1 a1 σ (fun (q2 : Option Nat) (σ1 : zSto) => ((q2 = none → P (-1 : Int32) σ1) ∧ (∀ j3 : Nat, q2 = some j3 → zIsLine j3 ∧ (w_X9_isWeek a2 σ1 (fun (r5 : Int32) (σ4 : zSto) => (r5 = 0 ∨ r5 = 1) → ((r5 = 0 → P (-1 : Int32) σ4) ∧ (¬ r5 = 0 → ((a4 < (1 : Int32) → P (-1 : Int32) σ4) ∧ (¬ a4 < (1 : Int32) → (((20 : Int32) < a4 → P (-1 : Int32) σ4) ∧ (¬ (20 : Int32) < a4 → ((a5 < 0 → P (-1 : Int32) σ4) ∧ (¬ a5 < 0 → ((a5 ≤ (2 : Int32) → (∃ n : Nat, w_X9_lots_60 a2 a3 a4 a5 j3 P  n (0 : Int32) (0 : Int32) (0 : Int32) (0 : Int32) σ4)) ∧ (¬ a5 ≤ (2 : Int32) → P (-1 : Int32) σ4))))))))))))))))
set_option maxRecDepth 100000 in
set_option maxHeartbeats 4000000 in
theorem k_X9_lots_60 {p : Program} {l : Launch} {e : Env} {s : State} {m : MethodId} {args : Array Value} {below : List Frame} {meth : Method} {c : Code} {D : va_G} {cy : Nat → ClassId} {g : Nat → Nat} (C : zC p s m args meth c cX9_lots RX9 11 D cy g) (hr : meth.sig.returnType = (some .int)) {P : Int32 → zSto → Prop} (x_2 : Int32) (x_3 : Int32) (x_4 : Int32) (x_5 : Int32) (q_6 : Nat) (hq_6 : zIsLine q_6)   : ∀ (n : Nat) (x_7 : Int32) (x_8 : Int32) (x_9 : Int32) (x_10 : Int32) (σ : zSto), w_X9_lots_60 x_2 x_3 x_4 x_5 q_6 P n x_7 x_8 x_9 x_10 σ → zX p l e (zrm 4 136) s m args below meth c 0 0 (zQi P below args s D cy g) 11 D cy g 60 [(0, .ref (g 0)), (2, .int x_2), (3, .int x_3), (4, .int x_4), (5, .int x_5), (6, .ref (g q_6)), (7, .int x_7), (8, .int x_8), (9, .int x_9), (10, .int x_10)] [] σ := by
  intro n
  induction n with
  | zero => intro x_7 x_8 x_9 x_10 σ h; exact h.elim
  | succ n ih =>
    intro x_7 x_8 x_9 x_10 σ h
    unfold w_X9_lots_60 at h
    refine zx_iload C dX9_lots_60 9 rfl ?_
    refine zx_iload C dX9_lots_62 3 rfl ?_
    refine zx_icmp_ge C 134 dX9_lots_64 (by decide) (fun q => ?_) (fun q => ?_)
    · replace h := h.1 q
      refine zx_iload C dX9_lots_134 4 rfl ?_
      refine zx_if_ne C 142 dX9_lots_136 (by decide) (fun q => ?_) (fun q => ?_)
      · replace h := h.1 q
        refine zx_iload C dX9_lots_142 4 rfl ?_
        refine zx_iconst (v := (1 : Int32)) C dX9_lots_144 (by decide) ?_
        refine zx_icmp_ne C 153 dX9_lots_145 (by decide) (fun q => ?_) (fun q => ?_)
        · replace h := h.1 q
          refine zx_iload C dX9_lots_153 8 rfl ?_
          exact zx_iret C hr dX9_lots_155 h
        · replace h := h.2 q
          refine zx_iload C dX9_lots_148 7 rfl ?_
          refine zx_goto C 155 dX9_lots_150 (by decide) ?_
          exact zx_iret C hr dX9_lots_155 h
      · replace h := h.2 q
        refine zx_iload C dX9_lots_139 6 rfl ?_
        exact zx_iret C hr dX9_lots_141 h
    · replace h := h.2 q
      refine zx_aload_n C dX9_lots_67 0 rfl ?_
      refine zx_getR C zs_0 fg_X9_34 rfl 190 rfl dX9_lots_68 ?_
      refine zx_aload C dX9_lots_71 5 rfl ?_
      refine zx_iconst (v := (2 : Int32)) C dX9_lots_73 (by decide) ?_
      refine zx_iload_n C dX9_lots_74 2 rfl ?_
      refine zx_iload C dX9_lots_75 9 rfl ?_
      refine zx_iadd C dX9_lots_77 ?_
      refine zx_iload_n C dX9_lots_78 1 rfl ?_
      refine zx_iconst (v := (-1 : Int32)) C dX9_lots_79 (by decide) ?_
      refine zx_cVv C [.ref (g q_6), .int (2 : Int32), .int (x_3 + x_10), .int x_2, .int (-1 : Int32)] lk_X9_261 (c_X5_byLaw l D cy g q_6 (2 : Int32) (x_3 + x_10) x_2 (-1 : Int32) hq_6 σ h) zs_190 rfl ⟨by decide, by decide⟩ ⟨rfl, rfl⟩ ⟨Nat.zero_le _, Nat.zero_le _⟩ rfl rfl (Nat.le_of_ble_eq_true rfl) dX9_lots_80 (fun σ6 h => ?_)
      refine zx_iload C dX9_lots_83 6 rfl ?_
      refine zx_aload_n C dX9_lots_85 0 rfl ?_
      refine zx_getR C zs_0 fg_X9_34 rfl 190 rfl dX9_lots_86 ?_
      refine zx_getI C zs_190 fg_X9_217 rfl dX9_lots_89 ?_
      refine zx_iadd C dX9_lots_92 ?_
      refine zx_topi (fun x7 ex7 => ?_)
      replace h := h x7 ex7
      refine zx_istore (lv' := [(7, .int x7), (0, .ref (g 0)), (2, .int x_2), (3, .int x_3), (4, .int x_4), (5, .int x_5), (6, .ref (g q_6)), (8, .int x_8), (9, .int x_9), (10, .int x_10)]) C dX9_lots_93 (by decide) rfl ?_
      refine zx_iload C dX9_lots_95 7 rfl ?_
      refine zx_aload_n C dX9_lots_97 1 rfl ?_
      refine zx_getR C zs_0 fg_X9_34 rfl 190 rfl dX9_lots_98 ?_
      refine zx_getI C zs_190 fg_X9_223 rfl dX9_lots_101 ?_
      refine zx_iadd C dX9_lots_104 ?_
      refine zx_topi (fun x8 ex8 => ?_)
      replace h := h x8 ex8
      refine zx_istore (lv' := [(8, .int x8), (7, .int x7), (0, .ref (g 0)), (2, .int x_2), (3, .int x_3), (4, .int x_4), (5, .int x_5), (6, .ref (g q_6)), (9, .int x_9), (10, .int x_10)]) C dX9_lots_105 (by decide) rfl ?_
      refine zx_iload C dX9_lots_107 8 rfl ?_
      refine zx_aload_n C dX9_lots_109 2 rfl ?_
      refine zx_getR C zs_0 fg_X9_34 rfl 190 rfl dX9_lots_110 ?_
      refine zx_getI C zs_190 fg_X9_233 rfl dX9_lots_113 ?_
      refine zx_iconst (v := (-1 : Int32)) C dX9_lots_116 (by decide) ?_
      refine zx_icmp_ne C 124 dX9_lots_117 (by decide) (fun q => ?_) (fun q => ?_)
      · replace h := h.1 q
        refine zx_iconst (v := (1 : Int32)) C dX9_lots_124 (by decide) ?_
        refine zx_iadd C dX9_lots_125 ?_
        refine zx_topi (fun x9 ex9 => ?_)
        replace h := h x9 ex9
        refine zx_istore (lv' := [(9, .int x9), (8, .int x8), (7, .int x7), (0, .ref (g 0)), (2, .int x_2), (3, .int x_3), (4, .int x_4), (5, .int x_5), (6, .ref (g q_6)), (10, .int x_10)]) C dX9_lots_126 (by decide) rfl ?_
        obtain ⟨x10, ex10⟩ : ∃ y : Int32, y = (x_10 + (1 : Int32)) := ⟨_, rfl⟩
        replace h := h x10 ex10
        refine zx_iinc (v := x10) (lv' := [(10, .int x10), (9, .int x9), (8, .int x8), (7, .int x7), (0, .ref (g 0)), (2, .int x_2), (3, .int x_3), (4, .int x_4), (5, .int x_5), (6, .ref (g q_6))]) C dX9_lots_128 9 rfl (by rw [ex10]; rfl) (by decide) rfl ?_
        refine zx_goto C 60 dX9_lots_131 (by decide) ?_
        refine zx_lv (lv' := [(0, .ref (g 0)), (2, .int x_2), (3, .int x_3), (4, .int x_4), (5, .int x_5), (6, .ref (g q_6)), (7, .int x7), (8, .int x8), (9, .int x9), (10, .int x10)]) [4, 5, 6, 7, 8, 9, 3, 2, 1, 0] rfl ?_
        exact ih x7 x8 x9 x10 σ6 h
      · replace h := h.2 q
        refine zx_iconst (v := (0 : Int32)) C dX9_lots_120 (by decide) ?_
        refine zx_goto C 125 dX9_lots_121 (by decide) ?_
        refine zx_iadd C dX9_lots_125 ?_
        refine zx_topi (fun x11 ex11 => ?_)
        replace h := h x11 ex11
        refine zx_istore (lv' := [(9, .int x11), (8, .int x8), (7, .int x7), (0, .ref (g 0)), (2, .int x_2), (3, .int x_3), (4, .int x_4), (5, .int x_5), (6, .ref (g q_6)), (10, .int x_10)]) C dX9_lots_126 (by decide) rfl ?_
        obtain ⟨x12, ex12⟩ : ∃ y : Int32, y = (x_10 + (1 : Int32)) := ⟨_, rfl⟩
        replace h := h x12 ex12
        refine zx_iinc (v := x12) (lv' := [(10, .int x12), (9, .int x11), (8, .int x8), (7, .int x7), (0, .ref (g 0)), (2, .int x_2), (3, .int x_3), (4, .int x_4), (5, .int x_5), (6, .ref (g q_6))]) C dX9_lots_128 9 rfl (by rw [ex12]; rfl) (by decide) rfl ?_
        refine zx_goto C 60 dX9_lots_131 (by decide) ?_
        refine zx_lv (lv' := [(0, .ref (g 0)), (2, .int x_2), (3, .int x_3), (4, .int x_4), (5, .int x_5), (6, .ref (g q_6)), (7, .int x7), (8, .int x8), (9, .int x11), (10, .int x12)]) [4, 5, 6, 7, 8, 9, 3, 2, 1, 0] rfl ?_
        exact ih x7 x8 x11 x12 σ6 h
set_option maxRecDepth 100000 in
set_option maxHeartbeats 4000000 in
theorem c_X9_lots (l : Launch) (D : va_G) (cy : Nat → ClassId) (g : Nat → Nat) (a1 : Int32) (a2 : Int32) (a3 : Int32) (a4 : Int32) (a5 : Int32)  (σ : zSto) {P : Int32 → zSto → Prop} (h : w_X9_lots a1 a2 a3 a4 a5 σ P) : zMi l yX9_lots cX9_lots 11 (some .int) (zrm 4 136) D cy g [.ref (g 0), .int a1, .int a2, .int a3, .int a4, .int a5] σ P := by
  unfold w_X9_lots at h
  refine zm_i RX9 rfl (by decide +kernel) (Nat.le_of_ble_eq_true rfl) ?_
  intro p e s m below meth c C hr
  refine zx_lv (lv' := [(0, .ref (g 0)), (1, .int a1), (2, .int a2), (3, .int a3), (4, .int a4), (5, .int a5)]) [0, 1, 2, 3, 4, 5] rfl ?_
  refine zx_aload_n C dX9_lots_0 0 rfl ?_
  refine zx_getR C zs_0 fg_X9_12 rfl 1 rfl dX9_lots_1 ?_
  refine zx_iload_n C dX9_lots_4 1 rfl ?_
  refine zx_cVq C [.int a1] lk_X9_121 (c_X8_lineAt l D cy g 1 a1 zIsState_1 σ h) zIsState_1.1 rfl ⟨by decide, by decide⟩ ⟨rfl, rfl⟩ ⟨Nat.zero_le _, Nat.zero_le _⟩ rfl rfl (Nat.le_of_ble_eq_true rfl) dX9_lots_5 (fun σ1 h => ?_) (fun j3 σ1 h => ?_)
  · replace h := h.1 rfl
    refine zx_astoreN (lv' := [(6, .null), (0, .ref (g 0)), (1, .int a1), (2, .int a2), (3, .int a3), (4, .int a4), (5, .int a5)]) C dX9_lots_8 (by decide) rfl ?_
    refine zx_aloadN C dX9_lots_10 0 rfl ?_
    refine zx_ifnullN C 46 dX9_lots_12 (by decide) ?_
    refine zx_iconst (v := (-1 : Int32)) C dX9_lots_46 (by decide) ?_
    exact zx_iret C hr dX9_lots_47 h
  · obtain ⟨hj3, h⟩ := h.2 j3 rfl
    refine zx_astore (lv' := [(6, .ref (g j3)), (0, .ref (g 0)), (1, .int a1), (2, .int a2), (3, .int a3), (4, .int a4), (5, .int a5)]) C dX9_lots_8 (by decide) rfl ?_
    refine zx_aload C dX9_lots_10 0 rfl ?_
    refine zx_ifnull C dX9_lots_12 ?_
    refine zx_iload_n C dX9_lots_15 3 rfl ?_
    refine zx_cSb C [.int a2] lk_X9_254 (c_X9_isWeek l D cy g a2  σ1 h) ⟨by decide, by decide⟩ ⟨rfl, rfl⟩ ⟨Nat.zero_le _, Nat.zero_le _⟩ rfl rfl (Nat.le_of_ble_eq_true rfl) dX9_lots_16 (fun r5 σ4 hb h => ?_)
    replace h := h hb
    refine zx_if_eq C 46 dX9_lots_19 (by decide) (fun q => ?_) (fun q => ?_)
    · replace h := h.1 q
      refine zx_iconst (v := (-1 : Int32)) C dX9_lots_46 (by decide) ?_
      exact zx_iret C hr dX9_lots_47 h
    · replace h := h.2 q
      refine zx_iload C dX9_lots_22 5 rfl ?_
      refine zx_iconst (v := (1 : Int32)) C dX9_lots_24 (by decide) ?_
      refine zx_icmp_lt C 46 dX9_lots_25 (by decide) (fun q => ?_) (fun q => ?_)
      · replace h := h.1 q
        refine zx_iconst (v := (-1 : Int32)) C dX9_lots_46 (by decide) ?_
        exact zx_iret C hr dX9_lots_47 h
      · replace h := h.2 q
        refine zx_iload C dX9_lots_28 5 rfl ?_
        refine zx_bipush (v := (20 : Int32)) C dX9_lots_30 (by decide) ?_
        refine zx_icmp_gt C 46 dX9_lots_32 (by decide) (fun q => ?_) (fun q => ?_)
        · replace h := h.1 q
          refine zx_iconst (v := (-1 : Int32)) C dX9_lots_46 (by decide) ?_
          exact zx_iret C hr dX9_lots_47 h
        · replace h := h.2 q
          refine zx_iload C dX9_lots_35 6 rfl ?_
          refine zx_if_lt C 46 dX9_lots_37 (by decide) (fun q => ?_) (fun q => ?_)
          · replace h := h.1 q
            refine zx_iconst (v := (-1 : Int32)) C dX9_lots_46 (by decide) ?_
            exact zx_iret C hr dX9_lots_47 h
          · replace h := h.2 q
            refine zx_iload C dX9_lots_40 6 rfl ?_
            refine zx_iconst (v := (2 : Int32)) C dX9_lots_42 (by decide) ?_
            refine zx_icmp_le C 48 dX9_lots_43 (by decide) (fun q => ?_) (fun q => ?_)
            · replace h := h.1 q
              refine zx_iconst (v := (0 : Int32)) C dX9_lots_48 (by decide) ?_
              refine zx_istore (lv' := [(7, .int (0 : Int32)), (6, .ref (g j3)), (0, .ref (g 0)), (1, .int a1), (2, .int a2), (3, .int a3), (4, .int a4), (5, .int a5)]) C dX9_lots_49 (by decide) rfl ?_
              refine zx_iconst (v := (0 : Int32)) C dX9_lots_51 (by decide) ?_
              refine zx_istore (lv' := [(8, .int (0 : Int32)), (7, .int (0 : Int32)), (6, .ref (g j3)), (0, .ref (g 0)), (1, .int a1), (2, .int a2), (3, .int a3), (4, .int a4), (5, .int a5)]) C dX9_lots_52 (by decide) rfl ?_
              refine zx_iconst (v := (0 : Int32)) C dX9_lots_54 (by decide) ?_
              refine zx_istore (lv' := [(9, .int (0 : Int32)), (8, .int (0 : Int32)), (7, .int (0 : Int32)), (6, .ref (g j3)), (0, .ref (g 0)), (1, .int a1), (2, .int a2), (3, .int a3), (4, .int a4), (5, .int a5)]) C dX9_lots_55 (by decide) rfl ?_
              refine zx_iconst (v := (0 : Int32)) C dX9_lots_57 (by decide) ?_
              refine zx_istore (lv' := [(10, .int (0 : Int32)), (9, .int (0 : Int32)), (8, .int (0 : Int32)), (7, .int (0 : Int32)), (6, .ref (g j3)), (0, .ref (g 0)), (1, .int a1), (2, .int a2), (3, .int a3), (4, .int a4), (5, .int a5)]) C dX9_lots_58 (by decide) rfl ?_
              obtain ⟨n, h⟩ := h
              refine zx_lv (lv' := [(0, .ref (g 0)), (2, .int a2), (3, .int a3), (4, .int a4), (5, .int a5), (6, .ref (g j3)), (7, .int (0 : Int32)), (8, .int (0 : Int32)), (9, .int (0 : Int32)), (10, .int (0 : Int32))]) [5, 7, 8, 9, 10, 4, 3, 2, 1, 0] rfl ?_
              exact k_X9_lots_60 C hr (a2) (a3) (a4) (a5) (j3) hj3  n (0 : Int32) (0 : Int32) (0 : Int32) (0 : Int32) σ4 h
            · replace h := h.2 q
              refine zx_iconst (v := (-1 : Int32)) C dX9_lots_46 (by decide) ?_
              exact zx_iret C hr dX9_lots_47 h
theorem fg_X9_73 : zFG RX9 73 9 10 := ⟨RX9, TX9, 11, rfl, lay_X9, by decide, fl_X9_73⟩
theorem lk_X9_277 : zLV RX9 277 RX5 yX5_gainOf cX5_gainOf 3 (some .int) 2 := zLV_of ml_X9_277 im_X5_gainOf se_X5_gainOf ini_X5 cd_X5_gainOf (by decide +kernel)
def w_X9_keepGains_2 (q_1 : Nat) (x_2 : Int32) (P : zSto → Prop)  : Nat → Int32 → zSto → Prop
  | 0, _, _ => False
  | n + 1, x_3, σ => (((σ.1 q_1 12) ≤ x_3 → P σ) ∧ (¬ (σ.1 q_1 12) ≤ x_3 → (w_X5_gainOf q_1 x_3 σ (fun (r2 : Int32) (σ1 : zSto) => (vp_in ((x_2 * (6 : Int32)) + x_3) 384 ∧ (∀ σ4 : zSto, σ4 = zI σ1 222 (((x_2 * (6 : Int32)) + x_3)).toNatClampNeg r2 → (∀ x5 : Int32, x5 = (x_3 + (1 : Int32)) → w_X9_keepGains_2 q_1 x_2 P n x5 σ4)))))))
def w_X9_keepGains (b1 : Nat) (a2 : Int32) (σ : zSto) (P : zSto → Prop) : Prop := (∃ n : Nat, w_X9_keepGains_2 b1 a2 P  n (0 : Int32) σ)
set_option maxRecDepth 100000 in
set_option maxHeartbeats 4000000 in
theorem k_X9_keepGains_2 {p : Program} {l : Launch} {e : Env} {s : State} {m : MethodId} {args : Array Value} {below : List Frame} {meth : Method} {c : Code} {D : va_G} {cy : Nat → ClassId} {g : Nat → Nat} (C : zC p s m args meth c cX9_keepGains RX9 4 D cy g) (hr : meth.sig.returnType = none) {P : zSto → Prop} (q_1 : Nat) (x_2 : Int32) (hq_1 : zIsLine q_1)   : ∀ (n : Nat) (x_3 : Int32) (σ : zSto), w_X9_keepGains_2 q_1 x_2 P n x_3 σ → zX p l e (zrm 3 68) s m args below meth c 0 0 (zQv P below args s D cy g) 4 D cy g 2 [(0, .ref (g 0)), (1, .ref (g q_1)), (2, .int x_2), (3, .int x_3)] [] σ := by
  intro n
  induction n with
  | zero => intro x_3 σ h; exact h.elim
  | succ n ih =>
    intro x_3 σ h
    unfold w_X9_keepGains_2 at h
    refine zx_iload_n C dX9_keepGains_2 3 rfl ?_
    refine zx_aload_n C dX9_keepGains_3 1 rfl ?_
    refine zx_getI C hq_1.1 fg_X9_128 rfl dX9_keepGains_4 ?_
    refine zx_icmp_ge C 36 dX9_keepGains_7 (by decide) (fun q => ?_) (fun q => ?_)
    · replace h := h.1 q
      exact zx_vret C hr dX9_keepGains_36 h
    · replace h := h.2 q
      refine zx_aload_n C dX9_keepGains_10 0 rfl ?_
      refine zx_getR C zs_0 fg_X9_73 rfl 222 rfl dX9_keepGains_11 ?_
      refine zx_iload_n C dX9_keepGains_14 2 rfl ?_
      refine zx_bipush (v := (6 : Int32)) C dX9_keepGains_15 (by decide) ?_
      refine zx_imul C dX9_keepGains_17 ?_
      refine zx_iload_n C dX9_keepGains_18 3 rfl ?_
      refine zx_iadd C dX9_keepGains_19 ?_
      refine zx_aload_n C dX9_keepGains_20 0 rfl ?_
      refine zx_getR C zs_0 fg_X9_34 rfl 190 rfl dX9_keepGains_21 ?_
      refine zx_aload_n C dX9_keepGains_24 1 rfl ?_
      refine zx_iload_n C dX9_keepGains_25 3 rfl ?_
      refine zx_cVi C [.ref (g q_1), .int x_3] lk_X9_277 (c_X5_gainOf l D cy g q_1 x_3 hq_1 σ h) zs_190 rfl ⟨by decide, by decide⟩ ⟨rfl, rfl⟩ ⟨Nat.zero_le _, Nat.zero_le _⟩ rfl rfl (Nat.le_of_ble_eq_true rfl) dX9_keepGains_26 (fun r2 σ1 h => ?_)
      obtain ⟨bd3, h⟩ := h
      refine zx_iast C (((x_2 * (6 : Int32)) + x_3)).toNatClampNeg zs_222 bd3 rfl dX9_keepGains_29 ?_
      refine zx_sig (fun σ4 eσ4 => ?_)
      replace h := h σ4 eσ4
      obtain ⟨x5, ex5⟩ : ∃ y : Int32, y = (x_3 + (1 : Int32)) := ⟨_, rfl⟩
      replace h := h x5 ex5
      refine zx_iinc (v := x5) (lv' := [(3, .int x5), (0, .ref (g 0)), (1, .ref (g q_1)), (2, .int x_2)]) C dX9_keepGains_30 3 rfl (by rw [ex5]; rfl) (by decide) rfl ?_
      refine zx_goto C 2 dX9_keepGains_33 (by decide) ?_
      refine zx_lv (lv' := [(0, .ref (g 0)), (1, .ref (g q_1)), (2, .int x_2), (3, .int x5)]) [1, 2, 3, 0] rfl ?_
      exact ih x5 σ4 h
set_option maxRecDepth 100000 in
set_option maxHeartbeats 4000000 in
theorem c_X9_keepGains (l : Launch) (D : va_G) (cy : Nat → ClassId) (g : Nat → Nat) (b1 : Nat) (a2 : Int32) (hb1 : zIsLine b1) (σ : zSto) {P : zSto → Prop} (h : w_X9_keepGains b1 a2 σ P) : zMv l yX9_keepGains cX9_keepGains 4 none (zrm 3 68) D cy g [.ref (g 0), .ref (g b1), .int a2] σ P := by
  unfold w_X9_keepGains at h
  refine zm_v RX9 rfl (by decide +kernel) (Nat.le_of_ble_eq_true rfl) ?_
  intro p e s m below meth c C hr
  refine zx_lv (lv' := [(0, .ref (g 0)), (1, .ref (g b1)), (2, .int a2)]) [0, 1, 2] rfl ?_
  refine zx_iconst (v := (0 : Int32)) C dX9_keepGains_0 (by decide) ?_
  refine zx_istore_n (lv' := [(3, .int (0 : Int32)), (0, .ref (g 0)), (1, .ref (g b1)), (2, .int a2)]) C dX9_keepGains_1 (by decide) rfl ?_
  obtain ⟨n, h⟩ := h
  refine zx_lv (lv' := [(0, .ref (g 0)), (1, .ref (g b1)), (2, .int a2), (3, .int (0 : Int32))]) [1, 2, 3, 0] rfl ?_
  exact k_X9_keepGains_2 C hr (b1) (a2) hb1  n (0 : Int32) σ h
theorem lk_X9_269 : zLV RX9 269 RX0 yX0_riderSets cX0_riderSets 1 (some .int) 0 := zLV_of ml_X9_269 im_X0_riderSets se_X0_riderSets ini_X0 cd_X0_riderSets (by decide +kernel)
theorem lk_X9_403 : zLV RX9 403 RX9 yX9_keepGains cX9_keepGains 4 none 2 := zLV_of ml_X9_403 im_X9_keepGains se_X9_keepGains ini_X9 cd_X9_keepGains (by decide +kernel)
def w_X9_fillGains_2 (q_1 : Nat) (x_2 : Int32) (P : zSto → Prop)  : Nat → Int32 → zSto → Prop
  | 0, _, _ => False
  | n + 1, x_3, σ => (w_X0_riderSets q_1 σ (fun (r2 : Int32) (σ1 : zSto) => ((r2 ≤ x_3 → P σ1) ∧ (¬ r2 ≤ x_3 → (w_X5_byLaw q_1 (0 : Int32) (0 : Int32) x_2 x_3 σ1 (fun (σ3 : zSto) => (w_X9_keepGains q_1 x_3 σ3 (fun (σ4 : zSto) => (∀ x5 : Int32, x5 = (x_3 + (1 : Int32)) → w_X9_fillGains_2 q_1 x_2 P n x5 σ4)))))))))
def w_X9_fillGains (b1 : Nat) (a2 : Int32) (σ : zSto) (P : zSto → Prop) : Prop := (∃ n : Nat, w_X9_fillGains_2 b1 a2 P  n (0 : Int32) σ)
set_option maxRecDepth 100000 in
set_option maxHeartbeats 4000000 in
theorem k_X9_fillGains_2 {p : Program} {l : Launch} {e : Env} {s : State} {m : MethodId} {args : Array Value} {below : List Frame} {meth : Method} {c : Code} {D : va_G} {cy : Nat → ClassId} {g : Nat → Nat} (C : zC p s m args meth c cX9_fillGains RX9 4 D cy g) (hr : meth.sig.returnType = none) {P : zSto → Prop} (q_1 : Nat) (x_2 : Int32) (hq_1 : zIsLine q_1)   : ∀ (n : Nat) (x_3 : Int32) (σ : zSto), w_X9_fillGains_2 q_1 x_2 P n x_3 σ → zX p l e (zrm 4 136) s m args below meth c 0 0 (zQv P below args s D cy g) 4 D cy g 2 [(0, .ref (g 0)), (1, .ref (g q_1)), (2, .int x_2), (3, .int x_3)] [] σ := by
  intro n
  induction n with
  | zero => intro x_3 σ h; exact h.elim
  | succ n ih =>
    intro x_3 σ h
    unfold w_X9_fillGains_2 at h
    refine zx_iload_n C dX9_fillGains_2 3 rfl ?_
    refine zx_aload_n C dX9_fillGains_3 1 rfl ?_
    refine zx_cVi C [] lk_X9_269 (c_X0_riderSets l D cy g q_1 hq_1 σ h) hq_1.1 rfl ⟨by decide, by decide⟩ ⟨rfl, rfl⟩ ⟨Nat.zero_le _, Nat.zero_le _⟩ rfl rfl (Nat.le_of_ble_eq_true rfl) dX9_fillGains_4 (fun r2 σ1 h => ?_)
    refine zx_icmp_ge C 34 dX9_fillGains_7 (by decide) (fun q => ?_) (fun q => ?_)
    · replace h := h.1 q
      exact zx_vret C hr dX9_fillGains_34 h
    · replace h := h.2 q
      refine zx_aload_n C dX9_fillGains_10 0 rfl ?_
      refine zx_getR C zs_0 fg_X9_34 rfl 190 rfl dX9_fillGains_11 ?_
      refine zx_aload_n C dX9_fillGains_14 1 rfl ?_
      refine zx_iconst (v := (0 : Int32)) C dX9_fillGains_15 (by decide) ?_
      refine zx_iconst (v := (0 : Int32)) C dX9_fillGains_16 (by decide) ?_
      refine zx_iload_n C dX9_fillGains_17 2 rfl ?_
      refine zx_iload_n C dX9_fillGains_18 3 rfl ?_
      refine zx_cVv C [.ref (g q_1), .int (0 : Int32), .int (0 : Int32), .int x_2, .int x_3] lk_X9_261 (c_X5_byLaw l D cy g q_1 (0 : Int32) (0 : Int32) x_2 x_3 hq_1 σ1 h) zs_190 rfl ⟨by decide, by decide⟩ ⟨rfl, rfl⟩ ⟨Nat.zero_le _, Nat.zero_le _⟩ rfl rfl (Nat.le_of_ble_eq_true rfl) dX9_fillGains_19 (fun σ3 h => ?_)
      refine zx_aload_n C dX9_fillGains_22 0 rfl ?_
      refine zx_aload_n C dX9_fillGains_23 1 rfl ?_
      refine zx_iload_n C dX9_fillGains_24 3 rfl ?_
      refine zx_cVv C [.ref (g q_1), .int x_3] lk_X9_403 (c_X9_keepGains l D cy g q_1 x_3 hq_1 σ3 h) zs_0 rfl ⟨by decide, by decide⟩ ⟨rfl, rfl⟩ ⟨Nat.zero_le _, Nat.zero_le _⟩ rfl rfl (Nat.le_of_ble_eq_true rfl) dX9_fillGains_25 (fun σ4 h => ?_)
      obtain ⟨x5, ex5⟩ : ∃ y : Int32, y = (x_3 + (1 : Int32)) := ⟨_, rfl⟩
      replace h := h x5 ex5
      refine zx_iinc (v := x5) (lv' := [(3, .int x5), (0, .ref (g 0)), (1, .ref (g q_1)), (2, .int x_2)]) C dX9_fillGains_28 3 rfl (by rw [ex5]; rfl) (by decide) rfl ?_
      refine zx_goto C 2 dX9_fillGains_31 (by decide) ?_
      refine zx_lv (lv' := [(0, .ref (g 0)), (1, .ref (g q_1)), (2, .int x_2), (3, .int x5)]) [1, 2, 3, 0] rfl ?_
      exact ih x5 σ4 h
set_option maxRecDepth 100000 in
set_option maxHeartbeats 4000000 in
theorem c_X9_fillGains (l : Launch) (D : va_G) (cy : Nat → ClassId) (g : Nat → Nat) (b1 : Nat) (a2 : Int32) (hb1 : zIsLine b1) (σ : zSto) {P : zSto → Prop} (h : w_X9_fillGains b1 a2 σ P) : zMv l yX9_fillGains cX9_fillGains 4 none (zrm 4 136) D cy g [.ref (g 0), .ref (g b1), .int a2] σ P := by
  unfold w_X9_fillGains at h
  refine zm_v RX9 rfl (by decide +kernel) (Nat.le_of_ble_eq_true rfl) ?_
  intro p e s m below meth c C hr
  refine zx_lv (lv' := [(0, .ref (g 0)), (1, .ref (g b1)), (2, .int a2)]) [0, 1, 2] rfl ?_
  refine zx_iconst (v := (0 : Int32)) C dX9_fillGains_0 (by decide) ?_
  refine zx_istore_n (lv' := [(3, .int (0 : Int32)), (0, .ref (g 0)), (1, .ref (g b1)), (2, .int a2)]) C dX9_fillGains_1 (by decide) rfl ?_
  obtain ⟨n, h⟩ := h
  refine zx_lv (lv' := [(0, .ref (g 0)), (1, .ref (g b1)), (2, .int a2), (3, .int (0 : Int32))]) [1, 2, 3, 0] rfl ?_
  exact k_X9_fillGains_2 C hr (b1) (a2) hb1  n (0 : Int32) σ h
def w_X9_isAtRest_2 (q_1 : Nat) (x_2 : Int32) (P : Int32 → zSto → Prop)  : Nat → Int32 → zSto → Prop
  | 0, _, _ => False
  | n + 1, x_3, σ => (((σ.1 q_1 12) ≤ x_3 → P (1 : Int32) σ) ∧ (¬ (σ.1 q_1 12) ≤ x_3 → (∀ x1 : Int32, x1 = (x_2 ^^^ ((1 : Int32) <<< (x_3 &&& 31))) → (vp_in ((x1 * (6 : Int32)) + x_3) 384 ∧ (vp_in ((x_2 * (6 : Int32)) + x_3) 384 ∧ (((σ.1 222 (((x1 * (6 : Int32)) + x_3)).toNatClampNeg) ≤ (σ.1 222 (((x_2 * (6 : Int32)) + x_3)).toNatClampNeg) → (∀ x4 : Int32, x4 = (x_3 + (1 : Int32)) → w_X9_isAtRest_2 q_1 x_2 P n x4 σ)) ∧ (¬ (σ.1 222 (((x1 * (6 : Int32)) + x_3)).toNatClampNeg) ≤ (σ.1 222 (((x_2 * (6 : Int32)) + x_3)).toNatClampNeg) → P (0 : Int32) σ)))))))
def w_X9_isAtRest (b1 : Nat) (a2 : Int32) (σ : zSto) (P : Int32 → zSto → Prop) : Prop := (∃ n : Nat, w_X9_isAtRest_2 b1 a2 P  n (0 : Int32) σ)
set_option maxRecDepth 100000 in
set_option maxHeartbeats 4000000 in
theorem k_X9_isAtRest_2 {p : Program} {l : Launch} {e : Env} {s : State} {m : MethodId} {args : Array Value} {below : List Frame} {meth : Method} {c : Code} {D : va_G} {cy : Nat → ClassId} {g : Nat → Nat} (C : zC p s m args meth c cX9_isAtRest RX9 5 D cy g) (hr : meth.sig.returnType = (some .boolean)) {P : Int32 → zSto → Prop} (q_1 : Nat) (x_2 : Int32) (hq_1 : zIsLine q_1)   : ∀ (n : Nat) (x_3 : Int32) (σ : zSto), w_X9_isAtRest_2 q_1 x_2 P n x_3 σ → zX p l e (zrm 0 0) s m args below meth c 0 0 (zQb P below args s D cy g) 5 D cy g 2 [(0, .ref (g 0)), (1, .ref (g q_1)), (2, .int x_2), (3, .int x_3)] [] σ := by
  intro n
  induction n with
  | zero => intro x_3 σ h; exact h.elim
  | succ n ih =>
    intro x_3 σ h
    unfold w_X9_isAtRest_2 at h
    refine zx_iload_n C dX9_isAtRest_2 3 rfl ?_
    refine zx_aload_n C dX9_isAtRest_3 1 rfl ?_
    refine zx_getI C hq_1.1 fg_X9_128 rfl dX9_isAtRest_4 ?_
    refine zx_icmp_ge C 51 dX9_isAtRest_7 (by decide) (fun q => ?_) (fun q => ?_)
    · replace h := h.1 q
      refine zx_iconst (v := (1 : Int32)) C dX9_isAtRest_51 (by decide) ?_
      exact zx_zret C hr dX9_isAtRest_52 (Or.inr rfl) h
    · replace h := h.2 q
      refine zx_iload_n C dX9_isAtRest_10 2 rfl ?_
      refine zx_iconst (v := (1 : Int32)) C dX9_isAtRest_11 (by decide) ?_
      refine zx_iload_n C dX9_isAtRest_12 3 rfl ?_
      refine zx_ishl C dX9_isAtRest_13 ?_
      refine zx_ixor C dX9_isAtRest_14 ?_
      refine zx_topi (fun x1 ex1 => ?_)
      replace h := h x1 ex1
      refine zx_istore (lv' := [(4, .int x1), (0, .ref (g 0)), (1, .ref (g q_1)), (2, .int x_2), (3, .int x_3)]) C dX9_isAtRest_15 (by decide) rfl ?_
      refine zx_aload_n C dX9_isAtRest_17 1 rfl ?_
      refine zx_getR C zs_0 fg_X9_73 rfl 222 rfl dX9_isAtRest_18 ?_
      refine zx_iload C dX9_isAtRest_21 0 rfl ?_
      refine zx_bipush (v := (6 : Int32)) C dX9_isAtRest_23 (by decide) ?_
      refine zx_imul C dX9_isAtRest_25 ?_
      refine zx_iload_n C dX9_isAtRest_26 4 rfl ?_
      refine zx_iadd C dX9_isAtRest_27 ?_
      obtain ⟨bd2, h⟩ := h
      refine zx_iald C (((x1 * (6 : Int32)) + x_3)).toNatClampNeg zs_222 bd2 rfl dX9_isAtRest_28 ?_
      refine zx_aload_n C dX9_isAtRest_29 1 rfl ?_
      refine zx_getR C zs_0 fg_X9_73 rfl 222 rfl dX9_isAtRest_30 ?_
      refine zx_iload_n C dX9_isAtRest_33 3 rfl ?_
      refine zx_bipush (v := (6 : Int32)) C dX9_isAtRest_34 (by decide) ?_
      refine zx_imul C dX9_isAtRest_36 ?_
      refine zx_iload_n C dX9_isAtRest_37 4 rfl ?_
      refine zx_iadd C dX9_isAtRest_38 ?_
      obtain ⟨bd3, h⟩ := h
      refine zx_iald C (((x_2 * (6 : Int32)) + x_3)).toNatClampNeg zs_222 bd3 rfl dX9_isAtRest_39 ?_
      refine zx_icmp_le C 45 dX9_isAtRest_40 (by decide) (fun q => ?_) (fun q => ?_)
      · replace h := h.1 q
        obtain ⟨x4, ex4⟩ : ∃ y : Int32, y = (x_3 + (1 : Int32)) := ⟨_, rfl⟩
        replace h := h x4 ex4
        refine zx_iinc (v := x4) (lv' := [(3, .int x4), (4, .int x1), (0, .ref (g 0)), (1, .ref (g q_1)), (2, .int x_2)]) C dX9_isAtRest_45 4 rfl (by rw [ex4]; rfl) (by decide) rfl ?_
        refine zx_goto C 2 dX9_isAtRest_48 (by decide) ?_
        refine zx_lv (lv' := [(0, .ref (g 0)), (1, .ref (g q_1)), (2, .int x_2), (3, .int x4)]) [2, 3, 4, 0] rfl ?_
        exact ih x4 σ h
      · replace h := h.2 q
        refine zx_iconst (v := (0 : Int32)) C dX9_isAtRest_43 (by decide) ?_
        exact zx_zret C hr dX9_isAtRest_44 (Or.inl rfl) h
set_option maxRecDepth 100000 in
set_option maxHeartbeats 4000000 in
theorem c_X9_isAtRest (l : Launch) (D : va_G) (cy : Nat → ClassId) (g : Nat → Nat) (b1 : Nat) (a2 : Int32) (hb1 : zIsLine b1) (σ : zSto) {P : Int32 → zSto → Prop} (h : w_X9_isAtRest b1 a2 σ P) : zMb l yX9_isAtRest cX9_isAtRest 5 (some .boolean) (zrm 0 0) D cy g [.ref (g 0), .ref (g b1), .int a2] σ P := by
  unfold w_X9_isAtRest at h
  refine zm_b RX9 rfl (by decide +kernel) (Nat.le_of_ble_eq_true rfl) ?_
  intro p e s m below meth c C hr
  refine zx_lv (lv' := [(0, .ref (g 0)), (1, .ref (g b1)), (2, .int a2)]) [0, 1, 2] rfl ?_
  refine zx_iconst (v := (0 : Int32)) C dX9_isAtRest_0 (by decide) ?_
  refine zx_istore_n (lv' := [(3, .int (0 : Int32)), (0, .ref (g 0)), (1, .ref (g b1)), (2, .int a2)]) C dX9_isAtRest_1 (by decide) rfl ?_
  obtain ⟨n, h⟩ := h
  refine zx_lv (lv' := [(0, .ref (g 0)), (1, .ref (g b1)), (2, .int a2), (3, .int (0 : Int32))]) [1, 2, 3, 0] rfl ?_
  exact k_X9_isAtRest_2 C hr (b1) (a2) hb1  n (0 : Int32) σ h
theorem lk_X9_265 : zLV RX9 265 RX9 yX9_fillGains cX9_fillGains 4 none 2 := zLV_of ml_X9_265 im_X9_fillGains se_X9_fillGains ini_X9 cd_X9_fillGains (by decide +kernel)
theorem lk_X9_272 : zLV RX9 272 RX9 yX9_isAtRest cX9_isAtRest 5 (some .boolean) 2 := zLV_of ml_X9_272 im_X9_isAtRest se_X9_isAtRest ini_X9 cd_X9_isAtRest (by decide +kernel)
def w_X9_rest_43 (x_3 : Int32) (q_4 : Nat) (P : Int32 → zSto → Prop)  : Nat → Int32 → Int32 → zSto → Prop
  | 0, _, _, _ => False
  | n + 1, x_5, x_6, σ => (w_X0_riderSets q_4 σ (fun (r8 : Int32) (σ7 : zSto) => ((r8 ≤ x_6 → ((¬ x_3 = (-1 : Int32) → P (-2 : Int32) σ7) ∧ (x_3 = (-1 : Int32) → P x_5 σ7))) ∧ (¬ r8 ≤ x_6 → (w_X9_isAtRest q_4 x_6 σ7 (fun (r10 : Int32) (σ9 : zSto) => (r10 = 0 ∨ r10 = 1) → ((r10 = 0 → (∀ x11 : Int32, x11 = (x_6 + (1 : Int32)) → w_X9_rest_43 x_3 q_4 P n x_5 x11 σ9)) ∧ (¬ r10 = 0 → ((¬ x_5 = x_3 → (∀ x12 : Int32, x12 = (x_5 + (1 : Int32)) → (∀ x13 : Int32, x13 = (x_6 + (1 : Int32)) → w_X9_rest_43 x_3 q_4 P n x12 x13 σ9))) ∧ (x_5 = x_3 → P x_6 σ9))))))))))
def w_X9_rest (a1 : Int32) (a2 : Int32) (a3 : Int32) (σ : zSto) (P : Int32 → zSto → Prop) : Prop := (w_X8_lineAt 1 a1 σ (fun (q2 : Option Nat) (σ1 : zSto) => ((q2 = none → P (-2 : Int32) σ1) ∧ (∀ j3 : Nat, q2 = some j3 → zIsLine j3 ∧ (w_X9_isWeek a2 σ1 (fun (r5 : Int32) (σ4 : zSto) => (r5 = 0 ∨ r5 = 1) → ((r5 = 0 → P (-2 : Int32) σ4) ∧ (¬ r5 = 0 → (((-1 : Int32) ≤ a3 → (w_X9_fillGains j3 a2 σ4 (fun (σ6 : zSto) => (∃ n : Nat, w_X9_rest_43 a3 j3 P  n (0 : Int32) (0 : Int32) σ6)))) ∧ (¬ (-1 : Int32) ≤ a3 → P (-2 : Int32) σ4))))))))))
set_option maxRecDepth 100000 in
set_option maxHeartbeats 4000000 in
theorem k_X9_rest_43 {p : Program} {l : Launch} {e : Env} {s : State} {m : MethodId} {args : Array Value} {below : List Frame} {meth : Method} {c : Code} {D : va_G} {cy : Nat → ClassId} {g : Nat → Nat} (C : zC p s m args meth c cX9_rest RX9 7 D cy g) (hr : meth.sig.returnType = (some .int)) {P : Int32 → zSto → Prop} (x_3 : Int32) (q_4 : Nat) (hq_4 : zIsLine q_4)   : ∀ (n : Nat) (x_5 : Int32) (x_6 : Int32) (σ : zSto), w_X9_rest_43 x_3 q_4 P n x_5 x_6 σ → zX p l e (zrm 5 159) s m args below meth c 0 0 (zQi P below args s D cy g) 7 D cy g 43 [(0, .ref (g 0)), (3, .int x_3), (4, .ref (g q_4)), (5, .int x_5), (6, .int x_6)] [] σ := by
  intro n
  induction n with
  | zero => intro x_5 x_6 σ h; exact h.elim
  | succ n ih =>
    intro x_5 x_6 σ h
    unfold w_X9_rest_43 at h
    refine zx_iload C dX9_rest_43 4 rfl ?_
    refine zx_aload C dX9_rest_45 2 rfl ?_
    refine zx_cVi C [] lk_X9_269 (c_X0_riderSets l D cy g q_4 hq_4 σ h) hq_4.1 rfl ⟨by decide, by decide⟩ ⟨rfl, rfl⟩ ⟨Nat.zero_le _, Nat.zero_le _⟩ rfl rfl (Nat.le_of_ble_eq_true rfl) dX9_rest_47 (fun r8 σ7 h => ?_)
    refine zx_icmp_ge C 82 dX9_rest_50 (by decide) (fun q => ?_) (fun q => ?_)
    · replace h := h.1 q
      refine zx_iload_n C dX9_rest_82 1 rfl ?_
      refine zx_iconst (v := (-1 : Int32)) C dX9_rest_83 (by decide) ?_
      refine zx_icmp_ne C 92 dX9_rest_84 (by decide) (fun q => ?_) (fun q => ?_)
      · replace h := h.1 q
        refine zx_bipush (v := (-2 : Int32)) C dX9_rest_92 (by decide) ?_
        exact zx_iret C hr dX9_rest_94 h
      · replace h := h.2 q
        refine zx_iload C dX9_rest_87 3 rfl ?_
        refine zx_goto C 94 dX9_rest_89 (by decide) ?_
        exact zx_iret C hr dX9_rest_94 h
    · replace h := h.2 q
      refine zx_aload_n C dX9_rest_53 0 rfl ?_
      refine zx_aload C dX9_rest_54 2 rfl ?_
      refine zx_iload C dX9_rest_56 4 rfl ?_
      refine zx_cVb C [.ref (g q_4), .int x_6] lk_X9_272 (c_X9_isAtRest l D cy g q_4 x_6 hq_4 σ7 h) zs_0 rfl ⟨by decide, by decide⟩ ⟨rfl, rfl⟩ ⟨Nat.zero_le _, Nat.zero_le _⟩ rfl rfl (Nat.le_of_ble_eq_true rfl) dX9_rest_58 (fun r10 σ9 hb h => ?_)
      replace h := h hb
      refine zx_if_eq C 76 dX9_rest_61 (by decide) (fun q => ?_) (fun q => ?_)
      · replace h := h.1 q
        obtain ⟨x11, ex11⟩ : ∃ y : Int32, y = (x_6 + (1 : Int32)) := ⟨_, rfl⟩
        replace h := h x11 ex11
        refine zx_iinc (v := x11) (lv' := [(6, .int x11), (0, .ref (g 0)), (3, .int x_3), (4, .ref (g q_4)), (5, .int x_5)]) C dX9_rest_76 4 rfl (by rw [ex11]; rfl) (by decide) rfl ?_
        refine zx_goto C 43 dX9_rest_79 (by decide) ?_
        refine zx_lv (lv' := [(0, .ref (g 0)), (3, .int x_3), (4, .ref (g q_4)), (5, .int x_5), (6, .int x11)]) [1, 2, 3, 4, 0] rfl ?_
        exact ih x_5 x11 σ9 h
      · replace h := h.2 q
        refine zx_iload C dX9_rest_64 3 rfl ?_
        refine zx_iload_n C dX9_rest_66 1 rfl ?_
        refine zx_icmp_ne C 73 dX9_rest_67 (by decide) (fun q => ?_) (fun q => ?_)
        · replace h := h.1 q
          obtain ⟨x12, ex12⟩ : ∃ y : Int32, y = (x_5 + (1 : Int32)) := ⟨_, rfl⟩
          replace h := h x12 ex12
          refine zx_iinc (v := x12) (lv' := [(5, .int x12), (0, .ref (g 0)), (3, .int x_3), (4, .ref (g q_4)), (6, .int x_6)]) C dX9_rest_73 3 rfl (by rw [ex12]; rfl) (by decide) rfl ?_
          obtain ⟨x13, ex13⟩ : ∃ y : Int32, y = (x_6 + (1 : Int32)) := ⟨_, rfl⟩
          replace h := h x13 ex13
          refine zx_iinc (v := x13) (lv' := [(6, .int x13), (5, .int x12), (0, .ref (g 0)), (3, .int x_3), (4, .ref (g q_4))]) C dX9_rest_76 4 rfl (by rw [ex13]; rfl) (by decide) rfl ?_
          refine zx_goto C 43 dX9_rest_79 (by decide) ?_
          refine zx_lv (lv' := [(0, .ref (g 0)), (3, .int x_3), (4, .ref (g q_4)), (5, .int x12), (6, .int x13)]) [2, 3, 4, 1, 0] rfl ?_
          exact ih x12 x13 σ9 h
        · replace h := h.2 q
          refine zx_iload C dX9_rest_70 4 rfl ?_
          exact zx_iret C hr dX9_rest_72 h
set_option maxRecDepth 100000 in
set_option maxHeartbeats 4000000 in
theorem c_X9_rest (l : Launch) (D : va_G) (cy : Nat → ClassId) (g : Nat → Nat) (a1 : Int32) (a2 : Int32) (a3 : Int32)  (σ : zSto) {P : Int32 → zSto → Prop} (h : w_X9_rest a1 a2 a3 σ P) : zMi l yX9_rest cX9_rest 7 (some .int) (zrm 5 159) D cy g [.ref (g 0), .int a1, .int a2, .int a3] σ P := by
  unfold w_X9_rest at h
  refine zm_i RX9 rfl (by decide +kernel) (Nat.le_of_ble_eq_true rfl) ?_
  intro p e s m below meth c C hr
  refine zx_lv (lv' := [(0, .ref (g 0)), (1, .int a1), (2, .int a2), (3, .int a3)]) [0, 1, 2, 3] rfl ?_
  refine zx_aload_n C dX9_rest_0 0 rfl ?_
  refine zx_getR C zs_0 fg_X9_12 rfl 1 rfl dX9_rest_1 ?_
  refine zx_iload_n C dX9_rest_4 1 rfl ?_
  refine zx_cVq C [.int a1] lk_X9_121 (c_X8_lineAt l D cy g 1 a1 zIsState_1 σ h) zIsState_1.1 rfl ⟨by decide, by decide⟩ ⟨rfl, rfl⟩ ⟨Nat.zero_le _, Nat.zero_le _⟩ rfl rfl (Nat.le_of_ble_eq_true rfl) dX9_rest_5 (fun σ1 h => ?_) (fun j3 σ1 h => ?_)
  · replace h := h.1 rfl
    refine zx_astoreN (lv' := [(4, .null), (0, .ref (g 0)), (1, .int a1), (2, .int a2), (3, .int a3)]) C dX9_rest_8 (by decide) rfl ?_
    refine zx_aloadN C dX9_rest_10 0 rfl ?_
    refine zx_ifnullN C 27 dX9_rest_12 (by decide) ?_
    refine zx_bipush (v := (-2 : Int32)) C dX9_rest_27 (by decide) ?_
    exact zx_iret C hr dX9_rest_29 h
  · obtain ⟨hj3, h⟩ := h.2 j3 rfl
    refine zx_astore (lv' := [(4, .ref (g j3)), (0, .ref (g 0)), (1, .int a1), (2, .int a2), (3, .int a3)]) C dX9_rest_8 (by decide) rfl ?_
    refine zx_aload C dX9_rest_10 0 rfl ?_
    refine zx_ifnull C dX9_rest_12 ?_
    refine zx_iload_n C dX9_rest_15 3 rfl ?_
    refine zx_cSb C [.int a2] lk_X9_254 (c_X9_isWeek l D cy g a2  σ1 h) ⟨by decide, by decide⟩ ⟨rfl, rfl⟩ ⟨Nat.zero_le _, Nat.zero_le _⟩ rfl rfl (Nat.le_of_ble_eq_true rfl) dX9_rest_16 (fun r5 σ4 hb h => ?_)
    replace h := h hb
    refine zx_if_eq C 27 dX9_rest_19 (by decide) (fun q => ?_) (fun q => ?_)
    · replace h := h.1 q
      refine zx_bipush (v := (-2 : Int32)) C dX9_rest_27 (by decide) ?_
      exact zx_iret C hr dX9_rest_29 h
    · replace h := h.2 q
      refine zx_iload_n C dX9_rest_22 4 rfl ?_
      refine zx_iconst (v := (-1 : Int32)) C dX9_rest_23 (by decide) ?_
      refine zx_icmp_ge C 30 dX9_rest_24 (by decide) (fun q => ?_) (fun q => ?_)
      · replace h := h.1 q
        refine zx_aload_n C dX9_rest_30 1 rfl ?_
        refine zx_aload C dX9_rest_31 0 rfl ?_
        refine zx_iload_n C dX9_rest_33 3 rfl ?_
        refine zx_cVv C [.ref (g j3), .int a2] lk_X9_265 (c_X9_fillGains l D cy g j3 a2 hj3 σ4 h) zs_0 rfl ⟨by decide, by decide⟩ ⟨rfl, rfl⟩ ⟨Nat.zero_le _, Nat.zero_le _⟩ rfl rfl (Nat.le_of_ble_eq_true rfl) dX9_rest_34 (fun σ6 h => ?_)
        refine zx_iconst (v := (0 : Int32)) C dX9_rest_37 (by decide) ?_
        refine zx_istore (lv' := [(5, .int (0 : Int32)), (4, .ref (g j3)), (0, .ref (g 0)), (1, .int a1), (2, .int a2), (3, .int a3)]) C dX9_rest_38 (by decide) rfl ?_
        refine zx_iconst (v := (0 : Int32)) C dX9_rest_40 (by decide) ?_
        refine zx_istore (lv' := [(6, .int (0 : Int32)), (5, .int (0 : Int32)), (4, .ref (g j3)), (0, .ref (g 0)), (1, .int a1), (2, .int a2), (3, .int a3)]) C dX9_rest_41 (by decide) rfl ?_
        obtain ⟨n, h⟩ := h
        refine zx_lv (lv' := [(0, .ref (g 0)), (3, .int a3), (4, .ref (g j3)), (5, .int (0 : Int32)), (6, .int (0 : Int32))]) [3, 6, 2, 1, 0] rfl ?_
        exact k_X9_rest_43 C hr (a3) (j3) hj3  n (0 : Int32) (0 : Int32) σ6 h
      · replace h := h.2 q
        refine zx_bipush (v := (-2 : Int32)) C dX9_rest_27 (by decide) ?_
        exact zx_iret C hr dX9_rest_29 h
def w_X9_gain (a1 : Int32) (a2 : Int32) (a3 : Int32) (a4 : Int32) (σ : zSto) (P : Int32 → zSto → Prop) : Prop := (w_X8_lineAt 1 a1 σ (fun (q2 : Option Nat) (σ1 : zSto) => ((q2 = none → P (-1000000 : Int32) σ1) ∧ (∀ j3 : Nat, q2 = some j3 → zIsLine j3 ∧ (w_X9_isWeek a2 σ1 (fun (r5 : Int32) (σ4 : zSto) => (r5 = 0 ∨ r5 = 1) → ((r5 = 0 → P (-1000000 : Int32) σ4) ∧ (¬ r5 = 0 → (w_X0_hasRider j3 a4 σ4 (fun (r7 : Int32) (σ6 : zSto) => (r7 = 0 ∨ r7 = 1) → ((¬ r7 = 0 → ((a3 < 0 → P (-1000000 : Int32) σ6) ∧ (¬ a3 < 0 → (w_X0_riderSets j3 σ6 (fun (r9 : Int32) (σ8 : zSto) => ((a3 < r9 → (w_X5_byLaw j3 (0 : Int32) (0 : Int32) a2 a3 σ8 (fun (σ10 : zSto) => (w_X5_gainOf j3 a4 σ10 (fun (r12 : Int32) (σ11 : zSto) => P r12 σ11))))) ∧ (¬ a3 < r9 → P (-1000000 : Int32) σ8))))))) ∧ (r7 = 0 → P (-1000000 : Int32) σ6))))))))))))
set_option maxRecDepth 100000 in
set_option maxHeartbeats 4000000 in
theorem c_X9_gain (l : Launch) (D : va_G) (cy : Nat → ClassId) (g : Nat → Nat) (a1 : Int32) (a2 : Int32) (a3 : Int32) (a4 : Int32)  (σ : zSto) {P : Int32 → zSto → Prop} (h : w_X9_gain a1 a2 a3 a4 σ P) : zMi l yX9_gain cX9_gain 6 (some .int) (zrm 4 136) D cy g [.ref (g 0), .int a1, .int a2, .int a3, .int a4] σ P := by
  unfold w_X9_gain at h
  refine zm_i RX9 rfl (by decide +kernel) (Nat.le_of_ble_eq_true rfl) ?_
  intro p e s m below meth c C hr
  refine zx_lv (lv' := [(0, .ref (g 0)), (1, .int a1), (2, .int a2), (3, .int a3), (4, .int a4)]) [0, 1, 2, 3, 4] rfl ?_
  refine zx_aload_n C dX9_gain_0 0 rfl ?_
  refine zx_getR C zs_0 fg_X9_12 rfl 1 rfl dX9_gain_1 ?_
  refine zx_iload_n C dX9_gain_4 1 rfl ?_
  refine zx_cVq C [.int a1] lk_X9_121 (c_X8_lineAt l D cy g 1 a1 zIsState_1 σ h) zIsState_1.1 rfl ⟨by decide, by decide⟩ ⟨rfl, rfl⟩ ⟨Nat.zero_le _, Nat.zero_le _⟩ rfl rfl (Nat.le_of_ble_eq_true rfl) dX9_gain_5 (fun σ1 h => ?_) (fun j3 σ1 h => ?_)
  · replace h := h.1 rfl
    refine zx_astoreN (lv' := [(5, .null), (0, .ref (g 0)), (1, .int a1), (2, .int a2), (3, .int a3), (4, .int a4)]) C dX9_gain_8 (by decide) rfl ?_
    refine zx_aloadN C dX9_gain_10 0 rfl ?_
    refine zx_ifnullN C 32 dX9_gain_12 (by decide) ?_
    refine zx_ldcw C dX9_gain_32 co_X9_276 ?_
    exact zx_iret C hr dX9_gain_35 h
  · obtain ⟨hj3, h⟩ := h.2 j3 rfl
    refine zx_astore (lv' := [(5, .ref (g j3)), (0, .ref (g 0)), (1, .int a1), (2, .int a2), (3, .int a3), (4, .int a4)]) C dX9_gain_8 (by decide) rfl ?_
    refine zx_aload C dX9_gain_10 0 rfl ?_
    refine zx_ifnull C dX9_gain_12 ?_
    refine zx_iload_n C dX9_gain_15 3 rfl ?_
    refine zx_cSb C [.int a2] lk_X9_254 (c_X9_isWeek l D cy g a2  σ1 h) ⟨by decide, by decide⟩ ⟨rfl, rfl⟩ ⟨Nat.zero_le _, Nat.zero_le _⟩ rfl rfl (Nat.le_of_ble_eq_true rfl) dX9_gain_16 (fun r5 σ4 hb h => ?_)
    replace h := h hb
    refine zx_if_eq C 32 dX9_gain_19 (by decide) (fun q => ?_) (fun q => ?_)
    · replace h := h.1 q
      refine zx_ldcw C dX9_gain_32 co_X9_276 ?_
      exact zx_iret C hr dX9_gain_35 h
    · replace h := h.2 q
      refine zx_aload C dX9_gain_22 0 rfl ?_
      refine zx_iload C dX9_gain_24 5 rfl ?_
      refine zx_cVb C [.int a4] lk_X9_174 (c_X0_hasRider l D cy g j3 a4 hj3 σ4 h) hj3.1 rfl ⟨by decide, by decide⟩ ⟨rfl, rfl⟩ ⟨Nat.zero_le _, Nat.zero_le _⟩ rfl rfl (Nat.le_of_ble_eq_true rfl) dX9_gain_26 (fun r7 σ6 hb h => ?_)
      replace h := h hb
      refine zx_if_ne C 36 dX9_gain_29 (by decide) (fun q => ?_) (fun q => ?_)
      · replace h := h.1 q
        refine zx_iload_n C dX9_gain_36 4 rfl ?_
        refine zx_if_lt C 49 dX9_gain_37 (by decide) (fun q => ?_) (fun q => ?_)
        · replace h := h.1 q
          refine zx_ldcw C dX9_gain_49 co_X9_276 ?_
          exact zx_iret C hr dX9_gain_52 h
        · replace h := h.2 q
          refine zx_iload_n C dX9_gain_40 4 rfl ?_
          refine zx_aload C dX9_gain_41 0 rfl ?_
          refine zx_cVi C [] lk_X9_269 (c_X0_riderSets l D cy g j3 hj3 σ6 h) hj3.1 rfl ⟨by decide, by decide⟩ ⟨rfl, rfl⟩ ⟨Nat.zero_le _, Nat.zero_le _⟩ rfl rfl (Nat.le_of_ble_eq_true rfl) dX9_gain_43 (fun r9 σ8 h => ?_)
          refine zx_icmp_lt C 53 dX9_gain_46 (by decide) (fun q => ?_) (fun q => ?_)
          · replace h := h.1 q
            refine zx_aload_n C dX9_gain_53 1 rfl ?_
            refine zx_getR C zs_0 fg_X9_34 rfl 190 rfl dX9_gain_54 ?_
            refine zx_aload C dX9_gain_57 0 rfl ?_
            refine zx_iconst (v := (0 : Int32)) C dX9_gain_59 (by decide) ?_
            refine zx_iconst (v := (0 : Int32)) C dX9_gain_60 (by decide) ?_
            refine zx_iload_n C dX9_gain_61 3 rfl ?_
            refine zx_iload_n C dX9_gain_62 4 rfl ?_
            refine zx_cVv C [.ref (g j3), .int (0 : Int32), .int (0 : Int32), .int a2, .int a3] lk_X9_261 (c_X5_byLaw l D cy g j3 (0 : Int32) (0 : Int32) a2 a3 hj3 σ8 h) zs_190 rfl ⟨by decide, by decide⟩ ⟨rfl, rfl⟩ ⟨Nat.zero_le _, Nat.zero_le _⟩ rfl rfl (Nat.le_of_ble_eq_true rfl) dX9_gain_63 (fun σ10 h => ?_)
            refine zx_aload_n C dX9_gain_66 1 rfl ?_
            refine zx_getR C zs_0 fg_X9_34 rfl 190 rfl dX9_gain_67 ?_
            refine zx_aload C dX9_gain_70 0 rfl ?_
            refine zx_iload C dX9_gain_72 5 rfl ?_
            refine zx_cVi C [.ref (g j3), .int a4] lk_X9_277 (c_X5_gainOf l D cy g j3 a4 hj3 σ10 h) zs_190 rfl ⟨by decide, by decide⟩ ⟨rfl, rfl⟩ ⟨Nat.zero_le _, Nat.zero_le _⟩ rfl rfl (Nat.le_of_ble_eq_true rfl) dX9_gain_74 (fun r12 σ11 h => ?_)
            exact zx_iret C hr dX9_gain_77 h
          · replace h := h.2 q
            refine zx_ldcw C dX9_gain_49 co_X9_276 ?_
            exact zx_iret C hr dX9_gain_52 h
      · replace h := h.2 q
        refine zx_ldcw C dX9_gain_32 co_X9_276 ?_
        exact zx_iret C hr dX9_gain_35 h
def w_X9_isCalm (b1 : Nat) (a2 : Int32) (a3 : Int32) (a4 : Int32) (σ : zSto) (P : Int32 → zSto → Prop) : Prop := (w_X5_byLaw b1 (0 : Int32) (0 : Int32) a2 (a4 ^^^ (-1 : Int32)) σ (fun (σ1 : zSto) => ((¬ a3 = (-1 : Int32) → ((a3 < (σ1.1 190 8) → P (0 : Int32) σ1) ∧ (¬ a3 < (σ1.1 190 8) → P (1 : Int32) σ1))) ∧ (a3 = (-1 : Int32) → ((¬ (σ1.1 190 11) = (-1 : Int32) → P (0 : Int32) σ1) ∧ ((σ1.1 190 11) = (-1 : Int32) → P (1 : Int32) σ1))))))
set_option maxRecDepth 100000 in
set_option maxHeartbeats 4000000 in
theorem c_X9_isCalm (l : Launch) (D : va_G) (cy : Nat → ClassId) (g : Nat → Nat) (b1 : Nat) (a2 : Int32) (a3 : Int32) (a4 : Int32) (hb1 : zIsLine b1) (σ : zSto) {P : Int32 → zSto → Prop} (h : w_X9_isCalm b1 a2 a3 a4 σ P) : zMb l yX9_isCalm cX9_isCalm 5 (some .boolean) (zrm 4 136) D cy g [.ref (g 0), .ref (g b1), .int a2, .int a3, .int a4] σ P := by
  unfold w_X9_isCalm at h
  refine zm_b RX9 rfl (by decide +kernel) (Nat.le_of_ble_eq_true rfl) ?_
  intro p e s m below meth c C hr
  refine zx_lv (lv' := [(0, .ref (g 0)), (1, .ref (g b1)), (2, .int a2), (3, .int a3), (4, .int a4)]) [0, 1, 2, 3, 4] rfl ?_
  refine zx_aload_n C dX9_isCalm_0 0 rfl ?_
  refine zx_getR C zs_0 fg_X9_34 rfl 190 rfl dX9_isCalm_1 ?_
  refine zx_aload_n C dX9_isCalm_4 1 rfl ?_
  refine zx_iconst (v := (0 : Int32)) C dX9_isCalm_5 (by decide) ?_
  refine zx_iconst (v := (0 : Int32)) C dX9_isCalm_6 (by decide) ?_
  refine zx_iload_n C dX9_isCalm_7 2 rfl ?_
  refine zx_iload C dX9_isCalm_8 4 rfl ?_
  refine zx_iconst (v := (-1 : Int32)) C dX9_isCalm_10 (by decide) ?_
  refine zx_ixor C dX9_isCalm_11 ?_
  refine zx_cVv C [.ref (g b1), .int (0 : Int32), .int (0 : Int32), .int a2, .int (a4 ^^^ (-1 : Int32))] lk_X9_261 (c_X5_byLaw l D cy g b1 (0 : Int32) (0 : Int32) a2 (a4 ^^^ (-1 : Int32)) hb1 σ h) zs_190 rfl ⟨by decide, by decide⟩ ⟨rfl, rfl⟩ ⟨Nat.zero_le _, Nat.zero_le _⟩ rfl rfl (Nat.le_of_ble_eq_true rfl) dX9_isCalm_12 (fun σ1 h => ?_)
  refine zx_iload_n C dX9_isCalm_15 3 rfl ?_
  refine zx_iconst (v := (-1 : Int32)) C dX9_isCalm_16 (by decide) ?_
  refine zx_icmp_ne C 39 dX9_isCalm_17 (by decide) (fun q => ?_) (fun q => ?_)
  · replace h := h.1 q
    refine zx_aload_n C dX9_isCalm_39 0 rfl ?_
    refine zx_getR C zs_0 fg_X9_34 rfl 190 rfl dX9_isCalm_40 ?_
    refine zx_getI C zs_190 fg_X9_223 rfl dX9_isCalm_43 ?_
    refine zx_iload_n C dX9_isCalm_46 3 rfl ?_
    refine zx_icmp_gt C 54 dX9_isCalm_47 (by decide) (fun q => ?_) (fun q => ?_)
    · replace h := h.1 q
      refine zx_iconst (v := (0 : Int32)) C dX9_isCalm_54 (by decide) ?_
      exact zx_zret C hr dX9_isCalm_55 (Or.inl rfl) h
    · replace h := h.2 q
      refine zx_iconst (v := (1 : Int32)) C dX9_isCalm_50 (by decide) ?_
      refine zx_goto C 55 dX9_isCalm_51 (by decide) ?_
      exact zx_zret C hr dX9_isCalm_55 (Or.inr rfl) h
  · replace h := h.2 q
    refine zx_aload_n C dX9_isCalm_20 0 rfl ?_
    refine zx_getR C zs_0 fg_X9_34 rfl 190 rfl dX9_isCalm_21 ?_
    refine zx_getI C zs_190 fg_X9_233 rfl dX9_isCalm_24 ?_
    refine zx_iconst (v := (-1 : Int32)) C dX9_isCalm_27 (by decide) ?_
    refine zx_icmp_ne C 35 dX9_isCalm_28 (by decide) (fun q => ?_) (fun q => ?_)
    · replace h := h.1 q
      refine zx_iconst (v := (0 : Int32)) C dX9_isCalm_35 (by decide) ?_
      refine zx_goto C 55 dX9_isCalm_36 (by decide) ?_
      exact zx_zret C hr dX9_isCalm_55 (Or.inl rfl) h
    · replace h := h.2 q
      refine zx_iconst (v := (1 : Int32)) C dX9_isCalm_31 (by decide) ?_
      refine zx_goto C 55 dX9_isCalm_32 (by decide) ?_
      exact zx_zret C hr dX9_isCalm_55 (Or.inr rfl) h
theorem lk_X9_280 : zLS RX9 280 yJ6_bitCount_0f7a4 cJ6_bitCount_0f7a4 1 (some .int) 1 := zLS_of ml_X9_280 st_J6_bitCount_0f7a4 ini_J6 cd_J6_bitCount_0f7a4 (by decide +kernel)
theorem lk_X9_285 : zLV RX9 285 RX9 yX9_isCalm cX9_isCalm 5 (some .boolean) 4 := zLV_of ml_X9_285 im_X9_isCalm se_X9_isCalm ini_X9 cd_X9_isCalm (by decide +kernel)
def w_X9_calm_51 (x_2 : Int32) (x_3 : Int32) (q_4 : Nat) (P : Int32 → zSto → Prop)  : Nat → Int32 → Int32 → Int32 → zSto → Prop
  | 0, _, _, _, _ => False
  | n + 1, x_5, x_6, x_7, σ => (w_X0_riderSets q_4 σ (fun (r8 : Int32) (σ7 : zSto) => ((r8 ≤ x_7 → P x_6 σ7) ∧ (¬ r8 ≤ x_7 → (w_J6_bitCount_0f7a4 x_7 σ7 (fun (r10 : Int32) (σ9 : zSto) => ((x_5 ≤ r10 → (∀ x11 : Int32, x11 = (x_7 + (1 : Int32)) → w_X9_calm_51 x_2 x_3 q_4 P n x_5 x_6 x11 σ9)) ∧ (¬ x_5 ≤ r10 → (w_X9_isCalm q_4 x_2 x_3 x_7 σ9 (fun (r13 : Int32) (σ12 : zSto) => (r13 = 0 ∨ r13 = 1) → ((r13 = 0 → (∀ x14 : Int32, x14 = (x_7 + (1 : Int32)) → w_X9_calm_51 x_2 x_3 q_4 P n x_5 x_6 x14 σ12)) ∧ (¬ r13 = 0 → (w_J6_bitCount_0f7a4 x_7 σ12 (fun (r16 : Int32) (σ15 : zSto) => (∀ x17 : Int32, x17 = (x_7 + (1 : Int32)) → w_X9_calm_51 x_2 x_3 q_4 P n r16 x_7 x17 σ15)))))))))))))))
def w_X9_calm (a1 : Int32) (a2 : Int32) (a3 : Int32) (σ : zSto) (P : Int32 → zSto → Prop) : Prop := (w_X8_lineAt 1 a1 σ (fun (q2 : Option Nat) (σ1 : zSto) => ((q2 = none → P (-1 : Int32) σ1) ∧ (∀ j3 : Nat, q2 = some j3 → zIsLine j3 ∧ (w_X9_isWeek a2 σ1 (fun (r5 : Int32) (σ4 : zSto) => (r5 = 0 ∨ r5 = 1) → ((r5 = 0 → P (-1 : Int32) σ4) ∧ (¬ r5 = 0 → ((a3 < (-1 : Int32) → P (-1 : Int32) σ4) ∧ (¬ a3 < (-1 : Int32) → ((a3 ≤ (999 : Int32) → (∀ x6 : Int32, x6 = ((σ4.1 j3 12) + (1 : Int32)) → (∃ n : Nat, w_X9_calm_51 a2 a3 j3 P  n x6 (-1 : Int32) (0 : Int32) σ4))) ∧ (¬ a3 ≤ (999 : Int32) → P (-1 : Int32) σ4))))))))))))
set_option maxRecDepth 100000 in
set_option maxHeartbeats 4000000 in
theorem k_X9_calm_51 {p : Program} {l : Launch} {e : Env} {s : State} {m : MethodId} {args : Array Value} {below : List Frame} {meth : Method} {c : Code} {D : va_G} {cy : Nat → ClassId} {g : Nat → Nat} (C : zC p s m args meth c cX9_calm RX9 8 D cy g) (hr : meth.sig.returnType = (some .int)) {P : Int32 → zSto → Prop} (x_2 : Int32) (x_3 : Int32) (q_4 : Nat) (hq_4 : zIsLine q_4)   : ∀ (n : Nat) (x_5 : Int32) (x_6 : Int32) (x_7 : Int32) (σ : zSto), w_X9_calm_51 x_2 x_3 q_4 P n x_5 x_6 x_7 σ → zX p l e (zrm 5 160) s m args below meth c 0 0 (zQi P below args s D cy g) 8 D cy g 51 [(0, .ref (g 0)), (2, .int x_2), (3, .int x_3), (4, .ref (g q_4)), (5, .int x_5), (6, .int x_6), (7, .int x_7)] [] σ := by
  intro n
  induction n with
  | zero => intro x_5 x_6 x_7 σ h; exact h.elim
  | succ n ih =>
    intro x_5 x_6 x_7 σ h
    unfold w_X9_calm_51 at h
    refine zx_iload C dX9_calm_51 6 rfl ?_
    refine zx_aload C dX9_calm_53 3 rfl ?_
    refine zx_cVi C [] lk_X9_269 (c_X0_riderSets l D cy g q_4 hq_4 σ h) hq_4.1 rfl ⟨by decide, by decide⟩ ⟨rfl, rfl⟩ ⟨Nat.zero_le _, Nat.zero_le _⟩ rfl rfl (Nat.le_of_ble_eq_true rfl) dX9_calm_55 (fun r8 σ7 h => ?_)
    refine zx_icmp_ge C 101 dX9_calm_58 (by decide) (fun q => ?_) (fun q => ?_)
    · replace h := h.1 q
      refine zx_iload C dX9_calm_101 5 rfl ?_
      exact zx_iret C hr dX9_calm_103 h
    · replace h := h.2 q
      refine zx_iload C dX9_calm_61 6 rfl ?_
      refine zx_cSi C [.int x_7] lk_X9_280 (c_J6_bitCount_0f7a4 l D cy g x_7  σ7 h) ⟨by decide, by decide⟩ ⟨rfl, rfl⟩ ⟨Nat.zero_le _, Nat.zero_le _⟩ rfl rfl (Nat.le_of_ble_eq_true rfl) dX9_calm_63 (fun r10 σ9 h => ?_)
      refine zx_iload C dX9_calm_66 4 rfl ?_
      refine zx_icmp_ge C 95 dX9_calm_68 (by decide) (fun q => ?_) (fun q => ?_)
      · replace h := h.1 q
        obtain ⟨x11, ex11⟩ : ∃ y : Int32, y = (x_7 + (1 : Int32)) := ⟨_, rfl⟩
        replace h := h x11 ex11
        refine zx_iinc (v := x11) (lv' := [(7, .int x11), (0, .ref (g 0)), (2, .int x_2), (3, .int x_3), (4, .ref (g q_4)), (5, .int x_5), (6, .int x_6)]) C dX9_calm_95 6 rfl (by rw [ex11]; rfl) (by decide) rfl ?_
        refine zx_goto C 51 dX9_calm_98 (by decide) ?_
        refine zx_lv (lv' := [(0, .ref (g 0)), (2, .int x_2), (3, .int x_3), (4, .ref (g q_4)), (5, .int x_5), (6, .int x_6), (7, .int x11)]) [1, 2, 3, 4, 5, 6, 0] rfl ?_
        exact ih x_5 x_6 x11 σ9 h
      · replace h := h.2 q
        refine zx_aload_n C dX9_calm_71 0 rfl ?_
        refine zx_aload C dX9_calm_72 3 rfl ?_
        refine zx_iload_n C dX9_calm_74 1 rfl ?_
        refine zx_iload_n C dX9_calm_75 2 rfl ?_
        refine zx_iload C dX9_calm_76 6 rfl ?_
        refine zx_cVb C [.ref (g q_4), .int x_2, .int x_3, .int x_7] lk_X9_285 (c_X9_isCalm l D cy g q_4 x_2 x_3 x_7 hq_4 σ9 h) zs_0 rfl ⟨by decide, by decide⟩ ⟨rfl, rfl⟩ ⟨Nat.zero_le _, Nat.zero_le _⟩ rfl rfl (Nat.le_of_ble_eq_true rfl) dX9_calm_78 (fun r13 σ12 hb h => ?_)
        replace h := h hb
        refine zx_if_eq C 95 dX9_calm_81 (by decide) (fun q => ?_) (fun q => ?_)
        · replace h := h.1 q
          obtain ⟨x14, ex14⟩ : ∃ y : Int32, y = (x_7 + (1 : Int32)) := ⟨_, rfl⟩
          replace h := h x14 ex14
          refine zx_iinc (v := x14) (lv' := [(7, .int x14), (0, .ref (g 0)), (2, .int x_2), (3, .int x_3), (4, .ref (g q_4)), (5, .int x_5), (6, .int x_6)]) C dX9_calm_95 6 rfl (by rw [ex14]; rfl) (by decide) rfl ?_
          refine zx_goto C 51 dX9_calm_98 (by decide) ?_
          refine zx_lv (lv' := [(0, .ref (g 0)), (2, .int x_2), (3, .int x_3), (4, .ref (g q_4)), (5, .int x_5), (6, .int x_6), (7, .int x14)]) [1, 2, 3, 4, 5, 6, 0] rfl ?_
          exact ih x_5 x_6 x14 σ12 h
        · replace h := h.2 q
          refine zx_iload C dX9_calm_84 6 rfl ?_
          refine zx_cSi C [.int x_7] lk_X9_280 (c_J6_bitCount_0f7a4 l D cy g x_7  σ12 h) ⟨by decide, by decide⟩ ⟨rfl, rfl⟩ ⟨Nat.zero_le _, Nat.zero_le _⟩ rfl rfl (Nat.le_of_ble_eq_true rfl) dX9_calm_86 (fun r16 σ15 h => ?_)
          refine zx_istore (lv' := [(5, .int r16), (0, .ref (g 0)), (2, .int x_2), (3, .int x_3), (4, .ref (g q_4)), (6, .int x_6), (7, .int x_7)]) C dX9_calm_89 (by decide) rfl ?_
          refine zx_iload C dX9_calm_91 6 rfl ?_
          refine zx_istore (lv' := [(6, .int x_7), (5, .int r16), (0, .ref (g 0)), (2, .int x_2), (3, .int x_3), (4, .ref (g q_4)), (7, .int x_7)]) C dX9_calm_93 (by decide) rfl ?_
          obtain ⟨x17, ex17⟩ : ∃ y : Int32, y = (x_7 + (1 : Int32)) := ⟨_, rfl⟩
          replace h := h x17 ex17
          refine zx_iinc (v := x17) (lv' := [(7, .int x17), (6, .int x_7), (5, .int r16), (0, .ref (g 0)), (2, .int x_2), (3, .int x_3), (4, .ref (g q_4))]) C dX9_calm_95 6 rfl (by rw [ex17]; rfl) (by decide) rfl ?_
          refine zx_goto C 51 dX9_calm_98 (by decide) ?_
          refine zx_lv (lv' := [(0, .ref (g 0)), (2, .int x_2), (3, .int x_3), (4, .ref (g q_4)), (5, .int r16), (6, .int x_7), (7, .int x17)]) [3, 4, 5, 6, 2, 1, 0] rfl ?_
          exact ih r16 x_7 x17 σ15 h
set_option maxRecDepth 100000 in
set_option maxHeartbeats 4000000 in
theorem c_X9_calm (l : Launch) (D : va_G) (cy : Nat → ClassId) (g : Nat → Nat) (a1 : Int32) (a2 : Int32) (a3 : Int32)  (σ : zSto) {P : Int32 → zSto → Prop} (h : w_X9_calm a1 a2 a3 σ P) : zMi l yX9_calm cX9_calm 8 (some .int) (zrm 5 160) D cy g [.ref (g 0), .int a1, .int a2, .int a3] σ P := by
  unfold w_X9_calm at h
  refine zm_i RX9 rfl (by decide +kernel) (Nat.le_of_ble_eq_true rfl) ?_
  intro p e s m below meth c C hr
  refine zx_lv (lv' := [(0, .ref (g 0)), (1, .int a1), (2, .int a2), (3, .int a3)]) [0, 1, 2, 3] rfl ?_
  refine zx_aload_n C dX9_calm_0 0 rfl ?_
  refine zx_getR C zs_0 fg_X9_12 rfl 1 rfl dX9_calm_1 ?_
  refine zx_iload_n C dX9_calm_4 1 rfl ?_
  refine zx_cVq C [.int a1] lk_X9_121 (c_X8_lineAt l D cy g 1 a1 zIsState_1 σ h) zIsState_1.1 rfl ⟨by decide, by decide⟩ ⟨rfl, rfl⟩ ⟨Nat.zero_le _, Nat.zero_le _⟩ rfl rfl (Nat.le_of_ble_eq_true rfl) dX9_calm_5 (fun σ1 h => ?_) (fun j3 σ1 h => ?_)
  · replace h := h.1 rfl
    refine zx_astoreN (lv' := [(4, .null), (0, .ref (g 0)), (1, .int a1), (2, .int a2), (3, .int a3)]) C dX9_calm_8 (by decide) rfl ?_
    refine zx_aloadN C dX9_calm_10 0 rfl ?_
    refine zx_ifnullN C 34 dX9_calm_12 (by decide) ?_
    refine zx_iconst (v := (-1 : Int32)) C dX9_calm_34 (by decide) ?_
    exact zx_iret C hr dX9_calm_35 h
  · obtain ⟨hj3, h⟩ := h.2 j3 rfl
    refine zx_astore (lv' := [(4, .ref (g j3)), (0, .ref (g 0)), (1, .int a1), (2, .int a2), (3, .int a3)]) C dX9_calm_8 (by decide) rfl ?_
    refine zx_aload C dX9_calm_10 0 rfl ?_
    refine zx_ifnull C dX9_calm_12 ?_
    refine zx_iload_n C dX9_calm_15 3 rfl ?_
    refine zx_cSb C [.int a2] lk_X9_254 (c_X9_isWeek l D cy g a2  σ1 h) ⟨by decide, by decide⟩ ⟨rfl, rfl⟩ ⟨Nat.zero_le _, Nat.zero_le _⟩ rfl rfl (Nat.le_of_ble_eq_true rfl) dX9_calm_16 (fun r5 σ4 hb h => ?_)
    replace h := h hb
    refine zx_if_eq C 34 dX9_calm_19 (by decide) (fun q => ?_) (fun q => ?_)
    · replace h := h.1 q
      refine zx_iconst (v := (-1 : Int32)) C dX9_calm_34 (by decide) ?_
      exact zx_iret C hr dX9_calm_35 h
    · replace h := h.2 q
      refine zx_iload_n C dX9_calm_22 4 rfl ?_
      refine zx_iconst (v := (-1 : Int32)) C dX9_calm_23 (by decide) ?_
      refine zx_icmp_lt C 34 dX9_calm_24 (by decide) (fun q => ?_) (fun q => ?_)
      · replace h := h.1 q
        refine zx_iconst (v := (-1 : Int32)) C dX9_calm_34 (by decide) ?_
        exact zx_iret C hr dX9_calm_35 h
      · replace h := h.2 q
        refine zx_iload_n C dX9_calm_27 4 rfl ?_
        refine zx_sipush (v := (999 : Int32)) C dX9_calm_28 (by decide) ?_
        refine zx_icmp_le C 36 dX9_calm_31 (by decide) (fun q => ?_) (fun q => ?_)
        · replace h := h.1 q
          refine zx_aload C dX9_calm_36 0 rfl ?_
          refine zx_getI C hj3.1 fg_X9_128 rfl dX9_calm_38 ?_
          refine zx_iconst (v := (1 : Int32)) C dX9_calm_41 (by decide) ?_
          refine zx_iadd C dX9_calm_42 ?_
          refine zx_topi (fun x6 ex6 => ?_)
          replace h := h x6 ex6
          refine zx_istore (lv' := [(5, .int x6), (4, .ref (g j3)), (0, .ref (g 0)), (1, .int a1), (2, .int a2), (3, .int a3)]) C dX9_calm_43 (by decide) rfl ?_
          refine zx_iconst (v := (-1 : Int32)) C dX9_calm_45 (by decide) ?_
          refine zx_istore (lv' := [(6, .int (-1 : Int32)), (5, .int x6), (4, .ref (g j3)), (0, .ref (g 0)), (1, .int a1), (2, .int a2), (3, .int a3)]) C dX9_calm_46 (by decide) rfl ?_
          refine zx_iconst (v := (0 : Int32)) C dX9_calm_48 (by decide) ?_
          refine zx_istore (lv' := [(7, .int (0 : Int32)), (6, .int (-1 : Int32)), (5, .int x6), (4, .ref (g j3)), (0, .ref (g 0)), (1, .int a1), (2, .int a2), (3, .int a3)]) C dX9_calm_49 (by decide) rfl ?_
          obtain ⟨n, h⟩ := h
          refine zx_lv (lv' := [(0, .ref (g 0)), (2, .int a2), (3, .int a3), (4, .ref (g j3)), (5, .int x6), (6, .int (-1 : Int32)), (7, .int (0 : Int32))]) [4, 6, 7, 3, 2, 1, 0] rfl ?_
          exact k_X9_calm_51 C hr (a2) (a3) (j3) hj3  n x6 (-1 : Int32) (0 : Int32) σ4 h
        · replace h := h.2 q
          refine zx_iconst (v := (-1 : Int32)) C dX9_calm_34 (by decide) ?_
          exact zx_iret C hr dX9_calm_35 h
theorem fg_X9_69 : zFG RX9 69 9 9 := ⟨RX9, TX9, 11, rfl, lay_X9, by decide, fl_X9_69⟩
theorem lk_X9_303 : zLV RX9 303 RX0 yX0_copyFrom cX0_copyFrom 2 none 1 := zLV_of ml_X9_303 im_X0_copyFrom se_X0_copyFrom ini_X0 cd_X0_copyFrom (by decide +kernel)
def w_X9_sparePost_23 (q_1 : Nat) (x_2 : Int32) (x_3 : Int32) (x_4 : Int32) (P : Int32 → zSto → Prop)  : Nat → Int32 → Int32 → Int32 → zSto → Prop
  | 0, _, _, _, _ => False
  | n + 1, x_5, x_6, x_7, σ => (((σ.1 q_1 11) ≤ x_7 → P x_5 σ) ∧ (¬ (σ.1 q_1 11) ≤ x_7 → (vp_in x_7 16 ∧ (∀ σ4 : zSto, σ4 = zI σ 213 (x_7).toNatClampNeg (0 : Int32) → (w_X5_byLaw 210 x_2 x_3 x_4 (-1 : Int32) σ4 (fun (σ5 : zSto) => (vp_in x_7 16 ∧ (vp_in x_7 16 ∧ (∀ σ8 : zSto, σ8 = zI σ5 213 (x_7).toNatClampNeg (σ5.1 (q_1 + 3) (x_7).toNatClampNeg) → ((x_6 ≤ (σ8.1 190 8) → (∀ x9 : Int32, x9 = (x_7 + (1 : Int32)) → w_X9_sparePost_23 q_1 x_2 x_3 x_4 P n x_5 x_6 x9 σ8)) ∧ (¬ x_6 ≤ (σ8.1 190 8) → (∀ x10 : Int32, x10 = (σ8.1 190 8) → (∀ x11 : Int32, x11 = (x_7 + (1 : Int32)) → w_X9_sparePost_23 q_1 x_2 x_3 x_4 P n x_7 x10 x11 σ8)))))))))))))
def w_X9_sparePost (b1 : Nat) (a2 : Int32) (a3 : Int32) (a4 : Int32) (σ : zSto) (P : Int32 → zSto → Prop) : Prop := (∀ x1 : Int32, x1 = (σ.1 190 8) → (w_X0_copyFrom 210 b1 σ (fun (σ2 : zSto) => (∃ n : Nat, w_X9_sparePost_23 b1 a2 a3 a4 P  n (-1 : Int32) x1 (0 : Int32) σ2))))
set_option maxRecDepth 100000 in
set_option maxHeartbeats 4000000 in
theorem k_X9_sparePost_23 {p : Program} {l : Launch} {e : Env} {s : State} {m : MethodId} {args : Array Value} {below : List Frame} {meth : Method} {c : Code} {D : va_G} {cy : Nat → ClassId} {g : Nat → Nat} (C : zC p s m args meth c cX9_sparePost RX9 8 D cy g) (hr : meth.sig.returnType = (some .int)) {P : Int32 → zSto → Prop} (q_1 : Nat) (x_2 : Int32) (x_3 : Int32) (x_4 : Int32) (hq_1 : zIsLine q_1)   : ∀ (n : Nat) (x_5 : Int32) (x_6 : Int32) (x_7 : Int32) (σ : zSto), w_X9_sparePost_23 q_1 x_2 x_3 x_4 P n x_5 x_6 x_7 σ → zX p l e (zrm 4 136) s m args below meth c 0 0 (zQi P below args s D cy g) 8 D cy g 23 [(0, .ref (g 0)), (1, .ref (g q_1)), (2, .int x_2), (3, .int x_3), (4, .int x_4), (5, .int x_5), (6, .int x_6), (7, .int x_7)] [] σ := by
  intro n
  induction n with
  | zero => intro x_5 x_6 x_7 σ h; exact h.elim
  | succ n ih =>
    intro x_5 x_6 x_7 σ h
    unfold w_X9_sparePost_23 at h
    refine zx_iload C dX9_sparePost_23 7 rfl ?_
    refine zx_aload_n C dX9_sparePost_25 1 rfl ?_
    refine zx_getI C hq_1.1 fg_X9_125 rfl dX9_sparePost_26 ?_
    refine zx_icmp_ge C 107 dX9_sparePost_29 (by decide) (fun q => ?_) (fun q => ?_)
    · replace h := h.1 q
      refine zx_iload C dX9_sparePost_107 5 rfl ?_
      exact zx_iret C hr dX9_sparePost_109 h
    · replace h := h.2 q
      refine zx_aload_n C dX9_sparePost_32 0 rfl ?_
      refine zx_getR C zs_0 fg_X9_69 rfl 210 rfl dX9_sparePost_33 ?_
      refine zx_getR C zIsLine_210.1 fg_X9_162 rfl 213 rfl dX9_sparePost_36 ?_
      refine zx_iload C dX9_sparePost_39 7 rfl ?_
      refine zx_iconst (v := (0 : Int32)) C dX9_sparePost_41 (by decide) ?_
      obtain ⟨bd3, h⟩ := h
      refine zx_iast C (x_7).toNatClampNeg zIsLine_210.2.2.2.1 bd3 rfl dX9_sparePost_42 ?_
      refine zx_sig (fun σ4 eσ4 => ?_)
      replace h := h σ4 eσ4
      refine zx_aload_n C dX9_sparePost_43 0 rfl ?_
      refine zx_getR C zs_0 fg_X9_34 rfl 190 rfl dX9_sparePost_44 ?_
      refine zx_aload_n C dX9_sparePost_47 0 rfl ?_
      refine zx_getR C zs_0 fg_X9_69 rfl 210 rfl dX9_sparePost_48 ?_
      refine zx_iload_n C dX9_sparePost_51 2 rfl ?_
      refine zx_iload_n C dX9_sparePost_52 3 rfl ?_
      refine zx_iload C dX9_sparePost_53 4 rfl ?_
      refine zx_iconst (v := (-1 : Int32)) C dX9_sparePost_55 (by decide) ?_
      refine zx_cVv C [.ref (g 210), .int x_2, .int x_3, .int x_4, .int (-1 : Int32)] lk_X9_261 (c_X5_byLaw l D cy g 210 x_2 x_3 x_4 (-1 : Int32) zIsLine_210 σ4 h) zs_190 rfl ⟨by decide, by decide⟩ ⟨rfl, rfl⟩ ⟨Nat.zero_le _, Nat.zero_le _⟩ rfl rfl (Nat.le_of_ble_eq_true rfl) dX9_sparePost_56 (fun σ5 h => ?_)
      refine zx_aload_n C dX9_sparePost_59 0 rfl ?_
      refine zx_getR C zs_0 fg_X9_69 rfl 210 rfl dX9_sparePost_60 ?_
      refine zx_getR C zIsLine_210.1 fg_X9_162 rfl 213 rfl dX9_sparePost_63 ?_
      refine zx_iload C dX9_sparePost_66 7 rfl ?_
      refine zx_aload_n C dX9_sparePost_68 1 rfl ?_
      refine zx_getR C hq_1.1 fg_X9_162 rfl (q_1 + 3) rfl dX9_sparePost_69 ?_
      refine zx_iload C dX9_sparePost_72 7 rfl ?_
      obtain ⟨bd6, h⟩ := h
      refine zx_iald C (x_7).toNatClampNeg hq_1.2.2.2.1 bd6 rfl dX9_sparePost_74 ?_
      obtain ⟨bd7, h⟩ := h
      refine zx_iast C (x_7).toNatClampNeg zIsLine_210.2.2.2.1 bd7 rfl dX9_sparePost_75 ?_
      refine zx_sig (fun σ8 eσ8 => ?_)
      replace h := h σ8 eσ8
      refine zx_aload_n C dX9_sparePost_76 0 rfl ?_
      refine zx_getR C zs_0 fg_X9_34 rfl 190 rfl dX9_sparePost_77 ?_
      refine zx_getI C zs_190 fg_X9_223 rfl dX9_sparePost_80 ?_
      refine zx_iload C dX9_sparePost_83 6 rfl ?_
      refine zx_icmp_ge C 101 dX9_sparePost_85 (by decide) (fun q => ?_) (fun q => ?_)
      · replace h := h.1 q
        obtain ⟨x9, ex9⟩ : ∃ y : Int32, y = (x_7 + (1 : Int32)) := ⟨_, rfl⟩
        replace h := h x9 ex9
        refine zx_iinc (v := x9) (lv' := [(7, .int x9), (0, .ref (g 0)), (1, .ref (g q_1)), (2, .int x_2), (3, .int x_3), (4, .int x_4), (5, .int x_5), (6, .int x_6)]) C dX9_sparePost_101 7 rfl (by rw [ex9]; rfl) (by decide) rfl ?_
        refine zx_goto C 23 dX9_sparePost_104 (by decide) ?_
        refine zx_lv (lv' := [(0, .ref (g 0)), (1, .ref (g q_1)), (2, .int x_2), (3, .int x_3), (4, .int x_4), (5, .int x_5), (6, .int x_6), (7, .int x9)]) [1, 2, 3, 4, 5, 6, 7, 0] rfl ?_
        exact ih x_5 x_6 x9 σ8 h
      · replace h := h.2 q
        refine zx_iload C dX9_sparePost_88 7 rfl ?_
        refine zx_istore (lv' := [(5, .int x_7), (0, .ref (g 0)), (1, .ref (g q_1)), (2, .int x_2), (3, .int x_3), (4, .int x_4), (6, .int x_6), (7, .int x_7)]) C dX9_sparePost_90 (by decide) rfl ?_
        refine zx_aload_n C dX9_sparePost_92 1 rfl ?_
        refine zx_getR C zs_0 fg_X9_34 rfl 190 rfl dX9_sparePost_93 ?_
        refine zx_getI C zs_190 fg_X9_223 rfl dX9_sparePost_96 ?_
        refine zx_topi (fun x10 ex10 => ?_)
        replace h := h x10 ex10
        refine zx_istore (lv' := [(6, .int x10), (5, .int x_7), (0, .ref (g 0)), (1, .ref (g q_1)), (2, .int x_2), (3, .int x_3), (4, .int x_4), (7, .int x_7)]) C dX9_sparePost_99 (by decide) rfl ?_
        obtain ⟨x11, ex11⟩ : ∃ y : Int32, y = (x_7 + (1 : Int32)) := ⟨_, rfl⟩
        replace h := h x11 ex11
        refine zx_iinc (v := x11) (lv' := [(7, .int x11), (6, .int x10), (5, .int x_7), (0, .ref (g 0)), (1, .ref (g q_1)), (2, .int x_2), (3, .int x_3), (4, .int x_4)]) C dX9_sparePost_101 7 rfl (by rw [ex11]; rfl) (by decide) rfl ?_
        refine zx_goto C 23 dX9_sparePost_104 (by decide) ?_
        refine zx_lv (lv' := [(0, .ref (g 0)), (1, .ref (g q_1)), (2, .int x_2), (3, .int x_3), (4, .int x_4), (5, .int x_7), (6, .int x10), (7, .int x11)]) [3, 4, 5, 6, 7, 2, 1, 0] rfl ?_
        exact ih x_7 x10 x11 σ8 h
set_option maxRecDepth 100000 in
set_option maxHeartbeats 4000000 in
theorem c_X9_sparePost (l : Launch) (D : va_G) (cy : Nat → ClassId) (g : Nat → Nat) (b1 : Nat) (a2 : Int32) (a3 : Int32) (a4 : Int32) (hb1 : zIsLine b1) (σ : zSto) {P : Int32 → zSto → Prop} (h : w_X9_sparePost b1 a2 a3 a4 σ P) : zMi l yX9_sparePost cX9_sparePost 8 (some .int) (zrm 4 136) D cy g [.ref (g 0), .ref (g b1), .int a2, .int a3, .int a4] σ P := by
  unfold w_X9_sparePost at h
  refine zm_i RX9 rfl (by decide +kernel) (Nat.le_of_ble_eq_true rfl) ?_
  intro p e s m below meth c C hr
  refine zx_lv (lv' := [(0, .ref (g 0)), (1, .ref (g b1)), (2, .int a2), (3, .int a3), (4, .int a4)]) [0, 1, 2, 3, 4] rfl ?_
  refine zx_iconst (v := (-1 : Int32)) C dX9_sparePost_0 (by decide) ?_
  refine zx_istore (lv' := [(5, .int (-1 : Int32)), (0, .ref (g 0)), (1, .ref (g b1)), (2, .int a2), (3, .int a3), (4, .int a4)]) C dX9_sparePost_1 (by decide) rfl ?_
  refine zx_aload_n C dX9_sparePost_3 1 rfl ?_
  refine zx_getR C zs_0 fg_X9_34 rfl 190 rfl dX9_sparePost_4 ?_
  refine zx_getI C zs_190 fg_X9_223 rfl dX9_sparePost_7 ?_
  refine zx_topi (fun x1 ex1 => ?_)
  replace h := h x1 ex1
  refine zx_istore (lv' := [(6, .int x1), (5, .int (-1 : Int32)), (0, .ref (g 0)), (1, .ref (g b1)), (2, .int a2), (3, .int a3), (4, .int a4)]) C dX9_sparePost_10 (by decide) rfl ?_
  refine zx_aload_n C dX9_sparePost_12 2 rfl ?_
  refine zx_getR C zs_0 fg_X9_69 rfl 210 rfl dX9_sparePost_13 ?_
  refine zx_aload_n C dX9_sparePost_16 3 rfl ?_
  refine zx_cVv C [.ref (g b1)] lk_X9_303 (c_X0_copyFrom l D cy g 210 b1 zIsLine_210 hb1 σ h) zIsLine_210.1 rfl ⟨by decide, by decide⟩ ⟨rfl, rfl⟩ ⟨Nat.zero_le _, Nat.zero_le _⟩ rfl rfl (Nat.le_of_ble_eq_true rfl) dX9_sparePost_17 (fun σ2 h => ?_)
  refine zx_iconst (v := (0 : Int32)) C dX9_sparePost_20 (by decide) ?_
  refine zx_istore (lv' := [(7, .int (0 : Int32)), (6, .int x1), (5, .int (-1 : Int32)), (0, .ref (g 0)), (1, .ref (g b1)), (2, .int a2), (3, .int a3), (4, .int a4)]) C dX9_sparePost_21 (by decide) rfl ?_
  obtain ⟨n, h⟩ := h
  refine zx_lv (lv' := [(0, .ref (g 0)), (1, .ref (g b1)), (2, .int a2), (3, .int a3), (4, .int a4), (5, .int (-1 : Int32)), (6, .int x1), (7, .int (0 : Int32))]) [3, 4, 5, 6, 7, 2, 1, 0] rfl ?_
  exact k_X9_sparePost_23 C hr (b1) (a2) (a3) (a4) hb1  n (-1 : Int32) x1 (0 : Int32) σ2 h
theorem lk_X9_293 : zLV RX9 293 RX5 yX5_richest cX5_richest 5 (some .int) 1 := zLV_of ml_X9_293 im_X5_richest se_X5_richest ini_X5 cd_X5_richest (by decide +kernel)
theorem lk_X9_289 : zLV RX9 289 RX9 yX9_sparePost cX9_sparePost 8 (some .int) 4 := zLV_of ml_X9_289 im_X9_sparePost se_X9_sparePost ini_X9 cd_X9_sparePost (by decide +kernel)
def w_X9_rich (a1 : Int32) (a2 : Int32) (a3 : Int32) (a4 : Int32) (a5 : Int32) (σ : zSto) (P : Int32 → zSto → Prop) : Prop := (w_X9_ridden a1 a2 a3 a4 σ (fun (q2 : Option Nat) (σ1 : zSto) => ((q2 = none → P (-1 : Int32) σ1) ∧ (∀ j3 : Nat, q2 = some j3 → zIsLine j3 ∧ ((a5 = 0 → (w_X5_richest j3 σ1 (fun (r5 : Int32) (σ4 : zSto) => P r5 σ4))) ∧ (¬ a5 = 0 → (w_X9_sparePost j3 a2 a3 a4 σ1 (fun (r7 : Int32) (σ6 : zSto) => P r7 σ6))))))))
set_option maxRecDepth 100000 in
set_option maxHeartbeats 4000000 in
theorem c_X9_rich (l : Launch) (D : va_G) (cy : Nat → ClassId) (g : Nat → Nat) (a1 : Int32) (a2 : Int32) (a3 : Int32) (a4 : Int32) (a5 : Int32)  (σ : zSto) {P : Int32 → zSto → Prop} (h : w_X9_rich a1 a2 a3 a4 a5 σ P) : zMi l yX9_rich cX9_rich 7 (some .int) (zrm 5 163) D cy g [.ref (g 0), .int a1, .int a2, .int a3, .int a4, .int a5] σ P := by
  unfold w_X9_rich at h
  refine zm_i RX9 rfl (by decide +kernel) (Nat.le_of_ble_eq_true rfl) ?_
  intro p e s m below meth c C hr
  refine zx_lv (lv' := [(0, .ref (g 0)), (1, .int a1), (2, .int a2), (3, .int a3), (4, .int a4), (5, .int a5)]) [0, 1, 2, 3, 4, 5] rfl ?_
  refine zx_aload_n C dX9_rich_0 0 rfl ?_
  refine zx_iload_n C dX9_rich_1 1 rfl ?_
  refine zx_iload_n C dX9_rich_2 2 rfl ?_
  refine zx_iload_n C dX9_rich_3 3 rfl ?_
  refine zx_iload C dX9_rich_4 4 rfl ?_
  refine zx_cVq C [.int a1, .int a2, .int a3, .int a4] lk_X9_206 (c_X9_ridden l D cy g a1 a2 a3 a4  σ h) zs_0 rfl ⟨by decide, by decide⟩ ⟨rfl, rfl⟩ ⟨Nat.zero_le _, Nat.zero_le _⟩ rfl rfl (Nat.le_of_ble_eq_true rfl) dX9_rich_6 (fun σ1 h => ?_) (fun j3 σ1 h => ?_)
  · replace h := h.1 rfl
    refine zx_astoreN (lv' := [(6, .null), (0, .ref (g 0)), (1, .int a1), (2, .int a2), (3, .int a3), (4, .int a4), (5, .int a5)]) C dX9_rich_9 (by decide) rfl ?_
    refine zx_aloadN C dX9_rich_11 0 rfl ?_
    refine zx_ifnonnullN C dX9_rich_13 ?_
    refine zx_iconst (v := (-1 : Int32)) C dX9_rich_16 (by decide) ?_
    exact zx_iret C hr dX9_rich_17 h
  · obtain ⟨hj3, h⟩ := h.2 j3 rfl
    refine zx_astore (lv' := [(6, .ref (g j3)), (0, .ref (g 0)), (1, .int a1), (2, .int a2), (3, .int a3), (4, .int a4), (5, .int a5)]) C dX9_rich_9 (by decide) rfl ?_
    refine zx_aload C dX9_rich_11 0 rfl ?_
    refine zx_ifnonnull C 18 dX9_rich_13 (by decide) ?_
    refine zx_iload C dX9_rich_18 6 rfl ?_
    refine zx_if_eq C 36 dX9_rich_20 (by decide) (fun q => ?_) (fun q => ?_)
    · replace h := h.1 q
      refine zx_aload_n C dX9_rich_36 1 rfl ?_
      refine zx_getR C zs_0 fg_X9_34 rfl 190 rfl dX9_rich_37 ?_
      refine zx_aload C dX9_rich_40 0 rfl ?_
      refine zx_cVi C [.ref (g j3)] lk_X9_293 (c_X5_richest l D cy g j3 hj3 σ1 h) zs_190 rfl ⟨by decide, by decide⟩ ⟨rfl, rfl⟩ ⟨Nat.zero_le _, Nat.zero_le _⟩ rfl rfl (Nat.le_of_ble_eq_true rfl) dX9_rich_42 (fun r5 σ4 h => ?_)
      exact zx_iret C hr dX9_rich_45 h
    · replace h := h.2 q
      refine zx_aload_n C dX9_rich_23 1 rfl ?_
      refine zx_aload C dX9_rich_24 0 rfl ?_
      refine zx_iload_n C dX9_rich_26 3 rfl ?_
      refine zx_iload_n C dX9_rich_27 4 rfl ?_
      refine zx_iload C dX9_rich_28 5 rfl ?_
      refine zx_cVi C [.ref (g j3), .int a2, .int a3, .int a4] lk_X9_289 (c_X9_sparePost l D cy g j3 a2 a3 a4 hj3 σ1 h) zs_0 rfl ⟨by decide, by decide⟩ ⟨rfl, rfl⟩ ⟨Nat.zero_le _, Nat.zero_le _⟩ rfl rfl (Nat.le_of_ble_eq_true rfl) dX9_rich_30 (fun r7 σ6 h => ?_)
      refine zx_goto C 45 dX9_rich_33 (by decide) ?_
      exact zx_iret C hr dX9_rich_45 h
def w_X9_fillGainsByLaw_3 (q_1 : Nat) (x_2 : Int32) (x_3 : Int32) (P : zSto → Prop)  : Nat → Int32 → zSto → Prop
  | 0, _, _ => False
  | n + 1, x_4, σ => (((4 : Int32) ≤ x_4 → P σ) ∧ (¬ (4 : Int32) ≤ x_4 → (w_X5_byLaw q_1 x_4 x_2 x_3 (-1 : Int32) σ (fun (σ1 : zSto) => (w_X9_keepGains q_1 x_4 σ1 (fun (σ2 : zSto) => (∀ x3 : Int32, x3 = (x_4 + (1 : Int32)) → w_X9_fillGainsByLaw_3 q_1 x_2 x_3 P n x3 σ2)))))))
def w_X9_fillGainsByLaw (b1 : Nat) (a2 : Int32) (a3 : Int32) (σ : zSto) (P : zSto → Prop) : Prop := (∃ n : Nat, w_X9_fillGainsByLaw_3 b1 a2 a3 P  n (0 : Int32) σ)
set_option maxRecDepth 100000 in
set_option maxHeartbeats 4000000 in
theorem k_X9_fillGainsByLaw_3 {p : Program} {l : Launch} {e : Env} {s : State} {m : MethodId} {args : Array Value} {below : List Frame} {meth : Method} {c : Code} {D : va_G} {cy : Nat → ClassId} {g : Nat → Nat} (C : zC p s m args meth c cX9_fillGainsByLaw RX9 5 D cy g) (hr : meth.sig.returnType = none) {P : zSto → Prop} (q_1 : Nat) (x_2 : Int32) (x_3 : Int32) (hq_1 : zIsLine q_1)   : ∀ (n : Nat) (x_4 : Int32) (σ : zSto), w_X9_fillGainsByLaw_3 q_1 x_2 x_3 P n x_4 σ → zX p l e (zrm 4 136) s m args below meth c 0 0 (zQv P below args s D cy g) 5 D cy g 3 [(0, .ref (g 0)), (1, .ref (g q_1)), (2, .int x_2), (3, .int x_3), (4, .int x_4)] [] σ := by
  intro n
  induction n with
  | zero => intro x_4 σ h; exact h.elim
  | succ n ih =>
    intro x_4 σ h
    unfold w_X9_fillGainsByLaw_3 at h
    refine zx_iload C dX9_fillGainsByLaw_3 4 rfl ?_
    refine zx_iconst (v := (4 : Int32)) C dX9_fillGainsByLaw_5 (by decide) ?_
    refine zx_icmp_ge C 35 dX9_fillGainsByLaw_6 (by decide) (fun q => ?_) (fun q => ?_)
    · replace h := h.1 q
      exact zx_vret C hr dX9_fillGainsByLaw_35 h
    · replace h := h.2 q
      refine zx_aload_n C dX9_fillGainsByLaw_9 0 rfl ?_
      refine zx_getR C zs_0 fg_X9_34 rfl 190 rfl dX9_fillGainsByLaw_10 ?_
      refine zx_aload_n C dX9_fillGainsByLaw_13 1 rfl ?_
      refine zx_iload C dX9_fillGainsByLaw_14 4 rfl ?_
      refine zx_iload_n C dX9_fillGainsByLaw_16 2 rfl ?_
      refine zx_iload_n C dX9_fillGainsByLaw_17 3 rfl ?_
      refine zx_iconst (v := (-1 : Int32)) C dX9_fillGainsByLaw_18 (by decide) ?_
      refine zx_cVv C [.ref (g q_1), .int x_4, .int x_2, .int x_3, .int (-1 : Int32)] lk_X9_261 (c_X5_byLaw l D cy g q_1 x_4 x_2 x_3 (-1 : Int32) hq_1 σ h) zs_190 rfl ⟨by decide, by decide⟩ ⟨rfl, rfl⟩ ⟨Nat.zero_le _, Nat.zero_le _⟩ rfl rfl (Nat.le_of_ble_eq_true rfl) dX9_fillGainsByLaw_19 (fun σ1 h => ?_)
      refine zx_aload_n C dX9_fillGainsByLaw_22 0 rfl ?_
      refine zx_aload_n C dX9_fillGainsByLaw_23 1 rfl ?_
      refine zx_iload C dX9_fillGainsByLaw_24 4 rfl ?_
      refine zx_cVv C [.ref (g q_1), .int x_4] lk_X9_403 (c_X9_keepGains l D cy g q_1 x_4 hq_1 σ1 h) zs_0 rfl ⟨by decide, by decide⟩ ⟨rfl, rfl⟩ ⟨Nat.zero_le _, Nat.zero_le _⟩ rfl rfl (Nat.le_of_ble_eq_true rfl) dX9_fillGainsByLaw_26 (fun σ2 h => ?_)
      obtain ⟨x3, ex3⟩ : ∃ y : Int32, y = (x_4 + (1 : Int32)) := ⟨_, rfl⟩
      replace h := h x3 ex3
      refine zx_iinc (v := x3) (lv' := [(4, .int x3), (0, .ref (g 0)), (1, .ref (g q_1)), (2, .int x_2), (3, .int x_3)]) C dX9_fillGainsByLaw_29 4 rfl (by rw [ex3]; rfl) (by decide) rfl ?_
      refine zx_goto C 3 dX9_fillGainsByLaw_32 (by decide) ?_
      refine zx_lv (lv' := [(0, .ref (g 0)), (1, .ref (g q_1)), (2, .int x_2), (3, .int x_3), (4, .int x3)]) [1, 2, 3, 4, 0] rfl ?_
      exact ih x3 σ2 h
set_option maxRecDepth 100000 in
set_option maxHeartbeats 4000000 in
theorem c_X9_fillGainsByLaw (l : Launch) (D : va_G) (cy : Nat → ClassId) (g : Nat → Nat) (b1 : Nat) (a2 : Int32) (a3 : Int32) (hb1 : zIsLine b1) (σ : zSto) {P : zSto → Prop} (h : w_X9_fillGainsByLaw b1 a2 a3 σ P) : zMv l yX9_fillGainsByLaw cX9_fillGainsByLaw 5 none (zrm 4 136) D cy g [.ref (g 0), .ref (g b1), .int a2, .int a3] σ P := by
  unfold w_X9_fillGainsByLaw at h
  refine zm_v RX9 rfl (by decide +kernel) (Nat.le_of_ble_eq_true rfl) ?_
  intro p e s m below meth c C hr
  refine zx_lv (lv' := [(0, .ref (g 0)), (1, .ref (g b1)), (2, .int a2), (3, .int a3)]) [0, 1, 2, 3] rfl ?_
  refine zx_iconst (v := (0 : Int32)) C dX9_fillGainsByLaw_0 (by decide) ?_
  refine zx_istore (lv' := [(4, .int (0 : Int32)), (0, .ref (g 0)), (1, .ref (g b1)), (2, .int a2), (3, .int a3)]) C dX9_fillGainsByLaw_1 (by decide) rfl ?_
  obtain ⟨n, h⟩ := h
  refine zx_lv (lv' := [(0, .ref (g 0)), (1, .ref (g b1)), (2, .int a2), (3, .int a3), (4, .int (0 : Int32))]) [1, 2, 3, 4, 0] rfl ?_
  exact k_X9_fillGainsByLaw_3 C hr (b1) (a2) (a3) hb1  n (0 : Int32) σ h
def w_X9_lawOf_4 (x_1 : Int32) (P : Int32 → zSto → Prop)  : Nat → Int32 → Int32 → zSto → Prop
  | 0, _, _, _ => False
  | n + 1, x_2, x_3, σ => (((4 : Int32) ≤ x_3 → P x_2 σ) ∧ (¬ (4 : Int32) ≤ x_3 → (vp_in ((x_3 * (6 : Int32)) + x_1) 384 ∧ (vp_in ((x_2 * (6 : Int32)) + x_1) 384 ∧ (((σ.1 222 (((x_3 * (6 : Int32)) + x_1)).toNatClampNeg) ≤ (σ.1 222 (((x_2 * (6 : Int32)) + x_1)).toNatClampNeg) → (∀ x3 : Int32, x3 = (x_3 + (1 : Int32)) → w_X9_lawOf_4 x_1 P n x_2 x3 σ)) ∧ (¬ (σ.1 222 (((x_3 * (6 : Int32)) + x_1)).toNatClampNeg) ≤ (σ.1 222 (((x_2 * (6 : Int32)) + x_1)).toNatClampNeg) → (∀ x4 : Int32, x4 = (x_3 + (1 : Int32)) → w_X9_lawOf_4 x_1 P n x_3 x4 σ)))))))
def w_X9_lawOf (a1 : Int32) (σ : zSto) (P : Int32 → zSto → Prop) : Prop := (∃ n : Nat, w_X9_lawOf_4 a1 P  n (0 : Int32) (1 : Int32) σ)
set_option maxRecDepth 100000 in
set_option maxHeartbeats 4000000 in
theorem k_X9_lawOf_4 {p : Program} {l : Launch} {e : Env} {s : State} {m : MethodId} {args : Array Value} {below : List Frame} {meth : Method} {c : Code} {D : va_G} {cy : Nat → ClassId} {g : Nat → Nat} (C : zC p s m args meth c cX9_lawOf RX9 4 D cy g) (hr : meth.sig.returnType = (some .int)) {P : Int32 → zSto → Prop} (x_1 : Int32)    : ∀ (n : Nat) (x_2 : Int32) (x_3 : Int32) (σ : zSto), w_X9_lawOf_4 x_1 P n x_2 x_3 σ → zX p l e (zrm 0 0) s m args below meth c 0 0 (zQi P below args s D cy g) 4 D cy g 4 [(0, .ref (g 0)), (1, .int x_1), (2, .int x_2), (3, .int x_3)] [] σ := by
  intro n
  induction n with
  | zero => intro x_2 x_3 σ h; exact h.elim
  | succ n ih =>
    intro x_2 x_3 σ h
    unfold w_X9_lawOf_4 at h
    refine zx_iload_n C dX9_lawOf_4 3 rfl ?_
    refine zx_iconst (v := (4 : Int32)) C dX9_lawOf_5 (by decide) ?_
    refine zx_icmp_ge C 42 dX9_lawOf_6 (by decide) (fun q => ?_) (fun q => ?_)
    · replace h := h.1 q
      refine zx_iload_n C dX9_lawOf_42 2 rfl ?_
      exact zx_iret C hr dX9_lawOf_43 h
    · replace h := h.2 q
      refine zx_aload_n C dX9_lawOf_9 0 rfl ?_
      refine zx_getR C zs_0 fg_X9_73 rfl 222 rfl dX9_lawOf_10 ?_
      refine zx_iload_n C dX9_lawOf_13 3 rfl ?_
      refine zx_bipush (v := (6 : Int32)) C dX9_lawOf_14 (by decide) ?_
      refine zx_imul C dX9_lawOf_16 ?_
      refine zx_iload_n C dX9_lawOf_17 1 rfl ?_
      refine zx_iadd C dX9_lawOf_18 ?_
      obtain ⟨bd1, h⟩ := h
      refine zx_iald C (((x_3 * (6 : Int32)) + x_1)).toNatClampNeg zs_222 bd1 rfl dX9_lawOf_19 ?_
      refine zx_aload_n C dX9_lawOf_20 0 rfl ?_
      refine zx_getR C zs_0 fg_X9_73 rfl 222 rfl dX9_lawOf_21 ?_
      refine zx_iload_n C dX9_lawOf_24 2 rfl ?_
      refine zx_bipush (v := (6 : Int32)) C dX9_lawOf_25 (by decide) ?_
      refine zx_imul C dX9_lawOf_27 ?_
      refine zx_iload_n C dX9_lawOf_28 1 rfl ?_
      refine zx_iadd C dX9_lawOf_29 ?_
      obtain ⟨bd2, h⟩ := h
      refine zx_iald C (((x_2 * (6 : Int32)) + x_1)).toNatClampNeg zs_222 bd2 rfl dX9_lawOf_30 ?_
      refine zx_icmp_le C 36 dX9_lawOf_31 (by decide) (fun q => ?_) (fun q => ?_)
      · replace h := h.1 q
        obtain ⟨x3, ex3⟩ : ∃ y : Int32, y = (x_3 + (1 : Int32)) := ⟨_, rfl⟩
        replace h := h x3 ex3
        refine zx_iinc (v := x3) (lv' := [(3, .int x3), (0, .ref (g 0)), (1, .int x_1), (2, .int x_2)]) C dX9_lawOf_36 3 rfl (by rw [ex3]; rfl) (by decide) rfl ?_
        refine zx_goto C 4 dX9_lawOf_39 (by decide) ?_
        refine zx_lv (lv' := [(0, .ref (g 0)), (1, .int x_1), (2, .int x_2), (3, .int x3)]) [1, 2, 3, 0] rfl ?_
        exact ih x_2 x3 σ h
      · replace h := h.2 q
        refine zx_iload_n C dX9_lawOf_34 3 rfl ?_
        refine zx_istore_n (lv' := [(2, .int x_3), (0, .ref (g 0)), (1, .int x_1), (3, .int x_3)]) C dX9_lawOf_35 (by decide) rfl ?_
        obtain ⟨x4, ex4⟩ : ∃ y : Int32, y = (x_3 + (1 : Int32)) := ⟨_, rfl⟩
        replace h := h x4 ex4
        refine zx_iinc (v := x4) (lv' := [(3, .int x4), (2, .int x_3), (0, .ref (g 0)), (1, .int x_1)]) C dX9_lawOf_36 3 rfl (by rw [ex4]; rfl) (by decide) rfl ?_
        refine zx_goto C 4 dX9_lawOf_39 (by decide) ?_
        refine zx_lv (lv' := [(0, .ref (g 0)), (1, .int x_1), (2, .int x_3), (3, .int x4)]) [2, 3, 1, 0] rfl ?_
        exact ih x_3 x4 σ h
set_option maxRecDepth 100000 in
set_option maxHeartbeats 4000000 in
theorem c_X9_lawOf (l : Launch) (D : va_G) (cy : Nat → ClassId) (g : Nat → Nat) (a1 : Int32)  (σ : zSto) {P : Int32 → zSto → Prop} (h : w_X9_lawOf a1 σ P) : zMi l yX9_lawOf cX9_lawOf 4 (some .int) (zrm 0 0) D cy g [.ref (g 0), .int a1] σ P := by
  unfold w_X9_lawOf at h
  refine zm_i RX9 rfl (by decide +kernel) (Nat.le_of_ble_eq_true rfl) ?_
  intro p e s m below meth c C hr
  refine zx_lv (lv' := [(0, .ref (g 0)), (1, .int a1)]) [0, 1] rfl ?_
  refine zx_iconst (v := (0 : Int32)) C dX9_lawOf_0 (by decide) ?_
  refine zx_istore_n (lv' := [(2, .int (0 : Int32)), (0, .ref (g 0)), (1, .int a1)]) C dX9_lawOf_1 (by decide) rfl ?_
  refine zx_iconst (v := (1 : Int32)) C dX9_lawOf_2 (by decide) ?_
  refine zx_istore_n (lv' := [(3, .int (1 : Int32)), (2, .int (0 : Int32)), (0, .ref (g 0)), (1, .int a1)]) C dX9_lawOf_3 (by decide) rfl ?_
  obtain ⟨n, h⟩ := h
  refine zx_lv (lv' := [(0, .ref (g 0)), (1, .int a1), (2, .int (0 : Int32)), (3, .int (1 : Int32))]) [2, 3, 1, 0] rfl ?_
  exact k_X9_lawOf_4 C hr (a1)   n (0 : Int32) (1 : Int32) σ h
theorem lk_X9_406 : zLV RX9 406 RX9 yX9_lawOf cX9_lawOf 4 (some .int) 1 := zLV_of ml_X9_406 im_X9_lawOf se_X9_lawOf ini_X9 cd_X9_lawOf (by decide +kernel)
def w_X9_votesFor_5 (q_1 : Nat) (x_2 : Int32) (P : Int32 → zSto → Prop)  : Nat → Int32 → Int32 → zSto → Prop
  | 0, _, _, _ => False
  | n + 1, x_3, x_4, σ => (((σ.1 q_1 12) ≤ x_4 → P x_3 σ) ∧ (¬ (σ.1 q_1 12) ≤ x_4 → (w_X9_lawOf x_4 σ (fun (r2 : Int32) (σ1 : zSto) => ((¬ r2 = x_2 → (∀ x3 : Int32, x3 = (x_3 + (0 : Int32)) → (∀ x4 : Int32, x4 = (x_4 + (1 : Int32)) → w_X9_votesFor_5 q_1 x_2 P n x3 x4 σ1))) ∧ (r2 = x_2 → (∀ x5 : Int32, x5 = (x_3 + (1 : Int32)) → (∀ x6 : Int32, x6 = (x_4 + (1 : Int32)) → w_X9_votesFor_5 q_1 x_2 P n x5 x6 σ1))))))))
def w_X9_votesFor (b1 : Nat) (a2 : Int32) (σ : zSto) (P : Int32 → zSto → Prop) : Prop := (∃ n : Nat, w_X9_votesFor_5 b1 a2 P  n (0 : Int32) (0 : Int32) σ)
set_option maxRecDepth 100000 in
set_option maxHeartbeats 4000000 in
theorem k_X9_votesFor_5 {p : Program} {l : Launch} {e : Env} {s : State} {m : MethodId} {args : Array Value} {below : List Frame} {meth : Method} {c : Code} {D : va_G} {cy : Nat → ClassId} {g : Nat → Nat} (C : zC p s m args meth c cX9_votesFor RX9 5 D cy g) (hr : meth.sig.returnType = (some .int)) {P : Int32 → zSto → Prop} (q_1 : Nat) (x_2 : Int32) (hq_1 : zIsLine q_1)   : ∀ (n : Nat) (x_3 : Int32) (x_4 : Int32) (σ : zSto), w_X9_votesFor_5 q_1 x_2 P n x_3 x_4 σ → zX p l e (zrm 1 23) s m args below meth c 0 0 (zQi P below args s D cy g) 5 D cy g 5 [(0, .ref (g 0)), (1, .ref (g q_1)), (2, .int x_2), (3, .int x_3), (4, .int x_4)] [] σ := by
  intro n
  induction n with
  | zero => intro x_3 x_4 σ h; exact h.elim
  | succ n ih =>
    intro x_3 x_4 σ h
    unfold w_X9_votesFor_5 at h
    refine zx_iload C dX9_votesFor_5 4 rfl ?_
    refine zx_aload_n C dX9_votesFor_7 1 rfl ?_
    refine zx_getI C hq_1.1 fg_X9_128 rfl dX9_votesFor_8 ?_
    refine zx_icmp_ge C 38 dX9_votesFor_11 (by decide) (fun q => ?_) (fun q => ?_)
    · replace h := h.1 q
      refine zx_iload_n C dX9_votesFor_38 3 rfl ?_
      exact zx_iret C hr dX9_votesFor_39 h
    · replace h := h.2 q
      refine zx_iload_n C dX9_votesFor_14 3 rfl ?_
      refine zx_aload_n C dX9_votesFor_15 0 rfl ?_
      refine zx_iload C dX9_votesFor_16 4 rfl ?_
      refine zx_cVi C [.int x_4] lk_X9_406 (c_X9_lawOf l D cy g x_4  σ h) zs_0 rfl ⟨by decide, by decide⟩ ⟨rfl, rfl⟩ ⟨Nat.zero_le _, Nat.zero_le _⟩ rfl rfl (Nat.le_of_ble_eq_true rfl) dX9_votesFor_18 (fun r2 σ1 h => ?_)
      refine zx_iload_n C dX9_votesFor_21 2 rfl ?_
      refine zx_icmp_ne C 29 dX9_votesFor_22 (by decide) (fun q => ?_) (fun q => ?_)
      · replace h := h.1 q
        refine zx_iconst (v := (0 : Int32)) C dX9_votesFor_29 (by decide) ?_
        refine zx_iadd C dX9_votesFor_30 ?_
        refine zx_topi (fun x3 ex3 => ?_)
        replace h := h x3 ex3
        refine zx_istore_n (lv' := [(3, .int x3), (0, .ref (g 0)), (1, .ref (g q_1)), (2, .int x_2), (4, .int x_4)]) C dX9_votesFor_31 (by decide) rfl ?_
        obtain ⟨x4, ex4⟩ : ∃ y : Int32, y = (x_4 + (1 : Int32)) := ⟨_, rfl⟩
        replace h := h x4 ex4
        refine zx_iinc (v := x4) (lv' := [(4, .int x4), (3, .int x3), (0, .ref (g 0)), (1, .ref (g q_1)), (2, .int x_2)]) C dX9_votesFor_32 4 rfl (by rw [ex4]; rfl) (by decide) rfl ?_
        refine zx_goto C 5 dX9_votesFor_35 (by decide) ?_
        refine zx_lv (lv' := [(0, .ref (g 0)), (1, .ref (g q_1)), (2, .int x_2), (3, .int x3), (4, .int x4)]) [2, 3, 4, 1, 0] rfl ?_
        exact ih x3 x4 σ1 h
      · replace h := h.2 q
        refine zx_iconst (v := (1 : Int32)) C dX9_votesFor_25 (by decide) ?_
        refine zx_goto C 30 dX9_votesFor_26 (by decide) ?_
        refine zx_iadd C dX9_votesFor_30 ?_
        refine zx_topi (fun x5 ex5 => ?_)
        replace h := h x5 ex5
        refine zx_istore_n (lv' := [(3, .int x5), (0, .ref (g 0)), (1, .ref (g q_1)), (2, .int x_2), (4, .int x_4)]) C dX9_votesFor_31 (by decide) rfl ?_
        obtain ⟨x6, ex6⟩ : ∃ y : Int32, y = (x_4 + (1 : Int32)) := ⟨_, rfl⟩
        replace h := h x6 ex6
        refine zx_iinc (v := x6) (lv' := [(4, .int x6), (3, .int x5), (0, .ref (g 0)), (1, .ref (g q_1)), (2, .int x_2)]) C dX9_votesFor_32 4 rfl (by rw [ex6]; rfl) (by decide) rfl ?_
        refine zx_goto C 5 dX9_votesFor_35 (by decide) ?_
        refine zx_lv (lv' := [(0, .ref (g 0)), (1, .ref (g q_1)), (2, .int x_2), (3, .int x5), (4, .int x6)]) [2, 3, 4, 1, 0] rfl ?_
        exact ih x5 x6 σ1 h
set_option maxRecDepth 100000 in
set_option maxHeartbeats 4000000 in
theorem c_X9_votesFor (l : Launch) (D : va_G) (cy : Nat → ClassId) (g : Nat → Nat) (b1 : Nat) (a2 : Int32) (hb1 : zIsLine b1) (σ : zSto) {P : Int32 → zSto → Prop} (h : w_X9_votesFor b1 a2 σ P) : zMi l yX9_votesFor cX9_votesFor 5 (some .int) (zrm 1 23) D cy g [.ref (g 0), .ref (g b1), .int a2] σ P := by
  unfold w_X9_votesFor at h
  refine zm_i RX9 rfl (by decide +kernel) (Nat.le_of_ble_eq_true rfl) ?_
  intro p e s m below meth c C hr
  refine zx_lv (lv' := [(0, .ref (g 0)), (1, .ref (g b1)), (2, .int a2)]) [0, 1, 2] rfl ?_
  refine zx_iconst (v := (0 : Int32)) C dX9_votesFor_0 (by decide) ?_
  refine zx_istore_n (lv' := [(3, .int (0 : Int32)), (0, .ref (g 0)), (1, .ref (g b1)), (2, .int a2)]) C dX9_votesFor_1 (by decide) rfl ?_
  refine zx_iconst (v := (0 : Int32)) C dX9_votesFor_2 (by decide) ?_
  refine zx_istore (lv' := [(4, .int (0 : Int32)), (3, .int (0 : Int32)), (0, .ref (g 0)), (1, .ref (g b1)), (2, .int a2)]) C dX9_votesFor_3 (by decide) rfl ?_
  obtain ⟨n, h⟩ := h
  refine zx_lv (lv' := [(0, .ref (g 0)), (1, .ref (g b1)), (2, .int a2), (3, .int (0 : Int32)), (4, .int (0 : Int32))]) [2, 3, 4, 1, 0] rfl ?_
  exact k_X9_votesFor_5 C hr (b1) (a2) hb1  n (0 : Int32) (0 : Int32) σ h
theorem lk_X9_296 : zLV RX9 296 RX9 yX9_fillGainsByLaw cX9_fillGainsByLaw 5 none 3 := zLV_of ml_X9_296 im_X9_fillGainsByLaw se_X9_fillGainsByLaw ini_X9 cd_X9_fillGainsByLaw (by decide +kernel)
theorem lk_X9_300 : zLV RX9 300 RX9 yX9_votesFor cX9_votesFor 5 (some .int) 2 := zLV_of ml_X9_300 im_X9_votesFor se_X9_votesFor ini_X9 cd_X9_votesFor (by decide +kernel)
def w_X9_vote_49 (x_4 : Int32) (q_5 : Nat) (P : Int32 → zSto → Prop)  : Nat → Int32 → Int32 → Int32 → zSto → Prop
  | 0, _, _, _, _ => False
  | n + 1, x_6, x_7, x_8, σ => (((4 : Int32) ≤ x_8 → ((x_4 = 0 → P x_6 σ) ∧ (¬ x_4 = 0 → P x_7 σ))) ∧ (¬ (4 : Int32) ≤ x_8 → (w_X9_votesFor q_5 x_8 σ (fun (r8 : Int32) (σ7 : zSto) => ((r8 ≤ x_7 → (∀ x9 : Int32, x9 = (x_8 + (1 : Int32)) → w_X9_vote_49 x_4 q_5 P n x_6 x_7 x9 σ7)) ∧ (¬ r8 ≤ x_7 → (∀ x10 : Int32, x10 = (x_8 + (1 : Int32)) → w_X9_vote_49 x_4 q_5 P n x_8 r8 x10 σ7)))))))
def w_X9_vote (a1 : Int32) (a2 : Int32) (a3 : Int32) (a4 : Int32) (σ : zSto) (P : Int32 → zSto → Prop) : Prop := (w_X8_lineAt 1 a1 σ (fun (q2 : Option Nat) (σ1 : zSto) => ((q2 = none → P (-1 : Int32) σ1) ∧ (∀ j3 : Nat, q2 = some j3 → zIsLine j3 ∧ (((σ1.1 j3 12) = 0 → P (-1 : Int32) σ1) ∧ (¬ (σ1.1 j3 12) = 0 → (w_X9_isWeek a3 σ1 (fun (r5 : Int32) (σ4 : zSto) => (r5 = 0 ∨ r5 = 1) → ((¬ r5 = 0 → (w_X9_fillGainsByLaw j3 a2 a3 σ4 (fun (σ6 : zSto) => (∃ n : Nat, w_X9_vote_49 a4 j3 P  n (0 : Int32) (-1 : Int32) (0 : Int32) σ6)))) ∧ (r5 = 0 → P (-1 : Int32) σ4))))))))))
set_option maxRecDepth 100000 in
set_option maxHeartbeats 4000000 in
theorem k_X9_vote_49 {p : Program} {l : Launch} {e : Env} {s : State} {m : MethodId} {args : Array Value} {below : List Frame} {meth : Method} {c : Code} {D : va_G} {cy : Nat → ClassId} {g : Nat → Nat} (C : zC p s m args meth c cX9_vote RX9 10 D cy g) (hr : meth.sig.returnType = (some .int)) {P : Int32 → zSto → Prop} (x_4 : Int32) (q_5 : Nat) (hq_5 : zIsLine q_5)   : ∀ (n : Nat) (x_6 : Int32) (x_7 : Int32) (x_8 : Int32) (σ : zSto), w_X9_vote_49 x_4 q_5 P n x_6 x_7 x_8 σ → zX p l e (zrm 5 160) s m args below meth c 0 0 (zQi P below args s D cy g) 10 D cy g 49 [(0, .ref (g 0)), (4, .int x_4), (5, .ref (g q_5)), (6, .int x_6), (7, .int x_7), (8, .int x_8)] [] σ := by
  intro n
  induction n with
  | zero => intro x_6 x_7 x_8 σ h; exact h.elim
  | succ n ih =>
    intro x_6 x_7 x_8 σ h
    unfold w_X9_vote_49 at h
    refine zx_iload C dX9_vote_49 5 rfl ?_
    refine zx_iconst (v := (4 : Int32)) C dX9_vote_51 (by decide) ?_
    refine zx_icmp_ge C 86 dX9_vote_52 (by decide) (fun q => ?_) (fun q => ?_)
    · replace h := h.1 q
      refine zx_iload C dX9_vote_86 1 rfl ?_
      refine zx_if_eq C 96 dX9_vote_88 (by decide) (fun q => ?_) (fun q => ?_)
      · replace h := h.1 q
        refine zx_iload C dX9_vote_96 3 rfl ?_
        exact zx_iret C hr dX9_vote_98 h
      · replace h := h.2 q
        refine zx_iload C dX9_vote_91 4 rfl ?_
        refine zx_goto C 98 dX9_vote_93 (by decide) ?_
        exact zx_iret C hr dX9_vote_98 h
    · replace h := h.2 q
      refine zx_aload_n C dX9_vote_55 0 rfl ?_
      refine zx_aload C dX9_vote_56 2 rfl ?_
      refine zx_iload C dX9_vote_58 5 rfl ?_
      refine zx_cVi C [.ref (g q_5), .int x_8] lk_X9_300 (c_X9_votesFor l D cy g q_5 x_8 hq_5 σ h) zs_0 rfl ⟨by decide, by decide⟩ ⟨rfl, rfl⟩ ⟨Nat.zero_le _, Nat.zero_le _⟩ rfl rfl (Nat.le_of_ble_eq_true rfl) dX9_vote_60 (fun r8 σ7 h => ?_)
      refine zx_istore (lv' := [(9, .int r8), (0, .ref (g 0)), (4, .int x_4), (5, .ref (g q_5)), (6, .int x_6), (7, .int x_7), (8, .int x_8)]) C dX9_vote_63 (by decide) rfl ?_
      refine zx_iload C dX9_vote_65 0 rfl ?_
      refine zx_iload C dX9_vote_67 5 rfl ?_
      refine zx_icmp_le C 80 dX9_vote_69 (by decide) (fun q => ?_) (fun q => ?_)
      · replace h := h.1 q
        obtain ⟨x9, ex9⟩ : ∃ y : Int32, y = (x_8 + (1 : Int32)) := ⟨_, rfl⟩
        replace h := h x9 ex9
        refine zx_iinc (v := x9) (lv' := [(8, .int x9), (9, .int r8), (0, .ref (g 0)), (4, .int x_4), (5, .ref (g q_5)), (6, .int x_6), (7, .int x_7)]) C dX9_vote_80 6 rfl (by rw [ex9]; rfl) (by decide) rfl ?_
        refine zx_goto C 49 dX9_vote_83 (by decide) ?_
        refine zx_lv (lv' := [(0, .ref (g 0)), (4, .int x_4), (5, .ref (g q_5)), (6, .int x_6), (7, .int x_7), (8, .int x9)]) [2, 3, 4, 5, 6, 0] rfl ?_
        exact ih x_6 x_7 x9 σ7 h
      · replace h := h.2 q
        refine zx_iload C dX9_vote_72 6 rfl ?_
        refine zx_istore (lv' := [(6, .int x_8), (9, .int r8), (0, .ref (g 0)), (4, .int x_4), (5, .ref (g q_5)), (7, .int x_7), (8, .int x_8)]) C dX9_vote_74 (by decide) rfl ?_
        refine zx_iload C dX9_vote_76 1 rfl ?_
        refine zx_istore (lv' := [(7, .int r8), (6, .int x_8), (9, .int r8), (0, .ref (g 0)), (4, .int x_4), (5, .ref (g q_5)), (8, .int x_8)]) C dX9_vote_78 (by decide) rfl ?_
        obtain ⟨x10, ex10⟩ : ∃ y : Int32, y = (x_8 + (1 : Int32)) := ⟨_, rfl⟩
        replace h := h x10 ex10
        refine zx_iinc (v := x10) (lv' := [(8, .int x10), (7, .int r8), (6, .int x_8), (9, .int r8), (0, .ref (g 0)), (4, .int x_4), (5, .ref (g q_5))]) C dX9_vote_80 6 rfl (by rw [ex10]; rfl) (by decide) rfl ?_
        refine zx_goto C 49 dX9_vote_83 (by decide) ?_
        refine zx_lv (lv' := [(0, .ref (g 0)), (4, .int x_4), (5, .ref (g q_5)), (6, .int x_8), (7, .int r8), (8, .int x10)]) [4, 5, 6, 2, 1, 0] rfl ?_
        exact ih x_8 r8 x10 σ7 h
set_option maxRecDepth 100000 in
set_option maxHeartbeats 4000000 in
theorem c_X9_vote (l : Launch) (D : va_G) (cy : Nat → ClassId) (g : Nat → Nat) (a1 : Int32) (a2 : Int32) (a3 : Int32) (a4 : Int32)  (σ : zSto) {P : Int32 → zSto → Prop} (h : w_X9_vote a1 a2 a3 a4 σ P) : zMi l yX9_vote cX9_vote 10 (some .int) (zrm 5 160) D cy g [.ref (g 0), .int a1, .int a2, .int a3, .int a4] σ P := by
  unfold w_X9_vote at h
  refine zm_i RX9 rfl (by decide +kernel) (Nat.le_of_ble_eq_true rfl) ?_
  intro p e s m below meth c C hr
  refine zx_lv (lv' := [(0, .ref (g 0)), (1, .int a1), (2, .int a2), (3, .int a3), (4, .int a4)]) [0, 1, 2, 3, 4] rfl ?_
  refine zx_aload_n C dX9_vote_0 0 rfl ?_
  refine zx_getR C zs_0 fg_X9_12 rfl 1 rfl dX9_vote_1 ?_
  refine zx_iload_n C dX9_vote_4 1 rfl ?_
  refine zx_cVq C [.int a1] lk_X9_121 (c_X8_lineAt l D cy g 1 a1 zIsState_1 σ h) zIsState_1.1 rfl ⟨by decide, by decide⟩ ⟨rfl, rfl⟩ ⟨Nat.zero_le _, Nat.zero_le _⟩ rfl rfl (Nat.le_of_ble_eq_true rfl) dX9_vote_5 (fun σ1 h => ?_) (fun j3 σ1 h => ?_)
  · replace h := h.1 rfl
    refine zx_astoreN (lv' := [(5, .null), (0, .ref (g 0)), (1, .int a1), (2, .int a2), (3, .int a3), (4, .int a4)]) C dX9_vote_8 (by decide) rfl ?_
    refine zx_aloadN C dX9_vote_10 0 rfl ?_
    refine zx_ifnullN C 30 dX9_vote_12 (by decide) ?_
    refine zx_iconst (v := (-1 : Int32)) C dX9_vote_30 (by decide) ?_
    exact zx_iret C hr dX9_vote_31 h
  · obtain ⟨hj3, h⟩ := h.2 j3 rfl
    refine zx_astore (lv' := [(5, .ref (g j3)), (0, .ref (g 0)), (1, .int a1), (2, .int a2), (3, .int a3), (4, .int a4)]) C dX9_vote_8 (by decide) rfl ?_
    refine zx_aload C dX9_vote_10 0 rfl ?_
    refine zx_ifnull C dX9_vote_12 ?_
    refine zx_aload C dX9_vote_15 0 rfl ?_
    refine zx_getI C hj3.1 fg_X9_128 rfl dX9_vote_17 ?_
    refine zx_if_eq C 30 dX9_vote_20 (by decide) (fun q => ?_) (fun q => ?_)
    · replace h := h.1 q
      refine zx_iconst (v := (-1 : Int32)) C dX9_vote_30 (by decide) ?_
      exact zx_iret C hr dX9_vote_31 h
    · replace h := h.2 q
      refine zx_iload_n C dX9_vote_23 4 rfl ?_
      refine zx_cSb C [.int a3] lk_X9_254 (c_X9_isWeek l D cy g a3  σ1 h) ⟨by decide, by decide⟩ ⟨rfl, rfl⟩ ⟨Nat.zero_le _, Nat.zero_le _⟩ rfl rfl (Nat.le_of_ble_eq_true rfl) dX9_vote_24 (fun r5 σ4 hb h => ?_)
      replace h := h hb
      refine zx_if_ne C 32 dX9_vote_27 (by decide) (fun q => ?_) (fun q => ?_)
      · replace h := h.1 q
        refine zx_aload_n C dX9_vote_32 1 rfl ?_
        refine zx_aload C dX9_vote_33 0 rfl ?_
        refine zx_iload_n C dX9_vote_35 3 rfl ?_
        refine zx_iload_n C dX9_vote_36 4 rfl ?_
        refine zx_cVv C [.ref (g j3), .int a2, .int a3] lk_X9_296 (c_X9_fillGainsByLaw l D cy g j3 a2 a3 hj3 σ4 h) zs_0 rfl ⟨by decide, by decide⟩ ⟨rfl, rfl⟩ ⟨Nat.zero_le _, Nat.zero_le _⟩ rfl rfl (Nat.le_of_ble_eq_true rfl) dX9_vote_37 (fun σ6 h => ?_)
        refine zx_iconst (v := (0 : Int32)) C dX9_vote_40 (by decide) ?_
        refine zx_istore (lv' := [(6, .int (0 : Int32)), (5, .ref (g j3)), (0, .ref (g 0)), (1, .int a1), (2, .int a2), (3, .int a3), (4, .int a4)]) C dX9_vote_41 (by decide) rfl ?_
        refine zx_iconst (v := (-1 : Int32)) C dX9_vote_43 (by decide) ?_
        refine zx_istore (lv' := [(7, .int (-1 : Int32)), (6, .int (0 : Int32)), (5, .ref (g j3)), (0, .ref (g 0)), (1, .int a1), (2, .int a2), (3, .int a3), (4, .int a4)]) C dX9_vote_44 (by decide) rfl ?_
        refine zx_iconst (v := (0 : Int32)) C dX9_vote_46 (by decide) ?_
        refine zx_istore (lv' := [(8, .int (0 : Int32)), (7, .int (-1 : Int32)), (6, .int (0 : Int32)), (5, .ref (g j3)), (0, .ref (g 0)), (1, .int a1), (2, .int a2), (3, .int a3), (4, .int a4)]) C dX9_vote_47 (by decide) rfl ?_
        obtain ⟨n, h⟩ := h
        refine zx_lv (lv' := [(0, .ref (g 0)), (4, .int a4), (5, .ref (g j3)), (6, .int (0 : Int32)), (7, .int (-1 : Int32)), (8, .int (0 : Int32))]) [4, 8, 3, 2, 1, 0] rfl ?_
        exact k_X9_vote_49 C hr (a4) (j3) hj3  n (0 : Int32) (-1 : Int32) (0 : Int32) σ6 h
      · replace h := h.2 q
        refine zx_iconst (v := (-1 : Int32)) C dX9_vote_30 (by decide) ?_
        exact zx_iret C hr dX9_vote_31 h
def w_X9_bestChoice_11 (x_1 : Int32) (x_2 : Int32) (x_3 : Int32) (q_4 : Nat) (m_4 : Nat) (x_6 : Int32) (P : Int32 → zSto → Prop)  : Nat → Int32 → Int32 → Int32 → zSto → Prop
  | 0, _, _, _, _ => False
  | n + 1, x_7, x_8, x_9, σ => ((x_6 < x_9 → P x_7 σ) ∧ (¬ x_6 < x_9 → (vp_in x_2 m_4 ∧ (∀ σ2 : zSto, σ2 = zI σ q_4 (x_2).toNatClampNeg x_9 → (w_X5_byLaw 210 x_3 (0 : Int32) x_1 (-1 : Int32) σ2 (fun (σ3 : zSto) => (vp_in x_2 6 ∧ (((σ3.1 193 (x_2).toNatClampNeg) ≤ x_8 → (∀ x5 : Int32, x5 = (x_9 + (1 : Int32)) → w_X9_bestChoice_11 x_1 x_2 x_3 q_4 m_4 x_6 P n x_7 x_8 x5 σ3)) ∧ (¬ (σ3.1 193 (x_2).toNatClampNeg) ≤ x_8 → (vp_in x_2 6 ∧ (∀ x7 : Int32, x7 = (σ3.1 193 (x_2).toNatClampNeg) → (∀ x8 : Int32, x8 = (x_9 + (1 : Int32)) → w_X9_bestChoice_11 x_1 x_2 x_3 q_4 m_4 x_6 P n x_9 x7 x8 σ3))))))))))))
def w_X9_bestChoice (a1 : Int32) (a2 : Int32) (a3 : Int32) (b4 n4 : Nat) (a5 : Int32) (a6 : Int32) (σ : zSto) (P : Int32 → zSto → Prop) : Prop := (∃ n : Nat, w_X9_bestChoice_11 a1 a2 a3 b4 n4 a6 P  n a5 (-1 : Int32) a5 σ)
set_option maxRecDepth 100000 in
set_option maxHeartbeats 4000000 in
theorem k_X9_bestChoice_11 {p : Program} {l : Launch} {e : Env} {s : State} {m : MethodId} {args : Array Value} {below : List Frame} {meth : Method} {c : Code} {D : va_G} {cy : Nat → ClassId} {g : Nat → Nat} (C : zC p s m args meth c cX9_bestChoice RX9 10 D cy g) (hr : meth.sig.returnType = (some .int)) {P : Int32 → zSto → Prop} (x_1 : Int32) (x_2 : Int32) (x_3 : Int32) (q_4 : Nat) (m_4 : Nat) (x_6 : Int32) (hq_4 : zsh q_4 = za 0 m_4)   : ∀ (n : Nat) (x_7 : Int32) (x_8 : Int32) (x_9 : Int32) (σ : zSto), w_X9_bestChoice_11 x_1 x_2 x_3 q_4 m_4 x_6 P n x_7 x_8 x_9 σ → zX p l e (zrm 4 136) s m args below meth c 0 0 (zQi P below args s D cy g) 10 D cy g 11 [(0, .ref (g 0)), (1, .int x_1), (2, .int x_2), (3, .int x_3), (4, .ref (g q_4)), (6, .int x_6), (7, .int x_7), (8, .int x_8), (9, .int x_9)] [] σ := by
  intro n
  induction n with
  | zero => intro x_7 x_8 x_9 σ h; exact h.elim
  | succ n ih =>
    intro x_7 x_8 x_9 σ h
    unfold w_X9_bestChoice_11 at h
    refine zx_iload C dX9_bestChoice_11 8 rfl ?_
    refine zx_iload C dX9_bestChoice_13 5 rfl ?_
    refine zx_icmp_gt C 74 dX9_bestChoice_15 (by decide) (fun q => ?_) (fun q => ?_)
    · replace h := h.1 q
      refine zx_iload C dX9_bestChoice_74 6 rfl ?_
      exact zx_iret C hr dX9_bestChoice_76 h
    · replace h := h.2 q
      refine zx_aload C dX9_bestChoice_18 4 rfl ?_
      refine zx_iload_n C dX9_bestChoice_20 2 rfl ?_
      refine zx_iload C dX9_bestChoice_21 8 rfl ?_
      obtain ⟨bd1, h⟩ := h
      refine zx_iast C (x_2).toNatClampNeg hq_4 bd1 rfl dX9_bestChoice_23 ?_
      refine zx_sig (fun σ2 eσ2 => ?_)
      replace h := h σ2 eσ2
      refine zx_aload_n C dX9_bestChoice_24 0 rfl ?_
      refine zx_getR C zs_0 fg_X9_34 rfl 190 rfl dX9_bestChoice_25 ?_
      refine zx_aload_n C dX9_bestChoice_28 0 rfl ?_
      refine zx_getR C zs_0 fg_X9_69 rfl 210 rfl dX9_bestChoice_29 ?_
      refine zx_iload_n C dX9_bestChoice_32 3 rfl ?_
      refine zx_iconst (v := (0 : Int32)) C dX9_bestChoice_33 (by decide) ?_
      refine zx_iload_n C dX9_bestChoice_34 1 rfl ?_
      refine zx_iconst (v := (-1 : Int32)) C dX9_bestChoice_35 (by decide) ?_
      refine zx_cVv C [.ref (g 210), .int x_3, .int (0 : Int32), .int x_1, .int (-1 : Int32)] lk_X9_261 (c_X5_byLaw l D cy g 210 x_3 (0 : Int32) x_1 (-1 : Int32) zIsLine_210 σ2 h) zs_190 rfl ⟨by decide, by decide⟩ ⟨rfl, rfl⟩ ⟨Nat.zero_le _, Nat.zero_le _⟩ rfl rfl (Nat.le_of_ble_eq_true rfl) dX9_bestChoice_36 (fun σ3 h => ?_)
      refine zx_aload_n C dX9_bestChoice_39 0 rfl ?_
      refine zx_getR C zs_0 fg_X9_34 rfl 190 rfl dX9_bestChoice_40 ?_
      refine zx_getR C zs_190 fg_X9_214 rfl 193 rfl dX9_bestChoice_43 ?_
      refine zx_iload_n C dX9_bestChoice_46 2 rfl ?_
      obtain ⟨bd4, h⟩ := h
      refine zx_iald C (x_2).toNatClampNeg zs_193 bd4 rfl dX9_bestChoice_47 ?_
      refine zx_iload C dX9_bestChoice_48 7 rfl ?_
      refine zx_icmp_le C 68 dX9_bestChoice_50 (by decide) (fun q => ?_) (fun q => ?_)
      · replace h := h.1 q
        obtain ⟨x5, ex5⟩ : ∃ y : Int32, y = (x_9 + (1 : Int32)) := ⟨_, rfl⟩
        replace h := h x5 ex5
        refine zx_iinc (v := x5) (lv' := [(9, .int x5), (0, .ref (g 0)), (1, .int x_1), (2, .int x_2), (3, .int x_3), (4, .ref (g q_4)), (6, .int x_6), (7, .int x_7), (8, .int x_8)]) C dX9_bestChoice_68 8 rfl (by rw [ex5]; rfl) (by decide) rfl ?_
        refine zx_goto C 11 dX9_bestChoice_71 (by decide) ?_
        refine zx_lv (lv' := [(0, .ref (g 0)), (1, .int x_1), (2, .int x_2), (3, .int x_3), (4, .ref (g q_4)), (6, .int x_6), (7, .int x_7), (8, .int x_8), (9, .int x5)]) [1, 2, 3, 4, 5, 6, 7, 8, 0] rfl ?_
        exact ih x_7 x_8 x5 σ3 h
      · replace h := h.2 q
        refine zx_iload C dX9_bestChoice_53 8 rfl ?_
        refine zx_istore (lv' := [(7, .int x_9), (0, .ref (g 0)), (1, .int x_1), (2, .int x_2), (3, .int x_3), (4, .ref (g q_4)), (6, .int x_6), (8, .int x_8), (9, .int x_9)]) C dX9_bestChoice_55 (by decide) rfl ?_
        refine zx_aload_n C dX9_bestChoice_57 1 rfl ?_
        refine zx_getR C zs_0 fg_X9_34 rfl 190 rfl dX9_bestChoice_58 ?_
        refine zx_getR C zs_190 fg_X9_214 rfl 193 rfl dX9_bestChoice_61 ?_
        refine zx_iload_n C dX9_bestChoice_64 3 rfl ?_
        obtain ⟨bd6, h⟩ := h
        refine zx_iald C (x_2).toNatClampNeg zs_193 bd6 rfl dX9_bestChoice_65 ?_
        refine zx_topi (fun x7 ex7 => ?_)
        replace h := h x7 ex7
        refine zx_istore (lv' := [(8, .int x7), (7, .int x_9), (0, .ref (g 0)), (1, .int x_1), (2, .int x_2), (3, .int x_3), (4, .ref (g q_4)), (6, .int x_6), (9, .int x_9)]) C dX9_bestChoice_66 (by decide) rfl ?_
        obtain ⟨x8, ex8⟩ : ∃ y : Int32, y = (x_9 + (1 : Int32)) := ⟨_, rfl⟩
        replace h := h x8 ex8
        refine zx_iinc (v := x8) (lv' := [(9, .int x8), (8, .int x7), (7, .int x_9), (0, .ref (g 0)), (1, .int x_1), (2, .int x_2), (3, .int x_3), (4, .ref (g q_4)), (6, .int x_6)]) C dX9_bestChoice_68 8 rfl (by rw [ex8]; rfl) (by decide) rfl ?_
        refine zx_goto C 11 dX9_bestChoice_71 (by decide) ?_
        refine zx_lv (lv' := [(0, .ref (g 0)), (1, .int x_1), (2, .int x_2), (3, .int x_3), (4, .ref (g q_4)), (6, .int x_6), (7, .int x_9), (8, .int x7), (9, .int x8)]) [3, 4, 5, 6, 7, 8, 2, 1, 0] rfl ?_
        exact ih x_9 x7 x8 σ3 h
set_option maxRecDepth 100000 in
set_option maxHeartbeats 4000000 in
theorem c_X9_bestChoice (l : Launch) (D : va_G) (cy : Nat → ClassId) (g : Nat → Nat) (a1 : Int32) (a2 : Int32) (a3 : Int32) (b4 n4 : Nat) (a5 : Int32) (a6 : Int32) (hb4 : zsh b4 = za 0 n4) (σ : zSto) {P : Int32 → zSto → Prop} (h : w_X9_bestChoice a1 a2 a3 b4 n4 a5 a6 σ P) : zMi l yX9_bestChoice cX9_bestChoice 10 (some .int) (zrm 4 136) D cy g [.ref (g 0), .int a1, .int a2, .int a3, .ref (g b4), .int a5, .int a6] σ P := by
  unfold w_X9_bestChoice at h
  refine zm_i RX9 rfl (by decide +kernel) (Nat.le_of_ble_eq_true rfl) ?_
  intro p e s m below meth c C hr
  refine zx_lv (lv' := [(0, .ref (g 0)), (1, .int a1), (2, .int a2), (3, .int a3), (4, .ref (g b4)), (5, .int a5), (6, .int a6)]) [0, 1, 2, 3, 4, 5, 6] rfl ?_
  refine zx_iload C dX9_bestChoice_0 5 rfl ?_
  refine zx_istore (lv' := [(7, .int a5), (0, .ref (g 0)), (1, .int a1), (2, .int a2), (3, .int a3), (4, .ref (g b4)), (5, .int a5), (6, .int a6)]) C dX9_bestChoice_2 (by decide) rfl ?_
  refine zx_iconst (v := (-1 : Int32)) C dX9_bestChoice_4 (by decide) ?_
  refine zx_istore (lv' := [(8, .int (-1 : Int32)), (7, .int a5), (0, .ref (g 0)), (1, .int a1), (2, .int a2), (3, .int a3), (4, .ref (g b4)), (5, .int a5), (6, .int a6)]) C dX9_bestChoice_5 (by decide) rfl ?_
  refine zx_iload C dX9_bestChoice_7 7 rfl ?_
  refine zx_istore (lv' := [(9, .int a5), (8, .int (-1 : Int32)), (7, .int a5), (0, .ref (g 0)), (1, .int a1), (2, .int a2), (3, .int a3), (4, .ref (g b4)), (5, .int a5), (6, .int a6)]) C dX9_bestChoice_9 (by decide) rfl ?_
  obtain ⟨n, h⟩ := h
  refine zx_lv (lv' := [(0, .ref (g 0)), (1, .int a1), (2, .int a2), (3, .int a3), (4, .ref (g b4)), (6, .int a6), (7, .int a5), (8, .int (-1 : Int32)), (9, .int a5)]) [3, 4, 5, 6, 7, 9, 2, 1, 0] rfl ?_
  exact k_X9_bestChoice_11 C hr (a1) (a2) (a3) (b4) (n4) (a6) hb4  n a5 (-1 : Int32) a5 σ h
theorem lk_X9_306 : zLV RX9 306 RX9 yX9_bestChoice cX9_bestChoice 10 (some .int) 6 := zLV_of ml_X9_306 im_X9_bestChoice se_X9_bestChoice ini_X9 cd_X9_bestChoice (by decide +kernel)
def w_X9_bid (a1 : Int32) (a2 : Int32) (a3 : Int32) (a4 : Int32) (σ : zSto) (P : Int32 → zSto → Prop) : Prop := (w_X8_lineAt 1 a1 σ (fun (q2 : Option Nat) (σ1 : zSto) => ((q2 = none → P (-1 : Int32) σ1) ∧ (∀ j3 : Nat, q2 = some j3 → zIsLine j3 ∧ (w_X9_isWeek a2 σ1 (fun (r5 : Int32) (σ4 : zSto) => (r5 = 0 ∨ r5 = 1) → ((r5 = 0 → P (-1 : Int32) σ4) ∧ (¬ r5 = 0 → (w_X0_hasRider j3 a3 σ4 (fun (r7 : Int32) (σ6 : zSto) => (r7 = 0 ∨ r7 = 1) → ((¬ r7 = 0 → (w_X0_copyFrom 210 j3 σ6 (fun (σ8 : zSto) => ((a4 = 0 → (w_X9_bestChoice a2 a3 (3 : Int32) 221 6 (0 : Int32) (9 : Int32) σ8 (fun (r10 : Int32) (σ9 : zSto) => P r10 σ9))) ∧ (a4 = 1 → (w_X9_bestChoice a2 a3 (0 : Int32) 218 6 (1 : Int32) (60 : Int32) σ8 (fun (r12 : Int32) (σ11 : zSto) => P r12 σ11))) ∧ (a4 = 2 → (w_X9_bestChoice a2 a3 (0 : Int32) 220 6 (0 : Int32) (200 : Int32) σ8 (fun (r14 : Int32) (σ13 : zSto) => P r14 σ13))) ∧ ((a4.toInt < 0 ∨ 2 < a4.toInt) → P (-1 : Int32) σ8))))) ∧ (r7 = 0 → P (-1 : Int32) σ6))))))))))))
set_option maxRecDepth 100000 in
set_option maxHeartbeats 4000000 in
theorem c_X9_bid (l : Launch) (D : va_G) (cy : Nat → ClassId) (g : Nat → Nat) (a1 : Int32) (a2 : Int32) (a3 : Int32) (a4 : Int32)  (σ : zSto) {P : Int32 → zSto → Prop} (h : w_X9_bid a1 a2 a3 a4 σ P) : zMi l yX9_bid cX9_bid 6 (some .int) (zrm 5 165) D cy g [.ref (g 0), .int a1, .int a2, .int a3, .int a4] σ P := by
  unfold w_X9_bid at h
  refine zm_i RX9 rfl (by decide +kernel) (Nat.le_of_ble_eq_true rfl) ?_
  intro p e s m below meth c C hr
  refine zx_lv (lv' := [(0, .ref (g 0)), (1, .int a1), (2, .int a2), (3, .int a3), (4, .int a4)]) [0, 1, 2, 3, 4] rfl ?_
  refine zx_aload_n C dX9_bid_0 0 rfl ?_
  refine zx_getR C zs_0 fg_X9_12 rfl 1 rfl dX9_bid_1 ?_
  refine zx_iload_n C dX9_bid_4 1 rfl ?_
  refine zx_cVq C [.int a1] lk_X9_121 (c_X8_lineAt l D cy g 1 a1 zIsState_1 σ h) zIsState_1.1 rfl ⟨by decide, by decide⟩ ⟨rfl, rfl⟩ ⟨Nat.zero_le _, Nat.zero_le _⟩ rfl rfl (Nat.le_of_ble_eq_true rfl) dX9_bid_5 (fun σ1 h => ?_) (fun j3 σ1 h => ?_)
  · replace h := h.1 rfl
    refine zx_astoreN (lv' := [(5, .null), (0, .ref (g 0)), (1, .int a1), (2, .int a2), (3, .int a3), (4, .int a4)]) C dX9_bid_8 (by decide) rfl ?_
    refine zx_aloadN C dX9_bid_10 0 rfl ?_
    refine zx_ifnullN C 31 dX9_bid_12 (by decide) ?_
    refine zx_iconst (v := (-1 : Int32)) C dX9_bid_31 (by decide) ?_
    exact zx_iret C hr dX9_bid_32 h
  · obtain ⟨hj3, h⟩ := h.2 j3 rfl
    refine zx_astore (lv' := [(5, .ref (g j3)), (0, .ref (g 0)), (1, .int a1), (2, .int a2), (3, .int a3), (4, .int a4)]) C dX9_bid_8 (by decide) rfl ?_
    refine zx_aload C dX9_bid_10 0 rfl ?_
    refine zx_ifnull C dX9_bid_12 ?_
    refine zx_iload_n C dX9_bid_15 3 rfl ?_
    refine zx_cSb C [.int a2] lk_X9_254 (c_X9_isWeek l D cy g a2  σ1 h) ⟨by decide, by decide⟩ ⟨rfl, rfl⟩ ⟨Nat.zero_le _, Nat.zero_le _⟩ rfl rfl (Nat.le_of_ble_eq_true rfl) dX9_bid_16 (fun r5 σ4 hb h => ?_)
    replace h := h hb
    refine zx_if_eq C 31 dX9_bid_19 (by decide) (fun q => ?_) (fun q => ?_)
    · replace h := h.1 q
      refine zx_iconst (v := (-1 : Int32)) C dX9_bid_31 (by decide) ?_
      exact zx_iret C hr dX9_bid_32 h
    · replace h := h.2 q
      refine zx_aload C dX9_bid_22 0 rfl ?_
      refine zx_iload_n C dX9_bid_24 4 rfl ?_
      refine zx_cVb C [.int a3] lk_X9_174 (c_X0_hasRider l D cy g j3 a3 hj3 σ4 h) hj3.1 rfl ⟨by decide, by decide⟩ ⟨rfl, rfl⟩ ⟨Nat.zero_le _, Nat.zero_le _⟩ rfl rfl (Nat.le_of_ble_eq_true rfl) dX9_bid_25 (fun r7 σ6 hb h => ?_)
      replace h := h hb
      refine zx_if_ne C 33 dX9_bid_28 (by decide) (fun q => ?_) (fun q => ?_)
      · replace h := h.1 q
        refine zx_aload_n C dX9_bid_33 1 rfl ?_
        refine zx_getR C zs_0 fg_X9_69 rfl 210 rfl dX9_bid_34 ?_
        refine zx_aload C dX9_bid_37 0 rfl ?_
        refine zx_cVv C [.ref (g j3)] lk_X9_303 (c_X0_copyFrom l D cy g 210 j3 zIsLine_210 hj3 σ6 h) zIsLine_210.1 rfl ⟨by decide, by decide⟩ ⟨rfl, rfl⟩ ⟨Nat.zero_le _, Nat.zero_le _⟩ rfl rfl (Nat.le_of_ble_eq_true rfl) dX9_bid_39 (fun σ8 h => ?_)
        refine zx_iload C dX9_bid_42 5 rfl ?_
        refine zsw (x := a4) 2 (fun q => ?_) (fun i hi q => ?_)
        · replace h := h.2.2.2 q
          refine zx_tableOut C 127 dX9_bid_44 q (by decide) ?_
          refine zx_iconst (v := (-1 : Int32)) C dX9_bid_127 (by decide) ?_
          exact zx_iret C hr dX9_bid_128 h
        · match i, hi, q with
          | 0, _, q =>
            replace h := h.1 q
            refine zx_tableIn C 72 (0 : Int32) q dX9_bid_44 (by decide) (by decide) rfl (by decide) ?_
            refine zx_aload_n C dX9_bid_72 1 rfl ?_
            refine zx_iload_n C dX9_bid_73 3 rfl ?_
            refine zx_iload_n C dX9_bid_74 4 rfl ?_
            refine zx_iconst (v := (3 : Int32)) C dX9_bid_75 (by decide) ?_
            refine zx_aload_n C dX9_bid_76 1 rfl ?_
            refine zx_getR C zs_0 fg_X9_69 rfl 210 rfl dX9_bid_77 ?_
            refine zx_getR C zIsLine_210.1 fg_X9_192 rfl 221 rfl dX9_bid_80 ?_
            refine zx_iconst (v := (0 : Int32)) C dX9_bid_83 (by decide) ?_
            refine zx_bipush (v := (9 : Int32)) C dX9_bid_84 (by decide) ?_
            refine zx_cVi C [.int a2, .int a3, .int (3 : Int32), .ref (g 221), .int (0 : Int32), .int (9 : Int32)] lk_X9_306 (c_X9_bestChoice l D cy g a2 a3 (3 : Int32) 221 6 (0 : Int32) (9 : Int32) zIsLine_210.2.2.2.2.2.2.2.2.2.2.2 σ8 h) zs_0 rfl ⟨by decide, by decide⟩ ⟨rfl, rfl⟩ ⟨Nat.zero_le _, Nat.zero_le _⟩ rfl rfl (Nat.le_of_ble_eq_true rfl) dX9_bid_86 (fun r10 σ9 h => ?_)
            exact zx_iret C hr dX9_bid_89 h
          | 1, _, q =>
            replace h := h.2.1 q
            refine zx_tableIn C 90 (1 : Int32) q dX9_bid_44 (by decide) (by decide) rfl (by decide) ?_
            refine zx_aload_n C dX9_bid_90 1 rfl ?_
            refine zx_iload_n C dX9_bid_91 3 rfl ?_
            refine zx_iload_n C dX9_bid_92 4 rfl ?_
            refine zx_iconst (v := (0 : Int32)) C dX9_bid_93 (by decide) ?_
            refine zx_aload_n C dX9_bid_94 1 rfl ?_
            refine zx_getR C zs_0 fg_X9_69 rfl 210 rfl dX9_bid_95 ?_
            refine zx_getR C zIsLine_210.1 fg_X9_183 rfl 218 rfl dX9_bid_98 ?_
            refine zx_iconst (v := (1 : Int32)) C dX9_bid_101 (by decide) ?_
            refine zx_bipush (v := (60 : Int32)) C dX9_bid_102 (by decide) ?_
            refine zx_cVi C [.int a2, .int a3, .int (0 : Int32), .ref (g 218), .int (1 : Int32), .int (60 : Int32)] lk_X9_306 (c_X9_bestChoice l D cy g a2 a3 (0 : Int32) 218 6 (1 : Int32) (60 : Int32) zIsLine_210.2.2.2.2.2.2.2.2.1 σ8 h) zs_0 rfl ⟨by decide, by decide⟩ ⟨rfl, rfl⟩ ⟨Nat.zero_le _, Nat.zero_le _⟩ rfl rfl (Nat.le_of_ble_eq_true rfl) dX9_bid_104 (fun r12 σ11 h => ?_)
            exact zx_iret C hr dX9_bid_107 h
          | 2, _, q =>
            replace h := h.2.2.1 q
            refine zx_tableIn C 108 (2 : Int32) q dX9_bid_44 (by decide) (by decide) rfl (by decide) ?_
            refine zx_aload_n C dX9_bid_108 1 rfl ?_
            refine zx_iload_n C dX9_bid_109 3 rfl ?_
            refine zx_iload_n C dX9_bid_110 4 rfl ?_
            refine zx_iconst (v := (0 : Int32)) C dX9_bid_111 (by decide) ?_
            refine zx_aload_n C dX9_bid_112 1 rfl ?_
            refine zx_getR C zs_0 fg_X9_69 rfl 210 rfl dX9_bid_113 ?_
            refine zx_getR C zIsLine_210.1 fg_X9_189 rfl 220 rfl dX9_bid_116 ?_
            refine zx_iconst (v := (0 : Int32)) C dX9_bid_119 (by decide) ?_
            refine zx_sipush (v := (200 : Int32)) C dX9_bid_120 (by decide) ?_
            refine zx_cVi C [.int a2, .int a3, .int (0 : Int32), .ref (g 220), .int (0 : Int32), .int (200 : Int32)] lk_X9_306 (c_X9_bestChoice l D cy g a2 a3 (0 : Int32) 220 6 (0 : Int32) (200 : Int32) zIsLine_210.2.2.2.2.2.2.2.2.2.2.1 σ8 h) zs_0 rfl ⟨by decide, by decide⟩ ⟨rfl, rfl⟩ ⟨Nat.zero_le _, Nat.zero_le _⟩ rfl rfl (Nat.le_of_ble_eq_true rfl) dX9_bid_123 (fun r14 σ13 h => ?_)
            exact zx_iret C hr dX9_bid_126 h
          | i + 3, hi, _ => exact absurd hi (by omega)
      · replace h := h.2 q
        refine zx_iconst (v := (-1 : Int32)) C dX9_bid_31 (by decide) ?_
        exact zx_iret C hr dX9_bid_32 h
theorem fg_X9_62 : zFG RX9 62 9 8 := ⟨RX9, TX9, 11, rfl, lay_X9, by decide, fl_X9_62⟩
theorem lk_X9_310 : zLV RX9 310 RX3 yX3_fill cX3_fill 6 none 3 := zLV_of ml_X9_310 im_X3_fill se_X3_fill ini_X3 cd_X3_fill (by decide +kernel)
theorem lk_X9_313 : zLV RX9 313 RX3 yX3_bestCosts cX3_bestCosts 4 (some .int) 1 := zLV_of ml_X9_313 im_X3_bestCosts se_X3_bestCosts ini_X3 cd_X3_bestCosts (by decide +kernel)
theorem fg_X9_317 : zFG RX9 317 3 1 := ⟨RX3, TX3, 2, rfl, lay_X3, by decide, fl_X9_317⟩
theorem fg_X9_316 : zFG RX9 316 3 0 := ⟨RX3, TX3, 2, rfl, lay_X3, by decide, fl_X9_316⟩
def w_X9_purse (a1 : Int32) (a2 : Int32) (a3 : Int32) (a4 : Int32) (σ : zSto) (P : Int32 → zSto → Prop) : Prop := (w_X8_lineAt 1 a1 σ (fun (q2 : Option Nat) (σ1 : zSto) => ((q2 = none → P (-1 : Int32) σ1) ∧ (∀ j3 : Nat, q2 = some j3 → zIsLine j3 ∧ (w_X9_isWeek a2 σ1 (fun (r5 : Int32) (σ4 : zSto) => (r5 = 0 ∨ r5 = 1) → ((r5 = 0 → P (-1 : Int32) σ4) ∧ (¬ r5 = 0 → ((a3 < 0 → P (-1 : Int32) σ4) ∧ (¬ a3 < 0 → ((a3 ≤ (999 : Int32) → ((a4 < 0 → P (-1 : Int32) σ4) ∧ (¬ a4 < 0 → ((a4 ≤ (2 : Int32) → (w_X3_fill j3 a2 a3 σ4 (fun (σ6 : zSto) => (w_X3_bestCosts a3 σ6 (fun (r8 : Int32) (σ7 : zSto) => ((¬ a4 = 0 → ((¬ a4 = (1 : Int32) → P r8 σ7) ∧ (a4 = (1 : Int32) → (vp_in r8 1000 ∧ P (σ7.1 209 (r8).toNatClampNeg) σ7)))) ∧ (a4 = 0 → (vp_in r8 1000 ∧ P (σ7.1 208 (r8).toNatClampNeg) σ7)))))))) ∧ (¬ a4 ≤ (2 : Int32) → P (-1 : Int32) σ4))))) ∧ (¬ a3 ≤ (999 : Int32) → P (-1 : Int32) σ4))))))))))))
set_option maxRecDepth 100000 in
set_option maxHeartbeats 4000000 in
theorem c_X9_purse (l : Launch) (D : va_G) (cy : Nat → ClassId) (g : Nat → Nat) (a1 : Int32) (a2 : Int32) (a3 : Int32) (a4 : Int32)  (σ : zSto) {P : Int32 → zSto → Prop} (h : w_X9_purse a1 a2 a3 a4 σ P) : zMi l yX9_purse cX9_purse 7 (some .int) (zrm 3 115) D cy g [.ref (g 0), .int a1, .int a2, .int a3, .int a4] σ P := by
  unfold w_X9_purse at h
  refine zm_i RX9 rfl (by decide +kernel) (Nat.le_of_ble_eq_true rfl) ?_
  intro p e s m below meth c C hr
  refine zx_lv (lv' := [(0, .ref (g 0)), (1, .int a1), (2, .int a2), (3, .int a3), (4, .int a4)]) [0, 1, 2, 3, 4] rfl ?_
  refine zx_aload_n C dX9_purse_0 0 rfl ?_
  refine zx_getR C zs_0 fg_X9_12 rfl 1 rfl dX9_purse_1 ?_
  refine zx_iload_n C dX9_purse_4 1 rfl ?_
  refine zx_cVq C [.int a1] lk_X9_121 (c_X8_lineAt l D cy g 1 a1 zIsState_1 σ h) zIsState_1.1 rfl ⟨by decide, by decide⟩ ⟨rfl, rfl⟩ ⟨Nat.zero_le _, Nat.zero_le _⟩ rfl rfl (Nat.le_of_ble_eq_true rfl) dX9_purse_5 (fun σ1 h => ?_) (fun j3 σ1 h => ?_)
  · replace h := h.1 rfl
    refine zx_astoreN (lv' := [(5, .null), (0, .ref (g 0)), (1, .int a1), (2, .int a2), (3, .int a3), (4, .int a4)]) C dX9_purse_8 (by decide) rfl ?_
    refine zx_aloadN C dX9_purse_10 0 rfl ?_
    refine zx_ifnullN C 33 dX9_purse_12 (by decide) ?_
    refine zx_iconst (v := (-1 : Int32)) C dX9_purse_33 (by decide) ?_
    exact zx_iret C hr dX9_purse_34 h
  · obtain ⟨hj3, h⟩ := h.2 j3 rfl
    refine zx_astore (lv' := [(5, .ref (g j3)), (0, .ref (g 0)), (1, .int a1), (2, .int a2), (3, .int a3), (4, .int a4)]) C dX9_purse_8 (by decide) rfl ?_
    refine zx_aload C dX9_purse_10 0 rfl ?_
    refine zx_ifnull C dX9_purse_12 ?_
    refine zx_iload_n C dX9_purse_15 3 rfl ?_
    refine zx_cSb C [.int a2] lk_X9_254 (c_X9_isWeek l D cy g a2  σ1 h) ⟨by decide, by decide⟩ ⟨rfl, rfl⟩ ⟨Nat.zero_le _, Nat.zero_le _⟩ rfl rfl (Nat.le_of_ble_eq_true rfl) dX9_purse_16 (fun r5 σ4 hb h => ?_)
    replace h := h hb
    refine zx_if_eq C 33 dX9_purse_19 (by decide) (fun q => ?_) (fun q => ?_)
    · replace h := h.1 q
      refine zx_iconst (v := (-1 : Int32)) C dX9_purse_33 (by decide) ?_
      exact zx_iret C hr dX9_purse_34 h
    · replace h := h.2 q
      refine zx_iload_n C dX9_purse_22 4 rfl ?_
      refine zx_if_lt C 33 dX9_purse_23 (by decide) (fun q => ?_) (fun q => ?_)
      · replace h := h.1 q
        refine zx_iconst (v := (-1 : Int32)) C dX9_purse_33 (by decide) ?_
        exact zx_iret C hr dX9_purse_34 h
      · replace h := h.2 q
        refine zx_iload_n C dX9_purse_26 4 rfl ?_
        refine zx_sipush (v := (999 : Int32)) C dX9_purse_27 (by decide) ?_
        refine zx_icmp_le C 35 dX9_purse_30 (by decide) (fun q => ?_) (fun q => ?_)
        · replace h := h.1 q
          refine zx_iload C dX9_purse_35 5 rfl ?_
          refine zx_if_lt C 46 dX9_purse_37 (by decide) (fun q => ?_) (fun q => ?_)
          · replace h := h.1 q
            refine zx_iconst (v := (-1 : Int32)) C dX9_purse_46 (by decide) ?_
            exact zx_iret C hr dX9_purse_47 h
          · replace h := h.2 q
            refine zx_iload C dX9_purse_40 5 rfl ?_
            refine zx_iconst (v := (2 : Int32)) C dX9_purse_42 (by decide) ?_
            refine zx_icmp_le C 48 dX9_purse_43 (by decide) (fun q => ?_) (fun q => ?_)
            · replace h := h.1 q
              refine zx_aload_n C dX9_purse_48 1 rfl ?_
              refine zx_getR C zs_0 fg_X9_62 rfl 207 rfl dX9_purse_49 ?_
              refine zx_aload C dX9_purse_52 0 rfl ?_
              refine zx_iload_n C dX9_purse_54 3 rfl ?_
              refine zx_iload_n C dX9_purse_55 4 rfl ?_
              refine zx_cVv C [.ref (g j3), .int a2, .int a3] lk_X9_310 (c_X3_fill l D cy g j3 a2 a3 hj3 σ4 h) zs_207 rfl ⟨by decide, by decide⟩ ⟨rfl, rfl⟩ ⟨Nat.zero_le _, Nat.zero_le _⟩ rfl rfl (Nat.le_of_ble_eq_true rfl) dX9_purse_56 (fun σ6 h => ?_)
              refine zx_aload_n C dX9_purse_59 1 rfl ?_
              refine zx_getR C zs_0 fg_X9_62 rfl 207 rfl dX9_purse_60 ?_
              refine zx_iload_n C dX9_purse_63 4 rfl ?_
              refine zx_cVi C [.int a3] lk_X9_313 (c_X3_bestCosts l D cy g a3  σ6 h) zs_207 rfl ⟨by decide, by decide⟩ ⟨rfl, rfl⟩ ⟨Nat.zero_le _, Nat.zero_le _⟩ rfl rfl (Nat.le_of_ble_eq_true rfl) dX9_purse_64 (fun r8 σ7 h => ?_)
              refine zx_istore (lv' := [(6, .int r8), (5, .ref (g j3)), (0, .ref (g 0)), (1, .int a1), (2, .int a2), (3, .int a3), (4, .int a4)]) C dX9_purse_67 (by decide) rfl ?_
              refine zx_iload C dX9_purse_69 6 rfl ?_
              refine zx_if_ne C 85 dX9_purse_71 (by decide) (fun q => ?_) (fun q => ?_)
              · replace h := h.1 q
                refine zx_iload C dX9_purse_85 6 rfl ?_
                refine zx_iconst (v := (1 : Int32)) C dX9_purse_87 (by decide) ?_
                refine zx_icmp_ne C 104 dX9_purse_88 (by decide) (fun q => ?_) (fun q => ?_)
                · replace h := h.1 q
                  refine zx_iload C dX9_purse_104 0 rfl ?_
                  exact zx_iret C hr dX9_purse_106 h
                · replace h := h.2 q
                  refine zx_aload_n C dX9_purse_91 2 rfl ?_
                  refine zx_getR C zs_0 fg_X9_62 rfl 207 rfl dX9_purse_92 ?_
                  refine zx_getR C zs_207 fg_X9_317 rfl 209 rfl dX9_purse_95 ?_
                  refine zx_iload C dX9_purse_98 0 rfl ?_
                  obtain ⟨bd9, h⟩ := h
                  refine zx_iald C (r8).toNatClampNeg zs_209 bd9 rfl dX9_purse_100 ?_
                  refine zx_goto C 106 dX9_purse_101 (by decide) ?_
                  exact zx_iret C hr dX9_purse_106 h
              · replace h := h.2 q
                refine zx_aload_n C dX9_purse_74 2 rfl ?_
                refine zx_getR C zs_0 fg_X9_62 rfl 207 rfl dX9_purse_75 ?_
                refine zx_getR C zs_207 fg_X9_316 rfl 208 rfl dX9_purse_78 ?_
                refine zx_iload C dX9_purse_81 0 rfl ?_
                obtain ⟨bd10, h⟩ := h
                refine zx_iald C (r8).toNatClampNeg zs_208 bd10 rfl dX9_purse_83 ?_
                exact zx_iret C hr dX9_purse_84 h
            · replace h := h.2 q
              refine zx_iconst (v := (-1 : Int32)) C dX9_purse_46 (by decide) ?_
              exact zx_iret C hr dX9_purse_47 h
        · replace h := h.2 q
          refine zx_iconst (v := (-1 : Int32)) C dX9_purse_33 (by decide) ?_
          exact zx_iret C hr dX9_purse_34 h
theorem fg_X9_55 : zFG RX9 55 9 7 := ⟨RX9, TX9, 11, rfl, lay_X9, by decide, fl_X9_55⟩
theorem lk_X9_319 : zLV RX9 319 RX6 yX6_clear cX6_clear 1 none 0 := zLV_of ml_X9_319 im_X6_clear se_X6_clear ini_X6 cd_X6_clear (by decide +kernel)
theorem lk_X9_326 : zLV RX9 326 RX6 yX6_find cX6_find 4 none 2 := zLV_of ml_X9_326 im_X6_find se_X6_find ini_X6 cd_X6_find (by decide +kernel)
theorem fg_X9_336 : zFG RX9 336 6 9 := ⟨RX6, TX6, 11, rfl, lay_X6, by decide, fl_X9_336⟩
theorem lk_X9_333 : zLV RX9 333 RX6 yX6_surePosts cX6_surePosts 1 (some .int) 0 := zLV_of ml_X9_333 im_X6_surePosts se_X6_surePosts ini_X6 cd_X6_surePosts (by decide +kernel)
theorem fg_X9_330 : zFG RX9 330 6 7 := ⟨RX6, TX6, 11, rfl, lay_X6, by decide, fl_X9_330⟩
theorem lk_X9_322 : zLV RX9 322 RX6 yX6_add cX6_add 4 none 3 := zLV_of ml_X9_322 im_X6_add se_X6_add ini_X6 cd_X6_add (by decide +kernel)
def w_X9_shells_45 (x_2 : Int32) (x_3 : Int32) (x_4 : Int32) (x_5 : Int32) (q_6 : Nat) (P : Int32 → zSto → Prop)  : Nat → Int32 → zSto → Prop
  | 0, _, _ => False
  | n + 1, x_7, σ => ((((σ.1 q_6 11) - (1 : Int32)) ≤ x_7 → (w_X6_find x_3 x_4 σ (fun (σ7 : zSto) => ((¬ x_5 = 0 → ((¬ x_5 = (1 : Int32) → P (σ7.1 200 9) σ7) ∧ (x_5 = (1 : Int32) → (w_X6_surePosts  σ7 (fun (r9 : Int32) (σ8 : zSto) => P r9 σ8))))) ∧ (x_5 = 0 → P (σ7.1 200 7) σ7))))) ∧ (¬ ((σ.1 q_6 11) - (1 : Int32)) ≤ x_7 → (w_X0_poundsIn q_6 x_7 x_2 σ (fun (r11 : Int32) (σ10 : zSto) => ((r11 ≤ 0 → (∀ x12 : Int32, x12 = (x_7 + (1 : Int32)) → w_X9_shells_45 x_2 x_3 x_4 x_5 q_6 P n x12 σ10)) ∧ (¬ r11 ≤ 0 → (w_X0_cost q_6 x_7 σ10 (fun (r14 : Int32) (σ13 : zSto) => (w_X6_add x_7 r11 r14 σ13 (fun (σ15 : zSto) => (∀ x16 : Int32, x16 = (x_7 + (1 : Int32)) → w_X9_shells_45 x_2 x_3 x_4 x_5 q_6 P n x16 σ15)))))))))))
def w_X9_shells (a1 : Int32) (a2 : Int32) (a3 : Int32) (a4 : Int32) (a5 : Int32) (σ : zSto) (P : Int32 → zSto → Prop) : Prop := (w_X8_lineAt 1 a1 σ (fun (q2 : Option Nat) (σ1 : zSto) => ((q2 = none → P (-1 : Int32) σ1) ∧ (∀ j3 : Nat, q2 = some j3 → zIsLine j3 ∧ (w_X9_isWeek a2 σ1 (fun (r5 : Int32) (σ4 : zSto) => (r5 = 0 ∨ r5 = 1) → ((r5 = 0 → P (-1 : Int32) σ4) ∧ (¬ r5 = 0 → ((a5 < 0 → P (-1 : Int32) σ4) ∧ (¬ a5 < 0 → ((a5 ≤ (2 : Int32) → (w_X6_clear  σ4 (fun (σ6 : zSto) => (∃ n : Nat, w_X9_shells_45 a2 a3 a4 a5 j3 P  n (0 : Int32) σ6)))) ∧ (¬ a5 ≤ (2 : Int32) → P (-1 : Int32) σ4))))))))))))
set_option maxRecDepth 100000 in
set_option maxHeartbeats 4000000 in
theorem k_X9_shells_45 {p : Program} {l : Launch} {e : Env} {s : State} {m : MethodId} {args : Array Value} {below : List Frame} {meth : Method} {c : Code} {D : va_G} {cy : Nat → ClassId} {g : Nat → Nat} (C : zC p s m args meth c cX9_shells RX9 9 D cy g) (hr : meth.sig.returnType = (some .int)) {P : Int32 → zSto → Prop} (x_2 : Int32) (x_3 : Int32) (x_4 : Int32) (x_5 : Int32) (q_6 : Nat) (hq_6 : zIsLine q_6)   : ∀ (n : Nat) (x_7 : Int32) (σ : zSto), w_X9_shells_45 x_2 x_3 x_4 x_5 q_6 P n x_7 σ → zX p l e (zrm 21 543) s m args below meth c 0 0 (zQi P below args s D cy g) 9 D cy g 45 [(0, .ref (g 0)), (2, .int x_2), (3, .int x_3), (4, .int x_4), (5, .int x_5), (6, .ref (g q_6)), (7, .int x_7)] [] σ := by
  intro n
  induction n with
  | zero => intro x_7 σ h; exact h.elim
  | succ n ih =>
    intro x_7 σ h
    unfold w_X9_shells_45 at h
    refine zx_iload C dX9_shells_45 6 rfl ?_
    refine zx_aload C dX9_shells_47 5 rfl ?_
    refine zx_getI C hq_6.1 fg_X9_125 rfl dX9_shells_49 ?_
    refine zx_iconst (v := (1 : Int32)) C dX9_shells_52 (by decide) ?_
    refine zx_isub C dX9_shells_53 ?_
    refine zx_icmp_ge C 96 dX9_shells_54 (by decide) (fun q => ?_) (fun q => ?_)
    · replace h := h.1 q
      refine zx_aload_n C dX9_shells_96 0 rfl ?_
      refine zx_getR C zs_0 fg_X9_55 rfl 200 rfl dX9_shells_97 ?_
      refine zx_iload_n C dX9_shells_100 2 rfl ?_
      refine zx_iload C dX9_shells_101 3 rfl ?_
      refine zx_cVv C [.int x_3, .int x_4] lk_X9_326 (c_X6_find l D cy g x_3 x_4  σ h) zs_200 rfl ⟨by decide, by decide⟩ ⟨rfl, rfl⟩ ⟨Nat.zero_le _, Nat.zero_le _⟩ rfl rfl (Nat.le_of_ble_eq_true rfl) dX9_shells_103 (fun σ7 h => ?_)
      refine zx_iload C dX9_shells_106 4 rfl ?_
      refine zx_if_ne C 119 dX9_shells_108 (by decide) (fun q => ?_) (fun q => ?_)
      · replace h := h.1 q
        refine zx_iload C dX9_shells_119 4 rfl ?_
        refine zx_iconst (v := (1 : Int32)) C dX9_shells_121 (by decide) ?_
        refine zx_icmp_ne C 135 dX9_shells_122 (by decide) (fun q => ?_) (fun q => ?_)
        · replace h := h.1 q
          refine zx_aload_n C dX9_shells_135 0 rfl ?_
          refine zx_getR C zs_0 fg_X9_55 rfl 200 rfl dX9_shells_136 ?_
          refine zx_getI C zs_200 fg_X9_336 rfl dX9_shells_139 ?_
          exact zx_iret C hr dX9_shells_142 h
        · replace h := h.2 q
          refine zx_aload_n C dX9_shells_125 0 rfl ?_
          refine zx_getR C zs_0 fg_X9_55 rfl 200 rfl dX9_shells_126 ?_
          refine zx_cVi C [] lk_X9_333 (c_X6_surePosts l D cy g   σ7 h) zs_200 rfl ⟨by decide, by decide⟩ ⟨rfl, rfl⟩ ⟨Nat.zero_le _, Nat.zero_le _⟩ rfl rfl (Nat.le_of_ble_eq_true rfl) dX9_shells_129 (fun r9 σ8 h => ?_)
          refine zx_goto C 142 dX9_shells_132 (by decide) ?_
          exact zx_iret C hr dX9_shells_142 h
      · replace h := h.2 q
        refine zx_aload_n C dX9_shells_111 0 rfl ?_
        refine zx_getR C zs_0 fg_X9_55 rfl 200 rfl dX9_shells_112 ?_
        refine zx_getI C zs_200 fg_X9_330 rfl dX9_shells_115 ?_
        exact zx_iret C hr dX9_shells_118 h
    · replace h := h.2 q
      refine zx_aload C dX9_shells_57 5 rfl ?_
      refine zx_iload C dX9_shells_59 6 rfl ?_
      refine zx_iload_n C dX9_shells_61 1 rfl ?_
      refine zx_cVi C [.int x_7, .int x_2] lk_X9_153 (c_X0_poundsIn l D cy g q_6 x_7 x_2 hq_6 σ h) hq_6.1 rfl ⟨by decide, by decide⟩ ⟨rfl, rfl⟩ ⟨Nat.zero_le _, Nat.zero_le _⟩ rfl rfl (Nat.le_of_ble_eq_true rfl) dX9_shells_62 (fun r11 σ10 h => ?_)
      refine zx_istore (lv' := [(8, .int r11), (0, .ref (g 0)), (2, .int x_2), (3, .int x_3), (4, .int x_4), (5, .int x_5), (6, .ref (g q_6)), (7, .int x_7)]) C dX9_shells_65 (by decide) rfl ?_
      refine zx_iload C dX9_shells_67 0 rfl ?_
      refine zx_if_le C 90 dX9_shells_69 (by decide) (fun q => ?_) (fun q => ?_)
      · replace h := h.1 q
        obtain ⟨x12, ex12⟩ : ∃ y : Int32, y = (x_7 + (1 : Int32)) := ⟨_, rfl⟩
        replace h := h x12 ex12
        refine zx_iinc (v := x12) (lv' := [(7, .int x12), (8, .int r11), (0, .ref (g 0)), (2, .int x_2), (3, .int x_3), (4, .int x_4), (5, .int x_5), (6, .ref (g q_6))]) C dX9_shells_90 7 rfl (by rw [ex12]; rfl) (by decide) rfl ?_
        refine zx_goto C 45 dX9_shells_93 (by decide) ?_
        refine zx_lv (lv' := [(0, .ref (g 0)), (2, .int x_2), (3, .int x_3), (4, .int x_4), (5, .int x_5), (6, .ref (g q_6)), (7, .int x12)]) [2, 3, 4, 5, 6, 7, 0] rfl ?_
        exact ih x12 σ10 h
      · replace h := h.2 q
        refine zx_aload_n C dX9_shells_72 1 rfl ?_
        refine zx_getR C zs_0 fg_X9_55 rfl 200 rfl dX9_shells_73 ?_
        refine zx_iload C dX9_shells_76 7 rfl ?_
        refine zx_iload C dX9_shells_78 0 rfl ?_
        refine zx_aload C dX9_shells_80 6 rfl ?_
        refine zx_iload C dX9_shells_82 7 rfl ?_
        refine zx_cVi C [.int x_7] lk_X9_171 (c_X0_cost l D cy g q_6 x_7 hq_6 σ10 h) hq_6.1 rfl ⟨by decide, by decide⟩ ⟨rfl, rfl⟩ ⟨Nat.zero_le _, Nat.zero_le _⟩ rfl rfl (Nat.le_of_ble_eq_true rfl) dX9_shells_84 (fun r14 σ13 h => ?_)
        refine zx_cVv C [.int x_7, .int r11, .int r14] lk_X9_322 (c_X6_add l D cy g x_7 r11 r14  σ13 h) zs_200 rfl ⟨by decide, by decide⟩ ⟨rfl, rfl⟩ ⟨Nat.zero_le _, Nat.zero_le _⟩ rfl rfl (Nat.le_of_ble_eq_true rfl) dX9_shells_87 (fun σ15 h => ?_)
        obtain ⟨x16, ex16⟩ : ∃ y : Int32, y = (x_7 + (1 : Int32)) := ⟨_, rfl⟩
        replace h := h x16 ex16
        refine zx_iinc (v := x16) (lv' := [(7, .int x16), (8, .int r11), (0, .ref (g 0)), (2, .int x_2), (3, .int x_3), (4, .int x_4), (5, .int x_5), (6, .ref (g q_6))]) C dX9_shells_90 7 rfl (by rw [ex16]; rfl) (by decide) rfl ?_
        refine zx_goto C 45 dX9_shells_93 (by decide) ?_
        refine zx_lv (lv' := [(0, .ref (g 0)), (2, .int x_2), (3, .int x_3), (4, .int x_4), (5, .int x_5), (6, .ref (g q_6)), (7, .int x16)]) [2, 3, 4, 5, 6, 7, 0] rfl ?_
        exact ih x16 σ15 h
set_option maxRecDepth 100000 in
set_option maxHeartbeats 4000000 in
theorem c_X9_shells (l : Launch) (D : va_G) (cy : Nat → ClassId) (g : Nat → Nat) (a1 : Int32) (a2 : Int32) (a3 : Int32) (a4 : Int32) (a5 : Int32)  (σ : zSto) {P : Int32 → zSto → Prop} (h : w_X9_shells a1 a2 a3 a4 a5 σ P) : zMi l yX9_shells cX9_shells 9 (some .int) (zrm 21 543) D cy g [.ref (g 0), .int a1, .int a2, .int a3, .int a4, .int a5] σ P := by
  unfold w_X9_shells at h
  refine zm_i RX9 rfl (by decide +kernel) (Nat.le_of_ble_eq_true rfl) ?_
  intro p e s m below meth c C hr
  refine zx_lv (lv' := [(0, .ref (g 0)), (1, .int a1), (2, .int a2), (3, .int a3), (4, .int a4), (5, .int a5)]) [0, 1, 2, 3, 4, 5] rfl ?_
  refine zx_aload_n C dX9_shells_0 0 rfl ?_
  refine zx_getR C zs_0 fg_X9_12 rfl 1 rfl dX9_shells_1 ?_
  refine zx_iload_n C dX9_shells_4 1 rfl ?_
  refine zx_cVq C [.int a1] lk_X9_121 (c_X8_lineAt l D cy g 1 a1 zIsState_1 σ h) zIsState_1.1 rfl ⟨by decide, by decide⟩ ⟨rfl, rfl⟩ ⟨Nat.zero_le _, Nat.zero_le _⟩ rfl rfl (Nat.le_of_ble_eq_true rfl) dX9_shells_5 (fun σ1 h => ?_) (fun j3 σ1 h => ?_)
  · replace h := h.1 rfl
    refine zx_astoreN (lv' := [(6, .null), (0, .ref (g 0)), (1, .int a1), (2, .int a2), (3, .int a3), (4, .int a4), (5, .int a5)]) C dX9_shells_8 (by decide) rfl ?_
    refine zx_aloadN C dX9_shells_10 0 rfl ?_
    refine zx_ifnullN C 33 dX9_shells_12 (by decide) ?_
    refine zx_iconst (v := (-1 : Int32)) C dX9_shells_33 (by decide) ?_
    exact zx_iret C hr dX9_shells_34 h
  · obtain ⟨hj3, h⟩ := h.2 j3 rfl
    refine zx_astore (lv' := [(6, .ref (g j3)), (0, .ref (g 0)), (1, .int a1), (2, .int a2), (3, .int a3), (4, .int a4), (5, .int a5)]) C dX9_shells_8 (by decide) rfl ?_
    refine zx_aload C dX9_shells_10 0 rfl ?_
    refine zx_ifnull C dX9_shells_12 ?_
    refine zx_iload_n C dX9_shells_15 3 rfl ?_
    refine zx_cSb C [.int a2] lk_X9_254 (c_X9_isWeek l D cy g a2  σ1 h) ⟨by decide, by decide⟩ ⟨rfl, rfl⟩ ⟨Nat.zero_le _, Nat.zero_le _⟩ rfl rfl (Nat.le_of_ble_eq_true rfl) dX9_shells_16 (fun r5 σ4 hb h => ?_)
    replace h := h hb
    refine zx_if_eq C 33 dX9_shells_19 (by decide) (fun q => ?_) (fun q => ?_)
    · replace h := h.1 q
      refine zx_iconst (v := (-1 : Int32)) C dX9_shells_33 (by decide) ?_
      exact zx_iret C hr dX9_shells_34 h
    · replace h := h.2 q
      refine zx_iload C dX9_shells_22 6 rfl ?_
      refine zx_if_lt C 33 dX9_shells_24 (by decide) (fun q => ?_) (fun q => ?_)
      · replace h := h.1 q
        refine zx_iconst (v := (-1 : Int32)) C dX9_shells_33 (by decide) ?_
        exact zx_iret C hr dX9_shells_34 h
      · replace h := h.2 q
        refine zx_iload C dX9_shells_27 6 rfl ?_
        refine zx_iconst (v := (2 : Int32)) C dX9_shells_29 (by decide) ?_
        refine zx_icmp_le C 35 dX9_shells_30 (by decide) (fun q => ?_) (fun q => ?_)
        · replace h := h.1 q
          refine zx_aload_n C dX9_shells_35 1 rfl ?_
          refine zx_getR C zs_0 fg_X9_55 rfl 200 rfl dX9_shells_36 ?_
          refine zx_cVv C [] lk_X9_319 (c_X6_clear l D cy g   σ4 h) zs_200 rfl ⟨by decide, by decide⟩ ⟨rfl, rfl⟩ ⟨Nat.zero_le _, Nat.zero_le _⟩ rfl rfl (Nat.le_of_ble_eq_true rfl) dX9_shells_39 (fun σ6 h => ?_)
          refine zx_iconst (v := (0 : Int32)) C dX9_shells_42 (by decide) ?_
          refine zx_istore (lv' := [(7, .int (0 : Int32)), (6, .ref (g j3)), (0, .ref (g 0)), (1, .int a1), (2, .int a2), (3, .int a3), (4, .int a4), (5, .int a5)]) C dX9_shells_43 (by decide) rfl ?_
          obtain ⟨n, h⟩ := h
          refine zx_lv (lv' := [(0, .ref (g 0)), (2, .int a2), (3, .int a3), (4, .int a4), (5, .int a5), (6, .ref (g j3)), (7, .int (0 : Int32))]) [2, 4, 5, 6, 7, 1, 0] rfl ?_
          exact k_X9_shells_45 C hr (a2) (a3) (a4) (a5) (j3) hj3  n (0 : Int32) σ6 h
        · replace h := h.2 q
          refine zx_iconst (v := (-1 : Int32)) C dX9_shells_33 (by decide) ?_
          exact zx_iret C hr dX9_shells_34 h
theorem lk_X9_339 : zLV RX9 339 RX6 yX6_findHolding cX6_findHolding 9 none 2 := zLV_of ml_X9_339 im_X6_findHolding se_X6_findHolding ini_X6 cd_X6_findHolding (by decide +kernel)
theorem fg_X9_343 : zFG RX9 343 6 10 := ⟨RX6, TX6, 11, rfl, lay_X6, by decide, fl_X9_343⟩
def w_X9_hold (a1 : Int32) (a2 : Int32) (a3 : Int32) (σ : zSto) (P : Int32 → zSto → Prop) : Prop := (w_X8_lineAt 1 a1 σ (fun (q2 : Option Nat) (σ1 : zSto) => ((q2 = none → (w_X8_logAt 1 a2 σ1 (fun (q5 : Option Nat) (σ4 : zSto) => ((q5 = none → P (-2 : Int32) σ4) ∧ (∀ j6 : Nat, q5 = some j6 → zIsPairs j6 ∧ P (-2 : Int32) σ4))))) ∧ (∀ j3 : Nat, q2 = some j3 → zIsLine j3 ∧ (w_X8_logAt 1 a2 σ1 (fun (q8 : Option Nat) (σ7 : zSto) => ((q8 = none → P (-2 : Int32) σ7) ∧ (∀ j9 : Nat, q8 = some j9 → zIsPairs j9 ∧ ((a3 < 0 → P (-2 : Int32) σ7) ∧ (¬ a3 < 0 → ((a3 ≤ (3 : Int32) → (w_X6_findHolding j3 j9 σ7 (fun (σ10 : zSto) => ((a3 = 0 → P (σ10.1 200 7) σ10) ∧ (a3 = 1 → (w_X6_surePosts  σ10 (fun (r12 : Int32) (σ11 : zSto) => P r12 σ11))) ∧ (a3 = 2 → P (σ10.1 200 9) σ10) ∧ ((a3.toInt < 0 ∨ 2 < a3.toInt) → ((¬ (σ10.1 200 7) = 0 → P (σ10.1 200 10) σ10) ∧ ((σ10.1 200 7) = 0 → P (-1 : Int32) σ10))))))) ∧ (¬ a3 ≤ (3 : Int32) → P (-2 : Int32) σ7))))))))))))
set_option maxRecDepth 100000 in
set_option maxHeartbeats 4000000 in
theorem c_X9_hold (l : Launch) (D : va_G) (cy : Nat → ClassId) (g : Nat → Nat) (a1 : Int32) (a2 : Int32) (a3 : Int32)  (σ : zSto) {P : Int32 → zSto → Prop} (h : w_X9_hold a1 a2 a3 σ P) : zMi l yX9_hold cX9_hold 6 (some .int) (zrm 22 571) D cy g [.ref (g 0), .int a1, .int a2, .int a3] σ P := by
  unfold w_X9_hold at h
  refine zm_i RX9 rfl (by decide +kernel) (Nat.le_of_ble_eq_true rfl) ?_
  intro p e s m below meth c C hr
  refine zx_lv (lv' := [(0, .ref (g 0)), (1, .int a1), (2, .int a2), (3, .int a3)]) [0, 1, 2, 3] rfl ?_
  refine zx_aload_n C dX9_hold_0 0 rfl ?_
  refine zx_getR C zs_0 fg_X9_12 rfl 1 rfl dX9_hold_1 ?_
  refine zx_iload_n C dX9_hold_4 1 rfl ?_
  refine zx_cVq C [.int a1] lk_X9_121 (c_X8_lineAt l D cy g 1 a1 zIsState_1 σ h) zIsState_1.1 rfl ⟨by decide, by decide⟩ ⟨rfl, rfl⟩ ⟨Nat.zero_le _, Nat.zero_le _⟩ rfl rfl (Nat.le_of_ble_eq_true rfl) dX9_hold_5 (fun σ1 h => ?_) (fun j3 σ1 h => ?_)
  · replace h := h.1 rfl
    refine zx_astoreN (lv' := [(4, .null), (0, .ref (g 0)), (1, .int a1), (2, .int a2), (3, .int a3)]) C dX9_hold_8 (by decide) rfl ?_
    refine zx_aload_n C dX9_hold_10 1 rfl ?_
    refine zx_getR C zs_0 fg_X9_12 rfl 1 rfl dX9_hold_11 ?_
    refine zx_iload_n C dX9_hold_14 3 rfl ?_
    refine zx_cVq C [.int a2] lk_X9_203 (c_X8_logAt l D cy g 1 a2 zIsState_1 σ1 h) zIsState_1.1 rfl ⟨by decide, by decide⟩ ⟨rfl, rfl⟩ ⟨Nat.zero_le _, Nat.zero_le _⟩ rfl rfl (Nat.le_of_ble_eq_true rfl) dX9_hold_15 (fun σ4 h => ?_) (fun j6 σ4 h => ?_)
    · replace h := h.1 rfl
      refine zx_astoreN (lv' := [(5, .null), (4, .null), (0, .ref (g 0)), (1, .int a1), (2, .int a2), (3, .int a3)]) C dX9_hold_18 (by decide) rfl ?_
      refine zx_aloadN C dX9_hold_20 1 rfl ?_
      refine zx_ifnullN C 39 dX9_hold_22 (by decide) ?_
      refine zx_bipush (v := (-2 : Int32)) C dX9_hold_39 (by decide) ?_
      exact zx_iret C hr dX9_hold_41 h
    · obtain ⟨hj6, h⟩ := h.2 j6 rfl
      refine zx_astore (lv' := [(5, .ref (g j6)), (4, .null), (0, .ref (g 0)), (1, .int a1), (2, .int a2), (3, .int a3)]) C dX9_hold_18 (by decide) rfl ?_
      refine zx_aloadN C dX9_hold_20 1 rfl ?_
      refine zx_ifnullN C 39 dX9_hold_22 (by decide) ?_
      refine zx_bipush (v := (-2 : Int32)) C dX9_hold_39 (by decide) ?_
      exact zx_iret C hr dX9_hold_41 h
  · obtain ⟨hj3, h⟩ := h.2 j3 rfl
    refine zx_astore (lv' := [(4, .ref (g j3)), (0, .ref (g 0)), (1, .int a1), (2, .int a2), (3, .int a3)]) C dX9_hold_8 (by decide) rfl ?_
    refine zx_aload_n C dX9_hold_10 1 rfl ?_
    refine zx_getR C zs_0 fg_X9_12 rfl 1 rfl dX9_hold_11 ?_
    refine zx_iload_n C dX9_hold_14 3 rfl ?_
    refine zx_cVq C [.int a2] lk_X9_203 (c_X8_logAt l D cy g 1 a2 zIsState_1 σ1 h) zIsState_1.1 rfl ⟨by decide, by decide⟩ ⟨rfl, rfl⟩ ⟨Nat.zero_le _, Nat.zero_le _⟩ rfl rfl (Nat.le_of_ble_eq_true rfl) dX9_hold_15 (fun σ7 h => ?_) (fun j9 σ7 h => ?_)
    · replace h := h.1 rfl
      refine zx_astoreN (lv' := [(5, .null), (4, .ref (g j3)), (0, .ref (g 0)), (1, .int a1), (2, .int a2), (3, .int a3)]) C dX9_hold_18 (by decide) rfl ?_
      refine zx_aload C dX9_hold_20 1 rfl ?_
      refine zx_ifnull C dX9_hold_22 ?_
      refine zx_aloadN C dX9_hold_25 0 rfl ?_
      refine zx_ifnullN C 39 dX9_hold_27 (by decide) ?_
      refine zx_bipush (v := (-2 : Int32)) C dX9_hold_39 (by decide) ?_
      exact zx_iret C hr dX9_hold_41 h
    · obtain ⟨hj9, h⟩ := h.2 j9 rfl
      refine zx_astore (lv' := [(5, .ref (g j9)), (4, .ref (g j3)), (0, .ref (g 0)), (1, .int a1), (2, .int a2), (3, .int a3)]) C dX9_hold_18 (by decide) rfl ?_
      refine zx_aload C dX9_hold_20 1 rfl ?_
      refine zx_ifnull C dX9_hold_22 ?_
      refine zx_aload C dX9_hold_25 0 rfl ?_
      refine zx_ifnull C dX9_hold_27 ?_
      refine zx_iload_n C dX9_hold_30 5 rfl ?_
      refine zx_if_lt C 39 dX9_hold_31 (by decide) (fun q => ?_) (fun q => ?_)
      · replace h := h.1 q
        refine zx_bipush (v := (-2 : Int32)) C dX9_hold_39 (by decide) ?_
        exact zx_iret C hr dX9_hold_41 h
      · replace h := h.2 q
        refine zx_iload_n C dX9_hold_34 5 rfl ?_
        refine zx_iconst (v := (3 : Int32)) C dX9_hold_35 (by decide) ?_
        refine zx_icmp_le C 42 dX9_hold_36 (by decide) (fun q => ?_) (fun q => ?_)
        · replace h := h.1 q
          refine zx_aload_n C dX9_hold_42 2 rfl ?_
          refine zx_getR C zs_0 fg_X9_55 rfl 200 rfl dX9_hold_43 ?_
          refine zx_aload C dX9_hold_46 1 rfl ?_
          refine zx_aload C dX9_hold_48 0 rfl ?_
          refine zx_cVv C [.ref (g j3), .ref (g j9)] lk_X9_339 (c_X6_findHolding l D cy g j3 j9 hj3 hj9 σ7 h) zs_200 rfl ⟨by decide, by decide⟩ ⟨rfl, rfl⟩ ⟨Nat.zero_le _, Nat.zero_le _⟩ rfl rfl (Nat.le_of_ble_eq_true rfl) dX9_hold_50 (fun σ10 h => ?_)
          refine zx_iload_n C dX9_hold_53 5 rfl ?_
          refine zsw (x := a3) 2 (fun q => ?_) (fun i hi q => ?_)
          · replace h := h.2.2.2 q
            refine zx_tableOut C 104 dX9_hold_54 q (by decide) ?_
            refine zx_aload_n C dX9_hold_104 2 rfl ?_
            refine zx_getR C zs_0 fg_X9_55 rfl 200 rfl dX9_hold_105 ?_
            refine zx_getI C zs_200 fg_X9_330 rfl dX9_hold_108 ?_
            refine zx_if_ne C 118 dX9_hold_111 (by decide) (fun q => ?_) (fun q => ?_)
            · replace h := h.1 q
              refine zx_aload_n C dX9_hold_118 2 rfl ?_
              refine zx_getR C zs_0 fg_X9_55 rfl 200 rfl dX9_hold_119 ?_
              refine zx_getI C zs_200 fg_X9_343 rfl dX9_hold_122 ?_
              exact zx_iret C hr dX9_hold_125 h
            · replace h := h.2 q
              refine zx_iconst (v := (-1 : Int32)) C dX9_hold_114 (by decide) ?_
              refine zx_goto C 125 dX9_hold_115 (by decide) ?_
              exact zx_iret C hr dX9_hold_125 h
          · match i, hi, q with
            | 0, _, q =>
              replace h := h.1 q
              refine zx_tableIn C 80 (0 : Int32) q dX9_hold_54 (by decide) (by decide) rfl (by decide) ?_
              refine zx_aload_n C dX9_hold_80 2 rfl ?_
              refine zx_getR C zs_0 fg_X9_55 rfl 200 rfl dX9_hold_81 ?_
              refine zx_getI C zs_200 fg_X9_330 rfl dX9_hold_84 ?_
              exact zx_iret C hr dX9_hold_87 h
            | 1, _, q =>
              replace h := h.2.1 q
              refine zx_tableIn C 88 (1 : Int32) q dX9_hold_54 (by decide) (by decide) rfl (by decide) ?_
              refine zx_aload_n C dX9_hold_88 2 rfl ?_
              refine zx_getR C zs_0 fg_X9_55 rfl 200 rfl dX9_hold_89 ?_
              refine zx_cVi C [] lk_X9_333 (c_X6_surePosts l D cy g   σ10 h) zs_200 rfl ⟨by decide, by decide⟩ ⟨rfl, rfl⟩ ⟨Nat.zero_le _, Nat.zero_le _⟩ rfl rfl (Nat.le_of_ble_eq_true rfl) dX9_hold_92 (fun r12 σ11 h => ?_)
              exact zx_iret C hr dX9_hold_95 h
            | 2, _, q =>
              replace h := h.2.2.1 q
              refine zx_tableIn C 96 (2 : Int32) q dX9_hold_54 (by decide) (by decide) rfl (by decide) ?_
              refine zx_aload_n C dX9_hold_96 2 rfl ?_
              refine zx_getR C zs_0 fg_X9_55 rfl 200 rfl dX9_hold_97 ?_
              refine zx_getI C zs_200 fg_X9_336 rfl dX9_hold_100 ?_
              exact zx_iret C hr dX9_hold_103 h
            | i + 3, hi, _ => exact absurd hi (by omega)
        · replace h := h.2 q
          refine zx_bipush (v := (-2 : Int32)) C dX9_hold_39 (by decide) ?_
          exact zx_iret C hr dX9_hold_41 h
def w_X9_tenfoldMean_4 (q_0 : Nat) (P : Int64 → zSto → Prop)  : Nat → Int64 → Int32 → zSto → Prop
  | 0, _, _, _ => False
  | n + 1, x_1, x_3, σ => ((((σ.1 q_0 11) - (1 : Int32)) ≤ x_3 → P x_1 σ) ∧ (¬ ((σ.1 q_0 11) - (1 : Int32)) ≤ x_3 → (vp_in x_3 16 ∧ (w_X0_cost q_0 x_3 σ (fun (r3 : Int32) (σ2 : zSto) => (∀ x4 : Int64, x4 = (x_1 + ((σ.1 (q_0 + 4) (x_3).toNatClampNeg).toInt64 * r3.toInt64)) → (∀ x5 : Int32, x5 = (x_3 + (1 : Int32)) → w_X9_tenfoldMean_4 q_0 P n x4 x5 σ2)))))))
def w_X9_tenfoldMean (b1 : Nat) (σ : zSto) (P : Int64 → zSto → Prop) : Prop := (∃ n : Nat, w_X9_tenfoldMean_4 b1 P  n (0 : Int64) (0 : Int32) σ)
set_option maxRecDepth 100000 in
set_option maxHeartbeats 4000000 in
theorem k_X9_tenfoldMean_4 {p : Program} {l : Launch} {e : Env} {s : State} {m : MethodId} {args : Array Value} {below : List Frame} {meth : Method} {c : Code} {D : va_G} {cy : Nat → ClassId} {g : Nat → Nat} (C : zC p s m args meth c cX9_tenfoldMean RX9 4 D cy g) (hr : meth.sig.returnType = (some .long)) {P : Int64 → zSto → Prop} (q_0 : Nat) (hq_0 : zIsLine q_0)   : ∀ (n : Nat) (x_1 : Int64) (x_3 : Int32) (σ : zSto), w_X9_tenfoldMean_4 q_0 P n x_1 x_3 σ → zX p l e (zrm 1 22) s m args below meth c 0 0 (zQl P below args s D cy g) 4 D cy g 4 [(0, .ref (g q_0)), (1, .long x_1), (3, .int x_3)] [] σ := by
  intro n
  induction n with
  | zero => intro x_1 x_3 σ h; exact h.elim
  | succ n ih =>
    intro x_1 x_3 σ h
    unfold w_X9_tenfoldMean_4 at h
    refine zx_iload_n C dX9_tenfoldMean_4 2 rfl ?_
    refine zx_aload_n C dX9_tenfoldMean_5 0 rfl ?_
    refine zx_getI C hq_0.1 fg_X9_125 rfl dX9_tenfoldMean_6 ?_
    refine zx_iconst (v := (1 : Int32)) C dX9_tenfoldMean_9 (by decide) ?_
    refine zx_isub C dX9_tenfoldMean_10 ?_
    refine zx_icmp_ge C 37 dX9_tenfoldMean_11 (by decide) (fun q => ?_) (fun q => ?_)
    · replace h := h.1 q
      refine zx_lload_n C dX9_tenfoldMean_37 1 rfl ?_
      exact zx_lret C hr dX9_tenfoldMean_38 h
    · replace h := h.2 q
      refine zx_lload_n C dX9_tenfoldMean_14 1 rfl ?_
      refine zx_aload_n C dX9_tenfoldMean_15 0 rfl ?_
      refine zx_getR C hq_0.1 fg_X9_165 rfl (q_0 + 4) rfl dX9_tenfoldMean_16 ?_
      refine zx_iload_n C dX9_tenfoldMean_19 2 rfl ?_
      obtain ⟨bd1, h⟩ := h
      refine zx_iald C (x_3).toNatClampNeg hq_0.2.2.2.2.1 bd1 rfl dX9_tenfoldMean_20 ?_
      refine zx_i2l C dX9_tenfoldMean_21 ?_
      refine zx_aload_n C dX9_tenfoldMean_22 0 rfl ?_
      refine zx_iload_n C dX9_tenfoldMean_23 2 rfl ?_
      refine zx_cVi C [.int x_3] lk_X9_171 (c_X0_cost l D cy g q_0 x_3 hq_0 σ h) hq_0.1 rfl ⟨by decide, by decide⟩ ⟨rfl, rfl⟩ ⟨Nat.zero_le _, Nat.zero_le _⟩ rfl rfl (Nat.le_of_ble_eq_true rfl) dX9_tenfoldMean_24 (fun r3 σ2 h => ?_)
      refine zx_i2l C dX9_tenfoldMean_27 ?_
      refine zx_lmul C dX9_tenfoldMean_28 ?_
      refine zx_ladd C dX9_tenfoldMean_29 ?_
      refine zx_topl (fun x4 ex4 => ?_)
      replace h := h x4 ex4
      refine zx_lstore_n (lv' := [(1, .long x4), (0, .ref (g q_0)), (3, .int x_3)]) C dX9_tenfoldMean_30 (by decide) rfl ?_
      obtain ⟨x5, ex5⟩ : ∃ y : Int32, y = (x_3 + (1 : Int32)) := ⟨_, rfl⟩
      replace h := h x5 ex5
      refine zx_iinc (v := x5) (lv' := [(3, .int x5), (1, .long x4), (0, .ref (g q_0))]) C dX9_tenfoldMean_31 2 rfl (by rw [ex5]; rfl) (by decide) rfl ?_
      refine zx_goto C 4 dX9_tenfoldMean_34 (by decide) ?_
      refine zx_lv (lv' := [(0, .ref (g q_0)), (1, .long x4), (3, .int x5)]) [2, 1, 0] rfl ?_
      exact ih x4 x5 σ2 h
set_option maxRecDepth 100000 in
set_option maxHeartbeats 4000000 in
theorem c_X9_tenfoldMean (l : Launch) (D : va_G) (cy : Nat → ClassId) (g : Nat → Nat) (b1 : Nat) (hb1 : zIsLine b1) (σ : zSto) {P : Int64 → zSto → Prop} (h : w_X9_tenfoldMean b1 σ P) : zMl l yX9_tenfoldMean cX9_tenfoldMean 4 (some .long) (zrm 1 22) D cy g [.ref (g b1)] σ P := by
  unfold w_X9_tenfoldMean at h
  refine zm_l RX9 rfl (by decide +kernel) (Nat.le_of_ble_eq_true rfl) ?_
  intro p e s m below meth c C hr
  refine zx_lv (lv' := [(0, .ref (g b1))]) [0] rfl ?_
  refine zx_lconst (v := (0 : Int64)) C dX9_tenfoldMean_0 (by decide) ?_
  refine zx_lstore_n (lv' := [(1, .long (0 : Int64)), (0, .ref (g b1))]) C dX9_tenfoldMean_1 (by decide) rfl ?_
  refine zx_iconst (v := (0 : Int32)) C dX9_tenfoldMean_2 (by decide) ?_
  refine zx_istore_n (lv' := [(3, .int (0 : Int32)), (1, .long (0 : Int64)), (0, .ref (g b1))]) C dX9_tenfoldMean_3 (by decide) rfl ?_
  obtain ⟨n, h⟩ := h
  refine zx_lv (lv' := [(0, .ref (g b1)), (1, .long (0 : Int64)), (3, .int (0 : Int32))]) [2, 1, 0] rfl ?_
  exact k_X9_tenfoldMean_4 C hr (b1) hb1  n (0 : Int64) (0 : Int32) σ h
def w_X9_commonDivisor_9  (P : Int64 → zSto → Prop)  : Nat → Int64 → Int64 → Int32 → zSto → Prop
  | 0, _, _, _, _ => False
  | n + 1, x_4, x_6, x_8, σ => (((100 : Int32) ≤ x_8 → P x_4 σ) ∧ (¬ (100 : Int32) ≤ x_8 → (((lg_cmp x_6 (0 : Int64)) = 0 → P x_4 σ) ∧ (¬ (lg_cmp x_6 (0 : Int64)) = 0 → (¬ x_6 = 0 ∧ (∀ x2 : Int64, x2 = (x_4 - x_4 / x_6 * x_6) → (∀ x3 : Int32, x3 = (x_8 + (1 : Int32)) → w_X9_commonDivisor_9 P n x_6 x2 x3 σ)))))))
def w_X9_commonDivisor (a1 : Int64) (a2 : Int64) (σ : zSto) (P : Int64 → zSto → Prop) : Prop := (∃ n : Nat, w_X9_commonDivisor_9  P  n a1 a2 (0 : Int32) σ)
set_option maxRecDepth 100000 in
set_option maxHeartbeats 4000000 in
theorem k_X9_commonDivisor_9 {p : Program} {l : Launch} {e : Env} {s : State} {m : MethodId} {args : Array Value} {below : List Frame} {meth : Method} {c : Code} {D : va_G} {cy : Nat → ClassId} {g : Nat → Nat} (C : zC p s m args meth c cX9_commonDivisor RX9 11 D cy g) (hr : meth.sig.returnType = (some .long)) {P : Int64 → zSto → Prop}     : ∀ (n : Nat) (x_4 : Int64) (x_6 : Int64) (x_8 : Int32) (σ : zSto), w_X9_commonDivisor_9 P n x_4 x_6 x_8 σ → zX p l e (zrm 0 0) s m args below meth c 0 0 (zQl P below args s D cy g) 11 D cy g 9 [(4, .long x_4), (6, .long x_6), (8, .int x_8)] [] σ := by
  intro n
  induction n with
  | zero => intro x_4 x_6 x_8 σ h; exact h.elim
  | succ n ih =>
    intro x_4 x_6 x_8 σ h
    unfold w_X9_commonDivisor_9 at h
    refine zx_iload C dX9_commonDivisor_9 2 rfl ?_
    refine zx_bipush (v := (100 : Int32)) C dX9_commonDivisor_11 (by decide) ?_
    refine zx_icmp_ge C 44 dX9_commonDivisor_13 (by decide) (fun q => ?_) (fun q => ?_)
    · replace h := h.1 q
      refine zx_lload C dX9_commonDivisor_44 0 rfl ?_
      exact zx_lret C hr dX9_commonDivisor_46 h
    · replace h := h.2 q
      refine zx_lload C dX9_commonDivisor_16 1 rfl ?_
      refine zx_lconst (v := (0 : Int64)) C dX9_commonDivisor_18 (by decide) ?_
      refine zx_lcmp C dX9_commonDivisor_19 ?_
      refine zx_if_eq C 44 dX9_commonDivisor_20 (by decide) (fun q => ?_) (fun q => ?_)
      · replace h := h.1 q
        refine zx_lload C dX9_commonDivisor_44 0 rfl ?_
        exact zx_lret C hr dX9_commonDivisor_46 h
      · replace h := h.2 q
        refine zx_lload C dX9_commonDivisor_23 0 rfl ?_
        refine zx_lload C dX9_commonDivisor_25 1 rfl ?_
        obtain ⟨q1, h⟩ := h
        refine zx_lrem C dX9_commonDivisor_27 q1 ?_
        refine zx_topl (fun x2 ex2 => ?_)
        replace h := h x2 ex2
        refine zx_lstore (lv' := [(9, .long x2), (4, .long x_4), (6, .long x_6), (8, .int x_8)]) C dX9_commonDivisor_28 (by decide) rfl ?_
        refine zx_lload C dX9_commonDivisor_30 2 rfl ?_
        refine zx_lstore (lv' := [(4, .long x_6), (9, .long x2), (6, .long x_6), (8, .int x_8)]) C dX9_commonDivisor_32 (by decide) rfl ?_
        refine zx_lload C dX9_commonDivisor_34 1 rfl ?_
        refine zx_lstore (lv' := [(6, .long x2), (4, .long x_6), (9, .long x2), (8, .int x_8)]) C dX9_commonDivisor_36 (by decide) rfl ?_
        obtain ⟨x3, ex3⟩ : ∃ y : Int32, y = (x_8 + (1 : Int32)) := ⟨_, rfl⟩
        replace h := h x3 ex3
        refine zx_iinc (v := x3) (lv' := [(8, .int x3), (6, .long x2), (4, .long x_6), (9, .long x2)]) C dX9_commonDivisor_38 3 rfl (by rw [ex3]; rfl) (by decide) rfl ?_
        refine zx_goto C 9 dX9_commonDivisor_41 (by decide) ?_
        refine zx_lv (lv' := [(4, .long x_6), (6, .long x2), (8, .int x3)]) [2, 1, 0] rfl ?_
        exact ih x_6 x2 x3 σ h
set_option maxRecDepth 100000 in
set_option maxHeartbeats 4000000 in
theorem c_X9_commonDivisor (l : Launch) (D : va_G) (cy : Nat → ClassId) (g : Nat → Nat) (a1 : Int64) (a2 : Int64)  (σ : zSto) {P : Int64 → zSto → Prop} (h : w_X9_commonDivisor a1 a2 σ P) : zMl l yX9_commonDivisor cX9_commonDivisor 11 (some .long) (zrm 0 0) D cy g [.long a1, .long a2] σ P := by
  unfold w_X9_commonDivisor at h
  refine zm_l RX9 rfl (by decide +kernel) (Nat.le_of_ble_eq_true rfl) ?_
  intro p e s m below meth c C hr
  refine zx_lv (lv' := [(0, .long a1), (2, .long a2)]) [0, 1] rfl ?_
  refine zx_lload_n C dX9_commonDivisor_0 0 rfl ?_
  refine zx_lstore (lv' := [(4, .long a1), (0, .long a1), (2, .long a2)]) C dX9_commonDivisor_1 (by decide) rfl ?_
  refine zx_lload_n C dX9_commonDivisor_3 2 rfl ?_
  refine zx_lstore (lv' := [(6, .long a2), (4, .long a1), (0, .long a1), (2, .long a2)]) C dX9_commonDivisor_4 (by decide) rfl ?_
  refine zx_iconst (v := (0 : Int32)) C dX9_commonDivisor_6 (by decide) ?_
  refine zx_istore (lv' := [(8, .int (0 : Int32)), (6, .long a2), (4, .long a1), (0, .long a1), (2, .long a2)]) C dX9_commonDivisor_7 (by decide) rfl ?_
  obtain ⟨n, h⟩ := h
  refine zx_lv (lv' := [(4, .long a1), (6, .long a2), (8, .int (0 : Int32))]) [2, 1, 0] rfl ?_
  exact k_X9_commonDivisor_9 C hr    n a1 a2 (0 : Int32) σ h
theorem lk_X9_409 : zLS RX9 409 yX9_commonDivisor cX9_commonDivisor 11 (some .long) 2 := zLS_of ml_X9_409 st_X9_commonDivisor ini_X9 cd_X9_commonDivisor (by decide +kernel)
def w_X9_leastTerm (a1 : Int64) (a2 : Int64) (a3 : Int32) (σ : zSto) (P : Int64 → zSto → Prop) : Prop := (w_X9_commonDivisor a1 a2 σ (fun (r2 : Int64) (σ1 : zSto) => ((a3 = 0 → ((¬ (lg_cmp r2 (0 : Int64)) = 0 → (¬ r2 = 0 ∧ P (a1 / r2) σ1)) ∧ ((lg_cmp r2 (0 : Int64)) = 0 → P a1 σ1))) ∧ (¬ a3 = 0 → ((¬ (lg_cmp r2 (0 : Int64)) = 0 → (¬ r2 = 0 ∧ P (a2 / r2) σ1)) ∧ ((lg_cmp r2 (0 : Int64)) = 0 → P a2 σ1))))))
set_option maxRecDepth 100000 in
set_option maxHeartbeats 4000000 in
theorem c_X9_leastTerm (l : Launch) (D : va_G) (cy : Nat → ClassId) (g : Nat → Nat) (a1 : Int64) (a2 : Int64) (a3 : Int32)  (σ : zSto) {P : Int64 → zSto → Prop} (h : w_X9_leastTerm a1 a2 a3 σ P) : zMl l yX9_leastTerm cX9_leastTerm 9 (some .long) (zrm 1 30) D cy g [.long a1, .long a2, .int a3] σ P := by
  unfold w_X9_leastTerm at h
  refine zm_l RX9 rfl (by decide +kernel) (Nat.le_of_ble_eq_true rfl) ?_
  intro p e s m below meth c C hr
  refine zx_lv (lv' := [(0, .long a1), (2, .long a2), (4, .int a3)]) [0, 1, 2] rfl ?_
  refine zx_lload_n C dX9_leastTerm_0 0 rfl ?_
  refine zx_lload_n C dX9_leastTerm_1 1 rfl ?_
  refine zx_cSl C [.long a1, .long a2] lk_X9_409 (c_X9_commonDivisor l D cy g a1 a2  σ h) ⟨by decide, by decide⟩ ⟨rfl, rfl⟩ ⟨Nat.zero_le _, Nat.zero_le _⟩ rfl rfl (Nat.le_of_ble_eq_true rfl) dX9_leastTerm_2 (fun r2 σ1 h => ?_)
  refine zx_lstore (lv' := [(5, .long r2), (0, .long a1), (2, .long a2), (4, .int a3)]) C dX9_leastTerm_5 (by decide) rfl ?_
  refine zx_iload C dX9_leastTerm_7 3 rfl ?_
  refine zx_if_eq C 16 dX9_leastTerm_9 (by decide) (fun q => ?_) (fun q => ?_)
  · replace h := h.1 q
    refine zx_lload_n C dX9_leastTerm_16 1 rfl ?_
    refine zx_lstore (lv' := [(7, .long a1), (5, .long r2), (0, .long a1), (2, .long a2), (4, .int a3)]) C dX9_leastTerm_17 (by decide) rfl ?_
    refine zx_lload C dX9_leastTerm_19 1 rfl ?_
    refine zx_lconst (v := (0 : Int64)) C dX9_leastTerm_21 (by decide) ?_
    refine zx_lcmp C dX9_leastTerm_22 ?_
    refine zx_if_ne C 31 dX9_leastTerm_23 (by decide) (fun q => ?_) (fun q => ?_)
    · replace h := h.1 q
      refine zx_lload C dX9_leastTerm_31 0 rfl ?_
      refine zx_lload C dX9_leastTerm_33 1 rfl ?_
      obtain ⟨q3, h⟩ := h
      refine zx_ldiv C dX9_leastTerm_35 q3 ?_
      exact zx_lret C hr dX9_leastTerm_36 h
    · replace h := h.2 q
      refine zx_lload C dX9_leastTerm_26 0 rfl ?_
      refine zx_goto C 36 dX9_leastTerm_28 (by decide) ?_
      exact zx_lret C hr dX9_leastTerm_36 h
  · replace h := h.2 q
    refine zx_lload_n C dX9_leastTerm_12 2 rfl ?_
    refine zx_goto C 17 dX9_leastTerm_13 (by decide) ?_
    refine zx_lstore (lv' := [(7, .long a2), (5, .long r2), (0, .long a1), (2, .long a2), (4, .int a3)]) C dX9_leastTerm_17 (by decide) rfl ?_
    refine zx_lload C dX9_leastTerm_19 1 rfl ?_
    refine zx_lconst (v := (0 : Int64)) C dX9_leastTerm_21 (by decide) ?_
    refine zx_lcmp C dX9_leastTerm_22 ?_
    refine zx_if_ne C 31 dX9_leastTerm_23 (by decide) (fun q => ?_) (fun q => ?_)
    · replace h := h.1 q
      refine zx_lload C dX9_leastTerm_31 0 rfl ?_
      refine zx_lload C dX9_leastTerm_33 1 rfl ?_
      obtain ⟨q4, h⟩ := h
      refine zx_ldiv C dX9_leastTerm_35 q4 ?_
      exact zx_lret C hr dX9_leastTerm_36 h
    · replace h := h.2 q
      refine zx_lload C dX9_leastTerm_26 0 rfl ?_
      refine zx_goto C 36 dX9_leastTerm_28 (by decide) ?_
      exact zx_lret C hr dX9_leastTerm_36 h
theorem fg_X9_48 : zFG RX9 48 9 6 := ⟨RX9, TX9, 11, rfl, lay_X9, by decide, fl_X9_48⟩
theorem lk_X9_358 : zLV RX9 358 RX7 yX7_overPosts cX7_overPosts 4 none 2 := zLV_of ml_X9_358 im_X7_overPosts se_X7_overPosts ini_X7 cd_X7_overPosts (by decide +kernel)
theorem lk_X9_361 : zLV RX9 361 RX7 yX7_weightUpTo cX7_weightUpTo 5 (some .long) 1 := zLV_of ml_X9_361 im_X7_weightUpTo se_X7_weightUpTo ini_X7 cd_X7_weightUpTo (by decide +kernel)
theorem fg_X9_365 : zFG RX9 365 7 2 := ⟨RX7, TX7, 3, rfl, lay_X7, by decide, fl_X9_365⟩
theorem lk_X9_354 : zLS RX9 354 yX9_leastTerm cX9_leastTerm 9 (some .long) 3 := zLS_of ml_X9_354 st_X9_leastTerm ini_X9 cd_X9_leastTerm (by decide +kernel)
theorem lk_X9_348 : zLS RX9 348 yX9_tenfoldMean cX9_tenfoldMean 4 (some .long) 1 := zLS_of ml_X9_348 st_X9_tenfoldMean ini_X9 cd_X9_tenfoldMean (by decide +kernel)
def w_X9_chance (a1 : Int32) (a2 : Int32) (a3 : Int32) (σ : zSto) (P : Int64 → zSto → Prop) : Prop := (w_X8_lineAt 1 a1 σ (fun (q2 : Option Nat) (σ1 : zSto) => ((q2 = none → P (-1 : Int64) σ1) ∧ (∀ j3 : Nat, q2 = some j3 → zIsLine j3 ∧ ((a2 < (-1 : Int32) → P (-1 : Int64) σ1) ∧ (¬ a2 < (-1 : Int32) → ((a2 ≤ (999 : Int32) → ((¬ a2 = (-1 : Int32) → (w_X7_overPosts j3 ((σ1.1 j3 11) - (1 : Int32)) σ1 (fun (σ4 : zSto) => (w_X7_weightUpTo a2 σ4 (fun (r6 : Int64) (σ5 : zSto) => (w_X9_leastTerm r6 (σ5.2 198 2) a3 σ5 (fun (r8 : Int64) (σ7 : zSto) => P r8 σ7))))))) ∧ (a2 = (-1 : Int32) → (w_X9_tenfoldMean j3 σ1 (fun (r10 : Int64) (σ9 : zSto) => (w_X9_leastTerm r10 (10 : Int64) a3 σ9 (fun (r12 : Int64) (σ11 : zSto) => P r12 σ11))))))) ∧ (¬ a2 ≤ (999 : Int32) → P (-1 : Int64) σ1))))))))
set_option maxRecDepth 100000 in
set_option maxHeartbeats 4000000 in
theorem c_X9_chance (l : Launch) (D : va_G) (cy : Nat → ClassId) (g : Nat → Nat) (a1 : Int32) (a2 : Int32) (a3 : Int32)  (σ : zSto) {P : Int64 → zSto → Prop} (h : w_X9_chance a1 a2 a3 σ P) : zMl l yX9_chance cX9_chance 5 (some .long) (zrm 3 113) D cy g [.ref (g 0), .int a1, .int a2, .int a3] σ P := by
  unfold w_X9_chance at h
  refine zm_l RX9 rfl (by decide +kernel) (Nat.le_of_ble_eq_true rfl) ?_
  intro p e s m below meth c C hr
  refine zx_lv (lv' := [(0, .ref (g 0)), (1, .int a1), (2, .int a2), (3, .int a3)]) [0, 1, 2, 3] rfl ?_
  refine zx_aload_n C dX9_chance_0 0 rfl ?_
  refine zx_getR C zs_0 fg_X9_12 rfl 1 rfl dX9_chance_1 ?_
  refine zx_iload_n C dX9_chance_4 1 rfl ?_
  refine zx_cVq C [.int a1] lk_X9_121 (c_X8_lineAt l D cy g 1 a1 zIsState_1 σ h) zIsState_1.1 rfl ⟨by decide, by decide⟩ ⟨rfl, rfl⟩ ⟨Nat.zero_le _, Nat.zero_le _⟩ rfl rfl (Nat.le_of_ble_eq_true rfl) dX9_chance_5 (fun σ1 h => ?_) (fun j3 σ1 h => ?_)
  · replace h := h.1 rfl
    refine zx_astoreN (lv' := [(4, .null), (0, .ref (g 0)), (1, .int a1), (2, .int a2), (3, .int a3)]) C dX9_chance_8 (by decide) rfl ?_
    refine zx_aloadN C dX9_chance_10 0 rfl ?_
    refine zx_ifnullN C 27 dX9_chance_12 (by decide) ?_
    refine zx_ldc2 C dX9_chance_27 co_X9_346 ?_
    exact zx_lret C hr dX9_chance_30 h
  · obtain ⟨hj3, h⟩ := h.2 j3 rfl
    refine zx_astore (lv' := [(4, .ref (g j3)), (0, .ref (g 0)), (1, .int a1), (2, .int a2), (3, .int a3)]) C dX9_chance_8 (by decide) rfl ?_
    refine zx_aload C dX9_chance_10 0 rfl ?_
    refine zx_ifnull C dX9_chance_12 ?_
    refine zx_iload_n C dX9_chance_15 3 rfl ?_
    refine zx_iconst (v := (-1 : Int32)) C dX9_chance_16 (by decide) ?_
    refine zx_icmp_lt C 27 dX9_chance_17 (by decide) (fun q => ?_) (fun q => ?_)
    · replace h := h.1 q
      refine zx_ldc2 C dX9_chance_27 co_X9_346 ?_
      exact zx_lret C hr dX9_chance_30 h
    · replace h := h.2 q
      refine zx_iload_n C dX9_chance_20 3 rfl ?_
      refine zx_sipush (v := (999 : Int32)) C dX9_chance_21 (by decide) ?_
      refine zx_icmp_le C 31 dX9_chance_24 (by decide) (fun q => ?_) (fun q => ?_)
      · replace h := h.1 q
        refine zx_iload_n C dX9_chance_31 3 rfl ?_
        refine zx_iconst (v := (-1 : Int32)) C dX9_chance_32 (by decide) ?_
        refine zx_icmp_ne C 49 dX9_chance_33 (by decide) (fun q => ?_) (fun q => ?_)
        · replace h := h.1 q
          refine zx_aload_n C dX9_chance_49 1 rfl ?_
          refine zx_getR C zs_0 fg_X9_48 rfl 198 rfl dX9_chance_50 ?_
          refine zx_aload C dX9_chance_53 0 rfl ?_
          refine zx_aload C dX9_chance_55 0 rfl ?_
          refine zx_getI C hj3.1 fg_X9_125 rfl dX9_chance_57 ?_
          refine zx_iconst (v := (1 : Int32)) C dX9_chance_60 (by decide) ?_
          refine zx_isub C dX9_chance_61 ?_
          refine zx_cVv C [.ref (g j3), .int ((σ1.1 j3 11) - (1 : Int32))] lk_X9_358 (c_X7_overPosts l D cy g j3 ((σ1.1 j3 11) - (1 : Int32)) hj3 σ1 h) zs_198 rfl ⟨by decide, by decide⟩ ⟨rfl, rfl⟩ ⟨Nat.zero_le _, Nat.zero_le _⟩ rfl rfl (Nat.le_of_ble_eq_true rfl) dX9_chance_62 (fun σ4 h => ?_)
          refine zx_aload_n C dX9_chance_65 1 rfl ?_
          refine zx_getR C zs_0 fg_X9_48 rfl 198 rfl dX9_chance_66 ?_
          refine zx_iload_n C dX9_chance_69 3 rfl ?_
          refine zx_cVl C [.int a2] lk_X9_361 (c_X7_weightUpTo l D cy g a2  σ4 h) zs_198 rfl ⟨by decide, by decide⟩ ⟨rfl, rfl⟩ ⟨Nat.zero_le _, Nat.zero_le _⟩ rfl rfl (Nat.le_of_ble_eq_true rfl) dX9_chance_70 (fun r6 σ5 h => ?_)
          refine zx_aload_n C dX9_chance_73 1 rfl ?_
          refine zx_getR C zs_0 fg_X9_48 rfl 198 rfl dX9_chance_74 ?_
          refine zx_getL C zs_198 fg_X9_365 rfl dX9_chance_77 ?_
          refine zx_iload_n C dX9_chance_80 4 rfl ?_
          refine zx_cSl C [.long r6, .long (σ5.2 198 2), .int a3] lk_X9_354 (c_X9_leastTerm l D cy g r6 (σ5.2 198 2) a3  σ5 h) ⟨by decide, by decide⟩ ⟨rfl, rfl⟩ ⟨Nat.zero_le _, Nat.zero_le _⟩ rfl rfl (Nat.le_of_ble_eq_true rfl) dX9_chance_81 (fun r8 σ7 h => ?_)
          exact zx_lret C hr dX9_chance_84 h
        · replace h := h.2 q
          refine zx_aload C dX9_chance_36 0 rfl ?_
          refine zx_cSl C [.ref (g j3)] lk_X9_348 (c_X9_tenfoldMean l D cy g j3 hj3 σ1 h) ⟨by decide, by decide⟩ ⟨rfl, rfl⟩ ⟨Nat.zero_le _, Nat.zero_le _⟩ rfl rfl (Nat.le_of_ble_eq_true rfl) dX9_chance_38 (fun r10 σ9 h => ?_)
          refine zx_ldc2 C dX9_chance_41 co_X9_352 ?_
          refine zx_iload_n C dX9_chance_44 4 rfl ?_
          refine zx_cSl C [.long r10, .long (10 : Int64), .int a3] lk_X9_354 (c_X9_leastTerm l D cy g r10 (10 : Int64) a3  σ9 h) ⟨by decide, by decide⟩ ⟨rfl, rfl⟩ ⟨Nat.zero_le _, Nat.zero_le _⟩ rfl rfl (Nat.le_of_ble_eq_true rfl) dX9_chance_45 (fun r12 σ11 h => ?_)
          exact zx_lret C hr dX9_chance_48 h
      · replace h := h.2 q
        refine zx_ldc2 C dX9_chance_27 co_X9_346 ?_
        exact zx_lret C hr dX9_chance_30 h
def w_X9_isHundredths (a1 : Int32) (σ : zSto) (P : Int32 → zSto → Prop) : Prop := ((a1 < 0 → P (0 : Int32) σ) ∧ (¬ a1 < 0 → (((100 : Int32) < a1 → P (0 : Int32) σ) ∧ (¬ (100 : Int32) < a1 → P (1 : Int32) σ))))
set_option maxRecDepth 100000 in
set_option maxHeartbeats 4000000 in
theorem c_X9_isHundredths (l : Launch) (D : va_G) (cy : Nat → ClassId) (g : Nat → Nat) (a1 : Int32)  (σ : zSto) {P : Int32 → zSto → Prop} (h : w_X9_isHundredths a1 σ P) : zMb l yX9_isHundredths cX9_isHundredths 1 (some .boolean) (zrm 0 0) D cy g [.int a1] σ P := by
  unfold w_X9_isHundredths at h
  refine zm_b RX9 rfl (by decide +kernel) (Nat.le_of_ble_eq_true rfl) ?_
  intro p e s m below meth c C hr
  refine zx_lv (lv' := [(0, .int a1)]) [0] rfl ?_
  refine zx_iload_n C dX9_isHundredths_0 0 rfl ?_
  refine zx_if_lt C 14 dX9_isHundredths_1 (by decide) (fun q => ?_) (fun q => ?_)
  · replace h := h.1 q
    refine zx_iconst (v := (0 : Int32)) C dX9_isHundredths_14 (by decide) ?_
    exact zx_zret C hr dX9_isHundredths_15 (Or.inl rfl) h
  · replace h := h.2 q
    refine zx_iload_n C dX9_isHundredths_4 0 rfl ?_
    refine zx_bipush (v := (100 : Int32)) C dX9_isHundredths_5 (by decide) ?_
    refine zx_icmp_gt C 14 dX9_isHundredths_7 (by decide) (fun q => ?_) (fun q => ?_)
    · replace h := h.1 q
      refine zx_iconst (v := (0 : Int32)) C dX9_isHundredths_14 (by decide) ?_
      exact zx_zret C hr dX9_isHundredths_15 (Or.inl rfl) h
    · replace h := h.2 q
      refine zx_iconst (v := (1 : Int32)) C dX9_isHundredths_10 (by decide) ?_
      refine zx_goto C 15 dX9_isHundredths_11 (by decide) ?_
      exact zx_zret C hr dX9_isHundredths_15 (Or.inr rfl) h
theorem lk_X9_369 : zLS RX9 369 yX9_isHundredths cX9_isHundredths 1 (some .boolean) 1 := zLS_of ml_X9_369 st_X9_isHundredths ini_X9 cd_X9_isHundredths (by decide +kernel)
theorem lk_X9_372 : zLV RX9 372 RX7 yX7_leastCosts cX7_leastCosts 5 (some .int) 1 := zLV_of ml_X9_372 im_X7_leastCosts se_X7_leastCosts ini_X7 cd_X7_leastCosts (by decide +kernel)
def w_X9_slack (a1 : Int32) (a2 : Int32) (σ : zSto) (P : Int32 → zSto → Prop) : Prop := (w_X8_lineAt 1 a1 σ (fun (q2 : Option Nat) (σ1 : zSto) => ((q2 = none → P (-1 : Int32) σ1) ∧ (∀ j3 : Nat, q2 = some j3 → zIsLine j3 ∧ (w_X9_isHundredths a2 σ1 (fun (r5 : Int32) (σ4 : zSto) => (r5 = 0 ∨ r5 = 1) → ((¬ r5 = 0 → (w_X7_overPosts j3 ((σ4.1 j3 11) - (1 : Int32)) σ4 (fun (σ6 : zSto) => (w_X7_leastCosts a2 σ6 (fun (r8 : Int32) (σ7 : zSto) => P r8 σ7))))) ∧ (r5 = 0 → P (-1 : Int32) σ4))))))))
set_option maxRecDepth 100000 in
set_option maxHeartbeats 4000000 in
theorem c_X9_slack (l : Launch) (D : va_G) (cy : Nat → ClassId) (g : Nat → Nat) (a1 : Int32) (a2 : Int32)  (σ : zSto) {P : Int32 → zSto → Prop} (h : w_X9_slack a1 a2 σ P) : zMi l yX9_slack cX9_slack 4 (some .int) (zrm 3 113) D cy g [.ref (g 0), .int a1, .int a2] σ P := by
  unfold w_X9_slack at h
  refine zm_i RX9 rfl (by decide +kernel) (Nat.le_of_ble_eq_true rfl) ?_
  intro p e s m below meth c C hr
  refine zx_lv (lv' := [(0, .ref (g 0)), (1, .int a1), (2, .int a2)]) [0, 1, 2] rfl ?_
  refine zx_aload_n C dX9_slack_0 0 rfl ?_
  refine zx_getR C zs_0 fg_X9_12 rfl 1 rfl dX9_slack_1 ?_
  refine zx_iload_n C dX9_slack_4 1 rfl ?_
  refine zx_cVq C [.int a1] lk_X9_121 (c_X8_lineAt l D cy g 1 a1 zIsState_1 σ h) zIsState_1.1 rfl ⟨by decide, by decide⟩ ⟨rfl, rfl⟩ ⟨Nat.zero_le _, Nat.zero_le _⟩ rfl rfl (Nat.le_of_ble_eq_true rfl) dX9_slack_5 (fun σ1 h => ?_) (fun j3 σ1 h => ?_)
  · replace h := h.1 rfl
    refine zx_astore_nN (lv' := [(3, .null), (0, .ref (g 0)), (1, .int a1), (2, .int a2)]) C dX9_slack_8 (by decide) rfl ?_
    refine zx_aload_nN C dX9_slack_9 0 rfl ?_
    refine zx_ifnullN C 20 dX9_slack_10 (by decide) ?_
    refine zx_iconst (v := (-1 : Int32)) C dX9_slack_20 (by decide) ?_
    exact zx_iret C hr dX9_slack_21 h
  · obtain ⟨hj3, h⟩ := h.2 j3 rfl
    refine zx_astore_n (lv' := [(3, .ref (g j3)), (0, .ref (g 0)), (1, .int a1), (2, .int a2)]) C dX9_slack_8 (by decide) rfl ?_
    refine zx_aload_n C dX9_slack_9 0 rfl ?_
    refine zx_ifnull C dX9_slack_10 ?_
    refine zx_iload_n C dX9_slack_13 3 rfl ?_
    refine zx_cSb C [.int a2] lk_X9_369 (c_X9_isHundredths l D cy g a2  σ1 h) ⟨by decide, by decide⟩ ⟨rfl, rfl⟩ ⟨Nat.zero_le _, Nat.zero_le _⟩ rfl rfl (Nat.le_of_ble_eq_true rfl) dX9_slack_14 (fun r5 σ4 hb h => ?_)
    replace h := h hb
    refine zx_if_ne C 22 dX9_slack_17 (by decide) (fun q => ?_) (fun q => ?_)
    · replace h := h.1 q
      refine zx_aload_n C dX9_slack_22 1 rfl ?_
      refine zx_getR C zs_0 fg_X9_48 rfl 198 rfl dX9_slack_23 ?_
      refine zx_aload_n C dX9_slack_26 0 rfl ?_
      refine zx_aload_n C dX9_slack_27 0 rfl ?_
      refine zx_getI C hj3.1 fg_X9_125 rfl dX9_slack_28 ?_
      refine zx_iconst (v := (1 : Int32)) C dX9_slack_31 (by decide) ?_
      refine zx_isub C dX9_slack_32 ?_
      refine zx_cVv C [.ref (g j3), .int ((σ4.1 j3 11) - (1 : Int32))] lk_X9_358 (c_X7_overPosts l D cy g j3 ((σ4.1 j3 11) - (1 : Int32)) hj3 σ4 h) zs_198 rfl ⟨by decide, by decide⟩ ⟨rfl, rfl⟩ ⟨Nat.zero_le _, Nat.zero_le _⟩ rfl rfl (Nat.le_of_ble_eq_true rfl) dX9_slack_33 (fun σ6 h => ?_)
      refine zx_aload_n C dX9_slack_36 1 rfl ?_
      refine zx_getR C zs_0 fg_X9_48 rfl 198 rfl dX9_slack_37 ?_
      refine zx_iload_n C dX9_slack_40 3 rfl ?_
      refine zx_cVi C [.int a2] lk_X9_372 (c_X7_leastCosts l D cy g a2  σ6 h) zs_198 rfl ⟨by decide, by decide⟩ ⟨rfl, rfl⟩ ⟨Nat.zero_le _, Nat.zero_le _⟩ rfl rfl (Nat.le_of_ble_eq_true rfl) dX9_slack_41 (fun r8 σ7 h => ?_)
      exact zx_iret C hr dX9_slack_44 h
    · replace h := h.2 q
      refine zx_iconst (v := (-1 : Int32)) C dX9_slack_20 (by decide) ?_
      exact zx_iret C hr dX9_slack_21 h
theorem lk_X9_375 : zLV RX9 375 RX0 yX0_minutesTo cX0_minutesTo 4 (some .int) 1 := zLV_of ml_X9_375 im_X0_minutesTo se_X0_minutesTo ini_X0 cd_X0_minutesTo (by decide +kernel)
def w_X9_print (a1 : Int32) (a2 : Int32) (a3 : Int32) (σ : zSto) (P : Int32 → zSto → Prop) : Prop := (w_X8_lineAt 1 a1 σ (fun (q2 : Option Nat) (σ1 : zSto) => ((q2 = none → P (-1 : Int32) σ1) ∧ (∀ j3 : Nat, q2 = some j3 → zIsLine j3 ∧ (w_X0_isStation j3 a2 σ1 (fun (r5 : Int32) (σ4 : zSto) => (r5 = 0 ∨ r5 = 1) → ((r5 = 0 → P (-1 : Int32) σ4) ∧ (¬ r5 = 0 → (w_X9_isHundredths a3 σ4 (fun (r7 : Int32) (σ6 : zSto) => (r7 = 0 ∨ r7 = 1) → ((¬ r7 = 0 → ((¬ a3 = 0 → (w_X7_overPosts j3 a2 σ6 (fun (σ8 : zSto) => (w_X0_minutesTo j3 a2 σ8 (fun (r10 : Int32) (σ9 : zSto) => (w_X7_leastCosts a3 σ9 (fun (r12 : Int32) (σ11 : zSto) => P (r10 + r12) σ11))))))) ∧ (a3 = 0 → P (0 : Int32) σ6))) ∧ (r7 = 0 → P (-1 : Int32) σ6))))))))))))
set_option maxRecDepth 100000 in
set_option maxHeartbeats 4000000 in
theorem c_X9_print (l : Launch) (D : va_G) (cy : Nat → ClassId) (g : Nat → Nat) (a1 : Int32) (a2 : Int32) (a3 : Int32)  (σ : zSto) {P : Int32 → zSto → Prop} (h : w_X9_print a1 a2 a3 σ P) : zMi l yX9_print cX9_print 5 (some .int) (zrm 3 113) D cy g [.ref (g 0), .int a1, .int a2, .int a3] σ P := by
  unfold w_X9_print at h
  refine zm_i RX9 rfl (by decide +kernel) (Nat.le_of_ble_eq_true rfl) ?_
  intro p e s m below meth c C hr
  refine zx_lv (lv' := [(0, .ref (g 0)), (1, .int a1), (2, .int a2), (3, .int a3)]) [0, 1, 2, 3] rfl ?_
  refine zx_aload_n C dX9_print_0 0 rfl ?_
  refine zx_getR C zs_0 fg_X9_12 rfl 1 rfl dX9_print_1 ?_
  refine zx_iload_n C dX9_print_4 1 rfl ?_
  refine zx_cVq C [.int a1] lk_X9_121 (c_X8_lineAt l D cy g 1 a1 zIsState_1 σ h) zIsState_1.1 rfl ⟨by decide, by decide⟩ ⟨rfl, rfl⟩ ⟨Nat.zero_le _, Nat.zero_le _⟩ rfl rfl (Nat.le_of_ble_eq_true rfl) dX9_print_5 (fun σ1 h => ?_) (fun j3 σ1 h => ?_)
  · replace h := h.1 rfl
    refine zx_astoreN (lv' := [(4, .null), (0, .ref (g 0)), (1, .int a1), (2, .int a2), (3, .int a3)]) C dX9_print_8 (by decide) rfl ?_
    refine zx_aloadN C dX9_print_10 0 rfl ?_
    refine zx_ifnullN C 31 dX9_print_12 (by decide) ?_
    refine zx_iconst (v := (-1 : Int32)) C dX9_print_31 (by decide) ?_
    exact zx_iret C hr dX9_print_32 h
  · obtain ⟨hj3, h⟩ := h.2 j3 rfl
    refine zx_astore (lv' := [(4, .ref (g j3)), (0, .ref (g 0)), (1, .int a1), (2, .int a2), (3, .int a3)]) C dX9_print_8 (by decide) rfl ?_
    refine zx_aload C dX9_print_10 0 rfl ?_
    refine zx_ifnull C dX9_print_12 ?_
    refine zx_aload C dX9_print_15 0 rfl ?_
    refine zx_iload_n C dX9_print_17 3 rfl ?_
    refine zx_cVb C [.int a2] lk_X9_242 (c_X0_isStation l D cy g j3 a2 hj3 σ1 h) hj3.1 rfl ⟨by decide, by decide⟩ ⟨rfl, rfl⟩ ⟨Nat.zero_le _, Nat.zero_le _⟩ rfl rfl (Nat.le_of_ble_eq_true rfl) dX9_print_18 (fun r5 σ4 hb h => ?_)
    replace h := h hb
    refine zx_if_eq C 31 dX9_print_21 (by decide) (fun q => ?_) (fun q => ?_)
    · replace h := h.1 q
      refine zx_iconst (v := (-1 : Int32)) C dX9_print_31 (by decide) ?_
      exact zx_iret C hr dX9_print_32 h
    · replace h := h.2 q
      refine zx_iload_n C dX9_print_24 4 rfl ?_
      refine zx_cSb C [.int a3] lk_X9_369 (c_X9_isHundredths l D cy g a3  σ4 h) ⟨by decide, by decide⟩ ⟨rfl, rfl⟩ ⟨Nat.zero_le _, Nat.zero_le _⟩ rfl rfl (Nat.le_of_ble_eq_true rfl) dX9_print_25 (fun r7 σ6 hb h => ?_)
      replace h := h hb
      refine zx_if_ne C 33 dX9_print_28 (by decide) (fun q => ?_) (fun q => ?_)
      · replace h := h.1 q
        refine zx_iload_n C dX9_print_33 4 rfl ?_
        refine zx_if_ne C 39 dX9_print_34 (by decide) (fun q => ?_) (fun q => ?_)
        · replace h := h.1 q
          refine zx_aload_n C dX9_print_39 1 rfl ?_
          refine zx_getR C zs_0 fg_X9_48 rfl 198 rfl dX9_print_40 ?_
          refine zx_aload C dX9_print_43 0 rfl ?_
          refine zx_iload_n C dX9_print_45 3 rfl ?_
          refine zx_cVv C [.ref (g j3), .int a2] lk_X9_358 (c_X7_overPosts l D cy g j3 a2 hj3 σ6 h) zs_198 rfl ⟨by decide, by decide⟩ ⟨rfl, rfl⟩ ⟨Nat.zero_le _, Nat.zero_le _⟩ rfl rfl (Nat.le_of_ble_eq_true rfl) dX9_print_46 (fun σ8 h => ?_)
          refine zx_aload C dX9_print_49 0 rfl ?_
          refine zx_iload_n C dX9_print_51 3 rfl ?_
          refine zx_cVi C [.int a2] lk_X9_375 (c_X0_minutesTo l D cy g j3 a2 hj3 σ8 h) hj3.1 rfl ⟨by decide, by decide⟩ ⟨rfl, rfl⟩ ⟨Nat.zero_le _, Nat.zero_le _⟩ rfl rfl (Nat.le_of_ble_eq_true rfl) dX9_print_52 (fun r10 σ9 h => ?_)
          refine zx_aload_n C dX9_print_55 1 rfl ?_
          refine zx_getR C zs_0 fg_X9_48 rfl 198 rfl dX9_print_56 ?_
          refine zx_iload_n C dX9_print_59 4 rfl ?_
          refine zx_cVi C [.int a3] lk_X9_372 (c_X7_leastCosts l D cy g a3  σ9 h) zs_198 rfl ⟨by decide, by decide⟩ ⟨rfl, rfl⟩ ⟨Nat.zero_le _, Nat.zero_le _⟩ rfl rfl (Nat.le_of_ble_eq_true rfl) dX9_print_60 (fun r12 σ11 h => ?_)
          refine zx_iadd C dX9_print_63 ?_
          exact zx_iret C hr dX9_print_64 h
        · replace h := h.2 q
          refine zx_iconst (v := (0 : Int32)) C dX9_print_37 (by decide) ?_
          exact zx_iret C hr dX9_print_38 h
      · replace h := h.2 q
        refine zx_iconst (v := (-1 : Int32)) C dX9_print_31 (by decide) ?_
        exact zx_iret C hr dX9_print_32 h
