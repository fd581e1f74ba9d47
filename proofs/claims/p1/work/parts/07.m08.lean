def w_X10_count (a1 : Int32) (σ : zSto) (P : Int32 → zSto → Prop) : Prop := (∀ σ1 : zSto, σ1 = zI σ 223 0 (0 : Int32) → (w_X10_in a1 (0 : Int32) (2 : Int32) σ1 (fun (r3 : Int32) (σ2 : zSto) => (r3 = 0 ∨ r3 = 1) → ((r3 = 0 → P (-2 : Int32) σ2) ∧ (¬ r3 = 0 → (vp_in a1 12 ∧ P (σ2.1 228 (a1).toNatClampNeg) σ2))))))
set_option maxRecDepth 100000 in
set_option maxHeartbeats 4000000 in
theorem c_X10_count (l : Launch) (D : va_G) (cy : Nat → ClassId) (g : Nat → Nat) (a1 : Int32)  (σ : zSto) {P : Int32 → zSto → Prop} (h : w_X10_count a1 σ P) : zMi l yX10_count cX10_count 2 (some .int) (zrm 1 22) D cy g [.ref (g 223), .int a1] σ P := by
  unfold w_X10_count at h
  refine zm_i RX10 rfl (by decide +kernel) (Nat.le_of_ble_eq_true rfl) ?_
  intro p e s m below meth c C hr
  refine zx_lv (lv' := [(0, .ref (g 223)), (1, .int a1)]) [0, 1] rfl ?_
  refine zx_aload_n C dX10_count_0 0 rfl ?_
  refine zx_iconst (v := (0 : Int32)) C dX10_count_1 (by decide) ?_
  refine zx_putI C zs_223 fp_X10_91 rfl dX10_count_2 ?_
  refine zx_sig (fun σ1 eσ1 => ?_)
  replace h := h σ1 eσ1
  refine zx_iload_n C dX10_count_5 1 rfl ?_
  refine zx_iconst (v := (0 : Int32)) C dX10_count_6 (by decide) ?_
  refine zx_iconst (v := (2 : Int32)) C dX10_count_7 (by decide) ?_
  refine zx_cSb C [.int a1, .int (0 : Int32), .int (2 : Int32)] lk_X10_103 (c_X10_in l D cy g a1 (0 : Int32) (2 : Int32)  σ1 h) ⟨by decide, by decide⟩ ⟨rfl, rfl⟩ ⟨Nat.zero_le _, Nat.zero_le _⟩ rfl rfl (Nat.le_of_ble_eq_true rfl) dX10_count_8 (fun r3 σ2 hb h => ?_)
  replace h := h hb
  refine zx_if_eq C 23 dX10_count_11 (by decide) (fun q => ?_) (fun q => ?_)
  · replace h := h.1 q
    refine zx_bipush (v := (-2 : Int32)) C dX10_count_23 (by decide) ?_
    exact zx_iret C hr dX10_count_25 h
  · replace h := h.2 q
    refine zx_aload_n C dX10_count_14 0 rfl ?_
    refine zx_getR C zs_223 fg_X10_23 rfl 228 rfl dX10_count_15 ?_
    refine zx_iload_n C dX10_count_18 1 rfl ?_
    obtain ⟨bd4, h⟩ := h
    refine zx_iald C (a1).toNatClampNeg zs_228 bd4 rfl dX10_count_19 ?_
    refine zx_goto C 25 dX10_count_20 (by decide) ?_
    exact zx_iret C hr dX10_count_25 h
theorem lk_X10_425 : zLV RX10 425 RX10 yX10_copyAll cX10_copyAll 4 none 2 := zLV_of ml_X10_425 im_X10_copyAll se_X10_copyAll ini_X10 cd_X10_copyAll (by decide +kernel)
theorem fg_X10_88 : zFG RX10 88 10 49 := ⟨RX10, TX10, 50, rfl, lay_X10, by decide, fl_X10_88⟩
def w_X10_image (a1 : Int32) (σ : zSto) (P : Int32 → zSto → Prop) : Prop := (∀ σ1 : zSto, σ1 = zI σ 223 0 (0 : Int32) → (w_X10_in a1 (0 : Int32) (2 : Int32) σ1 (fun (r3 : Int32) (σ2 : zSto) => (r3 = 0 ∨ r3 = 1) → ((¬ r3 = 0 → (w_X10_copyAll (0 : Int32) (a1 + (1 : Int32)) σ2 (fun (σ4 : zSto) => (vp_in a1 3 ∧ (∀ σ6 : zSto, σ6 = zI σ4 249 (a1).toNatClampNeg (vp_nar .boolean (1 : Int32)) → P (1 : Int32) σ6))))) ∧ (r3 = 0 → P (0 : Int32) σ2)))))
set_option maxRecDepth 100000 in
set_option maxHeartbeats 4000000 in
theorem c_X10_image (l : Launch) (D : va_G) (cy : Nat → ClassId) (g : Nat → Nat) (a1 : Int32)  (σ : zSto) {P : Int32 → zSto → Prop} (h : w_X10_image a1 σ P) : zMb l yX10_image cX10_image 2 (some .boolean) (zrm 2 47) D cy g [.ref (g 223), .int a1] σ P := by
  unfold w_X10_image at h
  refine zm_b RX10 rfl (by decide +kernel) (Nat.le_of_ble_eq_true rfl) ?_
  intro p e s m below meth c C hr
  refine zx_lv (lv' := [(0, .ref (g 223)), (1, .int a1)]) [0, 1] rfl ?_
  refine zx_aload_n C dX10_image_0 0 rfl ?_
  refine zx_iconst (v := (0 : Int32)) C dX10_image_1 (by decide) ?_
  refine zx_putI C zs_223 fp_X10_91 rfl dX10_image_2 ?_
  refine zx_sig (fun σ1 eσ1 => ?_)
  replace h := h σ1 eσ1
  refine zx_iload_n C dX10_image_5 1 rfl ?_
  refine zx_iconst (v := (0 : Int32)) C dX10_image_6 (by decide) ?_
  refine zx_iconst (v := (2 : Int32)) C dX10_image_7 (by decide) ?_
  refine zx_cSb C [.int a1, .int (0 : Int32), .int (2 : Int32)] lk_X10_103 (c_X10_in l D cy g a1 (0 : Int32) (2 : Int32)  σ1 h) ⟨by decide, by decide⟩ ⟨rfl, rfl⟩ ⟨Nat.zero_le _, Nat.zero_le _⟩ rfl rfl (Nat.le_of_ble_eq_true rfl) dX10_image_8 (fun r3 σ2 hb h => ?_)
  replace h := h hb
  refine zx_if_ne C 16 dX10_image_11 (by decide) (fun q => ?_) (fun q => ?_)
  · replace h := h.1 q
    refine zx_aload_n C dX10_image_16 0 rfl ?_
    refine zx_iconst (v := (0 : Int32)) C dX10_image_17 (by decide) ?_
    refine zx_iload_n C dX10_image_18 1 rfl ?_
    refine zx_iconst (v := (1 : Int32)) C dX10_image_19 (by decide) ?_
    refine zx_iadd C dX10_image_20 ?_
    refine zx_cVv C [.int (0 : Int32), .int (a1 + (1 : Int32))] lk_X10_425 (c_X10_copyAll l D cy g (0 : Int32) (a1 + (1 : Int32))  σ2 h) zs_223 rfl ⟨by decide, by decide⟩ ⟨rfl, rfl⟩ ⟨Nat.zero_le _, Nat.zero_le _⟩ rfl rfl (Nat.le_of_ble_eq_true rfl) dX10_image_21 (fun σ4 h => ?_)
    refine zx_aload_n C dX10_image_24 0 rfl ?_
    refine zx_getR C zs_223 fg_X10_88 rfl 249 rfl dX10_image_25 ?_
    refine zx_iload_n C dX10_image_28 1 rfl ?_
    refine zx_iconst (v := (1 : Int32)) C dX10_image_29 (by decide) ?_
    obtain ⟨bd5, h⟩ := h
    refine zx_zast C (a1).toNatClampNeg zs_249 bd5 rfl dX10_image_30 ?_
    refine zx_sig (fun σ6 eσ6 => ?_)
    replace h := h σ6 eσ6
    refine zx_iconst (v := (1 : Int32)) C dX10_image_31 (by decide) ?_
    exact zx_zret C hr dX10_image_32 (Or.inr rfl) h
  · replace h := h.2 q
    refine zx_iconst (v := (0 : Int32)) C dX10_image_14 (by decide) ?_
    exact zx_zret C hr dX10_image_15 (Or.inl rfl) h
def w_X10_again (a1 : Int32) (σ : zSto) (P : Int32 → zSto → Prop) : Prop := (∀ σ1 : zSto, σ1 = zI σ 223 0 (0 : Int32) → (w_X10_in a1 (0 : Int32) (2 : Int32) σ1 (fun (r3 : Int32) (σ2 : zSto) => (r3 = 0 ∨ r3 = 1) → ((r3 = 0 → P (0 : Int32) σ2) ∧ (¬ r3 = 0 → (vp_in a1 3 ∧ ((¬ (σ2.1 249 (a1).toNatClampNeg) = 0 → (w_X10_copyAll (a1 + (1 : Int32)) (0 : Int32) σ2 (fun (σ5 : zSto) => P (1 : Int32) σ5))) ∧ ((σ2.1 249 (a1).toNatClampNeg) = 0 → P (0 : Int32) σ2))))))))
set_option maxRecDepth 100000 in
set_option maxHeartbeats 4000000 in
theorem c_X10_again (l : Launch) (D : va_G) (cy : Nat → ClassId) (g : Nat → Nat) (a1 : Int32)  (σ : zSto) {P : Int32 → zSto → Prop} (h : w_X10_again a1 σ P) : zMb l yX10_again cX10_again 2 (some .boolean) (zrm 2 47) D cy g [.ref (g 223), .int a1] σ P := by
  unfold w_X10_again at h
  refine zm_b RX10 rfl (by decide +kernel) (Nat.le_of_ble_eq_true rfl) ?_
  intro p e s m below meth c C hr
  refine zx_lv (lv' := [(0, .ref (g 223)), (1, .int a1)]) [0, 1] rfl ?_
  refine zx_aload_n C dX10_again_0 0 rfl ?_
  refine zx_iconst (v := (0 : Int32)) C dX10_again_1 (by decide) ?_
  refine zx_putI C zs_223 fp_X10_91 rfl dX10_again_2 ?_
  refine zx_sig (fun σ1 eσ1 => ?_)
  replace h := h σ1 eσ1
  refine zx_iload_n C dX10_again_5 1 rfl ?_
  refine zx_iconst (v := (0 : Int32)) C dX10_again_6 (by decide) ?_
  refine zx_iconst (v := (2 : Int32)) C dX10_again_7 (by decide) ?_
  refine zx_cSb C [.int a1, .int (0 : Int32), .int (2 : Int32)] lk_X10_103 (c_X10_in l D cy g a1 (0 : Int32) (2 : Int32)  σ1 h) ⟨by decide, by decide⟩ ⟨rfl, rfl⟩ ⟨Nat.zero_le _, Nat.zero_le _⟩ rfl rfl (Nat.le_of_ble_eq_true rfl) dX10_again_8 (fun r3 σ2 hb h => ?_)
  replace h := h hb
  refine zx_if_eq C 23 dX10_again_11 (by decide) (fun q => ?_) (fun q => ?_)
  · replace h := h.1 q
    refine zx_iconst (v := (0 : Int32)) C dX10_again_23 (by decide) ?_
    exact zx_zret C hr dX10_again_24 (Or.inl rfl) h
  · replace h := h.2 q
    refine zx_aload_n C dX10_again_14 0 rfl ?_
    refine zx_getR C zs_223 fg_X10_88 rfl 249 rfl dX10_again_15 ?_
    refine zx_iload_n C dX10_again_18 1 rfl ?_
    obtain ⟨bd4, h⟩ := h
    refine zx_zald C (a1).toNatClampNeg zs_249 bd4 rfl dX10_again_19 ?_
    refine zx_if_ne C 25 dX10_again_20 (by decide) (fun q => ?_) (fun q => ?_)
    · replace h := h.1 q
      refine zx_aload_n C dX10_again_25 0 rfl ?_
      refine zx_iload_n C dX10_again_26 1 rfl ?_
      refine zx_iconst (v := (1 : Int32)) C dX10_again_27 (by decide) ?_
      refine zx_iadd C dX10_again_28 ?_
      refine zx_iconst (v := (0 : Int32)) C dX10_again_29 (by decide) ?_
      refine zx_cVv C [.int (a1 + (1 : Int32)), .int (0 : Int32)] lk_X10_425 (c_X10_copyAll l D cy g (a1 + (1 : Int32)) (0 : Int32)  σ2 h) zs_223 rfl ⟨by decide, by decide⟩ ⟨rfl, rfl⟩ ⟨Nat.zero_le _, Nat.zero_le _⟩ rfl rfl (Nat.le_of_ble_eq_true rfl) dX10_again_30 (fun σ5 h => ?_)
      refine zx_iconst (v := (1 : Int32)) C dX10_again_33 (by decide) ?_
      exact zx_zret C hr dX10_again_34 (Or.inr rfl) h
    · replace h := h.2 q
      refine zx_iconst (v := (0 : Int32)) C dX10_again_23 (by decide) ?_
      exact zx_zret C hr dX10_again_24 (Or.inl rfl) h
