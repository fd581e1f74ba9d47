def w_X10_planLine (a1 : Int64) (a2 : Int32) (σ : zSto) (P : Int32 → zSto → Prop) : Prop := (((lg_cmp a1 (1886743660 : Int64)) = 0 → (w_X10_full (0 : Int32) (16 : Int32) a2 σ (fun (σ1 : zSto) => (w_X10_token  σ1 (fun (σ2 : zSto) => (w_X10_take (0 : Int32) (0 : Int32) (15 : Int32) σ2 (fun (r4 : Int32) (σ3 : zSto) => (r4 = 0 ∨ r4 = 1) → ((r4 = 0 → P (0 : Int32) σ3) ∧ (¬ r4 = 0 → (w_X10_take (1 : Int32) (0 : Int32) (5 : Int32) σ3 (fun (r6 : Int32) (σ5 : zSto) => (r6 = 0 ∨ r6 = 1) → ((¬ r6 = 0 → (w_X10_keep (0 : Int32) (1 : Int32) (2 : Int32) (16 : Int32) (2 : Int32) σ5 (fun (σ7 : zSto) => P (1 : Int32) σ7))) ∧ (r6 = 0 → P (0 : Int32) σ5))))))))))))) ∧ (¬ (lg_cmp a1 (1886743660 : Int64)) = 0 → (w_X10_fails  σ (fun (r9 : Int32) (σ8 : zSto) => (r9 = 0 ∨ r9 = 1) → ((r9 = 0 ∨ r9 = 1) ∧ P r9 σ8)))))
set_option maxRecDepth 100000 in
set_option maxHeartbeats 4000000 in
theorem c_X10_planLine (l : Launch) (D : va_G) (cy : Nat → ClassId) (g : Nat → Nat) (a1 : Int64) (a2 : Int32)  (σ : zSto) {P : Int32 → zSto → Prop} (h : w_X10_planLine a1 a2 σ P) : zMb l yX10_planLine cX10_planLine 4 (some .boolean) (zrm 3 67) D cy g [.ref (g 223), .long a1, .int a2] σ P := by
  unfold w_X10_planLine at h
  refine zm_b RX10 rfl (by decide +kernel) (Nat.le_of_ble_eq_true rfl) ?_
  intro p e s m below meth c C hr
  refine zx_lv (lv' := [(0, .ref (g 223)), (1, .long a1), (3, .int a2)]) [0, 1, 2] rfl ?_
  refine zx_lload_n C dX10_planLine_0 1 rfl ?_
  refine zx_ldc2 C dX10_planLine_1 co_X10_207 ?_
  refine zx_lcmp C dX10_planLine_4 ?_
  refine zx_if_eq C 13 dX10_planLine_5 (by decide) (fun q => ?_) (fun q => ?_)
  · replace h := h.1 q
    refine zx_aload_n C dX10_planLine_13 0 rfl ?_
    refine zx_iconst (v := (0 : Int32)) C dX10_planLine_14 (by decide) ?_
    refine zx_bipush (v := (16 : Int32)) C dX10_planLine_15 (by decide) ?_
    refine zx_iload_n C dX10_planLine_17 2 rfl ?_
    refine zx_cVv C [.int (0 : Int32), .int (16 : Int32), .int a2] lk_X10_193 (c_X10_full l D cy g (0 : Int32) (16 : Int32) a2  σ h) zs_223 rfl ⟨by decide, by decide⟩ ⟨rfl, rfl⟩ ⟨Nat.zero_le _, Nat.zero_le _⟩ rfl rfl (Nat.le_of_ble_eq_true rfl) dX10_planLine_18 (fun σ1 h => ?_)
    refine zx_aload_n C dX10_planLine_21 0 rfl ?_
    refine zx_cVv C [] lk_X10_151 (c_X10_token l D cy g   σ1 h) zs_223 rfl ⟨by decide, by decide⟩ ⟨rfl, rfl⟩ ⟨Nat.zero_le _, Nat.zero_le _⟩ rfl rfl (Nat.le_of_ble_eq_true rfl) dX10_planLine_22 (fun σ2 h => ?_)
    refine zx_aload_n C dX10_planLine_25 0 rfl ?_
    refine zx_iconst (v := (0 : Int32)) C dX10_planLine_26 (by decide) ?_
    refine zx_iconst (v := (0 : Int32)) C dX10_planLine_27 (by decide) ?_
    refine zx_bipush (v := (15 : Int32)) C dX10_planLine_28 (by decide) ?_
    refine zx_cVb C [.int (0 : Int32), .int (0 : Int32), .int (15 : Int32)] lk_X10_154 (c_X10_take l D cy g (0 : Int32) (0 : Int32) (15 : Int32)  σ2 h) zs_223 rfl ⟨by decide, by decide⟩ ⟨rfl, rfl⟩ ⟨Nat.zero_le _, Nat.zero_le _⟩ rfl rfl (Nat.le_of_ble_eq_true rfl) dX10_planLine_30 (fun r4 σ3 hb h => ?_)
    replace h := h hb
    refine zx_if_eq C 46 dX10_planLine_33 (by decide) (fun q => ?_) (fun q => ?_)
    · replace h := h.1 q
      refine zx_iconst (v := (0 : Int32)) C dX10_planLine_46 (by decide) ?_
      exact zx_zret C hr dX10_planLine_47 (Or.inl rfl) h
    · replace h := h.2 q
      refine zx_aload_n C dX10_planLine_36 0 rfl ?_
      refine zx_iconst (v := (1 : Int32)) C dX10_planLine_37 (by decide) ?_
      refine zx_iconst (v := (0 : Int32)) C dX10_planLine_38 (by decide) ?_
      refine zx_iconst (v := (5 : Int32)) C dX10_planLine_39 (by decide) ?_
      refine zx_cVb C [.int (1 : Int32), .int (0 : Int32), .int (5 : Int32)] lk_X10_154 (c_X10_take l D cy g (1 : Int32) (0 : Int32) (5 : Int32)  σ3 h) zs_223 rfl ⟨by decide, by decide⟩ ⟨rfl, rfl⟩ ⟨Nat.zero_le _, Nat.zero_le _⟩ rfl rfl (Nat.le_of_ble_eq_true rfl) dX10_planLine_40 (fun r6 σ5 hb h => ?_)
      replace h := h hb
      refine zx_if_ne C 48 dX10_planLine_43 (by decide) (fun q => ?_) (fun q => ?_)
      · replace h := h.1 q
        refine zx_aload_n C dX10_planLine_48 0 rfl ?_
        refine zx_iconst (v := (0 : Int32)) C dX10_planLine_49 (by decide) ?_
        refine zx_iconst (v := (1 : Int32)) C dX10_planLine_50 (by decide) ?_
        refine zx_iconst (v := (2 : Int32)) C dX10_planLine_51 (by decide) ?_
        refine zx_bipush (v := (16 : Int32)) C dX10_planLine_52 (by decide) ?_
        refine zx_iconst (v := (2 : Int32)) C dX10_planLine_54 (by decide) ?_
        refine zx_cVv C [.int (0 : Int32), .int (1 : Int32), .int (2 : Int32), .int (16 : Int32), .int (2 : Int32)] lk_X10_167 (c_X10_keep l D cy g (0 : Int32) (1 : Int32) (2 : Int32) (16 : Int32) (2 : Int32)  σ5 h) zs_223 rfl ⟨by decide, by decide⟩ ⟨rfl, rfl⟩ ⟨Nat.zero_le _, Nat.zero_le _⟩ rfl rfl (Nat.le_of_ble_eq_true rfl) dX10_planLine_55 (fun σ7 h => ?_)
        refine zx_iconst (v := (1 : Int32)) C dX10_planLine_58 (by decide) ?_
        exact zx_zret C hr dX10_planLine_59 (Or.inr rfl) h
      · replace h := h.2 q
        refine zx_iconst (v := (0 : Int32)) C dX10_planLine_46 (by decide) ?_
        exact zx_zret C hr dX10_planLine_47 (Or.inl rfl) h
  · replace h := h.2 q
    refine zx_aload_n C dX10_planLine_8 0 rfl ?_
    refine zx_cVb C [] lk_X10_143 (c_X10_fails l D cy g   σ h) zs_223 rfl ⟨by decide, by decide⟩ ⟨rfl, rfl⟩ ⟨Nat.zero_le _, Nat.zero_le _⟩ rfl rfl (Nat.le_of_ble_eq_true rfl) dX10_planLine_9 (fun r9 σ8 hb h => ?_)
    replace h := h hb
    exact zx_zret C hr dX10_planLine_12 h.1 h.2
def w_X10_logLine (a1 : Int64) (a2 : Int32) (σ : zSto) (P : Int32 → zSto → Prop) : Prop := (((lg_cmp a1 (1936024942 : Int64)) = 0 → (w_X10_full (0 : Int32) (10 : Int32) a2 σ (fun (σ1 : zSto) => (w_X10_token  σ1 (fun (σ2 : zSto) => (w_X10_take (0 : Int32) (0 : Int32) (15 : Int32) σ2 (fun (r4 : Int32) (σ3 : zSto) => (r4 = 0 ∨ r4 = 1) → ((r4 = 0 → P (0 : Int32) σ3) ∧ (¬ r4 = 0 → (w_X10_take (1 : Int32) (0 : Int32) (999 : Int32) σ3 (fun (r6 : Int32) (σ5 : zSto) => (r6 = 0 ∨ r6 = 1) → ((¬ r6 = 0 → (w_X10_keep (0 : Int32) (1 : Int32) (2 : Int32) (10 : Int32) (2 : Int32) σ5 (fun (σ7 : zSto) => P (1 : Int32) σ7))) ∧ (r6 = 0 → P (0 : Int32) σ5))))))))))))) ∧ (¬ (lg_cmp a1 (1936024942 : Int64)) = 0 → (w_X10_fails  σ (fun (r9 : Int32) (σ8 : zSto) => (r9 = 0 ∨ r9 = 1) → ((r9 = 0 ∨ r9 = 1) ∧ P r9 σ8)))))
set_option maxRecDepth 100000 in
set_option maxHeartbeats 4000000 in
theorem c_X10_logLine (l : Launch) (D : va_G) (cy : Nat → ClassId) (g : Nat → Nat) (a1 : Int64) (a2 : Int32)  (σ : zSto) {P : Int32 → zSto → Prop} (h : w_X10_logLine a1 a2 σ P) : zMb l yX10_logLine cX10_logLine 4 (some .boolean) (zrm 3 67) D cy g [.ref (g 223), .long a1, .int a2] σ P := by
  unfold w_X10_logLine at h
  refine zm_b RX10 rfl (by decide +kernel) (Nat.le_of_ble_eq_true rfl) ?_
  intro p e s m below meth c C hr
  refine zx_lv (lv' := [(0, .ref (g 223)), (1, .long a1), (3, .int a2)]) [0, 1, 2] rfl ?_
  refine zx_lload_n C dX10_logLine_0 1 rfl ?_
  refine zx_ldc2 C dX10_logLine_1 co_X10_209 ?_
  refine zx_lcmp C dX10_logLine_4 ?_
  refine zx_if_eq C 13 dX10_logLine_5 (by decide) (fun q => ?_) (fun q => ?_)
  · replace h := h.1 q
    refine zx_aload_n C dX10_logLine_13 0 rfl ?_
    refine zx_iconst (v := (0 : Int32)) C dX10_logLine_14 (by decide) ?_
    refine zx_bipush (v := (10 : Int32)) C dX10_logLine_15 (by decide) ?_
    refine zx_iload_n C dX10_logLine_17 2 rfl ?_
    refine zx_cVv C [.int (0 : Int32), .int (10 : Int32), .int a2] lk_X10_193 (c_X10_full l D cy g (0 : Int32) (10 : Int32) a2  σ h) zs_223 rfl ⟨by decide, by decide⟩ ⟨rfl, rfl⟩ ⟨Nat.zero_le _, Nat.zero_le _⟩ rfl rfl (Nat.le_of_ble_eq_true rfl) dX10_logLine_18 (fun σ1 h => ?_)
    refine zx_aload_n C dX10_logLine_21 0 rfl ?_
    refine zx_cVv C [] lk_X10_151 (c_X10_token l D cy g   σ1 h) zs_223 rfl ⟨by decide, by decide⟩ ⟨rfl, rfl⟩ ⟨Nat.zero_le _, Nat.zero_le _⟩ rfl rfl (Nat.le_of_ble_eq_true rfl) dX10_logLine_22 (fun σ2 h => ?_)
    refine zx_aload_n C dX10_logLine_25 0 rfl ?_
    refine zx_iconst (v := (0 : Int32)) C dX10_logLine_26 (by decide) ?_
    refine zx_iconst (v := (0 : Int32)) C dX10_logLine_27 (by decide) ?_
    refine zx_bipush (v := (15 : Int32)) C dX10_logLine_28 (by decide) ?_
    refine zx_cVb C [.int (0 : Int32), .int (0 : Int32), .int (15 : Int32)] lk_X10_154 (c_X10_take l D cy g (0 : Int32) (0 : Int32) (15 : Int32)  σ2 h) zs_223 rfl ⟨by decide, by decide⟩ ⟨rfl, rfl⟩ ⟨Nat.zero_le _, Nat.zero_le _⟩ rfl rfl (Nat.le_of_ble_eq_true rfl) dX10_logLine_30 (fun r4 σ3 hb h => ?_)
    replace h := h hb
    refine zx_if_eq C 48 dX10_logLine_33 (by decide) (fun q => ?_) (fun q => ?_)
    · replace h := h.1 q
      refine zx_iconst (v := (0 : Int32)) C dX10_logLine_48 (by decide) ?_
      exact zx_zret C hr dX10_logLine_49 (Or.inl rfl) h
    · replace h := h.2 q
      refine zx_aload_n C dX10_logLine_36 0 rfl ?_
      refine zx_iconst (v := (1 : Int32)) C dX10_logLine_37 (by decide) ?_
      refine zx_iconst (v := (0 : Int32)) C dX10_logLine_38 (by decide) ?_
      refine zx_sipush (v := (999 : Int32)) C dX10_logLine_39 (by decide) ?_
      refine zx_cVb C [.int (1 : Int32), .int (0 : Int32), .int (999 : Int32)] lk_X10_154 (c_X10_take l D cy g (1 : Int32) (0 : Int32) (999 : Int32)  σ3 h) zs_223 rfl ⟨by decide, by decide⟩ ⟨rfl, rfl⟩ ⟨Nat.zero_le _, Nat.zero_le _⟩ rfl rfl (Nat.le_of_ble_eq_true rfl) dX10_logLine_42 (fun r6 σ5 hb h => ?_)
      replace h := h hb
      refine zx_if_ne C 50 dX10_logLine_45 (by decide) (fun q => ?_) (fun q => ?_)
      · replace h := h.1 q
        refine zx_aload_n C dX10_logLine_50 0 rfl ?_
        refine zx_iconst (v := (0 : Int32)) C dX10_logLine_51 (by decide) ?_
        refine zx_iconst (v := (1 : Int32)) C dX10_logLine_52 (by decide) ?_
        refine zx_iconst (v := (2 : Int32)) C dX10_logLine_53 (by decide) ?_
        refine zx_bipush (v := (10 : Int32)) C dX10_logLine_54 (by decide) ?_
        refine zx_iconst (v := (2 : Int32)) C dX10_logLine_56 (by decide) ?_
        refine zx_cVv C [.int (0 : Int32), .int (1 : Int32), .int (2 : Int32), .int (10 : Int32), .int (2 : Int32)] lk_X10_167 (c_X10_keep l D cy g (0 : Int32) (1 : Int32) (2 : Int32) (10 : Int32) (2 : Int32)  σ5 h) zs_223 rfl ⟨by decide, by decide⟩ ⟨rfl, rfl⟩ ⟨Nat.zero_le _, Nat.zero_le _⟩ rfl rfl (Nat.le_of_ble_eq_true rfl) dX10_logLine_57 (fun σ7 h => ?_)
        refine zx_iconst (v := (1 : Int32)) C dX10_logLine_60 (by decide) ?_
        exact zx_zret C hr dX10_logLine_61 (Or.inr rfl) h
      · replace h := h.2 q
        refine zx_iconst (v := (0 : Int32)) C dX10_logLine_48 (by decide) ?_
        exact zx_zret C hr dX10_logLine_49 (Or.inl rfl) h
  · replace h := h.2 q
    refine zx_aload_n C dX10_logLine_8 0 rfl ?_
    refine zx_cVb C [] lk_X10_143 (c_X10_fails l D cy g   σ h) zs_223 rfl ⟨by decide, by decide⟩ ⟨rfl, rfl⟩ ⟨Nat.zero_le _, Nat.zero_le _⟩ rfl rfl (Nat.le_of_ble_eq_true rfl) dX10_logLine_9 (fun r9 σ8 hb h => ?_)
    replace h := h hb
    exact zx_zret C hr dX10_logLine_12 h.1 h.2
theorem lk_X10_218 : zLV RX10 218 RX10 yX10_logLine cX10_logLine 4 (some .boolean) 2 := zLV_of ml_X10_218 im_X10_logLine se_X10_logLine ini_X10 cd_X10_logLine (by decide +kernel)
theorem lk_X10_215 : zLV RX10 215 RX10 yX10_planLine cX10_planLine 4 (some .boolean) 2 := zLV_of ml_X10_215 im_X10_planLine se_X10_planLine ini_X10 cd_X10_planLine (by decide +kernel)
theorem lk_X10_211 : zLV RX10 211 RX10 yX10_lineLine cX10_lineLine 5 (some .boolean) 2 := zLV_of ml_X10_211 im_X10_lineLine se_X10_lineLine ini_X10 cd_X10_lineLine (by decide +kernel)
def w_X10_textLines_2 (x_1 : Int32) (P : Int32 → zSto → Prop)  : Nat → Int32 → zSto → Prop
  | 0, _, _ => False
  | n + 1, x_2, σ => ((x_2 = 0 → ((x_2 = 0 ∨ x_2 = 1) ∧ P x_2 σ)) ∧ (¬ x_2 = 0 → (((σ.1 223 12) = 0 → ((x_2 = 0 ∨ x_2 = 1) ∧ P x_2 σ)) ∧ (¬ (σ.1 223 12) = 0 → (∀ x1 : Int32, x1 = (σ.1 223 11) → ((¬ (σ.1 223 12) = (2 : Int32) → ((¬ x_1 = 0 → ((¬ x_1 = (1 : Int32) → (w_X10_logLine (0 : Int64) x1 σ (fun (r3 : Int32) (σ2 : zSto) => (r3 = 0 ∨ r3 = 1) → ((r3 = 0 → ((r3 = 0 → w_X10_textLines_2 x_1 P n r3 σ2) ∧ (¬ r3 = 0 → (w_X10_token  σ2 (fun (σ4 : zSto) => w_X10_textLines_2 x_1 P n r3 σ4))))) ∧ (¬ r3 = 0 → (((σ2.1 223 12) = (4 : Int32) → ((r3 = 0 → w_X10_textLines_2 x_1 P n r3 σ2) ∧ (¬ r3 = 0 → (w_X10_token  σ2 (fun (σ5 : zSto) => w_X10_textLines_2 x_1 P n r3 σ5))))) ∧ (¬ (σ2.1 223 12) = (4 : Int32) → (w_X10_fails  σ2 (fun (r7 : Int32) (σ6 : zSto) => (r7 = 0 ∨ r7 = 1) → ((r7 = 0 → w_X10_textLines_2 x_1 P n r7 σ6) ∧ (¬ r7 = 0 → (w_X10_token  σ6 (fun (σ8 : zSto) => w_X10_textLines_2 x_1 P n r7 σ8))))))))))))) ∧ (x_1 = (1 : Int32) → (w_X10_planLine (0 : Int64) x1 σ (fun (r10 : Int32) (σ9 : zSto) => (r10 = 0 ∨ r10 = 1) → ((r10 = 0 → ((r10 = 0 → w_X10_textLines_2 x_1 P n r10 σ9) ∧ (¬ r10 = 0 → (w_X10_token  σ9 (fun (σ11 : zSto) => w_X10_textLines_2 x_1 P n r10 σ11))))) ∧ (¬ r10 = 0 → (((σ9.1 223 12) = (4 : Int32) → ((r10 = 0 → w_X10_textLines_2 x_1 P n r10 σ9) ∧ (¬ r10 = 0 → (w_X10_token  σ9 (fun (σ12 : zSto) => w_X10_textLines_2 x_1 P n r10 σ12))))) ∧ (¬ (σ9.1 223 12) = (4 : Int32) → (w_X10_fails  σ9 (fun (r14 : Int32) (σ13 : zSto) => (r14 = 0 ∨ r14 = 1) → ((r14 = 0 → w_X10_textLines_2 x_1 P n r14 σ13) ∧ (¬ r14 = 0 → (w_X10_token  σ13 (fun (σ15 : zSto) => w_X10_textLines_2 x_1 P n r14 σ15))))))))))))))) ∧ (x_1 = 0 → (w_X10_lineLine (0 : Int64) x1 σ (fun (r17 : Int32) (σ16 : zSto) => (r17 = 0 ∨ r17 = 1) → ((r17 = 0 → ((r17 = 0 → w_X10_textLines_2 x_1 P n r17 σ16) ∧ (¬ r17 = 0 → (w_X10_token  σ16 (fun (σ18 : zSto) => w_X10_textLines_2 x_1 P n r17 σ18))))) ∧ (¬ r17 = 0 → (((σ16.1 223 12) = (4 : Int32) → ((r17 = 0 → w_X10_textLines_2 x_1 P n r17 σ16) ∧ (¬ r17 = 0 → (w_X10_token  σ16 (fun (σ19 : zSto) => w_X10_textLines_2 x_1 P n r17 σ19))))) ∧ (¬ (σ16.1 223 12) = (4 : Int32) → (w_X10_fails  σ16 (fun (r21 : Int32) (σ20 : zSto) => (r21 = 0 ∨ r21 = 1) → ((r21 = 0 → w_X10_textLines_2 x_1 P n r21 σ20) ∧ (¬ r21 = 0 → (w_X10_token  σ20 (fun (σ22 : zSto) => w_X10_textLines_2 x_1 P n r21 σ22))))))))))))))) ∧ ((σ.1 223 12) = (2 : Int32) → (∀ x23 : Int64, x23 = (σ.2 223 14) → ((¬ x_1 = 0 → ((¬ x_1 = (1 : Int32) → (w_X10_logLine x23 x1 σ (fun (r25 : Int32) (σ24 : zSto) => (r25 = 0 ∨ r25 = 1) → ((r25 = 0 → ((r25 = 0 → w_X10_textLines_2 x_1 P n r25 σ24) ∧ (¬ r25 = 0 → (w_X10_token  σ24 (fun (σ26 : zSto) => w_X10_textLines_2 x_1 P n r25 σ26))))) ∧ (¬ r25 = 0 → (((σ24.1 223 12) = (4 : Int32) → ((r25 = 0 → w_X10_textLines_2 x_1 P n r25 σ24) ∧ (¬ r25 = 0 → (w_X10_token  σ24 (fun (σ27 : zSto) => w_X10_textLines_2 x_1 P n r25 σ27))))) ∧ (¬ (σ24.1 223 12) = (4 : Int32) → (w_X10_fails  σ24 (fun (r29 : Int32) (σ28 : zSto) => (r29 = 0 ∨ r29 = 1) → ((r29 = 0 → w_X10_textLines_2 x_1 P n r29 σ28) ∧ (¬ r29 = 0 → (w_X10_token  σ28 (fun (σ30 : zSto) => w_X10_textLines_2 x_1 P n r29 σ30))))))))))))) ∧ (x_1 = (1 : Int32) → (w_X10_planLine x23 x1 σ (fun (r32 : Int32) (σ31 : zSto) => (r32 = 0 ∨ r32 = 1) → ((r32 = 0 → ((r32 = 0 → w_X10_textLines_2 x_1 P n r32 σ31) ∧ (¬ r32 = 0 → (w_X10_token  σ31 (fun (σ33 : zSto) => w_X10_textLines_2 x_1 P n r32 σ33))))) ∧ (¬ r32 = 0 → (((σ31.1 223 12) = (4 : Int32) → ((r32 = 0 → w_X10_textLines_2 x_1 P n r32 σ31) ∧ (¬ r32 = 0 → (w_X10_token  σ31 (fun (σ34 : zSto) => w_X10_textLines_2 x_1 P n r32 σ34))))) ∧ (¬ (σ31.1 223 12) = (4 : Int32) → (w_X10_fails  σ31 (fun (r36 : Int32) (σ35 : zSto) => (r36 = 0 ∨ r36 = 1) → ((r36 = 0 → w_X10_textLines_2 x_1 P n r36 σ35) ∧ (¬ r36 = 0 → (w_X10_token  σ35 (fun (σ37 : zSto) => w_X10_textLines_2 x_1 P n r36 σ37))))))))))))))) ∧ (x_1 = 0 → (w_X10_lineLine x23 x1 σ (fun (r39 : Int32) (σ38 : zSto) => (r39 = 0 ∨ r39 = 1) → ((r39 = 0 → ((r39 = 0 → w_X10_textLines_2 x_1 P n r39 σ38) ∧ (¬ r39 = 0 → (w_X10_token  σ38 (fun (σ40 : zSto) => w_X10_textLines_2 x_1 P n r39 σ40))))) ∧ (¬ r39 = 0 → (((σ38.1 223 12) = (4 : Int32) → ((r39 = 0 → w_X10_textLines_2 x_1 P n r39 σ38) ∧ (¬ r39 = 0 → (w_X10_token  σ38 (fun (σ41 : zSto) => w_X10_textLines_2 x_1 P n r39 σ41))))) ∧ (¬ (σ38.1 223 12) = (4 : Int32) → (w_X10_fails  σ38 (fun (r43 : Int32) (σ42 : zSto) => (r43 = 0 ∨ r43 = 1) → ((r43 = 0 → w_X10_textLines_2 x_1 P n r43 σ42) ∧ (¬ r43 = 0 → (w_X10_token  σ42 (fun (σ44 : zSto) => w_X10_textLines_2 x_1 P n r43 σ44))))))))))))))))))))))
def w_X10_textLines (a1 : Int32) (σ : zSto) (P : Int32 → zSto → Prop) : Prop := (∃ n : Nat, w_X10_textLines_2 a1 P  n (1 : Int32) σ)
set_option maxRecDepth 100000 in
set_option maxHeartbeats 4000000 in
theorem k_X10_textLines_2 {p : Program} {l : Launch} {e : Env} {s : State} {m : MethodId} {args : Array Value} {below : List Frame} {meth : Method} {c : Code} {D : va_G} {cy : Nat → ClassId} {g : Nat → Nat} (C : zC p s m args meth c cX10_textLines RX10 6 D cy g) (hr : meth.sig.returnType = (some .boolean)) {P : Int32 → zSto → Prop} (x_1 : Int32)    : ∀ (n : Nat) (x_2 : Int32) (σ : zSto), w_X10_textLines_2 x_1 P n x_2 σ → zX p l e (zrm 6 135) s m args below meth c 0 0 (zQb P below args s D cy g) 6 D cy g 2 [(0, .ref (g 223)), (1, .int x_1), (2, .int x_2)] [] σ := by
  intro n
  induction n with
  | zero => intro x_2 σ h; exact h.elim
  | succ n ih =>
    intro x_2 σ h
    unfold w_X10_textLines_2 at h
    refine zx_iload_n C dX10_textLines_2 2 rfl ?_
    refine zx_if_eq C 101 dX10_textLines_3 (by decide) (fun q => ?_) (fun q => ?_)
    · replace h := h.1 q
      refine zx_iload_n C dX10_textLines_101 2 rfl ?_
      exact zx_zret C hr dX10_textLines_102 h.1 h.2
    · replace h := h.2 q
      refine zx_aload_n C dX10_textLines_6 0 rfl ?_
      refine zx_getI C zs_223 fg_X10_128 rfl dX10_textLines_7 ?_
      refine zx_if_eq C 101 dX10_textLines_10 (by decide) (fun q => ?_) (fun q => ?_)
      · replace h := h.1 q
        refine zx_iload_n C dX10_textLines_101 2 rfl ?_
        exact zx_zret C hr dX10_textLines_102 h.1 h.2
      · replace h := h.2 q
        refine zx_aload_n C dX10_textLines_13 0 rfl ?_
        refine zx_getI C zs_223 fg_X10_121 rfl dX10_textLines_14 ?_
        refine zx_topi (fun x1 ex1 => ?_)
        replace h := h x1 ex1
        refine zx_istore_n (lv' := [(3, .int x1), (0, .ref (g 223)), (1, .int x_1), (2, .int x_2)]) C dX10_textLines_17 (by decide) rfl ?_
        refine zx_aload_n C dX10_textLines_18 1 rfl ?_
        refine zx_getI C zs_223 fg_X10_128 rfl dX10_textLines_19 ?_
        refine zx_iconst (v := (2 : Int32)) C dX10_textLines_22 (by decide) ?_
        refine zx_icmp_ne C 33 dX10_textLines_23 (by decide) (fun q => ?_) (fun q => ?_)
        · replace h := h.1 q
          refine zx_lconst (v := (0 : Int64)) C dX10_textLines_33 (by decide) ?_
          refine zx_lstore (lv' := [(4, .long (0 : Int64)), (3, .int x1), (0, .ref (g 223)), (1, .int x_1), (2, .int x_2)]) C dX10_textLines_34 (by decide) rfl ?_
          refine zx_iload_n C dX10_textLines_36 3 rfl ?_
          refine zx_if_ne C 50 dX10_textLines_37 (by decide) (fun q => ?_) (fun q => ?_)
          · replace h := h.1 q
            refine zx_iload_n C dX10_textLines_50 3 rfl ?_
            refine zx_iconst (v := (1 : Int32)) C dX10_textLines_51 (by decide) ?_
            refine zx_icmp_ne C 65 dX10_textLines_52 (by decide) (fun q => ?_) (fun q => ?_)
            · replace h := h.1 q
              refine zx_aload_n C dX10_textLines_65 2 rfl ?_
              refine zx_lload C dX10_textLines_66 0 rfl ?_
              refine zx_iload_n C dX10_textLines_68 1 rfl ?_
              refine zx_cVb C [.long (0 : Int64), .int x1] lk_X10_218 (c_X10_logLine l D cy g (0 : Int64) x1  σ h) zs_223 rfl ⟨by decide, by decide⟩ ⟨rfl, rfl⟩ ⟨Nat.zero_le _, Nat.zero_le _⟩ rfl rfl (Nat.le_of_ble_eq_true rfl) dX10_textLines_69 (fun r3 σ2 hb h => ?_)
              replace h := h hb
              refine zx_istore_n (lv' := [(2, .int r3), (4, .long (0 : Int64)), (3, .int x1), (0, .ref (g 223)), (1, .int x_1)]) C dX10_textLines_72 (by decide) rfl ?_
              refine zx_iload_n C dX10_textLines_73 0 rfl ?_
              refine zx_if_eq C 90 dX10_textLines_74 (by decide) (fun q => ?_) (fun q => ?_)
              · replace h := h.1 q
                refine zx_iload_n C dX10_textLines_90 0 rfl ?_
                refine zx_if_eq C 98 dX10_textLines_91 (by decide) (fun q => ?_) (fun q => ?_)
                · replace h := h.1 q
                  refine zx_goto C 2 dX10_textLines_98 (by decide) ?_
                  refine zx_lv (lv' := [(0, .ref (g 223)), (1, .int x_1), (2, .int r3)]) [3, 4, 0] rfl ?_
                  exact ih r3 σ2 h
                · replace h := h.2 q
                  refine zx_aload_n C dX10_textLines_94 3 rfl ?_
                  refine zx_cVv C [] lk_X10_151 (c_X10_token l D cy g   σ2 h) zs_223 rfl ⟨by decide, by decide⟩ ⟨rfl, rfl⟩ ⟨Nat.zero_le _, Nat.zero_le _⟩ rfl rfl (Nat.le_of_ble_eq_true rfl) dX10_textLines_95 (fun σ4 h => ?_)
                  refine zx_goto C 2 dX10_textLines_98 (by decide) ?_
                  refine zx_lv (lv' := [(0, .ref (g 223)), (1, .int x_1), (2, .int r3)]) [3, 4, 0] rfl ?_
                  exact ih r3 σ4 h
              · replace h := h.2 q
                refine zx_aload_n C dX10_textLines_77 3 rfl ?_
                refine zx_getI C zs_223 fg_X10_128 rfl dX10_textLines_78 ?_
                refine zx_iconst (v := (4 : Int32)) C dX10_textLines_81 (by decide) ?_
                refine zx_icmp_eq C 90 dX10_textLines_82 (by decide) (fun q => ?_) (fun q => ?_)
                · replace h := h.1 q
                  refine zx_iload_n C dX10_textLines_90 0 rfl ?_
                  refine zx_if_eq C 98 dX10_textLines_91 (by decide) (fun q => ?_) (fun q => ?_)
                  · replace h := h.1 q
                    refine zx_goto C 2 dX10_textLines_98 (by decide) ?_
                    refine zx_lv (lv' := [(0, .ref (g 223)), (1, .int x_1), (2, .int r3)]) [3, 4, 0] rfl ?_
                    exact ih r3 σ2 h
                  · replace h := h.2 q
                    refine zx_aload_n C dX10_textLines_94 3 rfl ?_
                    refine zx_cVv C [] lk_X10_151 (c_X10_token l D cy g   σ2 h) zs_223 rfl ⟨by decide, by decide⟩ ⟨rfl, rfl⟩ ⟨Nat.zero_le _, Nat.zero_le _⟩ rfl rfl (Nat.le_of_ble_eq_true rfl) dX10_textLines_95 (fun σ5 h => ?_)
                    refine zx_goto C 2 dX10_textLines_98 (by decide) ?_
                    refine zx_lv (lv' := [(0, .ref (g 223)), (1, .int x_1), (2, .int r3)]) [3, 4, 0] rfl ?_
                    exact ih r3 σ5 h
                · replace h := h.2 q
                  refine zx_aload_n C dX10_textLines_85 3 rfl ?_
                  refine zx_cVb C [] lk_X10_143 (c_X10_fails l D cy g   σ2 h) zs_223 rfl ⟨by decide, by decide⟩ ⟨rfl, rfl⟩ ⟨Nat.zero_le _, Nat.zero_le _⟩ rfl rfl (Nat.le_of_ble_eq_true rfl) dX10_textLines_86 (fun r7 σ6 hb h => ?_)
                  replace h := h hb
                  refine zx_istore_n (lv' := [(2, .int r7), (4, .long (0 : Int64)), (3, .int x1), (0, .ref (g 223)), (1, .int x_1)]) C dX10_textLines_89 (by decide) rfl ?_
                  refine zx_iload_n C dX10_textLines_90 0 rfl ?_
                  refine zx_if_eq C 98 dX10_textLines_91 (by decide) (fun q => ?_) (fun q => ?_)
                  · replace h := h.1 q
                    refine zx_goto C 2 dX10_textLines_98 (by decide) ?_
                    refine zx_lv (lv' := [(0, .ref (g 223)), (1, .int x_1), (2, .int r7)]) [3, 4, 0] rfl ?_
                    exact ih r7 σ6 h
                  · replace h := h.2 q
                    refine zx_aload_n C dX10_textLines_94 3 rfl ?_
                    refine zx_cVv C [] lk_X10_151 (c_X10_token l D cy g   σ6 h) zs_223 rfl ⟨by decide, by decide⟩ ⟨rfl, rfl⟩ ⟨Nat.zero_le _, Nat.zero_le _⟩ rfl rfl (Nat.le_of_ble_eq_true rfl) dX10_textLines_95 (fun σ8 h => ?_)
                    refine zx_goto C 2 dX10_textLines_98 (by decide) ?_
                    refine zx_lv (lv' := [(0, .ref (g 223)), (1, .int x_1), (2, .int r7)]) [3, 4, 0] rfl ?_
                    exact ih r7 σ8 h
            · replace h := h.2 q
              refine zx_aload_n C dX10_textLines_55 2 rfl ?_
              refine zx_lload C dX10_textLines_56 0 rfl ?_
              refine zx_iload_n C dX10_textLines_58 1 rfl ?_
              refine zx_cVb C [.long (0 : Int64), .int x1] lk_X10_215 (c_X10_planLine l D cy g (0 : Int64) x1  σ h) zs_223 rfl ⟨by decide, by decide⟩ ⟨rfl, rfl⟩ ⟨Nat.zero_le _, Nat.zero_le _⟩ rfl rfl (Nat.le_of_ble_eq_true rfl) dX10_textLines_59 (fun r10 σ9 hb h => ?_)
              replace h := h hb
              refine zx_goto C 72 dX10_textLines_62 (by decide) ?_
              refine zx_istore_n (lv' := [(2, .int r10), (4, .long (0 : Int64)), (3, .int x1), (0, .ref (g 223)), (1, .int x_1)]) C dX10_textLines_72 (by decide) rfl ?_
              refine zx_iload_n C dX10_textLines_73 0 rfl ?_
              refine zx_if_eq C 90 dX10_textLines_74 (by decide) (fun q => ?_) (fun q => ?_)
              · replace h := h.1 q
                refine zx_iload_n C dX10_textLines_90 0 rfl ?_
                refine zx_if_eq C 98 dX10_textLines_91 (by decide) (fun q => ?_) (fun q => ?_)
                · replace h := h.1 q
                  refine zx_goto C 2 dX10_textLines_98 (by decide) ?_
                  refine zx_lv (lv' := [(0, .ref (g 223)), (1, .int x_1), (2, .int r10)]) [3, 4, 0] rfl ?_
                  exact ih r10 σ9 h
                · replace h := h.2 q
                  refine zx_aload_n C dX10_textLines_94 3 rfl ?_
                  refine zx_cVv C [] lk_X10_151 (c_X10_token l D cy g   σ9 h) zs_223 rfl ⟨by decide, by decide⟩ ⟨rfl, rfl⟩ ⟨Nat.zero_le _, Nat.zero_le _⟩ rfl rfl (Nat.le_of_ble_eq_true rfl) dX10_textLines_95 (fun σ11 h => ?_)
                  refine zx_goto C 2 dX10_textLines_98 (by decide) ?_
                  refine zx_lv (lv' := [(0, .ref (g 223)), (1, .int x_1), (2, .int r10)]) [3, 4, 0] rfl ?_
                  exact ih r10 σ11 h
              · replace h := h.2 q
                refine zx_aload_n C dX10_textLines_77 3 rfl ?_
                refine zx_getI C zs_223 fg_X10_128 rfl dX10_textLines_78 ?_
                refine zx_iconst (v := (4 : Int32)) C dX10_textLines_81 (by decide) ?_
                refine zx_icmp_eq C 90 dX10_textLines_82 (by decide) (fun q => ?_) (fun q => ?_)
                · replace h := h.1 q
                  refine zx_iload_n C dX10_textLines_90 0 rfl ?_
                  refine zx_if_eq C 98 dX10_textLines_91 (by decide) (fun q => ?_) (fun q => ?_)
                  · replace h := h.1 q
                    refine zx_goto C 2 dX10_textLines_98 (by decide) ?_
                    refine zx_lv (lv' := [(0, .ref (g 223)), (1, .int x_1), (2, .int r10)]) [3, 4, 0] rfl ?_
                    exact ih r10 σ9 h
                  · replace h := h.2 q
                    refine zx_aload_n C dX10_textLines_94 3 rfl ?_
                    refine zx_cVv C [] lk_X10_151 (c_X10_token l D cy g   σ9 h) zs_223 rfl ⟨by decide, by decide⟩ ⟨rfl, rfl⟩ ⟨Nat.zero_le _, Nat.zero_le _⟩ rfl rfl (Nat.le_of_ble_eq_true rfl) dX10_textLines_95 (fun σ12 h => ?_)
                    refine zx_goto C 2 dX10_textLines_98 (by decide) ?_
                    refine zx_lv (lv' := [(0, .ref (g 223)), (1, .int x_1), (2, .int r10)]) [3, 4, 0] rfl ?_
                    exact ih r10 σ12 h
                · replace h := h.2 q
                  refine zx_aload_n C dX10_textLines_85 3 rfl ?_
                  refine zx_cVb C [] lk_X10_143 (c_X10_fails l D cy g   σ9 h) zs_223 rfl ⟨by decide, by decide⟩ ⟨rfl, rfl⟩ ⟨Nat.zero_le _, Nat.zero_le _⟩ rfl rfl (Nat.le_of_ble_eq_true rfl) dX10_textLines_86 (fun r14 σ13 hb h => ?_)
                  replace h := h hb
                  refine zx_istore_n (lv' := [(2, .int r14), (4, .long (0 : Int64)), (3, .int x1), (0, .ref (g 223)), (1, .int x_1)]) C dX10_textLines_89 (by decide) rfl ?_
                  refine zx_iload_n C dX10_textLines_90 0 rfl ?_
                  refine zx_if_eq C 98 dX10_textLines_91 (by decide) (fun q => ?_) (fun q => ?_)
                  · replace h := h.1 q
                    refine zx_goto C 2 dX10_textLines_98 (by decide) ?_
                    refine zx_lv (lv' := [(0, .ref (g 223)), (1, .int x_1), (2, .int r14)]) [3, 4, 0] rfl ?_
                    exact ih r14 σ13 h
                  · replace h := h.2 q
                    refine zx_aload_n C dX10_textLines_94 3 rfl ?_
                    refine zx_cVv C [] lk_X10_151 (c_X10_token l D cy g   σ13 h) zs_223 rfl ⟨by decide, by decide⟩ ⟨rfl, rfl⟩ ⟨Nat.zero_le _, Nat.zero_le _⟩ rfl rfl (Nat.le_of_ble_eq_true rfl) dX10_textLines_95 (fun σ15 h => ?_)
                    refine zx_goto C 2 dX10_textLines_98 (by decide) ?_
                    refine zx_lv (lv' := [(0, .ref (g 223)), (1, .int x_1), (2, .int r14)]) [3, 4, 0] rfl ?_
                    exact ih r14 σ15 h
          · replace h := h.2 q
            refine zx_aload_n C dX10_textLines_40 2 rfl ?_
            refine zx_lload C dX10_textLines_41 0 rfl ?_
            refine zx_iload_n C dX10_textLines_43 1 rfl ?_
            refine zx_cVb C [.long (0 : Int64), .int x1] lk_X10_211 (c_X10_lineLine l D cy g (0 : Int64) x1  σ h) zs_223 rfl ⟨by decide, by decide⟩ ⟨rfl, rfl⟩ ⟨Nat.zero_le _, Nat.zero_le _⟩ rfl rfl (Nat.le_of_ble_eq_true rfl) dX10_textLines_44 (fun r17 σ16 hb h => ?_)
            replace h := h hb
            refine zx_goto C 72 dX10_textLines_47 (by decide) ?_
            refine zx_istore_n (lv' := [(2, .int r17), (4, .long (0 : Int64)), (3, .int x1), (0, .ref (g 223)), (1, .int x_1)]) C dX10_textLines_72 (by decide) rfl ?_
            refine zx_iload_n C dX10_textLines_73 0 rfl ?_
            refine zx_if_eq C 90 dX10_textLines_74 (by decide) (fun q => ?_) (fun q => ?_)
            · replace h := h.1 q
              refine zx_iload_n C dX10_textLines_90 0 rfl ?_
              refine zx_if_eq C 98 dX10_textLines_91 (by decide) (fun q => ?_) (fun q => ?_)
              · replace h := h.1 q
                refine zx_goto C 2 dX10_textLines_98 (by decide) ?_
                refine zx_lv (lv' := [(0, .ref (g 223)), (1, .int x_1), (2, .int r17)]) [3, 4, 0] rfl ?_
                exact ih r17 σ16 h
              · replace h := h.2 q
                refine zx_aload_n C dX10_textLines_94 3 rfl ?_
                refine zx_cVv C [] lk_X10_151 (c_X10_token l D cy g   σ16 h) zs_223 rfl ⟨by decide, by decide⟩ ⟨rfl, rfl⟩ ⟨Nat.zero_le _, Nat.zero_le _⟩ rfl rfl (Nat.le_of_ble_eq_true rfl) dX10_textLines_95 (fun σ18 h => ?_)
                refine zx_goto C 2 dX10_textLines_98 (by decide) ?_
                refine zx_lv (lv' := [(0, .ref (g 223)), (1, .int x_1), (2, .int r17)]) [3, 4, 0] rfl ?_
                exact ih r17 σ18 h
            · replace h := h.2 q
              refine zx_aload_n C dX10_textLines_77 3 rfl ?_
              refine zx_getI C zs_223 fg_X10_128 rfl dX10_textLines_78 ?_
              refine zx_iconst (v := (4 : Int32)) C dX10_textLines_81 (by decide) ?_
              refine zx_icmp_eq C 90 dX10_textLines_82 (by decide) (fun q => ?_) (fun q => ?_)
              · replace h := h.1 q
                refine zx_iload_n C dX10_textLines_90 0 rfl ?_
                refine zx_if_eq C 98 dX10_textLines_91 (by decide) (fun q => ?_) (fun q => ?_)
                · replace h := h.1 q
                  refine zx_goto C 2 dX10_textLines_98 (by decide) ?_
                  refine zx_lv (lv' := [(0, .ref (g 223)), (1, .int x_1), (2, .int r17)]) [3, 4, 0] rfl ?_
                  exact ih r17 σ16 h
                · replace h := h.2 q
                  refine zx_aload_n C dX10_textLines_94 3 rfl ?_
                  refine zx_cVv C [] lk_X10_151 (c_X10_token l D cy g   σ16 h) zs_223 rfl ⟨by decide, by decide⟩ ⟨rfl, rfl⟩ ⟨Nat.zero_le _, Nat.zero_le _⟩ rfl rfl (Nat.le_of_ble_eq_true rfl) dX10_textLines_95 (fun σ19 h => ?_)
                  refine zx_goto C 2 dX10_textLines_98 (by decide) ?_
                  refine zx_lv (lv' := [(0, .ref (g 223)), (1, .int x_1), (2, .int r17)]) [3, 4, 0] rfl ?_
                  exact ih r17 σ19 h
              · replace h := h.2 q
                refine zx_aload_n C dX10_textLines_85 3 rfl ?_
                refine zx_cVb C [] lk_X10_143 (c_X10_fails l D cy g   σ16 h) zs_223 rfl ⟨by decide, by decide⟩ ⟨rfl, rfl⟩ ⟨Nat.zero_le _, Nat.zero_le _⟩ rfl rfl (Nat.le_of_ble_eq_true rfl) dX10_textLines_86 (fun r21 σ20 hb h => ?_)
                replace h := h hb
                refine zx_istore_n (lv' := [(2, .int r21), (4, .long (0 : Int64)), (3, .int x1), (0, .ref (g 223)), (1, .int x_1)]) C dX10_textLines_89 (by decide) rfl ?_
                refine zx_iload_n C dX10_textLines_90 0 rfl ?_
                refine zx_if_eq C 98 dX10_textLines_91 (by decide) (fun q => ?_) (fun q => ?_)
                · replace h := h.1 q
                  refine zx_goto C 2 dX10_textLines_98 (by decide) ?_
                  refine zx_lv (lv' := [(0, .ref (g 223)), (1, .int x_1), (2, .int r21)]) [3, 4, 0] rfl ?_
                  exact ih r21 σ20 h
                · replace h := h.2 q
                  refine zx_aload_n C dX10_textLines_94 3 rfl ?_
                  refine zx_cVv C [] lk_X10_151 (c_X10_token l D cy g   σ20 h) zs_223 rfl ⟨by decide, by decide⟩ ⟨rfl, rfl⟩ ⟨Nat.zero_le _, Nat.zero_le _⟩ rfl rfl (Nat.le_of_ble_eq_true rfl) dX10_textLines_95 (fun σ22 h => ?_)
                  refine zx_goto C 2 dX10_textLines_98 (by decide) ?_
                  refine zx_lv (lv' := [(0, .ref (g 223)), (1, .int x_1), (2, .int r21)]) [3, 4, 0] rfl ?_
                  exact ih r21 σ22 h
        · replace h := h.2 q
          refine zx_aload_n C dX10_textLines_26 1 rfl ?_
          refine zx_getL C zs_223 fg_X10_124 rfl dX10_textLines_27 ?_
          refine zx_goto C 34 dX10_textLines_30 (by decide) ?_
          refine zx_topl (fun x23 ex23 => ?_)
          replace h := h x23 ex23
          refine zx_lstore (lv' := [(4, .long x23), (3, .int x1), (0, .ref (g 223)), (1, .int x_1), (2, .int x_2)]) C dX10_textLines_34 (by decide) rfl ?_
          refine zx_iload_n C dX10_textLines_36 3 rfl ?_
          refine zx_if_ne C 50 dX10_textLines_37 (by decide) (fun q => ?_) (fun q => ?_)
          · replace h := h.1 q
            refine zx_iload_n C dX10_textLines_50 3 rfl ?_
            refine zx_iconst (v := (1 : Int32)) C dX10_textLines_51 (by decide) ?_
            refine zx_icmp_ne C 65 dX10_textLines_52 (by decide) (fun q => ?_) (fun q => ?_)
            · replace h := h.1 q
              refine zx_aload_n C dX10_textLines_65 2 rfl ?_
              refine zx_lload C dX10_textLines_66 0 rfl ?_
              refine zx_iload_n C dX10_textLines_68 1 rfl ?_
              refine zx_cVb C [.long x23, .int x1] lk_X10_218 (c_X10_logLine l D cy g x23 x1  σ h) zs_223 rfl ⟨by decide, by decide⟩ ⟨rfl, rfl⟩ ⟨Nat.zero_le _, Nat.zero_le _⟩ rfl rfl (Nat.le_of_ble_eq_true rfl) dX10_textLines_69 (fun r25 σ24 hb h => ?_)
              replace h := h hb
              refine zx_istore_n (lv' := [(2, .int r25), (4, .long x23), (3, .int x1), (0, .ref (g 223)), (1, .int x_1)]) C dX10_textLines_72 (by decide) rfl ?_
              refine zx_iload_n C dX10_textLines_73 0 rfl ?_
              refine zx_if_eq C 90 dX10_textLines_74 (by decide) (fun q => ?_) (fun q => ?_)
              · replace h := h.1 q
                refine zx_iload_n C dX10_textLines_90 0 rfl ?_
                refine zx_if_eq C 98 dX10_textLines_91 (by decide) (fun q => ?_) (fun q => ?_)
                · replace h := h.1 q
                  refine zx_goto C 2 dX10_textLines_98 (by decide) ?_
                  refine zx_lv (lv' := [(0, .ref (g 223)), (1, .int x_1), (2, .int r25)]) [3, 4, 0] rfl ?_
                  exact ih r25 σ24 h
                · replace h := h.2 q
                  refine zx_aload_n C dX10_textLines_94 3 rfl ?_
                  refine zx_cVv C [] lk_X10_151 (c_X10_token l D cy g   σ24 h) zs_223 rfl ⟨by decide, by decide⟩ ⟨rfl, rfl⟩ ⟨Nat.zero_le _, Nat.zero_le _⟩ rfl rfl (Nat.le_of_ble_eq_true rfl) dX10_textLines_95 (fun σ26 h => ?_)
                  refine zx_goto C 2 dX10_textLines_98 (by decide) ?_
                  refine zx_lv (lv' := [(0, .ref (g 223)), (1, .int x_1), (2, .int r25)]) [3, 4, 0] rfl ?_
                  exact ih r25 σ26 h
              · replace h := h.2 q
                refine zx_aload_n C dX10_textLines_77 3 rfl ?_
                refine zx_getI C zs_223 fg_X10_128 rfl dX10_textLines_78 ?_
                refine zx_iconst (v := (4 : Int32)) C dX10_textLines_81 (by decide) ?_
                refine zx_icmp_eq C 90 dX10_textLines_82 (by decide) (fun q => ?_) (fun q => ?_)
                · replace h := h.1 q
                  refine zx_iload_n C dX10_textLines_90 0 rfl ?_
                  refine zx_if_eq C 98 dX10_textLines_91 (by decide) (fun q => ?_) (fun q => ?_)
                  · replace h := h.1 q
                    refine zx_goto C 2 dX10_textLines_98 (by decide) ?_
                    refine zx_lv (lv' := [(0, .ref (g 223)), (1, .int x_1), (2, .int r25)]) [3, 4, 0] rfl ?_
                    exact ih r25 σ24 h
                  · replace h := h.2 q
                    refine zx_aload_n C dX10_textLines_94 3 rfl ?_
                    refine zx_cVv C [] lk_X10_151 (c_X10_token l D cy g   σ24 h) zs_223 rfl ⟨by decide, by decide⟩ ⟨rfl, rfl⟩ ⟨Nat.zero_le _, Nat.zero_le _⟩ rfl rfl (Nat.le_of_ble_eq_true rfl) dX10_textLines_95 (fun σ27 h => ?_)
                    refine zx_goto C 2 dX10_textLines_98 (by decide) ?_
                    refine zx_lv (lv' := [(0, .ref (g 223)), (1, .int x_1), (2, .int r25)]) [3, 4, 0] rfl ?_
                    exact ih r25 σ27 h
                · replace h := h.2 q
                  refine zx_aload_n C dX10_textLines_85 3 rfl ?_
                  refine zx_cVb C [] lk_X10_143 (c_X10_fails l D cy g   σ24 h) zs_223 rfl ⟨by decide, by decide⟩ ⟨rfl, rfl⟩ ⟨Nat.zero_le _, Nat.zero_le _⟩ rfl rfl (Nat.le_of_ble_eq_true rfl) dX10_textLines_86 (fun r29 σ28 hb h => ?_)
                  replace h := h hb
                  refine zx_istore_n (lv' := [(2, .int r29), (4, .long x23), (3, .int x1), (0, .ref (g 223)), (1, .int x_1)]) C dX10_textLines_89 (by decide) rfl ?_
                  refine zx_iload_n C dX10_textLines_90 0 rfl ?_
                  refine zx_if_eq C 98 dX10_textLines_91 (by decide) (fun q => ?_) (fun q => ?_)
                  · replace h := h.1 q
                    refine zx_goto C 2 dX10_textLines_98 (by decide) ?_
                    refine zx_lv (lv' := [(0, .ref (g 223)), (1, .int x_1), (2, .int r29)]) [3, 4, 0] rfl ?_
                    exact ih r29 σ28 h
                  · replace h := h.2 q
                    refine zx_aload_n C dX10_textLines_94 3 rfl ?_
                    refine zx_cVv C [] lk_X10_151 (c_X10_token l D cy g   σ28 h) zs_223 rfl ⟨by decide, by decide⟩ ⟨rfl, rfl⟩ ⟨Nat.zero_le _, Nat.zero_le _⟩ rfl rfl (Nat.le_of_ble_eq_true rfl) dX10_textLines_95 (fun σ30 h => ?_)
                    refine zx_goto C 2 dX10_textLines_98 (by decide) ?_
                    refine zx_lv (lv' := [(0, .ref (g 223)), (1, .int x_1), (2, .int r29)]) [3, 4, 0] rfl ?_
                    exact ih r29 σ30 h
            · replace h := h.2 q
              refine zx_aload_n C dX10_textLines_55 2 rfl ?_
              refine zx_lload C dX10_textLines_56 0 rfl ?_
              refine zx_iload_n C dX10_textLines_58 1 rfl ?_
              refine zx_cVb C [.long x23, .int x1] lk_X10_215 (c_X10_planLine l D cy g x23 x1  σ h) zs_223 rfl ⟨by decide, by decide⟩ ⟨rfl, rfl⟩ ⟨Nat.zero_le _, Nat.zero_le _⟩ rfl rfl (Nat.le_of_ble_eq_true rfl) dX10_textLines_59 (fun r32 σ31 hb h => ?_)
              replace h := h hb
              refine zx_goto C 72 dX10_textLines_62 (by decide) ?_
              refine zx_istore_n (lv' := [(2, .int r32), (4, .long x23), (3, .int x1), (0, .ref (g 223)), (1, .int x_1)]) C dX10_textLines_72 (by decide) rfl ?_
              refine zx_iload_n C dX10_textLines_73 0 rfl ?_
              refine zx_if_eq C 90 dX10_textLines_74 (by decide) (fun q => ?_) (fun q => ?_)
              · replace h := h.1 q
                refine zx_iload_n C dX10_textLines_90 0 rfl ?_
                refine zx_if_eq C 98 dX10_textLines_91 (by decide) (fun q => ?_) (fun q => ?_)
                · replace h := h.1 q
                  refine zx_goto C 2 dX10_textLines_98 (by decide) ?_
                  refine zx_lv (lv' := [(0, .ref (g 223)), (1, .int x_1), (2, .int r32)]) [3, 4, 0] rfl ?_
                  exact ih r32 σ31 h
                · replace h := h.2 q
                  refine zx_aload_n C dX10_textLines_94 3 rfl ?_
                  refine zx_cVv C [] lk_X10_151 (c_X10_token l D cy g   σ31 h) zs_223 rfl ⟨by decide, by decide⟩ ⟨rfl, rfl⟩ ⟨Nat.zero_le _, Nat.zero_le _⟩ rfl rfl (Nat.le_of_ble_eq_true rfl) dX10_textLines_95 (fun σ33 h => ?_)
                  refine zx_goto C 2 dX10_textLines_98 (by decide) ?_
                  refine zx_lv (lv' := [(0, .ref (g 223)), (1, .int x_1), (2, .int r32)]) [3, 4, 0] rfl ?_
                  exact ih r32 σ33 h
              · replace h := h.2 q
                refine zx_aload_n C dX10_textLines_77 3 rfl ?_
                refine zx_getI C zs_223 fg_X10_128 rfl dX10_textLines_78 ?_
                refine zx_iconst (v := (4 : Int32)) C dX10_textLines_81 (by decide) ?_
                refine zx_icmp_eq C 90 dX10_textLines_82 (by decide) (fun q => ?_) (fun q => ?_)
                · replace h := h.1 q
                  refine zx_iload_n C dX10_textLines_90 0 rfl ?_
                  refine zx_if_eq C 98 dX10_textLines_91 (by decide) (fun q => ?_) (fun q => ?_)
                  · replace h := h.1 q
                    refine zx_goto C 2 dX10_textLines_98 (by decide) ?_
                    refine zx_lv (lv' := [(0, .ref (g 223)), (1, .int x_1), (2, .int r32)]) [3, 4, 0] rfl ?_
                    exact ih r32 σ31 h
                  · replace h := h.2 q
                    refine zx_aload_n C dX10_textLines_94 3 rfl ?_
                    refine zx_cVv C [] lk_X10_151 (c_X10_token l D cy g   σ31 h) zs_223 rfl ⟨by decide, by decide⟩ ⟨rfl, rfl⟩ ⟨Nat.zero_le _, Nat.zero_le _⟩ rfl rfl (Nat.le_of_ble_eq_true rfl) dX10_textLines_95 (fun σ34 h => ?_)
                    refine zx_goto C 2 dX10_textLines_98 (by decide) ?_
                    refine zx_lv (lv' := [(0, .ref (g 223)), (1, .int x_1), (2, .int r32)]) [3, 4, 0] rfl ?_
                    exact ih r32 σ34 h
                · replace h := h.2 q
                  refine zx_aload_n C dX10_textLines_85 3 rfl ?_
                  refine zx_cVb C [] lk_X10_143 (c_X10_fails l D cy g   σ31 h) zs_223 rfl ⟨by decide, by decide⟩ ⟨rfl, rfl⟩ ⟨Nat.zero_le _, Nat.zero_le _⟩ rfl rfl (Nat.le_of_ble_eq_true rfl) dX10_textLines_86 (fun r36 σ35 hb h => ?_)
                  replace h := h hb
                  refine zx_istore_n (lv' := [(2, .int r36), (4, .long x23), (3, .int x1), (0, .ref (g 223)), (1, .int x_1)]) C dX10_textLines_89 (by decide) rfl ?_
                  refine zx_iload_n C dX10_textLines_90 0 rfl ?_
                  refine zx_if_eq C 98 dX10_textLines_91 (by decide) (fun q => ?_) (fun q => ?_)
                  · replace h := h.1 q
                    refine zx_goto C 2 dX10_textLines_98 (by decide) ?_
                    refine zx_lv (lv' := [(0, .ref (g 223)), (1, .int x_1), (2, .int r36)]) [3, 4, 0] rfl ?_
                    exact ih r36 σ35 h
                  · replace h := h.2 q
                    refine zx_aload_n C dX10_textLines_94 3 rfl ?_
                    refine zx_cVv C [] lk_X10_151 (c_X10_token l D cy g   σ35 h) zs_223 rfl ⟨by decide, by decide⟩ ⟨rfl, rfl⟩ ⟨Nat.zero_le _, Nat.zero_le _⟩ rfl rfl (Nat.le_of_ble_eq_true rfl) dX10_textLines_95 (fun σ37 h => ?_)
                    refine zx_goto C 2 dX10_textLines_98 (by decide) ?_
                    refine zx_lv (lv' := [(0, .ref (g 223)), (1, .int x_1), (2, .int r36)]) [3, 4, 0] rfl ?_
                    exact ih r36 σ37 h
          · replace h := h.2 q
            refine zx_aload_n C dX10_textLines_40 2 rfl ?_
            refine zx_lload C dX10_textLines_41 0 rfl ?_
            refine zx_iload_n C dX10_textLines_43 1 rfl ?_
            refine zx_cVb C [.long x23, .int x1] lk_X10_211 (c_X10_lineLine l D cy g x23 x1  σ h) zs_223 rfl ⟨by decide, by decide⟩ ⟨rfl, rfl⟩ ⟨Nat.zero_le _, Nat.zero_le _⟩ rfl rfl (Nat.le_of_ble_eq_true rfl) dX10_textLines_44 (fun r39 σ38 hb h => ?_)
            replace h := h hb
            refine zx_goto C 72 dX10_textLines_47 (by decide) ?_
            refine zx_istore_n (lv' := [(2, .int r39), (4, .long x23), (3, .int x1), (0, .ref (g 223)), (1, .int x_1)]) C dX10_textLines_72 (by decide) rfl ?_
            refine zx_iload_n C dX10_textLines_73 0 rfl ?_
            refine zx_if_eq C 90 dX10_textLines_74 (by decide) (fun q => ?_) (fun q => ?_)
            · replace h := h.1 q
              refine zx_iload_n C dX10_textLines_90 0 rfl ?_
              refine zx_if_eq C 98 dX10_textLines_91 (by decide) (fun q => ?_) (fun q => ?_)
              · replace h := h.1 q
                refine zx_goto C 2 dX10_textLines_98 (by decide) ?_
                refine zx_lv (lv' := [(0, .ref (g 223)), (1, .int x_1), (2, .int r39)]) [3, 4, 0] rfl ?_
                exact ih r39 σ38 h
              · replace h := h.2 q
                refine zx_aload_n C dX10_textLines_94 3 rfl ?_
                refine zx_cVv C [] lk_X10_151 (c_X10_token l D cy g   σ38 h) zs_223 rfl ⟨by decide, by decide⟩ ⟨rfl, rfl⟩ ⟨Nat.zero_le _, Nat.zero_le _⟩ rfl rfl (Nat.le_of_ble_eq_true rfl) dX10_textLines_95 (fun σ40 h => ?_)
                refine zx_goto C 2 dX10_textLines_98 (by decide) ?_
                refine zx_lv (lv' := [(0, .ref (g 223)), (1, .int x_1), (2, .int r39)]) [3, 4, 0] rfl ?_
                exact ih r39 σ40 h
            · replace h := h.2 q
              refine zx_aload_n C dX10_textLines_77 3 rfl ?_
              refine zx_getI C zs_223 fg_X10_128 rfl dX10_textLines_78 ?_
              refine zx_iconst (v := (4 : Int32)) C dX10_textLines_81 (by decide) ?_
              refine zx_icmp_eq C 90 dX10_textLines_82 (by decide) (fun q => ?_) (fun q => ?_)
              · replace h := h.1 q
                refine zx_iload_n C dX10_textLines_90 0 rfl ?_
                refine zx_if_eq C 98 dX10_textLines_91 (by decide) (fun q => ?_) (fun q => ?_)
                · replace h := h.1 q
                  refine zx_goto C 2 dX10_textLines_98 (by decide) ?_
                  refine zx_lv (lv' := [(0, .ref (g 223)), (1, .int x_1), (2, .int r39)]) [3, 4, 0] rfl ?_
                  exact ih r39 σ38 h
                · replace h := h.2 q
                  refine zx_aload_n C dX10_textLines_94 3 rfl ?_
                  refine zx_cVv C [] lk_X10_151 (c_X10_token l D cy g   σ38 h) zs_223 rfl ⟨by decide, by decide⟩ ⟨rfl, rfl⟩ ⟨Nat.zero_le _, Nat.zero_le _⟩ rfl rfl (Nat.le_of_ble_eq_true rfl) dX10_textLines_95 (fun σ41 h => ?_)
                  refine zx_goto C 2 dX10_textLines_98 (by decide) ?_
                  refine zx_lv (lv' := [(0, .ref (g 223)), (1, .int x_1), (2, .int r39)]) [3, 4, 0] rfl ?_
                  exact ih r39 σ41 h
              · replace h := h.2 q
                refine zx_aload_n C dX10_textLines_85 3 rfl ?_
                refine zx_cVb C [] lk_X10_143 (c_X10_fails l D cy g   σ38 h) zs_223 rfl ⟨by decide, by decide⟩ ⟨rfl, rfl⟩ ⟨Nat.zero_le _, Nat.zero_le _⟩ rfl rfl (Nat.le_of_ble_eq_true rfl) dX10_textLines_86 (fun r43 σ42 hb h => ?_)
                replace h := h hb
                refine zx_istore_n (lv' := [(2, .int r43), (4, .long x23), (3, .int x1), (0, .ref (g 223)), (1, .int x_1)]) C dX10_textLines_89 (by decide) rfl ?_
                refine zx_iload_n C dX10_textLines_90 0 rfl ?_
                refine zx_if_eq C 98 dX10_textLines_91 (by decide) (fun q => ?_) (fun q => ?_)
                · replace h := h.1 q
                  refine zx_goto C 2 dX10_textLines_98 (by decide) ?_
                  refine zx_lv (lv' := [(0, .ref (g 223)), (1, .int x_1), (2, .int r43)]) [3, 4, 0] rfl ?_
                  exact ih r43 σ42 h
                · replace h := h.2 q
                  refine zx_aload_n C dX10_textLines_94 3 rfl ?_
                  refine zx_cVv C [] lk_X10_151 (c_X10_token l D cy g   σ42 h) zs_223 rfl ⟨by decide, by decide⟩ ⟨rfl, rfl⟩ ⟨Nat.zero_le _, Nat.zero_le _⟩ rfl rfl (Nat.le_of_ble_eq_true rfl) dX10_textLines_95 (fun σ44 h => ?_)
                  refine zx_goto C 2 dX10_textLines_98 (by decide) ?_
                  refine zx_lv (lv' := [(0, .ref (g 223)), (1, .int x_1), (2, .int r43)]) [3, 4, 0] rfl ?_
                  exact ih r43 σ44 h
set_option maxRecDepth 100000 in
set_option maxHeartbeats 4000000 in
theorem c_X10_textLines (l : Launch) (D : va_G) (cy : Nat → ClassId) (g : Nat → Nat) (a1 : Int32)  (σ : zSto) {P : Int32 → zSto → Prop} (h : w_X10_textLines a1 σ P) : zMb l yX10_textLines cX10_textLines 6 (some .boolean) (zrm 6 135) D cy g [.ref (g 223), .int a1] σ P := by
  unfold w_X10_textLines at h
  refine zm_b RX10 rfl (by decide +kernel) (Nat.le_of_ble_eq_true rfl) ?_
  intro p e s m below meth c C hr
  refine zx_lv (lv' := [(0, .ref (g 223)), (1, .int a1)]) [0, 1] rfl ?_
  refine zx_iconst (v := (1 : Int32)) C dX10_textLines_0 (by decide) ?_
  refine zx_istore_n (lv' := [(2, .int (1 : Int32)), (0, .ref (g 223)), (1, .int a1)]) C dX10_textLines_1 (by decide) rfl ?_
  obtain ⟨n, h⟩ := h
  refine zx_lv (lv' := [(0, .ref (g 223)), (1, .int a1), (2, .int (1 : Int32))]) [1, 2, 0] rfl ?_
  exact k_X10_textLines_2 C hr (a1)   n (1 : Int32) σ h
theorem lk_X10_221 : zLV RX10 221 RX10 yX10_textLines cX10_textLines 6 (some .boolean) 1 := zLV_of ml_X10_221 im_X10_textLines se_X10_textLines ini_X10 cd_X10_textLines (by decide +kernel)
theorem fg_X10_134 : zFG RX10 134 10 15 := ⟨RX10, TX10, 50, rfl, lay_X10, by decide, fl_X10_134⟩
def w_X10_readText_154 (x_1 : Int32) (x_2 : Int32) (P : Int32 → zSto → Prop)  : Nat → Int32 → zSto → Prop
  | 0, _, _ => False
  | n + 1, x_3, σ => (((16 : Int32) ≤ x_3 → ((x_2 = 0 → (∀ σ9 : zSto, σ9 = zI σ 226 0 (1 : Int32) → ((¬ x_2 = 0 → (((σ9.1 223 16) ≤ 0 → (∀ σ10 : zSto, σ10 = zI σ9 227 0 (-1 : Int32) → ((¬ (σ10.1 226 0) = 0 → P (0 : Int32) σ10) ∧ ((σ10.1 226 0) = 0 → P (1 : Int32) σ10)))) ∧ (¬ (σ9.1 223 16) ≤ 0 → (∀ σ11 : zSto, σ11 = zI σ9 227 0 (σ9.1 223 17) → ((¬ (σ11.1 226 0) = 0 → P (0 : Int32) σ11) ∧ ((σ11.1 226 0) = 0 → P (1 : Int32) σ11)))))) ∧ (x_2 = 0 → (∀ σ12 : zSto, σ12 = zI σ9 227 0 (σ9.1 223 15) → ((¬ (σ12.1 226 0) = 0 → P (0 : Int32) σ12) ∧ ((σ12.1 226 0) = 0 → P (1 : Int32) σ12))))))) ∧ (¬ x_2 = 0 → (∀ σ13 : zSto, σ13 = zI σ 226 0 (σ.1 223 16) → ((¬ x_2 = 0 → (((σ13.1 223 16) ≤ 0 → (∀ σ14 : zSto, σ14 = zI σ13 227 0 (-1 : Int32) → ((¬ (σ14.1 226 0) = 0 → P (0 : Int32) σ14) ∧ ((σ14.1 226 0) = 0 → P (1 : Int32) σ14)))) ∧ (¬ (σ13.1 223 16) ≤ 0 → (∀ σ15 : zSto, σ15 = zI σ13 227 0 (σ13.1 223 17) → ((¬ (σ15.1 226 0) = 0 → P (0 : Int32) σ15) ∧ ((σ15.1 226 0) = 0 → P (1 : Int32) σ15)))))) ∧ (x_2 = 0 → (∀ σ16 : zSto, σ16 = zI σ13 227 0 (σ13.1 223 15) → ((¬ (σ16.1 226 0) = 0 → P (0 : Int32) σ16) ∧ ((σ16.1 226 0) = 0 → P (1 : Int32) σ16))))))))) ∧ (¬ (16 : Int32) ≤ x_3 → ((¬ x_1 = 0 → ((x_2 = 0 → (∀ σ17 : zSto, σ17 = zI σ 226 0 (1 : Int32) → ((¬ x_2 = 0 → (((σ17.1 223 16) ≤ 0 → (∀ σ18 : zSto, σ18 = zI σ17 227 0 (-1 : Int32) → ((¬ (σ18.1 226 0) = 0 → P (0 : Int32) σ18) ∧ ((σ18.1 226 0) = 0 → P (1 : Int32) σ18)))) ∧ (¬ (σ17.1 223 16) ≤ 0 → (∀ σ19 : zSto, σ19 = zI σ17 227 0 (σ17.1 223 17) → ((¬ (σ19.1 226 0) = 0 → P (0 : Int32) σ19) ∧ ((σ19.1 226 0) = 0 → P (1 : Int32) σ19)))))) ∧ (x_2 = 0 → (∀ σ20 : zSto, σ20 = zI σ17 227 0 (σ17.1 223 15) → ((¬ (σ20.1 226 0) = 0 → P (0 : Int32) σ20) ∧ ((σ20.1 226 0) = 0 → P (1 : Int32) σ20))))))) ∧ (¬ x_2 = 0 → (∀ σ21 : zSto, σ21 = zI σ 226 0 (σ.1 223 16) → ((¬ x_2 = 0 → (((σ21.1 223 16) ≤ 0 → (∀ σ22 : zSto, σ22 = zI σ21 227 0 (-1 : Int32) → ((¬ (σ22.1 226 0) = 0 → P (0 : Int32) σ22) ∧ ((σ22.1 226 0) = 0 → P (1 : Int32) σ22)))) ∧ (¬ (σ21.1 223 16) ≤ 0 → (∀ σ23 : zSto, σ23 = zI σ21 227 0 (σ21.1 223 17) → ((¬ (σ23.1 226 0) = 0 → P (0 : Int32) σ23) ∧ ((σ23.1 226 0) = 0 → P (1 : Int32) σ23)))))) ∧ (x_2 = 0 → (∀ σ24 : zSto, σ24 = zI σ21 227 0 (σ21.1 223 15) → ((¬ (σ24.1 226 0) = 0 → P (0 : Int32) σ24) ∧ ((σ24.1 226 0) = 0 → P (1 : Int32) σ24))))))))) ∧ (x_1 = 0 → (vp_in x_3 16 ∧ (vp_in (((7 : Int32) + ((5 : Int32) * x_3)) + (3 : Int32)) 123 ∧ (∀ σ27 : zSto, σ27 = zI σ 232 ((((7 : Int32) + ((5 : Int32) * x_3)) + (3 : Int32))).toNatClampNeg (σ.1 234 (x_3).toNatClampNeg) → (vp_in x_3 16 ∧ (vp_in (((7 : Int32) + ((5 : Int32) * x_3)) + (4 : Int32)) 123 ∧ (∀ σ30 : zSto, σ30 = zI σ27 232 ((((7 : Int32) + ((5 : Int32) * x_3)) + (4 : Int32))).toNatClampNeg (σ27.1 235 (x_3).toNatClampNeg) → (∀ x31 : Int32, x31 = (x_3 + (1 : Int32)) → w_X10_readText_154 x_1 x_2 P n x31 σ30)))))))))))
def w_X10_readText_23 (x_1 : Int32) (P : Int32 → zSto → Prop)  : Nat → Int32 → zSto → Prop
  | 0, _, _ => False
  | n + 1, x_2, σ => (((16 : Int32) ≤ x_2 → ((¬ x_1 = 0 → (∀ σ1 : zSto, σ1 = zI σ 232 2 (0 : Int32) → ((¬ x_1 = 0 → (∀ σ2 : zSto, σ2 = zI σ1 232 6 (0 : Int32) → (∀ σ3 : zSto, σ3 = zI σ2 223 22 (-1 : Int32) → (∀ σ4 : zSto, σ4 = zI σ3 223 9 (0 : Int32) → (∀ σ5 : zSto, σ5 = zI σ4 223 16 (0 : Int32) → (w_X10_token  σ5 (fun (σ6 : zSto) => (w_X10_textLines x_1 σ6 (fun (r8 : Int32) (σ7 : zSto) => (r8 = 0 ∨ r8 = 1) → ((r8 = 0 → (∃ n2 : Nat, w_X10_readText_154 x_1 r8 P  n2 (0 : Int32) σ7)) ∧ (¬ r8 = 0 → ((¬ x_1 = 0 → (∃ n2 : Nat, w_X10_readText_154 x_1 r8 P  n2 (0 : Int32) σ7)) ∧ (x_1 = 0 → ((¬ (σ7.1 223 16) = 0 → (∃ n2 : Nat, w_X10_readText_154 x_1 r8 P  n2 (0 : Int32) σ7)) ∧ ((σ7.1 223 16) = 0 → (((σ7.1 232 0) ≤ (σ7.1 223 22) → (w_X10_later (4 : Int32) (σ7.1 223 11) σ7 (fun (σ32 : zSto) => (∃ n2 : Nat, w_X10_readText_154 x_1 r8 P  n2 (0 : Int32) σ32)))) ∧ (¬ (σ7.1 232 0) ≤ (σ7.1 223 22) → (((2 : Int32) ≤ (σ7.1 232 0) → (∃ n2 : Nat, w_X10_readText_154 x_1 r8 P  n2 (0 : Int32) σ7)) ∧ (¬ (2 : Int32) ≤ (σ7.1 232 0) → (w_X10_later (4 : Int32) (σ7.1 223 11) σ7 (fun (σ33 : zSto) => (∃ n2 : Nat, w_X10_readText_154 x_1 r8 P  n2 (0 : Int32) σ33)))))))))))))))))))))) ∧ (x_1 = 0 → (∀ σ34 : zSto, σ34 = zI σ1 232 6 (-1 : Int32) → (∀ σ35 : zSto, σ35 = zI σ34 223 22 (-1 : Int32) → (∀ σ36 : zSto, σ36 = zI σ35 223 9 (0 : Int32) → (∀ σ37 : zSto, σ37 = zI σ36 223 16 (0 : Int32) → (w_X10_token  σ37 (fun (σ38 : zSto) => (w_X10_textLines x_1 σ38 (fun (r40 : Int32) (σ39 : zSto) => (r40 = 0 ∨ r40 = 1) → ((r40 = 0 → (∃ n2 : Nat, w_X10_readText_154 x_1 r40 P  n2 (0 : Int32) σ39)) ∧ (¬ r40 = 0 → ((¬ x_1 = 0 → (∃ n2 : Nat, w_X10_readText_154 x_1 r40 P  n2 (0 : Int32) σ39)) ∧ (x_1 = 0 → ((¬ (σ39.1 223 16) = 0 → (∃ n2 : Nat, w_X10_readText_154 x_1 r40 P  n2 (0 : Int32) σ39)) ∧ ((σ39.1 223 16) = 0 → (((σ39.1 232 0) ≤ (σ39.1 223 22) → (w_X10_later (4 : Int32) (σ39.1 223 11) σ39 (fun (σ41 : zSto) => (∃ n2 : Nat, w_X10_readText_154 x_1 r40 P  n2 (0 : Int32) σ41)))) ∧ (¬ (σ39.1 232 0) ≤ (σ39.1 223 22) → (((2 : Int32) ≤ (σ39.1 232 0) → (∃ n2 : Nat, w_X10_readText_154 x_1 r40 P  n2 (0 : Int32) σ39)) ∧ (¬ (2 : Int32) ≤ (σ39.1 232 0) → (w_X10_later (4 : Int32) (σ39.1 223 11) σ39 (fun (σ42 : zSto) => (∃ n2 : Nat, w_X10_readText_154 x_1 r40 P  n2 (0 : Int32) σ42))))))))))))))))))))))))) ∧ (x_1 = 0 → (∀ σ43 : zSto, σ43 = zI σ 232 2 (2 : Int32) → ((¬ x_1 = 0 → (∀ σ44 : zSto, σ44 = zI σ43 232 6 (0 : Int32) → (∀ σ45 : zSto, σ45 = zI σ44 223 22 (-1 : Int32) → (∀ σ46 : zSto, σ46 = zI σ45 223 9 (0 : Int32) → (∀ σ47 : zSto, σ47 = zI σ46 223 16 (0 : Int32) → (w_X10_token  σ47 (fun (σ48 : zSto) => (w_X10_textLines x_1 σ48 (fun (r50 : Int32) (σ49 : zSto) => (r50 = 0 ∨ r50 = 1) → ((r50 = 0 → (∃ n2 : Nat, w_X10_readText_154 x_1 r50 P  n2 (0 : Int32) σ49)) ∧ (¬ r50 = 0 → ((¬ x_1 = 0 → (∃ n2 : Nat, w_X10_readText_154 x_1 r50 P  n2 (0 : Int32) σ49)) ∧ (x_1 = 0 → ((¬ (σ49.1 223 16) = 0 → (∃ n2 : Nat, w_X10_readText_154 x_1 r50 P  n2 (0 : Int32) σ49)) ∧ ((σ49.1 223 16) = 0 → (((σ49.1 232 0) ≤ (σ49.1 223 22) → (w_X10_later (4 : Int32) (σ49.1 223 11) σ49 (fun (σ51 : zSto) => (∃ n2 : Nat, w_X10_readText_154 x_1 r50 P  n2 (0 : Int32) σ51)))) ∧ (¬ (σ49.1 232 0) ≤ (σ49.1 223 22) → (((2 : Int32) ≤ (σ49.1 232 0) → (∃ n2 : Nat, w_X10_readText_154 x_1 r50 P  n2 (0 : Int32) σ49)) ∧ (¬ (2 : Int32) ≤ (σ49.1 232 0) → (w_X10_later (4 : Int32) (σ49.1 223 11) σ49 (fun (σ52 : zSto) => (∃ n2 : Nat, w_X10_readText_154 x_1 r50 P  n2 (0 : Int32) σ52)))))))))))))))))))))) ∧ (x_1 = 0 → (∀ σ53 : zSto, σ53 = zI σ43 232 6 (-1 : Int32) → (∀ σ54 : zSto, σ54 = zI σ53 223 22 (-1 : Int32) → (∀ σ55 : zSto, σ55 = zI σ54 223 9 (0 : Int32) → (∀ σ56 : zSto, σ56 = zI σ55 223 16 (0 : Int32) → (w_X10_token  σ56 (fun (σ57 : zSto) => (w_X10_textLines x_1 σ57 (fun (r59 : Int32) (σ58 : zSto) => (r59 = 0 ∨ r59 = 1) → ((r59 = 0 → (∃ n2 : Nat, w_X10_readText_154 x_1 r59 P  n2 (0 : Int32) σ58)) ∧ (¬ r59 = 0 → ((¬ x_1 = 0 → (∃ n2 : Nat, w_X10_readText_154 x_1 r59 P  n2 (0 : Int32) σ58)) ∧ (x_1 = 0 → ((¬ (σ58.1 223 16) = 0 → (∃ n2 : Nat, w_X10_readText_154 x_1 r59 P  n2 (0 : Int32) σ58)) ∧ ((σ58.1 223 16) = 0 → (((σ58.1 232 0) ≤ (σ58.1 223 22) → (w_X10_later (4 : Int32) (σ58.1 223 11) σ58 (fun (σ60 : zSto) => (∃ n2 : Nat, w_X10_readText_154 x_1 r59 P  n2 (0 : Int32) σ60)))) ∧ (¬ (σ58.1 232 0) ≤ (σ58.1 223 22) → (((2 : Int32) ≤ (σ58.1 232 0) → (∃ n2 : Nat, w_X10_readText_154 x_1 r59 P  n2 (0 : Int32) σ58)) ∧ (¬ (2 : Int32) ≤ (σ58.1 232 0) → (w_X10_later (4 : Int32) (σ58.1 223 11) σ58 (fun (σ61 : zSto) => (∃ n2 : Nat, w_X10_readText_154 x_1 r59 P  n2 (0 : Int32) σ61))))))))))))))))))))))))))) ∧ (¬ (16 : Int32) ≤ x_2 → (vp_in x_2 16 ∧ (∀ σ63 : zSto, σ63 = zI σ 234 (x_2).toNatClampNeg (0 : Int32) → (vp_in x_2 16 ∧ (∀ σ65 : zSto, σ65 = zI σ63 235 (x_2).toNatClampNeg (-1 : Int32) → (∀ x66 : Int32, x66 = (x_2 + (1 : Int32)) → w_X10_readText_23 x_1 P n x66 σ65)))))))
def w_X10_readText_2 (x_1 : Int32) (P : Int32 → zSto → Prop)  : Nat → Int32 → zSto → Prop
  | 0, _, _ => False
  | n + 1, x_2, σ => (((123 : Int32) ≤ x_2 → (∃ n2 : Nat, w_X10_readText_23 x_1 P  n2 (0 : Int32) σ)) ∧ (¬ (123 : Int32) ≤ x_2 → (vp_in x_2 123 ∧ (∀ σ68 : zSto, σ68 = zI σ 232 (x_2).toNatClampNeg (0 : Int32) → (∀ x69 : Int32, x69 = (x_2 + (1 : Int32)) → w_X10_readText_2 x_1 P n x69 σ68)))))
def w_X10_readText (a1 : Int32) (σ : zSto) (P : Int32 → zSto → Prop) : Prop := (∃ n : Nat, w_X10_readText_2 a1 P  n (0 : Int32) σ)
set_option maxRecDepth 100000 in
set_option maxHeartbeats 4000000 in
theorem k_X10_readText_154 {p : Program} {l : Launch} {e : Env} {s : State} {m : MethodId} {args : Array Value} {below : List Frame} {meth : Method} {c : Code} {D : va_G} {cy : Nat → ClassId} {g : Nat → Nat} (C : zC p s m args meth c cX10_readText RX10 4 D cy g) (hr : meth.sig.returnType = (some .boolean)) {P : Int32 → zSto → Prop} (x_1 : Int32) (x_2 : Int32)    : ∀ (n : Nat) (x_3 : Int32) (σ : zSto), w_X10_readText_154 x_1 x_2 P n x_3 σ → zX p l e (zrm 7 160) s m args below meth c 0 0 (zQb P below args s D cy g) 4 D cy g 154 [(0, .ref (g 223)), (1, .int x_1), (2, .int x_2), (3, .int x_3)] [] σ := by
  intro n
  induction n with
  | zero => intro x_3 σ h; exact h.elim
  | succ n ih =>
    intro x_3 σ h
    unfold w_X10_readText_154 at h
    refine zx_iload_n C dX10_readText_154 3 rfl ?_
    refine zx_bipush (v := (16 : Int32)) C dX10_readText_155 (by decide) ?_
    refine zx_icmp_ge C 208 dX10_readText_157 (by decide) (fun q => ?_) (fun q => ?_)
    · replace h := h.1 q
      refine zx_aload_n C dX10_readText_208 0 rfl ?_
      refine zx_getR C zs_223 fg_X10_17 rfl 226 rfl dX10_readText_209 ?_
      refine zx_iconst (v := (0 : Int32)) C dX10_readText_212 (by decide) ?_
      refine zx_iload_n C dX10_readText_213 2 rfl ?_
      refine zx_if_eq C 224 dX10_readText_214 (by decide) (fun q => ?_) (fun q => ?_)
      · replace h := h.1 q
        refine zx_iconst (v := (1 : Int32)) C dX10_readText_224 (by decide) ?_
        refine zx_iast C 0 zs_226 (by unfold vp_in; decide) (by decide) dX10_readText_225 ?_
        refine zx_sig (fun σ9 eσ9 => ?_)
        replace h := h σ9 eσ9
        refine zx_aload_n C dX10_readText_226 0 rfl ?_
        refine zx_getR C zs_223 fg_X10_20 rfl 227 rfl dX10_readText_227 ?_
        refine zx_iconst (v := (0 : Int32)) C dX10_readText_230 (by decide) ?_
        refine zx_iload_n C dX10_readText_231 2 rfl ?_
        refine zx_if_ne C 242 dX10_readText_232 (by decide) (fun q => ?_) (fun q => ?_)
        · replace h := h.1 q
          refine zx_aload_n C dX10_readText_242 0 rfl ?_
          refine zx_getI C zs_223 fg_X10_137 rfl dX10_readText_243 ?_
          refine zx_if_le C 256 dX10_readText_246 (by decide) (fun q => ?_) (fun q => ?_)
          · replace h := h.1 q
            refine zx_iconst (v := (-1 : Int32)) C dX10_readText_256 (by decide) ?_
            refine zx_iast C 0 zs_227 (by unfold vp_in; decide) (by decide) dX10_readText_257 ?_
            refine zx_sig (fun σ10 eσ10 => ?_)
            replace h := h σ10 eσ10
            refine zx_aload_n C dX10_readText_258 0 rfl ?_
            refine zx_getR C zs_223 fg_X10_17 rfl 226 rfl dX10_readText_259 ?_
            refine zx_iconst (v := (0 : Int32)) C dX10_readText_262 (by decide) ?_
            refine zx_iald C 0 zs_226 (by unfold vp_in; decide) (by decide) dX10_readText_263 ?_
            refine zx_if_ne C 271 dX10_readText_264 (by decide) (fun q => ?_) (fun q => ?_)
            · replace h := h.1 q
              refine zx_iconst (v := (0 : Int32)) C dX10_readText_271 (by decide) ?_
              exact zx_zret C hr dX10_readText_272 (Or.inl rfl) h
            · replace h := h.2 q
              refine zx_iconst (v := (1 : Int32)) C dX10_readText_267 (by decide) ?_
              refine zx_goto C 272 dX10_readText_268 (by decide) ?_
              exact zx_zret C hr dX10_readText_272 (Or.inr rfl) h
          · replace h := h.2 q
            refine zx_aload_n C dX10_readText_249 0 rfl ?_
            refine zx_getI C zs_223 fg_X10_140 rfl dX10_readText_250 ?_
            refine zx_goto C 257 dX10_readText_253 (by decide) ?_
            refine zx_iast C 0 zs_227 (by unfold vp_in; decide) (by decide) dX10_readText_257 ?_
            refine zx_sig (fun σ11 eσ11 => ?_)
            replace h := h σ11 eσ11
            refine zx_aload_n C dX10_readText_258 0 rfl ?_
            refine zx_getR C zs_223 fg_X10_17 rfl 226 rfl dX10_readText_259 ?_
            refine zx_iconst (v := (0 : Int32)) C dX10_readText_262 (by decide) ?_
            refine zx_iald C 0 zs_226 (by unfold vp_in; decide) (by decide) dX10_readText_263 ?_
            refine zx_if_ne C 271 dX10_readText_264 (by decide) (fun q => ?_) (fun q => ?_)
            · replace h := h.1 q
              refine zx_iconst (v := (0 : Int32)) C dX10_readText_271 (by decide) ?_
              exact zx_zret C hr dX10_readText_272 (Or.inl rfl) h
            · replace h := h.2 q
              refine zx_iconst (v := (1 : Int32)) C dX10_readText_267 (by decide) ?_
              refine zx_goto C 272 dX10_readText_268 (by decide) ?_
              exact zx_zret C hr dX10_readText_272 (Or.inr rfl) h
        · replace h := h.2 q
          refine zx_aload_n C dX10_readText_235 0 rfl ?_
          refine zx_getI C zs_223 fg_X10_134 rfl dX10_readText_236 ?_
          refine zx_goto C 257 dX10_readText_239 (by decide) ?_
          refine zx_iast C 0 zs_227 (by unfold vp_in; decide) (by decide) dX10_readText_257 ?_
          refine zx_sig (fun σ12 eσ12 => ?_)
          replace h := h σ12 eσ12
          refine zx_aload_n C dX10_readText_258 0 rfl ?_
          refine zx_getR C zs_223 fg_X10_17 rfl 226 rfl dX10_readText_259 ?_
          refine zx_iconst (v := (0 : Int32)) C dX10_readText_262 (by decide) ?_
          refine zx_iald C 0 zs_226 (by unfold vp_in; decide) (by decide) dX10_readText_263 ?_
          refine zx_if_ne C 271 dX10_readText_264 (by decide) (fun q => ?_) (fun q => ?_)
          · replace h := h.1 q
            refine zx_iconst (v := (0 : Int32)) C dX10_readText_271 (by decide) ?_
            exact zx_zret C hr dX10_readText_272 (Or.inl rfl) h
          · replace h := h.2 q
            refine zx_iconst (v := (1 : Int32)) C dX10_readText_267 (by decide) ?_
            refine zx_goto C 272 dX10_readText_268 (by decide) ?_
            exact zx_zret C hr dX10_readText_272 (Or.inr rfl) h
      · replace h := h.2 q
        refine zx_aload_n C dX10_readText_217 0 rfl ?_
        refine zx_getI C zs_223 fg_X10_137 rfl dX10_readText_218 ?_
        refine zx_goto C 225 dX10_readText_221 (by decide) ?_
        refine zx_iast C 0 zs_226 (by unfold vp_in; decide) (by decide) dX10_readText_225 ?_
        refine zx_sig (fun σ13 eσ13 => ?_)
        replace h := h σ13 eσ13
        refine zx_aload_n C dX10_readText_226 0 rfl ?_
        refine zx_getR C zs_223 fg_X10_20 rfl 227 rfl dX10_readText_227 ?_
        refine zx_iconst (v := (0 : Int32)) C dX10_readText_230 (by decide) ?_
        refine zx_iload_n C dX10_readText_231 2 rfl ?_
        refine zx_if_ne C 242 dX10_readText_232 (by decide) (fun q => ?_) (fun q => ?_)
        · replace h := h.1 q
          refine zx_aload_n C dX10_readText_242 0 rfl ?_
          refine zx_getI C zs_223 fg_X10_137 rfl dX10_readText_243 ?_
          refine zx_if_le C 256 dX10_readText_246 (by decide) (fun q => ?_) (fun q => ?_)
          · replace h := h.1 q
            refine zx_iconst (v := (-1 : Int32)) C dX10_readText_256 (by decide) ?_
            refine zx_iast C 0 zs_227 (by unfold vp_in; decide) (by decide) dX10_readText_257 ?_
            refine zx_sig (fun σ14 eσ14 => ?_)
            replace h := h σ14 eσ14
            refine zx_aload_n C dX10_readText_258 0 rfl ?_
            refine zx_getR C zs_223 fg_X10_17 rfl 226 rfl dX10_readText_259 ?_
            refine zx_iconst (v := (0 : Int32)) C dX10_readText_262 (by decide) ?_
            refine zx_iald C 0 zs_226 (by unfold vp_in; decide) (by decide) dX10_readText_263 ?_
            refine zx_if_ne C 271 dX10_readText_264 (by decide) (fun q => ?_) (fun q => ?_)
            · replace h := h.1 q
              refine zx_iconst (v := (0 : Int32)) C dX10_readText_271 (by decide) ?_
              exact zx_zret C hr dX10_readText_272 (Or.inl rfl) h
            · replace h := h.2 q
              refine zx_iconst (v := (1 : Int32)) C dX10_readText_267 (by decide) ?_
              refine zx_goto C 272 dX10_readText_268 (by decide) ?_
              exact zx_zret C hr dX10_readText_272 (Or.inr rfl) h
          · replace h := h.2 q
            refine zx_aload_n C dX10_readText_249 0 rfl ?_
            refine zx_getI C zs_223 fg_X10_140 rfl dX10_readText_250 ?_
            refine zx_goto C 257 dX10_readText_253 (by decide) ?_
            refine zx_iast C 0 zs_227 (by unfold vp_in; decide) (by decide) dX10_readText_257 ?_
            refine zx_sig (fun σ15 eσ15 => ?_)
            replace h := h σ15 eσ15
            refine zx_aload_n C dX10_readText_258 0 rfl ?_
            refine zx_getR C zs_223 fg_X10_17 rfl 226 rfl dX10_readText_259 ?_
            refine zx_iconst (v := (0 : Int32)) C dX10_readText_262 (by decide) ?_
            refine zx_iald C 0 zs_226 (by unfold vp_in; decide) (by decide) dX10_readText_263 ?_
            refine zx_if_ne C 271 dX10_readText_264 (by decide) (fun q => ?_) (fun q => ?_)
            · replace h := h.1 q
              refine zx_iconst (v := (0 : Int32)) C dX10_readText_271 (by decide) ?_
              exact zx_zret C hr dX10_readText_272 (Or.inl rfl) h
            · replace h := h.2 q
              refine zx_iconst (v := (1 : Int32)) C dX10_readText_267 (by decide) ?_
              refine zx_goto C 272 dX10_readText_268 (by decide) ?_
              exact zx_zret C hr dX10_readText_272 (Or.inr rfl) h
        · replace h := h.2 q
          refine zx_aload_n C dX10_readText_235 0 rfl ?_
          refine zx_getI C zs_223 fg_X10_134 rfl dX10_readText_236 ?_
          refine zx_goto C 257 dX10_readText_239 (by decide) ?_
          refine zx_iast C 0 zs_227 (by unfold vp_in; decide) (by decide) dX10_readText_257 ?_
          refine zx_sig (fun σ16 eσ16 => ?_)
          replace h := h σ16 eσ16
          refine zx_aload_n C dX10_readText_258 0 rfl ?_
          refine zx_getR C zs_223 fg_X10_17 rfl 226 rfl dX10_readText_259 ?_
          refine zx_iconst (v := (0 : Int32)) C dX10_readText_262 (by decide) ?_
          refine zx_iald C 0 zs_226 (by unfold vp_in; decide) (by decide) dX10_readText_263 ?_
          refine zx_if_ne C 271 dX10_readText_264 (by decide) (fun q => ?_) (fun q => ?_)
          · replace h := h.1 q
            refine zx_iconst (v := (0 : Int32)) C dX10_readText_271 (by decide) ?_
            exact zx_zret C hr dX10_readText_272 (Or.inl rfl) h
          · replace h := h.2 q
            refine zx_iconst (v := (1 : Int32)) C dX10_readText_267 (by decide) ?_
            refine zx_goto C 272 dX10_readText_268 (by decide) ?_
            exact zx_zret C hr dX10_readText_272 (Or.inr rfl) h
    · replace h := h.2 q
      refine zx_iload_n C dX10_readText_160 1 rfl ?_
      refine zx_if_ne C 208 dX10_readText_161 (by decide) (fun q => ?_) (fun q => ?_)
      · replace h := h.1 q
        refine zx_aload_n C dX10_readText_208 0 rfl ?_
        refine zx_getR C zs_223 fg_X10_17 rfl 226 rfl dX10_readText_209 ?_
        refine zx_iconst (v := (0 : Int32)) C dX10_readText_212 (by decide) ?_
        refine zx_iload_n C dX10_readText_213 2 rfl ?_
        refine zx_if_eq C 224 dX10_readText_214 (by decide) (fun q => ?_) (fun q => ?_)
        · replace h := h.1 q
          refine zx_iconst (v := (1 : Int32)) C dX10_readText_224 (by decide) ?_
          refine zx_iast C 0 zs_226 (by unfold vp_in; decide) (by decide) dX10_readText_225 ?_
          refine zx_sig (fun σ17 eσ17 => ?_)
          replace h := h σ17 eσ17
          refine zx_aload_n C dX10_readText_226 0 rfl ?_
          refine zx_getR C zs_223 fg_X10_20 rfl 227 rfl dX10_readText_227 ?_
          refine zx_iconst (v := (0 : Int32)) C dX10_readText_230 (by decide) ?_
          refine zx_iload_n C dX10_readText_231 2 rfl ?_
          refine zx_if_ne C 242 dX10_readText_232 (by decide) (fun q => ?_) (fun q => ?_)
          · replace h := h.1 q
            refine zx_aload_n C dX10_readText_242 0 rfl ?_
            refine zx_getI C zs_223 fg_X10_137 rfl dX10_readText_243 ?_
            refine zx_if_le C 256 dX10_readText_246 (by decide) (fun q => ?_) (fun q => ?_)
            · replace h := h.1 q
              refine zx_iconst (v := (-1 : Int32)) C dX10_readText_256 (by decide) ?_
              refine zx_iast C 0 zs_227 (by unfold vp_in; decide) (by decide) dX10_readText_257 ?_
              refine zx_sig (fun σ18 eσ18 => ?_)
              replace h := h σ18 eσ18
              refine zx_aload_n C dX10_readText_258 0 rfl ?_
              refine zx_getR C zs_223 fg_X10_17 rfl 226 rfl dX10_readText_259 ?_
              refine zx_iconst (v := (0 : Int32)) C dX10_readText_262 (by decide) ?_
              refine zx_iald C 0 zs_226 (by unfold vp_in; decide) (by decide) dX10_readText_263 ?_
              refine zx_if_ne C 271 dX10_readText_264 (by decide) (fun q => ?_) (fun q => ?_)
              · replace h := h.1 q
                refine zx_iconst (v := (0 : Int32)) C dX10_readText_271 (by decide) ?_
                exact zx_zret C hr dX10_readText_272 (Or.inl rfl) h
              · replace h := h.2 q
                refine zx_iconst (v := (1 : Int32)) C dX10_readText_267 (by decide) ?_
                refine zx_goto C 272 dX10_readText_268 (by decide) ?_
                exact zx_zret C hr dX10_readText_272 (Or.inr rfl) h
            · replace h := h.2 q
              refine zx_aload_n C dX10_readText_249 0 rfl ?_
              refine zx_getI C zs_223 fg_X10_140 rfl dX10_readText_250 ?_
              refine zx_goto C 257 dX10_readText_253 (by decide) ?_
              refine zx_iast C 0 zs_227 (by unfold vp_in; decide) (by decide) dX10_readText_257 ?_
              refine zx_sig (fun σ19 eσ19 => ?_)
              replace h := h σ19 eσ19
              refine zx_aload_n C dX10_readText_258 0 rfl ?_
              refine zx_getR C zs_223 fg_X10_17 rfl 226 rfl dX10_readText_259 ?_
              refine zx_iconst (v := (0 : Int32)) C dX10_readText_262 (by decide) ?_
              refine zx_iald C 0 zs_226 (by unfold vp_in; decide) (by decide) dX10_readText_263 ?_
              refine zx_if_ne C 271 dX10_readText_264 (by decide) (fun q => ?_) (fun q => ?_)
              · replace h := h.1 q
                refine zx_iconst (v := (0 : Int32)) C dX10_readText_271 (by decide) ?_
                exact zx_zret C hr dX10_readText_272 (Or.inl rfl) h
              · replace h := h.2 q
                refine zx_iconst (v := (1 : Int32)) C dX10_readText_267 (by decide) ?_
                refine zx_goto C 272 dX10_readText_268 (by decide) ?_
                exact zx_zret C hr dX10_readText_272 (Or.inr rfl) h
          · replace h := h.2 q
            refine zx_aload_n C dX10_readText_235 0 rfl ?_
            refine zx_getI C zs_223 fg_X10_134 rfl dX10_readText_236 ?_
            refine zx_goto C 257 dX10_readText_239 (by decide) ?_
            refine zx_iast C 0 zs_227 (by unfold vp_in; decide) (by decide) dX10_readText_257 ?_
            refine zx_sig (fun σ20 eσ20 => ?_)
            replace h := h σ20 eσ20
            refine zx_aload_n C dX10_readText_258 0 rfl ?_
            refine zx_getR C zs_223 fg_X10_17 rfl 226 rfl dX10_readText_259 ?_
            refine zx_iconst (v := (0 : Int32)) C dX10_readText_262 (by decide) ?_
            refine zx_iald C 0 zs_226 (by unfold vp_in; decide) (by decide) dX10_readText_263 ?_
            refine zx_if_ne C 271 dX10_readText_264 (by decide) (fun q => ?_) (fun q => ?_)
            · replace h := h.1 q
              refine zx_iconst (v := (0 : Int32)) C dX10_readText_271 (by decide) ?_
              exact zx_zret C hr dX10_readText_272 (Or.inl rfl) h
            · replace h := h.2 q
              refine zx_iconst (v := (1 : Int32)) C dX10_readText_267 (by decide) ?_
              refine zx_goto C 272 dX10_readText_268 (by decide) ?_
              exact zx_zret C hr dX10_readText_272 (Or.inr rfl) h
        · replace h := h.2 q
          refine zx_aload_n C dX10_readText_217 0 rfl ?_
          refine zx_getI C zs_223 fg_X10_137 rfl dX10_readText_218 ?_
          refine zx_goto C 225 dX10_readText_221 (by decide) ?_
          refine zx_iast C 0 zs_226 (by unfold vp_in; decide) (by decide) dX10_readText_225 ?_
          refine zx_sig (fun σ21 eσ21 => ?_)
          replace h := h σ21 eσ21
          refine zx_aload_n C dX10_readText_226 0 rfl ?_
          refine zx_getR C zs_223 fg_X10_20 rfl 227 rfl dX10_readText_227 ?_
          refine zx_iconst (v := (0 : Int32)) C dX10_readText_230 (by decide) ?_
          refine zx_iload_n C dX10_readText_231 2 rfl ?_
          refine zx_if_ne C 242 dX10_readText_232 (by decide) (fun q => ?_) (fun q => ?_)
          · replace h := h.1 q
            refine zx_aload_n C dX10_readText_242 0 rfl ?_
            refine zx_getI C zs_223 fg_X10_137 rfl dX10_readText_243 ?_
            refine zx_if_le C 256 dX10_readText_246 (by decide) (fun q => ?_) (fun q => ?_)
            · replace h := h.1 q
              refine zx_iconst (v := (-1 : Int32)) C dX10_readText_256 (by decide) ?_
              refine zx_iast C 0 zs_227 (by unfold vp_in; decide) (by decide) dX10_readText_257 ?_
              refine zx_sig (fun σ22 eσ22 => ?_)
              replace h := h σ22 eσ22
              refine zx_aload_n C dX10_readText_258 0 rfl ?_
              refine zx_getR C zs_223 fg_X10_17 rfl 226 rfl dX10_readText_259 ?_
              refine zx_iconst (v := (0 : Int32)) C dX10_readText_262 (by decide) ?_
              refine zx_iald C 0 zs_226 (by unfold vp_in; decide) (by decide) dX10_readText_263 ?_
              refine zx_if_ne C 271 dX10_readText_264 (by decide) (fun q => ?_) (fun q => ?_)
              · replace h := h.1 q
                refine zx_iconst (v := (0 : Int32)) C dX10_readText_271 (by decide) ?_
                exact zx_zret C hr dX10_readText_272 (Or.inl rfl) h
              · replace h := h.2 q
                refine zx_iconst (v := (1 : Int32)) C dX10_readText_267 (by decide) ?_
                refine zx_goto C 272 dX10_readText_268 (by decide) ?_
                exact zx_zret C hr dX10_readText_272 (Or.inr rfl) h
            · replace h := h.2 q
              refine zx_aload_n C dX10_readText_249 0 rfl ?_
              refine zx_getI C zs_223 fg_X10_140 rfl dX10_readText_250 ?_
              refine zx_goto C 257 dX10_readText_253 (by decide) ?_
              refine zx_iast C 0 zs_227 (by unfold vp_in; decide) (by decide) dX10_readText_257 ?_
              refine zx_sig (fun σ23 eσ23 => ?_)
              replace h := h σ23 eσ23
              refine zx_aload_n C dX10_readText_258 0 rfl ?_
              refine zx_getR C zs_223 fg_X10_17 rfl 226 rfl dX10_readText_259 ?_
              refine zx_iconst (v := (0 : Int32)) C dX10_readText_262 (by decide) ?_
              refine zx_iald C 0 zs_226 (by unfold vp_in; decide) (by decide) dX10_readText_263 ?_
              refine zx_if_ne C 271 dX10_readText_264 (by decide) (fun q => ?_) (fun q => ?_)
              · replace h := h.1 q
                refine zx_iconst (v := (0 : Int32)) C dX10_readText_271 (by decide) ?_
                exact zx_zret C hr dX10_readText_272 (Or.inl rfl) h
              · replace h := h.2 q
                refine zx_iconst (v := (1 : Int32)) C dX10_readText_267 (by decide) ?_
                refine zx_goto C 272 dX10_readText_268 (by decide) ?_
                exact zx_zret C hr dX10_readText_272 (Or.inr rfl) h
          · replace h := h.2 q
            refine zx_aload_n C dX10_readText_235 0 rfl ?_
            refine zx_getI C zs_223 fg_X10_134 rfl dX10_readText_236 ?_
            refine zx_goto C 257 dX10_readText_239 (by decide) ?_
            refine zx_iast C 0 zs_227 (by unfold vp_in; decide) (by decide) dX10_readText_257 ?_
            refine zx_sig (fun σ24 eσ24 => ?_)
            replace h := h σ24 eσ24
            refine zx_aload_n C dX10_readText_258 0 rfl ?_
            refine zx_getR C zs_223 fg_X10_17 rfl 226 rfl dX10_readText_259 ?_
            refine zx_iconst (v := (0 : Int32)) C dX10_readText_262 (by decide) ?_
            refine zx_iald C 0 zs_226 (by unfold vp_in; decide) (by decide) dX10_readText_263 ?_
            refine zx_if_ne C 271 dX10_readText_264 (by decide) (fun q => ?_) (fun q => ?_)
            · replace h := h.1 q
              refine zx_iconst (v := (0 : Int32)) C dX10_readText_271 (by decide) ?_
              exact zx_zret C hr dX10_readText_272 (Or.inl rfl) h
            · replace h := h.2 q
              refine zx_iconst (v := (1 : Int32)) C dX10_readText_267 (by decide) ?_
              refine zx_goto C 272 dX10_readText_268 (by decide) ?_
              exact zx_zret C hr dX10_readText_272 (Or.inr rfl) h
      · replace h := h.2 q
        refine zx_aload_n C dX10_readText_164 0 rfl ?_
        refine zx_getR C zs_223 fg_X10_35 rfl 232 rfl dX10_readText_165 ?_
        refine zx_bipush (v := (7 : Int32)) C dX10_readText_168 (by decide) ?_
        refine zx_iconst (v := (5 : Int32)) C dX10_readText_170 (by decide) ?_
        refine zx_iload_n C dX10_readText_171 3 rfl ?_
        refine zx_imul C dX10_readText_172 ?_
        refine zx_iadd C dX10_readText_173 ?_
        refine zx_iconst (v := (3 : Int32)) C dX10_readText_174 (by decide) ?_
        refine zx_iadd C dX10_readText_175 ?_
        refine zx_aload_n C dX10_readText_176 0 rfl ?_
        refine zx_getR C zs_223 fg_X10_41 rfl 234 rfl dX10_readText_177 ?_
        refine zx_iload_n C dX10_readText_180 3 rfl ?_
        obtain ⟨bd25, h⟩ := h
        refine zx_iald C (x_3).toNatClampNeg zs_234 bd25 rfl dX10_readText_181 ?_
        obtain ⟨bd26, h⟩ := h
        refine zx_iast C ((((7 : Int32) + ((5 : Int32) * x_3)) + (3 : Int32))).toNatClampNeg zs_232 bd26 rfl dX10_readText_182 ?_
        refine zx_sig (fun σ27 eσ27 => ?_)
        replace h := h σ27 eσ27
        refine zx_aload_n C dX10_readText_183 0 rfl ?_
        refine zx_getR C zs_223 fg_X10_35 rfl 232 rfl dX10_readText_184 ?_
        refine zx_bipush (v := (7 : Int32)) C dX10_readText_187 (by decide) ?_
        refine zx_iconst (v := (5 : Int32)) C dX10_readText_189 (by decide) ?_
        refine zx_iload_n C dX10_readText_190 3 rfl ?_
        refine zx_imul C dX10_readText_191 ?_
        refine zx_iadd C dX10_readText_192 ?_
        refine zx_iconst (v := (4 : Int32)) C dX10_readText_193 (by decide) ?_
        refine zx_iadd C dX10_readText_194 ?_
        refine zx_aload_n C dX10_readText_195 0 rfl ?_
        refine zx_getR C zs_223 fg_X10_44 rfl 235 rfl dX10_readText_196 ?_
        refine zx_iload_n C dX10_readText_199 3 rfl ?_
        obtain ⟨bd28, h⟩ := h
        refine zx_iald C (x_3).toNatClampNeg zs_235 bd28 rfl dX10_readText_200 ?_
        obtain ⟨bd29, h⟩ := h
        refine zx_iast C ((((7 : Int32) + ((5 : Int32) * x_3)) + (4 : Int32))).toNatClampNeg zs_232 bd29 rfl dX10_readText_201 ?_
        refine zx_sig (fun σ30 eσ30 => ?_)
        replace h := h σ30 eσ30
        obtain ⟨x31, ex31⟩ : ∃ y : Int32, y = (x_3 + (1 : Int32)) := ⟨_, rfl⟩
        replace h := h x31 ex31
        refine zx_iinc (v := x31) (lv' := [(3, .int x31), (0, .ref (g 223)), (1, .int x_1), (2, .int x_2)]) C dX10_readText_202 3 rfl (by rw [ex31]; rfl) (by decide) rfl ?_
        refine zx_goto C 154 dX10_readText_205 (by decide) ?_
        refine zx_lv (lv' := [(0, .ref (g 223)), (1, .int x_1), (2, .int x_2), (3, .int x31)]) [1, 2, 3, 0] rfl ?_
        exact ih x31 σ30 h
set_option maxRecDepth 100000 in
set_option maxHeartbeats 4000000 in
theorem k_X10_readText_23 {p : Program} {l : Launch} {e : Env} {s : State} {m : MethodId} {args : Array Value} {below : List Frame} {meth : Method} {c : Code} {D : va_G} {cy : Nat → ClassId} {g : Nat → Nat} (C : zC p s m args meth c cX10_readText RX10 4 D cy g) (hr : meth.sig.returnType = (some .boolean)) {P : Int32 → zSto → Prop} (x_1 : Int32)    : ∀ (n : Nat) (x_2 : Int32) (σ : zSto), w_X10_readText_23 x_1 P n x_2 σ → zX p l e (zrm 7 160) s m args below meth c 0 0 (zQb P below args s D cy g) 4 D cy g 23 [(0, .ref (g 223)), (1, .int x_1), (2, .int x_2)] [] σ := by
  intro n
  induction n with
  | zero => intro x_2 σ h; exact h.elim
  | succ n ih =>
    intro x_2 σ h
    unfold w_X10_readText_23 at h
    refine zx_iload_n C dX10_readText_23 2 rfl ?_
    refine zx_bipush (v := (16 : Int32)) C dX10_readText_24 (by decide) ?_
    refine zx_icmp_ge C 49 dX10_readText_26 (by decide) (fun q => ?_) (fun q => ?_)
    · replace h := h.1 q
      refine zx_aload_n C dX10_readText_49 0 rfl ?_
      refine zx_getR C zs_223 fg_X10_35 rfl 232 rfl dX10_readText_50 ?_
      refine zx_iconst (v := (2 : Int32)) C dX10_readText_53 (by decide) ?_
      refine zx_iload_n C dX10_readText_54 1 rfl ?_
      refine zx_if_ne C 62 dX10_readText_55 (by decide) (fun q => ?_) (fun q => ?_)
      · replace h := h.1 q
        refine zx_iconst (v := (0 : Int32)) C dX10_readText_62 (by decide) ?_
        refine zx_iast C 2 zs_232 (by unfold vp_in; decide) (by decide) dX10_readText_63 ?_
        refine zx_sig (fun σ1 eσ1 => ?_)
        replace h := h σ1 eσ1
        refine zx_aload_n C dX10_readText_64 0 rfl ?_
        refine zx_getR C zs_223 fg_X10_35 rfl 232 rfl dX10_readText_65 ?_
        refine zx_bipush (v := (6 : Int32)) C dX10_readText_68 (by decide) ?_
        refine zx_iload_n C dX10_readText_70 1 rfl ?_
        refine zx_if_ne C 78 dX10_readText_71 (by decide) (fun q => ?_) (fun q => ?_)
        · replace h := h.1 q
          refine zx_iconst (v := (0 : Int32)) C dX10_readText_78 (by decide) ?_
          refine zx_iast C 6 zs_232 (by unfold vp_in; decide) (by decide) dX10_readText_79 ?_
          refine zx_sig (fun σ2 eσ2 => ?_)
          replace h := h σ2 eσ2
          refine zx_aload_n C dX10_readText_80 0 rfl ?_
          refine zx_iconst (v := (-1 : Int32)) C dX10_readText_81 (by decide) ?_
          refine zx_putI C zs_223 fp_X10_157 rfl dX10_readText_82 ?_
          refine zx_sig (fun σ3 eσ3 => ?_)
          replace h := h σ3 eσ3
          refine zx_aload_n C dX10_readText_85 0 rfl ?_
          refine zx_iconst (v := (0 : Int32)) C dX10_readText_86 (by decide) ?_
          refine zx_putI C zs_223 fp_X10_111 rfl dX10_readText_87 ?_
          refine zx_sig (fun σ4 eσ4 => ?_)
          replace h := h σ4 eσ4
          refine zx_aload_n C dX10_readText_90 0 rfl ?_
          refine zx_iconst (v := (0 : Int32)) C dX10_readText_91 (by decide) ?_
          refine zx_putI C zs_223 fp_X10_137 rfl dX10_readText_92 ?_
          refine zx_sig (fun σ5 eσ5 => ?_)
          replace h := h σ5 eσ5
          refine zx_aload_n C dX10_readText_95 0 rfl ?_
          refine zx_cVv C [] lk_X10_151 (c_X10_token l D cy g   σ5 h) zs_223 rfl ⟨by decide, by decide⟩ ⟨rfl, rfl⟩ ⟨Nat.zero_le _, Nat.zero_le _⟩ rfl rfl (Nat.le_of_ble_eq_true rfl) dX10_readText_96 (fun σ6 h => ?_)
          refine zx_aload_n C dX10_readText_99 0 rfl ?_
          refine zx_iload_n C dX10_readText_100 1 rfl ?_
          refine zx_cVb C [.int x_1] lk_X10_221 (c_X10_textLines l D cy g x_1  σ6 h) zs_223 rfl ⟨by decide, by decide⟩ ⟨rfl, rfl⟩ ⟨Nat.zero_le _, Nat.zero_le _⟩ rfl rfl (Nat.le_of_ble_eq_true rfl) dX10_readText_101 (fun r8 σ7 hb h => ?_)
          replace h := h hb
          refine zx_istore_n (lv' := [(2, .int r8), (0, .ref (g 223)), (1, .int x_1)]) C dX10_readText_104 (by decide) rfl ?_
          refine zx_iload_n C dX10_readText_105 0 rfl ?_
          refine zx_if_eq C 152 dX10_readText_106 (by decide) (fun q => ?_) (fun q => ?_)
          · replace h := h.1 q
            refine zx_iconst (v := (0 : Int32)) C dX10_readText_152 (by decide) ?_
            refine zx_istore_n (lv' := [(3, .int (0 : Int32)), (2, .int r8), (0, .ref (g 223)), (1, .int x_1)]) C dX10_readText_153 (by decide) rfl ?_
            obtain ⟨n2, h⟩ := h
            refine zx_lv (lv' := [(0, .ref (g 223)), (1, .int x_1), (2, .int r8), (3, .int (0 : Int32))]) [2, 3, 1, 0] rfl ?_
            exact k_X10_readText_154 C hr (x_1) (r8)   n2 (0 : Int32) σ7 h
          · replace h := h.2 q
            refine zx_iload_n C dX10_readText_109 2 rfl ?_
            refine zx_if_ne C 152 dX10_readText_110 (by decide) (fun q => ?_) (fun q => ?_)
            · replace h := h.1 q
              refine zx_iconst (v := (0 : Int32)) C dX10_readText_152 (by decide) ?_
              refine zx_istore_n (lv' := [(3, .int (0 : Int32)), (2, .int r8), (0, .ref (g 223)), (1, .int x_1)]) C dX10_readText_153 (by decide) rfl ?_
              obtain ⟨n2, h⟩ := h
              refine zx_lv (lv' := [(0, .ref (g 223)), (1, .int x_1), (2, .int r8), (3, .int (0 : Int32))]) [2, 3, 1, 0] rfl ?_
              exact k_X10_readText_154 C hr (x_1) (r8)   n2 (0 : Int32) σ7 h
            · replace h := h.2 q
              refine zx_aload_n C dX10_readText_113 1 rfl ?_
              refine zx_getI C zs_223 fg_X10_137 rfl dX10_readText_114 ?_
              refine zx_if_ne C 152 dX10_readText_117 (by decide) (fun q => ?_) (fun q => ?_)
              · replace h := h.1 q
                refine zx_iconst (v := (0 : Int32)) C dX10_readText_152 (by decide) ?_
                refine zx_istore_n (lv' := [(3, .int (0 : Int32)), (2, .int r8), (0, .ref (g 223)), (1, .int x_1)]) C dX10_readText_153 (by decide) rfl ?_
                obtain ⟨n2, h⟩ := h
                refine zx_lv (lv' := [(0, .ref (g 223)), (1, .int x_1), (2, .int r8), (3, .int (0 : Int32))]) [2, 3, 1, 0] rfl ?_
                exact k_X10_readText_154 C hr (x_1) (r8)   n2 (0 : Int32) σ7 h
              · replace h := h.2 q
                refine zx_aload_n C dX10_readText_120 1 rfl ?_
                refine zx_getI C zs_223 fg_X10_157 rfl dX10_readText_121 ?_
                refine zx_aload_n C dX10_readText_124 1 rfl ?_
                refine zx_getR C zs_223 fg_X10_35 rfl 232 rfl dX10_readText_125 ?_
                refine zx_iconst (v := (0 : Int32)) C dX10_readText_128 (by decide) ?_
                refine zx_iald C 0 zs_232 (by unfold vp_in; decide) (by decide) dX10_readText_129 ?_
                refine zx_icmp_ge C 143 dX10_readText_130 (by decide) (fun q => ?_) (fun q => ?_)
                · replace h := h.1 q
                  refine zx_aload_n C dX10_readText_143 1 rfl ?_
                  refine zx_iconst (v := (4 : Int32)) C dX10_readText_144 (by decide) ?_
                  refine zx_aload_n C dX10_readText_145 1 rfl ?_
                  refine zx_getI C zs_223 fg_X10_121 rfl dX10_readText_146 ?_
                  refine zx_cVv C [.int (4 : Int32), .int (σ7.1 223 11)] lk_X10_147 (c_X10_later l D cy g (4 : Int32) (σ7.1 223 11)  σ7 h) zs_223 rfl ⟨by decide, by decide⟩ ⟨rfl, rfl⟩ ⟨Nat.zero_le _, Nat.zero_le _⟩ rfl rfl (Nat.le_of_ble_eq_true rfl) dX10_readText_149 (fun σ32 h => ?_)
                  refine zx_iconst (v := (0 : Int32)) C dX10_readText_152 (by decide) ?_
                  refine zx_istore_n (lv' := [(3, .int (0 : Int32)), (2, .int r8), (0, .ref (g 223)), (1, .int x_1)]) C dX10_readText_153 (by decide) rfl ?_
                  obtain ⟨n2, h⟩ := h
                  refine zx_lv (lv' := [(0, .ref (g 223)), (1, .int x_1), (2, .int r8), (3, .int (0 : Int32))]) [2, 3, 1, 0] rfl ?_
                  exact k_X10_readText_154 C hr (x_1) (r8)   n2 (0 : Int32) σ32 h
                · replace h := h.2 q
                  refine zx_aload_n C dX10_readText_133 1 rfl ?_
                  refine zx_getR C zs_223 fg_X10_35 rfl 232 rfl dX10_readText_134 ?_
                  refine zx_iconst (v := (0 : Int32)) C dX10_readText_137 (by decide) ?_
                  refine zx_iald C 0 zs_232 (by unfold vp_in; decide) (by decide) dX10_readText_138 ?_
                  refine zx_iconst (v := (2 : Int32)) C dX10_readText_139 (by decide) ?_
                  refine zx_icmp_ge C 152 dX10_readText_140 (by decide) (fun q => ?_) (fun q => ?_)
                  · replace h := h.1 q
                    refine zx_iconst (v := (0 : Int32)) C dX10_readText_152 (by decide) ?_
                    refine zx_istore_n (lv' := [(3, .int (0 : Int32)), (2, .int r8), (0, .ref (g 223)), (1, .int x_1)]) C dX10_readText_153 (by decide) rfl ?_
                    obtain ⟨n2, h⟩ := h
                    refine zx_lv (lv' := [(0, .ref (g 223)), (1, .int x_1), (2, .int r8), (3, .int (0 : Int32))]) [2, 3, 1, 0] rfl ?_
                    exact k_X10_readText_154 C hr (x_1) (r8)   n2 (0 : Int32) σ7 h
                  · replace h := h.2 q
                    refine zx_aload_n C dX10_readText_143 1 rfl ?_
                    refine zx_iconst (v := (4 : Int32)) C dX10_readText_144 (by decide) ?_
                    refine zx_aload_n C dX10_readText_145 1 rfl ?_
                    refine zx_getI C zs_223 fg_X10_121 rfl dX10_readText_146 ?_
                    refine zx_cVv C [.int (4 : Int32), .int (σ7.1 223 11)] lk_X10_147 (c_X10_later l D cy g (4 : Int32) (σ7.1 223 11)  σ7 h) zs_223 rfl ⟨by decide, by decide⟩ ⟨rfl, rfl⟩ ⟨Nat.zero_le _, Nat.zero_le _⟩ rfl rfl (Nat.le_of_ble_eq_true rfl) dX10_readText_149 (fun σ33 h => ?_)
                    refine zx_iconst (v := (0 : Int32)) C dX10_readText_152 (by decide) ?_
                    refine zx_istore_n (lv' := [(3, .int (0 : Int32)), (2, .int r8), (0, .ref (g 223)), (1, .int x_1)]) C dX10_readText_153 (by decide) rfl ?_
                    obtain ⟨n2, h⟩ := h
                    refine zx_lv (lv' := [(0, .ref (g 223)), (1, .int x_1), (2, .int r8), (3, .int (0 : Int32))]) [2, 3, 1, 0] rfl ?_
                    exact k_X10_readText_154 C hr (x_1) (r8)   n2 (0 : Int32) σ33 h
        · replace h := h.2 q
          refine zx_iconst (v := (-1 : Int32)) C dX10_readText_74 (by decide) ?_
          refine zx_goto C 79 dX10_readText_75 (by decide) ?_
          refine zx_iast C 6 zs_232 (by unfold vp_in; decide) (by decide) dX10_readText_79 ?_
          refine zx_sig (fun σ34 eσ34 => ?_)
          replace h := h σ34 eσ34
          refine zx_aload_n C dX10_readText_80 0 rfl ?_
          refine zx_iconst (v := (-1 : Int32)) C dX10_readText_81 (by decide) ?_
          refine zx_putI C zs_223 fp_X10_157 rfl dX10_readText_82 ?_
          refine zx_sig (fun σ35 eσ35 => ?_)
          replace h := h σ35 eσ35
          refine zx_aload_n C dX10_readText_85 0 rfl ?_
          refine zx_iconst (v := (0 : Int32)) C dX10_readText_86 (by decide) ?_
          refine zx_putI C zs_223 fp_X10_111 rfl dX10_readText_87 ?_
          refine zx_sig (fun σ36 eσ36 => ?_)
          replace h := h σ36 eσ36
          refine zx_aload_n C dX10_readText_90 0 rfl ?_
          refine zx_iconst (v := (0 : Int32)) C dX10_readText_91 (by decide) ?_
          refine zx_putI C zs_223 fp_X10_137 rfl dX10_readText_92 ?_
          refine zx_sig (fun σ37 eσ37 => ?_)
          replace h := h σ37 eσ37
          refine zx_aload_n C dX10_readText_95 0 rfl ?_
          refine zx_cVv C [] lk_X10_151 (c_X10_token l D cy g   σ37 h) zs_223 rfl ⟨by decide, by decide⟩ ⟨rfl, rfl⟩ ⟨Nat.zero_le _, Nat.zero_le _⟩ rfl rfl (Nat.le_of_ble_eq_true rfl) dX10_readText_96 (fun σ38 h => ?_)
          refine zx_aload_n C dX10_readText_99 0 rfl ?_
          refine zx_iload_n C dX10_readText_100 1 rfl ?_
          refine zx_cVb C [.int x_1] lk_X10_221 (c_X10_textLines l D cy g x_1  σ38 h) zs_223 rfl ⟨by decide, by decide⟩ ⟨rfl, rfl⟩ ⟨Nat.zero_le _, Nat.zero_le _⟩ rfl rfl (Nat.le_of_ble_eq_true rfl) dX10_readText_101 (fun r40 σ39 hb h => ?_)
          replace h := h hb
          refine zx_istore_n (lv' := [(2, .int r40), (0, .ref (g 223)), (1, .int x_1)]) C dX10_readText_104 (by decide) rfl ?_
          refine zx_iload_n C dX10_readText_105 0 rfl ?_
          refine zx_if_eq C 152 dX10_readText_106 (by decide) (fun q => ?_) (fun q => ?_)
          · replace h := h.1 q
            refine zx_iconst (v := (0 : Int32)) C dX10_readText_152 (by decide) ?_
            refine zx_istore_n (lv' := [(3, .int (0 : Int32)), (2, .int r40), (0, .ref (g 223)), (1, .int x_1)]) C dX10_readText_153 (by decide) rfl ?_
            obtain ⟨n2, h⟩ := h
            refine zx_lv (lv' := [(0, .ref (g 223)), (1, .int x_1), (2, .int r40), (3, .int (0 : Int32))]) [2, 3, 1, 0] rfl ?_
            exact k_X10_readText_154 C hr (x_1) (r40)   n2 (0 : Int32) σ39 h
          · replace h := h.2 q
            refine zx_iload_n C dX10_readText_109 2 rfl ?_
            refine zx_if_ne C 152 dX10_readText_110 (by decide) (fun q => ?_) (fun q => ?_)
            · replace h := h.1 q
              refine zx_iconst (v := (0 : Int32)) C dX10_readText_152 (by decide) ?_
              refine zx_istore_n (lv' := [(3, .int (0 : Int32)), (2, .int r40), (0, .ref (g 223)), (1, .int x_1)]) C dX10_readText_153 (by decide) rfl ?_
              obtain ⟨n2, h⟩ := h
              refine zx_lv (lv' := [(0, .ref (g 223)), (1, .int x_1), (2, .int r40), (3, .int (0 : Int32))]) [2, 3, 1, 0] rfl ?_
              exact k_X10_readText_154 C hr (x_1) (r40)   n2 (0 : Int32) σ39 h
            · replace h := h.2 q
              refine zx_aload_n C dX10_readText_113 1 rfl ?_
              refine zx_getI C zs_223 fg_X10_137 rfl dX10_readText_114 ?_
              refine zx_if_ne C 152 dX10_readText_117 (by decide) (fun q => ?_) (fun q => ?_)
              · replace h := h.1 q
                refine zx_iconst (v := (0 : Int32)) C dX10_readText_152 (by decide) ?_
                refine zx_istore_n (lv' := [(3, .int (0 : Int32)), (2, .int r40), (0, .ref (g 223)), (1, .int x_1)]) C dX10_readText_153 (by decide) rfl ?_
                obtain ⟨n2, h⟩ := h
                refine zx_lv (lv' := [(0, .ref (g 223)), (1, .int x_1), (2, .int r40), (3, .int (0 : Int32))]) [2, 3, 1, 0] rfl ?_
                exact k_X10_readText_154 C hr (x_1) (r40)   n2 (0 : Int32) σ39 h
              · replace h := h.2 q
                refine zx_aload_n C dX10_readText_120 1 rfl ?_
                refine zx_getI C zs_223 fg_X10_157 rfl dX10_readText_121 ?_
                refine zx_aload_n C dX10_readText_124 1 rfl ?_
                refine zx_getR C zs_223 fg_X10_35 rfl 232 rfl dX10_readText_125 ?_
                refine zx_iconst (v := (0 : Int32)) C dX10_readText_128 (by decide) ?_
                refine zx_iald C 0 zs_232 (by unfold vp_in; decide) (by decide) dX10_readText_129 ?_
                refine zx_icmp_ge C 143 dX10_readText_130 (by decide) (fun q => ?_) (fun q => ?_)
                · replace h := h.1 q
                  refine zx_aload_n C dX10_readText_143 1 rfl ?_
                  refine zx_iconst (v := (4 : Int32)) C dX10_readText_144 (by decide) ?_
                  refine zx_aload_n C dX10_readText_145 1 rfl ?_
                  refine zx_getI C zs_223 fg_X10_121 rfl dX10_readText_146 ?_
                  refine zx_cVv C [.int (4 : Int32), .int (σ39.1 223 11)] lk_X10_147 (c_X10_later l D cy g (4 : Int32) (σ39.1 223 11)  σ39 h) zs_223 rfl ⟨by decide, by decide⟩ ⟨rfl, rfl⟩ ⟨Nat.zero_le _, Nat.zero_le _⟩ rfl rfl (Nat.le_of_ble_eq_true rfl) dX10_readText_149 (fun σ41 h => ?_)
                  refine zx_iconst (v := (0 : Int32)) C dX10_readText_152 (by decide) ?_
                  refine zx_istore_n (lv' := [(3, .int (0 : Int32)), (2, .int r40), (0, .ref (g 223)), (1, .int x_1)]) C dX10_readText_153 (by decide) rfl ?_
                  obtain ⟨n2, h⟩ := h
                  refine zx_lv (lv' := [(0, .ref (g 223)), (1, .int x_1), (2, .int r40), (3, .int (0 : Int32))]) [2, 3, 1, 0] rfl ?_
                  exact k_X10_readText_154 C hr (x_1) (r40)   n2 (0 : Int32) σ41 h
                · replace h := h.2 q
                  refine zx_aload_n C dX10_readText_133 1 rfl ?_
                  refine zx_getR C zs_223 fg_X10_35 rfl 232 rfl dX10_readText_134 ?_
                  refine zx_iconst (v := (0 : Int32)) C dX10_readText_137 (by decide) ?_
                  refine zx_iald C 0 zs_232 (by unfold vp_in; decide) (by decide) dX10_readText_138 ?_
                  refine zx_iconst (v := (2 : Int32)) C dX10_readText_139 (by decide) ?_
                  refine zx_icmp_ge C 152 dX10_readText_140 (by decide) (fun q => ?_) (fun q => ?_)
                  · replace h := h.1 q
                    refine zx_iconst (v := (0 : Int32)) C dX10_readText_152 (by decide) ?_
                    refine zx_istore_n (lv' := [(3, .int (0 : Int32)), (2, .int r40), (0, .ref (g 223)), (1, .int x_1)]) C dX10_readText_153 (by decide) rfl ?_
                    obtain ⟨n2, h⟩ := h
                    refine zx_lv (lv' := [(0, .ref (g 223)), (1, .int x_1), (2, .int r40), (3, .int (0 : Int32))]) [2, 3, 1, 0] rfl ?_
                    exact k_X10_readText_154 C hr (x_1) (r40)   n2 (0 : Int32) σ39 h
                  · replace h := h.2 q
                    refine zx_aload_n C dX10_readText_143 1 rfl ?_
                    refine zx_iconst (v := (4 : Int32)) C dX10_readText_144 (by decide) ?_
                    refine zx_aload_n C dX10_readText_145 1 rfl ?_
                    refine zx_getI C zs_223 fg_X10_121 rfl dX10_readText_146 ?_
                    refine zx_cVv C [.int (4 : Int32), .int (σ39.1 223 11)] lk_X10_147 (c_X10_later l D cy g (4 : Int32) (σ39.1 223 11)  σ39 h) zs_223 rfl ⟨by decide, by decide⟩ ⟨rfl, rfl⟩ ⟨Nat.zero_le _, Nat.zero_le _⟩ rfl rfl (Nat.le_of_ble_eq_true rfl) dX10_readText_149 (fun σ42 h => ?_)
                    refine zx_iconst (v := (0 : Int32)) C dX10_readText_152 (by decide) ?_
                    refine zx_istore_n (lv' := [(3, .int (0 : Int32)), (2, .int r40), (0, .ref (g 223)), (1, .int x_1)]) C dX10_readText_153 (by decide) rfl ?_
                    obtain ⟨n2, h⟩ := h
                    refine zx_lv (lv' := [(0, .ref (g 223)), (1, .int x_1), (2, .int r40), (3, .int (0 : Int32))]) [2, 3, 1, 0] rfl ?_
                    exact k_X10_readText_154 C hr (x_1) (r40)   n2 (0 : Int32) σ42 h
      · replace h := h.2 q
        refine zx_iconst (v := (2 : Int32)) C dX10_readText_58 (by decide) ?_
        refine zx_goto C 63 dX10_readText_59 (by decide) ?_
        refine zx_iast C 2 zs_232 (by unfold vp_in; decide) (by decide) dX10_readText_63 ?_
        refine zx_sig (fun σ43 eσ43 => ?_)
        replace h := h σ43 eσ43
        refine zx_aload_n C dX10_readText_64 0 rfl ?_
        refine zx_getR C zs_223 fg_X10_35 rfl 232 rfl dX10_readText_65 ?_
        refine zx_bipush (v := (6 : Int32)) C dX10_readText_68 (by decide) ?_
        refine zx_iload_n C dX10_readText_70 1 rfl ?_
        refine zx_if_ne C 78 dX10_readText_71 (by decide) (fun q => ?_) (fun q => ?_)
        · replace h := h.1 q
          refine zx_iconst (v := (0 : Int32)) C dX10_readText_78 (by decide) ?_
          refine zx_iast C 6 zs_232 (by unfold vp_in; decide) (by decide) dX10_readText_79 ?_
          refine zx_sig (fun σ44 eσ44 => ?_)
          replace h := h σ44 eσ44
          refine zx_aload_n C dX10_readText_80 0 rfl ?_
          refine zx_iconst (v := (-1 : Int32)) C dX10_readText_81 (by decide) ?_
          refine zx_putI C zs_223 fp_X10_157 rfl dX10_readText_82 ?_
          refine zx_sig (fun σ45 eσ45 => ?_)
          replace h := h σ45 eσ45
          refine zx_aload_n C dX10_readText_85 0 rfl ?_
          refine zx_iconst (v := (0 : Int32)) C dX10_readText_86 (by decide) ?_
          refine zx_putI C zs_223 fp_X10_111 rfl dX10_readText_87 ?_
          refine zx_sig (fun σ46 eσ46 => ?_)
          replace h := h σ46 eσ46
          refine zx_aload_n C dX10_readText_90 0 rfl ?_
          refine zx_iconst (v := (0 : Int32)) C dX10_readText_91 (by decide) ?_
          refine zx_putI C zs_223 fp_X10_137 rfl dX10_readText_92 ?_
          refine zx_sig (fun σ47 eσ47 => ?_)
          replace h := h σ47 eσ47
          refine zx_aload_n C dX10_readText_95 0 rfl ?_
          refine zx_cVv C [] lk_X10_151 (c_X10_token l D cy g   σ47 h) zs_223 rfl ⟨by decide, by decide⟩ ⟨rfl, rfl⟩ ⟨Nat.zero_le _, Nat.zero_le _⟩ rfl rfl (Nat.le_of_ble_eq_true rfl) dX10_readText_96 (fun σ48 h => ?_)
          refine zx_aload_n C dX10_readText_99 0 rfl ?_
          refine zx_iload_n C dX10_readText_100 1 rfl ?_
          refine zx_cVb C [.int x_1] lk_X10_221 (c_X10_textLines l D cy g x_1  σ48 h) zs_223 rfl ⟨by decide, by decide⟩ ⟨rfl, rfl⟩ ⟨Nat.zero_le _, Nat.zero_le _⟩ rfl rfl (Nat.le_of_ble_eq_true rfl) dX10_readText_101 (fun r50 σ49 hb h => ?_)
          replace h := h hb
          refine zx_istore_n (lv' := [(2, .int r50), (0, .ref (g 223)), (1, .int x_1)]) C dX10_readText_104 (by decide) rfl ?_
          refine zx_iload_n C dX10_readText_105 0 rfl ?_
          refine zx_if_eq C 152 dX10_readText_106 (by decide) (fun q => ?_) (fun q => ?_)
          · replace h := h.1 q
            refine zx_iconst (v := (0 : Int32)) C dX10_readText_152 (by decide) ?_
            refine zx_istore_n (lv' := [(3, .int (0 : Int32)), (2, .int r50), (0, .ref (g 223)), (1, .int x_1)]) C dX10_readText_153 (by decide) rfl ?_
            obtain ⟨n2, h⟩ := h
            refine zx_lv (lv' := [(0, .ref (g 223)), (1, .int x_1), (2, .int r50), (3, .int (0 : Int32))]) [2, 3, 1, 0] rfl ?_
            exact k_X10_readText_154 C hr (x_1) (r50)   n2 (0 : Int32) σ49 h
          · replace h := h.2 q
            refine zx_iload_n C dX10_readText_109 2 rfl ?_
            refine zx_if_ne C 152 dX10_readText_110 (by decide) (fun q => ?_) (fun q => ?_)
            · replace h := h.1 q
              refine zx_iconst (v := (0 : Int32)) C dX10_readText_152 (by decide) ?_
              refine zx_istore_n (lv' := [(3, .int (0 : Int32)), (2, .int r50), (0, .ref (g 223)), (1, .int x_1)]) C dX10_readText_153 (by decide) rfl ?_
              obtain ⟨n2, h⟩ := h
              refine zx_lv (lv' := [(0, .ref (g 223)), (1, .int x_1), (2, .int r50), (3, .int (0 : Int32))]) [2, 3, 1, 0] rfl ?_
              exact k_X10_readText_154 C hr (x_1) (r50)   n2 (0 : Int32) σ49 h
            · replace h := h.2 q
              refine zx_aload_n C dX10_readText_113 1 rfl ?_
              refine zx_getI C zs_223 fg_X10_137 rfl dX10_readText_114 ?_
              refine zx_if_ne C 152 dX10_readText_117 (by decide) (fun q => ?_) (fun q => ?_)
              · replace h := h.1 q
                refine zx_iconst (v := (0 : Int32)) C dX10_readText_152 (by decide) ?_
                refine zx_istore_n (lv' := [(3, .int (0 : Int32)), (2, .int r50), (0, .ref (g 223)), (1, .int x_1)]) C dX10_readText_153 (by decide) rfl ?_
                obtain ⟨n2, h⟩ := h
                refine zx_lv (lv' := [(0, .ref (g 223)), (1, .int x_1), (2, .int r50), (3, .int (0 : Int32))]) [2, 3, 1, 0] rfl ?_
                exact k_X10_readText_154 C hr (x_1) (r50)   n2 (0 : Int32) σ49 h
              · replace h := h.2 q
                refine zx_aload_n C dX10_readText_120 1 rfl ?_
                refine zx_getI C zs_223 fg_X10_157 rfl dX10_readText_121 ?_
                refine zx_aload_n C dX10_readText_124 1 rfl ?_
                refine zx_getR C zs_223 fg_X10_35 rfl 232 rfl dX10_readText_125 ?_
                refine zx_iconst (v := (0 : Int32)) C dX10_readText_128 (by decide) ?_
                refine zx_iald C 0 zs_232 (by unfold vp_in; decide) (by decide) dX10_readText_129 ?_
                refine zx_icmp_ge C 143 dX10_readText_130 (by decide) (fun q => ?_) (fun q => ?_)
                · replace h := h.1 q
                  refine zx_aload_n C dX10_readText_143 1 rfl ?_
                  refine zx_iconst (v := (4 : Int32)) C dX10_readText_144 (by decide) ?_
                  refine zx_aload_n C dX10_readText_145 1 rfl ?_
                  refine zx_getI C zs_223 fg_X10_121 rfl dX10_readText_146 ?_
                  refine zx_cVv C [.int (4 : Int32), .int (σ49.1 223 11)] lk_X10_147 (c_X10_later l D cy g (4 : Int32) (σ49.1 223 11)  σ49 h) zs_223 rfl ⟨by decide, by decide⟩ ⟨rfl, rfl⟩ ⟨Nat.zero_le _, Nat.zero_le _⟩ rfl rfl (Nat.le_of_ble_eq_true rfl) dX10_readText_149 (fun σ51 h => ?_)
                  refine zx_iconst (v := (0 : Int32)) C dX10_readText_152 (by decide) ?_
                  refine zx_istore_n (lv' := [(3, .int (0 : Int32)), (2, .int r50), (0, .ref (g 223)), (1, .int x_1)]) C dX10_readText_153 (by decide) rfl ?_
                  obtain ⟨n2, h⟩ := h
                  refine zx_lv (lv' := [(0, .ref (g 223)), (1, .int x_1), (2, .int r50), (3, .int (0 : Int32))]) [2, 3, 1, 0] rfl ?_
                  exact k_X10_readText_154 C hr (x_1) (r50)   n2 (0 : Int32) σ51 h
                · replace h := h.2 q
                  refine zx_aload_n C dX10_readText_133 1 rfl ?_
                  refine zx_getR C zs_223 fg_X10_35 rfl 232 rfl dX10_readText_134 ?_
                  refine zx_iconst (v := (0 : Int32)) C dX10_readText_137 (by decide) ?_
                  refine zx_iald C 0 zs_232 (by unfold vp_in; decide) (by decide) dX10_readText_138 ?_
                  refine zx_iconst (v := (2 : Int32)) C dX10_readText_139 (by decide) ?_
                  refine zx_icmp_ge C 152 dX10_readText_140 (by decide) (fun q => ?_) (fun q => ?_)
                  · replace h := h.1 q
                    refine zx_iconst (v := (0 : Int32)) C dX10_readText_152 (by decide) ?_
                    refine zx_istore_n (lv' := [(3, .int (0 : Int32)), (2, .int r50), (0, .ref (g 223)), (1, .int x_1)]) C dX10_readText_153 (by decide) rfl ?_
                    obtain ⟨n2, h⟩ := h
                    refine zx_lv (lv' := [(0, .ref (g 223)), (1, .int x_1), (2, .int r50), (3, .int (0 : Int32))]) [2, 3, 1, 0] rfl ?_
                    exact k_X10_readText_154 C hr (x_1) (r50)   n2 (0 : Int32) σ49 h
                  · replace h := h.2 q
                    refine zx_aload_n C dX10_readText_143 1 rfl ?_
                    refine zx_iconst (v := (4 : Int32)) C dX10_readText_144 (by decide) ?_
                    refine zx_aload_n C dX10_readText_145 1 rfl ?_
                    refine zx_getI C zs_223 fg_X10_121 rfl dX10_readText_146 ?_
                    refine zx_cVv C [.int (4 : Int32), .int (σ49.1 223 11)] lk_X10_147 (c_X10_later l D cy g (4 : Int32) (σ49.1 223 11)  σ49 h) zs_223 rfl ⟨by decide, by decide⟩ ⟨rfl, rfl⟩ ⟨Nat.zero_le _, Nat.zero_le _⟩ rfl rfl (Nat.le_of_ble_eq_true rfl) dX10_readText_149 (fun σ52 h => ?_)
                    refine zx_iconst (v := (0 : Int32)) C dX10_readText_152 (by decide) ?_
                    refine zx_istore_n (lv' := [(3, .int (0 : Int32)), (2, .int r50), (0, .ref (g 223)), (1, .int x_1)]) C dX10_readText_153 (by decide) rfl ?_
                    obtain ⟨n2, h⟩ := h
                    refine zx_lv (lv' := [(0, .ref (g 223)), (1, .int x_1), (2, .int r50), (3, .int (0 : Int32))]) [2, 3, 1, 0] rfl ?_
                    exact k_X10_readText_154 C hr (x_1) (r50)   n2 (0 : Int32) σ52 h
        · replace h := h.2 q
          refine zx_iconst (v := (-1 : Int32)) C dX10_readText_74 (by decide) ?_
          refine zx_goto C 79 dX10_readText_75 (by decide) ?_
          refine zx_iast C 6 zs_232 (by unfold vp_in; decide) (by decide) dX10_readText_79 ?_
          refine zx_sig (fun σ53 eσ53 => ?_)
          replace h := h σ53 eσ53
          refine zx_aload_n C dX10_readText_80 0 rfl ?_
          refine zx_iconst (v := (-1 : Int32)) C dX10_readText_81 (by decide) ?_
          refine zx_putI C zs_223 fp_X10_157 rfl dX10_readText_82 ?_
          refine zx_sig (fun σ54 eσ54 => ?_)
          replace h := h σ54 eσ54
          refine zx_aload_n C dX10_readText_85 0 rfl ?_
          refine zx_iconst (v := (0 : Int32)) C dX10_readText_86 (by decide) ?_
          refine zx_putI C zs_223 fp_X10_111 rfl dX10_readText_87 ?_
          refine zx_sig (fun σ55 eσ55 => ?_)
          replace h := h σ55 eσ55
          refine zx_aload_n C dX10_readText_90 0 rfl ?_
          refine zx_iconst (v := (0 : Int32)) C dX10_readText_91 (by decide) ?_
          refine zx_putI C zs_223 fp_X10_137 rfl dX10_readText_92 ?_
          refine zx_sig (fun σ56 eσ56 => ?_)
          replace h := h σ56 eσ56
          refine zx_aload_n C dX10_readText_95 0 rfl ?_
          refine zx_cVv C [] lk_X10_151 (c_X10_token l D cy g   σ56 h) zs_223 rfl ⟨by decide, by decide⟩ ⟨rfl, rfl⟩ ⟨Nat.zero_le _, Nat.zero_le _⟩ rfl rfl (Nat.le_of_ble_eq_true rfl) dX10_readText_96 (fun σ57 h => ?_)
          refine zx_aload_n C dX10_readText_99 0 rfl ?_
          refine zx_iload_n C dX10_readText_100 1 rfl ?_
          refine zx_cVb C [.int x_1] lk_X10_221 (c_X10_textLines l D cy g x_1  σ57 h) zs_223 rfl ⟨by decide, by decide⟩ ⟨rfl, rfl⟩ ⟨Nat.zero_le _, Nat.zero_le _⟩ rfl rfl (Nat.le_of_ble_eq_true rfl) dX10_readText_101 (fun r59 σ58 hb h => ?_)
          replace h := h hb
          refine zx_istore_n (lv' := [(2, .int r59), (0, .ref (g 223)), (1, .int x_1)]) C dX10_readText_104 (by decide) rfl ?_
          refine zx_iload_n C dX10_readText_105 0 rfl ?_
          refine zx_if_eq C 152 dX10_readText_106 (by decide) (fun q => ?_) (fun q => ?_)
          · replace h := h.1 q
            refine zx_iconst (v := (0 : Int32)) C dX10_readText_152 (by decide) ?_
            refine zx_istore_n (lv' := [(3, .int (0 : Int32)), (2, .int r59), (0, .ref (g 223)), (1, .int x_1)]) C dX10_readText_153 (by decide) rfl ?_
            obtain ⟨n2, h⟩ := h
            refine zx_lv (lv' := [(0, .ref (g 223)), (1, .int x_1), (2, .int r59), (3, .int (0 : Int32))]) [2, 3, 1, 0] rfl ?_
            exact k_X10_readText_154 C hr (x_1) (r59)   n2 (0 : Int32) σ58 h
          · replace h := h.2 q
            refine zx_iload_n C dX10_readText_109 2 rfl ?_
            refine zx_if_ne C 152 dX10_readText_110 (by decide) (fun q => ?_) (fun q => ?_)
            · replace h := h.1 q
              refine zx_iconst (v := (0 : Int32)) C dX10_readText_152 (by decide) ?_
              refine zx_istore_n (lv' := [(3, .int (0 : Int32)), (2, .int r59), (0, .ref (g 223)), (1, .int x_1)]) C dX10_readText_153 (by decide) rfl ?_
              obtain ⟨n2, h⟩ := h
              refine zx_lv (lv' := [(0, .ref (g 223)), (1, .int x_1), (2, .int r59), (3, .int (0 : Int32))]) [2, 3, 1, 0] rfl ?_
              exact k_X10_readText_154 C hr (x_1) (r59)   n2 (0 : Int32) σ58 h
            · replace h := h.2 q
              refine zx_aload_n C dX10_readText_113 1 rfl ?_
              refine zx_getI C zs_223 fg_X10_137 rfl dX10_readText_114 ?_
              refine zx_if_ne C 152 dX10_readText_117 (by decide) (fun q => ?_) (fun q => ?_)
              · replace h := h.1 q
                refine zx_iconst (v := (0 : Int32)) C dX10_readText_152 (by decide) ?_
                refine zx_istore_n (lv' := [(3, .int (0 : Int32)), (2, .int r59), (0, .ref (g 223)), (1, .int x_1)]) C dX10_readText_153 (by decide) rfl ?_
                obtain ⟨n2, h⟩ := h
                refine zx_lv (lv' := [(0, .ref (g 223)), (1, .int x_1), (2, .int r59), (3, .int (0 : Int32))]) [2, 3, 1, 0] rfl ?_
                exact k_X10_readText_154 C hr (x_1) (r59)   n2 (0 : Int32) σ58 h
              · replace h := h.2 q
                refine zx_aload_n C dX10_readText_120 1 rfl ?_
                refine zx_getI C zs_223 fg_X10_157 rfl dX10_readText_121 ?_
                refine zx_aload_n C dX10_readText_124 1 rfl ?_
                refine zx_getR C zs_223 fg_X10_35 rfl 232 rfl dX10_readText_125 ?_
                refine zx_iconst (v := (0 : Int32)) C dX10_readText_128 (by decide) ?_
                refine zx_iald C 0 zs_232 (by unfold vp_in; decide) (by decide) dX10_readText_129 ?_
                refine zx_icmp_ge C 143 dX10_readText_130 (by decide) (fun q => ?_) (fun q => ?_)
                · replace h := h.1 q
                  refine zx_aload_n C dX10_readText_143 1 rfl ?_
                  refine zx_iconst (v := (4 : Int32)) C dX10_readText_144 (by decide) ?_
                  refine zx_aload_n C dX10_readText_145 1 rfl ?_
                  refine zx_getI C zs_223 fg_X10_121 rfl dX10_readText_146 ?_
                  refine zx_cVv C [.int (4 : Int32), .int (σ58.1 223 11)] lk_X10_147 (c_X10_later l D cy g (4 : Int32) (σ58.1 223 11)  σ58 h) zs_223 rfl ⟨by decide, by decide⟩ ⟨rfl, rfl⟩ ⟨Nat.zero_le _, Nat.zero_le _⟩ rfl rfl (Nat.le_of_ble_eq_true rfl) dX10_readText_149 (fun σ60 h => ?_)
                  refine zx_iconst (v := (0 : Int32)) C dX10_readText_152 (by decide) ?_
                  refine zx_istore_n (lv' := [(3, .int (0 : Int32)), (2, .int r59), (0, .ref (g 223)), (1, .int x_1)]) C dX10_readText_153 (by decide) rfl ?_
                  obtain ⟨n2, h⟩ := h
                  refine zx_lv (lv' := [(0, .ref (g 223)), (1, .int x_1), (2, .int r59), (3, .int (0 : Int32))]) [2, 3, 1, 0] rfl ?_
                  exact k_X10_readText_154 C hr (x_1) (r59)   n2 (0 : Int32) σ60 h
                · replace h := h.2 q
                  refine zx_aload_n C dX10_readText_133 1 rfl ?_
                  refine zx_getR C zs_223 fg_X10_35 rfl 232 rfl dX10_readText_134 ?_
                  refine zx_iconst (v := (0 : Int32)) C dX10_readText_137 (by decide) ?_
                  refine zx_iald C 0 zs_232 (by unfold vp_in; decide) (by decide) dX10_readText_138 ?_
                  refine zx_iconst (v := (2 : Int32)) C dX10_readText_139 (by decide) ?_
                  refine zx_icmp_ge C 152 dX10_readText_140 (by decide) (fun q => ?_) (fun q => ?_)
                  · replace h := h.1 q
                    refine zx_iconst (v := (0 : Int32)) C dX10_readText_152 (by decide) ?_
                    refine zx_istore_n (lv' := [(3, .int (0 : Int32)), (2, .int r59), (0, .ref (g 223)), (1, .int x_1)]) C dX10_readText_153 (by decide) rfl ?_
                    obtain ⟨n2, h⟩ := h
                    refine zx_lv (lv' := [(0, .ref (g 223)), (1, .int x_1), (2, .int r59), (3, .int (0 : Int32))]) [2, 3, 1, 0] rfl ?_
                    exact k_X10_readText_154 C hr (x_1) (r59)   n2 (0 : Int32) σ58 h
                  · replace h := h.2 q
                    refine zx_aload_n C dX10_readText_143 1 rfl ?_
                    refine zx_iconst (v := (4 : Int32)) C dX10_readText_144 (by decide) ?_
                    refine zx_aload_n C dX10_readText_145 1 rfl ?_
                    refine zx_getI C zs_223 fg_X10_121 rfl dX10_readText_146 ?_
                    refine zx_cVv C [.int (4 : Int32), .int (σ58.1 223 11)] lk_X10_147 (c_X10_later l D cy g (4 : Int32) (σ58.1 223 11)  σ58 h) zs_223 rfl ⟨by decide, by decide⟩ ⟨rfl, rfl⟩ ⟨Nat.zero_le _, Nat.zero_le _⟩ rfl rfl (Nat.le_of_ble_eq_true rfl) dX10_readText_149 (fun σ61 h => ?_)
                    refine zx_iconst (v := (0 : Int32)) C dX10_readText_152 (by decide) ?_
                    refine zx_istore_n (lv' := [(3, .int (0 : Int32)), (2, .int r59), (0, .ref (g 223)), (1, .int x_1)]) C dX10_readText_153 (by decide) rfl ?_
                    obtain ⟨n2, h⟩ := h
                    refine zx_lv (lv' := [(0, .ref (g 223)), (1, .int x_1), (2, .int r59), (3, .int (0 : Int32))]) [2, 3, 1, 0] rfl ?_
                    exact k_X10_readText_154 C hr (x_1) (r59)   n2 (0 : Int32) σ61 h
    · replace h := h.2 q
      refine zx_aload_n C dX10_readText_29 0 rfl ?_
      refine zx_getR C zs_223 fg_X10_41 rfl 234 rfl dX10_readText_30 ?_
      refine zx_iload_n C dX10_readText_33 2 rfl ?_
      refine zx_iconst (v := (0 : Int32)) C dX10_readText_34 (by decide) ?_
      obtain ⟨bd62, h⟩ := h
      refine zx_iast C (x_2).toNatClampNeg zs_234 bd62 rfl dX10_readText_35 ?_
      refine zx_sig (fun σ63 eσ63 => ?_)
      replace h := h σ63 eσ63
      refine zx_aload_n C dX10_readText_36 0 rfl ?_
      refine zx_getR C zs_223 fg_X10_44 rfl 235 rfl dX10_readText_37 ?_
      refine zx_iload_n C dX10_readText_40 2 rfl ?_
      refine zx_iconst (v := (-1 : Int32)) C dX10_readText_41 (by decide) ?_
      obtain ⟨bd64, h⟩ := h
      refine zx_iast C (x_2).toNatClampNeg zs_235 bd64 rfl dX10_readText_42 ?_
      refine zx_sig (fun σ65 eσ65 => ?_)
      replace h := h σ65 eσ65
      obtain ⟨x66, ex66⟩ : ∃ y : Int32, y = (x_2 + (1 : Int32)) := ⟨_, rfl⟩
      replace h := h x66 ex66
      refine zx_iinc (v := x66) (lv' := [(2, .int x66), (0, .ref (g 223)), (1, .int x_1)]) C dX10_readText_43 2 rfl (by rw [ex66]; rfl) (by decide) rfl ?_
      refine zx_goto C 23 dX10_readText_46 (by decide) ?_
      refine zx_lv (lv' := [(0, .ref (g 223)), (1, .int x_1), (2, .int x66)]) [1, 2, 0] rfl ?_
      exact ih x66 σ65 h
set_option maxRecDepth 100000 in
set_option maxHeartbeats 4000000 in
theorem k_X10_readText_2 {p : Program} {l : Launch} {e : Env} {s : State} {m : MethodId} {args : Array Value} {below : List Frame} {meth : Method} {c : Code} {D : va_G} {cy : Nat → ClassId} {g : Nat → Nat} (C : zC p s m args meth c cX10_readText RX10 4 D cy g) (hr : meth.sig.returnType = (some .boolean)) {P : Int32 → zSto → Prop} (x_1 : Int32)    : ∀ (n : Nat) (x_2 : Int32) (σ : zSto), w_X10_readText_2 x_1 P n x_2 σ → zX p l e (zrm 7 160) s m args below meth c 0 0 (zQb P below args s D cy g) 4 D cy g 2 [(0, .ref (g 223)), (1, .int x_1), (2, .int x_2)] [] σ := by
  intro n
  induction n with
  | zero => intro x_2 σ h; exact h.elim
  | succ n ih =>
    intro x_2 σ h
    unfold w_X10_readText_2 at h
    refine zx_iload_n C dX10_readText_2 2 rfl ?_
    refine zx_bipush (v := (123 : Int32)) C dX10_readText_3 (by decide) ?_
    refine zx_icmp_ge C 21 dX10_readText_5 (by decide) (fun q => ?_) (fun q => ?_)
    · replace h := h.1 q
      refine zx_iconst (v := (0 : Int32)) C dX10_readText_21 (by decide) ?_
      refine zx_istore_n (lv' := [(2, .int (0 : Int32)), (0, .ref (g 223)), (1, .int x_1)]) C dX10_readText_22 (by decide) rfl ?_
      obtain ⟨n2, h⟩ := h
      refine zx_lv (lv' := [(0, .ref (g 223)), (1, .int x_1), (2, .int (0 : Int32))]) [1, 2, 0] rfl ?_
      exact k_X10_readText_23 C hr (x_1)   n2 (0 : Int32) σ h
    · replace h := h.2 q
      refine zx_aload_n C dX10_readText_8 0 rfl ?_
      refine zx_getR C zs_223 fg_X10_35 rfl 232 rfl dX10_readText_9 ?_
      refine zx_iload_n C dX10_readText_12 2 rfl ?_
      refine zx_iconst (v := (0 : Int32)) C dX10_readText_13 (by decide) ?_
      obtain ⟨bd67, h⟩ := h
      refine zx_iast C (x_2).toNatClampNeg zs_232 bd67 rfl dX10_readText_14 ?_
      refine zx_sig (fun σ68 eσ68 => ?_)
      replace h := h σ68 eσ68
      obtain ⟨x69, ex69⟩ : ∃ y : Int32, y = (x_2 + (1 : Int32)) := ⟨_, rfl⟩
      replace h := h x69 ex69
      refine zx_iinc (v := x69) (lv' := [(2, .int x69), (0, .ref (g 223)), (1, .int x_1)]) C dX10_readText_15 2 rfl (by rw [ex69]; rfl) (by decide) rfl ?_
      refine zx_goto C 2 dX10_readText_18 (by decide) ?_
      refine zx_lv (lv' := [(0, .ref (g 223)), (1, .int x_1), (2, .int x69)]) [1, 2, 0] rfl ?_
      exact ih x69 σ68 h
set_option maxRecDepth 100000 in
set_option maxHeartbeats 4000000 in
theorem c_X10_readText (l : Launch) (D : va_G) (cy : Nat → ClassId) (g : Nat → Nat) (a1 : Int32)  (σ : zSto) {P : Int32 → zSto → Prop} (h : w_X10_readText a1 σ P) : zMb l yX10_readText cX10_readText 4 (some .boolean) (zrm 7 160) D cy g [.ref (g 223), .int a1] σ P := by
  unfold w_X10_readText at h
  refine zm_b RX10 rfl (by decide +kernel) (Nat.le_of_ble_eq_true rfl) ?_
  intro p e s m below meth c C hr
  refine zx_lv (lv' := [(0, .ref (g 223)), (1, .int a1)]) [0, 1] rfl ?_
  refine zx_iconst (v := (0 : Int32)) C dX10_readText_0 (by decide) ?_
  refine zx_istore_n (lv' := [(2, .int (0 : Int32)), (0, .ref (g 223)), (1, .int a1)]) C dX10_readText_1 (by decide) rfl ?_
  obtain ⟨n, h⟩ := h
  refine zx_lv (lv' := [(0, .ref (g 223)), (1, .int a1), (2, .int (0 : Int32))]) [1, 2, 0] rfl ?_
  exact k_X10_readText_2 C hr (a1)   n (0 : Int32) σ h
def w_X10_store_3 (q_1 : Nat) (m_1 : Nat) (x_2 : Int32) (x_3 : Int32) (P : zSto → Prop)  : Nat → Int32 → zSto → Prop
  | 0, _, _ => False
  | n + 1, x_4, σ => ((x_2 ≤ x_4 → P σ) ∧ (¬ x_2 ≤ x_4 → (vp_in x_4 123 ∧ (vp_in ((x_2 * x_3) + x_4) m_1 ∧ (∀ σ3 : zSto, σ3 = zI σ q_1 (((x_2 * x_3) + x_4)).toNatClampNeg (σ.1 232 (x_4).toNatClampNeg) → (∀ x4 : Int32, x4 = (x_4 + (1 : Int32)) → w_X10_store_3 q_1 m_1 x_2 x_3 P n x4 σ3))))))
def w_X10_store (b1 n1 : Nat) (a2 : Int32) (a3 : Int32) (σ : zSto) (P : zSto → Prop) : Prop := (∃ n : Nat, w_X10_store_3 b1 n1 a2 a3 P  n (0 : Int32) σ)
set_option maxRecDepth 100000 in
set_option maxHeartbeats 4000000 in
theorem k_X10_store_3 {p : Program} {l : Launch} {e : Env} {s : State} {m : MethodId} {args : Array Value} {below : List Frame} {meth : Method} {c : Code} {D : va_G} {cy : Nat → ClassId} {g : Nat → Nat} (C : zC p s m args meth c cX10_store RX10 5 D cy g) (hr : meth.sig.returnType = none) {P : zSto → Prop} (q_1 : Nat) (m_1 : Nat) (x_2 : Int32) (x_3 : Int32) (hq_1 : zsh q_1 = za 0 m_1)   : ∀ (n : Nat) (x_4 : Int32) (σ : zSto), w_X10_store_3 q_1 m_1 x_2 x_3 P n x_4 σ → zX p l e (zrm 0 0) s m args below meth c 0 0 (zQv P below args s D cy g) 5 D cy g 3 [(0, .ref (g 223)), (1, .ref (g q_1)), (2, .int x_2), (3, .int x_3), (4, .int x_4)] [] σ := by
  intro n
  induction n with
  | zero => intro x_4 σ h; exact h.elim
  | succ n ih =>
    intro x_4 σ h
    unfold w_X10_store_3 at h
    refine zx_iload C dX10_store_3 4 rfl ?_
    refine zx_iload_n C dX10_store_5 2 rfl ?_
    refine zx_icmp_ge C 30 dX10_store_6 (by decide) (fun q => ?_) (fun q => ?_)
    · replace h := h.1 q
      exact zx_vret C hr dX10_store_30 h
    · replace h := h.2 q
      refine zx_aload_n C dX10_store_9 1 rfl ?_
      refine zx_iload_n C dX10_store_10 2 rfl ?_
      refine zx_iload_n C dX10_store_11 3 rfl ?_
      refine zx_imul C dX10_store_12 ?_
      refine zx_iload C dX10_store_13 4 rfl ?_
      refine zx_iadd C dX10_store_15 ?_
      refine zx_aload_n C dX10_store_16 0 rfl ?_
      refine zx_getR C zs_223 fg_X10_35 rfl 232 rfl dX10_store_17 ?_
      refine zx_iload C dX10_store_20 4 rfl ?_
      obtain ⟨bd1, h⟩ := h
      refine zx_iald C (x_4).toNatClampNeg zs_232 bd1 rfl dX10_store_22 ?_
      obtain ⟨bd2, h⟩ := h
      refine zx_iast C (((x_2 * x_3) + x_4)).toNatClampNeg hq_1 bd2 rfl dX10_store_23 ?_
      refine zx_sig (fun σ3 eσ3 => ?_)
      replace h := h σ3 eσ3
      obtain ⟨x4, ex4⟩ : ∃ y : Int32, y = (x_4 + (1 : Int32)) := ⟨_, rfl⟩
      replace h := h x4 ex4
      refine zx_iinc (v := x4) (lv' := [(4, .int x4), (0, .ref (g 223)), (1, .ref (g q_1)), (2, .int x_2), (3, .int x_3)]) C dX10_store_24 4 rfl (by rw [ex4]; rfl) (by decide) rfl ?_
      refine zx_goto C 3 dX10_store_27 (by decide) ?_
      refine zx_lv (lv' := [(0, .ref (g 223)), (1, .ref (g q_1)), (2, .int x_2), (3, .int x_3), (4, .int x4)]) [1, 2, 3, 4, 0] rfl ?_
      exact ih x4 σ3 h
set_option maxRecDepth 100000 in
set_option maxHeartbeats 4000000 in
theorem c_X10_store (l : Launch) (D : va_G) (cy : Nat → ClassId) (g : Nat → Nat) (b1 n1 : Nat) (a2 : Int32) (a3 : Int32) (hb1 : zsh b1 = za 0 n1) (σ : zSto) {P : zSto → Prop} (h : w_X10_store b1 n1 a2 a3 σ P) : zMv l yX10_store cX10_store 5 none (zrm 0 0) D cy g [.ref (g 223), .ref (g b1), .int a2, .int a3] σ P := by
  unfold w_X10_store at h
  refine zm_v RX10 rfl (by decide +kernel) (Nat.le_of_ble_eq_true rfl) ?_
  intro p e s m below meth c C hr
  refine zx_lv (lv' := [(0, .ref (g 223)), (1, .ref (g b1)), (2, .int a2), (3, .int a3)]) [0, 1, 2, 3] rfl ?_
  refine zx_iconst (v := (0 : Int32)) C dX10_store_0 (by decide) ?_
  refine zx_istore (lv' := [(4, .int (0 : Int32)), (0, .ref (g 223)), (1, .ref (g b1)), (2, .int a2), (3, .int a3)]) C dX10_store_1 (by decide) rfl ?_
  obtain ⟨n, h⟩ := h
  refine zx_lv (lv' := [(0, .ref (g 223)), (1, .ref (g b1)), (2, .int a2), (3, .int a3), (4, .int (0 : Int32))]) [1, 2, 3, 4, 0] rfl ?_
  exact k_X10_store_3 C hr (b1) (n1) (a2) (a3) hb1  n (0 : Int32) σ h
theorem fp_X10_114 : zFP RX10 114 10 10 .int := ⟨RX10, TX10, 50, tyX10, rfl, lay_X10, by decide, fl_X10_114, tyX10_ok, nmX10, rfl, by decide +kernel⟩
theorem lk_X10_225 : zLV RX10 225 RX10 yX10_is cX10_is 3 (some .boolean) 2 := zLV_of ml_X10_225 im_X10_is se_X10_is ini_X10 cd_X10_is (by decide +kernel)
theorem lk_X10_228 : zLV RX10 228 RX10 yX10_readText cX10_readText 4 (some .boolean) 1 := zLV_of ml_X10_228 im_X10_readText se_X10_readText ini_X10 cd_X10_readText (by decide +kernel)
theorem lk_X10_231 : zLV RX10 231 RX10 yX10_store cX10_store 5 none 3 := zLV_of ml_X10_231 im_X10_store se_X10_store ini_X10 cd_X10_store (by decide +kernel)
def w_X10_text (a1 : Int32) (a2 : Int32) (σ : zSto) (P : Int32 → zSto → Prop) : Prop := (∀ σ1 : zSto, σ1 = zI σ 223 0 (0 : Int32) → (∀ σ2 : zSto, σ2 = zI σ1 223 10 (σ1.1 225 0) → (∀ σ3 : zSto, σ3 = zI σ2 225 0 (0 : Int32) → (∀ σ4 : zSto, σ4 = zI σ3 226 0 (0 : Int32) → (∀ σ5 : zSto, σ5 = zI σ4 227 0 (-1 : Int32) → (w_X10_in a1 (0 : Int32) (2 : Int32) σ5 (fun (r7 : Int32) (σ6 : zSto) => (r7 = 0 ∨ r7 = 1) → ((r7 = 0 → P (-2 : Int32) σ6) ∧ (¬ r7 = 0 → ((¬ a2 = (-1 : Int32) → (w_X10_is a1 a2 σ6 (fun (r9 : Int32) (σ8 : zSto) => (r9 = 0 ∨ r9 = 1) → ((¬ r9 = 0 → (w_X10_readText a1 σ8 (fun (r11 : Int32) (σ10 : zSto) => (r11 = 0 ∨ r11 = 1) → ((¬ r11 = 0 → ((¬ a2 = (-1 : Int32) → (vp_in a1 12 ∧ ((¬ a2 = (-1 : Int32) → (vp_in a1 12 ∧ (∀ σ14 : zSto, σ14 = zI σ10 228 (a1).toNatClampNeg ((σ10.1 228 (a1).toNatClampNeg) + (0 : Int32)) → ((¬ a1 = 0 → ((¬ a1 = (1 : Int32) → (w_X10_store 231 168 (21 : Int32) a2 σ14 (fun (σ15 : zSto) => P a2 σ15))) ∧ (a1 = (1 : Int32) → (w_X10_store 230 264 (33 : Int32) a2 σ14 (fun (σ16 : zSto) => P a2 σ16))))) ∧ (a1 = 0 → (w_X10_store 229 984 (123 : Int32) a2 σ14 (fun (σ17 : zSto) => P a2 σ17))))))) ∧ (a2 = (-1 : Int32) → (vp_in a1 12 ∧ (∀ σ19 : zSto, σ19 = zI σ10 228 (a1).toNatClampNeg ((σ10.1 228 (a1).toNatClampNeg) + (1 : Int32)) → ((¬ a1 = 0 → ((¬ a1 = (1 : Int32) → (w_X10_store 231 168 (21 : Int32) a2 σ19 (fun (σ20 : zSto) => P a2 σ20))) ∧ (a1 = (1 : Int32) → (w_X10_store 230 264 (33 : Int32) a2 σ19 (fun (σ21 : zSto) => P a2 σ21))))) ∧ (a1 = 0 → (w_X10_store 229 984 (123 : Int32) a2 σ19 (fun (σ22 : zSto) => P a2 σ22)))))))))) ∧ (a2 = (-1 : Int32) → (vp_in a1 12 ∧ (∀ x24 : Int32, x24 = (σ10.1 228 (a1).toNatClampNeg) → (vp_in a1 12 ∧ ((¬ a2 = (-1 : Int32) → (vp_in a1 12 ∧ (∀ σ27 : zSto, σ27 = zI σ10 228 (a1).toNatClampNeg ((σ10.1 228 (a1).toNatClampNeg) + (0 : Int32)) → ((¬ a1 = 0 → ((¬ a1 = (1 : Int32) → (w_X10_store 231 168 (21 : Int32) x24 σ27 (fun (σ28 : zSto) => P x24 σ28))) ∧ (a1 = (1 : Int32) → (w_X10_store 230 264 (33 : Int32) x24 σ27 (fun (σ29 : zSto) => P x24 σ29))))) ∧ (a1 = 0 → (w_X10_store 229 984 (123 : Int32) x24 σ27 (fun (σ30 : zSto) => P x24 σ30))))))) ∧ (a2 = (-1 : Int32) → (vp_in a1 12 ∧ (∀ σ32 : zSto, σ32 = zI σ10 228 (a1).toNatClampNeg ((σ10.1 228 (a1).toNatClampNeg) + (1 : Int32)) → ((¬ a1 = 0 → ((¬ a1 = (1 : Int32) → (w_X10_store 231 168 (21 : Int32) x24 σ32 (fun (σ33 : zSto) => P x24 σ33))) ∧ (a1 = (1 : Int32) → (w_X10_store 230 264 (33 : Int32) x24 σ32 (fun (σ34 : zSto) => P x24 σ34))))) ∧ (a1 = 0 → (w_X10_store 229 984 (123 : Int32) x24 σ32 (fun (σ35 : zSto) => P x24 σ35)))))))))))))) ∧ (r11 = 0 → P (-1 : Int32) σ10))))) ∧ (r9 = 0 → P (-2 : Int32) σ8))))) ∧ (a2 = (-1 : Int32) → (vp_in a1 12 ∧ ((¬ (σ6.1 228 (a1).toNatClampNeg) = (2 : Int32) → (w_X10_readText a1 σ6 (fun (r38 : Int32) (σ37 : zSto) => (r38 = 0 ∨ r38 = 1) → ((¬ r38 = 0 → ((¬ a2 = (-1 : Int32) → (vp_in a1 12 ∧ ((¬ a2 = (-1 : Int32) → (vp_in a1 12 ∧ (∀ σ41 : zSto, σ41 = zI σ37 228 (a1).toNatClampNeg ((σ37.1 228 (a1).toNatClampNeg) + (0 : Int32)) → ((¬ a1 = 0 → ((¬ a1 = (1 : Int32) → (w_X10_store 231 168 (21 : Int32) a2 σ41 (fun (σ42 : zSto) => P a2 σ42))) ∧ (a1 = (1 : Int32) → (w_X10_store 230 264 (33 : Int32) a2 σ41 (fun (σ43 : zSto) => P a2 σ43))))) ∧ (a1 = 0 → (w_X10_store 229 984 (123 : Int32) a2 σ41 (fun (σ44 : zSto) => P a2 σ44))))))) ∧ (a2 = (-1 : Int32) → (vp_in a1 12 ∧ (∀ σ46 : zSto, σ46 = zI σ37 228 (a1).toNatClampNeg ((σ37.1 228 (a1).toNatClampNeg) + (1 : Int32)) → ((¬ a1 = 0 → ((¬ a1 = (1 : Int32) → (w_X10_store 231 168 (21 : Int32) a2 σ46 (fun (σ47 : zSto) => P a2 σ47))) ∧ (a1 = (1 : Int32) → (w_X10_store 230 264 (33 : Int32) a2 σ46 (fun (σ48 : zSto) => P a2 σ48))))) ∧ (a1 = 0 → (w_X10_store 229 984 (123 : Int32) a2 σ46 (fun (σ49 : zSto) => P a2 σ49)))))))))) ∧ (a2 = (-1 : Int32) → (vp_in a1 12 ∧ (∀ x51 : Int32, x51 = (σ37.1 228 (a1).toNatClampNeg) → (vp_in a1 12 ∧ ((¬ a2 = (-1 : Int32) → (vp_in a1 12 ∧ (∀ σ54 : zSto, σ54 = zI σ37 228 (a1).toNatClampNeg ((σ37.1 228 (a1).toNatClampNeg) + (0 : Int32)) → ((¬ a1 = 0 → ((¬ a1 = (1 : Int32) → (w_X10_store 231 168 (21 : Int32) x51 σ54 (fun (σ55 : zSto) => P x51 σ55))) ∧ (a1 = (1 : Int32) → (w_X10_store 230 264 (33 : Int32) x51 σ54 (fun (σ56 : zSto) => P x51 σ56))))) ∧ (a1 = 0 → (w_X10_store 229 984 (123 : Int32) x51 σ54 (fun (σ57 : zSto) => P x51 σ57))))))) ∧ (a2 = (-1 : Int32) → (vp_in a1 12 ∧ (∀ σ59 : zSto, σ59 = zI σ37 228 (a1).toNatClampNeg ((σ37.1 228 (a1).toNatClampNeg) + (1 : Int32)) → ((¬ a1 = 0 → ((¬ a1 = (1 : Int32) → (w_X10_store 231 168 (21 : Int32) x51 σ59 (fun (σ60 : zSto) => P x51 σ60))) ∧ (a1 = (1 : Int32) → (w_X10_store 230 264 (33 : Int32) x51 σ59 (fun (σ61 : zSto) => P x51 σ61))))) ∧ (a1 = 0 → (w_X10_store 229 984 (123 : Int32) x51 σ59 (fun (σ62 : zSto) => P x51 σ62)))))))))))))) ∧ (r38 = 0 → P (-1 : Int32) σ37))))) ∧ ((σ6.1 228 (a1).toNatClampNeg) = (2 : Int32) → P (-2 : Int32) σ6))))))))))))))
set_option maxRecDepth 100000 in
set_option maxHeartbeats 4000000 in
theorem c_X10_text (l : Launch) (D : va_G) (cy : Nat → ClassId) (g : Nat → Nat) (a1 : Int32) (a2 : Int32)  (σ : zSto) {P : Int32 → zSto → Prop} (h : w_X10_text a1 a2 σ P) : zMi l yX10_text cX10_text 4 (some .int) (zrm 8 183) D cy g [.ref (g 223), .int a1, .int a2] σ P := by
  unfold w_X10_text at h
  refine zm_i RX10 rfl (by decide +kernel) (Nat.le_of_ble_eq_true rfl) ?_
  intro p e s m below meth c C hr
  refine zx_lv (lv' := [(0, .ref (g 223)), (1, .int a1), (2, .int a2)]) [0, 1, 2] rfl ?_
  refine zx_aload_n C dX10_text_0 0 rfl ?_
  refine zx_iconst (v := (0 : Int32)) C dX10_text_1 (by decide) ?_
  refine zx_putI C zs_223 fp_X10_91 rfl dX10_text_2 ?_
  refine zx_sig (fun σ1 eσ1 => ?_)
  replace h := h σ1 eσ1
  refine zx_aload_n C dX10_text_5 0 rfl ?_
  refine zx_aload_n C dX10_text_6 0 rfl ?_
  refine zx_getR C zs_223 fg_X10_13 rfl 225 rfl dX10_text_7 ?_
  refine zx_iconst (v := (0 : Int32)) C dX10_text_10 (by decide) ?_
  refine zx_iald C 0 zs_225 (by unfold vp_in; decide) (by decide) dX10_text_11 ?_
  refine zx_putI C zs_223 fp_X10_114 rfl dX10_text_12 ?_
  refine zx_sig (fun σ2 eσ2 => ?_)
  replace h := h σ2 eσ2
  refine zx_aload_n C dX10_text_15 0 rfl ?_
  refine zx_getR C zs_223 fg_X10_13 rfl 225 rfl dX10_text_16 ?_
  refine zx_iconst (v := (0 : Int32)) C dX10_text_19 (by decide) ?_
  refine zx_iconst (v := (0 : Int32)) C dX10_text_20 (by decide) ?_
  refine zx_iast C 0 zs_225 (by unfold vp_in; decide) (by decide) dX10_text_21 ?_
  refine zx_sig (fun σ3 eσ3 => ?_)
  replace h := h σ3 eσ3
  refine zx_aload_n C dX10_text_22 0 rfl ?_
  refine zx_getR C zs_223 fg_X10_17 rfl 226 rfl dX10_text_23 ?_
  refine zx_iconst (v := (0 : Int32)) C dX10_text_26 (by decide) ?_
  refine zx_iconst (v := (0 : Int32)) C dX10_text_27 (by decide) ?_
  refine zx_iast C 0 zs_226 (by unfold vp_in; decide) (by decide) dX10_text_28 ?_
  refine zx_sig (fun σ4 eσ4 => ?_)
  replace h := h σ4 eσ4
  refine zx_aload_n C dX10_text_29 0 rfl ?_
  refine zx_getR C zs_223 fg_X10_20 rfl 227 rfl dX10_text_30 ?_
  refine zx_iconst (v := (0 : Int32)) C dX10_text_33 (by decide) ?_
  refine zx_iconst (v := (-1 : Int32)) C dX10_text_34 (by decide) ?_
  refine zx_iast C 0 zs_227 (by unfold vp_in; decide) (by decide) dX10_text_35 ?_
  refine zx_sig (fun σ5 eσ5 => ?_)
  replace h := h σ5 eσ5
  refine zx_iload_n C dX10_text_36 1 rfl ?_
  refine zx_iconst (v := (0 : Int32)) C dX10_text_37 (by decide) ?_
  refine zx_iconst (v := (2 : Int32)) C dX10_text_38 (by decide) ?_
  refine zx_cSb C [.int a1, .int (0 : Int32), .int (2 : Int32)] lk_X10_103 (c_X10_in l D cy g a1 (0 : Int32) (2 : Int32)  σ5 h) ⟨by decide, by decide⟩ ⟨rfl, rfl⟩ ⟨Nat.zero_le _, Nat.zero_le _⟩ rfl rfl (Nat.le_of_ble_eq_true rfl) dX10_text_39 (fun r7 σ6 hb h => ?_)
  replace h := h hb
  refine zx_if_eq C 72 dX10_text_42 (by decide) (fun q => ?_) (fun q => ?_)
  · replace h := h.1 q
    refine zx_bipush (v := (-2 : Int32)) C dX10_text_72 (by decide) ?_
    exact zx_iret C hr dX10_text_74 h
  · replace h := h.2 q
    refine zx_iload_n C dX10_text_45 2 rfl ?_
    refine zx_iconst (v := (-1 : Int32)) C dX10_text_46 (by decide) ?_
    refine zx_icmp_ne C 63 dX10_text_47 (by decide) (fun q => ?_) (fun q => ?_)
    · replace h := h.1 q
      refine zx_aload_n C dX10_text_63 0 rfl ?_
      refine zx_iload_n C dX10_text_64 1 rfl ?_
      refine zx_iload_n C dX10_text_65 2 rfl ?_
      refine zx_cVb C [.int a1, .int a2] lk_X10_225 (c_X10_is l D cy g a1 a2  σ6 h) zs_223 rfl ⟨by decide, by decide⟩ ⟨rfl, rfl⟩ ⟨Nat.zero_le _, Nat.zero_le _⟩ rfl rfl (Nat.le_of_ble_eq_true rfl) dX10_text_66 (fun r9 σ8 hb h => ?_)
      replace h := h hb
      refine zx_if_ne C 75 dX10_text_69 (by decide) (fun q => ?_) (fun q => ?_)
      · replace h := h.1 q
        refine zx_aload_n C dX10_text_75 0 rfl ?_
        refine zx_iload_n C dX10_text_76 1 rfl ?_
        refine zx_cVb C [.int a1] lk_X10_228 (c_X10_readText l D cy g a1  σ8 h) zs_223 rfl ⟨by decide, by decide⟩ ⟨rfl, rfl⟩ ⟨Nat.zero_le _, Nat.zero_le _⟩ rfl rfl (Nat.le_of_ble_eq_true rfl) dX10_text_77 (fun r11 σ10 hb h => ?_)
        replace h := h hb
        refine zx_if_ne C 85 dX10_text_80 (by decide) (fun q => ?_) (fun q => ?_)
        · replace h := h.1 q
          refine zx_iload_n C dX10_text_85 2 rfl ?_
          refine zx_iconst (v := (-1 : Int32)) C dX10_text_86 (by decide) ?_
          refine zx_icmp_ne C 99 dX10_text_87 (by decide) (fun q => ?_) (fun q => ?_)
          · replace h := h.1 q
            refine zx_iload_n C dX10_text_99 2 rfl ?_
            refine zx_istore_n (lv' := [(3, .int a2), (0, .ref (g 223)), (1, .int a1), (2, .int a2)]) C dX10_text_100 (by decide) rfl ?_
            refine zx_aload_n C dX10_text_101 1 rfl ?_
            refine zx_getR C zs_223 fg_X10_23 rfl 228 rfl dX10_text_102 ?_
            refine zx_iload_n C dX10_text_105 2 rfl ?_
            refine zx_dup2 C dX10_text_106 rfl rfl ?_
            obtain ⟨bd12, h⟩ := h
            refine zx_iald C (a1).toNatClampNeg zs_228 bd12 rfl dX10_text_107 ?_
            refine zx_iload_n C dX10_text_108 3 rfl ?_
            refine zx_iconst (v := (-1 : Int32)) C dX10_text_109 (by decide) ?_
            refine zx_icmp_ne C 117 dX10_text_110 (by decide) (fun q => ?_) (fun q => ?_)
            · replace h := h.1 q
              refine zx_iconst (v := (0 : Int32)) C dX10_text_117 (by decide) ?_
              refine zx_iadd C dX10_text_118 ?_
              obtain ⟨bd13, h⟩ := h
              refine zx_iast C (a1).toNatClampNeg zs_228 bd13 rfl dX10_text_119 ?_
              refine zx_sig (fun σ14 eσ14 => ?_)
              replace h := h σ14 eσ14
              refine zx_iload_n C dX10_text_120 2 rfl ?_
              refine zx_if_ne C 138 dX10_text_121 (by decide) (fun q => ?_) (fun q => ?_)
              · replace h := h.1 q
                refine zx_iload_n C dX10_text_138 2 rfl ?_
                refine zx_iconst (v := (1 : Int32)) C dX10_text_139 (by decide) ?_
                refine zx_icmp_ne C 157 dX10_text_140 (by decide) (fun q => ?_) (fun q => ?_)
                · replace h := h.1 q
                  refine zx_aload_n C dX10_text_157 1 rfl ?_
                  refine zx_aload_n C dX10_text_158 1 rfl ?_
                  refine zx_getR C zs_223 fg_X10_32 rfl 231 rfl dX10_text_159 ?_
                  refine zx_bipush (v := (21 : Int32)) C dX10_text_162 (by decide) ?_
                  refine zx_iload_n C dX10_text_164 0 rfl ?_
                  refine zx_cVv C [.ref (g 231), .int (21 : Int32), .int a2] lk_X10_231 (c_X10_store l D cy g 231 168 (21 : Int32) a2 zs_231 σ14 h) zs_223 rfl ⟨by decide, by decide⟩ ⟨rfl, rfl⟩ ⟨Nat.zero_le _, Nat.zero_le _⟩ rfl rfl (Nat.le_of_ble_eq_true rfl) dX10_text_165 (fun σ15 h => ?_)
                  refine zx_iload_n C dX10_text_168 0 rfl ?_
                  exact zx_iret C hr dX10_text_169 h
                · replace h := h.2 q
                  refine zx_aload_n C dX10_text_143 1 rfl ?_
                  refine zx_aload_n C dX10_text_144 1 rfl ?_
                  refine zx_getR C zs_223 fg_X10_29 rfl 230 rfl dX10_text_145 ?_
                  refine zx_bipush (v := (33 : Int32)) C dX10_text_148 (by decide) ?_
                  refine zx_iload_n C dX10_text_150 0 rfl ?_
                  refine zx_cVv C [.ref (g 230), .int (33 : Int32), .int a2] lk_X10_231 (c_X10_store l D cy g 230 264 (33 : Int32) a2 zs_230 σ14 h) zs_223 rfl ⟨by decide, by decide⟩ ⟨rfl, rfl⟩ ⟨Nat.zero_le _, Nat.zero_le _⟩ rfl rfl (Nat.le_of_ble_eq_true rfl) dX10_text_151 (fun σ16 h => ?_)
                  refine zx_goto C 168 dX10_text_154 (by decide) ?_
                  refine zx_iload_n C dX10_text_168 0 rfl ?_
                  exact zx_iret C hr dX10_text_169 h
              · replace h := h.2 q
                refine zx_aload_n C dX10_text_124 1 rfl ?_
                refine zx_aload_n C dX10_text_125 1 rfl ?_
                refine zx_getR C zs_223 fg_X10_26 rfl 229 rfl dX10_text_126 ?_
                refine zx_bipush (v := (123 : Int32)) C dX10_text_129 (by decide) ?_
                refine zx_iload_n C dX10_text_131 0 rfl ?_
                refine zx_cVv C [.ref (g 229), .int (123 : Int32), .int a2] lk_X10_231 (c_X10_store l D cy g 229 984 (123 : Int32) a2 zs_229 σ14 h) zs_223 rfl ⟨by decide, by decide⟩ ⟨rfl, rfl⟩ ⟨Nat.zero_le _, Nat.zero_le _⟩ rfl rfl (Nat.le_of_ble_eq_true rfl) dX10_text_132 (fun σ17 h => ?_)
                refine zx_goto C 168 dX10_text_135 (by decide) ?_
                refine zx_iload_n C dX10_text_168 0 rfl ?_
                exact zx_iret C hr dX10_text_169 h
            · replace h := h.2 q
              refine zx_iconst (v := (1 : Int32)) C dX10_text_113 (by decide) ?_
              refine zx_goto C 118 dX10_text_114 (by decide) ?_
              refine zx_iadd C dX10_text_118 ?_
              obtain ⟨bd18, h⟩ := h
              refine zx_iast C (a1).toNatClampNeg zs_228 bd18 rfl dX10_text_119 ?_
              refine zx_sig (fun σ19 eσ19 => ?_)
              replace h := h σ19 eσ19
              refine zx_iload_n C dX10_text_120 2 rfl ?_
              refine zx_if_ne C 138 dX10_text_121 (by decide) (fun q => ?_) (fun q => ?_)
              · replace h := h.1 q
                refine zx_iload_n C dX10_text_138 2 rfl ?_
                refine zx_iconst (v := (1 : Int32)) C dX10_text_139 (by decide) ?_
                refine zx_icmp_ne C 157 dX10_text_140 (by decide) (fun q => ?_) (fun q => ?_)
                · replace h := h.1 q
                  refine zx_aload_n C dX10_text_157 1 rfl ?_
                  refine zx_aload_n C dX10_text_158 1 rfl ?_
                  refine zx_getR C zs_223 fg_X10_32 rfl 231 rfl dX10_text_159 ?_
                  refine zx_bipush (v := (21 : Int32)) C dX10_text_162 (by decide) ?_
                  refine zx_iload_n C dX10_text_164 0 rfl ?_
                  refine zx_cVv C [.ref (g 231), .int (21 : Int32), .int a2] lk_X10_231 (c_X10_store l D cy g 231 168 (21 : Int32) a2 zs_231 σ19 h) zs_223 rfl ⟨by decide, by decide⟩ ⟨rfl, rfl⟩ ⟨Nat.zero_le _, Nat.zero_le _⟩ rfl rfl (Nat.le_of_ble_eq_true rfl) dX10_text_165 (fun σ20 h => ?_)
                  refine zx_iload_n C dX10_text_168 0 rfl ?_
                  exact zx_iret C hr dX10_text_169 h
                · replace h := h.2 q
                  refine zx_aload_n C dX10_text_143 1 rfl ?_
                  refine zx_aload_n C dX10_text_144 1 rfl ?_
                  refine zx_getR C zs_223 fg_X10_29 rfl 230 rfl dX10_text_145 ?_
                  refine zx_bipush (v := (33 : Int32)) C dX10_text_148 (by decide) ?_
                  refine zx_iload_n C dX10_text_150 0 rfl ?_
                  refine zx_cVv C [.ref (g 230), .int (33 : Int32), .int a2] lk_X10_231 (c_X10_store l D cy g 230 264 (33 : Int32) a2 zs_230 σ19 h) zs_223 rfl ⟨by decide, by decide⟩ ⟨rfl, rfl⟩ ⟨Nat.zero_le _, Nat.zero_le _⟩ rfl rfl (Nat.le_of_ble_eq_true rfl) dX10_text_151 (fun σ21 h => ?_)
                  refine zx_goto C 168 dX10_text_154 (by decide) ?_
                  refine zx_iload_n C dX10_text_168 0 rfl ?_
                  exact zx_iret C hr dX10_text_169 h
              · replace h := h.2 q
                refine zx_aload_n C dX10_text_124 1 rfl ?_
                refine zx_aload_n C dX10_text_125 1 rfl ?_
                refine zx_getR C zs_223 fg_X10_26 rfl 229 rfl dX10_text_126 ?_
                refine zx_bipush (v := (123 : Int32)) C dX10_text_129 (by decide) ?_
                refine zx_iload_n C dX10_text_131 0 rfl ?_
                refine zx_cVv C [.ref (g 229), .int (123 : Int32), .int a2] lk_X10_231 (c_X10_store l D cy g 229 984 (123 : Int32) a2 zs_229 σ19 h) zs_223 rfl ⟨by decide, by decide⟩ ⟨rfl, rfl⟩ ⟨Nat.zero_le _, Nat.zero_le _⟩ rfl rfl (Nat.le_of_ble_eq_true rfl) dX10_text_132 (fun σ22 h => ?_)
                refine zx_goto C 168 dX10_text_135 (by decide) ?_
                refine zx_iload_n C dX10_text_168 0 rfl ?_
                exact zx_iret C hr dX10_text_169 h
          · replace h := h.2 q
            refine zx_aload_n C dX10_text_90 0 rfl ?_
            refine zx_getR C zs_223 fg_X10_23 rfl 228 rfl dX10_text_91 ?_
            refine zx_iload_n C dX10_text_94 1 rfl ?_
            obtain ⟨bd23, h⟩ := h
            refine zx_iald C (a1).toNatClampNeg zs_228 bd23 rfl dX10_text_95 ?_
            refine zx_goto C 100 dX10_text_96 (by decide) ?_
            refine zx_topi (fun x24 ex24 => ?_)
            replace h := h x24 ex24
            refine zx_istore_n (lv' := [(3, .int x24), (0, .ref (g 223)), (1, .int a1), (2, .int a2)]) C dX10_text_100 (by decide) rfl ?_
            refine zx_aload_n C dX10_text_101 1 rfl ?_
            refine zx_getR C zs_223 fg_X10_23 rfl 228 rfl dX10_text_102 ?_
            refine zx_iload_n C dX10_text_105 2 rfl ?_
            refine zx_dup2 C dX10_text_106 rfl rfl ?_
            obtain ⟨bd25, h⟩ := h
            refine zx_iald C (a1).toNatClampNeg zs_228 bd25 rfl dX10_text_107 ?_
            refine zx_iload_n C dX10_text_108 3 rfl ?_
            refine zx_iconst (v := (-1 : Int32)) C dX10_text_109 (by decide) ?_
            refine zx_icmp_ne C 117 dX10_text_110 (by decide) (fun q => ?_) (fun q => ?_)
            · replace h := h.1 q
              refine zx_iconst (v := (0 : Int32)) C dX10_text_117 (by decide) ?_
              refine zx_iadd C dX10_text_118 ?_
              obtain ⟨bd26, h⟩ := h
              refine zx_iast C (a1).toNatClampNeg zs_228 bd26 rfl dX10_text_119 ?_
              refine zx_sig (fun σ27 eσ27 => ?_)
              replace h := h σ27 eσ27
              refine zx_iload_n C dX10_text_120 2 rfl ?_
              refine zx_if_ne C 138 dX10_text_121 (by decide) (fun q => ?_) (fun q => ?_)
              · replace h := h.1 q
                refine zx_iload_n C dX10_text_138 2 rfl ?_
                refine zx_iconst (v := (1 : Int32)) C dX10_text_139 (by decide) ?_
                refine zx_icmp_ne C 157 dX10_text_140 (by decide) (fun q => ?_) (fun q => ?_)
                · replace h := h.1 q
                  refine zx_aload_n C dX10_text_157 1 rfl ?_
                  refine zx_aload_n C dX10_text_158 1 rfl ?_
                  refine zx_getR C zs_223 fg_X10_32 rfl 231 rfl dX10_text_159 ?_
                  refine zx_bipush (v := (21 : Int32)) C dX10_text_162 (by decide) ?_
                  refine zx_iload_n C dX10_text_164 0 rfl ?_
                  refine zx_cVv C [.ref (g 231), .int (21 : Int32), .int x24] lk_X10_231 (c_X10_store l D cy g 231 168 (21 : Int32) x24 zs_231 σ27 h) zs_223 rfl ⟨by decide, by decide⟩ ⟨rfl, rfl⟩ ⟨Nat.zero_le _, Nat.zero_le _⟩ rfl rfl (Nat.le_of_ble_eq_true rfl) dX10_text_165 (fun σ28 h => ?_)
                  refine zx_iload_n C dX10_text_168 0 rfl ?_
                  exact zx_iret C hr dX10_text_169 h
                · replace h := h.2 q
                  refine zx_aload_n C dX10_text_143 1 rfl ?_
                  refine zx_aload_n C dX10_text_144 1 rfl ?_
                  refine zx_getR C zs_223 fg_X10_29 rfl 230 rfl dX10_text_145 ?_
                  refine zx_bipush (v := (33 : Int32)) C dX10_text_148 (by decide) ?_
                  refine zx_iload_n C dX10_text_150 0 rfl ?_
                  refine zx_cVv C [.ref (g 230), .int (33 : Int32), .int x24] lk_X10_231 (c_X10_store l D cy g 230 264 (33 : Int32) x24 zs_230 σ27 h) zs_223 rfl ⟨by decide, by decide⟩ ⟨rfl, rfl⟩ ⟨Nat.zero_le _, Nat.zero_le _⟩ rfl rfl (Nat.le_of_ble_eq_true rfl) dX10_text_151 (fun σ29 h => ?_)
                  refine zx_goto C 168 dX10_text_154 (by decide) ?_
                  refine zx_iload_n C dX10_text_168 0 rfl ?_
                  exact zx_iret C hr dX10_text_169 h
              · replace h := h.2 q
                refine zx_aload_n C dX10_text_124 1 rfl ?_
                refine zx_aload_n C dX10_text_125 1 rfl ?_
                refine zx_getR C zs_223 fg_X10_26 rfl 229 rfl dX10_text_126 ?_
                refine zx_bipush (v := (123 : Int32)) C dX10_text_129 (by decide) ?_
                refine zx_iload_n C dX10_text_131 0 rfl ?_
                refine zx_cVv C [.ref (g 229), .int (123 : Int32), .int x24] lk_X10_231 (c_X10_store l D cy g 229 984 (123 : Int32) x24 zs_229 σ27 h) zs_223 rfl ⟨by decide, by decide⟩ ⟨rfl, rfl⟩ ⟨Nat.zero_le _, Nat.zero_le _⟩ rfl rfl (Nat.le_of_ble_eq_true rfl) dX10_text_132 (fun σ30 h => ?_)
                refine zx_goto C 168 dX10_text_135 (by decide) ?_
                refine zx_iload_n C dX10_text_168 0 rfl ?_
                exact zx_iret C hr dX10_text_169 h
            · replace h := h.2 q
              refine zx_iconst (v := (1 : Int32)) C dX10_text_113 (by decide) ?_
              refine zx_goto C 118 dX10_text_114 (by decide) ?_
              refine zx_iadd C dX10_text_118 ?_
              obtain ⟨bd31, h⟩ := h
              refine zx_iast C (a1).toNatClampNeg zs_228 bd31 rfl dX10_text_119 ?_
              refine zx_sig (fun σ32 eσ32 => ?_)
              replace h := h σ32 eσ32
              refine zx_iload_n C dX10_text_120 2 rfl ?_
              refine zx_if_ne C 138 dX10_text_121 (by decide) (fun q => ?_) (fun q => ?_)
              · replace h := h.1 q
                refine zx_iload_n C dX10_text_138 2 rfl ?_
                refine zx_iconst (v := (1 : Int32)) C dX10_text_139 (by decide) ?_
                refine zx_icmp_ne C 157 dX10_text_140 (by decide) (fun q => ?_) (fun q => ?_)
                · replace h := h.1 q
                  refine zx_aload_n C dX10_text_157 1 rfl ?_
                  refine zx_aload_n C dX10_text_158 1 rfl ?_
                  refine zx_getR C zs_223 fg_X10_32 rfl 231 rfl dX10_text_159 ?_
                  refine zx_bipush (v := (21 : Int32)) C dX10_text_162 (by decide) ?_
                  refine zx_iload_n C dX10_text_164 0 rfl ?_
                  refine zx_cVv C [.ref (g 231), .int (21 : Int32), .int x24] lk_X10_231 (c_X10_store l D cy g 231 168 (21 : Int32) x24 zs_231 σ32 h) zs_223 rfl ⟨by decide, by decide⟩ ⟨rfl, rfl⟩ ⟨Nat.zero_le _, Nat.zero_le _⟩ rfl rfl (Nat.le_of_ble_eq_true rfl) dX10_text_165 (fun σ33 h => ?_)
                  refine zx_iload_n C dX10_text_168 0 rfl ?_
                  exact zx_iret C hr dX10_text_169 h
                · replace h := h.2 q
                  refine zx_aload_n C dX10_text_143 1 rfl ?_
                  refine zx_aload_n C dX10_text_144 1 rfl ?_
                  refine zx_getR C zs_223 fg_X10_29 rfl 230 rfl dX10_text_145 ?_
                  refine zx_bipush (v := (33 : Int32)) C dX10_text_148 (by decide) ?_
                  refine zx_iload_n C dX10_text_150 0 rfl ?_
                  refine zx_cVv C [.ref (g 230), .int (33 : Int32), .int x24] lk_X10_231 (c_X10_store l D cy g 230 264 (33 : Int32) x24 zs_230 σ32 h) zs_223 rfl ⟨by decide, by decide⟩ ⟨rfl, rfl⟩ ⟨Nat.zero_le _, Nat.zero_le _⟩ rfl rfl (Nat.le_of_ble_eq_true rfl) dX10_text_151 (fun σ34 h => ?_)
                  refine zx_goto C 168 dX10_text_154 (by decide) ?_
                  refine zx_iload_n C dX10_text_168 0 rfl ?_
                  exact zx_iret C hr dX10_text_169 h
              · replace h := h.2 q
                refine zx_aload_n C dX10_text_124 1 rfl ?_
                refine zx_aload_n C dX10_text_125 1 rfl ?_
                refine zx_getR C zs_223 fg_X10_26 rfl 229 rfl dX10_text_126 ?_
                refine zx_bipush (v := (123 : Int32)) C dX10_text_129 (by decide) ?_
                refine zx_iload_n C dX10_text_131 0 rfl ?_
                refine zx_cVv C [.ref (g 229), .int (123 : Int32), .int x24] lk_X10_231 (c_X10_store l D cy g 229 984 (123 : Int32) x24 zs_229 σ32 h) zs_223 rfl ⟨by decide, by decide⟩ ⟨rfl, rfl⟩ ⟨Nat.zero_le _, Nat.zero_le _⟩ rfl rfl (Nat.le_of_ble_eq_true rfl) dX10_text_132 (fun σ35 h => ?_)
                refine zx_goto C 168 dX10_text_135 (by decide) ?_
                refine zx_iload_n C dX10_text_168 0 rfl ?_
                exact zx_iret C hr dX10_text_169 h
        · replace h := h.2 q
          refine zx_iconst (v := (-1 : Int32)) C dX10_text_83 (by decide) ?_
          exact zx_iret C hr dX10_text_84 h
      · replace h := h.2 q
        refine zx_bipush (v := (-2 : Int32)) C dX10_text_72 (by decide) ?_
        exact zx_iret C hr dX10_text_74 h
    · replace h := h.2 q
      refine zx_aload_n C dX10_text_50 0 rfl ?_
      refine zx_getR C zs_223 fg_X10_23 rfl 228 rfl dX10_text_51 ?_
      refine zx_iload_n C dX10_text_54 1 rfl ?_
      obtain ⟨bd36, h⟩ := h
      refine zx_iald C (a1).toNatClampNeg zs_228 bd36 rfl dX10_text_55 ?_
      refine zx_iconst (v := (2 : Int32)) C dX10_text_56 (by decide) ?_
      refine zx_icmp_ne C 75 dX10_text_57 (by decide) (fun q => ?_) (fun q => ?_)
      · replace h := h.1 q
        refine zx_aload_n C dX10_text_75 0 rfl ?_
        refine zx_iload_n C dX10_text_76 1 rfl ?_
        refine zx_cVb C [.int a1] lk_X10_228 (c_X10_readText l D cy g a1  σ6 h) zs_223 rfl ⟨by decide, by decide⟩ ⟨rfl, rfl⟩ ⟨Nat.zero_le _, Nat.zero_le _⟩ rfl rfl (Nat.le_of_ble_eq_true rfl) dX10_text_77 (fun r38 σ37 hb h => ?_)
        replace h := h hb
        refine zx_if_ne C 85 dX10_text_80 (by decide) (fun q => ?_) (fun q => ?_)
        · replace h := h.1 q
          refine zx_iload_n C dX10_text_85 2 rfl ?_
          refine zx_iconst (v := (-1 : Int32)) C dX10_text_86 (by decide) ?_
          refine zx_icmp_ne C 99 dX10_text_87 (by decide) (fun q => ?_) (fun q => ?_)
          · replace h := h.1 q
            refine zx_iload_n C dX10_text_99 2 rfl ?_
            refine zx_istore_n (lv' := [(3, .int a2), (0, .ref (g 223)), (1, .int a1), (2, .int a2)]) C dX10_text_100 (by decide) rfl ?_
            refine zx_aload_n C dX10_text_101 1 rfl ?_
            refine zx_getR C zs_223 fg_X10_23 rfl 228 rfl dX10_text_102 ?_
            refine zx_iload_n C dX10_text_105 2 rfl ?_
            refine zx_dup2 C dX10_text_106 rfl rfl ?_
            obtain ⟨bd39, h⟩ := h
            refine zx_iald C (a1).toNatClampNeg zs_228 bd39 rfl dX10_text_107 ?_
            refine zx_iload_n C dX10_text_108 3 rfl ?_
            refine zx_iconst (v := (-1 : Int32)) C dX10_text_109 (by decide) ?_
            refine zx_icmp_ne C 117 dX10_text_110 (by decide) (fun q => ?_) (fun q => ?_)
            · replace h := h.1 q
              refine zx_iconst (v := (0 : Int32)) C dX10_text_117 (by decide) ?_
              refine zx_iadd C dX10_text_118 ?_
              obtain ⟨bd40, h⟩ := h
              refine zx_iast C (a1).toNatClampNeg zs_228 bd40 rfl dX10_text_119 ?_
              refine zx_sig (fun σ41 eσ41 => ?_)
              replace h := h σ41 eσ41
              refine zx_iload_n C dX10_text_120 2 rfl ?_
              refine zx_if_ne C 138 dX10_text_121 (by decide) (fun q => ?_) (fun q => ?_)
              · replace h := h.1 q
                refine zx_iload_n C dX10_text_138 2 rfl ?_
                refine zx_iconst (v := (1 : Int32)) C dX10_text_139 (by decide) ?_
                refine zx_icmp_ne C 157 dX10_text_140 (by decide) (fun q => ?_) (fun q => ?_)
                · replace h := h.1 q
                  refine zx_aload_n C dX10_text_157 1 rfl ?_
                  refine zx_aload_n C dX10_text_158 1 rfl ?_
                  refine zx_getR C zs_223 fg_X10_32 rfl 231 rfl dX10_text_159 ?_
                  refine zx_bipush (v := (21 : Int32)) C dX10_text_162 (by decide) ?_
                  refine zx_iload_n C dX10_text_164 0 rfl ?_
                  refine zx_cVv C [.ref (g 231), .int (21 : Int32), .int a2] lk_X10_231 (c_X10_store l D cy g 231 168 (21 : Int32) a2 zs_231 σ41 h) zs_223 rfl ⟨by decide, by decide⟩ ⟨rfl, rfl⟩ ⟨Nat.zero_le _, Nat.zero_le _⟩ rfl rfl (Nat.le_of_ble_eq_true rfl) dX10_text_165 (fun σ42 h => ?_)
                  refine zx_iload_n C dX10_text_168 0 rfl ?_
                  exact zx_iret C hr dX10_text_169 h
                · replace h := h.2 q
                  refine zx_aload_n C dX10_text_143 1 rfl ?_
                  refine zx_aload_n C dX10_text_144 1 rfl ?_
                  refine zx_getR C zs_223 fg_X10_29 rfl 230 rfl dX10_text_145 ?_
                  refine zx_bipush (v := (33 : Int32)) C dX10_text_148 (by decide) ?_
                  refine zx_iload_n C dX10_text_150 0 rfl ?_
                  refine zx_cVv C [.ref (g 230), .int (33 : Int32), .int a2] lk_X10_231 (c_X10_store l D cy g 230 264 (33 : Int32) a2 zs_230 σ41 h) zs_223 rfl ⟨by decide, by decide⟩ ⟨rfl, rfl⟩ ⟨Nat.zero_le _, Nat.zero_le _⟩ rfl rfl (Nat.le_of_ble_eq_true rfl) dX10_text_151 (fun σ43 h => ?_)
                  refine zx_goto C 168 dX10_text_154 (by decide) ?_
                  refine zx_iload_n C dX10_text_168 0 rfl ?_
                  exact zx_iret C hr dX10_text_169 h
              · replace h := h.2 q
                refine zx_aload_n C dX10_text_124 1 rfl ?_
                refine zx_aload_n C dX10_text_125 1 rfl ?_
                refine zx_getR C zs_223 fg_X10_26 rfl 229 rfl dX10_text_126 ?_
                refine zx_bipush (v := (123 : Int32)) C dX10_text_129 (by decide) ?_
                refine zx_iload_n C dX10_text_131 0 rfl ?_
                refine zx_cVv C [.ref (g 229), .int (123 : Int32), .int a2] lk_X10_231 (c_X10_store l D cy g 229 984 (123 : Int32) a2 zs_229 σ41 h) zs_223 rfl ⟨by decide, by decide⟩ ⟨rfl, rfl⟩ ⟨Nat.zero_le _, Nat.zero_le _⟩ rfl rfl (Nat.le_of_ble_eq_true rfl) dX10_text_132 (fun σ44 h => ?_)
                refine zx_goto C 168 dX10_text_135 (by decide) ?_
                refine zx_iload_n C dX10_text_168 0 rfl ?_
                exact zx_iret C hr dX10_text_169 h
            · replace h := h.2 q
              refine zx_iconst (v := (1 : Int32)) C dX10_text_113 (by decide) ?_
              refine zx_goto C 118 dX10_text_114 (by decide) ?_
              refine zx_iadd C dX10_text_118 ?_
              obtain ⟨bd45, h⟩ := h
              refine zx_iast C (a1).toNatClampNeg zs_228 bd45 rfl dX10_text_119 ?_
              refine zx_sig (fun σ46 eσ46 => ?_)
              replace h := h σ46 eσ46
              refine zx_iload_n C dX10_text_120 2 rfl ?_
              refine zx_if_ne C 138 dX10_text_121 (by decide) (fun q => ?_) (fun q => ?_)
              · replace h := h.1 q
                refine zx_iload_n C dX10_text_138 2 rfl ?_
                refine zx_iconst (v := (1 : Int32)) C dX10_text_139 (by decide) ?_
                refine zx_icmp_ne C 157 dX10_text_140 (by decide) (fun q => ?_) (fun q => ?_)
                · replace h := h.1 q
                  refine zx_aload_n C dX10_text_157 1 rfl ?_
                  refine zx_aload_n C dX10_text_158 1 rfl ?_
                  refine zx_getR C zs_223 fg_X10_32 rfl 231 rfl dX10_text_159 ?_
                  refine zx_bipush (v := (21 : Int32)) C dX10_text_162 (by decide) ?_
                  refine zx_iload_n C dX10_text_164 0 rfl ?_
                  refine zx_cVv C [.ref (g 231), .int (21 : Int32), .int a2] lk_X10_231 (c_X10_store l D cy g 231 168 (21 : Int32) a2 zs_231 σ46 h) zs_223 rfl ⟨by decide, by decide⟩ ⟨rfl, rfl⟩ ⟨Nat.zero_le _, Nat.zero_le _⟩ rfl rfl (Nat.le_of_ble_eq_true rfl) dX10_text_165 (fun σ47 h => ?_)
                  refine zx_iload_n C dX10_text_168 0 rfl ?_
                  exact zx_iret C hr dX10_text_169 h
                · replace h := h.2 q
                  refine zx_aload_n C dX10_text_143 1 rfl ?_
                  refine zx_aload_n C dX10_text_144 1 rfl ?_
                  refine zx_getR C zs_223 fg_X10_29 rfl 230 rfl dX10_text_145 ?_
                  refine zx_bipush (v := (33 : Int32)) C dX10_text_148 (by decide) ?_
                  refine zx_iload_n C dX10_text_150 0 rfl ?_
                  refine zx_cVv C [.ref (g 230), .int (33 : Int32), .int a2] lk_X10_231 (c_X10_store l D cy g 230 264 (33 : Int32) a2 zs_230 σ46 h) zs_223 rfl ⟨by decide, by decide⟩ ⟨rfl, rfl⟩ ⟨Nat.zero_le _, Nat.zero_le _⟩ rfl rfl (Nat.le_of_ble_eq_true rfl) dX10_text_151 (fun σ48 h => ?_)
                  refine zx_goto C 168 dX10_text_154 (by decide) ?_
                  refine zx_iload_n C dX10_text_168 0 rfl ?_
                  exact zx_iret C hr dX10_text_169 h
              · replace h := h.2 q
                refine zx_aload_n C dX10_text_124 1 rfl ?_
                refine zx_aload_n C dX10_text_125 1 rfl ?_
                refine zx_getR C zs_223 fg_X10_26 rfl 229 rfl dX10_text_126 ?_
                refine zx_bipush (v := (123 : Int32)) C dX10_text_129 (by decide) ?_
                refine zx_iload_n C dX10_text_131 0 rfl ?_
                refine zx_cVv C [.ref (g 229), .int (123 : Int32), .int a2] lk_X10_231 (c_X10_store l D cy g 229 984 (123 : Int32) a2 zs_229 σ46 h) zs_223 rfl ⟨by decide, by decide⟩ ⟨rfl, rfl⟩ ⟨Nat.zero_le _, Nat.zero_le _⟩ rfl rfl (Nat.le_of_ble_eq_true rfl) dX10_text_132 (fun σ49 h => ?_)
                refine zx_goto C 168 dX10_text_135 (by decide) ?_
                refine zx_iload_n C dX10_text_168 0 rfl ?_
                exact zx_iret C hr dX10_text_169 h
          · replace h := h.2 q
            refine zx_aload_n C dX10_text_90 0 rfl ?_
            refine zx_getR C zs_223 fg_X10_23 rfl 228 rfl dX10_text_91 ?_
            refine zx_iload_n C dX10_text_94 1 rfl ?_
            obtain ⟨bd50, h⟩ := h
            refine zx_iald C (a1).toNatClampNeg zs_228 bd50 rfl dX10_text_95 ?_
            refine zx_goto C 100 dX10_text_96 (by decide) ?_
            refine zx_topi (fun x51 ex51 => ?_)
            replace h := h x51 ex51
            refine zx_istore_n (lv' := [(3, .int x51), (0, .ref (g 223)), (1, .int a1), (2, .int a2)]) C dX10_text_100 (by decide) rfl ?_
            refine zx_aload_n C dX10_text_101 1 rfl ?_
            refine zx_getR C zs_223 fg_X10_23 rfl 228 rfl dX10_text_102 ?_
            refine zx_iload_n C dX10_text_105 2 rfl ?_
            refine zx_dup2 C dX10_text_106 rfl rfl ?_
            obtain ⟨bd52, h⟩ := h
            refine zx_iald C (a1).toNatClampNeg zs_228 bd52 rfl dX10_text_107 ?_
            refine zx_iload_n C dX10_text_108 3 rfl ?_
            refine zx_iconst (v := (-1 : Int32)) C dX10_text_109 (by decide) ?_
            refine zx_icmp_ne C 117 dX10_text_110 (by decide) (fun q => ?_) (fun q => ?_)
            · replace h := h.1 q
              refine zx_iconst (v := (0 : Int32)) C dX10_text_117 (by decide) ?_
              refine zx_iadd C dX10_text_118 ?_
              obtain ⟨bd53, h⟩ := h
              refine zx_iast C (a1).toNatClampNeg zs_228 bd53 rfl dX10_text_119 ?_
              refine zx_sig (fun σ54 eσ54 => ?_)
              replace h := h σ54 eσ54
              refine zx_iload_n C dX10_text_120 2 rfl ?_
              refine zx_if_ne C 138 dX10_text_121 (by decide) (fun q => ?_) (fun q => ?_)
              · replace h := h.1 q
                refine zx_iload_n C dX10_text_138 2 rfl ?_
                refine zx_iconst (v := (1 : Int32)) C dX10_text_139 (by decide) ?_
                refine zx_icmp_ne C 157 dX10_text_140 (by decide) (fun q => ?_) (fun q => ?_)
                · replace h := h.1 q
                  refine zx_aload_n C dX10_text_157 1 rfl ?_
                  refine zx_aload_n C dX10_text_158 1 rfl ?_
                  refine zx_getR C zs_223 fg_X10_32 rfl 231 rfl dX10_text_159 ?_
                  refine zx_bipush (v := (21 : Int32)) C dX10_text_162 (by decide) ?_
                  refine zx_iload_n C dX10_text_164 0 rfl ?_
                  refine zx_cVv C [.ref (g 231), .int (21 : Int32), .int x51] lk_X10_231 (c_X10_store l D cy g 231 168 (21 : Int32) x51 zs_231 σ54 h) zs_223 rfl ⟨by decide, by decide⟩ ⟨rfl, rfl⟩ ⟨Nat.zero_le _, Nat.zero_le _⟩ rfl rfl (Nat.le_of_ble_eq_true rfl) dX10_text_165 (fun σ55 h => ?_)
                  refine zx_iload_n C dX10_text_168 0 rfl ?_
                  exact zx_iret C hr dX10_text_169 h
                · replace h := h.2 q
                  refine zx_aload_n C dX10_text_143 1 rfl ?_
                  refine zx_aload_n C dX10_text_144 1 rfl ?_
                  refine zx_getR C zs_223 fg_X10_29 rfl 230 rfl dX10_text_145 ?_
                  refine zx_bipush (v := (33 : Int32)) C dX10_text_148 (by decide) ?_
                  refine zx_iload_n C dX10_text_150 0 rfl ?_
                  refine zx_cVv C [.ref (g 230), .int (33 : Int32), .int x51] lk_X10_231 (c_X10_store l D cy g 230 264 (33 : Int32) x51 zs_230 σ54 h) zs_223 rfl ⟨by decide, by decide⟩ ⟨rfl, rfl⟩ ⟨Nat.zero_le _, Nat.zero_le _⟩ rfl rfl (Nat.le_of_ble_eq_true rfl) dX10_text_151 (fun σ56 h => ?_)
                  refine zx_goto C 168 dX10_text_154 (by decide) ?_
                  refine zx_iload_n C dX10_text_168 0 rfl ?_
                  exact zx_iret C hr dX10_text_169 h
              · replace h := h.2 q
                refine zx_aload_n C dX10_text_124 1 rfl ?_
                refine zx_aload_n C dX10_text_125 1 rfl ?_
                refine zx_getR C zs_223 fg_X10_26 rfl 229 rfl dX10_text_126 ?_
                refine zx_bipush (v := (123 : Int32)) C dX10_text_129 (by decide) ?_
                refine zx_iload_n C dX10_text_131 0 rfl ?_
                refine zx_cVv C [.ref (g 229), .int (123 : Int32), .int x51] lk_X10_231 (c_X10_store l D cy g 229 984 (123 : Int32) x51 zs_229 σ54 h) zs_223 rfl ⟨by decide, by decide⟩ ⟨rfl, rfl⟩ ⟨Nat.zero_le _, Nat.zero_le _⟩ rfl rfl (Nat.le_of_ble_eq_true rfl) dX10_text_132 (fun σ57 h => ?_)
                refine zx_goto C 168 dX10_text_135 (by decide) ?_
                refine zx_iload_n C dX10_text_168 0 rfl ?_
                exact zx_iret C hr dX10_text_169 h
            · replace h := h.2 q
              refine zx_iconst (v := (1 : Int32)) C dX10_text_113 (by decide) ?_
              refine zx_goto C 118 dX10_text_114 (by decide) ?_
              refine zx_iadd C dX10_text_118 ?_
              obtain ⟨bd58, h⟩ := h
              refine zx_iast C (a1).toNatClampNeg zs_228 bd58 rfl dX10_text_119 ?_
              refine zx_sig (fun σ59 eσ59 => ?_)
              replace h := h σ59 eσ59
              refine zx_iload_n C dX10_text_120 2 rfl ?_
              refine zx_if_ne C 138 dX10_text_121 (by decide) (fun q => ?_) (fun q => ?_)
              · replace h := h.1 q
                refine zx_iload_n C dX10_text_138 2 rfl ?_
                refine zx_iconst (v := (1 : Int32)) C dX10_text_139 (by decide) ?_
                refine zx_icmp_ne C 157 dX10_text_140 (by decide) (fun q => ?_) (fun q => ?_)
                · replace h := h.1 q
                  refine zx_aload_n C dX10_text_157 1 rfl ?_
                  refine zx_aload_n C dX10_text_158 1 rfl ?_
                  refine zx_getR C zs_223 fg_X10_32 rfl 231 rfl dX10_text_159 ?_
                  refine zx_bipush (v := (21 : Int32)) C dX10_text_162 (by decide) ?_
                  refine zx_iload_n C dX10_text_164 0 rfl ?_
                  refine zx_cVv C [.ref (g 231), .int (21 : Int32), .int x51] lk_X10_231 (c_X10_store l D cy g 231 168 (21 : Int32) x51 zs_231 σ59 h) zs_223 rfl ⟨by decide, by decide⟩ ⟨rfl, rfl⟩ ⟨Nat.zero_le _, Nat.zero_le _⟩ rfl rfl (Nat.le_of_ble_eq_true rfl) dX10_text_165 (fun σ60 h => ?_)
                  refine zx_iload_n C dX10_text_168 0 rfl ?_
                  exact zx_iret C hr dX10_text_169 h
                · replace h := h.2 q
                  refine zx_aload_n C dX10_text_143 1 rfl ?_
                  refine zx_aload_n C dX10_text_144 1 rfl ?_
                  refine zx_getR C zs_223 fg_X10_29 rfl 230 rfl dX10_text_145 ?_
                  refine zx_bipush (v := (33 : Int32)) C dX10_text_148 (by decide) ?_
                  refine zx_iload_n C dX10_text_150 0 rfl ?_
                  refine zx_cVv C [.ref (g 230), .int (33 : Int32), .int x51] lk_X10_231 (c_X10_store l D cy g 230 264 (33 : Int32) x51 zs_230 σ59 h) zs_223 rfl ⟨by decide, by decide⟩ ⟨rfl, rfl⟩ ⟨Nat.zero_le _, Nat.zero_le _⟩ rfl rfl (Nat.le_of_ble_eq_true rfl) dX10_text_151 (fun σ61 h => ?_)
                  refine zx_goto C 168 dX10_text_154 (by decide) ?_
                  refine zx_iload_n C dX10_text_168 0 rfl ?_
                  exact zx_iret C hr dX10_text_169 h
              · replace h := h.2 q
                refine zx_aload_n C dX10_text_124 1 rfl ?_
                refine zx_aload_n C dX10_text_125 1 rfl ?_
                refine zx_getR C zs_223 fg_X10_26 rfl 229 rfl dX10_text_126 ?_
                refine zx_bipush (v := (123 : Int32)) C dX10_text_129 (by decide) ?_
                refine zx_iload_n C dX10_text_131 0 rfl ?_
                refine zx_cVv C [.ref (g 229), .int (123 : Int32), .int x51] lk_X10_231 (c_X10_store l D cy g 229 984 (123 : Int32) x51 zs_229 σ59 h) zs_223 rfl ⟨by decide, by decide⟩ ⟨rfl, rfl⟩ ⟨Nat.zero_le _, Nat.zero_le _⟩ rfl rfl (Nat.le_of_ble_eq_true rfl) dX10_text_132 (fun σ62 h => ?_)
                refine zx_goto C 168 dX10_text_135 (by decide) ?_
                refine zx_iload_n C dX10_text_168 0 rfl ?_
                exact zx_iret C hr dX10_text_169 h
        · replace h := h.2 q
          refine zx_iconst (v := (-1 : Int32)) C dX10_text_83 (by decide) ?_
          exact zx_iret C hr dX10_text_84 h
      · replace h := h.2 q
        refine zx_goto C 72 dX10_text_60 (by decide) ?_
        refine zx_bipush (v := (-2 : Int32)) C dX10_text_72 (by decide) ?_
        exact zx_iret C hr dX10_text_74 h
def w_X10_fault (a1 : Int32) (σ : zSto) (P : Int32 → zSto → Prop) : Prop := (∀ σ1 : zSto, σ1 = zI σ 223 0 (0 : Int32) → ((¬ a1 = 0 → ((¬ a1 = (1 : Int32) → P (-1 : Int32) σ1) ∧ (a1 = (1 : Int32) → P (σ1.1 227 0) σ1))) ∧ (a1 = 0 → P (σ1.1 226 0) σ1)))
set_option maxRecDepth 100000 in
set_option maxHeartbeats 4000000 in
theorem c_X10_fault (l : Launch) (D : va_G) (cy : Nat → ClassId) (g : Nat → Nat) (a1 : Int32)  (σ : zSto) {P : Int32 → zSto → Prop} (h : w_X10_fault a1 σ P) : zMi l yX10_fault cX10_fault 2 (some .int) (zrm 0 0) D cy g [.ref (g 223), .int a1] σ P := by
  unfold w_X10_fault at h
  refine zm_i RX10 rfl (by decide +kernel) (Nat.le_of_ble_eq_true rfl) ?_
  intro p e s m below meth c C hr
  refine zx_lv (lv' := [(0, .ref (g 223)), (1, .int a1)]) [0, 1] rfl ?_
  refine zx_aload_n C dX10_fault_0 0 rfl ?_
  refine zx_iconst (v := (0 : Int32)) C dX10_fault_1 (by decide) ?_
  refine zx_putI C zs_223 fp_X10_91 rfl dX10_fault_2 ?_
  refine zx_sig (fun σ1 eσ1 => ?_)
  replace h := h σ1 eσ1
  refine zx_iload_n C dX10_fault_5 1 rfl ?_
  refine zx_if_ne C 18 dX10_fault_6 (by decide) (fun q => ?_) (fun q => ?_)
  · replace h := h.1 q
    refine zx_iload_n C dX10_fault_18 1 rfl ?_
    refine zx_iconst (v := (1 : Int32)) C dX10_fault_19 (by decide) ?_
    refine zx_icmp_ne C 32 dX10_fault_20 (by decide) (fun q => ?_) (fun q => ?_)
    · replace h := h.1 q
      refine zx_iconst (v := (-1 : Int32)) C dX10_fault_32 (by decide) ?_
      exact zx_iret C hr dX10_fault_33 h
    · replace h := h.2 q
      refine zx_aload_n C dX10_fault_23 0 rfl ?_
      refine zx_getR C zs_223 fg_X10_20 rfl 227 rfl dX10_fault_24 ?_
      refine zx_iconst (v := (0 : Int32)) C dX10_fault_27 (by decide) ?_
      refine zx_iald C 0 zs_227 (by unfold vp_in; decide) (by decide) dX10_fault_28 ?_
      refine zx_goto C 33 dX10_fault_29 (by decide) ?_
      exact zx_iret C hr dX10_fault_33 h
  · replace h := h.2 q
    refine zx_aload_n C dX10_fault_9 0 rfl ?_
    refine zx_getR C zs_223 fg_X10_17 rfl 226 rfl dX10_fault_10 ?_
    refine zx_iconst (v := (0 : Int32)) C dX10_fault_13 (by decide) ?_
    refine zx_iald C 0 zs_226 (by unfold vp_in; decide) (by decide) dX10_fault_14 ?_
    refine zx_goto C 33 dX10_fault_15 (by decide) ?_
    exact zx_iret C hr dX10_fault_33 h
theorem fg_X10_235 : zFG RX10 235 10 23 := ⟨RX10, TX10, 50, rfl, lay_X10, by decide, fl_X10_235⟩
def w_X10_of (a1 : Int32) (σ : zSto) (P : Int32 → zSto → Prop) : Prop := (vp_in (((123 : Int32) * (σ.1 223 23)) + a1) 984 ∧ P (σ.1 229 ((((123 : Int32) * (σ.1 223 23)) + a1)).toNatClampNeg) σ)
set_option maxRecDepth 100000 in
set_option maxHeartbeats 4000000 in
theorem c_X10_of (l : Launch) (D : va_G) (cy : Nat → ClassId) (g : Nat → Nat) (a1 : Int32)  (σ : zSto) {P : Int32 → zSto → Prop} (h : w_X10_of a1 σ P) : zMi l yX10_of cX10_of 2 (some .int) (zrm 0 0) D cy g [.ref (g 223), .int a1] σ P := by
  unfold w_X10_of at h
  refine zm_i RX10 rfl (by decide +kernel) (Nat.le_of_ble_eq_true rfl) ?_
  intro p e s m below meth c C hr
  refine zx_lv (lv' := [(0, .ref (g 223)), (1, .int a1)]) [0, 1] rfl ?_
  refine zx_aload_n C dX10_of_0 0 rfl ?_
  refine zx_getR C zs_223 fg_X10_26 rfl 229 rfl dX10_of_1 ?_
  refine zx_bipush (v := (123 : Int32)) C dX10_of_4 (by decide) ?_
  refine zx_aload_n C dX10_of_6 0 rfl ?_
  refine zx_getI C zs_223 fg_X10_235 rfl dX10_of_7 ?_
  refine zx_imul C dX10_of_10 ?_
  refine zx_iload_n C dX10_of_11 1 rfl ?_
  refine zx_iadd C dX10_of_12 ?_
  obtain ⟨bd1, h⟩ := h
  refine zx_iald C ((((123 : Int32) * (σ.1 223 23)) + a1)).toNatClampNeg zs_229 bd1 rfl dX10_of_13 ?_
  exact zx_iret C hr dX10_of_14 h
theorem lk_X10_238 : zLV RX10 238 RX10 yX10_of cX10_of 2 (some .int) 1 := zLV_of ml_X10_238 im_X10_of se_X10_of ini_X10 cd_X10_of (by decide +kernel)
def w_X10_postOf (a1 : Int32) (a2 : Int32) (σ : zSto) (P : Int32 → zSto → Prop) : Prop := (w_X10_of (((7 : Int32) + ((5 : Int32) * a1)) + a2) σ (fun (r2 : Int32) (σ1 : zSto) => P r2 σ1))
set_option maxRecDepth 100000 in
set_option maxHeartbeats 4000000 in
theorem c_X10_postOf (l : Launch) (D : va_G) (cy : Nat → ClassId) (g : Nat → Nat) (a1 : Int32) (a2 : Int32)  (σ : zSto) {P : Int32 → zSto → Prop} (h : w_X10_postOf a1 a2 σ P) : zMi l yX10_postOf cX10_postOf 3 (some .int) (zrm 1 21) D cy g [.ref (g 223), .int a1, .int a2] σ P := by
  unfold w_X10_postOf at h
  refine zm_i RX10 rfl (by decide +kernel) (Nat.le_of_ble_eq_true rfl) ?_
  intro p e s m below meth c C hr
  refine zx_lv (lv' := [(0, .ref (g 223)), (1, .int a1), (2, .int a2)]) [0, 1, 2] rfl ?_
  refine zx_aload_n C dX10_postOf_0 0 rfl ?_
  refine zx_bipush (v := (7 : Int32)) C dX10_postOf_1 (by decide) ?_
  refine zx_iconst (v := (5 : Int32)) C dX10_postOf_3 (by decide) ?_
  refine zx_iload_n C dX10_postOf_4 1 rfl ?_
  refine zx_imul C dX10_postOf_5 ?_
  refine zx_iadd C dX10_postOf_6 ?_
  refine zx_iload_n C dX10_postOf_7 2 rfl ?_
  refine zx_iadd C dX10_postOf_8 ?_
  refine zx_cVi C [.int (((7 : Int32) + ((5 : Int32) * a1)) + a2)] lk_X10_238 (c_X10_of l D cy g (((7 : Int32) + ((5 : Int32) * a1)) + a2)  σ h) zs_223 rfl ⟨by decide, by decide⟩ ⟨rfl, rfl⟩ ⟨Nat.zero_le _, Nat.zero_le _⟩ rfl rfl (Nat.le_of_ble_eq_true rfl) dX10_postOf_9 (fun r2 σ1 h => ?_)
  exact zx_iret C hr dX10_postOf_12 h
def w_X10_riderOf (a1 : Int32) (a2 : Int32) (σ : zSto) (P : Int32 → zSto → Prop) : Prop := (w_X10_of (((87 : Int32) + ((6 : Int32) * a1)) + a2) σ (fun (r2 : Int32) (σ1 : zSto) => P r2 σ1))
set_option maxRecDepth 100000 in
set_option maxHeartbeats 4000000 in
theorem c_X10_riderOf (l : Launch) (D : va_G) (cy : Nat → ClassId) (g : Nat → Nat) (a1 : Int32) (a2 : Int32)  (σ : zSto) {P : Int32 → zSto → Prop} (h : w_X10_riderOf a1 a2 σ P) : zMi l yX10_riderOf cX10_riderOf 3 (some .int) (zrm 1 21) D cy g [.ref (g 223), .int a1, .int a2] σ P := by
  unfold w_X10_riderOf at h
  refine zm_i RX10 rfl (by decide +kernel) (Nat.le_of_ble_eq_true rfl) ?_
  intro p e s m below meth c C hr
  refine zx_lv (lv' := [(0, .ref (g 223)), (1, .int a1), (2, .int a2)]) [0, 1, 2] rfl ?_
  refine zx_aload_n C dX10_riderOf_0 0 rfl ?_
  refine zx_bipush (v := (87 : Int32)) C dX10_riderOf_1 (by decide) ?_
  refine zx_bipush (v := (6 : Int32)) C dX10_riderOf_3 (by decide) ?_
  refine zx_iload_n C dX10_riderOf_5 1 rfl ?_
  refine zx_imul C dX10_riderOf_6 ?_
  refine zx_iadd C dX10_riderOf_7 ?_
  refine zx_iload_n C dX10_riderOf_8 2 rfl ?_
  refine zx_iadd C dX10_riderOf_9 ?_
  refine zx_cVi C [.int (((87 : Int32) + ((6 : Int32) * a1)) + a2)] lk_X10_238 (c_X10_of l D cy g (((87 : Int32) + ((6 : Int32) * a1)) + a2)  σ h) zs_223 rfl ⟨by decide, by decide⟩ ⟨rfl, rfl⟩ ⟨Nat.zero_le _, Nat.zero_le _⟩ rfl rfl (Nat.le_of_ble_eq_true rfl) dX10_riderOf_10 (fun r2 σ1 h => ?_)
  exact zx_iret C hr dX10_riderOf_13 h
theorem lk_X10_242 : zLV RX10 242 RX10 yX10_postOf cX10_postOf 3 (some .int) 2 := zLV_of ml_X10_242 im_X10_postOf se_X10_postOf ini_X10 cd_X10_postOf (by decide +kernel)
def w_X10_poundsIn (a1 : Int32) (a2 : Int32) (σ : zSto) (P : Int32 → zSto → Prop) : Prop := (w_X10_postOf a1 (2 : Int32) σ (fun (r2 : Int32) (σ1 : zSto) => (w_X10_of (3 : Int32) σ1 (fun (r4 : Int32) (σ3 : zSto) => (w_X10_greater (0 : Int32) (r2 - (r4 * a2)) σ3 (fun (r6 : Int32) (σ5 : zSto) => P r6 σ5))))))
set_option maxRecDepth 100000 in
set_option maxHeartbeats 4000000 in
theorem c_X10_poundsIn (l : Launch) (D : va_G) (cy : Nat → ClassId) (g : Nat → Nat) (a1 : Int32) (a2 : Int32)  (σ : zSto) {P : Int32 → zSto → Prop} (h : w_X10_poundsIn a1 a2 σ P) : zMi l yX10_poundsIn cX10_poundsIn 3 (some .int) (zrm 2 43) D cy g [.ref (g 223), .int a1, .int a2] σ P := by
  unfold w_X10_poundsIn at h
  refine zm_i RX10 rfl (by decide +kernel) (Nat.le_of_ble_eq_true rfl) ?_
  intro p e s m below meth c C hr
  refine zx_lv (lv' := [(0, .ref (g 223)), (1, .int a1), (2, .int a2)]) [0, 1, 2] rfl ?_
  refine zx_iconst (v := (0 : Int32)) C dX10_poundsIn_0 (by decide) ?_
  refine zx_aload_n C dX10_poundsIn_1 0 rfl ?_
  refine zx_iload_n C dX10_poundsIn_2 1 rfl ?_
  refine zx_iconst (v := (2 : Int32)) C dX10_poundsIn_3 (by decide) ?_
  refine zx_cVi C [.int a1, .int (2 : Int32)] lk_X10_242 (c_X10_postOf l D cy g a1 (2 : Int32)  σ h) zs_223 rfl ⟨by decide, by decide⟩ ⟨rfl, rfl⟩ ⟨Nat.zero_le _, Nat.zero_le _⟩ rfl rfl (Nat.le_of_ble_eq_true rfl) dX10_poundsIn_4 (fun r2 σ1 h => ?_)
  refine zx_aload_n C dX10_poundsIn_7 0 rfl ?_
  refine zx_iconst (v := (3 : Int32)) C dX10_poundsIn_8 (by decide) ?_
  refine zx_cVi C [.int (3 : Int32)] lk_X10_238 (c_X10_of l D cy g (3 : Int32)  σ1 h) zs_223 rfl ⟨by decide, by decide⟩ ⟨rfl, rfl⟩ ⟨Nat.zero_le _, Nat.zero_le _⟩ rfl rfl (Nat.le_of_ble_eq_true rfl) dX10_poundsIn_9 (fun r4 σ3 h => ?_)
  refine zx_iload_n C dX10_poundsIn_12 2 rfl ?_
  refine zx_imul C dX10_poundsIn_13 ?_
  refine zx_isub C dX10_poundsIn_14 ?_
  refine zx_cSi C [.int (0 : Int32), .int (r2 - (r4 * a2))] lk_X10_160 (c_X10_greater l D cy g (0 : Int32) (r2 - (r4 * a2))  σ3 h) ⟨by decide, by decide⟩ ⟨rfl, rfl⟩ ⟨Nat.zero_le _, Nat.zero_le _⟩ rfl rfl (Nat.le_of_ble_eq_true rfl) dX10_poundsIn_15 (fun r6 σ5 h => ?_)
  exact zx_iret C hr dX10_poundsIn_18 h
theorem fp_X10_235 : zFP RX10 235 10 23 .int := ⟨RX10, TX10, 50, tyX10, rfl, lay_X10, by decide, fl_X10_235, tyX10_ok, nmX10, rfl, by decide +kernel⟩
theorem fp_X10_245 : zFP RX10 245 10 24 .int := ⟨RX10, TX10, 50, tyX10, rfl, lay_X10, by decide, fl_X10_245, tyX10_ok, nmX10, rfl, by decide +kernel⟩
theorem fg_X10_245 : zFG RX10 245 10 24 := ⟨RX10, TX10, 50, rfl, lay_X10, by decide, fl_X10_245⟩
theorem fp_X10_248 : zFP RX10 248 10 25 .int := ⟨RX10, TX10, 50, tyX10, rfl, lay_X10, by decide, fl_X10_248, tyX10_ok, nmX10, rfl, by decide +kernel⟩
theorem fp_X10_251 : zFP RX10 251 10 26 .int := ⟨RX10, TX10, 50, tyX10, rfl, lay_X10, by decide, fl_X10_251, tyX10_ok, nmX10, rfl, by decide +kernel⟩
theorem fg_X10_47 : zFG RX10 47 10 27 := ⟨RX10, TX10, 50, rfl, lay_X10, by decide, fl_X10_47⟩
theorem fg_X10_53 : zFG RX10 53 10 29 := ⟨RX10, TX10, 50, rfl, lay_X10, by decide, fl_X10_53⟩
theorem lk_X10_254 : zLV RX10 254 RX10 yX10_poundsIn cX10_poundsIn 3 (some .int) 2 := zLV_of ml_X10_254 im_X10_poundsIn se_X10_poundsIn ini_X10 cd_X10_poundsIn (by decide +kernel)
theorem fg_X10_50 : zFG RX10 50 10 28 := ⟨RX10, TX10, 50, rfl, lay_X10, by decide, fl_X10_50⟩
def w_X10_hand_56 (x_2 : Int32) (P : Int32 → zSto → Prop)  : Nat → Int32 → zSto → Prop
  | 0, _, _ => False
  | n + 1, x_3, σ => (((σ.1 223 24) ≤ x_3 → P (1 : Int32) σ) ∧ (¬ (σ.1 223 24) ≤ x_3 → (w_X10_postOf x_3 (0 : Int32) σ (fun (r14 : Int32) (σ13 : zSto) => (vp_in x_3 16 ∧ (∀ σ16 : zSto, σ16 = zI σ13 236 (x_3).toNatClampNeg r14 → (w_X10_poundsIn x_3 x_2 σ16 (fun (r18 : Int32) (σ17 : zSto) => (vp_in x_3 16 ∧ (∀ σ20 : zSto, σ20 = zI σ17 238 (x_3).toNatClampNeg r18 → (w_X10_of (2 : Int32) σ20 (fun (r22 : Int32) (σ21 : zSto) => (w_X10_postOf x_3 (1 : Int32) σ21 (fun (r24 : Int32) (σ23 : zSto) => (w_X10_postOf x_3 (1 : Int32) σ23 (fun (r26 : Int32) (σ25 : zSto) => ((¬ r26 = (3 : Int32) → (vp_in x_3 16 ∧ (∀ σ28 : zSto, σ28 = zI σ25 237 (x_3).toNatClampNeg ((r22 + ((2 : Int32) * r24)) + (0 : Int32)) → (∀ x29 : Int32, x29 = (x_3 + (1 : Int32)) → w_X10_hand_56 x_2 P n x29 σ28)))) ∧ (r26 = (3 : Int32) → ((x_3 ≤ 0 → (vp_in x_3 16 ∧ (∀ σ31 : zSto, σ31 = zI σ25 237 (x_3).toNatClampNeg ((r22 + ((2 : Int32) * r24)) + (0 : Int32)) → (∀ x32 : Int32, x32 = (x_3 + (1 : Int32)) → w_X10_hand_56 x_2 P n x32 σ31)))) ∧ (¬ x_3 ≤ 0 → (w_X10_postOf (x_3 - (1 : Int32)) (0 : Int32) σ25 (fun (r34 : Int32) (σ33 : zSto) => (vp_in x_3 16 ∧ (∀ σ36 : zSto, σ36 = zI σ33 237 (x_3).toNatClampNeg ((r22 + ((2 : Int32) * r24)) + ((2 : Int32) * r34)) → (∀ x37 : Int32, x37 = (x_3 + (1 : Int32)) → w_X10_hand_56 x_2 P n x37 σ36)))))))))))))))))))))))))
def w_X10_hand (a1 : Int32) (a2 : Int32) (σ : zSto) (P : Int32 → zSto → Prop) : Prop := (w_X10_is (0 : Int32) a1 σ (fun (r2 : Int32) (σ1 : zSto) => (r2 = 0 ∨ r2 = 1) → ((r2 = 0 → P (0 : Int32) σ1) ∧ (¬ r2 = 0 → (w_X10_in a2 (0 : Int32) (9 : Int32) σ1 (fun (r4 : Int32) (σ3 : zSto) => (r4 = 0 ∨ r4 = 1) → ((¬ r4 = 0 → (∀ σ5 : zSto, σ5 = zI σ3 223 23 a1 → (w_X10_of (0 : Int32) σ5 (fun (r7 : Int32) (σ6 : zSto) => (∀ σ8 : zSto, σ8 = zI σ6 223 24 r7 → (∀ σ9 : zSto, σ9 = zI σ8 223 25 ((σ8.1 223 24) - (1 : Int32)) → (w_X10_of (1 : Int32) σ9 (fun (r11 : Int32) (σ10 : zSto) => (∀ σ12 : zSto, σ12 = zI σ10 223 26 r11 → (∃ n : Nat, w_X10_hand_56 a2 P  n (0 : Int32) σ12)))))))))) ∧ (r4 = 0 → P (0 : Int32) σ3))))))))
set_option maxRecDepth 100000 in
set_option maxHeartbeats 4000000 in
theorem k_X10_hand_56 {p : Program} {l : Launch} {e : Env} {s : State} {m : MethodId} {args : Array Value} {below : List Frame} {meth : Method} {c : Code} {D : va_G} {cy : Nat → ClassId} {g : Nat → Nat} (C : zC p s m args meth c cX10_hand RX10 4 D cy g) (hr : meth.sig.returnType = (some .boolean)) {P : Int32 → zSto → Prop} (x_2 : Int32)    : ∀ (n : Nat) (x_3 : Int32) (σ : zSto), w_X10_hand_56 x_2 P n x_3 σ → zX p l e (zrm 3 65) s m args below meth c 0 0 (zQb P below args s D cy g) 4 D cy g 56 [(0, .ref (g 223)), (2, .int x_2), (3, .int x_3)] [] σ := by
  intro n
  induction n with
  | zero => intro x_3 σ h; exact h.elim
  | succ n ih =>
    intro x_3 σ h
    unfold w_X10_hand_56 at h
    refine zx_iload_n C dX10_hand_56 2 rfl ?_
    refine zx_aload_n C dX10_hand_57 0 rfl ?_
    refine zx_getI C zs_223 fg_X10_245 rfl dX10_hand_58 ?_
    refine zx_icmp_ge C 143 dX10_hand_61 (by decide) (fun q => ?_) (fun q => ?_)
    · replace h := h.1 q
      refine zx_iconst (v := (1 : Int32)) C dX10_hand_143 (by decide) ?_
      exact zx_zret C hr dX10_hand_144 (Or.inr rfl) h
    · replace h := h.2 q
      refine zx_aload_n C dX10_hand_64 0 rfl ?_
      refine zx_getR C zs_223 fg_X10_47 rfl 236 rfl dX10_hand_65 ?_
      refine zx_iload_n C dX10_hand_68 2 rfl ?_
      refine zx_aload_n C dX10_hand_69 0 rfl ?_
      refine zx_iload_n C dX10_hand_70 2 rfl ?_
      refine zx_iconst (v := (0 : Int32)) C dX10_hand_71 (by decide) ?_
      refine zx_cVi C [.int x_3, .int (0 : Int32)] lk_X10_242 (c_X10_postOf l D cy g x_3 (0 : Int32)  σ h) zs_223 rfl ⟨by decide, by decide⟩ ⟨rfl, rfl⟩ ⟨Nat.zero_le _, Nat.zero_le _⟩ rfl rfl (Nat.le_of_ble_eq_true rfl) dX10_hand_72 (fun r14 σ13 h => ?_)
      obtain ⟨bd15, h⟩ := h
      refine zx_iast C (x_3).toNatClampNeg zs_236 bd15 rfl dX10_hand_75 ?_
      refine zx_sig (fun σ16 eσ16 => ?_)
      replace h := h σ16 eσ16
      refine zx_aload_n C dX10_hand_76 0 rfl ?_
      refine zx_getR C zs_223 fg_X10_53 rfl 238 rfl dX10_hand_77 ?_
      refine zx_iload_n C dX10_hand_80 2 rfl ?_
      refine zx_aload_n C dX10_hand_81 0 rfl ?_
      refine zx_iload_n C dX10_hand_82 2 rfl ?_
      refine zx_iload_n C dX10_hand_83 1 rfl ?_
      refine zx_cVi C [.int x_3, .int x_2] lk_X10_254 (c_X10_poundsIn l D cy g x_3 x_2  σ16 h) zs_223 rfl ⟨by decide, by decide⟩ ⟨rfl, rfl⟩ ⟨Nat.zero_le _, Nat.zero_le _⟩ rfl rfl (Nat.le_of_ble_eq_true rfl) dX10_hand_84 (fun r18 σ17 h => ?_)
      obtain ⟨bd19, h⟩ := h
      refine zx_iast C (x_3).toNatClampNeg zs_238 bd19 rfl dX10_hand_87 ?_
      refine zx_sig (fun σ20 eσ20 => ?_)
      replace h := h σ20 eσ20
      refine zx_aload_n C dX10_hand_88 0 rfl ?_
      refine zx_getR C zs_223 fg_X10_50 rfl 237 rfl dX10_hand_89 ?_
      refine zx_iload_n C dX10_hand_92 2 rfl ?_
      refine zx_aload_n C dX10_hand_93 0 rfl ?_
      refine zx_iconst (v := (2 : Int32)) C dX10_hand_94 (by decide) ?_
      refine zx_cVi C [.int (2 : Int32)] lk_X10_238 (c_X10_of l D cy g (2 : Int32)  σ20 h) zs_223 rfl ⟨by decide, by decide⟩ ⟨rfl, rfl⟩ ⟨Nat.zero_le _, Nat.zero_le _⟩ rfl rfl (Nat.le_of_ble_eq_true rfl) dX10_hand_95 (fun r22 σ21 h => ?_)
      refine zx_iconst (v := (2 : Int32)) C dX10_hand_98 (by decide) ?_
      refine zx_aload_n C dX10_hand_99 0 rfl ?_
      refine zx_iload_n C dX10_hand_100 2 rfl ?_
      refine zx_iconst (v := (1 : Int32)) C dX10_hand_101 (by decide) ?_
      refine zx_cVi C [.int x_3, .int (1 : Int32)] lk_X10_242 (c_X10_postOf l D cy g x_3 (1 : Int32)  σ21 h) zs_223 rfl ⟨by decide, by decide⟩ ⟨rfl, rfl⟩ ⟨Nat.zero_le _, Nat.zero_le _⟩ rfl rfl (Nat.le_of_ble_eq_true rfl) dX10_hand_102 (fun r24 σ23 h => ?_)
      refine zx_imul C dX10_hand_105 ?_
      refine zx_iadd C dX10_hand_106 ?_
      refine zx_aload_n C dX10_hand_107 0 rfl ?_
      refine zx_iload_n C dX10_hand_108 2 rfl ?_
      refine zx_iconst (v := (1 : Int32)) C dX10_hand_109 (by decide) ?_
      refine zx_cVi C [.int x_3, .int (1 : Int32)] lk_X10_242 (c_X10_postOf l D cy g x_3 (1 : Int32)  σ23 h) zs_223 rfl ⟨by decide, by decide⟩ ⟨rfl, rfl⟩ ⟨Nat.zero_le _, Nat.zero_le _⟩ rfl rfl (Nat.le_of_ble_eq_true rfl) dX10_hand_110 (fun r26 σ25 h => ?_)
      refine zx_iconst (v := (3 : Int32)) C dX10_hand_113 (by decide) ?_
      refine zx_icmp_ne C 134 dX10_hand_114 (by decide) (fun q => ?_) (fun q => ?_)
      · replace h := h.1 q
        refine zx_iconst (v := (0 : Int32)) C dX10_hand_134 (by decide) ?_
        refine zx_iadd C dX10_hand_135 ?_
        obtain ⟨bd27, h⟩ := h
        refine zx_iast C (x_3).toNatClampNeg zs_237 bd27 rfl dX10_hand_136 ?_
        refine zx_sig (fun σ28 eσ28 => ?_)
        replace h := h σ28 eσ28
        obtain ⟨x29, ex29⟩ : ∃ y : Int32, y = (x_3 + (1 : Int32)) := ⟨_, rfl⟩
        replace h := h x29 ex29
        refine zx_iinc (v := x29) (lv' := [(3, .int x29), (0, .ref (g 223)), (2, .int x_2)]) C dX10_hand_137 2 rfl (by rw [ex29]; rfl) (by decide) rfl ?_
        refine zx_goto C 56 dX10_hand_140 (by decide) ?_
        refine zx_lv (lv' := [(0, .ref (g 223)), (2, .int x_2), (3, .int x29)]) [1, 2, 0] rfl ?_
        exact ih x29 σ28 h
      · replace h := h.2 q
        refine zx_iload_n C dX10_hand_117 2 rfl ?_
        refine zx_if_le C 134 dX10_hand_118 (by decide) (fun q => ?_) (fun q => ?_)
        · replace h := h.1 q
          refine zx_iconst (v := (0 : Int32)) C dX10_hand_134 (by decide) ?_
          refine zx_iadd C dX10_hand_135 ?_
          obtain ⟨bd30, h⟩ := h
          refine zx_iast C (x_3).toNatClampNeg zs_237 bd30 rfl dX10_hand_136 ?_
          refine zx_sig (fun σ31 eσ31 => ?_)
          replace h := h σ31 eσ31
          obtain ⟨x32, ex32⟩ : ∃ y : Int32, y = (x_3 + (1 : Int32)) := ⟨_, rfl⟩
          replace h := h x32 ex32
          refine zx_iinc (v := x32) (lv' := [(3, .int x32), (0, .ref (g 223)), (2, .int x_2)]) C dX10_hand_137 2 rfl (by rw [ex32]; rfl) (by decide) rfl ?_
          refine zx_goto C 56 dX10_hand_140 (by decide) ?_
          refine zx_lv (lv' := [(0, .ref (g 223)), (2, .int x_2), (3, .int x32)]) [1, 2, 0] rfl ?_
          exact ih x32 σ31 h
        · replace h := h.2 q
          refine zx_iconst (v := (2 : Int32)) C dX10_hand_121 (by decide) ?_
          refine zx_aload_n C dX10_hand_122 0 rfl ?_
          refine zx_iload_n C dX10_hand_123 2 rfl ?_
          refine zx_iconst (v := (1 : Int32)) C dX10_hand_124 (by decide) ?_
          refine zx_isub C dX10_hand_125 ?_
          refine zx_iconst (v := (0 : Int32)) C dX10_hand_126 (by decide) ?_
          refine zx_cVi C [.int (x_3 - (1 : Int32)), .int (0 : Int32)] lk_X10_242 (c_X10_postOf l D cy g (x_3 - (1 : Int32)) (0 : Int32)  σ25 h) zs_223 rfl ⟨by decide, by decide⟩ ⟨rfl, rfl⟩ ⟨Nat.zero_le _, Nat.zero_le _⟩ rfl rfl (Nat.le_of_ble_eq_true rfl) dX10_hand_127 (fun r34 σ33 h => ?_)
          refine zx_imul C dX10_hand_130 ?_
          refine zx_goto C 135 dX10_hand_131 (by decide) ?_
          refine zx_iadd C dX10_hand_135 ?_
          obtain ⟨bd35, h⟩ := h
          refine zx_iast C (x_3).toNatClampNeg zs_237 bd35 rfl dX10_hand_136 ?_
          refine zx_sig (fun σ36 eσ36 => ?_)
          replace h := h σ36 eσ36
          obtain ⟨x37, ex37⟩ : ∃ y : Int32, y = (x_3 + (1 : Int32)) := ⟨_, rfl⟩
          replace h := h x37 ex37
          refine zx_iinc (v := x37) (lv' := [(3, .int x37), (0, .ref (g 223)), (2, .int x_2)]) C dX10_hand_137 2 rfl (by rw [ex37]; rfl) (by decide) rfl ?_
          refine zx_goto C 56 dX10_hand_140 (by decide) ?_
          refine zx_lv (lv' := [(0, .ref (g 223)), (2, .int x_2), (3, .int x37)]) [1, 2, 0] rfl ?_
          exact ih x37 σ36 h
set_option maxRecDepth 100000 in
set_option maxHeartbeats 4000000 in
theorem c_X10_hand (l : Launch) (D : va_G) (cy : Nat → ClassId) (g : Nat → Nat) (a1 : Int32) (a2 : Int32)  (σ : zSto) {P : Int32 → zSto → Prop} (h : w_X10_hand a1 a2 σ P) : zMb l yX10_hand cX10_hand 4 (some .boolean) (zrm 3 65) D cy g [.ref (g 223), .int a1, .int a2] σ P := by
  unfold w_X10_hand at h
  refine zm_b RX10 rfl (by decide +kernel) (Nat.le_of_ble_eq_true rfl) ?_
  intro p e s m below meth c C hr
  refine zx_lv (lv' := [(0, .ref (g 223)), (1, .int a1), (2, .int a2)]) [0, 1, 2] rfl ?_
  refine zx_aload_n C dX10_hand_0 0 rfl ?_
  refine zx_iconst (v := (0 : Int32)) C dX10_hand_1 (by decide) ?_
  refine zx_iload_n C dX10_hand_2 1 rfl ?_
  refine zx_cVb C [.int (0 : Int32), .int a1] lk_X10_225 (c_X10_is l D cy g (0 : Int32) a1  σ h) zs_223 rfl ⟨by decide, by decide⟩ ⟨rfl, rfl⟩ ⟨Nat.zero_le _, Nat.zero_le _⟩ rfl rfl (Nat.le_of_ble_eq_true rfl) dX10_hand_3 (fun r2 σ1 hb h => ?_)
  replace h := h hb
  refine zx_if_eq C 19 dX10_hand_6 (by decide) (fun q => ?_) (fun q => ?_)
  · replace h := h.1 q
    refine zx_iconst (v := (0 : Int32)) C dX10_hand_19 (by decide) ?_
    exact zx_zret C hr dX10_hand_20 (Or.inl rfl) h
  · replace h := h.2 q
    refine zx_iload_n C dX10_hand_9 2 rfl ?_
    refine zx_iconst (v := (0 : Int32)) C dX10_hand_10 (by decide) ?_
    refine zx_bipush (v := (9 : Int32)) C dX10_hand_11 (by decide) ?_
    refine zx_cSb C [.int a2, .int (0 : Int32), .int (9 : Int32)] lk_X10_103 (c_X10_in l D cy g a2 (0 : Int32) (9 : Int32)  σ1 h) ⟨by decide, by decide⟩ ⟨rfl, rfl⟩ ⟨Nat.zero_le _, Nat.zero_le _⟩ rfl rfl (Nat.le_of_ble_eq_true rfl) dX10_hand_13 (fun r4 σ3 hb h => ?_)
    replace h := h hb
    refine zx_if_ne C 21 dX10_hand_16 (by decide) (fun q => ?_) (fun q => ?_)
    · replace h := h.1 q
      refine zx_aload_n C dX10_hand_21 0 rfl ?_
      refine zx_iload_n C dX10_hand_22 1 rfl ?_
      refine zx_putI C zs_223 fp_X10_235 rfl dX10_hand_23 ?_
      refine zx_sig (fun σ5 eσ5 => ?_)
      replace h := h σ5 eσ5
      refine zx_aload_n C dX10_hand_26 0 rfl ?_
      refine zx_aload_n C dX10_hand_27 0 rfl ?_
      refine zx_iconst (v := (0 : Int32)) C dX10_hand_28 (by decide) ?_
      refine zx_cVi C [.int (0 : Int32)] lk_X10_238 (c_X10_of l D cy g (0 : Int32)  σ5 h) zs_223 rfl ⟨by decide, by decide⟩ ⟨rfl, rfl⟩ ⟨Nat.zero_le _, Nat.zero_le _⟩ rfl rfl (Nat.le_of_ble_eq_true rfl) dX10_hand_29 (fun r7 σ6 h => ?_)
      refine zx_putI C zs_223 fp_X10_245 rfl dX10_hand_32 ?_
      refine zx_sig (fun σ8 eσ8 => ?_)
      replace h := h σ8 eσ8
      refine zx_aload_n C dX10_hand_35 0 rfl ?_
      refine zx_aload_n C dX10_hand_36 0 rfl ?_
      refine zx_getI C zs_223 fg_X10_245 rfl dX10_hand_37 ?_
      refine zx_iconst (v := (1 : Int32)) C dX10_hand_40 (by decide) ?_
      refine zx_isub C dX10_hand_41 ?_
      refine zx_putI C zs_223 fp_X10_248 rfl dX10_hand_42 ?_
      refine zx_sig (fun σ9 eσ9 => ?_)
      replace h := h σ9 eσ9
      refine zx_aload_n C dX10_hand_45 0 rfl ?_
      refine zx_aload_n C dX10_hand_46 0 rfl ?_
      refine zx_iconst (v := (1 : Int32)) C dX10_hand_47 (by decide) ?_
      refine zx_cVi C [.int (1 : Int32)] lk_X10_238 (c_X10_of l D cy g (1 : Int32)  σ9 h) zs_223 rfl ⟨by decide, by decide⟩ ⟨rfl, rfl⟩ ⟨Nat.zero_le _, Nat.zero_le _⟩ rfl rfl (Nat.le_of_ble_eq_true rfl) dX10_hand_48 (fun r11 σ10 h => ?_)
      refine zx_putI C zs_223 fp_X10_251 rfl dX10_hand_51 ?_
      refine zx_sig (fun σ12 eσ12 => ?_)
      replace h := h σ12 eσ12
      refine zx_iconst (v := (0 : Int32)) C dX10_hand_54 (by decide) ?_
      refine zx_istore_n (lv' := [(3, .int (0 : Int32)), (0, .ref (g 223)), (1, .int a1), (2, .int a2)]) C dX10_hand_55 (by decide) rfl ?_
      obtain ⟨n, h⟩ := h
      refine zx_lv (lv' := [(0, .ref (g 223)), (2, .int a2), (3, .int (0 : Int32))]) [1, 3, 0] rfl ?_
      exact k_X10_hand_56 C hr (a2)   n (0 : Int32) σ12 h
    · replace h := h.2 q
      refine zx_iconst (v := (0 : Int32)) C dX10_hand_19 (by decide) ?_
      exact zx_zret C hr dX10_hand_20 (Or.inl rfl) h
theorem lk_X10_257 : zLV RX10 257 RX10 yX10_hand cX10_hand 4 (some .boolean) 2 := zLV_of ml_X10_257 im_X10_hand se_X10_hand ini_X10 cd_X10_hand (by decide +kernel)
def w_X10_line_28  (P : Int32 → zSto → Prop)  : Nat → Int32 → Int32 → zSto → Prop
  | 0, _, _, _ => False
  | n + 1, x_3, x_4, σ => (((σ.1 223 24) ≤ x_4 → P x_3 σ) ∧ (¬ (σ.1 223 24) ≤ x_4 → (w_X10_postOf x_4 (4 : Int32) σ (fun (r9 : Int32) (σ8 : zSto) => ((r9 = (-1 : Int32) → (∀ x10 : Int32, x10 = (x_3 ||| (0 : Int32)) → (∀ x11 : Int32, x11 = (x_4 + (1 : Int32)) → w_X10_line_28 P n x10 x11 σ8))) ∧ (¬ r9 = (-1 : Int32) → (∀ x12 : Int32, x12 = (x_3 ||| ((1 : Int32) <<< (x_4 &&& 31))) → (∀ x13 : Int32, x13 = (x_4 + (1 : Int32)) → w_X10_line_28 P n x12 x13 σ8))))))))
def w_X10_line (a1 : Int32) (a2 : Int32) (σ : zSto) (P : Int32 → zSto → Prop) : Prop := (∀ σ1 : zSto, σ1 = zI σ 223 0 (0 : Int32) → (w_X10_hand a1 (0 : Int32) σ1 (fun (r3 : Int32) (σ2 : zSto) => (r3 = 0 ∨ r3 = 1) → ((¬ r3 = 0 → ((¬ a2 = (7 : Int32) → (w_X10_in a2 (0 : Int32) (6 : Int32) σ2 (fun (r5 : Int32) (σ4 : zSto) => (r5 = 0 ∨ r5 = 1) → ((r5 = 0 → P (-2 : Int32) σ4) ∧ (¬ r5 = 0 → (w_X10_of a2 σ4 (fun (r7 : Int32) (σ6 : zSto) => P r7 σ6))))))) ∧ (a2 = (7 : Int32) → (∃ n : Nat, w_X10_line_28  P  n (0 : Int32) (0 : Int32) σ2)))) ∧ (r3 = 0 → P (-2 : Int32) σ2)))))
set_option maxRecDepth 100000 in
set_option maxHeartbeats 4000000 in
theorem k_X10_line_28 {p : Program} {l : Launch} {e : Env} {s : State} {m : MethodId} {args : Array Value} {below : List Frame} {meth : Method} {c : Code} {D : va_G} {cy : Nat → ClassId} {g : Nat → Nat} (C : zC p s m args meth c cX10_line RX10 5 D cy g) (hr : meth.sig.returnType = (some .int)) {P : Int32 → zSto → Prop}     : ∀ (n : Nat) (x_3 : Int32) (x_4 : Int32) (σ : zSto), w_X10_line_28 P n x_3 x_4 σ → zX p l e (zrm 4 88) s m args below meth c 0 0 (zQi P below args s D cy g) 5 D cy g 28 [(0, .ref (g 223)), (3, .int x_3), (4, .int x_4)] [] σ := by
  intro n
  induction n with
  | zero => intro x_3 x_4 σ h; exact h.elim
  | succ n ih =>
    intro x_3 x_4 σ h
    unfold w_X10_line_28 at h
    refine zx_iload C dX10_line_28 2 rfl ?_
    refine zx_aload_n C dX10_line_30 0 rfl ?_
    refine zx_getI C zs_223 fg_X10_245 rfl dX10_line_31 ?_
    refine zx_icmp_ge C 65 dX10_line_34 (by decide) (fun q => ?_) (fun q => ?_)
    · replace h := h.1 q
      refine zx_iload_n C dX10_line_65 1 rfl ?_
      exact zx_iret C hr dX10_line_66 h
    · replace h := h.2 q
      refine zx_iload_n C dX10_line_37 1 rfl ?_
      refine zx_aload_n C dX10_line_38 0 rfl ?_
      refine zx_iload C dX10_line_39 2 rfl ?_
      refine zx_iconst (v := (4 : Int32)) C dX10_line_41 (by decide) ?_
      refine zx_cVi C [.int x_4, .int (4 : Int32)] lk_X10_242 (c_X10_postOf l D cy g x_4 (4 : Int32)  σ h) zs_223 rfl ⟨by decide, by decide⟩ ⟨rfl, rfl⟩ ⟨Nat.zero_le _, Nat.zero_le _⟩ rfl rfl (Nat.le_of_ble_eq_true rfl) dX10_line_42 (fun r9 σ8 h => ?_)
      refine zx_iconst (v := (-1 : Int32)) C dX10_line_45 (by decide) ?_
      refine zx_icmp_eq C 56 dX10_line_46 (by decide) (fun q => ?_) (fun q => ?_)
      · replace h := h.1 q
        refine zx_iconst (v := (0 : Int32)) C dX10_line_56 (by decide) ?_
        refine zx_ior C dX10_line_57 ?_
        refine zx_topi (fun x10 ex10 => ?_)
        replace h := h x10 ex10
        refine zx_istore_n (lv' := [(3, .int x10), (0, .ref (g 223)), (4, .int x_4)]) C dX10_line_58 (by decide) rfl ?_
        obtain ⟨x11, ex11⟩ : ∃ y : Int32, y = (x_4 + (1 : Int32)) := ⟨_, rfl⟩
        replace h := h x11 ex11
        refine zx_iinc (v := x11) (lv' := [(4, .int x11), (3, .int x10), (0, .ref (g 223))]) C dX10_line_59 2 rfl (by rw [ex11]; rfl) (by decide) rfl ?_
        refine zx_goto C 28 dX10_line_62 (by decide) ?_
        refine zx_lv (lv' := [(0, .ref (g 223)), (3, .int x10), (4, .int x11)]) [2, 1, 0] rfl ?_
        exact ih x10 x11 σ8 h
      · replace h := h.2 q
        refine zx_iconst (v := (1 : Int32)) C dX10_line_49 (by decide) ?_
        refine zx_iload C dX10_line_50 2 rfl ?_
        refine zx_ishl C dX10_line_52 ?_
        refine zx_goto C 57 dX10_line_53 (by decide) ?_
        refine zx_ior C dX10_line_57 ?_
        refine zx_topi (fun x12 ex12 => ?_)
        replace h := h x12 ex12
        refine zx_istore_n (lv' := [(3, .int x12), (0, .ref (g 223)), (4, .int x_4)]) C dX10_line_58 (by decide) rfl ?_
        obtain ⟨x13, ex13⟩ : ∃ y : Int32, y = (x_4 + (1 : Int32)) := ⟨_, rfl⟩
        replace h := h x13 ex13
        refine zx_iinc (v := x13) (lv' := [(4, .int x13), (3, .int x12), (0, .ref (g 223))]) C dX10_line_59 2 rfl (by rw [ex13]; rfl) (by decide) rfl ?_
        refine zx_goto C 28 dX10_line_62 (by decide) ?_
        refine zx_lv (lv' := [(0, .ref (g 223)), (3, .int x12), (4, .int x13)]) [2, 1, 0] rfl ?_
        exact ih x12 x13 σ8 h
set_option maxRecDepth 100000 in
set_option maxHeartbeats 4000000 in
theorem c_X10_line (l : Launch) (D : va_G) (cy : Nat → ClassId) (g : Nat → Nat) (a1 : Int32) (a2 : Int32)  (σ : zSto) {P : Int32 → zSto → Prop} (h : w_X10_line a1 a2 σ P) : zMi l yX10_line cX10_line 5 (some .int) (zrm 4 88) D cy g [.ref (g 223), .int a1, .int a2] σ P := by
  unfold w_X10_line at h
  refine zm_i RX10 rfl (by decide +kernel) (Nat.le_of_ble_eq_true rfl) ?_
  intro p e s m below meth c C hr
  refine zx_lv (lv' := [(0, .ref (g 223)), (1, .int a1), (2, .int a2)]) [0, 1, 2] rfl ?_
  refine zx_aload_n C dX10_line_0 0 rfl ?_
  refine zx_iconst (v := (0 : Int32)) C dX10_line_1 (by decide) ?_
  refine zx_putI C zs_223 fp_X10_91 rfl dX10_line_2 ?_
  refine zx_sig (fun σ1 eσ1 => ?_)
  replace h := h σ1 eσ1
  refine zx_aload_n C dX10_line_5 0 rfl ?_
  refine zx_iload_n C dX10_line_6 1 rfl ?_
  refine zx_iconst (v := (0 : Int32)) C dX10_line_7 (by decide) ?_
  refine zx_cVb C [.int a1, .int (0 : Int32)] lk_X10_257 (c_X10_hand l D cy g a1 (0 : Int32)  σ1 h) zs_223 rfl ⟨by decide, by decide⟩ ⟨rfl, rfl⟩ ⟨Nat.zero_le _, Nat.zero_le _⟩ rfl rfl (Nat.le_of_ble_eq_true rfl) dX10_line_8 (fun r3 σ2 hb h => ?_)
  replace h := h hb
  refine zx_if_ne C 17 dX10_line_11 (by decide) (fun q => ?_) (fun q => ?_)
  · replace h := h.1 q
    refine zx_iload_n C dX10_line_17 2 rfl ?_
    refine zx_bipush (v := (7 : Int32)) C dX10_line_18 (by decide) ?_
    refine zx_icmp_ne C 67 dX10_line_20 (by decide) (fun q => ?_) (fun q => ?_)
    · replace h := h.1 q
      refine zx_iload_n C dX10_line_67 2 rfl ?_
      refine zx_iconst (v := (0 : Int32)) C dX10_line_68 (by decide) ?_
      refine zx_bipush (v := (6 : Int32)) C dX10_line_69 (by decide) ?_
      refine zx_cSb C [.int a2, .int (0 : Int32), .int (6 : Int32)] lk_X10_103 (c_X10_in l D cy g a2 (0 : Int32) (6 : Int32)  σ2 h) ⟨by decide, by decide⟩ ⟨rfl, rfl⟩ ⟨Nat.zero_le _, Nat.zero_le _⟩ rfl rfl (Nat.le_of_ble_eq_true rfl) dX10_line_71 (fun r5 σ4 hb h => ?_)
      replace h := h hb
      refine zx_if_eq C 85 dX10_line_74 (by decide) (fun q => ?_) (fun q => ?_)
      · replace h := h.1 q
        refine zx_bipush (v := (-2 : Int32)) C dX10_line_85 (by decide) ?_
        exact zx_iret C hr dX10_line_87 h
      · replace h := h.2 q
        refine zx_aload_n C dX10_line_77 0 rfl ?_
        refine zx_iload_n C dX10_line_78 2 rfl ?_
        refine zx_cVi C [.int a2] lk_X10_238 (c_X10_of l D cy g a2  σ4 h) zs_223 rfl ⟨by decide, by decide⟩ ⟨rfl, rfl⟩ ⟨Nat.zero_le _, Nat.zero_le _⟩ rfl rfl (Nat.le_of_ble_eq_true rfl) dX10_line_79 (fun r7 σ6 h => ?_)
        refine zx_goto C 87 dX10_line_82 (by decide) ?_
        exact zx_iret C hr dX10_line_87 h
    · replace h := h.2 q
      refine zx_iconst (v := (0 : Int32)) C dX10_line_23 (by decide) ?_
      refine zx_istore_n (lv' := [(3, .int (0 : Int32)), (0, .ref (g 223)), (1, .int a1), (2, .int a2)]) C dX10_line_24 (by decide) rfl ?_
      refine zx_iconst (v := (0 : Int32)) C dX10_line_25 (by decide) ?_
      refine zx_istore (lv' := [(4, .int (0 : Int32)), (3, .int (0 : Int32)), (0, .ref (g 223)), (1, .int a1), (2, .int a2)]) C dX10_line_26 (by decide) rfl ?_
      obtain ⟨n, h⟩ := h
      refine zx_lv (lv' := [(0, .ref (g 223)), (3, .int (0 : Int32)), (4, .int (0 : Int32))]) [2, 1, 0] rfl ?_
      exact k_X10_line_28 C hr    n (0 : Int32) (0 : Int32) σ2 h
  · replace h := h.2 q
    refine zx_bipush (v := (-2 : Int32)) C dX10_line_14 (by decide) ?_
    exact zx_iret C hr dX10_line_16 h
theorem fg_X10_248 : zFG RX10 248 10 25 := ⟨RX10, TX10, 50, rfl, lay_X10, by decide, fl_X10_248⟩
def w_X10_isPost (a1 : Int32) (σ : zSto) (P : Int32 → zSto → Prop) : Prop := (w_X10_in a1 (0 : Int32) (σ.1 223 25) σ (fun (r2 : Int32) (σ1 : zSto) => (r2 = 0 ∨ r2 = 1) → ((r2 = 0 ∨ r2 = 1) ∧ P r2 σ1)))
set_option maxRecDepth 100000 in
set_option maxHeartbeats 4000000 in
theorem c_X10_isPost (l : Launch) (D : va_G) (cy : Nat → ClassId) (g : Nat → Nat) (a1 : Int32)  (σ : zSto) {P : Int32 → zSto → Prop} (h : w_X10_isPost a1 σ P) : zMb l yX10_isPost cX10_isPost 2 (some .boolean) (zrm 1 22) D cy g [.ref (g 223), .int a1] σ P := by
  unfold w_X10_isPost at h
  refine zm_b RX10 rfl (by decide +kernel) (Nat.le_of_ble_eq_true rfl) ?_
  intro p e s m below meth c C hr
  refine zx_lv (lv' := [(0, .ref (g 223)), (1, .int a1)]) [0, 1] rfl ?_
  refine zx_iload_n C dX10_isPost_0 1 rfl ?_
  refine zx_iconst (v := (0 : Int32)) C dX10_isPost_1 (by decide) ?_
  refine zx_aload_n C dX10_isPost_2 0 rfl ?_
  refine zx_getI C zs_223 fg_X10_248 rfl dX10_isPost_3 ?_
  refine zx_cSb C [.int a1, .int (0 : Int32), .int (σ.1 223 25)] lk_X10_103 (c_X10_in l D cy g a1 (0 : Int32) (σ.1 223 25)  σ h) ⟨by decide, by decide⟩ ⟨rfl, rfl⟩ ⟨Nat.zero_le _, Nat.zero_le _⟩ rfl rfl (Nat.le_of_ble_eq_true rfl) dX10_isPost_6 (fun r2 σ1 hb h => ?_)
  replace h := h hb
  exact zx_zret C hr dX10_isPost_9 h.1 h.2
theorem fg_X10_251 : zFG RX10 251 10 26 := ⟨RX10, TX10, 50, rfl, lay_X10, by decide, fl_X10_251⟩
def w_X10_isRider (a1 : Int32) (σ : zSto) (P : Int32 → zSto → Prop) : Prop := (w_X10_in a1 (0 : Int32) ((σ.1 223 26) - (1 : Int32)) σ (fun (r2 : Int32) (σ1 : zSto) => (r2 = 0 ∨ r2 = 1) → ((r2 = 0 ∨ r2 = 1) ∧ P r2 σ1)))
set_option maxRecDepth 100000 in
set_option maxHeartbeats 4000000 in
theorem c_X10_isRider (l : Launch) (D : va_G) (cy : Nat → ClassId) (g : Nat → Nat) (a1 : Int32)  (σ : zSto) {P : Int32 → zSto → Prop} (h : w_X10_isRider a1 σ P) : zMb l yX10_isRider cX10_isRider 2 (some .boolean) (zrm 1 22) D cy g [.ref (g 223), .int a1] σ P := by
  unfold w_X10_isRider at h
  refine zm_b RX10 rfl (by decide +kernel) (Nat.le_of_ble_eq_true rfl) ?_
  intro p e s m below meth c C hr
  refine zx_lv (lv' := [(0, .ref (g 223)), (1, .int a1)]) [0, 1] rfl ?_
  refine zx_iload_n C dX10_isRider_0 1 rfl ?_
  refine zx_iconst (v := (0 : Int32)) C dX10_isRider_1 (by decide) ?_
  refine zx_aload_n C dX10_isRider_2 0 rfl ?_
  refine zx_getI C zs_223 fg_X10_251 rfl dX10_isRider_3 ?_
  refine zx_iconst (v := (1 : Int32)) C dX10_isRider_6 (by decide) ?_
  refine zx_isub C dX10_isRider_7 ?_
  refine zx_cSb C [.int a1, .int (0 : Int32), .int ((σ.1 223 26) - (1 : Int32))] lk_X10_103 (c_X10_in l D cy g a1 (0 : Int32) ((σ.1 223 26) - (1 : Int32))  σ h) ⟨by decide, by decide⟩ ⟨rfl, rfl⟩ ⟨Nat.zero_le _, Nat.zero_le _⟩ rfl rfl (Nat.le_of_ble_eq_true rfl) dX10_isRider_8 (fun r2 σ1 hb h => ?_)
  replace h := h hb
  exact zx_zret C hr dX10_isRider_11 h.1 h.2
theorem lk_X10_260 : zLV RX10 260 RX10 yX10_isPost cX10_isPost 2 (some .boolean) 1 := zLV_of ml_X10_260 im_X10_isPost se_X10_isPost ini_X10 cd_X10_isPost (by decide +kernel)
def w_X10_post (a1 : Int32) (a2 : Int32) (a3 : Int32) (σ : zSto) (P : Int32 → zSto → Prop) : Prop := (∀ σ1 : zSto, σ1 = zI σ 223 0 (0 : Int32) → (w_X10_hand a1 (0 : Int32) σ1 (fun (r3 : Int32) (σ2 : zSto) => (r3 = 0 ∨ r3 = 1) → ((r3 = 0 → P (-2 : Int32) σ2) ∧ (¬ r3 = 0 → (w_X10_isPost a2 σ2 (fun (r5 : Int32) (σ4 : zSto) => (r5 = 0 ∨ r5 = 1) → ((¬ r5 = 0 → (w_X10_in a3 (0 : Int32) (4 : Int32) σ4 (fun (r7 : Int32) (σ6 : zSto) => (r7 = 0 ∨ r7 = 1) → ((r7 = 0 → ((¬ a3 = (5 : Int32) → (w_X10_in a3 (10 : Int32) (19 : Int32) σ6 (fun (r9 : Int32) (σ8 : zSto) => (r9 = 0 ∨ r9 = 1) → ((r9 = 0 → P (-2 : Int32) σ8) ∧ (¬ r9 = 0 → (w_X10_poundsIn a2 (a3 - (10 : Int32)) σ8 (fun (r11 : Int32) (σ10 : zSto) => P r11 σ10))))))) ∧ (a3 = (5 : Int32) → ((¬ a2 = (σ6.1 223 25) → (vp_in a2 16 ∧ P (σ6.1 237 (a2).toNatClampNeg) σ6)) ∧ (a2 = (σ6.1 223 25) → P (-1 : Int32) σ6))))) ∧ (¬ r7 = 0 → (w_X10_postOf a2 a3 σ6 (fun (r14 : Int32) (σ13 : zSto) => P r14 σ13))))))) ∧ (r5 = 0 → P (-2 : Int32) σ4)))))))))
set_option maxRecDepth 100000 in
set_option maxHeartbeats 4000000 in
theorem c_X10_post (l : Launch) (D : va_G) (cy : Nat → ClassId) (g : Nat → Nat) (a1 : Int32) (a2 : Int32) (a3 : Int32)  (σ : zSto) {P : Int32 → zSto → Prop} (h : w_X10_post a1 a2 a3 σ P) : zMi l yX10_post cX10_post 4 (some .int) (zrm 4 88) D cy g [.ref (g 223), .int a1, .int a2, .int a3] σ P := by
  unfold w_X10_post at h
  refine zm_i RX10 rfl (by decide +kernel) (Nat.le_of_ble_eq_true rfl) ?_
  intro p e s m below meth c C hr
  refine zx_lv (lv' := [(0, .ref (g 223)), (1, .int a1), (2, .int a2), (3, .int a3)]) [0, 1, 2, 3] rfl ?_
  refine zx_aload_n C dX10_post_0 0 rfl ?_
  refine zx_iconst (v := (0 : Int32)) C dX10_post_1 (by decide) ?_
  refine zx_putI C zs_223 fp_X10_91 rfl dX10_post_2 ?_
  refine zx_sig (fun σ1 eσ1 => ?_)
  replace h := h σ1 eσ1
  refine zx_aload_n C dX10_post_5 0 rfl ?_
  refine zx_iload_n C dX10_post_6 1 rfl ?_
  refine zx_iconst (v := (0 : Int32)) C dX10_post_7 (by decide) ?_
  refine zx_cVb C [.int a1, .int (0 : Int32)] lk_X10_257 (c_X10_hand l D cy g a1 (0 : Int32)  σ1 h) zs_223 rfl ⟨by decide, by decide⟩ ⟨rfl, rfl⟩ ⟨Nat.zero_le _, Nat.zero_le _⟩ rfl rfl (Nat.le_of_ble_eq_true rfl) dX10_post_8 (fun r3 σ2 hb h => ?_)
  replace h := h hb
  refine zx_if_eq C 22 dX10_post_11 (by decide) (fun q => ?_) (fun q => ?_)
  · replace h := h.1 q
    refine zx_bipush (v := (-2 : Int32)) C dX10_post_22 (by decide) ?_
    exact zx_iret C hr dX10_post_24 h
  · replace h := h.2 q
    refine zx_aload_n C dX10_post_14 0 rfl ?_
    refine zx_iload_n C dX10_post_15 2 rfl ?_
    refine zx_cVb C [.int a2] lk_X10_260 (c_X10_isPost l D cy g a2  σ2 h) zs_223 rfl ⟨by decide, by decide⟩ ⟨rfl, rfl⟩ ⟨Nat.zero_le _, Nat.zero_le _⟩ rfl rfl (Nat.le_of_ble_eq_true rfl) dX10_post_16 (fun r5 σ4 hb h => ?_)
    replace h := h hb
    refine zx_if_ne C 25 dX10_post_19 (by decide) (fun q => ?_) (fun q => ?_)
    · replace h := h.1 q
      refine zx_iload_n C dX10_post_25 3 rfl ?_
      refine zx_iconst (v := (0 : Int32)) C dX10_post_26 (by decide) ?_
      refine zx_iconst (v := (4 : Int32)) C dX10_post_27 (by decide) ?_
      refine zx_cSb C [.int a3, .int (0 : Int32), .int (4 : Int32)] lk_X10_103 (c_X10_in l D cy g a3 (0 : Int32) (4 : Int32)  σ4 h) ⟨by decide, by decide⟩ ⟨rfl, rfl⟩ ⟨Nat.zero_le _, Nat.zero_le _⟩ rfl rfl (Nat.le_of_ble_eq_true rfl) dX10_post_28 (fun r7 σ6 hb h => ?_)
      replace h := h hb
      refine zx_if_eq C 41 dX10_post_31 (by decide) (fun q => ?_) (fun q => ?_)
      · replace h := h.1 q
        refine zx_iload_n C dX10_post_41 3 rfl ?_
        refine zx_iconst (v := (5 : Int32)) C dX10_post_42 (by decide) ?_
        refine zx_icmp_ne C 67 dX10_post_43 (by decide) (fun q => ?_) (fun q => ?_)
        · replace h := h.1 q
          refine zx_iload_n C dX10_post_67 3 rfl ?_
          refine zx_bipush (v := (10 : Int32)) C dX10_post_68 (by decide) ?_
          refine zx_bipush (v := (19 : Int32)) C dX10_post_70 (by decide) ?_
          refine zx_cSb C [.int a3, .int (10 : Int32), .int (19 : Int32)] lk_X10_103 (c_X10_in l D cy g a3 (10 : Int32) (19 : Int32)  σ6 h) ⟨by decide, by decide⟩ ⟨rfl, rfl⟩ ⟨Nat.zero_le _, Nat.zero_le _⟩ rfl rfl (Nat.le_of_ble_eq_true rfl) dX10_post_72 (fun r9 σ8 hb h => ?_)
          replace h := h hb
          refine zx_if_eq C 90 dX10_post_75 (by decide) (fun q => ?_) (fun q => ?_)
          · replace h := h.1 q
            refine zx_bipush (v := (-2 : Int32)) C dX10_post_90 (by decide) ?_
            exact zx_iret C hr dX10_post_92 h
          · replace h := h.2 q
            refine zx_aload_n C dX10_post_78 0 rfl ?_
            refine zx_iload_n C dX10_post_79 2 rfl ?_
            refine zx_iload_n C dX10_post_80 3 rfl ?_
            refine zx_bipush (v := (10 : Int32)) C dX10_post_81 (by decide) ?_
            refine zx_isub C dX10_post_83 ?_
            refine zx_cVi C [.int a2, .int (a3 - (10 : Int32))] lk_X10_254 (c_X10_poundsIn l D cy g a2 (a3 - (10 : Int32))  σ8 h) zs_223 rfl ⟨by decide, by decide⟩ ⟨rfl, rfl⟩ ⟨Nat.zero_le _, Nat.zero_le _⟩ rfl rfl (Nat.le_of_ble_eq_true rfl) dX10_post_84 (fun r11 σ10 h => ?_)
            refine zx_goto C 92 dX10_post_87 (by decide) ?_
            exact zx_iret C hr dX10_post_92 h
        · replace h := h.2 q
          refine zx_iload_n C dX10_post_46 2 rfl ?_
          refine zx_aload_n C dX10_post_47 0 rfl ?_
          refine zx_getI C zs_223 fg_X10_248 rfl dX10_post_48 ?_
          refine zx_icmp_ne C 58 dX10_post_51 (by decide) (fun q => ?_) (fun q => ?_)
          · replace h := h.1 q
            refine zx_aload_n C dX10_post_58 0 rfl ?_
            refine zx_getR C zs_223 fg_X10_50 rfl 237 rfl dX10_post_59 ?_
            refine zx_iload_n C dX10_post_62 2 rfl ?_
            obtain ⟨bd12, h⟩ := h
            refine zx_iald C (a2).toNatClampNeg zs_237 bd12 rfl dX10_post_63 ?_
            refine zx_goto C 92 dX10_post_64 (by decide) ?_
            exact zx_iret C hr dX10_post_92 h
          · replace h := h.2 q
            refine zx_iconst (v := (-1 : Int32)) C dX10_post_54 (by decide) ?_
            refine zx_goto C 92 dX10_post_55 (by decide) ?_
            exact zx_iret C hr dX10_post_92 h
      · replace h := h.2 q
        refine zx_aload_n C dX10_post_34 0 rfl ?_
        refine zx_iload_n C dX10_post_35 2 rfl ?_
        refine zx_iload_n C dX10_post_36 3 rfl ?_
        refine zx_cVi C [.int a2, .int a3] lk_X10_242 (c_X10_postOf l D cy g a2 a3  σ6 h) zs_223 rfl ⟨by decide, by decide⟩ ⟨rfl, rfl⟩ ⟨Nat.zero_le _, Nat.zero_le _⟩ rfl rfl (Nat.le_of_ble_eq_true rfl) dX10_post_37 (fun r14 σ13 h => ?_)
        exact zx_iret C hr dX10_post_40 h
    · replace h := h.2 q
      refine zx_bipush (v := (-2 : Int32)) C dX10_post_22 (by decide) ?_
      exact zx_iret C hr dX10_post_24 h
theorem lk_X10_263 : zLV RX10 263 RX10 yX10_isRider cX10_isRider 2 (some .boolean) 1 := zLV_of ml_X10_263 im_X10_isRider se_X10_isRider ini_X10 cd_X10_isRider (by decide +kernel)
theorem lk_X10_266 : zLV RX10 266 RX10 yX10_riderOf cX10_riderOf 3 (some .int) 2 := zLV_of ml_X10_266 im_X10_riderOf se_X10_riderOf ini_X10 cd_X10_riderOf (by decide +kernel)
def w_X10_rider (a1 : Int32) (a2 : Int32) (a3 : Int32) (σ : zSto) (P : Int32 → zSto → Prop) : Prop := (∀ σ1 : zSto, σ1 = zI σ 223 0 (0 : Int32) → (w_X10_hand a1 (0 : Int32) σ1 (fun (r3 : Int32) (σ2 : zSto) => (r3 = 0 ∨ r3 = 1) → ((r3 = 0 → P (-1 : Int32) σ2) ∧ (¬ r3 = 0 → (w_X10_isRider a2 σ2 (fun (r5 : Int32) (σ4 : zSto) => (r5 = 0 ∨ r5 = 1) → ((r5 = 0 → P (-1 : Int32) σ4) ∧ (¬ r5 = 0 → (w_X10_in a3 (0 : Int32) (5 : Int32) σ4 (fun (r7 : Int32) (σ6 : zSto) => (r7 = 0 ∨ r7 = 1) → ((r7 = 0 → P (-1 : Int32) σ6) ∧ (¬ r7 = 0 → (w_X10_riderOf a2 a3 σ6 (fun (r9 : Int32) (σ8 : zSto) => P r9 σ8)))))))))))))))
set_option maxRecDepth 100000 in
set_option maxHeartbeats 4000000 in
theorem c_X10_rider (l : Launch) (D : va_G) (cy : Nat → ClassId) (g : Nat → Nat) (a1 : Int32) (a2 : Int32) (a3 : Int32)  (σ : zSto) {P : Int32 → zSto → Prop} (h : w_X10_rider a1 a2 a3 σ P) : zMi l yX10_rider cX10_rider 4 (some .int) (zrm 4 88) D cy g [.ref (g 223), .int a1, .int a2, .int a3] σ P := by
  unfold w_X10_rider at h
  refine zm_i RX10 rfl (by decide +kernel) (Nat.le_of_ble_eq_true rfl) ?_
  intro p e s m below meth c C hr
  refine zx_lv (lv' := [(0, .ref (g 223)), (1, .int a1), (2, .int a2), (3, .int a3)]) [0, 1, 2, 3] rfl ?_
  refine zx_aload_n C dX10_rider_0 0 rfl ?_
  refine zx_iconst (v := (0 : Int32)) C dX10_rider_1 (by decide) ?_
  refine zx_putI C zs_223 fp_X10_91 rfl dX10_rider_2 ?_
  refine zx_sig (fun σ1 eσ1 => ?_)
  replace h := h σ1 eσ1
  refine zx_aload_n C dX10_rider_5 0 rfl ?_
  refine zx_iload_n C dX10_rider_6 1 rfl ?_
  refine zx_iconst (v := (0 : Int32)) C dX10_rider_7 (by decide) ?_
  refine zx_cVb C [.int a1, .int (0 : Int32)] lk_X10_257 (c_X10_hand l D cy g a1 (0 : Int32)  σ1 h) zs_223 rfl ⟨by decide, by decide⟩ ⟨rfl, rfl⟩ ⟨Nat.zero_le _, Nat.zero_le _⟩ rfl rfl (Nat.le_of_ble_eq_true rfl) dX10_rider_8 (fun r3 σ2 hb h => ?_)
  replace h := h hb
  refine zx_if_eq C 40 dX10_rider_11 (by decide) (fun q => ?_) (fun q => ?_)
  · replace h := h.1 q
    refine zx_iconst (v := (-1 : Int32)) C dX10_rider_40 (by decide) ?_
    exact zx_iret C hr dX10_rider_41 h
  · replace h := h.2 q
    refine zx_aload_n C dX10_rider_14 0 rfl ?_
    refine zx_iload_n C dX10_rider_15 2 rfl ?_
    refine zx_cVb C [.int a2] lk_X10_263 (c_X10_isRider l D cy g a2  σ2 h) zs_223 rfl ⟨by decide, by decide⟩ ⟨rfl, rfl⟩ ⟨Nat.zero_le _, Nat.zero_le _⟩ rfl rfl (Nat.le_of_ble_eq_true rfl) dX10_rider_16 (fun r5 σ4 hb h => ?_)
    replace h := h hb
    refine zx_if_eq C 40 dX10_rider_19 (by decide) (fun q => ?_) (fun q => ?_)
    · replace h := h.1 q
      refine zx_iconst (v := (-1 : Int32)) C dX10_rider_40 (by decide) ?_
      exact zx_iret C hr dX10_rider_41 h
    · replace h := h.2 q
      refine zx_iload_n C dX10_rider_22 3 rfl ?_
      refine zx_iconst (v := (0 : Int32)) C dX10_rider_23 (by decide) ?_
      refine zx_iconst (v := (5 : Int32)) C dX10_rider_24 (by decide) ?_
      refine zx_cSb C [.int a3, .int (0 : Int32), .int (5 : Int32)] lk_X10_103 (c_X10_in l D cy g a3 (0 : Int32) (5 : Int32)  σ4 h) ⟨by decide, by decide⟩ ⟨rfl, rfl⟩ ⟨Nat.zero_le _, Nat.zero_le _⟩ rfl rfl (Nat.le_of_ble_eq_true rfl) dX10_rider_25 (fun r7 σ6 hb h => ?_)
      replace h := h hb
      refine zx_if_eq C 40 dX10_rider_28 (by decide) (fun q => ?_) (fun q => ?_)
      · replace h := h.1 q
        refine zx_iconst (v := (-1 : Int32)) C dX10_rider_40 (by decide) ?_
        exact zx_iret C hr dX10_rider_41 h
      · replace h := h.2 q
        refine zx_aload_n C dX10_rider_31 0 rfl ?_
        refine zx_iload_n C dX10_rider_32 2 rfl ?_
        refine zx_iload_n C dX10_rider_33 3 rfl ?_
        refine zx_cVi C [.int a2, .int a3] lk_X10_266 (c_X10_riderOf l D cy g a2 a3  σ6 h) zs_223 rfl ⟨by decide, by decide⟩ ⟨rfl, rfl⟩ ⟨Nat.zero_le _, Nat.zero_le _⟩ rfl rfl (Nat.le_of_ble_eq_true rfl) dX10_rider_34 (fun r9 σ8 h => ?_)
        refine zx_goto C 41 dX10_rider_37 (by decide) ?_
        exact zx_iret C hr dX10_rider_41 h
