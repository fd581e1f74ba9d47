theorem fg_X4_58 : zFG RX4 58 4 11 := ⟨RX4, TX4, 13, rfl, lay_X4, by decide, fl_X4_58⟩
theorem fp_X4_58 : zFP RX4 58 4 11 .int := ⟨RX4, TX4, 13, tyX4, rfl, lay_X4, by decide, fl_X4_58, tyX4_ok, nmX4, rfl, by decide +kernel⟩
theorem fp_X4_61 : zFP RX4 61 4 12 .int := ⟨RX4, TX4, 13, tyX4, rfl, lay_X4, by decide, fl_X4_61, tyX4_ok, nmX4, rfl, by decide +kernel⟩
def w_X4_note (a1 : Int32) (a2 : Int32) (σ : zSto) (P : zSto → Prop) : Prop := ((¬ (σ.1 171 11) = 0 → P σ) ∧ ((σ.1 171 11) = 0 → (∀ σ1 : zSto, σ1 = zI σ 171 11 a1 → (∀ σ2 : zSto, σ2 = zI σ1 171 12 a2 → P σ2))))
set_option maxRecDepth 100000 in
set_option maxHeartbeats 4000000 in
theorem c_X4_note (l : Launch) (D : va_G) (cy : Nat → ClassId) (g : Nat → Nat) (a1 : Int32) (a2 : Int32)  (σ : zSto) {P : zSto → Prop} (h : w_X4_note a1 a2 σ P) : zMv l yX4_note cX4_note 3 none (zrm 0 0) D cy g [.ref (g 171), .int a1, .int a2] σ P := by
  unfold w_X4_note at h
  refine zm_v RX4 rfl (by decide +kernel) (Nat.le_of_ble_eq_true rfl) ?_
  intro p e s m below meth c C hr
  refine zx_lv (lv' := [(0, .ref (g 171)), (1, .int a1), (2, .int a2)]) [0, 1, 2] rfl ?_
  refine zx_aload_n C dX4_note_0 0 rfl ?_
  refine zx_getI C zs_171 fg_X4_58 rfl dX4_note_1 ?_
  refine zx_if_ne C 17 dX4_note_4 (by decide) (fun q => ?_) (fun q => ?_)
  · replace h := h.1 q
    exact zx_vret C hr dX4_note_17 h
  · replace h := h.2 q
    refine zx_aload_n C dX4_note_7 0 rfl ?_
    refine zx_iload_n C dX4_note_8 1 rfl ?_
    refine zx_putI C zs_171 fp_X4_58 rfl dX4_note_9 ?_
    refine zx_sig (fun σ1 eσ1 => ?_)
    replace h := h σ1 eσ1
    refine zx_aload_n C dX4_note_12 0 rfl ?_
    refine zx_iload_n C dX4_note_13 2 rfl ?_
    refine zx_putI C zs_171 fp_X4_61 rfl dX4_note_14 ?_
    refine zx_sig (fun σ2 eσ2 => ?_)
    replace h := h σ2 eσ2
    exact zx_vret C hr dX4_note_17 h
theorem lk_X4_80 : zLV RX4 80 RX4 yX4_note cX4_note 3 none 2 := zLV_of ml_X4_80 im_X4_note se_X4_note ini_X4 cd_X4_note (by decide +kernel)
def w_X4_number (a1 : Int32) (a2 : Int32) (a3 : Int32) (σ : zSto) (P : Int32 → zSto → Prop) : Prop := ((a1 < 0 → P (-1 : Int32) σ) ∧ (¬ a1 < 0 → ((a1 < (6 : Int32) → (vp_in a1 6 ∧ (((σ.1 187 (a1).toNatClampNeg) < a2 → (vp_in a1 6 ∧ (w_X4_note (2 : Int32) (σ.1 188 (a1).toNatClampNeg) σ (fun (σ3 : zSto) => (vp_in a1 6 ∧ P (σ3.1 187 (a1).toNatClampNeg) σ3))))) ∧ (¬ (σ.1 187 (a1).toNatClampNeg) < a2 → (vp_in a1 6 ∧ (((σ.1 187 (a1).toNatClampNeg) ≤ a3 → (vp_in a1 6 ∧ P (σ.1 187 (a1).toNatClampNeg) σ)) ∧ (¬ (σ.1 187 (a1).toNatClampNeg) ≤ a3 → (vp_in a1 6 ∧ (w_X4_note (2 : Int32) (σ.1 188 (a1).toNatClampNeg) σ (fun (σ8 : zSto) => (vp_in a1 6 ∧ P (σ8.1 187 (a1).toNatClampNeg) σ8))))))))))) ∧ (¬ a1 < (6 : Int32) → P (-1 : Int32) σ))))
set_option maxRecDepth 100000 in
set_option maxHeartbeats 4000000 in
theorem c_X4_number (l : Launch) (D : va_G) (cy : Nat → ClassId) (g : Nat → Nat) (a1 : Int32) (a2 : Int32) (a3 : Int32)  (σ : zSto) {P : Int32 → zSto → Prop} (h : w_X4_number a1 a2 a3 σ P) : zMi l yX4_number cX4_number 4 (some .int) (zrm 1 22) D cy g [.ref (g 171), .int a1, .int a2, .int a3] σ P := by
  unfold w_X4_number at h
  refine zm_i RX4 rfl (by decide +kernel) (Nat.le_of_ble_eq_true rfl) ?_
  intro p e s m below meth c C hr
  refine zx_lv (lv' := [(0, .ref (g 171)), (1, .int a1), (2, .int a2), (3, .int a3)]) [0, 1, 2, 3] rfl ?_
  refine zx_iload_n C dX4_number_0 1 rfl ?_
  refine zx_if_lt C 10 dX4_number_1 (by decide) (fun q => ?_) (fun q => ?_)
  · replace h := h.1 q
    refine zx_iconst (v := (-1 : Int32)) C dX4_number_10 (by decide) ?_
    exact zx_iret C hr dX4_number_11 h
  · replace h := h.2 q
    refine zx_iload_n C dX4_number_4 1 rfl ?_
    refine zx_bipush (v := (6 : Int32)) C dX4_number_5 (by decide) ?_
    refine zx_icmp_lt C 12 dX4_number_7 (by decide) (fun q => ?_) (fun q => ?_)
    · replace h := h.1 q
      refine zx_aload_n C dX4_number_12 0 rfl ?_
      refine zx_getR C zs_171 fg_X4_25 rfl 187 rfl dX4_number_13 ?_
      refine zx_iload_n C dX4_number_16 1 rfl ?_
      obtain ⟨bd1, h⟩ := h
      refine zx_iald C (a1).toNatClampNeg zs_187 bd1 rfl dX4_number_17 ?_
      refine zx_iload_n C dX4_number_18 2 rfl ?_
      refine zx_icmp_lt C 32 dX4_number_19 (by decide) (fun q => ?_) (fun q => ?_)
      · replace h := h.1 q
        refine zx_aload_n C dX4_number_32 0 rfl ?_
        refine zx_iconst (v := (2 : Int32)) C dX4_number_33 (by decide) ?_
        refine zx_aload_n C dX4_number_34 0 rfl ?_
        refine zx_getR C zs_171 fg_X4_29 rfl 188 rfl dX4_number_35 ?_
        refine zx_iload_n C dX4_number_38 1 rfl ?_
        obtain ⟨bd2, h⟩ := h
        refine zx_iald C (a1).toNatClampNeg zs_188 bd2 rfl dX4_number_39 ?_
        refine zx_cVv C [.int (2 : Int32), .int (σ.1 188 (a1).toNatClampNeg)] lk_X4_80 (c_X4_note l D cy g (2 : Int32) (σ.1 188 (a1).toNatClampNeg)  σ h) zs_171 rfl ⟨by decide, by decide⟩ ⟨rfl, rfl⟩ ⟨Nat.zero_le _, Nat.zero_le _⟩ rfl rfl (Nat.le_of_ble_eq_true rfl) dX4_number_40 (fun σ3 h => ?_)
        refine zx_aload_n C dX4_number_43 0 rfl ?_
        refine zx_getR C zs_171 fg_X4_25 rfl 187 rfl dX4_number_44 ?_
        refine zx_iload_n C dX4_number_47 1 rfl ?_
        obtain ⟨bd4, h⟩ := h
        refine zx_iald C (a1).toNatClampNeg zs_187 bd4 rfl dX4_number_48 ?_
        exact zx_iret C hr dX4_number_49 h
      · replace h := h.2 q
        refine zx_aload_n C dX4_number_22 0 rfl ?_
        refine zx_getR C zs_171 fg_X4_25 rfl 187 rfl dX4_number_23 ?_
        refine zx_iload_n C dX4_number_26 1 rfl ?_
        obtain ⟨bd5, h⟩ := h
        refine zx_iald C (a1).toNatClampNeg zs_187 bd5 rfl dX4_number_27 ?_
        refine zx_iload_n C dX4_number_28 3 rfl ?_
        refine zx_icmp_le C 43 dX4_number_29 (by decide) (fun q => ?_) (fun q => ?_)
        · replace h := h.1 q
          refine zx_aload_n C dX4_number_43 0 rfl ?_
          refine zx_getR C zs_171 fg_X4_25 rfl 187 rfl dX4_number_44 ?_
          refine zx_iload_n C dX4_number_47 1 rfl ?_
          obtain ⟨bd6, h⟩ := h
          refine zx_iald C (a1).toNatClampNeg zs_187 bd6 rfl dX4_number_48 ?_
          exact zx_iret C hr dX4_number_49 h
        · replace h := h.2 q
          refine zx_aload_n C dX4_number_32 0 rfl ?_
          refine zx_iconst (v := (2 : Int32)) C dX4_number_33 (by decide) ?_
          refine zx_aload_n C dX4_number_34 0 rfl ?_
          refine zx_getR C zs_171 fg_X4_29 rfl 188 rfl dX4_number_35 ?_
          refine zx_iload_n C dX4_number_38 1 rfl ?_
          obtain ⟨bd7, h⟩ := h
          refine zx_iald C (a1).toNatClampNeg zs_188 bd7 rfl dX4_number_39 ?_
          refine zx_cVv C [.int (2 : Int32), .int (σ.1 188 (a1).toNatClampNeg)] lk_X4_80 (c_X4_note l D cy g (2 : Int32) (σ.1 188 (a1).toNatClampNeg)  σ h) zs_171 rfl ⟨by decide, by decide⟩ ⟨rfl, rfl⟩ ⟨Nat.zero_le _, Nat.zero_le _⟩ rfl rfl (Nat.le_of_ble_eq_true rfl) dX4_number_40 (fun σ8 h => ?_)
          refine zx_aload_n C dX4_number_43 0 rfl ?_
          refine zx_getR C zs_171 fg_X4_25 rfl 187 rfl dX4_number_44 ?_
          refine zx_iload_n C dX4_number_47 1 rfl ?_
          obtain ⟨bd9, h⟩ := h
          refine zx_iald C (a1).toNatClampNeg zs_187 bd9 rfl dX4_number_48 ?_
          exact zx_iret C hr dX4_number_49 h
    · replace h := h.2 q
      refine zx_iconst (v := (-1 : Int32)) C dX4_number_10 (by decide) ?_
      exact zx_iret C hr dX4_number_11 h
theorem fg_X4_12 : zFG RX4 12 4 0 := ⟨RX4, TX4, 13, rfl, lay_X4, by decide, fl_X4_12⟩
theorem fg_X4_77 : zFG RX4 77 0 11 := ⟨RX0, TX0, 18, rfl, lay_X0, by decide, fl_X4_77⟩
theorem fg_X4_190 : zFG RX4 190 0 0 := ⟨RX0, TX0, 18, rfl, lay_X0, by decide, fl_X4_190⟩
theorem lk_X4_172 : zLV RX4 172 RX4 yX4_number cX4_number 4 (some .int) 3 := zLV_of ml_X4_172 im_X4_number se_X4_number ini_X4 cd_X4_number (by decide +kernel)
theorem fg_X4_193 : zFG RX4 193 0 1 := ⟨RX0, TX0, 18, rfl, lay_X0, by decide, fl_X4_193⟩
theorem fg_X4_196 : zFG RX4 196 0 2 := ⟨RX0, TX0, 18, rfl, lay_X0, by decide, fl_X4_196⟩
theorem fp_X4_77 : zFP RX4 77 0 11 .int := ⟨RX0, TX0, 18, tyX0, rfl, lay_X0, by decide, fl_X4_77, tyX0_ok, nmX0, rfl, by decide +kernel⟩
def w_X4_tellPost (a1 : Int32) (σ : zSto) (P : zSto → Prop) : Prop := (((σ.1 172 11) < (16 : Int32) → (∀ x1 : Int32, x1 = (σ.1 172 11) → (w_X4_number (0 : Int32) (1 : Int32) (30 : Int32) σ (fun (r3 : Int32) (σ2 : zSto) => (vp_in x1 16 ∧ (∀ σ5 : zSto, σ5 = zI σ2 173 (x1).toNatClampNeg r3 → (w_X4_number (1 : Int32) (0 : Int32) (3 : Int32) σ5 (fun (r7 : Int32) (σ6 : zSto) => (vp_in x1 16 ∧ (∀ σ9 : zSto, σ9 = zI σ6 174 (x1).toNatClampNeg r7 → (w_X4_number (2 : Int32) (0 : Int32) (30 : Int32) σ9 (fun (r11 : Int32) (σ10 : zSto) => (vp_in x1 16 ∧ (∀ σ13 : zSto, σ13 = zI σ10 175 (x1).toNatClampNeg r11 → (∀ σ14 : zSto, σ14 = zI σ13 172 11 ((σ13.1 172 11) + (1 : Int32)) → P σ14))))))))))))))) ∧ (¬ (σ.1 172 11) < (16 : Int32) → (w_X4_note (3 : Int32) a1 σ (fun (σ15 : zSto) => P σ15))))
set_option maxRecDepth 100000 in
set_option maxHeartbeats 4000000 in
theorem c_X4_tellPost (l : Launch) (D : va_G) (cy : Nat → ClassId) (g : Nat → Nat) (a1 : Int32)  (σ : zSto) {P : zSto → Prop} (h : w_X4_tellPost a1 σ P) : zMv l yX4_tellPost cX4_tellPost 3 none (zrm 2 45) D cy g [.ref (g 171), .int a1] σ P := by
  unfold w_X4_tellPost at h
  refine zm_v RX4 rfl (by decide +kernel) (Nat.le_of_ble_eq_true rfl) ?_
  intro p e s m below meth c C hr
  refine zx_lv (lv' := [(0, .ref (g 171)), (1, .int a1)]) [0, 1] rfl ?_
  refine zx_aload_n C dX4_tellPost_0 0 rfl ?_
  refine zx_getR C zs_171 fg_X4_12 rfl 172 rfl dX4_tellPost_1 ?_
  refine zx_getI C zIsLine_172.1 fg_X4_77 rfl dX4_tellPost_4 ?_
  refine zx_bipush (v := (16 : Int32)) C dX4_tellPost_7 (by decide) ?_
  refine zx_icmp_lt C 19 dX4_tellPost_9 (by decide) (fun q => ?_) (fun q => ?_)
  · replace h := h.1 q
    refine zx_aload_n C dX4_tellPost_19 0 rfl ?_
    refine zx_getR C zs_171 fg_X4_12 rfl 172 rfl dX4_tellPost_20 ?_
    refine zx_getI C zIsLine_172.1 fg_X4_77 rfl dX4_tellPost_23 ?_
    refine zx_topi (fun x1 ex1 => ?_)
    replace h := h x1 ex1
    refine zx_istore_n (lv' := [(2, .int x1), (0, .ref (g 171)), (1, .int a1)]) C dX4_tellPost_26 (by decide) rfl ?_
    refine zx_aload_n C dX4_tellPost_27 1 rfl ?_
    refine zx_getR C zs_171 fg_X4_12 rfl 172 rfl dX4_tellPost_28 ?_
    refine zx_getR C zIsLine_172.1 fg_X4_190 rfl 173 rfl dX4_tellPost_31 ?_
    refine zx_iload_n C dX4_tellPost_34 0 rfl ?_
    refine zx_aload_n C dX4_tellPost_35 1 rfl ?_
    refine zx_iconst (v := (0 : Int32)) C dX4_tellPost_36 (by decide) ?_
    refine zx_iconst (v := (1 : Int32)) C dX4_tellPost_37 (by decide) ?_
    refine zx_bipush (v := (30 : Int32)) C dX4_tellPost_38 (by decide) ?_
    refine zx_cVi C [.int (0 : Int32), .int (1 : Int32), .int (30 : Int32)] lk_X4_172 (c_X4_number l D cy g (0 : Int32) (1 : Int32) (30 : Int32)  σ h) zs_171 rfl ⟨by decide, by decide⟩ ⟨rfl, rfl⟩ ⟨Nat.zero_le _, Nat.zero_le _⟩ rfl rfl (Nat.le_of_ble_eq_true rfl) dX4_tellPost_40 (fun r3 σ2 h => ?_)
    obtain ⟨bd4, h⟩ := h
    refine zx_iast C (x1).toNatClampNeg zIsLine_172.2.1 bd4 rfl dX4_tellPost_43 ?_
    refine zx_sig (fun σ5 eσ5 => ?_)
    replace h := h σ5 eσ5
    refine zx_aload_n C dX4_tellPost_44 1 rfl ?_
    refine zx_getR C zs_171 fg_X4_12 rfl 172 rfl dX4_tellPost_45 ?_
    refine zx_getR C zIsLine_172.1 fg_X4_193 rfl 174 rfl dX4_tellPost_48 ?_
    refine zx_iload_n C dX4_tellPost_51 0 rfl ?_
    refine zx_aload_n C dX4_tellPost_52 1 rfl ?_
    refine zx_iconst (v := (1 : Int32)) C dX4_tellPost_53 (by decide) ?_
    refine zx_iconst (v := (0 : Int32)) C dX4_tellPost_54 (by decide) ?_
    refine zx_iconst (v := (3 : Int32)) C dX4_tellPost_55 (by decide) ?_
    refine zx_cVi C [.int (1 : Int32), .int (0 : Int32), .int (3 : Int32)] lk_X4_172 (c_X4_number l D cy g (1 : Int32) (0 : Int32) (3 : Int32)  σ5 h) zs_171 rfl ⟨by decide, by decide⟩ ⟨rfl, rfl⟩ ⟨Nat.zero_le _, Nat.zero_le _⟩ rfl rfl (Nat.le_of_ble_eq_true rfl) dX4_tellPost_56 (fun r7 σ6 h => ?_)
    obtain ⟨bd8, h⟩ := h
    refine zx_iast C (x1).toNatClampNeg zIsLine_172.2.2.1 bd8 rfl dX4_tellPost_59 ?_
    refine zx_sig (fun σ9 eσ9 => ?_)
    replace h := h σ9 eσ9
    refine zx_aload_n C dX4_tellPost_60 1 rfl ?_
    refine zx_getR C zs_171 fg_X4_12 rfl 172 rfl dX4_tellPost_61 ?_
    refine zx_getR C zIsLine_172.1 fg_X4_196 rfl 175 rfl dX4_tellPost_64 ?_
    refine zx_iload_n C dX4_tellPost_67 0 rfl ?_
    refine zx_aload_n C dX4_tellPost_68 1 rfl ?_
    refine zx_iconst (v := (2 : Int32)) C dX4_tellPost_69 (by decide) ?_
    refine zx_iconst (v := (0 : Int32)) C dX4_tellPost_70 (by decide) ?_
    refine zx_bipush (v := (30 : Int32)) C dX4_tellPost_71 (by decide) ?_
    refine zx_cVi C [.int (2 : Int32), .int (0 : Int32), .int (30 : Int32)] lk_X4_172 (c_X4_number l D cy g (2 : Int32) (0 : Int32) (30 : Int32)  σ9 h) zs_171 rfl ⟨by decide, by decide⟩ ⟨rfl, rfl⟩ ⟨Nat.zero_le _, Nat.zero_le _⟩ rfl rfl (Nat.le_of_ble_eq_true rfl) dX4_tellPost_73 (fun r11 σ10 h => ?_)
    obtain ⟨bd12, h⟩ := h
    refine zx_iast C (x1).toNatClampNeg zIsLine_172.2.2.2.1 bd12 rfl dX4_tellPost_76 ?_
    refine zx_sig (fun σ13 eσ13 => ?_)
    replace h := h σ13 eσ13
    refine zx_aload_n C dX4_tellPost_77 1 rfl ?_
    refine zx_getR C zs_171 fg_X4_12 rfl 172 rfl dX4_tellPost_78 ?_
    refine zx_dup C dX4_tellPost_81 rfl ?_
    refine zx_getI C zIsLine_172.1 fg_X4_77 rfl dX4_tellPost_82 ?_
    refine zx_iconst (v := (1 : Int32)) C dX4_tellPost_85 (by decide) ?_
    refine zx_iadd C dX4_tellPost_86 ?_
    refine zx_putI C zIsLine_172.1 fp_X4_77 rfl dX4_tellPost_87 ?_
    refine zx_sig (fun σ14 eσ14 => ?_)
    replace h := h σ14 eσ14
    exact zx_vret C hr dX4_tellPost_90 h
  · replace h := h.2 q
    refine zx_aload_n C dX4_tellPost_12 0 rfl ?_
    refine zx_iconst (v := (3 : Int32)) C dX4_tellPost_13 (by decide) ?_
    refine zx_iload_n C dX4_tellPost_14 1 rfl ?_
    refine zx_cVv C [.int (3 : Int32), .int a1] lk_X4_80 (c_X4_note l D cy g (3 : Int32) a1  σ h) zs_171 rfl ⟨by decide, by decide⟩ ⟨rfl, rfl⟩ ⟨Nat.zero_le _, Nat.zero_le _⟩ rfl rfl (Nat.le_of_ble_eq_true rfl) dX4_tellPost_15 (fun σ15 h => ?_)
    exact zx_vret C hr dX4_tellPost_18 h
theorem fg_X4_199 : zFG RX4 199 0 12 := ⟨RX0, TX0, 18, rfl, lay_X0, by decide, fl_X4_199⟩
theorem fg_X4_202 : zFG RX4 202 0 5 := ⟨RX0, TX0, 18, rfl, lay_X0, by decide, fl_X4_202⟩
theorem fg_X4_205 : zFG RX4 205 0 6 := ⟨RX0, TX0, 18, rfl, lay_X0, by decide, fl_X4_205⟩
theorem fg_X4_64 : zFG RX4 64 4 10 := ⟨RX4, TX4, 13, rfl, lay_X4, by decide, fl_X4_64⟩
theorem fp_X4_64 : zFP RX4 64 4 10 .int := ⟨RX4, TX4, 13, tyX4, rfl, lay_X4, by decide, fl_X4_64, tyX4_ok, nmX4, rfl, by decide +kernel⟩
theorem fg_X4_208 : zFG RX4 208 0 7 := ⟨RX0, TX0, 18, rfl, lay_X0, by decide, fl_X4_208⟩
theorem fg_X4_211 : zFG RX4 211 0 8 := ⟨RX0, TX0, 18, rfl, lay_X0, by decide, fl_X4_211⟩
theorem fg_X4_214 : zFG RX4 214 0 9 := ⟨RX0, TX0, 18, rfl, lay_X0, by decide, fl_X4_214⟩
theorem fg_X4_217 : zFG RX4 217 0 10 := ⟨RX0, TX0, 18, rfl, lay_X0, by decide, fl_X4_217⟩
theorem fp_X4_199 : zFP RX4 199 0 12 .int := ⟨RX0, TX0, 18, tyX0, rfl, lay_X0, by decide, fl_X4_199, tyX0_ok, nmX0, rfl, by decide +kernel⟩
def w_X4_tellRider (a1 : Int32) (σ : zSto) (P : zSto → Prop) : Prop := (((σ.1 172 12) < (6 : Int32) → (∀ x1 : Int32, x1 = (σ.1 172 12) → (w_X4_number (0 : Int32) (0 : Int32) (15 : Int32) σ (fun (r3 : Int32) (σ2 : zSto) => (vp_in x1 6 ∧ (∀ σ5 : zSto, σ5 = zI σ2 178 (x1).toNatClampNeg r3 → (vp_in x1 6 ∧ (w_X4_number (1 : Int32) ((σ5.1 178 (x1).toNatClampNeg) + (1 : Int32)) (15 : Int32) σ5 (fun (r8 : Int32) (σ7 : zSto) => (vp_in x1 6 ∧ (∀ σ10 : zSto, σ10 = zI σ7 179 (x1).toNatClampNeg r8 → (vp_in x1 6 ∧ (∀ σ12 : zSto, σ12 = zI σ10 171 10 (if (σ10.1 171 10) < (σ10.1 179 (x1).toNatClampNeg) then (σ10.1 179 (x1).toNatClampNeg) else (σ10.1 171 10)) → (w_X4_number (2 : Int32) (1 : Int32) (60 : Int32) σ12 (fun (r14 : Int32) (σ13 : zSto) => (vp_in x1 6 ∧ (∀ σ16 : zSto, σ16 = zI σ13 180 (x1).toNatClampNeg r14 → (w_X4_number (3 : Int32) (1 : Int32) (30 : Int32) σ16 (fun (r18 : Int32) (σ17 : zSto) => (vp_in x1 6 ∧ (∀ σ20 : zSto, σ20 = zI σ17 181 (x1).toNatClampNeg r18 → (w_X4_number (4 : Int32) (0 : Int32) (200 : Int32) σ20 (fun (r22 : Int32) (σ21 : zSto) => (vp_in x1 6 ∧ (∀ σ24 : zSto, σ24 = zI σ21 182 (x1).toNatClampNeg r22 → (w_X4_number (5 : Int32) (0 : Int32) (9 : Int32) σ24 (fun (r26 : Int32) (σ25 : zSto) => (vp_in x1 6 ∧ (∀ σ28 : zSto, σ28 = zI σ25 183 (x1).toNatClampNeg r26 → (∀ σ29 : zSto, σ29 = zI σ28 172 12 ((σ28.1 172 12) + (1 : Int32)) → P σ29)))))))))))))))))))))))))))))) ∧ (¬ (σ.1 172 12) < (6 : Int32) → (w_X4_note (3 : Int32) a1 σ (fun (σ30 : zSto) => P σ30))))
set_option maxRecDepth 100000 in
set_option maxHeartbeats 4000000 in
theorem c_X4_tellRider (l : Launch) (D : va_G) (cy : Nat → ClassId) (g : Nat → Nat) (a1 : Int32)  (σ : zSto) {P : zSto → Prop} (h : w_X4_tellRider a1 σ P) : zMv l yX4_tellRider cX4_tellRider 3 none (zrm 2 64) D cy g [.ref (g 171), .int a1] σ P := by
  unfold w_X4_tellRider at h
  refine zm_v RX4 rfl (by decide +kernel) (Nat.le_of_ble_eq_true rfl) ?_
  intro p e s m below meth c C hr
  refine zx_lv (lv' := [(0, .ref (g 171)), (1, .int a1)]) [0, 1] rfl ?_
  refine zx_aload_n C dX4_tellRider_0 0 rfl ?_
  refine zx_getR C zs_171 fg_X4_12 rfl 172 rfl dX4_tellRider_1 ?_
  refine zx_getI C zIsLine_172.1 fg_X4_199 rfl dX4_tellRider_4 ?_
  refine zx_bipush (v := (6 : Int32)) C dX4_tellRider_7 (by decide) ?_
  refine zx_icmp_lt C 19 dX4_tellRider_9 (by decide) (fun q => ?_) (fun q => ?_)
  · replace h := h.1 q
    refine zx_aload_n C dX4_tellRider_19 0 rfl ?_
    refine zx_getR C zs_171 fg_X4_12 rfl 172 rfl dX4_tellRider_20 ?_
    refine zx_getI C zIsLine_172.1 fg_X4_199 rfl dX4_tellRider_23 ?_
    refine zx_topi (fun x1 ex1 => ?_)
    replace h := h x1 ex1
    refine zx_istore_n (lv' := [(2, .int x1), (0, .ref (g 171)), (1, .int a1)]) C dX4_tellRider_26 (by decide) rfl ?_
    refine zx_aload_n C dX4_tellRider_27 1 rfl ?_
    refine zx_getR C zs_171 fg_X4_12 rfl 172 rfl dX4_tellRider_28 ?_
    refine zx_getR C zIsLine_172.1 fg_X4_202 rfl 178 rfl dX4_tellRider_31 ?_
    refine zx_iload_n C dX4_tellRider_34 0 rfl ?_
    refine zx_aload_n C dX4_tellRider_35 1 rfl ?_
    refine zx_iconst (v := (0 : Int32)) C dX4_tellRider_36 (by decide) ?_
    refine zx_iconst (v := (0 : Int32)) C dX4_tellRider_37 (by decide) ?_
    refine zx_bipush (v := (15 : Int32)) C dX4_tellRider_38 (by decide) ?_
    refine zx_cVi C [.int (0 : Int32), .int (0 : Int32), .int (15 : Int32)] lk_X4_172 (c_X4_number l D cy g (0 : Int32) (0 : Int32) (15 : Int32)  σ h) zs_171 rfl ⟨by decide, by decide⟩ ⟨rfl, rfl⟩ ⟨Nat.zero_le _, Nat.zero_le _⟩ rfl rfl (Nat.le_of_ble_eq_true rfl) dX4_tellRider_40 (fun r3 σ2 h => ?_)
    obtain ⟨bd4, h⟩ := h
    refine zx_iast C (x1).toNatClampNeg zIsLine_172.2.2.2.2.2.2.1 bd4 rfl dX4_tellRider_43 ?_
    refine zx_sig (fun σ5 eσ5 => ?_)
    replace h := h σ5 eσ5
    refine zx_aload_n C dX4_tellRider_44 1 rfl ?_
    refine zx_getR C zs_171 fg_X4_12 rfl 172 rfl dX4_tellRider_45 ?_
    refine zx_getR C zIsLine_172.1 fg_X4_205 rfl 179 rfl dX4_tellRider_48 ?_
    refine zx_iload_n C dX4_tellRider_51 0 rfl ?_
    refine zx_aload_n C dX4_tellRider_52 1 rfl ?_
    refine zx_iconst (v := (1 : Int32)) C dX4_tellRider_53 (by decide) ?_
    refine zx_aload_n C dX4_tellRider_54 1 rfl ?_
    refine zx_getR C zs_171 fg_X4_12 rfl 172 rfl dX4_tellRider_55 ?_
    refine zx_getR C zIsLine_172.1 fg_X4_202 rfl 178 rfl dX4_tellRider_58 ?_
    refine zx_iload_n C dX4_tellRider_61 0 rfl ?_
    obtain ⟨bd6, h⟩ := h
    refine zx_iald C (x1).toNatClampNeg zIsLine_172.2.2.2.2.2.2.1 bd6 rfl dX4_tellRider_62 ?_
    refine zx_iconst (v := (1 : Int32)) C dX4_tellRider_63 (by decide) ?_
    refine zx_iadd C dX4_tellRider_64 ?_
    refine zx_bipush (v := (15 : Int32)) C dX4_tellRider_65 (by decide) ?_
    refine zx_cVi C [.int (1 : Int32), .int ((σ5.1 178 (x1).toNatClampNeg) + (1 : Int32)), .int (15 : Int32)] lk_X4_172 (c_X4_number l D cy g (1 : Int32) ((σ5.1 178 (x1).toNatClampNeg) + (1 : Int32)) (15 : Int32)  σ5 h) zs_171 rfl ⟨by decide, by decide⟩ ⟨rfl, rfl⟩ ⟨Nat.zero_le _, Nat.zero_le _⟩ rfl rfl (Nat.le_of_ble_eq_true rfl) dX4_tellRider_67 (fun r8 σ7 h => ?_)
    obtain ⟨bd9, h⟩ := h
    refine zx_iast C (x1).toNatClampNeg zIsLine_172.2.2.2.2.2.2.2.1 bd9 rfl dX4_tellRider_70 ?_
    refine zx_sig (fun σ10 eσ10 => ?_)
    replace h := h σ10 eσ10
    refine zx_aload_n C dX4_tellRider_71 1 rfl ?_
    refine zx_aload_n C dX4_tellRider_72 1 rfl ?_
    refine zx_getI C zs_171 fg_X4_64 rfl dX4_tellRider_73 ?_
    refine zx_aload_n C dX4_tellRider_76 1 rfl ?_
    refine zx_getR C zs_171 fg_X4_12 rfl 172 rfl dX4_tellRider_77 ?_
    refine zx_getR C zIsLine_172.1 fg_X4_205 rfl 179 rfl dX4_tellRider_80 ?_
    refine zx_iload_n C dX4_tellRider_83 0 rfl ?_
    obtain ⟨bd11, h⟩ := h
    refine zx_iald C (x1).toNatClampNeg zIsLine_172.2.2.2.2.2.2.2.1 bd11 rfl dX4_tellRider_84 ?_
    refine zx_max C ml_X4_42 st_math_max ini_J9 cd_math_max (Nat.le_of_ble_eq_true rfl) (Nat.le_of_ble_eq_true rfl) ⟨Nat.zero_le _, Nat.zero_le _⟩ dX4_tellRider_85 ?_
    refine zx_putI C zs_171 fp_X4_64 rfl dX4_tellRider_88 ?_
    refine zx_sig (fun σ12 eσ12 => ?_)
    replace h := h σ12 eσ12
    refine zx_aload_n C dX4_tellRider_91 1 rfl ?_
    refine zx_getR C zs_171 fg_X4_12 rfl 172 rfl dX4_tellRider_92 ?_
    refine zx_getR C zIsLine_172.1 fg_X4_208 rfl 180 rfl dX4_tellRider_95 ?_
    refine zx_iload_n C dX4_tellRider_98 0 rfl ?_
    refine zx_aload_n C dX4_tellRider_99 1 rfl ?_
    refine zx_iconst (v := (2 : Int32)) C dX4_tellRider_100 (by decide) ?_
    refine zx_iconst (v := (1 : Int32)) C dX4_tellRider_101 (by decide) ?_
    refine zx_bipush (v := (60 : Int32)) C dX4_tellRider_102 (by decide) ?_
    refine zx_cVi C [.int (2 : Int32), .int (1 : Int32), .int (60 : Int32)] lk_X4_172 (c_X4_number l D cy g (2 : Int32) (1 : Int32) (60 : Int32)  σ12 h) zs_171 rfl ⟨by decide, by decide⟩ ⟨rfl, rfl⟩ ⟨Nat.zero_le _, Nat.zero_le _⟩ rfl rfl (Nat.le_of_ble_eq_true rfl) dX4_tellRider_104 (fun r14 σ13 h => ?_)
    obtain ⟨bd15, h⟩ := h
    refine zx_iast C (x1).toNatClampNeg zIsLine_172.2.2.2.2.2.2.2.2.1 bd15 rfl dX4_tellRider_107 ?_
    refine zx_sig (fun σ16 eσ16 => ?_)
    replace h := h σ16 eσ16
    refine zx_aload_n C dX4_tellRider_108 1 rfl ?_
    refine zx_getR C zs_171 fg_X4_12 rfl 172 rfl dX4_tellRider_109 ?_
    refine zx_getR C zIsLine_172.1 fg_X4_211 rfl 181 rfl dX4_tellRider_112 ?_
    refine zx_iload_n C dX4_tellRider_115 0 rfl ?_
    refine zx_aload_n C dX4_tellRider_116 1 rfl ?_
    refine zx_iconst (v := (3 : Int32)) C dX4_tellRider_117 (by decide) ?_
    refine zx_iconst (v := (1 : Int32)) C dX4_tellRider_118 (by decide) ?_
    refine zx_bipush (v := (30 : Int32)) C dX4_tellRider_119 (by decide) ?_
    refine zx_cVi C [.int (3 : Int32), .int (1 : Int32), .int (30 : Int32)] lk_X4_172 (c_X4_number l D cy g (3 : Int32) (1 : Int32) (30 : Int32)  σ16 h) zs_171 rfl ⟨by decide, by decide⟩ ⟨rfl, rfl⟩ ⟨Nat.zero_le _, Nat.zero_le _⟩ rfl rfl (Nat.le_of_ble_eq_true rfl) dX4_tellRider_121 (fun r18 σ17 h => ?_)
    obtain ⟨bd19, h⟩ := h
    refine zx_iast C (x1).toNatClampNeg zIsLine_172.2.2.2.2.2.2.2.2.2.1 bd19 rfl dX4_tellRider_124 ?_
    refine zx_sig (fun σ20 eσ20 => ?_)
    replace h := h σ20 eσ20
    refine zx_aload_n C dX4_tellRider_125 1 rfl ?_
    refine zx_getR C zs_171 fg_X4_12 rfl 172 rfl dX4_tellRider_126 ?_
    refine zx_getR C zIsLine_172.1 fg_X4_214 rfl 182 rfl dX4_tellRider_129 ?_
    refine zx_iload_n C dX4_tellRider_132 0 rfl ?_
    refine zx_aload_n C dX4_tellRider_133 1 rfl ?_
    refine zx_iconst (v := (4 : Int32)) C dX4_tellRider_134 (by decide) ?_
    refine zx_iconst (v := (0 : Int32)) C dX4_tellRider_135 (by decide) ?_
    refine zx_sipush (v := (200 : Int32)) C dX4_tellRider_136 (by decide) ?_
    refine zx_cVi C [.int (4 : Int32), .int (0 : Int32), .int (200 : Int32)] lk_X4_172 (c_X4_number l D cy g (4 : Int32) (0 : Int32) (200 : Int32)  σ20 h) zs_171 rfl ⟨by decide, by decide⟩ ⟨rfl, rfl⟩ ⟨Nat.zero_le _, Nat.zero_le _⟩ rfl rfl (Nat.le_of_ble_eq_true rfl) dX4_tellRider_139 (fun r22 σ21 h => ?_)
    obtain ⟨bd23, h⟩ := h
    refine zx_iast C (x1).toNatClampNeg zIsLine_172.2.2.2.2.2.2.2.2.2.2.1 bd23 rfl dX4_tellRider_142 ?_
    refine zx_sig (fun σ24 eσ24 => ?_)
    replace h := h σ24 eσ24
    refine zx_aload_n C dX4_tellRider_143 1 rfl ?_
    refine zx_getR C zs_171 fg_X4_12 rfl 172 rfl dX4_tellRider_144 ?_
    refine zx_getR C zIsLine_172.1 fg_X4_217 rfl 183 rfl dX4_tellRider_147 ?_
    refine zx_iload_n C dX4_tellRider_150 0 rfl ?_
    refine zx_aload_n C dX4_tellRider_151 1 rfl ?_
    refine zx_iconst (v := (5 : Int32)) C dX4_tellRider_152 (by decide) ?_
    refine zx_iconst (v := (0 : Int32)) C dX4_tellRider_153 (by decide) ?_
    refine zx_bipush (v := (9 : Int32)) C dX4_tellRider_154 (by decide) ?_
    refine zx_cVi C [.int (5 : Int32), .int (0 : Int32), .int (9 : Int32)] lk_X4_172 (c_X4_number l D cy g (5 : Int32) (0 : Int32) (9 : Int32)  σ24 h) zs_171 rfl ⟨by decide, by decide⟩ ⟨rfl, rfl⟩ ⟨Nat.zero_le _, Nat.zero_le _⟩ rfl rfl (Nat.le_of_ble_eq_true rfl) dX4_tellRider_156 (fun r26 σ25 h => ?_)
    obtain ⟨bd27, h⟩ := h
    refine zx_iast C (x1).toNatClampNeg zIsLine_172.2.2.2.2.2.2.2.2.2.2.2 bd27 rfl dX4_tellRider_159 ?_
    refine zx_sig (fun σ28 eσ28 => ?_)
    replace h := h σ28 eσ28
    refine zx_aload_n C dX4_tellRider_160 1 rfl ?_
    refine zx_getR C zs_171 fg_X4_12 rfl 172 rfl dX4_tellRider_161 ?_
    refine zx_dup C dX4_tellRider_164 rfl ?_
    refine zx_getI C zIsLine_172.1 fg_X4_199 rfl dX4_tellRider_165 ?_
    refine zx_iconst (v := (1 : Int32)) C dX4_tellRider_168 (by decide) ?_
    refine zx_iadd C dX4_tellRider_169 ?_
    refine zx_putI C zIsLine_172.1 fp_X4_199 rfl dX4_tellRider_170 ?_
    refine zx_sig (fun σ29 eσ29 => ?_)
    replace h := h σ29 eσ29
    exact zx_vret C hr dX4_tellRider_173 h
  · replace h := h.2 q
    refine zx_aload_n C dX4_tellRider_12 0 rfl ?_
    refine zx_iconst (v := (3 : Int32)) C dX4_tellRider_13 (by decide) ?_
    refine zx_iload_n C dX4_tellRider_14 1 rfl ?_
    refine zx_cVv C [.int (3 : Int32), .int a1] lk_X4_80 (c_X4_note l D cy g (3 : Int32) a1  σ h) zs_171 rfl ⟨by decide, by decide⟩ ⟨rfl, rfl⟩ ⟨Nat.zero_le _, Nat.zero_le _⟩ rfl rfl (Nat.le_of_ble_eq_true rfl) dX4_tellRider_15 (fun σ30 h => ?_)
    exact zx_vret C hr dX4_tellRider_18 h
def w_X4_tellOfPost (b1 n1 : Nat) (a2 : Int32) (σ : zSto) (P : zSto → Prop) : Prop := (w_X4_number (0 : Int32) (0 : Int32) (15 : Int32) σ (fun (r2 : Int32) (σ1 : zSto) => (w_X4_number (1 : Int32) (0 : Int32) a2 σ1 (fun (r4 : Int32) (σ3 : zSto) => (∀ σ5 : zSto, σ5 = zI σ3 171 10 (if (σ3.1 171 10) < r2 then r2 else (σ3.1 171 10)) → ((r2 < 0 → P σ5) ∧ (¬ r2 < 0 → (((Int32.ofNat n1) ≤ r2 → P σ5) ∧ (¬ (Int32.ofNat n1) ≤ r2 → (vp_in r2 n1 ∧ (∀ σ7 : zSto, σ7 = zI σ5 b1 (r2).toNatClampNeg r4 → P σ7)))))))))))
set_option maxRecDepth 100000 in
set_option maxHeartbeats 4000000 in
theorem c_X4_tellOfPost (l : Launch) (D : va_G) (cy : Nat → ClassId) (g : Nat → Nat) (b1 n1 : Nat) (a2 : Int32) (hb1 : zsh b1 = za 0 n1) (σ : zSto) {P : zSto → Prop} (h : w_X4_tellOfPost b1 n1 a2 σ P) : zMv l yX4_tellOfPost cX4_tellOfPost 5 none (zrm 2 64) D cy g [.ref (g 171), .ref (g b1), .int a2] σ P := by
  unfold w_X4_tellOfPost at h
  refine zm_v RX4 rfl (by decide +kernel) (Nat.le_of_ble_eq_true rfl) ?_
  intro p e s m below meth c C hr
  refine zx_lv (lv' := [(0, .ref (g 171)), (1, .ref (g b1)), (2, .int a2)]) [0, 1, 2] rfl ?_
  refine zx_aload_n C dX4_tellOfPost_0 0 rfl ?_
  refine zx_iconst (v := (0 : Int32)) C dX4_tellOfPost_1 (by decide) ?_
  refine zx_iconst (v := (0 : Int32)) C dX4_tellOfPost_2 (by decide) ?_
  refine zx_bipush (v := (15 : Int32)) C dX4_tellOfPost_3 (by decide) ?_
  refine zx_cVi C [.int (0 : Int32), .int (0 : Int32), .int (15 : Int32)] lk_X4_172 (c_X4_number l D cy g (0 : Int32) (0 : Int32) (15 : Int32)  σ h) zs_171 rfl ⟨by decide, by decide⟩ ⟨rfl, rfl⟩ ⟨Nat.zero_le _, Nat.zero_le _⟩ rfl rfl (Nat.le_of_ble_eq_true rfl) dX4_tellOfPost_5 (fun r2 σ1 h => ?_)
  refine zx_istore_n (lv' := [(3, .int r2), (0, .ref (g 171)), (1, .ref (g b1)), (2, .int a2)]) C dX4_tellOfPost_8 (by decide) rfl ?_
  refine zx_aload_n C dX4_tellOfPost_9 1 rfl ?_
  refine zx_iconst (v := (1 : Int32)) C dX4_tellOfPost_10 (by decide) ?_
  refine zx_iconst (v := (0 : Int32)) C dX4_tellOfPost_11 (by decide) ?_
  refine zx_iload_n C dX4_tellOfPost_12 3 rfl ?_
  refine zx_cVi C [.int (1 : Int32), .int (0 : Int32), .int a2] lk_X4_172 (c_X4_number l D cy g (1 : Int32) (0 : Int32) a2  σ1 h) zs_171 rfl ⟨by decide, by decide⟩ ⟨rfl, rfl⟩ ⟨Nat.zero_le _, Nat.zero_le _⟩ rfl rfl (Nat.le_of_ble_eq_true rfl) dX4_tellOfPost_13 (fun r4 σ3 h => ?_)
  refine zx_istore (lv' := [(4, .int r4), (3, .int r2), (0, .ref (g 171)), (1, .ref (g b1)), (2, .int a2)]) C dX4_tellOfPost_16 (by decide) rfl ?_
  refine zx_aload_n C dX4_tellOfPost_18 2 rfl ?_
  refine zx_aload_n C dX4_tellOfPost_19 2 rfl ?_
  refine zx_getI C zs_171 fg_X4_64 rfl dX4_tellOfPost_20 ?_
  refine zx_iload_n C dX4_tellOfPost_23 1 rfl ?_
  refine zx_max C ml_X4_42 st_math_max ini_J9 cd_math_max (Nat.le_of_ble_eq_true rfl) (Nat.le_of_ble_eq_true rfl) ⟨Nat.zero_le _, Nat.zero_le _⟩ dX4_tellOfPost_24 ?_
  refine zx_putI C zs_171 fp_X4_64 rfl dX4_tellOfPost_27 ?_
  refine zx_sig (fun σ5 eσ5 => ?_)
  replace h := h σ5 eσ5
  refine zx_iload_n C dX4_tellOfPost_30 1 rfl ?_
  refine zx_if_lt C 45 dX4_tellOfPost_31 (by decide) (fun q => ?_) (fun q => ?_)
  · replace h := h.1 q
    exact zx_vret C hr dX4_tellOfPost_45 h
  · replace h := h.2 q
    refine zx_iload_n C dX4_tellOfPost_34 1 rfl ?_
    refine zx_aload_n C dX4_tellOfPost_35 3 rfl ?_
    refine zx_alen (v := (Int32.ofNat n1)) C hb1 rfl rfl dX4_tellOfPost_36 ?_
    refine zx_icmp_ge C 45 dX4_tellOfPost_37 (by decide) (fun q => ?_) (fun q => ?_)
    · replace h := h.1 q
      exact zx_vret C hr dX4_tellOfPost_45 h
    · replace h := h.2 q
      refine zx_aload_n C dX4_tellOfPost_40 3 rfl ?_
      refine zx_iload_n C dX4_tellOfPost_41 1 rfl ?_
      refine zx_iload C dX4_tellOfPost_42 0 rfl ?_
      obtain ⟨bd6, h⟩ := h
      refine zx_iast C (r2).toNatClampNeg hb1 bd6 rfl dX4_tellOfPost_44 ?_
      refine zx_sig (fun σ7 eσ7 => ?_)
      replace h := h σ7 eσ7
      exact zx_vret C hr dX4_tellOfPost_45 h
theorem fg_X4_21 : zFG RX4 21 4 1 := ⟨RX4, TX4, 13, rfl, lay_X4, by decide, fl_X4_21⟩
theorem fg_X4_70 : zFG RX4 70 2 2 := ⟨RX2, TX2, 3, rfl, lay_X2, by decide, fl_X4_70⟩
theorem lk_X4_220 : zLV RX4 220 RX2 yX2_add cX2_add 3 none 2 := zLV_of ml_X4_220 im_X2_add se_X2_add ini_X2 cd_X2_add (by decide +kernel)
def w_X4_tellPair (a1 : Int32) (a2 : Int32) (a3 : Int32) (σ : zSto) (P : zSto → Prop) : Prop := (((σ.1 184 2) < a2 → (w_X4_number (0 : Int32) (0 : Int32) (15 : Int32) σ (fun (r2 : Int32) (σ1 : zSto) => (w_X4_number (1 : Int32) (0 : Int32) a3 σ1 (fun (r4 : Int32) (σ3 : zSto) => (w_X2_add 184 r2 r4 σ3 (fun (σ5 : zSto) => P σ5))))))) ∧ (¬ (σ.1 184 2) < a2 → (w_X4_note (3 : Int32) a1 σ (fun (σ6 : zSto) => P σ6))))
set_option maxRecDepth 100000 in
set_option maxHeartbeats 4000000 in
theorem c_X4_tellPair (l : Launch) (D : va_G) (cy : Nat → ClassId) (g : Nat → Nat) (a1 : Int32) (a2 : Int32) (a3 : Int32)  (σ : zSto) {P : zSto → Prop} (h : w_X4_tellPair a1 a2 a3 σ P) : zMv l yX4_tellPair cX4_tellPair 5 none (zrm 2 45) D cy g [.ref (g 171), .int a1, .int a2, .int a3] σ P := by
  unfold w_X4_tellPair at h
  refine zm_v RX4 rfl (by decide +kernel) (Nat.le_of_ble_eq_true rfl) ?_
  intro p e s m below meth c C hr
  refine zx_lv (lv' := [(0, .ref (g 171)), (1, .int a1), (2, .int a2), (3, .int a3)]) [0, 1, 2, 3] rfl ?_
  refine zx_aload_n C dX4_tellPair_0 0 rfl ?_
  refine zx_getR C zs_171 fg_X4_21 rfl 184 rfl dX4_tellPair_1 ?_
  refine zx_getI C zIsPairs_184.1 fg_X4_70 rfl dX4_tellPair_4 ?_
  refine zx_iload_n C dX4_tellPair_7 2 rfl ?_
  refine zx_icmp_lt C 18 dX4_tellPair_8 (by decide) (fun q => ?_) (fun q => ?_)
  · replace h := h.1 q
    refine zx_aload_n C dX4_tellPair_18 0 rfl ?_
    refine zx_iconst (v := (0 : Int32)) C dX4_tellPair_19 (by decide) ?_
    refine zx_iconst (v := (0 : Int32)) C dX4_tellPair_20 (by decide) ?_
    refine zx_bipush (v := (15 : Int32)) C dX4_tellPair_21 (by decide) ?_
    refine zx_cVi C [.int (0 : Int32), .int (0 : Int32), .int (15 : Int32)] lk_X4_172 (c_X4_number l D cy g (0 : Int32) (0 : Int32) (15 : Int32)  σ h) zs_171 rfl ⟨by decide, by decide⟩ ⟨rfl, rfl⟩ ⟨Nat.zero_le _, Nat.zero_le _⟩ rfl rfl (Nat.le_of_ble_eq_true rfl) dX4_tellPair_23 (fun r2 σ1 h => ?_)
    refine zx_istore (lv' := [(4, .int r2), (0, .ref (g 171)), (1, .int a1), (2, .int a2), (3, .int a3)]) C dX4_tellPair_26 (by decide) rfl ?_
    refine zx_aload_n C dX4_tellPair_28 1 rfl ?_
    refine zx_getR C zs_171 fg_X4_21 rfl 184 rfl dX4_tellPair_29 ?_
    refine zx_iload C dX4_tellPair_32 0 rfl ?_
    refine zx_aload_n C dX4_tellPair_34 1 rfl ?_
    refine zx_iconst (v := (1 : Int32)) C dX4_tellPair_35 (by decide) ?_
    refine zx_iconst (v := (0 : Int32)) C dX4_tellPair_36 (by decide) ?_
    refine zx_iload_n C dX4_tellPair_37 4 rfl ?_
    refine zx_cVi C [.int (1 : Int32), .int (0 : Int32), .int a3] lk_X4_172 (c_X4_number l D cy g (1 : Int32) (0 : Int32) a3  σ1 h) zs_171 rfl ⟨by decide, by decide⟩ ⟨rfl, rfl⟩ ⟨Nat.zero_le _, Nat.zero_le _⟩ rfl rfl (Nat.le_of_ble_eq_true rfl) dX4_tellPair_38 (fun r4 σ3 h => ?_)
    refine zx_cVv C [.int r2, .int r4] lk_X4_220 (c_X2_add l D cy g 184 r2 r4 zIsPairs_184 σ3 h) zIsPairs_184.1 rfl ⟨by decide, by decide⟩ ⟨rfl, rfl⟩ ⟨Nat.zero_le _, Nat.zero_le _⟩ rfl rfl (Nat.le_of_ble_eq_true rfl) dX4_tellPair_41 (fun σ5 h => ?_)
    exact zx_vret C hr dX4_tellPair_44 h
  · replace h := h.2 q
    refine zx_aload_n C dX4_tellPair_11 0 rfl ?_
    refine zx_iconst (v := (3 : Int32)) C dX4_tellPair_12 (by decide) ?_
    refine zx_iload_n C dX4_tellPair_13 1 rfl ?_
    refine zx_cVv C [.int (3 : Int32), .int a1] lk_X4_80 (c_X4_note l D cy g (3 : Int32) a1  σ h) zs_171 rfl ⟨by decide, by decide⟩ ⟨rfl, rfl⟩ ⟨Nat.zero_le _, Nat.zero_le _⟩ rfl rfl (Nat.le_of_ble_eq_true rfl) dX4_tellPair_14 (fun σ6 h => ?_)
    exact zx_vret C hr dX4_tellPair_17 h
theorem lk_X4_157 : zLV RX4 157 RX4 yX4_tellPost cX4_tellPost 3 none 1 := zLV_of ml_X4_157 im_X4_tellPost se_X4_tellPost ini_X4 cd_X4_tellPost (by decide +kernel)
theorem lk_X4_160 : zLV RX4 160 RX4 yX4_tellRider cX4_tellRider 3 none 1 := zLV_of ml_X4_160 im_X4_tellRider se_X4_tellRider ini_X4 cd_X4_tellRider (by decide +kernel)
theorem fg_X4_163 : zFG RX4 163 0 4 := ⟨RX0, TX0, 18, rfl, lay_X0, by decide, fl_X4_163⟩
theorem lk_X4_166 : zLV RX4 166 RX4 yX4_tellOfPost cX4_tellOfPost 5 none 2 := zLV_of ml_X4_166 im_X4_tellOfPost se_X4_tellOfPost ini_X4 cd_X4_tellOfPost (by decide +kernel)
theorem fg_X4_170 : zFG RX4 170 0 3 := ⟨RX0, TX0, 18, rfl, lay_X0, by decide, fl_X4_170⟩
theorem fp_X4_176 : zFP RX4 176 0 13 .int := ⟨RX0, TX0, 18, tyX0, rfl, lay_X0, by decide, fl_X4_176, tyX0_ok, nmX0, rfl, by decide +kernel⟩
theorem fp_X4_178 : zFP RX4 178 0 14 .int := ⟨RX0, TX0, 18, tyX0, rfl, lay_X0, by decide, fl_X4_178, tyX0_ok, nmX0, rfl, by decide +kernel⟩
theorem fp_X4_180 : zFP RX4 180 0 15 .int := ⟨RX0, TX0, 18, tyX0, rfl, lay_X0, by decide, fl_X4_180, tyX0_ok, nmX0, rfl, by decide +kernel⟩
theorem fp_X4_182 : zFP RX4 182 0 16 .int := ⟨RX0, TX0, 18, tyX0, rfl, lay_X0, by decide, fl_X4_182, tyX0_ok, nmX0, rfl, by decide +kernel⟩
theorem fp_X4_184 : zFP RX4 184 0 17 .int := ⟨RX0, TX0, 18, tyX0, rfl, lay_X0, by decide, fl_X4_184, tyX0_ok, nmX0, rfl, by decide +kernel⟩
theorem lk_X4_186 : zLV RX4 186 RX4 yX4_tellPair cX4_tellPair 5 none 3 := zLV_of ml_X4_186 im_X4_tellPair se_X4_tellPair ini_X4 cd_X4_tellPair (by decide +kernel)
def w_X4_tell (a1 : Int32) (a2 : Int32) (σ : zSto) (P : zSto → Prop) : Prop := ((a1 = 0 → (w_X4_tellPost a2 σ (fun (σ1 : zSto) => P σ1))) ∧ (a1 = 1 → (w_X4_tellRider a2 σ (fun (σ2 : zSto) => P σ2))) ∧ (a1 = 2 → (w_X4_tellOfPost 177 16 (999 : Int32) σ (fun (σ3 : zSto) => P σ3))) ∧ (a1 = 3 → (w_X4_tellOfPost 176 16 (10 : Int32) σ (fun (σ4 : zSto) => P σ4))) ∧ (a1 = 4 → (w_X4_number (0 : Int32) (1 : Int32) (9 : Int32) σ (fun (r6 : Int32) (σ5 : zSto) => (∀ σ7 : zSto, σ7 = zI σ5 172 13 r6 → P σ7)))) ∧ (a1 = 5 → (w_X4_number (0 : Int32) (0 : Int32) (9 : Int32) σ (fun (r9 : Int32) (σ8 : zSto) => (∀ σ10 : zSto, σ10 = zI σ8 172 14 r9 → P σ10)))) ∧ (a1 = 6 → (w_X4_number (0 : Int32) (0 : Int32) (60 : Int32) σ (fun (r12 : Int32) (σ11 : zSto) => (∀ σ13 : zSto, σ13 = zI σ11 172 15 r12 → P σ13)))) ∧ (a1 = 7 → (w_X4_number (0 : Int32) (0 : Int32) (9 : Int32) σ (fun (r15 : Int32) (σ14 : zSto) => (∀ σ16 : zSto, σ16 = zI σ14 172 16 r15 → P σ16)))) ∧ (a1 = 8 → (w_X4_number (0 : Int32) (0 : Int32) (999 : Int32) σ (fun (r18 : Int32) (σ17 : zSto) => (∀ σ19 : zSto, σ19 = zI σ17 172 17 r18 → P σ19)))) ∧ (a1 = 9 → (w_X4_tellPair a2 (16 : Int32) (5 : Int32) σ (fun (σ20 : zSto) => P σ20))) ∧ ((a1.toInt < 0 ∨ 9 < a1.toInt) → (w_X4_tellPair a2 (10 : Int32) (999 : Int32) σ (fun (σ21 : zSto) => P σ21))))
set_option maxRecDepth 100000 in
set_option maxHeartbeats 4000000 in
theorem c_X4_tell (l : Launch) (D : va_G) (cy : Nat → ClassId) (g : Nat → Nat) (a1 : Int32) (a2 : Int32)  (σ : zSto) {P : zSto → Prop} (h : w_X4_tell a1 a2 σ P) : zMv l yX4_tell cX4_tell 3 none (zrm 3 88) D cy g [.ref (g 171), .int a1, .int a2] σ P := by
  unfold w_X4_tell at h
  refine zm_v RX4 rfl (by decide +kernel) (Nat.le_of_ble_eq_true rfl) ?_
  intro p e s m below meth c C hr
  refine zx_lv (lv' := [(0, .ref (g 171)), (1, .int a1), (2, .int a2)]) [0, 1, 2] rfl ?_
  refine zx_iload_n C dX4_tell_0 1 rfl ?_
  refine zsw (x := a1) 9 (fun q => ?_) (fun i hi q => ?_)
  · replace h := h.2.2.2.2.2.2.2.2.2.2 q
    refine zx_tableOut C 207 dX4_tell_1 q (by decide) ?_
    refine zx_aload_n C dX4_tell_207 0 rfl ?_
    refine zx_iload_n C dX4_tell_208 2 rfl ?_
    refine zx_bipush (v := (10 : Int32)) C dX4_tell_209 (by decide) ?_
    refine zx_sipush (v := (999 : Int32)) C dX4_tell_211 (by decide) ?_
    refine zx_cVv C [.int a2, .int (10 : Int32), .int (999 : Int32)] lk_X4_186 (c_X4_tellPair l D cy g a2 (10 : Int32) (999 : Int32)  σ h) zs_171 rfl ⟨by decide, by decide⟩ ⟨rfl, rfl⟩ ⟨Nat.zero_le _, Nat.zero_le _⟩ rfl rfl (Nat.le_of_ble_eq_true rfl) dX4_tell_214 (fun σ21 h => ?_)
    exact zx_vret C hr dX4_tell_217 h
  · match i, hi, q with
    | 0, _, q =>
      replace h := h.1 q
      refine zx_tableIn C 56 (0 : Int32) q dX4_tell_1 (by decide) (by decide) rfl (by decide) ?_
      refine zx_aload_n C dX4_tell_56 0 rfl ?_
      refine zx_iload_n C dX4_tell_57 2 rfl ?_
      refine zx_cVv C [.int a2] lk_X4_157 (c_X4_tellPost l D cy g a2  σ h) zs_171 rfl ⟨by decide, by decide⟩ ⟨rfl, rfl⟩ ⟨Nat.zero_le _, Nat.zero_le _⟩ rfl rfl (Nat.le_of_ble_eq_true rfl) dX4_tell_58 (fun σ1 h => ?_)
      refine zx_goto C 217 dX4_tell_61 (by decide) ?_
      exact zx_vret C hr dX4_tell_217 h
    | 1, _, q =>
      replace h := h.2.1 q
      refine zx_tableIn C 64 (1 : Int32) q dX4_tell_1 (by decide) (by decide) rfl (by decide) ?_
      refine zx_aload_n C dX4_tell_64 0 rfl ?_
      refine zx_iload_n C dX4_tell_65 2 rfl ?_
      refine zx_cVv C [.int a2] lk_X4_160 (c_X4_tellRider l D cy g a2  σ h) zs_171 rfl ⟨by decide, by decide⟩ ⟨rfl, rfl⟩ ⟨Nat.zero_le _, Nat.zero_le _⟩ rfl rfl (Nat.le_of_ble_eq_true rfl) dX4_tell_66 (fun σ2 h => ?_)
      refine zx_goto C 217 dX4_tell_69 (by decide) ?_
      exact zx_vret C hr dX4_tell_217 h
    | 2, _, q =>
      replace h := h.2.2.1 q
      refine zx_tableIn C 72 (2 : Int32) q dX4_tell_1 (by decide) (by decide) rfl (by decide) ?_
      refine zx_aload_n C dX4_tell_72 0 rfl ?_
      refine zx_aload_n C dX4_tell_73 0 rfl ?_
      refine zx_getR C zs_171 fg_X4_12 rfl 172 rfl dX4_tell_74 ?_
      refine zx_getR C zIsLine_172.1 fg_X4_163 rfl 177 rfl dX4_tell_77 ?_
      refine zx_sipush (v := (999 : Int32)) C dX4_tell_80 (by decide) ?_
      refine zx_cVv C [.ref (g 177), .int (999 : Int32)] lk_X4_166 (c_X4_tellOfPost l D cy g 177 16 (999 : Int32) zIsLine_172.2.2.2.2.2.1 σ h) zs_171 rfl ⟨by decide, by decide⟩ ⟨rfl, rfl⟩ ⟨Nat.zero_le _, Nat.zero_le _⟩ rfl rfl (Nat.le_of_ble_eq_true rfl) dX4_tell_83 (fun σ3 h => ?_)
      refine zx_goto C 217 dX4_tell_86 (by decide) ?_
      exact zx_vret C hr dX4_tell_217 h
    | 3, _, q =>
      replace h := h.2.2.2.1 q
      refine zx_tableIn C 89 (3 : Int32) q dX4_tell_1 (by decide) (by decide) rfl (by decide) ?_
      refine zx_aload_n C dX4_tell_89 0 rfl ?_
      refine zx_aload_n C dX4_tell_90 0 rfl ?_
      refine zx_getR C zs_171 fg_X4_12 rfl 172 rfl dX4_tell_91 ?_
      refine zx_getR C zIsLine_172.1 fg_X4_170 rfl 176 rfl dX4_tell_94 ?_
      refine zx_bipush (v := (10 : Int32)) C dX4_tell_97 (by decide) ?_
      refine zx_cVv C [.ref (g 176), .int (10 : Int32)] lk_X4_166 (c_X4_tellOfPost l D cy g 176 16 (10 : Int32) zIsLine_172.2.2.2.2.1 σ h) zs_171 rfl ⟨by decide, by decide⟩ ⟨rfl, rfl⟩ ⟨Nat.zero_le _, Nat.zero_le _⟩ rfl rfl (Nat.le_of_ble_eq_true rfl) dX4_tell_99 (fun σ4 h => ?_)
      refine zx_goto C 217 dX4_tell_102 (by decide) ?_
      exact zx_vret C hr dX4_tell_217 h
    | 4, _, q =>
      replace h := h.2.2.2.2.1 q
      refine zx_tableIn C 105 (4 : Int32) q dX4_tell_1 (by decide) (by decide) rfl (by decide) ?_
      refine zx_aload_n C dX4_tell_105 0 rfl ?_
      refine zx_getR C zs_171 fg_X4_12 rfl 172 rfl dX4_tell_106 ?_
      refine zx_aload_n C dX4_tell_109 0 rfl ?_
      refine zx_iconst (v := (0 : Int32)) C dX4_tell_110 (by decide) ?_
      refine zx_iconst (v := (1 : Int32)) C dX4_tell_111 (by decide) ?_
      refine zx_bipush (v := (9 : Int32)) C dX4_tell_112 (by decide) ?_
      refine zx_cVi C [.int (0 : Int32), .int (1 : Int32), .int (9 : Int32)] lk_X4_172 (c_X4_number l D cy g (0 : Int32) (1 : Int32) (9 : Int32)  σ h) zs_171 rfl ⟨by decide, by decide⟩ ⟨rfl, rfl⟩ ⟨Nat.zero_le _, Nat.zero_le _⟩ rfl rfl (Nat.le_of_ble_eq_true rfl) dX4_tell_114 (fun r6 σ5 h => ?_)
      refine zx_putI C zIsLine_172.1 fp_X4_176 rfl dX4_tell_117 ?_
      refine zx_sig (fun σ7 eσ7 => ?_)
      replace h := h σ7 eσ7
      refine zx_goto C 217 dX4_tell_120 (by decide) ?_
      exact zx_vret C hr dX4_tell_217 h
    | 5, _, q =>
      replace h := h.2.2.2.2.2.1 q
      refine zx_tableIn C 123 (5 : Int32) q dX4_tell_1 (by decide) (by decide) rfl (by decide) ?_
      refine zx_aload_n C dX4_tell_123 0 rfl ?_
      refine zx_getR C zs_171 fg_X4_12 rfl 172 rfl dX4_tell_124 ?_
      refine zx_aload_n C dX4_tell_127 0 rfl ?_
      refine zx_iconst (v := (0 : Int32)) C dX4_tell_128 (by decide) ?_
      refine zx_iconst (v := (0 : Int32)) C dX4_tell_129 (by decide) ?_
      refine zx_bipush (v := (9 : Int32)) C dX4_tell_130 (by decide) ?_
      refine zx_cVi C [.int (0 : Int32), .int (0 : Int32), .int (9 : Int32)] lk_X4_172 (c_X4_number l D cy g (0 : Int32) (0 : Int32) (9 : Int32)  σ h) zs_171 rfl ⟨by decide, by decide⟩ ⟨rfl, rfl⟩ ⟨Nat.zero_le _, Nat.zero_le _⟩ rfl rfl (Nat.le_of_ble_eq_true rfl) dX4_tell_132 (fun r9 σ8 h => ?_)
      refine zx_putI C zIsLine_172.1 fp_X4_178 rfl dX4_tell_135 ?_
      refine zx_sig (fun σ10 eσ10 => ?_)
      replace h := h σ10 eσ10
      refine zx_goto C 217 dX4_tell_138 (by decide) ?_
      exact zx_vret C hr dX4_tell_217 h
    | 6, _, q =>
      replace h := h.2.2.2.2.2.2.1 q
      refine zx_tableIn C 141 (6 : Int32) q dX4_tell_1 (by decide) (by decide) rfl (by decide) ?_
      refine zx_aload_n C dX4_tell_141 0 rfl ?_
      refine zx_getR C zs_171 fg_X4_12 rfl 172 rfl dX4_tell_142 ?_
      refine zx_aload_n C dX4_tell_145 0 rfl ?_
      refine zx_iconst (v := (0 : Int32)) C dX4_tell_146 (by decide) ?_
      refine zx_iconst (v := (0 : Int32)) C dX4_tell_147 (by decide) ?_
      refine zx_bipush (v := (60 : Int32)) C dX4_tell_148 (by decide) ?_
      refine zx_cVi C [.int (0 : Int32), .int (0 : Int32), .int (60 : Int32)] lk_X4_172 (c_X4_number l D cy g (0 : Int32) (0 : Int32) (60 : Int32)  σ h) zs_171 rfl ⟨by decide, by decide⟩ ⟨rfl, rfl⟩ ⟨Nat.zero_le _, Nat.zero_le _⟩ rfl rfl (Nat.le_of_ble_eq_true rfl) dX4_tell_150 (fun r12 σ11 h => ?_)
      refine zx_putI C zIsLine_172.1 fp_X4_180 rfl dX4_tell_153 ?_
      refine zx_sig (fun σ13 eσ13 => ?_)
      replace h := h σ13 eσ13
      refine zx_goto C 217 dX4_tell_156 (by decide) ?_
      exact zx_vret C hr dX4_tell_217 h
    | 7, _, q =>
      replace h := h.2.2.2.2.2.2.2.1 q
      refine zx_tableIn C 159 (7 : Int32) q dX4_tell_1 (by decide) (by decide) rfl (by decide) ?_
      refine zx_aload_n C dX4_tell_159 0 rfl ?_
      refine zx_getR C zs_171 fg_X4_12 rfl 172 rfl dX4_tell_160 ?_
      refine zx_aload_n C dX4_tell_163 0 rfl ?_
      refine zx_iconst (v := (0 : Int32)) C dX4_tell_164 (by decide) ?_
      refine zx_iconst (v := (0 : Int32)) C dX4_tell_165 (by decide) ?_
      refine zx_bipush (v := (9 : Int32)) C dX4_tell_166 (by decide) ?_
      refine zx_cVi C [.int (0 : Int32), .int (0 : Int32), .int (9 : Int32)] lk_X4_172 (c_X4_number l D cy g (0 : Int32) (0 : Int32) (9 : Int32)  σ h) zs_171 rfl ⟨by decide, by decide⟩ ⟨rfl, rfl⟩ ⟨Nat.zero_le _, Nat.zero_le _⟩ rfl rfl (Nat.le_of_ble_eq_true rfl) dX4_tell_168 (fun r15 σ14 h => ?_)
      refine zx_putI C zIsLine_172.1 fp_X4_182 rfl dX4_tell_171 ?_
      refine zx_sig (fun σ16 eσ16 => ?_)
      replace h := h σ16 eσ16
      refine zx_goto C 217 dX4_tell_174 (by decide) ?_
      exact zx_vret C hr dX4_tell_217 h
    | 8, _, q =>
      replace h := h.2.2.2.2.2.2.2.2.1 q
      refine zx_tableIn C 177 (8 : Int32) q dX4_tell_1 (by decide) (by decide) rfl (by decide) ?_
      refine zx_aload_n C dX4_tell_177 0 rfl ?_
      refine zx_getR C zs_171 fg_X4_12 rfl 172 rfl dX4_tell_178 ?_
      refine zx_aload_n C dX4_tell_181 0 rfl ?_
      refine zx_iconst (v := (0 : Int32)) C dX4_tell_182 (by decide) ?_
      refine zx_iconst (v := (0 : Int32)) C dX4_tell_183 (by decide) ?_
      refine zx_sipush (v := (999 : Int32)) C dX4_tell_184 (by decide) ?_
      refine zx_cVi C [.int (0 : Int32), .int (0 : Int32), .int (999 : Int32)] lk_X4_172 (c_X4_number l D cy g (0 : Int32) (0 : Int32) (999 : Int32)  σ h) zs_171 rfl ⟨by decide, by decide⟩ ⟨rfl, rfl⟩ ⟨Nat.zero_le _, Nat.zero_le _⟩ rfl rfl (Nat.le_of_ble_eq_true rfl) dX4_tell_187 (fun r18 σ17 h => ?_)
      refine zx_putI C zIsLine_172.1 fp_X4_184 rfl dX4_tell_190 ?_
      refine zx_sig (fun σ19 eσ19 => ?_)
      replace h := h σ19 eσ19
      refine zx_goto C 217 dX4_tell_193 (by decide) ?_
      exact zx_vret C hr dX4_tell_217 h
    | 9, _, q =>
      replace h := h.2.2.2.2.2.2.2.2.2.1 q
      refine zx_tableIn C 196 (9 : Int32) q dX4_tell_1 (by decide) (by decide) rfl (by decide) ?_
      refine zx_aload_n C dX4_tell_196 0 rfl ?_
      refine zx_iload_n C dX4_tell_197 2 rfl ?_
      refine zx_bipush (v := (16 : Int32)) C dX4_tell_198 (by decide) ?_
      refine zx_iconst (v := (5 : Int32)) C dX4_tell_200 (by decide) ?_
      refine zx_cVv C [.int a2, .int (16 : Int32), .int (5 : Int32)] lk_X4_186 (c_X4_tellPair l D cy g a2 (16 : Int32) (5 : Int32)  σ h) zs_171 rfl ⟨by decide, by decide⟩ ⟨rfl, rfl⟩ ⟨Nat.zero_le _, Nat.zero_le _⟩ rfl rfl (Nat.le_of_ble_eq_true rfl) dX4_tell_201 (fun σ20 h => ?_)
      refine zx_goto C 217 dX4_tell_204 (by decide) ?_
      exact zx_vret C hr dX4_tell_217 h
    | i + 10, hi, _ => exact absurd hi (by omega)
theorem lk_X4_93 : zLV RX4 93 RX4 yX4_wordOf cX4_wordOf 2 (some .int) 1 := zLV_of ml_X4_93 im_X4_wordOf se_X4_wordOf ini_X4 cd_X4_wordOf (by decide +kernel)
theorem lk_X4_97 : zLV RX4 97 RX4 yX4_readNumbers cX4_readNumbers 4 (some .boolean) 1 := zLV_of ml_X4_97 im_X4_readNumbers se_X4_readNumbers ini_X4 cd_X4_readNumbers (by decide +kernel)
theorem lk_X4_101 : zLV RX4 101 RX4 yX4_tell cX4_tell 3 none 2 := zLV_of ml_X4_101 im_X4_tell se_X4_tell ini_X4 cd_X4_tell (by decide +kernel)
def w_X4_readRows_2 (x_1 : Int32) (P : zSto → Prop)  : Nat → Int32 → zSto → Prop
  | 0, _, _ => False
  | n + 1, x_2, σ => (((600 : Int32) < x_2 → P σ) ∧ (¬ (600 : Int32) < x_2 → (w_X4_nextToken  σ (fun (σ1 : zSto) => ((¬ (σ1.1 171 7) = 0 → (∀ x2 : Int32, x2 = (σ1.1 171 8) → ((¬ (σ1.1 171 7) = (1 : Int32) → (∀ σ3 : zSto, σ3 = zI σ1 171 11 (1 : Int32) → (∀ σ4 : zSto, σ4 = zI σ3 171 12 (σ3.1 171 8) → P σ4))) ∧ ((σ1.1 171 7) = (1 : Int32) → (w_X4_wordOf x_1 σ1 (fun (r6 : Int32) (σ5 : zSto) => ((r6 = (-1 : Int32) → (∀ σ7 : zSto, σ7 = zI σ5 171 11 (1 : Int32) → (∀ σ8 : zSto, σ8 = zI σ7 171 12 (σ7.1 171 8) → P σ8))) ∧ (¬ r6 = (-1 : Int32) → (w_X4_readNumbers r6 σ5 (fun (r10 : Int32) (σ9 : zSto) => (r10 = 0 ∨ r10 = 1) → ((¬ r10 = 0 → (w_X4_tell r6 x2 σ9 (fun (σ11 : zSto) => (∀ x12 : Int32, x12 = (x_2 + (1 : Int32)) → w_X4_readRows_2 x_1 P n x12 σ11)))) ∧ (r10 = 0 → (∀ σ13 : zSto, σ13 = zI σ9 171 11 (1 : Int32) → (∀ σ14 : zSto, σ14 = zI σ13 171 12 (σ13.1 171 8) → P σ14)))))))))))))) ∧ ((σ1.1 171 7) = 0 → P σ1))))))
def w_X4_readRows (a1 : Int32) (σ : zSto) (P : zSto → Prop) : Prop := (∃ n : Nat, w_X4_readRows_2 a1 P  n (0 : Int32) σ)
set_option maxRecDepth 100000 in
set_option maxHeartbeats 4000000 in
theorem k_X4_readRows_2 {p : Program} {l : Launch} {e : Env} {s : State} {m : MethodId} {args : Array Value} {below : List Frame} {meth : Method} {c : Code} {D : va_G} {cy : Nat → ClassId} {g : Nat → Nat} (C : zC p s m args meth c cX4_readRows RX4 5 D cy g) (hr : meth.sig.returnType = none) {P : zSto → Prop} (x_1 : Int32)    : ∀ (n : Nat) (x_2 : Int32) (σ : zSto), w_X4_readRows_2 x_1 P n x_2 σ → zX p l e (zrm 7 148) s m args below meth c 0 0 (zQv P below args s D cy g) 5 D cy g 2 [(0, .ref (g 171)), (1, .int x_1), (2, .int x_2)] [] σ := by
  intro n
  induction n with
  | zero => intro x_2 σ h; exact h.elim
  | succ n ih =>
    intro x_2 σ h
    unfold w_X4_readRows_2 at h
    refine zx_iload_n C dX4_readRows_2 2 rfl ?_
    refine zx_sipush (v := (600 : Int32)) C dX4_readRows_3 (by decide) ?_
    refine zx_icmp_gt C 87 dX4_readRows_6 (by decide) (fun q => ?_) (fun q => ?_)
    · replace h := h.1 q
      exact zx_vret C hr dX4_readRows_87 h
    · replace h := h.2 q
      refine zx_aload_n C dX4_readRows_9 0 rfl ?_
      refine zx_cVv C [] lk_X4_84 (c_X4_nextToken l D cy g   σ h) zs_171 rfl ⟨by decide, by decide⟩ ⟨rfl, rfl⟩ ⟨Nat.zero_le _, Nat.zero_le _⟩ rfl rfl (Nat.le_of_ble_eq_true rfl) dX4_readRows_10 (fun σ1 h => ?_)
      refine zx_aload_n C dX4_readRows_13 0 rfl ?_
      refine zx_getI C zs_171 fg_X4_87 rfl dX4_readRows_14 ?_
      refine zx_if_ne C 21 dX4_readRows_17 (by decide) (fun q => ?_) (fun q => ?_)
      · replace h := h.1 q
        refine zx_aload_n C dX4_readRows_21 0 rfl ?_
        refine zx_getI C zs_171 fg_X4_90 rfl dX4_readRows_22 ?_
        refine zx_topi (fun x2 ex2 => ?_)
        replace h := h x2 ex2
        refine zx_istore_n (lv' := [(3, .int x2), (0, .ref (g 171)), (1, .int x_1), (2, .int x_2)]) C dX4_readRows_25 (by decide) rfl ?_
        refine zx_aload_n C dX4_readRows_26 1 rfl ?_
        refine zx_getI C zs_171 fg_X4_87 rfl dX4_readRows_27 ?_
        refine zx_iconst (v := (1 : Int32)) C dX4_readRows_30 (by decide) ?_
        refine zx_icmp_ne C 42 dX4_readRows_31 (by decide) (fun q => ?_) (fun q => ?_)
        · replace h := h.1 q
          refine zx_iconst (v := (-1 : Int32)) C dX4_readRows_42 (by decide) ?_
          refine zx_istore (lv' := [(4, .int (-1 : Int32)), (3, .int x2), (0, .ref (g 171)), (1, .int x_1), (2, .int x_2)]) C dX4_readRows_43 (by decide) rfl ?_
          refine zx_iload C dX4_readRows_45 0 rfl ?_
          refine zx_iconst (v := (-1 : Int32)) C dX4_readRows_47 (by decide) ?_
          refine zx_icmp_eq C 60 dX4_readRows_48 (by decide) (fun q => ?_) (fun q => ?_)
          · refine zx_aload_n C dX4_readRows_60 2 rfl ?_
            refine zx_iconst (v := (1 : Int32)) C dX4_readRows_61 (by decide) ?_
            refine zx_putI C zs_171 fp_X4_58 rfl dX4_readRows_62 ?_
            refine zx_sig (fun σ3 eσ3 => ?_)
            replace h := h σ3 eσ3
            refine zx_aload_n C dX4_readRows_65 2 rfl ?_
            refine zx_aload_n C dX4_readRows_66 2 rfl ?_
            refine zx_getI C zs_171 fg_X4_90 rfl dX4_readRows_67 ?_
            refine zx_putI C zs_171 fp_X4_61 rfl dX4_readRows_70 ?_
            refine zx_sig (fun σ4 eσ4 => ?_)
            replace h := h σ4 eσ4
            exact zx_vret C hr dX4_readRows_73 h
          · exact absurd q (by decide)
        · replace h := h.2 q
          refine zx_aload_n C dX4_readRows_34 1 rfl ?_
          refine zx_iload_n C dX4_readRows_35 2 rfl ?_
          refine zx_cVi C [.int x_1] lk_X4_93 (c_X4_wordOf l D cy g x_1  σ1 h) zs_171 rfl ⟨by decide, by decide⟩ ⟨rfl, rfl⟩ ⟨Nat.zero_le _, Nat.zero_le _⟩ rfl rfl (Nat.le_of_ble_eq_true rfl) dX4_readRows_36 (fun r6 σ5 h => ?_)
          refine zx_goto C 43 dX4_readRows_39 (by decide) ?_
          refine zx_istore (lv' := [(4, .int r6), (3, .int x2), (0, .ref (g 171)), (1, .int x_1), (2, .int x_2)]) C dX4_readRows_43 (by decide) rfl ?_
          refine zx_iload C dX4_readRows_45 0 rfl ?_
          refine zx_iconst (v := (-1 : Int32)) C dX4_readRows_47 (by decide) ?_
          refine zx_icmp_eq C 60 dX4_readRows_48 (by decide) (fun q => ?_) (fun q => ?_)
          · replace h := h.1 q
            refine zx_aload_n C dX4_readRows_60 2 rfl ?_
            refine zx_iconst (v := (1 : Int32)) C dX4_readRows_61 (by decide) ?_
            refine zx_putI C zs_171 fp_X4_58 rfl dX4_readRows_62 ?_
            refine zx_sig (fun σ7 eσ7 => ?_)
            replace h := h σ7 eσ7
            refine zx_aload_n C dX4_readRows_65 2 rfl ?_
            refine zx_aload_n C dX4_readRows_66 2 rfl ?_
            refine zx_getI C zs_171 fg_X4_90 rfl dX4_readRows_67 ?_
            refine zx_putI C zs_171 fp_X4_61 rfl dX4_readRows_70 ?_
            refine zx_sig (fun σ8 eσ8 => ?_)
            replace h := h σ8 eσ8
            exact zx_vret C hr dX4_readRows_73 h
          · replace h := h.2 q
            refine zx_aload_n C dX4_readRows_51 2 rfl ?_
            refine zx_iload C dX4_readRows_52 0 rfl ?_
            refine zx_cVb C [.int r6] lk_X4_97 (c_X4_readNumbers l D cy g r6  σ5 h) zs_171 rfl ⟨by decide, by decide⟩ ⟨rfl, rfl⟩ ⟨Nat.zero_le _, Nat.zero_le _⟩ rfl rfl (Nat.le_of_ble_eq_true rfl) dX4_readRows_54 (fun r10 σ9 hb h => ?_)
            replace h := h hb
            refine zx_if_ne C 74 dX4_readRows_57 (by decide) (fun q => ?_) (fun q => ?_)
            · replace h := h.1 q
              refine zx_aload_n C dX4_readRows_74 2 rfl ?_
              refine zx_iload C dX4_readRows_75 0 rfl ?_
              refine zx_iload_n C dX4_readRows_77 1 rfl ?_
              refine zx_cVv C [.int r6, .int x2] lk_X4_101 (c_X4_tell l D cy g r6 x2  σ9 h) zs_171 rfl ⟨by decide, by decide⟩ ⟨rfl, rfl⟩ ⟨Nat.zero_le _, Nat.zero_le _⟩ rfl rfl (Nat.le_of_ble_eq_true rfl) dX4_readRows_78 (fun σ11 h => ?_)
              obtain ⟨x12, ex12⟩ : ∃ y : Int32, y = (x_2 + (1 : Int32)) := ⟨_, rfl⟩
              replace h := h x12 ex12
              refine zx_iinc (v := x12) (lv' := [(2, .int x12), (4, .int r6), (3, .int x2), (0, .ref (g 171)), (1, .int x_1)]) C dX4_readRows_81 4 rfl (by rw [ex12]; rfl) (by decide) rfl ?_
              refine zx_goto C 2 dX4_readRows_84 (by decide) ?_
              refine zx_lv (lv' := [(0, .ref (g 171)), (1, .int x_1), (2, .int x12)]) [3, 4, 0] rfl ?_
              exact ih x12 σ11 h
            · replace h := h.2 q
              refine zx_aload_n C dX4_readRows_60 2 rfl ?_
              refine zx_iconst (v := (1 : Int32)) C dX4_readRows_61 (by decide) ?_
              refine zx_putI C zs_171 fp_X4_58 rfl dX4_readRows_62 ?_
              refine zx_sig (fun σ13 eσ13 => ?_)
              replace h := h σ13 eσ13
              refine zx_aload_n C dX4_readRows_65 2 rfl ?_
              refine zx_aload_n C dX4_readRows_66 2 rfl ?_
              refine zx_getI C zs_171 fg_X4_90 rfl dX4_readRows_67 ?_
              refine zx_putI C zs_171 fp_X4_61 rfl dX4_readRows_70 ?_
              refine zx_sig (fun σ14 eσ14 => ?_)
              replace h := h σ14 eσ14
              exact zx_vret C hr dX4_readRows_73 h
      · replace h := h.2 q
        exact zx_vret C hr dX4_readRows_20 h
set_option maxRecDepth 100000 in
set_option maxHeartbeats 4000000 in
theorem c_X4_readRows (l : Launch) (D : va_G) (cy : Nat → ClassId) (g : Nat → Nat) (a1 : Int32)  (σ : zSto) {P : zSto → Prop} (h : w_X4_readRows a1 σ P) : zMv l yX4_readRows cX4_readRows 5 none (zrm 7 148) D cy g [.ref (g 171), .int a1] σ P := by
  unfold w_X4_readRows at h
  refine zm_v RX4 rfl (by decide +kernel) (Nat.le_of_ble_eq_true rfl) ?_
  intro p e s m below meth c C hr
  refine zx_lv (lv' := [(0, .ref (g 171)), (1, .int a1)]) [0, 1] rfl ?_
  refine zx_iconst (v := (0 : Int32)) C dX4_readRows_0 (by decide) ?_
  refine zx_istore_n (lv' := [(2, .int (0 : Int32)), (0, .ref (g 171)), (1, .int a1)]) C dX4_readRows_1 (by decide) rfl ?_
  obtain ⟨n, h⟩ := h
  refine zx_lv (lv' := [(0, .ref (g 171)), (1, .int a1), (2, .int (0 : Int32))]) [1, 2, 0] rfl ?_
  exact k_X4_readRows_2 C hr (a1)   n (0 : Int32) σ h
theorem fp_X4_45 : zFP RX4 45 4 5 .int := ⟨RX4, TX4, 13, tyX4, rfl, lay_X4, by decide, fl_X4_45, tyX4_ok, nmX4, rfl, by decide +kernel⟩
theorem lk_X4_67 : zLV RX4 67 RX0 yX0_clear cX0_clear 2 none 0 := zLV_of ml_X4_67 im_X0_clear se_X0_clear ini_X0 cd_X0_clear (by decide +kernel)
theorem fp_X4_70 : zFP RX4 70 2 2 .int := ⟨RX2, TX2, 3, tyX2, rfl, lay_X2, by decide, fl_X4_70, tyX2_ok, nmX2, rfl, by decide +kernel⟩
theorem lk_X4_73 : zLV RX4 73 RX4 yX4_readRows cX4_readRows 5 none 1 := zLV_of ml_X4_73 im_X4_readRows se_X4_readRows ini_X4 cd_X4_readRows (by decide +kernel)
def w_X4_readTape (b1 n1 : Nat) (a2 : Int32) (a3 : Int32) (σ : zSto) (P : zSto → Prop) : Prop := (∀ σ1 : zSto, σ1 = zI σ 171 5 (if (0 : Int32) < (if (if (600 : Int32) < (Int32.ofNat n1) then (600 : Int32) else (Int32.ofNat n1)) < a2 then (if (600 : Int32) < (Int32.ofNat n1) then (600 : Int32) else (Int32.ofNat n1)) else a2) then (if (if (600 : Int32) < (Int32.ofNat n1) then (600 : Int32) else (Int32.ofNat n1)) < a2 then (if (600 : Int32) < (Int32.ofNat n1) then (600 : Int32) else (Int32.ofNat n1)) else a2) else (0 : Int32)) → (¬ (σ1.1 171 5) < 0 ∧ 0 + ((σ1.1 171 5)).toNatClampNeg ≤ n1 ∧ 0 + ((σ1.1 171 5)).toNatClampNeg ≤ 600 ∧ (∀ i : Nat, i < ((σ1.1 171 5)).toNatClampNeg → fits .byte (.int (σ1.1 b1 (0 + i))) = true) ∧ (∀ σ2 : zSto, σ2 = zR σ1 189 (va_cpy (σ1.1 b1) (σ1.1 189) 0 0 ((σ1.1 171 5)).toNatClampNeg) → (∀ σ7 : zSto, σ7 = zI σ2 171 6 (0 : Int32) → (∀ σ8 : zSto, σ8 = zI σ7 171 11 (0 : Int32) → (∀ σ9 : zSto, σ9 = zI σ8 171 12 (-1 : Int32) → (∀ σ10 : zSto, σ10 = zI σ9 171 10 (-1 : Int32) → (w_X0_clear 172 σ10 (fun (σ11 : zSto) => (∀ σ12 : zSto, σ12 = zI σ11 184 2 (0 : Int32) → (w_X4_readRows a3 σ12 (fun (σ13 : zSto) => ((¬ a3 = 0 → P σ13) ∧ (a3 = 0 → (((σ13.1 172 11) < (2 : Int32) → (w_X4_note (4 : Int32) (σ13.1 171 5) σ13 (fun (σ14 : zSto) => P σ14))) ∧ (¬ (σ13.1 172 11) < (2 : Int32) → (((σ13.1 171 10) < (σ13.1 172 11) → P σ13) ∧ (¬ (σ13.1 171 10) < (σ13.1 172 11) → (w_X4_note (4 : Int32) (σ13.1 171 5) σ13 (fun (σ15 : zSto) => P σ15))))))))))))))))))))
set_option maxRecDepth 100000 in
set_option maxHeartbeats 4000000 in
theorem c_X4_readTape (l : Launch) (D : va_G) (cy : Nat → ClassId) (g : Nat → Nat) (b1 n1 : Nat) (a2 : Int32) (a3 : Int32) (hb1 : zsh b1 = za 1 n1) (σ : zSto) {P : zSto → Prop} (h : w_X4_readTape b1 n1 a2 a3 σ P) : zMv l yX4_readTape cX4_readTape 4 none (zrm 8 172) D cy g [.ref (g 171), .ref (g b1), .int a2, .int a3] σ P := by
  unfold w_X4_readTape at h
  refine zm_v RX4 rfl (by decide +kernel) (Nat.le_of_ble_eq_true rfl) ?_
  intro p e s m below meth c C hr
  refine zx_lv (lv' := [(0, .ref (g 171)), (1, .ref (g b1)), (2, .int a2), (3, .int a3)]) [0, 1, 2, 3] rfl ?_
  refine zx_aload_n C dX4_readTape_0 0 rfl ?_
  refine zx_iconst (v := (0 : Int32)) C dX4_readTape_1 (by decide) ?_
  refine zx_iload_n C dX4_readTape_2 2 rfl ?_
  refine zx_aload_n C dX4_readTape_3 1 rfl ?_
  refine zx_alen (v := (Int32.ofNat n1)) C hb1 rfl rfl dX4_readTape_4 ?_
  refine zx_sipush (v := (600 : Int32)) C dX4_readTape_5 (by decide) ?_
  refine zx_min C ml_X4_36 st_math_min ini_J9 cd_math_min (Nat.le_of_ble_eq_true rfl) (Nat.le_of_ble_eq_true rfl) ⟨Nat.zero_le _, Nat.zero_le _⟩ dX4_readTape_8 ?_
  refine zx_min C ml_X4_36 st_math_min ini_J9 cd_math_min (Nat.le_of_ble_eq_true rfl) (Nat.le_of_ble_eq_true rfl) ⟨Nat.zero_le _, Nat.zero_le _⟩ dX4_readTape_11 ?_
  refine zx_max C ml_X4_42 st_math_max ini_J9 cd_math_max (Nat.le_of_ble_eq_true rfl) (Nat.le_of_ble_eq_true rfl) ⟨Nat.zero_le _, Nat.zero_le _⟩ dX4_readTape_14 ?_
  refine zx_putI C zs_171 fp_X4_45 rfl dX4_readTape_17 ?_
  refine zx_sig (fun σ1 eσ1 => ?_)
  replace h := h σ1 eσ1
  refine zx_aload_n C dX4_readTape_20 1 rfl ?_
  refine zx_iconst (v := (0 : Int32)) C dX4_readTape_21 (by decide) ?_
  refine zx_aload_n C dX4_readTape_22 0 rfl ?_
  refine zx_getR C zs_171 fg_X4_32 rfl 189 rfl dX4_readTape_23 ?_
  refine zx_iconst (v := (0 : Int32)) C dX4_readTape_26 (by decide) ?_
  refine zx_aload_n C dX4_readTape_27 0 rfl ?_
  refine zx_getI C zs_171 fg_X4_45 rfl dX4_readTape_28 ?_
  obtain ⟨f3, f4, f5, f6, h⟩ := h
  refine zx_copy C 0 0 ((σ1.1 171 5)).toNatClampNeg (ty := .byte) hb1 zs_189 rfl rfl ml_X4_49 na_arraycopy st_arraycopy ini_J10 (by decide) (by decide) rfl (by decide) (by decide) f3 f4 f5 f6 (Nat.le_of_ble_eq_true rfl) (Nat.le_of_ble_eq_true rfl) dX4_readTape_31 ?_
  refine zx_sig (fun σ2 eσ2 => ?_)
  replace h := h σ2 eσ2
  refine zx_aload_n C dX4_readTape_34 0 rfl ?_
  refine zx_iconst (v := (0 : Int32)) C dX4_readTape_35 (by decide) ?_
  refine zx_putI C zs_171 fp_X4_55 rfl dX4_readTape_36 ?_
  refine zx_sig (fun σ7 eσ7 => ?_)
  replace h := h σ7 eσ7
  refine zx_aload_n C dX4_readTape_39 0 rfl ?_
  refine zx_iconst (v := (0 : Int32)) C dX4_readTape_40 (by decide) ?_
  refine zx_putI C zs_171 fp_X4_58 rfl dX4_readTape_41 ?_
  refine zx_sig (fun σ8 eσ8 => ?_)
  replace h := h σ8 eσ8
  refine zx_aload_n C dX4_readTape_44 0 rfl ?_
  refine zx_iconst (v := (-1 : Int32)) C dX4_readTape_45 (by decide) ?_
  refine zx_putI C zs_171 fp_X4_61 rfl dX4_readTape_46 ?_
  refine zx_sig (fun σ9 eσ9 => ?_)
  replace h := h σ9 eσ9
  refine zx_aload_n C dX4_readTape_49 0 rfl ?_
  refine zx_iconst (v := (-1 : Int32)) C dX4_readTape_50 (by decide) ?_
  refine zx_putI C zs_171 fp_X4_64 rfl dX4_readTape_51 ?_
  refine zx_sig (fun σ10 eσ10 => ?_)
  replace h := h σ10 eσ10
  refine zx_aload_n C dX4_readTape_54 0 rfl ?_
  refine zx_getR C zs_171 fg_X4_12 rfl 172 rfl dX4_readTape_55 ?_
  refine zx_cVv C [] lk_X4_67 (c_X0_clear l D cy g 172 zIsLine_172 σ10 h) zIsLine_172.1 rfl ⟨by decide, by decide⟩ ⟨rfl, rfl⟩ ⟨Nat.zero_le _, Nat.zero_le _⟩ rfl rfl (Nat.le_of_ble_eq_true rfl) dX4_readTape_58 (fun σ11 h => ?_)
  refine zx_aload_n C dX4_readTape_61 0 rfl ?_
  refine zx_getR C zs_171 fg_X4_21 rfl 184 rfl dX4_readTape_62 ?_
  refine zx_iconst (v := (0 : Int32)) C dX4_readTape_65 (by decide) ?_
  refine zx_putI C zIsPairs_184.1 fp_X4_70 rfl dX4_readTape_66 ?_
  refine zx_sig (fun σ12 eσ12 => ?_)
  replace h := h σ12 eσ12
  refine zx_aload_n C dX4_readTape_69 0 rfl ?_
  refine zx_iload_n C dX4_readTape_70 3 rfl ?_
  refine zx_cVv C [.int a3] lk_X4_73 (c_X4_readRows l D cy g a3  σ12 h) zs_171 rfl ⟨by decide, by decide⟩ ⟨rfl, rfl⟩ ⟨Nat.zero_le _, Nat.zero_le _⟩ rfl rfl (Nat.le_of_ble_eq_true rfl) dX4_readTape_71 (fun σ13 h => ?_)
  refine zx_iload_n C dX4_readTape_74 3 rfl ?_
  refine zx_if_ne C 112 dX4_readTape_75 (by decide) (fun q => ?_) (fun q => ?_)
  · replace h := h.1 q
    exact zx_vret C hr dX4_readTape_112 h
  · replace h := h.2 q
    refine zx_aload_n C dX4_readTape_78 0 rfl ?_
    refine zx_getR C zs_171 fg_X4_12 rfl 172 rfl dX4_readTape_79 ?_
    refine zx_getI C zIsLine_172.1 fg_X4_77 rfl dX4_readTape_82 ?_
    refine zx_iconst (v := (2 : Int32)) C dX4_readTape_85 (by decide) ?_
    refine zx_icmp_lt C 103 dX4_readTape_86 (by decide) (fun q => ?_) (fun q => ?_)
    · replace h := h.1 q
      refine zx_aload_n C dX4_readTape_103 0 rfl ?_
      refine zx_iconst (v := (4 : Int32)) C dX4_readTape_104 (by decide) ?_
      refine zx_aload_n C dX4_readTape_105 0 rfl ?_
      refine zx_getI C zs_171 fg_X4_45 rfl dX4_readTape_106 ?_
      refine zx_cVv C [.int (4 : Int32), .int (σ13.1 171 5)] lk_X4_80 (c_X4_note l D cy g (4 : Int32) (σ13.1 171 5)  σ13 h) zs_171 rfl ⟨by decide, by decide⟩ ⟨rfl, rfl⟩ ⟨Nat.zero_le _, Nat.zero_le _⟩ rfl rfl (Nat.le_of_ble_eq_true rfl) dX4_readTape_109 (fun σ14 h => ?_)
      exact zx_vret C hr dX4_readTape_112 h
    · replace h := h.2 q
      refine zx_aload_n C dX4_readTape_89 0 rfl ?_
      refine zx_getI C zs_171 fg_X4_64 rfl dX4_readTape_90 ?_
      refine zx_aload_n C dX4_readTape_93 0 rfl ?_
      refine zx_getR C zs_171 fg_X4_12 rfl 172 rfl dX4_readTape_94 ?_
      refine zx_getI C zIsLine_172.1 fg_X4_77 rfl dX4_readTape_97 ?_
      refine zx_icmp_lt C 112 dX4_readTape_100 (by decide) (fun q => ?_) (fun q => ?_)
      · replace h := h.1 q
        exact zx_vret C hr dX4_readTape_112 h
      · replace h := h.2 q
        refine zx_aload_n C dX4_readTape_103 0 rfl ?_
        refine zx_iconst (v := (4 : Int32)) C dX4_readTape_104 (by decide) ?_
        refine zx_aload_n C dX4_readTape_105 0 rfl ?_
        refine zx_getI C zs_171 fg_X4_45 rfl dX4_readTape_106 ?_
        refine zx_cVv C [.int (4 : Int32), .int (σ13.1 171 5)] lk_X4_80 (c_X4_note l D cy g (4 : Int32) (σ13.1 171 5)  σ13 h) zs_171 rfl ⟨by decide, by decide⟩ ⟨rfl, rfl⟩ ⟨Nat.zero_le _, Nat.zero_le _⟩ rfl rfl (Nat.le_of_ble_eq_true rfl) dX4_readTape_109 (fun σ15 h => ?_)
        exact zx_vret C hr dX4_readTape_112 h
theorem fg_X5_32 : zFG RX5 32 0 11 := ⟨RX0, TX0, 18, rfl, lay_X0, by decide, fl_X5_32⟩
theorem fg_X5_68 : zFG RX5 68 0 12 := ⟨RX0, TX0, 18, rfl, lay_X0, by decide, fl_X5_68⟩
theorem fp_X5_74 : zFP RX5 74 5 4 .int := ⟨RX5, TX5, 12, tyX5, rfl, lay_X5, by decide, fl_X5_74, tyX5_ok, nmX5, rfl, by decide +kernel⟩
theorem fp_X5_77 : zFP RX5 77 5 6 .int := ⟨RX5, TX5, 12, tyX5, rfl, lay_X5, by decide, fl_X5_77, tyX5_ok, nmX5, rfl, by decide +kernel⟩
theorem fp_X5_80 : zFP RX5 80 5 7 .int := ⟨RX5, TX5, 12, tyX5, rfl, lay_X5, by decide, fl_X5_80, tyX5_ok, nmX5, rfl, by decide +kernel⟩
theorem fp_X5_83 : zFP RX5 83 5 8 .int := ⟨RX5, TX5, 12, tyX5, rfl, lay_X5, by decide, fl_X5_83, tyX5_ok, nmX5, rfl, by decide +kernel⟩
theorem fp_X5_86 : zFP RX5 86 5 9 .int := ⟨RX5, TX5, 12, tyX5, rfl, lay_X5, by decide, fl_X5_86, tyX5_ok, nmX5, rfl, by decide +kernel⟩
theorem fp_X5_89 : zFP RX5 89 5 10 .int := ⟨RX5, TX5, 12, tyX5, rfl, lay_X5, by decide, fl_X5_89, tyX5_ok, nmX5, rfl, by decide +kernel⟩
theorem fp_X5_92 : zFP RX5 92 5 11 .int := ⟨RX5, TX5, 12, tyX5, rfl, lay_X5, by decide, fl_X5_92, tyX5_ok, nmX5, rfl, by decide +kernel⟩
theorem fg_X5_21 : zFG RX5 21 5 3 := ⟨RX5, TX5, 12, rfl, lay_X5, by decide, fl_X5_21⟩
theorem fg_X5_71 : zFG RX5 71 0 7 := ⟨RX0, TX0, 18, rfl, lay_X0, by decide, fl_X5_71⟩
theorem fg_X5_18 : zFG RX5 18 5 2 := ⟨RX5, TX5, 12, rfl, lay_X5, by decide, fl_X5_18⟩
theorem fg_X5_9 : zFG RX5 9 5 0 := ⟨RX5, TX5, 12, rfl, lay_X5, by decide, fl_X5_9⟩
theorem fg_X5_15 : zFG RX5 15 5 1 := ⟨RX5, TX5, 12, rfl, lay_X5, by decide, fl_X5_15⟩
theorem lk_X5_64 : zLV RX5 64 RX0 yX0_poundsIn cX0_poundsIn 3 (some .int) 2 := zLV_of ml_X5_64 im_X0_poundsIn se_X0_poundsIn ini_X0 cd_X0_poundsIn (by decide +kernel)
def w_X5_begin_37 (q_1 : Nat) (P : zSto → Prop)  : Nat → Int32 → zSto → Prop
  | 0, _, _ => False
  | n + 1, x_3, σ => (((σ.1 q_1 12) ≤ x_3 → (∀ σ1 : zSto, σ1 = zI σ 190 4 (0 : Int32) → (∀ σ2 : zSto, σ2 = zI σ1 190 6 (0 : Int32) → (∀ σ3 : zSto, σ3 = zI σ2 190 7 (0 : Int32) → (∀ σ4 : zSto, σ4 = zI σ3 190 8 (0 : Int32) → (∀ σ5 : zSto, σ5 = zI σ4 190 9 (0 : Int32) → (∀ σ6 : zSto, σ6 = zI σ5 190 10 (0 : Int32) → (∀ σ7 : zSto, σ7 = zI σ6 190 11 (-1 : Int32) → P σ7)))))))) ∧ (¬ (σ.1 q_1 12) ≤ x_3 → (vp_in x_3 6 ∧ (vp_in x_3 6 ∧ (∀ σ10 : zSto, σ10 = zI σ 194 (x_3).toNatClampNeg (σ.1 (q_1 + 8) (x_3).toNatClampNeg) → (vp_in x_3 6 ∧ (∀ σ12 : zSto, σ12 = zI σ10 193 (x_3).toNatClampNeg (0 : Int32) → (∀ x13 : Int32, x13 = (x_3 + (1 : Int32)) → w_X5_begin_37 q_1 P n x13 σ12))))))))
def w_X5_begin_2 (q_1 : Nat) (x_2 : Int32) (P : zSto → Prop)  : Nat → Int32 → zSto → Prop
  | 0, _, _ => False
  | n + 1, x_3, σ => (((σ.1 q_1 11) ≤ x_3 → (∃ n2 : Nat, w_X5_begin_37 q_1 P  n2 (0 : Int32) σ)) ∧ (¬ (σ.1 q_1 11) ≤ x_3 → (vp_in x_3 16 ∧ (∀ σ15 : zSto, σ15 = zI σ 191 (x_3).toNatClampNeg (-1 : Int32) → (w_X0_poundsIn q_1 x_3 x_2 σ15 (fun (r17 : Int32) (σ16 : zSto) => (vp_in x_3 16 ∧ (∀ σ19 : zSto, σ19 = zI σ16 192 (x_3).toNatClampNeg r17 → (∀ x20 : Int32, x20 = (x_3 + (1 : Int32)) → w_X5_begin_2 q_1 x_2 P n x20 σ19)))))))))
def w_X5_begin (b1 : Nat) (a2 : Int32) (σ : zSto) (P : zSto → Prop) : Prop := (∃ n : Nat, w_X5_begin_2 b1 a2 P  n (0 : Int32) σ)
set_option maxRecDepth 100000 in
set_option maxHeartbeats 4000000 in
theorem k_X5_begin_37 {p : Program} {l : Launch} {e : Env} {s : State} {m : MethodId} {args : Array Value} {below : List Frame} {meth : Method} {c : Code} {D : va_G} {cy : Nat → ClassId} {g : Nat → Nat} (C : zC p s m args meth c cX5_begin RX5 4 D cy g) (hr : meth.sig.returnType = none) {P : zSto → Prop} (q_1 : Nat) (hq_1 : zIsLine q_1)   : ∀ (n : Nat) (x_3 : Int32) (σ : zSto), w_X5_begin_37 q_1 P n x_3 σ → zX p l e (zrm 2 86) s m args below meth c 0 0 (zQv P below args s D cy g) 4 D cy g 37 [(0, .ref (g 190)), (1, .ref (g q_1)), (3, .int x_3)] [] σ := by
  intro n
  induction n with
  | zero => intro x_3 σ h; exact h.elim
  | succ n ih =>
    intro x_3 σ h
    unfold w_X5_begin_37 at h
    refine zx_iload_n C dX5_begin_37 2 rfl ?_
    refine zx_aload_n C dX5_begin_38 1 rfl ?_
    refine zx_getI C hq_1.1 fg_X5_68 rfl dX5_begin_39 ?_
    refine zx_icmp_ge C 70 dX5_begin_42 (by decide) (fun q => ?_) (fun q => ?_)
    · replace h := h.1 q
      refine zx_aload_n C dX5_begin_70 0 rfl ?_
      refine zx_iconst (v := (0 : Int32)) C dX5_begin_71 (by decide) ?_
      refine zx_putI C zs_190 fp_X5_74 rfl dX5_begin_72 ?_
      refine zx_sig (fun σ1 eσ1 => ?_)
      replace h := h σ1 eσ1
      refine zx_aload_n C dX5_begin_75 0 rfl ?_
      refine zx_iconst (v := (0 : Int32)) C dX5_begin_76 (by decide) ?_
      refine zx_putI C zs_190 fp_X5_77 rfl dX5_begin_77 ?_
      refine zx_sig (fun σ2 eσ2 => ?_)
      replace h := h σ2 eσ2
      refine zx_aload_n C dX5_begin_80 0 rfl ?_
      refine zx_iconst (v := (0 : Int32)) C dX5_begin_81 (by decide) ?_
      refine zx_putI C zs_190 fp_X5_80 rfl dX5_begin_82 ?_
      refine zx_sig (fun σ3 eσ3 => ?_)
      replace h := h σ3 eσ3
      refine zx_aload_n C dX5_begin_85 0 rfl ?_
      refine zx_iconst (v := (0 : Int32)) C dX5_begin_86 (by decide) ?_
      refine zx_putI C zs_190 fp_X5_83 rfl dX5_begin_87 ?_
      refine zx_sig (fun σ4 eσ4 => ?_)
      replace h := h σ4 eσ4
      refine zx_aload_n C dX5_begin_90 0 rfl ?_
      refine zx_iconst (v := (0 : Int32)) C dX5_begin_91 (by decide) ?_
      refine zx_putI C zs_190 fp_X5_86 rfl dX5_begin_92 ?_
      refine zx_sig (fun σ5 eσ5 => ?_)
      replace h := h σ5 eσ5
      refine zx_aload_n C dX5_begin_95 0 rfl ?_
      refine zx_iconst (v := (0 : Int32)) C dX5_begin_96 (by decide) ?_
      refine zx_putI C zs_190 fp_X5_89 rfl dX5_begin_97 ?_
      refine zx_sig (fun σ6 eσ6 => ?_)
      replace h := h σ6 eσ6
      refine zx_aload_n C dX5_begin_100 0 rfl ?_
      refine zx_iconst (v := (-1 : Int32)) C dX5_begin_101 (by decide) ?_
      refine zx_putI C zs_190 fp_X5_92 rfl dX5_begin_102 ?_
      refine zx_sig (fun σ7 eσ7 => ?_)
      replace h := h σ7 eσ7
      exact zx_vret C hr dX5_begin_105 h
    · replace h := h.2 q
      refine zx_aload_n C dX5_begin_45 0 rfl ?_
      refine zx_getR C zs_190 fg_X5_21 rfl 194 rfl dX5_begin_46 ?_
      refine zx_iload_n C dX5_begin_49 2 rfl ?_
      refine zx_aload_n C dX5_begin_50 1 rfl ?_
      refine zx_getR C hq_1.1 fg_X5_71 rfl (q_1 + 8) rfl dX5_begin_51 ?_
      refine zx_iload_n C dX5_begin_54 2 rfl ?_
      obtain ⟨bd8, h⟩ := h
      refine zx_iald C (x_3).toNatClampNeg hq_1.2.2.2.2.2.2.2.2.1 bd8 rfl dX5_begin_55 ?_
      obtain ⟨bd9, h⟩ := h
      refine zx_iast C (x_3).toNatClampNeg zs_194 bd9 rfl dX5_begin_56 ?_
      refine zx_sig (fun σ10 eσ10 => ?_)
      replace h := h σ10 eσ10
      refine zx_aload_n C dX5_begin_57 0 rfl ?_
      refine zx_getR C zs_190 fg_X5_18 rfl 193 rfl dX5_begin_58 ?_
      refine zx_iload_n C dX5_begin_61 2 rfl ?_
      refine zx_iconst (v := (0 : Int32)) C dX5_begin_62 (by decide) ?_
      obtain ⟨bd11, h⟩ := h
      refine zx_iast C (x_3).toNatClampNeg zs_193 bd11 rfl dX5_begin_63 ?_
      refine zx_sig (fun σ12 eσ12 => ?_)
      replace h := h σ12 eσ12
      obtain ⟨x13, ex13⟩ : ∃ y : Int32, y = (x_3 + (1 : Int32)) := ⟨_, rfl⟩
      replace h := h x13 ex13
      refine zx_iinc (v := x13) (lv' := [(3, .int x13), (0, .ref (g 190)), (1, .ref (g q_1))]) C dX5_begin_64 2 rfl (by rw [ex13]; rfl) (by decide) rfl ?_
      refine zx_goto C 37 dX5_begin_67 (by decide) ?_
      refine zx_lv (lv' := [(0, .ref (g 190)), (1, .ref (g q_1)), (3, .int x13)]) [1, 2, 0] rfl ?_
      exact ih x13 σ12 h
set_option maxRecDepth 100000 in
set_option maxHeartbeats 4000000 in
theorem k_X5_begin_2 {p : Program} {l : Launch} {e : Env} {s : State} {m : MethodId} {args : Array Value} {below : List Frame} {meth : Method} {c : Code} {D : va_G} {cy : Nat → ClassId} {g : Nat → Nat} (C : zC p s m args meth c cX5_begin RX5 4 D cy g) (hr : meth.sig.returnType = none) {P : zSto → Prop} (q_1 : Nat) (x_2 : Int32) (hq_1 : zIsLine q_1)   : ∀ (n : Nat) (x_3 : Int32) (σ : zSto), w_X5_begin_2 q_1 x_2 P n x_3 σ → zX p l e (zrm 2 86) s m args below meth c 0 0 (zQv P below args s D cy g) 4 D cy g 2 [(0, .ref (g 190)), (1, .ref (g q_1)), (2, .int x_2), (3, .int x_3)] [] σ := by
  intro n
  induction n with
  | zero => intro x_3 σ h; exact h.elim
  | succ n ih =>
    intro x_3 σ h
    unfold w_X5_begin_2 at h
    refine zx_iload_n C dX5_begin_2 3 rfl ?_
    refine zx_aload_n C dX5_begin_3 1 rfl ?_
    refine zx_getI C hq_1.1 fg_X5_32 rfl dX5_begin_4 ?_
    refine zx_icmp_ge C 35 dX5_begin_7 (by decide) (fun q => ?_) (fun q => ?_)
    · replace h := h.1 q
      refine zx_iconst (v := (0 : Int32)) C dX5_begin_35 (by decide) ?_
      refine zx_istore_n (lv' := [(3, .int (0 : Int32)), (0, .ref (g 190)), (1, .ref (g q_1)), (2, .int x_2)]) C dX5_begin_36 (by decide) rfl ?_
      obtain ⟨n2, h⟩ := h
      refine zx_lv (lv' := [(0, .ref (g 190)), (1, .ref (g q_1)), (3, .int (0 : Int32))]) [1, 2, 0] rfl ?_
      exact k_X5_begin_37 C hr (q_1) hq_1  n2 (0 : Int32) σ h
    · replace h := h.2 q
      refine zx_aload_n C dX5_begin_10 0 rfl ?_
      refine zx_getR C zs_190 fg_X5_9 rfl 191 rfl dX5_begin_11 ?_
      refine zx_iload_n C dX5_begin_14 3 rfl ?_
      refine zx_iconst (v := (-1 : Int32)) C dX5_begin_15 (by decide) ?_
      obtain ⟨bd14, h⟩ := h
      refine zx_iast C (x_3).toNatClampNeg zs_191 bd14 rfl dX5_begin_16 ?_
      refine zx_sig (fun σ15 eσ15 => ?_)
      replace h := h σ15 eσ15
      refine zx_aload_n C dX5_begin_17 0 rfl ?_
      refine zx_getR C zs_190 fg_X5_15 rfl 192 rfl dX5_begin_18 ?_
      refine zx_iload_n C dX5_begin_21 3 rfl ?_
      refine zx_aload_n C dX5_begin_22 1 rfl ?_
      refine zx_iload_n C dX5_begin_23 3 rfl ?_
      refine zx_iload_n C dX5_begin_24 2 rfl ?_
      refine zx_cVi C [.int x_3, .int x_2] lk_X5_64 (c_X0_poundsIn l D cy g q_1 x_3 x_2 hq_1 σ15 h) hq_1.1 rfl ⟨by decide, by decide⟩ ⟨rfl, rfl⟩ ⟨Nat.zero_le _, Nat.zero_le _⟩ rfl rfl (Nat.le_of_ble_eq_true rfl) dX5_begin_25 (fun r17 σ16 h => ?_)
      obtain ⟨bd18, h⟩ := h
      refine zx_iast C (x_3).toNatClampNeg zs_192 bd18 rfl dX5_begin_28 ?_
      refine zx_sig (fun σ19 eσ19 => ?_)
      replace h := h σ19 eσ19
      obtain ⟨x20, ex20⟩ : ∃ y : Int32, y = (x_3 + (1 : Int32)) := ⟨_, rfl⟩
      replace h := h x20 ex20
      refine zx_iinc (v := x20) (lv' := [(3, .int x20), (0, .ref (g 190)), (1, .ref (g q_1)), (2, .int x_2)]) C dX5_begin_29 3 rfl (by rw [ex20]; rfl) (by decide) rfl ?_
      refine zx_goto C 2 dX5_begin_32 (by decide) ?_
      refine zx_lv (lv' := [(0, .ref (g 190)), (1, .ref (g q_1)), (2, .int x_2), (3, .int x20)]) [1, 2, 3, 0] rfl ?_
      exact ih x20 σ19 h
set_option maxRecDepth 100000 in
set_option maxHeartbeats 4000000 in
theorem c_X5_begin (l : Launch) (D : va_G) (cy : Nat → ClassId) (g : Nat → Nat) (b1 : Nat) (a2 : Int32) (hb1 : zIsLine b1) (σ : zSto) {P : zSto → Prop} (h : w_X5_begin b1 a2 σ P) : zMv l yX5_begin cX5_begin 4 none (zrm 2 86) D cy g [.ref (g 190), .ref (g b1), .int a2] σ P := by
  unfold w_X5_begin at h
  refine zm_v RX5 rfl (by decide +kernel) (Nat.le_of_ble_eq_true rfl) ?_
  intro p e s m below meth c C hr
  refine zx_lv (lv' := [(0, .ref (g 190)), (1, .ref (g b1)), (2, .int a2)]) [0, 1, 2] rfl ?_
  refine zx_iconst (v := (0 : Int32)) C dX5_begin_0 (by decide) ?_
  refine zx_istore_n (lv' := [(3, .int (0 : Int32)), (0, .ref (g 190)), (1, .ref (g b1)), (2, .int a2)]) C dX5_begin_1 (by decide) rfl ?_
  obtain ⟨n, h⟩ := h
  refine zx_lv (lv' := [(0, .ref (g 190)), (1, .ref (g b1)), (2, .int a2), (3, .int (0 : Int32))]) [1, 2, 3, 0] rfl ?_
  exact k_X5_begin_2 C hr (b1) (a2) hb1  n (0 : Int32) σ h
theorem lk_X5_95 : zLV RX5 95 RX0 yX0_hasRider cX0_hasRider 2 (some .boolean) 1 := zLV_of ml_X5_95 im_X0_hasRider se_X0_hasRider ini_X0 cd_X0_hasRider (by decide +kernel)
theorem lk_X5_99 : zLV RX5 99 RX0 yX0_carries cX0_carries 3 (some .boolean) 2 := zLV_of ml_X5_99 im_X0_carries se_X0_carries ini_X0 cd_X0_carries (by decide +kernel)
def w_X5_canPull (b1 : Nat) (a2 : Int32) (a3 : Int32) (σ : zSto) (P : Int32 → zSto → Prop) : Prop := ((a2 < 0 → P (0 : Int32) σ) ∧ (¬ a2 < 0 → ((((σ.1 b1 11) - (1 : Int32)) ≤ a2 → P (0 : Int32) σ) ∧ (¬ ((σ.1 b1 11) - (1 : Int32)) ≤ a2 → (w_X0_hasRider b1 a3 σ (fun (r2 : Int32) (σ1 : zSto) => (r2 = 0 ∨ r2 = 1) → ((r2 = 0 → P (0 : Int32) σ1) ∧ (¬ r2 = 0 → (w_X0_carries b1 a3 a2 σ1 (fun (r4 : Int32) (σ3 : zSto) => (r4 = 0 ∨ r4 = 1) → ((r4 = 0 → P (0 : Int32) σ3) ∧ (¬ r4 = 0 → (vp_in a3 6 ∧ (((σ3.1 194 (a3).toNatClampNeg) ≤ 0 → P (0 : Int32) σ3) ∧ (¬ (σ3.1 194 (a3).toNatClampNeg) ≤ 0 → (vp_in a2 16 ∧ (((σ3.1 192 (a2).toNatClampNeg) ≤ 0 → P (0 : Int32) σ3) ∧ (¬ (σ3.1 192 (a2).toNatClampNeg) ≤ 0 → P (1 : Int32) σ3))))))))))))))))))
set_option maxRecDepth 100000 in
set_option maxHeartbeats 4000000 in
theorem c_X5_canPull (l : Launch) (D : va_G) (cy : Nat → ClassId) (g : Nat → Nat) (b1 : Nat) (a2 : Int32) (a3 : Int32) (hb1 : zIsLine b1) (σ : zSto) {P : Int32 → zSto → Prop} (h : w_X5_canPull b1 a2 a3 σ P) : zMb l yX5_canPull cX5_canPull 4 (some .boolean) (zrm 1 22) D cy g [.ref (g 190), .ref (g b1), .int a2, .int a3] σ P := by
  unfold w_X5_canPull at h
  refine zm_b RX5 rfl (by decide +kernel) (Nat.le_of_ble_eq_true rfl) ?_
  intro p e s m below meth c C hr
  refine zx_lv (lv' := [(0, .ref (g 190)), (1, .ref (g b1)), (2, .int a2), (3, .int a3)]) [0, 1, 2, 3] rfl ?_
  refine zx_iload_n C dX5_canPull_0 2 rfl ?_
  refine zx_if_lt C 53 dX5_canPull_1 (by decide) (fun q => ?_) (fun q => ?_)
  · replace h := h.1 q
    refine zx_iconst (v := (0 : Int32)) C dX5_canPull_53 (by decide) ?_
    exact zx_zret C hr dX5_canPull_54 (Or.inl rfl) h
  · replace h := h.2 q
    refine zx_iload_n C dX5_canPull_4 2 rfl ?_
    refine zx_aload_n C dX5_canPull_5 1 rfl ?_
    refine zx_getI C hb1.1 fg_X5_32 rfl dX5_canPull_6 ?_
    refine zx_iconst (v := (1 : Int32)) C dX5_canPull_9 (by decide) ?_
    refine zx_isub C dX5_canPull_10 ?_
    refine zx_icmp_ge C 53 dX5_canPull_11 (by decide) (fun q => ?_) (fun q => ?_)
    · replace h := h.1 q
      refine zx_iconst (v := (0 : Int32)) C dX5_canPull_53 (by decide) ?_
      exact zx_zret C hr dX5_canPull_54 (Or.inl rfl) h
    · replace h := h.2 q
      refine zx_aload_n C dX5_canPull_14 1 rfl ?_
      refine zx_iload_n C dX5_canPull_15 3 rfl ?_
      refine zx_cVb C [.int a3] lk_X5_95 (c_X0_hasRider l D cy g b1 a3 hb1 σ h) hb1.1 rfl ⟨by decide, by decide⟩ ⟨rfl, rfl⟩ ⟨Nat.zero_le _, Nat.zero_le _⟩ rfl rfl (Nat.le_of_ble_eq_true rfl) dX5_canPull_16 (fun r2 σ1 hb h => ?_)
      replace h := h hb
      refine zx_if_eq C 53 dX5_canPull_19 (by decide) (fun q => ?_) (fun q => ?_)
      · replace h := h.1 q
        refine zx_iconst (v := (0 : Int32)) C dX5_canPull_53 (by decide) ?_
        exact zx_zret C hr dX5_canPull_54 (Or.inl rfl) h
      · replace h := h.2 q
        refine zx_aload_n C dX5_canPull_22 1 rfl ?_
        refine zx_iload_n C dX5_canPull_23 3 rfl ?_
        refine zx_iload_n C dX5_canPull_24 2 rfl ?_
        refine zx_cVb C [.int a3, .int a2] lk_X5_99 (c_X0_carries l D cy g b1 a3 a2 hb1 σ1 h) hb1.1 rfl ⟨by decide, by decide⟩ ⟨rfl, rfl⟩ ⟨Nat.zero_le _, Nat.zero_le _⟩ rfl rfl (Nat.le_of_ble_eq_true rfl) dX5_canPull_25 (fun r4 σ3 hb h => ?_)
        replace h := h hb
        refine zx_if_eq C 53 dX5_canPull_28 (by decide) (fun q => ?_) (fun q => ?_)
        · replace h := h.1 q
          refine zx_iconst (v := (0 : Int32)) C dX5_canPull_53 (by decide) ?_
          exact zx_zret C hr dX5_canPull_54 (Or.inl rfl) h
        · replace h := h.2 q
          refine zx_aload_n C dX5_canPull_31 0 rfl ?_
          refine zx_getR C zs_190 fg_X5_21 rfl 194 rfl dX5_canPull_32 ?_
          refine zx_iload_n C dX5_canPull_35 3 rfl ?_
          obtain ⟨bd5, h⟩ := h
          refine zx_iald C (a3).toNatClampNeg zs_194 bd5 rfl dX5_canPull_36 ?_
          refine zx_if_le C 53 dX5_canPull_37 (by decide) (fun q => ?_) (fun q => ?_)
          · replace h := h.1 q
            refine zx_iconst (v := (0 : Int32)) C dX5_canPull_53 (by decide) ?_
            exact zx_zret C hr dX5_canPull_54 (Or.inl rfl) h
          · replace h := h.2 q
            refine zx_aload_n C dX5_canPull_40 0 rfl ?_
            refine zx_getR C zs_190 fg_X5_15 rfl 192 rfl dX5_canPull_41 ?_
            refine zx_iload_n C dX5_canPull_44 2 rfl ?_
            obtain ⟨bd6, h⟩ := h
            refine zx_iald C (a2).toNatClampNeg zs_192 bd6 rfl dX5_canPull_45 ?_
            refine zx_if_le C 53 dX5_canPull_46 (by decide) (fun q => ?_) (fun q => ?_)
            · replace h := h.1 q
              refine zx_iconst (v := (0 : Int32)) C dX5_canPull_53 (by decide) ?_
              exact zx_zret C hr dX5_canPull_54 (Or.inl rfl) h
            · replace h := h.2 q
              refine zx_iconst (v := (1 : Int32)) C dX5_canPull_49 (by decide) ?_
              refine zx_goto C 54 dX5_canPull_50 (by decide) ?_
              exact zx_zret C hr dX5_canPull_54 (Or.inr rfl) h
theorem fg_X5_83 : zFG RX5 83 5 8 := ⟨RX5, TX5, 12, rfl, lay_X5, by decide, fl_X5_83⟩
theorem lk_X5_103 : zLV RX5 103 RX0 yX0_cost cX0_cost 3 (some .int) 1 := zLV_of ml_X5_103 im_X0_cost se_X0_cost ini_X0 cd_X0_cost (by decide +kernel)
theorem lk_X5_60 : zLV RX5 60 RX5 yX5_canPull cX5_canPull 4 (some .boolean) 3 := zLV_of ml_X5_60 im_X5_canPull se_X5_canPull ini_X5 cd_X5_canPull (by decide +kernel)
theorem fg_X5_107 : zFG RX5 107 0 8 := ⟨RX0, TX0, 18, rfl, lay_X0, by decide, fl_X5_107⟩
theorem fg_X5_110 : zFG RX5 110 0 9 := ⟨RX0, TX0, 18, rfl, lay_X0, by decide, fl_X5_110⟩
def w_X5_wantingAt_17 (q_1 : Nat) (x_2 : Int32) (x_3 : Int32) (P : Int32 → zSto → Prop)  : Nat → Int32 → Int32 → zSto → Prop
  | 0, _, _, _ => False
  | n + 1, x_4, x_5, σ => (((σ.1 q_1 12) ≤ x_5 → P x_4 σ) ∧ (¬ (σ.1 q_1 12) ≤ x_5 → (w_X5_canPull q_1 x_2 x_5 σ (fun (r5 : Int32) (σ4 : zSto) => (r5 = 0 ∨ r5 = 1) → ((r5 = 0 → (∀ x6 : Int32, x6 = (x_5 + (1 : Int32)) → w_X5_wantingAt_17 q_1 x_2 x_3 P n x_4 x6 σ4)) ∧ (¬ r5 = 0 → (vp_in x_5 6 ∧ (vp_in x_2 16 ∧ (((σ4.1 192 (x_2).toNatClampNeg) < (σ4.1 (q_1 + 9) (x_5).toNatClampNeg) → (∀ x9 : Int32, x9 = (x_5 + (1 : Int32)) → w_X5_wantingAt_17 q_1 x_2 x_3 P n x_4 x9 σ4)) ∧ (¬ (σ4.1 192 (x_2).toNatClampNeg) < (σ4.1 (q_1 + 9) (x_5).toNatClampNeg) → (vp_in x_5 6 ∧ (((σ4.1 (q_1 + 10) (x_5).toNatClampNeg) < x_3 → (∀ x11 : Int32, x11 = (x_5 + (1 : Int32)) → w_X5_wantingAt_17 q_1 x_2 x_3 P n x_4 x11 σ4)) ∧ (¬ (σ4.1 (q_1 + 10) (x_5).toNatClampNeg) < x_3 → (∀ x12 : Int32, x12 = (x_4 ||| ((1 : Int32) <<< (x_5 &&& 31))) → (∀ x13 : Int32, x13 = (x_5 + (1 : Int32)) → w_X5_wantingAt_17 q_1 x_2 x_3 P n x12 x13 σ4)))))))))))))))
def w_X5_wantingAt (b1 : Nat) (a2 : Int32) (σ : zSto) (P : Int32 → zSto → Prop) : Prop := (w_X0_cost b1 a2 σ (fun (r2 : Int32) (σ1 : zSto) => (∀ x3 : Int32, x3 = ((σ.1 190 8) + r2) → (∃ n : Nat, w_X5_wantingAt_17 b1 a2 x3 P  n (0 : Int32) (0 : Int32) σ1))))
set_option maxRecDepth 100000 in
set_option maxHeartbeats 4000000 in
theorem k_X5_wantingAt_17 {p : Program} {l : Launch} {e : Env} {s : State} {m : MethodId} {args : Array Value} {below : List Frame} {meth : Method} {c : Code} {D : va_G} {cy : Nat → ClassId} {g : Nat → Nat} (C : zC p s m args meth c cX5_wantingAt RX5 6 D cy g) (hr : meth.sig.returnType = (some .int)) {P : Int32 → zSto → Prop} (q_1 : Nat) (x_2 : Int32) (x_3 : Int32) (hq_1 : zIsLine q_1)   : ∀ (n : Nat) (x_4 : Int32) (x_5 : Int32) (σ : zSto), w_X5_wantingAt_17 q_1 x_2 x_3 P n x_4 x_5 σ → zX p l e (zrm 2 45) s m args below meth c 0 0 (zQi P below args s D cy g) 6 D cy g 17 [(0, .ref (g 190)), (1, .ref (g q_1)), (2, .int x_2), (3, .int x_3), (4, .int x_4), (5, .int x_5)] [] σ := by
  intro n
  induction n with
  | zero => intro x_4 x_5 σ h; exact h.elim
  | succ n ih =>
    intro x_4 x_5 σ h
    unfold w_X5_wantingAt_17 at h
    refine zx_iload C dX5_wantingAt_17 5 rfl ?_
    refine zx_aload_n C dX5_wantingAt_19 1 rfl ?_
    refine zx_getI C hq_1.1 fg_X5_68 rfl dX5_wantingAt_20 ?_
    refine zx_icmp_ge C 79 dX5_wantingAt_23 (by decide) (fun q => ?_) (fun q => ?_)
    · replace h := h.1 q
      refine zx_iload C dX5_wantingAt_79 4 rfl ?_
      exact zx_iret C hr dX5_wantingAt_81 h
    · replace h := h.2 q
      refine zx_aload_n C dX5_wantingAt_26 0 rfl ?_
      refine zx_aload_n C dX5_wantingAt_27 1 rfl ?_
      refine zx_iload_n C dX5_wantingAt_28 2 rfl ?_
      refine zx_iload C dX5_wantingAt_29 5 rfl ?_
      refine zx_cVb C [.ref (g q_1), .int x_2, .int x_5] lk_X5_60 (c_X5_canPull l D cy g q_1 x_2 x_5 hq_1 σ h) zs_190 rfl ⟨by decide, by decide⟩ ⟨rfl, rfl⟩ ⟨Nat.zero_le _, Nat.zero_le _⟩ rfl rfl (Nat.le_of_ble_eq_true rfl) dX5_wantingAt_31 (fun r5 σ4 hb h => ?_)
      replace h := h hb
      refine zx_if_eq C 73 dX5_wantingAt_34 (by decide) (fun q => ?_) (fun q => ?_)
      · replace h := h.1 q
        obtain ⟨x6, ex6⟩ : ∃ y : Int32, y = (x_5 + (1 : Int32)) := ⟨_, rfl⟩
        replace h := h x6 ex6
        refine zx_iinc (v := x6) (lv' := [(5, .int x6), (0, .ref (g 190)), (1, .ref (g q_1)), (2, .int x_2), (3, .int x_3), (4, .int x_4)]) C dX5_wantingAt_73 5 rfl (by rw [ex6]; rfl) (by decide) rfl ?_
        refine zx_goto C 17 dX5_wantingAt_76 (by decide) ?_
        refine zx_lv (lv' := [(0, .ref (g 190)), (1, .ref (g q_1)), (2, .int x_2), (3, .int x_3), (4, .int x_4), (5, .int x6)]) [1, 2, 3, 4, 5, 0] rfl ?_
        exact ih x_4 x6 σ4 h
      · replace h := h.2 q
        refine zx_aload_n C dX5_wantingAt_37 1 rfl ?_
        refine zx_getR C hq_1.1 fg_X5_107 rfl (q_1 + 9) rfl dX5_wantingAt_38 ?_
        refine zx_iload C dX5_wantingAt_41 5 rfl ?_
        obtain ⟨bd7, h⟩ := h
        refine zx_iald C (x_5).toNatClampNeg hq_1.2.2.2.2.2.2.2.2.2.1 bd7 rfl dX5_wantingAt_43 ?_
        refine zx_aload_n C dX5_wantingAt_44 0 rfl ?_
        refine zx_getR C zs_190 fg_X5_15 rfl 192 rfl dX5_wantingAt_45 ?_
        refine zx_iload_n C dX5_wantingAt_48 2 rfl ?_
        obtain ⟨bd8, h⟩ := h
        refine zx_iald C (x_2).toNatClampNeg zs_192 bd8 rfl dX5_wantingAt_49 ?_
        refine zx_icmp_gt C 73 dX5_wantingAt_50 (by decide) (fun q => ?_) (fun q => ?_)
        · replace h := h.1 q
          obtain ⟨x9, ex9⟩ : ∃ y : Int32, y = (x_5 + (1 : Int32)) := ⟨_, rfl⟩
          replace h := h x9 ex9
          refine zx_iinc (v := x9) (lv' := [(5, .int x9), (0, .ref (g 190)), (1, .ref (g q_1)), (2, .int x_2), (3, .int x_3), (4, .int x_4)]) C dX5_wantingAt_73 5 rfl (by rw [ex9]; rfl) (by decide) rfl ?_
          refine zx_goto C 17 dX5_wantingAt_76 (by decide) ?_
          refine zx_lv (lv' := [(0, .ref (g 190)), (1, .ref (g q_1)), (2, .int x_2), (3, .int x_3), (4, .int x_4), (5, .int x9)]) [1, 2, 3, 4, 5, 0] rfl ?_
          exact ih x_4 x9 σ4 h
        · replace h := h.2 q
          refine zx_aload_n C dX5_wantingAt_53 1 rfl ?_
          refine zx_getR C hq_1.1 fg_X5_110 rfl (q_1 + 10) rfl dX5_wantingAt_54 ?_
          refine zx_iload C dX5_wantingAt_57 5 rfl ?_
          obtain ⟨bd10, h⟩ := h
          refine zx_iald C (x_5).toNatClampNeg hq_1.2.2.2.2.2.2.2.2.2.2.1 bd10 rfl dX5_wantingAt_59 ?_
          refine zx_iload_n C dX5_wantingAt_60 3 rfl ?_
          refine zx_icmp_lt C 73 dX5_wantingAt_61 (by decide) (fun q => ?_) (fun q => ?_)
          · replace h := h.1 q
            obtain ⟨x11, ex11⟩ : ∃ y : Int32, y = (x_5 + (1 : Int32)) := ⟨_, rfl⟩
            replace h := h x11 ex11
            refine zx_iinc (v := x11) (lv' := [(5, .int x11), (0, .ref (g 190)), (1, .ref (g q_1)), (2, .int x_2), (3, .int x_3), (4, .int x_4)]) C dX5_wantingAt_73 5 rfl (by rw [ex11]; rfl) (by decide) rfl ?_
            refine zx_goto C 17 dX5_wantingAt_76 (by decide) ?_
            refine zx_lv (lv' := [(0, .ref (g 190)), (1, .ref (g q_1)), (2, .int x_2), (3, .int x_3), (4, .int x_4), (5, .int x11)]) [1, 2, 3, 4, 5, 0] rfl ?_
            exact ih x_4 x11 σ4 h
          · replace h := h.2 q
            refine zx_iload C dX5_wantingAt_64 4 rfl ?_
            refine zx_iconst (v := (1 : Int32)) C dX5_wantingAt_66 (by decide) ?_
            refine zx_iload C dX5_wantingAt_67 5 rfl ?_
            refine zx_ishl C dX5_wantingAt_69 ?_
            refine zx_ior C dX5_wantingAt_70 ?_
            refine zx_topi (fun x12 ex12 => ?_)
            replace h := h x12 ex12
            refine zx_istore (lv' := [(4, .int x12), (0, .ref (g 190)), (1, .ref (g q_1)), (2, .int x_2), (3, .int x_3), (5, .int x_5)]) C dX5_wantingAt_71 (by decide) rfl ?_
            obtain ⟨x13, ex13⟩ : ∃ y : Int32, y = (x_5 + (1 : Int32)) := ⟨_, rfl⟩
            replace h := h x13 ex13
            refine zx_iinc (v := x13) (lv' := [(5, .int x13), (4, .int x12), (0, .ref (g 190)), (1, .ref (g q_1)), (2, .int x_2), (3, .int x_3)]) C dX5_wantingAt_73 5 rfl (by rw [ex13]; rfl) (by decide) rfl ?_
            refine zx_goto C 17 dX5_wantingAt_76 (by decide) ?_
            refine zx_lv (lv' := [(0, .ref (g 190)), (1, .ref (g q_1)), (2, .int x_2), (3, .int x_3), (4, .int x12), (5, .int x13)]) [2, 3, 4, 5, 1, 0] rfl ?_
            exact ih x12 x13 σ4 h
set_option maxRecDepth 100000 in
set_option maxHeartbeats 4000000 in
theorem c_X5_wantingAt (l : Launch) (D : va_G) (cy : Nat → ClassId) (g : Nat → Nat) (b1 : Nat) (a2 : Int32) (hb1 : zIsLine b1) (σ : zSto) {P : Int32 → zSto → Prop} (h : w_X5_wantingAt b1 a2 σ P) : zMi l yX5_wantingAt cX5_wantingAt 6 (some .int) (zrm 2 45) D cy g [.ref (g 190), .ref (g b1), .int a2] σ P := by
  unfold w_X5_wantingAt at h
  refine zm_i RX5 rfl (by decide +kernel) (Nat.le_of_ble_eq_true rfl) ?_
  intro p e s m below meth c C hr
  refine zx_lv (lv' := [(0, .ref (g 190)), (1, .ref (g b1)), (2, .int a2)]) [0, 1, 2] rfl ?_
  refine zx_aload_n C dX5_wantingAt_0 0 rfl ?_
  refine zx_getI C zs_190 fg_X5_83 rfl dX5_wantingAt_1 ?_
  refine zx_aload_n C dX5_wantingAt_4 1 rfl ?_
  refine zx_iload_n C dX5_wantingAt_5 2 rfl ?_
  refine zx_cVi C [.int a2] lk_X5_103 (c_X0_cost l D cy g b1 a2 hb1 σ h) hb1.1 rfl ⟨by decide, by decide⟩ ⟨rfl, rfl⟩ ⟨Nat.zero_le _, Nat.zero_le _⟩ rfl rfl (Nat.le_of_ble_eq_true rfl) dX5_wantingAt_6 (fun r2 σ1 h => ?_)
  refine zx_iadd C dX5_wantingAt_9 ?_
  refine zx_topi (fun x3 ex3 => ?_)
  replace h := h x3 ex3
  refine zx_istore_n (lv' := [(3, .int x3), (0, .ref (g 190)), (1, .ref (g b1)), (2, .int a2)]) C dX5_wantingAt_10 (by decide) rfl ?_
  refine zx_iconst (v := (0 : Int32)) C dX5_wantingAt_11 (by decide) ?_
  refine zx_istore (lv' := [(4, .int (0 : Int32)), (3, .int x3), (0, .ref (g 190)), (1, .ref (g b1)), (2, .int a2)]) C dX5_wantingAt_12 (by decide) rfl ?_
  refine zx_iconst (v := (0 : Int32)) C dX5_wantingAt_14 (by decide) ?_
  refine zx_istore (lv' := [(5, .int (0 : Int32)), (4, .int (0 : Int32)), (3, .int x3), (0, .ref (g 190)), (1, .ref (g b1)), (2, .int a2)]) C dX5_wantingAt_15 (by decide) rfl ?_
  obtain ⟨n, h⟩ := h
  refine zx_lv (lv' := [(0, .ref (g 190)), (1, .ref (g b1)), (2, .int a2), (3, .int x3), (4, .int (0 : Int32)), (5, .int (0 : Int32))]) [3, 4, 5, 2, 1, 0] rfl ?_
  exact k_X5_wantingAt_17 C hr (b1) (a2) (x3) hb1  n (0 : Int32) (0 : Int32) σ1 h
def w_X5_nthOf_4 (x_0 : Int32) (x_1 : Int32) (P : Int32 → zSto → Prop)  : Nat → Int32 → Int32 → zSto → Prop
  | 0, _, _, _ => False
  | n + 1, x_2, x_3, σ => (((6 : Int32) ≤ x_3 → P (-1 : Int32) σ) ∧ (¬ (6 : Int32) ≤ x_3 → ((((x_0 >>> (x_3 &&& 31)) &&& (1 : Int32)) = 0 → (∀ x1 : Int32, x1 = (x_3 + (1 : Int32)) → w_X5_nthOf_4 x_0 x_1 P n x_2 x1 σ)) ∧ (¬ ((x_0 >>> (x_3 &&& 31)) &&& (1 : Int32)) = 0 → ((¬ x_2 = x_1 → (∀ x2 : Int32, x2 = (x_2 + (1 : Int32)) → (∀ x3 : Int32, x3 = (x_3 + (1 : Int32)) → w_X5_nthOf_4 x_0 x_1 P n x2 x3 σ))) ∧ (x_2 = x_1 → P x_3 σ))))))
def w_X5_nthOf (a1 : Int32) (a2 : Int32) (σ : zSto) (P : Int32 → zSto → Prop) : Prop := (∃ n : Nat, w_X5_nthOf_4 a1 a2 P  n (0 : Int32) (0 : Int32) σ)
set_option maxRecDepth 100000 in
set_option maxHeartbeats 4000000 in
theorem k_X5_nthOf_4 {p : Program} {l : Launch} {e : Env} {s : State} {m : MethodId} {args : Array Value} {below : List Frame} {meth : Method} {c : Code} {D : va_G} {cy : Nat → ClassId} {g : Nat → Nat} (C : zC p s m args meth c cX5_nthOf RX5 4 D cy g) (hr : meth.sig.returnType = (some .int)) {P : Int32 → zSto → Prop} (x_0 : Int32) (x_1 : Int32)    : ∀ (n : Nat) (x_2 : Int32) (x_3 : Int32) (σ : zSto), w_X5_nthOf_4 x_0 x_1 P n x_2 x_3 σ → zX p l e (zrm 0 0) s m args below meth c 0 0 (zQi P below args s D cy g) 4 D cy g 4 [(0, .int x_0), (1, .int x_1), (2, .int x_2), (3, .int x_3)] [] σ := by
  intro n
  induction n with
  | zero => intro x_2 x_3 σ h; exact h.elim
  | succ n ih =>
    intro x_2 x_3 σ h
    unfold w_X5_nthOf_4 at h
    refine zx_iload_n C dX5_nthOf_4 3 rfl ?_
    refine zx_bipush (v := (6 : Int32)) C dX5_nthOf_5 (by decide) ?_
    refine zx_icmp_ge C 34 dX5_nthOf_7 (by decide) (fun q => ?_) (fun q => ?_)
    · replace h := h.1 q
      refine zx_iconst (v := (-1 : Int32)) C dX5_nthOf_34 (by decide) ?_
      exact zx_iret C hr dX5_nthOf_35 h
    · replace h := h.2 q
      refine zx_iload_n C dX5_nthOf_10 0 rfl ?_
      refine zx_iload_n C dX5_nthOf_11 3 rfl ?_
      refine zx_ishr C dX5_nthOf_12 ?_
      refine zx_iconst (v := (1 : Int32)) C dX5_nthOf_13 (by decide) ?_
      refine zx_iand C dX5_nthOf_14 ?_
      refine zx_if_eq C 28 dX5_nthOf_15 (by decide) (fun q => ?_) (fun q => ?_)
      · replace h := h.1 q
        obtain ⟨x1, ex1⟩ : ∃ y : Int32, y = (x_3 + (1 : Int32)) := ⟨_, rfl⟩
        replace h := h x1 ex1
        refine zx_iinc (v := x1) (lv' := [(3, .int x1), (0, .int x_0), (1, .int x_1), (2, .int x_2)]) C dX5_nthOf_28 3 rfl (by rw [ex1]; rfl) (by decide) rfl ?_
        refine zx_goto C 4 dX5_nthOf_31 (by decide) ?_
        refine zx_lv (lv' := [(0, .int x_0), (1, .int x_1), (2, .int x_2), (3, .int x1)]) [1, 2, 3, 0] rfl ?_
        exact ih x_2 x1 σ h
      · replace h := h.2 q
        refine zx_iload_n C dX5_nthOf_18 2 rfl ?_
        refine zx_iload_n C dX5_nthOf_19 1 rfl ?_
        refine zx_icmp_ne C 25 dX5_nthOf_20 (by decide) (fun q => ?_) (fun q => ?_)
        · replace h := h.1 q
          obtain ⟨x2, ex2⟩ : ∃ y : Int32, y = (x_2 + (1 : Int32)) := ⟨_, rfl⟩
          replace h := h x2 ex2
          refine zx_iinc (v := x2) (lv' := [(2, .int x2), (0, .int x_0), (1, .int x_1), (3, .int x_3)]) C dX5_nthOf_25 2 rfl (by rw [ex2]; rfl) (by decide) rfl ?_
          obtain ⟨x3, ex3⟩ : ∃ y : Int32, y = (x_3 + (1 : Int32)) := ⟨_, rfl⟩
          replace h := h x3 ex3
          refine zx_iinc (v := x3) (lv' := [(3, .int x3), (2, .int x2), (0, .int x_0), (1, .int x_1)]) C dX5_nthOf_28 3 rfl (by rw [ex3]; rfl) (by decide) rfl ?_
          refine zx_goto C 4 dX5_nthOf_31 (by decide) ?_
          refine zx_lv (lv' := [(0, .int x_0), (1, .int x_1), (2, .int x2), (3, .int x3)]) [2, 3, 1, 0] rfl ?_
          exact ih x2 x3 σ h
        · replace h := h.2 q
          refine zx_iload_n C dX5_nthOf_23 3 rfl ?_
          exact zx_iret C hr dX5_nthOf_24 h
set_option maxRecDepth 100000 in
set_option maxHeartbeats 4000000 in
theorem c_X5_nthOf (l : Launch) (D : va_G) (cy : Nat → ClassId) (g : Nat → Nat) (a1 : Int32) (a2 : Int32)  (σ : zSto) {P : Int32 → zSto → Prop} (h : w_X5_nthOf a1 a2 σ P) : zMi l yX5_nthOf cX5_nthOf 4 (some .int) (zrm 0 0) D cy g [.int a1, .int a2] σ P := by
  unfold w_X5_nthOf at h
  refine zm_i RX5 rfl (by decide +kernel) (Nat.le_of_ble_eq_true rfl) ?_
  intro p e s m below meth c C hr
  refine zx_lv (lv' := [(0, .int a1), (1, .int a2)]) [0, 1] rfl ?_
  refine zx_iconst (v := (0 : Int32)) C dX5_nthOf_0 (by decide) ?_
  refine zx_istore_n (lv' := [(2, .int (0 : Int32)), (0, .int a1), (1, .int a2)]) C dX5_nthOf_1 (by decide) rfl ?_
  refine zx_iconst (v := (0 : Int32)) C dX5_nthOf_2 (by decide) ?_
  refine zx_istore_n (lv' := [(3, .int (0 : Int32)), (2, .int (0 : Int32)), (0, .int a1), (1, .int a2)]) C dX5_nthOf_3 (by decide) rfl ?_
  obtain ⟨n, h⟩ := h
  refine zx_lv (lv' := [(0, .int a1), (1, .int a2), (2, .int (0 : Int32)), (3, .int (0 : Int32))]) [2, 3, 1, 0] rfl ?_
  exact k_X5_nthOf_4 C hr (a1) (a2)   n (0 : Int32) (0 : Int32) σ h
theorem lk_X5_124 : zLS RX5 124 yX5_nthOf cX5_nthOf 4 (some .int) 2 := zLS_of ml_X5_124 st_X5_nthOf ini_X5 cd_X5_nthOf (by decide +kernel)
def w_X5_leastOf (a1 : Int32) (σ : zSto) (P : Int32 → zSto → Prop) : Prop := (w_X5_nthOf a1 (0 : Int32) σ (fun (r2 : Int32) (σ1 : zSto) => P r2 σ1))
set_option maxRecDepth 100000 in
set_option maxHeartbeats 4000000 in
theorem c_X5_leastOf (l : Launch) (D : va_G) (cy : Nat → ClassId) (g : Nat → Nat) (a1 : Int32)  (σ : zSto) {P : Int32 → zSto → Prop} (h : w_X5_leastOf a1 σ P) : zMi l yX5_leastOf cX5_leastOf 1 (some .int) (zrm 1 23) D cy g [.int a1] σ P := by
  unfold w_X5_leastOf at h
  refine zm_i RX5 rfl (by decide +kernel) (Nat.le_of_ble_eq_true rfl) ?_
  intro p e s m below meth c C hr
  refine zx_lv (lv' := [(0, .int a1)]) [0] rfl ?_
  refine zx_iload_n C dX5_leastOf_0 0 rfl ?_
  refine zx_iconst (v := (0 : Int32)) C dX5_leastOf_1 (by decide) ?_
  refine zx_cSi C [.int a1, .int (0 : Int32)] lk_X5_124 (c_X5_nthOf l D cy g a1 (0 : Int32)  σ h) ⟨by decide, by decide⟩ ⟨rfl, rfl⟩ ⟨Nat.zero_le _, Nat.zero_le _⟩ rfl rfl (Nat.le_of_ble_eq_true rfl) dX5_leastOf_2 (fun r2 σ1 h => ?_)
  exact zx_iret C hr dX5_leastOf_5 h
def w_J6_bitCount_0f7a4 (a1 : Int32) (σ : zSto) (P : Int32 → zSto → Prop) : Prop := (∀ x1 : Int32, x1 = (a1 - ((a1.toUInt32 >>> ((1 : Int32).toUInt32 &&& Int32.toUInt32 31)).toInt32 &&& (1431655765 : Int32))) → (∀ x2 : Int32, x2 = ((x1 &&& (858993459 : Int32)) + ((x1.toUInt32 >>> ((2 : Int32).toUInt32 &&& Int32.toUInt32 31)).toInt32 &&& (858993459 : Int32))) → (∀ x3 : Int32, x3 = ((x2 + (x2.toUInt32 >>> ((4 : Int32).toUInt32 &&& Int32.toUInt32 31)).toInt32) &&& (252645135 : Int32)) → (∀ x4 : Int32, x4 = (x3 + (x3.toUInt32 >>> ((8 : Int32).toUInt32 &&& Int32.toUInt32 31)).toInt32) → (∀ x5 : Int32, x5 = (x4 + (x4.toUInt32 >>> ((16 : Int32).toUInt32 &&& Int32.toUInt32 31)).toInt32) → P (x5 &&& (63 : Int32)) σ)))))
set_option maxRecDepth 100000 in
set_option maxHeartbeats 4000000 in
theorem c_J6_bitCount_0f7a4 (l : Launch) (D : va_G) (cy : Nat → ClassId) (g : Nat → Nat) (a1 : Int32)  (σ : zSto) {P : Int32 → zSto → Prop} (h : w_J6_bitCount_0f7a4 a1 σ P) : zMi l yJ6_bitCount_0f7a4 cJ6_bitCount_0f7a4 1 (some .int) (zrm 0 0) D cy g [.int a1] σ P := by
  unfold w_J6_bitCount_0f7a4 at h
  refine zm_i RJ6 rfl (by decide +kernel) (Nat.le_of_ble_eq_true rfl) ?_
  intro p e s m below meth c C hr
  refine zx_lv (lv' := [(0, .int a1)]) [0] rfl ?_
  refine zx_iload_n C dJ6_bitCount_0f7a4_0 0 rfl ?_
  refine zx_iload_n C dJ6_bitCount_0f7a4_1 0 rfl ?_
  refine zx_iconst (v := (1 : Int32)) C dJ6_bitCount_0f7a4_2 (by decide) ?_
  refine zx_iushr C dJ6_bitCount_0f7a4_3 ?_
  refine zx_ldcw C dJ6_bitCount_0f7a4_4 co_J6_265 ?_
  refine zx_iand C dJ6_bitCount_0f7a4_7 ?_
  refine zx_isub C dJ6_bitCount_0f7a4_8 ?_
  refine zx_topi (fun x1 ex1 => ?_)
  replace h := h x1 ex1
  refine zx_istore_n (lv' := [(0, .int x1)]) C dJ6_bitCount_0f7a4_9 (by decide) rfl ?_
  refine zx_iload_n C dJ6_bitCount_0f7a4_10 0 rfl ?_
  refine zx_ldcw C dJ6_bitCount_0f7a4_11 co_J6_266 ?_
  refine zx_iand C dJ6_bitCount_0f7a4_14 ?_
  refine zx_iload_n C dJ6_bitCount_0f7a4_15 0 rfl ?_
  refine zx_iconst (v := (2 : Int32)) C dJ6_bitCount_0f7a4_16 (by decide) ?_
  refine zx_iushr C dJ6_bitCount_0f7a4_17 ?_
  refine zx_ldcw C dJ6_bitCount_0f7a4_18 co_J6_266 ?_
  refine zx_iand C dJ6_bitCount_0f7a4_21 ?_
  refine zx_iadd C dJ6_bitCount_0f7a4_22 ?_
  refine zx_topi (fun x2 ex2 => ?_)
  replace h := h x2 ex2
  refine zx_istore_n (lv' := [(0, .int x2)]) C dJ6_bitCount_0f7a4_23 (by decide) rfl ?_
  refine zx_iload_n C dJ6_bitCount_0f7a4_24 0 rfl ?_
  refine zx_iload_n C dJ6_bitCount_0f7a4_25 0 rfl ?_
  refine zx_iconst (v := (4 : Int32)) C dJ6_bitCount_0f7a4_26 (by decide) ?_
  refine zx_iushr C dJ6_bitCount_0f7a4_27 ?_
  refine zx_iadd C dJ6_bitCount_0f7a4_28 ?_
  refine zx_ldcw C dJ6_bitCount_0f7a4_29 co_J6_267 ?_
  refine zx_iand C dJ6_bitCount_0f7a4_32 ?_
  refine zx_topi (fun x3 ex3 => ?_)
  replace h := h x3 ex3
  refine zx_istore_n (lv' := [(0, .int x3)]) C dJ6_bitCount_0f7a4_33 (by decide) rfl ?_
  refine zx_iload_n C dJ6_bitCount_0f7a4_34 0 rfl ?_
  refine zx_iload_n C dJ6_bitCount_0f7a4_35 0 rfl ?_
  refine zx_bipush (v := (8 : Int32)) C dJ6_bitCount_0f7a4_36 (by decide) ?_
  refine zx_iushr C dJ6_bitCount_0f7a4_38 ?_
  refine zx_iadd C dJ6_bitCount_0f7a4_39 ?_
  refine zx_topi (fun x4 ex4 => ?_)
  replace h := h x4 ex4
  refine zx_istore_n (lv' := [(0, .int x4)]) C dJ6_bitCount_0f7a4_40 (by decide) rfl ?_
  refine zx_iload_n C dJ6_bitCount_0f7a4_41 0 rfl ?_
  refine zx_iload_n C dJ6_bitCount_0f7a4_42 0 rfl ?_
  refine zx_bipush (v := (16 : Int32)) C dJ6_bitCount_0f7a4_43 (by decide) ?_
  refine zx_iushr C dJ6_bitCount_0f7a4_45 ?_
  refine zx_iadd C dJ6_bitCount_0f7a4_46 ?_
  refine zx_topi (fun x5 ex5 => ?_)
  replace h := h x5 ex5
  refine zx_istore_n (lv' := [(0, .int x5)]) C dJ6_bitCount_0f7a4_47 (by decide) rfl ?_
  refine zx_iload_n C dJ6_bitCount_0f7a4_48 0 rfl ?_
  refine zx_bipush (v := (63 : Int32)) C dJ6_bitCount_0f7a4_49 (by decide) ?_
  refine zx_iand C dJ6_bitCount_0f7a4_51 ?_
  exact zx_iret C hr dJ6_bitCount_0f7a4_52 h
theorem fg_X5_28 : zFG RX5 28 5 5 := ⟨RX5, TX5, 12, rfl, lay_X5, by decide, fl_X5_28⟩
theorem fp_X5_28 : zFP RX5 28 5 5 .int := ⟨RX5, TX5, 12, tyX5, rfl, lay_X5, by decide, fl_X5_28, tyX5_ok, nmX5, rfl, by decide +kernel⟩
def w_X5_drawBelow (a1 : Int32) (σ : zSto) (P : Int32 → zSto → Prop) : Prop := (∀ σ1 : zSto, σ1 = zI σ 190 5 (((σ.1 190 5) * (1103515245 : Int32)) + (12345 : Int32)) → ((0 < a1 → (¬ a1 = 0 ∧ P (((σ1.1 190 5).toUInt32 >>> ((16 : Int32).toUInt32 &&& Int32.toUInt32 31)).toInt32 - ((σ1.1 190 5).toUInt32 >>> ((16 : Int32).toUInt32 &&& Int32.toUInt32 31)).toInt32 / a1 * a1) σ1)) ∧ (¬ 0 < a1 → P (0 : Int32) σ1)))
set_option maxRecDepth 100000 in
set_option maxHeartbeats 4000000 in
theorem c_X5_drawBelow (l : Launch) (D : va_G) (cy : Nat → ClassId) (g : Nat → Nat) (a1 : Int32)  (σ : zSto) {P : Int32 → zSto → Prop} (h : w_X5_drawBelow a1 σ P) : zMi l yX5_drawBelow cX5_drawBelow 2 (some .int) (zrm 0 0) D cy g [.ref (g 190), .int a1] σ P := by
  unfold w_X5_drawBelow at h
  refine zm_i RX5 rfl (by decide +kernel) (Nat.le_of_ble_eq_true rfl) ?_
  intro p e s m below meth c C hr
  refine zx_lv (lv' := [(0, .ref (g 190)), (1, .int a1)]) [0, 1] rfl ?_
  refine zx_aload_n C dX5_drawBelow_0 0 rfl ?_
  refine zx_aload_n C dX5_drawBelow_1 0 rfl ?_
  refine zx_getI C zs_190 fg_X5_28 rfl dX5_drawBelow_2 ?_
  refine zx_ldc C dX5_drawBelow_5 co_X5_133 ?_
  refine zx_imul C dX5_drawBelow_7 ?_
  refine zx_sipush (v := (12345 : Int32)) C dX5_drawBelow_8 (by decide) ?_
  refine zx_iadd C dX5_drawBelow_11 ?_
  refine zx_putI C zs_190 fp_X5_28 rfl dX5_drawBelow_12 ?_
  refine zx_sig (fun σ1 eσ1 => ?_)
  replace h := h σ1 eσ1
  refine zx_iload_n C dX5_drawBelow_15 1 rfl ?_
  refine zx_if_gt C 23 dX5_drawBelow_16 (by decide) (fun q => ?_) (fun q => ?_)
  · replace h := h.1 q
    refine zx_aload_n C dX5_drawBelow_23 0 rfl ?_
    refine zx_getI C zs_190 fg_X5_28 rfl dX5_drawBelow_24 ?_
    refine zx_bipush (v := (16 : Int32)) C dX5_drawBelow_27 (by decide) ?_
    refine zx_iushr C dX5_drawBelow_29 ?_
    refine zx_iload_n C dX5_drawBelow_30 1 rfl ?_
    obtain ⟨q2, h⟩ := h
    refine zx_irem C dX5_drawBelow_31 q2 ?_
    exact zx_iret C hr dX5_drawBelow_32 h
  · replace h := h.2 q
    refine zx_iconst (v := (0 : Int32)) C dX5_drawBelow_19 (by decide) ?_
    refine zx_goto C 32 dX5_drawBelow_20 (by decide) ?_
    exact zx_iret C hr dX5_drawBelow_32 h
theorem fg_X5_130 : zFG RX5 130 0 10 := ⟨RX0, TX0, 18, rfl, lay_X0, by decide, fl_X5_130⟩
def w_X5_highestFare_4 (q_0 : Nat) (x_1 : Int32) (P : Int32 → zSto → Prop)  : Nat → Int32 → Int32 → zSto → Prop
  | 0, _, _, _ => False
  | n + 1, x_2, x_3, σ => (((σ.1 q_0 12) ≤ x_3 → P x_2 σ) ∧ (¬ (σ.1 q_0 12) ≤ x_3 → ((((x_1 >>> (x_3 &&& 31)) &&& (1 : Int32)) = 0 → (∀ x1 : Int32, x1 = (x_3 + (1 : Int32)) → w_X5_highestFare_4 q_0 x_1 P n x_2 x1 σ)) ∧ (¬ ((x_1 >>> (x_3 &&& 31)) &&& (1 : Int32)) = 0 → ((x_2 = (-1 : Int32) → (∀ x2 : Int32, x2 = (x_3 + (1 : Int32)) → w_X5_highestFare_4 q_0 x_1 P n x_3 x2 σ)) ∧ (¬ x_2 = (-1 : Int32) → (vp_in x_3 6 ∧ (vp_in x_2 6 ∧ (((σ.1 (q_0 + 11) (x_3).toNatClampNeg) ≤ (σ.1 (q_0 + 11) (x_2).toNatClampNeg) → (∀ x5 : Int32, x5 = (x_3 + (1 : Int32)) → w_X5_highestFare_4 q_0 x_1 P n x_2 x5 σ)) ∧ (¬ (σ.1 (q_0 + 11) (x_3).toNatClampNeg) ≤ (σ.1 (q_0 + 11) (x_2).toNatClampNeg) → (∀ x6 : Int32, x6 = (x_3 + (1 : Int32)) → w_X5_highestFare_4 q_0 x_1 P n x_3 x6 σ)))))))))))
def w_X5_highestFare (b1 : Nat) (a2 : Int32) (σ : zSto) (P : Int32 → zSto → Prop) : Prop := (∃ n : Nat, w_X5_highestFare_4 b1 a2 P  n (-1 : Int32) (0 : Int32) σ)
set_option maxRecDepth 100000 in
set_option maxHeartbeats 4000000 in
theorem k_X5_highestFare_4 {p : Program} {l : Launch} {e : Env} {s : State} {m : MethodId} {args : Array Value} {below : List Frame} {meth : Method} {c : Code} {D : va_G} {cy : Nat → ClassId} {g : Nat → Nat} (C : zC p s m args meth c cX5_highestFare RX5 5 D cy g) (hr : meth.sig.returnType = (some .int)) {P : Int32 → zSto → Prop} (q_0 : Nat) (x_1 : Int32) (hq_0 : zIsLine q_0)   : ∀ (n : Nat) (x_2 : Int32) (x_3 : Int32) (σ : zSto), w_X5_highestFare_4 q_0 x_1 P n x_2 x_3 σ → zX p l e (zrm 0 0) s m args below meth c 0 0 (zQi P below args s D cy g) 5 D cy g 4 [(0, .ref (g q_0)), (1, .int x_1), (2, .int x_2), (3, .int x_3)] [] σ := by
  intro n
  induction n with
  | zero => intro x_2 x_3 σ h; exact h.elim
  | succ n ih =>
    intro x_2 x_3 σ h
    unfold w_X5_highestFare_4 at h
    refine zx_iload_n C dX5_highestFare_4 3 rfl ?_
    refine zx_aload_n C dX5_highestFare_5 0 rfl ?_
    refine zx_getI C hq_0.1 fg_X5_68 rfl dX5_highestFare_6 ?_
    refine zx_icmp_ge C 60 dX5_highestFare_9 (by decide) (fun q => ?_) (fun q => ?_)
    · replace h := h.1 q
      refine zx_iload_n C dX5_highestFare_60 2 rfl ?_
      exact zx_iret C hr dX5_highestFare_61 h
    · replace h := h.2 q
      refine zx_iload_n C dX5_highestFare_12 1 rfl ?_
      refine zx_iload_n C dX5_highestFare_13 3 rfl ?_
      refine zx_ishr C dX5_highestFare_14 ?_
      refine zx_iconst (v := (1 : Int32)) C dX5_highestFare_15 (by decide) ?_
      refine zx_iand C dX5_highestFare_16 ?_
      refine zx_if_eq C 24 dX5_highestFare_17 (by decide) (fun q => ?_) (fun q => ?_)
      · replace h := h.1 q
        refine zx_iconst (v := (0 : Int32)) C dX5_highestFare_24 (by decide) ?_
        refine zx_istore (lv' := [(4, .int (0 : Int32)), (0, .ref (g q_0)), (1, .int x_1), (2, .int x_2), (3, .int x_3)]) C dX5_highestFare_25 (by decide) rfl ?_
        refine zx_iload C dX5_highestFare_27 0 rfl ?_
        refine zx_if_eq C 54 dX5_highestFare_29 (by decide) (fun q => ?_) (fun q => ?_)
        · obtain ⟨x1, ex1⟩ : ∃ y : Int32, y = (x_3 + (1 : Int32)) := ⟨_, rfl⟩
          replace h := h x1 ex1
          refine zx_iinc (v := x1) (lv' := [(3, .int x1), (4, .int (0 : Int32)), (0, .ref (g q_0)), (1, .int x_1), (2, .int x_2)]) C dX5_highestFare_54 4 rfl (by rw [ex1]; rfl) (by decide) rfl ?_
          refine zx_goto C 4 dX5_highestFare_57 (by decide) ?_
          refine zx_lv (lv' := [(0, .ref (g q_0)), (1, .int x_1), (2, .int x_2), (3, .int x1)]) [2, 3, 4, 0] rfl ?_
          exact ih x_2 x1 σ h
        · exact absurd q (by decide)
      · replace h := h.2 q
        refine zx_iconst (v := (1 : Int32)) C dX5_highestFare_20 (by decide) ?_
        refine zx_goto C 25 dX5_highestFare_21 (by decide) ?_
        refine zx_istore (lv' := [(4, .int (1 : Int32)), (0, .ref (g q_0)), (1, .int x_1), (2, .int x_2), (3, .int x_3)]) C dX5_highestFare_25 (by decide) rfl ?_
        refine zx_iload C dX5_highestFare_27 0 rfl ?_
        refine zx_if_eq C 54 dX5_highestFare_29 (by decide) (fun q => ?_) (fun q => ?_)
        · exact absurd q (by decide)
        · refine zx_iload_n C dX5_highestFare_32 3 rfl ?_
          refine zx_iconst (v := (-1 : Int32)) C dX5_highestFare_33 (by decide) ?_
          refine zx_icmp_eq C 52 dX5_highestFare_34 (by decide) (fun q => ?_) (fun q => ?_)
          · replace h := h.1 q
            refine zx_iload_n C dX5_highestFare_52 4 rfl ?_
            refine zx_istore_n (lv' := [(2, .int x_3), (4, .int (1 : Int32)), (0, .ref (g q_0)), (1, .int x_1), (3, .int x_3)]) C dX5_highestFare_53 (by decide) rfl ?_
            obtain ⟨x2, ex2⟩ : ∃ y : Int32, y = (x_3 + (1 : Int32)) := ⟨_, rfl⟩
            replace h := h x2 ex2
            refine zx_iinc (v := x2) (lv' := [(3, .int x2), (2, .int x_3), (4, .int (1 : Int32)), (0, .ref (g q_0)), (1, .int x_1)]) C dX5_highestFare_54 4 rfl (by rw [ex2]; rfl) (by decide) rfl ?_
            refine zx_goto C 4 dX5_highestFare_57 (by decide) ?_
            refine zx_lv (lv' := [(0, .ref (g q_0)), (1, .int x_1), (2, .int x_3), (3, .int x2)]) [3, 4, 1, 0] rfl ?_
            exact ih x_3 x2 σ h
          · replace h := h.2 q
            refine zx_aload_n C dX5_highestFare_37 1 rfl ?_
            refine zx_getR C hq_0.1 fg_X5_130 rfl (q_0 + 11) rfl dX5_highestFare_38 ?_
            refine zx_iload_n C dX5_highestFare_41 4 rfl ?_
            obtain ⟨bd3, h⟩ := h
            refine zx_iald C (x_3).toNatClampNeg hq_0.2.2.2.2.2.2.2.2.2.2.2 bd3 rfl dX5_highestFare_42 ?_
            refine zx_aload_n C dX5_highestFare_43 1 rfl ?_
            refine zx_getR C hq_0.1 fg_X5_130 rfl (q_0 + 11) rfl dX5_highestFare_44 ?_
            refine zx_iload_n C dX5_highestFare_47 3 rfl ?_
            obtain ⟨bd4, h⟩ := h
            refine zx_iald C (x_2).toNatClampNeg hq_0.2.2.2.2.2.2.2.2.2.2.2 bd4 rfl dX5_highestFare_48 ?_
            refine zx_icmp_le C 54 dX5_highestFare_49 (by decide) (fun q => ?_) (fun q => ?_)
            · replace h := h.1 q
              obtain ⟨x5, ex5⟩ : ∃ y : Int32, y = (x_3 + (1 : Int32)) := ⟨_, rfl⟩
              replace h := h x5 ex5
              refine zx_iinc (v := x5) (lv' := [(3, .int x5), (4, .int (1 : Int32)), (0, .ref (g q_0)), (1, .int x_1), (2, .int x_2)]) C dX5_highestFare_54 4 rfl (by rw [ex5]; rfl) (by decide) rfl ?_
              refine zx_goto C 4 dX5_highestFare_57 (by decide) ?_
              refine zx_lv (lv' := [(0, .ref (g q_0)), (1, .int x_1), (2, .int x_2), (3, .int x5)]) [2, 3, 4, 0] rfl ?_
              exact ih x_2 x5 σ h
            · replace h := h.2 q
              refine zx_iload_n C dX5_highestFare_52 4 rfl ?_
              refine zx_istore_n (lv' := [(2, .int x_3), (4, .int (1 : Int32)), (0, .ref (g q_0)), (1, .int x_1), (3, .int x_3)]) C dX5_highestFare_53 (by decide) rfl ?_
              obtain ⟨x6, ex6⟩ : ∃ y : Int32, y = (x_3 + (1 : Int32)) := ⟨_, rfl⟩
              replace h := h x6 ex6
              refine zx_iinc (v := x6) (lv' := [(3, .int x6), (2, .int x_3), (4, .int (1 : Int32)), (0, .ref (g q_0)), (1, .int x_1)]) C dX5_highestFare_54 4 rfl (by rw [ex6]; rfl) (by decide) rfl ?_
              refine zx_goto C 4 dX5_highestFare_57 (by decide) ?_
              refine zx_lv (lv' := [(0, .ref (g q_0)), (1, .int x_1), (2, .int x_3), (3, .int x6)]) [3, 4, 1, 0] rfl ?_
              exact ih x_3 x6 σ h
set_option maxRecDepth 100000 in
set_option maxHeartbeats 4000000 in
theorem c_X5_highestFare (l : Launch) (D : va_G) (cy : Nat → ClassId) (g : Nat → Nat) (b1 : Nat) (a2 : Int32) (hb1 : zIsLine b1) (σ : zSto) {P : Int32 → zSto → Prop} (h : w_X5_highestFare b1 a2 σ P) : zMi l yX5_highestFare cX5_highestFare 5 (some .int) (zrm 0 0) D cy g [.ref (g b1), .int a2] σ P := by
  unfold w_X5_highestFare at h
  refine zm_i RX5 rfl (by decide +kernel) (Nat.le_of_ble_eq_true rfl) ?_
  intro p e s m below meth c C hr
  refine zx_lv (lv' := [(0, .ref (g b1)), (1, .int a2)]) [0, 1] rfl ?_
  refine zx_iconst (v := (-1 : Int32)) C dX5_highestFare_0 (by decide) ?_
  refine zx_istore_n (lv' := [(2, .int (-1 : Int32)), (0, .ref (g b1)), (1, .int a2)]) C dX5_highestFare_1 (by decide) rfl ?_
  refine zx_iconst (v := (0 : Int32)) C dX5_highestFare_2 (by decide) ?_
  refine zx_istore_n (lv' := [(3, .int (0 : Int32)), (2, .int (-1 : Int32)), (0, .ref (g b1)), (1, .int a2)]) C dX5_highestFare_3 (by decide) rfl ?_
  obtain ⟨n, h⟩ := h
  refine zx_lv (lv' := [(0, .ref (g b1)), (1, .int a2), (2, .int (-1 : Int32)), (3, .int (0 : Int32))]) [2, 3, 1, 0] rfl ?_
  exact k_X5_highestFare_4 C hr (b1) (a2) hb1  n (-1 : Int32) (0 : Int32) σ h
theorem lk_X5_113 : zLS RX5 113 yX5_leastOf cX5_leastOf 1 (some .int) 1 := zLS_of ml_X5_113 st_X5_leastOf ini_X5 cd_X5_leastOf (by decide +kernel)
theorem fg_X5_74 : zFG RX5 74 5 4 := ⟨RX5, TX5, 12, rfl, lay_X5, by decide, fl_X5_74⟩
theorem lk_X5_116 : zLS RX5 116 yJ6_bitCount_0f7a4 cJ6_bitCount_0f7a4 1 (some .int) 1 := zLS_of ml_X5_116 st_J6_bitCount_0f7a4 ini_J6 cd_J6_bitCount_0f7a4 (by decide +kernel)
theorem lk_X5_121 : zLV RX5 121 RX5 yX5_drawBelow cX5_drawBelow 2 (some .int) 1 := zLV_of ml_X5_121 im_X5_drawBelow se_X5_drawBelow ini_X5 cd_X5_drawBelow (by decide +kernel)
theorem lk_X5_127 : zLS RX5 127 yX5_highestFare cX5_highestFare 5 (some .int) 2 := zLS_of ml_X5_127 st_X5_highestFare ini_X5 cd_X5_highestFare (by decide +kernel)
def w_X5_chosen (b1 : Nat) (a2 : Int32) (a3 : Int32) (σ : zSto) (P : Int32 → zSto → Prop) : Prop := ((¬ a3 = 0 → ((a2 = 0 → (w_X5_leastOf a3 σ (fun (r2 : Int32) (σ1 : zSto) => P r2 σ1))) ∧ (a2 = 1 → (w_X5_leastOf (a3 &&& ((σ.1 190 4) ^^^ (-1 : Int32))) σ (fun (r4 : Int32) (σ3 : zSto) => P r4 σ3))) ∧ (a2 = 2 → (w_J6_bitCount_0f7a4 a3 σ (fun (r6 : Int32) (σ5 : zSto) => (w_X5_drawBelow r6 σ5 (fun (r8 : Int32) (σ7 : zSto) => (w_X5_nthOf a3 r8 σ7 (fun (r10 : Int32) (σ9 : zSto) => P r10 σ9))))))) ∧ (a2 = 3 → (w_X5_highestFare b1 a3 σ (fun (r12 : Int32) (σ11 : zSto) => P r12 σ11))) ∧ ((a2.toInt < 0 ∨ 3 < a2.toInt) → P (-1 : Int32) σ))) ∧ (a3 = 0 → P (-1 : Int32) σ))
set_option maxRecDepth 100000 in
set_option maxHeartbeats 4000000 in
theorem c_X5_chosen (l : Launch) (D : va_G) (cy : Nat → ClassId) (g : Nat → Nat) (b1 : Nat) (a2 : Int32) (a3 : Int32) (hb1 : zIsLine b1) (σ : zSto) {P : Int32 → zSto → Prop} (h : w_X5_chosen b1 a2 a3 σ P) : zMi l yX5_chosen cX5_chosen 4 (some .int) (zrm 2 43) D cy g [.ref (g 190), .ref (g b1), .int a2, .int a3] σ P := by
  unfold w_X5_chosen at h
  refine zm_i RX5 rfl (by decide +kernel) (Nat.le_of_ble_eq_true rfl) ?_
  intro p e s m below meth c C hr
  refine zx_lv (lv' := [(0, .ref (g 190)), (1, .ref (g b1)), (2, .int a2), (3, .int a3)]) [0, 1, 2, 3] rfl ?_
  refine zx_iload_n C dX5_chosen_0 3 rfl ?_
  refine zx_if_ne C 6 dX5_chosen_1 (by decide) (fun q => ?_) (fun q => ?_)
  · replace h := h.1 q
    refine zx_iload_n C dX5_chosen_6 2 rfl ?_
    refine zsw (x := a2) 3 (fun q => ?_) (fun i hi q => ?_)
    · replace h := h.2.2.2.2 q
      refine zx_tableOut C 72 dX5_chosen_7 q (by decide) ?_
      refine zx_iconst (v := (-1 : Int32)) C dX5_chosen_72 (by decide) ?_
      exact zx_iret C hr dX5_chosen_73 h
    · match i, hi, q with
      | 0, _, q =>
        replace h := h.1 q
        refine zx_tableIn C 36 (0 : Int32) q dX5_chosen_7 (by decide) (by decide) rfl (by decide) ?_
        refine zx_iload_n C dX5_chosen_36 3 rfl ?_
        refine zx_cSi C [.int a3] lk_X5_113 (c_X5_leastOf l D cy g a3  σ h) ⟨by decide, by decide⟩ ⟨rfl, rfl⟩ ⟨Nat.zero_le _, Nat.zero_le _⟩ rfl rfl (Nat.le_of_ble_eq_true rfl) dX5_chosen_37 (fun r2 σ1 h => ?_)
        exact zx_iret C hr dX5_chosen_40 h
      | 1, _, q =>
        replace h := h.2.1 q
        refine zx_tableIn C 41 (1 : Int32) q dX5_chosen_7 (by decide) (by decide) rfl (by decide) ?_
        refine zx_iload_n C dX5_chosen_41 3 rfl ?_
        refine zx_aload_n C dX5_chosen_42 0 rfl ?_
        refine zx_getI C zs_190 fg_X5_74 rfl dX5_chosen_43 ?_
        refine zx_iconst (v := (-1 : Int32)) C dX5_chosen_46 (by decide) ?_
        refine zx_ixor C dX5_chosen_47 ?_
        refine zx_iand C dX5_chosen_48 ?_
        refine zx_cSi C [.int (a3 &&& ((σ.1 190 4) ^^^ (-1 : Int32)))] lk_X5_113 (c_X5_leastOf l D cy g (a3 &&& ((σ.1 190 4) ^^^ (-1 : Int32)))  σ h) ⟨by decide, by decide⟩ ⟨rfl, rfl⟩ ⟨Nat.zero_le _, Nat.zero_le _⟩ rfl rfl (Nat.le_of_ble_eq_true rfl) dX5_chosen_49 (fun r4 σ3 h => ?_)
        exact zx_iret C hr dX5_chosen_52 h
      | 2, _, q =>
        replace h := h.2.2.1 q
        refine zx_tableIn C 53 (2 : Int32) q dX5_chosen_7 (by decide) (by decide) rfl (by decide) ?_
        refine zx_iload_n C dX5_chosen_53 3 rfl ?_
        refine zx_aload_n C dX5_chosen_54 0 rfl ?_
        refine zx_iload_n C dX5_chosen_55 3 rfl ?_
        refine zx_cSi C [.int a3] lk_X5_116 (c_J6_bitCount_0f7a4 l D cy g a3  σ h) ⟨by decide, by decide⟩ ⟨rfl, rfl⟩ ⟨Nat.zero_le _, Nat.zero_le _⟩ rfl rfl (Nat.le_of_ble_eq_true rfl) dX5_chosen_56 (fun r6 σ5 h => ?_)
        refine zx_cVi C [.int r6] lk_X5_121 (c_X5_drawBelow l D cy g r6  σ5 h) zs_190 rfl ⟨by decide, by decide⟩ ⟨rfl, rfl⟩ ⟨Nat.zero_le _, Nat.zero_le _⟩ rfl rfl (Nat.le_of_ble_eq_true rfl) dX5_chosen_59 (fun r8 σ7 h => ?_)
        refine zx_cSi C [.int a3, .int r8] lk_X5_124 (c_X5_nthOf l D cy g a3 r8  σ7 h) ⟨by decide, by decide⟩ ⟨rfl, rfl⟩ ⟨Nat.zero_le _, Nat.zero_le _⟩ rfl rfl (Nat.le_of_ble_eq_true rfl) dX5_chosen_62 (fun r10 σ9 h => ?_)
        exact zx_iret C hr dX5_chosen_65 h
      | 3, _, q =>
        replace h := h.2.2.2.1 q
        refine zx_tableIn C 66 (3 : Int32) q dX5_chosen_7 (by decide) (by decide) rfl (by decide) ?_
        refine zx_aload_n C dX5_chosen_66 1 rfl ?_
        refine zx_iload_n C dX5_chosen_67 3 rfl ?_
        refine zx_cSi C [.ref (g b1), .int a3] lk_X5_127 (c_X5_highestFare l D cy g b1 a3 hb1 σ h) ⟨by decide, by decide⟩ ⟨rfl, rfl⟩ ⟨Nat.zero_le _, Nat.zero_le _⟩ rfl rfl (Nat.le_of_ble_eq_true rfl) dX5_chosen_68 (fun r12 σ11 h => ?_)
        exact zx_iret C hr dX5_chosen_71 h
      | i + 4, hi, _ => exact absurd hi (by omega)
  · replace h := h.2 q
    refine zx_iconst (v := (-1 : Int32)) C dX5_chosen_4 (by decide) ?_
    exact zx_iret C hr dX5_chosen_5 h
theorem fg_X5_86 : zFG RX5 86 5 9 := ⟨RX5, TX5, 12, rfl, lay_X5, by decide, fl_X5_86⟩
theorem fg_X5_89 : zFG RX5 89 5 10 := ⟨RX5, TX5, 12, rfl, lay_X5, by decide, fl_X5_89⟩
theorem fg_X5_77 : zFG RX5 77 5 6 := ⟨RX5, TX5, 12, rfl, lay_X5, by decide, fl_X5_77⟩
theorem fg_X5_80 : zFG RX5 80 5 7 := ⟨RX5, TX5, 12, rfl, lay_X5, by decide, fl_X5_80⟩
theorem fg_X5_139 : zFG RX5 139 0 16 := ⟨RX0, TX0, 18, rfl, lay_X0, by decide, fl_X5_139⟩
def w_X5_stopAt (b1 : Nat) (a2 : Int32) (a3 : Int32) (σ : zSto) (P : zSto → Prop) : Prop := (vp_in a2 16 ∧ (vp_in a3 6 ∧ (∀ x3 : Int32, x3 = (if (σ.1 194 (a3).toNatClampNeg) < (σ.1 192 (a2).toNatClampNeg) then (σ.1 194 (a3).toNatClampNeg) else (σ.1 192 (a2).toNatClampNeg)) → (∀ x4 : Int32, x4 = (x3 / (3 : Int32)) → (vp_in a2 16 ∧ (vp_in a2 16 ∧ (∀ σ7 : zSto, σ7 = zI σ 192 (a2).toNatClampNeg ((σ.1 192 (a2).toNatClampNeg) - x3) → (vp_in a3 6 ∧ (vp_in a3 6 ∧ (∀ σ10 : zSto, σ10 = zI σ7 194 (a3).toNatClampNeg ((σ7.1 194 (a3).toNatClampNeg) - x3) → (vp_in a3 6 ∧ (vp_in a3 6 ∧ (∀ σ13 : zSto, σ13 = zI σ10 193 (a3).toNatClampNeg ((σ10.1 193 (a3).toNatClampNeg) + (x3 - x4)) → (∀ σ14 : zSto, σ14 = zI σ13 190 9 ((σ13.1 190 9) + x3) → (∀ σ15 : zSto, σ15 = zI σ14 190 10 ((σ14.1 190 10) + x4) → (w_X0_cost b1 a2 σ15 (fun (r17 : Int32) (σ16 : zSto) => (∀ σ18 : zSto, σ18 = zI σ16 190 8 ((σ15.1 190 8) + r17) → (vp_in a2 16 ∧ (∀ σ20 : zSto, σ20 = zI σ18 191 (a2).toNatClampNeg a3 → (∀ σ21 : zSto, σ21 = zI σ20 190 4 ((σ20.1 190 4) ||| ((1 : Int32) <<< (a3 &&& 31))) → (∀ σ22 : zSto, σ22 = zI σ21 190 6 ((σ21.1 190 6) ||| ((1 : Int32) <<< (a2 &&& 31))) → (∀ σ23 : zSto, σ23 = zI σ22 190 7 ((σ22.1 190 7) + (1 : Int32)) → ((¬ (σ23.1 190 7) = (σ23.1 b1 16) → P σ23) ∧ ((σ23.1 190 7) = (σ23.1 b1 16) → (∀ σ24 : zSto, σ24 = zI σ23 190 11 a2 → P σ24))))))))))))))))))))))))))
set_option maxRecDepth 100000 in
set_option maxHeartbeats 4000000 in
theorem c_X5_stopAt (l : Launch) (D : va_G) (cy : Nat → ClassId) (g : Nat → Nat) (b1 : Nat) (a2 : Int32) (a3 : Int32) (hb1 : zIsLine b1) (σ : zSto) {P : zSto → Prop} (h : w_X5_stopAt b1 a2 a3 σ P) : zMv l yX5_stopAt cX5_stopAt 6 none (zrm 1 64) D cy g [.ref (g 190), .ref (g b1), .int a2, .int a3] σ P := by
  unfold w_X5_stopAt at h
  refine zm_v RX5 rfl (by decide +kernel) (Nat.le_of_ble_eq_true rfl) ?_
  intro p e s m below meth c C hr
  refine zx_lv (lv' := [(0, .ref (g 190)), (1, .ref (g b1)), (2, .int a2), (3, .int a3)]) [0, 1, 2, 3] rfl ?_
  refine zx_aload_n C dX5_stopAt_0 0 rfl ?_
  refine zx_getR C zs_190 fg_X5_15 rfl 192 rfl dX5_stopAt_1 ?_
  refine zx_iload_n C dX5_stopAt_4 2 rfl ?_
  obtain ⟨bd1, h⟩ := h
  refine zx_iald C (a2).toNatClampNeg zs_192 bd1 rfl dX5_stopAt_5 ?_
  refine zx_aload_n C dX5_stopAt_6 0 rfl ?_
  refine zx_getR C zs_190 fg_X5_21 rfl 194 rfl dX5_stopAt_7 ?_
  refine zx_iload_n C dX5_stopAt_10 3 rfl ?_
  obtain ⟨bd2, h⟩ := h
  refine zx_iald C (a3).toNatClampNeg zs_194 bd2 rfl dX5_stopAt_11 ?_
  refine zx_min C ml_X5_134 st_math_min ini_J9 cd_math_min (Nat.le_of_ble_eq_true rfl) (Nat.le_of_ble_eq_true rfl) ⟨Nat.zero_le _, Nat.zero_le _⟩ dX5_stopAt_12 ?_
  refine zx_topi (fun x3 ex3 => ?_)
  replace h := h x3 ex3
  refine zx_istore (lv' := [(4, .int x3), (0, .ref (g 190)), (1, .ref (g b1)), (2, .int a2), (3, .int a3)]) C dX5_stopAt_15 (by decide) rfl ?_
  refine zx_iload C dX5_stopAt_17 0 rfl ?_
  refine zx_iconst (v := (3 : Int32)) C dX5_stopAt_19 (by decide) ?_
  refine zx_idiv C dX5_stopAt_20 (by decide) ?_
  refine zx_topi (fun x4 ex4 => ?_)
  replace h := h x4 ex4
  refine zx_istore (lv' := [(5, .int x4), (4, .int x3), (0, .ref (g 190)), (1, .ref (g b1)), (2, .int a2), (3, .int a3)]) C dX5_stopAt_21 (by decide) rfl ?_
  refine zx_aload_n C dX5_stopAt_23 2 rfl ?_
  refine zx_getR C zs_190 fg_X5_15 rfl 192 rfl dX5_stopAt_24 ?_
  refine zx_iload_n C dX5_stopAt_27 4 rfl ?_
  refine zx_dup2 C dX5_stopAt_28 rfl rfl ?_
  obtain ⟨bd5, h⟩ := h
  refine zx_iald C (a2).toNatClampNeg zs_192 bd5 rfl dX5_stopAt_29 ?_
  refine zx_iload C dX5_stopAt_30 1 rfl ?_
  refine zx_isub C dX5_stopAt_32 ?_
  obtain ⟨bd6, h⟩ := h
  refine zx_iast C (a2).toNatClampNeg zs_192 bd6 rfl dX5_stopAt_33 ?_
  refine zx_sig (fun σ7 eσ7 => ?_)
  replace h := h σ7 eσ7
  refine zx_aload_n C dX5_stopAt_34 2 rfl ?_
  refine zx_getR C zs_190 fg_X5_21 rfl 194 rfl dX5_stopAt_35 ?_
  refine zx_iload_n C dX5_stopAt_38 5 rfl ?_
  refine zx_dup2 C dX5_stopAt_39 rfl rfl ?_
  obtain ⟨bd8, h⟩ := h
  refine zx_iald C (a3).toNatClampNeg zs_194 bd8 rfl dX5_stopAt_40 ?_
  refine zx_iload C dX5_stopAt_41 1 rfl ?_
  refine zx_isub C dX5_stopAt_43 ?_
  obtain ⟨bd9, h⟩ := h
  refine zx_iast C (a3).toNatClampNeg zs_194 bd9 rfl dX5_stopAt_44 ?_
  refine zx_sig (fun σ10 eσ10 => ?_)
  replace h := h σ10 eσ10
  refine zx_aload_n C dX5_stopAt_45 2 rfl ?_
  refine zx_getR C zs_190 fg_X5_18 rfl 193 rfl dX5_stopAt_46 ?_
  refine zx_iload_n C dX5_stopAt_49 5 rfl ?_
  refine zx_dup2 C dX5_stopAt_50 rfl rfl ?_
  obtain ⟨bd11, h⟩ := h
  refine zx_iald C (a3).toNatClampNeg zs_193 bd11 rfl dX5_stopAt_51 ?_
  refine zx_iload C dX5_stopAt_52 1 rfl ?_
  refine zx_iload C dX5_stopAt_54 0 rfl ?_
  refine zx_isub C dX5_stopAt_56 ?_
  refine zx_iadd C dX5_stopAt_57 ?_
  obtain ⟨bd12, h⟩ := h
  refine zx_iast C (a3).toNatClampNeg zs_193 bd12 rfl dX5_stopAt_58 ?_
  refine zx_sig (fun σ13 eσ13 => ?_)
  replace h := h σ13 eσ13
  refine zx_aload_n C dX5_stopAt_59 2 rfl ?_
  refine zx_dup C dX5_stopAt_60 rfl ?_
  refine zx_getI C zs_190 fg_X5_86 rfl dX5_stopAt_61 ?_
  refine zx_iload C dX5_stopAt_64 1 rfl ?_
  refine zx_iadd C dX5_stopAt_66 ?_
  refine zx_putI C zs_190 fp_X5_86 rfl dX5_stopAt_67 ?_
  refine zx_sig (fun σ14 eσ14 => ?_)
  replace h := h σ14 eσ14
  refine zx_aload_n C dX5_stopAt_70 2 rfl ?_
  refine zx_dup C dX5_stopAt_71 rfl ?_
  refine zx_getI C zs_190 fg_X5_89 rfl dX5_stopAt_72 ?_
  refine zx_iload C dX5_stopAt_75 0 rfl ?_
  refine zx_iadd C dX5_stopAt_77 ?_
  refine zx_putI C zs_190 fp_X5_89 rfl dX5_stopAt_78 ?_
  refine zx_sig (fun σ15 eσ15 => ?_)
  replace h := h σ15 eσ15
  refine zx_aload_n C dX5_stopAt_81 2 rfl ?_
  refine zx_dup C dX5_stopAt_82 rfl ?_
  refine zx_getI C zs_190 fg_X5_83 rfl dX5_stopAt_83 ?_
  refine zx_aload_n C dX5_stopAt_86 3 rfl ?_
  refine zx_iload_n C dX5_stopAt_87 4 rfl ?_
  refine zx_cVi C [.int a2] lk_X5_103 (c_X0_cost l D cy g b1 a2 hb1 σ15 h) hb1.1 rfl ⟨by decide, by decide⟩ ⟨rfl, rfl⟩ ⟨Nat.zero_le _, Nat.zero_le _⟩ rfl rfl (Nat.le_of_ble_eq_true rfl) dX5_stopAt_88 (fun r17 σ16 h => ?_)
  refine zx_iadd C dX5_stopAt_91 ?_
  refine zx_putI C zs_190 fp_X5_83 rfl dX5_stopAt_92 ?_
  refine zx_sig (fun σ18 eσ18 => ?_)
  replace h := h σ18 eσ18
  refine zx_aload_n C dX5_stopAt_95 2 rfl ?_
  refine zx_getR C zs_190 fg_X5_9 rfl 191 rfl dX5_stopAt_96 ?_
  refine zx_iload_n C dX5_stopAt_99 4 rfl ?_
  refine zx_iload_n C dX5_stopAt_100 5 rfl ?_
  obtain ⟨bd19, h⟩ := h
  refine zx_iast C (a2).toNatClampNeg zs_191 bd19 rfl dX5_stopAt_101 ?_
  refine zx_sig (fun σ20 eσ20 => ?_)
  replace h := h σ20 eσ20
  refine zx_aload_n C dX5_stopAt_102 2 rfl ?_
  refine zx_dup C dX5_stopAt_103 rfl ?_
  refine zx_getI C zs_190 fg_X5_74 rfl dX5_stopAt_104 ?_
  refine zx_iconst (v := (1 : Int32)) C dX5_stopAt_107 (by decide) ?_
  refine zx_iload_n C dX5_stopAt_108 5 rfl ?_
  refine zx_ishl C dX5_stopAt_109 ?_
  refine zx_ior C dX5_stopAt_110 ?_
  refine zx_putI C zs_190 fp_X5_74 rfl dX5_stopAt_111 ?_
  refine zx_sig (fun σ21 eσ21 => ?_)
  replace h := h σ21 eσ21
  refine zx_aload_n C dX5_stopAt_114 2 rfl ?_
  refine zx_dup C dX5_stopAt_115 rfl ?_
  refine zx_getI C zs_190 fg_X5_77 rfl dX5_stopAt_116 ?_
  refine zx_iconst (v := (1 : Int32)) C dX5_stopAt_119 (by decide) ?_
  refine zx_iload_n C dX5_stopAt_120 4 rfl ?_
  refine zx_ishl C dX5_stopAt_121 ?_
  refine zx_ior C dX5_stopAt_122 ?_
  refine zx_putI C zs_190 fp_X5_77 rfl dX5_stopAt_123 ?_
  refine zx_sig (fun σ22 eσ22 => ?_)
  replace h := h σ22 eσ22
  refine zx_aload_n C dX5_stopAt_126 2 rfl ?_
  refine zx_dup C dX5_stopAt_127 rfl ?_
  refine zx_getI C zs_190 fg_X5_80 rfl dX5_stopAt_128 ?_
  refine zx_iconst (v := (1 : Int32)) C dX5_stopAt_131 (by decide) ?_
  refine zx_iadd C dX5_stopAt_132 ?_
  refine zx_putI C zs_190 fp_X5_80 rfl dX5_stopAt_133 ?_
  refine zx_sig (fun σ23 eσ23 => ?_)
  replace h := h σ23 eσ23
  refine zx_aload_n C dX5_stopAt_136 2 rfl ?_
  refine zx_getI C zs_190 fg_X5_80 rfl dX5_stopAt_137 ?_
  refine zx_aload_n C dX5_stopAt_140 3 rfl ?_
  refine zx_getI C hb1.1 fg_X5_139 rfl dX5_stopAt_141 ?_
  refine zx_icmp_ne C 152 dX5_stopAt_144 (by decide) (fun q => ?_) (fun q => ?_)
  · replace h := h.1 q
    exact zx_vret C hr dX5_stopAt_152 h
  · replace h := h.2 q
    refine zx_aload_n C dX5_stopAt_147 2 rfl ?_
    refine zx_iload_n C dX5_stopAt_148 4 rfl ?_
    refine zx_putI C zs_190 fp_X5_92 rfl dX5_stopAt_149 ?_
    refine zx_sig (fun σ24 eσ24 => ?_)
    replace h := h σ24 eσ24
    exact zx_vret C hr dX5_stopAt_152 h
theorem lk_X5_24 : zLV RX5 24 RX5 yX5_begin cX5_begin 4 none 2 := zLV_of ml_X5_24 im_X5_begin se_X5_begin ini_X5 cd_X5_begin (by decide +kernel)
theorem lk_X5_37 : zLV RX5 37 RX5 yX5_wantingAt cX5_wantingAt 6 (some .int) 2 := zLV_of ml_X5_37 im_X5_wantingAt se_X5_wantingAt ini_X5 cd_X5_wantingAt (by decide +kernel)
theorem lk_X5_41 : zLV RX5 41 RX5 yX5_chosen cX5_chosen 4 (some .int) 3 := zLV_of ml_X5_41 im_X5_chosen se_X5_chosen ini_X5 cd_X5_chosen (by decide +kernel)
theorem lk_X5_45 : zLV RX5 45 RX5 yX5_stopAt cX5_stopAt 6 none 3 := zLV_of ml_X5_45 im_X5_stopAt se_X5_stopAt ini_X5 cd_X5_stopAt (by decide +kernel)
def w_X5_byLaw_21 (q_1 : Nat) (x_2 : Int32) (x_5 : Int32) (P : zSto → Prop)  : Nat → Int32 → zSto → Prop
  | 0, _, _ => False
  | n + 1, x_6, σ => ((((σ.1 q_1 11) - (1 : Int32)) ≤ x_6 → P σ) ∧ (¬ ((σ.1 q_1 11) - (1 : Int32)) ≤ x_6 → (w_X5_wantingAt q_1 x_6 σ (fun (r4 : Int32) (σ3 : zSto) => (w_X5_chosen q_1 x_2 (r4 &&& x_5) σ3 (fun (r6 : Int32) (σ5 : zSto) => ((r6 = (-1 : Int32) → (∀ x7 : Int32, x7 = (x_6 + (1 : Int32)) → w_X5_byLaw_21 q_1 x_2 x_5 P n x7 σ5)) ∧ (¬ r6 = (-1 : Int32) → (w_X5_stopAt q_1 x_6 r6 σ5 (fun (σ8 : zSto) => (∀ x9 : Int32, x9 = (x_6 + (1 : Int32)) → w_X5_byLaw_21 q_1 x_2 x_5 P n x9 σ8)))))))))))
def w_X5_byLaw (b1 : Nat) (a2 : Int32) (a3 : Int32) (a4 : Int32) (a5 : Int32) (σ : zSto) (P : zSto → Prop) : Prop := (w_X5_begin b1 a4 σ (fun (σ1 : zSto) => (∀ σ2 : zSto, σ2 = zI σ1 190 5 a3 → ((¬ a2 = (-1 : Int32) → (∃ n : Nat, w_X5_byLaw_21 b1 a2 a5 P  n (0 : Int32) σ2)) ∧ (a2 = (-1 : Int32) → P σ2)))))
set_option maxRecDepth 100000 in
set_option maxHeartbeats 4000000 in
theorem k_X5_byLaw_21 {p : Program} {l : Launch} {e : Env} {s : State} {m : MethodId} {args : Array Value} {below : List Frame} {meth : Method} {c : Code} {D : va_G} {cy : Nat → ClassId} {g : Nat → Nat} (C : zC p s m args meth c cX5_byLaw RX5 8 D cy g) (hr : meth.sig.returnType = none) {P : zSto → Prop} (q_1 : Nat) (x_2 : Int32) (x_5 : Int32) (hq_1 : zIsLine q_1)   : ∀ (n : Nat) (x_6 : Int32) (σ : zSto), w_X5_byLaw_21 q_1 x_2 x_5 P n x_6 σ → zX p l e (zrm 3 109) s m args below meth c 0 0 (zQv P below args s D cy g) 8 D cy g 21 [(0, .ref (g 190)), (1, .ref (g q_1)), (2, .int x_2), (5, .int x_5), (6, .int x_6)] [] σ := by
  intro n
  induction n with
  | zero => intro x_6 σ h; exact h.elim
  | succ n ih =>
    intro x_6 σ h
    unfold w_X5_byLaw_21 at h
    refine zx_iload C dX5_byLaw_21 4 rfl ?_
    refine zx_aload_n C dX5_byLaw_23 1 rfl ?_
    refine zx_getI C hq_1.1 fg_X5_32 rfl dX5_byLaw_24 ?_
    refine zx_iconst (v := (1 : Int32)) C dX5_byLaw_27 (by decide) ?_
    refine zx_isub C dX5_byLaw_28 ?_
    refine zx_icmp_ge C 71 dX5_byLaw_29 (by decide) (fun q => ?_) (fun q => ?_)
    · replace h := h.1 q
      exact zx_vret C hr dX5_byLaw_71 h
    · replace h := h.2 q
      refine zx_aload_n C dX5_byLaw_32 0 rfl ?_
      refine zx_aload_n C dX5_byLaw_33 1 rfl ?_
      refine zx_iload_n C dX5_byLaw_34 2 rfl ?_
      refine zx_aload_n C dX5_byLaw_35 0 rfl ?_
      refine zx_aload_n C dX5_byLaw_36 1 rfl ?_
      refine zx_iload C dX5_byLaw_37 4 rfl ?_
      refine zx_cVi C [.ref (g q_1), .int x_6] lk_X5_37 (c_X5_wantingAt l D cy g q_1 x_6 hq_1 σ h) zs_190 rfl ⟨by decide, by decide⟩ ⟨rfl, rfl⟩ ⟨Nat.zero_le _, Nat.zero_le _⟩ rfl rfl (Nat.le_of_ble_eq_true rfl) dX5_byLaw_39 (fun r4 σ3 h => ?_)
      refine zx_iload C dX5_byLaw_42 3 rfl ?_
      refine zx_iand C dX5_byLaw_44 ?_
      refine zx_cVi C [.ref (g q_1), .int x_2, .int (r4 &&& x_5)] lk_X5_41 (c_X5_chosen l D cy g q_1 x_2 (r4 &&& x_5) hq_1 σ3 h) zs_190 rfl ⟨by decide, by decide⟩ ⟨rfl, rfl⟩ ⟨Nat.zero_le _, Nat.zero_le _⟩ rfl rfl (Nat.le_of_ble_eq_true rfl) dX5_byLaw_45 (fun r6 σ5 h => ?_)
      refine zx_istore (lv' := [(7, .int r6), (0, .ref (g 190)), (1, .ref (g q_1)), (2, .int x_2), (5, .int x_5), (6, .int x_6)]) C dX5_byLaw_48 (by decide) rfl ?_
      refine zx_iload C dX5_byLaw_50 0 rfl ?_
      refine zx_iconst (v := (-1 : Int32)) C dX5_byLaw_52 (by decide) ?_
      refine zx_icmp_eq C 65 dX5_byLaw_53 (by decide) (fun q => ?_) (fun q => ?_)
      · replace h := h.1 q
        obtain ⟨x7, ex7⟩ : ∃ y : Int32, y = (x_6 + (1 : Int32)) := ⟨_, rfl⟩
        replace h := h x7 ex7
        refine zx_iinc (v := x7) (lv' := [(6, .int x7), (7, .int r6), (0, .ref (g 190)), (1, .ref (g q_1)), (2, .int x_2), (5, .int x_5)]) C dX5_byLaw_65 5 rfl (by rw [ex7]; rfl) (by decide) rfl ?_
        refine zx_goto C 21 dX5_byLaw_68 (by decide) ?_
        refine zx_lv (lv' := [(0, .ref (g 190)), (1, .ref (g q_1)), (2, .int x_2), (5, .int x_5), (6, .int x7)]) [2, 3, 4, 5, 0] rfl ?_
        exact ih x7 σ5 h
      · replace h := h.2 q
        refine zx_aload_n C dX5_byLaw_56 1 rfl ?_
        refine zx_aload_n C dX5_byLaw_57 2 rfl ?_
        refine zx_iload C dX5_byLaw_58 5 rfl ?_
        refine zx_iload C dX5_byLaw_60 0 rfl ?_
        refine zx_cVv C [.ref (g q_1), .int x_6, .int r6] lk_X5_45 (c_X5_stopAt l D cy g q_1 x_6 r6 hq_1 σ5 h) zs_190 rfl ⟨by decide, by decide⟩ ⟨rfl, rfl⟩ ⟨Nat.zero_le _, Nat.zero_le _⟩ rfl rfl (Nat.le_of_ble_eq_true rfl) dX5_byLaw_62 (fun σ8 h => ?_)
        obtain ⟨x9, ex9⟩ : ∃ y : Int32, y = (x_6 + (1 : Int32)) := ⟨_, rfl⟩
        replace h := h x9 ex9
        refine zx_iinc (v := x9) (lv' := [(6, .int x9), (7, .int r6), (0, .ref (g 190)), (1, .ref (g q_1)), (2, .int x_2), (5, .int x_5)]) C dX5_byLaw_65 5 rfl (by rw [ex9]; rfl) (by decide) rfl ?_
        refine zx_goto C 21 dX5_byLaw_68 (by decide) ?_
        refine zx_lv (lv' := [(0, .ref (g 190)), (1, .ref (g q_1)), (2, .int x_2), (5, .int x_5), (6, .int x9)]) [2, 3, 4, 5, 0] rfl ?_
        exact ih x9 σ8 h
set_option maxRecDepth 100000 in
set_option maxHeartbeats 4000000 in
theorem c_X5_byLaw (l : Launch) (D : va_G) (cy : Nat → ClassId) (g : Nat → Nat) (b1 : Nat) (a2 : Int32) (a3 : Int32) (a4 : Int32) (a5 : Int32) (hb1 : zIsLine b1) (σ : zSto) {P : zSto → Prop} (h : w_X5_byLaw b1 a2 a3 a4 a5 σ P) : zMv l yX5_byLaw cX5_byLaw 8 none (zrm 3 109) D cy g [.ref (g 190), .ref (g b1), .int a2, .int a3, .int a4, .int a5] σ P := by
  unfold w_X5_byLaw at h
  refine zm_v RX5 rfl (by decide +kernel) (Nat.le_of_ble_eq_true rfl) ?_
  intro p e s m below meth c C hr
  refine zx_lv (lv' := [(0, .ref (g 190)), (1, .ref (g b1)), (2, .int a2), (3, .int a3), (4, .int a4), (5, .int a5)]) [0, 1, 2, 3, 4, 5] rfl ?_
  refine zx_aload_n C dX5_byLaw_0 0 rfl ?_
  refine zx_aload_n C dX5_byLaw_1 1 rfl ?_
  refine zx_iload C dX5_byLaw_2 4 rfl ?_
  refine zx_cVv C [.ref (g b1), .int a4] lk_X5_24 (c_X5_begin l D cy g b1 a4 hb1 σ h) zs_190 rfl ⟨by decide, by decide⟩ ⟨rfl, rfl⟩ ⟨Nat.zero_le _, Nat.zero_le _⟩ rfl rfl (Nat.le_of_ble_eq_true rfl) dX5_byLaw_4 (fun σ1 h => ?_)
  refine zx_aload_n C dX5_byLaw_7 0 rfl ?_
  refine zx_iload_n C dX5_byLaw_8 3 rfl ?_
  refine zx_putI C zs_190 fp_X5_28 rfl dX5_byLaw_9 ?_
  refine zx_sig (fun σ2 eσ2 => ?_)
  replace h := h σ2 eσ2
  refine zx_iload_n C dX5_byLaw_12 2 rfl ?_
  refine zx_iconst (v := (-1 : Int32)) C dX5_byLaw_13 (by decide) ?_
  refine zx_icmp_ne C 18 dX5_byLaw_14 (by decide) (fun q => ?_) (fun q => ?_)
  · replace h := h.1 q
    refine zx_iconst (v := (0 : Int32)) C dX5_byLaw_18 (by decide) ?_
    refine zx_istore (lv' := [(6, .int (0 : Int32)), (0, .ref (g 190)), (1, .ref (g b1)), (2, .int a2), (3, .int a3), (4, .int a4), (5, .int a5)]) C dX5_byLaw_19 (by decide) rfl ?_
    obtain ⟨n, h⟩ := h
    refine zx_lv (lv' := [(0, .ref (g 190)), (1, .ref (g b1)), (2, .int a2), (5, .int a5), (6, .int (0 : Int32))]) [1, 2, 3, 6, 0] rfl ?_
    exact k_X5_byLaw_21 C hr (b1) (a2) (a5) hb1  n (0 : Int32) σ2 h
  · replace h := h.2 q
    exact zx_vret C hr dX5_byLaw_17 h
theorem fg_X5_49 : zFG RX5 49 2 2 := ⟨RX2, TX2, 3, rfl, lay_X2, by decide, fl_X5_49⟩
theorem fg_X5_54 : zFG RX5 54 2 0 := ⟨RX2, TX2, 3, rfl, lay_X2, by decide, fl_X5_54⟩
theorem fg_X5_57 : zFG RX5 57 2 1 := ⟨RX2, TX2, 3, rfl, lay_X2, by decide, fl_X5_57⟩
def w_X5_byPlan_12 (q_1 : Nat) (q_2 : Nat) (P : Int32 → zSto → Prop)  : Nat → Int32 → Int32 → zSto → Prop
  | 0, _, _, _ => False
  | n + 1, x_4, x_5, σ => (((σ.1 q_2 2) ≤ x_5 → P (σ.1 q_2 2) σ) ∧ (¬ (σ.1 q_2 2) ≤ x_5 → (vp_in x_5 16 ∧ (∀ x3 : Int32, x3 = (σ.1 (q_2 + 1) (x_5).toNatClampNeg) → (vp_in x_5 16 ∧ (∀ x5 : Int32, x5 = (σ.1 (q_2 + 2) (x_5).toNatClampNeg) → ((x3 ≤ x_4 → P x_5 σ) ∧ (¬ x3 ≤ x_4 → (w_X5_canPull q_1 x3 x5 σ (fun (r7 : Int32) (σ6 : zSto) => (r7 = 0 ∨ r7 = 1) → ((¬ r7 = 0 → (w_X5_stopAt q_1 x3 x5 σ6 (fun (σ8 : zSto) => (∀ x9 : Int32, x9 = (x_5 + (1 : Int32)) → w_X5_byPlan_12 q_1 q_2 P n x3 x9 σ8)))) ∧ (r7 = 0 → P x_5 σ6))))))))))))
def w_X5_byPlan (b1 : Nat) (b2 : Nat) (a3 : Int32) (σ : zSto) (P : Int32 → zSto → Prop) : Prop := (w_X5_begin b1 a3 σ (fun (σ1 : zSto) => (∃ n : Nat, w_X5_byPlan_12 b1 b2 P  n (-1 : Int32) (0 : Int32) σ1)))
set_option maxRecDepth 100000 in
set_option maxHeartbeats 4000000 in
theorem k_X5_byPlan_12 {p : Program} {l : Launch} {e : Env} {s : State} {m : MethodId} {args : Array Value} {below : List Frame} {meth : Method} {c : Code} {D : va_G} {cy : Nat → ClassId} {g : Nat → Nat} (C : zC p s m args meth c cX5_byPlan RX5 8 D cy g) (hr : meth.sig.returnType = (some .int)) {P : Int32 → zSto → Prop} (q_1 : Nat) (q_2 : Nat) (hq_1 : zIsLine q_1) (hq_2 : zIsPairs q_2)   : ∀ (n : Nat) (x_4 : Int32) (x_5 : Int32) (σ : zSto), w_X5_byPlan_12 q_1 q_2 P n x_4 x_5 σ → zX p l e (zrm 3 109) s m args below meth c 0 0 (zQi P below args s D cy g) 8 D cy g 12 [(0, .ref (g 190)), (1, .ref (g q_1)), (2, .ref (g q_2)), (4, .int x_4), (5, .int x_5)] [] σ := by
  intro n
  induction n with
  | zero => intro x_4 x_5 σ h; exact h.elim
  | succ n ih =>
    intro x_4 x_5 σ h
    unfold w_X5_byPlan_12 at h
    refine zx_iload C dX5_byPlan_12 4 rfl ?_
    refine zx_aload_n C dX5_byPlan_14 2 rfl ?_
    refine zx_getI C hq_2.1 fg_X5_49 rfl dX5_byPlan_15 ?_
    refine zx_icmp_ge C 80 dX5_byPlan_18 (by decide) (fun q => ?_) (fun q => ?_)
    · replace h := h.1 q
      refine zx_aload_n C dX5_byPlan_80 2 rfl ?_
      refine zx_getI C hq_2.1 fg_X5_49 rfl dX5_byPlan_81 ?_
      exact zx_iret C hr dX5_byPlan_84 h
    · replace h := h.2 q
      refine zx_aload_n C dX5_byPlan_21 2 rfl ?_
      refine zx_getR C hq_2.1 fg_X5_54 rfl (q_2 + 1) rfl dX5_byPlan_22 ?_
      refine zx_iload C dX5_byPlan_25 4 rfl ?_
      obtain ⟨bd2, h⟩ := h
      refine zx_iald C (x_5).toNatClampNeg hq_2.2.1 bd2 rfl dX5_byPlan_27 ?_
      refine zx_topi (fun x3 ex3 => ?_)
      replace h := h x3 ex3
      refine zx_istore (lv' := [(6, .int x3), (0, .ref (g 190)), (1, .ref (g q_1)), (2, .ref (g q_2)), (4, .int x_4), (5, .int x_5)]) C dX5_byPlan_28 (by decide) rfl ?_
      refine zx_aload_n C dX5_byPlan_30 3 rfl ?_
      refine zx_getR C hq_2.1 fg_X5_57 rfl (q_2 + 2) rfl dX5_byPlan_31 ?_
      refine zx_iload C dX5_byPlan_34 5 rfl ?_
      obtain ⟨bd4, h⟩ := h
      refine zx_iald C (x_5).toNatClampNeg hq_2.2.2 bd4 rfl dX5_byPlan_36 ?_
      refine zx_topi (fun x5 ex5 => ?_)
      replace h := h x5 ex5
      refine zx_istore (lv' := [(7, .int x5), (6, .int x3), (0, .ref (g 190)), (1, .ref (g q_1)), (2, .ref (g q_2)), (4, .int x_4), (5, .int x_5)]) C dX5_byPlan_37 (by decide) rfl ?_
      refine zx_iload C dX5_byPlan_39 1 rfl ?_
      refine zx_iload C dX5_byPlan_41 5 rfl ?_
      refine zx_icmp_le C 58 dX5_byPlan_43 (by decide) (fun q => ?_) (fun q => ?_)
      · replace h := h.1 q
        refine zx_iload C dX5_byPlan_58 6 rfl ?_
        exact zx_iret C hr dX5_byPlan_60 h
      · replace h := h.2 q
        refine zx_aload_n C dX5_byPlan_46 2 rfl ?_
        refine zx_aload_n C dX5_byPlan_47 3 rfl ?_
        refine zx_iload C dX5_byPlan_48 1 rfl ?_
        refine zx_iload C dX5_byPlan_50 0 rfl ?_
        refine zx_cVb C [.ref (g q_1), .int x3, .int x5] lk_X5_60 (c_X5_canPull l D cy g q_1 x3 x5 hq_1 σ h) zs_190 rfl ⟨by decide, by decide⟩ ⟨rfl, rfl⟩ ⟨Nat.zero_le _, Nat.zero_le _⟩ rfl rfl (Nat.le_of_ble_eq_true rfl) dX5_byPlan_52 (fun r7 σ6 hb h => ?_)
        replace h := h hb
        refine zx_if_ne C 61 dX5_byPlan_55 (by decide) (fun q => ?_) (fun q => ?_)
        · replace h := h.1 q
          refine zx_aload_n C dX5_byPlan_61 2 rfl ?_
          refine zx_aload_n C dX5_byPlan_62 3 rfl ?_
          refine zx_iload C dX5_byPlan_63 1 rfl ?_
          refine zx_iload C dX5_byPlan_65 0 rfl ?_
          refine zx_cVv C [.ref (g q_1), .int x3, .int x5] lk_X5_45 (c_X5_stopAt l D cy g q_1 x3 x5 hq_1 σ6 h) zs_190 rfl ⟨by decide, by decide⟩ ⟨rfl, rfl⟩ ⟨Nat.zero_le _, Nat.zero_le _⟩ rfl rfl (Nat.le_of_ble_eq_true rfl) dX5_byPlan_67 (fun σ8 h => ?_)
          refine zx_iload C dX5_byPlan_70 1 rfl ?_
          refine zx_istore (lv' := [(4, .int x3), (7, .int x5), (6, .int x3), (0, .ref (g 190)), (1, .ref (g q_1)), (2, .ref (g q_2)), (5, .int x_5)]) C dX5_byPlan_72 (by decide) rfl ?_
          obtain ⟨x9, ex9⟩ : ∃ y : Int32, y = (x_5 + (1 : Int32)) := ⟨_, rfl⟩
          replace h := h x9 ex9
          refine zx_iinc (v := x9) (lv' := [(5, .int x9), (4, .int x3), (7, .int x5), (6, .int x3), (0, .ref (g 190)), (1, .ref (g q_1)), (2, .ref (g q_2))]) C dX5_byPlan_74 6 rfl (by rw [ex9]; rfl) (by decide) rfl ?_
          refine zx_goto C 12 dX5_byPlan_77 (by decide) ?_
          refine zx_lv (lv' := [(0, .ref (g 190)), (1, .ref (g q_1)), (2, .ref (g q_2)), (4, .int x3), (5, .int x9)]) [4, 5, 6, 1, 0] rfl ?_
          exact ih x3 x9 σ8 h
        · replace h := h.2 q
          refine zx_iload C dX5_byPlan_58 6 rfl ?_
          exact zx_iret C hr dX5_byPlan_60 h
set_option maxRecDepth 100000 in
set_option maxHeartbeats 4000000 in
theorem c_X5_byPlan (l : Launch) (D : va_G) (cy : Nat → ClassId) (g : Nat → Nat) (b1 : Nat) (b2 : Nat) (a3 : Int32) (hb1 : zIsLine b1) (hb2 : zIsPairs b2) (σ : zSto) {P : Int32 → zSto → Prop} (h : w_X5_byPlan b1 b2 a3 σ P) : zMi l yX5_byPlan cX5_byPlan 8 (some .int) (zrm 3 109) D cy g [.ref (g 190), .ref (g b1), .ref (g b2), .int a3] σ P := by
  unfold w_X5_byPlan at h
  refine zm_i RX5 rfl (by decide +kernel) (Nat.le_of_ble_eq_true rfl) ?_
  intro p e s m below meth c C hr
  refine zx_lv (lv' := [(0, .ref (g 190)), (1, .ref (g b1)), (2, .ref (g b2)), (3, .int a3)]) [0, 1, 2, 3] rfl ?_
  refine zx_aload_n C dX5_byPlan_0 0 rfl ?_
  refine zx_aload_n C dX5_byPlan_1 1 rfl ?_
  refine zx_iload_n C dX5_byPlan_2 3 rfl ?_
  refine zx_cVv C [.ref (g b1), .int a3] lk_X5_24 (c_X5_begin l D cy g b1 a3 hb1 σ h) zs_190 rfl ⟨by decide, by decide⟩ ⟨rfl, rfl⟩ ⟨Nat.zero_le _, Nat.zero_le _⟩ rfl rfl (Nat.le_of_ble_eq_true rfl) dX5_byPlan_3 (fun σ1 h => ?_)
  refine zx_iconst (v := (-1 : Int32)) C dX5_byPlan_6 (by decide) ?_
  refine zx_istore (lv' := [(4, .int (-1 : Int32)), (0, .ref (g 190)), (1, .ref (g b1)), (2, .ref (g b2)), (3, .int a3)]) C dX5_byPlan_7 (by decide) rfl ?_
  refine zx_iconst (v := (0 : Int32)) C dX5_byPlan_9 (by decide) ?_
  refine zx_istore (lv' := [(5, .int (0 : Int32)), (4, .int (-1 : Int32)), (0, .ref (g 190)), (1, .ref (g b1)), (2, .ref (g b2)), (3, .int a3)]) C dX5_byPlan_10 (by decide) rfl ?_
  obtain ⟨n, h⟩ := h
  refine zx_lv (lv' := [(0, .ref (g 190)), (1, .ref (g b1)), (2, .ref (g b2)), (4, .int (-1 : Int32)), (5, .int (0 : Int32))]) [2, 3, 4, 1, 0] rfl ?_
  exact k_X5_byPlan_12 C hr (b1) (b2) hb1 hb2  n (-1 : Int32) (0 : Int32) σ1 h
theorem lk_X5_142 : zLV RX5 142 RX0 yX0_minutesTo cX0_minutesTo 4 (some .int) 1 := zLV_of ml_X5_142 im_X0_minutesTo se_X0_minutesTo ini_X0 cd_X0_minutesTo (by decide +kernel)
theorem lk_X5_145 : zLV RX5 145 RX0 yX0_costsBefore cX0_costsBefore 5 (some .int) 2 := zLV_of ml_X5_145 im_X0_costsBefore se_X0_costsBefore ini_X0 cd_X0_costsBefore (by decide +kernel)
def w_X5_arrival (b1 : Nat) (a2 : Int32) (σ : zSto) (P : Int32 → zSto → Prop) : Prop := (w_X0_minutesTo b1 a2 σ (fun (r2 : Int32) (σ1 : zSto) => (w_X0_costsBefore b1 a2 (σ1.1 190 6) σ1 (fun (r4 : Int32) (σ3 : zSto) => P (r2 + r4) σ3))))
set_option maxRecDepth 100000 in
set_option maxHeartbeats 4000000 in
theorem c_X5_arrival (l : Launch) (D : va_G) (cy : Nat → ClassId) (g : Nat → Nat) (b1 : Nat) (a2 : Int32) (hb1 : zIsLine b1) (σ : zSto) {P : Int32 → zSto → Prop} (h : w_X5_arrival b1 a2 σ P) : zMi l yX5_arrival cX5_arrival 3 (some .int) (zrm 2 46) D cy g [.ref (g 190), .ref (g b1), .int a2] σ P := by
  unfold w_X5_arrival at h
  refine zm_i RX5 rfl (by decide +kernel) (Nat.le_of_ble_eq_true rfl) ?_
  intro p e s m below meth c C hr
  refine zx_lv (lv' := [(0, .ref (g 190)), (1, .ref (g b1)), (2, .int a2)]) [0, 1, 2] rfl ?_
  refine zx_aload_n C dX5_arrival_0 1 rfl ?_
  refine zx_iload_n C dX5_arrival_1 2 rfl ?_
  refine zx_cVi C [.int a2] lk_X5_142 (c_X0_minutesTo l D cy g b1 a2 hb1 σ h) hb1.1 rfl ⟨by decide, by decide⟩ ⟨rfl, rfl⟩ ⟨Nat.zero_le _, Nat.zero_le _⟩ rfl rfl (Nat.le_of_ble_eq_true rfl) dX5_arrival_2 (fun r2 σ1 h => ?_)
  refine zx_aload_n C dX5_arrival_5 1 rfl ?_
  refine zx_iload_n C dX5_arrival_6 2 rfl ?_
  refine zx_aload_n C dX5_arrival_7 0 rfl ?_
  refine zx_getI C zs_190 fg_X5_77 rfl dX5_arrival_8 ?_
  refine zx_cVi C [.int a2, .int (σ1.1 190 6)] lk_X5_145 (c_X0_costsBefore l D cy g b1 a2 (σ1.1 190 6) hb1 σ1 h) hb1.1 rfl ⟨by decide, by decide⟩ ⟨rfl, rfl⟩ ⟨Nat.zero_le _, Nat.zero_le _⟩ rfl rfl (Nat.le_of_ble_eq_true rfl) dX5_arrival_11 (fun r4 σ3 h => ?_)
  refine zx_iadd C dX5_arrival_14 ?_
  exact zx_iret C hr dX5_arrival_15 h
theorem lk_X5_148 : zLV RX5 148 RX5 yX5_arrival cX5_arrival 3 (some .int) 2 := zLV_of ml_X5_148 im_X5_arrival se_X5_arrival ini_X5 cd_X5_arrival (by decide +kernel)
theorem fg_X5_151 : zFG RX5 151 0 4 := ⟨RX0, TX0, 18, rfl, lay_X0, by decide, fl_X5_151⟩
def w_X5_lateAt (b1 : Nat) (a2 : Int32) (σ : zSto) (P : Int32 → zSto → Prop) : Prop := (w_X5_arrival b1 a2 σ (fun (r2 : Int32) (σ1 : zSto) => (vp_in a2 16 ∧ P (if (0 : Int32) < (r2 - (σ1.1 (b1 + 5) (a2).toNatClampNeg)) then (r2 - (σ1.1 (b1 + 5) (a2).toNatClampNeg)) else (0 : Int32)) σ1)))
set_option maxRecDepth 100000 in
set_option maxHeartbeats 4000000 in
theorem c_X5_lateAt (l : Launch) (D : va_G) (cy : Nat → ClassId) (g : Nat → Nat) (b1 : Nat) (a2 : Int32) (hb1 : zIsLine b1) (σ : zSto) {P : Int32 → zSto → Prop} (h : w_X5_lateAt b1 a2 σ P) : zMi l yX5_lateAt cX5_lateAt 3 (some .int) (zrm 3 68) D cy g [.ref (g 190), .ref (g b1), .int a2] σ P := by
  unfold w_X5_lateAt at h
  refine zm_i RX5 rfl (by decide +kernel) (Nat.le_of_ble_eq_true rfl) ?_
  intro p e s m below meth c C hr
  refine zx_lv (lv' := [(0, .ref (g 190)), (1, .ref (g b1)), (2, .int a2)]) [0, 1, 2] rfl ?_
  refine zx_iconst (v := (0 : Int32)) C dX5_lateAt_0 (by decide) ?_
  refine zx_aload_n C dX5_lateAt_1 0 rfl ?_
  refine zx_aload_n C dX5_lateAt_2 1 rfl ?_
  refine zx_iload_n C dX5_lateAt_3 2 rfl ?_
  refine zx_cVi C [.ref (g b1), .int a2] lk_X5_148 (c_X5_arrival l D cy g b1 a2 hb1 σ h) zs_190 rfl ⟨by decide, by decide⟩ ⟨rfl, rfl⟩ ⟨Nat.zero_le _, Nat.zero_le _⟩ rfl rfl (Nat.le_of_ble_eq_true rfl) dX5_lateAt_4 (fun r2 σ1 h => ?_)
  refine zx_aload_n C dX5_lateAt_7 1 rfl ?_
  refine zx_getR C hb1.1 fg_X5_151 rfl (b1 + 5) rfl dX5_lateAt_8 ?_
  refine zx_iload_n C dX5_lateAt_11 2 rfl ?_
  obtain ⟨bd3, h⟩ := h
  refine zx_iald C (a2).toNatClampNeg hb1.2.2.2.2.2.1 bd3 rfl dX5_lateAt_12 ?_
  refine zx_isub C dX5_lateAt_13 ?_
  refine zx_max C ml_X5_154 st_math_max ini_J9 cd_math_max (Nat.le_of_ble_eq_true rfl) (Nat.le_of_ble_eq_true rfl) ⟨Nat.zero_le _, Nat.zero_le _⟩ dX5_lateAt_14 ?_
  exact zx_iret C hr dX5_lateAt_17 h
theorem lk_X5_157 : zLV RX5 157 RX0 yX0_isStation cX0_isStation 2 (some .boolean) 1 := zLV_of ml_X5_157 im_X0_isStation se_X0_isStation ini_X0 cd_X0_isStation (by decide +kernel)
theorem lk_X5_160 : zLV RX5 160 RX5 yX5_lateAt cX5_lateAt 3 (some .int) 2 := zLV_of ml_X5_160 im_X5_lateAt se_X5_lateAt ini_X5 cd_X5_lateAt (by decide +kernel)
theorem fg_X5_163 : zFG RX5 163 0 15 := ⟨RX0, TX0, 18, rfl, lay_X0, by decide, fl_X5_163⟩
def w_X5_fines_4 (q_1 : Nat) (P : Int32 → zSto → Prop)  : Nat → Int32 → Int32 → zSto → Prop
  | 0, _, _, _ => False
  | n + 1, x_2, x_3, σ => (((σ.1 q_1 11) ≤ x_3 → P x_2 σ) ∧ (¬ (σ.1 q_1 11) ≤ x_3 → (w_X0_isStation q_1 x_3 σ (fun (r2 : Int32) (σ1 : zSto) => (r2 = 0 ∨ r2 = 1) → ((r2 = 0 → (∀ x3 : Int32, x3 = (x_3 + (1 : Int32)) → w_X5_fines_4 q_1 P n x_2 x3 σ1)) ∧ (¬ r2 = 0 → (w_X5_lateAt q_1 x_3 σ1 (fun (r5 : Int32) (σ4 : zSto) => (∀ x6 : Int32, x6 = (x_2 + (if (0 : Int32) < (r5 - (σ4.1 q_1 15)) then (r5 - (σ4.1 q_1 15)) else (0 : Int32))) → (∀ x7 : Int32, x7 = (x_3 + (1 : Int32)) → w_X5_fines_4 q_1 P n x6 x7 σ4))))))))))
def w_X5_fines (b1 : Nat) (σ : zSto) (P : Int32 → zSto → Prop) : Prop := (∃ n : Nat, w_X5_fines_4 b1 P  n (0 : Int32) (0 : Int32) σ)
set_option maxRecDepth 100000 in
set_option maxHeartbeats 4000000 in
theorem k_X5_fines_4 {p : Program} {l : Launch} {e : Env} {s : State} {m : MethodId} {args : Array Value} {below : List Frame} {meth : Method} {c : Code} {D : va_G} {cy : Nat → ClassId} {g : Nat → Nat} (C : zC p s m args meth c cX5_fines RX5 4 D cy g) (hr : meth.sig.returnType = (some .int)) {P : Int32 → zSto → Prop} (q_1 : Nat) (hq_1 : zIsLine q_1)   : ∀ (n : Nat) (x_2 : Int32) (x_3 : Int32) (σ : zSto), w_X5_fines_4 q_1 P n x_2 x_3 σ → zX p l e (zrm 4 90) s m args below meth c 0 0 (zQi P below args s D cy g) 4 D cy g 4 [(0, .ref (g 190)), (1, .ref (g q_1)), (2, .int x_2), (3, .int x_3)] [] σ := by
  intro n
  induction n with
  | zero => intro x_2 x_3 σ h; exact h.elim
  | succ n ih =>
    intro x_2 x_3 σ h
    unfold w_X5_fines_4 at h
    refine zx_iload_n C dX5_fines_4 3 rfl ?_
    refine zx_aload_n C dX5_fines_5 1 rfl ?_
    refine zx_getI C hq_1.1 fg_X5_32 rfl dX5_fines_6 ?_
    refine zx_icmp_ge C 44 dX5_fines_9 (by decide) (fun q => ?_) (fun q => ?_)
    · replace h := h.1 q
      refine zx_iload_n C dX5_fines_44 2 rfl ?_
      exact zx_iret C hr dX5_fines_45 h
    · replace h := h.2 q
      refine zx_aload_n C dX5_fines_12 1 rfl ?_
      refine zx_iload_n C dX5_fines_13 3 rfl ?_
      refine zx_cVb C [.int x_3] lk_X5_157 (c_X0_isStation l D cy g q_1 x_3 hq_1 σ h) hq_1.1 rfl ⟨by decide, by decide⟩ ⟨rfl, rfl⟩ ⟨Nat.zero_le _, Nat.zero_le _⟩ rfl rfl (Nat.le_of_ble_eq_true rfl) dX5_fines_14 (fun r2 σ1 hb h => ?_)
      replace h := h hb
      refine zx_if_eq C 38 dX5_fines_17 (by decide) (fun q => ?_) (fun q => ?_)
      · replace h := h.1 q
        obtain ⟨x3, ex3⟩ : ∃ y : Int32, y = (x_3 + (1 : Int32)) := ⟨_, rfl⟩
        replace h := h x3 ex3
        refine zx_iinc (v := x3) (lv' := [(3, .int x3), (0, .ref (g 190)), (1, .ref (g q_1)), (2, .int x_2)]) C dX5_fines_38 3 rfl (by rw [ex3]; rfl) (by decide) rfl ?_
        refine zx_goto C 4 dX5_fines_41 (by decide) ?_
        refine zx_lv (lv' := [(0, .ref (g 190)), (1, .ref (g q_1)), (2, .int x_2), (3, .int x3)]) [1, 2, 3, 0] rfl ?_
        exact ih x_2 x3 σ1 h
      · replace h := h.2 q
        refine zx_iload_n C dX5_fines_20 2 rfl ?_
        refine zx_iconst (v := (0 : Int32)) C dX5_fines_21 (by decide) ?_
        refine zx_aload_n C dX5_fines_22 0 rfl ?_
        refine zx_aload_n C dX5_fines_23 1 rfl ?_
        refine zx_iload_n C dX5_fines_24 3 rfl ?_
        refine zx_cVi C [.ref (g q_1), .int x_3] lk_X5_160 (c_X5_lateAt l D cy g q_1 x_3 hq_1 σ1 h) zs_190 rfl ⟨by decide, by decide⟩ ⟨rfl, rfl⟩ ⟨Nat.zero_le _, Nat.zero_le _⟩ rfl rfl (Nat.le_of_ble_eq_true rfl) dX5_fines_25 (fun r5 σ4 h => ?_)
        refine zx_aload_n C dX5_fines_28 1 rfl ?_
        refine zx_getI C hq_1.1 fg_X5_163 rfl dX5_fines_29 ?_
        refine zx_isub C dX5_fines_32 ?_
        refine zx_max C ml_X5_154 st_math_max ini_J9 cd_math_max (Nat.le_of_ble_eq_true rfl) (Nat.le_of_ble_eq_true rfl) ⟨Nat.zero_le _, Nat.zero_le _⟩ dX5_fines_33 ?_
        refine zx_iadd C dX5_fines_36 ?_
        refine zx_topi (fun x6 ex6 => ?_)
        replace h := h x6 ex6
        refine zx_istore_n (lv' := [(2, .int x6), (0, .ref (g 190)), (1, .ref (g q_1)), (3, .int x_3)]) C dX5_fines_37 (by decide) rfl ?_
        obtain ⟨x7, ex7⟩ : ∃ y : Int32, y = (x_3 + (1 : Int32)) := ⟨_, rfl⟩
        replace h := h x7 ex7
        refine zx_iinc (v := x7) (lv' := [(3, .int x7), (2, .int x6), (0, .ref (g 190)), (1, .ref (g q_1))]) C dX5_fines_38 3 rfl (by rw [ex7]; rfl) (by decide) rfl ?_
        refine zx_goto C 4 dX5_fines_41 (by decide) ?_
        refine zx_lv (lv' := [(0, .ref (g 190)), (1, .ref (g q_1)), (2, .int x6), (3, .int x7)]) [2, 3, 1, 0] rfl ?_
        exact ih x6 x7 σ4 h
set_option maxRecDepth 100000 in
set_option maxHeartbeats 4000000 in
theorem c_X5_fines (l : Launch) (D : va_G) (cy : Nat → ClassId) (g : Nat → Nat) (b1 : Nat) (hb1 : zIsLine b1) (σ : zSto) {P : Int32 → zSto → Prop} (h : w_X5_fines b1 σ P) : zMi l yX5_fines cX5_fines 4 (some .int) (zrm 4 90) D cy g [.ref (g 190), .ref (g b1)] σ P := by
  unfold w_X5_fines at h
  refine zm_i RX5 rfl (by decide +kernel) (Nat.le_of_ble_eq_true rfl) ?_
  intro p e s m below meth c C hr
  refine zx_lv (lv' := [(0, .ref (g 190)), (1, .ref (g b1))]) [0, 1] rfl ?_
  refine zx_iconst (v := (0 : Int32)) C dX5_fines_0 (by decide) ?_
  refine zx_istore_n (lv' := [(2, .int (0 : Int32)), (0, .ref (g 190)), (1, .ref (g b1))]) C dX5_fines_1 (by decide) rfl ?_
  refine zx_iconst (v := (0 : Int32)) C dX5_fines_2 (by decide) ?_
  refine zx_istore_n (lv' := [(3, .int (0 : Int32)), (2, .int (0 : Int32)), (0, .ref (g 190)), (1, .ref (g b1))]) C dX5_fines_3 (by decide) rfl ?_
  obtain ⟨n, h⟩ := h
  refine zx_lv (lv' := [(0, .ref (g 190)), (1, .ref (g b1)), (2, .int (0 : Int32)), (3, .int (0 : Int32))]) [2, 3, 1, 0] rfl ?_
  exact k_X5_fines_4 C hr (b1) hb1  n (0 : Int32) (0 : Int32) σ h
theorem fg_X5_166 : zFG RX5 166 0 6 := ⟨RX0, TX0, 18, rfl, lay_X0, by decide, fl_X5_166⟩
def w_X5_gainOf (b1 : Nat) (a2 : Int32) (σ : zSto) (P : Int32 → zSto → Prop) : Prop := (vp_in a2 6 ∧ (vp_in a2 6 ∧ (w_X0_costsBefore b1 (σ.1 (b1 + 7) (a2).toNatClampNeg) (σ.1 190 6) σ (fun (r4 : Int32) (σ3 : zSto) => P (((10 : Int32) * (σ.1 193 (a2).toNatClampNeg)) - r4) σ3))))
set_option maxRecDepth 100000 in
set_option maxHeartbeats 4000000 in
theorem c_X5_gainOf (l : Launch) (D : va_G) (cy : Nat → ClassId) (g : Nat → Nat) (b1 : Nat) (a2 : Int32) (hb1 : zIsLine b1) (σ : zSto) {P : Int32 → zSto → Prop} (h : w_X5_gainOf b1 a2 σ P) : zMi l yX5_gainOf cX5_gainOf 3 (some .int) (zrm 2 46) D cy g [.ref (g 190), .ref (g b1), .int a2] σ P := by
  unfold w_X5_gainOf at h
  refine zm_i RX5 rfl (by decide +kernel) (Nat.le_of_ble_eq_true rfl) ?_
  intro p e s m below meth c C hr
  refine zx_lv (lv' := [(0, .ref (g 190)), (1, .ref (g b1)), (2, .int a2)]) [0, 1, 2] rfl ?_
  refine zx_bipush (v := (10 : Int32)) C dX5_gainOf_0 (by decide) ?_
  refine zx_aload_n C dX5_gainOf_2 0 rfl ?_
  refine zx_getR C zs_190 fg_X5_18 rfl 193 rfl dX5_gainOf_3 ?_
  refine zx_iload_n C dX5_gainOf_6 2 rfl ?_
  obtain ⟨bd1, h⟩ := h
  refine zx_iald C (a2).toNatClampNeg zs_193 bd1 rfl dX5_gainOf_7 ?_
  refine zx_imul C dX5_gainOf_8 ?_
  refine zx_aload_n C dX5_gainOf_9 1 rfl ?_
  refine zx_aload_n C dX5_gainOf_10 1 rfl ?_
  refine zx_getR C hb1.1 fg_X5_166 rfl (b1 + 7) rfl dX5_gainOf_11 ?_
  refine zx_iload_n C dX5_gainOf_14 2 rfl ?_
  obtain ⟨bd2, h⟩ := h
  refine zx_iald C (a2).toNatClampNeg hb1.2.2.2.2.2.2.2.1 bd2 rfl dX5_gainOf_15 ?_
  refine zx_aload_n C dX5_gainOf_16 0 rfl ?_
  refine zx_getI C zs_190 fg_X5_77 rfl dX5_gainOf_17 ?_
  refine zx_cVi C [.int (σ.1 (b1 + 7) (a2).toNatClampNeg), .int (σ.1 190 6)] lk_X5_145 (c_X0_costsBefore l D cy g b1 (σ.1 (b1 + 7) (a2).toNatClampNeg) (σ.1 190 6) hb1 σ h) hb1.1 rfl ⟨by decide, by decide⟩ ⟨rfl, rfl⟩ ⟨Nat.zero_le _, Nat.zero_le _⟩ rfl rfl (Nat.le_of_ble_eq_true rfl) dX5_gainOf_20 (fun r4 σ3 h => ?_)
  refine zx_isub C dX5_gainOf_23 ?_
  exact zx_iret C hr dX5_gainOf_24 h
def w_X5_richest_7 (q_1 : Nat) (P : Int32 → zSto → Prop)  : Nat → Int32 → Int32 → Int32 → zSto → Prop
  | 0, _, _, _, _ => False
  | n + 1, x_2, x_3, x_4, σ => (((σ.1 q_1 12) ≤ x_4 → P x_2 σ) ∧ (¬ (σ.1 q_1 12) ≤ x_4 → (vp_in x_4 6 ∧ (((σ.1 193 (x_4).toNatClampNeg) ≤ x_3 → (∀ x2 : Int32, x2 = (x_4 + (1 : Int32)) → w_X5_richest_7 q_1 P n x_2 x_3 x2 σ)) ∧ (¬ (σ.1 193 (x_4).toNatClampNeg) ≤ x_3 → (vp_in x_4 6 ∧ (∀ x4 : Int32, x4 = (σ.1 193 (x_4).toNatClampNeg) → (∀ x5 : Int32, x5 = (x_4 + (1 : Int32)) → w_X5_richest_7 q_1 P n x_4 x4 x5 σ))))))))
def w_X5_richest (b1 : Nat) (σ : zSto) (P : Int32 → zSto → Prop) : Prop := (∃ n : Nat, w_X5_richest_7 b1 P  n (-1 : Int32) (0 : Int32) (0 : Int32) σ)
set_option maxRecDepth 100000 in
set_option maxHeartbeats 4000000 in
theorem k_X5_richest_7 {p : Program} {l : Launch} {e : Env} {s : State} {m : MethodId} {args : Array Value} {below : List Frame} {meth : Method} {c : Code} {D : va_G} {cy : Nat → ClassId} {g : Nat → Nat} (C : zC p s m args meth c cX5_richest RX5 5 D cy g) (hr : meth.sig.returnType = (some .int)) {P : Int32 → zSto → Prop} (q_1 : Nat) (hq_1 : zIsLine q_1)   : ∀ (n : Nat) (x_2 : Int32) (x_3 : Int32) (x_4 : Int32) (σ : zSto), w_X5_richest_7 q_1 P n x_2 x_3 x_4 σ → zX p l e (zrm 0 0) s m args below meth c 0 0 (zQi P below args s D cy g) 5 D cy g 7 [(0, .ref (g 190)), (1, .ref (g q_1)), (2, .int x_2), (3, .int x_3), (4, .int x_4)] [] σ := by
  intro n
  induction n with
  | zero => intro x_2 x_3 x_4 σ h; exact h.elim
  | succ n ih =>
    intro x_2 x_3 x_4 σ h
    unfold w_X5_richest_7 at h
    refine zx_iload C dX5_richest_7 4 rfl ?_
    refine zx_aload_n C dX5_richest_9 1 rfl ?_
    refine zx_getI C hq_1.1 fg_X5_68 rfl dX5_richest_10 ?_
    refine zx_icmp_ge C 44 dX5_richest_13 (by decide) (fun q => ?_) (fun q => ?_)
    · replace h := h.1 q
      refine zx_iload_n C dX5_richest_44 2 rfl ?_
      exact zx_iret C hr dX5_richest_45 h
    · replace h := h.2 q
      refine zx_aload_n C dX5_richest_16 0 rfl ?_
      refine zx_getR C zs_190 fg_X5_18 rfl 193 rfl dX5_richest_17 ?_
      refine zx_iload C dX5_richest_20 4 rfl ?_
      obtain ⟨bd1, h⟩ := h
      refine zx_iald C (x_4).toNatClampNeg zs_193 bd1 rfl dX5_richest_22 ?_
      refine zx_iload_n C dX5_richest_23 3 rfl ?_
      refine zx_icmp_le C 38 dX5_richest_24 (by decide) (fun q => ?_) (fun q => ?_)
      · replace h := h.1 q
        obtain ⟨x2, ex2⟩ : ∃ y : Int32, y = (x_4 + (1 : Int32)) := ⟨_, rfl⟩
        replace h := h x2 ex2
        refine zx_iinc (v := x2) (lv' := [(4, .int x2), (0, .ref (g 190)), (1, .ref (g q_1)), (2, .int x_2), (3, .int x_3)]) C dX5_richest_38 4 rfl (by rw [ex2]; rfl) (by decide) rfl ?_
        refine zx_goto C 7 dX5_richest_41 (by decide) ?_
        refine zx_lv (lv' := [(0, .ref (g 190)), (1, .ref (g q_1)), (2, .int x_2), (3, .int x_3), (4, .int x2)]) [1, 2, 3, 4, 0] rfl ?_
        exact ih x_2 x_3 x2 σ h
      · replace h := h.2 q
        refine zx_iload C dX5_richest_27 4 rfl ?_
        refine zx_istore_n (lv' := [(2, .int x_4), (0, .ref (g 190)), (1, .ref (g q_1)), (3, .int x_3), (4, .int x_4)]) C dX5_richest_29 (by decide) rfl ?_
        refine zx_aload_n C dX5_richest_30 1 rfl ?_
        refine zx_getR C zs_190 fg_X5_18 rfl 193 rfl dX5_richest_31 ?_
        refine zx_iload C dX5_richest_34 4 rfl ?_
        obtain ⟨bd3, h⟩ := h
        refine zx_iald C (x_4).toNatClampNeg zs_193 bd3 rfl dX5_richest_36 ?_
        refine zx_topi (fun x4 ex4 => ?_)
        replace h := h x4 ex4
        refine zx_istore_n (lv' := [(3, .int x4), (2, .int x_4), (0, .ref (g 190)), (1, .ref (g q_1)), (4, .int x_4)]) C dX5_richest_37 (by decide) rfl ?_
        obtain ⟨x5, ex5⟩ : ∃ y : Int32, y = (x_4 + (1 : Int32)) := ⟨_, rfl⟩
        replace h := h x5 ex5
        refine zx_iinc (v := x5) (lv' := [(4, .int x5), (3, .int x4), (2, .int x_4), (0, .ref (g 190)), (1, .ref (g q_1))]) C dX5_richest_38 4 rfl (by rw [ex5]; rfl) (by decide) rfl ?_
        refine zx_goto C 7 dX5_richest_41 (by decide) ?_
        refine zx_lv (lv' := [(0, .ref (g 190)), (1, .ref (g q_1)), (2, .int x_4), (3, .int x4), (4, .int x5)]) [3, 4, 2, 1, 0] rfl ?_
        exact ih x_4 x4 x5 σ h
set_option maxRecDepth 100000 in
set_option maxHeartbeats 4000000 in
theorem c_X5_richest (l : Launch) (D : va_G) (cy : Nat → ClassId) (g : Nat → Nat) (b1 : Nat) (hb1 : zIsLine b1) (σ : zSto) {P : Int32 → zSto → Prop} (h : w_X5_richest b1 σ P) : zMi l yX5_richest cX5_richest 5 (some .int) (zrm 0 0) D cy g [.ref (g 190), .ref (g b1)] σ P := by
  unfold w_X5_richest at h
  refine zm_i RX5 rfl (by decide +kernel) (Nat.le_of_ble_eq_true rfl) ?_
  intro p e s m below meth c C hr
  refine zx_lv (lv' := [(0, .ref (g 190)), (1, .ref (g b1))]) [0, 1] rfl ?_
  refine zx_iconst (v := (-1 : Int32)) C dX5_richest_0 (by decide) ?_
  refine zx_istore_n (lv' := [(2, .int (-1 : Int32)), (0, .ref (g 190)), (1, .ref (g b1))]) C dX5_richest_1 (by decide) rfl ?_
  refine zx_iconst (v := (0 : Int32)) C dX5_richest_2 (by decide) ?_
  refine zx_istore_n (lv' := [(3, .int (0 : Int32)), (2, .int (-1 : Int32)), (0, .ref (g 190)), (1, .ref (g b1))]) C dX5_richest_3 (by decide) rfl ?_
  refine zx_iconst (v := (0 : Int32)) C dX5_richest_4 (by decide) ?_
  refine zx_istore (lv' := [(4, .int (0 : Int32)), (3, .int (0 : Int32)), (2, .int (-1 : Int32)), (0, .ref (g 190)), (1, .ref (g b1))]) C dX5_richest_5 (by decide) rfl ?_
  obtain ⟨n, h⟩ := h
  refine zx_lv (lv' := [(0, .ref (g 190)), (1, .ref (g b1)), (2, .int (-1 : Int32)), (3, .int (0 : Int32)), (4, .int (0 : Int32))]) [3, 4, 2, 1, 0] rfl ?_
  exact k_X5_richest_7 C hr (b1) hb1  n (-1 : Int32) (0 : Int32) (0 : Int32) σ h
def w_X5_remainsInAll_4 (q_1 : Nat) (P : Int32 → zSto → Prop)  : Nat → Int32 → Int32 → zSto → Prop
  | 0, _, _, _ => False
  | n + 1, x_2, x_3, σ => (((σ.1 q_1 11) ≤ x_3 → P x_2 σ) ∧ (¬ (σ.1 q_1 11) ≤ x_3 → (vp_in x_3 16 ∧ (∀ x2 : Int32, x2 = (x_2 + (σ.1 192 (x_3).toNatClampNeg)) → (∀ x3 : Int32, x3 = (x_3 + (1 : Int32)) → w_X5_remainsInAll_4 q_1 P n x2 x3 σ)))))
def w_X5_remainsInAll (b1 : Nat) (σ : zSto) (P : Int32 → zSto → Prop) : Prop := (∃ n : Nat, w_X5_remainsInAll_4 b1 P  n (0 : Int32) (0 : Int32) σ)
set_option maxRecDepth 100000 in
set_option maxHeartbeats 4000000 in
theorem k_X5_remainsInAll_4 {p : Program} {l : Launch} {e : Env} {s : State} {m : MethodId} {args : Array Value} {below : List Frame} {meth : Method} {c : Code} {D : va_G} {cy : Nat → ClassId} {g : Nat → Nat} (C : zC p s m args meth c cX5_remainsInAll RX5 4 D cy g) (hr : meth.sig.returnType = (some .int)) {P : Int32 → zSto → Prop} (q_1 : Nat) (hq_1 : zIsLine q_1)   : ∀ (n : Nat) (x_2 : Int32) (x_3 : Int32) (σ : zSto), w_X5_remainsInAll_4 q_1 P n x_2 x_3 σ → zX p l e (zrm 0 0) s m args below meth c 0 0 (zQi P below args s D cy g) 4 D cy g 4 [(0, .ref (g 190)), (1, .ref (g q_1)), (2, .int x_2), (3, .int x_3)] [] σ := by
  intro n
  induction n with
  | zero => intro x_2 x_3 σ h; exact h.elim
  | succ n ih =>
    intro x_2 x_3 σ h
    unfold w_X5_remainsInAll_4 at h
    refine zx_iload_n C dX5_remainsInAll_4 3 rfl ?_
    refine zx_aload_n C dX5_remainsInAll_5 1 rfl ?_
    refine zx_getI C hq_1.1 fg_X5_32 rfl dX5_remainsInAll_6 ?_
    refine zx_icmp_ge C 27 dX5_remainsInAll_9 (by decide) (fun q => ?_) (fun q => ?_)
    · replace h := h.1 q
      refine zx_iload_n C dX5_remainsInAll_27 2 rfl ?_
      exact zx_iret C hr dX5_remainsInAll_28 h
    · replace h := h.2 q
      refine zx_iload_n C dX5_remainsInAll_12 2 rfl ?_
      refine zx_aload_n C dX5_remainsInAll_13 0 rfl ?_
      refine zx_getR C zs_190 fg_X5_15 rfl 192 rfl dX5_remainsInAll_14 ?_
      refine zx_iload_n C dX5_remainsInAll_17 3 rfl ?_
      obtain ⟨bd1, h⟩ := h
      refine zx_iald C (x_3).toNatClampNeg zs_192 bd1 rfl dX5_remainsInAll_18 ?_
      refine zx_iadd C dX5_remainsInAll_19 ?_
      refine zx_topi (fun x2 ex2 => ?_)
      replace h := h x2 ex2
      refine zx_istore_n (lv' := [(2, .int x2), (0, .ref (g 190)), (1, .ref (g q_1)), (3, .int x_3)]) C dX5_remainsInAll_20 (by decide) rfl ?_
      obtain ⟨x3, ex3⟩ : ∃ y : Int32, y = (x_3 + (1 : Int32)) := ⟨_, rfl⟩
      replace h := h x3 ex3
      refine zx_iinc (v := x3) (lv' := [(3, .int x3), (2, .int x2), (0, .ref (g 190)), (1, .ref (g q_1))]) C dX5_remainsInAll_21 3 rfl (by rw [ex3]; rfl) (by decide) rfl ?_
      refine zx_goto C 4 dX5_remainsInAll_24 (by decide) ?_
      refine zx_lv (lv' := [(0, .ref (g 190)), (1, .ref (g q_1)), (2, .int x2), (3, .int x3)]) [2, 3, 1, 0] rfl ?_
      exact ih x2 x3 σ h
set_option maxRecDepth 100000 in
set_option maxHeartbeats 4000000 in
theorem c_X5_remainsInAll (l : Launch) (D : va_G) (cy : Nat → ClassId) (g : Nat → Nat) (b1 : Nat) (hb1 : zIsLine b1) (σ : zSto) {P : Int32 → zSto → Prop} (h : w_X5_remainsInAll b1 σ P) : zMi l yX5_remainsInAll cX5_remainsInAll 4 (some .int) (zrm 0 0) D cy g [.ref (g 190), .ref (g b1)] σ P := by
  unfold w_X5_remainsInAll at h
  refine zm_i RX5 rfl (by decide +kernel) (Nat.le_of_ble_eq_true rfl) ?_
  intro p e s m below meth c C hr
  refine zx_lv (lv' := [(0, .ref (g 190)), (1, .ref (g b1))]) [0, 1] rfl ?_
  refine zx_iconst (v := (0 : Int32)) C dX5_remainsInAll_0 (by decide) ?_
  refine zx_istore_n (lv' := [(2, .int (0 : Int32)), (0, .ref (g 190)), (1, .ref (g b1))]) C dX5_remainsInAll_1 (by decide) rfl ?_
  refine zx_iconst (v := (0 : Int32)) C dX5_remainsInAll_2 (by decide) ?_
  refine zx_istore_n (lv' := [(3, .int (0 : Int32)), (2, .int (0 : Int32)), (0, .ref (g 190)), (1, .ref (g b1))]) C dX5_remainsInAll_3 (by decide) rfl ?_
  obtain ⟨n, h⟩ := h
  refine zx_lv (lv' := [(0, .ref (g 190)), (1, .ref (g b1)), (2, .int (0 : Int32)), (3, .int (0 : Int32))]) [2, 3, 1, 0] rfl ?_
  exact k_X5_remainsInAll_4 C hr (b1) hb1  n (0 : Int32) (0 : Int32) σ h
theorem fp_X6_30 : zFP RX6 30 6 6 .int := ⟨RX6, TX6, 11, tyX6, rfl, lay_X6, by decide, fl_X6_30, tyX6_ok, nmX6, rfl, by decide +kernel⟩
def w_X6_clear  (σ : zSto) (P : zSto → Prop) : Prop := (∀ σ1 : zSto, σ1 = zI σ 200 6 (0 : Int32) → P σ1)
set_option maxRecDepth 100000 in
set_option maxHeartbeats 4000000 in
theorem c_X6_clear (l : Launch) (D : va_G) (cy : Nat → ClassId) (g : Nat → Nat)   (σ : zSto) {P : zSto → Prop} (h : w_X6_clear  σ P) : zMv l yX6_clear cX6_clear 1 none (zrm 0 0) D cy g [.ref (g 200)] σ P := by
  unfold w_X6_clear at h
  refine zm_v RX6 rfl (by decide +kernel) (Nat.le_of_ble_eq_true rfl) ?_
  intro p e s m below meth c C hr
  refine zx_lv (lv' := [(0, .ref (g 200))]) [0] rfl ?_
  refine zx_aload_n C dX6_clear_0 0 rfl ?_
  refine zx_iconst (v := (0 : Int32)) C dX6_clear_1 (by decide) ?_
  refine zx_putI C zs_200 fp_X6_30 rfl dX6_clear_2 ?_
  refine zx_sig (fun σ1 eσ1 => ?_)
  replace h := h σ1 eσ1
  exact zx_vret C hr dX6_clear_5 h
theorem fg_X6_30 : zFG RX6 30 6 6 := ⟨RX6, TX6, 11, rfl, lay_X6, by decide, fl_X6_30⟩
theorem fg_X6_9 : zFG RX6 9 6 0 := ⟨RX6, TX6, 11, rfl, lay_X6, by decide, fl_X6_9⟩
theorem fg_X6_15 : zFG RX6 15 6 1 := ⟨RX6, TX6, 11, rfl, lay_X6, by decide, fl_X6_15⟩
theorem fg_X6_18 : zFG RX6 18 6 2 := ⟨RX6, TX6, 11, rfl, lay_X6, by decide, fl_X6_18⟩
def w_X6_add (a1 : Int32) (a2 : Int32) (a3 : Int32) (σ : zSto) (P : zSto → Prop) : Prop := (((16 : Int32) ≤ (σ.1 200 6) → P σ) ∧ (¬ (16 : Int32) ≤ (σ.1 200 6) → (vp_in (σ.1 200 6) 16 ∧ (∀ σ2 : zSto, σ2 = zI σ 201 ((σ.1 200 6)).toNatClampNeg ((1 : Int32) <<< (a1 &&& 31)) → (vp_in (σ2.1 200 6) 16 ∧ (∀ σ4 : zSto, σ4 = zI σ2 202 ((σ2.1 200 6)).toNatClampNeg a2 → (vp_in (σ4.1 200 6) 16 ∧ (∀ σ6 : zSto, σ6 = zI σ4 203 ((σ4.1 200 6)).toNatClampNeg a3 → (∀ σ7 : zSto, σ7 = zI σ6 200 6 ((σ6.1 200 6) + (1 : Int32)) → P σ7)))))))))
set_option maxRecDepth 100000 in
set_option maxHeartbeats 4000000 in
theorem c_X6_add (l : Launch) (D : va_G) (cy : Nat → ClassId) (g : Nat → Nat) (a1 : Int32) (a2 : Int32) (a3 : Int32)  (σ : zSto) {P : zSto → Prop} (h : w_X6_add a1 a2 a3 σ P) : zMv l yX6_add cX6_add 4 none (zrm 0 0) D cy g [.ref (g 200), .int a1, .int a2, .int a3] σ P := by
  unfold w_X6_add at h
  refine zm_v RX6 rfl (by decide +kernel) (Nat.le_of_ble_eq_true rfl) ?_
  intro p e s m below meth c C hr
  refine zx_lv (lv' := [(0, .ref (g 200)), (1, .int a1), (2, .int a2), (3, .int a3)]) [0, 1, 2, 3] rfl ?_
  refine zx_aload_n C dX6_add_0 0 rfl ?_
  refine zx_getI C zs_200 fg_X6_30 rfl dX6_add_1 ?_
  refine zx_bipush (v := (16 : Int32)) C dX6_add_4 (by decide) ?_
  refine zx_icmp_ge C 51 dX6_add_6 (by decide) (fun q => ?_) (fun q => ?_)
  · replace h := h.1 q
    exact zx_vret C hr dX6_add_51 h
  · replace h := h.2 q
    refine zx_aload_n C dX6_add_9 0 rfl ?_
    refine zx_getR C zs_200 fg_X6_9 rfl 201 rfl dX6_add_10 ?_
    refine zx_aload_n C dX6_add_13 0 rfl ?_
    refine zx_getI C zs_200 fg_X6_30 rfl dX6_add_14 ?_
    refine zx_iconst (v := (1 : Int32)) C dX6_add_17 (by decide) ?_
    refine zx_iload_n C dX6_add_18 1 rfl ?_
    refine zx_ishl C dX6_add_19 ?_
    obtain ⟨bd1, h⟩ := h
    refine zx_iast C ((σ.1 200 6)).toNatClampNeg zs_201 bd1 rfl dX6_add_20 ?_
    refine zx_sig (fun σ2 eσ2 => ?_)
    replace h := h σ2 eσ2
    refine zx_aload_n C dX6_add_21 0 rfl ?_
    refine zx_getR C zs_200 fg_X6_15 rfl 202 rfl dX6_add_22 ?_
    refine zx_aload_n C dX6_add_25 0 rfl ?_
    refine zx_getI C zs_200 fg_X6_30 rfl dX6_add_26 ?_
    refine zx_iload_n C dX6_add_29 2 rfl ?_
    obtain ⟨bd3, h⟩ := h
    refine zx_iast C ((σ2.1 200 6)).toNatClampNeg zs_202 bd3 rfl dX6_add_30 ?_
    refine zx_sig (fun σ4 eσ4 => ?_)
    replace h := h σ4 eσ4
    refine zx_aload_n C dX6_add_31 0 rfl ?_
    refine zx_getR C zs_200 fg_X6_18 rfl 203 rfl dX6_add_32 ?_
    refine zx_aload_n C dX6_add_35 0 rfl ?_
    refine zx_getI C zs_200 fg_X6_30 rfl dX6_add_36 ?_
    refine zx_iload_n C dX6_add_39 3 rfl ?_
    obtain ⟨bd5, h⟩ := h
    refine zx_iast C ((σ4.1 200 6)).toNatClampNeg zs_203 bd5 rfl dX6_add_40 ?_
    refine zx_sig (fun σ6 eσ6 => ?_)
    replace h := h σ6 eσ6
    refine zx_aload_n C dX6_add_41 0 rfl ?_
    refine zx_dup C dX6_add_42 rfl ?_
    refine zx_getI C zs_200 fg_X6_30 rfl dX6_add_43 ?_
    refine zx_iconst (v := (1 : Int32)) C dX6_add_46 (by decide) ?_
    refine zx_iadd C dX6_add_47 ?_
    refine zx_putI C zs_200 fp_X6_30 rfl dX6_add_48 ?_
    refine zx_sig (fun σ7 eσ7 => ?_)
    replace h := h σ7 eσ7
    exact zx_vret C hr dX6_add_51 h
theorem fg_X6_34 : zFG RX6 34 6 7 := ⟨RX6, TX6, 11, rfl, lay_X6, by decide, fl_X6_34⟩
theorem fg_X6_37 : zFG RX6 37 6 8 := ⟨RX6, TX6, 11, rfl, lay_X6, by decide, fl_X6_37⟩
def w_X6_surePosts  (σ : zSto) (P : Int32 → zSto → Prop) : Prop := ((¬ (σ.1 200 7) = 0 → P (σ.1 200 8) σ) ∧ ((σ.1 200 7) = 0 → P (-1 : Int32) σ))
set_option maxRecDepth 100000 in
set_option maxHeartbeats 4000000 in
theorem c_X6_surePosts (l : Launch) (D : va_G) (cy : Nat → ClassId) (g : Nat → Nat)   (σ : zSto) {P : Int32 → zSto → Prop} (h : w_X6_surePosts  σ P) : zMi l yX6_surePosts cX6_surePosts 1 (some .int) (zrm 0 0) D cy g [.ref (g 200)] σ P := by
  unfold w_X6_surePosts at h
  refine zm_i RX6 rfl (by decide +kernel) (Nat.le_of_ble_eq_true rfl) ?_
  intro p e s m below meth c C hr
  refine zx_lv (lv' := [(0, .ref (g 200))]) [0] rfl ?_
  refine zx_aload_n C dX6_surePosts_0 0 rfl ?_
  refine zx_getI C zs_200 fg_X6_34 rfl dX6_surePosts_1 ?_
  refine zx_if_ne C 11 dX6_surePosts_4 (by decide) (fun q => ?_) (fun q => ?_)
  · replace h := h.1 q
    refine zx_aload_n C dX6_surePosts_11 0 rfl ?_
    refine zx_getI C zs_200 fg_X6_37 rfl dX6_surePosts_12 ?_
    exact zx_iret C hr dX6_surePosts_15 h
  · replace h := h.2 q
    refine zx_iconst (v := (-1 : Int32)) C dX6_surePosts_7 (by decide) ?_
    refine zx_goto C 15 dX6_surePosts_8 (by decide) ?_
    exact zx_iret C hr dX6_surePosts_15 h
theorem fp_X6_34 : zFP RX6 34 6 7 .int := ⟨RX6, TX6, 11, tyX6, rfl, lay_X6, by decide, fl_X6_34, tyX6_ok, nmX6, rfl, by decide +kernel⟩
theorem fp_X6_37 : zFP RX6 37 6 8 .int := ⟨RX6, TX6, 11, tyX6, rfl, lay_X6, by decide, fl_X6_37, tyX6_ok, nmX6, rfl, by decide +kernel⟩
theorem fg_X6_40 : zFG RX6 40 6 9 := ⟨RX6, TX6, 11, rfl, lay_X6, by decide, fl_X6_40⟩
theorem fp_X6_40 : zFP RX6 40 6 9 .int := ⟨RX6, TX6, 11, tyX6, rfl, lay_X6, by decide, fl_X6_40, tyX6_ok, nmX6, rfl, by decide +kernel⟩
theorem fg_X6_43 : zFG RX6 43 6 10 := ⟨RX6, TX6, 11, rfl, lay_X6, by decide, fl_X6_43⟩
theorem fp_X6_43 : zFP RX6 43 6 10 .int := ⟨RX6, TX6, 11, tyX6, rfl, lay_X6, by decide, fl_X6_43, tyX6_ok, nmX6, rfl, by decide +kernel⟩
def w_X6_keep (a1 : Int32) (σ : zSto) (P : zSto → Prop) : Prop := (∀ σ1 : zSto, σ1 = zI σ 200 7 ((σ.1 200 7) + (1 : Int32)) → (∀ σ2 : zSto, σ2 = zI σ1 200 8 ((σ1.1 200 8) &&& a1) → (∀ σ3 : zSto, σ3 = zI σ2 200 9 ((σ2.1 200 9) ||| a1) → ((¬ (σ3.1 200 7) = (1 : Int32) → (∀ σ4 : zSto, σ4 = zI σ3 200 10 (if a1 < (σ3.1 200 10) then a1 else (σ3.1 200 10)) → P σ4)) ∧ ((σ3.1 200 7) = (1 : Int32) → (∀ σ5 : zSto, σ5 = zI σ3 200 10 a1 → P σ5))))))
set_option maxRecDepth 100000 in
set_option maxHeartbeats 4000000 in
theorem c_X6_keep (l : Launch) (D : va_G) (cy : Nat → ClassId) (g : Nat → Nat) (a1 : Int32)  (σ : zSto) {P : zSto → Prop} (h : w_X6_keep a1 σ P) : zMv l yX6_keep cX6_keep 2 none (zrm 1 64) D cy g [.ref (g 200), .int a1] σ P := by
  unfold w_X6_keep at h
  refine zm_v RX6 rfl (by decide +kernel) (Nat.le_of_ble_eq_true rfl) ?_
  intro p e s m below meth c C hr
  refine zx_lv (lv' := [(0, .ref (g 200)), (1, .int a1)]) [0, 1] rfl ?_
  refine zx_aload_n C dX6_keep_0 0 rfl ?_
  refine zx_dup C dX6_keep_1 rfl ?_
  refine zx_getI C zs_200 fg_X6_34 rfl dX6_keep_2 ?_
  refine zx_iconst (v := (1 : Int32)) C dX6_keep_5 (by decide) ?_
  refine zx_iadd C dX6_keep_6 ?_
  refine zx_putI C zs_200 fp_X6_34 rfl dX6_keep_7 ?_
  refine zx_sig (fun σ1 eσ1 => ?_)
  replace h := h σ1 eσ1
  refine zx_aload_n C dX6_keep_10 0 rfl ?_
  refine zx_dup C dX6_keep_11 rfl ?_
  refine zx_getI C zs_200 fg_X6_37 rfl dX6_keep_12 ?_
  refine zx_iload_n C dX6_keep_15 1 rfl ?_
  refine zx_iand C dX6_keep_16 ?_
  refine zx_putI C zs_200 fp_X6_37 rfl dX6_keep_17 ?_
  refine zx_sig (fun σ2 eσ2 => ?_)
  replace h := h σ2 eσ2
  refine zx_aload_n C dX6_keep_20 0 rfl ?_
  refine zx_dup C dX6_keep_21 rfl ?_
  refine zx_getI C zs_200 fg_X6_40 rfl dX6_keep_22 ?_
  refine zx_iload_n C dX6_keep_25 1 rfl ?_
  refine zx_ior C dX6_keep_26 ?_
  refine zx_putI C zs_200 fp_X6_40 rfl dX6_keep_27 ?_
  refine zx_sig (fun σ3 eσ3 => ?_)
  replace h := h σ3 eσ3
  refine zx_aload_n C dX6_keep_30 0 rfl ?_
  refine zx_aload_n C dX6_keep_31 0 rfl ?_
  refine zx_getI C zs_200 fg_X6_34 rfl dX6_keep_32 ?_
  refine zx_iconst (v := (1 : Int32)) C dX6_keep_35 (by decide) ?_
  refine zx_icmp_ne C 43 dX6_keep_36 (by decide) (fun q => ?_) (fun q => ?_)
  · replace h := h.1 q
    refine zx_aload_n C dX6_keep_43 0 rfl ?_
    refine zx_getI C zs_200 fg_X6_43 rfl dX6_keep_44 ?_
    refine zx_iload_n C dX6_keep_47 1 rfl ?_
    refine zx_min C ml_X6_54 st_math_min ini_J9 cd_math_min (Nat.le_of_ble_eq_true rfl) (Nat.le_of_ble_eq_true rfl) ⟨Nat.zero_le _, Nat.zero_le _⟩ dX6_keep_48 ?_
    refine zx_putI C zs_200 fp_X6_43 rfl dX6_keep_51 ?_
    refine zx_sig (fun σ4 eσ4 => ?_)
    replace h := h σ4 eσ4
    exact zx_vret C hr dX6_keep_54 h
  · replace h := h.2 q
    refine zx_iload_n C dX6_keep_39 1 rfl ?_
    refine zx_goto C 51 dX6_keep_40 (by decide) ?_
    refine zx_putI C zs_200 fp_X6_43 rfl dX6_keep_51 ?_
    refine zx_sig (fun σ5 eσ5 => ?_)
    replace h := h σ5 eσ5
    exact zx_vret C hr dX6_keep_54 h
theorem fg_X6_21 : zFG RX6 21 6 3 := ⟨RX6, TX6, 11, rfl, lay_X6, by decide, fl_X6_21⟩
theorem fg_X6_24 : zFG RX6 24 6 4 := ⟨RX6, TX6, 11, rfl, lay_X6, by decide, fl_X6_24⟩
theorem lk_X6_46 : zLS RX6 46 yX6_search cX6_search 5 none 5 := zLS_of ml_X6_46 st_X6_search ini_X6 cd_X6_search (by decide +kernel)
theorem lk_X6_50 : zLV RX6 50 RX6 yX6_keep cX6_keep 2 none 1 := zLV_of ml_X6_50 im_X6_keep se_X6_keep ini_X6 cd_X6_keep (by decide +kernel)
def w_X6_search : Nat → Int32 → Int32 → Int32 → Int32 → zSto → (zSto → Prop) → Prop
  | 0, _, _, _, _, _, _ => False
  | d + 1, a2, a3, a4, a5, σ, P => (((σ.1 200 6) < a2 → P σ) ∧ (¬ (σ.1 200 6) < a2 → (((16 : Int32) < a2 → P σ) ∧ (¬ (16 : Int32) < a2 → ((a3 < 0 → P σ) ∧ (¬ a3 < 0 → ((0 ≤ a4 → (vp_in a2 17 ∧ (((σ.1 204 (a2).toNatClampNeg) < a3 → P σ) ∧ (¬ (σ.1 204 (a2).toNatClampNeg) < a3 → (vp_in a2 17 ∧ ((a4 ≤ (σ.1 205 (a2).toNatClampNeg) → ((¬ a2 = (σ.1 200 6) → (w_X6_search d (a2 + (1 : Int32)) a3 a4 a5 σ (fun (σ3 : zSto) => (vp_in a2 16 ∧ (vp_in a2 16 ∧ (vp_in a2 16 ∧ (w_X6_search d (a2 + (1 : Int32)) (a3 - (σ3.1 202 (a2).toNatClampNeg)) (a4 - (σ3.1 203 (a2).toNatClampNeg)) (a5 ||| (σ3.1 201 (a2).toNatClampNeg)) σ3 (fun (σ7 : zSto) => P σ7)))))))) ∧ (a2 = (σ.1 200 6) → (w_X6_keep a5 σ (fun (σ8 : zSto) => P σ8))))) ∧ (¬ a4 ≤ (σ.1 205 (a2).toNatClampNeg) → P σ))))))) ∧ (¬ 0 ≤ a4 → P σ))))))))
set_option maxRecDepth 100000 in
set_option maxHeartbeats 4000000 in
theorem c_X6_search (l : Launch) (D : va_G) (cy : Nat → ClassId) (g : Nat → Nat) : ∀ (d : Nat) (a2 : Int32) (a3 : Int32) (a4 : Int32) (a5 : Int32) (σ : zSto) {P : zSto → Prop} (_ : w_X6_search d a2 a3 a4 a5 σ P), zMv l yX6_search cX6_search 5 none (zrm (d + 1) (24 * d + 64)) D cy g [.ref (g 200), .int a2, .int a3, .int a4, .int a5] σ P := by
  intro d
  induction d with
  | zero => intro a2 a3 a4 a5 σ P h; exact h.elim
  | succ d ih =>
    intro a2 a3 a4 a5 σ P h
    unfold w_X6_search at h
    refine zm_v RX6 rfl (by decide +kernel) (Nat.le_of_ble_eq_true rfl) ?_
    intro p e s m below meth c C hr
    refine zx_lv (lv' := [(0, .ref (g 200)), (1, .int a2), (2, .int a3), (3, .int a4), (4, .int a5)]) [0, 1, 2, 3, 4] rfl ?_
    refine zx_iload_n C dX6_search_0 1 rfl ?_
    refine zx_aload_n C dX6_search_1 0 rfl ?_
    refine zx_getI C zs_200 fg_X6_30 rfl dX6_search_2 ?_
    refine zx_icmp_gt C 22 dX6_search_5 (by decide) (fun q => ?_) (fun q => ?_)
    · replace h := h.1 q
      exact zx_vret C hr dX6_search_22 h
    · replace h := h.2 q
      refine zx_iload_n C dX6_search_8 1 rfl ?_
      refine zx_bipush (v := (16 : Int32)) C dX6_search_9 (by decide) ?_
      refine zx_icmp_gt C 22 dX6_search_11 (by decide) (fun q => ?_) (fun q => ?_)
      · replace h := h.1 q
        exact zx_vret C hr dX6_search_22 h
      · replace h := h.2 q
        refine zx_iload_n C dX6_search_14 2 rfl ?_
        refine zx_if_lt C 22 dX6_search_15 (by decide) (fun q => ?_) (fun q => ?_)
        · replace h := h.1 q
          exact zx_vret C hr dX6_search_22 h
        · replace h := h.2 q
          refine zx_iload_n C dX6_search_18 3 rfl ?_
          refine zx_if_ge C 23 dX6_search_19 (by decide) (fun q => ?_) (fun q => ?_)
          · replace h := h.1 q
            refine zx_iload_n C dX6_search_23 2 rfl ?_
            refine zx_aload_n C dX6_search_24 0 rfl ?_
            refine zx_getR C zs_200 fg_X6_21 rfl 204 rfl dX6_search_25 ?_
            refine zx_iload_n C dX6_search_28 1 rfl ?_
            obtain ⟨bd1, h⟩ := h
            refine zx_iald C (a2).toNatClampNeg zs_204 bd1 rfl dX6_search_29 ?_
            refine zx_icmp_gt C 43 dX6_search_30 (by decide) (fun q => ?_) (fun q => ?_)
            · replace h := h.1 q
              exact zx_vret C hr dX6_search_43 h
            · replace h := h.2 q
              refine zx_iload_n C dX6_search_33 3 rfl ?_
              refine zx_aload_n C dX6_search_34 0 rfl ?_
              refine zx_getR C zs_200 fg_X6_24 rfl 205 rfl dX6_search_35 ?_
              refine zx_iload_n C dX6_search_38 1 rfl ?_
              obtain ⟨bd2, h⟩ := h
              refine zx_iald C (a2).toNatClampNeg zs_205 bd2 rfl dX6_search_39 ?_
              refine zx_icmp_le C 44 dX6_search_40 (by decide) (fun q => ?_) (fun q => ?_)
              · replace h := h.1 q
                refine zx_iload_n C dX6_search_44 1 rfl ?_
                refine zx_aload_n C dX6_search_45 0 rfl ?_
                refine zx_getI C zs_200 fg_X6_30 rfl dX6_search_46 ?_
                refine zx_icmp_ne C 59 dX6_search_49 (by decide) (fun q => ?_) (fun q => ?_)
                · replace h := h.1 q
                  refine zx_aload_n C dX6_search_59 0 rfl ?_
                  refine zx_iload_n C dX6_search_60 1 rfl ?_
                  refine zx_iconst (v := (1 : Int32)) C dX6_search_61 (by decide) ?_
                  refine zx_iadd C dX6_search_62 ?_
                  refine zx_iload_n C dX6_search_63 2 rfl ?_
                  refine zx_iload_n C dX6_search_64 3 rfl ?_
                  refine zx_iload C dX6_search_65 4 rfl ?_
                  refine zx_cSv C [.ref (g 200), .int (a2 + (1 : Int32)), .int a3, .int a4, .int a5] lk_X6_46 (ih (a2 + (1 : Int32)) a3 a4 a5 σ h) ⟨by show (d + 1) + 1 ≤ d + 1 + 1; omega, by show 8 + (5 + 11) + (24 * d + 64) ≤ 24 * (d + 1) + 64; omega⟩ ⟨rfl, rfl⟩ ⟨Nat.zero_le _, Nat.zero_le _⟩ rfl rfl (Nat.le_of_ble_eq_true rfl) dX6_search_67 (fun σ3 h => ?_)
                  refine zx_aload_n C dX6_search_70 0 rfl ?_
                  refine zx_iload_n C dX6_search_71 1 rfl ?_
                  refine zx_iconst (v := (1 : Int32)) C dX6_search_72 (by decide) ?_
                  refine zx_iadd C dX6_search_73 ?_
                  refine zx_iload_n C dX6_search_74 2 rfl ?_
                  refine zx_aload_n C dX6_search_75 0 rfl ?_
                  refine zx_getR C zs_200 fg_X6_15 rfl 202 rfl dX6_search_76 ?_
                  refine zx_iload_n C dX6_search_79 1 rfl ?_
                  obtain ⟨bd4, h⟩ := h
                  refine zx_iald C (a2).toNatClampNeg zs_202 bd4 rfl dX6_search_80 ?_
                  refine zx_isub C dX6_search_81 ?_
                  refine zx_iload_n C dX6_search_82 3 rfl ?_
                  refine zx_aload_n C dX6_search_83 0 rfl ?_
                  refine zx_getR C zs_200 fg_X6_18 rfl 203 rfl dX6_search_84 ?_
                  refine zx_iload_n C dX6_search_87 1 rfl ?_
                  obtain ⟨bd5, h⟩ := h
                  refine zx_iald C (a2).toNatClampNeg zs_203 bd5 rfl dX6_search_88 ?_
                  refine zx_isub C dX6_search_89 ?_
                  refine zx_iload C dX6_search_90 4 rfl ?_
                  refine zx_aload_n C dX6_search_92 0 rfl ?_
                  refine zx_getR C zs_200 fg_X6_9 rfl 201 rfl dX6_search_93 ?_
                  refine zx_iload_n C dX6_search_96 1 rfl ?_
                  obtain ⟨bd6, h⟩ := h
                  refine zx_iald C (a2).toNatClampNeg zs_201 bd6 rfl dX6_search_97 ?_
                  refine zx_ior C dX6_search_98 ?_
                  refine zx_cSv C [.ref (g 200), .int (a2 + (1 : Int32)), .int (a3 - (σ3.1 202 (a2).toNatClampNeg)), .int (a4 - (σ3.1 203 (a2).toNatClampNeg)), .int (a5 ||| (σ3.1 201 (a2).toNatClampNeg))] lk_X6_46 (ih (a2 + (1 : Int32)) (a3 - (σ3.1 202 (a2).toNatClampNeg)) (a4 - (σ3.1 203 (a2).toNatClampNeg)) (a5 ||| (σ3.1 201 (a2).toNatClampNeg)) σ3 h) ⟨by show (d + 1) + 1 ≤ d + 1 + 1; omega, by show 8 + (5 + 11) + (24 * d + 64) ≤ 24 * (d + 1) + 64; omega⟩ ⟨rfl, rfl⟩ ⟨Nat.zero_le _, Nat.zero_le _⟩ rfl rfl (Nat.le_of_ble_eq_true rfl) dX6_search_99 (fun σ7 h => ?_)
                  exact zx_vret C hr dX6_search_102 h
                · replace h := h.2 q
                  refine zx_aload_n C dX6_search_52 0 rfl ?_
                  refine zx_iload C dX6_search_53 4 rfl ?_
                  refine zx_cVv C [.int a5] lk_X6_50 (c_X6_keep l D cy g a5  σ h) zs_200 rfl ⟨by show 1 + 1 ≤ d + 1 + 1; omega, by show 8 + (2 + 11) + 64 ≤ 24 * (d + 1) + 64; omega⟩ ⟨rfl, rfl⟩ ⟨Nat.zero_le _, Nat.zero_le _⟩ rfl rfl (Nat.le_of_ble_eq_true rfl) dX6_search_55 (fun σ8 h => ?_)
                  exact zx_vret C hr dX6_search_58 h
              · replace h := h.2 q
                exact zx_vret C hr dX6_search_43 h
          · replace h := h.2 q
            exact zx_vret C hr dX6_search_22 h
def w_X6_find_47 (x_1 : Int32) (x_2 : Int32) (P : zSto → Prop)  : Nat → Int32 → zSto → Prop
  | 0, _, _ => False
  | n + 1, x_3, σ => ((x_3 < 0 → (w_X6_search 18 (0 : Int32) x_1 x_2 (0 : Int32) σ (fun (σ10 : zSto) => P σ10))) ∧ (¬ x_3 < 0 → (vp_in (x_3 + (1 : Int32)) 17 ∧ (vp_in x_3 16 ∧ (vp_in x_3 17 ∧ (∀ σ14 : zSto, σ14 = zI σ 204 (x_3).toNatClampNeg ((σ.1 204 ((x_3 + (1 : Int32))).toNatClampNeg) + (σ.1 202 (x_3).toNatClampNeg)) → (vp_in (x_3 + (1 : Int32)) 17 ∧ (vp_in x_3 16 ∧ (vp_in x_3 17 ∧ (∀ σ18 : zSto, σ18 = zI σ14 205 (x_3).toNatClampNeg ((σ14.1 205 ((x_3 + (1 : Int32))).toNatClampNeg) + (σ14.1 203 (x_3).toNatClampNeg)) → (∀ x19 : Int32, x19 = (x_3 + (-1 : Int32)) → w_X6_find_47 x_1 x_2 P n x19 σ18)))))))))))
def w_X6_find (a1 : Int32) (a2 : Int32) (σ : zSto) (P : zSto → Prop) : Prop := (∀ σ1 : zSto, σ1 = zI σ 200 7 (0 : Int32) → (∀ σ2 : zSto, σ2 = zI σ1 200 8 (-1 : Int32) → (∀ σ3 : zSto, σ3 = zI σ2 200 9 (0 : Int32) → (∀ σ4 : zSto, σ4 = zI σ3 200 10 (0 : Int32) → (vp_in (σ4.1 200 6) 17 ∧ (∀ σ6 : zSto, σ6 = zI σ4 204 ((σ4.1 200 6)).toNatClampNeg (0 : Int32) → (vp_in (σ6.1 200 6) 17 ∧ (∀ σ8 : zSto, σ8 = zI σ6 205 ((σ6.1 200 6)).toNatClampNeg (0 : Int32) → (∀ x9 : Int32, x9 = ((σ8.1 200 6) - (1 : Int32)) → (∃ n : Nat, w_X6_find_47 a1 a2 P  n x9 σ8))))))))))
set_option maxRecDepth 100000 in
set_option maxHeartbeats 4000000 in
theorem k_X6_find_47 {p : Program} {l : Launch} {e : Env} {s : State} {m : MethodId} {args : Array Value} {below : List Frame} {meth : Method} {c : Code} {D : va_G} {cy : Nat → ClassId} {g : Nat → Nat} (C : zC p s m args meth c cX6_find RX6 4 D cy g) (hr : meth.sig.returnType = none) {P : zSto → Prop} (x_1 : Int32) (x_2 : Int32)    : ∀ (n : Nat) (x_3 : Int32) (σ : zSto), w_X6_find_47 x_1 x_2 P n x_3 σ → zX p l e (zrm 20 520) s m args below meth c 0 0 (zQv P below args s D cy g) 4 D cy g 47 [(0, .ref (g 200)), (1, .int x_1), (2, .int x_2), (3, .int x_3)] [] σ := by
  intro n
  induction n with
  | zero => intro x_3 σ h; exact h.elim
  | succ n ih =>
    intro x_3 σ h
    unfold w_X6_find_47 at h
    refine zx_iload_n C dX6_find_47 3 rfl ?_
    refine zx_if_lt C 99 dX6_find_48 (by decide) (fun q => ?_) (fun q => ?_)
    · replace h := h.1 q
      refine zx_aload_n C dX6_find_99 0 rfl ?_
      refine zx_iconst (v := (0 : Int32)) C dX6_find_100 (by decide) ?_
      refine zx_iload_n C dX6_find_101 1 rfl ?_
      refine zx_iload_n C dX6_find_102 2 rfl ?_
      refine zx_iconst (v := (0 : Int32)) C dX6_find_103 (by decide) ?_
      refine zx_cSv C [.ref (g 200), .int (0 : Int32), .int x_1, .int x_2, .int (0 : Int32)] lk_X6_46 (c_X6_search l D cy g 18 (0 : Int32) x_1 x_2 (0 : Int32)  σ h) ⟨by decide, by decide⟩ ⟨rfl, rfl⟩ ⟨Nat.zero_le _, Nat.zero_le _⟩ rfl rfl (Nat.le_of_ble_eq_true rfl) dX6_find_104 (fun σ10 h => ?_)
      exact zx_vret C hr dX6_find_107 h
    · replace h := h.2 q
      refine zx_aload_n C dX6_find_51 0 rfl ?_
      refine zx_getR C zs_200 fg_X6_21 rfl 204 rfl dX6_find_52 ?_
      refine zx_iload_n C dX6_find_55 3 rfl ?_
      refine zx_aload_n C dX6_find_56 0 rfl ?_
      refine zx_getR C zs_200 fg_X6_21 rfl 204 rfl dX6_find_57 ?_
      refine zx_iload_n C dX6_find_60 3 rfl ?_
      refine zx_iconst (v := (1 : Int32)) C dX6_find_61 (by decide) ?_
      refine zx_iadd C dX6_find_62 ?_
      obtain ⟨bd11, h⟩ := h
      refine zx_iald C ((x_3 + (1 : Int32))).toNatClampNeg zs_204 bd11 rfl dX6_find_63 ?_
      refine zx_aload_n C dX6_find_64 0 rfl ?_
      refine zx_getR C zs_200 fg_X6_15 rfl 202 rfl dX6_find_65 ?_
      refine zx_iload_n C dX6_find_68 3 rfl ?_
      obtain ⟨bd12, h⟩ := h
      refine zx_iald C (x_3).toNatClampNeg zs_202 bd12 rfl dX6_find_69 ?_
      refine zx_iadd C dX6_find_70 ?_
      obtain ⟨bd13, h⟩ := h
      refine zx_iast C (x_3).toNatClampNeg zs_204 bd13 rfl dX6_find_71 ?_
      refine zx_sig (fun σ14 eσ14 => ?_)
      replace h := h σ14 eσ14
      refine zx_aload_n C dX6_find_72 0 rfl ?_
      refine zx_getR C zs_200 fg_X6_24 rfl 205 rfl dX6_find_73 ?_
      refine zx_iload_n C dX6_find_76 3 rfl ?_
      refine zx_aload_n C dX6_find_77 0 rfl ?_
      refine zx_getR C zs_200 fg_X6_24 rfl 205 rfl dX6_find_78 ?_
      refine zx_iload_n C dX6_find_81 3 rfl ?_
      refine zx_iconst (v := (1 : Int32)) C dX6_find_82 (by decide) ?_
      refine zx_iadd C dX6_find_83 ?_
      obtain ⟨bd15, h⟩ := h
      refine zx_iald C ((x_3 + (1 : Int32))).toNatClampNeg zs_205 bd15 rfl dX6_find_84 ?_
      refine zx_aload_n C dX6_find_85 0 rfl ?_
      refine zx_getR C zs_200 fg_X6_18 rfl 203 rfl dX6_find_86 ?_
      refine zx_iload_n C dX6_find_89 3 rfl ?_
      obtain ⟨bd16, h⟩ := h
      refine zx_iald C (x_3).toNatClampNeg zs_203 bd16 rfl dX6_find_90 ?_
      refine zx_iadd C dX6_find_91 ?_
      obtain ⟨bd17, h⟩ := h
      refine zx_iast C (x_3).toNatClampNeg zs_205 bd17 rfl dX6_find_92 ?_
      refine zx_sig (fun σ18 eσ18 => ?_)
      replace h := h σ18 eσ18
      obtain ⟨x19, ex19⟩ : ∃ y : Int32, y = (x_3 + (-1 : Int32)) := ⟨_, rfl⟩
      replace h := h x19 ex19
      refine zx_iinc (v := x19) (lv' := [(3, .int x19), (0, .ref (g 200)), (1, .int x_1), (2, .int x_2)]) C dX6_find_93 3 rfl (by rw [ex19]; rfl) (by decide) rfl ?_
      refine zx_goto C 47 dX6_find_96 (by decide) ?_
      refine zx_lv (lv' := [(0, .ref (g 200)), (1, .int x_1), (2, .int x_2), (3, .int x19)]) [1, 2, 3, 0] rfl ?_
      exact ih x19 σ18 h
set_option maxRecDepth 100000 in
set_option maxHeartbeats 4000000 in
theorem c_X6_find (l : Launch) (D : va_G) (cy : Nat → ClassId) (g : Nat → Nat) (a1 : Int32) (a2 : Int32)  (σ : zSto) {P : zSto → Prop} (h : w_X6_find a1 a2 σ P) : zMv l yX6_find cX6_find 4 none (zrm 20 520) D cy g [.ref (g 200), .int a1, .int a2] σ P := by
  unfold w_X6_find at h
  refine zm_v RX6 rfl (by decide +kernel) (Nat.le_of_ble_eq_true rfl) ?_
  intro p e s m below meth c C hr
  refine zx_lv (lv' := [(0, .ref (g 200)), (1, .int a1), (2, .int a2)]) [0, 1, 2] rfl ?_
  refine zx_aload_n C dX6_find_0 0 rfl ?_
  refine zx_iconst (v := (0 : Int32)) C dX6_find_1 (by decide) ?_
  refine zx_putI C zs_200 fp_X6_34 rfl dX6_find_2 ?_
  refine zx_sig (fun σ1 eσ1 => ?_)
  replace h := h σ1 eσ1
  refine zx_aload_n C dX6_find_5 0 rfl ?_
  refine zx_iconst (v := (-1 : Int32)) C dX6_find_6 (by decide) ?_
  refine zx_putI C zs_200 fp_X6_37 rfl dX6_find_7 ?_
  refine zx_sig (fun σ2 eσ2 => ?_)
  replace h := h σ2 eσ2
  refine zx_aload_n C dX6_find_10 0 rfl ?_
  refine zx_iconst (v := (0 : Int32)) C dX6_find_11 (by decide) ?_
  refine zx_putI C zs_200 fp_X6_40 rfl dX6_find_12 ?_
  refine zx_sig (fun σ3 eσ3 => ?_)
  replace h := h σ3 eσ3
  refine zx_aload_n C dX6_find_15 0 rfl ?_
  refine zx_iconst (v := (0 : Int32)) C dX6_find_16 (by decide) ?_
  refine zx_putI C zs_200 fp_X6_43 rfl dX6_find_17 ?_
  refine zx_sig (fun σ4 eσ4 => ?_)
  replace h := h σ4 eσ4
  refine zx_aload_n C dX6_find_20 0 rfl ?_
  refine zx_getR C zs_200 fg_X6_21 rfl 204 rfl dX6_find_21 ?_
  refine zx_aload_n C dX6_find_24 0 rfl ?_
  refine zx_getI C zs_200 fg_X6_30 rfl dX6_find_25 ?_
  refine zx_iconst (v := (0 : Int32)) C dX6_find_28 (by decide) ?_
  obtain ⟨bd5, h⟩ := h
  refine zx_iast C ((σ4.1 200 6)).toNatClampNeg zs_204 bd5 rfl dX6_find_29 ?_
  refine zx_sig (fun σ6 eσ6 => ?_)
  replace h := h σ6 eσ6
  refine zx_aload_n C dX6_find_30 0 rfl ?_
  refine zx_getR C zs_200 fg_X6_24 rfl 205 rfl dX6_find_31 ?_
  refine zx_aload_n C dX6_find_34 0 rfl ?_
  refine zx_getI C zs_200 fg_X6_30 rfl dX6_find_35 ?_
  refine zx_iconst (v := (0 : Int32)) C dX6_find_38 (by decide) ?_
  obtain ⟨bd7, h⟩ := h
  refine zx_iast C ((σ6.1 200 6)).toNatClampNeg zs_205 bd7 rfl dX6_find_39 ?_
  refine zx_sig (fun σ8 eσ8 => ?_)
  replace h := h σ8 eσ8
  refine zx_aload_n C dX6_find_40 0 rfl ?_
  refine zx_getI C zs_200 fg_X6_30 rfl dX6_find_41 ?_
  refine zx_iconst (v := (1 : Int32)) C dX6_find_44 (by decide) ?_
  refine zx_isub C dX6_find_45 ?_
  refine zx_topi (fun x9 ex9 => ?_)
  replace h := h x9 ex9
  refine zx_istore_n (lv' := [(3, .int x9), (0, .ref (g 200)), (1, .int a1), (2, .int a2)]) C dX6_find_46 (by decide) rfl ?_
  obtain ⟨n, h⟩ := h
  refine zx_lv (lv' := [(0, .ref (g 200)), (1, .int a1), (2, .int a2), (3, .int x9)]) [1, 2, 3, 0] rfl ?_
  exact k_X6_find_47 C hr (a1) (a2)   n x9 σ8 h
theorem fg_X6_91 : zFG RX6 91 2 2 := ⟨RX2, TX2, 3, rfl, lay_X2, by decide, fl_X6_91⟩
theorem fg_X6_94 : zFG RX6 94 2 0 := ⟨RX2, TX2, 3, rfl, lay_X2, by decide, fl_X6_94⟩
theorem lk_X6_96 : zLV RX6 96 RX0 yX0_hasPost cX0_hasPost 2 (some .boolean) 1 := zLV_of ml_X6_96 im_X0_hasPost se_X0_hasPost ini_X0 cd_X0_hasPost (by decide +kernel)
theorem fg_X6_27 : zFG RX6 27 6 5 := ⟨RX6, TX6, 11, rfl, lay_X6, by decide, fl_X6_27⟩
theorem fg_X6_100 : zFG RX6 100 2 1 := ⟨RX2, TX2, 3, rfl, lay_X2, by decide, fl_X6_100⟩
def w_X6_fillDues_23 (q_1 : Nat) (q_2 : Nat) (P : Int32 → zSto → Prop)  : Nat → Int32 → zSto → Prop
  | 0, _, _ => False
  | n + 1, x_3, σ => (((σ.1 q_2 2) ≤ x_3 → P (1 : Int32) σ) ∧ (¬ (σ.1 q_2 2) ≤ x_3 → (vp_in x_3 16 ∧ (∀ x2 : Int32, x2 = (σ.1 (q_2 + 1) (x_3).toNatClampNeg) → (w_X0_hasPost q_1 x2 σ (fun (r4 : Int32) (σ3 : zSto) => (r4 = 0 ∨ r4 = 1) → ((¬ r4 = 0 → (vp_in x2 16 ∧ (((σ3.1 206 (x2).toNatClampNeg) = (-1 : Int32) → (vp_in x_3 16 ∧ (vp_in x2 16 ∧ (∀ σ8 : zSto, σ8 = zI σ3 206 (x2).toNatClampNeg (σ3.1 (q_2 + 2) (x_3).toNatClampNeg) → (∀ x9 : Int32, x9 = (x_3 + (1 : Int32)) → w_X6_fillDues_23 q_1 q_2 P n x9 σ8))))) ∧ (¬ (σ3.1 206 (x2).toNatClampNeg) = (-1 : Int32) → (vp_in x2 16 ∧ (vp_in x_3 16 ∧ (((σ3.1 206 (x2).toNatClampNeg) = (σ3.1 (q_2 + 2) (x_3).toNatClampNeg) → (vp_in x_3 16 ∧ (vp_in x2 16 ∧ (∀ σ14 : zSto, σ14 = zI σ3 206 (x2).toNatClampNeg (σ3.1 (q_2 + 2) (x_3).toNatClampNeg) → (∀ x15 : Int32, x15 = (x_3 + (1 : Int32)) → w_X6_fillDues_23 q_1 q_2 P n x15 σ14))))) ∧ (¬ (σ3.1 206 (x2).toNatClampNeg) = (σ3.1 (q_2 + 2) (x_3).toNatClampNeg) → P (0 : Int32) σ3)))))))) ∧ (r4 = 0 → P (0 : Int32) σ3))))))))
def w_X6_fillDues_2 (q_1 : Nat) (q_2 : Nat) (P : Int32 → zSto → Prop)  : Nat → Int32 → zSto → Prop
  | 0, _, _ => False
  | n + 1, x_3, σ => (((16 : Int32) ≤ x_3 → (∃ n2 : Nat, w_X6_fillDues_23 q_1 q_2 P  n2 (0 : Int32) σ)) ∧ (¬ (16 : Int32) ≤ x_3 → (vp_in x_3 16 ∧ (∀ σ17 : zSto, σ17 = zI σ 206 (x_3).toNatClampNeg (-1 : Int32) → (∀ x18 : Int32, x18 = (x_3 + (1 : Int32)) → w_X6_fillDues_2 q_1 q_2 P n x18 σ17)))))
def w_X6_fillDues (b1 : Nat) (b2 : Nat) (σ : zSto) (P : Int32 → zSto → Prop) : Prop := (∃ n : Nat, w_X6_fillDues_2 b1 b2 P  n (0 : Int32) σ)
set_option maxRecDepth 100000 in
set_option maxHeartbeats 4000000 in
theorem k_X6_fillDues_23 {p : Program} {l : Launch} {e : Env} {s : State} {m : MethodId} {args : Array Value} {below : List Frame} {meth : Method} {c : Code} {D : va_G} {cy : Nat → ClassId} {g : Nat → Nat} (C : zC p s m args meth c cX6_fillDues RX6 5 D cy g) (hr : meth.sig.returnType = (some .boolean)) {P : Int32 → zSto → Prop} (q_1 : Nat) (q_2 : Nat) (hq_1 : zIsLine q_1) (hq_2 : zIsPairs q_2)   : ∀ (n : Nat) (x_3 : Int32) (σ : zSto), w_X6_fillDues_23 q_1 q_2 P n x_3 σ → zX p l e (zrm 1 21) s m args below meth c 0 0 (zQb P below args s D cy g) 5 D cy g 23 [(0, .ref (g 200)), (1, .ref (g q_1)), (2, .ref (g q_2)), (3, .int x_3)] [] σ := by
  intro n
  induction n with
  | zero => intro x_3 σ h; exact h.elim
  | succ n ih =>
    intro x_3 σ h
    unfold w_X6_fillDues_23 at h
    refine zx_iload_n C dX6_fillDues_23 3 rfl ?_
    refine zx_aload_n C dX6_fillDues_24 2 rfl ?_
    refine zx_getI C hq_2.1 fg_X6_91 rfl dX6_fillDues_25 ?_
    refine zx_icmp_ge C 98 dX6_fillDues_28 (by decide) (fun q => ?_) (fun q => ?_)
    · replace h := h.1 q
      refine zx_iconst (v := (1 : Int32)) C dX6_fillDues_98 (by decide) ?_
      exact zx_zret C hr dX6_fillDues_99 (Or.inr rfl) h
    · replace h := h.2 q
      refine zx_aload_n C dX6_fillDues_31 2 rfl ?_
      refine zx_getR C hq_2.1 fg_X6_94 rfl (q_2 + 1) rfl dX6_fillDues_32 ?_
      refine zx_iload_n C dX6_fillDues_35 3 rfl ?_
      obtain ⟨bd1, h⟩ := h
      refine zx_iald C (x_3).toNatClampNeg hq_2.2.1 bd1 rfl dX6_fillDues_36 ?_
      refine zx_topi (fun x2 ex2 => ?_)
      replace h := h x2 ex2
      refine zx_istore (lv' := [(4, .int x2), (0, .ref (g 200)), (1, .ref (g q_1)), (2, .ref (g q_2)), (3, .int x_3)]) C dX6_fillDues_37 (by decide) rfl ?_
      refine zx_aload_n C dX6_fillDues_39 2 rfl ?_
      refine zx_iload C dX6_fillDues_40 0 rfl ?_
      refine zx_cVb C [.int x2] lk_X6_96 (c_X0_hasPost l D cy g q_1 x2 hq_1 σ h) hq_1.1 rfl ⟨by decide, by decide⟩ ⟨rfl, rfl⟩ ⟨Nat.zero_le _, Nat.zero_le _⟩ rfl rfl (Nat.le_of_ble_eq_true rfl) dX6_fillDues_42 (fun r4 σ3 hb h => ?_)
      replace h := h hb
      refine zx_if_ne C 50 dX6_fillDues_45 (by decide) (fun q => ?_) (fun q => ?_)
      · replace h := h.1 q
        refine zx_aload_n C dX6_fillDues_50 1 rfl ?_
        refine zx_getR C zs_200 fg_X6_27 rfl 206 rfl dX6_fillDues_51 ?_
        refine zx_iload C dX6_fillDues_54 0 rfl ?_
        obtain ⟨bd5, h⟩ := h
        refine zx_iald C (x2).toNatClampNeg zs_206 bd5 rfl dX6_fillDues_56 ?_
        refine zx_iconst (v := (-1 : Int32)) C dX6_fillDues_57 (by decide) ?_
        refine zx_icmp_eq C 79 dX6_fillDues_58 (by decide) (fun q => ?_) (fun q => ?_)
        · replace h := h.1 q
          refine zx_aload_n C dX6_fillDues_79 1 rfl ?_
          refine zx_getR C zs_200 fg_X6_27 rfl 206 rfl dX6_fillDues_80 ?_
          refine zx_iload C dX6_fillDues_83 0 rfl ?_
          refine zx_aload_n C dX6_fillDues_85 3 rfl ?_
          refine zx_getR C hq_2.1 fg_X6_100 rfl (q_2 + 2) rfl dX6_fillDues_86 ?_
          refine zx_iload_n C dX6_fillDues_89 4 rfl ?_
          obtain ⟨bd6, h⟩ := h
          refine zx_iald C (x_3).toNatClampNeg hq_2.2.2 bd6 rfl dX6_fillDues_90 ?_
          obtain ⟨bd7, h⟩ := h
          refine zx_iast C (x2).toNatClampNeg zs_206 bd7 rfl dX6_fillDues_91 ?_
          refine zx_sig (fun σ8 eσ8 => ?_)
          replace h := h σ8 eσ8
          obtain ⟨x9, ex9⟩ : ∃ y : Int32, y = (x_3 + (1 : Int32)) := ⟨_, rfl⟩
          replace h := h x9 ex9
          refine zx_iinc (v := x9) (lv' := [(3, .int x9), (4, .int x2), (0, .ref (g 200)), (1, .ref (g q_1)), (2, .ref (g q_2))]) C dX6_fillDues_92 4 rfl (by rw [ex9]; rfl) (by decide) rfl ?_
          refine zx_goto C 23 dX6_fillDues_95 (by decide) ?_
          refine zx_lv (lv' := [(0, .ref (g 200)), (1, .ref (g q_1)), (2, .ref (g q_2)), (3, .int x9)]) [2, 3, 4, 0] rfl ?_
          exact ih x9 σ8 h
        · replace h := h.2 q
          refine zx_aload_n C dX6_fillDues_61 1 rfl ?_
          refine zx_getR C zs_200 fg_X6_27 rfl 206 rfl dX6_fillDues_62 ?_
          refine zx_iload C dX6_fillDues_65 0 rfl ?_
          obtain ⟨bd10, h⟩ := h
          refine zx_iald C (x2).toNatClampNeg zs_206 bd10 rfl dX6_fillDues_67 ?_
          refine zx_aload_n C dX6_fillDues_68 3 rfl ?_
          refine zx_getR C hq_2.1 fg_X6_100 rfl (q_2 + 2) rfl dX6_fillDues_69 ?_
          refine zx_iload_n C dX6_fillDues_72 4 rfl ?_
          obtain ⟨bd11, h⟩ := h
          refine zx_iald C (x_3).toNatClampNeg hq_2.2.2 bd11 rfl dX6_fillDues_73 ?_
          refine zx_icmp_eq C 79 dX6_fillDues_74 (by decide) (fun q => ?_) (fun q => ?_)
          · replace h := h.1 q
            refine zx_aload_n C dX6_fillDues_79 1 rfl ?_
            refine zx_getR C zs_200 fg_X6_27 rfl 206 rfl dX6_fillDues_80 ?_
            refine zx_iload C dX6_fillDues_83 0 rfl ?_
            refine zx_aload_n C dX6_fillDues_85 3 rfl ?_
            refine zx_getR C hq_2.1 fg_X6_100 rfl (q_2 + 2) rfl dX6_fillDues_86 ?_
            refine zx_iload_n C dX6_fillDues_89 4 rfl ?_
            obtain ⟨bd12, h⟩ := h
            refine zx_iald C (x_3).toNatClampNeg hq_2.2.2 bd12 rfl dX6_fillDues_90 ?_
            obtain ⟨bd13, h⟩ := h
            refine zx_iast C (x2).toNatClampNeg zs_206 bd13 rfl dX6_fillDues_91 ?_
            refine zx_sig (fun σ14 eσ14 => ?_)
            replace h := h σ14 eσ14
            obtain ⟨x15, ex15⟩ : ∃ y : Int32, y = (x_3 + (1 : Int32)) := ⟨_, rfl⟩
            replace h := h x15 ex15
            refine zx_iinc (v := x15) (lv' := [(3, .int x15), (4, .int x2), (0, .ref (g 200)), (1, .ref (g q_1)), (2, .ref (g q_2))]) C dX6_fillDues_92 4 rfl (by rw [ex15]; rfl) (by decide) rfl ?_
            refine zx_goto C 23 dX6_fillDues_95 (by decide) ?_
            refine zx_lv (lv' := [(0, .ref (g 200)), (1, .ref (g q_1)), (2, .ref (g q_2)), (3, .int x15)]) [2, 3, 4, 0] rfl ?_
            exact ih x15 σ14 h
          · replace h := h.2 q
            refine zx_iconst (v := (0 : Int32)) C dX6_fillDues_77 (by decide) ?_
            exact zx_zret C hr dX6_fillDues_78 (Or.inl rfl) h
      · replace h := h.2 q
        refine zx_iconst (v := (0 : Int32)) C dX6_fillDues_48 (by decide) ?_
        exact zx_zret C hr dX6_fillDues_49 (Or.inl rfl) h
set_option maxRecDepth 100000 in
set_option maxHeartbeats 4000000 in
theorem k_X6_fillDues_2 {p : Program} {l : Launch} {e : Env} {s : State} {m : MethodId} {args : Array Value} {below : List Frame} {meth : Method} {c : Code} {D : va_G} {cy : Nat → ClassId} {g : Nat → Nat} (C : zC p s m args meth c cX6_fillDues RX6 5 D cy g) (hr : meth.sig.returnType = (some .boolean)) {P : Int32 → zSto → Prop} (q_1 : Nat) (q_2 : Nat) (hq_1 : zIsLine q_1) (hq_2 : zIsPairs q_2)   : ∀ (n : Nat) (x_3 : Int32) (σ : zSto), w_X6_fillDues_2 q_1 q_2 P n x_3 σ → zX p l e (zrm 1 21) s m args below meth c 0 0 (zQb P below args s D cy g) 5 D cy g 2 [(0, .ref (g 200)), (1, .ref (g q_1)), (2, .ref (g q_2)), (3, .int x_3)] [] σ := by
  intro n
  induction n with
  | zero => intro x_3 σ h; exact h.elim
  | succ n ih =>
    intro x_3 σ h
    unfold w_X6_fillDues_2 at h
    refine zx_iload_n C dX6_fillDues_2 3 rfl ?_
    refine zx_bipush (v := (16 : Int32)) C dX6_fillDues_3 (by decide) ?_
    refine zx_icmp_ge C 21 dX6_fillDues_5 (by decide) (fun q => ?_) (fun q => ?_)
    · replace h := h.1 q
      refine zx_iconst (v := (0 : Int32)) C dX6_fillDues_21 (by decide) ?_
      refine zx_istore_n (lv' := [(3, .int (0 : Int32)), (0, .ref (g 200)), (1, .ref (g q_1)), (2, .ref (g q_2))]) C dX6_fillDues_22 (by decide) rfl ?_
      obtain ⟨n2, h⟩ := h
      refine zx_lv (lv' := [(0, .ref (g 200)), (1, .ref (g q_1)), (2, .ref (g q_2)), (3, .int (0 : Int32))]) [1, 2, 3, 0] rfl ?_
      exact k_X6_fillDues_23 C hr (q_1) (q_2) hq_1 hq_2  n2 (0 : Int32) σ h
    · replace h := h.2 q
      refine zx_aload_n C dX6_fillDues_8 0 rfl ?_
      refine zx_getR C zs_200 fg_X6_27 rfl 206 rfl dX6_fillDues_9 ?_
      refine zx_iload_n C dX6_fillDues_12 3 rfl ?_
      refine zx_iconst (v := (-1 : Int32)) C dX6_fillDues_13 (by decide) ?_
      obtain ⟨bd16, h⟩ := h
      refine zx_iast C (x_3).toNatClampNeg zs_206 bd16 rfl dX6_fillDues_14 ?_
      refine zx_sig (fun σ17 eσ17 => ?_)
      replace h := h σ17 eσ17
      obtain ⟨x18, ex18⟩ : ∃ y : Int32, y = (x_3 + (1 : Int32)) := ⟨_, rfl⟩
      replace h := h x18 ex18
      refine zx_iinc (v := x18) (lv' := [(3, .int x18), (0, .ref (g 200)), (1, .ref (g q_1)), (2, .ref (g q_2))]) C dX6_fillDues_15 3 rfl (by rw [ex18]; rfl) (by decide) rfl ?_
      refine zx_goto C 2 dX6_fillDues_18 (by decide) ?_
      refine zx_lv (lv' := [(0, .ref (g 200)), (1, .ref (g q_1)), (2, .ref (g q_2)), (3, .int x18)]) [1, 2, 3, 0] rfl ?_
      exact ih x18 σ17 h
set_option maxRecDepth 100000 in
set_option maxHeartbeats 4000000 in
theorem c_X6_fillDues (l : Launch) (D : va_G) (cy : Nat → ClassId) (g : Nat → Nat) (b1 : Nat) (b2 : Nat) (hb1 : zIsLine b1) (hb2 : zIsPairs b2) (σ : zSto) {P : Int32 → zSto → Prop} (h : w_X6_fillDues b1 b2 σ P) : zMb l yX6_fillDues cX6_fillDues 5 (some .boolean) (zrm 1 21) D cy g [.ref (g 200), .ref (g b1), .ref (g b2)] σ P := by
  unfold w_X6_fillDues at h
  refine zm_b RX6 rfl (by decide +kernel) (Nat.le_of_ble_eq_true rfl) ?_
  intro p e s m below meth c C hr
  refine zx_lv (lv' := [(0, .ref (g 200)), (1, .ref (g b1)), (2, .ref (g b2))]) [0, 1, 2] rfl ?_
  refine zx_iconst (v := (0 : Int32)) C dX6_fillDues_0 (by decide) ?_
  refine zx_istore_n (lv' := [(3, .int (0 : Int32)), (0, .ref (g 200)), (1, .ref (g b1)), (2, .ref (g b2))]) C dX6_fillDues_1 (by decide) rfl ?_
  obtain ⟨n, h⟩ := h
  refine zx_lv (lv' := [(0, .ref (g 200)), (1, .ref (g b1)), (2, .ref (g b2)), (3, .int (0 : Int32))]) [1, 2, 3, 0] rfl ?_
  exact k_X6_fillDues_2 C hr (b1) (b2) hb1 hb2  n (0 : Int32) σ h
