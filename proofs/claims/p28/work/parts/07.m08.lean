theorem fp_X10_407 : zFP RX10 407 10 47 .int := ⟨RX10, TX10, 50, tyX10, rfl, lay_X10, by decide, fl_X10_407, tyX10_ok, nmX10, rfl, by decide +kernel⟩
def w_X10_hasLog (a1 : Int32) (σ : zSto) (P : Int32 → zSto → Prop) : Prop := (∀ σ1 : zSto, σ1 = zI σ 223 47 a1 → (w_X10_is (2 : Int32) a1 σ1 (fun (r3 : Int32) (σ2 : zSto) => (r3 = 0 ∨ r3 = 1) → ((r3 = 0 ∨ r3 = 1) ∧ P r3 σ2))))
set_option maxRecDepth 100000 in
set_option maxHeartbeats 4000000 in
theorem c_X10_hasLog (l : Launch) (D : va_G) (cy : Nat → ClassId) (g : Nat → Nat) (a1 : Int32)  (σ : zSto) {P : Int32 → zSto → Prop} (h : w_X10_hasLog a1 σ P) : zMb l yX10_hasLog cX10_hasLog 2 (some .boolean) (zrm 2 44) D cy g [.ref (g 223), .int a1] σ P := by
  unfold w_X10_hasLog at h
  refine zm_b RX10 rfl (by decide +kernel) (Nat.le_of_ble_eq_true rfl) ?_
  intro p e s m below meth c C hr
  refine zx_lv (lv' := [(0, .ref (g 223)), (1, .int a1)]) [0, 1] rfl ?_
  refine zx_aload_n C dX10_hasLog_0 0 rfl ?_
  refine zx_iload_n C dX10_hasLog_1 1 rfl ?_
  refine zx_putI C zs_223 fp_X10_407 rfl dX10_hasLog_2 ?_
  refine zx_sig (fun σ1 eσ1 => ?_)
  replace h := h σ1 eσ1
  refine zx_aload_n C dX10_hasLog_5 0 rfl ?_
  refine zx_iconst (v := (2 : Int32)) C dX10_hasLog_6 (by decide) ?_
  refine zx_iload_n C dX10_hasLog_7 1 rfl ?_
  refine zx_cVb C [.int (2 : Int32), .int a1] lk_X10_225 (c_X10_is l D cy g (2 : Int32) a1  σ1 h) zs_223 rfl ⟨by decide, by decide⟩ ⟨rfl, rfl⟩ ⟨Nat.zero_le _, Nat.zero_le _⟩ rfl rfl (Nat.le_of_ble_eq_true rfl) dX10_hasLog_8 (fun r3 σ2 hb h => ?_)
  replace h := h hb
  exact zx_zret C hr dX10_hasLog_11 h.1 h.2
theorem fg_X10_407 : zFG RX10 407 10 47 := ⟨RX10, TX10, 50, rfl, lay_X10, by decide, fl_X10_407⟩
def w_X10_seenOf (a1 : Int32) (a2 : Int32) (σ : zSto) (P : Int32 → zSto → Prop) : Prop := (vp_in (((((21 : Int32) * (σ.1 223 47)) + (1 : Int32)) + ((2 : Int32) * a1)) + a2) 168 ∧ P (σ.1 231 ((((((21 : Int32) * (σ.1 223 47)) + (1 : Int32)) + ((2 : Int32) * a1)) + a2)).toNatClampNeg) σ)
set_option maxRecDepth 100000 in
set_option maxHeartbeats 4000000 in
theorem c_X10_seenOf (l : Launch) (D : va_G) (cy : Nat → ClassId) (g : Nat → Nat) (a1 : Int32) (a2 : Int32)  (σ : zSto) {P : Int32 → zSto → Prop} (h : w_X10_seenOf a1 a2 σ P) : zMi l yX10_seenOf cX10_seenOf 3 (some .int) (zrm 0 0) D cy g [.ref (g 223), .int a1, .int a2] σ P := by
  unfold w_X10_seenOf at h
  refine zm_i RX10 rfl (by decide +kernel) (Nat.le_of_ble_eq_true rfl) ?_
  intro p e s m below meth c C hr
  refine zx_lv (lv' := [(0, .ref (g 223)), (1, .int a1), (2, .int a2)]) [0, 1, 2] rfl ?_
  refine zx_aload_n C dX10_seenOf_0 0 rfl ?_
  refine zx_getR C zs_223 fg_X10_32 rfl 231 rfl dX10_seenOf_1 ?_
  refine zx_bipush (v := (21 : Int32)) C dX10_seenOf_4 (by decide) ?_
  refine zx_aload_n C dX10_seenOf_6 0 rfl ?_
  refine zx_getI C zs_223 fg_X10_407 rfl dX10_seenOf_7 ?_
  refine zx_imul C dX10_seenOf_10 ?_
  refine zx_iconst (v := (1 : Int32)) C dX10_seenOf_11 (by decide) ?_
  refine zx_iadd C dX10_seenOf_12 ?_
  refine zx_iconst (v := (2 : Int32)) C dX10_seenOf_13 (by decide) ?_
  refine zx_iload_n C dX10_seenOf_14 1 rfl ?_
  refine zx_imul C dX10_seenOf_15 ?_
  refine zx_iadd C dX10_seenOf_16 ?_
  refine zx_iload_n C dX10_seenOf_17 2 rfl ?_
  refine zx_iadd C dX10_seenOf_18 ?_
  obtain ⟨bd1, h⟩ := h
  refine zx_iald C ((((((21 : Int32) * (σ.1 223 47)) + (1 : Int32)) + ((2 : Int32) * a1)) + a2)).toNatClampNeg zs_231 bd1 rfl dX10_seenOf_19 ?_
  exact zx_iret C hr dX10_seenOf_20 h
theorem lk_X10_410 : zLV RX10 410 RX10 yX10_hasLog cX10_hasLog 2 (some .boolean) 1 := zLV_of ml_X10_410 im_X10_hasLog se_X10_hasLog ini_X10 cd_X10_hasLog (by decide +kernel)
theorem lk_X10_413 : zLV RX10 413 RX10 yX10_seenOf cX10_seenOf 3 (some .int) 2 := zLV_of ml_X10_413 im_X10_seenOf se_X10_seenOf ini_X10 cd_X10_seenOf (by decide +kernel)
def w_X10_seen (a1 : Int32) (a2 : Int32) (a3 : Int32) (σ : zSto) (P : Int32 → zSto → Prop) : Prop := (∀ σ1 : zSto, σ1 = zI σ 223 0 (0 : Int32) → (w_X10_hasLog a1 σ1 (fun (r3 : Int32) (σ2 : zSto) => (r3 = 0 ∨ r3 = 1) → ((¬ r3 = 0 → (vp_in ((21 : Int32) * a1) 168 ∧ (∀ x5 : Int32, x5 = (σ2.1 231 (((21 : Int32) * a1)).toNatClampNeg) → ((¬ a2 = (-1 : Int32) → (w_X10_in a2 (0 : Int32) (x5 - (1 : Int32)) σ2 (fun (r7 : Int32) (σ6 : zSto) => (r7 = 0 ∨ r7 = 1) → ((r7 = 0 → P (-2 : Int32) σ6) ∧ (¬ r7 = 0 → (w_X10_in a3 (0 : Int32) (1 : Int32) σ6 (fun (r9 : Int32) (σ8 : zSto) => (r9 = 0 ∨ r9 = 1) → ((r9 = 0 → P (-2 : Int32) σ8) ∧ (¬ r9 = 0 → (w_X10_seenOf a2 a3 σ8 (fun (r11 : Int32) (σ10 : zSto) => P r11 σ10))))))))))) ∧ (a2 = (-1 : Int32) → ((¬ a3 = 0 → P (-2 : Int32) σ2) ∧ (a3 = 0 → P x5 σ2))))))) ∧ (r3 = 0 → P (-2 : Int32) σ2)))))
set_option maxRecDepth 100000 in
set_option maxHeartbeats 4000000 in
theorem c_X10_seen (l : Launch) (D : va_G) (cy : Nat → ClassId) (g : Nat → Nat) (a1 : Int32) (a2 : Int32) (a3 : Int32)  (σ : zSto) {P : Int32 → zSto → Prop} (h : w_X10_seen a1 a2 a3 σ P) : zMi l yX10_seen cX10_seen 5 (some .int) (zrm 3 65) D cy g [.ref (g 223), .int a1, .int a2, .int a3] σ P := by
  unfold w_X10_seen at h
  refine zm_i RX10 rfl (by decide +kernel) (Nat.le_of_ble_eq_true rfl) ?_
  intro p e s m below meth c C hr
  refine zx_lv (lv' := [(0, .ref (g 223)), (1, .int a1), (2, .int a2), (3, .int a3)]) [0, 1, 2, 3] rfl ?_
  refine zx_aload_n C dX10_seen_0 0 rfl ?_
  refine zx_iconst (v := (0 : Int32)) C dX10_seen_1 (by decide) ?_
  refine zx_putI C zs_223 fp_X10_91 rfl dX10_seen_2 ?_
  refine zx_sig (fun σ1 eσ1 => ?_)
  replace h := h σ1 eσ1
  refine zx_aload_n C dX10_seen_5 0 rfl ?_
  refine zx_iload_n C dX10_seen_6 1 rfl ?_
  refine zx_cVb C [.int a1] lk_X10_410 (c_X10_hasLog l D cy g a1  σ1 h) zs_223 rfl ⟨by decide, by decide⟩ ⟨rfl, rfl⟩ ⟨Nat.zero_le _, Nat.zero_le _⟩ rfl rfl (Nat.le_of_ble_eq_true rfl) dX10_seen_7 (fun r3 σ2 hb h => ?_)
  replace h := h hb
  refine zx_if_ne C 16 dX10_seen_10 (by decide) (fun q => ?_) (fun q => ?_)
  · replace h := h.1 q
    refine zx_aload_n C dX10_seen_16 0 rfl ?_
    refine zx_getR C zs_223 fg_X10_32 rfl 231 rfl dX10_seen_17 ?_
    refine zx_bipush (v := (21 : Int32)) C dX10_seen_20 (by decide) ?_
    refine zx_iload_n C dX10_seen_22 1 rfl ?_
    refine zx_imul C dX10_seen_23 ?_
    obtain ⟨bd4, h⟩ := h
    refine zx_iald C (((21 : Int32) * a1)).toNatClampNeg zs_231 bd4 rfl dX10_seen_24 ?_
    refine zx_topi (fun x5 ex5 => ?_)
    replace h := h x5 ex5
    refine zx_istore (lv' := [(4, .int x5), (0, .ref (g 223)), (1, .int a1), (2, .int a2), (3, .int a3)]) C dX10_seen_25 (by decide) rfl ?_
    refine zx_iload_n C dX10_seen_27 3 rfl ?_
    refine zx_iconst (v := (-1 : Int32)) C dX10_seen_28 (by decide) ?_
    refine zx_icmp_ne C 44 dX10_seen_29 (by decide) (fun q => ?_) (fun q => ?_)
    · replace h := h.1 q
      refine zx_iload_n C dX10_seen_44 3 rfl ?_
      refine zx_iconst (v := (0 : Int32)) C dX10_seen_45 (by decide) ?_
      refine zx_iload C dX10_seen_46 0 rfl ?_
      refine zx_iconst (v := (1 : Int32)) C dX10_seen_48 (by decide) ?_
      refine zx_isub C dX10_seen_49 ?_
      refine zx_cSb C [.int a2, .int (0 : Int32), .int (x5 - (1 : Int32))] lk_X10_103 (c_X10_in l D cy g a2 (0 : Int32) (x5 - (1 : Int32))  σ2 h) ⟨by decide, by decide⟩ ⟨rfl, rfl⟩ ⟨Nat.zero_le _, Nat.zero_le _⟩ rfl rfl (Nat.le_of_ble_eq_true rfl) dX10_seen_50 (fun r7 σ6 hb h => ?_)
      replace h := h hb
      refine zx_if_eq C 74 dX10_seen_53 (by decide) (fun q => ?_) (fun q => ?_)
      · replace h := h.1 q
        refine zx_bipush (v := (-2 : Int32)) C dX10_seen_74 (by decide) ?_
        exact zx_iret C hr dX10_seen_76 h
      · replace h := h.2 q
        refine zx_iload_n C dX10_seen_56 4 rfl ?_
        refine zx_iconst (v := (0 : Int32)) C dX10_seen_57 (by decide) ?_
        refine zx_iconst (v := (1 : Int32)) C dX10_seen_58 (by decide) ?_
        refine zx_cSb C [.int a3, .int (0 : Int32), .int (1 : Int32)] lk_X10_103 (c_X10_in l D cy g a3 (0 : Int32) (1 : Int32)  σ6 h) ⟨by decide, by decide⟩ ⟨rfl, rfl⟩ ⟨Nat.zero_le _, Nat.zero_le _⟩ rfl rfl (Nat.le_of_ble_eq_true rfl) dX10_seen_59 (fun r9 σ8 hb h => ?_)
        replace h := h hb
        refine zx_if_eq C 74 dX10_seen_62 (by decide) (fun q => ?_) (fun q => ?_)
        · replace h := h.1 q
          refine zx_bipush (v := (-2 : Int32)) C dX10_seen_74 (by decide) ?_
          exact zx_iret C hr dX10_seen_76 h
        · replace h := h.2 q
          refine zx_aload_n C dX10_seen_65 1 rfl ?_
          refine zx_iload_n C dX10_seen_66 3 rfl ?_
          refine zx_iload_n C dX10_seen_67 4 rfl ?_
          refine zx_cVi C [.int a2, .int a3] lk_X10_413 (c_X10_seenOf l D cy g a2 a3  σ8 h) zs_223 rfl ⟨by decide, by decide⟩ ⟨rfl, rfl⟩ ⟨Nat.zero_le _, Nat.zero_le _⟩ rfl rfl (Nat.le_of_ble_eq_true rfl) dX10_seen_68 (fun r11 σ10 h => ?_)
          refine zx_goto C 76 dX10_seen_71 (by decide) ?_
          exact zx_iret C hr dX10_seen_76 h
    · replace h := h.2 q
      refine zx_iload_n C dX10_seen_32 4 rfl ?_
      refine zx_if_ne C 41 dX10_seen_33 (by decide) (fun q => ?_) (fun q => ?_)
      · replace h := h.1 q
        refine zx_bipush (v := (-2 : Int32)) C dX10_seen_41 (by decide) ?_
        exact zx_iret C hr dX10_seen_43 h
      · replace h := h.2 q
        refine zx_iload C dX10_seen_36 0 rfl ?_
        refine zx_goto C 43 dX10_seen_38 (by decide) ?_
        exact zx_iret C hr dX10_seen_43 h
  · replace h := h.2 q
    refine zx_bipush (v := (-2 : Int32)) C dX10_seen_13 (by decide) ?_
    exact zx_iret C hr dX10_seen_15 h
def w_X10_holds_55  (P : Int32 → zSto → Prop)  : Nat → Int32 → zSto → Prop
  | 0, _, _ => False
  | n + 1, x_3, σ => (vp_in ((21 : Int32) * (σ.1 223 47)) 168 ∧ (((σ.1 231 (((21 : Int32) * (σ.1 223 47))).toNatClampNeg) ≤ x_3 → P (1 : Int32) σ) ∧ (¬ (σ.1 231 (((21 : Int32) * (σ.1 223 47))).toNatClampNeg) ≤ x_3 → (w_X10_seenOf x_3 (0 : Int32) σ (fun (r3 : Int32) (σ2 : zSto) => (w_X10_isPost r3 σ2 (fun (r5 : Int32) (σ4 : zSto) => (r5 = 0 ∨ r5 = 1) → ((r5 = 0 → P (0 : Int32) σ4) ∧ (¬ r5 = 0 → (w_X10_seenOf x_3 (0 : Int32) σ4 (fun (r7 : Int32) (σ6 : zSto) => (vp_in r7 16 ∧ (w_X10_seenOf x_3 (1 : Int32) σ6 (fun (r10 : Int32) (σ9 : zSto) => (((σ6.1 239 (r7).toNatClampNeg) = r10 → (∀ x11 : Int32, x11 = (x_3 + (1 : Int32)) → w_X10_holds_55 P n x11 σ9)) ∧ (¬ (σ6.1 239 (r7).toNatClampNeg) = r10 → P (0 : Int32) σ9))))))))))))))))
def w_X10_holds_4 (x_1 : Int32) (P : Int32 → zSto → Prop)  : Nat → Int32 → Int32 → zSto → Prop
  | 0, _, _, _ => False
  | n + 1, x_2, x_3, σ => (((σ.1 223 24) ≤ x_3 → (∃ n2 : Nat, w_X10_holds_55  P  n2 (0 : Int32) σ)) ∧ (¬ (σ.1 223 24) ≤ x_3 → (vp_in x_3 16 ∧ (∀ σ13 : zSto, σ13 = zI σ 239 (x_3).toNatClampNeg x_2 → (vp_in x_3 16 ∧ (w_X10_has x_1 x_3 σ13 (fun (r16 : Int32) (σ15 : zSto) => (r16 = 0 ∨ r16 = 1) → ((r16 = 0 → (∀ x17 : Int32, x17 = (x_2 + ((σ13.1 236 (x_3).toNatClampNeg) + (0 : Int32))) → (∀ x18 : Int32, x18 = (x_3 + (1 : Int32)) → w_X10_holds_4 x_1 P n x17 x18 σ15))) ∧ (¬ r16 = 0 → (vp_in x_3 16 ∧ (∀ x20 : Int32, x20 = (x_2 + ((σ13.1 236 (x_3).toNatClampNeg) + (σ15.1 237 (x_3).toNatClampNeg))) → (∀ x21 : Int32, x21 = (x_3 + (1 : Int32)) → w_X10_holds_4 x_1 P n x20 x21 σ15))))))))))))
def w_X10_holds (a1 : Int32) (σ : zSto) (P : Int32 → zSto → Prop) : Prop := (∃ n : Nat, w_X10_holds_4 a1 P  n (0 : Int32) (0 : Int32) σ)
set_option maxRecDepth 100000 in
set_option maxHeartbeats 4000000 in
theorem k_X10_holds_55 {p : Program} {l : Launch} {e : Env} {s : State} {m : MethodId} {args : Array Value} {below : List Frame} {meth : Method} {c : Code} {D : va_G} {cy : Nat → ClassId} {g : Nat → Nat} (C : zC p s m args meth c cX10_holds RX10 4 D cy g) (hr : meth.sig.returnType = (some .boolean)) {P : Int32 → zSto → Prop}     : ∀ (n : Nat) (x_3 : Int32) (σ : zSto), w_X10_holds_55 P n x_3 σ → zX p l e (zrm 2 43) s m args below meth c 0 0 (zQb P below args s D cy g) 4 D cy g 55 [(0, .ref (g 223)), (3, .int x_3)] [] σ := by
  intro n
  induction n with
  | zero => intro x_3 σ h; exact h.elim
  | succ n ih =>
    intro x_3 σ h
    unfold w_X10_holds_55 at h
    refine zx_iload_n C dX10_holds_55 1 rfl ?_
    refine zx_aload_n C dX10_holds_56 0 rfl ?_
    refine zx_getR C zs_223 fg_X10_32 rfl 231 rfl dX10_holds_57 ?_
    refine zx_bipush (v := (21 : Int32)) C dX10_holds_60 (by decide) ?_
    refine zx_aload_n C dX10_holds_62 0 rfl ?_
    refine zx_getI C zs_223 fg_X10_407 rfl dX10_holds_63 ?_
    refine zx_imul C dX10_holds_66 ?_
    obtain ⟨bd1, h⟩ := h
    refine zx_iald C (((21 : Int32) * (σ.1 223 47))).toNatClampNeg zs_231 bd1 rfl dX10_holds_67 ?_
    refine zx_icmp_ge C 112 dX10_holds_68 (by decide) (fun q => ?_) (fun q => ?_)
    · replace h := h.1 q
      refine zx_iconst (v := (1 : Int32)) C dX10_holds_112 (by decide) ?_
      exact zx_zret C hr dX10_holds_113 (Or.inr rfl) h
    · replace h := h.2 q
      refine zx_aload_n C dX10_holds_71 0 rfl ?_
      refine zx_aload_n C dX10_holds_72 0 rfl ?_
      refine zx_iload_n C dX10_holds_73 1 rfl ?_
      refine zx_iconst (v := (0 : Int32)) C dX10_holds_74 (by decide) ?_
      refine zx_cVi C [.int x_3, .int (0 : Int32)] lk_X10_413 (c_X10_seenOf l D cy g x_3 (0 : Int32)  σ h) zs_223 rfl ⟨by decide, by decide⟩ ⟨rfl, rfl⟩ ⟨Nat.zero_le _, Nat.zero_le _⟩ rfl rfl (Nat.le_of_ble_eq_true rfl) dX10_holds_75 (fun r3 σ2 h => ?_)
      refine zx_cVb C [.int r3] lk_X10_260 (c_X10_isPost l D cy g r3  σ2 h) zs_223 rfl ⟨by decide, by decide⟩ ⟨rfl, rfl⟩ ⟨Nat.zero_le _, Nat.zero_le _⟩ rfl rfl (Nat.le_of_ble_eq_true rfl) dX10_holds_78 (fun r5 σ4 hb h => ?_)
      replace h := h hb
      refine zx_if_eq C 104 dX10_holds_81 (by decide) (fun q => ?_) (fun q => ?_)
      · replace h := h.1 q
        refine zx_iconst (v := (0 : Int32)) C dX10_holds_104 (by decide) ?_
        exact zx_zret C hr dX10_holds_105 (Or.inl rfl) h
      · replace h := h.2 q
        refine zx_aload_n C dX10_holds_84 0 rfl ?_
        refine zx_getR C zs_223 fg_X10_56 rfl 239 rfl dX10_holds_85 ?_
        refine zx_aload_n C dX10_holds_88 0 rfl ?_
        refine zx_iload_n C dX10_holds_89 1 rfl ?_
        refine zx_iconst (v := (0 : Int32)) C dX10_holds_90 (by decide) ?_
        refine zx_cVi C [.int x_3, .int (0 : Int32)] lk_X10_413 (c_X10_seenOf l D cy g x_3 (0 : Int32)  σ4 h) zs_223 rfl ⟨by decide, by decide⟩ ⟨rfl, rfl⟩ ⟨Nat.zero_le _, Nat.zero_le _⟩ rfl rfl (Nat.le_of_ble_eq_true rfl) dX10_holds_91 (fun r7 σ6 h => ?_)
        obtain ⟨bd8, h⟩ := h
        refine zx_iald C (r7).toNatClampNeg zs_239 bd8 rfl dX10_holds_94 ?_
        refine zx_aload_n C dX10_holds_95 0 rfl ?_
        refine zx_iload_n C dX10_holds_96 1 rfl ?_
        refine zx_iconst (v := (1 : Int32)) C dX10_holds_97 (by decide) ?_
        refine zx_cVi C [.int x_3, .int (1 : Int32)] lk_X10_413 (c_X10_seenOf l D cy g x_3 (1 : Int32)  σ6 h) zs_223 rfl ⟨by decide, by decide⟩ ⟨rfl, rfl⟩ ⟨Nat.zero_le _, Nat.zero_le _⟩ rfl rfl (Nat.le_of_ble_eq_true rfl) dX10_holds_98 (fun r10 σ9 h => ?_)
        refine zx_icmp_eq C 106 dX10_holds_101 (by decide) (fun q => ?_) (fun q => ?_)
        · replace h := h.1 q
          obtain ⟨x11, ex11⟩ : ∃ y : Int32, y = (x_3 + (1 : Int32)) := ⟨_, rfl⟩
          replace h := h x11 ex11
          refine zx_iinc (v := x11) (lv' := [(3, .int x11), (0, .ref (g 223))]) C dX10_holds_106 1 rfl (by rw [ex11]; rfl) (by decide) rfl ?_
          refine zx_goto C 55 dX10_holds_109 (by decide) ?_
          refine zx_lv (lv' := [(0, .ref (g 223)), (3, .int x11)]) [1, 0] rfl ?_
          exact ih x11 σ9 h
        · replace h := h.2 q
          refine zx_iconst (v := (0 : Int32)) C dX10_holds_104 (by decide) ?_
          exact zx_zret C hr dX10_holds_105 (Or.inl rfl) h
set_option maxRecDepth 100000 in
set_option maxHeartbeats 4000000 in
theorem k_X10_holds_4 {p : Program} {l : Launch} {e : Env} {s : State} {m : MethodId} {args : Array Value} {below : List Frame} {meth : Method} {c : Code} {D : va_G} {cy : Nat → ClassId} {g : Nat → Nat} (C : zC p s m args meth c cX10_holds RX10 4 D cy g) (hr : meth.sig.returnType = (some .boolean)) {P : Int32 → zSto → Prop} (x_1 : Int32)    : ∀ (n : Nat) (x_2 : Int32) (x_3 : Int32) (σ : zSto), w_X10_holds_4 x_1 P n x_2 x_3 σ → zX p l e (zrm 2 43) s m args below meth c 0 0 (zQb P below args s D cy g) 4 D cy g 4 [(0, .ref (g 223)), (1, .int x_1), (2, .int x_2), (3, .int x_3)] [] σ := by
  intro n
  induction n with
  | zero => intro x_2 x_3 σ h; exact h.elim
  | succ n ih =>
    intro x_2 x_3 σ h
    unfold w_X10_holds_4 at h
    refine zx_iload_n C dX10_holds_4 3 rfl ?_
    refine zx_aload_n C dX10_holds_5 0 rfl ?_
    refine zx_getI C zs_223 fg_X10_245 rfl dX10_holds_6 ?_
    refine zx_icmp_ge C 53 dX10_holds_9 (by decide) (fun q => ?_) (fun q => ?_)
    · replace h := h.1 q
      refine zx_iconst (v := (0 : Int32)) C dX10_holds_53 (by decide) ?_
      refine zx_istore_n (lv' := [(3, .int (0 : Int32)), (0, .ref (g 223)), (1, .int x_1), (2, .int x_2)]) C dX10_holds_54 (by decide) rfl ?_
      obtain ⟨n2, h⟩ := h
      refine zx_lv (lv' := [(0, .ref (g 223)), (3, .int (0 : Int32))]) [1, 0] rfl ?_
      exact k_X10_holds_55 C hr    n2 (0 : Int32) σ h
    · replace h := h.2 q
      refine zx_aload_n C dX10_holds_12 0 rfl ?_
      refine zx_getR C zs_223 fg_X10_56 rfl 239 rfl dX10_holds_13 ?_
      refine zx_iload_n C dX10_holds_16 3 rfl ?_
      refine zx_iload_n C dX10_holds_17 2 rfl ?_
      obtain ⟨bd12, h⟩ := h
      refine zx_iast C (x_3).toNatClampNeg zs_239 bd12 rfl dX10_holds_18 ?_
      refine zx_sig (fun σ13 eσ13 => ?_)
      replace h := h σ13 eσ13
      refine zx_iload_n C dX10_holds_19 2 rfl ?_
      refine zx_aload_n C dX10_holds_20 0 rfl ?_
      refine zx_getR C zs_223 fg_X10_47 rfl 236 rfl dX10_holds_21 ?_
      refine zx_iload_n C dX10_holds_24 3 rfl ?_
      obtain ⟨bd14, h⟩ := h
      refine zx_iald C (x_3).toNatClampNeg zs_236 bd14 rfl dX10_holds_25 ?_
      refine zx_iload_n C dX10_holds_26 1 rfl ?_
      refine zx_iload_n C dX10_holds_27 3 rfl ?_
      refine zx_cSb C [.int x_1, .int x_3] lk_X10_95 (c_X10_has l D cy g x_1 x_3  σ13 h) ⟨by decide, by decide⟩ ⟨rfl, rfl⟩ ⟨Nat.zero_le _, Nat.zero_le _⟩ rfl rfl (Nat.le_of_ble_eq_true rfl) dX10_holds_28 (fun r16 σ15 hb h => ?_)
      replace h := h hb
      refine zx_if_eq C 43 dX10_holds_31 (by decide) (fun q => ?_) (fun q => ?_)
      · replace h := h.1 q
        refine zx_iconst (v := (0 : Int32)) C dX10_holds_43 (by decide) ?_
        refine zx_iadd C dX10_holds_44 ?_
        refine zx_iadd C dX10_holds_45 ?_
        refine zx_topi (fun x17 ex17 => ?_)
        replace h := h x17 ex17
        refine zx_istore_n (lv' := [(2, .int x17), (0, .ref (g 223)), (1, .int x_1), (3, .int x_3)]) C dX10_holds_46 (by decide) rfl ?_
        obtain ⟨x18, ex18⟩ : ∃ y : Int32, y = (x_3 + (1 : Int32)) := ⟨_, rfl⟩
        replace h := h x18 ex18
        refine zx_iinc (v := x18) (lv' := [(3, .int x18), (2, .int x17), (0, .ref (g 223)), (1, .int x_1)]) C dX10_holds_47 3 rfl (by rw [ex18]; rfl) (by decide) rfl ?_
        refine zx_goto C 4 dX10_holds_50 (by decide) ?_
        refine zx_lv (lv' := [(0, .ref (g 223)), (1, .int x_1), (2, .int x17), (3, .int x18)]) [2, 3, 1, 0] rfl ?_
        exact ih x17 x18 σ15 h
      · replace h := h.2 q
        refine zx_aload_n C dX10_holds_34 0 rfl ?_
        refine zx_getR C zs_223 fg_X10_50 rfl 237 rfl dX10_holds_35 ?_
        refine zx_iload_n C dX10_holds_38 3 rfl ?_
        obtain ⟨bd19, h⟩ := h
        refine zx_iald C (x_3).toNatClampNeg zs_237 bd19 rfl dX10_holds_39 ?_
        refine zx_goto C 44 dX10_holds_40 (by decide) ?_
        refine zx_iadd C dX10_holds_44 ?_
        refine zx_iadd C dX10_holds_45 ?_
        refine zx_topi (fun x20 ex20 => ?_)
        replace h := h x20 ex20
        refine zx_istore_n (lv' := [(2, .int x20), (0, .ref (g 223)), (1, .int x_1), (3, .int x_3)]) C dX10_holds_46 (by decide) rfl ?_
        obtain ⟨x21, ex21⟩ : ∃ y : Int32, y = (x_3 + (1 : Int32)) := ⟨_, rfl⟩
        replace h := h x21 ex21
        refine zx_iinc (v := x21) (lv' := [(3, .int x21), (2, .int x20), (0, .ref (g 223)), (1, .int x_1)]) C dX10_holds_47 3 rfl (by rw [ex21]; rfl) (by decide) rfl ?_
        refine zx_goto C 4 dX10_holds_50 (by decide) ?_
        refine zx_lv (lv' := [(0, .ref (g 223)), (1, .int x_1), (2, .int x20), (3, .int x21)]) [2, 3, 1, 0] rfl ?_
        exact ih x20 x21 σ15 h
set_option maxRecDepth 100000 in
set_option maxHeartbeats 4000000 in
theorem c_X10_holds (l : Launch) (D : va_G) (cy : Nat → ClassId) (g : Nat → Nat) (a1 : Int32)  (σ : zSto) {P : Int32 → zSto → Prop} (h : w_X10_holds a1 σ P) : zMb l yX10_holds cX10_holds 4 (some .boolean) (zrm 2 43) D cy g [.ref (g 223), .int a1] σ P := by
  unfold w_X10_holds at h
  refine zm_b RX10 rfl (by decide +kernel) (Nat.le_of_ble_eq_true rfl) ?_
  intro p e s m below meth c C hr
  refine zx_lv (lv' := [(0, .ref (g 223)), (1, .int a1)]) [0, 1] rfl ?_
  refine zx_iconst (v := (0 : Int32)) C dX10_holds_0 (by decide) ?_
  refine zx_istore_n (lv' := [(2, .int (0 : Int32)), (0, .ref (g 223)), (1, .int a1)]) C dX10_holds_1 (by decide) rfl ?_
  refine zx_iconst (v := (0 : Int32)) C dX10_holds_2 (by decide) ?_
  refine zx_istore_n (lv' := [(3, .int (0 : Int32)), (2, .int (0 : Int32)), (0, .ref (g 223)), (1, .int a1)]) C dX10_holds_3 (by decide) rfl ?_
  obtain ⟨n, h⟩ := h
  refine zx_lv (lv' := [(0, .ref (g 223)), (1, .int a1), (2, .int (0 : Int32)), (3, .int (0 : Int32))]) [2, 3, 1, 0] rfl ?_
  exact k_X10_holds_4 C hr (a1)   n (0 : Int32) (0 : Int32) σ h
theorem lk_X10_416 : zLV RX10 416 RX10 yX10_holds cX10_holds 4 (some .boolean) 1 := zLV_of ml_X10_416 im_X10_holds se_X10_holds ini_X10 cd_X10_holds (by decide +kernel)
def w_X10_hold_56 (x_3 : Int32) (P : Int32 → zSto → Prop)  : Nat → Int32 → Int32 → Int32 → Int32 → Int32 → zSto → Prop
  | 0, _, _, _, _, _, _ => False
  | n + 1, x_4, x_5, x_6, x_7, x_8, σ => ((((1 : Int32) <<< ((σ.1 223 25) &&& 31)) ≤ x_8 → ((¬ x_3 = 0 → ((¬ x_3 = (1 : Int32) → ((¬ x_3 = (2 : Int32) → P x_5 σ) ∧ (x_3 = (2 : Int32) → P x_7 σ))) ∧ (x_3 = (1 : Int32) → ((¬ x_4 = 0 → P x_6 σ) ∧ (x_4 = 0 → P (-1 : Int32) σ))))) ∧ (x_3 = 0 → P x_4 σ))) ∧ (¬ ((1 : Int32) <<< ((σ.1 223 25) &&& 31)) ≤ x_8 → (w_X10_holds x_8 σ (fun (r10 : Int32) (σ9 : zSto) => (r10 = 0 ∨ r10 = 1) → ((r10 = 0 → (∀ x11 : Int32, x11 = (x_8 + (1 : Int32)) → w_X10_hold_56 x_3 P n x_4 x_5 x_6 x_7 x11 σ9)) ∧ (¬ r10 = 0 → ((¬ x_5 = (-1 : Int32) → (∀ x12 : Int32, x12 = (x_4 + (1 : Int32)) → (∀ x13 : Int32, x13 = (x_6 &&& x_8) → (∀ x14 : Int32, x14 = (x_7 ||| x_8) → (∀ x15 : Int32, x15 = (x_8 + (1 : Int32)) → w_X10_hold_56 x_3 P n x12 x_5 x13 x14 x15 σ9))))) ∧ (x_5 = (-1 : Int32) → (∀ x16 : Int32, x16 = (x_4 + (1 : Int32)) → (∀ x17 : Int32, x17 = (x_6 &&& x_8) → (∀ x18 : Int32, x18 = (x_7 ||| x_8) → (∀ x19 : Int32, x19 = (x_8 + (1 : Int32)) → w_X10_hold_56 x_3 P n x16 x_8 x17 x18 x19 σ9))))))))))))
def w_X10_hold (a1 : Int32) (a2 : Int32) (a3 : Int32) (σ : zSto) (P : Int32 → zSto → Prop) : Prop := (∀ σ1 : zSto, σ1 = zI σ 223 0 (0 : Int32) → (w_X10_hasLog a2 σ1 (fun (r3 : Int32) (σ2 : zSto) => (r3 = 0 ∨ r3 = 1) → ((r3 = 0 → P (-2 : Int32) σ2) ∧ (¬ r3 = 0 → (w_X10_hand a1 (0 : Int32) σ2 (fun (r5 : Int32) (σ4 : zSto) => (r5 = 0 ∨ r5 = 1) → ((r5 = 0 → P (-2 : Int32) σ4) ∧ (¬ r5 = 0 → (w_X10_in a3 (0 : Int32) (3 : Int32) σ4 (fun (r7 : Int32) (σ6 : zSto) => (r7 = 0 ∨ r7 = 1) → ((¬ r7 = 0 → (∀ x8 : Int32, x8 = (((1 : Int32) <<< ((σ6.1 223 25) &&& 31)) - (1 : Int32)) → (∃ n : Nat, w_X10_hold_56 a3 P  n (0 : Int32) (-1 : Int32) x8 (0 : Int32) (0 : Int32) σ6))) ∧ (r7 = 0 → P (-2 : Int32) σ6)))))))))))))
set_option maxRecDepth 100000 in
set_option maxHeartbeats 4000000 in
theorem k_X10_hold_56 {p : Program} {l : Launch} {e : Env} {s : State} {m : MethodId} {args : Array Value} {below : List Frame} {meth : Method} {c : Code} {D : va_G} {cy : Nat → ClassId} {g : Nat → Nat} (C : zC p s m args meth c cX10_hold RX10 9 D cy g) (hr : meth.sig.returnType = (some .int)) {P : Int32 → zSto → Prop} (x_3 : Int32)    : ∀ (n : Nat) (x_4 : Int32) (x_5 : Int32) (x_6 : Int32) (x_7 : Int32) (x_8 : Int32) (σ : zSto), w_X10_hold_56 x_3 P n x_4 x_5 x_6 x_7 x_8 σ → zX p l e (zrm 4 88) s m args below meth c 0 0 (zQi P below args s D cy g) 9 D cy g 56 [(0, .ref (g 223)), (3, .int x_3), (4, .int x_4), (5, .int x_5), (6, .int x_6), (7, .int x_7), (8, .int x_8)] [] σ := by
  intro n
  induction n with
  | zero => intro x_4 x_5 x_6 x_7 x_8 σ h; exact h.elim
  | succ n ih =>
    intro x_4 x_5 x_6 x_7 x_8 σ h
    unfold w_X10_hold_56 at h
    refine zx_iload C dX10_hold_56 6 rfl ?_
    refine zx_iconst (v := (1 : Int32)) C dX10_hold_58 (by decide) ?_
    refine zx_aload_n C dX10_hold_59 0 rfl ?_
    refine zx_getI C zs_223 fg_X10_248 rfl dX10_hold_60 ?_
    refine zx_ishl C dX10_hold_63 ?_
    refine zx_icmp_ge C 114 dX10_hold_64 (by decide) (fun q => ?_) (fun q => ?_)
    · replace h := h.1 q
      refine zx_iload_n C dX10_hold_114 1 rfl ?_
      refine zx_if_ne C 123 dX10_hold_115 (by decide) (fun q => ?_) (fun q => ?_)
      · replace h := h.1 q
        refine zx_iload_n C dX10_hold_123 1 rfl ?_
        refine zx_iconst (v := (1 : Int32)) C dX10_hold_124 (by decide) ?_
        refine zx_icmp_ne C 142 dX10_hold_125 (by decide) (fun q => ?_) (fun q => ?_)
        · replace h := h.1 q
          refine zx_iload_n C dX10_hold_142 1 rfl ?_
          refine zx_iconst (v := (2 : Int32)) C dX10_hold_143 (by decide) ?_
          refine zx_icmp_ne C 152 dX10_hold_144 (by decide) (fun q => ?_) (fun q => ?_)
          · replace h := h.1 q
            refine zx_iload C dX10_hold_152 3 rfl ?_
            exact zx_iret C hr dX10_hold_154 h
          · replace h := h.2 q
            refine zx_iload C dX10_hold_147 5 rfl ?_
            refine zx_goto C 154 dX10_hold_149 (by decide) ?_
            exact zx_iret C hr dX10_hold_154 h
        · replace h := h.2 q
          refine zx_iload C dX10_hold_128 2 rfl ?_
          refine zx_if_ne C 137 dX10_hold_130 (by decide) (fun q => ?_) (fun q => ?_)
          · replace h := h.1 q
            refine zx_iload C dX10_hold_137 4 rfl ?_
            refine zx_goto C 154 dX10_hold_139 (by decide) ?_
            exact zx_iret C hr dX10_hold_154 h
          · replace h := h.2 q
            refine zx_iconst (v := (-1 : Int32)) C dX10_hold_133 (by decide) ?_
            refine zx_goto C 154 dX10_hold_134 (by decide) ?_
            exact zx_iret C hr dX10_hold_154 h
      · replace h := h.2 q
        refine zx_iload C dX10_hold_118 2 rfl ?_
        refine zx_goto C 154 dX10_hold_120 (by decide) ?_
        exact zx_iret C hr dX10_hold_154 h
    · replace h := h.2 q
      refine zx_aload_n C dX10_hold_67 0 rfl ?_
      refine zx_iload C dX10_hold_68 6 rfl ?_
      refine zx_cVb C [.int x_8] lk_X10_416 (c_X10_holds l D cy g x_8  σ h) zs_223 rfl ⟨by decide, by decide⟩ ⟨rfl, rfl⟩ ⟨Nat.zero_le _, Nat.zero_le _⟩ rfl rfl (Nat.le_of_ble_eq_true rfl) dX10_hold_70 (fun r10 σ9 hb h => ?_)
      replace h := h hb
      refine zx_if_eq C 108 dX10_hold_73 (by decide) (fun q => ?_) (fun q => ?_)
      · replace h := h.1 q
        obtain ⟨x11, ex11⟩ : ∃ y : Int32, y = (x_8 + (1 : Int32)) := ⟨_, rfl⟩
        replace h := h x11 ex11
        refine zx_iinc (v := x11) (lv' := [(8, .int x11), (0, .ref (g 223)), (3, .int x_3), (4, .int x_4), (5, .int x_5), (6, .int x_6), (7, .int x_7)]) C dX10_hold_108 6 rfl (by rw [ex11]; rfl) (by decide) rfl ?_
        refine zx_goto C 56 dX10_hold_111 (by decide) ?_
        refine zx_lv (lv' := [(0, .ref (g 223)), (3, .int x_3), (4, .int x_4), (5, .int x_5), (6, .int x_6), (7, .int x_7), (8, .int x11)]) [1, 2, 3, 4, 5, 6, 0] rfl ?_
        exact ih x_4 x_5 x_6 x_7 x11 σ9 h
      · replace h := h.2 q
        refine zx_iload C dX10_hold_76 3 rfl ?_
        refine zx_iconst (v := (-1 : Int32)) C dX10_hold_78 (by decide) ?_
        refine zx_icmp_ne C 87 dX10_hold_79 (by decide) (fun q => ?_) (fun q => ?_)
        · replace h := h.1 q
          refine zx_iload C dX10_hold_87 3 rfl ?_
          refine zx_istore (lv' := [(5, .int x_5), (0, .ref (g 223)), (3, .int x_3), (4, .int x_4), (6, .int x_6), (7, .int x_7), (8, .int x_8)]) C dX10_hold_89 (by decide) rfl ?_
          obtain ⟨x12, ex12⟩ : ∃ y : Int32, y = (x_4 + (1 : Int32)) := ⟨_, rfl⟩
          replace h := h x12 ex12
          refine zx_iinc (v := x12) (lv' := [(4, .int x12), (5, .int x_5), (0, .ref (g 223)), (3, .int x_3), (6, .int x_6), (7, .int x_7), (8, .int x_8)]) C dX10_hold_91 3 rfl (by rw [ex12]; rfl) (by decide) rfl ?_
          refine zx_iload C dX10_hold_94 4 rfl ?_
          refine zx_iload C dX10_hold_96 6 rfl ?_
          refine zx_iand C dX10_hold_98 ?_
          refine zx_topi (fun x13 ex13 => ?_)
          replace h := h x13 ex13
          refine zx_istore (lv' := [(6, .int x13), (4, .int x12), (5, .int x_5), (0, .ref (g 223)), (3, .int x_3), (7, .int x_7), (8, .int x_8)]) C dX10_hold_99 (by decide) rfl ?_
          refine zx_iload C dX10_hold_101 5 rfl ?_
          refine zx_iload C dX10_hold_103 6 rfl ?_
          refine zx_ior C dX10_hold_105 ?_
          refine zx_topi (fun x14 ex14 => ?_)
          replace h := h x14 ex14
          refine zx_istore (lv' := [(7, .int x14), (6, .int x13), (4, .int x12), (5, .int x_5), (0, .ref (g 223)), (3, .int x_3), (8, .int x_8)]) C dX10_hold_106 (by decide) rfl ?_
          obtain ⟨x15, ex15⟩ : ∃ y : Int32, y = (x_8 + (1 : Int32)) := ⟨_, rfl⟩
          replace h := h x15 ex15
          refine zx_iinc (v := x15) (lv' := [(8, .int x15), (7, .int x14), (6, .int x13), (4, .int x12), (5, .int x_5), (0, .ref (g 223)), (3, .int x_3)]) C dX10_hold_108 6 rfl (by rw [ex15]; rfl) (by decide) rfl ?_
          refine zx_goto C 56 dX10_hold_111 (by decide) ?_
          refine zx_lv (lv' := [(0, .ref (g 223)), (3, .int x_3), (4, .int x12), (5, .int x_5), (6, .int x13), (7, .int x14), (8, .int x15)]) [5, 6, 3, 4, 2, 1, 0] rfl ?_
          exact ih x12 x_5 x13 x14 x15 σ9 h
        · replace h := h.2 q
          refine zx_iload C dX10_hold_82 6 rfl ?_
          refine zx_goto C 89 dX10_hold_84 (by decide) ?_
          refine zx_istore (lv' := [(5, .int x_8), (0, .ref (g 223)), (3, .int x_3), (4, .int x_4), (6, .int x_6), (7, .int x_7), (8, .int x_8)]) C dX10_hold_89 (by decide) rfl ?_
          obtain ⟨x16, ex16⟩ : ∃ y : Int32, y = (x_4 + (1 : Int32)) := ⟨_, rfl⟩
          replace h := h x16 ex16
          refine zx_iinc (v := x16) (lv' := [(4, .int x16), (5, .int x_8), (0, .ref (g 223)), (3, .int x_3), (6, .int x_6), (7, .int x_7), (8, .int x_8)]) C dX10_hold_91 3 rfl (by rw [ex16]; rfl) (by decide) rfl ?_
          refine zx_iload C dX10_hold_94 4 rfl ?_
          refine zx_iload C dX10_hold_96 6 rfl ?_
          refine zx_iand C dX10_hold_98 ?_
          refine zx_topi (fun x17 ex17 => ?_)
          replace h := h x17 ex17
          refine zx_istore (lv' := [(6, .int x17), (4, .int x16), (5, .int x_8), (0, .ref (g 223)), (3, .int x_3), (7, .int x_7), (8, .int x_8)]) C dX10_hold_99 (by decide) rfl ?_
          refine zx_iload C dX10_hold_101 5 rfl ?_
          refine zx_iload C dX10_hold_103 6 rfl ?_
          refine zx_ior C dX10_hold_105 ?_
          refine zx_topi (fun x18 ex18 => ?_)
          replace h := h x18 ex18
          refine zx_istore (lv' := [(7, .int x18), (6, .int x17), (4, .int x16), (5, .int x_8), (0, .ref (g 223)), (3, .int x_3), (8, .int x_8)]) C dX10_hold_106 (by decide) rfl ?_
          obtain ⟨x19, ex19⟩ : ∃ y : Int32, y = (x_8 + (1 : Int32)) := ⟨_, rfl⟩
          replace h := h x19 ex19
          refine zx_iinc (v := x19) (lv' := [(8, .int x19), (7, .int x18), (6, .int x17), (4, .int x16), (5, .int x_8), (0, .ref (g 223)), (3, .int x_3)]) C dX10_hold_108 6 rfl (by rw [ex19]; rfl) (by decide) rfl ?_
          refine zx_goto C 56 dX10_hold_111 (by decide) ?_
          refine zx_lv (lv' := [(0, .ref (g 223)), (3, .int x_3), (4, .int x16), (5, .int x_8), (6, .int x17), (7, .int x18), (8, .int x19)]) [5, 6, 3, 4, 2, 1, 0] rfl ?_
          exact ih x16 x_8 x17 x18 x19 σ9 h
set_option maxRecDepth 100000 in
set_option maxHeartbeats 4000000 in
theorem c_X10_hold (l : Launch) (D : va_G) (cy : Nat → ClassId) (g : Nat → Nat) (a1 : Int32) (a2 : Int32) (a3 : Int32)  (σ : zSto) {P : Int32 → zSto → Prop} (h : w_X10_hold a1 a2 a3 σ P) : zMi l yX10_hold cX10_hold 9 (some .int) (zrm 4 88) D cy g [.ref (g 223), .int a1, .int a2, .int a3] σ P := by
  unfold w_X10_hold at h
  refine zm_i RX10 rfl (by decide +kernel) (Nat.le_of_ble_eq_true rfl) ?_
  intro p e s m below meth c C hr
  refine zx_lv (lv' := [(0, .ref (g 223)), (1, .int a1), (2, .int a2), (3, .int a3)]) [0, 1, 2, 3] rfl ?_
  refine zx_aload_n C dX10_hold_0 0 rfl ?_
  refine zx_iconst (v := (0 : Int32)) C dX10_hold_1 (by decide) ?_
  refine zx_putI C zs_223 fp_X10_91 rfl dX10_hold_2 ?_
  refine zx_sig (fun σ1 eσ1 => ?_)
  replace h := h σ1 eσ1
  refine zx_aload_n C dX10_hold_5 0 rfl ?_
  refine zx_iload_n C dX10_hold_6 2 rfl ?_
  refine zx_cVb C [.int a2] lk_X10_410 (c_X10_hasLog l D cy g a2  σ1 h) zs_223 rfl ⟨by decide, by decide⟩ ⟨rfl, rfl⟩ ⟨Nat.zero_le _, Nat.zero_le _⟩ rfl rfl (Nat.le_of_ble_eq_true rfl) dX10_hold_7 (fun r3 σ2 hb h => ?_)
  replace h := h hb
  refine zx_if_eq C 31 dX10_hold_10 (by decide) (fun q => ?_) (fun q => ?_)
  · replace h := h.1 q
    refine zx_bipush (v := (-2 : Int32)) C dX10_hold_31 (by decide) ?_
    exact zx_iret C hr dX10_hold_33 h
  · replace h := h.2 q
    refine zx_aload_n C dX10_hold_13 0 rfl ?_
    refine zx_iload_n C dX10_hold_14 1 rfl ?_
    refine zx_iconst (v := (0 : Int32)) C dX10_hold_15 (by decide) ?_
    refine zx_cVb C [.int a1, .int (0 : Int32)] lk_X10_257 (c_X10_hand l D cy g a1 (0 : Int32)  σ2 h) zs_223 rfl ⟨by decide, by decide⟩ ⟨rfl, rfl⟩ ⟨Nat.zero_le _, Nat.zero_le _⟩ rfl rfl (Nat.le_of_ble_eq_true rfl) dX10_hold_16 (fun r5 σ4 hb h => ?_)
    replace h := h hb
    refine zx_if_eq C 31 dX10_hold_19 (by decide) (fun q => ?_) (fun q => ?_)
    · replace h := h.1 q
      refine zx_bipush (v := (-2 : Int32)) C dX10_hold_31 (by decide) ?_
      exact zx_iret C hr dX10_hold_33 h
    · replace h := h.2 q
      refine zx_iload_n C dX10_hold_22 3 rfl ?_
      refine zx_iconst (v := (0 : Int32)) C dX10_hold_23 (by decide) ?_
      refine zx_iconst (v := (3 : Int32)) C dX10_hold_24 (by decide) ?_
      refine zx_cSb C [.int a3, .int (0 : Int32), .int (3 : Int32)] lk_X10_103 (c_X10_in l D cy g a3 (0 : Int32) (3 : Int32)  σ4 h) ⟨by decide, by decide⟩ ⟨rfl, rfl⟩ ⟨Nat.zero_le _, Nat.zero_le _⟩ rfl rfl (Nat.le_of_ble_eq_true rfl) dX10_hold_25 (fun r7 σ6 hb h => ?_)
      replace h := h hb
      refine zx_if_ne C 34 dX10_hold_28 (by decide) (fun q => ?_) (fun q => ?_)
      · replace h := h.1 q
        refine zx_iconst (v := (0 : Int32)) C dX10_hold_34 (by decide) ?_
        refine zx_istore (lv' := [(4, .int (0 : Int32)), (0, .ref (g 223)), (1, .int a1), (2, .int a2), (3, .int a3)]) C dX10_hold_35 (by decide) rfl ?_
        refine zx_iconst (v := (-1 : Int32)) C dX10_hold_37 (by decide) ?_
        refine zx_istore (lv' := [(5, .int (-1 : Int32)), (4, .int (0 : Int32)), (0, .ref (g 223)), (1, .int a1), (2, .int a2), (3, .int a3)]) C dX10_hold_38 (by decide) rfl ?_
        refine zx_iconst (v := (1 : Int32)) C dX10_hold_40 (by decide) ?_
        refine zx_aload_n C dX10_hold_41 2 rfl ?_
        refine zx_getI C zs_223 fg_X10_248 rfl dX10_hold_42 ?_
        refine zx_ishl C dX10_hold_45 ?_
        refine zx_iconst (v := (1 : Int32)) C dX10_hold_46 (by decide) ?_
        refine zx_isub C dX10_hold_47 ?_
        refine zx_topi (fun x8 ex8 => ?_)
        replace h := h x8 ex8
        refine zx_istore (lv' := [(6, .int x8), (5, .int (-1 : Int32)), (4, .int (0 : Int32)), (0, .ref (g 223)), (1, .int a1), (2, .int a2), (3, .int a3)]) C dX10_hold_48 (by decide) rfl ?_
        refine zx_iconst (v := (0 : Int32)) C dX10_hold_50 (by decide) ?_
        refine zx_istore (lv' := [(7, .int (0 : Int32)), (6, .int x8), (5, .int (-1 : Int32)), (4, .int (0 : Int32)), (0, .ref (g 223)), (1, .int a1), (2, .int a2), (3, .int a3)]) C dX10_hold_51 (by decide) rfl ?_
        refine zx_iconst (v := (0 : Int32)) C dX10_hold_53 (by decide) ?_
        refine zx_istore (lv' := [(8, .int (0 : Int32)), (7, .int (0 : Int32)), (6, .int x8), (5, .int (-1 : Int32)), (4, .int (0 : Int32)), (0, .ref (g 223)), (1, .int a1), (2, .int a2), (3, .int a3)]) C dX10_hold_54 (by decide) rfl ?_
        obtain ⟨n, h⟩ := h
        refine zx_lv (lv' := [(0, .ref (g 223)), (3, .int a3), (4, .int (0 : Int32)), (5, .int (-1 : Int32)), (6, .int x8), (7, .int (0 : Int32)), (8, .int (0 : Int32))]) [5, 8, 4, 3, 2, 1, 0] rfl ?_
        exact k_X10_hold_56 C hr (a3)   n (0 : Int32) (-1 : Int32) x8 (0 : Int32) (0 : Int32) σ6 h
      · replace h := h.2 q
        refine zx_bipush (v := (-2 : Int32)) C dX10_hold_31 (by decide) ?_
        exact zx_iret C hr dX10_hold_33 h
def w_X10_allWaits_4  (P : Int32 → zSto → Prop)  : Nat → Int32 → Int32 → zSto → Prop
  | 0, _, _, _ => False
  | n + 1, x_1, x_2, σ => (((σ.1 223 24) ≤ x_2 → P x_1 σ) ∧ (¬ (σ.1 223 24) ≤ x_2 → (vp_in x_2 16 ∧ (∀ x2 : Int32, x2 = (x_1 + (σ.1 246 (x_2).toNatClampNeg)) → (∀ x3 : Int32, x3 = (x_2 + (1 : Int32)) → w_X10_allWaits_4 P n x2 x3 σ)))))
def w_X10_allWaits  (σ : zSto) (P : Int32 → zSto → Prop) : Prop := (∃ n : Nat, w_X10_allWaits_4  P  n (0 : Int32) (0 : Int32) σ)
set_option maxRecDepth 100000 in
set_option maxHeartbeats 4000000 in
theorem k_X10_allWaits_4 {p : Program} {l : Launch} {e : Env} {s : State} {m : MethodId} {args : Array Value} {below : List Frame} {meth : Method} {c : Code} {D : va_G} {cy : Nat → ClassId} {g : Nat → Nat} (C : zC p s m args meth c cX10_allWaits RX10 3 D cy g) (hr : meth.sig.returnType = (some .int)) {P : Int32 → zSto → Prop}     : ∀ (n : Nat) (x_1 : Int32) (x_2 : Int32) (σ : zSto), w_X10_allWaits_4 P n x_1 x_2 σ → zX p l e (zrm 0 0) s m args below meth c 0 0 (zQi P below args s D cy g) 3 D cy g 4 [(0, .ref (g 223)), (1, .int x_1), (2, .int x_2)] [] σ := by
  intro n
  induction n with
  | zero => intro x_1 x_2 σ h; exact h.elim
  | succ n ih =>
    intro x_1 x_2 σ h
    unfold w_X10_allWaits_4 at h
    refine zx_iload_n C dX10_allWaits_4 2 rfl ?_
    refine zx_aload_n C dX10_allWaits_5 0 rfl ?_
    refine zx_getI C zs_223 fg_X10_245 rfl dX10_allWaits_6 ?_
    refine zx_icmp_ge C 27 dX10_allWaits_9 (by decide) (fun q => ?_) (fun q => ?_)
    · replace h := h.1 q
      refine zx_iload_n C dX10_allWaits_27 1 rfl ?_
      exact zx_iret C hr dX10_allWaits_28 h
    · replace h := h.2 q
      refine zx_iload_n C dX10_allWaits_12 1 rfl ?_
      refine zx_aload_n C dX10_allWaits_13 0 rfl ?_
      refine zx_getR C zs_223 fg_X10_79 rfl 246 rfl dX10_allWaits_14 ?_
      refine zx_iload_n C dX10_allWaits_17 2 rfl ?_
      obtain ⟨bd1, h⟩ := h
      refine zx_iald C (x_2).toNatClampNeg zs_246 bd1 rfl dX10_allWaits_18 ?_
      refine zx_iadd C dX10_allWaits_19 ?_
      refine zx_topi (fun x2 ex2 => ?_)
      replace h := h x2 ex2
      refine zx_istore_n (lv' := [(1, .int x2), (0, .ref (g 223)), (2, .int x_2)]) C dX10_allWaits_20 (by decide) rfl ?_
      obtain ⟨x3, ex3⟩ : ∃ y : Int32, y = (x_2 + (1 : Int32)) := ⟨_, rfl⟩
      replace h := h x3 ex3
      refine zx_iinc (v := x3) (lv' := [(2, .int x3), (1, .int x2), (0, .ref (g 223))]) C dX10_allWaits_21 2 rfl (by rw [ex3]; rfl) (by decide) rfl ?_
      refine zx_goto C 4 dX10_allWaits_24 (by decide) ?_
      refine zx_lv (lv' := [(0, .ref (g 223)), (1, .int x2), (2, .int x3)]) [2, 1, 0] rfl ?_
      exact ih x2 x3 σ h
set_option maxRecDepth 100000 in
set_option maxHeartbeats 4000000 in
theorem c_X10_allWaits (l : Launch) (D : va_G) (cy : Nat → ClassId) (g : Nat → Nat)   (σ : zSto) {P : Int32 → zSto → Prop} (h : w_X10_allWaits  σ P) : zMi l yX10_allWaits cX10_allWaits 3 (some .int) (zrm 0 0) D cy g [.ref (g 223)] σ P := by
  unfold w_X10_allWaits at h
  refine zm_i RX10 rfl (by decide +kernel) (Nat.le_of_ble_eq_true rfl) ?_
  intro p e s m below meth c C hr
  refine zx_lv (lv' := [(0, .ref (g 223))]) [0] rfl ?_
  refine zx_iconst (v := (0 : Int32)) C dX10_allWaits_0 (by decide) ?_
  refine zx_istore_n (lv' := [(1, .int (0 : Int32)), (0, .ref (g 223))]) C dX10_allWaits_1 (by decide) rfl ?_
  refine zx_iconst (v := (0 : Int32)) C dX10_allWaits_2 (by decide) ?_
  refine zx_istore_n (lv' := [(2, .int (0 : Int32)), (1, .int (0 : Int32)), (0, .ref (g 223))]) C dX10_allWaits_3 (by decide) rfl ?_
  obtain ⟨n, h⟩ := h
  refine zx_lv (lv' := [(0, .ref (g 223)), (1, .int (0 : Int32)), (2, .int (0 : Int32))]) [2, 1, 0] rfl ?_
  exact k_X10_allWaits_4 C hr    n (0 : Int32) (0 : Int32) σ h
theorem lk_X10_419 : zLV RX10 419 RX10 yX10_allWaits cX10_allWaits 3 (some .int) 0 := zLV_of ml_X10_419 im_X10_allWaits se_X10_allWaits ini_X10 cd_X10_allWaits (by decide +kernel)
def w_X10_risk_73 (x_2 : Int32) (x_3 : Int32) (P : Int32 → zSto → Prop)  : Nat → Int32 → Int32 → zSto → Prop
  | 0, _, _, _ => False
  | n + 1, x_4, x_5, σ => (((σ.1 223 25) ≤ x_5 → P x_4 σ) ∧ (¬ (σ.1 223 25) ≤ x_5 → (vp_in x_5 16 ∧ (∀ σ12 : zSto, σ12 = zI σ 240 (x_5).toNatClampNeg (0 : Int32) → (w_X10_meetOther  σ12 (fun (σ13 : zSto) => (vp_in x_5 16 ∧ (∀ σ15 : zSto, σ15 = zI σ13 240 (x_5).toNatClampNeg (-1 : Int32) → ((¬ x_2 = 0 → (w_X10_allWaits  σ15 (fun (r17 : Int32) (σ16 : zSto) => ((r17 ≤ x_3 → (∀ x18 : Int32, x18 = (x_4 ||| (0 : Int32)) → (∀ x19 : Int32, x19 = (x_5 + (1 : Int32)) → w_X10_risk_73 x_2 x_3 P n x18 x19 σ16))) ∧ (¬ r17 ≤ x_3 → (∀ x20 : Int32, x20 = (x_4 ||| ((1 : Int32) <<< (x_5 &&& 31))) → (∀ x21 : Int32, x21 = (x_5 + (1 : Int32)) → w_X10_risk_73 x_2 x_3 P n x20 x21 σ16))))))) ∧ (x_2 = 0 → (((σ15.1 223 43) = (-1 : Int32) → (∀ x22 : Int32, x22 = (x_4 ||| (0 : Int32)) → (∀ x23 : Int32, x23 = (x_5 + (1 : Int32)) → w_X10_risk_73 x_2 x_3 P n x22 x23 σ15))) ∧ (¬ (σ15.1 223 43) = (-1 : Int32) → (∀ x24 : Int32, x24 = (x_4 ||| ((1 : Int32) <<< (x_5 &&& 31))) → (∀ x25 : Int32, x25 = (x_5 + (1 : Int32)) → w_X10_risk_73 x_2 x_3 P n x24 x25 σ15))))))))))))))
def w_X10_risk_37 (x_2 : Int32) (P : Int32 → zSto → Prop)  : Nat → Int32 → zSto → Prop
  | 0, _, _ => False
  | n + 1, x_3, σ => (((σ.1 223 24) ≤ x_3 → (w_X10_meetOther  σ (fun (σ8 : zSto) => (w_X10_allWaits  σ8 (fun (r10 : Int32) (σ9 : zSto) => (∃ n2 : Nat, w_X10_risk_73 x_2 r10 P  n2 (0 : Int32) (0 : Int32) σ9)))))) ∧ (¬ (σ.1 223 24) ≤ x_3 → (vp_in x_3 16 ∧ (∀ σ27 : zSto, σ27 = zI σ 240 (x_3).toNatClampNeg (-1 : Int32) → (∀ x28 : Int32, x28 = (x_3 + (1 : Int32)) → w_X10_risk_37 x_2 P n x28 σ27)))))
def w_X10_risk (a1 : Int32) (a2 : Int32) (σ : zSto) (P : Int32 → zSto → Prop) : Prop := (∀ σ1 : zSto, σ1 = zI σ 223 0 (0 : Int32) → (w_X10_in a2 (0 : Int32) (1 : Int32) σ1 (fun (r3 : Int32) (σ2 : zSto) => (r3 = 0 ∨ r3 = 1) → ((r3 = 0 → P (-1 : Int32) σ2) ∧ (¬ r3 = 0 → (w_X10_hand a1 (0 : Int32) σ2 (fun (r5 : Int32) (σ4 : zSto) => (r5 = 0 ∨ r5 = 1) → ((r5 = 0 → P (-1 : Int32) σ4) ∧ (¬ r5 = 0 → (w_X10_of (6 : Int32) σ4 (fun (r7 : Int32) (σ6 : zSto) => ((¬ r7 = (-1 : Int32) → (∃ n : Nat, w_X10_risk_37 a2 P  n (0 : Int32) σ6)) ∧ (r7 = (-1 : Int32) → P (-1 : Int32) σ6)))))))))))))
set_option maxRecDepth 100000 in
set_option maxHeartbeats 4000000 in
theorem k_X10_risk_73 {p : Program} {l : Launch} {e : Env} {s : State} {m : MethodId} {args : Array Value} {below : List Frame} {meth : Method} {c : Code} {D : va_G} {cy : Nat → ClassId} {g : Nat → Nat} (C : zC p s m args meth c cX10_risk RX10 7 D cy g) (hr : meth.sig.returnType = (some .int)) {P : Int32 → zSto → Prop} (x_2 : Int32) (x_3 : Int32)    : ∀ (n : Nat) (x_4 : Int32) (x_5 : Int32) (σ : zSto), w_X10_risk_73 x_2 x_3 P n x_4 x_5 σ → zX p l e (zrm 5 114) s m args below meth c 0 0 (zQi P below args s D cy g) 7 D cy g 73 [(0, .ref (g 223)), (2, .int x_2), (3, .int x_3), (4, .int x_4), (5, .int x_5)] [] σ := by
  intro n
  induction n with
  | zero => intro x_4 x_5 σ h; exact h.elim
  | succ n ih =>
    intro x_4 x_5 σ h
    unfold w_X10_risk_73 at h
    refine zx_iload C dX10_risk_73 4 rfl ?_
    refine zx_aload_n C dX10_risk_75 0 rfl ?_
    refine zx_getI C zs_223 fg_X10_248 rfl dX10_risk_76 ?_
    refine zx_icmp_ge C 161 dX10_risk_79 (by decide) (fun q => ?_) (fun q => ?_)
    · replace h := h.1 q
      refine zx_iload C dX10_risk_161 3 rfl ?_
      exact zx_iret C hr dX10_risk_163 h
    · replace h := h.2 q
      refine zx_aload_n C dX10_risk_82 0 rfl ?_
      refine zx_getR C zs_223 fg_X10_59 rfl 240 rfl dX10_risk_83 ?_
      refine zx_iload C dX10_risk_86 4 rfl ?_
      refine zx_iconst (v := (0 : Int32)) C dX10_risk_88 (by decide) ?_
      obtain ⟨bd11, h⟩ := h
      refine zx_iast C (x_5).toNatClampNeg zs_240 bd11 rfl dX10_risk_89 ?_
      refine zx_sig (fun σ12 eσ12 => ?_)
      replace h := h σ12 eσ12
      refine zx_aload_n C dX10_risk_90 0 rfl ?_
      refine zx_cVv C [] lk_X10_377 (c_X10_meetOther l D cy g   σ12 h) zs_223 rfl ⟨by decide, by decide⟩ ⟨rfl, rfl⟩ ⟨Nat.zero_le _, Nat.zero_le _⟩ rfl rfl (Nat.le_of_ble_eq_true rfl) dX10_risk_91 (fun σ13 h => ?_)
      refine zx_aload_n C dX10_risk_94 0 rfl ?_
      refine zx_getR C zs_223 fg_X10_59 rfl 240 rfl dX10_risk_95 ?_
      refine zx_iload C dX10_risk_98 4 rfl ?_
      refine zx_iconst (v := (-1 : Int32)) C dX10_risk_100 (by decide) ?_
      obtain ⟨bd14, h⟩ := h
      refine zx_iast C (x_5).toNatClampNeg zs_240 bd14 rfl dX10_risk_101 ?_
      refine zx_sig (fun σ15 eσ15 => ?_)
      replace h := h σ15 eσ15
      refine zx_iload_n C dX10_risk_102 1 rfl ?_
      refine zx_if_ne C 122 dX10_risk_103 (by decide) (fun q => ?_) (fun q => ?_)
      · replace h := h.1 q
        refine zx_aload_n C dX10_risk_122 0 rfl ?_
        refine zx_cVi C [] lk_X10_419 (c_X10_allWaits l D cy g   σ15 h) zs_223 rfl ⟨by decide, by decide⟩ ⟨rfl, rfl⟩ ⟨Nat.zero_le _, Nat.zero_le _⟩ rfl rfl (Nat.le_of_ble_eq_true rfl) dX10_risk_123 (fun r17 σ16 h => ?_)
        refine zx_iload_n C dX10_risk_126 2 rfl ?_
        refine zx_icmp_le C 134 dX10_risk_127 (by decide) (fun q => ?_) (fun q => ?_)
        · replace h := h.1 q
          refine zx_iconst (v := (0 : Int32)) C dX10_risk_134 (by decide) ?_
          refine zx_istore (lv' := [(6, .int (0 : Int32)), (0, .ref (g 223)), (2, .int x_2), (3, .int x_3), (4, .int x_4), (5, .int x_5)]) C dX10_risk_135 (by decide) rfl ?_
          refine zx_iload C dX10_risk_137 4 rfl ?_
          refine zx_iload C dX10_risk_139 0 rfl ?_
          refine zx_if_eq C 151 dX10_risk_141 (by decide) (fun q => ?_) (fun q => ?_)
          · refine zx_iconst (v := (0 : Int32)) C dX10_risk_151 (by decide) ?_
            refine zx_ior C dX10_risk_152 ?_
            refine zx_topi (fun x18 ex18 => ?_)
            replace h := h x18 ex18
            refine zx_istore (lv' := [(4, .int x18), (6, .int (0 : Int32)), (0, .ref (g 223)), (2, .int x_2), (3, .int x_3), (5, .int x_5)]) C dX10_risk_153 (by decide) rfl ?_
            obtain ⟨x19, ex19⟩ : ∃ y : Int32, y = (x_5 + (1 : Int32)) := ⟨_, rfl⟩
            replace h := h x19 ex19
            refine zx_iinc (v := x19) (lv' := [(5, .int x19), (4, .int x18), (6, .int (0 : Int32)), (0, .ref (g 223)), (2, .int x_2), (3, .int x_3)]) C dX10_risk_155 5 rfl (by rw [ex19]; rfl) (by decide) rfl ?_
            refine zx_goto C 73 dX10_risk_158 (by decide) ?_
            refine zx_lv (lv' := [(0, .ref (g 223)), (2, .int x_2), (3, .int x_3), (4, .int x18), (5, .int x19)]) [3, 4, 5, 1, 0] rfl ?_
            exact ih x18 x19 σ16 h
          · exact absurd q (by decide)
        · replace h := h.2 q
          refine zx_iconst (v := (1 : Int32)) C dX10_risk_130 (by decide) ?_
          refine zx_goto C 135 dX10_risk_131 (by decide) ?_
          refine zx_istore (lv' := [(6, .int (1 : Int32)), (0, .ref (g 223)), (2, .int x_2), (3, .int x_3), (4, .int x_4), (5, .int x_5)]) C dX10_risk_135 (by decide) rfl ?_
          refine zx_iload C dX10_risk_137 4 rfl ?_
          refine zx_iload C dX10_risk_139 0 rfl ?_
          refine zx_if_eq C 151 dX10_risk_141 (by decide) (fun q => ?_) (fun q => ?_)
          · exact absurd q (by decide)
          · refine zx_iconst (v := (1 : Int32)) C dX10_risk_144 (by decide) ?_
            refine zx_iload C dX10_risk_145 5 rfl ?_
            refine zx_ishl C dX10_risk_147 ?_
            refine zx_goto C 152 dX10_risk_148 (by decide) ?_
            refine zx_ior C dX10_risk_152 ?_
            refine zx_topi (fun x20 ex20 => ?_)
            replace h := h x20 ex20
            refine zx_istore (lv' := [(4, .int x20), (6, .int (1 : Int32)), (0, .ref (g 223)), (2, .int x_2), (3, .int x_3), (5, .int x_5)]) C dX10_risk_153 (by decide) rfl ?_
            obtain ⟨x21, ex21⟩ : ∃ y : Int32, y = (x_5 + (1 : Int32)) := ⟨_, rfl⟩
            replace h := h x21 ex21
            refine zx_iinc (v := x21) (lv' := [(5, .int x21), (4, .int x20), (6, .int (1 : Int32)), (0, .ref (g 223)), (2, .int x_2), (3, .int x_3)]) C dX10_risk_155 5 rfl (by rw [ex21]; rfl) (by decide) rfl ?_
            refine zx_goto C 73 dX10_risk_158 (by decide) ?_
            refine zx_lv (lv' := [(0, .ref (g 223)), (2, .int x_2), (3, .int x_3), (4, .int x20), (5, .int x21)]) [3, 4, 5, 1, 0] rfl ?_
            exact ih x20 x21 σ16 h
      · replace h := h.2 q
        refine zx_aload_n C dX10_risk_106 0 rfl ?_
        refine zx_getI C zs_223 fg_X10_371 rfl dX10_risk_107 ?_
        refine zx_iconst (v := (-1 : Int32)) C dX10_risk_110 (by decide) ?_
        refine zx_icmp_eq C 118 dX10_risk_111 (by decide) (fun q => ?_) (fun q => ?_)
        · replace h := h.1 q
          refine zx_iconst (v := (0 : Int32)) C dX10_risk_118 (by decide) ?_
          refine zx_goto C 135 dX10_risk_119 (by decide) ?_
          refine zx_istore (lv' := [(6, .int (0 : Int32)), (0, .ref (g 223)), (2, .int x_2), (3, .int x_3), (4, .int x_4), (5, .int x_5)]) C dX10_risk_135 (by decide) rfl ?_
          refine zx_iload C dX10_risk_137 4 rfl ?_
          refine zx_iload C dX10_risk_139 0 rfl ?_
          refine zx_if_eq C 151 dX10_risk_141 (by decide) (fun q => ?_) (fun q => ?_)
          · refine zx_iconst (v := (0 : Int32)) C dX10_risk_151 (by decide) ?_
            refine zx_ior C dX10_risk_152 ?_
            refine zx_topi (fun x22 ex22 => ?_)
            replace h := h x22 ex22
            refine zx_istore (lv' := [(4, .int x22), (6, .int (0 : Int32)), (0, .ref (g 223)), (2, .int x_2), (3, .int x_3), (5, .int x_5)]) C dX10_risk_153 (by decide) rfl ?_
            obtain ⟨x23, ex23⟩ : ∃ y : Int32, y = (x_5 + (1 : Int32)) := ⟨_, rfl⟩
            replace h := h x23 ex23
            refine zx_iinc (v := x23) (lv' := [(5, .int x23), (4, .int x22), (6, .int (0 : Int32)), (0, .ref (g 223)), (2, .int x_2), (3, .int x_3)]) C dX10_risk_155 5 rfl (by rw [ex23]; rfl) (by decide) rfl ?_
            refine zx_goto C 73 dX10_risk_158 (by decide) ?_
            refine zx_lv (lv' := [(0, .ref (g 223)), (2, .int x_2), (3, .int x_3), (4, .int x22), (5, .int x23)]) [3, 4, 5, 1, 0] rfl ?_
            exact ih x22 x23 σ15 h
          · exact absurd q (by decide)
        · replace h := h.2 q
          refine zx_iconst (v := (1 : Int32)) C dX10_risk_114 (by decide) ?_
          refine zx_goto C 135 dX10_risk_115 (by decide) ?_
          refine zx_istore (lv' := [(6, .int (1 : Int32)), (0, .ref (g 223)), (2, .int x_2), (3, .int x_3), (4, .int x_4), (5, .int x_5)]) C dX10_risk_135 (by decide) rfl ?_
          refine zx_iload C dX10_risk_137 4 rfl ?_
          refine zx_iload C dX10_risk_139 0 rfl ?_
          refine zx_if_eq C 151 dX10_risk_141 (by decide) (fun q => ?_) (fun q => ?_)
          · exact absurd q (by decide)
          · refine zx_iconst (v := (1 : Int32)) C dX10_risk_144 (by decide) ?_
            refine zx_iload C dX10_risk_145 5 rfl ?_
            refine zx_ishl C dX10_risk_147 ?_
            refine zx_goto C 152 dX10_risk_148 (by decide) ?_
            refine zx_ior C dX10_risk_152 ?_
            refine zx_topi (fun x24 ex24 => ?_)
            replace h := h x24 ex24
            refine zx_istore (lv' := [(4, .int x24), (6, .int (1 : Int32)), (0, .ref (g 223)), (2, .int x_2), (3, .int x_3), (5, .int x_5)]) C dX10_risk_153 (by decide) rfl ?_
            obtain ⟨x25, ex25⟩ : ∃ y : Int32, y = (x_5 + (1 : Int32)) := ⟨_, rfl⟩
            replace h := h x25 ex25
            refine zx_iinc (v := x25) (lv' := [(5, .int x25), (4, .int x24), (6, .int (1 : Int32)), (0, .ref (g 223)), (2, .int x_2), (3, .int x_3)]) C dX10_risk_155 5 rfl (by rw [ex25]; rfl) (by decide) rfl ?_
            refine zx_goto C 73 dX10_risk_158 (by decide) ?_
            refine zx_lv (lv' := [(0, .ref (g 223)), (2, .int x_2), (3, .int x_3), (4, .int x24), (5, .int x25)]) [3, 4, 5, 1, 0] rfl ?_
            exact ih x24 x25 σ15 h
set_option maxRecDepth 100000 in
set_option maxHeartbeats 4000000 in
theorem k_X10_risk_37 {p : Program} {l : Launch} {e : Env} {s : State} {m : MethodId} {args : Array Value} {below : List Frame} {meth : Method} {c : Code} {D : va_G} {cy : Nat → ClassId} {g : Nat → Nat} (C : zC p s m args meth c cX10_risk RX10 7 D cy g) (hr : meth.sig.returnType = (some .int)) {P : Int32 → zSto → Prop} (x_2 : Int32)    : ∀ (n : Nat) (x_3 : Int32) (σ : zSto), w_X10_risk_37 x_2 P n x_3 σ → zX p l e (zrm 5 114) s m args below meth c 0 0 (zQi P below args s D cy g) 7 D cy g 37 [(0, .ref (g 223)), (2, .int x_2), (3, .int x_3)] [] σ := by
  intro n
  induction n with
  | zero => intro x_3 σ h; exact h.elim
  | succ n ih =>
    intro x_3 σ h
    unfold w_X10_risk_37 at h
    refine zx_iload_n C dX10_risk_37 2 rfl ?_
    refine zx_aload_n C dX10_risk_38 0 rfl ?_
    refine zx_getI C zs_223 fg_X10_245 rfl dX10_risk_39 ?_
    refine zx_icmp_ge C 58 dX10_risk_42 (by decide) (fun q => ?_) (fun q => ?_)
    · replace h := h.1 q
      refine zx_aload_n C dX10_risk_58 0 rfl ?_
      refine zx_cVv C [] lk_X10_377 (c_X10_meetOther l D cy g   σ h) zs_223 rfl ⟨by decide, by decide⟩ ⟨rfl, rfl⟩ ⟨Nat.zero_le _, Nat.zero_le _⟩ rfl rfl (Nat.le_of_ble_eq_true rfl) dX10_risk_59 (fun σ8 h => ?_)
      refine zx_aload_n C dX10_risk_62 0 rfl ?_
      refine zx_cVi C [] lk_X10_419 (c_X10_allWaits l D cy g   σ8 h) zs_223 rfl ⟨by decide, by decide⟩ ⟨rfl, rfl⟩ ⟨Nat.zero_le _, Nat.zero_le _⟩ rfl rfl (Nat.le_of_ble_eq_true rfl) dX10_risk_63 (fun r10 σ9 h => ?_)
      refine zx_istore_n (lv' := [(3, .int r10), (0, .ref (g 223)), (2, .int x_2)]) C dX10_risk_66 (by decide) rfl ?_
      refine zx_iconst (v := (0 : Int32)) C dX10_risk_67 (by decide) ?_
      refine zx_istore (lv' := [(4, .int (0 : Int32)), (3, .int r10), (0, .ref (g 223)), (2, .int x_2)]) C dX10_risk_68 (by decide) rfl ?_
      refine zx_iconst (v := (0 : Int32)) C dX10_risk_70 (by decide) ?_
      refine zx_istore (lv' := [(5, .int (0 : Int32)), (4, .int (0 : Int32)), (3, .int r10), (0, .ref (g 223)), (2, .int x_2)]) C dX10_risk_71 (by decide) rfl ?_
      obtain ⟨n2, h⟩ := h
      refine zx_lv (lv' := [(0, .ref (g 223)), (2, .int x_2), (3, .int r10), (4, .int (0 : Int32)), (5, .int (0 : Int32))]) [3, 4, 2, 1, 0] rfl ?_
      exact k_X10_risk_73 C hr (x_2) (r10)   n2 (0 : Int32) (0 : Int32) σ9 h
    · replace h := h.2 q
      refine zx_aload_n C dX10_risk_45 0 rfl ?_
      refine zx_getR C zs_223 fg_X10_59 rfl 240 rfl dX10_risk_46 ?_
      refine zx_iload_n C dX10_risk_49 2 rfl ?_
      refine zx_iconst (v := (-1 : Int32)) C dX10_risk_50 (by decide) ?_
      obtain ⟨bd26, h⟩ := h
      refine zx_iast C (x_3).toNatClampNeg zs_240 bd26 rfl dX10_risk_51 ?_
      refine zx_sig (fun σ27 eσ27 => ?_)
      replace h := h σ27 eσ27
      obtain ⟨x28, ex28⟩ : ∃ y : Int32, y = (x_3 + (1 : Int32)) := ⟨_, rfl⟩
      replace h := h x28 ex28
      refine zx_iinc (v := x28) (lv' := [(3, .int x28), (0, .ref (g 223)), (2, .int x_2)]) C dX10_risk_52 2 rfl (by rw [ex28]; rfl) (by decide) rfl ?_
      refine zx_goto C 37 dX10_risk_55 (by decide) ?_
      refine zx_lv (lv' := [(0, .ref (g 223)), (2, .int x_2), (3, .int x28)]) [1, 2, 0] rfl ?_
      exact ih x28 σ27 h
set_option maxRecDepth 100000 in
set_option maxHeartbeats 4000000 in
theorem c_X10_risk (l : Launch) (D : va_G) (cy : Nat → ClassId) (g : Nat → Nat) (a1 : Int32) (a2 : Int32)  (σ : zSto) {P : Int32 → zSto → Prop} (h : w_X10_risk a1 a2 σ P) : zMi l yX10_risk cX10_risk 7 (some .int) (zrm 5 114) D cy g [.ref (g 223), .int a1, .int a2] σ P := by
  unfold w_X10_risk at h
  refine zm_i RX10 rfl (by decide +kernel) (Nat.le_of_ble_eq_true rfl) ?_
  intro p e s m below meth c C hr
  refine zx_lv (lv' := [(0, .ref (g 223)), (1, .int a1), (2, .int a2)]) [0, 1, 2] rfl ?_
  refine zx_aload_n C dX10_risk_0 0 rfl ?_
  refine zx_iconst (v := (0 : Int32)) C dX10_risk_1 (by decide) ?_
  refine zx_putI C zs_223 fp_X10_91 rfl dX10_risk_2 ?_
  refine zx_sig (fun σ1 eσ1 => ?_)
  replace h := h σ1 eσ1
  refine zx_iload_n C dX10_risk_5 2 rfl ?_
  refine zx_iconst (v := (0 : Int32)) C dX10_risk_6 (by decide) ?_
  refine zx_iconst (v := (1 : Int32)) C dX10_risk_7 (by decide) ?_
  refine zx_cSb C [.int a2, .int (0 : Int32), .int (1 : Int32)] lk_X10_103 (c_X10_in l D cy g a2 (0 : Int32) (1 : Int32)  σ1 h) ⟨by decide, by decide⟩ ⟨rfl, rfl⟩ ⟨Nat.zero_le _, Nat.zero_le _⟩ rfl rfl (Nat.le_of_ble_eq_true rfl) dX10_risk_8 (fun r3 σ2 hb h => ?_)
  replace h := h hb
  refine zx_if_eq C 33 dX10_risk_11 (by decide) (fun q => ?_) (fun q => ?_)
  · replace h := h.1 q
    refine zx_iconst (v := (-1 : Int32)) C dX10_risk_33 (by decide) ?_
    exact zx_iret C hr dX10_risk_34 h
  · replace h := h.2 q
    refine zx_aload_n C dX10_risk_14 0 rfl ?_
    refine zx_iload_n C dX10_risk_15 1 rfl ?_
    refine zx_iconst (v := (0 : Int32)) C dX10_risk_16 (by decide) ?_
    refine zx_cVb C [.int a1, .int (0 : Int32)] lk_X10_257 (c_X10_hand l D cy g a1 (0 : Int32)  σ2 h) zs_223 rfl ⟨by decide, by decide⟩ ⟨rfl, rfl⟩ ⟨Nat.zero_le _, Nat.zero_le _⟩ rfl rfl (Nat.le_of_ble_eq_true rfl) dX10_risk_17 (fun r5 σ4 hb h => ?_)
    replace h := h hb
    refine zx_if_eq C 33 dX10_risk_20 (by decide) (fun q => ?_) (fun q => ?_)
    · replace h := h.1 q
      refine zx_iconst (v := (-1 : Int32)) C dX10_risk_33 (by decide) ?_
      exact zx_iret C hr dX10_risk_34 h
    · replace h := h.2 q
      refine zx_aload_n C dX10_risk_23 0 rfl ?_
      refine zx_bipush (v := (6 : Int32)) C dX10_risk_24 (by decide) ?_
      refine zx_cVi C [.int (6 : Int32)] lk_X10_238 (c_X10_of l D cy g (6 : Int32)  σ4 h) zs_223 rfl ⟨by decide, by decide⟩ ⟨rfl, rfl⟩ ⟨Nat.zero_le _, Nat.zero_le _⟩ rfl rfl (Nat.le_of_ble_eq_true rfl) dX10_risk_26 (fun r7 σ6 h => ?_)
      refine zx_iconst (v := (-1 : Int32)) C dX10_risk_29 (by decide) ?_
      refine zx_icmp_ne C 35 dX10_risk_30 (by decide) (fun q => ?_) (fun q => ?_)
      · replace h := h.1 q
        refine zx_iconst (v := (0 : Int32)) C dX10_risk_35 (by decide) ?_
        refine zx_istore_n (lv' := [(3, .int (0 : Int32)), (0, .ref (g 223)), (1, .int a1), (2, .int a2)]) C dX10_risk_36 (by decide) rfl ?_
        obtain ⟨n, h⟩ := h
        refine zx_lv (lv' := [(0, .ref (g 223)), (2, .int a2), (3, .int (0 : Int32))]) [1, 3, 0] rfl ?_
        exact k_X10_risk_37 C hr (a2)   n (0 : Int32) σ6 h
      · replace h := h.2 q
        refine zx_iconst (v := (-1 : Int32)) C dX10_risk_33 (by decide) ?_
        exact zx_iret C hr dX10_risk_34 h
def w_X10_lawFor_10 (x_1 : Int32) (x_2 : Int32) (P : Int32 → zSto → Prop)  : Nat → Int32 → Int32 → Int32 → zSto → Prop
  | 0, _, _, _, _ => False
  | n + 1, x_3, x_4, x_5, σ => (((4 : Int32) ≤ x_5 → P x_3 σ) ∧ (¬ (4 : Int32) ≤ x_5 → (w_X10_everyone  σ (fun (r2 : Int32) (σ1 : zSto) => (w_X10_go x_5 x_2 r2 σ1 (fun (σ3 : zSto) => (w_X10_gainNow x_1 σ3 (fun (r5 : Int32) (σ4 : zSto) => ((r5 ≤ x_4 → (w_X10_greater x_4 r5 σ4 (fun (r7 : Int32) (σ6 : zSto) => (∀ x8 : Int32, x8 = (x_5 + (1 : Int32)) → w_X10_lawFor_10 x_1 x_2 P n x_3 r7 x8 σ6)))) ∧ (¬ r5 ≤ x_4 → (w_X10_greater x_4 r5 σ4 (fun (r10 : Int32) (σ9 : zSto) => (∀ x11 : Int32, x11 = (x_5 + (1 : Int32)) → w_X10_lawFor_10 x_1 x_2 P n x_5 r10 x11 σ9)))))))))))))
def w_X10_lawFor (a1 : Int32) (a2 : Int32) (σ : zSto) (P : Int32 → zSto → Prop) : Prop := (∃ n : Nat, w_X10_lawFor_10 a1 a2 P  n (0 : Int32) (-1000000 : Int32) (0 : Int32) σ)
set_option maxRecDepth 100000 in
set_option maxHeartbeats 4000000 in
theorem k_X10_lawFor_10 {p : Program} {l : Launch} {e : Env} {s : State} {m : MethodId} {args : Array Value} {below : List Frame} {meth : Method} {c : Code} {D : va_G} {cy : Nat → ClassId} {g : Nat → Nat} (C : zC p s m args meth c cX10_lawFor RX10 7 D cy g) (hr : meth.sig.returnType = (some .int)) {P : Int32 → zSto → Prop} (x_1 : Int32) (x_2 : Int32)    : ∀ (n : Nat) (x_3 : Int32) (x_4 : Int32) (x_5 : Int32) (σ : zSto), w_X10_lawFor_10 x_1 x_2 P n x_3 x_4 x_5 σ → zX p l e (zrm 6 139) s m args below meth c 0 0 (zQi P below args s D cy g) 7 D cy g 10 [(0, .ref (g 223)), (1, .int x_1), (2, .int x_2), (3, .int x_3), (4, .int x_4), (5, .int x_5)] [] σ := by
  intro n
  induction n with
  | zero => intro x_3 x_4 x_5 σ h; exact h.elim
  | succ n ih =>
    intro x_3 x_4 x_5 σ h
    unfold w_X10_lawFor_10 at h
    refine zx_iload C dX10_lawFor_10 5 rfl ?_
    refine zx_iconst (v := (4 : Int32)) C dX10_lawFor_12 (by decide) ?_
    refine zx_icmp_ge C 63 dX10_lawFor_13 (by decide) (fun q => ?_) (fun q => ?_)
    · replace h := h.1 q
      refine zx_iload_n C dX10_lawFor_63 3 rfl ?_
      exact zx_iret C hr dX10_lawFor_64 h
    · replace h := h.2 q
      refine zx_aload_n C dX10_lawFor_16 0 rfl ?_
      refine zx_iload C dX10_lawFor_17 5 rfl ?_
      refine zx_iload_n C dX10_lawFor_19 2 rfl ?_
      refine zx_aload_n C dX10_lawFor_20 0 rfl ?_
      refine zx_cVi C [] lk_X10_307 (c_X10_everyone l D cy g   σ h) zs_223 rfl ⟨by decide, by decide⟩ ⟨rfl, rfl⟩ ⟨Nat.zero_le _, Nat.zero_le _⟩ rfl rfl (Nat.le_of_ble_eq_true rfl) dX10_lawFor_21 (fun r2 σ1 h => ?_)
      refine zx_cVv C [.int x_5, .int x_2, .int r2] lk_X10_310 (c_X10_go l D cy g x_5 x_2 r2  σ1 h) zs_223 rfl ⟨by decide, by decide⟩ ⟨rfl, rfl⟩ ⟨Nat.zero_le _, Nat.zero_le _⟩ rfl rfl (Nat.le_of_ble_eq_true rfl) dX10_lawFor_24 (fun σ3 h => ?_)
      refine zx_aload_n C dX10_lawFor_27 0 rfl ?_
      refine zx_iload_n C dX10_lawFor_28 1 rfl ?_
      refine zx_cVi C [.int x_1] lk_X10_335 (c_X10_gainNow l D cy g x_1  σ3 h) zs_223 rfl ⟨by decide, by decide⟩ ⟨rfl, rfl⟩ ⟨Nat.zero_le _, Nat.zero_le _⟩ rfl rfl (Nat.le_of_ble_eq_true rfl) dX10_lawFor_29 (fun r5 σ4 h => ?_)
      refine zx_istore (lv' := [(6, .int r5), (0, .ref (g 223)), (1, .int x_1), (2, .int x_2), (3, .int x_3), (4, .int x_4), (5, .int x_5)]) C dX10_lawFor_32 (by decide) rfl ?_
      refine zx_iload C dX10_lawFor_34 0 rfl ?_
      refine zx_iload C dX10_lawFor_36 5 rfl ?_
      refine zx_icmp_le C 46 dX10_lawFor_38 (by decide) (fun q => ?_) (fun q => ?_)
      · replace h := h.1 q
        refine zx_iload_n C dX10_lawFor_46 4 rfl ?_
        refine zx_istore_n (lv' := [(3, .int x_3), (6, .int r5), (0, .ref (g 223)), (1, .int x_1), (2, .int x_2), (4, .int x_4), (5, .int x_5)]) C dX10_lawFor_47 (by decide) rfl ?_
        refine zx_iload C dX10_lawFor_48 5 rfl ?_
        refine zx_iload C dX10_lawFor_50 1 rfl ?_
        refine zx_cSi C [.int x_4, .int r5] lk_X10_160 (c_X10_greater l D cy g x_4 r5  σ4 h) ⟨by decide, by decide⟩ ⟨rfl, rfl⟩ ⟨Nat.zero_le _, Nat.zero_le _⟩ rfl rfl (Nat.le_of_ble_eq_true rfl) dX10_lawFor_52 (fun r7 σ6 h => ?_)
        refine zx_istore (lv' := [(4, .int r7), (3, .int x_3), (6, .int r5), (0, .ref (g 223)), (1, .int x_1), (2, .int x_2), (5, .int x_5)]) C dX10_lawFor_55 (by decide) rfl ?_
        obtain ⟨x8, ex8⟩ : ∃ y : Int32, y = (x_5 + (1 : Int32)) := ⟨_, rfl⟩
        replace h := h x8 ex8
        refine zx_iinc (v := x8) (lv' := [(5, .int x8), (4, .int r7), (3, .int x_3), (6, .int r5), (0, .ref (g 223)), (1, .int x_1), (2, .int x_2)]) C dX10_lawFor_57 6 rfl (by rw [ex8]; rfl) (by decide) rfl ?_
        refine zx_goto C 10 dX10_lawFor_60 (by decide) ?_
        refine zx_lv (lv' := [(0, .ref (g 223)), (1, .int x_1), (2, .int x_2), (3, .int x_3), (4, .int r7), (5, .int x8)]) [4, 5, 6, 2, 1, 0] rfl ?_
        exact ih x_3 r7 x8 σ6 h
      · replace h := h.2 q
        refine zx_iload C dX10_lawFor_41 6 rfl ?_
        refine zx_goto C 47 dX10_lawFor_43 (by decide) ?_
        refine zx_istore_n (lv' := [(3, .int x_5), (6, .int r5), (0, .ref (g 223)), (1, .int x_1), (2, .int x_2), (4, .int x_4), (5, .int x_5)]) C dX10_lawFor_47 (by decide) rfl ?_
        refine zx_iload C dX10_lawFor_48 5 rfl ?_
        refine zx_iload C dX10_lawFor_50 1 rfl ?_
        refine zx_cSi C [.int x_4, .int r5] lk_X10_160 (c_X10_greater l D cy g x_4 r5  σ4 h) ⟨by decide, by decide⟩ ⟨rfl, rfl⟩ ⟨Nat.zero_le _, Nat.zero_le _⟩ rfl rfl (Nat.le_of_ble_eq_true rfl) dX10_lawFor_52 (fun r10 σ9 h => ?_)
        refine zx_istore (lv' := [(4, .int r10), (3, .int x_5), (6, .int r5), (0, .ref (g 223)), (1, .int x_1), (2, .int x_2), (5, .int x_5)]) C dX10_lawFor_55 (by decide) rfl ?_
        obtain ⟨x11, ex11⟩ : ∃ y : Int32, y = (x_5 + (1 : Int32)) := ⟨_, rfl⟩
        replace h := h x11 ex11
        refine zx_iinc (v := x11) (lv' := [(5, .int x11), (4, .int r10), (3, .int x_5), (6, .int r5), (0, .ref (g 223)), (1, .int x_1), (2, .int x_2)]) C dX10_lawFor_57 6 rfl (by rw [ex11]; rfl) (by decide) rfl ?_
        refine zx_goto C 10 dX10_lawFor_60 (by decide) ?_
        refine zx_lv (lv' := [(0, .ref (g 223)), (1, .int x_1), (2, .int x_2), (3, .int x_5), (4, .int r10), (5, .int x11)]) [4, 5, 6, 2, 1, 0] rfl ?_
        exact ih x_5 r10 x11 σ9 h
set_option maxRecDepth 100000 in
set_option maxHeartbeats 4000000 in
theorem c_X10_lawFor (l : Launch) (D : va_G) (cy : Nat → ClassId) (g : Nat → Nat) (a1 : Int32) (a2 : Int32)  (σ : zSto) {P : Int32 → zSto → Prop} (h : w_X10_lawFor a1 a2 σ P) : zMi l yX10_lawFor cX10_lawFor 7 (some .int) (zrm 6 139) D cy g [.ref (g 223), .int a1, .int a2] σ P := by
  unfold w_X10_lawFor at h
  refine zm_i RX10 rfl (by decide +kernel) (Nat.le_of_ble_eq_true rfl) ?_
  intro p e s m below meth c C hr
  refine zx_lv (lv' := [(0, .ref (g 223)), (1, .int a1), (2, .int a2)]) [0, 1, 2] rfl ?_
  refine zx_iconst (v := (0 : Int32)) C dX10_lawFor_0 (by decide) ?_
  refine zx_istore_n (lv' := [(3, .int (0 : Int32)), (0, .ref (g 223)), (1, .int a1), (2, .int a2)]) C dX10_lawFor_1 (by decide) rfl ?_
  refine zx_ldcw C dX10_lawFor_2 co_X10_344 ?_
  refine zx_istore (lv' := [(4, .int (-1000000 : Int32)), (3, .int (0 : Int32)), (0, .ref (g 223)), (1, .int a1), (2, .int a2)]) C dX10_lawFor_5 (by decide) rfl ?_
  refine zx_iconst (v := (0 : Int32)) C dX10_lawFor_7 (by decide) ?_
  refine zx_istore (lv' := [(5, .int (0 : Int32)), (4, .int (-1000000 : Int32)), (3, .int (0 : Int32)), (0, .ref (g 223)), (1, .int a1), (2, .int a2)]) C dX10_lawFor_8 (by decide) rfl ?_
  obtain ⟨n, h⟩ := h
  refine zx_lv (lv' := [(0, .ref (g 223)), (1, .int a1), (2, .int a2), (3, .int (0 : Int32)), (4, .int (-1000000 : Int32)), (5, .int (0 : Int32))]) [3, 4, 5, 2, 1, 0] rfl ?_
  exact k_X10_lawFor_10 C hr (a1) (a2)   n (0 : Int32) (-1000000 : Int32) (0 : Int32) σ h
theorem fg_X10_85 : zFG RX10 85 10 48 := ⟨RX10, TX10, 50, rfl, lay_X10, by decide, fl_X10_85⟩
theorem lk_X10_422 : zLV RX10 422 RX10 yX10_lawFor cX10_lawFor 7 (some .int) 2 := zLV_of ml_X10_422 im_X10_lawFor se_X10_lawFor ini_X10 cd_X10_lawFor (by decide +kernel)
def w_X10_vote_86 (x_4 : Int32) (P : Int32 → zSto → Prop)  : Nat → Int32 → Int32 → zSto → Prop
  | 0, _, _, _ => False
  | n + 1, x_5, x_6, σ => (((4 : Int32) ≤ x_6 → ((x_4 = 0 → P x_5 σ) ∧ (¬ x_4 = 0 → (vp_in x_5 4 ∧ P (σ.1 248 (x_5).toNatClampNeg) σ)))) ∧ (¬ (4 : Int32) ≤ x_6 → (vp_in x_6 4 ∧ (vp_in x_5 4 ∧ (((σ.1 248 (x_6).toNatClampNeg) ≤ (σ.1 248 (x_5).toNatClampNeg) → (∀ x7 : Int32, x7 = (x_6 + (1 : Int32)) → w_X10_vote_86 x_4 P n x_5 x7 σ)) ∧ (¬ (σ.1 248 (x_6).toNatClampNeg) ≤ (σ.1 248 (x_5).toNatClampNeg) → (∀ x8 : Int32, x8 = (x_6 + (1 : Int32)) → w_X10_vote_86 x_4 P n x_6 x8 σ)))))))
def w_X10_vote_49 (x_2 : Int32) (x_4 : Int32) (P : Int32 → zSto → Prop)  : Nat → Int32 → zSto → Prop
  | 0, _, _ => False
  | n + 1, x_5, σ => (((σ.1 223 26) ≤ x_5 → (∃ n2 : Nat, w_X10_vote_86 x_4 P  n2 (0 : Int32) (1 : Int32) σ)) ∧ (¬ (σ.1 223 26) ≤ x_5 → (w_X10_lawFor x_5 x_2 σ (fun (r10 : Int32) (σ9 : zSto) => (vp_in r10 4 ∧ (vp_in r10 4 ∧ (∀ σ13 : zSto, σ13 = zI σ9 248 (r10).toNatClampNeg ((σ9.1 248 (r10).toNatClampNeg) + (1 : Int32)) → (∀ x14 : Int32, x14 = (x_5 + (1 : Int32)) → w_X10_vote_49 x_2 x_4 P n x14 σ13))))))))
def w_X10_vote_26 (x_2 : Int32) (x_4 : Int32) (P : Int32 → zSto → Prop)  : Nat → Int32 → zSto → Prop
  | 0, _, _ => False
  | n + 1, x_5, σ => (((4 : Int32) ≤ x_5 → (∃ n2 : Nat, w_X10_vote_49 x_2 x_4 P  n2 (0 : Int32) σ)) ∧ (¬ (4 : Int32) ≤ x_5 → (vp_in x_5 4 ∧ (∀ σ16 : zSto, σ16 = zI σ 248 (x_5).toNatClampNeg (0 : Int32) → (∀ x17 : Int32, x17 = (x_5 + (1 : Int32)) → w_X10_vote_26 x_2 x_4 P n x17 σ16)))))
def w_X10_vote (a1 : Int32) (a2 : Int32) (a3 : Int32) (a4 : Int32) (σ : zSto) (P : Int32 → zSto → Prop) : Prop := (∀ σ1 : zSto, σ1 = zI σ 223 0 (0 : Int32) → (w_X10_hand a1 a3 σ1 (fun (r3 : Int32) (σ2 : zSto) => (r3 = 0 ∨ r3 = 1) → ((r3 = 0 → P (-1 : Int32) σ2) ∧ (¬ r3 = 0 → ((¬ (σ2.1 223 26) = 0 → (∃ n : Nat, w_X10_vote_26 a2 a4 P  n (0 : Int32) σ2)) ∧ ((σ2.1 223 26) = 0 → P (-1 : Int32) σ2)))))))
set_option maxRecDepth 100000 in
set_option maxHeartbeats 4000000 in
theorem k_X10_vote_86 {p : Program} {l : Launch} {e : Env} {s : State} {m : MethodId} {args : Array Value} {below : List Frame} {meth : Method} {c : Code} {D : va_G} {cy : Nat → ClassId} {g : Nat → Nat} (C : zC p s m args meth c cX10_vote RX10 7 D cy g) (hr : meth.sig.returnType = (some .int)) {P : Int32 → zSto → Prop} (x_4 : Int32)    : ∀ (n : Nat) (x_5 : Int32) (x_6 : Int32) (σ : zSto), w_X10_vote_86 x_4 P n x_5 x_6 σ → zX p l e (zrm 7 165) s m args below meth c 0 0 (zQi P below args s D cy g) 7 D cy g 86 [(0, .ref (g 223)), (4, .int x_4), (5, .int x_5), (6, .int x_6)] [] σ := by
  intro n
  induction n with
  | zero => intro x_5 x_6 σ h; exact h.elim
  | succ n ih =>
    intro x_5 x_6 σ h
    unfold w_X10_vote_86 at h
    refine zx_iload C dX10_vote_86 3 rfl ?_
    refine zx_iconst (v := (4 : Int32)) C dX10_vote_88 (by decide) ?_
    refine zx_icmp_ge C 124 dX10_vote_89 (by decide) (fun q => ?_) (fun q => ?_)
    · replace h := h.1 q
      refine zx_iload C dX10_vote_124 1 rfl ?_
      refine zx_if_eq C 139 dX10_vote_126 (by decide) (fun q => ?_) (fun q => ?_)
      · replace h := h.1 q
        refine zx_iload C dX10_vote_139 2 rfl ?_
        exact zx_iret C hr dX10_vote_141 h
      · replace h := h.2 q
        refine zx_aload_n C dX10_vote_129 0 rfl ?_
        refine zx_getR C zs_223 fg_X10_85 rfl 248 rfl dX10_vote_130 ?_
        refine zx_iload C dX10_vote_133 2 rfl ?_
        obtain ⟨bd4, h⟩ := h
        refine zx_iald C (x_5).toNatClampNeg zs_248 bd4 rfl dX10_vote_135 ?_
        refine zx_goto C 141 dX10_vote_136 (by decide) ?_
        exact zx_iret C hr dX10_vote_141 h
    · replace h := h.2 q
      refine zx_aload_n C dX10_vote_92 0 rfl ?_
      refine zx_getR C zs_223 fg_X10_85 rfl 248 rfl dX10_vote_93 ?_
      refine zx_iload C dX10_vote_96 3 rfl ?_
      obtain ⟨bd5, h⟩ := h
      refine zx_iald C (x_6).toNatClampNeg zs_248 bd5 rfl dX10_vote_98 ?_
      refine zx_aload_n C dX10_vote_99 0 rfl ?_
      refine zx_getR C zs_223 fg_X10_85 rfl 248 rfl dX10_vote_100 ?_
      refine zx_iload C dX10_vote_103 2 rfl ?_
      obtain ⟨bd6, h⟩ := h
      refine zx_iald C (x_5).toNatClampNeg zs_248 bd6 rfl dX10_vote_105 ?_
      refine zx_icmp_le C 114 dX10_vote_106 (by decide) (fun q => ?_) (fun q => ?_)
      · replace h := h.1 q
        refine zx_iload C dX10_vote_114 2 rfl ?_
        refine zx_istore (lv' := [(5, .int x_5), (0, .ref (g 223)), (4, .int x_4), (6, .int x_6)]) C dX10_vote_116 (by decide) rfl ?_
        obtain ⟨x7, ex7⟩ : ∃ y : Int32, y = (x_6 + (1 : Int32)) := ⟨_, rfl⟩
        replace h := h x7 ex7
        refine zx_iinc (v := x7) (lv' := [(6, .int x7), (5, .int x_5), (0, .ref (g 223)), (4, .int x_4)]) C dX10_vote_118 3 rfl (by rw [ex7]; rfl) (by decide) rfl ?_
        refine zx_goto C 86 dX10_vote_121 (by decide) ?_
        refine zx_lv (lv' := [(0, .ref (g 223)), (4, .int x_4), (5, .int x_5), (6, .int x7)]) [2, 3, 1, 0] rfl ?_
        exact ih x_5 x7 σ h
      · replace h := h.2 q
        refine zx_iload C dX10_vote_109 3 rfl ?_
        refine zx_goto C 116 dX10_vote_111 (by decide) ?_
        refine zx_istore (lv' := [(5, .int x_6), (0, .ref (g 223)), (4, .int x_4), (6, .int x_6)]) C dX10_vote_116 (by decide) rfl ?_
        obtain ⟨x8, ex8⟩ : ∃ y : Int32, y = (x_6 + (1 : Int32)) := ⟨_, rfl⟩
        replace h := h x8 ex8
        refine zx_iinc (v := x8) (lv' := [(6, .int x8), (5, .int x_6), (0, .ref (g 223)), (4, .int x_4)]) C dX10_vote_118 3 rfl (by rw [ex8]; rfl) (by decide) rfl ?_
        refine zx_goto C 86 dX10_vote_121 (by decide) ?_
        refine zx_lv (lv' := [(0, .ref (g 223)), (4, .int x_4), (5, .int x_6), (6, .int x8)]) [2, 3, 1, 0] rfl ?_
        exact ih x_6 x8 σ h
set_option maxRecDepth 100000 in
set_option maxHeartbeats 4000000 in
theorem k_X10_vote_49 {p : Program} {l : Launch} {e : Env} {s : State} {m : MethodId} {args : Array Value} {below : List Frame} {meth : Method} {c : Code} {D : va_G} {cy : Nat → ClassId} {g : Nat → Nat} (C : zC p s m args meth c cX10_vote RX10 7 D cy g) (hr : meth.sig.returnType = (some .int)) {P : Int32 → zSto → Prop} (x_2 : Int32) (x_4 : Int32)    : ∀ (n : Nat) (x_5 : Int32) (σ : zSto), w_X10_vote_49 x_2 x_4 P n x_5 σ → zX p l e (zrm 7 165) s m args below meth c 0 0 (zQi P below args s D cy g) 7 D cy g 49 [(0, .ref (g 223)), (2, .int x_2), (4, .int x_4), (5, .int x_5)] [] σ := by
  intro n
  induction n with
  | zero => intro x_5 σ h; exact h.elim
  | succ n ih =>
    intro x_5 σ h
    unfold w_X10_vote_49 at h
    refine zx_iload C dX10_vote_49 3 rfl ?_
    refine zx_aload_n C dX10_vote_51 0 rfl ?_
    refine zx_getI C zs_223 fg_X10_251 rfl dX10_vote_52 ?_
    refine zx_icmp_ge C 80 dX10_vote_55 (by decide) (fun q => ?_) (fun q => ?_)
    · replace h := h.1 q
      refine zx_iconst (v := (0 : Int32)) C dX10_vote_80 (by decide) ?_
      refine zx_istore (lv' := [(5, .int (0 : Int32)), (0, .ref (g 223)), (2, .int x_2), (4, .int x_4)]) C dX10_vote_81 (by decide) rfl ?_
      refine zx_iconst (v := (1 : Int32)) C dX10_vote_83 (by decide) ?_
      refine zx_istore (lv' := [(6, .int (1 : Int32)), (5, .int (0 : Int32)), (0, .ref (g 223)), (2, .int x_2), (4, .int x_4)]) C dX10_vote_84 (by decide) rfl ?_
      obtain ⟨n2, h⟩ := h
      refine zx_lv (lv' := [(0, .ref (g 223)), (4, .int x_4), (5, .int (0 : Int32)), (6, .int (1 : Int32))]) [2, 4, 1, 0] rfl ?_
      exact k_X10_vote_86 C hr (x_4)   n2 (0 : Int32) (1 : Int32) σ h
    · replace h := h.2 q
      refine zx_aload_n C dX10_vote_58 0 rfl ?_
      refine zx_getR C zs_223 fg_X10_85 rfl 248 rfl dX10_vote_59 ?_
      refine zx_aload_n C dX10_vote_62 0 rfl ?_
      refine zx_iload C dX10_vote_63 3 rfl ?_
      refine zx_iload_n C dX10_vote_65 1 rfl ?_
      refine zx_cVi C [.int x_5, .int x_2] lk_X10_422 (c_X10_lawFor l D cy g x_5 x_2  σ h) zs_223 rfl ⟨by decide, by decide⟩ ⟨rfl, rfl⟩ ⟨Nat.zero_le _, Nat.zero_le _⟩ rfl rfl (Nat.le_of_ble_eq_true rfl) dX10_vote_66 (fun r10 σ9 h => ?_)
      refine zx_dup2 C dX10_vote_69 rfl rfl ?_
      obtain ⟨bd11, h⟩ := h
      refine zx_iald C (r10).toNatClampNeg zs_248 bd11 rfl dX10_vote_70 ?_
      refine zx_iconst (v := (1 : Int32)) C dX10_vote_71 (by decide) ?_
      refine zx_iadd C dX10_vote_72 ?_
      obtain ⟨bd12, h⟩ := h
      refine zx_iast C (r10).toNatClampNeg zs_248 bd12 rfl dX10_vote_73 ?_
      refine zx_sig (fun σ13 eσ13 => ?_)
      replace h := h σ13 eσ13
      obtain ⟨x14, ex14⟩ : ∃ y : Int32, y = (x_5 + (1 : Int32)) := ⟨_, rfl⟩
      replace h := h x14 ex14
      refine zx_iinc (v := x14) (lv' := [(5, .int x14), (0, .ref (g 223)), (2, .int x_2), (4, .int x_4)]) C dX10_vote_74 3 rfl (by rw [ex14]; rfl) (by decide) rfl ?_
      refine zx_goto C 49 dX10_vote_77 (by decide) ?_
      refine zx_lv (lv' := [(0, .ref (g 223)), (2, .int x_2), (4, .int x_4), (5, .int x14)]) [1, 2, 3, 0] rfl ?_
      exact ih x14 σ13 h
set_option maxRecDepth 100000 in
set_option maxHeartbeats 4000000 in
theorem k_X10_vote_26 {p : Program} {l : Launch} {e : Env} {s : State} {m : MethodId} {args : Array Value} {below : List Frame} {meth : Method} {c : Code} {D : va_G} {cy : Nat → ClassId} {g : Nat → Nat} (C : zC p s m args meth c cX10_vote RX10 7 D cy g) (hr : meth.sig.returnType = (some .int)) {P : Int32 → zSto → Prop} (x_2 : Int32) (x_4 : Int32)    : ∀ (n : Nat) (x_5 : Int32) (σ : zSto), w_X10_vote_26 x_2 x_4 P n x_5 σ → zX p l e (zrm 7 165) s m args below meth c 0 0 (zQi P below args s D cy g) 7 D cy g 26 [(0, .ref (g 223)), (2, .int x_2), (4, .int x_4), (5, .int x_5)] [] σ := by
  intro n
  induction n with
  | zero => intro x_5 σ h; exact h.elim
  | succ n ih =>
    intro x_5 σ h
    unfold w_X10_vote_26 at h
    refine zx_iload C dX10_vote_26 3 rfl ?_
    refine zx_iconst (v := (4 : Int32)) C dX10_vote_28 (by decide) ?_
    refine zx_icmp_ge C 46 dX10_vote_29 (by decide) (fun q => ?_) (fun q => ?_)
    · replace h := h.1 q
      refine zx_iconst (v := (0 : Int32)) C dX10_vote_46 (by decide) ?_
      refine zx_istore (lv' := [(5, .int (0 : Int32)), (0, .ref (g 223)), (2, .int x_2), (4, .int x_4)]) C dX10_vote_47 (by decide) rfl ?_
      obtain ⟨n2, h⟩ := h
      refine zx_lv (lv' := [(0, .ref (g 223)), (2, .int x_2), (4, .int x_4), (5, .int (0 : Int32))]) [1, 2, 3, 0] rfl ?_
      exact k_X10_vote_49 C hr (x_2) (x_4)   n2 (0 : Int32) σ h
    · replace h := h.2 q
      refine zx_aload_n C dX10_vote_32 0 rfl ?_
      refine zx_getR C zs_223 fg_X10_85 rfl 248 rfl dX10_vote_33 ?_
      refine zx_iload C dX10_vote_36 3 rfl ?_
      refine zx_iconst (v := (0 : Int32)) C dX10_vote_38 (by decide) ?_
      obtain ⟨bd15, h⟩ := h
      refine zx_iast C (x_5).toNatClampNeg zs_248 bd15 rfl dX10_vote_39 ?_
      refine zx_sig (fun σ16 eσ16 => ?_)
      replace h := h σ16 eσ16
      obtain ⟨x17, ex17⟩ : ∃ y : Int32, y = (x_5 + (1 : Int32)) := ⟨_, rfl⟩
      replace h := h x17 ex17
      refine zx_iinc (v := x17) (lv' := [(5, .int x17), (0, .ref (g 223)), (2, .int x_2), (4, .int x_4)]) C dX10_vote_40 3 rfl (by rw [ex17]; rfl) (by decide) rfl ?_
      refine zx_goto C 26 dX10_vote_43 (by decide) ?_
      refine zx_lv (lv' := [(0, .ref (g 223)), (2, .int x_2), (4, .int x_4), (5, .int x17)]) [1, 2, 3, 0] rfl ?_
      exact ih x17 σ16 h
set_option maxRecDepth 100000 in
set_option maxHeartbeats 4000000 in
theorem c_X10_vote (l : Launch) (D : va_G) (cy : Nat → ClassId) (g : Nat → Nat) (a1 : Int32) (a2 : Int32) (a3 : Int32) (a4 : Int32)  (σ : zSto) {P : Int32 → zSto → Prop} (h : w_X10_vote a1 a2 a3 a4 σ P) : zMi l yX10_vote cX10_vote 7 (some .int) (zrm 7 165) D cy g [.ref (g 223), .int a1, .int a2, .int a3, .int a4] σ P := by
  unfold w_X10_vote at h
  refine zm_i RX10 rfl (by decide +kernel) (Nat.le_of_ble_eq_true rfl) ?_
  intro p e s m below meth c C hr
  refine zx_lv (lv' := [(0, .ref (g 223)), (1, .int a1), (2, .int a2), (3, .int a3), (4, .int a4)]) [0, 1, 2, 3, 4] rfl ?_
  refine zx_aload_n C dX10_vote_0 0 rfl ?_
  refine zx_iconst (v := (0 : Int32)) C dX10_vote_1 (by decide) ?_
  refine zx_putI C zs_223 fp_X10_91 rfl dX10_vote_2 ?_
  refine zx_sig (fun σ1 eσ1 => ?_)
  replace h := h σ1 eσ1
  refine zx_aload_n C dX10_vote_5 0 rfl ?_
  refine zx_iload_n C dX10_vote_6 1 rfl ?_
  refine zx_iload_n C dX10_vote_7 3 rfl ?_
  refine zx_cVb C [.int a1, .int a3] lk_X10_257 (c_X10_hand l D cy g a1 a3  σ1 h) zs_223 rfl ⟨by decide, by decide⟩ ⟨rfl, rfl⟩ ⟨Nat.zero_le _, Nat.zero_le _⟩ rfl rfl (Nat.le_of_ble_eq_true rfl) dX10_vote_8 (fun r3 σ2 hb h => ?_)
  replace h := h hb
  refine zx_if_eq C 21 dX10_vote_11 (by decide) (fun q => ?_) (fun q => ?_)
  · replace h := h.1 q
    refine zx_iconst (v := (-1 : Int32)) C dX10_vote_21 (by decide) ?_
    exact zx_iret C hr dX10_vote_22 h
  · replace h := h.2 q
    refine zx_aload_n C dX10_vote_14 0 rfl ?_
    refine zx_getI C zs_223 fg_X10_251 rfl dX10_vote_15 ?_
    refine zx_if_ne C 23 dX10_vote_18 (by decide) (fun q => ?_) (fun q => ?_)
    · replace h := h.1 q
      refine zx_iconst (v := (0 : Int32)) C dX10_vote_23 (by decide) ?_
      refine zx_istore (lv' := [(5, .int (0 : Int32)), (0, .ref (g 223)), (1, .int a1), (2, .int a2), (3, .int a3), (4, .int a4)]) C dX10_vote_24 (by decide) rfl ?_
      obtain ⟨n, h⟩ := h
      refine zx_lv (lv' := [(0, .ref (g 223)), (2, .int a2), (4, .int a4), (5, .int (0 : Int32))]) [1, 3, 5, 0] rfl ?_
      exact k_X10_vote_26 C hr (a2) (a4)   n (0 : Int32) σ2 h
    · replace h := h.2 q
      refine zx_iconst (v := (-1 : Int32)) C dX10_vote_21 (by decide) ?_
      exact zx_iret C hr dX10_vote_22 h
def w_X10_left_41 (x_5 : Int32) (P : Int32 → zSto → Prop)  : Nat → Int32 → Int32 → zSto → Prop
  | 0, _, _, _ => False
  | n + 1, x_6, x_7, σ => (((σ.1 223 24) ≤ x_7 → P x_6 σ) ∧ (¬ (σ.1 223 24) ≤ x_7 → ((x_5 = (-1 : Int32) → (vp_in x_7 16 ∧ (vp_in x_7 16 ∧ (∀ x6 : Int32, x6 = (x_6 + ((σ.1 238 (x_7).toNatClampNeg) - (σ.1 242 (x_7).toNatClampNeg))) → (∀ x7 : Int32, x7 = (x_7 + (1 : Int32)) → w_X10_left_41 x_5 P n x6 x7 σ))))) ∧ (¬ x_5 = (-1 : Int32) → ((¬ x_5 = x_7 → (∀ x8 : Int32, x8 = (x_6 + (0 : Int32)) → (∀ x9 : Int32, x9 = (x_7 + (1 : Int32)) → w_X10_left_41 x_5 P n x8 x9 σ))) ∧ (x_5 = x_7 → (vp_in x_7 16 ∧ (vp_in x_7 16 ∧ (∀ x12 : Int32, x12 = (x_6 + ((σ.1 238 (x_7).toNatClampNeg) - (σ.1 242 (x_7).toNatClampNeg))) → (∀ x13 : Int32, x13 = (x_7 + (1 : Int32)) → w_X10_left_41 x_5 P n x12 x13 σ))))))))))
def w_X10_left (a1 : Int32) (a2 : Int32) (a3 : Int32) (a4 : Int32) (a5 : Int32) (σ : zSto) (P : Int32 → zSto → Prop) : Prop := (∀ σ1 : zSto, σ1 = zI σ 223 0 (0 : Int32) → (w_X10_layRun a1 a2 a3 a4 σ1 (fun (r3 : Int32) (σ2 : zSto) => (r3 = 0 ∨ r3 = 1) → ((r3 = 0 → P (-2 : Int32) σ2) ∧ (¬ r3 = 0 → ((a5 = (-1 : Int32) → (∃ n : Nat, w_X10_left_41 a5 P  n (0 : Int32) (0 : Int32) σ2)) ∧ (¬ a5 = (-1 : Int32) → (w_X10_isPost a5 σ2 (fun (r15 : Int32) (σ14 : zSto) => (r15 = 0 ∨ r15 = 1) → ((¬ r15 = 0 → (∃ n : Nat, w_X10_left_41 a5 P  n (0 : Int32) (0 : Int32) σ14)) ∧ (r15 = 0 → P (-2 : Int32) σ14)))))))))))
set_option maxRecDepth 100000 in
set_option maxHeartbeats 4000000 in
theorem k_X10_left_41 {p : Program} {l : Launch} {e : Env} {s : State} {m : MethodId} {args : Array Value} {below : List Frame} {meth : Method} {c : Code} {D : va_G} {cy : Nat → ClassId} {g : Nat → Nat} (C : zC p s m args meth c cX10_left RX10 8 D cy g) (hr : meth.sig.returnType = (some .int)) {P : Int32 → zSto → Prop} (x_5 : Int32)    : ∀ (n : Nat) (x_6 : Int32) (x_7 : Int32) (σ : zSto), w_X10_left_41 x_5 P n x_6 x_7 σ → zX p l e (zrm 7 163) s m args below meth c 0 0 (zQi P below args s D cy g) 8 D cy g 41 [(0, .ref (g 223)), (5, .int x_5), (6, .int x_6), (7, .int x_7)] [] σ := by
  intro n
  induction n with
  | zero => intro x_6 x_7 σ h; exact h.elim
  | succ n ih =>
    intro x_6 x_7 σ h
    unfold w_X10_left_41 at h
    refine zx_iload C dX10_left_41 3 rfl ?_
    refine zx_aload_n C dX10_left_43 0 rfl ?_
    refine zx_getI C zs_223 fg_X10_245 rfl dX10_left_44 ?_
    refine zx_icmp_ge C 93 dX10_left_47 (by decide) (fun q => ?_) (fun q => ?_)
    · replace h := h.1 q
      refine zx_iload C dX10_left_93 2 rfl ?_
      exact zx_iret C hr dX10_left_95 h
    · replace h := h.2 q
      refine zx_iload C dX10_left_50 2 rfl ?_
      refine zx_iload C dX10_left_52 1 rfl ?_
      refine zx_iconst (v := (-1 : Int32)) C dX10_left_54 (by decide) ?_
      refine zx_icmp_eq C 65 dX10_left_55 (by decide) (fun q => ?_) (fun q => ?_)
      · replace h := h.1 q
        refine zx_aload_n C dX10_left_65 0 rfl ?_
        refine zx_getR C zs_223 fg_X10_53 rfl 238 rfl dX10_left_66 ?_
        refine zx_iload C dX10_left_69 3 rfl ?_
        obtain ⟨bd4, h⟩ := h
        refine zx_iald C (x_7).toNatClampNeg zs_238 bd4 rfl dX10_left_71 ?_
        refine zx_aload_n C dX10_left_72 0 rfl ?_
        refine zx_getR C zs_223 fg_X10_65 rfl 242 rfl dX10_left_73 ?_
        refine zx_iload C dX10_left_76 3 rfl ?_
        obtain ⟨bd5, h⟩ := h
        refine zx_iald C (x_7).toNatClampNeg zs_242 bd5 rfl dX10_left_78 ?_
        refine zx_isub C dX10_left_79 ?_
        refine zx_goto C 84 dX10_left_80 (by decide) ?_
        refine zx_iadd C dX10_left_84 ?_
        refine zx_topi (fun x6 ex6 => ?_)
        replace h := h x6 ex6
        refine zx_istore (lv' := [(6, .int x6), (0, .ref (g 223)), (5, .int x_5), (7, .int x_7)]) C dX10_left_85 (by decide) rfl ?_
        obtain ⟨x7, ex7⟩ : ∃ y : Int32, y = (x_7 + (1 : Int32)) := ⟨_, rfl⟩
        replace h := h x7 ex7
        refine zx_iinc (v := x7) (lv' := [(7, .int x7), (6, .int x6), (0, .ref (g 223)), (5, .int x_5)]) C dX10_left_87 3 rfl (by rw [ex7]; rfl) (by decide) rfl ?_
        refine zx_goto C 41 dX10_left_90 (by decide) ?_
        refine zx_lv (lv' := [(0, .ref (g 223)), (5, .int x_5), (6, .int x6), (7, .int x7)]) [2, 3, 1, 0] rfl ?_
        exact ih x6 x7 σ h
      · replace h := h.2 q
        refine zx_iload C dX10_left_58 1 rfl ?_
        refine zx_iload C dX10_left_60 3 rfl ?_
        refine zx_icmp_ne C 83 dX10_left_62 (by decide) (fun q => ?_) (fun q => ?_)
        · replace h := h.1 q
          refine zx_iconst (v := (0 : Int32)) C dX10_left_83 (by decide) ?_
          refine zx_iadd C dX10_left_84 ?_
          refine zx_topi (fun x8 ex8 => ?_)
          replace h := h x8 ex8
          refine zx_istore (lv' := [(6, .int x8), (0, .ref (g 223)), (5, .int x_5), (7, .int x_7)]) C dX10_left_85 (by decide) rfl ?_
          obtain ⟨x9, ex9⟩ : ∃ y : Int32, y = (x_7 + (1 : Int32)) := ⟨_, rfl⟩
          replace h := h x9 ex9
          refine zx_iinc (v := x9) (lv' := [(7, .int x9), (6, .int x8), (0, .ref (g 223)), (5, .int x_5)]) C dX10_left_87 3 rfl (by rw [ex9]; rfl) (by decide) rfl ?_
          refine zx_goto C 41 dX10_left_90 (by decide) ?_
          refine zx_lv (lv' := [(0, .ref (g 223)), (5, .int x_5), (6, .int x8), (7, .int x9)]) [2, 3, 1, 0] rfl ?_
          exact ih x8 x9 σ h
        · replace h := h.2 q
          refine zx_aload_n C dX10_left_65 0 rfl ?_
          refine zx_getR C zs_223 fg_X10_53 rfl 238 rfl dX10_left_66 ?_
          refine zx_iload C dX10_left_69 3 rfl ?_
          obtain ⟨bd10, h⟩ := h
          refine zx_iald C (x_7).toNatClampNeg zs_238 bd10 rfl dX10_left_71 ?_
          refine zx_aload_n C dX10_left_72 0 rfl ?_
          refine zx_getR C zs_223 fg_X10_65 rfl 242 rfl dX10_left_73 ?_
          refine zx_iload C dX10_left_76 3 rfl ?_
          obtain ⟨bd11, h⟩ := h
          refine zx_iald C (x_7).toNatClampNeg zs_242 bd11 rfl dX10_left_78 ?_
          refine zx_isub C dX10_left_79 ?_
          refine zx_goto C 84 dX10_left_80 (by decide) ?_
          refine zx_iadd C dX10_left_84 ?_
          refine zx_topi (fun x12 ex12 => ?_)
          replace h := h x12 ex12
          refine zx_istore (lv' := [(6, .int x12), (0, .ref (g 223)), (5, .int x_5), (7, .int x_7)]) C dX10_left_85 (by decide) rfl ?_
          obtain ⟨x13, ex13⟩ : ∃ y : Int32, y = (x_7 + (1 : Int32)) := ⟨_, rfl⟩
          replace h := h x13 ex13
          refine zx_iinc (v := x13) (lv' := [(7, .int x13), (6, .int x12), (0, .ref (g 223)), (5, .int x_5)]) C dX10_left_87 3 rfl (by rw [ex13]; rfl) (by decide) rfl ?_
          refine zx_goto C 41 dX10_left_90 (by decide) ?_
          refine zx_lv (lv' := [(0, .ref (g 223)), (5, .int x_5), (6, .int x12), (7, .int x13)]) [2, 3, 1, 0] rfl ?_
          exact ih x12 x13 σ h
set_option maxRecDepth 100000 in
set_option maxHeartbeats 4000000 in
theorem c_X10_left (l : Launch) (D : va_G) (cy : Nat → ClassId) (g : Nat → Nat) (a1 : Int32) (a2 : Int32) (a3 : Int32) (a4 : Int32) (a5 : Int32)  (σ : zSto) {P : Int32 → zSto → Prop} (h : w_X10_left a1 a2 a3 a4 a5 σ P) : zMi l yX10_left cX10_left 8 (some .int) (zrm 7 163) D cy g [.ref (g 223), .int a1, .int a2, .int a3, .int a4, .int a5] σ P := by
  unfold w_X10_left at h
  refine zm_i RX10 rfl (by decide +kernel) (Nat.le_of_ble_eq_true rfl) ?_
  intro p e s m below meth c C hr
  refine zx_lv (lv' := [(0, .ref (g 223)), (1, .int a1), (2, .int a2), (3, .int a3), (4, .int a4), (5, .int a5)]) [0, 1, 2, 3, 4, 5] rfl ?_
  refine zx_aload_n C dX10_left_0 0 rfl ?_
  refine zx_iconst (v := (0 : Int32)) C dX10_left_1 (by decide) ?_
  refine zx_putI C zs_223 fp_X10_91 rfl dX10_left_2 ?_
  refine zx_sig (fun σ1 eσ1 => ?_)
  replace h := h σ1 eσ1
  refine zx_aload_n C dX10_left_5 0 rfl ?_
  refine zx_iload_n C dX10_left_6 1 rfl ?_
  refine zx_iload_n C dX10_left_7 2 rfl ?_
  refine zx_iload_n C dX10_left_8 3 rfl ?_
  refine zx_iload C dX10_left_9 4 rfl ?_
  refine zx_cVb C [.int a1, .int a2, .int a3, .int a4] lk_X10_313 (c_X10_layRun l D cy g a1 a2 a3 a4  σ1 h) zs_223 rfl ⟨by decide, by decide⟩ ⟨rfl, rfl⟩ ⟨Nat.zero_le _, Nat.zero_le _⟩ rfl rfl (Nat.le_of_ble_eq_true rfl) dX10_left_11 (fun r3 σ2 hb h => ?_)
  replace h := h hb
  refine zx_if_eq C 32 dX10_left_14 (by decide) (fun q => ?_) (fun q => ?_)
  · replace h := h.1 q
    refine zx_bipush (v := (-2 : Int32)) C dX10_left_32 (by decide) ?_
    exact zx_iret C hr dX10_left_34 h
  · replace h := h.2 q
    refine zx_iload C dX10_left_17 5 rfl ?_
    refine zx_iconst (v := (-1 : Int32)) C dX10_left_19 (by decide) ?_
    refine zx_icmp_eq C 35 dX10_left_20 (by decide) (fun q => ?_) (fun q => ?_)
    · replace h := h.1 q
      refine zx_iconst (v := (0 : Int32)) C dX10_left_35 (by decide) ?_
      refine zx_istore (lv' := [(6, .int (0 : Int32)), (0, .ref (g 223)), (1, .int a1), (2, .int a2), (3, .int a3), (4, .int a4), (5, .int a5)]) C dX10_left_36 (by decide) rfl ?_
      refine zx_iconst (v := (0 : Int32)) C dX10_left_38 (by decide) ?_
      refine zx_istore (lv' := [(7, .int (0 : Int32)), (6, .int (0 : Int32)), (0, .ref (g 223)), (1, .int a1), (2, .int a2), (3, .int a3), (4, .int a4), (5, .int a5)]) C dX10_left_39 (by decide) rfl ?_
      obtain ⟨n, h⟩ := h
      refine zx_lv (lv' := [(0, .ref (g 223)), (5, .int a5), (6, .int (0 : Int32)), (7, .int (0 : Int32))]) [2, 7, 1, 0] rfl ?_
      exact k_X10_left_41 C hr (a5)   n (0 : Int32) (0 : Int32) σ2 h
    · replace h := h.2 q
      refine zx_aload_n C dX10_left_23 0 rfl ?_
      refine zx_iload C dX10_left_24 5 rfl ?_
      refine zx_cVb C [.int a5] lk_X10_260 (c_X10_isPost l D cy g a5  σ2 h) zs_223 rfl ⟨by decide, by decide⟩ ⟨rfl, rfl⟩ ⟨Nat.zero_le _, Nat.zero_le _⟩ rfl rfl (Nat.le_of_ble_eq_true rfl) dX10_left_26 (fun r15 σ14 hb h => ?_)
      replace h := h hb
      refine zx_if_ne C 35 dX10_left_29 (by decide) (fun q => ?_) (fun q => ?_)
      · replace h := h.1 q
        refine zx_iconst (v := (0 : Int32)) C dX10_left_35 (by decide) ?_
        refine zx_istore (lv' := [(6, .int (0 : Int32)), (0, .ref (g 223)), (1, .int a1), (2, .int a2), (3, .int a3), (4, .int a4), (5, .int a5)]) C dX10_left_36 (by decide) rfl ?_
        refine zx_iconst (v := (0 : Int32)) C dX10_left_38 (by decide) ?_
        refine zx_istore (lv' := [(7, .int (0 : Int32)), (6, .int (0 : Int32)), (0, .ref (g 223)), (1, .int a1), (2, .int a2), (3, .int a3), (4, .int a4), (5, .int a5)]) C dX10_left_39 (by decide) rfl ?_
        obtain ⟨n, h⟩ := h
        refine zx_lv (lv' := [(0, .ref (g 223)), (5, .int a5), (6, .int (0 : Int32)), (7, .int (0 : Int32))]) [2, 7, 1, 0] rfl ?_
        exact k_X10_left_41 C hr (a5)   n (0 : Int32) (0 : Int32) σ14 h
      · replace h := h.2 q
        refine zx_bipush (v := (-2 : Int32)) C dX10_left_32 (by decide) ?_
        exact zx_iret C hr dX10_left_34 h
def w_X10_bid_97 (x_3 : Int32) (x_4 : Int32) (x_5 : Int32) (x_6 : Int32) (P : Int32 → zSto → Prop)  : Nat → Int32 → Int32 → Int32 → zSto → Prop
  | 0, _, _, _, _ => False
  | n + 1, x_7, x_8, x_9, σ => ((¬ x_4 = 0 → ((¬ x_4 = (1 : Int32) → (((200 : Int32) < x_9 → (vp_in x_5 984 ∧ (∀ σ12 : zSto, σ12 = zI σ 229 (x_5).toNatClampNeg x_6 → P x_7 σ12))) ∧ (¬ (200 : Int32) < x_9 → (vp_in x_5 984 ∧ (∀ σ14 : zSto, σ14 = zI σ 229 (x_5).toNatClampNeg x_9 → ((¬ x_4 = 0 → (w_X10_everyone  σ14 (fun (r16 : Int32) (σ15 : zSto) => (w_X10_go (0 : Int32) (0 : Int32) r16 σ15 (fun (σ17 : zSto) => (vp_in x_3 6 ∧ (((σ17.1 243 (x_3).toNatClampNeg) ≤ x_8 → (vp_in x_3 6 ∧ (w_X10_greater x_8 (σ17.1 243 (x_3).toNatClampNeg) σ17 (fun (r21 : Int32) (σ20 : zSto) => (∀ x22 : Int32, x22 = (x_9 + (1 : Int32)) → w_X10_bid_97 x_3 x_4 x_5 x_6 P n x_7 r21 x22 σ20))))) ∧ (¬ (σ17.1 243 (x_3).toNatClampNeg) ≤ x_8 → (vp_in x_3 6 ∧ (w_X10_greater x_8 (σ17.1 243 (x_3).toNatClampNeg) σ17 (fun (r25 : Int32) (σ24 : zSto) => (∀ x26 : Int32, x26 = (x_9 + (1 : Int32)) → w_X10_bid_97 x_3 x_4 x_5 x_6 P n x_9 r25 x26 σ24)))))))))))) ∧ (x_4 = 0 → (w_X10_everyone  σ14 (fun (r28 : Int32) (σ27 : zSto) => (w_X10_go (3 : Int32) (0 : Int32) r28 σ27 (fun (σ29 : zSto) => (vp_in x_3 6 ∧ (((σ29.1 243 (x_3).toNatClampNeg) ≤ x_8 → (vp_in x_3 6 ∧ (w_X10_greater x_8 (σ29.1 243 (x_3).toNatClampNeg) σ29 (fun (r33 : Int32) (σ32 : zSto) => (∀ x34 : Int32, x34 = (x_9 + (1 : Int32)) → w_X10_bid_97 x_3 x_4 x_5 x_6 P n x_7 r33 x34 σ32))))) ∧ (¬ (σ29.1 243 (x_3).toNatClampNeg) ≤ x_8 → (vp_in x_3 6 ∧ (w_X10_greater x_8 (σ29.1 243 (x_3).toNatClampNeg) σ29 (fun (r37 : Int32) (σ36 : zSto) => (∀ x38 : Int32, x38 = (x_9 + (1 : Int32)) → w_X10_bid_97 x_3 x_4 x_5 x_6 P n x_9 r37 x38 σ36)))))))))))))))))) ∧ (x_4 = (1 : Int32) → (((60 : Int32) < x_9 → (vp_in x_5 984 ∧ (∀ σ40 : zSto, σ40 = zI σ 229 (x_5).toNatClampNeg x_6 → P x_7 σ40))) ∧ (¬ (60 : Int32) < x_9 → (vp_in x_5 984 ∧ (∀ σ42 : zSto, σ42 = zI σ 229 (x_5).toNatClampNeg x_9 → ((¬ x_4 = 0 → (w_X10_everyone  σ42 (fun (r44 : Int32) (σ43 : zSto) => (w_X10_go (0 : Int32) (0 : Int32) r44 σ43 (fun (σ45 : zSto) => (vp_in x_3 6 ∧ (((σ45.1 243 (x_3).toNatClampNeg) ≤ x_8 → (vp_in x_3 6 ∧ (w_X10_greater x_8 (σ45.1 243 (x_3).toNatClampNeg) σ45 (fun (r49 : Int32) (σ48 : zSto) => (∀ x50 : Int32, x50 = (x_9 + (1 : Int32)) → w_X10_bid_97 x_3 x_4 x_5 x_6 P n x_7 r49 x50 σ48))))) ∧ (¬ (σ45.1 243 (x_3).toNatClampNeg) ≤ x_8 → (vp_in x_3 6 ∧ (w_X10_greater x_8 (σ45.1 243 (x_3).toNatClampNeg) σ45 (fun (r53 : Int32) (σ52 : zSto) => (∀ x54 : Int32, x54 = (x_9 + (1 : Int32)) → w_X10_bid_97 x_3 x_4 x_5 x_6 P n x_9 r53 x54 σ52)))))))))))) ∧ (x_4 = 0 → (w_X10_everyone  σ42 (fun (r56 : Int32) (σ55 : zSto) => (w_X10_go (3 : Int32) (0 : Int32) r56 σ55 (fun (σ57 : zSto) => (vp_in x_3 6 ∧ (((σ57.1 243 (x_3).toNatClampNeg) ≤ x_8 → (vp_in x_3 6 ∧ (w_X10_greater x_8 (σ57.1 243 (x_3).toNatClampNeg) σ57 (fun (r61 : Int32) (σ60 : zSto) => (∀ x62 : Int32, x62 = (x_9 + (1 : Int32)) → w_X10_bid_97 x_3 x_4 x_5 x_6 P n x_7 r61 x62 σ60))))) ∧ (¬ (σ57.1 243 (x_3).toNatClampNeg) ≤ x_8 → (vp_in x_3 6 ∧ (w_X10_greater x_8 (σ57.1 243 (x_3).toNatClampNeg) σ57 (fun (r65 : Int32) (σ64 : zSto) => (∀ x66 : Int32, x66 = (x_9 + (1 : Int32)) → w_X10_bid_97 x_3 x_4 x_5 x_6 P n x_9 r65 x66 σ64)))))))))))))))))))) ∧ (x_4 = 0 → (((9 : Int32) < x_9 → (vp_in x_5 984 ∧ (∀ σ68 : zSto, σ68 = zI σ 229 (x_5).toNatClampNeg x_6 → P x_7 σ68))) ∧ (¬ (9 : Int32) < x_9 → (vp_in x_5 984 ∧ (∀ σ70 : zSto, σ70 = zI σ 229 (x_5).toNatClampNeg x_9 → ((¬ x_4 = 0 → (w_X10_everyone  σ70 (fun (r72 : Int32) (σ71 : zSto) => (w_X10_go (0 : Int32) (0 : Int32) r72 σ71 (fun (σ73 : zSto) => (vp_in x_3 6 ∧ (((σ73.1 243 (x_3).toNatClampNeg) ≤ x_8 → (vp_in x_3 6 ∧ (w_X10_greater x_8 (σ73.1 243 (x_3).toNatClampNeg) σ73 (fun (r77 : Int32) (σ76 : zSto) => (∀ x78 : Int32, x78 = (x_9 + (1 : Int32)) → w_X10_bid_97 x_3 x_4 x_5 x_6 P n x_7 r77 x78 σ76))))) ∧ (¬ (σ73.1 243 (x_3).toNatClampNeg) ≤ x_8 → (vp_in x_3 6 ∧ (w_X10_greater x_8 (σ73.1 243 (x_3).toNatClampNeg) σ73 (fun (r81 : Int32) (σ80 : zSto) => (∀ x82 : Int32, x82 = (x_9 + (1 : Int32)) → w_X10_bid_97 x_3 x_4 x_5 x_6 P n x_9 r81 x82 σ80)))))))))))) ∧ (x_4 = 0 → (w_X10_everyone  σ70 (fun (r84 : Int32) (σ83 : zSto) => (w_X10_go (3 : Int32) (0 : Int32) r84 σ83 (fun (σ85 : zSto) => (vp_in x_3 6 ∧ (((σ85.1 243 (x_3).toNatClampNeg) ≤ x_8 → (vp_in x_3 6 ∧ (w_X10_greater x_8 (σ85.1 243 (x_3).toNatClampNeg) σ85 (fun (r89 : Int32) (σ88 : zSto) => (∀ x90 : Int32, x90 = (x_9 + (1 : Int32)) → w_X10_bid_97 x_3 x_4 x_5 x_6 P n x_7 r89 x90 σ88))))) ∧ (¬ (σ85.1 243 (x_3).toNatClampNeg) ≤ x_8 → (vp_in x_3 6 ∧ (w_X10_greater x_8 (σ85.1 243 (x_3).toNatClampNeg) σ85 (fun (r93 : Int32) (σ92 : zSto) => (∀ x94 : Int32, x94 = (x_9 + (1 : Int32)) → w_X10_bid_97 x_3 x_4 x_5 x_6 P n x_9 r93 x94 σ92)))))))))))))))))))
def w_X10_bid (a1 : Int32) (a2 : Int32) (a3 : Int32) (a4 : Int32) (σ : zSto) (P : Int32 → zSto → Prop) : Prop := (∀ σ1 : zSto, σ1 = zI σ 223 0 (0 : Int32) → (w_X10_in a4 (0 : Int32) (2 : Int32) σ1 (fun (r3 : Int32) (σ2 : zSto) => (r3 = 0 ∨ r3 = 1) → ((r3 = 0 → P (-1 : Int32) σ2) ∧ (¬ r3 = 0 → (w_X10_hand a1 a2 σ2 (fun (r5 : Int32) (σ4 : zSto) => (r5 = 0 ∨ r5 = 1) → ((r5 = 0 → P (-1 : Int32) σ4) ∧ (¬ r5 = 0 → (w_X10_isRider a3 σ4 (fun (r7 : Int32) (σ6 : zSto) => (r7 = 0 ∨ r7 = 1) → ((¬ r7 = 0 → ((¬ a4 = 0 → ((¬ a4 = (1 : Int32) → (∀ x8 : Int32, x8 = (((((123 : Int32) * a1) + (87 : Int32)) + ((6 : Int32) * a3)) + (4 : Int32)) → (vp_in x8 984 ∧ (∀ x10 : Int32, x10 = (σ6.1 229 (x8).toNatClampNeg) → ((¬ a4 = (1 : Int32) → (∃ n : Nat, w_X10_bid_97 a3 a4 x8 x10 P  n (-1 : Int32) (-1 : Int32) (0 : Int32) σ6)) ∧ (a4 = (1 : Int32) → (∃ n : Nat, w_X10_bid_97 a3 a4 x8 x10 P  n (-1 : Int32) (-1 : Int32) (1 : Int32) σ6))))))) ∧ (a4 = (1 : Int32) → (∀ x95 : Int32, x95 = (((((123 : Int32) * a1) + (87 : Int32)) + ((6 : Int32) * a3)) + (2 : Int32)) → (vp_in x95 984 ∧ (∀ x97 : Int32, x97 = (σ6.1 229 (x95).toNatClampNeg) → ((¬ a4 = (1 : Int32) → (∃ n : Nat, w_X10_bid_97 a3 a4 x95 x97 P  n (-1 : Int32) (-1 : Int32) (0 : Int32) σ6)) ∧ (a4 = (1 : Int32) → (∃ n : Nat, w_X10_bid_97 a3 a4 x95 x97 P  n (-1 : Int32) (-1 : Int32) (1 : Int32) σ6))))))))) ∧ (a4 = 0 → (∀ x98 : Int32, x98 = (((((123 : Int32) * a1) + (87 : Int32)) + ((6 : Int32) * a3)) + (5 : Int32)) → (vp_in x98 984 ∧ (∀ x100 : Int32, x100 = (σ6.1 229 (x98).toNatClampNeg) → ((¬ a4 = (1 : Int32) → (∃ n : Nat, w_X10_bid_97 a3 a4 x98 x100 P  n (-1 : Int32) (-1 : Int32) (0 : Int32) σ6)) ∧ (a4 = (1 : Int32) → (∃ n : Nat, w_X10_bid_97 a3 a4 x98 x100 P  n (-1 : Int32) (-1 : Int32) (1 : Int32) σ6))))))))) ∧ (r7 = 0 → P (-1 : Int32) σ6)))))))))))))
set_option maxRecDepth 100000 in
set_option maxHeartbeats 4000000 in
theorem k_X10_bid_97 {p : Program} {l : Launch} {e : Env} {s : State} {m : MethodId} {args : Array Value} {below : List Frame} {meth : Method} {c : Code} {D : va_G} {cy : Nat → ClassId} {g : Nat → Nat} (C : zC p s m args meth c cX10_bid RX10 10 D cy g) (hr : meth.sig.returnType = (some .int)) {P : Int32 → zSto → Prop} (x_3 : Int32) (x_4 : Int32) (x_5 : Int32) (x_6 : Int32)    : ∀ (n : Nat) (x_7 : Int32) (x_8 : Int32) (x_9 : Int32) (σ : zSto), w_X10_bid_97 x_3 x_4 x_5 x_6 P n x_7 x_8 x_9 σ → zX p l e (zrm 6 139) s m args below meth c 0 0 (zQi P below args s D cy g) 10 D cy g 97 [(0, .ref (g 223)), (3, .int x_3), (4, .int x_4), (5, .int x_5), (6, .int x_6), (7, .int x_7), (8, .int x_8), (9, .int x_9)] [] σ := by
  intro n
  induction n with
  | zero => intro x_7 x_8 x_9 σ h; exact h.elim
  | succ n ih =>
    intro x_7 x_8 x_9 σ h
    unfold w_X10_bid_97 at h
    refine zx_iload C dX10_bid_97 7 rfl ?_
    refine zx_iload C dX10_bid_99 2 rfl ?_
    refine zx_if_ne C 109 dX10_bid_101 (by decide) (fun q => ?_) (fun q => ?_)
    · replace h := h.1 q
      refine zx_iload C dX10_bid_109 2 rfl ?_
      refine zx_iconst (v := (1 : Int32)) C dX10_bid_111 (by decide) ?_
      refine zx_icmp_ne C 120 dX10_bid_112 (by decide) (fun q => ?_) (fun q => ?_)
      · replace h := h.1 q
        refine zx_sipush (v := (200 : Int32)) C dX10_bid_120 (by decide) ?_
        refine zx_icmp_gt C 193 dX10_bid_123 (by decide) (fun q => ?_) (fun q => ?_)
        · replace h := h.1 q
          refine zx_aload_n C dX10_bid_193 0 rfl ?_
          refine zx_getR C zs_223 fg_X10_26 rfl 229 rfl dX10_bid_194 ?_
          refine zx_iload C dX10_bid_197 3 rfl ?_
          refine zx_iload C dX10_bid_199 4 rfl ?_
          obtain ⟨bd11, h⟩ := h
          refine zx_iast C (x_5).toNatClampNeg zs_229 bd11 rfl dX10_bid_201 ?_
          refine zx_sig (fun σ12 eσ12 => ?_)
          replace h := h σ12 eσ12
          refine zx_iload C dX10_bid_202 5 rfl ?_
          exact zx_iret C hr dX10_bid_204 h
        · replace h := h.2 q
          refine zx_aload_n C dX10_bid_126 0 rfl ?_
          refine zx_getR C zs_223 fg_X10_26 rfl 229 rfl dX10_bid_127 ?_
          refine zx_iload C dX10_bid_130 3 rfl ?_
          refine zx_iload C dX10_bid_132 7 rfl ?_
          obtain ⟨bd13, h⟩ := h
          refine zx_iast C (x_5).toNatClampNeg zs_229 bd13 rfl dX10_bid_134 ?_
          refine zx_sig (fun σ14 eσ14 => ?_)
          replace h := h σ14 eσ14
          refine zx_aload_n C dX10_bid_135 0 rfl ?_
          refine zx_iload C dX10_bid_136 2 rfl ?_
          refine zx_if_ne C 145 dX10_bid_138 (by decide) (fun q => ?_) (fun q => ?_)
          · replace h := h.1 q
            refine zx_iconst (v := (0 : Int32)) C dX10_bid_145 (by decide) ?_
            refine zx_iconst (v := (0 : Int32)) C dX10_bid_146 (by decide) ?_
            refine zx_aload_n C dX10_bid_147 0 rfl ?_
            refine zx_cVi C [] lk_X10_307 (c_X10_everyone l D cy g   σ14 h) zs_223 rfl ⟨by decide, by decide⟩ ⟨rfl, rfl⟩ ⟨Nat.zero_le _, Nat.zero_le _⟩ rfl rfl (Nat.le_of_ble_eq_true rfl) dX10_bid_148 (fun r16 σ15 h => ?_)
            refine zx_cVv C [.int (0 : Int32), .int (0 : Int32), .int r16] lk_X10_310 (c_X10_go l D cy g (0 : Int32) (0 : Int32) r16  σ15 h) zs_223 rfl ⟨by decide, by decide⟩ ⟨rfl, rfl⟩ ⟨Nat.zero_le _, Nat.zero_le _⟩ rfl rfl (Nat.le_of_ble_eq_true rfl) dX10_bid_151 (fun σ17 h => ?_)
            refine zx_aload_n C dX10_bid_154 0 rfl ?_
            refine zx_getR C zs_223 fg_X10_68 rfl 243 rfl dX10_bid_155 ?_
            refine zx_iload_n C dX10_bid_158 1 rfl ?_
            obtain ⟨bd18, h⟩ := h
            refine zx_iald C (x_3).toNatClampNeg zs_243 bd18 rfl dX10_bid_159 ?_
            refine zx_iload C dX10_bid_160 6 rfl ?_
            refine zx_icmp_le C 170 dX10_bid_162 (by decide) (fun q => ?_) (fun q => ?_)
            · replace h := h.1 q
              refine zx_iload C dX10_bid_170 5 rfl ?_
              refine zx_istore (lv' := [(7, .int x_7), (0, .ref (g 223)), (3, .int x_3), (4, .int x_4), (5, .int x_5), (6, .int x_6), (8, .int x_8), (9, .int x_9)]) C dX10_bid_172 (by decide) rfl ?_
              refine zx_iload C dX10_bid_174 6 rfl ?_
              refine zx_aload_n C dX10_bid_176 1 rfl ?_
              refine zx_getR C zs_223 fg_X10_68 rfl 243 rfl dX10_bid_177 ?_
              refine zx_iload_n C dX10_bid_180 2 rfl ?_
              obtain ⟨bd19, h⟩ := h
              refine zx_iald C (x_3).toNatClampNeg zs_243 bd19 rfl dX10_bid_181 ?_
              refine zx_cSi C [.int x_8, .int (σ17.1 243 (x_3).toNatClampNeg)] lk_X10_160 (c_X10_greater l D cy g x_8 (σ17.1 243 (x_3).toNatClampNeg)  σ17 h) ⟨by decide, by decide⟩ ⟨rfl, rfl⟩ ⟨Nat.zero_le _, Nat.zero_le _⟩ rfl rfl (Nat.le_of_ble_eq_true rfl) dX10_bid_182 (fun r21 σ20 h => ?_)
              refine zx_istore (lv' := [(8, .int r21), (7, .int x_7), (0, .ref (g 223)), (3, .int x_3), (4, .int x_4), (5, .int x_5), (6, .int x_6), (9, .int x_9)]) C dX10_bid_185 (by decide) rfl ?_
              obtain ⟨x22, ex22⟩ : ∃ y : Int32, y = (x_9 + (1 : Int32)) := ⟨_, rfl⟩
              replace h := h x22 ex22
              refine zx_iinc (v := x22) (lv' := [(9, .int x22), (8, .int r21), (7, .int x_7), (0, .ref (g 223)), (3, .int x_3), (4, .int x_4), (5, .int x_5), (6, .int x_6)]) C dX10_bid_187 7 rfl (by rw [ex22]; rfl) (by decide) rfl ?_
              refine zx_goto C 97 dX10_bid_190 (by decide) ?_
              refine zx_lv (lv' := [(0, .ref (g 223)), (3, .int x_3), (4, .int x_4), (5, .int x_5), (6, .int x_6), (7, .int x_7), (8, .int r21), (9, .int x22)]) [3, 4, 5, 6, 7, 2, 1, 0] rfl ?_
              exact ih x_7 r21 x22 σ20 h
            · replace h := h.2 q
              refine zx_iload C dX10_bid_165 7 rfl ?_
              refine zx_goto C 172 dX10_bid_167 (by decide) ?_
              refine zx_istore (lv' := [(7, .int x_9), (0, .ref (g 223)), (3, .int x_3), (4, .int x_4), (5, .int x_5), (6, .int x_6), (8, .int x_8), (9, .int x_9)]) C dX10_bid_172 (by decide) rfl ?_
              refine zx_iload C dX10_bid_174 6 rfl ?_
              refine zx_aload_n C dX10_bid_176 1 rfl ?_
              refine zx_getR C zs_223 fg_X10_68 rfl 243 rfl dX10_bid_177 ?_
              refine zx_iload_n C dX10_bid_180 2 rfl ?_
              obtain ⟨bd23, h⟩ := h
              refine zx_iald C (x_3).toNatClampNeg zs_243 bd23 rfl dX10_bid_181 ?_
              refine zx_cSi C [.int x_8, .int (σ17.1 243 (x_3).toNatClampNeg)] lk_X10_160 (c_X10_greater l D cy g x_8 (σ17.1 243 (x_3).toNatClampNeg)  σ17 h) ⟨by decide, by decide⟩ ⟨rfl, rfl⟩ ⟨Nat.zero_le _, Nat.zero_le _⟩ rfl rfl (Nat.le_of_ble_eq_true rfl) dX10_bid_182 (fun r25 σ24 h => ?_)
              refine zx_istore (lv' := [(8, .int r25), (7, .int x_9), (0, .ref (g 223)), (3, .int x_3), (4, .int x_4), (5, .int x_5), (6, .int x_6), (9, .int x_9)]) C dX10_bid_185 (by decide) rfl ?_
              obtain ⟨x26, ex26⟩ : ∃ y : Int32, y = (x_9 + (1 : Int32)) := ⟨_, rfl⟩
              replace h := h x26 ex26
              refine zx_iinc (v := x26) (lv' := [(9, .int x26), (8, .int r25), (7, .int x_9), (0, .ref (g 223)), (3, .int x_3), (4, .int x_4), (5, .int x_5), (6, .int x_6)]) C dX10_bid_187 7 rfl (by rw [ex26]; rfl) (by decide) rfl ?_
              refine zx_goto C 97 dX10_bid_190 (by decide) ?_
              refine zx_lv (lv' := [(0, .ref (g 223)), (3, .int x_3), (4, .int x_4), (5, .int x_5), (6, .int x_6), (7, .int x_9), (8, .int r25), (9, .int x26)]) [3, 4, 5, 6, 7, 2, 1, 0] rfl ?_
              exact ih x_9 r25 x26 σ24 h
          · replace h := h.2 q
            refine zx_iconst (v := (3 : Int32)) C dX10_bid_141 (by decide) ?_
            refine zx_goto C 146 dX10_bid_142 (by decide) ?_
            refine zx_iconst (v := (0 : Int32)) C dX10_bid_146 (by decide) ?_
            refine zx_aload_n C dX10_bid_147 0 rfl ?_
            refine zx_cVi C [] lk_X10_307 (c_X10_everyone l D cy g   σ14 h) zs_223 rfl ⟨by decide, by decide⟩ ⟨rfl, rfl⟩ ⟨Nat.zero_le _, Nat.zero_le _⟩ rfl rfl (Nat.le_of_ble_eq_true rfl) dX10_bid_148 (fun r28 σ27 h => ?_)
            refine zx_cVv C [.int (3 : Int32), .int (0 : Int32), .int r28] lk_X10_310 (c_X10_go l D cy g (3 : Int32) (0 : Int32) r28  σ27 h) zs_223 rfl ⟨by decide, by decide⟩ ⟨rfl, rfl⟩ ⟨Nat.zero_le _, Nat.zero_le _⟩ rfl rfl (Nat.le_of_ble_eq_true rfl) dX10_bid_151 (fun σ29 h => ?_)
            refine zx_aload_n C dX10_bid_154 0 rfl ?_
            refine zx_getR C zs_223 fg_X10_68 rfl 243 rfl dX10_bid_155 ?_
            refine zx_iload_n C dX10_bid_158 1 rfl ?_
            obtain ⟨bd30, h⟩ := h
            refine zx_iald C (x_3).toNatClampNeg zs_243 bd30 rfl dX10_bid_159 ?_
            refine zx_iload C dX10_bid_160 6 rfl ?_
            refine zx_icmp_le C 170 dX10_bid_162 (by decide) (fun q => ?_) (fun q => ?_)
            · replace h := h.1 q
              refine zx_iload C dX10_bid_170 5 rfl ?_
              refine zx_istore (lv' := [(7, .int x_7), (0, .ref (g 223)), (3, .int x_3), (4, .int x_4), (5, .int x_5), (6, .int x_6), (8, .int x_8), (9, .int x_9)]) C dX10_bid_172 (by decide) rfl ?_
              refine zx_iload C dX10_bid_174 6 rfl ?_
              refine zx_aload_n C dX10_bid_176 1 rfl ?_
              refine zx_getR C zs_223 fg_X10_68 rfl 243 rfl dX10_bid_177 ?_
              refine zx_iload_n C dX10_bid_180 2 rfl ?_
              obtain ⟨bd31, h⟩ := h
              refine zx_iald C (x_3).toNatClampNeg zs_243 bd31 rfl dX10_bid_181 ?_
              refine zx_cSi C [.int x_8, .int (σ29.1 243 (x_3).toNatClampNeg)] lk_X10_160 (c_X10_greater l D cy g x_8 (σ29.1 243 (x_3).toNatClampNeg)  σ29 h) ⟨by decide, by decide⟩ ⟨rfl, rfl⟩ ⟨Nat.zero_le _, Nat.zero_le _⟩ rfl rfl (Nat.le_of_ble_eq_true rfl) dX10_bid_182 (fun r33 σ32 h => ?_)
              refine zx_istore (lv' := [(8, .int r33), (7, .int x_7), (0, .ref (g 223)), (3, .int x_3), (4, .int x_4), (5, .int x_5), (6, .int x_6), (9, .int x_9)]) C dX10_bid_185 (by decide) rfl ?_
              obtain ⟨x34, ex34⟩ : ∃ y : Int32, y = (x_9 + (1 : Int32)) := ⟨_, rfl⟩
              replace h := h x34 ex34
              refine zx_iinc (v := x34) (lv' := [(9, .int x34), (8, .int r33), (7, .int x_7), (0, .ref (g 223)), (3, .int x_3), (4, .int x_4), (5, .int x_5), (6, .int x_6)]) C dX10_bid_187 7 rfl (by rw [ex34]; rfl) (by decide) rfl ?_
              refine zx_goto C 97 dX10_bid_190 (by decide) ?_
              refine zx_lv (lv' := [(0, .ref (g 223)), (3, .int x_3), (4, .int x_4), (5, .int x_5), (6, .int x_6), (7, .int x_7), (8, .int r33), (9, .int x34)]) [3, 4, 5, 6, 7, 2, 1, 0] rfl ?_
              exact ih x_7 r33 x34 σ32 h
            · replace h := h.2 q
              refine zx_iload C dX10_bid_165 7 rfl ?_
              refine zx_goto C 172 dX10_bid_167 (by decide) ?_
              refine zx_istore (lv' := [(7, .int x_9), (0, .ref (g 223)), (3, .int x_3), (4, .int x_4), (5, .int x_5), (6, .int x_6), (8, .int x_8), (9, .int x_9)]) C dX10_bid_172 (by decide) rfl ?_
              refine zx_iload C dX10_bid_174 6 rfl ?_
              refine zx_aload_n C dX10_bid_176 1 rfl ?_
              refine zx_getR C zs_223 fg_X10_68 rfl 243 rfl dX10_bid_177 ?_
              refine zx_iload_n C dX10_bid_180 2 rfl ?_
              obtain ⟨bd35, h⟩ := h
              refine zx_iald C (x_3).toNatClampNeg zs_243 bd35 rfl dX10_bid_181 ?_
              refine zx_cSi C [.int x_8, .int (σ29.1 243 (x_3).toNatClampNeg)] lk_X10_160 (c_X10_greater l D cy g x_8 (σ29.1 243 (x_3).toNatClampNeg)  σ29 h) ⟨by decide, by decide⟩ ⟨rfl, rfl⟩ ⟨Nat.zero_le _, Nat.zero_le _⟩ rfl rfl (Nat.le_of_ble_eq_true rfl) dX10_bid_182 (fun r37 σ36 h => ?_)
              refine zx_istore (lv' := [(8, .int r37), (7, .int x_9), (0, .ref (g 223)), (3, .int x_3), (4, .int x_4), (5, .int x_5), (6, .int x_6), (9, .int x_9)]) C dX10_bid_185 (by decide) rfl ?_
              obtain ⟨x38, ex38⟩ : ∃ y : Int32, y = (x_9 + (1 : Int32)) := ⟨_, rfl⟩
              replace h := h x38 ex38
              refine zx_iinc (v := x38) (lv' := [(9, .int x38), (8, .int r37), (7, .int x_9), (0, .ref (g 223)), (3, .int x_3), (4, .int x_4), (5, .int x_5), (6, .int x_6)]) C dX10_bid_187 7 rfl (by rw [ex38]; rfl) (by decide) rfl ?_
              refine zx_goto C 97 dX10_bid_190 (by decide) ?_
              refine zx_lv (lv' := [(0, .ref (g 223)), (3, .int x_3), (4, .int x_4), (5, .int x_5), (6, .int x_6), (7, .int x_9), (8, .int r37), (9, .int x38)]) [3, 4, 5, 6, 7, 2, 1, 0] rfl ?_
              exact ih x_9 r37 x38 σ36 h
      · replace h := h.2 q
        refine zx_bipush (v := (60 : Int32)) C dX10_bid_115 (by decide) ?_
        refine zx_goto C 123 dX10_bid_117 (by decide) ?_
        refine zx_icmp_gt C 193 dX10_bid_123 (by decide) (fun q => ?_) (fun q => ?_)
        · replace h := h.1 q
          refine zx_aload_n C dX10_bid_193 0 rfl ?_
          refine zx_getR C zs_223 fg_X10_26 rfl 229 rfl dX10_bid_194 ?_
          refine zx_iload C dX10_bid_197 3 rfl ?_
          refine zx_iload C dX10_bid_199 4 rfl ?_
          obtain ⟨bd39, h⟩ := h
          refine zx_iast C (x_5).toNatClampNeg zs_229 bd39 rfl dX10_bid_201 ?_
          refine zx_sig (fun σ40 eσ40 => ?_)
          replace h := h σ40 eσ40
          refine zx_iload C dX10_bid_202 5 rfl ?_
          exact zx_iret C hr dX10_bid_204 h
        · replace h := h.2 q
          refine zx_aload_n C dX10_bid_126 0 rfl ?_
          refine zx_getR C zs_223 fg_X10_26 rfl 229 rfl dX10_bid_127 ?_
          refine zx_iload C dX10_bid_130 3 rfl ?_
          refine zx_iload C dX10_bid_132 7 rfl ?_
          obtain ⟨bd41, h⟩ := h
          refine zx_iast C (x_5).toNatClampNeg zs_229 bd41 rfl dX10_bid_134 ?_
          refine zx_sig (fun σ42 eσ42 => ?_)
          replace h := h σ42 eσ42
          refine zx_aload_n C dX10_bid_135 0 rfl ?_
          refine zx_iload C dX10_bid_136 2 rfl ?_
          refine zx_if_ne C 145 dX10_bid_138 (by decide) (fun q => ?_) (fun q => ?_)
          · replace h := h.1 q
            refine zx_iconst (v := (0 : Int32)) C dX10_bid_145 (by decide) ?_
            refine zx_iconst (v := (0 : Int32)) C dX10_bid_146 (by decide) ?_
            refine zx_aload_n C dX10_bid_147 0 rfl ?_
            refine zx_cVi C [] lk_X10_307 (c_X10_everyone l D cy g   σ42 h) zs_223 rfl ⟨by decide, by decide⟩ ⟨rfl, rfl⟩ ⟨Nat.zero_le _, Nat.zero_le _⟩ rfl rfl (Nat.le_of_ble_eq_true rfl) dX10_bid_148 (fun r44 σ43 h => ?_)
            refine zx_cVv C [.int (0 : Int32), .int (0 : Int32), .int r44] lk_X10_310 (c_X10_go l D cy g (0 : Int32) (0 : Int32) r44  σ43 h) zs_223 rfl ⟨by decide, by decide⟩ ⟨rfl, rfl⟩ ⟨Nat.zero_le _, Nat.zero_le _⟩ rfl rfl (Nat.le_of_ble_eq_true rfl) dX10_bid_151 (fun σ45 h => ?_)
            refine zx_aload_n C dX10_bid_154 0 rfl ?_
            refine zx_getR C zs_223 fg_X10_68 rfl 243 rfl dX10_bid_155 ?_
            refine zx_iload_n C dX10_bid_158 1 rfl ?_
            obtain ⟨bd46, h⟩ := h
            refine zx_iald C (x_3).toNatClampNeg zs_243 bd46 rfl dX10_bid_159 ?_
            refine zx_iload C dX10_bid_160 6 rfl ?_
            refine zx_icmp_le C 170 dX10_bid_162 (by decide) (fun q => ?_) (fun q => ?_)
            · replace h := h.1 q
              refine zx_iload C dX10_bid_170 5 rfl ?_
              refine zx_istore (lv' := [(7, .int x_7), (0, .ref (g 223)), (3, .int x_3), (4, .int x_4), (5, .int x_5), (6, .int x_6), (8, .int x_8), (9, .int x_9)]) C dX10_bid_172 (by decide) rfl ?_
              refine zx_iload C dX10_bid_174 6 rfl ?_
              refine zx_aload_n C dX10_bid_176 1 rfl ?_
              refine zx_getR C zs_223 fg_X10_68 rfl 243 rfl dX10_bid_177 ?_
              refine zx_iload_n C dX10_bid_180 2 rfl ?_
              obtain ⟨bd47, h⟩ := h
              refine zx_iald C (x_3).toNatClampNeg zs_243 bd47 rfl dX10_bid_181 ?_
              refine zx_cSi C [.int x_8, .int (σ45.1 243 (x_3).toNatClampNeg)] lk_X10_160 (c_X10_greater l D cy g x_8 (σ45.1 243 (x_3).toNatClampNeg)  σ45 h) ⟨by decide, by decide⟩ ⟨rfl, rfl⟩ ⟨Nat.zero_le _, Nat.zero_le _⟩ rfl rfl (Nat.le_of_ble_eq_true rfl) dX10_bid_182 (fun r49 σ48 h => ?_)
              refine zx_istore (lv' := [(8, .int r49), (7, .int x_7), (0, .ref (g 223)), (3, .int x_3), (4, .int x_4), (5, .int x_5), (6, .int x_6), (9, .int x_9)]) C dX10_bid_185 (by decide) rfl ?_
              obtain ⟨x50, ex50⟩ : ∃ y : Int32, y = (x_9 + (1 : Int32)) := ⟨_, rfl⟩
              replace h := h x50 ex50
              refine zx_iinc (v := x50) (lv' := [(9, .int x50), (8, .int r49), (7, .int x_7), (0, .ref (g 223)), (3, .int x_3), (4, .int x_4), (5, .int x_5), (6, .int x_6)]) C dX10_bid_187 7 rfl (by rw [ex50]; rfl) (by decide) rfl ?_
              refine zx_goto C 97 dX10_bid_190 (by decide) ?_
              refine zx_lv (lv' := [(0, .ref (g 223)), (3, .int x_3), (4, .int x_4), (5, .int x_5), (6, .int x_6), (7, .int x_7), (8, .int r49), (9, .int x50)]) [3, 4, 5, 6, 7, 2, 1, 0] rfl ?_
              exact ih x_7 r49 x50 σ48 h
            · replace h := h.2 q
              refine zx_iload C dX10_bid_165 7 rfl ?_
              refine zx_goto C 172 dX10_bid_167 (by decide) ?_
              refine zx_istore (lv' := [(7, .int x_9), (0, .ref (g 223)), (3, .int x_3), (4, .int x_4), (5, .int x_5), (6, .int x_6), (8, .int x_8), (9, .int x_9)]) C dX10_bid_172 (by decide) rfl ?_
              refine zx_iload C dX10_bid_174 6 rfl ?_
              refine zx_aload_n C dX10_bid_176 1 rfl ?_
              refine zx_getR C zs_223 fg_X10_68 rfl 243 rfl dX10_bid_177 ?_
              refine zx_iload_n C dX10_bid_180 2 rfl ?_
              obtain ⟨bd51, h⟩ := h
              refine zx_iald C (x_3).toNatClampNeg zs_243 bd51 rfl dX10_bid_181 ?_
              refine zx_cSi C [.int x_8, .int (σ45.1 243 (x_3).toNatClampNeg)] lk_X10_160 (c_X10_greater l D cy g x_8 (σ45.1 243 (x_3).toNatClampNeg)  σ45 h) ⟨by decide, by decide⟩ ⟨rfl, rfl⟩ ⟨Nat.zero_le _, Nat.zero_le _⟩ rfl rfl (Nat.le_of_ble_eq_true rfl) dX10_bid_182 (fun r53 σ52 h => ?_)
              refine zx_istore (lv' := [(8, .int r53), (7, .int x_9), (0, .ref (g 223)), (3, .int x_3), (4, .int x_4), (5, .int x_5), (6, .int x_6), (9, .int x_9)]) C dX10_bid_185 (by decide) rfl ?_
              obtain ⟨x54, ex54⟩ : ∃ y : Int32, y = (x_9 + (1 : Int32)) := ⟨_, rfl⟩
              replace h := h x54 ex54
              refine zx_iinc (v := x54) (lv' := [(9, .int x54), (8, .int r53), (7, .int x_9), (0, .ref (g 223)), (3, .int x_3), (4, .int x_4), (5, .int x_5), (6, .int x_6)]) C dX10_bid_187 7 rfl (by rw [ex54]; rfl) (by decide) rfl ?_
              refine zx_goto C 97 dX10_bid_190 (by decide) ?_
              refine zx_lv (lv' := [(0, .ref (g 223)), (3, .int x_3), (4, .int x_4), (5, .int x_5), (6, .int x_6), (7, .int x_9), (8, .int r53), (9, .int x54)]) [3, 4, 5, 6, 7, 2, 1, 0] rfl ?_
              exact ih x_9 r53 x54 σ52 h
          · replace h := h.2 q
            refine zx_iconst (v := (3 : Int32)) C dX10_bid_141 (by decide) ?_
            refine zx_goto C 146 dX10_bid_142 (by decide) ?_
            refine zx_iconst (v := (0 : Int32)) C dX10_bid_146 (by decide) ?_
            refine zx_aload_n C dX10_bid_147 0 rfl ?_
            refine zx_cVi C [] lk_X10_307 (c_X10_everyone l D cy g   σ42 h) zs_223 rfl ⟨by decide, by decide⟩ ⟨rfl, rfl⟩ ⟨Nat.zero_le _, Nat.zero_le _⟩ rfl rfl (Nat.le_of_ble_eq_true rfl) dX10_bid_148 (fun r56 σ55 h => ?_)
            refine zx_cVv C [.int (3 : Int32), .int (0 : Int32), .int r56] lk_X10_310 (c_X10_go l D cy g (3 : Int32) (0 : Int32) r56  σ55 h) zs_223 rfl ⟨by decide, by decide⟩ ⟨rfl, rfl⟩ ⟨Nat.zero_le _, Nat.zero_le _⟩ rfl rfl (Nat.le_of_ble_eq_true rfl) dX10_bid_151 (fun σ57 h => ?_)
            refine zx_aload_n C dX10_bid_154 0 rfl ?_
            refine zx_getR C zs_223 fg_X10_68 rfl 243 rfl dX10_bid_155 ?_
            refine zx_iload_n C dX10_bid_158 1 rfl ?_
            obtain ⟨bd58, h⟩ := h
            refine zx_iald C (x_3).toNatClampNeg zs_243 bd58 rfl dX10_bid_159 ?_
            refine zx_iload C dX10_bid_160 6 rfl ?_
            refine zx_icmp_le C 170 dX10_bid_162 (by decide) (fun q => ?_) (fun q => ?_)
            · replace h := h.1 q
              refine zx_iload C dX10_bid_170 5 rfl ?_
              refine zx_istore (lv' := [(7, .int x_7), (0, .ref (g 223)), (3, .int x_3), (4, .int x_4), (5, .int x_5), (6, .int x_6), (8, .int x_8), (9, .int x_9)]) C dX10_bid_172 (by decide) rfl ?_
              refine zx_iload C dX10_bid_174 6 rfl ?_
              refine zx_aload_n C dX10_bid_176 1 rfl ?_
              refine zx_getR C zs_223 fg_X10_68 rfl 243 rfl dX10_bid_177 ?_
              refine zx_iload_n C dX10_bid_180 2 rfl ?_
              obtain ⟨bd59, h⟩ := h
              refine zx_iald C (x_3).toNatClampNeg zs_243 bd59 rfl dX10_bid_181 ?_
              refine zx_cSi C [.int x_8, .int (σ57.1 243 (x_3).toNatClampNeg)] lk_X10_160 (c_X10_greater l D cy g x_8 (σ57.1 243 (x_3).toNatClampNeg)  σ57 h) ⟨by decide, by decide⟩ ⟨rfl, rfl⟩ ⟨Nat.zero_le _, Nat.zero_le _⟩ rfl rfl (Nat.le_of_ble_eq_true rfl) dX10_bid_182 (fun r61 σ60 h => ?_)
              refine zx_istore (lv' := [(8, .int r61), (7, .int x_7), (0, .ref (g 223)), (3, .int x_3), (4, .int x_4), (5, .int x_5), (6, .int x_6), (9, .int x_9)]) C dX10_bid_185 (by decide) rfl ?_
              obtain ⟨x62, ex62⟩ : ∃ y : Int32, y = (x_9 + (1 : Int32)) := ⟨_, rfl⟩
              replace h := h x62 ex62
              refine zx_iinc (v := x62) (lv' := [(9, .int x62), (8, .int r61), (7, .int x_7), (0, .ref (g 223)), (3, .int x_3), (4, .int x_4), (5, .int x_5), (6, .int x_6)]) C dX10_bid_187 7 rfl (by rw [ex62]; rfl) (by decide) rfl ?_
              refine zx_goto C 97 dX10_bid_190 (by decide) ?_
              refine zx_lv (lv' := [(0, .ref (g 223)), (3, .int x_3), (4, .int x_4), (5, .int x_5), (6, .int x_6), (7, .int x_7), (8, .int r61), (9, .int x62)]) [3, 4, 5, 6, 7, 2, 1, 0] rfl ?_
              exact ih x_7 r61 x62 σ60 h
            · replace h := h.2 q
              refine zx_iload C dX10_bid_165 7 rfl ?_
              refine zx_goto C 172 dX10_bid_167 (by decide) ?_
              refine zx_istore (lv' := [(7, .int x_9), (0, .ref (g 223)), (3, .int x_3), (4, .int x_4), (5, .int x_5), (6, .int x_6), (8, .int x_8), (9, .int x_9)]) C dX10_bid_172 (by decide) rfl ?_
              refine zx_iload C dX10_bid_174 6 rfl ?_
              refine zx_aload_n C dX10_bid_176 1 rfl ?_
              refine zx_getR C zs_223 fg_X10_68 rfl 243 rfl dX10_bid_177 ?_
              refine zx_iload_n C dX10_bid_180 2 rfl ?_
              obtain ⟨bd63, h⟩ := h
              refine zx_iald C (x_3).toNatClampNeg zs_243 bd63 rfl dX10_bid_181 ?_
              refine zx_cSi C [.int x_8, .int (σ57.1 243 (x_3).toNatClampNeg)] lk_X10_160 (c_X10_greater l D cy g x_8 (σ57.1 243 (x_3).toNatClampNeg)  σ57 h) ⟨by decide, by decide⟩ ⟨rfl, rfl⟩ ⟨Nat.zero_le _, Nat.zero_le _⟩ rfl rfl (Nat.le_of_ble_eq_true rfl) dX10_bid_182 (fun r65 σ64 h => ?_)
              refine zx_istore (lv' := [(8, .int r65), (7, .int x_9), (0, .ref (g 223)), (3, .int x_3), (4, .int x_4), (5, .int x_5), (6, .int x_6), (9, .int x_9)]) C dX10_bid_185 (by decide) rfl ?_
              obtain ⟨x66, ex66⟩ : ∃ y : Int32, y = (x_9 + (1 : Int32)) := ⟨_, rfl⟩
              replace h := h x66 ex66
              refine zx_iinc (v := x66) (lv' := [(9, .int x66), (8, .int r65), (7, .int x_9), (0, .ref (g 223)), (3, .int x_3), (4, .int x_4), (5, .int x_5), (6, .int x_6)]) C dX10_bid_187 7 rfl (by rw [ex66]; rfl) (by decide) rfl ?_
              refine zx_goto C 97 dX10_bid_190 (by decide) ?_
              refine zx_lv (lv' := [(0, .ref (g 223)), (3, .int x_3), (4, .int x_4), (5, .int x_5), (6, .int x_6), (7, .int x_9), (8, .int r65), (9, .int x66)]) [3, 4, 5, 6, 7, 2, 1, 0] rfl ?_
              exact ih x_9 r65 x66 σ64 h
    · replace h := h.2 q
      refine zx_bipush (v := (9 : Int32)) C dX10_bid_104 (by decide) ?_
      refine zx_goto C 123 dX10_bid_106 (by decide) ?_
      refine zx_icmp_gt C 193 dX10_bid_123 (by decide) (fun q => ?_) (fun q => ?_)
      · replace h := h.1 q
        refine zx_aload_n C dX10_bid_193 0 rfl ?_
        refine zx_getR C zs_223 fg_X10_26 rfl 229 rfl dX10_bid_194 ?_
        refine zx_iload C dX10_bid_197 3 rfl ?_
        refine zx_iload C dX10_bid_199 4 rfl ?_
        obtain ⟨bd67, h⟩ := h
        refine zx_iast C (x_5).toNatClampNeg zs_229 bd67 rfl dX10_bid_201 ?_
        refine zx_sig (fun σ68 eσ68 => ?_)
        replace h := h σ68 eσ68
        refine zx_iload C dX10_bid_202 5 rfl ?_
        exact zx_iret C hr dX10_bid_204 h
      · replace h := h.2 q
        refine zx_aload_n C dX10_bid_126 0 rfl ?_
        refine zx_getR C zs_223 fg_X10_26 rfl 229 rfl dX10_bid_127 ?_
        refine zx_iload C dX10_bid_130 3 rfl ?_
        refine zx_iload C dX10_bid_132 7 rfl ?_
        obtain ⟨bd69, h⟩ := h
        refine zx_iast C (x_5).toNatClampNeg zs_229 bd69 rfl dX10_bid_134 ?_
        refine zx_sig (fun σ70 eσ70 => ?_)
        replace h := h σ70 eσ70
        refine zx_aload_n C dX10_bid_135 0 rfl ?_
        refine zx_iload C dX10_bid_136 2 rfl ?_
        refine zx_if_ne C 145 dX10_bid_138 (by decide) (fun q => ?_) (fun q => ?_)
        · replace h := h.1 q
          refine zx_iconst (v := (0 : Int32)) C dX10_bid_145 (by decide) ?_
          refine zx_iconst (v := (0 : Int32)) C dX10_bid_146 (by decide) ?_
          refine zx_aload_n C dX10_bid_147 0 rfl ?_
          refine zx_cVi C [] lk_X10_307 (c_X10_everyone l D cy g   σ70 h) zs_223 rfl ⟨by decide, by decide⟩ ⟨rfl, rfl⟩ ⟨Nat.zero_le _, Nat.zero_le _⟩ rfl rfl (Nat.le_of_ble_eq_true rfl) dX10_bid_148 (fun r72 σ71 h => ?_)
          refine zx_cVv C [.int (0 : Int32), .int (0 : Int32), .int r72] lk_X10_310 (c_X10_go l D cy g (0 : Int32) (0 : Int32) r72  σ71 h) zs_223 rfl ⟨by decide, by decide⟩ ⟨rfl, rfl⟩ ⟨Nat.zero_le _, Nat.zero_le _⟩ rfl rfl (Nat.le_of_ble_eq_true rfl) dX10_bid_151 (fun σ73 h => ?_)
          refine zx_aload_n C dX10_bid_154 0 rfl ?_
          refine zx_getR C zs_223 fg_X10_68 rfl 243 rfl dX10_bid_155 ?_
          refine zx_iload_n C dX10_bid_158 1 rfl ?_
          obtain ⟨bd74, h⟩ := h
          refine zx_iald C (x_3).toNatClampNeg zs_243 bd74 rfl dX10_bid_159 ?_
          refine zx_iload C dX10_bid_160 6 rfl ?_
          refine zx_icmp_le C 170 dX10_bid_162 (by decide) (fun q => ?_) (fun q => ?_)
          · replace h := h.1 q
            refine zx_iload C dX10_bid_170 5 rfl ?_
            refine zx_istore (lv' := [(7, .int x_7), (0, .ref (g 223)), (3, .int x_3), (4, .int x_4), (5, .int x_5), (6, .int x_6), (8, .int x_8), (9, .int x_9)]) C dX10_bid_172 (by decide) rfl ?_
            refine zx_iload C dX10_bid_174 6 rfl ?_
            refine zx_aload_n C dX10_bid_176 1 rfl ?_
            refine zx_getR C zs_223 fg_X10_68 rfl 243 rfl dX10_bid_177 ?_
            refine zx_iload_n C dX10_bid_180 2 rfl ?_
            obtain ⟨bd75, h⟩ := h
            refine zx_iald C (x_3).toNatClampNeg zs_243 bd75 rfl dX10_bid_181 ?_
            refine zx_cSi C [.int x_8, .int (σ73.1 243 (x_3).toNatClampNeg)] lk_X10_160 (c_X10_greater l D cy g x_8 (σ73.1 243 (x_3).toNatClampNeg)  σ73 h) ⟨by decide, by decide⟩ ⟨rfl, rfl⟩ ⟨Nat.zero_le _, Nat.zero_le _⟩ rfl rfl (Nat.le_of_ble_eq_true rfl) dX10_bid_182 (fun r77 σ76 h => ?_)
            refine zx_istore (lv' := [(8, .int r77), (7, .int x_7), (0, .ref (g 223)), (3, .int x_3), (4, .int x_4), (5, .int x_5), (6, .int x_6), (9, .int x_9)]) C dX10_bid_185 (by decide) rfl ?_
            obtain ⟨x78, ex78⟩ : ∃ y : Int32, y = (x_9 + (1 : Int32)) := ⟨_, rfl⟩
            replace h := h x78 ex78
            refine zx_iinc (v := x78) (lv' := [(9, .int x78), (8, .int r77), (7, .int x_7), (0, .ref (g 223)), (3, .int x_3), (4, .int x_4), (5, .int x_5), (6, .int x_6)]) C dX10_bid_187 7 rfl (by rw [ex78]; rfl) (by decide) rfl ?_
            refine zx_goto C 97 dX10_bid_190 (by decide) ?_
            refine zx_lv (lv' := [(0, .ref (g 223)), (3, .int x_3), (4, .int x_4), (5, .int x_5), (6, .int x_6), (7, .int x_7), (8, .int r77), (9, .int x78)]) [3, 4, 5, 6, 7, 2, 1, 0] rfl ?_
            exact ih x_7 r77 x78 σ76 h
          · replace h := h.2 q
            refine zx_iload C dX10_bid_165 7 rfl ?_
            refine zx_goto C 172 dX10_bid_167 (by decide) ?_
            refine zx_istore (lv' := [(7, .int x_9), (0, .ref (g 223)), (3, .int x_3), (4, .int x_4), (5, .int x_5), (6, .int x_6), (8, .int x_8), (9, .int x_9)]) C dX10_bid_172 (by decide) rfl ?_
            refine zx_iload C dX10_bid_174 6 rfl ?_
            refine zx_aload_n C dX10_bid_176 1 rfl ?_
            refine zx_getR C zs_223 fg_X10_68 rfl 243 rfl dX10_bid_177 ?_
            refine zx_iload_n C dX10_bid_180 2 rfl ?_
            obtain ⟨bd79, h⟩ := h
            refine zx_iald C (x_3).toNatClampNeg zs_243 bd79 rfl dX10_bid_181 ?_
            refine zx_cSi C [.int x_8, .int (σ73.1 243 (x_3).toNatClampNeg)] lk_X10_160 (c_X10_greater l D cy g x_8 (σ73.1 243 (x_3).toNatClampNeg)  σ73 h) ⟨by decide, by decide⟩ ⟨rfl, rfl⟩ ⟨Nat.zero_le _, Nat.zero_le _⟩ rfl rfl (Nat.le_of_ble_eq_true rfl) dX10_bid_182 (fun r81 σ80 h => ?_)
            refine zx_istore (lv' := [(8, .int r81), (7, .int x_9), (0, .ref (g 223)), (3, .int x_3), (4, .int x_4), (5, .int x_5), (6, .int x_6), (9, .int x_9)]) C dX10_bid_185 (by decide) rfl ?_
            obtain ⟨x82, ex82⟩ : ∃ y : Int32, y = (x_9 + (1 : Int32)) := ⟨_, rfl⟩
            replace h := h x82 ex82
            refine zx_iinc (v := x82) (lv' := [(9, .int x82), (8, .int r81), (7, .int x_9), (0, .ref (g 223)), (3, .int x_3), (4, .int x_4), (5, .int x_5), (6, .int x_6)]) C dX10_bid_187 7 rfl (by rw [ex82]; rfl) (by decide) rfl ?_
            refine zx_goto C 97 dX10_bid_190 (by decide) ?_
            refine zx_lv (lv' := [(0, .ref (g 223)), (3, .int x_3), (4, .int x_4), (5, .int x_5), (6, .int x_6), (7, .int x_9), (8, .int r81), (9, .int x82)]) [3, 4, 5, 6, 7, 2, 1, 0] rfl ?_
            exact ih x_9 r81 x82 σ80 h
        · replace h := h.2 q
          refine zx_iconst (v := (3 : Int32)) C dX10_bid_141 (by decide) ?_
          refine zx_goto C 146 dX10_bid_142 (by decide) ?_
          refine zx_iconst (v := (0 : Int32)) C dX10_bid_146 (by decide) ?_
          refine zx_aload_n C dX10_bid_147 0 rfl ?_
          refine zx_cVi C [] lk_X10_307 (c_X10_everyone l D cy g   σ70 h) zs_223 rfl ⟨by decide, by decide⟩ ⟨rfl, rfl⟩ ⟨Nat.zero_le _, Nat.zero_le _⟩ rfl rfl (Nat.le_of_ble_eq_true rfl) dX10_bid_148 (fun r84 σ83 h => ?_)
          refine zx_cVv C [.int (3 : Int32), .int (0 : Int32), .int r84] lk_X10_310 (c_X10_go l D cy g (3 : Int32) (0 : Int32) r84  σ83 h) zs_223 rfl ⟨by decide, by decide⟩ ⟨rfl, rfl⟩ ⟨Nat.zero_le _, Nat.zero_le _⟩ rfl rfl (Nat.le_of_ble_eq_true rfl) dX10_bid_151 (fun σ85 h => ?_)
          refine zx_aload_n C dX10_bid_154 0 rfl ?_
          refine zx_getR C zs_223 fg_X10_68 rfl 243 rfl dX10_bid_155 ?_
          refine zx_iload_n C dX10_bid_158 1 rfl ?_
          obtain ⟨bd86, h⟩ := h
          refine zx_iald C (x_3).toNatClampNeg zs_243 bd86 rfl dX10_bid_159 ?_
          refine zx_iload C dX10_bid_160 6 rfl ?_
          refine zx_icmp_le C 170 dX10_bid_162 (by decide) (fun q => ?_) (fun q => ?_)
          · replace h := h.1 q
            refine zx_iload C dX10_bid_170 5 rfl ?_
            refine zx_istore (lv' := [(7, .int x_7), (0, .ref (g 223)), (3, .int x_3), (4, .int x_4), (5, .int x_5), (6, .int x_6), (8, .int x_8), (9, .int x_9)]) C dX10_bid_172 (by decide) rfl ?_
            refine zx_iload C dX10_bid_174 6 rfl ?_
            refine zx_aload_n C dX10_bid_176 1 rfl ?_
            refine zx_getR C zs_223 fg_X10_68 rfl 243 rfl dX10_bid_177 ?_
            refine zx_iload_n C dX10_bid_180 2 rfl ?_
            obtain ⟨bd87, h⟩ := h
            refine zx_iald C (x_3).toNatClampNeg zs_243 bd87 rfl dX10_bid_181 ?_
            refine zx_cSi C [.int x_8, .int (σ85.1 243 (x_3).toNatClampNeg)] lk_X10_160 (c_X10_greater l D cy g x_8 (σ85.1 243 (x_3).toNatClampNeg)  σ85 h) ⟨by decide, by decide⟩ ⟨rfl, rfl⟩ ⟨Nat.zero_le _, Nat.zero_le _⟩ rfl rfl (Nat.le_of_ble_eq_true rfl) dX10_bid_182 (fun r89 σ88 h => ?_)
            refine zx_istore (lv' := [(8, .int r89), (7, .int x_7), (0, .ref (g 223)), (3, .int x_3), (4, .int x_4), (5, .int x_5), (6, .int x_6), (9, .int x_9)]) C dX10_bid_185 (by decide) rfl ?_
            obtain ⟨x90, ex90⟩ : ∃ y : Int32, y = (x_9 + (1 : Int32)) := ⟨_, rfl⟩
            replace h := h x90 ex90
            refine zx_iinc (v := x90) (lv' := [(9, .int x90), (8, .int r89), (7, .int x_7), (0, .ref (g 223)), (3, .int x_3), (4, .int x_4), (5, .int x_5), (6, .int x_6)]) C dX10_bid_187 7 rfl (by rw [ex90]; rfl) (by decide) rfl ?_
            refine zx_goto C 97 dX10_bid_190 (by decide) ?_
            refine zx_lv (lv' := [(0, .ref (g 223)), (3, .int x_3), (4, .int x_4), (5, .int x_5), (6, .int x_6), (7, .int x_7), (8, .int r89), (9, .int x90)]) [3, 4, 5, 6, 7, 2, 1, 0] rfl ?_
            exact ih x_7 r89 x90 σ88 h
          · replace h := h.2 q
            refine zx_iload C dX10_bid_165 7 rfl ?_
            refine zx_goto C 172 dX10_bid_167 (by decide) ?_
            refine zx_istore (lv' := [(7, .int x_9), (0, .ref (g 223)), (3, .int x_3), (4, .int x_4), (5, .int x_5), (6, .int x_6), (8, .int x_8), (9, .int x_9)]) C dX10_bid_172 (by decide) rfl ?_
            refine zx_iload C dX10_bid_174 6 rfl ?_
            refine zx_aload_n C dX10_bid_176 1 rfl ?_
            refine zx_getR C zs_223 fg_X10_68 rfl 243 rfl dX10_bid_177 ?_
            refine zx_iload_n C dX10_bid_180 2 rfl ?_
            obtain ⟨bd91, h⟩ := h
            refine zx_iald C (x_3).toNatClampNeg zs_243 bd91 rfl dX10_bid_181 ?_
            refine zx_cSi C [.int x_8, .int (σ85.1 243 (x_3).toNatClampNeg)] lk_X10_160 (c_X10_greater l D cy g x_8 (σ85.1 243 (x_3).toNatClampNeg)  σ85 h) ⟨by decide, by decide⟩ ⟨rfl, rfl⟩ ⟨Nat.zero_le _, Nat.zero_le _⟩ rfl rfl (Nat.le_of_ble_eq_true rfl) dX10_bid_182 (fun r93 σ92 h => ?_)
            refine zx_istore (lv' := [(8, .int r93), (7, .int x_9), (0, .ref (g 223)), (3, .int x_3), (4, .int x_4), (5, .int x_5), (6, .int x_6), (9, .int x_9)]) C dX10_bid_185 (by decide) rfl ?_
            obtain ⟨x94, ex94⟩ : ∃ y : Int32, y = (x_9 + (1 : Int32)) := ⟨_, rfl⟩
            replace h := h x94 ex94
            refine zx_iinc (v := x94) (lv' := [(9, .int x94), (8, .int r93), (7, .int x_9), (0, .ref (g 223)), (3, .int x_3), (4, .int x_4), (5, .int x_5), (6, .int x_6)]) C dX10_bid_187 7 rfl (by rw [ex94]; rfl) (by decide) rfl ?_
            refine zx_goto C 97 dX10_bid_190 (by decide) ?_
            refine zx_lv (lv' := [(0, .ref (g 223)), (3, .int x_3), (4, .int x_4), (5, .int x_5), (6, .int x_6), (7, .int x_9), (8, .int r93), (9, .int x94)]) [3, 4, 5, 6, 7, 2, 1, 0] rfl ?_
            exact ih x_9 r93 x94 σ92 h
set_option maxRecDepth 100000 in
set_option maxHeartbeats 4000000 in
theorem c_X10_bid (l : Launch) (D : va_G) (cy : Nat → ClassId) (g : Nat → Nat) (a1 : Int32) (a2 : Int32) (a3 : Int32) (a4 : Int32)  (σ : zSto) {P : Int32 → zSto → Prop} (h : w_X10_bid a1 a2 a3 a4 σ P) : zMi l yX10_bid cX10_bid 10 (some .int) (zrm 6 139) D cy g [.ref (g 223), .int a1, .int a2, .int a3, .int a4] σ P := by
  unfold w_X10_bid at h
  refine zm_i RX10 rfl (by decide +kernel) (Nat.le_of_ble_eq_true rfl) ?_
  intro p e s m below meth c C hr
  refine zx_lv (lv' := [(0, .ref (g 223)), (1, .int a1), (2, .int a2), (3, .int a3), (4, .int a4)]) [0, 1, 2, 3, 4] rfl ?_
  refine zx_aload_n C dX10_bid_0 0 rfl ?_
  refine zx_iconst (v := (0 : Int32)) C dX10_bid_1 (by decide) ?_
  refine zx_putI C zs_223 fp_X10_91 rfl dX10_bid_2 ?_
  refine zx_sig (fun σ1 eσ1 => ?_)
  replace h := h σ1 eσ1
  refine zx_iload C dX10_bid_5 4 rfl ?_
  refine zx_iconst (v := (0 : Int32)) C dX10_bid_7 (by decide) ?_
  refine zx_iconst (v := (2 : Int32)) C dX10_bid_8 (by decide) ?_
  refine zx_cSb C [.int a4, .int (0 : Int32), .int (2 : Int32)] lk_X10_103 (c_X10_in l D cy g a4 (0 : Int32) (2 : Int32)  σ1 h) ⟨by decide, by decide⟩ ⟨rfl, rfl⟩ ⟨Nat.zero_le _, Nat.zero_le _⟩ rfl rfl (Nat.le_of_ble_eq_true rfl) dX10_bid_9 (fun r3 σ2 hb h => ?_)
  replace h := h hb
  refine zx_if_eq C 32 dX10_bid_12 (by decide) (fun q => ?_) (fun q => ?_)
  · replace h := h.1 q
    refine zx_iconst (v := (-1 : Int32)) C dX10_bid_32 (by decide) ?_
    exact zx_iret C hr dX10_bid_33 h
  · replace h := h.2 q
    refine zx_aload_n C dX10_bid_15 0 rfl ?_
    refine zx_iload_n C dX10_bid_16 1 rfl ?_
    refine zx_iload_n C dX10_bid_17 2 rfl ?_
    refine zx_cVb C [.int a1, .int a2] lk_X10_257 (c_X10_hand l D cy g a1 a2  σ2 h) zs_223 rfl ⟨by decide, by decide⟩ ⟨rfl, rfl⟩ ⟨Nat.zero_le _, Nat.zero_le _⟩ rfl rfl (Nat.le_of_ble_eq_true rfl) dX10_bid_18 (fun r5 σ4 hb h => ?_)
    replace h := h hb
    refine zx_if_eq C 32 dX10_bid_21 (by decide) (fun q => ?_) (fun q => ?_)
    · replace h := h.1 q
      refine zx_iconst (v := (-1 : Int32)) C dX10_bid_32 (by decide) ?_
      exact zx_iret C hr dX10_bid_33 h
    · replace h := h.2 q
      refine zx_aload_n C dX10_bid_24 0 rfl ?_
      refine zx_iload_n C dX10_bid_25 3 rfl ?_
      refine zx_cVb C [.int a3] lk_X10_263 (c_X10_isRider l D cy g a3  σ4 h) zs_223 rfl ⟨by decide, by decide⟩ ⟨rfl, rfl⟩ ⟨Nat.zero_le _, Nat.zero_le _⟩ rfl rfl (Nat.le_of_ble_eq_true rfl) dX10_bid_26 (fun r7 σ6 hb h => ?_)
      replace h := h hb
      refine zx_if_ne C 34 dX10_bid_29 (by decide) (fun q => ?_) (fun q => ?_)
      · replace h := h.1 q
        refine zx_bipush (v := (123 : Int32)) C dX10_bid_34 (by decide) ?_
        refine zx_iload_n C dX10_bid_36 1 rfl ?_
        refine zx_imul C dX10_bid_37 ?_
        refine zx_bipush (v := (87 : Int32)) C dX10_bid_38 (by decide) ?_
        refine zx_iadd C dX10_bid_40 ?_
        refine zx_bipush (v := (6 : Int32)) C dX10_bid_41 (by decide) ?_
        refine zx_iload_n C dX10_bid_43 3 rfl ?_
        refine zx_imul C dX10_bid_44 ?_
        refine zx_iadd C dX10_bid_45 ?_
        refine zx_iload C dX10_bid_46 4 rfl ?_
        refine zx_if_ne C 55 dX10_bid_48 (by decide) (fun q => ?_) (fun q => ?_)
        · replace h := h.1 q
          refine zx_iload C dX10_bid_55 4 rfl ?_
          refine zx_iconst (v := (1 : Int32)) C dX10_bid_57 (by decide) ?_
          refine zx_icmp_ne C 65 dX10_bid_58 (by decide) (fun q => ?_) (fun q => ?_)
          · replace h := h.1 q
            refine zx_iconst (v := (4 : Int32)) C dX10_bid_65 (by decide) ?_
            refine zx_iadd C dX10_bid_66 ?_
            refine zx_topi (fun x8 ex8 => ?_)
            replace h := h x8 ex8
            refine zx_istore (lv' := [(5, .int x8), (0, .ref (g 223)), (1, .int a1), (2, .int a2), (3, .int a3), (4, .int a4)]) C dX10_bid_67 (by decide) rfl ?_
            refine zx_aload_n C dX10_bid_69 1 rfl ?_
            refine zx_getR C zs_223 fg_X10_26 rfl 229 rfl dX10_bid_70 ?_
            refine zx_iload C dX10_bid_73 0 rfl ?_
            obtain ⟨bd9, h⟩ := h
            refine zx_iald C (x8).toNatClampNeg zs_229 bd9 rfl dX10_bid_75 ?_
            refine zx_topi (fun x10 ex10 => ?_)
            replace h := h x10 ex10
            refine zx_istore (lv' := [(6, .int x10), (5, .int x8), (0, .ref (g 223)), (1, .int a1), (2, .int a2), (3, .int a3), (4, .int a4)]) C dX10_bid_76 (by decide) rfl ?_
            refine zx_iconst (v := (-1 : Int32)) C dX10_bid_78 (by decide) ?_
            refine zx_istore (lv' := [(7, .int (-1 : Int32)), (6, .int x10), (5, .int x8), (0, .ref (g 223)), (1, .int a1), (2, .int a2), (3, .int a3), (4, .int a4)]) C dX10_bid_79 (by decide) rfl ?_
            refine zx_iconst (v := (-1 : Int32)) C dX10_bid_81 (by decide) ?_
            refine zx_istore (lv' := [(8, .int (-1 : Int32)), (7, .int (-1 : Int32)), (6, .int x10), (5, .int x8), (0, .ref (g 223)), (1, .int a1), (2, .int a2), (3, .int a3), (4, .int a4)]) C dX10_bid_82 (by decide) rfl ?_
            refine zx_iload C dX10_bid_84 8 rfl ?_
            refine zx_iconst (v := (1 : Int32)) C dX10_bid_86 (by decide) ?_
            refine zx_icmp_ne C 94 dX10_bid_87 (by decide) (fun q => ?_) (fun q => ?_)
            · replace h := h.1 q
              refine zx_iconst (v := (0 : Int32)) C dX10_bid_94 (by decide) ?_
              refine zx_istore (lv' := [(9, .int (0 : Int32)), (8, .int (-1 : Int32)), (7, .int (-1 : Int32)), (6, .int x10), (5, .int x8), (0, .ref (g 223)), (1, .int a1), (2, .int a2), (3, .int a3), (4, .int a4)]) C dX10_bid_95 (by decide) rfl ?_
              obtain ⟨n, h⟩ := h
              refine zx_lv (lv' := [(0, .ref (g 223)), (3, .int a3), (4, .int a4), (5, .int x8), (6, .int x10), (7, .int (-1 : Int32)), (8, .int (-1 : Int32)), (9, .int (0 : Int32))]) [5, 8, 9, 4, 3, 2, 1, 0] rfl ?_
              exact k_X10_bid_97 C hr (a3) (a4) (x8) (x10)   n (-1 : Int32) (-1 : Int32) (0 : Int32) σ6 h
            · replace h := h.2 q
              refine zx_iconst (v := (1 : Int32)) C dX10_bid_90 (by decide) ?_
              refine zx_goto C 95 dX10_bid_91 (by decide) ?_
              refine zx_istore (lv' := [(9, .int (1 : Int32)), (8, .int (-1 : Int32)), (7, .int (-1 : Int32)), (6, .int x10), (5, .int x8), (0, .ref (g 223)), (1, .int a1), (2, .int a2), (3, .int a3), (4, .int a4)]) C dX10_bid_95 (by decide) rfl ?_
              obtain ⟨n, h⟩ := h
              refine zx_lv (lv' := [(0, .ref (g 223)), (3, .int a3), (4, .int a4), (5, .int x8), (6, .int x10), (7, .int (-1 : Int32)), (8, .int (-1 : Int32)), (9, .int (1 : Int32))]) [5, 8, 9, 4, 3, 2, 1, 0] rfl ?_
              exact k_X10_bid_97 C hr (a3) (a4) (x8) (x10)   n (-1 : Int32) (-1 : Int32) (1 : Int32) σ6 h
          · replace h := h.2 q
            refine zx_iconst (v := (2 : Int32)) C dX10_bid_61 (by decide) ?_
            refine zx_goto C 66 dX10_bid_62 (by decide) ?_
            refine zx_iadd C dX10_bid_66 ?_
            refine zx_topi (fun x95 ex95 => ?_)
            replace h := h x95 ex95
            refine zx_istore (lv' := [(5, .int x95), (0, .ref (g 223)), (1, .int a1), (2, .int a2), (3, .int a3), (4, .int a4)]) C dX10_bid_67 (by decide) rfl ?_
            refine zx_aload_n C dX10_bid_69 1 rfl ?_
            refine zx_getR C zs_223 fg_X10_26 rfl 229 rfl dX10_bid_70 ?_
            refine zx_iload C dX10_bid_73 0 rfl ?_
            obtain ⟨bd96, h⟩ := h
            refine zx_iald C (x95).toNatClampNeg zs_229 bd96 rfl dX10_bid_75 ?_
            refine zx_topi (fun x97 ex97 => ?_)
            replace h := h x97 ex97
            refine zx_istore (lv' := [(6, .int x97), (5, .int x95), (0, .ref (g 223)), (1, .int a1), (2, .int a2), (3, .int a3), (4, .int a4)]) C dX10_bid_76 (by decide) rfl ?_
            refine zx_iconst (v := (-1 : Int32)) C dX10_bid_78 (by decide) ?_
            refine zx_istore (lv' := [(7, .int (-1 : Int32)), (6, .int x97), (5, .int x95), (0, .ref (g 223)), (1, .int a1), (2, .int a2), (3, .int a3), (4, .int a4)]) C dX10_bid_79 (by decide) rfl ?_
            refine zx_iconst (v := (-1 : Int32)) C dX10_bid_81 (by decide) ?_
            refine zx_istore (lv' := [(8, .int (-1 : Int32)), (7, .int (-1 : Int32)), (6, .int x97), (5, .int x95), (0, .ref (g 223)), (1, .int a1), (2, .int a2), (3, .int a3), (4, .int a4)]) C dX10_bid_82 (by decide) rfl ?_
            refine zx_iload C dX10_bid_84 8 rfl ?_
            refine zx_iconst (v := (1 : Int32)) C dX10_bid_86 (by decide) ?_
            refine zx_icmp_ne C 94 dX10_bid_87 (by decide) (fun q => ?_) (fun q => ?_)
            · replace h := h.1 q
              refine zx_iconst (v := (0 : Int32)) C dX10_bid_94 (by decide) ?_
              refine zx_istore (lv' := [(9, .int (0 : Int32)), (8, .int (-1 : Int32)), (7, .int (-1 : Int32)), (6, .int x97), (5, .int x95), (0, .ref (g 223)), (1, .int a1), (2, .int a2), (3, .int a3), (4, .int a4)]) C dX10_bid_95 (by decide) rfl ?_
              obtain ⟨n, h⟩ := h
              refine zx_lv (lv' := [(0, .ref (g 223)), (3, .int a3), (4, .int a4), (5, .int x95), (6, .int x97), (7, .int (-1 : Int32)), (8, .int (-1 : Int32)), (9, .int (0 : Int32))]) [5, 8, 9, 4, 3, 2, 1, 0] rfl ?_
              exact k_X10_bid_97 C hr (a3) (a4) (x95) (x97)   n (-1 : Int32) (-1 : Int32) (0 : Int32) σ6 h
            · replace h := h.2 q
              refine zx_iconst (v := (1 : Int32)) C dX10_bid_90 (by decide) ?_
              refine zx_goto C 95 dX10_bid_91 (by decide) ?_
              refine zx_istore (lv' := [(9, .int (1 : Int32)), (8, .int (-1 : Int32)), (7, .int (-1 : Int32)), (6, .int x97), (5, .int x95), (0, .ref (g 223)), (1, .int a1), (2, .int a2), (3, .int a3), (4, .int a4)]) C dX10_bid_95 (by decide) rfl ?_
              obtain ⟨n, h⟩ := h
              refine zx_lv (lv' := [(0, .ref (g 223)), (3, .int a3), (4, .int a4), (5, .int x95), (6, .int x97), (7, .int (-1 : Int32)), (8, .int (-1 : Int32)), (9, .int (1 : Int32))]) [5, 8, 9, 4, 3, 2, 1, 0] rfl ?_
              exact k_X10_bid_97 C hr (a3) (a4) (x95) (x97)   n (-1 : Int32) (-1 : Int32) (1 : Int32) σ6 h
        · replace h := h.2 q
          refine zx_iconst (v := (5 : Int32)) C dX10_bid_51 (by decide) ?_
          refine zx_goto C 66 dX10_bid_52 (by decide) ?_
          refine zx_iadd C dX10_bid_66 ?_
          refine zx_topi (fun x98 ex98 => ?_)
          replace h := h x98 ex98
          refine zx_istore (lv' := [(5, .int x98), (0, .ref (g 223)), (1, .int a1), (2, .int a2), (3, .int a3), (4, .int a4)]) C dX10_bid_67 (by decide) rfl ?_
          refine zx_aload_n C dX10_bid_69 1 rfl ?_
          refine zx_getR C zs_223 fg_X10_26 rfl 229 rfl dX10_bid_70 ?_
          refine zx_iload C dX10_bid_73 0 rfl ?_
          obtain ⟨bd99, h⟩ := h
          refine zx_iald C (x98).toNatClampNeg zs_229 bd99 rfl dX10_bid_75 ?_
          refine zx_topi (fun x100 ex100 => ?_)
          replace h := h x100 ex100
          refine zx_istore (lv' := [(6, .int x100), (5, .int x98), (0, .ref (g 223)), (1, .int a1), (2, .int a2), (3, .int a3), (4, .int a4)]) C dX10_bid_76 (by decide) rfl ?_
          refine zx_iconst (v := (-1 : Int32)) C dX10_bid_78 (by decide) ?_
          refine zx_istore (lv' := [(7, .int (-1 : Int32)), (6, .int x100), (5, .int x98), (0, .ref (g 223)), (1, .int a1), (2, .int a2), (3, .int a3), (4, .int a4)]) C dX10_bid_79 (by decide) rfl ?_
          refine zx_iconst (v := (-1 : Int32)) C dX10_bid_81 (by decide) ?_
          refine zx_istore (lv' := [(8, .int (-1 : Int32)), (7, .int (-1 : Int32)), (6, .int x100), (5, .int x98), (0, .ref (g 223)), (1, .int a1), (2, .int a2), (3, .int a3), (4, .int a4)]) C dX10_bid_82 (by decide) rfl ?_
          refine zx_iload C dX10_bid_84 8 rfl ?_
          refine zx_iconst (v := (1 : Int32)) C dX10_bid_86 (by decide) ?_
          refine zx_icmp_ne C 94 dX10_bid_87 (by decide) (fun q => ?_) (fun q => ?_)
          · replace h := h.1 q
            refine zx_iconst (v := (0 : Int32)) C dX10_bid_94 (by decide) ?_
            refine zx_istore (lv' := [(9, .int (0 : Int32)), (8, .int (-1 : Int32)), (7, .int (-1 : Int32)), (6, .int x100), (5, .int x98), (0, .ref (g 223)), (1, .int a1), (2, .int a2), (3, .int a3), (4, .int a4)]) C dX10_bid_95 (by decide) rfl ?_
            obtain ⟨n, h⟩ := h
            refine zx_lv (lv' := [(0, .ref (g 223)), (3, .int a3), (4, .int a4), (5, .int x98), (6, .int x100), (7, .int (-1 : Int32)), (8, .int (-1 : Int32)), (9, .int (0 : Int32))]) [5, 8, 9, 4, 3, 2, 1, 0] rfl ?_
            exact k_X10_bid_97 C hr (a3) (a4) (x98) (x100)   n (-1 : Int32) (-1 : Int32) (0 : Int32) σ6 h
          · replace h := h.2 q
            refine zx_iconst (v := (1 : Int32)) C dX10_bid_90 (by decide) ?_
            refine zx_goto C 95 dX10_bid_91 (by decide) ?_
            refine zx_istore (lv' := [(9, .int (1 : Int32)), (8, .int (-1 : Int32)), (7, .int (-1 : Int32)), (6, .int x100), (5, .int x98), (0, .ref (g 223)), (1, .int a1), (2, .int a2), (3, .int a3), (4, .int a4)]) C dX10_bid_95 (by decide) rfl ?_
            obtain ⟨n, h⟩ := h
            refine zx_lv (lv' := [(0, .ref (g 223)), (3, .int a3), (4, .int a4), (5, .int x98), (6, .int x100), (7, .int (-1 : Int32)), (8, .int (-1 : Int32)), (9, .int (1 : Int32))]) [5, 8, 9, 4, 3, 2, 1, 0] rfl ?_
            exact k_X10_bid_97 C hr (a3) (a4) (x98) (x100)   n (-1 : Int32) (-1 : Int32) (1 : Int32) σ6 h
      · replace h := h.2 q
        refine zx_iconst (v := (-1 : Int32)) C dX10_bid_32 (by decide) ?_
        exact zx_iret C hr dX10_bid_33 h
def w_X10_count (a1 : Int32) (σ : zSto) (P : Int32 → zSto → Prop) : Prop := (∀ σ1 : zSto, σ1 = zI σ 223 0 (0 : Int32) → (w_X10_in a1 (0 : Int32) (2 : Int32) σ1 (fun (r3 : Int32) (σ2 : zSto) => (r3 = 0 ∨ r3 = 1) → ((r3 = 0 → P (-2 : Int32) σ2) ∧ (¬ r3 = 0 → (vp_in a1 12 ∧ P (σ2.1 228 (a1).toNatClampNeg) σ2))))))
set_option maxRecDepth 100000 in
set_option maxHeartbeats 4000000 in
theorem c_X10_count (l : Launch) (D : va_G) (cy : Nat → ClassId) (g : Nat → Nat) (a1 : Int32)  (σ : zSto) {P : Int32 → zSto → Prop} (h : w_X10_count a1 σ P) : zMi l yX10_count cX10_count 2 (some .int) (zrm 1 22) D cy g [.ref (g 223), .int a1] σ P := by
  unfold w_X10_count at h
  refine zm_i RX10 rfl (by decide +kernel) (Nat.le_of_ble_eq_true rfl) ?_
  intro p e s m below meth c C hr
  refine zx_lv (lv' := [(0, .ref (g 223)), (1, .int a1)]) [0, 1] rfl ?_
  refine zx_aload_n C dX10_count_0 0 rfl ?_
  refine zx_iconst (v := (0 : Int32)) C dX10_count_1 (by decide) ?_
  refine zx_putI C zs_223 fp_X10_91 rfl dX10_count_2 ?_
  refine zx_sig (fun σ1 eσ1 => ?_)
  replace h := h σ1 eσ1
  refine zx_iload_n C dX10_count_5 1 rfl ?_
  refine zx_iconst (v := (0 : Int32)) C dX10_count_6 (by decide) ?_
  refine zx_iconst (v := (2 : Int32)) C dX10_count_7 (by decide) ?_
  refine zx_cSb C [.int a1, .int (0 : Int32), .int (2 : Int32)] lk_X10_103 (c_X10_in l D cy g a1 (0 : Int32) (2 : Int32)  σ1 h) ⟨by decide, by decide⟩ ⟨rfl, rfl⟩ ⟨Nat.zero_le _, Nat.zero_le _⟩ rfl rfl (Nat.le_of_ble_eq_true rfl) dX10_count_8 (fun r3 σ2 hb h => ?_)
  replace h := h hb
  refine zx_if_eq C 23 dX10_count_11 (by decide) (fun q => ?_) (fun q => ?_)
  · replace h := h.1 q
    refine zx_bipush (v := (-2 : Int32)) C dX10_count_23 (by decide) ?_
    exact zx_iret C hr dX10_count_25 h
  · replace h := h.2 q
    refine zx_aload_n C dX10_count_14 0 rfl ?_
    refine zx_getR C zs_223 fg_X10_23 rfl 228 rfl dX10_count_15 ?_
    refine zx_iload_n C dX10_count_18 1 rfl ?_
    obtain ⟨bd4, h⟩ := h
    refine zx_iald C (a1).toNatClampNeg zs_228 bd4 rfl dX10_count_19 ?_
    refine zx_goto C 25 dX10_count_20 (by decide) ?_
    exact zx_iret C hr dX10_count_25 h
theorem lk_X10_425 : zLV RX10 425 RX10 yX10_copyAll cX10_copyAll 4 none 2 := zLV_of ml_X10_425 im_X10_copyAll se_X10_copyAll ini_X10 cd_X10_copyAll (by decide +kernel)
theorem fg_X10_88 : zFG RX10 88 10 49 := ⟨RX10, TX10, 50, rfl, lay_X10, by decide, fl_X10_88⟩
def w_X10_image (a1 : Int32) (σ : zSto) (P : Int32 → zSto → Prop) : Prop := (∀ σ1 : zSto, σ1 = zI σ 223 0 (0 : Int32) → (w_X10_in a1 (0 : Int32) (2 : Int32) σ1 (fun (r3 : Int32) (σ2 : zSto) => (r3 = 0 ∨ r3 = 1) → ((¬ r3 = 0 → (w_X10_copyAll (0 : Int32) (a1 + (1 : Int32)) σ2 (fun (σ4 : zSto) => (vp_in a1 3 ∧ (∀ σ6 : zSto, σ6 = zI σ4 249 (a1).toNatClampNeg (vp_nar .boolean (1 : Int32)) → P (1 : Int32) σ6))))) ∧ (r3 = 0 → P (0 : Int32) σ2)))))
set_option maxRecDepth 100000 in
set_option maxHeartbeats 4000000 in
theorem c_X10_image (l : Launch) (D : va_G) (cy : Nat → ClassId) (g : Nat → Nat) (a1 : Int32)  (σ : zSto) {P : Int32 → zSto → Prop} (h : w_X10_image a1 σ P) : zMb l yX10_image cX10_image 2 (some .boolean) (zrm 2 47) D cy g [.ref (g 223), .int a1] σ P := by
  unfold w_X10_image at h
  refine zm_b RX10 rfl (by decide +kernel) (Nat.le_of_ble_eq_true rfl) ?_
  intro p e s m below meth c C hr
  refine zx_lv (lv' := [(0, .ref (g 223)), (1, .int a1)]) [0, 1] rfl ?_
  refine zx_aload_n C dX10_image_0 0 rfl ?_
  refine zx_iconst (v := (0 : Int32)) C dX10_image_1 (by decide) ?_
  refine zx_putI C zs_223 fp_X10_91 rfl dX10_image_2 ?_
  refine zx_sig (fun σ1 eσ1 => ?_)
  replace h := h σ1 eσ1
  refine zx_iload_n C dX10_image_5 1 rfl ?_
  refine zx_iconst (v := (0 : Int32)) C dX10_image_6 (by decide) ?_
  refine zx_iconst (v := (2 : Int32)) C dX10_image_7 (by decide) ?_
  refine zx_cSb C [.int a1, .int (0 : Int32), .int (2 : Int32)] lk_X10_103 (c_X10_in l D cy g a1 (0 : Int32) (2 : Int32)  σ1 h) ⟨by decide, by decide⟩ ⟨rfl, rfl⟩ ⟨Nat.zero_le _, Nat.zero_le _⟩ rfl rfl (Nat.le_of_ble_eq_true rfl) dX10_image_8 (fun r3 σ2 hb h => ?_)
  replace h := h hb
  refine zx_if_ne C 16 dX10_image_11 (by decide) (fun q => ?_) (fun q => ?_)
  · replace h := h.1 q
    refine zx_aload_n C dX10_image_16 0 rfl ?_
    refine zx_iconst (v := (0 : Int32)) C dX10_image_17 (by decide) ?_
    refine zx_iload_n C dX10_image_18 1 rfl ?_
    refine zx_iconst (v := (1 : Int32)) C dX10_image_19 (by decide) ?_
    refine zx_iadd C dX10_image_20 ?_
    refine zx_cVv C [.int (0 : Int32), .int (a1 + (1 : Int32))] lk_X10_425 (c_X10_copyAll l D cy g (0 : Int32) (a1 + (1 : Int32))  σ2 h) zs_223 rfl ⟨by decide, by decide⟩ ⟨rfl, rfl⟩ ⟨Nat.zero_le _, Nat.zero_le _⟩ rfl rfl (Nat.le_of_ble_eq_true rfl) dX10_image_21 (fun σ4 h => ?_)
    refine zx_aload_n C dX10_image_24 0 rfl ?_
    refine zx_getR C zs_223 fg_X10_88 rfl 249 rfl dX10_image_25 ?_
    refine zx_iload_n C dX10_image_28 1 rfl ?_
    refine zx_iconst (v := (1 : Int32)) C dX10_image_29 (by decide) ?_
    obtain ⟨bd5, h⟩ := h
    refine zx_zast C (a1).toNatClampNeg zs_249 bd5 rfl dX10_image_30 ?_
    refine zx_sig (fun σ6 eσ6 => ?_)
    replace h := h σ6 eσ6
    refine zx_iconst (v := (1 : Int32)) C dX10_image_31 (by decide) ?_
    exact zx_zret C hr dX10_image_32 (Or.inr rfl) h
  · replace h := h.2 q
    refine zx_iconst (v := (0 : Int32)) C dX10_image_14 (by decide) ?_
    exact zx_zret C hr dX10_image_15 (Or.inl rfl) h
def w_X10_again (a1 : Int32) (σ : zSto) (P : Int32 → zSto → Prop) : Prop := (∀ σ1 : zSto, σ1 = zI σ 223 0 (0 : Int32) → (w_X10_in a1 (0 : Int32) (2 : Int32) σ1 (fun (r3 : Int32) (σ2 : zSto) => (r3 = 0 ∨ r3 = 1) → ((r3 = 0 → P (0 : Int32) σ2) ∧ (¬ r3 = 0 → (vp_in a1 3 ∧ ((¬ (σ2.1 249 (a1).toNatClampNeg) = 0 → (w_X10_copyAll (a1 + (1 : Int32)) (0 : Int32) σ2 (fun (σ5 : zSto) => P (1 : Int32) σ5))) ∧ ((σ2.1 249 (a1).toNatClampNeg) = 0 → P (0 : Int32) σ2))))))))
set_option maxRecDepth 100000 in
set_option maxHeartbeats 4000000 in
theorem c_X10_again (l : Launch) (D : va_G) (cy : Nat → ClassId) (g : Nat → Nat) (a1 : Int32)  (σ : zSto) {P : Int32 → zSto → Prop} (h : w_X10_again a1 σ P) : zMb l yX10_again cX10_again 2 (some .boolean) (zrm 2 47) D cy g [.ref (g 223), .int a1] σ P := by
  unfold w_X10_again at h
  refine zm_b RX10 rfl (by decide +kernel) (Nat.le_of_ble_eq_true rfl) ?_
  intro p e s m below meth c C hr
  refine zx_lv (lv' := [(0, .ref (g 223)), (1, .int a1)]) [0, 1] rfl ?_
  refine zx_aload_n C dX10_again_0 0 rfl ?_
  refine zx_iconst (v := (0 : Int32)) C dX10_again_1 (by decide) ?_
  refine zx_putI C zs_223 fp_X10_91 rfl dX10_again_2 ?_
  refine zx_sig (fun σ1 eσ1 => ?_)
  replace h := h σ1 eσ1
  refine zx_iload_n C dX10_again_5 1 rfl ?_
  refine zx_iconst (v := (0 : Int32)) C dX10_again_6 (by decide) ?_
  refine zx_iconst (v := (2 : Int32)) C dX10_again_7 (by decide) ?_
  refine zx_cSb C [.int a1, .int (0 : Int32), .int (2 : Int32)] lk_X10_103 (c_X10_in l D cy g a1 (0 : Int32) (2 : Int32)  σ1 h) ⟨by decide, by decide⟩ ⟨rfl, rfl⟩ ⟨Nat.zero_le _, Nat.zero_le _⟩ rfl rfl (Nat.le_of_ble_eq_true rfl) dX10_again_8 (fun r3 σ2 hb h => ?_)
  replace h := h hb
  refine zx_if_eq C 23 dX10_again_11 (by decide) (fun q => ?_) (fun q => ?_)
  · replace h := h.1 q
    refine zx_iconst (v := (0 : Int32)) C dX10_again_23 (by decide) ?_
    exact zx_zret C hr dX10_again_24 (Or.inl rfl) h
  · replace h := h.2 q
    refine zx_aload_n C dX10_again_14 0 rfl ?_
    refine zx_getR C zs_223 fg_X10_88 rfl 249 rfl dX10_again_15 ?_
    refine zx_iload_n C dX10_again_18 1 rfl ?_
    obtain ⟨bd4, h⟩ := h
    refine zx_zald C (a1).toNatClampNeg zs_249 bd4 rfl dX10_again_19 ?_
    refine zx_if_ne C 25 dX10_again_20 (by decide) (fun q => ?_) (fun q => ?_)
    · replace h := h.1 q
      refine zx_aload_n C dX10_again_25 0 rfl ?_
      refine zx_iload_n C dX10_again_26 1 rfl ?_
      refine zx_iconst (v := (1 : Int32)) C dX10_again_27 (by decide) ?_
      refine zx_iadd C dX10_again_28 ?_
      refine zx_iconst (v := (0 : Int32)) C dX10_again_29 (by decide) ?_
      refine zx_cVv C [.int (a1 + (1 : Int32)), .int (0 : Int32)] lk_X10_425 (c_X10_copyAll l D cy g (a1 + (1 : Int32)) (0 : Int32)  σ2 h) zs_223 rfl ⟨by decide, by decide⟩ ⟨rfl, rfl⟩ ⟨Nat.zero_le _, Nat.zero_le _⟩ rfl rfl (Nat.le_of_ble_eq_true rfl) dX10_again_30 (fun σ5 h => ?_)
      refine zx_iconst (v := (1 : Int32)) C dX10_again_33 (by decide) ?_
      exact zx_zret C hr dX10_again_34 (Or.inr rfl) h
    · replace h := h.2 q
      refine zx_iconst (v := (0 : Int32)) C dX10_again_23 (by decide) ?_
      exact zx_zret C hr dX10_again_24 (Or.inl rfl) h
