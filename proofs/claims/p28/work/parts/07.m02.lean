def w_X6_allBits_4  (P : Int32 → zSto → Prop)  : Nat → Int32 → Int32 → zSto → Prop
  | 0, _, _, _ => False
  | n + 1, x_1, x_2, σ => (((σ.1 200 6) ≤ x_2 → P x_1 σ) ∧ (¬ (σ.1 200 6) ≤ x_2 → (vp_in x_2 16 ∧ (∀ x2 : Int32, x2 = (x_1 ||| (σ.1 201 (x_2).toNatClampNeg)) → (∀ x3 : Int32, x3 = (x_2 + (1 : Int32)) → w_X6_allBits_4 P n x2 x3 σ)))))
def w_X6_allBits  (σ : zSto) (P : Int32 → zSto → Prop) : Prop := (∃ n : Nat, w_X6_allBits_4  P  n (0 : Int32) (0 : Int32) σ)
set_option maxRecDepth 100000 in
set_option maxHeartbeats 4000000 in
theorem k_X6_allBits_4 {p : Program} {l : Launch} {e : Env} {s : State} {m : MethodId} {args : Array Value} {below : List Frame} {meth : Method} {c : Code} {D : va_G} {cy : Nat → ClassId} {g : Nat → Nat} (C : zC p s m args meth c cX6_allBits RX6 3 D cy g) (hr : meth.sig.returnType = (some .int)) {P : Int32 → zSto → Prop}     : ∀ (n : Nat) (x_1 : Int32) (x_2 : Int32) (σ : zSto), w_X6_allBits_4 P n x_1 x_2 σ → zX p l e (zrm 0 0) s m args below meth c 0 0 (zQi P below args s D cy g) 3 D cy g 4 [(0, .ref (g 200)), (1, .int x_1), (2, .int x_2)] [] σ := by
  intro n
  induction n with
  | zero => intro x_1 x_2 σ h; exact h.elim
  | succ n ih =>
    intro x_1 x_2 σ h
    unfold w_X6_allBits_4 at h
    refine zx_iload_n C dX6_allBits_4 2 rfl ?_
    refine zx_aload_n C dX6_allBits_5 0 rfl ?_
    refine zx_getI C zs_200 fg_X6_30 rfl dX6_allBits_6 ?_
    refine zx_icmp_ge C 27 dX6_allBits_9 (by decide) (fun q => ?_) (fun q => ?_)
    · replace h := h.1 q
      refine zx_iload_n C dX6_allBits_27 1 rfl ?_
      exact zx_iret C hr dX6_allBits_28 h
    · replace h := h.2 q
      refine zx_iload_n C dX6_allBits_12 1 rfl ?_
      refine zx_aload_n C dX6_allBits_13 0 rfl ?_
      refine zx_getR C zs_200 fg_X6_9 rfl 201 rfl dX6_allBits_14 ?_
      refine zx_iload_n C dX6_allBits_17 2 rfl ?_
      obtain ⟨bd1, h⟩ := h
      refine zx_iald C (x_2).toNatClampNeg zs_201 bd1 rfl dX6_allBits_18 ?_
      refine zx_ior C dX6_allBits_19 ?_
      refine zx_topi (fun x2 ex2 => ?_)
      replace h := h x2 ex2
      refine zx_istore_n (lv' := [(1, .int x2), (0, .ref (g 200)), (2, .int x_2)]) C dX6_allBits_20 (by decide) rfl ?_
      obtain ⟨x3, ex3⟩ : ∃ y : Int32, y = (x_2 + (1 : Int32)) := ⟨_, rfl⟩
      replace h := h x3 ex3
      refine zx_iinc (v := x3) (lv' := [(2, .int x3), (1, .int x2), (0, .ref (g 200))]) C dX6_allBits_21 2 rfl (by rw [ex3]; rfl) (by decide) rfl ?_
      refine zx_goto C 4 dX6_allBits_24 (by decide) ?_
      refine zx_lv (lv' := [(0, .ref (g 200)), (1, .int x2), (2, .int x3)]) [2, 1, 0] rfl ?_
      exact ih x2 x3 σ h
set_option maxRecDepth 100000 in
set_option maxHeartbeats 4000000 in
theorem c_X6_allBits (l : Launch) (D : va_G) (cy : Nat → ClassId) (g : Nat → Nat)   (σ : zSto) {P : Int32 → zSto → Prop} (h : w_X6_allBits  σ P) : zMi l yX6_allBits cX6_allBits 3 (some .int) (zrm 0 0) D cy g [.ref (g 200)] σ P := by
  unfold w_X6_allBits at h
  refine zm_i RX6 rfl (by decide +kernel) (Nat.le_of_ble_eq_true rfl) ?_
  intro p e s m below meth c C hr
  refine zx_lv (lv' := [(0, .ref (g 200))]) [0] rfl ?_
  refine zx_iconst (v := (0 : Int32)) C dX6_allBits_0 (by decide) ?_
  refine zx_istore_n (lv' := [(1, .int (0 : Int32)), (0, .ref (g 200))]) C dX6_allBits_1 (by decide) rfl ?_
  refine zx_iconst (v := (0 : Int32)) C dX6_allBits_2 (by decide) ?_
  refine zx_istore_n (lv' := [(2, .int (0 : Int32)), (1, .int (0 : Int32)), (0, .ref (g 200))]) C dX6_allBits_3 (by decide) rfl ?_
  obtain ⟨n, h⟩ := h
  refine zx_lv (lv' := [(0, .ref (g 200)), (1, .int (0 : Int32)), (2, .int (0 : Int32))]) [2, 1, 0] rfl ?_
  exact k_X6_allBits_4 C hr    n (0 : Int32) (0 : Int32) σ h
theorem lk_X6_60 : zLV RX6 60 RX6 yX6_fillDues cX6_fillDues 5 (some .boolean) 2 := zLV_of ml_X6_60 im_X6_fillDues se_X6_fillDues ini_X6 cd_X6_fillDues (by decide +kernel)
theorem lk_X6_64 : zLV RX6 64 RX6 yX6_clear cX6_clear 1 none 0 := zLV_of ml_X6_64 im_X6_clear se_X6_clear ini_X6 cd_X6_clear (by decide +kernel)
theorem fg_X6_67 : zFG RX6 67 0 11 := ⟨RX0, TX0, 18, rfl, lay_X0, by decide, fl_X6_67⟩
theorem lk_X6_87 : zLV RX6 87 RX6 yX6_allBits cX6_allBits 3 (some .int) 0 := zLV_of ml_X6_87 im_X6_allBits se_X6_allBits ini_X6 cd_X6_allBits (by decide +kernel)
theorem lk_X6_80 : zLV RX6 80 RX0 yX0_cost cX0_cost 3 (some .int) 1 := zLV_of ml_X6_80 im_X0_cost se_X0_cost ini_X0 cd_X0_cost (by decide +kernel)
theorem lk_X6_83 : zLV RX6 83 RX6 yX6_add cX6_add 4 none 3 := zLV_of ml_X6_83 im_X6_add se_X6_add ini_X6 cd_X6_add (by decide +kernel)
theorem lk_X6_72 : zLV RX6 72 RX0 yX0_minutesTo cX0_minutesTo 4 (some .int) 1 := zLV_of ml_X6_72 im_X0_minutesTo se_X0_minutesTo ini_X0 cd_X0_minutesTo (by decide +kernel)
theorem lk_X6_76 : zLV RX6 76 RX6 yX6_find cX6_find 4 none 2 := zLV_of ml_X6_76 im_X6_find se_X6_find ini_X6 cd_X6_find (by decide +kernel)
def w_X6_findHolding_34 (q_1 : Nat) (P : zSto → Prop)  : Nat → Int32 → Int32 → Int32 → Int32 → Int32 → Int32 → zSto → Prop
  | 0, _, _, _, _, _, _, _ => False
  | n + 1, x_3, x_4, x_5, x_6, x_7, x_8, σ => (((σ.1 q_1 11) ≤ x_8 → (∀ σ4 : zSto, σ4 = zI σ 200 7 (x_3 <<< ((σ.1 200 6) &&& 31)) → (∀ σ5 : zSto, σ5 = zI σ4 200 8 x_4 → ((¬ x_3 = 0 → (w_X6_allBits  σ5 (fun (r7 : Int32) (σ6 : zSto) => (∀ σ8 : zSto, σ8 = zI σ6 200 9 (x_5 ||| r7) → (∀ σ9 : zSto, σ9 = zI σ8 200 10 x_6 → P σ9))))) ∧ (x_3 = 0 → (∀ σ10 : zSto, σ10 = zI σ5 200 9 (0 : Int32) → (∀ σ11 : zSto, σ11 = zI σ10 200 10 x_6 → P σ11))))))) ∧ (¬ (σ.1 q_1 11) ≤ x_8 → ((x_3 ≤ 0 → (∀ σ12 : zSto, σ12 = zI σ 200 7 (x_3 <<< ((σ.1 200 6) &&& 31)) → (∀ σ13 : zSto, σ13 = zI σ12 200 8 x_4 → ((¬ x_3 = 0 → (w_X6_allBits  σ13 (fun (r15 : Int32) (σ14 : zSto) => (∀ σ16 : zSto, σ16 = zI σ14 200 9 (x_5 ||| r15) → (∀ σ17 : zSto, σ17 = zI σ16 200 10 x_6 → P σ17))))) ∧ (x_3 = 0 → (∀ σ18 : zSto, σ18 = zI σ13 200 9 (0 : Int32) → (∀ σ19 : zSto, σ19 = zI σ18 200 10 x_6 → P σ19))))))) ∧ (¬ x_3 ≤ 0 → (vp_in x_8 16 ∧ (((σ.1 206 (x_8).toNatClampNeg) = (-1 : Int32) → ((((σ.1 q_1 11) - (1 : Int32)) ≤ x_8 → (∀ x21 : Int32, x21 = (x_8 + (1 : Int32)) → w_X6_findHolding_34 q_1 P n x_3 x_4 x_5 x_6 x_7 x21 σ)) ∧ (¬ ((σ.1 q_1 11) - (1 : Int32)) ≤ x_8 → (w_X0_cost q_1 x_8 σ (fun (r23 : Int32) (σ22 : zSto) => (w_X6_add x_8 (0 : Int32) r23 σ22 (fun (σ24 : zSto) => (∀ x25 : Int32, x25 = (x_8 + (1 : Int32)) → w_X6_findHolding_34 q_1 P n x_3 x_4 x_5 x_6 x_7 x25 σ24)))))))) ∧ (¬ (σ.1 206 (x_8).toNatClampNeg) = (-1 : Int32) → (vp_in x_8 16 ∧ (w_X0_minutesTo q_1 x_8 σ (fun (r28 : Int32) (σ27 : zSto) => (w_X6_find (0 : Int32) (((σ.1 206 (x_8).toNatClampNeg) - r28) - x_7) σ27 (fun (σ29 : zSto) => (∀ x30 : Int32, x30 = (x_3 * (σ29.1 200 7)) → (∀ x31 : Int32, x31 = (x_4 ||| (σ29.1 200 8)) → (∀ x32 : Int32, x32 = (x_5 ||| (σ29.1 200 9)) → (∀ x33 : Int32, x33 = (x_6 ||| (σ29.1 200 10)) → (vp_in x_8 16 ∧ (w_X0_minutesTo q_1 x_8 σ29 (fun (r36 : Int32) (σ35 : zSto) => (∀ x37 : Int32, x37 = ((σ29.1 206 (x_8).toNatClampNeg) - r36) → (w_X6_clear  σ35 (fun (σ38 : zSto) => ((((σ38.1 q_1 11) - (1 : Int32)) ≤ x_8 → (∀ x39 : Int32, x39 = (x_8 + (1 : Int32)) → w_X6_findHolding_34 q_1 P n x30 x31 x32 x33 x37 x39 σ38)) ∧ (¬ ((σ38.1 q_1 11) - (1 : Int32)) ≤ x_8 → (w_X0_cost q_1 x_8 σ38 (fun (r41 : Int32) (σ40 : zSto) => (w_X6_add x_8 (0 : Int32) r41 σ40 (fun (σ42 : zSto) => (∀ x43 : Int32, x43 = (x_8 + (1 : Int32)) → w_X6_findHolding_34 q_1 P n x30 x31 x32 x33 x37 x43 σ42)))))))))))))))))))))))))))))
def w_X6_findHolding (b1 : Nat) (b2 : Nat) (σ : zSto) (P : zSto → Prop) : Prop := (w_X6_fillDues b1 b2 σ (fun (r2 : Int32) (σ1 : zSto) => (r2 = 0 ∨ r2 = 1) → ((r2 = 0 → (w_X6_clear  σ1 (fun (σ3 : zSto) => (∃ n : Nat, w_X6_findHolding_34 b1 P  n (0 : Int32) (0 : Int32) (0 : Int32) (0 : Int32) (0 : Int32) (0 : Int32) σ3)))) ∧ (¬ r2 = 0 → (w_X6_clear  σ1 (fun (σ44 : zSto) => (∃ n : Nat, w_X6_findHolding_34 b1 P  n (1 : Int32) (0 : Int32) (0 : Int32) (0 : Int32) (0 : Int32) (0 : Int32) σ44)))))))
set_option maxRecDepth 100000 in
set_option maxHeartbeats 4000000 in
theorem k_X6_findHolding_34 {p : Program} {l : Launch} {e : Env} {s : State} {m : MethodId} {args : Array Value} {below : List Frame} {meth : Method} {c : Code} {D : va_G} {cy : Nat → ClassId} {g : Nat → Nat} (C : zC p s m args meth c cX6_findHolding RX6 9 D cy g) (hr : meth.sig.returnType = none) {P : zSto → Prop} (q_1 : Nat) (hq_1 : zIsLine q_1)   : ∀ (n : Nat) (x_3 : Int32) (x_4 : Int32) (x_5 : Int32) (x_6 : Int32) (x_7 : Int32) (x_8 : Int32) (σ : zSto), w_X6_findHolding_34 q_1 P n x_3 x_4 x_5 x_6 x_7 x_8 σ → zX p l e (zrm 21 543) s m args below meth c 0 0 (zQv P below args s D cy g) 9 D cy g 34 [(0, .ref (g 200)), (1, .ref (g q_1)), (3, .int x_3), (4, .int x_4), (5, .int x_5), (6, .int x_6), (7, .int x_7), (8, .int x_8)] [] σ := by
  intro n
  induction n with
  | zero => intro x_3 x_4 x_5 x_6 x_7 x_8 σ h; exact h.elim
  | succ n ih =>
    intro x_3 x_4 x_5 x_6 x_7 x_8 σ h
    unfold w_X6_findHolding_34 at h
    refine zx_iload C dX6_findHolding_34 7 rfl ?_
    refine zx_aload_n C dX6_findHolding_36 1 rfl ?_
    refine zx_getI C hq_1.1 fg_X6_67 rfl dX6_findHolding_37 ?_
    refine zx_icmp_ge C 164 dX6_findHolding_40 (by decide) (fun q => ?_) (fun q => ?_)
    · replace h := h.1 q
      refine zx_aload_n C dX6_findHolding_164 0 rfl ?_
      refine zx_iload_n C dX6_findHolding_165 2 rfl ?_
      refine zx_aload_n C dX6_findHolding_166 0 rfl ?_
      refine zx_getI C zs_200 fg_X6_30 rfl dX6_findHolding_167 ?_
      refine zx_ishl C dX6_findHolding_170 ?_
      refine zx_putI C zs_200 fp_X6_34 rfl dX6_findHolding_171 ?_
      refine zx_sig (fun σ4 eσ4 => ?_)
      replace h := h σ4 eσ4
      refine zx_aload_n C dX6_findHolding_174 0 rfl ?_
      refine zx_iload C dX6_findHolding_175 3 rfl ?_
      refine zx_putI C zs_200 fp_X6_37 rfl dX6_findHolding_177 ?_
      refine zx_sig (fun σ5 eσ5 => ?_)
      replace h := h σ5 eσ5
      refine zx_aload_n C dX6_findHolding_180 0 rfl ?_
      refine zx_iload_n C dX6_findHolding_181 2 rfl ?_
      refine zx_if_ne C 189 dX6_findHolding_182 (by decide) (fun q => ?_) (fun q => ?_)
      · replace h := h.1 q
        refine zx_iload C dX6_findHolding_189 4 rfl ?_
        refine zx_aload_n C dX6_findHolding_191 0 rfl ?_
        refine zx_cVi C [] lk_X6_87 (c_X6_allBits l D cy g   σ5 h) zs_200 rfl ⟨by decide, by decide⟩ ⟨rfl, rfl⟩ ⟨Nat.zero_le _, Nat.zero_le _⟩ rfl rfl (Nat.le_of_ble_eq_true rfl) dX6_findHolding_192 (fun r7 σ6 h => ?_)
        refine zx_ior C dX6_findHolding_195 ?_
        refine zx_putI C zs_200 fp_X6_40 rfl dX6_findHolding_196 ?_
        refine zx_sig (fun σ8 eσ8 => ?_)
        replace h := h σ8 eσ8
        refine zx_aload_n C dX6_findHolding_199 0 rfl ?_
        refine zx_iload C dX6_findHolding_200 5 rfl ?_
        refine zx_putI C zs_200 fp_X6_43 rfl dX6_findHolding_202 ?_
        refine zx_sig (fun σ9 eσ9 => ?_)
        replace h := h σ9 eσ9
        exact zx_vret C hr dX6_findHolding_205 h
      · replace h := h.2 q
        refine zx_iconst (v := (0 : Int32)) C dX6_findHolding_185 (by decide) ?_
        refine zx_goto C 196 dX6_findHolding_186 (by decide) ?_
        refine zx_putI C zs_200 fp_X6_40 rfl dX6_findHolding_196 ?_
        refine zx_sig (fun σ10 eσ10 => ?_)
        replace h := h σ10 eσ10
        refine zx_aload_n C dX6_findHolding_199 0 rfl ?_
        refine zx_iload C dX6_findHolding_200 5 rfl ?_
        refine zx_putI C zs_200 fp_X6_43 rfl dX6_findHolding_202 ?_
        refine zx_sig (fun σ11 eσ11 => ?_)
        replace h := h σ11 eσ11
        exact zx_vret C hr dX6_findHolding_205 h
    · replace h := h.2 q
      refine zx_iload_n C dX6_findHolding_43 2 rfl ?_
      refine zx_if_le C 164 dX6_findHolding_44 (by decide) (fun q => ?_) (fun q => ?_)
      · replace h := h.1 q
        refine zx_aload_n C dX6_findHolding_164 0 rfl ?_
        refine zx_iload_n C dX6_findHolding_165 2 rfl ?_
        refine zx_aload_n C dX6_findHolding_166 0 rfl ?_
        refine zx_getI C zs_200 fg_X6_30 rfl dX6_findHolding_167 ?_
        refine zx_ishl C dX6_findHolding_170 ?_
        refine zx_putI C zs_200 fp_X6_34 rfl dX6_findHolding_171 ?_
        refine zx_sig (fun σ12 eσ12 => ?_)
        replace h := h σ12 eσ12
        refine zx_aload_n C dX6_findHolding_174 0 rfl ?_
        refine zx_iload C dX6_findHolding_175 3 rfl ?_
        refine zx_putI C zs_200 fp_X6_37 rfl dX6_findHolding_177 ?_
        refine zx_sig (fun σ13 eσ13 => ?_)
        replace h := h σ13 eσ13
        refine zx_aload_n C dX6_findHolding_180 0 rfl ?_
        refine zx_iload_n C dX6_findHolding_181 2 rfl ?_
        refine zx_if_ne C 189 dX6_findHolding_182 (by decide) (fun q => ?_) (fun q => ?_)
        · replace h := h.1 q
          refine zx_iload C dX6_findHolding_189 4 rfl ?_
          refine zx_aload_n C dX6_findHolding_191 0 rfl ?_
          refine zx_cVi C [] lk_X6_87 (c_X6_allBits l D cy g   σ13 h) zs_200 rfl ⟨by decide, by decide⟩ ⟨rfl, rfl⟩ ⟨Nat.zero_le _, Nat.zero_le _⟩ rfl rfl (Nat.le_of_ble_eq_true rfl) dX6_findHolding_192 (fun r15 σ14 h => ?_)
          refine zx_ior C dX6_findHolding_195 ?_
          refine zx_putI C zs_200 fp_X6_40 rfl dX6_findHolding_196 ?_
          refine zx_sig (fun σ16 eσ16 => ?_)
          replace h := h σ16 eσ16
          refine zx_aload_n C dX6_findHolding_199 0 rfl ?_
          refine zx_iload C dX6_findHolding_200 5 rfl ?_
          refine zx_putI C zs_200 fp_X6_43 rfl dX6_findHolding_202 ?_
          refine zx_sig (fun σ17 eσ17 => ?_)
          replace h := h σ17 eσ17
          exact zx_vret C hr dX6_findHolding_205 h
        · replace h := h.2 q
          refine zx_iconst (v := (0 : Int32)) C dX6_findHolding_185 (by decide) ?_
          refine zx_goto C 196 dX6_findHolding_186 (by decide) ?_
          refine zx_putI C zs_200 fp_X6_40 rfl dX6_findHolding_196 ?_
          refine zx_sig (fun σ18 eσ18 => ?_)
          replace h := h σ18 eσ18
          refine zx_aload_n C dX6_findHolding_199 0 rfl ?_
          refine zx_iload C dX6_findHolding_200 5 rfl ?_
          refine zx_putI C zs_200 fp_X6_43 rfl dX6_findHolding_202 ?_
          refine zx_sig (fun σ19 eσ19 => ?_)
          replace h := h σ19 eσ19
          exact zx_vret C hr dX6_findHolding_205 h
      · replace h := h.2 q
        refine zx_aload_n C dX6_findHolding_47 0 rfl ?_
        refine zx_getR C zs_200 fg_X6_27 rfl 206 rfl dX6_findHolding_48 ?_
        refine zx_iload C dX6_findHolding_51 7 rfl ?_
        obtain ⟨bd20, h⟩ := h
        refine zx_iald C (x_8).toNatClampNeg zs_206 bd20 rfl dX6_findHolding_53 ?_
        refine zx_iconst (v := (-1 : Int32)) C dX6_findHolding_54 (by decide) ?_
        refine zx_icmp_eq C 134 dX6_findHolding_55 (by decide) (fun q => ?_) (fun q => ?_)
        · replace h := h.1 q
          refine zx_iload C dX6_findHolding_134 7 rfl ?_
          refine zx_aload_n C dX6_findHolding_136 1 rfl ?_
          refine zx_getI C hq_1.1 fg_X6_67 rfl dX6_findHolding_137 ?_
          refine zx_iconst (v := (1 : Int32)) C dX6_findHolding_140 (by decide) ?_
          refine zx_isub C dX6_findHolding_141 ?_
          refine zx_icmp_ge C 158 dX6_findHolding_142 (by decide) (fun q => ?_) (fun q => ?_)
          · replace h := h.1 q
            obtain ⟨x21, ex21⟩ : ∃ y : Int32, y = (x_8 + (1 : Int32)) := ⟨_, rfl⟩
            replace h := h x21 ex21
            refine zx_iinc (v := x21) (lv' := [(8, .int x21), (0, .ref (g 200)), (1, .ref (g q_1)), (3, .int x_3), (4, .int x_4), (5, .int x_5), (6, .int x_6), (7, .int x_7)]) C dX6_findHolding_158 7 rfl (by rw [ex21]; rfl) (by decide) rfl ?_
            refine zx_goto C 34 dX6_findHolding_161 (by decide) ?_
            refine zx_lv (lv' := [(0, .ref (g 200)), (1, .ref (g q_1)), (3, .int x_3), (4, .int x_4), (5, .int x_5), (6, .int x_6), (7, .int x_7), (8, .int x21)]) [1, 2, 3, 4, 5, 6, 7, 0] rfl ?_
            exact ih x_3 x_4 x_5 x_6 x_7 x21 σ h
          · replace h := h.2 q
            refine zx_aload_n C dX6_findHolding_145 0 rfl ?_
            refine zx_iload C dX6_findHolding_146 7 rfl ?_
            refine zx_iconst (v := (0 : Int32)) C dX6_findHolding_148 (by decide) ?_
            refine zx_aload_n C dX6_findHolding_149 1 rfl ?_
            refine zx_iload C dX6_findHolding_150 7 rfl ?_
            refine zx_cVi C [.int x_8] lk_X6_80 (c_X0_cost l D cy g q_1 x_8 hq_1 σ h) hq_1.1 rfl ⟨by decide, by decide⟩ ⟨rfl, rfl⟩ ⟨Nat.zero_le _, Nat.zero_le _⟩ rfl rfl (Nat.le_of_ble_eq_true rfl) dX6_findHolding_152 (fun r23 σ22 h => ?_)
            refine zx_cVv C [.int x_8, .int (0 : Int32), .int r23] lk_X6_83 (c_X6_add l D cy g x_8 (0 : Int32) r23  σ22 h) zs_200 rfl ⟨by decide, by decide⟩ ⟨rfl, rfl⟩ ⟨Nat.zero_le _, Nat.zero_le _⟩ rfl rfl (Nat.le_of_ble_eq_true rfl) dX6_findHolding_155 (fun σ24 h => ?_)
            obtain ⟨x25, ex25⟩ : ∃ y : Int32, y = (x_8 + (1 : Int32)) := ⟨_, rfl⟩
            replace h := h x25 ex25
            refine zx_iinc (v := x25) (lv' := [(8, .int x25), (0, .ref (g 200)), (1, .ref (g q_1)), (3, .int x_3), (4, .int x_4), (5, .int x_5), (6, .int x_6), (7, .int x_7)]) C dX6_findHolding_158 7 rfl (by rw [ex25]; rfl) (by decide) rfl ?_
            refine zx_goto C 34 dX6_findHolding_161 (by decide) ?_
            refine zx_lv (lv' := [(0, .ref (g 200)), (1, .ref (g q_1)), (3, .int x_3), (4, .int x_4), (5, .int x_5), (6, .int x_6), (7, .int x_7), (8, .int x25)]) [1, 2, 3, 4, 5, 6, 7, 0] rfl ?_
            exact ih x_3 x_4 x_5 x_6 x_7 x25 σ24 h
        · replace h := h.2 q
          refine zx_aload_n C dX6_findHolding_58 0 rfl ?_
          refine zx_iconst (v := (0 : Int32)) C dX6_findHolding_59 (by decide) ?_
          refine zx_aload_n C dX6_findHolding_60 0 rfl ?_
          refine zx_getR C zs_200 fg_X6_27 rfl 206 rfl dX6_findHolding_61 ?_
          refine zx_iload C dX6_findHolding_64 7 rfl ?_
          obtain ⟨bd26, h⟩ := h
          refine zx_iald C (x_8).toNatClampNeg zs_206 bd26 rfl dX6_findHolding_66 ?_
          refine zx_aload_n C dX6_findHolding_67 1 rfl ?_
          refine zx_iload C dX6_findHolding_68 7 rfl ?_
          refine zx_cVi C [.int x_8] lk_X6_72 (c_X0_minutesTo l D cy g q_1 x_8 hq_1 σ h) hq_1.1 rfl ⟨by decide, by decide⟩ ⟨rfl, rfl⟩ ⟨Nat.zero_le _, Nat.zero_le _⟩ rfl rfl (Nat.le_of_ble_eq_true rfl) dX6_findHolding_70 (fun r28 σ27 h => ?_)
          refine zx_isub C dX6_findHolding_73 ?_
          refine zx_iload C dX6_findHolding_74 6 rfl ?_
          refine zx_isub C dX6_findHolding_76 ?_
          refine zx_cVv C [.int (0 : Int32), .int (((σ.1 206 (x_8).toNatClampNeg) - r28) - x_7)] lk_X6_76 (c_X6_find l D cy g (0 : Int32) (((σ.1 206 (x_8).toNatClampNeg) - r28) - x_7)  σ27 h) zs_200 rfl ⟨by decide, by decide⟩ ⟨rfl, rfl⟩ ⟨Nat.zero_le _, Nat.zero_le _⟩ rfl rfl (Nat.le_of_ble_eq_true rfl) dX6_findHolding_77 (fun σ29 h => ?_)
          refine zx_iload_n C dX6_findHolding_80 2 rfl ?_
          refine zx_aload_n C dX6_findHolding_81 0 rfl ?_
          refine zx_getI C zs_200 fg_X6_34 rfl dX6_findHolding_82 ?_
          refine zx_imul C dX6_findHolding_85 ?_
          refine zx_topi (fun x30 ex30 => ?_)
          replace h := h x30 ex30
          refine zx_istore_n (lv' := [(3, .int x30), (0, .ref (g 200)), (1, .ref (g q_1)), (4, .int x_4), (5, .int x_5), (6, .int x_6), (7, .int x_7), (8, .int x_8)]) C dX6_findHolding_86 (by decide) rfl ?_
          refine zx_iload C dX6_findHolding_87 3 rfl ?_
          refine zx_aload_n C dX6_findHolding_89 1 rfl ?_
          refine zx_getI C zs_200 fg_X6_37 rfl dX6_findHolding_90 ?_
          refine zx_ior C dX6_findHolding_93 ?_
          refine zx_topi (fun x31 ex31 => ?_)
          replace h := h x31 ex31
          refine zx_istore (lv' := [(4, .int x31), (3, .int x30), (0, .ref (g 200)), (1, .ref (g q_1)), (5, .int x_5), (6, .int x_6), (7, .int x_7), (8, .int x_8)]) C dX6_findHolding_94 (by decide) rfl ?_
          refine zx_iload C dX6_findHolding_96 4 rfl ?_
          refine zx_aload_n C dX6_findHolding_98 2 rfl ?_
          refine zx_getI C zs_200 fg_X6_40 rfl dX6_findHolding_99 ?_
          refine zx_ior C dX6_findHolding_102 ?_
          refine zx_topi (fun x32 ex32 => ?_)
          replace h := h x32 ex32
          refine zx_istore (lv' := [(5, .int x32), (4, .int x31), (3, .int x30), (0, .ref (g 200)), (1, .ref (g q_1)), (6, .int x_6), (7, .int x_7), (8, .int x_8)]) C dX6_findHolding_103 (by decide) rfl ?_
          refine zx_iload C dX6_findHolding_105 5 rfl ?_
          refine zx_aload_n C dX6_findHolding_107 3 rfl ?_
          refine zx_getI C zs_200 fg_X6_43 rfl dX6_findHolding_108 ?_
          refine zx_ior C dX6_findHolding_111 ?_
          refine zx_topi (fun x33 ex33 => ?_)
          replace h := h x33 ex33
          refine zx_istore (lv' := [(6, .int x33), (5, .int x32), (4, .int x31), (3, .int x30), (0, .ref (g 200)), (1, .ref (g q_1)), (7, .int x_7), (8, .int x_8)]) C dX6_findHolding_112 (by decide) rfl ?_
          refine zx_aload_n C dX6_findHolding_114 4 rfl ?_
          refine zx_getR C zs_200 fg_X6_27 rfl 206 rfl dX6_findHolding_115 ?_
          refine zx_iload C dX6_findHolding_118 7 rfl ?_
          obtain ⟨bd34, h⟩ := h
          refine zx_iald C (x_8).toNatClampNeg zs_206 bd34 rfl dX6_findHolding_120 ?_
          refine zx_aload_n C dX6_findHolding_121 5 rfl ?_
          refine zx_iload C dX6_findHolding_122 7 rfl ?_
          refine zx_cVi C [.int x_8] lk_X6_72 (c_X0_minutesTo l D cy g q_1 x_8 hq_1 σ29 h) hq_1.1 rfl ⟨by decide, by decide⟩ ⟨rfl, rfl⟩ ⟨Nat.zero_le _, Nat.zero_le _⟩ rfl rfl (Nat.le_of_ble_eq_true rfl) dX6_findHolding_124 (fun r36 σ35 h => ?_)
          refine zx_isub C dX6_findHolding_127 ?_
          refine zx_topi (fun x37 ex37 => ?_)
          replace h := h x37 ex37
          refine zx_istore (lv' := [(7, .int x37), (6, .int x33), (5, .int x32), (4, .int x31), (3, .int x30), (0, .ref (g 200)), (1, .ref (g q_1)), (8, .int x_8)]) C dX6_findHolding_128 (by decide) rfl ?_
          refine zx_aload_n C dX6_findHolding_130 5 rfl ?_
          refine zx_cVv C [] lk_X6_64 (c_X6_clear l D cy g   σ35 h) zs_200 rfl ⟨by decide, by decide⟩ ⟨rfl, rfl⟩ ⟨Nat.zero_le _, Nat.zero_le _⟩ rfl rfl (Nat.le_of_ble_eq_true rfl) dX6_findHolding_131 (fun σ38 h => ?_)
          refine zx_iload C dX6_findHolding_134 7 rfl ?_
          refine zx_aload_n C dX6_findHolding_136 6 rfl ?_
          refine zx_getI C hq_1.1 fg_X6_67 rfl dX6_findHolding_137 ?_
          refine zx_iconst (v := (1 : Int32)) C dX6_findHolding_140 (by decide) ?_
          refine zx_isub C dX6_findHolding_141 ?_
          refine zx_icmp_ge C 158 dX6_findHolding_142 (by decide) (fun q => ?_) (fun q => ?_)
          · replace h := h.1 q
            obtain ⟨x39, ex39⟩ : ∃ y : Int32, y = (x_8 + (1 : Int32)) := ⟨_, rfl⟩
            replace h := h x39 ex39
            refine zx_iinc (v := x39) (lv' := [(8, .int x39), (7, .int x37), (6, .int x33), (5, .int x32), (4, .int x31), (3, .int x30), (0, .ref (g 200)), (1, .ref (g q_1))]) C dX6_findHolding_158 7 rfl (by rw [ex39]; rfl) (by decide) rfl ?_
            refine zx_goto C 34 dX6_findHolding_161 (by decide) ?_
            refine zx_lv (lv' := [(0, .ref (g 200)), (1, .ref (g q_1)), (3, .int x30), (4, .int x31), (5, .int x32), (6, .int x33), (7, .int x37), (8, .int x39)]) [6, 7, 5, 4, 3, 2, 1, 0] rfl ?_
            exact ih x30 x31 x32 x33 x37 x39 σ38 h
          · replace h := h.2 q
            refine zx_aload_n C dX6_findHolding_145 5 rfl ?_
            refine zx_iload C dX6_findHolding_146 7 rfl ?_
            refine zx_iconst (v := (0 : Int32)) C dX6_findHolding_148 (by decide) ?_
            refine zx_aload_n C dX6_findHolding_149 6 rfl ?_
            refine zx_iload C dX6_findHolding_150 7 rfl ?_
            refine zx_cVi C [.int x_8] lk_X6_80 (c_X0_cost l D cy g q_1 x_8 hq_1 σ38 h) hq_1.1 rfl ⟨by decide, by decide⟩ ⟨rfl, rfl⟩ ⟨Nat.zero_le _, Nat.zero_le _⟩ rfl rfl (Nat.le_of_ble_eq_true rfl) dX6_findHolding_152 (fun r41 σ40 h => ?_)
            refine zx_cVv C [.int x_8, .int (0 : Int32), .int r41] lk_X6_83 (c_X6_add l D cy g x_8 (0 : Int32) r41  σ40 h) zs_200 rfl ⟨by decide, by decide⟩ ⟨rfl, rfl⟩ ⟨Nat.zero_le _, Nat.zero_le _⟩ rfl rfl (Nat.le_of_ble_eq_true rfl) dX6_findHolding_155 (fun σ42 h => ?_)
            obtain ⟨x43, ex43⟩ : ∃ y : Int32, y = (x_8 + (1 : Int32)) := ⟨_, rfl⟩
            replace h := h x43 ex43
            refine zx_iinc (v := x43) (lv' := [(8, .int x43), (7, .int x37), (6, .int x33), (5, .int x32), (4, .int x31), (3, .int x30), (0, .ref (g 200)), (1, .ref (g q_1))]) C dX6_findHolding_158 7 rfl (by rw [ex43]; rfl) (by decide) rfl ?_
            refine zx_goto C 34 dX6_findHolding_161 (by decide) ?_
            refine zx_lv (lv' := [(0, .ref (g 200)), (1, .ref (g q_1)), (3, .int x30), (4, .int x31), (5, .int x32), (6, .int x33), (7, .int x37), (8, .int x43)]) [6, 7, 5, 4, 3, 2, 1, 0] rfl ?_
            exact ih x30 x31 x32 x33 x37 x43 σ42 h
set_option maxRecDepth 100000 in
set_option maxHeartbeats 4000000 in
theorem c_X6_findHolding (l : Launch) (D : va_G) (cy : Nat → ClassId) (g : Nat → Nat) (b1 : Nat) (b2 : Nat) (hb1 : zIsLine b1) (hb2 : zIsPairs b2) (σ : zSto) {P : zSto → Prop} (h : w_X6_findHolding b1 b2 σ P) : zMv l yX6_findHolding cX6_findHolding 9 none (zrm 21 543) D cy g [.ref (g 200), .ref (g b1), .ref (g b2)] σ P := by
  unfold w_X6_findHolding at h
  refine zm_v RX6 rfl (by decide +kernel) (Nat.le_of_ble_eq_true rfl) ?_
  intro p e s m below meth c C hr
  refine zx_lv (lv' := [(0, .ref (g 200)), (1, .ref (g b1)), (2, .ref (g b2))]) [0, 1, 2] rfl ?_
  refine zx_aload_n C dX6_findHolding_0 0 rfl ?_
  refine zx_aload_n C dX6_findHolding_1 1 rfl ?_
  refine zx_aload_n C dX6_findHolding_2 2 rfl ?_
  refine zx_cVb C [.ref (g b1), .ref (g b2)] lk_X6_60 (c_X6_fillDues l D cy g b1 b2 hb1 hb2 σ h) zs_200 rfl ⟨by decide, by decide⟩ ⟨rfl, rfl⟩ ⟨Nat.zero_le _, Nat.zero_le _⟩ rfl rfl (Nat.le_of_ble_eq_true rfl) dX6_findHolding_3 (fun r2 σ1 hb h => ?_)
  replace h := h hb
  refine zx_if_eq C 13 dX6_findHolding_6 (by decide) (fun q => ?_) (fun q => ?_)
  · replace h := h.1 q
    refine zx_iconst (v := (0 : Int32)) C dX6_findHolding_13 (by decide) ?_
    refine zx_istore_n (lv' := [(3, .int (0 : Int32)), (0, .ref (g 200)), (1, .ref (g b1)), (2, .ref (g b2))]) C dX6_findHolding_14 (by decide) rfl ?_
    refine zx_iconst (v := (0 : Int32)) C dX6_findHolding_15 (by decide) ?_
    refine zx_istore (lv' := [(4, .int (0 : Int32)), (3, .int (0 : Int32)), (0, .ref (g 200)), (1, .ref (g b1)), (2, .ref (g b2))]) C dX6_findHolding_16 (by decide) rfl ?_
    refine zx_iconst (v := (0 : Int32)) C dX6_findHolding_18 (by decide) ?_
    refine zx_istore (lv' := [(5, .int (0 : Int32)), (4, .int (0 : Int32)), (3, .int (0 : Int32)), (0, .ref (g 200)), (1, .ref (g b1)), (2, .ref (g b2))]) C dX6_findHolding_19 (by decide) rfl ?_
    refine zx_iconst (v := (0 : Int32)) C dX6_findHolding_21 (by decide) ?_
    refine zx_istore (lv' := [(6, .int (0 : Int32)), (5, .int (0 : Int32)), (4, .int (0 : Int32)), (3, .int (0 : Int32)), (0, .ref (g 200)), (1, .ref (g b1)), (2, .ref (g b2))]) C dX6_findHolding_22 (by decide) rfl ?_
    refine zx_iconst (v := (0 : Int32)) C dX6_findHolding_24 (by decide) ?_
    refine zx_istore (lv' := [(7, .int (0 : Int32)), (6, .int (0 : Int32)), (5, .int (0 : Int32)), (4, .int (0 : Int32)), (3, .int (0 : Int32)), (0, .ref (g 200)), (1, .ref (g b1)), (2, .ref (g b2))]) C dX6_findHolding_25 (by decide) rfl ?_
    refine zx_aload_n C dX6_findHolding_27 5 rfl ?_
    refine zx_cVv C [] lk_X6_64 (c_X6_clear l D cy g   σ1 h) zs_200 rfl ⟨by decide, by decide⟩ ⟨rfl, rfl⟩ ⟨Nat.zero_le _, Nat.zero_le _⟩ rfl rfl (Nat.le_of_ble_eq_true rfl) dX6_findHolding_28 (fun σ3 h => ?_)
    refine zx_iconst (v := (0 : Int32)) C dX6_findHolding_31 (by decide) ?_
    refine zx_istore (lv' := [(8, .int (0 : Int32)), (7, .int (0 : Int32)), (6, .int (0 : Int32)), (5, .int (0 : Int32)), (4, .int (0 : Int32)), (3, .int (0 : Int32)), (0, .ref (g 200)), (1, .ref (g b1)), (2, .ref (g b2))]) C dX6_findHolding_32 (by decide) rfl ?_
    obtain ⟨n, h⟩ := h
    refine zx_lv (lv' := [(0, .ref (g 200)), (1, .ref (g b1)), (3, .int (0 : Int32)), (4, .int (0 : Int32)), (5, .int (0 : Int32)), (6, .int (0 : Int32)), (7, .int (0 : Int32)), (8, .int (0 : Int32))]) [6, 7, 5, 4, 3, 2, 1, 0] rfl ?_
    exact k_X6_findHolding_34 C hr (b1) hb1  n (0 : Int32) (0 : Int32) (0 : Int32) (0 : Int32) (0 : Int32) (0 : Int32) σ3 h
  · replace h := h.2 q
    refine zx_iconst (v := (1 : Int32)) C dX6_findHolding_9 (by decide) ?_
    refine zx_goto C 14 dX6_findHolding_10 (by decide) ?_
    refine zx_istore_n (lv' := [(3, .int (1 : Int32)), (0, .ref (g 200)), (1, .ref (g b1)), (2, .ref (g b2))]) C dX6_findHolding_14 (by decide) rfl ?_
    refine zx_iconst (v := (0 : Int32)) C dX6_findHolding_15 (by decide) ?_
    refine zx_istore (lv' := [(4, .int (0 : Int32)), (3, .int (1 : Int32)), (0, .ref (g 200)), (1, .ref (g b1)), (2, .ref (g b2))]) C dX6_findHolding_16 (by decide) rfl ?_
    refine zx_iconst (v := (0 : Int32)) C dX6_findHolding_18 (by decide) ?_
    refine zx_istore (lv' := [(5, .int (0 : Int32)), (4, .int (0 : Int32)), (3, .int (1 : Int32)), (0, .ref (g 200)), (1, .ref (g b1)), (2, .ref (g b2))]) C dX6_findHolding_19 (by decide) rfl ?_
    refine zx_iconst (v := (0 : Int32)) C dX6_findHolding_21 (by decide) ?_
    refine zx_istore (lv' := [(6, .int (0 : Int32)), (5, .int (0 : Int32)), (4, .int (0 : Int32)), (3, .int (1 : Int32)), (0, .ref (g 200)), (1, .ref (g b1)), (2, .ref (g b2))]) C dX6_findHolding_22 (by decide) rfl ?_
    refine zx_iconst (v := (0 : Int32)) C dX6_findHolding_24 (by decide) ?_
    refine zx_istore (lv' := [(7, .int (0 : Int32)), (6, .int (0 : Int32)), (5, .int (0 : Int32)), (4, .int (0 : Int32)), (3, .int (1 : Int32)), (0, .ref (g 200)), (1, .ref (g b1)), (2, .ref (g b2))]) C dX6_findHolding_25 (by decide) rfl ?_
    refine zx_aload_n C dX6_findHolding_27 5 rfl ?_
    refine zx_cVv C [] lk_X6_64 (c_X6_clear l D cy g   σ1 h) zs_200 rfl ⟨by decide, by decide⟩ ⟨rfl, rfl⟩ ⟨Nat.zero_le _, Nat.zero_le _⟩ rfl rfl (Nat.le_of_ble_eq_true rfl) dX6_findHolding_28 (fun σ44 h => ?_)
    refine zx_iconst (v := (0 : Int32)) C dX6_findHolding_31 (by decide) ?_
    refine zx_istore (lv' := [(8, .int (0 : Int32)), (7, .int (0 : Int32)), (6, .int (0 : Int32)), (5, .int (0 : Int32)), (4, .int (0 : Int32)), (3, .int (1 : Int32)), (0, .ref (g 200)), (1, .ref (g b1)), (2, .ref (g b2))]) C dX6_findHolding_32 (by decide) rfl ?_
    obtain ⟨n, h⟩ := h
    refine zx_lv (lv' := [(0, .ref (g 200)), (1, .ref (g b1)), (3, .int (1 : Int32)), (4, .int (0 : Int32)), (5, .int (0 : Int32)), (6, .int (0 : Int32)), (7, .int (0 : Int32)), (8, .int (0 : Int32))]) [6, 7, 5, 4, 3, 2, 1, 0] rfl ?_
    exact k_X6_findHolding_34 C hr (b1) hb1  n (1 : Int32) (0 : Int32) (0 : Int32) (0 : Int32) (0 : Int32) (0 : Int32) σ44 h
theorem fg_X7_15 : zFG RX7 15 7 1 := ⟨RX7, TX7, 3, rfl, lay_X7, by decide, fl_X7_15⟩
theorem fp_X7_15 : zFP RX7 15 7 1 .int := ⟨RX7, TX7, 3, tyX7, rfl, lay_X7, by decide, fl_X7_15, tyX7_ok, nmX7, rfl, by decide +kernel⟩
theorem fg_X7_19 : zFG RX7 19 7 2 := ⟨RX7, TX7, 3, rfl, lay_X7, by decide, fl_X7_19⟩
theorem fp_X7_19 : zFP RX7 19 7 2 .long := ⟨RX7, TX7, 3, tyX7, rfl, lay_X7, by decide, fl_X7_19, tyX7_ok, nmX7, rfl, by decide +kernel⟩
theorem fg_X7_9 : zFG RX7 9 7 0 := ⟨RX7, TX7, 3, rfl, lay_X7, by decide, fl_X7_9⟩
def w_X7_addStop_44 (x_1 : Int32) (x_2 : Int32) (x_3 : Int32) (P : zSto → Prop)  : Nat → Int32 → zSto → Prop
  | 0, _, _ => False
  | n + 1, x_4, σ => ((x_4 < 0 → (∀ σ3 : zSto, σ3 = zI σ 198 1 x_3 → (∀ σ4 : zSto, σ4 = zJ σ3 198 2 ((σ3.2 198 2) * (10 : Int64)) → P σ4))) ∧ (¬ x_4 < 0 → ((x_4 < x_1 → (vp_in x_4 1126 ∧ (vp_in x_4 1126 ∧ (∀ σ7 : zSto, σ7 = zJ σ 199 (x_4).toNatClampNeg (((σ.2 199 (x_4).toNatClampNeg) * ((10 : Int32) - x_2).toInt64) + (0 : Int64)) → (∀ x8 : Int32, x8 = (x_4 + (-1 : Int32)) → w_X7_addStop_44 x_1 x_2 x_3 P n x8 σ7))))) ∧ (¬ x_4 < x_1 → (vp_in (x_4 - x_1) 1126 ∧ (∀ x10 : Int64, x10 = ((σ.2 199 ((x_4 - x_1)).toNatClampNeg) * x_2.toInt64) → (vp_in x_4 1126 ∧ (vp_in x_4 1126 ∧ (∀ σ13 : zSto, σ13 = zJ σ 199 (x_4).toNatClampNeg (((σ.2 199 (x_4).toNatClampNeg) * ((10 : Int32) - x_2).toInt64) + x10) → (∀ x14 : Int32, x14 = (x_4 + (-1 : Int32)) → w_X7_addStop_44 x_1 x_2 x_3 P n x14 σ13))))))))))
def w_X7_addStop_21 (x_1 : Int32) (x_2 : Int32) (x_3 : Int32) (P : zSto → Prop)  : Nat → Int32 → zSto → Prop
  | 0, _, _ => False
  | n + 1, x_4, σ => ((x_3 < x_4 → (∃ n2 : Nat, w_X7_addStop_44 x_1 x_2 x_3 P  n2 x_3 σ)) ∧ (¬ x_3 < x_4 → (vp_in x_4 1126 ∧ (∀ σ16 : zSto, σ16 = zJ σ 199 (x_4).toNatClampNeg (0 : Int64) → (∀ x17 : Int32, x17 = (x_4 + (1 : Int32)) → w_X7_addStop_21 x_1 x_2 x_3 P n x17 σ16)))))
def w_X7_addStop (a1 : Int32) (a2 : Int32) (σ : zSto) (P : zSto → Prop) : Prop := (∀ x1 : Int32, x1 = (if (1125 : Int32) < ((σ.1 198 1) + a1) then (1125 : Int32) else ((σ.1 198 1) + a1)) → (∀ x2 : Int32, x2 = ((σ.1 198 1) + (1 : Int32)) → (∃ n : Nat, w_X7_addStop_21 a1 a2 x1 P  n x2 σ)))
set_option maxRecDepth 100000 in
set_option maxHeartbeats 4000000 in
theorem k_X7_addStop_44 {p : Program} {l : Launch} {e : Env} {s : State} {m : MethodId} {args : Array Value} {below : List Frame} {meth : Method} {c : Code} {D : va_G} {cy : Nat → ClassId} {g : Nat → Nat} (C : zC p s m args meth c cX7_addStop RX7 7 D cy g) (hr : meth.sig.returnType = none) {P : zSto → Prop} (x_1 : Int32) (x_2 : Int32) (x_3 : Int32)    : ∀ (n : Nat) (x_4 : Int32) (σ : zSto), w_X7_addStop_44 x_1 x_2 x_3 P n x_4 σ → zX p l e (zrm 1 64) s m args below meth c 0 0 (zQv P below args s D cy g) 7 D cy g 44 [(0, .ref (g 198)), (1, .int x_1), (2, .int x_2), (3, .int x_3), (4, .int x_4)] [] σ := by
  intro n
  induction n with
  | zero => intro x_4 σ h; exact h.elim
  | succ n ih =>
    intro x_4 σ h
    unfold w_X7_addStop_44 at h
    refine zx_iload C dX7_addStop_44 4 rfl ?_
    refine zx_if_lt C 102 dX7_addStop_46 (by decide) (fun q => ?_) (fun q => ?_)
    · replace h := h.1 q
      refine zx_aload_n C dX7_addStop_102 0 rfl ?_
      refine zx_iload_n C dX7_addStop_103 3 rfl ?_
      refine zx_putI C zs_198 fp_X7_15 rfl dX7_addStop_104 ?_
      refine zx_sig (fun σ3 eσ3 => ?_)
      replace h := h σ3 eσ3
      refine zx_aload_n C dX7_addStop_107 0 rfl ?_
      refine zx_dup C dX7_addStop_108 rfl ?_
      refine zx_getL C zs_198 fg_X7_19 rfl dX7_addStop_109 ?_
      refine zx_ldc2 C dX7_addStop_112 co_X7_43 ?_
      refine zx_lmul C dX7_addStop_115 ?_
      refine zx_putL C zs_198 fp_X7_19 rfl dX7_addStop_116 ?_
      refine zx_sig (fun σ4 eσ4 => ?_)
      replace h := h σ4 eσ4
      exact zx_vret C hr dX7_addStop_119 h
    · replace h := h.2 q
      refine zx_iload C dX7_addStop_49 4 rfl ?_
      refine zx_iload_n C dX7_addStop_51 1 rfl ?_
      refine zx_icmp_lt C 70 dX7_addStop_52 (by decide) (fun q => ?_) (fun q => ?_)
      · replace h := h.1 q
        refine zx_lconst (v := (0 : Int64)) C dX7_addStop_70 (by decide) ?_
        refine zx_lstore (lv' := [(5, .long (0 : Int64)), (0, .ref (g 198)), (1, .int x_1), (2, .int x_2), (3, .int x_3), (4, .int x_4)]) C dX7_addStop_71 (by decide) rfl ?_
        refine zx_aload_n C dX7_addStop_73 1 rfl ?_
        refine zx_getR C zs_198 fg_X7_9 rfl 199 rfl dX7_addStop_74 ?_
        refine zx_iload C dX7_addStop_77 5 rfl ?_
        refine zx_aload_n C dX7_addStop_79 1 rfl ?_
        refine zx_getR C zs_198 fg_X7_9 rfl 199 rfl dX7_addStop_80 ?_
        refine zx_iload C dX7_addStop_83 5 rfl ?_
        obtain ⟨bd5, h⟩ := h
        refine zx_lald C (x_4).toNatClampNeg zs_199 bd5 rfl dX7_addStop_85 ?_
        refine zx_bipush (v := (10 : Int32)) C dX7_addStop_86 (by decide) ?_
        refine zx_iload_n C dX7_addStop_88 3 rfl ?_
        refine zx_isub C dX7_addStop_89 ?_
        refine zx_i2l C dX7_addStop_90 ?_
        refine zx_lmul C dX7_addStop_91 ?_
        refine zx_lload C dX7_addStop_92 0 rfl ?_
        refine zx_ladd C dX7_addStop_94 ?_
        obtain ⟨bd6, h⟩ := h
        refine zx_last C (x_4).toNatClampNeg zs_199 bd6 rfl dX7_addStop_95 ?_
        refine zx_sig (fun σ7 eσ7 => ?_)
        replace h := h σ7 eσ7
        obtain ⟨x8, ex8⟩ : ∃ y : Int32, y = (x_4 + (-1 : Int32)) := ⟨_, rfl⟩
        replace h := h x8 ex8
        refine zx_iinc (v := x8) (lv' := [(4, .int x8), (5, .long (0 : Int64)), (0, .ref (g 198)), (1, .int x_1), (2, .int x_2), (3, .int x_3)]) C dX7_addStop_96 5 rfl (by rw [ex8]; rfl) (by decide) rfl ?_
        refine zx_goto C 44 dX7_addStop_99 (by decide) ?_
        refine zx_lv (lv' := [(0, .ref (g 198)), (1, .int x_1), (2, .int x_2), (3, .int x_3), (4, .int x8)]) [2, 3, 4, 5, 0] rfl ?_
        exact ih x8 σ7 h
      · replace h := h.2 q
        refine zx_aload_n C dX7_addStop_55 0 rfl ?_
        refine zx_getR C zs_198 fg_X7_9 rfl 199 rfl dX7_addStop_56 ?_
        refine zx_iload C dX7_addStop_59 4 rfl ?_
        refine zx_iload_n C dX7_addStop_61 1 rfl ?_
        refine zx_isub C dX7_addStop_62 ?_
        obtain ⟨bd9, h⟩ := h
        refine zx_lald C ((x_4 - x_1)).toNatClampNeg zs_199 bd9 rfl dX7_addStop_63 ?_
        refine zx_iload_n C dX7_addStop_64 2 rfl ?_
        refine zx_i2l C dX7_addStop_65 ?_
        refine zx_lmul C dX7_addStop_66 ?_
        refine zx_goto C 71 dX7_addStop_67 (by decide) ?_
        refine zx_topl (fun x10 ex10 => ?_)
        replace h := h x10 ex10
        refine zx_lstore (lv' := [(5, .long x10), (0, .ref (g 198)), (1, .int x_1), (2, .int x_2), (3, .int x_3), (4, .int x_4)]) C dX7_addStop_71 (by decide) rfl ?_
        refine zx_aload_n C dX7_addStop_73 1 rfl ?_
        refine zx_getR C zs_198 fg_X7_9 rfl 199 rfl dX7_addStop_74 ?_
        refine zx_iload C dX7_addStop_77 5 rfl ?_
        refine zx_aload_n C dX7_addStop_79 1 rfl ?_
        refine zx_getR C zs_198 fg_X7_9 rfl 199 rfl dX7_addStop_80 ?_
        refine zx_iload C dX7_addStop_83 5 rfl ?_
        obtain ⟨bd11, h⟩ := h
        refine zx_lald C (x_4).toNatClampNeg zs_199 bd11 rfl dX7_addStop_85 ?_
        refine zx_bipush (v := (10 : Int32)) C dX7_addStop_86 (by decide) ?_
        refine zx_iload_n C dX7_addStop_88 3 rfl ?_
        refine zx_isub C dX7_addStop_89 ?_
        refine zx_i2l C dX7_addStop_90 ?_
        refine zx_lmul C dX7_addStop_91 ?_
        refine zx_lload C dX7_addStop_92 0 rfl ?_
        refine zx_ladd C dX7_addStop_94 ?_
        obtain ⟨bd12, h⟩ := h
        refine zx_last C (x_4).toNatClampNeg zs_199 bd12 rfl dX7_addStop_95 ?_
        refine zx_sig (fun σ13 eσ13 => ?_)
        replace h := h σ13 eσ13
        obtain ⟨x14, ex14⟩ : ∃ y : Int32, y = (x_4 + (-1 : Int32)) := ⟨_, rfl⟩
        replace h := h x14 ex14
        refine zx_iinc (v := x14) (lv' := [(4, .int x14), (5, .long x10), (0, .ref (g 198)), (1, .int x_1), (2, .int x_2), (3, .int x_3)]) C dX7_addStop_96 5 rfl (by rw [ex14]; rfl) (by decide) rfl ?_
        refine zx_goto C 44 dX7_addStop_99 (by decide) ?_
        refine zx_lv (lv' := [(0, .ref (g 198)), (1, .int x_1), (2, .int x_2), (3, .int x_3), (4, .int x14)]) [2, 3, 4, 5, 0] rfl ?_
        exact ih x14 σ13 h
set_option maxRecDepth 100000 in
set_option maxHeartbeats 4000000 in
theorem k_X7_addStop_21 {p : Program} {l : Launch} {e : Env} {s : State} {m : MethodId} {args : Array Value} {below : List Frame} {meth : Method} {c : Code} {D : va_G} {cy : Nat → ClassId} {g : Nat → Nat} (C : zC p s m args meth c cX7_addStop RX7 7 D cy g) (hr : meth.sig.returnType = none) {P : zSto → Prop} (x_1 : Int32) (x_2 : Int32) (x_3 : Int32)    : ∀ (n : Nat) (x_4 : Int32) (σ : zSto), w_X7_addStop_21 x_1 x_2 x_3 P n x_4 σ → zX p l e (zrm 1 64) s m args below meth c 0 0 (zQv P below args s D cy g) 7 D cy g 21 [(0, .ref (g 198)), (1, .int x_1), (2, .int x_2), (3, .int x_3), (4, .int x_4)] [] σ := by
  intro n
  induction n with
  | zero => intro x_4 σ h; exact h.elim
  | succ n ih =>
    intro x_4 σ h
    unfold w_X7_addStop_21 at h
    refine zx_iload C dX7_addStop_21 4 rfl ?_
    refine zx_iload_n C dX7_addStop_23 3 rfl ?_
    refine zx_icmp_gt C 41 dX7_addStop_24 (by decide) (fun q => ?_) (fun q => ?_)
    · replace h := h.1 q
      refine zx_iload_n C dX7_addStop_41 3 rfl ?_
      refine zx_istore (lv' := [(4, .int x_3), (0, .ref (g 198)), (1, .int x_1), (2, .int x_2), (3, .int x_3)]) C dX7_addStop_42 (by decide) rfl ?_
      obtain ⟨n2, h⟩ := h
      refine zx_lv (lv' := [(0, .ref (g 198)), (1, .int x_1), (2, .int x_2), (3, .int x_3), (4, .int x_3)]) [1, 2, 3, 4, 0] rfl ?_
      exact k_X7_addStop_44 C hr (x_1) (x_2) (x_3)   n2 x_3 σ h
    · replace h := h.2 q
      refine zx_aload_n C dX7_addStop_27 0 rfl ?_
      refine zx_getR C zs_198 fg_X7_9 rfl 199 rfl dX7_addStop_28 ?_
      refine zx_iload C dX7_addStop_31 4 rfl ?_
      refine zx_lconst (v := (0 : Int64)) C dX7_addStop_33 (by decide) ?_
      obtain ⟨bd15, h⟩ := h
      refine zx_last C (x_4).toNatClampNeg zs_199 bd15 rfl dX7_addStop_34 ?_
      refine zx_sig (fun σ16 eσ16 => ?_)
      replace h := h σ16 eσ16
      obtain ⟨x17, ex17⟩ : ∃ y : Int32, y = (x_4 + (1 : Int32)) := ⟨_, rfl⟩
      replace h := h x17 ex17
      refine zx_iinc (v := x17) (lv' := [(4, .int x17), (0, .ref (g 198)), (1, .int x_1), (2, .int x_2), (3, .int x_3)]) C dX7_addStop_35 4 rfl (by rw [ex17]; rfl) (by decide) rfl ?_
      refine zx_goto C 21 dX7_addStop_38 (by decide) ?_
      refine zx_lv (lv' := [(0, .ref (g 198)), (1, .int x_1), (2, .int x_2), (3, .int x_3), (4, .int x17)]) [1, 2, 3, 4, 0] rfl ?_
      exact ih x17 σ16 h
set_option maxRecDepth 100000 in
set_option maxHeartbeats 4000000 in
theorem c_X7_addStop (l : Launch) (D : va_G) (cy : Nat → ClassId) (g : Nat → Nat) (a1 : Int32) (a2 : Int32)  (σ : zSto) {P : zSto → Prop} (h : w_X7_addStop a1 a2 σ P) : zMv l yX7_addStop cX7_addStop 7 none (zrm 1 64) D cy g [.ref (g 198), .int a1, .int a2] σ P := by
  unfold w_X7_addStop at h
  refine zm_v RX7 rfl (by decide +kernel) (Nat.le_of_ble_eq_true rfl) ?_
  intro p e s m below meth c C hr
  refine zx_lv (lv' := [(0, .ref (g 198)), (1, .int a1), (2, .int a2)]) [0, 1, 2] rfl ?_
  refine zx_aload_n C dX7_addStop_0 0 rfl ?_
  refine zx_getI C zs_198 fg_X7_15 rfl dX7_addStop_1 ?_
  refine zx_iload_n C dX7_addStop_4 1 rfl ?_
  refine zx_iadd C dX7_addStop_5 ?_
  refine zx_sipush (v := (1125 : Int32)) C dX7_addStop_6 (by decide) ?_
  refine zx_min C ml_X7_37 st_math_min ini_J9 cd_math_min (Nat.le_of_ble_eq_true rfl) (Nat.le_of_ble_eq_true rfl) ⟨Nat.zero_le _, Nat.zero_le _⟩ dX7_addStop_9 ?_
  refine zx_topi (fun x1 ex1 => ?_)
  replace h := h x1 ex1
  refine zx_istore_n (lv' := [(3, .int x1), (0, .ref (g 198)), (1, .int a1), (2, .int a2)]) C dX7_addStop_12 (by decide) rfl ?_
  refine zx_aload_n C dX7_addStop_13 1 rfl ?_
  refine zx_getI C zs_198 fg_X7_15 rfl dX7_addStop_14 ?_
  refine zx_iconst (v := (1 : Int32)) C dX7_addStop_17 (by decide) ?_
  refine zx_iadd C dX7_addStop_18 ?_
  refine zx_topi (fun x2 ex2 => ?_)
  replace h := h x2 ex2
  refine zx_istore (lv' := [(4, .int x2), (3, .int x1), (0, .ref (g 198)), (1, .int a1), (2, .int a2)]) C dX7_addStop_19 (by decide) rfl ?_
  obtain ⟨n, h⟩ := h
  refine zx_lv (lv' := [(0, .ref (g 198)), (1, .int a1), (2, .int a2), (3, .int x1), (4, .int x2)]) [2, 3, 4, 1, 0] rfl ?_
  exact k_X7_addStop_21 C hr (a1) (a2) (x1)   n x2 σ h
theorem lk_X7_23 : zLV RX7 23 RX0 yX0_cost cX0_cost 3 (some .int) 1 := zLV_of ml_X7_23 im_X0_cost se_X0_cost ini_X0 cd_X0_cost (by decide +kernel)
theorem fg_X7_29 : zFG RX7 29 0 3 := ⟨RX0, TX0, 18, rfl, lay_X0, by decide, fl_X7_29⟩
theorem lk_X7_33 : zLV RX7 33 RX7 yX7_addStop cX7_addStop 7 none 2 := zLV_of ml_X7_33 im_X7_addStop se_X7_addStop ini_X7 cd_X7_addStop (by decide +kernel)
def w_X7_overPosts_19 (q_1 : Nat) (x_2 : Int32) (P : zSto → Prop)  : Nat → Int32 → zSto → Prop
  | 0, _, _ => False
  | n + 1, x_3, σ => ((x_2 ≤ x_3 → P σ) ∧ (¬ x_2 ≤ x_3 → (((15 : Int32) ≤ x_3 → P σ) ∧ (¬ (15 : Int32) ≤ x_3 → (w_X0_cost q_1 x_3 σ (fun (r5 : Int32) (σ4 : zSto) => (vp_in x_3 16 ∧ (w_X7_addStop r5 (σ4.1 (q_1 + 4) (x_3).toNatClampNeg) σ4 (fun (σ7 : zSto) => (∀ x8 : Int32, x8 = (x_3 + (1 : Int32)) → w_X7_overPosts_19 q_1 x_2 P n x8 σ7))))))))))
def w_X7_overPosts (b1 : Nat) (a2 : Int32) (σ : zSto) (P : zSto → Prop) : Prop := (∀ σ1 : zSto, σ1 = zI σ 198 1 (0 : Int32) → (∀ σ2 : zSto, σ2 = zJ σ1 198 2 (1 : Int64) → (∀ σ3 : zSto, σ3 = zJ σ2 199 0 (1 : Int64) → (∃ n : Nat, w_X7_overPosts_19 b1 a2 P  n (0 : Int32) σ3))))
set_option maxRecDepth 100000 in
set_option maxHeartbeats 4000000 in
theorem k_X7_overPosts_19 {p : Program} {l : Launch} {e : Env} {s : State} {m : MethodId} {args : Array Value} {below : List Frame} {meth : Method} {c : Code} {D : va_G} {cy : Nat → ClassId} {g : Nat → Nat} (C : zC p s m args meth c cX7_overPosts RX7 4 D cy g) (hr : meth.sig.returnType = none) {P : zSto → Prop} (q_1 : Nat) (x_2 : Int32) (hq_1 : zIsLine q_1)   : ∀ (n : Nat) (x_3 : Int32) (σ : zSto), w_X7_overPosts_19 q_1 x_2 P n x_3 σ → zX p l e (zrm 2 90) s m args below meth c 0 0 (zQv P below args s D cy g) 4 D cy g 19 [(0, .ref (g 198)), (1, .ref (g q_1)), (2, .int x_2), (3, .int x_3)] [] σ := by
  intro n
  induction n with
  | zero => intro x_3 σ h; exact h.elim
  | succ n ih =>
    intro x_3 σ h
    unfold w_X7_overPosts_19 at h
    refine zx_iload_n C dX7_overPosts_19 3 rfl ?_
    refine zx_iload_n C dX7_overPosts_20 2 rfl ?_
    refine zx_icmp_ge C 51 dX7_overPosts_21 (by decide) (fun q => ?_) (fun q => ?_)
    · replace h := h.1 q
      exact zx_vret C hr dX7_overPosts_51 h
    · replace h := h.2 q
      refine zx_iload_n C dX7_overPosts_24 3 rfl ?_
      refine zx_bipush (v := (15 : Int32)) C dX7_overPosts_25 (by decide) ?_
      refine zx_icmp_ge C 51 dX7_overPosts_27 (by decide) (fun q => ?_) (fun q => ?_)
      · replace h := h.1 q
        exact zx_vret C hr dX7_overPosts_51 h
      · replace h := h.2 q
        refine zx_aload_n C dX7_overPosts_30 0 rfl ?_
        refine zx_aload_n C dX7_overPosts_31 1 rfl ?_
        refine zx_iload_n C dX7_overPosts_32 3 rfl ?_
        refine zx_cVi C [.int x_3] lk_X7_23 (c_X0_cost l D cy g q_1 x_3 hq_1 σ h) hq_1.1 rfl ⟨by decide, by decide⟩ ⟨rfl, rfl⟩ ⟨Nat.zero_le _, Nat.zero_le _⟩ rfl rfl (Nat.le_of_ble_eq_true rfl) dX7_overPosts_33 (fun r5 σ4 h => ?_)
        refine zx_aload_n C dX7_overPosts_36 1 rfl ?_
        refine zx_getR C hq_1.1 fg_X7_29 rfl (q_1 + 4) rfl dX7_overPosts_37 ?_
        refine zx_iload_n C dX7_overPosts_40 3 rfl ?_
        obtain ⟨bd6, h⟩ := h
        refine zx_iald C (x_3).toNatClampNeg hq_1.2.2.2.2.1 bd6 rfl dX7_overPosts_41 ?_
        refine zx_cVv C [.int r5, .int (σ4.1 (q_1 + 4) (x_3).toNatClampNeg)] lk_X7_33 (c_X7_addStop l D cy g r5 (σ4.1 (q_1 + 4) (x_3).toNatClampNeg)  σ4 h) zs_198 rfl ⟨by decide, by decide⟩ ⟨rfl, rfl⟩ ⟨Nat.zero_le _, Nat.zero_le _⟩ rfl rfl (Nat.le_of_ble_eq_true rfl) dX7_overPosts_42 (fun σ7 h => ?_)
        obtain ⟨x8, ex8⟩ : ∃ y : Int32, y = (x_3 + (1 : Int32)) := ⟨_, rfl⟩
        replace h := h x8 ex8
        refine zx_iinc (v := x8) (lv' := [(3, .int x8), (0, .ref (g 198)), (1, .ref (g q_1)), (2, .int x_2)]) C dX7_overPosts_45 3 rfl (by rw [ex8]; rfl) (by decide) rfl ?_
        refine zx_goto C 19 dX7_overPosts_48 (by decide) ?_
        refine zx_lv (lv' := [(0, .ref (g 198)), (1, .ref (g q_1)), (2, .int x_2), (3, .int x8)]) [1, 2, 3, 0] rfl ?_
        exact ih x8 σ7 h
set_option maxRecDepth 100000 in
set_option maxHeartbeats 4000000 in
theorem c_X7_overPosts (l : Launch) (D : va_G) (cy : Nat → ClassId) (g : Nat → Nat) (b1 : Nat) (a2 : Int32) (hb1 : zIsLine b1) (σ : zSto) {P : zSto → Prop} (h : w_X7_overPosts b1 a2 σ P) : zMv l yX7_overPosts cX7_overPosts 4 none (zrm 2 90) D cy g [.ref (g 198), .ref (g b1), .int a2] σ P := by
  unfold w_X7_overPosts at h
  refine zm_v RX7 rfl (by decide +kernel) (Nat.le_of_ble_eq_true rfl) ?_
  intro p e s m below meth c C hr
  refine zx_lv (lv' := [(0, .ref (g 198)), (1, .ref (g b1)), (2, .int a2)]) [0, 1, 2] rfl ?_
  refine zx_aload_n C dX7_overPosts_0 0 rfl ?_
  refine zx_iconst (v := (0 : Int32)) C dX7_overPosts_1 (by decide) ?_
  refine zx_putI C zs_198 fp_X7_15 rfl dX7_overPosts_2 ?_
  refine zx_sig (fun σ1 eσ1 => ?_)
  replace h := h σ1 eσ1
  refine zx_aload_n C dX7_overPosts_5 0 rfl ?_
  refine zx_lconst (v := (1 : Int64)) C dX7_overPosts_6 (by decide) ?_
  refine zx_putL C zs_198 fp_X7_19 rfl dX7_overPosts_7 ?_
  refine zx_sig (fun σ2 eσ2 => ?_)
  replace h := h σ2 eσ2
  refine zx_aload_n C dX7_overPosts_10 0 rfl ?_
  refine zx_getR C zs_198 fg_X7_9 rfl 199 rfl dX7_overPosts_11 ?_
  refine zx_iconst (v := (0 : Int32)) C dX7_overPosts_14 (by decide) ?_
  refine zx_lconst (v := (1 : Int64)) C dX7_overPosts_15 (by decide) ?_
  refine zx_last C 0 zs_199 (by unfold vp_in; decide) (by decide) dX7_overPosts_16 ?_
  refine zx_sig (fun σ3 eσ3 => ?_)
  replace h := h σ3 eσ3
  refine zx_iconst (v := (0 : Int32)) C dX7_overPosts_17 (by decide) ?_
  refine zx_istore_n (lv' := [(3, .int (0 : Int32)), (0, .ref (g 198)), (1, .ref (g b1)), (2, .int a2)]) C dX7_overPosts_18 (by decide) rfl ?_
  obtain ⟨n, h⟩ := h
  refine zx_lv (lv' := [(0, .ref (g 198)), (1, .ref (g b1)), (2, .int a2), (3, .int (0 : Int32))]) [1, 2, 3, 0] rfl ?_
  exact k_X7_overPosts_19 C hr (b1) (a2) hb1  n (0 : Int32) σ3 h
def w_X7_weightUpTo_5 (x_1 : Int32) (P : Int64 → zSto → Prop)  : Nat → Int64 → Int32 → zSto → Prop
  | 0, _, _, _ => False
  | n + 1, x_2, x_4, σ => (((σ.1 198 1) < x_4 → P x_2 σ) ∧ (¬ (σ.1 198 1) < x_4 → ((x_1 < x_4 → P x_2 σ) ∧ (¬ x_1 < x_4 → (vp_in x_4 1126 ∧ (∀ x2 : Int64, x2 = (x_2 + (σ.2 199 (x_4).toNatClampNeg)) → (∀ x3 : Int32, x3 = (x_4 + (1 : Int32)) → w_X7_weightUpTo_5 x_1 P n x2 x3 σ)))))))
def w_X7_weightUpTo (a1 : Int32) (σ : zSto) (P : Int64 → zSto → Prop) : Prop := (∃ n : Nat, w_X7_weightUpTo_5 a1 P  n (0 : Int64) (0 : Int32) σ)
set_option maxRecDepth 100000 in
set_option maxHeartbeats 4000000 in
theorem k_X7_weightUpTo_5 {p : Program} {l : Launch} {e : Env} {s : State} {m : MethodId} {args : Array Value} {below : List Frame} {meth : Method} {c : Code} {D : va_G} {cy : Nat → ClassId} {g : Nat → Nat} (C : zC p s m args meth c cX7_weightUpTo RX7 5 D cy g) (hr : meth.sig.returnType = (some .long)) {P : Int64 → zSto → Prop} (x_1 : Int32)    : ∀ (n : Nat) (x_2 : Int64) (x_4 : Int32) (σ : zSto), w_X7_weightUpTo_5 x_1 P n x_2 x_4 σ → zX p l e (zrm 0 0) s m args below meth c 0 0 (zQl P below args s D cy g) 5 D cy g 5 [(0, .ref (g 198)), (1, .int x_1), (2, .long x_2), (4, .int x_4)] [] σ := by
  intro n
  induction n with
  | zero => intro x_2 x_4 σ h; exact h.elim
  | succ n ih =>
    intro x_2 x_4 σ h
    unfold w_X7_weightUpTo_5 at h
    refine zx_iload C dX7_weightUpTo_5 3 rfl ?_
    refine zx_aload_n C dX7_weightUpTo_7 0 rfl ?_
    refine zx_getI C zs_198 fg_X7_15 rfl dX7_weightUpTo_8 ?_
    refine zx_icmp_gt C 36 dX7_weightUpTo_11 (by decide) (fun q => ?_) (fun q => ?_)
    · replace h := h.1 q
      refine zx_lload_n C dX7_weightUpTo_36 2 rfl ?_
      exact zx_lret C hr dX7_weightUpTo_37 h
    · replace h := h.2 q
      refine zx_iload C dX7_weightUpTo_14 3 rfl ?_
      refine zx_iload_n C dX7_weightUpTo_16 1 rfl ?_
      refine zx_icmp_gt C 36 dX7_weightUpTo_17 (by decide) (fun q => ?_) (fun q => ?_)
      · replace h := h.1 q
        refine zx_lload_n C dX7_weightUpTo_36 2 rfl ?_
        exact zx_lret C hr dX7_weightUpTo_37 h
      · replace h := h.2 q
        refine zx_lload_n C dX7_weightUpTo_20 2 rfl ?_
        refine zx_aload_n C dX7_weightUpTo_21 0 rfl ?_
        refine zx_getR C zs_198 fg_X7_9 rfl 199 rfl dX7_weightUpTo_22 ?_
        refine zx_iload C dX7_weightUpTo_25 3 rfl ?_
        obtain ⟨bd1, h⟩ := h
        refine zx_lald C (x_4).toNatClampNeg zs_199 bd1 rfl dX7_weightUpTo_27 ?_
        refine zx_ladd C dX7_weightUpTo_28 ?_
        refine zx_topl (fun x2 ex2 => ?_)
        replace h := h x2 ex2
        refine zx_lstore_n (lv' := [(2, .long x2), (0, .ref (g 198)), (1, .int x_1), (4, .int x_4)]) C dX7_weightUpTo_29 (by decide) rfl ?_
        obtain ⟨x3, ex3⟩ : ∃ y : Int32, y = (x_4 + (1 : Int32)) := ⟨_, rfl⟩
        replace h := h x3 ex3
        refine zx_iinc (v := x3) (lv' := [(4, .int x3), (2, .long x2), (0, .ref (g 198)), (1, .int x_1)]) C dX7_weightUpTo_30 3 rfl (by rw [ex3]; rfl) (by decide) rfl ?_
        refine zx_goto C 5 dX7_weightUpTo_33 (by decide) ?_
        refine zx_lv (lv' := [(0, .ref (g 198)), (1, .int x_1), (2, .long x2), (4, .int x3)]) [2, 3, 1, 0] rfl ?_
        exact ih x2 x3 σ h
set_option maxRecDepth 100000 in
set_option maxHeartbeats 4000000 in
theorem c_X7_weightUpTo (l : Launch) (D : va_G) (cy : Nat → ClassId) (g : Nat → Nat) (a1 : Int32)  (σ : zSto) {P : Int64 → zSto → Prop} (h : w_X7_weightUpTo a1 σ P) : zMl l yX7_weightUpTo cX7_weightUpTo 5 (some .long) (zrm 0 0) D cy g [.ref (g 198), .int a1] σ P := by
  unfold w_X7_weightUpTo at h
  refine zm_l RX7 rfl (by decide +kernel) (Nat.le_of_ble_eq_true rfl) ?_
  intro p e s m below meth c C hr
  refine zx_lv (lv' := [(0, .ref (g 198)), (1, .int a1)]) [0, 1] rfl ?_
  refine zx_lconst (v := (0 : Int64)) C dX7_weightUpTo_0 (by decide) ?_
  refine zx_lstore_n (lv' := [(2, .long (0 : Int64)), (0, .ref (g 198)), (1, .int a1)]) C dX7_weightUpTo_1 (by decide) rfl ?_
  refine zx_iconst (v := (0 : Int32)) C dX7_weightUpTo_2 (by decide) ?_
  refine zx_istore (lv' := [(4, .int (0 : Int32)), (2, .long (0 : Int64)), (0, .ref (g 198)), (1, .int a1)]) C dX7_weightUpTo_3 (by decide) rfl ?_
  obtain ⟨n, h⟩ := h
  refine zx_lv (lv' := [(0, .ref (g 198)), (1, .int a1), (2, .long (0 : Int64)), (4, .int (0 : Int32))]) [2, 3, 1, 0] rfl ?_
  exact k_X7_weightUpTo_5 C hr (a1)   n (0 : Int64) (0 : Int32) σ h
def w_X7_leastCosts_5 (x_1 : Int32) (P : Int32 → zSto → Prop)  : Nat → Int64 → Int32 → zSto → Prop
  | 0, _, _, _ => False
  | n + 1, x_2, x_4, σ => (((σ.1 198 1) ≤ x_4 → P (σ.1 198 1) σ) ∧ (¬ (σ.1 198 1) ≤ x_4 → (vp_in x_4 1126 ∧ (∀ x2 : Int64, x2 = (x_2 + (σ.2 199 (x_4).toNatClampNeg)) → (((lg_cmp (x2 * (100 : Int64)) ((σ.2 198 2) * x_1.toInt64)) < 0 → (∀ x3 : Int32, x3 = (x_4 + (1 : Int32)) → w_X7_leastCosts_5 x_1 P n x2 x3 σ)) ∧ (¬ (lg_cmp (x2 * (100 : Int64)) ((σ.2 198 2) * x_1.toInt64)) < 0 → P x_4 σ))))))
def w_X7_leastCosts (a1 : Int32) (σ : zSto) (P : Int32 → zSto → Prop) : Prop := (∃ n : Nat, w_X7_leastCosts_5 a1 P  n (0 : Int64) (0 : Int32) σ)
set_option maxRecDepth 100000 in
set_option maxHeartbeats 4000000 in
theorem k_X7_leastCosts_5 {p : Program} {l : Launch} {e : Env} {s : State} {m : MethodId} {args : Array Value} {below : List Frame} {meth : Method} {c : Code} {D : va_G} {cy : Nat → ClassId} {g : Nat → Nat} (C : zC p s m args meth c cX7_leastCosts RX7 5 D cy g) (hr : meth.sig.returnType = (some .int)) {P : Int32 → zSto → Prop} (x_1 : Int32)    : ∀ (n : Nat) (x_2 : Int64) (x_4 : Int32) (σ : zSto), w_X7_leastCosts_5 x_1 P n x_2 x_4 σ → zX p l e (zrm 0 0) s m args below meth c 0 0 (zQi P below args s D cy g) 5 D cy g 5 [(0, .ref (g 198)), (1, .int x_1), (2, .long x_2), (4, .int x_4)] [] σ := by
  intro n
  induction n with
  | zero => intro x_2 x_4 σ h; exact h.elim
  | succ n ih =>
    intro x_2 x_4 σ h
    unfold w_X7_leastCosts_5 at h
    refine zx_iload C dX7_leastCosts_5 3 rfl ?_
    refine zx_aload_n C dX7_leastCosts_7 0 rfl ?_
    refine zx_getI C zs_198 fg_X7_15 rfl dX7_leastCosts_8 ?_
    refine zx_icmp_ge C 49 dX7_leastCosts_11 (by decide) (fun q => ?_) (fun q => ?_)
    · replace h := h.1 q
      refine zx_aload_n C dX7_leastCosts_49 0 rfl ?_
      refine zx_getI C zs_198 fg_X7_15 rfl dX7_leastCosts_50 ?_
      exact zx_iret C hr dX7_leastCosts_53 h
    · replace h := h.2 q
      refine zx_lload_n C dX7_leastCosts_14 2 rfl ?_
      refine zx_aload_n C dX7_leastCosts_15 0 rfl ?_
      refine zx_getR C zs_198 fg_X7_9 rfl 199 rfl dX7_leastCosts_16 ?_
      refine zx_iload C dX7_leastCosts_19 3 rfl ?_
      obtain ⟨bd1, h⟩ := h
      refine zx_lald C (x_4).toNatClampNeg zs_199 bd1 rfl dX7_leastCosts_21 ?_
      refine zx_ladd C dX7_leastCosts_22 ?_
      refine zx_topl (fun x2 ex2 => ?_)
      replace h := h x2 ex2
      refine zx_lstore_n (lv' := [(2, .long x2), (0, .ref (g 198)), (1, .int x_1), (4, .int x_4)]) C dX7_leastCosts_23 (by decide) rfl ?_
      refine zx_lload_n C dX7_leastCosts_24 0 rfl ?_
      refine zx_ldc2 C dX7_leastCosts_25 co_X7_45 ?_
      refine zx_lmul C dX7_leastCosts_28 ?_
      refine zx_aload_n C dX7_leastCosts_29 1 rfl ?_
      refine zx_getL C zs_198 fg_X7_19 rfl dX7_leastCosts_30 ?_
      refine zx_iload_n C dX7_leastCosts_33 2 rfl ?_
      refine zx_i2l C dX7_leastCosts_34 ?_
      refine zx_lmul C dX7_leastCosts_35 ?_
      refine zx_lcmp C dX7_leastCosts_36 ?_
      refine zx_if_lt C 43 dX7_leastCosts_37 (by decide) (fun q => ?_) (fun q => ?_)
      · replace h := h.1 q
        obtain ⟨x3, ex3⟩ : ∃ y : Int32, y = (x_4 + (1 : Int32)) := ⟨_, rfl⟩
        replace h := h x3 ex3
        refine zx_iinc (v := x3) (lv' := [(4, .int x3), (2, .long x2), (0, .ref (g 198)), (1, .int x_1)]) C dX7_leastCosts_43 3 rfl (by rw [ex3]; rfl) (by decide) rfl ?_
        refine zx_goto C 5 dX7_leastCosts_46 (by decide) ?_
        refine zx_lv (lv' := [(0, .ref (g 198)), (1, .int x_1), (2, .long x2), (4, .int x3)]) [2, 3, 1, 0] rfl ?_
        exact ih x2 x3 σ h
      · replace h := h.2 q
        refine zx_iload C dX7_leastCosts_40 3 rfl ?_
        exact zx_iret C hr dX7_leastCosts_42 h
set_option maxRecDepth 100000 in
set_option maxHeartbeats 4000000 in
theorem c_X7_leastCosts (l : Launch) (D : va_G) (cy : Nat → ClassId) (g : Nat → Nat) (a1 : Int32)  (σ : zSto) {P : Int32 → zSto → Prop} (h : w_X7_leastCosts a1 σ P) : zMi l yX7_leastCosts cX7_leastCosts 5 (some .int) (zrm 0 0) D cy g [.ref (g 198), .int a1] σ P := by
  unfold w_X7_leastCosts at h
  refine zm_i RX7 rfl (by decide +kernel) (Nat.le_of_ble_eq_true rfl) ?_
  intro p e s m below meth c C hr
  refine zx_lv (lv' := [(0, .ref (g 198)), (1, .int a1)]) [0, 1] rfl ?_
  refine zx_lconst (v := (0 : Int64)) C dX7_leastCosts_0 (by decide) ?_
  refine zx_lstore_n (lv' := [(2, .long (0 : Int64)), (0, .ref (g 198)), (1, .int a1)]) C dX7_leastCosts_1 (by decide) rfl ?_
  refine zx_iconst (v := (0 : Int32)) C dX7_leastCosts_2 (by decide) ?_
  refine zx_istore (lv' := [(4, .int (0 : Int32)), (2, .long (0 : Int64)), (0, .ref (g 198)), (1, .int a1)]) C dX7_leastCosts_3 (by decide) rfl ?_
  obtain ⟨n, h⟩ := h
  refine zx_lv (lv' := [(0, .ref (g 198)), (1, .int a1), (2, .long (0 : Int64)), (4, .int (0 : Int32))]) [2, 3, 1, 0] rfl ?_
  exact k_X7_leastCosts_5 C hr (a1)   n (0 : Int64) (0 : Int32) σ h
theorem fg_X8_9 : zFG RX8 9 8 0 := ⟨RX8, TX8, 8, rfl, lay_X8, by decide, fl_X8_9⟩
theorem fg_X8_32 : zFG RX8 32 8 4 := ⟨RX8, TX8, 8, rfl, lay_X8, by decide, fl_X8_32⟩
theorem fg_X8_53 : zFG RX8 53 8 5 := ⟨RX8, TX8, 8, rfl, lay_X8, by decide, fl_X8_53⟩
theorem fp_X8_53 : zFP RX8 53 8 5 .int := ⟨RX8, TX8, 8, tyX8, rfl, lay_X8, by decide, fl_X8_53, tyX8_ok, nmX8, rfl, by decide +kernel⟩
theorem fg_X8_56 : zFG RX8 56 8 6 := ⟨RX8, TX8, 8, rfl, lay_X8, by decide, fl_X8_56⟩
theorem fp_X8_56 : zFP RX8 56 8 6 .int := ⟨RX8, TX8, 8, tyX8, rfl, lay_X8, by decide, fl_X8_56, tyX8_ok, nmX8, rfl, by decide +kernel⟩
theorem fg_X8_36 : zFG RX8 36 8 7 := ⟨RX8, TX8, 8, rfl, lay_X8, by decide, fl_X8_36⟩
theorem fp_X8_36 : zFP RX8 36 8 7 .int := ⟨RX8, TX8, 8, tyX8, rfl, lay_X8, by decide, fl_X8_36, tyX8_ok, nmX8, rfl, by decide +kernel⟩
theorem fg_X8_18 : zFG RX8 18 8 1 := ⟨RX8, TX8, 8, rfl, lay_X8, by decide, fl_X8_18⟩
theorem lk_X8_46 : zLV RX8 46 RX0 yX0_copyFrom cX0_copyFrom 2 none 1 := zLV_of ml_X8_46 im_X0_copyFrom se_X0_copyFrom ini_X0 cd_X0_copyFrom (by decide +kernel)
theorem fg_X8_25 : zFG RX8 25 8 2 := ⟨RX8, TX8, 8, rfl, lay_X8, by decide, fl_X8_25⟩
theorem lk_X8_50 : zLV RX8 50 RX2 yX2_copyFrom cX2_copyFrom 2 none 1 := zLV_of ml_X8_50 im_X2_copyFrom se_X2_copyFrom ini_X2 cd_X2_copyFrom (by decide +kernel)
theorem fg_X8_29 : zFG RX8 29 8 3 := ⟨RX8, TX8, 8, rfl, lay_X8, by decide, fl_X8_29⟩
def w_X8_copyFrom_18 (q_0 : Nat) (q_1 : Nat) (P : zSto → Prop)  : Nat → Int32 → zSto → Prop
  | 0, _, _ => False
  | n + 1, x_2, σ => (((2 : Int32) ≤ x_2 → (∀ σ3 : zSto, σ3 = zR σ (q_0 + 41) (va_cpy (σ.1 (q_1 + 41)) (σ.1 (q_0 + 41)) 0 0 3) → (∀ σ4 : zSto, σ4 = zI σ3 q_0 5 (σ3.1 q_1 5) → (∀ σ5 : zSto, σ5 = zI σ4 q_0 6 (σ4.1 q_1 6) → (∀ σ6 : zSto, σ6 = zI σ5 q_0 7 (σ5.1 q_1 7) → P σ6))))) ∧ (¬ (2 : Int32) ≤ x_2 → (vp_in x_2 2 ∧ (∀ j8 : Nat, j8 = (q_0 + 2) + zel [(0, 1), (0, 13)] x_2 → zIsLine j8 ∧ (vp_in x_2 2 ∧ (∀ j10 : Nat, j10 = (q_1 + 2) + zel [(0, 1), (0, 13)] x_2 → zIsLine j10 ∧ (w_X0_copyFrom j8 j10 σ (fun (σ11 : zSto) => (vp_in x_2 2 ∧ (∀ j13 : Nat, j13 = (q_0 + 27) + zel [(0, 1), (0, 4)] x_2 → zIsPairs j13 ∧ (vp_in x_2 2 ∧ (∀ j15 : Nat, j15 = (q_1 + 27) + zel [(0, 1), (0, 4)] x_2 → zIsPairs j15 ∧ (w_X2_copyFrom j13 j15 σ11 (fun (σ16 : zSto) => (vp_in x_2 2 ∧ (∀ j18 : Nat, j18 = (q_0 + 34) + zel [(0, 1), (0, 4)] x_2 → zIsPairs j18 ∧ (vp_in x_2 2 ∧ (∀ j20 : Nat, j20 = (q_1 + 34) + zel [(0, 1), (0, 4)] x_2 → zIsPairs j20 ∧ (w_X2_copyFrom j18 j20 σ16 (fun (σ21 : zSto) => (∀ x22 : Int32, x22 = (x_2 + (1 : Int32)) → w_X8_copyFrom_18 q_0 q_1 P n x22 σ21)))))))))))))))))))))
def w_X8_copyFrom (t : Nat) (b1 : Nat) (σ : zSto) (P : zSto → Prop) : Prop := ((∀ i : Nat, i < 600 → fits .byte (.int (σ.1 (b1 + 1) (0 + i))) = true) ∧ (∀ σ1 : zSto, σ1 = zR σ (t + 1) (va_cpy (σ.1 (b1 + 1)) (σ.1 (t + 1)) 0 0 600) → (∃ n : Nat, w_X8_copyFrom_18 t b1 P  n (0 : Int32) σ1)))
set_option maxRecDepth 100000 in
set_option maxHeartbeats 4000000 in
theorem k_X8_copyFrom_18 {p : Program} {l : Launch} {e : Env} {s : State} {m : MethodId} {args : Array Value} {below : List Frame} {meth : Method} {c : Code} {D : va_G} {cy : Nat → ClassId} {g : Nat → Nat} (C : zC p s m args meth c cX8_copyFrom RX8 3 D cy g) (hr : meth.sig.returnType = none) {P : zSto → Prop} (q_0 : Nat) (q_1 : Nat) (hq_0 : zIsState q_0) (hq_1 : zIsState q_1)   : ∀ (n : Nat) (x_2 : Int32) (σ : zSto), w_X8_copyFrom_18 q_0 q_1 P n x_2 σ → zX p l e (zrm 2 85) s m args below meth c 0 0 (zQv P below args s D cy g) 3 D cy g 18 [(0, .ref (g q_0)), (1, .ref (g q_1)), (2, .int x_2)] [] σ := by
  intro n
  induction n with
  | zero => intro x_2 σ h; exact h.elim
  | succ n ih =>
    intro x_2 σ h
    unfold w_X8_copyFrom_18 at h
    refine zx_iload_n C dX8_copyFrom_18 2 rfl ?_
    refine zx_iconst (v := (2 : Int32)) C dX8_copyFrom_19 (by decide) ?_
    refine zx_icmp_ge C 74 dX8_copyFrom_20 (by decide) (fun q => ?_) (fun q => ?_)
    · replace h := h.1 q
      refine zx_aload_n C dX8_copyFrom_74 1 rfl ?_
      refine zx_getR C hq_1.1 fg_X8_32 rfl (q_1 + 41) rfl dX8_copyFrom_75 ?_
      refine zx_iconst (v := (0 : Int32)) C dX8_copyFrom_78 (by decide) ?_
      refine zx_aload_n C dX8_copyFrom_79 0 rfl ?_
      refine zx_getR C hq_0.1 fg_X8_32 rfl (q_0 + 41) rfl dX8_copyFrom_80 ?_
      refine zx_iconst (v := (0 : Int32)) C dX8_copyFrom_83 (by decide) ?_
      refine zx_iconst (v := (3 : Int32)) C dX8_copyFrom_84 (by decide) ?_
      refine zx_copy C 0 0 3 (ty := .int) hq_1.2.2.2.2.2.1 hq_0.2.2.2.2.2.1 rfl rfl ml_X8_40 na_arraycopy st_arraycopy ini_J10 (by decide) (by decide) (by decide) (by decide) (by decide) (by decide) (by decide) (by decide) (fun _ _ => rfl) (Nat.le_of_ble_eq_true rfl) (Nat.le_of_ble_eq_true rfl) dX8_copyFrom_85 ?_
      refine zx_sig (fun σ3 eσ3 => ?_)
      replace h := h σ3 eσ3
      refine zx_aload_n C dX8_copyFrom_88 0 rfl ?_
      refine zx_aload_n C dX8_copyFrom_89 1 rfl ?_
      refine zx_getI C hq_1.1 fg_X8_53 rfl dX8_copyFrom_90 ?_
      refine zx_putI C hq_0.1 fp_X8_53 rfl dX8_copyFrom_93 ?_
      refine zx_sig (fun σ4 eσ4 => ?_)
      replace h := h σ4 eσ4
      refine zx_aload_n C dX8_copyFrom_96 0 rfl ?_
      refine zx_aload_n C dX8_copyFrom_97 1 rfl ?_
      refine zx_getI C hq_1.1 fg_X8_56 rfl dX8_copyFrom_98 ?_
      refine zx_putI C hq_0.1 fp_X8_56 rfl dX8_copyFrom_101 ?_
      refine zx_sig (fun σ5 eσ5 => ?_)
      replace h := h σ5 eσ5
      refine zx_aload_n C dX8_copyFrom_104 0 rfl ?_
      refine zx_aload_n C dX8_copyFrom_105 1 rfl ?_
      refine zx_getI C hq_1.1 fg_X8_36 rfl dX8_copyFrom_106 ?_
      refine zx_putI C hq_0.1 fp_X8_36 rfl dX8_copyFrom_109 ?_
      refine zx_sig (fun σ6 eσ6 => ?_)
      replace h := h σ6 eσ6
      exact zx_vret C hr dX8_copyFrom_112 h
    · replace h := h.2 q
      refine zx_aload_n C dX8_copyFrom_23 0 rfl ?_
      refine zx_getR C hq_0.1 fg_X8_18 rfl (q_0 + 2) rfl dX8_copyFrom_24 ?_
      refine zx_iload_n C dX8_copyFrom_27 2 rfl ?_
      obtain ⟨bd7, h⟩ := h
      refine zx_aald C hq_0.2.2.1 rfl bd7 rfl dX8_copyFrom_28 ?_
      refine zx_topr (fun j8 ej8 => ?_)
      obtain ⟨hj8, h⟩ := h j8 ej8
      refine zx_aload_n C dX8_copyFrom_29 1 rfl ?_
      refine zx_getR C hq_1.1 fg_X8_18 rfl (q_1 + 2) rfl dX8_copyFrom_30 ?_
      refine zx_iload_n C dX8_copyFrom_33 2 rfl ?_
      obtain ⟨bd9, h⟩ := h
      refine zx_aald C hq_1.2.2.1 rfl bd9 rfl dX8_copyFrom_34 ?_
      refine zx_topr (fun j10 ej10 => ?_)
      obtain ⟨hj10, h⟩ := h j10 ej10
      refine zx_cVv C [.ref (g j10)] lk_X8_46 (c_X0_copyFrom l D cy g j8 j10 hj8 hj10 σ h) hj8.1 rfl ⟨by decide, by decide⟩ ⟨rfl, rfl⟩ ⟨Nat.zero_le _, Nat.zero_le _⟩ rfl rfl (Nat.le_of_ble_eq_true rfl) dX8_copyFrom_35 (fun σ11 h => ?_)
      refine zx_aload_n C dX8_copyFrom_38 0 rfl ?_
      refine zx_getR C hq_0.1 fg_X8_25 rfl (q_0 + 27) rfl dX8_copyFrom_39 ?_
      refine zx_iload_n C dX8_copyFrom_42 2 rfl ?_
      obtain ⟨bd12, h⟩ := h
      refine zx_aald C hq_0.2.2.2.1 rfl bd12 rfl dX8_copyFrom_43 ?_
      refine zx_topr (fun j13 ej13 => ?_)
      obtain ⟨hj13, h⟩ := h j13 ej13
      refine zx_aload_n C dX8_copyFrom_44 1 rfl ?_
      refine zx_getR C hq_1.1 fg_X8_25 rfl (q_1 + 27) rfl dX8_copyFrom_45 ?_
      refine zx_iload_n C dX8_copyFrom_48 2 rfl ?_
      obtain ⟨bd14, h⟩ := h
      refine zx_aald C hq_1.2.2.2.1 rfl bd14 rfl dX8_copyFrom_49 ?_
      refine zx_topr (fun j15 ej15 => ?_)
      obtain ⟨hj15, h⟩ := h j15 ej15
      refine zx_cVv C [.ref (g j15)] lk_X8_50 (c_X2_copyFrom l D cy g j13 j15 hj13 hj15 σ11 h) hj13.1 rfl ⟨by decide, by decide⟩ ⟨rfl, rfl⟩ ⟨Nat.zero_le _, Nat.zero_le _⟩ rfl rfl (Nat.le_of_ble_eq_true rfl) dX8_copyFrom_50 (fun σ16 h => ?_)
      refine zx_aload_n C dX8_copyFrom_53 0 rfl ?_
      refine zx_getR C hq_0.1 fg_X8_29 rfl (q_0 + 34) rfl dX8_copyFrom_54 ?_
      refine zx_iload_n C dX8_copyFrom_57 2 rfl ?_
      obtain ⟨bd17, h⟩ := h
      refine zx_aald C hq_0.2.2.2.2.1 rfl bd17 rfl dX8_copyFrom_58 ?_
      refine zx_topr (fun j18 ej18 => ?_)
      obtain ⟨hj18, h⟩ := h j18 ej18
      refine zx_aload_n C dX8_copyFrom_59 1 rfl ?_
      refine zx_getR C hq_1.1 fg_X8_29 rfl (q_1 + 34) rfl dX8_copyFrom_60 ?_
      refine zx_iload_n C dX8_copyFrom_63 2 rfl ?_
      obtain ⟨bd19, h⟩ := h
      refine zx_aald C hq_1.2.2.2.2.1 rfl bd19 rfl dX8_copyFrom_64 ?_
      refine zx_topr (fun j20 ej20 => ?_)
      obtain ⟨hj20, h⟩ := h j20 ej20
      refine zx_cVv C [.ref (g j20)] lk_X8_50 (c_X2_copyFrom l D cy g j18 j20 hj18 hj20 σ16 h) hj18.1 rfl ⟨by decide, by decide⟩ ⟨rfl, rfl⟩ ⟨Nat.zero_le _, Nat.zero_le _⟩ rfl rfl (Nat.le_of_ble_eq_true rfl) dX8_copyFrom_65 (fun σ21 h => ?_)
      obtain ⟨x22, ex22⟩ : ∃ y : Int32, y = (x_2 + (1 : Int32)) := ⟨_, rfl⟩
      replace h := h x22 ex22
      refine zx_iinc (v := x22) (lv' := [(2, .int x22), (0, .ref (g q_0)), (1, .ref (g q_1))]) C dX8_copyFrom_68 2 rfl (by rw [ex22]; rfl) (by decide) rfl ?_
      refine zx_goto C 18 dX8_copyFrom_71 (by decide) ?_
      refine zx_lv (lv' := [(0, .ref (g q_0)), (1, .ref (g q_1)), (2, .int x22)]) [1, 2, 0] rfl ?_
      exact ih x22 σ21 h
set_option maxRecDepth 100000 in
set_option maxHeartbeats 4000000 in
theorem c_X8_copyFrom (l : Launch) (D : va_G) (cy : Nat → ClassId) (g : Nat → Nat) (t : Nat) (b1 : Nat) (ht : zIsState t) (hb1 : zIsState b1) (σ : zSto) {P : zSto → Prop} (h : w_X8_copyFrom t b1 σ P) : zMv l yX8_copyFrom cX8_copyFrom 3 none (zrm 2 85) D cy g [.ref (g t), .ref (g b1)] σ P := by
  unfold w_X8_copyFrom at h
  refine zm_v RX8 rfl (by decide +kernel) (Nat.le_of_ble_eq_true rfl) ?_
  intro p e s m below meth c C hr
  refine zx_lv (lv' := [(0, .ref (g t)), (1, .ref (g b1))]) [0, 1] rfl ?_
  refine zx_aload_n C dX8_copyFrom_0 1 rfl ?_
  refine zx_getR C hb1.1 fg_X8_9 rfl (b1 + 1) rfl dX8_copyFrom_1 ?_
  refine zx_iconst (v := (0 : Int32)) C dX8_copyFrom_4 (by decide) ?_
  refine zx_aload_n C dX8_copyFrom_5 0 rfl ?_
  refine zx_getR C ht.1 fg_X8_9 rfl (t + 1) rfl dX8_copyFrom_6 ?_
  refine zx_iconst (v := (0 : Int32)) C dX8_copyFrom_9 (by decide) ?_
  refine zx_sipush (v := (600 : Int32)) C dX8_copyFrom_10 (by decide) ?_
  obtain ⟨f2, h⟩ := h
  refine zx_copy C 0 0 600 (ty := .byte) hb1.2.1 ht.2.1 rfl rfl ml_X8_40 na_arraycopy st_arraycopy ini_J10 (by decide) (by decide) (by decide) (by decide) (by decide) (by decide) (by decide) (by decide) f2 (Nat.le_of_ble_eq_true rfl) (Nat.le_of_ble_eq_true rfl) dX8_copyFrom_13 ?_
  refine zx_sig (fun σ1 eσ1 => ?_)
  replace h := h σ1 eσ1
  refine zx_iconst (v := (0 : Int32)) C dX8_copyFrom_16 (by decide) ?_
  refine zx_istore_n (lv' := [(2, .int (0 : Int32)), (0, .ref (g t)), (1, .ref (g b1))]) C dX8_copyFrom_17 (by decide) rfl ?_
  obtain ⟨n, h⟩ := h
  refine zx_lv (lv' := [(0, .ref (g t)), (1, .ref (g b1)), (2, .int (0 : Int32))]) [1, 2, 0] rfl ?_
  exact k_X8_copyFrom_18 C hr (t) (b1) ht hb1  n (0 : Int32) σ1 h
def w_X8_append_3 (q_0 : Nat) (x_1 : Int32) (P : zSto → Prop)  : Nat → Int32 → zSto → Prop
  | 0, _, _ => False
  | n + 1, x_2, σ => ((x_2 < 0 → P σ) ∧ (¬ x_2 < 0 → (((600 : Int32) ≤ (σ.1 q_0 5) → P σ) ∧ (¬ (600 : Int32) ≤ (σ.1 q_0 5) → (vp_in (σ.1 q_0 5) 600 ∧ (∀ σ2 : zSto, σ2 = zI σ (q_0 + 1) ((σ.1 q_0 5)).toNatClampNeg (vp_nar .byte (x_1.toUInt32 >>> (x_2.toUInt32 &&& Int32.toUInt32 31)).toInt32.toInt8.toInt32) → (∀ σ3 : zSto, σ3 = zI σ2 q_0 5 ((σ2.1 q_0 5) + (1 : Int32)) → (∀ x4 : Int32, x4 = (x_2 + (-8 : Int32)) → w_X8_append_3 q_0 x_1 P n x4 σ3))))))))
def w_X8_append (t : Nat) (a1 : Int32) (σ : zSto) (P : zSto → Prop) : Prop := (∃ n : Nat, w_X8_append_3 t a1 P  n (24 : Int32) σ)
set_option maxRecDepth 100000 in
set_option maxHeartbeats 4000000 in
theorem k_X8_append_3 {p : Program} {l : Launch} {e : Env} {s : State} {m : MethodId} {args : Array Value} {below : List Frame} {meth : Method} {c : Code} {D : va_G} {cy : Nat → ClassId} {g : Nat → Nat} (C : zC p s m args meth c cX8_append RX8 3 D cy g) (hr : meth.sig.returnType = none) {P : zSto → Prop} (q_0 : Nat) (x_1 : Int32) (hq_0 : zIsState q_0)   : ∀ (n : Nat) (x_2 : Int32) (σ : zSto), w_X8_append_3 q_0 x_1 P n x_2 σ → zX p l e (zrm 0 0) s m args below meth c 0 0 (zQv P below args s D cy g) 3 D cy g 3 [(0, .ref (g q_0)), (1, .int x_1), (2, .int x_2)] [] σ := by
  intro n
  induction n with
  | zero => intro x_2 σ h; exact h.elim
  | succ n ih =>
    intro x_2 σ h
    unfold w_X8_append_3 at h
    refine zx_iload_n C dX8_append_3 2 rfl ?_
    refine zx_if_lt C 46 dX8_append_4 (by decide) (fun q => ?_) (fun q => ?_)
    · replace h := h.1 q
      exact zx_vret C hr dX8_append_46 h
    · replace h := h.2 q
      refine zx_aload_n C dX8_append_7 0 rfl ?_
      refine zx_getI C hq_0.1 fg_X8_53 rfl dX8_append_8 ?_
      refine zx_sipush (v := (600 : Int32)) C dX8_append_11 (by decide) ?_
      refine zx_icmp_ge C 46 dX8_append_14 (by decide) (fun q => ?_) (fun q => ?_)
      · replace h := h.1 q
        exact zx_vret C hr dX8_append_46 h
      · replace h := h.2 q
        refine zx_aload_n C dX8_append_17 0 rfl ?_
        refine zx_getR C hq_0.1 fg_X8_9 rfl (q_0 + 1) rfl dX8_append_18 ?_
        refine zx_aload_n C dX8_append_21 0 rfl ?_
        refine zx_getI C hq_0.1 fg_X8_53 rfl dX8_append_22 ?_
        refine zx_iload_n C dX8_append_25 1 rfl ?_
        refine zx_iload_n C dX8_append_26 2 rfl ?_
        refine zx_iushr C dX8_append_27 ?_
        refine zx_i2b C dX8_append_28 ?_
        obtain ⟨bd1, h⟩ := h
        refine zx_bast C ((σ.1 q_0 5)).toNatClampNeg hq_0.2.1 bd1 rfl dX8_append_29 ?_
        refine zx_sig (fun σ2 eσ2 => ?_)
        replace h := h σ2 eσ2
        refine zx_aload_n C dX8_append_30 0 rfl ?_
        refine zx_dup C dX8_append_31 rfl ?_
        refine zx_getI C hq_0.1 fg_X8_53 rfl dX8_append_32 ?_
        refine zx_iconst (v := (1 : Int32)) C dX8_append_35 (by decide) ?_
        refine zx_iadd C dX8_append_36 ?_
        refine zx_putI C hq_0.1 fp_X8_53 rfl dX8_append_37 ?_
        refine zx_sig (fun σ3 eσ3 => ?_)
        replace h := h σ3 eσ3
        obtain ⟨x4, ex4⟩ : ∃ y : Int32, y = (x_2 + (-8 : Int32)) := ⟨_, rfl⟩
        replace h := h x4 ex4
        refine zx_iinc (v := x4) (lv' := [(2, .int x4), (0, .ref (g q_0)), (1, .int x_1)]) C dX8_append_40 2 rfl (by rw [ex4]; rfl) (by decide) rfl ?_
        refine zx_goto C 3 dX8_append_43 (by decide) ?_
        refine zx_lv (lv' := [(0, .ref (g q_0)), (1, .int x_1), (2, .int x4)]) [1, 2, 0] rfl ?_
        exact ih x4 σ3 h
set_option maxRecDepth 100000 in
set_option maxHeartbeats 4000000 in
theorem c_X8_append (l : Launch) (D : va_G) (cy : Nat → ClassId) (g : Nat → Nat) (t : Nat) (a1 : Int32) (ht : zIsState t) (σ : zSto) {P : zSto → Prop} (h : w_X8_append t a1 σ P) : zMv l yX8_append cX8_append 3 none (zrm 0 0) D cy g [.ref (g t), .int a1] σ P := by
  unfold w_X8_append at h
  refine zm_v RX8 rfl (by decide +kernel) (Nat.le_of_ble_eq_true rfl) ?_
  intro p e s m below meth c C hr
  refine zx_lv (lv' := [(0, .ref (g t)), (1, .int a1)]) [0, 1] rfl ?_
  refine zx_bipush (v := (24 : Int32)) C dX8_append_0 (by decide) ?_
  refine zx_istore_n (lv' := [(2, .int (24 : Int32)), (0, .ref (g t)), (1, .int a1)]) C dX8_append_2 (by decide) rfl ?_
  obtain ⟨n, h⟩ := h
  refine zx_lv (lv' := [(0, .ref (g t)), (1, .int a1), (2, .int (24 : Int32))]) [1, 2, 0] rfl ?_
  exact k_X8_append_3 C hr (t) (a1) ht  n (24 : Int32) σ h
def w_X9_isSort (a1 : Int32) (σ : zSto) (P : Int32 → zSto → Prop) : Prop := ((a1 < 0 → P (0 : Int32) σ) ∧ (¬ a1 < 0 → (((2 : Int32) < a1 → P (0 : Int32) σ) ∧ (¬ (2 : Int32) < a1 → P (1 : Int32) σ))))
set_option maxRecDepth 100000 in
set_option maxHeartbeats 4000000 in
theorem c_X9_isSort (l : Launch) (D : va_G) (cy : Nat → ClassId) (g : Nat → Nat) (a1 : Int32)  (σ : zSto) {P : Int32 → zSto → Prop} (h : w_X9_isSort a1 σ P) : zMb l yX9_isSort cX9_isSort 1 (some .boolean) (zrm 0 0) D cy g [.int a1] σ P := by
  unfold w_X9_isSort at h
  refine zm_b RX9 rfl (by decide +kernel) (Nat.le_of_ble_eq_true rfl) ?_
  intro p e s m below meth c C hr
  refine zx_lv (lv' := [(0, .int a1)]) [0] rfl ?_
  refine zx_iload_n C dX9_isSort_0 0 rfl ?_
  refine zx_if_lt C 13 dX9_isSort_1 (by decide) (fun q => ?_) (fun q => ?_)
  · replace h := h.1 q
    refine zx_iconst (v := (0 : Int32)) C dX9_isSort_13 (by decide) ?_
    exact zx_zret C hr dX9_isSort_14 (Or.inl rfl) h
  · replace h := h.2 q
    refine zx_iload_n C dX9_isSort_4 0 rfl ?_
    refine zx_iconst (v := (2 : Int32)) C dX9_isSort_5 (by decide) ?_
    refine zx_icmp_gt C 13 dX9_isSort_6 (by decide) (fun q => ?_) (fun q => ?_)
    · replace h := h.1 q
      refine zx_iconst (v := (0 : Int32)) C dX9_isSort_13 (by decide) ?_
      exact zx_zret C hr dX9_isSort_14 (Or.inl rfl) h
    · replace h := h.2 q
      refine zx_iconst (v := (1 : Int32)) C dX9_isSort_9 (by decide) ?_
      refine zx_goto C 14 dX9_isSort_10 (by decide) ?_
      exact zx_zret C hr dX9_isSort_14 (Or.inr rfl) h
theorem lkn_X8_59 : GoodIn zUU (zU yX9_isSort cX9_isSort 1 (some .boolean)) ∧ (yX9_isSort.cls ≠ "java/lang/invoke/MethodHandle" ∧ yX9_isSort.cls ≠ "java/lang/invoke/VarHandle" ∧ (parseMethodDescriptor yX9_isSort.desc).map (fun d => d.parameters.length) = some 1) ∧ Cond.initialized yX9_isSort.cls ∈ zUU ∧ Cond.static yX9_isSort ∈ zUU := ⟨zU_in cd_X9_isSort, by decide +kernel, ini_X9, st_X9_isSort⟩
def w_X8_howMany (t : Nat) (a1 : Int32) (σ : zSto) (P : Int32 → zSto → Prop) : Prop := (w_X9_isSort a1 σ (fun (r2 : Int32) (σ1 : zSto) => (r2 = 0 ∨ r2 = 1) → ((r2 = 0 → P (0 : Int32) σ1) ∧ (¬ r2 = 0 → (vp_in a1 3 ∧ P (σ1.1 (t + 41) (a1).toNatClampNeg) σ1)))))
set_option maxRecDepth 100000 in
set_option maxHeartbeats 4000000 in
theorem c_X8_howMany (l : Launch) (D : va_G) (cy : Nat → ClassId) (g : Nat → Nat) (t : Nat) (a1 : Int32) (ht : zIsState t) (σ : zSto) {P : Int32 → zSto → Prop} (h : w_X8_howMany t a1 σ P) : zMi l yX8_howMany cX8_howMany 2 (some .int) (zrm 1 20) D cy g [.ref (g t), .int a1] σ P := by
  unfold w_X8_howMany at h
  refine zm_i RX8 rfl (by decide +kernel) (Nat.le_of_ble_eq_true rfl) ?_
  intro p e s m below meth c C hr
  refine zx_lv (lv' := [(0, .ref (g t)), (1, .int a1)]) [0, 1] rfl ?_
  refine zx_iload_n C dX8_howMany_0 1 rfl ?_
  refine zx_cNb C [.int a1] lkn_X8_59 C.2.2.2.1.n_X8_59 (c_X9_isSort l D cy g a1  σ h) ⟨by decide, by decide⟩ ⟨rfl, rfl⟩ ⟨Nat.zero_le _, Nat.zero_le _⟩ rfl rfl (Nat.le_of_ble_eq_true rfl) dX8_howMany_1 (fun r2 σ1 hb h => ?_)
  replace h := h hb
  refine zx_if_eq C 16 dX8_howMany_4 (by decide) (fun q => ?_) (fun q => ?_)
  · replace h := h.1 q
    refine zx_iconst (v := (0 : Int32)) C dX8_howMany_16 (by decide) ?_
    exact zx_iret C hr dX8_howMany_17 h
  · replace h := h.2 q
    refine zx_aload_n C dX8_howMany_7 0 rfl ?_
    refine zx_getR C ht.1 fg_X8_32 rfl (t + 41) rfl dX8_howMany_8 ?_
    refine zx_iload_n C dX8_howMany_11 1 rfl ?_
    obtain ⟨bd3, h⟩ := h
    refine zx_iald C (a1).toNatClampNeg ht.2.2.2.2.2.1 bd3 rfl dX8_howMany_12 ?_
    refine zx_goto C 17 dX8_howMany_13 (by decide) ?_
    exact zx_iret C hr dX8_howMany_17 h
def w_X8_has (t : Nat) (a1 : Int32) (a2 : Int32) (σ : zSto) (P : Int32 → zSto → Prop) : Prop := ((a2 < 0 → P (0 : Int32) σ) ∧ (¬ a2 < 0 → (vp_in a1 3 ∧ (((σ.1 (t + 41) (a1).toNatClampNeg) ≤ a2 → P (0 : Int32) σ) ∧ (¬ (σ.1 (t + 41) (a1).toNatClampNeg) ≤ a2 → (((2 : Int32) ≤ a2 → P (0 : Int32) σ) ∧ (¬ (2 : Int32) ≤ a2 → P (1 : Int32) σ)))))))
set_option maxRecDepth 100000 in
set_option maxHeartbeats 4000000 in
theorem c_X8_has (l : Launch) (D : va_G) (cy : Nat → ClassId) (g : Nat → Nat) (t : Nat) (a1 : Int32) (a2 : Int32) (ht : zIsState t) (σ : zSto) {P : Int32 → zSto → Prop} (h : w_X8_has t a1 a2 σ P) : zMb l yX8_has cX8_has 3 (some .boolean) (zrm 0 0) D cy g [.ref (g t), .int a1, .int a2] σ P := by
  unfold w_X8_has at h
  refine zm_b RX8 rfl (by decide +kernel) (Nat.le_of_ble_eq_true rfl) ?_
  intro p e s m below meth c C hr
  refine zx_lv (lv' := [(0, .ref (g t)), (1, .int a1), (2, .int a2)]) [0, 1, 2] rfl ?_
  refine zx_iload_n C dX8_has_0 2 rfl ?_
  refine zx_if_lt C 23 dX8_has_1 (by decide) (fun q => ?_) (fun q => ?_)
  · replace h := h.1 q
    refine zx_iconst (v := (0 : Int32)) C dX8_has_23 (by decide) ?_
    exact zx_zret C hr dX8_has_24 (Or.inl rfl) h
  · replace h := h.2 q
    refine zx_iload_n C dX8_has_4 2 rfl ?_
    refine zx_aload_n C dX8_has_5 0 rfl ?_
    refine zx_getR C ht.1 fg_X8_32 rfl (t + 41) rfl dX8_has_6 ?_
    refine zx_iload_n C dX8_has_9 1 rfl ?_
    obtain ⟨bd1, h⟩ := h
    refine zx_iald C (a1).toNatClampNeg ht.2.2.2.2.2.1 bd1 rfl dX8_has_10 ?_
    refine zx_icmp_ge C 23 dX8_has_11 (by decide) (fun q => ?_) (fun q => ?_)
    · replace h := h.1 q
      refine zx_iconst (v := (0 : Int32)) C dX8_has_23 (by decide) ?_
      exact zx_zret C hr dX8_has_24 (Or.inl rfl) h
    · replace h := h.2 q
      refine zx_iload_n C dX8_has_14 2 rfl ?_
      refine zx_iconst (v := (2 : Int32)) C dX8_has_15 (by decide) ?_
      refine zx_icmp_ge C 23 dX8_has_16 (by decide) (fun q => ?_) (fun q => ?_)
      · replace h := h.1 q
        refine zx_iconst (v := (0 : Int32)) C dX8_has_23 (by decide) ?_
        exact zx_zret C hr dX8_has_24 (Or.inl rfl) h
      · replace h := h.2 q
        refine zx_iconst (v := (1 : Int32)) C dX8_has_19 (by decide) ?_
        refine zx_goto C 24 dX8_has_20 (by decide) ?_
        exact zx_zret C hr dX8_has_24 (Or.inr rfl) h
theorem lk_X8_63 : zLV RX8 63 RX8 yX8_has cX8_has 3 (some .boolean) 2 := zLV_of ml_X8_63 im_X8_has se_X8_has ini_X8 cd_X8_has (by decide +kernel)
def w_X8_lineAt (t : Nat) (a1 : Int32) (σ : zSto) (P : Option Nat → zSto → Prop) : Prop := (w_X8_has t (0 : Int32) a1 σ (fun (r2 : Int32) (σ1 : zSto) => (r2 = 0 ∨ r2 = 1) → ((r2 = 0 → P none σ1) ∧ (¬ r2 = 0 → (vp_in a1 2 ∧ (∀ j4 : Nat, j4 = (t + 2) + zel [(0, 1), (0, 13)] a1 → zIsLine j4 ∧ P (some j4) σ1))))))
set_option maxRecDepth 100000 in
set_option maxHeartbeats 4000000 in
theorem c_X8_lineAt (l : Launch) (D : va_G) (cy : Nat → ClassId) (g : Nat → Nat) (t : Nat) (a1 : Int32) (ht : zIsState t) (σ : zSto) {P : Option Nat → zSto → Prop} (h : w_X8_lineAt t a1 σ P) : zMq l yX8_lineAt cX8_lineAt 2 (some (.object "ChestnutLine$Line")) (zrm 1 22) D cy g [.ref (g t), .int a1] σ P := by
  unfold w_X8_lineAt at h
  refine zm_q RX8 rfl (by decide +kernel) (Nat.le_of_ble_eq_true rfl) ?_
  intro p e s m below meth c C hr
  refine zx_lv (lv' := [(0, .ref (g t)), (1, .int a1)]) [0, 1] rfl ?_
  refine zx_aload_n C dX8_lineAt_0 0 rfl ?_
  refine zx_iconst (v := (0 : Int32)) C dX8_lineAt_1 (by decide) ?_
  refine zx_iload_n C dX8_lineAt_2 1 rfl ?_
  refine zx_cVb C [.int (0 : Int32), .int a1] lk_X8_63 (c_X8_has l D cy g t (0 : Int32) a1 ht σ h) ht.1 rfl ⟨by decide, by decide⟩ ⟨rfl, rfl⟩ ⟨Nat.zero_le _, Nat.zero_le _⟩ rfl rfl (Nat.le_of_ble_eq_true rfl) dX8_lineAt_3 (fun r2 σ1 hb h => ?_)
  replace h := h hb
  refine zx_if_eq C 18 dX8_lineAt_6 (by decide) (fun q => ?_) (fun q => ?_)
  · replace h := h.1 q
    refine zx_null C dX8_lineAt_18 ?_
    exact zx_aretN C hr dX8_lineAt_19 h
  · replace h := h.2 q
    refine zx_aload_n C dX8_lineAt_9 0 rfl ?_
    refine zx_getR C ht.1 fg_X8_18 rfl (t + 2) rfl dX8_lineAt_10 ?_
    refine zx_iload_n C dX8_lineAt_13 1 rfl ?_
    obtain ⟨bd3, h⟩ := h
    refine zx_aald C ht.2.2.1 rfl bd3 rfl dX8_lineAt_14 ?_
    refine zx_topr (fun j4 ej4 => ?_)
    obtain ⟨hj4, h⟩ := h j4 ej4
    refine zx_goto C 19 dX8_lineAt_15 (by decide) ?_
    exact zx_aret C hr dX8_lineAt_19 h
def w_X8_planAt (t : Nat) (a1 : Int32) (σ : zSto) (P : Option Nat → zSto → Prop) : Prop := (w_X8_has t (1 : Int32) a1 σ (fun (r2 : Int32) (σ1 : zSto) => (r2 = 0 ∨ r2 = 1) → ((r2 = 0 → P none σ1) ∧ (¬ r2 = 0 → (vp_in a1 2 ∧ (∀ j4 : Nat, j4 = (t + 27) + zel [(0, 1), (0, 4)] a1 → zIsPairs j4 ∧ P (some j4) σ1))))))
set_option maxRecDepth 100000 in
set_option maxHeartbeats 4000000 in
theorem c_X8_planAt (l : Launch) (D : va_G) (cy : Nat → ClassId) (g : Nat → Nat) (t : Nat) (a1 : Int32) (ht : zIsState t) (σ : zSto) {P : Option Nat → zSto → Prop} (h : w_X8_planAt t a1 σ P) : zMq l yX8_planAt cX8_planAt 2 (some (.object "ChestnutLine$Pairs")) (zrm 1 22) D cy g [.ref (g t), .int a1] σ P := by
  unfold w_X8_planAt at h
  refine zm_q RX8 rfl (by decide +kernel) (Nat.le_of_ble_eq_true rfl) ?_
  intro p e s m below meth c C hr
  refine zx_lv (lv' := [(0, .ref (g t)), (1, .int a1)]) [0, 1] rfl ?_
  refine zx_aload_n C dX8_planAt_0 0 rfl ?_
  refine zx_iconst (v := (1 : Int32)) C dX8_planAt_1 (by decide) ?_
  refine zx_iload_n C dX8_planAt_2 1 rfl ?_
  refine zx_cVb C [.int (1 : Int32), .int a1] lk_X8_63 (c_X8_has l D cy g t (1 : Int32) a1 ht σ h) ht.1 rfl ⟨by decide, by decide⟩ ⟨rfl, rfl⟩ ⟨Nat.zero_le _, Nat.zero_le _⟩ rfl rfl (Nat.le_of_ble_eq_true rfl) dX8_planAt_3 (fun r2 σ1 hb h => ?_)
  replace h := h hb
  refine zx_if_eq C 18 dX8_planAt_6 (by decide) (fun q => ?_) (fun q => ?_)
  · replace h := h.1 q
    refine zx_null C dX8_planAt_18 ?_
    exact zx_aretN C hr dX8_planAt_19 h
  · replace h := h.2 q
    refine zx_aload_n C dX8_planAt_9 0 rfl ?_
    refine zx_getR C ht.1 fg_X8_25 rfl (t + 27) rfl dX8_planAt_10 ?_
    refine zx_iload_n C dX8_planAt_13 1 rfl ?_
    obtain ⟨bd3, h⟩ := h
    refine zx_aald C ht.2.2.2.1 rfl bd3 rfl dX8_planAt_14 ?_
    refine zx_topr (fun j4 ej4 => ?_)
    obtain ⟨hj4, h⟩ := h j4 ej4
    refine zx_goto C 19 dX8_planAt_15 (by decide) ?_
    exact zx_aret C hr dX8_planAt_19 h
def w_X8_logAt (t : Nat) (a1 : Int32) (σ : zSto) (P : Option Nat → zSto → Prop) : Prop := (w_X8_has t (2 : Int32) a1 σ (fun (r2 : Int32) (σ1 : zSto) => (r2 = 0 ∨ r2 = 1) → ((r2 = 0 → P none σ1) ∧ (¬ r2 = 0 → (vp_in a1 2 ∧ (∀ j4 : Nat, j4 = (t + 34) + zel [(0, 1), (0, 4)] a1 → zIsPairs j4 ∧ P (some j4) σ1))))))
set_option maxRecDepth 100000 in
set_option maxHeartbeats 4000000 in
theorem c_X8_logAt (l : Launch) (D : va_G) (cy : Nat → ClassId) (g : Nat → Nat) (t : Nat) (a1 : Int32) (ht : zIsState t) (σ : zSto) {P : Option Nat → zSto → Prop} (h : w_X8_logAt t a1 σ P) : zMq l yX8_logAt cX8_logAt 2 (some (.object "ChestnutLine$Pairs")) (zrm 1 22) D cy g [.ref (g t), .int a1] σ P := by
  unfold w_X8_logAt at h
  refine zm_q RX8 rfl (by decide +kernel) (Nat.le_of_ble_eq_true rfl) ?_
  intro p e s m below meth c C hr
  refine zx_lv (lv' := [(0, .ref (g t)), (1, .int a1)]) [0, 1] rfl ?_
  refine zx_aload_n C dX8_logAt_0 0 rfl ?_
  refine zx_iconst (v := (2 : Int32)) C dX8_logAt_1 (by decide) ?_
  refine zx_iload_n C dX8_logAt_2 1 rfl ?_
  refine zx_cVb C [.int (2 : Int32), .int a1] lk_X8_63 (c_X8_has l D cy g t (2 : Int32) a1 ht σ h) ht.1 rfl ⟨by decide, by decide⟩ ⟨rfl, rfl⟩ ⟨Nat.zero_le _, Nat.zero_le _⟩ rfl rfl (Nat.le_of_ble_eq_true rfl) dX8_logAt_3 (fun r2 σ1 hb h => ?_)
  replace h := h hb
  refine zx_if_eq C 18 dX8_logAt_6 (by decide) (fun q => ?_) (fun q => ?_)
  · replace h := h.1 q
    refine zx_null C dX8_logAt_18 ?_
    exact zx_aretN C hr dX8_logAt_19 h
  · replace h := h.2 q
    refine zx_aload_n C dX8_logAt_9 0 rfl ?_
    refine zx_getR C ht.1 fg_X8_29 rfl (t + 34) rfl dX8_logAt_10 ?_
    refine zx_iload_n C dX8_logAt_13 1 rfl ?_
    obtain ⟨bd3, h⟩ := h
    refine zx_aald C ht.2.2.2.2.1 rfl bd3 rfl dX8_logAt_14 ?_
    refine zx_topr (fun j4 ej4 => ?_)
    obtain ⟨hj4, h⟩ := h j4 ej4
    refine zx_goto C 19 dX8_logAt_15 (by decide) ?_
    exact zx_aret C hr dX8_logAt_19 h
theorem fg_X8_73 : zFG RX8 73 4 1 := ⟨RX4, TX4, 13, rfl, lay_X4, by decide, fl_X8_73⟩
theorem fg_X8_67 : zFG RX8 67 4 0 := ⟨RX4, TX4, 13, rfl, lay_X4, by decide, fl_X8_67⟩
def w_X8_put (t : Nat) (a1 : Int32) (a2 : Int32) (σ : zSto) (P : zSto → Prop) : Prop := (w_X9_isSort a1 σ (fun (r2 : Int32) (σ1 : zSto) => (r2 = 0 ∨ r2 = 1) → ((r2 = 0 → P σ1) ∧ (¬ r2 = 0 → ((a2 < 0 → P σ1) ∧ (¬ a2 < 0 → ((a2 < (2 : Int32) → ((¬ a1 = 0 → ((¬ a1 = (1 : Int32) → (vp_in a2 2 ∧ (∀ j4 : Nat, j4 = (t + 34) + zel [(0, 1), (0, 4)] a2 → zIsPairs j4 ∧ (w_X2_copyFrom j4 184 σ1 (fun (σ5 : zSto) => (vp_in a1 3 ∧ (vp_in a1 3 ∧ (∀ σ8 : zSto, σ8 = zI σ5 (t + 41) (a1).toNatClampNeg (if (σ5.1 (t + 41) (a1).toNatClampNeg) < (a2 + (1 : Int32)) then (a2 + (1 : Int32)) else (σ5.1 (t + 41) (a1).toNatClampNeg)) → P σ8)))))))) ∧ (a1 = (1 : Int32) → (vp_in a2 2 ∧ (∀ j10 : Nat, j10 = (t + 27) + zel [(0, 1), (0, 4)] a2 → zIsPairs j10 ∧ (w_X2_copyFrom j10 184 σ1 (fun (σ11 : zSto) => (vp_in a1 3 ∧ (vp_in a1 3 ∧ (∀ σ14 : zSto, σ14 = zI σ11 (t + 41) (a1).toNatClampNeg (if (σ11.1 (t + 41) (a1).toNatClampNeg) < (a2 + (1 : Int32)) then (a2 + (1 : Int32)) else (σ11.1 (t + 41) (a1).toNatClampNeg)) → P σ14)))))))))) ∧ (a1 = 0 → (vp_in a2 2 ∧ (∀ j16 : Nat, j16 = (t + 2) + zel [(0, 1), (0, 13)] a2 → zIsLine j16 ∧ (w_X0_copyFrom j16 172 σ1 (fun (σ17 : zSto) => (vp_in a1 3 ∧ (vp_in a1 3 ∧ (∀ σ20 : zSto, σ20 = zI σ17 (t + 41) (a1).toNatClampNeg (if (σ17.1 (t + 41) (a1).toNatClampNeg) < (a2 + (1 : Int32)) then (a2 + (1 : Int32)) else (σ17.1 (t + 41) (a1).toNatClampNeg)) → P σ20)))))))))) ∧ (¬ a2 < (2 : Int32) → P σ1))))))))
set_option maxRecDepth 100000 in
set_option maxHeartbeats 4000000 in
theorem c_X8_put (l : Launch) (D : va_G) (cy : Nat → ClassId) (g : Nat → Nat) (t : Nat) (a1 : Int32) (a2 : Int32) (ht : zIsState t) (σ : zSto) {P : zSto → Prop} (h : w_X8_put t a1 a2 σ P) : zMv l yX8_put cX8_put 4 none (zrm 2 85) D cy g [.ref (g t), .int a1, .int a2, .ref (g 171)] σ P := by
  unfold w_X8_put at h
  refine zm_v RX8 rfl (by decide +kernel) (Nat.le_of_ble_eq_true rfl) ?_
  intro p e s m below meth c C hr
  refine zx_lv (lv' := [(0, .ref (g t)), (1, .int a1), (2, .int a2), (3, .ref (g 171))]) [0, 1, 2, 3] rfl ?_
  refine zx_iload_n C dX8_put_0 1 rfl ?_
  refine zx_cNb C [.int a1] lkn_X8_59 C.2.2.2.1.n_X8_59 (c_X9_isSort l D cy g a1  σ h) ⟨by decide, by decide⟩ ⟨rfl, rfl⟩ ⟨Nat.zero_le _, Nat.zero_le _⟩ rfl rfl (Nat.le_of_ble_eq_true rfl) dX8_put_1 (fun r2 σ1 hb h => ?_)
  replace h := h hb
  refine zx_if_eq C 16 dX8_put_4 (by decide) (fun q => ?_) (fun q => ?_)
  · replace h := h.1 q
    exact zx_vret C hr dX8_put_16 h
  · replace h := h.2 q
    refine zx_iload_n C dX8_put_7 2 rfl ?_
    refine zx_if_lt C 16 dX8_put_8 (by decide) (fun q => ?_) (fun q => ?_)
    · replace h := h.1 q
      exact zx_vret C hr dX8_put_16 h
    · replace h := h.2 q
      refine zx_iload_n C dX8_put_11 2 rfl ?_
      refine zx_iconst (v := (2 : Int32)) C dX8_put_12 (by decide) ?_
      refine zx_icmp_lt C 17 dX8_put_13 (by decide) (fun q => ?_) (fun q => ?_)
      · replace h := h.1 q
        refine zx_iload_n C dX8_put_17 1 rfl ?_
        refine zx_if_ne C 37 dX8_put_18 (by decide) (fun q => ?_) (fun q => ?_)
        · replace h := h.1 q
          refine zx_iload_n C dX8_put_37 1 rfl ?_
          refine zx_iconst (v := (1 : Int32)) C dX8_put_38 (by decide) ?_
          refine zx_icmp_ne C 58 dX8_put_39 (by decide) (fun q => ?_) (fun q => ?_)
          · replace h := h.1 q
            refine zx_aload_n C dX8_put_58 0 rfl ?_
            refine zx_getR C ht.1 fg_X8_29 rfl (t + 34) rfl dX8_put_59 ?_
            refine zx_iload_n C dX8_put_62 2 rfl ?_
            obtain ⟨bd3, h⟩ := h
            refine zx_aald C ht.2.2.2.2.1 rfl bd3 rfl dX8_put_63 ?_
            refine zx_topr (fun j4 ej4 => ?_)
            obtain ⟨hj4, h⟩ := h j4 ej4
            refine zx_aload_n C dX8_put_64 3 rfl ?_
            refine zx_getR C zs_171 fg_X8_73 rfl 184 rfl dX8_put_65 ?_
            refine zx_cVv C [.ref (g 184)] lk_X8_50 (c_X2_copyFrom l D cy g j4 184 hj4 zIsPairs_184 σ1 h) hj4.1 rfl ⟨by decide, by decide⟩ ⟨rfl, rfl⟩ ⟨Nat.zero_le _, Nat.zero_le _⟩ rfl rfl (Nat.le_of_ble_eq_true rfl) dX8_put_68 (fun σ5 h => ?_)
            refine zx_aload_n C dX8_put_71 0 rfl ?_
            refine zx_getR C ht.1 fg_X8_32 rfl (t + 41) rfl dX8_put_72 ?_
            refine zx_iload_n C dX8_put_75 1 rfl ?_
            refine zx_aload_n C dX8_put_76 0 rfl ?_
            refine zx_getR C ht.1 fg_X8_32 rfl (t + 41) rfl dX8_put_77 ?_
            refine zx_iload_n C dX8_put_80 1 rfl ?_
            obtain ⟨bd6, h⟩ := h
            refine zx_iald C (a1).toNatClampNeg ht.2.2.2.2.2.1 bd6 rfl dX8_put_81 ?_
            refine zx_iload_n C dX8_put_82 2 rfl ?_
            refine zx_iconst (v := (1 : Int32)) C dX8_put_83 (by decide) ?_
            refine zx_iadd C dX8_put_84 ?_
            refine zx_max C ml_X8_77 st_math_max ini_J9 cd_math_max (Nat.le_of_ble_eq_true rfl) (Nat.le_of_ble_eq_true rfl) ⟨Nat.zero_le _, Nat.zero_le _⟩ dX8_put_85 ?_
            obtain ⟨bd7, h⟩ := h
            refine zx_iast C (a1).toNatClampNeg ht.2.2.2.2.2.1 bd7 rfl dX8_put_88 ?_
            refine zx_sig (fun σ8 eσ8 => ?_)
            replace h := h σ8 eσ8
            exact zx_vret C hr dX8_put_89 h
          · replace h := h.2 q
            refine zx_aload_n C dX8_put_42 0 rfl ?_
            refine zx_getR C ht.1 fg_X8_25 rfl (t + 27) rfl dX8_put_43 ?_
            refine zx_iload_n C dX8_put_46 2 rfl ?_
            obtain ⟨bd9, h⟩ := h
            refine zx_aald C ht.2.2.2.1 rfl bd9 rfl dX8_put_47 ?_
            refine zx_topr (fun j10 ej10 => ?_)
            obtain ⟨hj10, h⟩ := h j10 ej10
            refine zx_aload_n C dX8_put_48 3 rfl ?_
            refine zx_getR C zs_171 fg_X8_73 rfl 184 rfl dX8_put_49 ?_
            refine zx_cVv C [.ref (g 184)] lk_X8_50 (c_X2_copyFrom l D cy g j10 184 hj10 zIsPairs_184 σ1 h) hj10.1 rfl ⟨by decide, by decide⟩ ⟨rfl, rfl⟩ ⟨Nat.zero_le _, Nat.zero_le _⟩ rfl rfl (Nat.le_of_ble_eq_true rfl) dX8_put_52 (fun σ11 h => ?_)
            refine zx_goto C 71 dX8_put_55 (by decide) ?_
            refine zx_aload_n C dX8_put_71 0 rfl ?_
            refine zx_getR C ht.1 fg_X8_32 rfl (t + 41) rfl dX8_put_72 ?_
            refine zx_iload_n C dX8_put_75 1 rfl ?_
            refine zx_aload_n C dX8_put_76 0 rfl ?_
            refine zx_getR C ht.1 fg_X8_32 rfl (t + 41) rfl dX8_put_77 ?_
            refine zx_iload_n C dX8_put_80 1 rfl ?_
            obtain ⟨bd12, h⟩ := h
            refine zx_iald C (a1).toNatClampNeg ht.2.2.2.2.2.1 bd12 rfl dX8_put_81 ?_
            refine zx_iload_n C dX8_put_82 2 rfl ?_
            refine zx_iconst (v := (1 : Int32)) C dX8_put_83 (by decide) ?_
            refine zx_iadd C dX8_put_84 ?_
            refine zx_max C ml_X8_77 st_math_max ini_J9 cd_math_max (Nat.le_of_ble_eq_true rfl) (Nat.le_of_ble_eq_true rfl) ⟨Nat.zero_le _, Nat.zero_le _⟩ dX8_put_85 ?_
            obtain ⟨bd13, h⟩ := h
            refine zx_iast C (a1).toNatClampNeg ht.2.2.2.2.2.1 bd13 rfl dX8_put_88 ?_
            refine zx_sig (fun σ14 eσ14 => ?_)
            replace h := h σ14 eσ14
            exact zx_vret C hr dX8_put_89 h
        · replace h := h.2 q
          refine zx_aload_n C dX8_put_21 0 rfl ?_
          refine zx_getR C ht.1 fg_X8_18 rfl (t + 2) rfl dX8_put_22 ?_
          refine zx_iload_n C dX8_put_25 2 rfl ?_
          obtain ⟨bd15, h⟩ := h
          refine zx_aald C ht.2.2.1 rfl bd15 rfl dX8_put_26 ?_
          refine zx_topr (fun j16 ej16 => ?_)
          obtain ⟨hj16, h⟩ := h j16 ej16
          refine zx_aload_n C dX8_put_27 3 rfl ?_
          refine zx_getR C zs_171 fg_X8_67 rfl 172 rfl dX8_put_28 ?_
          refine zx_cVv C [.ref (g 172)] lk_X8_46 (c_X0_copyFrom l D cy g j16 172 hj16 zIsLine_172 σ1 h) hj16.1 rfl ⟨by decide, by decide⟩ ⟨rfl, rfl⟩ ⟨Nat.zero_le _, Nat.zero_le _⟩ rfl rfl (Nat.le_of_ble_eq_true rfl) dX8_put_31 (fun σ17 h => ?_)
          refine zx_goto C 71 dX8_put_34 (by decide) ?_
          refine zx_aload_n C dX8_put_71 0 rfl ?_
          refine zx_getR C ht.1 fg_X8_32 rfl (t + 41) rfl dX8_put_72 ?_
          refine zx_iload_n C dX8_put_75 1 rfl ?_
          refine zx_aload_n C dX8_put_76 0 rfl ?_
          refine zx_getR C ht.1 fg_X8_32 rfl (t + 41) rfl dX8_put_77 ?_
          refine zx_iload_n C dX8_put_80 1 rfl ?_
          obtain ⟨bd18, h⟩ := h
          refine zx_iald C (a1).toNatClampNeg ht.2.2.2.2.2.1 bd18 rfl dX8_put_81 ?_
          refine zx_iload_n C dX8_put_82 2 rfl ?_
          refine zx_iconst (v := (1 : Int32)) C dX8_put_83 (by decide) ?_
          refine zx_iadd C dX8_put_84 ?_
          refine zx_max C ml_X8_77 st_math_max ini_J9 cd_math_max (Nat.le_of_ble_eq_true rfl) (Nat.le_of_ble_eq_true rfl) ⟨Nat.zero_le _, Nat.zero_le _⟩ dX8_put_85 ?_
          obtain ⟨bd19, h⟩ := h
          refine zx_iast C (a1).toNatClampNeg ht.2.2.2.2.2.1 bd19 rfl dX8_put_88 ?_
          refine zx_sig (fun σ20 eσ20 => ?_)
          replace h := h σ20 eσ20
          exact zx_vret C hr dX8_put_89 h
      · replace h := h.2 q
        exact zx_vret C hr dX8_put_16 h
theorem fg_X9_12 : zFG RX9 12 9 0 := ⟨RX9, TX9, 11, rfl, lay_X9, by decide, fl_X9_12⟩
theorem fg_X9_77 : zFG RX9 77 8 5 := ⟨RX8, TX8, 8, rfl, lay_X8, by decide, fl_X9_77⟩
theorem lk_X9_81 : zLV RX9 81 RX8 yX8_append cX8_append 3 none 1 := zLV_of ml_X9_81 im_X8_append se_X8_append ini_X8 cd_X8_append (by decide +kernel)
def w_X9_feed (a1 : Int32) (a2 : Int32) (a3 : Int32) (a4 : Int32) (a5 : Int32) (σ : zSto) (P : Int32 → zSto → Prop) : Prop := ((((σ.1 1 5) + (20 : Int32)) ≤ (600 : Int32) → (w_X8_append 1 a1 σ (fun (σ1 : zSto) => (w_X8_append 1 a2 σ1 (fun (σ2 : zSto) => (w_X8_append 1 a3 σ2 (fun (σ3 : zSto) => (w_X8_append 1 a4 σ3 (fun (σ4 : zSto) => (w_X8_append 1 a5 σ4 (fun (σ5 : zSto) => P (σ5.1 1 5) σ5))))))))))) ∧ (¬ ((σ.1 1 5) + (20 : Int32)) ≤ (600 : Int32) → P (-1 : Int32) σ))
set_option maxRecDepth 100000 in
set_option maxHeartbeats 4000000 in
theorem c_X9_feed (l : Launch) (D : va_G) (cy : Nat → ClassId) (g : Nat → Nat) (a1 : Int32) (a2 : Int32) (a3 : Int32) (a4 : Int32) (a5 : Int32)  (σ : zSto) {P : Int32 → zSto → Prop} (h : w_X9_feed a1 a2 a3 a4 a5 σ P) : zMi l yX9_feed cX9_feed 6 (some .int) (zrm 1 22) D cy g [.ref (g 0), .int a1, .int a2, .int a3, .int a4, .int a5] σ P := by
  unfold w_X9_feed at h
  refine zm_i RX9 rfl (by decide +kernel) (Nat.le_of_ble_eq_true rfl) ?_
  intro p e s m below meth c C hr
  refine zx_lv (lv' := [(0, .ref (g 0)), (1, .int a1), (2, .int a2), (3, .int a3), (4, .int a4), (5, .int a5)]) [0, 1, 2, 3, 4, 5] rfl ?_
  refine zx_aload_n C dX9_feed_0 0 rfl ?_
  refine zx_getR C zs_0 fg_X9_12 rfl 1 rfl dX9_feed_1 ?_
  refine zx_getI C zIsState_1.1 fg_X9_77 rfl dX9_feed_4 ?_
  refine zx_bipush (v := (20 : Int32)) C dX9_feed_7 (by decide) ?_
  refine zx_iadd C dX9_feed_9 ?_
  refine zx_sipush (v := (600 : Int32)) C dX9_feed_10 (by decide) ?_
  refine zx_icmp_le C 18 dX9_feed_13 (by decide) (fun q => ?_) (fun q => ?_)
  · replace h := h.1 q
    refine zx_aload_n C dX9_feed_18 0 rfl ?_
    refine zx_getR C zs_0 fg_X9_12 rfl 1 rfl dX9_feed_19 ?_
    refine zx_iload_n C dX9_feed_22 1 rfl ?_
    refine zx_cVv C [.int a1] lk_X9_81 (c_X8_append l D cy g 1 a1 zIsState_1 σ h) zIsState_1.1 rfl ⟨by decide, by decide⟩ ⟨rfl, rfl⟩ ⟨Nat.zero_le _, Nat.zero_le _⟩ rfl rfl (Nat.le_of_ble_eq_true rfl) dX9_feed_23 (fun σ1 h => ?_)
    refine zx_aload_n C dX9_feed_26 0 rfl ?_
    refine zx_getR C zs_0 fg_X9_12 rfl 1 rfl dX9_feed_27 ?_
    refine zx_iload_n C dX9_feed_30 2 rfl ?_
    refine zx_cVv C [.int a2] lk_X9_81 (c_X8_append l D cy g 1 a2 zIsState_1 σ1 h) zIsState_1.1 rfl ⟨by decide, by decide⟩ ⟨rfl, rfl⟩ ⟨Nat.zero_le _, Nat.zero_le _⟩ rfl rfl (Nat.le_of_ble_eq_true rfl) dX9_feed_31 (fun σ2 h => ?_)
    refine zx_aload_n C dX9_feed_34 0 rfl ?_
    refine zx_getR C zs_0 fg_X9_12 rfl 1 rfl dX9_feed_35 ?_
    refine zx_iload_n C dX9_feed_38 3 rfl ?_
    refine zx_cVv C [.int a3] lk_X9_81 (c_X8_append l D cy g 1 a3 zIsState_1 σ2 h) zIsState_1.1 rfl ⟨by decide, by decide⟩ ⟨rfl, rfl⟩ ⟨Nat.zero_le _, Nat.zero_le _⟩ rfl rfl (Nat.le_of_ble_eq_true rfl) dX9_feed_39 (fun σ3 h => ?_)
    refine zx_aload_n C dX9_feed_42 0 rfl ?_
    refine zx_getR C zs_0 fg_X9_12 rfl 1 rfl dX9_feed_43 ?_
    refine zx_iload C dX9_feed_46 4 rfl ?_
    refine zx_cVv C [.int a4] lk_X9_81 (c_X8_append l D cy g 1 a4 zIsState_1 σ3 h) zIsState_1.1 rfl ⟨by decide, by decide⟩ ⟨rfl, rfl⟩ ⟨Nat.zero_le _, Nat.zero_le _⟩ rfl rfl (Nat.le_of_ble_eq_true rfl) dX9_feed_48 (fun σ4 h => ?_)
    refine zx_aload_n C dX9_feed_51 0 rfl ?_
    refine zx_getR C zs_0 fg_X9_12 rfl 1 rfl dX9_feed_52 ?_
    refine zx_iload C dX9_feed_55 5 rfl ?_
    refine zx_cVv C [.int a5] lk_X9_81 (c_X8_append l D cy g 1 a5 zIsState_1 σ4 h) zIsState_1.1 rfl ⟨by decide, by decide⟩ ⟨rfl, rfl⟩ ⟨Nat.zero_le _, Nat.zero_le _⟩ rfl rfl (Nat.le_of_ble_eq_true rfl) dX9_feed_57 (fun σ5 h => ?_)
    refine zx_aload_n C dX9_feed_60 0 rfl ?_
    refine zx_getR C zs_0 fg_X9_12 rfl 1 rfl dX9_feed_61 ?_
    refine zx_getI C zIsState_1.1 fg_X9_77 rfl dX9_feed_64 ?_
    exact zx_iret C hr dX9_feed_67 h
  · replace h := h.2 q
    refine zx_iconst (v := (-1 : Int32)) C dX9_feed_16 (by decide) ?_
    exact zx_iret C hr dX9_feed_17 h
theorem fp_X9_77 : zFP RX9 77 8 5 .int := ⟨RX8, TX8, 8, tyX8, rfl, lay_X8, by decide, fl_X9_77, tyX8_ok, nmX8, rfl, by decide +kernel⟩
def w_X9_end (a1 : Int32) (σ : zSto) (P : Int32 → zSto → Prop) : Prop := ((a1 < 0 → P (-1 : Int32) σ) ∧ (¬ a1 < 0 → ((a1 ≤ (σ.1 1 5) → (∀ σ1 : zSto, σ1 = zI σ 1 5 a1 → P a1 σ1)) ∧ (¬ a1 ≤ (σ.1 1 5) → P (-1 : Int32) σ))))
set_option maxRecDepth 100000 in
set_option maxHeartbeats 4000000 in
theorem c_X9_end (l : Launch) (D : va_G) (cy : Nat → ClassId) (g : Nat → Nat) (a1 : Int32)  (σ : zSto) {P : Int32 → zSto → Prop} (h : w_X9_end a1 σ P) : zMi l yX9_end cX9_end 2 (some .int) (zrm 0 0) D cy g [.ref (g 0), .int a1] σ P := by
  unfold w_X9_end at h
  refine zm_i RX9 rfl (by decide +kernel) (Nat.le_of_ble_eq_true rfl) ?_
  intro p e s m below meth c C hr
  refine zx_lv (lv' := [(0, .ref (g 0)), (1, .int a1)]) [0, 1] rfl ?_
  refine zx_iload_n C dX9_end_0 1 rfl ?_
  refine zx_if_lt C 15 dX9_end_1 (by decide) (fun q => ?_) (fun q => ?_)
  · replace h := h.1 q
    refine zx_iconst (v := (-1 : Int32)) C dX9_end_15 (by decide) ?_
    exact zx_iret C hr dX9_end_16 h
  · replace h := h.2 q
    refine zx_iload_n C dX9_end_4 1 rfl ?_
    refine zx_aload_n C dX9_end_5 0 rfl ?_
    refine zx_getR C zs_0 fg_X9_12 rfl 1 rfl dX9_end_6 ?_
    refine zx_getI C zIsState_1.1 fg_X9_77 rfl dX9_end_9 ?_
    refine zx_icmp_le C 17 dX9_end_12 (by decide) (fun q => ?_) (fun q => ?_)
    · replace h := h.1 q
      refine zx_aload_n C dX9_end_17 0 rfl ?_
      refine zx_getR C zs_0 fg_X9_12 rfl 1 rfl dX9_end_18 ?_
      refine zx_iload_n C dX9_end_21 1 rfl ?_
      refine zx_putI C zIsState_1.1 fp_X9_77 rfl dX9_end_22 ?_
      refine zx_sig (fun σ1 eσ1 => ?_)
      replace h := h σ1 eσ1
      refine zx_iload_n C dX9_end_25 1 rfl ?_
      exact zx_iret C hr dX9_end_26 h
    · replace h := h.2 q
      refine zx_iconst (v := (-1 : Int32)) C dX9_end_15 (by decide) ?_
      exact zx_iret C hr dX9_end_16 h
theorem lk_X9_109 : zLS RX9 109 yX9_isSort cX9_isSort 1 (some .boolean) 1 := zLS_of ml_X9_109 st_X9_isSort ini_X9 cd_X9_isSort (by decide +kernel)
theorem lk_X9_113 : zLV RX9 113 RX8 yX8_howMany cX8_howMany 2 (some .int) 1 := zLV_of ml_X9_113 im_X8_howMany se_X8_howMany ini_X8 cd_X8_howMany (by decide +kernel)
def w_X9_placeFor (a1 : Int32) (a2 : Int32) (σ : zSto) (P : Int32 → zSto → Prop) : Prop := (w_X9_isSort a1 σ (fun (r2 : Int32) (σ1 : zSto) => (r2 = 0 ∨ r2 = 1) → ((¬ r2 = 0 → (w_X8_howMany 1 a1 σ1 (fun (r4 : Int32) (σ3 : zSto) => ((¬ a2 = (-1 : Int32) → ((a2 < 0 → P (-2 : Int32) σ3) ∧ (¬ a2 < 0 → ((r4 ≤ a2 → P (-2 : Int32) σ3) ∧ (¬ r4 ≤ a2 → P a2 σ3))))) ∧ (a2 = (-1 : Int32) → (((2 : Int32) ≤ r4 → P (-2 : Int32) σ3) ∧ (¬ (2 : Int32) ≤ r4 → P r4 σ3))))))) ∧ (r2 = 0 → P (-2 : Int32) σ1))))
set_option maxRecDepth 100000 in
set_option maxHeartbeats 4000000 in
theorem c_X9_placeFor (l : Launch) (D : va_G) (cy : Nat → ClassId) (g : Nat → Nat) (a1 : Int32) (a2 : Int32)  (σ : zSto) {P : Int32 → zSto → Prop} (h : w_X9_placeFor a1 a2 σ P) : zMi l yX9_placeFor cX9_placeFor 4 (some .int) (zrm 2 41) D cy g [.ref (g 0), .int a1, .int a2] σ P := by
  unfold w_X9_placeFor at h
  refine zm_i RX9 rfl (by decide +kernel) (Nat.le_of_ble_eq_true rfl) ?_
  intro p e s m below meth c C hr
  refine zx_lv (lv' := [(0, .ref (g 0)), (1, .int a1), (2, .int a2)]) [0, 1, 2] rfl ?_
  refine zx_iload_n C dX9_placeFor_0 1 rfl ?_
  refine zx_cSb C [.int a1] lk_X9_109 (c_X9_isSort l D cy g a1  σ h) ⟨by decide, by decide⟩ ⟨rfl, rfl⟩ ⟨Nat.zero_le _, Nat.zero_le _⟩ rfl rfl (Nat.le_of_ble_eq_true rfl) dX9_placeFor_1 (fun r2 σ1 hb h => ?_)
  replace h := h hb
  refine zx_if_ne C 10 dX9_placeFor_4 (by decide) (fun q => ?_) (fun q => ?_)
  · replace h := h.1 q
    refine zx_aload_n C dX9_placeFor_10 0 rfl ?_
    refine zx_getR C zs_0 fg_X9_12 rfl 1 rfl dX9_placeFor_11 ?_
    refine zx_iload_n C dX9_placeFor_14 1 rfl ?_
    refine zx_cVi C [.int a1] lk_X9_113 (c_X8_howMany l D cy g 1 a1 zIsState_1 σ1 h) zIsState_1.1 rfl ⟨by decide, by decide⟩ ⟨rfl, rfl⟩ ⟨Nat.zero_le _, Nat.zero_le _⟩ rfl rfl (Nat.le_of_ble_eq_true rfl) dX9_placeFor_15 (fun r4 σ3 h => ?_)
    refine zx_istore_n (lv' := [(3, .int r4), (0, .ref (g 0)), (1, .int a1), (2, .int a2)]) C dX9_placeFor_18 (by decide) rfl ?_
    refine zx_iload_n C dX9_placeFor_19 3 rfl ?_
    refine zx_iconst (v := (-1 : Int32)) C dX9_placeFor_20 (by decide) ?_
    refine zx_icmp_ne C 36 dX9_placeFor_21 (by decide) (fun q => ?_) (fun q => ?_)
    · replace h := h.1 q
      refine zx_iload_n C dX9_placeFor_36 3 rfl ?_
      refine zx_if_lt C 49 dX9_placeFor_37 (by decide) (fun q => ?_) (fun q => ?_)
      · replace h := h.1 q
        refine zx_bipush (v := (-2 : Int32)) C dX9_placeFor_49 (by decide) ?_
        exact zx_iret C hr dX9_placeFor_51 h
      · replace h := h.2 q
        refine zx_iload_n C dX9_placeFor_40 3 rfl ?_
        refine zx_iload_n C dX9_placeFor_41 0 rfl ?_
        refine zx_icmp_ge C 49 dX9_placeFor_42 (by decide) (fun q => ?_) (fun q => ?_)
        · replace h := h.1 q
          refine zx_bipush (v := (-2 : Int32)) C dX9_placeFor_49 (by decide) ?_
          exact zx_iret C hr dX9_placeFor_51 h
        · replace h := h.2 q
          refine zx_iload_n C dX9_placeFor_45 3 rfl ?_
          refine zx_goto C 51 dX9_placeFor_46 (by decide) ?_
          exact zx_iret C hr dX9_placeFor_51 h
    · replace h := h.2 q
      refine zx_iload_n C dX9_placeFor_24 0 rfl ?_
      refine zx_iconst (v := (2 : Int32)) C dX9_placeFor_25 (by decide) ?_
      refine zx_icmp_ge C 33 dX9_placeFor_26 (by decide) (fun q => ?_) (fun q => ?_)
      · replace h := h.1 q
        refine zx_bipush (v := (-2 : Int32)) C dX9_placeFor_33 (by decide) ?_
        exact zx_iret C hr dX9_placeFor_35 h
      · replace h := h.2 q
        refine zx_iload_n C dX9_placeFor_29 0 rfl ?_
        refine zx_goto C 35 dX9_placeFor_30 (by decide) ?_
        exact zx_iret C hr dX9_placeFor_35 h
  · replace h := h.2 q
    refine zx_bipush (v := (-2 : Int32)) C dX9_placeFor_7 (by decide) ?_
    exact zx_iret C hr dX9_placeFor_9 h
theorem lk_X9_85 : zLV RX9 85 RX9 yX9_placeFor cX9_placeFor 4 (some .int) 2 := zLV_of ml_X9_85 im_X9_placeFor se_X9_placeFor ini_X9 cd_X9_placeFor (by decide +kernel)
theorem fp_X9_89 : zFP RX9 89 8 6 .int := ⟨RX8, TX8, 8, tyX8, rfl, lay_X8, by decide, fl_X9_89, tyX8_ok, nmX8, rfl, by decide +kernel⟩
theorem fp_X9_92 : zFP RX9 92 8 7 .int := ⟨RX8, TX8, 8, tyX8, rfl, lay_X8, by decide, fl_X9_92, tyX8_ok, nmX8, rfl, by decide +kernel⟩
theorem fg_X9_27 : zFG RX9 27 9 3 := ⟨RX9, TX9, 11, rfl, lay_X9, by decide, fl_X9_27⟩
theorem fg_X9_95 : zFG RX9 95 8 0 := ⟨RX8, TX8, 8, rfl, lay_X8, by decide, fl_X9_95⟩
theorem lk_X9_99 : zLV RX9 99 RX4 yX4_readTape cX4_readTape 4 none 3 := zLV_of ml_X9_99 im_X4_readTape se_X4_readTape ini_X4 cd_X4_readTape (by decide +kernel)
theorem fg_X9_103 : zFG RX9 103 4 11 := ⟨RX4, TX4, 13, rfl, lay_X4, by decide, fl_X9_103⟩
theorem fg_X9_104 : zFG RX9 104 4 12 := ⟨RX4, TX4, 13, rfl, lay_X4, by decide, fl_X9_104⟩
theorem lk_X9_105 : zLV RX9 105 RX8 yX8_put cX8_put 4 none 3 := zLV_of ml_X9_105 im_X8_put se_X8_put ini_X8 cd_X8_put (by decide +kernel)
def w_X9_text (a1 : Int32) (a2 : Int32) (σ : zSto) (P : Int32 → zSto → Prop) : Prop := (∀ x1 : Int32, x1 = (σ.1 1 5) → (w_X9_placeFor a1 a2 σ (fun (r3 : Int32) (σ2 : zSto) => (∀ σ4 : zSto, σ4 = zI σ2 1 5 (0 : Int32) → (∀ σ5 : zSto, σ5 = zI σ4 1 6 (0 : Int32) → (∀ σ6 : zSto, σ6 = zI σ5 1 7 (-1 : Int32) → ((¬ r3 = (-2 : Int32) → (w_X4_readTape 2 600 x1 a1 σ6 (fun (σ7 : zSto) => (∀ σ8 : zSto, σ8 = zI σ7 1 6 (σ7.1 171 11) → (∀ σ9 : zSto, σ9 = zI σ8 1 7 (σ8.1 171 12) → (((σ9.1 171 11) = 0 → (w_X8_put 1 a1 r3 σ9 (fun (σ10 : zSto) => P r3 σ10))) ∧ (¬ (σ9.1 171 11) = 0 → P (-1 : Int32) σ9))))))) ∧ (r3 = (-2 : Int32) → P (-2 : Int32) σ6))))))))
set_option maxRecDepth 100000 in
set_option maxHeartbeats 4000000 in
theorem c_X9_text (l : Launch) (D : va_G) (cy : Nat → ClassId) (g : Nat → Nat) (a1 : Int32) (a2 : Int32)  (σ : zSto) {P : Int32 → zSto → Prop} (h : w_X9_text a1 a2 σ P) : zMi l yX9_text cX9_text 5 (some .int) (zrm 9 195) D cy g [.ref (g 0), .int a1, .int a2] σ P := by
  unfold w_X9_text at h
  refine zm_i RX9 rfl (by decide +kernel) (Nat.le_of_ble_eq_true rfl) ?_
  intro p e s m below meth c C hr
  refine zx_lv (lv' := [(0, .ref (g 0)), (1, .int a1), (2, .int a2)]) [0, 1, 2] rfl ?_
  refine zx_aload_n C dX9_text_0 0 rfl ?_
  refine zx_getR C zs_0 fg_X9_12 rfl 1 rfl dX9_text_1 ?_
  refine zx_getI C zIsState_1.1 fg_X9_77 rfl dX9_text_4 ?_
  refine zx_topi (fun x1 ex1 => ?_)
  replace h := h x1 ex1
  refine zx_istore_n (lv' := [(3, .int x1), (0, .ref (g 0)), (1, .int a1), (2, .int a2)]) C dX9_text_7 (by decide) rfl ?_
  refine zx_aload_n C dX9_text_8 1 rfl ?_
  refine zx_iload_n C dX9_text_9 2 rfl ?_
  refine zx_iload_n C dX9_text_10 3 rfl ?_
  refine zx_cVi C [.int a1, .int a2] lk_X9_85 (c_X9_placeFor l D cy g a1 a2  σ h) zs_0 rfl ⟨by decide, by decide⟩ ⟨rfl, rfl⟩ ⟨Nat.zero_le _, Nat.zero_le _⟩ rfl rfl (Nat.le_of_ble_eq_true rfl) dX9_text_11 (fun r3 σ2 h => ?_)
  refine zx_istore (lv' := [(4, .int r3), (3, .int x1), (0, .ref (g 0)), (1, .int a1), (2, .int a2)]) C dX9_text_14 (by decide) rfl ?_
  refine zx_aload_n C dX9_text_16 2 rfl ?_
  refine zx_getR C zs_0 fg_X9_12 rfl 1 rfl dX9_text_17 ?_
  refine zx_iconst (v := (0 : Int32)) C dX9_text_20 (by decide) ?_
  refine zx_putI C zIsState_1.1 fp_X9_77 rfl dX9_text_21 ?_
  refine zx_sig (fun σ4 eσ4 => ?_)
  replace h := h σ4 eσ4
  refine zx_aload_n C dX9_text_24 2 rfl ?_
  refine zx_getR C zs_0 fg_X9_12 rfl 1 rfl dX9_text_25 ?_
  refine zx_iconst (v := (0 : Int32)) C dX9_text_28 (by decide) ?_
  refine zx_putI C zIsState_1.1 fp_X9_89 rfl dX9_text_29 ?_
  refine zx_sig (fun σ5 eσ5 => ?_)
  replace h := h σ5 eσ5
  refine zx_aload_n C dX9_text_32 2 rfl ?_
  refine zx_getR C zs_0 fg_X9_12 rfl 1 rfl dX9_text_33 ?_
  refine zx_iconst (v := (-1 : Int32)) C dX9_text_36 (by decide) ?_
  refine zx_putI C zIsState_1.1 fp_X9_92 rfl dX9_text_37 ?_
  refine zx_sig (fun σ6 eσ6 => ?_)
  replace h := h σ6 eσ6
  refine zx_iload C dX9_text_40 0 rfl ?_
  refine zx_bipush (v := (-2 : Int32)) C dX9_text_42 (by decide) ?_
  refine zx_icmp_ne C 50 dX9_text_44 (by decide) (fun q => ?_) (fun q => ?_)
  · replace h := h.1 q
    refine zx_aload_n C dX9_text_50 2 rfl ?_
    refine zx_getR C zs_0 fg_X9_27 rfl 171 rfl dX9_text_51 ?_
    refine zx_aload_n C dX9_text_54 2 rfl ?_
    refine zx_getR C zs_0 fg_X9_12 rfl 1 rfl dX9_text_55 ?_
    refine zx_getR C zIsState_1.1 fg_X9_95 rfl 2 rfl dX9_text_58 ?_
    refine zx_iload_n C dX9_text_61 1 rfl ?_
    refine zx_iload_n C dX9_text_62 3 rfl ?_
    refine zx_cVv C [.ref (g 2), .int x1, .int a1] lk_X9_99 (c_X4_readTape l D cy g 2 600 x1 a1 zIsState_1.2.1 σ6 h) zs_171 rfl ⟨by decide, by decide⟩ ⟨rfl, rfl⟩ ⟨Nat.zero_le _, Nat.zero_le _⟩ rfl rfl (Nat.le_of_ble_eq_true rfl) dX9_text_63 (fun σ7 h => ?_)
    refine zx_aload_n C dX9_text_66 2 rfl ?_
    refine zx_getR C zs_0 fg_X9_12 rfl 1 rfl dX9_text_67 ?_
    refine zx_aload_n C dX9_text_70 2 rfl ?_
    refine zx_getR C zs_0 fg_X9_27 rfl 171 rfl dX9_text_71 ?_
    refine zx_getI C zs_171 fg_X9_103 rfl dX9_text_74 ?_
    refine zx_putI C zIsState_1.1 fp_X9_89 rfl dX9_text_77 ?_
    refine zx_sig (fun σ8 eσ8 => ?_)
    replace h := h σ8 eσ8
    refine zx_aload_n C dX9_text_80 2 rfl ?_
    refine zx_getR C zs_0 fg_X9_12 rfl 1 rfl dX9_text_81 ?_
    refine zx_aload_n C dX9_text_84 2 rfl ?_
    refine zx_getR C zs_0 fg_X9_27 rfl 171 rfl dX9_text_85 ?_
    refine zx_getI C zs_171 fg_X9_104 rfl dX9_text_88 ?_
    refine zx_putI C zIsState_1.1 fp_X9_92 rfl dX9_text_91 ?_
    refine zx_sig (fun σ9 eσ9 => ?_)
    replace h := h σ9 eσ9
    refine zx_aload_n C dX9_text_94 2 rfl ?_
    refine zx_getR C zs_0 fg_X9_27 rfl 171 rfl dX9_text_95 ?_
    refine zx_getI C zs_171 fg_X9_103 rfl dX9_text_98 ?_
    refine zx_if_eq C 106 dX9_text_101 (by decide) (fun q => ?_) (fun q => ?_)
    · replace h := h.1 q
      refine zx_aload_n C dX9_text_106 2 rfl ?_
      refine zx_getR C zs_0 fg_X9_12 rfl 1 rfl dX9_text_107 ?_
      refine zx_iload_n C dX9_text_110 3 rfl ?_
      refine zx_iload C dX9_text_111 0 rfl ?_
      refine zx_aload_n C dX9_text_113 2 rfl ?_
      refine zx_getR C zs_0 fg_X9_27 rfl 171 rfl dX9_text_114 ?_
      refine zx_cVv C [.int a1, .int r3, .ref (g 171)] lk_X9_105 (c_X8_put l D cy g 1 a1 r3 zIsState_1 σ9 h) zIsState_1.1 rfl ⟨by decide, by decide⟩ ⟨rfl, rfl⟩ ⟨Nat.zero_le _, Nat.zero_le _⟩ rfl rfl (Nat.le_of_ble_eq_true rfl) dX9_text_117 (fun σ10 h => ?_)
      refine zx_iload C dX9_text_120 0 rfl ?_
      exact zx_iret C hr dX9_text_122 h
    · replace h := h.2 q
      refine zx_iconst (v := (-1 : Int32)) C dX9_text_104 (by decide) ?_
      exact zx_iret C hr dX9_text_105 h
  · replace h := h.2 q
    refine zx_bipush (v := (-2 : Int32)) C dX9_text_47 (by decide) ?_
    exact zx_iret C hr dX9_text_49 h
theorem fg_X9_92 : zFG RX9 92 8 7 := ⟨RX8, TX8, 8, rfl, lay_X8, by decide, fl_X9_92⟩
theorem fg_X9_89 : zFG RX9 89 8 6 := ⟨RX8, TX8, 8, rfl, lay_X8, by decide, fl_X9_89⟩
def w_X9_fault (a1 : Int32) (σ : zSto) (P : Int32 → zSto → Prop) : Prop := ((¬ a1 = 0 → ((¬ a1 = (1 : Int32) → P (-1 : Int32) σ) ∧ (a1 = (1 : Int32) → P (σ.1 1 7) σ))) ∧ (a1 = 0 → P (σ.1 1 6) σ))
set_option maxRecDepth 100000 in
set_option maxHeartbeats 4000000 in
theorem c_X9_fault (l : Launch) (D : va_G) (cy : Nat → ClassId) (g : Nat → Nat) (a1 : Int32)  (σ : zSto) {P : Int32 → zSto → Prop} (h : w_X9_fault a1 σ P) : zMi l yX9_fault cX9_fault 2 (some .int) (zrm 0 0) D cy g [.ref (g 0), .int a1] σ P := by
  unfold w_X9_fault at h
  refine zm_i RX9 rfl (by decide +kernel) (Nat.le_of_ble_eq_true rfl) ?_
  intro p e s m below meth c C hr
  refine zx_lv (lv' := [(0, .ref (g 0)), (1, .int a1)]) [0, 1] rfl ?_
  refine zx_iload_n C dX9_fault_0 1 rfl ?_
  refine zx_if_ne C 12 dX9_fault_1 (by decide) (fun q => ?_) (fun q => ?_)
  · replace h := h.1 q
    refine zx_iload_n C dX9_fault_12 1 rfl ?_
    refine zx_iconst (v := (1 : Int32)) C dX9_fault_13 (by decide) ?_
    refine zx_icmp_ne C 27 dX9_fault_14 (by decide) (fun q => ?_) (fun q => ?_)
    · replace h := h.1 q
      refine zx_iconst (v := (-1 : Int32)) C dX9_fault_27 (by decide) ?_
      exact zx_iret C hr dX9_fault_28 h
    · replace h := h.2 q
      refine zx_aload_n C dX9_fault_17 0 rfl ?_
      refine zx_getR C zs_0 fg_X9_12 rfl 1 rfl dX9_fault_18 ?_
      refine zx_getI C zIsState_1.1 fg_X9_92 rfl dX9_fault_21 ?_
      refine zx_goto C 28 dX9_fault_24 (by decide) ?_
      exact zx_iret C hr dX9_fault_28 h
  · replace h := h.2 q
    refine zx_aload_n C dX9_fault_4 0 rfl ?_
    refine zx_getR C zs_0 fg_X9_12 rfl 1 rfl dX9_fault_5 ?_
    refine zx_getI C zIsState_1.1 fg_X9_89 rfl dX9_fault_8 ?_
    exact zx_iret C hr dX9_fault_11 h
def w_X9_count (a1 : Int32) (σ : zSto) (P : Int32 → zSto → Prop) : Prop := (w_X9_isSort a1 σ (fun (r2 : Int32) (σ1 : zSto) => (r2 = 0 ∨ r2 = 1) → ((r2 = 0 → P (-2 : Int32) σ1) ∧ (¬ r2 = 0 → (w_X8_howMany 1 a1 σ1 (fun (r4 : Int32) (σ3 : zSto) => P r4 σ3))))))
set_option maxRecDepth 100000 in
set_option maxHeartbeats 4000000 in
theorem c_X9_count (l : Launch) (D : va_G) (cy : Nat → ClassId) (g : Nat → Nat) (a1 : Int32)  (σ : zSto) {P : Int32 → zSto → Prop} (h : w_X9_count a1 σ P) : zMi l yX9_count cX9_count 2 (some .int) (zrm 2 41) D cy g [.ref (g 0), .int a1] σ P := by
  unfold w_X9_count at h
  refine zm_i RX9 rfl (by decide +kernel) (Nat.le_of_ble_eq_true rfl) ?_
  intro p e s m below meth c C hr
  refine zx_lv (lv' := [(0, .ref (g 0)), (1, .int a1)]) [0, 1] rfl ?_
  refine zx_iload_n C dX9_count_0 1 rfl ?_
  refine zx_cSb C [.int a1] lk_X9_109 (c_X9_isSort l D cy g a1  σ h) ⟨by decide, by decide⟩ ⟨rfl, rfl⟩ ⟨Nat.zero_le _, Nat.zero_le _⟩ rfl rfl (Nat.le_of_ble_eq_true rfl) dX9_count_1 (fun r2 σ1 hb h => ?_)
  replace h := h hb
  refine zx_if_eq C 18 dX9_count_4 (by decide) (fun q => ?_) (fun q => ?_)
  · replace h := h.1 q
    refine zx_bipush (v := (-2 : Int32)) C dX9_count_18 (by decide) ?_
    exact zx_iret C hr dX9_count_20 h
  · replace h := h.2 q
    refine zx_aload_n C dX9_count_7 0 rfl ?_
    refine zx_getR C zs_0 fg_X9_12 rfl 1 rfl dX9_count_8 ?_
    refine zx_iload_n C dX9_count_11 1 rfl ?_
    refine zx_cVi C [.int a1] lk_X9_113 (c_X8_howMany l D cy g 1 a1 zIsState_1 σ1 h) zIsState_1.1 rfl ⟨by decide, by decide⟩ ⟨rfl, rfl⟩ ⟨Nat.zero_le _, Nat.zero_le _⟩ rfl rfl (Nat.le_of_ble_eq_true rfl) dX9_count_12 (fun r4 σ3 h => ?_)
    refine zx_goto C 20 dX9_count_15 (by decide) ?_
    exact zx_iret C hr dX9_count_20 h
theorem fg_X9_16 : zFG RX9 16 9 1 := ⟨RX9, TX9, 11, rfl, lay_X9, by decide, fl_X9_16⟩
theorem lk_X9_117 : zLV RX9 117 RX8 yX8_copyFrom cX8_copyFrom 3 none 1 := zLV_of ml_X9_117 im_X8_copyFrom se_X8_copyFrom ini_X8 cd_X8_copyFrom (by decide +kernel)
theorem fg_X9_20 : zFG RX9 20 9 2 := ⟨RX9, TX9, 11, rfl, lay_X9, by decide, fl_X9_20⟩
def w_X9_image (a1 : Int32) (σ : zSto) (P : Int32 → zSto → Prop) : Prop := ((a1 < 0 → P (0 : Int32) σ) ∧ (¬ a1 < 0 → ((a1 < (3 : Int32) → (vp_in a1 3 ∧ (∀ j2 : Nat, j2 = 43 + zel [(0, 1), (0, 43), (0, 85)] a1 → zIsState j2 ∧ (w_X8_copyFrom j2 1 σ (fun (σ3 : zSto) => (vp_in a1 3 ∧ (∀ σ5 : zSto, σ5 = zI σ3 170 (a1).toNatClampNeg (vp_nar .boolean (1 : Int32)) → P (1 : Int32) σ5))))))) ∧ (¬ a1 < (3 : Int32) → P (0 : Int32) σ))))
set_option maxRecDepth 100000 in
set_option maxHeartbeats 4000000 in
theorem c_X9_image (l : Launch) (D : va_G) (cy : Nat → ClassId) (g : Nat → Nat) (a1 : Int32)  (σ : zSto) {P : Int32 → zSto → Prop} (h : w_X9_image a1 σ P) : zMb l yX9_image cX9_image 2 (some .boolean) (zrm 3 107) D cy g [.ref (g 0), .int a1] σ P := by
  unfold w_X9_image at h
  refine zm_b RX9 rfl (by decide +kernel) (Nat.le_of_ble_eq_true rfl) ?_
  intro p e s m below meth c C hr
  refine zx_lv (lv' := [(0, .ref (g 0)), (1, .int a1)]) [0, 1] rfl ?_
  refine zx_iload_n C dX9_image_0 1 rfl ?_
  refine zx_if_lt C 9 dX9_image_1 (by decide) (fun q => ?_) (fun q => ?_)
  · replace h := h.1 q
    refine zx_iconst (v := (0 : Int32)) C dX9_image_9 (by decide) ?_
    exact zx_zret C hr dX9_image_10 (Or.inl rfl) h
  · replace h := h.2 q
    refine zx_iload_n C dX9_image_4 1 rfl ?_
    refine zx_iconst (v := (3 : Int32)) C dX9_image_5 (by decide) ?_
    refine zx_icmp_lt C 11 dX9_image_6 (by decide) (fun q => ?_) (fun q => ?_)
    · replace h := h.1 q
      refine zx_aload_n C dX9_image_11 0 rfl ?_
      refine zx_getR C zs_0 fg_X9_16 rfl 43 rfl dX9_image_12 ?_
      refine zx_iload_n C dX9_image_15 1 rfl ?_
      obtain ⟨bd1, h⟩ := h
      refine zx_aald C zs_43 rfl bd1 rfl dX9_image_16 ?_
      refine zx_topr (fun j2 ej2 => ?_)
      obtain ⟨hj2, h⟩ := h j2 ej2
      refine zx_aload_n C dX9_image_17 0 rfl ?_
      refine zx_getR C zs_0 fg_X9_12 rfl 1 rfl dX9_image_18 ?_
      refine zx_cVv C [.ref (g 1)] lk_X9_117 (c_X8_copyFrom l D cy g j2 1 hj2 zIsState_1 σ h) hj2.1 rfl ⟨by decide, by decide⟩ ⟨rfl, rfl⟩ ⟨Nat.zero_le _, Nat.zero_le _⟩ rfl rfl (Nat.le_of_ble_eq_true rfl) dX9_image_21 (fun σ3 h => ?_)
      refine zx_aload_n C dX9_image_24 0 rfl ?_
      refine zx_getR C zs_0 fg_X9_20 rfl 170 rfl dX9_image_25 ?_
      refine zx_iload_n C dX9_image_28 1 rfl ?_
      refine zx_iconst (v := (1 : Int32)) C dX9_image_29 (by decide) ?_
      obtain ⟨bd4, h⟩ := h
      refine zx_zast C (a1).toNatClampNeg zs_170 bd4 rfl dX9_image_30 ?_
      refine zx_sig (fun σ5 eσ5 => ?_)
      replace h := h σ5 eσ5
      refine zx_iconst (v := (1 : Int32)) C dX9_image_31 (by decide) ?_
      exact zx_zret C hr dX9_image_32 (Or.inr rfl) h
    · replace h := h.2 q
      refine zx_iconst (v := (0 : Int32)) C dX9_image_9 (by decide) ?_
      exact zx_zret C hr dX9_image_10 (Or.inl rfl) h
def w_X9_again (a1 : Int32) (σ : zSto) (P : Int32 → zSto → Prop) : Prop := ((a1 < 0 → P (0 : Int32) σ) ∧ (¬ a1 < 0 → (((3 : Int32) ≤ a1 → P (0 : Int32) σ) ∧ (¬ (3 : Int32) ≤ a1 → (vp_in a1 3 ∧ ((¬ (σ.1 170 (a1).toNatClampNeg) = 0 → (vp_in a1 3 ∧ (∀ j3 : Nat, j3 = 43 + zel [(0, 1), (0, 43), (0, 85)] a1 → zIsState j3 ∧ (w_X8_copyFrom 1 j3 σ (fun (σ4 : zSto) => P (1 : Int32) σ4))))) ∧ ((σ.1 170 (a1).toNatClampNeg) = 0 → P (0 : Int32) σ)))))))
set_option maxRecDepth 100000 in
set_option maxHeartbeats 4000000 in
theorem c_X9_again (l : Launch) (D : va_G) (cy : Nat → ClassId) (g : Nat → Nat) (a1 : Int32)  (σ : zSto) {P : Int32 → zSto → Prop} (h : w_X9_again a1 σ P) : zMb l yX9_again cX9_again 2 (some .boolean) (zrm 3 107) D cy g [.ref (g 0), .int a1] σ P := by
  unfold w_X9_again at h
  refine zm_b RX9 rfl (by decide +kernel) (Nat.le_of_ble_eq_true rfl) ?_
  intro p e s m below meth c C hr
  refine zx_lv (lv' := [(0, .ref (g 0)), (1, .int a1)]) [0, 1] rfl ?_
  refine zx_iload_n C dX9_again_0 1 rfl ?_
  refine zx_if_lt C 18 dX9_again_1 (by decide) (fun q => ?_) (fun q => ?_)
  · replace h := h.1 q
    refine zx_iconst (v := (0 : Int32)) C dX9_again_18 (by decide) ?_
    exact zx_zret C hr dX9_again_19 (Or.inl rfl) h
  · replace h := h.2 q
    refine zx_iload_n C dX9_again_4 1 rfl ?_
    refine zx_iconst (v := (3 : Int32)) C dX9_again_5 (by decide) ?_
    refine zx_icmp_ge C 18 dX9_again_6 (by decide) (fun q => ?_) (fun q => ?_)
    · replace h := h.1 q
      refine zx_iconst (v := (0 : Int32)) C dX9_again_18 (by decide) ?_
      exact zx_zret C hr dX9_again_19 (Or.inl rfl) h
    · replace h := h.2 q
      refine zx_aload_n C dX9_again_9 0 rfl ?_
      refine zx_getR C zs_0 fg_X9_20 rfl 170 rfl dX9_again_10 ?_
      refine zx_iload_n C dX9_again_13 1 rfl ?_
      obtain ⟨bd1, h⟩ := h
      refine zx_zald C (a1).toNatClampNeg zs_170 bd1 rfl dX9_again_14 ?_
      refine zx_if_ne C 20 dX9_again_15 (by decide) (fun q => ?_) (fun q => ?_)
      · replace h := h.1 q
        refine zx_aload_n C dX9_again_20 0 rfl ?_
        refine zx_getR C zs_0 fg_X9_12 rfl 1 rfl dX9_again_21 ?_
        refine zx_aload_n C dX9_again_24 0 rfl ?_
        refine zx_getR C zs_0 fg_X9_16 rfl 43 rfl dX9_again_25 ?_
        refine zx_iload_n C dX9_again_28 1 rfl ?_
        obtain ⟨bd2, h⟩ := h
        refine zx_aald C zs_43 rfl bd2 rfl dX9_again_29 ?_
        refine zx_topr (fun j3 ej3 => ?_)
        obtain ⟨hj3, h⟩ := h j3 ej3
        refine zx_cVv C [.ref (g j3)] lk_X9_117 (c_X8_copyFrom l D cy g 1 j3 zIsState_1 hj3 σ h) zIsState_1.1 rfl ⟨by decide, by decide⟩ ⟨rfl, rfl⟩ ⟨Nat.zero_le _, Nat.zero_le _⟩ rfl rfl (Nat.le_of_ble_eq_true rfl) dX9_again_30 (fun σ4 h => ?_)
        refine zx_iconst (v := (1 : Int32)) C dX9_again_33 (by decide) ?_
        exact zx_zret C hr dX9_again_34 (Or.inr rfl) h
      · replace h := h.2 q
        refine zx_iconst (v := (0 : Int32)) C dX9_again_18 (by decide) ?_
        exact zx_zret C hr dX9_again_19 (Or.inl rfl) h
theorem lk_X9_121 : zLV RX9 121 RX8 yX8_lineAt cX8_lineAt 2 (some (.object "ChestnutLine$Line")) 1 := zLV_of ml_X9_121 im_X8_lineAt se_X8_lineAt ini_X8 cd_X8_lineAt (by decide +kernel)
theorem fg_X9_125 : zFG RX9 125 0 11 := ⟨RX0, TX0, 18, rfl, lay_X0, by decide, fl_X9_125⟩
theorem fg_X9_128 : zFG RX9 128 0 12 := ⟨RX0, TX0, 18, rfl, lay_X0, by decide, fl_X9_128⟩
theorem fg_X9_131 : zFG RX9 131 0 13 := ⟨RX0, TX0, 18, rfl, lay_X0, by decide, fl_X9_131⟩
theorem fg_X9_134 : zFG RX9 134 0 14 := ⟨RX0, TX0, 18, rfl, lay_X0, by decide, fl_X9_134⟩
theorem fg_X9_137 : zFG RX9 137 0 15 := ⟨RX0, TX0, 18, rfl, lay_X0, by decide, fl_X9_137⟩
theorem fg_X9_140 : zFG RX9 140 0 16 := ⟨RX0, TX0, 18, rfl, lay_X0, by decide, fl_X9_140⟩
theorem fg_X9_143 : zFG RX9 143 0 17 := ⟨RX0, TX0, 18, rfl, lay_X0, by decide, fl_X9_143⟩
theorem lk_X9_146 : zLV RX9 146 RX0 yX0_stations cX0_stations 3 (some .int) 0 := zLV_of ml_X9_146 im_X0_stations se_X0_stations ini_X0 cd_X0_stations (by decide +kernel)
def w_X9_line (a1 : Int32) (a2 : Int32) (σ : zSto) (P : Int32 → zSto → Prop) : Prop := (w_X8_lineAt 1 a1 σ (fun (q2 : Option Nat) (σ1 : zSto) => ((q2 = none → P (-2 : Int32) σ1) ∧ (∀ j3 : Nat, q2 = some j3 → zIsLine j3 ∧ ((a2 = 0 → P (σ1.1 j3 11) σ1) ∧ (a2 = 1 → P (σ1.1 j3 12) σ1) ∧ (a2 = 2 → P (σ1.1 j3 13) σ1) ∧ (a2 = 3 → P (σ1.1 j3 14) σ1) ∧ (a2 = 4 → P (σ1.1 j3 15) σ1) ∧ (a2 = 5 → P (σ1.1 j3 16) σ1) ∧ (a2 = 6 → P (σ1.1 j3 17) σ1) ∧ (a2 = 7 → (w_X0_stations j3 σ1 (fun (r5 : Int32) (σ4 : zSto) => P r5 σ4))) ∧ ((a2.toInt < 0 ∨ 7 < a2.toInt) → P (-2 : Int32) σ1))))))
set_option maxRecDepth 100000 in
set_option maxHeartbeats 4000000 in
theorem c_X9_line (l : Launch) (D : va_G) (cy : Nat → ClassId) (g : Nat → Nat) (a1 : Int32) (a2 : Int32)  (σ : zSto) {P : Int32 → zSto → Prop} (h : w_X9_line a1 a2 σ P) : zMi l yX9_line cX9_line 4 (some .int) (zrm 2 43) D cy g [.ref (g 0), .int a1, .int a2] σ P := by
  unfold w_X9_line at h
  refine zm_i RX9 rfl (by decide +kernel) (Nat.le_of_ble_eq_true rfl) ?_
  intro p e s m below meth c C hr
  refine zx_lv (lv' := [(0, .ref (g 0)), (1, .int a1), (2, .int a2)]) [0, 1, 2] rfl ?_
  refine zx_aload_n C dX9_line_0 0 rfl ?_
  refine zx_getR C zs_0 fg_X9_12 rfl 1 rfl dX9_line_1 ?_
  refine zx_iload_n C dX9_line_4 1 rfl ?_
  refine zx_cVq C [.int a1] lk_X9_121 (c_X8_lineAt l D cy g 1 a1 zIsState_1 σ h) zIsState_1.1 rfl ⟨by decide, by decide⟩ ⟨rfl, rfl⟩ ⟨Nat.zero_le _, Nat.zero_le _⟩ rfl rfl (Nat.le_of_ble_eq_true rfl) dX9_line_5 (fun σ1 h => ?_) (fun j3 σ1 h => ?_)
  · replace h := h.1 rfl
    refine zx_astore_nN (lv' := [(3, .null), (0, .ref (g 0)), (1, .int a1), (2, .int a2)]) C dX9_line_8 (by decide) rfl ?_
    refine zx_aload_nN C dX9_line_9 0 rfl ?_
    refine zx_ifnonnullN C dX9_line_10 ?_
    refine zx_bipush (v := (-2 : Int32)) C dX9_line_13 (by decide) ?_
    exact zx_iret C hr dX9_line_15 h
  · obtain ⟨hj3, h⟩ := h.2 j3 rfl
    refine zx_astore_n (lv' := [(3, .ref (g j3)), (0, .ref (g 0)), (1, .int a1), (2, .int a2)]) C dX9_line_8 (by decide) rfl ?_
    refine zx_aload_n C dX9_line_9 0 rfl ?_
    refine zx_ifnonnull C 16 dX9_line_10 (by decide) ?_
    refine zx_iload_n C dX9_line_16 3 rfl ?_
    refine zsw (x := a2) 7 (fun q => ?_) (fun i hi q => ?_)
    · replace h := h.2.2.2.2.2.2.2.2 q
      refine zx_tableOut C 104 dX9_line_17 q (by decide) ?_
      refine zx_bipush (v := (-2 : Int32)) C dX9_line_104 (by decide) ?_
      exact zx_iret C hr dX9_line_106 h
    · match i, hi, q with
      | 0, _, q =>
        replace h := h.1 q
        refine zx_tableIn C 64 (0 : Int32) q dX9_line_17 (by decide) (by decide) rfl (by decide) ?_
        refine zx_aload_n C dX9_line_64 0 rfl ?_
        refine zx_getI C hj3.1 fg_X9_125 rfl dX9_line_65 ?_
        exact zx_iret C hr dX9_line_68 h
      | 1, _, q =>
        replace h := h.2.1 q
        refine zx_tableIn C 69 (1 : Int32) q dX9_line_17 (by decide) (by decide) rfl (by decide) ?_
        refine zx_aload_n C dX9_line_69 0 rfl ?_
        refine zx_getI C hj3.1 fg_X9_128 rfl dX9_line_70 ?_
        exact zx_iret C hr dX9_line_73 h
      | 2, _, q =>
        replace h := h.2.2.1 q
        refine zx_tableIn C 74 (2 : Int32) q dX9_line_17 (by decide) (by decide) rfl (by decide) ?_
        refine zx_aload_n C dX9_line_74 0 rfl ?_
        refine zx_getI C hj3.1 fg_X9_131 rfl dX9_line_75 ?_
        exact zx_iret C hr dX9_line_78 h
      | 3, _, q =>
        replace h := h.2.2.2.1 q
        refine zx_tableIn C 79 (3 : Int32) q dX9_line_17 (by decide) (by decide) rfl (by decide) ?_
        refine zx_aload_n C dX9_line_79 0 rfl ?_
        refine zx_getI C hj3.1 fg_X9_134 rfl dX9_line_80 ?_
        exact zx_iret C hr dX9_line_83 h
      | 4, _, q =>
        replace h := h.2.2.2.2.1 q
        refine zx_tableIn C 84 (4 : Int32) q dX9_line_17 (by decide) (by decide) rfl (by decide) ?_
        refine zx_aload_n C dX9_line_84 0 rfl ?_
        refine zx_getI C hj3.1 fg_X9_137 rfl dX9_line_85 ?_
        exact zx_iret C hr dX9_line_88 h
      | 5, _, q =>
        replace h := h.2.2.2.2.2.1 q
        refine zx_tableIn C 89 (5 : Int32) q dX9_line_17 (by decide) (by decide) rfl (by decide) ?_
        refine zx_aload_n C dX9_line_89 0 rfl ?_
        refine zx_getI C hj3.1 fg_X9_140 rfl dX9_line_90 ?_
        exact zx_iret C hr dX9_line_93 h
      | 6, _, q =>
        replace h := h.2.2.2.2.2.2.1 q
        refine zx_tableIn C 94 (6 : Int32) q dX9_line_17 (by decide) (by decide) rfl (by decide) ?_
        refine zx_aload_n C dX9_line_94 0 rfl ?_
        refine zx_getI C hj3.1 fg_X9_143 rfl dX9_line_95 ?_
        exact zx_iret C hr dX9_line_98 h
      | 7, _, q =>
        replace h := h.2.2.2.2.2.2.2.1 q
        refine zx_tableIn C 99 (7 : Int32) q dX9_line_17 (by decide) (by decide) rfl (by decide) ?_
        refine zx_aload_n C dX9_line_99 0 rfl ?_
        refine zx_cVi C [] lk_X9_146 (c_X0_stations l D cy g j3 hj3 σ1 h) hj3.1 rfl ⟨by decide, by decide⟩ ⟨rfl, rfl⟩ ⟨Nat.zero_le _, Nat.zero_le _⟩ rfl rfl (Nat.le_of_ble_eq_true rfl) dX9_line_100 (fun r5 σ4 h => ?_)
        exact zx_iret C hr dX9_line_103 h
      | i + 8, hi, _ => exact absurd hi (by omega)
theorem lk_X9_150 : zLV RX9 150 RX0 yX0_hasPost cX0_hasPost 2 (some .boolean) 1 := zLV_of ml_X9_150 im_X0_hasPost se_X0_hasPost ini_X0 cd_X0_hasPost (by decide +kernel)
theorem fg_X9_156 : zFG RX9 156 0 0 := ⟨RX0, TX0, 18, rfl, lay_X0, by decide, fl_X9_156⟩
theorem fg_X9_159 : zFG RX9 159 0 1 := ⟨RX0, TX0, 18, rfl, lay_X0, by decide, fl_X9_159⟩
theorem fg_X9_162 : zFG RX9 162 0 2 := ⟨RX0, TX0, 18, rfl, lay_X0, by decide, fl_X9_162⟩
theorem fg_X9_165 : zFG RX9 165 0 3 := ⟨RX0, TX0, 18, rfl, lay_X0, by decide, fl_X9_165⟩
theorem fg_X9_168 : zFG RX9 168 0 4 := ⟨RX0, TX0, 18, rfl, lay_X0, by decide, fl_X9_168⟩
theorem lk_X9_171 : zLV RX9 171 RX0 yX0_cost cX0_cost 3 (some .int) 1 := zLV_of ml_X9_171 im_X0_cost se_X0_cost ini_X0 cd_X0_cost (by decide +kernel)
theorem lk_X9_153 : zLV RX9 153 RX0 yX0_poundsIn cX0_poundsIn 3 (some .int) 2 := zLV_of ml_X9_153 im_X0_poundsIn se_X0_poundsIn ini_X0 cd_X0_poundsIn (by decide +kernel)
def w_X9_post (a1 : Int32) (a2 : Int32) (a3 : Int32) (σ : zSto) (P : Int32 → zSto → Prop) : Prop := (w_X8_lineAt 1 a1 σ (fun (q2 : Option Nat) (σ1 : zSto) => ((q2 = none → P (-2 : Int32) σ1) ∧ (∀ j3 : Nat, q2 = some j3 → zIsLine j3 ∧ (w_X0_hasPost j3 a2 σ1 (fun (r5 : Int32) (σ4 : zSto) => (r5 = 0 ∨ r5 = 1) → ((¬ r5 = 0 → ((a3 < (10 : Int32) → ((a3 = 0 → (vp_in a2 16 ∧ P (σ4.1 (j3 + 1) (a2).toNatClampNeg) σ4)) ∧ (a3 = 1 → (vp_in a2 16 ∧ P (σ4.1 (j3 + 2) (a2).toNatClampNeg) σ4)) ∧ (a3 = 2 → (vp_in a2 16 ∧ P (σ4.1 (j3 + 3) (a2).toNatClampNeg) σ4)) ∧ (a3 = 3 → (vp_in a2 16 ∧ P (σ4.1 (j3 + 4) (a2).toNatClampNeg) σ4)) ∧ (a3 = 4 → (vp_in a2 16 ∧ P (σ4.1 (j3 + 5) (a2).toNatClampNeg) σ4)) ∧ (a3 = 5 → ((¬ a2 = ((σ4.1 j3 11) - (1 : Int32)) → (w_X0_cost j3 a2 σ4 (fun (r12 : Int32) (σ11 : zSto) => P r12 σ11))) ∧ (a2 = ((σ4.1 j3 11) - (1 : Int32)) → P (-1 : Int32) σ4))) ∧ ((a3.toInt < 0 ∨ 5 < a3.toInt) → P (-2 : Int32) σ4))) ∧ (¬ a3 < (10 : Int32) → (((20 : Int32) ≤ a3 → ((a3 = 0 → (vp_in a2 16 ∧ P (σ4.1 (j3 + 1) (a2).toNatClampNeg) σ4)) ∧ (a3 = 1 → (vp_in a2 16 ∧ P (σ4.1 (j3 + 2) (a2).toNatClampNeg) σ4)) ∧ (a3 = 2 → (vp_in a2 16 ∧ P (σ4.1 (j3 + 3) (a2).toNatClampNeg) σ4)) ∧ (a3 = 3 → (vp_in a2 16 ∧ P (σ4.1 (j3 + 4) (a2).toNatClampNeg) σ4)) ∧ (a3 = 4 → (vp_in a2 16 ∧ P (σ4.1 (j3 + 5) (a2).toNatClampNeg) σ4)) ∧ (a3 = 5 → ((¬ a2 = ((σ4.1 j3 11) - (1 : Int32)) → (w_X0_cost j3 a2 σ4 (fun (r19 : Int32) (σ18 : zSto) => P r19 σ18))) ∧ (a2 = ((σ4.1 j3 11) - (1 : Int32)) → P (-1 : Int32) σ4))) ∧ ((a3.toInt < 0 ∨ 5 < a3.toInt) → P (-2 : Int32) σ4))) ∧ (¬ (20 : Int32) ≤ a3 → (w_X0_poundsIn j3 a2 (a3 - (10 : Int32)) σ4 (fun (r21 : Int32) (σ20 : zSto) => P r21 σ20))))))) ∧ (r5 = 0 → P (-2 : Int32) σ4))))))))
set_option maxRecDepth 100000 in
set_option maxHeartbeats 4000000 in
theorem c_X9_post (l : Launch) (D : va_G) (cy : Nat → ClassId) (g : Nat → Nat) (a1 : Int32) (a2 : Int32) (a3 : Int32)  (σ : zSto) {P : Int32 → zSto → Prop} (h : w_X9_post a1 a2 a3 σ P) : zMi l yX9_post cX9_post 5 (some .int) (zrm 2 86) D cy g [.ref (g 0), .int a1, .int a2, .int a3] σ P := by
  unfold w_X9_post at h
  refine zm_i RX9 rfl (by decide +kernel) (Nat.le_of_ble_eq_true rfl) ?_
  intro p e s m below meth c C hr
  refine zx_lv (lv' := [(0, .ref (g 0)), (1, .int a1), (2, .int a2), (3, .int a3)]) [0, 1, 2, 3] rfl ?_
  refine zx_aload_n C dX9_post_0 0 rfl ?_
  refine zx_getR C zs_0 fg_X9_12 rfl 1 rfl dX9_post_1 ?_
  refine zx_iload_n C dX9_post_4 1 rfl ?_
  refine zx_cVq C [.int a1] lk_X9_121 (c_X8_lineAt l D cy g 1 a1 zIsState_1 σ h) zIsState_1.1 rfl ⟨by decide, by decide⟩ ⟨rfl, rfl⟩ ⟨Nat.zero_le _, Nat.zero_le _⟩ rfl rfl (Nat.le_of_ble_eq_true rfl) dX9_post_5 (fun σ1 h => ?_) (fun j3 σ1 h => ?_)
  · replace h := h.1 rfl
    refine zx_astoreN (lv' := [(4, .null), (0, .ref (g 0)), (1, .int a1), (2, .int a2), (3, .int a3)]) C dX9_post_8 (by decide) rfl ?_
    refine zx_aloadN C dX9_post_10 0 rfl ?_
    refine zx_ifnullN C 24 dX9_post_12 (by decide) ?_
    refine zx_bipush (v := (-2 : Int32)) C dX9_post_24 (by decide) ?_
    exact zx_iret C hr dX9_post_26 h
  · obtain ⟨hj3, h⟩ := h.2 j3 rfl
    refine zx_astore (lv' := [(4, .ref (g j3)), (0, .ref (g 0)), (1, .int a1), (2, .int a2), (3, .int a3)]) C dX9_post_8 (by decide) rfl ?_
    refine zx_aload C dX9_post_10 0 rfl ?_
    refine zx_ifnull C dX9_post_12 ?_
    refine zx_aload C dX9_post_15 0 rfl ?_
    refine zx_iload_n C dX9_post_17 3 rfl ?_
    refine zx_cVb C [.int a2] lk_X9_150 (c_X0_hasPost l D cy g j3 a2 hj3 σ1 h) hj3.1 rfl ⟨by decide, by decide⟩ ⟨rfl, rfl⟩ ⟨Nat.zero_le _, Nat.zero_le _⟩ rfl rfl (Nat.le_of_ble_eq_true rfl) dX9_post_18 (fun r5 σ4 hb h => ?_)
    replace h := h hb
    refine zx_if_ne C 27 dX9_post_21 (by decide) (fun q => ?_) (fun q => ?_)
    · replace h := h.1 q
      refine zx_iload_n C dX9_post_27 4 rfl ?_
      refine zx_bipush (v := (10 : Int32)) C dX9_post_28 (by decide) ?_
      refine zx_icmp_lt C 50 dX9_post_30 (by decide) (fun q => ?_) (fun q => ?_)
      · replace h := h.1 q
        refine zx_iload_n C dX9_post_50 4 rfl ?_
        refine zsw (x := a3) 5 (fun q => ?_) (fun i hi q => ?_)
        · replace h := h.2.2.2.2.2.2 q
          refine zx_tableOut C 150 dX9_post_51 q (by decide) ?_
          refine zx_bipush (v := (-2 : Int32)) C dX9_post_150 (by decide) ?_
          exact zx_iret C hr dX9_post_152 h
        · match i, hi, q with
          | 0, _, q =>
            replace h := h.1 q
            refine zx_tableIn C 88 (0 : Int32) q dX9_post_51 (by decide) (by decide) rfl (by decide) ?_
            refine zx_aload C dX9_post_88 0 rfl ?_
            refine zx_getR C hj3.1 fg_X9_156 rfl (j3 + 1) rfl dX9_post_90 ?_
            refine zx_iload_n C dX9_post_93 3 rfl ?_
            obtain ⟨bd6, h⟩ := h
            refine zx_iald C (a2).toNatClampNeg hj3.2.1 bd6 rfl dX9_post_94 ?_
            exact zx_iret C hr dX9_post_95 h
          | 1, _, q =>
            replace h := h.2.1 q
            refine zx_tableIn C 96 (1 : Int32) q dX9_post_51 (by decide) (by decide) rfl (by decide) ?_
            refine zx_aload C dX9_post_96 0 rfl ?_
            refine zx_getR C hj3.1 fg_X9_159 rfl (j3 + 2) rfl dX9_post_98 ?_
            refine zx_iload_n C dX9_post_101 3 rfl ?_
            obtain ⟨bd7, h⟩ := h
            refine zx_iald C (a2).toNatClampNeg hj3.2.2.1 bd7 rfl dX9_post_102 ?_
            exact zx_iret C hr dX9_post_103 h
          | 2, _, q =>
            replace h := h.2.2.1 q
            refine zx_tableIn C 104 (2 : Int32) q dX9_post_51 (by decide) (by decide) rfl (by decide) ?_
            refine zx_aload C dX9_post_104 0 rfl ?_
            refine zx_getR C hj3.1 fg_X9_162 rfl (j3 + 3) rfl dX9_post_106 ?_
            refine zx_iload_n C dX9_post_109 3 rfl ?_
            obtain ⟨bd8, h⟩ := h
            refine zx_iald C (a2).toNatClampNeg hj3.2.2.2.1 bd8 rfl dX9_post_110 ?_
            exact zx_iret C hr dX9_post_111 h
          | 3, _, q =>
            replace h := h.2.2.2.1 q
            refine zx_tableIn C 112 (3 : Int32) q dX9_post_51 (by decide) (by decide) rfl (by decide) ?_
            refine zx_aload C dX9_post_112 0 rfl ?_
            refine zx_getR C hj3.1 fg_X9_165 rfl (j3 + 4) rfl dX9_post_114 ?_
            refine zx_iload_n C dX9_post_117 3 rfl ?_
            obtain ⟨bd9, h⟩ := h
            refine zx_iald C (a2).toNatClampNeg hj3.2.2.2.2.1 bd9 rfl dX9_post_118 ?_
            exact zx_iret C hr dX9_post_119 h
          | 4, _, q =>
            replace h := h.2.2.2.2.1 q
            refine zx_tableIn C 120 (4 : Int32) q dX9_post_51 (by decide) (by decide) rfl (by decide) ?_
            refine zx_aload C dX9_post_120 0 rfl ?_
            refine zx_getR C hj3.1 fg_X9_168 rfl (j3 + 5) rfl dX9_post_122 ?_
            refine zx_iload_n C dX9_post_125 3 rfl ?_
            obtain ⟨bd10, h⟩ := h
            refine zx_iald C (a2).toNatClampNeg hj3.2.2.2.2.2.1 bd10 rfl dX9_post_126 ?_
            exact zx_iret C hr dX9_post_127 h
          | 5, _, q =>
            replace h := h.2.2.2.2.2.1 q
            refine zx_tableIn C 128 (5 : Int32) q dX9_post_51 (by decide) (by decide) rfl (by decide) ?_
            refine zx_iload_n C dX9_post_128 3 rfl ?_
            refine zx_aload C dX9_post_129 0 rfl ?_
            refine zx_getI C hj3.1 fg_X9_125 rfl dX9_post_131 ?_
            refine zx_iconst (v := (1 : Int32)) C dX9_post_134 (by decide) ?_
            refine zx_isub C dX9_post_135 ?_
            refine zx_icmp_ne C 143 dX9_post_136 (by decide) (fun q => ?_) (fun q => ?_)
            · replace h := h.1 q
              refine zx_aload C dX9_post_143 0 rfl ?_
              refine zx_iload_n C dX9_post_145 3 rfl ?_
              refine zx_cVi C [.int a2] lk_X9_171 (c_X0_cost l D cy g j3 a2 hj3 σ4 h) hj3.1 rfl ⟨by decide, by decide⟩ ⟨rfl, rfl⟩ ⟨Nat.zero_le _, Nat.zero_le _⟩ rfl rfl (Nat.le_of_ble_eq_true rfl) dX9_post_146 (fun r12 σ11 h => ?_)
              exact zx_iret C hr dX9_post_149 h
            · replace h := h.2 q
              refine zx_iconst (v := (-1 : Int32)) C dX9_post_139 (by decide) ?_
              refine zx_goto C 149 dX9_post_140 (by decide) ?_
              exact zx_iret C hr dX9_post_149 h
          | i + 6, hi, _ => exact absurd hi (by omega)
      · replace h := h.2 q
        refine zx_iload_n C dX9_post_33 4 rfl ?_
        refine zx_bipush (v := (20 : Int32)) C dX9_post_34 (by decide) ?_
        refine zx_icmp_ge C 50 dX9_post_36 (by decide) (fun q => ?_) (fun q => ?_)
        · replace h := h.1 q
          refine zx_iload_n C dX9_post_50 4 rfl ?_
          refine zsw (x := a3) 5 (fun q => ?_) (fun i hi q => ?_)
          · replace h := h.2.2.2.2.2.2 q
            refine zx_tableOut C 150 dX9_post_51 q (by decide) ?_
            refine zx_bipush (v := (-2 : Int32)) C dX9_post_150 (by decide) ?_
            exact zx_iret C hr dX9_post_152 h
          · match i, hi, q with
            | 0, _, q =>
              replace h := h.1 q
              refine zx_tableIn C 88 (0 : Int32) q dX9_post_51 (by decide) (by decide) rfl (by decide) ?_
              refine zx_aload C dX9_post_88 0 rfl ?_
              refine zx_getR C hj3.1 fg_X9_156 rfl (j3 + 1) rfl dX9_post_90 ?_
              refine zx_iload_n C dX9_post_93 3 rfl ?_
              obtain ⟨bd13, h⟩ := h
              refine zx_iald C (a2).toNatClampNeg hj3.2.1 bd13 rfl dX9_post_94 ?_
              exact zx_iret C hr dX9_post_95 h
            | 1, _, q =>
              replace h := h.2.1 q
              refine zx_tableIn C 96 (1 : Int32) q dX9_post_51 (by decide) (by decide) rfl (by decide) ?_
              refine zx_aload C dX9_post_96 0 rfl ?_
              refine zx_getR C hj3.1 fg_X9_159 rfl (j3 + 2) rfl dX9_post_98 ?_
              refine zx_iload_n C dX9_post_101 3 rfl ?_
              obtain ⟨bd14, h⟩ := h
              refine zx_iald C (a2).toNatClampNeg hj3.2.2.1 bd14 rfl dX9_post_102 ?_
              exact zx_iret C hr dX9_post_103 h
            | 2, _, q =>
              replace h := h.2.2.1 q
              refine zx_tableIn C 104 (2 : Int32) q dX9_post_51 (by decide) (by decide) rfl (by decide) ?_
              refine zx_aload C dX9_post_104 0 rfl ?_
              refine zx_getR C hj3.1 fg_X9_162 rfl (j3 + 3) rfl dX9_post_106 ?_
              refine zx_iload_n C dX9_post_109 3 rfl ?_
              obtain ⟨bd15, h⟩ := h
              refine zx_iald C (a2).toNatClampNeg hj3.2.2.2.1 bd15 rfl dX9_post_110 ?_
              exact zx_iret C hr dX9_post_111 h
            | 3, _, q =>
              replace h := h.2.2.2.1 q
              refine zx_tableIn C 112 (3 : Int32) q dX9_post_51 (by decide) (by decide) rfl (by decide) ?_
              refine zx_aload C dX9_post_112 0 rfl ?_
              refine zx_getR C hj3.1 fg_X9_165 rfl (j3 + 4) rfl dX9_post_114 ?_
              refine zx_iload_n C dX9_post_117 3 rfl ?_
              obtain ⟨bd16, h⟩ := h
              refine zx_iald C (a2).toNatClampNeg hj3.2.2.2.2.1 bd16 rfl dX9_post_118 ?_
              exact zx_iret C hr dX9_post_119 h
            | 4, _, q =>
              replace h := h.2.2.2.2.1 q
              refine zx_tableIn C 120 (4 : Int32) q dX9_post_51 (by decide) (by decide) rfl (by decide) ?_
              refine zx_aload C dX9_post_120 0 rfl ?_
              refine zx_getR C hj3.1 fg_X9_168 rfl (j3 + 5) rfl dX9_post_122 ?_
              refine zx_iload_n C dX9_post_125 3 rfl ?_
              obtain ⟨bd17, h⟩ := h
              refine zx_iald C (a2).toNatClampNeg hj3.2.2.2.2.2.1 bd17 rfl dX9_post_126 ?_
              exact zx_iret C hr dX9_post_127 h
            | 5, _, q =>
              replace h := h.2.2.2.2.2.1 q
              refine zx_tableIn C 128 (5 : Int32) q dX9_post_51 (by decide) (by decide) rfl (by decide) ?_
              refine zx_iload_n C dX9_post_128 3 rfl ?_
              refine zx_aload C dX9_post_129 0 rfl ?_
              refine zx_getI C hj3.1 fg_X9_125 rfl dX9_post_131 ?_
              refine zx_iconst (v := (1 : Int32)) C dX9_post_134 (by decide) ?_
              refine zx_isub C dX9_post_135 ?_
              refine zx_icmp_ne C 143 dX9_post_136 (by decide) (fun q => ?_) (fun q => ?_)
              · replace h := h.1 q
                refine zx_aload C dX9_post_143 0 rfl ?_
                refine zx_iload_n C dX9_post_145 3 rfl ?_
                refine zx_cVi C [.int a2] lk_X9_171 (c_X0_cost l D cy g j3 a2 hj3 σ4 h) hj3.1 rfl ⟨by decide, by decide⟩ ⟨rfl, rfl⟩ ⟨Nat.zero_le _, Nat.zero_le _⟩ rfl rfl (Nat.le_of_ble_eq_true rfl) dX9_post_146 (fun r19 σ18 h => ?_)
                exact zx_iret C hr dX9_post_149 h
              · replace h := h.2 q
                refine zx_iconst (v := (-1 : Int32)) C dX9_post_139 (by decide) ?_
                refine zx_goto C 149 dX9_post_140 (by decide) ?_
                exact zx_iret C hr dX9_post_149 h
            | i + 6, hi, _ => exact absurd hi (by omega)
        · replace h := h.2 q
          refine zx_aload C dX9_post_39 0 rfl ?_
          refine zx_iload_n C dX9_post_41 3 rfl ?_
          refine zx_iload_n C dX9_post_42 4 rfl ?_
          refine zx_bipush (v := (10 : Int32)) C dX9_post_43 (by decide) ?_
          refine zx_isub C dX9_post_45 ?_
          refine zx_cVi C [.int a2, .int (a3 - (10 : Int32))] lk_X9_153 (c_X0_poundsIn l D cy g j3 a2 (a3 - (10 : Int32)) hj3 σ4 h) hj3.1 rfl ⟨by decide, by decide⟩ ⟨rfl, rfl⟩ ⟨Nat.zero_le _, Nat.zero_le _⟩ rfl rfl (Nat.le_of_ble_eq_true rfl) dX9_post_46 (fun r21 σ20 h => ?_)
          exact zx_iret C hr dX9_post_49 h
    · replace h := h.2 q
      refine zx_bipush (v := (-2 : Int32)) C dX9_post_24 (by decide) ?_
      exact zx_iret C hr dX9_post_26 h
theorem lk_X9_174 : zLV RX9 174 RX0 yX0_hasRider cX0_hasRider 2 (some .boolean) 1 := zLV_of ml_X9_174 im_X0_hasRider se_X0_hasRider ini_X0 cd_X0_hasRider (by decide +kernel)
theorem fg_X9_177 : zFG RX9 177 0 5 := ⟨RX0, TX0, 18, rfl, lay_X0, by decide, fl_X9_177⟩
theorem fg_X9_180 : zFG RX9 180 0 6 := ⟨RX0, TX0, 18, rfl, lay_X0, by decide, fl_X9_180⟩
theorem fg_X9_183 : zFG RX9 183 0 7 := ⟨RX0, TX0, 18, rfl, lay_X0, by decide, fl_X9_183⟩
theorem fg_X9_186 : zFG RX9 186 0 8 := ⟨RX0, TX0, 18, rfl, lay_X0, by decide, fl_X9_186⟩
theorem fg_X9_189 : zFG RX9 189 0 9 := ⟨RX0, TX0, 18, rfl, lay_X0, by decide, fl_X9_189⟩
theorem fg_X9_192 : zFG RX9 192 0 10 := ⟨RX0, TX0, 18, rfl, lay_X0, by decide, fl_X9_192⟩
def w_X9_rider (a1 : Int32) (a2 : Int32) (a3 : Int32) (σ : zSto) (P : Int32 → zSto → Prop) : Prop := (w_X8_lineAt 1 a1 σ (fun (q2 : Option Nat) (σ1 : zSto) => ((q2 = none → P (-1 : Int32) σ1) ∧ (∀ j3 : Nat, q2 = some j3 → zIsLine j3 ∧ (w_X0_hasRider j3 a2 σ1 (fun (r5 : Int32) (σ4 : zSto) => (r5 = 0 ∨ r5 = 1) → ((¬ r5 = 0 → ((a3 = 0 → (vp_in a2 6 ∧ P (σ4.1 (j3 + 6) (a2).toNatClampNeg) σ4)) ∧ (a3 = 1 → (vp_in a2 6 ∧ P (σ4.1 (j3 + 7) (a2).toNatClampNeg) σ4)) ∧ (a3 = 2 → (vp_in a2 6 ∧ P (σ4.1 (j3 + 8) (a2).toNatClampNeg) σ4)) ∧ (a3 = 3 → (vp_in a2 6 ∧ P (σ4.1 (j3 + 9) (a2).toNatClampNeg) σ4)) ∧ (a3 = 4 → (vp_in a2 6 ∧ P (σ4.1 (j3 + 10) (a2).toNatClampNeg) σ4)) ∧ (a3 = 5 → (vp_in a2 6 ∧ P (σ4.1 (j3 + 11) (a2).toNatClampNeg) σ4)) ∧ ((a3.toInt < 0 ∨ 5 < a3.toInt) → P (-1 : Int32) σ4))) ∧ (r5 = 0 → P (-1 : Int32) σ4))))))))
set_option maxRecDepth 100000 in
set_option maxHeartbeats 4000000 in
theorem c_X9_rider (l : Launch) (D : va_G) (cy : Nat → ClassId) (g : Nat → Nat) (a1 : Int32) (a2 : Int32) (a3 : Int32)  (σ : zSto) {P : Int32 → zSto → Prop} (h : w_X9_rider a1 a2 a3 σ P) : zMi l yX9_rider cX9_rider 5 (some .int) (zrm 2 43) D cy g [.ref (g 0), .int a1, .int a2, .int a3] σ P := by
  unfold w_X9_rider at h
  refine zm_i RX9 rfl (by decide +kernel) (Nat.le_of_ble_eq_true rfl) ?_
  intro p e s m below meth c C hr
  refine zx_lv (lv' := [(0, .ref (g 0)), (1, .int a1), (2, .int a2), (3, .int a3)]) [0, 1, 2, 3] rfl ?_
  refine zx_aload_n C dX9_rider_0 0 rfl ?_
  refine zx_getR C zs_0 fg_X9_12 rfl 1 rfl dX9_rider_1 ?_
  refine zx_iload_n C dX9_rider_4 1 rfl ?_
  refine zx_cVq C [.int a1] lk_X9_121 (c_X8_lineAt l D cy g 1 a1 zIsState_1 σ h) zIsState_1.1 rfl ⟨by decide, by decide⟩ ⟨rfl, rfl⟩ ⟨Nat.zero_le _, Nat.zero_le _⟩ rfl rfl (Nat.le_of_ble_eq_true rfl) dX9_rider_5 (fun σ1 h => ?_) (fun j3 σ1 h => ?_)
  · replace h := h.1 rfl
    refine zx_astoreN (lv' := [(4, .null), (0, .ref (g 0)), (1, .int a1), (2, .int a2), (3, .int a3)]) C dX9_rider_8 (by decide) rfl ?_
    refine zx_aloadN C dX9_rider_10 0 rfl ?_
    refine zx_ifnullN C 24 dX9_rider_12 (by decide) ?_
    refine zx_iconst (v := (-1 : Int32)) C dX9_rider_24 (by decide) ?_
    exact zx_iret C hr dX9_rider_25 h
  · obtain ⟨hj3, h⟩ := h.2 j3 rfl
    refine zx_astore (lv' := [(4, .ref (g j3)), (0, .ref (g 0)), (1, .int a1), (2, .int a2), (3, .int a3)]) C dX9_rider_8 (by decide) rfl ?_
    refine zx_aload C dX9_rider_10 0 rfl ?_
    refine zx_ifnull C dX9_rider_12 ?_
    refine zx_aload C dX9_rider_15 0 rfl ?_
    refine zx_iload_n C dX9_rider_17 3 rfl ?_
    refine zx_cVb C [.int a2] lk_X9_174 (c_X0_hasRider l D cy g j3 a2 hj3 σ1 h) hj3.1 rfl ⟨by decide, by decide⟩ ⟨rfl, rfl⟩ ⟨Nat.zero_le _, Nat.zero_le _⟩ rfl rfl (Nat.le_of_ble_eq_true rfl) dX9_rider_18 (fun r5 σ4 hb h => ?_)
    replace h := h hb
    refine zx_if_ne C 26 dX9_rider_21 (by decide) (fun q => ?_) (fun q => ?_)
    · replace h := h.1 q
      refine zx_iload_n C dX9_rider_26 4 rfl ?_
      refine zsw (x := a3) 5 (fun q => ?_) (fun i hi q => ?_)
      · replace h := h.2.2.2.2.2.2 q
        refine zx_tableOut C 112 dX9_rider_27 q (by decide) ?_
        refine zx_iconst (v := (-1 : Int32)) C dX9_rider_112 (by decide) ?_
        exact zx_iret C hr dX9_rider_113 h
      · match i, hi, q with
        | 0, _, q =>
          replace h := h.1 q
          refine zx_tableIn C 64 (0 : Int32) q dX9_rider_27 (by decide) (by decide) rfl (by decide) ?_
          refine zx_aload C dX9_rider_64 0 rfl ?_
          refine zx_getR C hj3.1 fg_X9_177 rfl (j3 + 6) rfl dX9_rider_66 ?_
          refine zx_iload_n C dX9_rider_69 3 rfl ?_
          obtain ⟨bd6, h⟩ := h
          refine zx_iald C (a2).toNatClampNeg hj3.2.2.2.2.2.2.1 bd6 rfl dX9_rider_70 ?_
          exact zx_iret C hr dX9_rider_71 h
        | 1, _, q =>
          replace h := h.2.1 q
          refine zx_tableIn C 72 (1 : Int32) q dX9_rider_27 (by decide) (by decide) rfl (by decide) ?_
          refine zx_aload C dX9_rider_72 0 rfl ?_
          refine zx_getR C hj3.1 fg_X9_180 rfl (j3 + 7) rfl dX9_rider_74 ?_
          refine zx_iload_n C dX9_rider_77 3 rfl ?_
          obtain ⟨bd7, h⟩ := h
          refine zx_iald C (a2).toNatClampNeg hj3.2.2.2.2.2.2.2.1 bd7 rfl dX9_rider_78 ?_
          exact zx_iret C hr dX9_rider_79 h
        | 2, _, q =>
          replace h := h.2.2.1 q
          refine zx_tableIn C 80 (2 : Int32) q dX9_rider_27 (by decide) (by decide) rfl (by decide) ?_
          refine zx_aload C dX9_rider_80 0 rfl ?_
          refine zx_getR C hj3.1 fg_X9_183 rfl (j3 + 8) rfl dX9_rider_82 ?_
          refine zx_iload_n C dX9_rider_85 3 rfl ?_
          obtain ⟨bd8, h⟩ := h
          refine zx_iald C (a2).toNatClampNeg hj3.2.2.2.2.2.2.2.2.1 bd8 rfl dX9_rider_86 ?_
          exact zx_iret C hr dX9_rider_87 h
        | 3, _, q =>
          replace h := h.2.2.2.1 q
          refine zx_tableIn C 88 (3 : Int32) q dX9_rider_27 (by decide) (by decide) rfl (by decide) ?_
          refine zx_aload C dX9_rider_88 0 rfl ?_
          refine zx_getR C hj3.1 fg_X9_186 rfl (j3 + 9) rfl dX9_rider_90 ?_
          refine zx_iload_n C dX9_rider_93 3 rfl ?_
          obtain ⟨bd9, h⟩ := h
          refine zx_iald C (a2).toNatClampNeg hj3.2.2.2.2.2.2.2.2.2.1 bd9 rfl dX9_rider_94 ?_
          exact zx_iret C hr dX9_rider_95 h
        | 4, _, q =>
          replace h := h.2.2.2.2.1 q
          refine zx_tableIn C 96 (4 : Int32) q dX9_rider_27 (by decide) (by decide) rfl (by decide) ?_
          refine zx_aload C dX9_rider_96 0 rfl ?_
          refine zx_getR C hj3.1 fg_X9_189 rfl (j3 + 10) rfl dX9_rider_98 ?_
          refine zx_iload_n C dX9_rider_101 3 rfl ?_
          obtain ⟨bd10, h⟩ := h
          refine zx_iald C (a2).toNatClampNeg hj3.2.2.2.2.2.2.2.2.2.2.1 bd10 rfl dX9_rider_102 ?_
          exact zx_iret C hr dX9_rider_103 h
        | 5, _, q =>
          replace h := h.2.2.2.2.2.1 q
          refine zx_tableIn C 104 (5 : Int32) q dX9_rider_27 (by decide) (by decide) rfl (by decide) ?_
          refine zx_aload C dX9_rider_104 0 rfl ?_
          refine zx_getR C hj3.1 fg_X9_192 rfl (j3 + 11) rfl dX9_rider_106 ?_
          refine zx_iload_n C dX9_rider_109 3 rfl ?_
          obtain ⟨bd11, h⟩ := h
          refine zx_iald C (a2).toNatClampNeg hj3.2.2.2.2.2.2.2.2.2.2.2 bd11 rfl dX9_rider_110 ?_
          exact zx_iret C hr dX9_rider_111 h
        | i + 6, hi, _ => exact absurd hi (by omega)
    · replace h := h.2 q
      refine zx_iconst (v := (-1 : Int32)) C dX9_rider_24 (by decide) ?_
      exact zx_iret C hr dX9_rider_25 h
theorem fg_X9_393 : zFG RX9 393 2 2 := ⟨RX2, TX2, 3, rfl, lay_X2, by decide, fl_X9_393⟩
theorem fg_X9_400 : zFG RX9 400 2 1 := ⟨RX2, TX2, 3, rfl, lay_X2, by decide, fl_X9_400⟩
theorem fg_X9_398 : zFG RX9 398 2 0 := ⟨RX2, TX2, 3, rfl, lay_X2, by decide, fl_X9_398⟩
def w_X9_pairAnswer (o1 : Option Nat) (a2 : Int32) (a3 : Int32) (σ : zSto) (P : Int32 → zSto → Prop) : Prop := ((o1 = none → P (-2 : Int32) σ) ∧ (∀ kk : Nat, o1 = some kk → zIsPairs kk ∧ ((¬ a2 = (-1 : Int32) → ((a2 < 0 → P (-2 : Int32) σ) ∧ (¬ a2 < 0 → (((σ.1 kk 2) ≤ a2 → P (-2 : Int32) σ) ∧ (¬ (σ.1 kk 2) ≤ a2 → ((a3 < 0 → P (-2 : Int32) σ) ∧ (¬ a3 < 0 → ((a3 ≤ (1 : Int32) → ((¬ a3 = 0 → (vp_in a2 16 ∧ P (σ.1 (kk + 2) (a2).toNatClampNeg) σ)) ∧ (a3 = 0 → (vp_in a2 16 ∧ P (σ.1 (kk + 1) (a2).toNatClampNeg) σ)))) ∧ (¬ a3 ≤ (1 : Int32) → P (-2 : Int32) σ))))))))) ∧ (a2 = (-1 : Int32) → ((¬ a3 = 0 → P (-2 : Int32) σ) ∧ (a3 = 0 → P (σ.1 kk 2) σ))))))
set_option maxRecDepth 100000 in
set_option maxHeartbeats 4000000 in
theorem c_X9_pairAnswer (l : Launch) (D : va_G) (cy : Nat → ClassId) (g : Nat → Nat) (o1 : Option Nat) (a2 : Int32) (a3 : Int32)  (σ : zSto) {P : Int32 → zSto → Prop} (h : w_X9_pairAnswer o1 a2 a3 σ P) : zMi l yX9_pairAnswer cX9_pairAnswer 3 (some .int) (zrm 0 0) D cy g [va_rf (o1.map g), .int a2, .int a3] σ P := by
  unfold w_X9_pairAnswer at h
  cases o1 with
  | none =>
    replace h := h.1 rfl
    refine zm_i RX9 rfl (by decide +kernel) (Nat.le_of_ble_eq_true rfl) ?_
    intro p e s m below meth c C hr
    refine zx_lv (lv' := [(0, .null), (1, .int a2), (2, .int a3)]) [0, 1, 2] rfl ?_
    refine zx_aload_nN C dX9_pairAnswer_0 0 rfl ?_
    refine zx_ifnonnullN C dX9_pairAnswer_1 ?_
    refine zx_bipush (v := (-2 : Int32)) C dX9_pairAnswer_4 (by decide) ?_
    exact zx_iret C hr dX9_pairAnswer_6 h
  | some kk =>
    obtain ⟨hkk, h⟩ := h.2 kk rfl
    refine zm_i RX9 rfl (by decide +kernel) (Nat.le_of_ble_eq_true rfl) ?_
    intro p e s m below meth c C hr
    refine zx_lv (lv' := [(0, .ref (g kk)), (1, .int a2), (2, .int a3)]) [0, 1, 2] rfl ?_
    refine zx_aload_n C dX9_pairAnswer_0 0 rfl ?_
    refine zx_ifnonnull C 7 dX9_pairAnswer_1 (by decide) ?_
    refine zx_iload_n C dX9_pairAnswer_7 1 rfl ?_
    refine zx_iconst (v := (-1 : Int32)) C dX9_pairAnswer_8 (by decide) ?_
    refine zx_icmp_ne C 26 dX9_pairAnswer_9 (by decide) (fun q => ?_) (fun q => ?_)
    · replace h := h.1 q
      refine zx_iload_n C dX9_pairAnswer_26 1 rfl ?_
      refine zx_if_lt C 47 dX9_pairAnswer_27 (by decide) (fun q => ?_) (fun q => ?_)
      · replace h := h.1 q
        refine zx_bipush (v := (-2 : Int32)) C dX9_pairAnswer_47 (by decide) ?_
        exact zx_iret C hr dX9_pairAnswer_49 h
      · replace h := h.2 q
        refine zx_iload_n C dX9_pairAnswer_30 1 rfl ?_
        refine zx_aload_n C dX9_pairAnswer_31 0 rfl ?_
        refine zx_getI C hkk.1 fg_X9_393 rfl dX9_pairAnswer_32 ?_
        refine zx_icmp_ge C 47 dX9_pairAnswer_35 (by decide) (fun q => ?_) (fun q => ?_)
        · replace h := h.1 q
          refine zx_bipush (v := (-2 : Int32)) C dX9_pairAnswer_47 (by decide) ?_
          exact zx_iret C hr dX9_pairAnswer_49 h
        · replace h := h.2 q
          refine zx_iload_n C dX9_pairAnswer_38 2 rfl ?_
          refine zx_if_lt C 47 dX9_pairAnswer_39 (by decide) (fun q => ?_) (fun q => ?_)
          · replace h := h.1 q
            refine zx_bipush (v := (-2 : Int32)) C dX9_pairAnswer_47 (by decide) ?_
            exact zx_iret C hr dX9_pairAnswer_49 h
          · replace h := h.2 q
            refine zx_iload_n C dX9_pairAnswer_42 2 rfl ?_
            refine zx_iconst (v := (1 : Int32)) C dX9_pairAnswer_43 (by decide) ?_
            refine zx_icmp_le C 50 dX9_pairAnswer_44 (by decide) (fun q => ?_) (fun q => ?_)
            · replace h := h.1 q
              refine zx_iload_n C dX9_pairAnswer_50 2 rfl ?_
              refine zx_if_ne C 63 dX9_pairAnswer_51 (by decide) (fun q => ?_) (fun q => ?_)
              · replace h := h.1 q
                refine zx_aload_n C dX9_pairAnswer_63 0 rfl ?_
                refine zx_getR C hkk.1 fg_X9_400 rfl (kk + 2) rfl dX9_pairAnswer_64 ?_
                refine zx_iload_n C dX9_pairAnswer_67 1 rfl ?_
                obtain ⟨bd1, h⟩ := h
                refine zx_iald C (a2).toNatClampNeg hkk.2.2 bd1 rfl dX9_pairAnswer_68 ?_
                exact zx_iret C hr dX9_pairAnswer_69 h
              · replace h := h.2 q
                refine zx_aload_n C dX9_pairAnswer_54 0 rfl ?_
                refine zx_getR C hkk.1 fg_X9_398 rfl (kk + 1) rfl dX9_pairAnswer_55 ?_
                refine zx_iload_n C dX9_pairAnswer_58 1 rfl ?_
                obtain ⟨bd2, h⟩ := h
                refine zx_iald C (a2).toNatClampNeg hkk.2.1 bd2 rfl dX9_pairAnswer_59 ?_
                refine zx_goto C 69 dX9_pairAnswer_60 (by decide) ?_
                exact zx_iret C hr dX9_pairAnswer_69 h
            · replace h := h.2 q
              refine zx_bipush (v := (-2 : Int32)) C dX9_pairAnswer_47 (by decide) ?_
              exact zx_iret C hr dX9_pairAnswer_49 h
    · replace h := h.2 q
      refine zx_iload_n C dX9_pairAnswer_12 2 rfl ?_
      refine zx_if_ne C 23 dX9_pairAnswer_13 (by decide) (fun q => ?_) (fun q => ?_)
      · replace h := h.1 q
        refine zx_bipush (v := (-2 : Int32)) C dX9_pairAnswer_23 (by decide) ?_
        exact zx_iret C hr dX9_pairAnswer_25 h
      · replace h := h.2 q
        refine zx_aload_n C dX9_pairAnswer_16 0 rfl ?_
        refine zx_getI C hkk.1 fg_X9_393 rfl dX9_pairAnswer_17 ?_
        refine zx_goto C 25 dX9_pairAnswer_20 (by decide) ?_
        exact zx_iret C hr dX9_pairAnswer_25 h
theorem lk_X9_195 : zLV RX9 195 RX8 yX8_planAt cX8_planAt 2 (some (.object "ChestnutLine$Pairs")) 1 := zLV_of ml_X9_195 im_X8_planAt se_X8_planAt ini_X8 cd_X8_planAt (by decide +kernel)
theorem lk_X9_199 : zLS RX9 199 yX9_pairAnswer cX9_pairAnswer 3 (some .int) 3 := zLS_of ml_X9_199 st_X9_pairAnswer ini_X9 cd_X9_pairAnswer (by decide +kernel)
def w_X9_pull (a1 : Int32) (a2 : Int32) (a3 : Int32) (σ : zSto) (P : Int32 → zSto → Prop) : Prop := (w_X8_planAt 1 a1 σ (fun (q2 : Option Nat) (σ1 : zSto) => ((q2 = none → (w_X9_pairAnswer none a2 a3 σ1 (fun (r5 : Int32) (σ4 : zSto) => P r5 σ4))) ∧ (∀ j3 : Nat, q2 = some j3 → zIsPairs j3 ∧ (w_X9_pairAnswer (some j3) a2 a3 σ1 (fun (r7 : Int32) (σ6 : zSto) => P r7 σ6))))))
set_option maxRecDepth 100000 in
set_option maxHeartbeats 4000000 in
theorem c_X9_pull (l : Launch) (D : va_G) (cy : Nat → ClassId) (g : Nat → Nat) (a1 : Int32) (a2 : Int32) (a3 : Int32)  (σ : zSto) {P : Int32 → zSto → Prop} (h : w_X9_pull a1 a2 a3 σ P) : zMi l yX9_pull cX9_pull 4 (some .int) (zrm 2 43) D cy g [.ref (g 0), .int a1, .int a2, .int a3] σ P := by
  unfold w_X9_pull at h
  refine zm_i RX9 rfl (by decide +kernel) (Nat.le_of_ble_eq_true rfl) ?_
  intro p e s m below meth c C hr
  refine zx_lv (lv' := [(0, .ref (g 0)), (1, .int a1), (2, .int a2), (3, .int a3)]) [0, 1, 2, 3] rfl ?_
  refine zx_aload_n C dX9_pull_0 0 rfl ?_
  refine zx_getR C zs_0 fg_X9_12 rfl 1 rfl dX9_pull_1 ?_
  refine zx_iload_n C dX9_pull_4 1 rfl ?_
  refine zx_cVq C [.int a1] lk_X9_195 (c_X8_planAt l D cy g 1 a1 zIsState_1 σ h) zIsState_1.1 rfl ⟨by decide, by decide⟩ ⟨rfl, rfl⟩ ⟨Nat.zero_le _, Nat.zero_le _⟩ rfl rfl (Nat.le_of_ble_eq_true rfl) dX9_pull_5 (fun σ1 h => ?_) (fun j3 σ1 h => ?_)
  · replace h := h.1 rfl
    refine zx_iload_n C dX9_pull_8 2 rfl ?_
    refine zx_iload_n C dX9_pull_9 3 rfl ?_
    refine zx_cSi C [.null, .int a2, .int a3] lk_X9_199 (c_X9_pairAnswer l D cy g none a2 a3  σ1 h) ⟨by decide, by decide⟩ ⟨rfl, rfl⟩ ⟨Nat.zero_le _, Nat.zero_le _⟩ rfl rfl (Nat.le_of_ble_eq_true rfl) dX9_pull_10 (fun r5 σ4 h => ?_)
    exact zx_iret C hr dX9_pull_13 h
  · obtain ⟨hj3, h⟩ := h.2 j3 rfl
    refine zx_iload_n C dX9_pull_8 2 rfl ?_
    refine zx_iload_n C dX9_pull_9 3 rfl ?_
    refine zx_cSi C [.ref (g j3), .int a2, .int a3] lk_X9_199 (c_X9_pairAnswer l D cy g (some j3) a2 a3  σ1 h) ⟨by decide, by decide⟩ ⟨rfl, rfl⟩ ⟨Nat.zero_le _, Nat.zero_le _⟩ rfl rfl (Nat.le_of_ble_eq_true rfl) dX9_pull_10 (fun r7 σ6 h => ?_)
    exact zx_iret C hr dX9_pull_13 h
theorem lk_X9_203 : zLV RX9 203 RX8 yX8_logAt cX8_logAt 2 (some (.object "ChestnutLine$Pairs")) 1 := zLV_of ml_X9_203 im_X8_logAt se_X8_logAt ini_X8 cd_X8_logAt (by decide +kernel)
def w_X9_seen (a1 : Int32) (a2 : Int32) (a3 : Int32) (σ : zSto) (P : Int32 → zSto → Prop) : Prop := (w_X8_logAt 1 a1 σ (fun (q2 : Option Nat) (σ1 : zSto) => ((q2 = none → (w_X9_pairAnswer none a2 a3 σ1 (fun (r5 : Int32) (σ4 : zSto) => P r5 σ4))) ∧ (∀ j3 : Nat, q2 = some j3 → zIsPairs j3 ∧ (w_X9_pairAnswer (some j3) a2 a3 σ1 (fun (r7 : Int32) (σ6 : zSto) => P r7 σ6))))))
set_option maxRecDepth 100000 in
set_option maxHeartbeats 4000000 in
theorem c_X9_seen (l : Launch) (D : va_G) (cy : Nat → ClassId) (g : Nat → Nat) (a1 : Int32) (a2 : Int32) (a3 : Int32)  (σ : zSto) {P : Int32 → zSto → Prop} (h : w_X9_seen a1 a2 a3 σ P) : zMi l yX9_seen cX9_seen 4 (some .int) (zrm 2 43) D cy g [.ref (g 0), .int a1, .int a2, .int a3] σ P := by
  unfold w_X9_seen at h
  refine zm_i RX9 rfl (by decide +kernel) (Nat.le_of_ble_eq_true rfl) ?_
  intro p e s m below meth c C hr
  refine zx_lv (lv' := [(0, .ref (g 0)), (1, .int a1), (2, .int a2), (3, .int a3)]) [0, 1, 2, 3] rfl ?_
  refine zx_aload_n C dX9_seen_0 0 rfl ?_
  refine zx_getR C zs_0 fg_X9_12 rfl 1 rfl dX9_seen_1 ?_
  refine zx_iload_n C dX9_seen_4 1 rfl ?_
  refine zx_cVq C [.int a1] lk_X9_203 (c_X8_logAt l D cy g 1 a1 zIsState_1 σ h) zIsState_1.1 rfl ⟨by decide, by decide⟩ ⟨rfl, rfl⟩ ⟨Nat.zero_le _, Nat.zero_le _⟩ rfl rfl (Nat.le_of_ble_eq_true rfl) dX9_seen_5 (fun σ1 h => ?_) (fun j3 σ1 h => ?_)
  · replace h := h.1 rfl
    refine zx_iload_n C dX9_seen_8 2 rfl ?_
    refine zx_iload_n C dX9_seen_9 3 rfl ?_
    refine zx_cSi C [.null, .int a2, .int a3] lk_X9_199 (c_X9_pairAnswer l D cy g none a2 a3  σ1 h) ⟨by decide, by decide⟩ ⟨rfl, rfl⟩ ⟨Nat.zero_le _, Nat.zero_le _⟩ rfl rfl (Nat.le_of_ble_eq_true rfl) dX9_seen_10 (fun r5 σ4 h => ?_)
    exact zx_iret C hr dX9_seen_13 h
  · obtain ⟨hj3, h⟩ := h.2 j3 rfl
    refine zx_iload_n C dX9_seen_8 2 rfl ?_
    refine zx_iload_n C dX9_seen_9 3 rfl ?_
    refine zx_cSi C [.ref (g j3), .int a2, .int a3] lk_X9_199 (c_X9_pairAnswer l D cy g (some j3) a2 a3  σ1 h) ⟨by decide, by decide⟩ ⟨rfl, rfl⟩ ⟨Nat.zero_le _, Nat.zero_le _⟩ rfl rfl (Nat.le_of_ble_eq_true rfl) dX9_seen_10 (fun r7 σ6 h => ?_)
    exact zx_iret C hr dX9_seen_13 h
def w_X9_isWeek (a1 : Int32) (σ : zSto) (P : Int32 → zSto → Prop) : Prop := ((a1 < 0 → P (0 : Int32) σ) ∧ (¬ a1 < 0 → (((10 : Int32) ≤ a1 → P (0 : Int32) σ) ∧ (¬ (10 : Int32) ≤ a1 → P (1 : Int32) σ))))
set_option maxRecDepth 100000 in
set_option maxHeartbeats 4000000 in
theorem c_X9_isWeek (l : Launch) (D : va_G) (cy : Nat → ClassId) (g : Nat → Nat) (a1 : Int32)  (σ : zSto) {P : Int32 → zSto → Prop} (h : w_X9_isWeek a1 σ P) : zMb l yX9_isWeek cX9_isWeek 1 (some .boolean) (zrm 0 0) D cy g [.int a1] σ P := by
  unfold w_X9_isWeek at h
  refine zm_b RX9 rfl (by decide +kernel) (Nat.le_of_ble_eq_true rfl) ?_
  intro p e s m below meth c C hr
  refine zx_lv (lv' := [(0, .int a1)]) [0] rfl ?_
  refine zx_iload_n C dX9_isWeek_0 0 rfl ?_
  refine zx_if_lt C 14 dX9_isWeek_1 (by decide) (fun q => ?_) (fun q => ?_)
  · replace h := h.1 q
    refine zx_iconst (v := (0 : Int32)) C dX9_isWeek_14 (by decide) ?_
    exact zx_zret C hr dX9_isWeek_15 (Or.inl rfl) h
  · replace h := h.2 q
    refine zx_iload_n C dX9_isWeek_4 0 rfl ?_
    refine zx_bipush (v := (10 : Int32)) C dX9_isWeek_5 (by decide) ?_
    refine zx_icmp_ge C 14 dX9_isWeek_7 (by decide) (fun q => ?_) (fun q => ?_)
    · replace h := h.1 q
      refine zx_iconst (v := (0 : Int32)) C dX9_isWeek_14 (by decide) ?_
      exact zx_zret C hr dX9_isWeek_15 (Or.inl rfl) h
    · replace h := h.2 q
      refine zx_iconst (v := (1 : Int32)) C dX9_isWeek_10 (by decide) ?_
      refine zx_goto C 15 dX9_isWeek_11 (by decide) ?_
      exact zx_zret C hr dX9_isWeek_15 (Or.inr rfl) h
theorem lk_X9_254 : zLS RX9 254 yX9_isWeek cX9_isWeek 1 (some .boolean) 1 := zLS_of ml_X9_254 st_X9_isWeek ini_X9 cd_X9_isWeek (by decide +kernel)
theorem fg_X9_34 : zFG RX9 34 9 4 := ⟨RX9, TX9, 11, rfl, lay_X9, by decide, fl_X9_34⟩
theorem lk_X9_261 : zLV RX9 261 RX5 yX5_byLaw cX5_byLaw 8 none 5 := zLV_of ml_X9_261 im_X5_byLaw se_X5_byLaw ini_X5 cd_X5_byLaw (by decide +kernel)
def w_X9_ridden (a1 : Int32) (a2 : Int32) (a3 : Int32) (a4 : Int32) (σ : zSto) (P : Option Nat → zSto → Prop) : Prop := (w_X8_lineAt 1 a1 σ (fun (q2 : Option Nat) (σ1 : zSto) => ((q2 = none → P none σ1) ∧ (∀ j3 : Nat, q2 = some j3 → zIsLine j3 ∧ ((a2 < (-1 : Int32) → P none σ1) ∧ (¬ a2 < (-1 : Int32) → (((4 : Int32) ≤ a2 → P none σ1) ∧ (¬ (4 : Int32) ≤ a2 → (w_X9_isWeek a4 σ1 (fun (r5 : Int32) (σ4 : zSto) => (r5 = 0 ∨ r5 = 1) → ((¬ r5 = 0 → (w_X5_byLaw j3 a2 a3 a4 (-1 : Int32) σ4 (fun (σ6 : zSto) => P (some j3) σ6))) ∧ (r5 = 0 → P none σ4))))))))))))
set_option maxRecDepth 100000 in
set_option maxHeartbeats 4000000 in
theorem c_X9_ridden (l : Launch) (D : va_G) (cy : Nat → ClassId) (g : Nat → Nat) (a1 : Int32) (a2 : Int32) (a3 : Int32) (a4 : Int32)  (σ : zSto) {P : Option Nat → zSto → Prop} (h : w_X9_ridden a1 a2 a3 a4 σ P) : zMq l yX9_ridden cX9_ridden 6 (some (.object "ChestnutLine$Line")) (zrm 4 136) D cy g [.ref (g 0), .int a1, .int a2, .int a3, .int a4] σ P := by
  unfold w_X9_ridden at h
  refine zm_q RX9 rfl (by decide +kernel) (Nat.le_of_ble_eq_true rfl) ?_
  intro p e s m below meth c C hr
  refine zx_lv (lv' := [(0, .ref (g 0)), (1, .int a1), (2, .int a2), (3, .int a3), (4, .int a4)]) [0, 1, 2, 3, 4] rfl ?_
  refine zx_aload_n C dX9_ridden_0 0 rfl ?_
  refine zx_getR C zs_0 fg_X9_12 rfl 1 rfl dX9_ridden_1 ?_
  refine zx_iload_n C dX9_ridden_4 1 rfl ?_
  refine zx_cVq C [.int a1] lk_X9_121 (c_X8_lineAt l D cy g 1 a1 zIsState_1 σ h) zIsState_1.1 rfl ⟨by decide, by decide⟩ ⟨rfl, rfl⟩ ⟨Nat.zero_le _, Nat.zero_le _⟩ rfl rfl (Nat.le_of_ble_eq_true rfl) dX9_ridden_5 (fun σ1 h => ?_) (fun j3 σ1 h => ?_)
  · replace h := h.1 rfl
    refine zx_astoreN (lv' := [(5, .null), (0, .ref (g 0)), (1, .int a1), (2, .int a2), (3, .int a3), (4, .int a4)]) C dX9_ridden_8 (by decide) rfl ?_
    refine zx_aloadN C dX9_ridden_10 0 rfl ?_
    refine zx_ifnullN C 33 dX9_ridden_12 (by decide) ?_
    refine zx_null C dX9_ridden_33 ?_
    exact zx_aretN C hr dX9_ridden_34 h
  · obtain ⟨hj3, h⟩ := h.2 j3 rfl
    refine zx_astore (lv' := [(5, .ref (g j3)), (0, .ref (g 0)), (1, .int a1), (2, .int a2), (3, .int a3), (4, .int a4)]) C dX9_ridden_8 (by decide) rfl ?_
    refine zx_aload C dX9_ridden_10 0 rfl ?_
    refine zx_ifnull C dX9_ridden_12 ?_
    refine zx_iload_n C dX9_ridden_15 3 rfl ?_
    refine zx_iconst (v := (-1 : Int32)) C dX9_ridden_16 (by decide) ?_
    refine zx_icmp_lt C 33 dX9_ridden_17 (by decide) (fun q => ?_) (fun q => ?_)
    · replace h := h.1 q
      refine zx_null C dX9_ridden_33 ?_
      exact zx_aretN C hr dX9_ridden_34 h
    · replace h := h.2 q
      refine zx_iload_n C dX9_ridden_20 3 rfl ?_
      refine zx_iconst (v := (4 : Int32)) C dX9_ridden_21 (by decide) ?_
      refine zx_icmp_ge C 33 dX9_ridden_22 (by decide) (fun q => ?_) (fun q => ?_)
      · replace h := h.1 q
        refine zx_null C dX9_ridden_33 ?_
        exact zx_aretN C hr dX9_ridden_34 h
      · replace h := h.2 q
        refine zx_iload C dX9_ridden_25 5 rfl ?_
        refine zx_cSb C [.int a4] lk_X9_254 (c_X9_isWeek l D cy g a4  σ1 h) ⟨by decide, by decide⟩ ⟨rfl, rfl⟩ ⟨Nat.zero_le _, Nat.zero_le _⟩ rfl rfl (Nat.le_of_ble_eq_true rfl) dX9_ridden_27 (fun r5 σ4 hb h => ?_)
        replace h := h hb
        refine zx_if_ne C 35 dX9_ridden_30 (by decide) (fun q => ?_) (fun q => ?_)
        · replace h := h.1 q
          refine zx_aload_n C dX9_ridden_35 1 rfl ?_
          refine zx_getR C zs_0 fg_X9_34 rfl 190 rfl dX9_ridden_36 ?_
          refine zx_aload C dX9_ridden_39 0 rfl ?_
          refine zx_iload_n C dX9_ridden_41 3 rfl ?_
          refine zx_iload_n C dX9_ridden_42 4 rfl ?_
          refine zx_iload C dX9_ridden_43 5 rfl ?_
          refine zx_iconst (v := (-1 : Int32)) C dX9_ridden_45 (by decide) ?_
          refine zx_cVv C [.ref (g j3), .int a2, .int a3, .int a4, .int (-1 : Int32)] lk_X9_261 (c_X5_byLaw l D cy g j3 a2 a3 a4 (-1 : Int32) hj3 σ4 h) zs_190 rfl ⟨by decide, by decide⟩ ⟨rfl, rfl⟩ ⟨Nat.zero_le _, Nat.zero_le _⟩ rfl rfl (Nat.le_of_ble_eq_true rfl) dX9_ridden_46 (fun σ6 h => ?_)
          refine zx_aload C dX9_ridden_49 0 rfl ?_
          exact zx_aret C hr dX9_ridden_51 h
        · replace h := h.2 q
          refine zx_null C dX9_ridden_33 ?_
          exact zx_aretN C hr dX9_ridden_34 h
theorem lk_X9_206 : zLV RX9 206 RX9 yX9_ridden cX9_ridden 6 (some (.object "ChestnutLine$Line")) 4 := zLV_of ml_X9_206 im_X9_ridden se_X9_ridden ini_X9 cd_X9_ridden (by decide +kernel)
theorem lk_X9_210 : zLV RX9 210 RX5 yX5_arrival cX5_arrival 3 (some .int) 2 := zLV_of ml_X9_210 im_X5_arrival se_X5_arrival ini_X5 cd_X5_arrival (by decide +kernel)
theorem fg_X9_217 : zFG RX9 217 5 9 := ⟨RX5, TX5, 12, rfl, lay_X5, by decide, fl_X9_217⟩
theorem fg_X9_220 : zFG RX9 220 5 7 := ⟨RX5, TX5, 12, rfl, lay_X5, by decide, fl_X9_220⟩
theorem fg_X9_223 : zFG RX9 223 5 8 := ⟨RX5, TX5, 12, rfl, lay_X5, by decide, fl_X9_223⟩
theorem fg_X9_226 : zFG RX9 226 5 10 := ⟨RX5, TX5, 12, rfl, lay_X5, by decide, fl_X9_226⟩
theorem lk_X9_229 : zLV RX9 229 RX5 yX5_fines cX5_fines 4 (some .int) 1 := zLV_of ml_X9_229 im_X5_fines se_X5_fines ini_X5 cd_X5_fines (by decide +kernel)
theorem fg_X9_233 : zFG RX9 233 5 11 := ⟨RX5, TX5, 12, rfl, lay_X5, by decide, fl_X9_233⟩
theorem fg_X9_236 : zFG RX9 236 5 6 := ⟨RX5, TX5, 12, rfl, lay_X5, by decide, fl_X9_236⟩
theorem fg_X9_214 : zFG RX9 214 5 2 := ⟨RX5, TX5, 12, rfl, lay_X5, by decide, fl_X9_214⟩
def w_X9_run (a1 : Int32) (a2 : Int32) (a3 : Int32) (a4 : Int32) (a5 : Int32) (σ : zSto) (P : Int32 → zSto → Prop) : Prop := (w_X9_ridden a1 a2 a3 a4 σ (fun (q2 : Option Nat) (σ1 : zSto) => ((q2 = none → P (-2 : Int32) σ1) ∧ (∀ j3 : Nat, q2 = some j3 → zIsLine j3 ∧ ((a5 < (100 : Int32) → ((a5 < (200 : Int32) → ((a5 = 0 → (w_X5_arrival j3 ((σ1.1 j3 11) - (1 : Int32)) σ1 (fun (r5 : Int32) (σ4 : zSto) => P r5 σ4))) ∧ (a5 = 1 → P (σ1.1 190 9) σ1) ∧ (a5 = 2 → P (σ1.1 190 7) σ1) ∧ (a5 = 3 → P (σ1.1 190 8) σ1) ∧ (a5 = 4 → P (σ1.1 190 10) σ1) ∧ (a5 = 5 → (w_X5_fines j3 σ1 (fun (r7 : Int32) (σ6 : zSto) => P r7 σ6))) ∧ (a5 = 6 → P (σ1.1 190 11) σ1) ∧ (a5 = 7 → P (σ1.1 190 6) σ1) ∧ ((a5.toInt < 0 ∨ 7 < a5.toInt) → P (-2 : Int32) σ1))) ∧ (¬ a5 < (200 : Int32) → ((((200 : Int32) + (σ1.1 j3 12)) ≤ a5 → ((a5 = 0 → (w_X5_arrival j3 ((σ1.1 j3 11) - (1 : Int32)) σ1 (fun (r9 : Int32) (σ8 : zSto) => P r9 σ8))) ∧ (a5 = 1 → P (σ1.1 190 9) σ1) ∧ (a5 = 2 → P (σ1.1 190 7) σ1) ∧ (a5 = 3 → P (σ1.1 190 8) σ1) ∧ (a5 = 4 → P (σ1.1 190 10) σ1) ∧ (a5 = 5 → (w_X5_fines j3 σ1 (fun (r11 : Int32) (σ10 : zSto) => P r11 σ10))) ∧ (a5 = 6 → P (σ1.1 190 11) σ1) ∧ (a5 = 7 → P (σ1.1 190 6) σ1) ∧ ((a5.toInt < 0 ∨ 7 < a5.toInt) → P (-2 : Int32) σ1))) ∧ (¬ ((200 : Int32) + (σ1.1 j3 12)) ≤ a5 → (vp_in (a5 - (200 : Int32)) 6 ∧ P (σ1.1 193 ((a5 - (200 : Int32))).toNatClampNeg) σ1)))))) ∧ (¬ a5 < (100 : Int32) → ((((100 : Int32) + (σ1.1 j3 11)) ≤ a5 → ((a5 < (200 : Int32) → ((a5 = 0 → (w_X5_arrival j3 ((σ1.1 j3 11) - (1 : Int32)) σ1 (fun (r14 : Int32) (σ13 : zSto) => P r14 σ13))) ∧ (a5 = 1 → P (σ1.1 190 9) σ1) ∧ (a5 = 2 → P (σ1.1 190 7) σ1) ∧ (a5 = 3 → P (σ1.1 190 8) σ1) ∧ (a5 = 4 → P (σ1.1 190 10) σ1) ∧ (a5 = 5 → (w_X5_fines j3 σ1 (fun (r16 : Int32) (σ15 : zSto) => P r16 σ15))) ∧ (a5 = 6 → P (σ1.1 190 11) σ1) ∧ (a5 = 7 → P (σ1.1 190 6) σ1) ∧ ((a5.toInt < 0 ∨ 7 < a5.toInt) → P (-2 : Int32) σ1))) ∧ (¬ a5 < (200 : Int32) → ((((200 : Int32) + (σ1.1 j3 12)) ≤ a5 → ((a5 = 0 → (w_X5_arrival j3 ((σ1.1 j3 11) - (1 : Int32)) σ1 (fun (r18 : Int32) (σ17 : zSto) => P r18 σ17))) ∧ (a5 = 1 → P (σ1.1 190 9) σ1) ∧ (a5 = 2 → P (σ1.1 190 7) σ1) ∧ (a5 = 3 → P (σ1.1 190 8) σ1) ∧ (a5 = 4 → P (σ1.1 190 10) σ1) ∧ (a5 = 5 → (w_X5_fines j3 σ1 (fun (r20 : Int32) (σ19 : zSto) => P r20 σ19))) ∧ (a5 = 6 → P (σ1.1 190 11) σ1) ∧ (a5 = 7 → P (σ1.1 190 6) σ1) ∧ ((a5.toInt < 0 ∨ 7 < a5.toInt) → P (-2 : Int32) σ1))) ∧ (¬ ((200 : Int32) + (σ1.1 j3 12)) ≤ a5 → (vp_in (a5 - (200 : Int32)) 6 ∧ P (σ1.1 193 ((a5 - (200 : Int32))).toNatClampNeg) σ1)))))) ∧ (¬ ((100 : Int32) + (σ1.1 j3 11)) ≤ a5 → (w_X5_arrival j3 (a5 - (100 : Int32)) σ1 (fun (r23 : Int32) (σ22 : zSto) => P r23 σ22))))))))))
set_option maxRecDepth 100000 in
set_option maxHeartbeats 4000000 in
theorem c_X9_run (l : Launch) (D : va_G) (cy : Nat → ClassId) (g : Nat → Nat) (a1 : Int32) (a2 : Int32) (a3 : Int32) (a4 : Int32) (a5 : Int32)  (σ : zSto) {P : Int32 → zSto → Prop} (h : w_X9_run a1 a2 a3 a4 a5 σ P) : zMi l yX9_run cX9_run 7 (some .int) (zrm 5 161) D cy g [.ref (g 0), .int a1, .int a2, .int a3, .int a4, .int a5] σ P := by
  unfold w_X9_run at h
  refine zm_i RX9 rfl (by decide +kernel) (Nat.le_of_ble_eq_true rfl) ?_
  intro p e s m below meth c C hr
  refine zx_lv (lv' := [(0, .ref (g 0)), (1, .int a1), (2, .int a2), (3, .int a3), (4, .int a4), (5, .int a5)]) [0, 1, 2, 3, 4, 5] rfl ?_
  refine zx_aload_n C dX9_run_0 0 rfl ?_
  refine zx_iload_n C dX9_run_1 1 rfl ?_
  refine zx_iload_n C dX9_run_2 2 rfl ?_
  refine zx_iload_n C dX9_run_3 3 rfl ?_
  refine zx_iload C dX9_run_4 4 rfl ?_
  refine zx_cVq C [.int a1, .int a2, .int a3, .int a4] lk_X9_206 (c_X9_ridden l D cy g a1 a2 a3 a4  σ h) zs_0 rfl ⟨by decide, by decide⟩ ⟨rfl, rfl⟩ ⟨Nat.zero_le _, Nat.zero_le _⟩ rfl rfl (Nat.le_of_ble_eq_true rfl) dX9_run_6 (fun σ1 h => ?_) (fun j3 σ1 h => ?_)
  · replace h := h.1 rfl
    refine zx_astoreN (lv' := [(6, .null), (0, .ref (g 0)), (1, .int a1), (2, .int a2), (3, .int a3), (4, .int a4), (5, .int a5)]) C dX9_run_9 (by decide) rfl ?_
    refine zx_aloadN C dX9_run_11 0 rfl ?_
    refine zx_ifnonnullN C dX9_run_13 ?_
    refine zx_bipush (v := (-2 : Int32)) C dX9_run_16 (by decide) ?_
    exact zx_iret C hr dX9_run_18 h
  · obtain ⟨hj3, h⟩ := h.2 j3 rfl
    refine zx_astore (lv' := [(6, .ref (g j3)), (0, .ref (g 0)), (1, .int a1), (2, .int a2), (3, .int a3), (4, .int a4), (5, .int a5)]) C dX9_run_9 (by decide) rfl ?_
    refine zx_aload C dX9_run_11 0 rfl ?_
    refine zx_ifnonnull C 19 dX9_run_13 (by decide) ?_
    refine zx_iload C dX9_run_19 6 rfl ?_
    refine zx_bipush (v := (100 : Int32)) C dX9_run_21 (by decide) ?_
    refine zx_icmp_lt C 54 dX9_run_23 (by decide) (fun q => ?_) (fun q => ?_)
    · replace h := h.1 q
      refine zx_iload C dX9_run_54 6 rfl ?_
      refine zx_sipush (v := (200 : Int32)) C dX9_run_56 (by decide) ?_
      refine zx_icmp_lt C 91 dX9_run_59 (by decide) (fun q => ?_) (fun q => ?_)
      · replace h := h.1 q
        refine zx_iload C dX9_run_91 6 rfl ?_
        refine zsw (x := a5) 7 (fun q => ?_) (fun i hi q => ?_)
        · replace h := h.2.2.2.2.2.2.2.2 q
          refine zx_tableOut C 215 dX9_run_93 q (by decide) ?_
          refine zx_bipush (v := (-2 : Int32)) C dX9_run_215 (by decide) ?_
          exact zx_iret C hr dX9_run_217 h
        · match i, hi, q with
          | 0, _, q =>
            replace h := h.1 q
            refine zx_tableIn C 140 (0 : Int32) q dX9_run_93 (by decide) (by decide) rfl (by decide) ?_
            refine zx_aload_n C dX9_run_140 1 rfl ?_
            refine zx_getR C zs_0 fg_X9_34 rfl 190 rfl dX9_run_141 ?_
            refine zx_aload C dX9_run_144 0 rfl ?_
            refine zx_aload C dX9_run_146 0 rfl ?_
            refine zx_getI C hj3.1 fg_X9_125 rfl dX9_run_148 ?_
            refine zx_iconst (v := (1 : Int32)) C dX9_run_151 (by decide) ?_
            refine zx_isub C dX9_run_152 ?_
            refine zx_cVi C [.ref (g j3), .int ((σ1.1 j3 11) - (1 : Int32))] lk_X9_210 (c_X5_arrival l D cy g j3 ((σ1.1 j3 11) - (1 : Int32)) hj3 σ1 h) zs_190 rfl ⟨by decide, by decide⟩ ⟨rfl, rfl⟩ ⟨Nat.zero_le _, Nat.zero_le _⟩ rfl rfl (Nat.le_of_ble_eq_true rfl) dX9_run_153 (fun r5 σ4 h => ?_)
            exact zx_iret C hr dX9_run_156 h
          | 1, _, q =>
            replace h := h.2.1 q
            refine zx_tableIn C 157 (1 : Int32) q dX9_run_93 (by decide) (by decide) rfl (by decide) ?_
            refine zx_aload_n C dX9_run_157 1 rfl ?_
            refine zx_getR C zs_0 fg_X9_34 rfl 190 rfl dX9_run_158 ?_
            refine zx_getI C zs_190 fg_X9_217 rfl dX9_run_161 ?_
            exact zx_iret C hr dX9_run_164 h
          | 2, _, q =>
            replace h := h.2.2.1 q
            refine zx_tableIn C 165 (2 : Int32) q dX9_run_93 (by decide) (by decide) rfl (by decide) ?_
            refine zx_aload_n C dX9_run_165 1 rfl ?_
            refine zx_getR C zs_0 fg_X9_34 rfl 190 rfl dX9_run_166 ?_
            refine zx_getI C zs_190 fg_X9_220 rfl dX9_run_169 ?_
            exact zx_iret C hr dX9_run_172 h
          | 3, _, q =>
            replace h := h.2.2.2.1 q
            refine zx_tableIn C 173 (3 : Int32) q dX9_run_93 (by decide) (by decide) rfl (by decide) ?_
            refine zx_aload_n C dX9_run_173 1 rfl ?_
            refine zx_getR C zs_0 fg_X9_34 rfl 190 rfl dX9_run_174 ?_
            refine zx_getI C zs_190 fg_X9_223 rfl dX9_run_177 ?_
            exact zx_iret C hr dX9_run_180 h
          | 4, _, q =>
            replace h := h.2.2.2.2.1 q
            refine zx_tableIn C 181 (4 : Int32) q dX9_run_93 (by decide) (by decide) rfl (by decide) ?_
            refine zx_aload_n C dX9_run_181 1 rfl ?_
            refine zx_getR C zs_0 fg_X9_34 rfl 190 rfl dX9_run_182 ?_
            refine zx_getI C zs_190 fg_X9_226 rfl dX9_run_185 ?_
            exact zx_iret C hr dX9_run_188 h
          | 5, _, q =>
            replace h := h.2.2.2.2.2.1 q
            refine zx_tableIn C 189 (5 : Int32) q dX9_run_93 (by decide) (by decide) rfl (by decide) ?_
            refine zx_aload_n C dX9_run_189 1 rfl ?_
            refine zx_getR C zs_0 fg_X9_34 rfl 190 rfl dX9_run_190 ?_
            refine zx_aload C dX9_run_193 0 rfl ?_
            refine zx_cVi C [.ref (g j3)] lk_X9_229 (c_X5_fines l D cy g j3 hj3 σ1 h) zs_190 rfl ⟨by decide, by decide⟩ ⟨rfl, rfl⟩ ⟨Nat.zero_le _, Nat.zero_le _⟩ rfl rfl (Nat.le_of_ble_eq_true rfl) dX9_run_195 (fun r7 σ6 h => ?_)
            exact zx_iret C hr dX9_run_198 h
          | 6, _, q =>
            replace h := h.2.2.2.2.2.2.1 q
            refine zx_tableIn C 199 (6 : Int32) q dX9_run_93 (by decide) (by decide) rfl (by decide) ?_
            refine zx_aload_n C dX9_run_199 1 rfl ?_
            refine zx_getR C zs_0 fg_X9_34 rfl 190 rfl dX9_run_200 ?_
            refine zx_getI C zs_190 fg_X9_233 rfl dX9_run_203 ?_
            exact zx_iret C hr dX9_run_206 h
          | 7, _, q =>
            replace h := h.2.2.2.2.2.2.2.1 q
            refine zx_tableIn C 207 (7 : Int32) q dX9_run_93 (by decide) (by decide) rfl (by decide) ?_
            refine zx_aload_n C dX9_run_207 1 rfl ?_
            refine zx_getR C zs_0 fg_X9_34 rfl 190 rfl dX9_run_208 ?_
            refine zx_getI C zs_190 fg_X9_236 rfl dX9_run_211 ?_
            exact zx_iret C hr dX9_run_214 h
          | i + 8, hi, _ => exact absurd hi (by omega)
      · replace h := h.2 q
        refine zx_iload C dX9_run_62 6 rfl ?_
        refine zx_sipush (v := (200 : Int32)) C dX9_run_64 (by decide) ?_
        refine zx_aload C dX9_run_67 0 rfl ?_
        refine zx_getI C hj3.1 fg_X9_128 rfl dX9_run_69 ?_
        refine zx_iadd C dX9_run_72 ?_
        refine zx_icmp_ge C 91 dX9_run_73 (by decide) (fun q => ?_) (fun q => ?_)
        · replace h := h.1 q
          refine zx_iload C dX9_run_91 6 rfl ?_
          refine zsw (x := a5) 7 (fun q => ?_) (fun i hi q => ?_)
          · replace h := h.2.2.2.2.2.2.2.2 q
            refine zx_tableOut C 215 dX9_run_93 q (by decide) ?_
            refine zx_bipush (v := (-2 : Int32)) C dX9_run_215 (by decide) ?_
            exact zx_iret C hr dX9_run_217 h
          · match i, hi, q with
            | 0, _, q =>
              replace h := h.1 q
              refine zx_tableIn C 140 (0 : Int32) q dX9_run_93 (by decide) (by decide) rfl (by decide) ?_
              refine zx_aload_n C dX9_run_140 1 rfl ?_
              refine zx_getR C zs_0 fg_X9_34 rfl 190 rfl dX9_run_141 ?_
              refine zx_aload C dX9_run_144 0 rfl ?_
              refine zx_aload C dX9_run_146 0 rfl ?_
              refine zx_getI C hj3.1 fg_X9_125 rfl dX9_run_148 ?_
              refine zx_iconst (v := (1 : Int32)) C dX9_run_151 (by decide) ?_
              refine zx_isub C dX9_run_152 ?_
              refine zx_cVi C [.ref (g j3), .int ((σ1.1 j3 11) - (1 : Int32))] lk_X9_210 (c_X5_arrival l D cy g j3 ((σ1.1 j3 11) - (1 : Int32)) hj3 σ1 h) zs_190 rfl ⟨by decide, by decide⟩ ⟨rfl, rfl⟩ ⟨Nat.zero_le _, Nat.zero_le _⟩ rfl rfl (Nat.le_of_ble_eq_true rfl) dX9_run_153 (fun r9 σ8 h => ?_)
              exact zx_iret C hr dX9_run_156 h
            | 1, _, q =>
              replace h := h.2.1 q
              refine zx_tableIn C 157 (1 : Int32) q dX9_run_93 (by decide) (by decide) rfl (by decide) ?_
              refine zx_aload_n C dX9_run_157 1 rfl ?_
              refine zx_getR C zs_0 fg_X9_34 rfl 190 rfl dX9_run_158 ?_
              refine zx_getI C zs_190 fg_X9_217 rfl dX9_run_161 ?_
              exact zx_iret C hr dX9_run_164 h
            | 2, _, q =>
              replace h := h.2.2.1 q
              refine zx_tableIn C 165 (2 : Int32) q dX9_run_93 (by decide) (by decide) rfl (by decide) ?_
              refine zx_aload_n C dX9_run_165 1 rfl ?_
              refine zx_getR C zs_0 fg_X9_34 rfl 190 rfl dX9_run_166 ?_
              refine zx_getI C zs_190 fg_X9_220 rfl dX9_run_169 ?_
              exact zx_iret C hr dX9_run_172 h
            | 3, _, q =>
              replace h := h.2.2.2.1 q
              refine zx_tableIn C 173 (3 : Int32) q dX9_run_93 (by decide) (by decide) rfl (by decide) ?_
              refine zx_aload_n C dX9_run_173 1 rfl ?_
              refine zx_getR C zs_0 fg_X9_34 rfl 190 rfl dX9_run_174 ?_
              refine zx_getI C zs_190 fg_X9_223 rfl dX9_run_177 ?_
              exact zx_iret C hr dX9_run_180 h
            | 4, _, q =>
              replace h := h.2.2.2.2.1 q
              refine zx_tableIn C 181 (4 : Int32) q dX9_run_93 (by decide) (by decide) rfl (by decide) ?_
              refine zx_aload_n C dX9_run_181 1 rfl ?_
              refine zx_getR C zs_0 fg_X9_34 rfl 190 rfl dX9_run_182 ?_
              refine zx_getI C zs_190 fg_X9_226 rfl dX9_run_185 ?_
              exact zx_iret C hr dX9_run_188 h
            | 5, _, q =>
              replace h := h.2.2.2.2.2.1 q
              refine zx_tableIn C 189 (5 : Int32) q dX9_run_93 (by decide) (by decide) rfl (by decide) ?_
              refine zx_aload_n C dX9_run_189 1 rfl ?_
              refine zx_getR C zs_0 fg_X9_34 rfl 190 rfl dX9_run_190 ?_
              refine zx_aload C dX9_run_193 0 rfl ?_
              refine zx_cVi C [.ref (g j3)] lk_X9_229 (c_X5_fines l D cy g j3 hj3 σ1 h) zs_190 rfl ⟨by decide, by decide⟩ ⟨rfl, rfl⟩ ⟨Nat.zero_le _, Nat.zero_le _⟩ rfl rfl (Nat.le_of_ble_eq_true rfl) dX9_run_195 (fun r11 σ10 h => ?_)
              exact zx_iret C hr dX9_run_198 h
            | 6, _, q =>
              replace h := h.2.2.2.2.2.2.1 q
              refine zx_tableIn C 199 (6 : Int32) q dX9_run_93 (by decide) (by decide) rfl (by decide) ?_
              refine zx_aload_n C dX9_run_199 1 rfl ?_
              refine zx_getR C zs_0 fg_X9_34 rfl 190 rfl dX9_run_200 ?_
              refine zx_getI C zs_190 fg_X9_233 rfl dX9_run_203 ?_
              exact zx_iret C hr dX9_run_206 h
            | 7, _, q =>
              replace h := h.2.2.2.2.2.2.2.1 q
              refine zx_tableIn C 207 (7 : Int32) q dX9_run_93 (by decide) (by decide) rfl (by decide) ?_
              refine zx_aload_n C dX9_run_207 1 rfl ?_
              refine zx_getR C zs_0 fg_X9_34 rfl 190 rfl dX9_run_208 ?_
              refine zx_getI C zs_190 fg_X9_236 rfl dX9_run_211 ?_
              exact zx_iret C hr dX9_run_214 h
            | i + 8, hi, _ => exact absurd hi (by omega)
        · replace h := h.2 q
          refine zx_aload_n C dX9_run_76 1 rfl ?_
          refine zx_getR C zs_0 fg_X9_34 rfl 190 rfl dX9_run_77 ?_
          refine zx_getR C zs_190 fg_X9_214 rfl 193 rfl dX9_run_80 ?_
          refine zx_iload C dX9_run_83 6 rfl ?_
          refine zx_sipush (v := (200 : Int32)) C dX9_run_85 (by decide) ?_
          refine zx_isub C dX9_run_88 ?_
          obtain ⟨bd12, h⟩ := h
          refine zx_iald C ((a5 - (200 : Int32))).toNatClampNeg zs_193 bd12 rfl dX9_run_89 ?_
          exact zx_iret C hr dX9_run_90 h
    · replace h := h.2 q
      refine zx_iload C dX9_run_26 6 rfl ?_
      refine zx_bipush (v := (100 : Int32)) C dX9_run_28 (by decide) ?_
      refine zx_aload C dX9_run_30 0 rfl ?_
      refine zx_getI C hj3.1 fg_X9_125 rfl dX9_run_32 ?_
      refine zx_iadd C dX9_run_35 ?_
      refine zx_icmp_ge C 54 dX9_run_36 (by decide) (fun q => ?_) (fun q => ?_)
      · replace h := h.1 q
        refine zx_iload C dX9_run_54 6 rfl ?_
        refine zx_sipush (v := (200 : Int32)) C dX9_run_56 (by decide) ?_
        refine zx_icmp_lt C 91 dX9_run_59 (by decide) (fun q => ?_) (fun q => ?_)
        · replace h := h.1 q
          refine zx_iload C dX9_run_91 6 rfl ?_
          refine zsw (x := a5) 7 (fun q => ?_) (fun i hi q => ?_)
          · replace h := h.2.2.2.2.2.2.2.2 q
            refine zx_tableOut C 215 dX9_run_93 q (by decide) ?_
            refine zx_bipush (v := (-2 : Int32)) C dX9_run_215 (by decide) ?_
            exact zx_iret C hr dX9_run_217 h
          · match i, hi, q with
            | 0, _, q =>
              replace h := h.1 q
              refine zx_tableIn C 140 (0 : Int32) q dX9_run_93 (by decide) (by decide) rfl (by decide) ?_
              refine zx_aload_n C dX9_run_140 1 rfl ?_
              refine zx_getR C zs_0 fg_X9_34 rfl 190 rfl dX9_run_141 ?_
              refine zx_aload C dX9_run_144 0 rfl ?_
              refine zx_aload C dX9_run_146 0 rfl ?_
              refine zx_getI C hj3.1 fg_X9_125 rfl dX9_run_148 ?_
              refine zx_iconst (v := (1 : Int32)) C dX9_run_151 (by decide) ?_
              refine zx_isub C dX9_run_152 ?_
              refine zx_cVi C [.ref (g j3), .int ((σ1.1 j3 11) - (1 : Int32))] lk_X9_210 (c_X5_arrival l D cy g j3 ((σ1.1 j3 11) - (1 : Int32)) hj3 σ1 h) zs_190 rfl ⟨by decide, by decide⟩ ⟨rfl, rfl⟩ ⟨Nat.zero_le _, Nat.zero_le _⟩ rfl rfl (Nat.le_of_ble_eq_true rfl) dX9_run_153 (fun r14 σ13 h => ?_)
              exact zx_iret C hr dX9_run_156 h
            | 1, _, q =>
              replace h := h.2.1 q
              refine zx_tableIn C 157 (1 : Int32) q dX9_run_93 (by decide) (by decide) rfl (by decide) ?_
              refine zx_aload_n C dX9_run_157 1 rfl ?_
              refine zx_getR C zs_0 fg_X9_34 rfl 190 rfl dX9_run_158 ?_
              refine zx_getI C zs_190 fg_X9_217 rfl dX9_run_161 ?_
              exact zx_iret C hr dX9_run_164 h
            | 2, _, q =>
              replace h := h.2.2.1 q
              refine zx_tableIn C 165 (2 : Int32) q dX9_run_93 (by decide) (by decide) rfl (by decide) ?_
              refine zx_aload_n C dX9_run_165 1 rfl ?_
              refine zx_getR C zs_0 fg_X9_34 rfl 190 rfl dX9_run_166 ?_
              refine zx_getI C zs_190 fg_X9_220 rfl dX9_run_169 ?_
              exact zx_iret C hr dX9_run_172 h
            | 3, _, q =>
              replace h := h.2.2.2.1 q
              refine zx_tableIn C 173 (3 : Int32) q dX9_run_93 (by decide) (by decide) rfl (by decide) ?_
              refine zx_aload_n C dX9_run_173 1 rfl ?_
              refine zx_getR C zs_0 fg_X9_34 rfl 190 rfl dX9_run_174 ?_
              refine zx_getI C zs_190 fg_X9_223 rfl dX9_run_177 ?_
              exact zx_iret C hr dX9_run_180 h
            | 4, _, q =>
              replace h := h.2.2.2.2.1 q
              refine zx_tableIn C 181 (4 : Int32) q dX9_run_93 (by decide) (by decide) rfl (by decide) ?_
              refine zx_aload_n C dX9_run_181 1 rfl ?_
              refine zx_getR C zs_0 fg_X9_34 rfl 190 rfl dX9_run_182 ?_
              refine zx_getI C zs_190 fg_X9_226 rfl dX9_run_185 ?_
              exact zx_iret C hr dX9_run_188 h
            | 5, _, q =>
              replace h := h.2.2.2.2.2.1 q
              refine zx_tableIn C 189 (5 : Int32) q dX9_run_93 (by decide) (by decide) rfl (by decide) ?_
              refine zx_aload_n C dX9_run_189 1 rfl ?_
              refine zx_getR C zs_0 fg_X9_34 rfl 190 rfl dX9_run_190 ?_
              refine zx_aload C dX9_run_193 0 rfl ?_
              refine zx_cVi C [.ref (g j3)] lk_X9_229 (c_X5_fines l D cy g j3 hj3 σ1 h) zs_190 rfl ⟨by decide, by decide⟩ ⟨rfl, rfl⟩ ⟨Nat.zero_le _, Nat.zero_le _⟩ rfl rfl (Nat.le_of_ble_eq_true rfl) dX9_run_195 (fun r16 σ15 h => ?_)
              exact zx_iret C hr dX9_run_198 h
            | 6, _, q =>
              replace h := h.2.2.2.2.2.2.1 q
              refine zx_tableIn C 199 (6 : Int32) q dX9_run_93 (by decide) (by decide) rfl (by decide) ?_
              refine zx_aload_n C dX9_run_199 1 rfl ?_
              refine zx_getR C zs_0 fg_X9_34 rfl 190 rfl dX9_run_200 ?_
              refine zx_getI C zs_190 fg_X9_233 rfl dX9_run_203 ?_
              exact zx_iret C hr dX9_run_206 h
            | 7, _, q =>
              replace h := h.2.2.2.2.2.2.2.1 q
              refine zx_tableIn C 207 (7 : Int32) q dX9_run_93 (by decide) (by decide) rfl (by decide) ?_
              refine zx_aload_n C dX9_run_207 1 rfl ?_
              refine zx_getR C zs_0 fg_X9_34 rfl 190 rfl dX9_run_208 ?_
              refine zx_getI C zs_190 fg_X9_236 rfl dX9_run_211 ?_
              exact zx_iret C hr dX9_run_214 h
            | i + 8, hi, _ => exact absurd hi (by omega)
        · replace h := h.2 q
          refine zx_iload C dX9_run_62 6 rfl ?_
          refine zx_sipush (v := (200 : Int32)) C dX9_run_64 (by decide) ?_
          refine zx_aload C dX9_run_67 0 rfl ?_
          refine zx_getI C hj3.1 fg_X9_128 rfl dX9_run_69 ?_
          refine zx_iadd C dX9_run_72 ?_
          refine zx_icmp_ge C 91 dX9_run_73 (by decide) (fun q => ?_) (fun q => ?_)
          · replace h := h.1 q
            refine zx_iload C dX9_run_91 6 rfl ?_
            refine zsw (x := a5) 7 (fun q => ?_) (fun i hi q => ?_)
            · replace h := h.2.2.2.2.2.2.2.2 q
              refine zx_tableOut C 215 dX9_run_93 q (by decide) ?_
              refine zx_bipush (v := (-2 : Int32)) C dX9_run_215 (by decide) ?_
              exact zx_iret C hr dX9_run_217 h
            · match i, hi, q with
              | 0, _, q =>
                replace h := h.1 q
                refine zx_tableIn C 140 (0 : Int32) q dX9_run_93 (by decide) (by decide) rfl (by decide) ?_
                refine zx_aload_n C dX9_run_140 1 rfl ?_
                refine zx_getR C zs_0 fg_X9_34 rfl 190 rfl dX9_run_141 ?_
                refine zx_aload C dX9_run_144 0 rfl ?_
                refine zx_aload C dX9_run_146 0 rfl ?_
                refine zx_getI C hj3.1 fg_X9_125 rfl dX9_run_148 ?_
                refine zx_iconst (v := (1 : Int32)) C dX9_run_151 (by decide) ?_
                refine zx_isub C dX9_run_152 ?_
                refine zx_cVi C [.ref (g j3), .int ((σ1.1 j3 11) - (1 : Int32))] lk_X9_210 (c_X5_arrival l D cy g j3 ((σ1.1 j3 11) - (1 : Int32)) hj3 σ1 h) zs_190 rfl ⟨by decide, by decide⟩ ⟨rfl, rfl⟩ ⟨Nat.zero_le _, Nat.zero_le _⟩ rfl rfl (Nat.le_of_ble_eq_true rfl) dX9_run_153 (fun r18 σ17 h => ?_)
                exact zx_iret C hr dX9_run_156 h
              | 1, _, q =>
                replace h := h.2.1 q
                refine zx_tableIn C 157 (1 : Int32) q dX9_run_93 (by decide) (by decide) rfl (by decide) ?_
                refine zx_aload_n C dX9_run_157 1 rfl ?_
                refine zx_getR C zs_0 fg_X9_34 rfl 190 rfl dX9_run_158 ?_
                refine zx_getI C zs_190 fg_X9_217 rfl dX9_run_161 ?_
                exact zx_iret C hr dX9_run_164 h
              | 2, _, q =>
                replace h := h.2.2.1 q
                refine zx_tableIn C 165 (2 : Int32) q dX9_run_93 (by decide) (by decide) rfl (by decide) ?_
                refine zx_aload_n C dX9_run_165 1 rfl ?_
                refine zx_getR C zs_0 fg_X9_34 rfl 190 rfl dX9_run_166 ?_
                refine zx_getI C zs_190 fg_X9_220 rfl dX9_run_169 ?_
                exact zx_iret C hr dX9_run_172 h
              | 3, _, q =>
                replace h := h.2.2.2.1 q
                refine zx_tableIn C 173 (3 : Int32) q dX9_run_93 (by decide) (by decide) rfl (by decide) ?_
                refine zx_aload_n C dX9_run_173 1 rfl ?_
                refine zx_getR C zs_0 fg_X9_34 rfl 190 rfl dX9_run_174 ?_
                refine zx_getI C zs_190 fg_X9_223 rfl dX9_run_177 ?_
                exact zx_iret C hr dX9_run_180 h
              | 4, _, q =>
                replace h := h.2.2.2.2.1 q
                refine zx_tableIn C 181 (4 : Int32) q dX9_run_93 (by decide) (by decide) rfl (by decide) ?_
                refine zx_aload_n C dX9_run_181 1 rfl ?_
                refine zx_getR C zs_0 fg_X9_34 rfl 190 rfl dX9_run_182 ?_
                refine zx_getI C zs_190 fg_X9_226 rfl dX9_run_185 ?_
                exact zx_iret C hr dX9_run_188 h
              | 5, _, q =>
                replace h := h.2.2.2.2.2.1 q
                refine zx_tableIn C 189 (5 : Int32) q dX9_run_93 (by decide) (by decide) rfl (by decide) ?_
                refine zx_aload_n C dX9_run_189 1 rfl ?_
                refine zx_getR C zs_0 fg_X9_34 rfl 190 rfl dX9_run_190 ?_
                refine zx_aload C dX9_run_193 0 rfl ?_
                refine zx_cVi C [.ref (g j3)] lk_X9_229 (c_X5_fines l D cy g j3 hj3 σ1 h) zs_190 rfl ⟨by decide, by decide⟩ ⟨rfl, rfl⟩ ⟨Nat.zero_le _, Nat.zero_le _⟩ rfl rfl (Nat.le_of_ble_eq_true rfl) dX9_run_195 (fun r20 σ19 h => ?_)
                exact zx_iret C hr dX9_run_198 h
              | 6, _, q =>
                replace h := h.2.2.2.2.2.2.1 q
                refine zx_tableIn C 199 (6 : Int32) q dX9_run_93 (by decide) (by decide) rfl (by decide) ?_
                refine zx_aload_n C dX9_run_199 1 rfl ?_
                refine zx_getR C zs_0 fg_X9_34 rfl 190 rfl dX9_run_200 ?_
                refine zx_getI C zs_190 fg_X9_233 rfl dX9_run_203 ?_
                exact zx_iret C hr dX9_run_206 h
              | 7, _, q =>
                replace h := h.2.2.2.2.2.2.2.1 q
                refine zx_tableIn C 207 (7 : Int32) q dX9_run_93 (by decide) (by decide) rfl (by decide) ?_
                refine zx_aload_n C dX9_run_207 1 rfl ?_
                refine zx_getR C zs_0 fg_X9_34 rfl 190 rfl dX9_run_208 ?_
                refine zx_getI C zs_190 fg_X9_236 rfl dX9_run_211 ?_
                exact zx_iret C hr dX9_run_214 h
              | i + 8, hi, _ => exact absurd hi (by omega)
          · replace h := h.2 q
            refine zx_aload_n C dX9_run_76 1 rfl ?_
            refine zx_getR C zs_0 fg_X9_34 rfl 190 rfl dX9_run_77 ?_
            refine zx_getR C zs_190 fg_X9_214 rfl 193 rfl dX9_run_80 ?_
            refine zx_iload C dX9_run_83 6 rfl ?_
            refine zx_sipush (v := (200 : Int32)) C dX9_run_85 (by decide) ?_
            refine zx_isub C dX9_run_88 ?_
            obtain ⟨bd21, h⟩ := h
            refine zx_iald C ((a5 - (200 : Int32))).toNatClampNeg zs_193 bd21 rfl dX9_run_89 ?_
            exact zx_iret C hr dX9_run_90 h
      · replace h := h.2 q
        refine zx_aload_n C dX9_run_39 1 rfl ?_
        refine zx_getR C zs_0 fg_X9_34 rfl 190 rfl dX9_run_40 ?_
        refine zx_aload C dX9_run_43 0 rfl ?_
        refine zx_iload C dX9_run_45 6 rfl ?_
        refine zx_bipush (v := (100 : Int32)) C dX9_run_47 (by decide) ?_
        refine zx_isub C dX9_run_49 ?_
        refine zx_cVi C [.ref (g j3), .int (a5 - (100 : Int32))] lk_X9_210 (c_X5_arrival l D cy g j3 (a5 - (100 : Int32)) hj3 σ1 h) zs_190 rfl ⟨by decide, by decide⟩ ⟨rfl, rfl⟩ ⟨Nat.zero_le _, Nat.zero_le _⟩ rfl rfl (Nat.le_of_ble_eq_true rfl) dX9_run_50 (fun r23 σ22 h => ?_)
        exact zx_iret C hr dX9_run_53 h
theorem fg_X9_239 : zFG RX9 239 5 0 := ⟨RX5, TX5, 12, rfl, lay_X5, by decide, fl_X9_239⟩
def w_X9_who (a1 : Int32) (a2 : Int32) (a3 : Int32) (a4 : Int32) (a5 : Int32) (σ : zSto) (P : Int32 → zSto → Prop) : Prop := (w_X9_ridden a1 a2 a3 a4 σ (fun (q2 : Option Nat) (σ1 : zSto) => ((q2 = none → P (-2 : Int32) σ1) ∧ (∀ j3 : Nat, q2 = some j3 → zIsLine j3 ∧ (w_X0_hasPost j3 a5 σ1 (fun (r5 : Int32) (σ4 : zSto) => (r5 = 0 ∨ r5 = 1) → ((¬ r5 = 0 → (vp_in a5 16 ∧ P (σ4.1 191 (a5).toNatClampNeg) σ4)) ∧ (r5 = 0 → P (-2 : Int32) σ4))))))))
set_option maxRecDepth 100000 in
set_option maxHeartbeats 4000000 in
theorem c_X9_who (l : Launch) (D : va_G) (cy : Nat → ClassId) (g : Nat → Nat) (a1 : Int32) (a2 : Int32) (a3 : Int32) (a4 : Int32) (a5 : Int32)  (σ : zSto) {P : Int32 → zSto → Prop} (h : w_X9_who a1 a2 a3 a4 a5 σ P) : zMi l yX9_who cX9_who 7 (some .int) (zrm 5 161) D cy g [.ref (g 0), .int a1, .int a2, .int a3, .int a4, .int a5] σ P := by
  unfold w_X9_who at h
  refine zm_i RX9 rfl (by decide +kernel) (Nat.le_of_ble_eq_true rfl) ?_
  intro p e s m below meth c C hr
  refine zx_lv (lv' := [(0, .ref (g 0)), (1, .int a1), (2, .int a2), (3, .int a3), (4, .int a4), (5, .int a5)]) [0, 1, 2, 3, 4, 5] rfl ?_
  refine zx_aload_n C dX9_who_0 0 rfl ?_
  refine zx_iload_n C dX9_who_1 1 rfl ?_
  refine zx_iload_n C dX9_who_2 2 rfl ?_
  refine zx_iload_n C dX9_who_3 3 rfl ?_
  refine zx_iload C dX9_who_4 4 rfl ?_
  refine zx_cVq C [.int a1, .int a2, .int a3, .int a4] lk_X9_206 (c_X9_ridden l D cy g a1 a2 a3 a4  σ h) zs_0 rfl ⟨by decide, by decide⟩ ⟨rfl, rfl⟩ ⟨Nat.zero_le _, Nat.zero_le _⟩ rfl rfl (Nat.le_of_ble_eq_true rfl) dX9_who_6 (fun σ1 h => ?_) (fun j3 σ1 h => ?_)
  · replace h := h.1 rfl
    refine zx_astoreN (lv' := [(6, .null), (0, .ref (g 0)), (1, .int a1), (2, .int a2), (3, .int a3), (4, .int a4), (5, .int a5)]) C dX9_who_9 (by decide) rfl ?_
    refine zx_aloadN C dX9_who_11 0 rfl ?_
    refine zx_ifnullN C 26 dX9_who_13 (by decide) ?_
    refine zx_bipush (v := (-2 : Int32)) C dX9_who_26 (by decide) ?_
    refine zx_goto C 41 dX9_who_28 (by decide) ?_
    exact zx_iret C hr dX9_who_41 h
  · obtain ⟨hj3, h⟩ := h.2 j3 rfl
    refine zx_astore (lv' := [(6, .ref (g j3)), (0, .ref (g 0)), (1, .int a1), (2, .int a2), (3, .int a3), (4, .int a4), (5, .int a5)]) C dX9_who_9 (by decide) rfl ?_
    refine zx_aload C dX9_who_11 0 rfl ?_
    refine zx_ifnull C dX9_who_13 ?_
    refine zx_aload C dX9_who_16 0 rfl ?_
    refine zx_iload C dX9_who_18 6 rfl ?_
    refine zx_cVb C [.int a5] lk_X9_150 (c_X0_hasPost l D cy g j3 a5 hj3 σ1 h) hj3.1 rfl ⟨by decide, by decide⟩ ⟨rfl, rfl⟩ ⟨Nat.zero_le _, Nat.zero_le _⟩ rfl rfl (Nat.le_of_ble_eq_true rfl) dX9_who_20 (fun r5 σ4 hb h => ?_)
    replace h := h hb
    refine zx_if_ne C 31 dX9_who_23 (by decide) (fun q => ?_) (fun q => ?_)
    · replace h := h.1 q
      refine zx_aload_n C dX9_who_31 1 rfl ?_
      refine zx_getR C zs_0 fg_X9_34 rfl 190 rfl dX9_who_32 ?_
      refine zx_getR C zs_190 fg_X9_239 rfl 191 rfl dX9_who_35 ?_
      refine zx_iload C dX9_who_38 6 rfl ?_
      obtain ⟨bd6, h⟩ := h
      refine zx_iald C (a5).toNatClampNeg zs_191 bd6 rfl dX9_who_40 ?_
      exact zx_iret C hr dX9_who_41 h
    · replace h := h.2 q
      refine zx_bipush (v := (-2 : Int32)) C dX9_who_26 (by decide) ?_
      refine zx_goto C 41 dX9_who_28 (by decide) ?_
      exact zx_iret C hr dX9_who_41 h
