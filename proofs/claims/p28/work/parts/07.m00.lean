theorem fp_X0_45 : zFP RX0 45 0 11 .int := ⟨RX0, TX0, 18, tyX0, rfl, lay_X0, by decide, fl_X0_45, tyX0_ok, nmX0, rfl, by decide +kernel⟩
theorem fp_X0_49 : zFP RX0 49 0 12 .int := ⟨RX0, TX0, 18, tyX0, rfl, lay_X0, by decide, fl_X0_49, tyX0_ok, nmX0, rfl, by decide +kernel⟩
theorem fp_X0_52 : zFP RX0 52 0 13 .int := ⟨RX0, TX0, 18, tyX0, rfl, lay_X0, by decide, fl_X0_52, tyX0_ok, nmX0, rfl, by decide +kernel⟩
theorem fp_X0_55 : zFP RX0 55 0 14 .int := ⟨RX0, TX0, 18, tyX0, rfl, lay_X0, by decide, fl_X0_55, tyX0_ok, nmX0, rfl, by decide +kernel⟩
theorem fp_X0_58 : zFP RX0 58 0 15 .int := ⟨RX0, TX0, 18, tyX0, rfl, lay_X0, by decide, fl_X0_58, tyX0_ok, nmX0, rfl, by decide +kernel⟩
theorem fp_X0_61 : zFP RX0 61 0 16 .int := ⟨RX0, TX0, 18, tyX0, rfl, lay_X0, by decide, fl_X0_61, tyX0_ok, nmX0, rfl, by decide +kernel⟩
theorem fp_X0_64 : zFP RX0 64 0 17 .int := ⟨RX0, TX0, 18, tyX0, rfl, lay_X0, by decide, fl_X0_64, tyX0_ok, nmX0, rfl, by decide +kernel⟩
theorem fg_X0_21 : zFG RX0 21 0 3 := ⟨RX0, TX0, 18, rfl, lay_X0, by decide, fl_X0_21⟩
theorem fg_X0_24 : zFG RX0 24 0 4 := ⟨RX0, TX0, 18, rfl, lay_X0, by decide, fl_X0_24⟩
def w_X0_clear_37 (q_0 : Nat) (P : zSto → Prop)  : Nat → Int32 → zSto → Prop
  | 0, _, _ => False
  | n + 1, x_1, σ => (((16 : Int32) ≤ x_1 → P σ) ∧ (¬ (16 : Int32) ≤ x_1 → (vp_in x_1 16 ∧ (∀ σ9 : zSto, σ9 = zI σ (q_0 + 4) (x_1).toNatClampNeg (0 : Int32) → (vp_in x_1 16 ∧ (∀ σ11 : zSto, σ11 = zI σ9 (q_0 + 5) (x_1).toNatClampNeg (-1 : Int32) → (∀ x12 : Int32, x12 = (x_1 + (1 : Int32)) → w_X0_clear_37 q_0 P n x12 σ11)))))))
def w_X0_clear (t : Nat) (σ : zSto) (P : zSto → Prop) : Prop := (∀ σ1 : zSto, σ1 = zI σ t 11 (0 : Int32) → (∀ σ2 : zSto, σ2 = zI σ1 t 12 (0 : Int32) → (∀ σ3 : zSto, σ3 = zI σ2 t 13 (2 : Int32) → (∀ σ4 : zSto, σ4 = zI σ3 t 14 (0 : Int32) → (∀ σ5 : zSto, σ5 = zI σ4 t 15 (0 : Int32) → (∀ σ6 : zSto, σ6 = zI σ5 t 16 (0 : Int32) → (∀ σ7 : zSto, σ7 = zI σ6 t 17 (-1 : Int32) → (∃ n : Nat, w_X0_clear_37 t P  n (0 : Int32) σ7))))))))
set_option maxRecDepth 100000 in
set_option maxHeartbeats 4000000 in
theorem k_X0_clear_37 {p : Program} {l : Launch} {e : Env} {s : State} {m : MethodId} {args : Array Value} {below : List Frame} {meth : Method} {c : Code} {D : va_G} {cy : Nat → ClassId} {g : Nat → Nat} (C : zC p s m args meth c cX0_clear RX0 2 D cy g) (hr : meth.sig.returnType = none) {P : zSto → Prop} (q_0 : Nat) (hq_0 : zIsLine q_0)   : ∀ (n : Nat) (x_1 : Int32) (σ : zSto), w_X0_clear_37 q_0 P n x_1 σ → zX p l e (zrm 0 0) s m args below meth c 0 0 (zQv P below args s D cy g) 2 D cy g 37 [(0, .ref (g q_0)), (1, .int x_1)] [] σ := by
  intro n
  induction n with
  | zero => intro x_1 σ h; exact h.elim
  | succ n ih =>
    intro x_1 σ h
    unfold w_X0_clear_37 at h
    refine zx_iload_n C dX0_clear_37 1 rfl ?_
    refine zx_bipush (v := (16 : Int32)) C dX0_clear_38 (by decide) ?_
    refine zx_icmp_ge C 63 dX0_clear_40 (by decide) (fun q => ?_) (fun q => ?_)
    · replace h := h.1 q
      exact zx_vret C hr dX0_clear_63 h
    · replace h := h.2 q
      refine zx_aload_n C dX0_clear_43 0 rfl ?_
      refine zx_getR C hq_0.1 fg_X0_21 rfl (q_0 + 4) rfl dX0_clear_44 ?_
      refine zx_iload_n C dX0_clear_47 1 rfl ?_
      refine zx_iconst (v := (0 : Int32)) C dX0_clear_48 (by decide) ?_
      obtain ⟨bd8, h⟩ := h
      refine zx_iast C (x_1).toNatClampNeg hq_0.2.2.2.2.1 bd8 rfl dX0_clear_49 ?_
      refine zx_sig (fun σ9 eσ9 => ?_)
      replace h := h σ9 eσ9
      refine zx_aload_n C dX0_clear_50 0 rfl ?_
      refine zx_getR C hq_0.1 fg_X0_24 rfl (q_0 + 5) rfl dX0_clear_51 ?_
      refine zx_iload_n C dX0_clear_54 1 rfl ?_
      refine zx_iconst (v := (-1 : Int32)) C dX0_clear_55 (by decide) ?_
      obtain ⟨bd10, h⟩ := h
      refine zx_iast C (x_1).toNatClampNeg hq_0.2.2.2.2.2.1 bd10 rfl dX0_clear_56 ?_
      refine zx_sig (fun σ11 eσ11 => ?_)
      replace h := h σ11 eσ11
      obtain ⟨x12, ex12⟩ : ∃ y : Int32, y = (x_1 + (1 : Int32)) := ⟨_, rfl⟩
      replace h := h x12 ex12
      refine zx_iinc (v := x12) (lv' := [(1, .int x12), (0, .ref (g q_0))]) C dX0_clear_57 1 rfl (by rw [ex12]; rfl) (by decide) rfl ?_
      refine zx_goto C 37 dX0_clear_60 (by decide) ?_
      refine zx_lv (lv' := [(0, .ref (g q_0)), (1, .int x12)]) [1, 0] rfl ?_
      exact ih x12 σ11 h
set_option maxRecDepth 100000 in
set_option maxHeartbeats 4000000 in
theorem c_X0_clear (l : Launch) (D : va_G) (cy : Nat → ClassId) (g : Nat → Nat) (t : Nat) (ht : zIsLine t) (σ : zSto) {P : zSto → Prop} (h : w_X0_clear t σ P) : zMv l yX0_clear cX0_clear 2 none (zrm 0 0) D cy g [.ref (g t)] σ P := by
  unfold w_X0_clear at h
  refine zm_v RX0 rfl (by decide +kernel) (Nat.le_of_ble_eq_true rfl) ?_
  intro p e s m below meth c C hr
  refine zx_lv (lv' := [(0, .ref (g t))]) [0] rfl ?_
  refine zx_aload_n C dX0_clear_0 0 rfl ?_
  refine zx_iconst (v := (0 : Int32)) C dX0_clear_1 (by decide) ?_
  refine zx_putI C ht.1 fp_X0_45 rfl dX0_clear_2 ?_
  refine zx_sig (fun σ1 eσ1 => ?_)
  replace h := h σ1 eσ1
  refine zx_aload_n C dX0_clear_5 0 rfl ?_
  refine zx_iconst (v := (0 : Int32)) C dX0_clear_6 (by decide) ?_
  refine zx_putI C ht.1 fp_X0_49 rfl dX0_clear_7 ?_
  refine zx_sig (fun σ2 eσ2 => ?_)
  replace h := h σ2 eσ2
  refine zx_aload_n C dX0_clear_10 0 rfl ?_
  refine zx_iconst (v := (2 : Int32)) C dX0_clear_11 (by decide) ?_
  refine zx_putI C ht.1 fp_X0_52 rfl dX0_clear_12 ?_
  refine zx_sig (fun σ3 eσ3 => ?_)
  replace h := h σ3 eσ3
  refine zx_aload_n C dX0_clear_15 0 rfl ?_
  refine zx_iconst (v := (0 : Int32)) C dX0_clear_16 (by decide) ?_
  refine zx_putI C ht.1 fp_X0_55 rfl dX0_clear_17 ?_
  refine zx_sig (fun σ4 eσ4 => ?_)
  replace h := h σ4 eσ4
  refine zx_aload_n C dX0_clear_20 0 rfl ?_
  refine zx_iconst (v := (0 : Int32)) C dX0_clear_21 (by decide) ?_
  refine zx_putI C ht.1 fp_X0_58 rfl dX0_clear_22 ?_
  refine zx_sig (fun σ5 eσ5 => ?_)
  replace h := h σ5 eσ5
  refine zx_aload_n C dX0_clear_25 0 rfl ?_
  refine zx_iconst (v := (0 : Int32)) C dX0_clear_26 (by decide) ?_
  refine zx_putI C ht.1 fp_X0_61 rfl dX0_clear_27 ?_
  refine zx_sig (fun σ6 eσ6 => ?_)
  replace h := h σ6 eσ6
  refine zx_aload_n C dX0_clear_30 0 rfl ?_
  refine zx_iconst (v := (-1 : Int32)) C dX0_clear_31 (by decide) ?_
  refine zx_putI C ht.1 fp_X0_64 rfl dX0_clear_32 ?_
  refine zx_sig (fun σ7 eσ7 => ?_)
  replace h := h σ7 eσ7
  refine zx_iconst (v := (0 : Int32)) C dX0_clear_35 (by decide) ?_
  refine zx_istore_n (lv' := [(1, .int (0 : Int32)), (0, .ref (g t))]) C dX0_clear_36 (by decide) rfl ?_
  obtain ⟨n, h⟩ := h
  refine zx_lv (lv' := [(0, .ref (g t)), (1, .int (0 : Int32))]) [1, 0] rfl ?_
  exact k_X0_clear_37 C hr (t) ht  n (0 : Int32) σ7 h
theorem fg_X0_9 : zFG RX0 9 0 0 := ⟨RX0, TX0, 18, rfl, lay_X0, by decide, fl_X0_9⟩
theorem fg_X0_15 : zFG RX0 15 0 1 := ⟨RX0, TX0, 18, rfl, lay_X0, by decide, fl_X0_15⟩
theorem fg_X0_18 : zFG RX0 18 0 2 := ⟨RX0, TX0, 18, rfl, lay_X0, by decide, fl_X0_18⟩
theorem fg_X0_27 : zFG RX0 27 0 5 := ⟨RX0, TX0, 18, rfl, lay_X0, by decide, fl_X0_27⟩
theorem fg_X0_30 : zFG RX0 30 0 6 := ⟨RX0, TX0, 18, rfl, lay_X0, by decide, fl_X0_30⟩
theorem fg_X0_33 : zFG RX0 33 0 7 := ⟨RX0, TX0, 18, rfl, lay_X0, by decide, fl_X0_33⟩
theorem fg_X0_36 : zFG RX0 36 0 8 := ⟨RX0, TX0, 18, rfl, lay_X0, by decide, fl_X0_36⟩
theorem fg_X0_39 : zFG RX0 39 0 9 := ⟨RX0, TX0, 18, rfl, lay_X0, by decide, fl_X0_39⟩
theorem fg_X0_42 : zFG RX0 42 0 10 := ⟨RX0, TX0, 18, rfl, lay_X0, by decide, fl_X0_42⟩
theorem fg_X0_45 : zFG RX0 45 0 11 := ⟨RX0, TX0, 18, rfl, lay_X0, by decide, fl_X0_45⟩
theorem fg_X0_49 : zFG RX0 49 0 12 := ⟨RX0, TX0, 18, rfl, lay_X0, by decide, fl_X0_49⟩
theorem fg_X0_52 : zFG RX0 52 0 13 := ⟨RX0, TX0, 18, rfl, lay_X0, by decide, fl_X0_52⟩
theorem fg_X0_55 : zFG RX0 55 0 14 := ⟨RX0, TX0, 18, rfl, lay_X0, by decide, fl_X0_55⟩
theorem fg_X0_58 : zFG RX0 58 0 15 := ⟨RX0, TX0, 18, rfl, lay_X0, by decide, fl_X0_58⟩
theorem fg_X0_61 : zFG RX0 61 0 16 := ⟨RX0, TX0, 18, rfl, lay_X0, by decide, fl_X0_61⟩
theorem fg_X0_64 : zFG RX0 64 0 17 := ⟨RX0, TX0, 18, rfl, lay_X0, by decide, fl_X0_64⟩
def w_X0_copyFrom (t : Nat) (b1 : Nat) (σ : zSto) (P : zSto → Prop) : Prop := (∀ σ1 : zSto, σ1 = zR σ (t + 1) (va_cpy (σ.1 (b1 + 1)) (σ.1 (t + 1)) 0 0 16) → (∀ σ2 : zSto, σ2 = zR σ1 (t + 2) (va_cpy (σ1.1 (b1 + 2)) (σ1.1 (t + 2)) 0 0 16) → (∀ σ3 : zSto, σ3 = zR σ2 (t + 3) (va_cpy (σ2.1 (b1 + 3)) (σ2.1 (t + 3)) 0 0 16) → (∀ σ4 : zSto, σ4 = zR σ3 (t + 4) (va_cpy (σ3.1 (b1 + 4)) (σ3.1 (t + 4)) 0 0 16) → (∀ σ5 : zSto, σ5 = zR σ4 (t + 5) (va_cpy (σ4.1 (b1 + 5)) (σ4.1 (t + 5)) 0 0 16) → (∀ σ6 : zSto, σ6 = zR σ5 (t + 6) (va_cpy (σ5.1 (b1 + 6)) (σ5.1 (t + 6)) 0 0 6) → (∀ σ7 : zSto, σ7 = zR σ6 (t + 7) (va_cpy (σ6.1 (b1 + 7)) (σ6.1 (t + 7)) 0 0 6) → (∀ σ8 : zSto, σ8 = zR σ7 (t + 8) (va_cpy (σ7.1 (b1 + 8)) (σ7.1 (t + 8)) 0 0 6) → (∀ σ9 : zSto, σ9 = zR σ8 (t + 9) (va_cpy (σ8.1 (b1 + 9)) (σ8.1 (t + 9)) 0 0 6) → (∀ σ10 : zSto, σ10 = zR σ9 (t + 10) (va_cpy (σ9.1 (b1 + 10)) (σ9.1 (t + 10)) 0 0 6) → (∀ σ11 : zSto, σ11 = zR σ10 (t + 11) (va_cpy (σ10.1 (b1 + 11)) (σ10.1 (t + 11)) 0 0 6) → (∀ σ12 : zSto, σ12 = zI σ11 t 11 (σ11.1 b1 11) → (∀ σ13 : zSto, σ13 = zI σ12 t 12 (σ12.1 b1 12) → (∀ σ14 : zSto, σ14 = zI σ13 t 13 (σ13.1 b1 13) → (∀ σ15 : zSto, σ15 = zI σ14 t 14 (σ14.1 b1 14) → (∀ σ16 : zSto, σ16 = zI σ15 t 15 (σ15.1 b1 15) → (∀ σ17 : zSto, σ17 = zI σ16 t 16 (σ16.1 b1 16) → (∀ σ18 : zSto, σ18 = zI σ17 t 17 (σ17.1 b1 17) → P σ18))))))))))))))))))
set_option maxRecDepth 100000 in
set_option maxHeartbeats 4000000 in
theorem c_X0_copyFrom (l : Launch) (D : va_G) (cy : Nat → ClassId) (g : Nat → Nat) (t : Nat) (b1 : Nat) (ht : zIsLine t) (hb1 : zIsLine b1) (σ : zSto) {P : zSto → Prop} (h : w_X0_copyFrom t b1 σ P) : zMv l yX0_copyFrom cX0_copyFrom 2 none (zrm 1 64) D cy g [.ref (g t), .ref (g b1)] σ P := by
  unfold w_X0_copyFrom at h
  refine zm_v RX0 rfl (by decide +kernel) (Nat.le_of_ble_eq_true rfl) ?_
  intro p e s m below meth c C hr
  refine zx_lv (lv' := [(0, .ref (g t)), (1, .ref (g b1))]) [0, 1] rfl ?_
  refine zx_aload_n C dX0_copyFrom_0 1 rfl ?_
  refine zx_getR C hb1.1 fg_X0_9 rfl (b1 + 1) rfl dX0_copyFrom_1 ?_
  refine zx_iconst (v := (0 : Int32)) C dX0_copyFrom_4 (by decide) ?_
  refine zx_aload_n C dX0_copyFrom_5 0 rfl ?_
  refine zx_getR C ht.1 fg_X0_9 rfl (t + 1) rfl dX0_copyFrom_6 ?_
  refine zx_iconst (v := (0 : Int32)) C dX0_copyFrom_9 (by decide) ?_
  refine zx_bipush (v := (16 : Int32)) C dX0_copyFrom_10 (by decide) ?_
  refine zx_copy C 0 0 16 (ty := .int) hb1.2.1 ht.2.1 rfl rfl ml_X0_67 na_arraycopy st_arraycopy ini_J10 (by decide) (by decide) (by decide) (by decide) (by decide) (by decide) (by decide) (by decide) (fun _ _ => rfl) (Nat.le_of_ble_eq_true rfl) (Nat.le_of_ble_eq_true rfl) dX0_copyFrom_12 ?_
  refine zx_sig (fun σ1 eσ1 => ?_)
  replace h := h σ1 eσ1
  refine zx_aload_n C dX0_copyFrom_15 1 rfl ?_
  refine zx_getR C hb1.1 fg_X0_15 rfl (b1 + 2) rfl dX0_copyFrom_16 ?_
  refine zx_iconst (v := (0 : Int32)) C dX0_copyFrom_19 (by decide) ?_
  refine zx_aload_n C dX0_copyFrom_20 0 rfl ?_
  refine zx_getR C ht.1 fg_X0_15 rfl (t + 2) rfl dX0_copyFrom_21 ?_
  refine zx_iconst (v := (0 : Int32)) C dX0_copyFrom_24 (by decide) ?_
  refine zx_bipush (v := (16 : Int32)) C dX0_copyFrom_25 (by decide) ?_
  refine zx_copy C 0 0 16 (ty := .int) hb1.2.2.1 ht.2.2.1 rfl rfl ml_X0_67 na_arraycopy st_arraycopy ini_J10 (by decide) (by decide) (by decide) (by decide) (by decide) (by decide) (by decide) (by decide) (fun _ _ => rfl) (Nat.le_of_ble_eq_true rfl) (Nat.le_of_ble_eq_true rfl) dX0_copyFrom_27 ?_
  refine zx_sig (fun σ2 eσ2 => ?_)
  replace h := h σ2 eσ2
  refine zx_aload_n C dX0_copyFrom_30 1 rfl ?_
  refine zx_getR C hb1.1 fg_X0_18 rfl (b1 + 3) rfl dX0_copyFrom_31 ?_
  refine zx_iconst (v := (0 : Int32)) C dX0_copyFrom_34 (by decide) ?_
  refine zx_aload_n C dX0_copyFrom_35 0 rfl ?_
  refine zx_getR C ht.1 fg_X0_18 rfl (t + 3) rfl dX0_copyFrom_36 ?_
  refine zx_iconst (v := (0 : Int32)) C dX0_copyFrom_39 (by decide) ?_
  refine zx_bipush (v := (16 : Int32)) C dX0_copyFrom_40 (by decide) ?_
  refine zx_copy C 0 0 16 (ty := .int) hb1.2.2.2.1 ht.2.2.2.1 rfl rfl ml_X0_67 na_arraycopy st_arraycopy ini_J10 (by decide) (by decide) (by decide) (by decide) (by decide) (by decide) (by decide) (by decide) (fun _ _ => rfl) (Nat.le_of_ble_eq_true rfl) (Nat.le_of_ble_eq_true rfl) dX0_copyFrom_42 ?_
  refine zx_sig (fun σ3 eσ3 => ?_)
  replace h := h σ3 eσ3
  refine zx_aload_n C dX0_copyFrom_45 1 rfl ?_
  refine zx_getR C hb1.1 fg_X0_21 rfl (b1 + 4) rfl dX0_copyFrom_46 ?_
  refine zx_iconst (v := (0 : Int32)) C dX0_copyFrom_49 (by decide) ?_
  refine zx_aload_n C dX0_copyFrom_50 0 rfl ?_
  refine zx_getR C ht.1 fg_X0_21 rfl (t + 4) rfl dX0_copyFrom_51 ?_
  refine zx_iconst (v := (0 : Int32)) C dX0_copyFrom_54 (by decide) ?_
  refine zx_bipush (v := (16 : Int32)) C dX0_copyFrom_55 (by decide) ?_
  refine zx_copy C 0 0 16 (ty := .int) hb1.2.2.2.2.1 ht.2.2.2.2.1 rfl rfl ml_X0_67 na_arraycopy st_arraycopy ini_J10 (by decide) (by decide) (by decide) (by decide) (by decide) (by decide) (by decide) (by decide) (fun _ _ => rfl) (Nat.le_of_ble_eq_true rfl) (Nat.le_of_ble_eq_true rfl) dX0_copyFrom_57 ?_
  refine zx_sig (fun σ4 eσ4 => ?_)
  replace h := h σ4 eσ4
  refine zx_aload_n C dX0_copyFrom_60 1 rfl ?_
  refine zx_getR C hb1.1 fg_X0_24 rfl (b1 + 5) rfl dX0_copyFrom_61 ?_
  refine zx_iconst (v := (0 : Int32)) C dX0_copyFrom_64 (by decide) ?_
  refine zx_aload_n C dX0_copyFrom_65 0 rfl ?_
  refine zx_getR C ht.1 fg_X0_24 rfl (t + 5) rfl dX0_copyFrom_66 ?_
  refine zx_iconst (v := (0 : Int32)) C dX0_copyFrom_69 (by decide) ?_
  refine zx_bipush (v := (16 : Int32)) C dX0_copyFrom_70 (by decide) ?_
  refine zx_copy C 0 0 16 (ty := .int) hb1.2.2.2.2.2.1 ht.2.2.2.2.2.1 rfl rfl ml_X0_67 na_arraycopy st_arraycopy ini_J10 (by decide) (by decide) (by decide) (by decide) (by decide) (by decide) (by decide) (by decide) (fun _ _ => rfl) (Nat.le_of_ble_eq_true rfl) (Nat.le_of_ble_eq_true rfl) dX0_copyFrom_72 ?_
  refine zx_sig (fun σ5 eσ5 => ?_)
  replace h := h σ5 eσ5
  refine zx_aload_n C dX0_copyFrom_75 1 rfl ?_
  refine zx_getR C hb1.1 fg_X0_27 rfl (b1 + 6) rfl dX0_copyFrom_76 ?_
  refine zx_iconst (v := (0 : Int32)) C dX0_copyFrom_79 (by decide) ?_
  refine zx_aload_n C dX0_copyFrom_80 0 rfl ?_
  refine zx_getR C ht.1 fg_X0_27 rfl (t + 6) rfl dX0_copyFrom_81 ?_
  refine zx_iconst (v := (0 : Int32)) C dX0_copyFrom_84 (by decide) ?_
  refine zx_bipush (v := (6 : Int32)) C dX0_copyFrom_85 (by decide) ?_
  refine zx_copy C 0 0 6 (ty := .int) hb1.2.2.2.2.2.2.1 ht.2.2.2.2.2.2.1 rfl rfl ml_X0_67 na_arraycopy st_arraycopy ini_J10 (by decide) (by decide) (by decide) (by decide) (by decide) (by decide) (by decide) (by decide) (fun _ _ => rfl) (Nat.le_of_ble_eq_true rfl) (Nat.le_of_ble_eq_true rfl) dX0_copyFrom_87 ?_
  refine zx_sig (fun σ6 eσ6 => ?_)
  replace h := h σ6 eσ6
  refine zx_aload_n C dX0_copyFrom_90 1 rfl ?_
  refine zx_getR C hb1.1 fg_X0_30 rfl (b1 + 7) rfl dX0_copyFrom_91 ?_
  refine zx_iconst (v := (0 : Int32)) C dX0_copyFrom_94 (by decide) ?_
  refine zx_aload_n C dX0_copyFrom_95 0 rfl ?_
  refine zx_getR C ht.1 fg_X0_30 rfl (t + 7) rfl dX0_copyFrom_96 ?_
  refine zx_iconst (v := (0 : Int32)) C dX0_copyFrom_99 (by decide) ?_
  refine zx_bipush (v := (6 : Int32)) C dX0_copyFrom_100 (by decide) ?_
  refine zx_copy C 0 0 6 (ty := .int) hb1.2.2.2.2.2.2.2.1 ht.2.2.2.2.2.2.2.1 rfl rfl ml_X0_67 na_arraycopy st_arraycopy ini_J10 (by decide) (by decide) (by decide) (by decide) (by decide) (by decide) (by decide) (by decide) (fun _ _ => rfl) (Nat.le_of_ble_eq_true rfl) (Nat.le_of_ble_eq_true rfl) dX0_copyFrom_102 ?_
  refine zx_sig (fun σ7 eσ7 => ?_)
  replace h := h σ7 eσ7
  refine zx_aload_n C dX0_copyFrom_105 1 rfl ?_
  refine zx_getR C hb1.1 fg_X0_33 rfl (b1 + 8) rfl dX0_copyFrom_106 ?_
  refine zx_iconst (v := (0 : Int32)) C dX0_copyFrom_109 (by decide) ?_
  refine zx_aload_n C dX0_copyFrom_110 0 rfl ?_
  refine zx_getR C ht.1 fg_X0_33 rfl (t + 8) rfl dX0_copyFrom_111 ?_
  refine zx_iconst (v := (0 : Int32)) C dX0_copyFrom_114 (by decide) ?_
  refine zx_bipush (v := (6 : Int32)) C dX0_copyFrom_115 (by decide) ?_
  refine zx_copy C 0 0 6 (ty := .int) hb1.2.2.2.2.2.2.2.2.1 ht.2.2.2.2.2.2.2.2.1 rfl rfl ml_X0_67 na_arraycopy st_arraycopy ini_J10 (by decide) (by decide) (by decide) (by decide) (by decide) (by decide) (by decide) (by decide) (fun _ _ => rfl) (Nat.le_of_ble_eq_true rfl) (Nat.le_of_ble_eq_true rfl) dX0_copyFrom_117 ?_
  refine zx_sig (fun σ8 eσ8 => ?_)
  replace h := h σ8 eσ8
  refine zx_aload_n C dX0_copyFrom_120 1 rfl ?_
  refine zx_getR C hb1.1 fg_X0_36 rfl (b1 + 9) rfl dX0_copyFrom_121 ?_
  refine zx_iconst (v := (0 : Int32)) C dX0_copyFrom_124 (by decide) ?_
  refine zx_aload_n C dX0_copyFrom_125 0 rfl ?_
  refine zx_getR C ht.1 fg_X0_36 rfl (t + 9) rfl dX0_copyFrom_126 ?_
  refine zx_iconst (v := (0 : Int32)) C dX0_copyFrom_129 (by decide) ?_
  refine zx_bipush (v := (6 : Int32)) C dX0_copyFrom_130 (by decide) ?_
  refine zx_copy C 0 0 6 (ty := .int) hb1.2.2.2.2.2.2.2.2.2.1 ht.2.2.2.2.2.2.2.2.2.1 rfl rfl ml_X0_67 na_arraycopy st_arraycopy ini_J10 (by decide) (by decide) (by decide) (by decide) (by decide) (by decide) (by decide) (by decide) (fun _ _ => rfl) (Nat.le_of_ble_eq_true rfl) (Nat.le_of_ble_eq_true rfl) dX0_copyFrom_132 ?_
  refine zx_sig (fun σ9 eσ9 => ?_)
  replace h := h σ9 eσ9
  refine zx_aload_n C dX0_copyFrom_135 1 rfl ?_
  refine zx_getR C hb1.1 fg_X0_39 rfl (b1 + 10) rfl dX0_copyFrom_136 ?_
  refine zx_iconst (v := (0 : Int32)) C dX0_copyFrom_139 (by decide) ?_
  refine zx_aload_n C dX0_copyFrom_140 0 rfl ?_
  refine zx_getR C ht.1 fg_X0_39 rfl (t + 10) rfl dX0_copyFrom_141 ?_
  refine zx_iconst (v := (0 : Int32)) C dX0_copyFrom_144 (by decide) ?_
  refine zx_bipush (v := (6 : Int32)) C dX0_copyFrom_145 (by decide) ?_
  refine zx_copy C 0 0 6 (ty := .int) hb1.2.2.2.2.2.2.2.2.2.2.1 ht.2.2.2.2.2.2.2.2.2.2.1 rfl rfl ml_X0_67 na_arraycopy st_arraycopy ini_J10 (by decide) (by decide) (by decide) (by decide) (by decide) (by decide) (by decide) (by decide) (fun _ _ => rfl) (Nat.le_of_ble_eq_true rfl) (Nat.le_of_ble_eq_true rfl) dX0_copyFrom_147 ?_
  refine zx_sig (fun σ10 eσ10 => ?_)
  replace h := h σ10 eσ10
  refine zx_aload_n C dX0_copyFrom_150 1 rfl ?_
  refine zx_getR C hb1.1 fg_X0_42 rfl (b1 + 11) rfl dX0_copyFrom_151 ?_
  refine zx_iconst (v := (0 : Int32)) C dX0_copyFrom_154 (by decide) ?_
  refine zx_aload_n C dX0_copyFrom_155 0 rfl ?_
  refine zx_getR C ht.1 fg_X0_42 rfl (t + 11) rfl dX0_copyFrom_156 ?_
  refine zx_iconst (v := (0 : Int32)) C dX0_copyFrom_159 (by decide) ?_
  refine zx_bipush (v := (6 : Int32)) C dX0_copyFrom_160 (by decide) ?_
  refine zx_copy C 0 0 6 (ty := .int) hb1.2.2.2.2.2.2.2.2.2.2.2 ht.2.2.2.2.2.2.2.2.2.2.2 rfl rfl ml_X0_67 na_arraycopy st_arraycopy ini_J10 (by decide) (by decide) (by decide) (by decide) (by decide) (by decide) (by decide) (by decide) (fun _ _ => rfl) (Nat.le_of_ble_eq_true rfl) (Nat.le_of_ble_eq_true rfl) dX0_copyFrom_162 ?_
  refine zx_sig (fun σ11 eσ11 => ?_)
  replace h := h σ11 eσ11
  refine zx_aload_n C dX0_copyFrom_165 0 rfl ?_
  refine zx_aload_n C dX0_copyFrom_166 1 rfl ?_
  refine zx_getI C hb1.1 fg_X0_45 rfl dX0_copyFrom_167 ?_
  refine zx_putI C ht.1 fp_X0_45 rfl dX0_copyFrom_170 ?_
  refine zx_sig (fun σ12 eσ12 => ?_)
  replace h := h σ12 eσ12
  refine zx_aload_n C dX0_copyFrom_173 0 rfl ?_
  refine zx_aload_n C dX0_copyFrom_174 1 rfl ?_
  refine zx_getI C hb1.1 fg_X0_49 rfl dX0_copyFrom_175 ?_
  refine zx_putI C ht.1 fp_X0_49 rfl dX0_copyFrom_178 ?_
  refine zx_sig (fun σ13 eσ13 => ?_)
  replace h := h σ13 eσ13
  refine zx_aload_n C dX0_copyFrom_181 0 rfl ?_
  refine zx_aload_n C dX0_copyFrom_182 1 rfl ?_
  refine zx_getI C hb1.1 fg_X0_52 rfl dX0_copyFrom_183 ?_
  refine zx_putI C ht.1 fp_X0_52 rfl dX0_copyFrom_186 ?_
  refine zx_sig (fun σ14 eσ14 => ?_)
  replace h := h σ14 eσ14
  refine zx_aload_n C dX0_copyFrom_189 0 rfl ?_
  refine zx_aload_n C dX0_copyFrom_190 1 rfl ?_
  refine zx_getI C hb1.1 fg_X0_55 rfl dX0_copyFrom_191 ?_
  refine zx_putI C ht.1 fp_X0_55 rfl dX0_copyFrom_194 ?_
  refine zx_sig (fun σ15 eσ15 => ?_)
  replace h := h σ15 eσ15
  refine zx_aload_n C dX0_copyFrom_197 0 rfl ?_
  refine zx_aload_n C dX0_copyFrom_198 1 rfl ?_
  refine zx_getI C hb1.1 fg_X0_58 rfl dX0_copyFrom_199 ?_
  refine zx_putI C ht.1 fp_X0_58 rfl dX0_copyFrom_202 ?_
  refine zx_sig (fun σ16 eσ16 => ?_)
  replace h := h σ16 eσ16
  refine zx_aload_n C dX0_copyFrom_205 0 rfl ?_
  refine zx_aload_n C dX0_copyFrom_206 1 rfl ?_
  refine zx_getI C hb1.1 fg_X0_61 rfl dX0_copyFrom_207 ?_
  refine zx_putI C ht.1 fp_X0_61 rfl dX0_copyFrom_210 ?_
  refine zx_sig (fun σ17 eσ17 => ?_)
  replace h := h σ17 eσ17
  refine zx_aload_n C dX0_copyFrom_213 0 rfl ?_
  refine zx_aload_n C dX0_copyFrom_214 1 rfl ?_
  refine zx_getI C hb1.1 fg_X0_64 rfl dX0_copyFrom_215 ?_
  refine zx_putI C ht.1 fp_X0_64 rfl dX0_copyFrom_218 ?_
  refine zx_sig (fun σ18 eσ18 => ?_)
  replace h := h σ18 eσ18
  exact zx_vret C hr dX0_copyFrom_221 h
def w_X0_hasPost (t : Nat) (a1 : Int32) (σ : zSto) (P : Int32 → zSto → Prop) : Prop := ((a1 < 0 → P (0 : Int32) σ) ∧ (¬ a1 < 0 → (((σ.1 t 11) ≤ a1 → P (0 : Int32) σ) ∧ (¬ (σ.1 t 11) ≤ a1 → P (1 : Int32) σ))))
set_option maxRecDepth 100000 in
set_option maxHeartbeats 4000000 in
theorem c_X0_hasPost (l : Launch) (D : va_G) (cy : Nat → ClassId) (g : Nat → Nat) (t : Nat) (a1 : Int32) (ht : zIsLine t) (σ : zSto) {P : Int32 → zSto → Prop} (h : w_X0_hasPost t a1 σ P) : zMb l yX0_hasPost cX0_hasPost 2 (some .boolean) (zrm 0 0) D cy g [.ref (g t), .int a1] σ P := by
  unfold w_X0_hasPost at h
  refine zm_b RX0 rfl (by decide +kernel) (Nat.le_of_ble_eq_true rfl) ?_
  intro p e s m below meth c C hr
  refine zx_lv (lv' := [(0, .ref (g t)), (1, .int a1)]) [0, 1] rfl ?_
  refine zx_iload_n C dX0_hasPost_0 1 rfl ?_
  refine zx_if_lt C 16 dX0_hasPost_1 (by decide) (fun q => ?_) (fun q => ?_)
  · replace h := h.1 q
    refine zx_iconst (v := (0 : Int32)) C dX0_hasPost_16 (by decide) ?_
    exact zx_zret C hr dX0_hasPost_17 (Or.inl rfl) h
  · replace h := h.2 q
    refine zx_iload_n C dX0_hasPost_4 1 rfl ?_
    refine zx_aload_n C dX0_hasPost_5 0 rfl ?_
    refine zx_getI C ht.1 fg_X0_45 rfl dX0_hasPost_6 ?_
    refine zx_icmp_ge C 16 dX0_hasPost_9 (by decide) (fun q => ?_) (fun q => ?_)
    · replace h := h.1 q
      refine zx_iconst (v := (0 : Int32)) C dX0_hasPost_16 (by decide) ?_
      exact zx_zret C hr dX0_hasPost_17 (Or.inl rfl) h
    · replace h := h.2 q
      refine zx_iconst (v := (1 : Int32)) C dX0_hasPost_12 (by decide) ?_
      refine zx_goto C 17 dX0_hasPost_13 (by decide) ?_
      exact zx_zret C hr dX0_hasPost_17 (Or.inr rfl) h
def w_X0_hasRider (t : Nat) (a1 : Int32) (σ : zSto) (P : Int32 → zSto → Prop) : Prop := ((a1 < 0 → P (0 : Int32) σ) ∧ (¬ a1 < 0 → (((σ.1 t 12) ≤ a1 → P (0 : Int32) σ) ∧ (¬ (σ.1 t 12) ≤ a1 → P (1 : Int32) σ))))
set_option maxRecDepth 100000 in
set_option maxHeartbeats 4000000 in
theorem c_X0_hasRider (l : Launch) (D : va_G) (cy : Nat → ClassId) (g : Nat → Nat) (t : Nat) (a1 : Int32) (ht : zIsLine t) (σ : zSto) {P : Int32 → zSto → Prop} (h : w_X0_hasRider t a1 σ P) : zMb l yX0_hasRider cX0_hasRider 2 (some .boolean) (zrm 0 0) D cy g [.ref (g t), .int a1] σ P := by
  unfold w_X0_hasRider at h
  refine zm_b RX0 rfl (by decide +kernel) (Nat.le_of_ble_eq_true rfl) ?_
  intro p e s m below meth c C hr
  refine zx_lv (lv' := [(0, .ref (g t)), (1, .int a1)]) [0, 1] rfl ?_
  refine zx_iload_n C dX0_hasRider_0 1 rfl ?_
  refine zx_if_lt C 16 dX0_hasRider_1 (by decide) (fun q => ?_) (fun q => ?_)
  · replace h := h.1 q
    refine zx_iconst (v := (0 : Int32)) C dX0_hasRider_16 (by decide) ?_
    exact zx_zret C hr dX0_hasRider_17 (Or.inl rfl) h
  · replace h := h.2 q
    refine zx_iload_n C dX0_hasRider_4 1 rfl ?_
    refine zx_aload_n C dX0_hasRider_5 0 rfl ?_
    refine zx_getI C ht.1 fg_X0_49 rfl dX0_hasRider_6 ?_
    refine zx_icmp_ge C 16 dX0_hasRider_9 (by decide) (fun q => ?_) (fun q => ?_)
    · replace h := h.1 q
      refine zx_iconst (v := (0 : Int32)) C dX0_hasRider_16 (by decide) ?_
      exact zx_zret C hr dX0_hasRider_17 (Or.inl rfl) h
    · replace h := h.2 q
      refine zx_iconst (v := (1 : Int32)) C dX0_hasRider_12 (by decide) ?_
      refine zx_goto C 17 dX0_hasRider_13 (by decide) ?_
      exact zx_zret C hr dX0_hasRider_17 (Or.inr rfl) h
theorem lk_X0_73 : zLV RX0 73 RX0 yX0_hasPost cX0_hasPost 2 (some .boolean) 1 := zLV_of ml_X0_73 im_X0_hasPost se_X0_hasPost ini_X0 cd_X0_hasPost (by decide +kernel)
def w_X0_isStation (t : Nat) (a1 : Int32) (σ : zSto) (P : Int32 → zSto → Prop) : Prop := (w_X0_hasPost t a1 σ (fun (r2 : Int32) (σ1 : zSto) => (r2 = 0 ∨ r2 = 1) → ((r2 = 0 → P (0 : Int32) σ1) ∧ (¬ r2 = 0 → (vp_in a1 16 ∧ (((σ1.1 (t + 5) (a1).toNatClampNeg) = (-1 : Int32) → P (0 : Int32) σ1) ∧ (¬ (σ1.1 (t + 5) (a1).toNatClampNeg) = (-1 : Int32) → P (1 : Int32) σ1)))))))
set_option maxRecDepth 100000 in
set_option maxHeartbeats 4000000 in
theorem c_X0_isStation (l : Launch) (D : va_G) (cy : Nat → ClassId) (g : Nat → Nat) (t : Nat) (a1 : Int32) (ht : zIsLine t) (σ : zSto) {P : Int32 → zSto → Prop} (h : w_X0_isStation t a1 σ P) : zMb l yX0_isStation cX0_isStation 2 (some .boolean) (zrm 1 21) D cy g [.ref (g t), .int a1] σ P := by
  unfold w_X0_isStation at h
  refine zm_b RX0 rfl (by decide +kernel) (Nat.le_of_ble_eq_true rfl) ?_
  intro p e s m below meth c C hr
  refine zx_lv (lv' := [(0, .ref (g t)), (1, .int a1)]) [0, 1] rfl ?_
  refine zx_aload_n C dX0_isStation_0 0 rfl ?_
  refine zx_iload_n C dX0_isStation_1 1 rfl ?_
  refine zx_cVb C [.int a1] lk_X0_73 (c_X0_hasPost l D cy g t a1 ht σ h) ht.1 rfl ⟨by decide, by decide⟩ ⟨rfl, rfl⟩ ⟨Nat.zero_le _, Nat.zero_le _⟩ rfl rfl (Nat.le_of_ble_eq_true rfl) dX0_isStation_2 (fun r2 σ1 hb h => ?_)
  replace h := h hb
  refine zx_if_eq C 22 dX0_isStation_5 (by decide) (fun q => ?_) (fun q => ?_)
  · replace h := h.1 q
    refine zx_iconst (v := (0 : Int32)) C dX0_isStation_22 (by decide) ?_
    exact zx_zret C hr dX0_isStation_23 (Or.inl rfl) h
  · replace h := h.2 q
    refine zx_aload_n C dX0_isStation_8 0 rfl ?_
    refine zx_getR C ht.1 fg_X0_24 rfl (t + 5) rfl dX0_isStation_9 ?_
    refine zx_iload_n C dX0_isStation_12 1 rfl ?_
    obtain ⟨bd3, h⟩ := h
    refine zx_iald C (a1).toNatClampNeg ht.2.2.2.2.2.1 bd3 rfl dX0_isStation_13 ?_
    refine zx_iconst (v := (-1 : Int32)) C dX0_isStation_14 (by decide) ?_
    refine zx_icmp_eq C 22 dX0_isStation_15 (by decide) (fun q => ?_) (fun q => ?_)
    · replace h := h.1 q
      refine zx_iconst (v := (0 : Int32)) C dX0_isStation_22 (by decide) ?_
      exact zx_zret C hr dX0_isStation_23 (Or.inl rfl) h
    · replace h := h.2 q
      refine zx_iconst (v := (1 : Int32)) C dX0_isStation_18 (by decide) ?_
      refine zx_goto C 23 dX0_isStation_19 (by decide) ?_
      exact zx_zret C hr dX0_isStation_23 (Or.inr rfl) h
def w_X0_carries (t : Nat) (a1 : Int32) (a2 : Int32) (σ : zSto) (P : Int32 → zSto → Prop) : Prop := (vp_in a1 6 ∧ ((a2 < (σ.1 (t + 6) (a1).toNatClampNeg) → P (0 : Int32) σ) ∧ (¬ a2 < (σ.1 (t + 6) (a1).toNatClampNeg) → (vp_in a1 6 ∧ (((σ.1 (t + 7) (a1).toNatClampNeg) ≤ a2 → P (0 : Int32) σ) ∧ (¬ (σ.1 (t + 7) (a1).toNatClampNeg) ≤ a2 → P (1 : Int32) σ))))))
set_option maxRecDepth 100000 in
set_option maxHeartbeats 4000000 in
theorem c_X0_carries (l : Launch) (D : va_G) (cy : Nat → ClassId) (g : Nat → Nat) (t : Nat) (a1 : Int32) (a2 : Int32) (ht : zIsLine t) (σ : zSto) {P : Int32 → zSto → Prop} (h : w_X0_carries t a1 a2 σ P) : zMb l yX0_carries cX0_carries 3 (some .boolean) (zrm 0 0) D cy g [.ref (g t), .int a1, .int a2] σ P := by
  unfold w_X0_carries at h
  refine zm_b RX0 rfl (by decide +kernel) (Nat.le_of_ble_eq_true rfl) ?_
  intro p e s m below meth c C hr
  refine zx_lv (lv' := [(0, .ref (g t)), (1, .int a1), (2, .int a2)]) [0, 1, 2] rfl ?_
  refine zx_aload_n C dX0_carries_0 0 rfl ?_
  refine zx_getR C ht.1 fg_X0_27 rfl (t + 6) rfl dX0_carries_1 ?_
  refine zx_iload_n C dX0_carries_4 1 rfl ?_
  obtain ⟨bd1, h⟩ := h
  refine zx_iald C (a1).toNatClampNeg ht.2.2.2.2.2.2.1 bd1 rfl dX0_carries_5 ?_
  refine zx_iload_n C dX0_carries_6 2 rfl ?_
  refine zx_icmp_gt C 24 dX0_carries_7 (by decide) (fun q => ?_) (fun q => ?_)
  · replace h := h.1 q
    refine zx_iconst (v := (0 : Int32)) C dX0_carries_24 (by decide) ?_
    exact zx_zret C hr dX0_carries_25 (Or.inl rfl) h
  · replace h := h.2 q
    refine zx_iload_n C dX0_carries_10 2 rfl ?_
    refine zx_aload_n C dX0_carries_11 0 rfl ?_
    refine zx_getR C ht.1 fg_X0_30 rfl (t + 7) rfl dX0_carries_12 ?_
    refine zx_iload_n C dX0_carries_15 1 rfl ?_
    obtain ⟨bd2, h⟩ := h
    refine zx_iald C (a1).toNatClampNeg ht.2.2.2.2.2.2.2.1 bd2 rfl dX0_carries_16 ?_
    refine zx_icmp_ge C 24 dX0_carries_17 (by decide) (fun q => ?_) (fun q => ?_)
    · replace h := h.1 q
      refine zx_iconst (v := (0 : Int32)) C dX0_carries_24 (by decide) ?_
      exact zx_zret C hr dX0_carries_25 (Or.inl rfl) h
    · replace h := h.2 q
      refine zx_iconst (v := (1 : Int32)) C dX0_carries_20 (by decide) ?_
      refine zx_goto C 25 dX0_carries_21 (by decide) ?_
      exact zx_zret C hr dX0_carries_25 (Or.inr rfl) h
def w_X0_riderSets (t : Nat) (σ : zSto) (P : Int32 → zSto → Prop) : Prop := P ((1 : Int32) <<< ((σ.1 t 12) &&& 31)) σ
set_option maxRecDepth 100000 in
set_option maxHeartbeats 4000000 in
theorem c_X0_riderSets (l : Launch) (D : va_G) (cy : Nat → ClassId) (g : Nat → Nat) (t : Nat) (ht : zIsLine t) (σ : zSto) {P : Int32 → zSto → Prop} (h : w_X0_riderSets t σ P) : zMi l yX0_riderSets cX0_riderSets 1 (some .int) (zrm 0 0) D cy g [.ref (g t)] σ P := by
  unfold w_X0_riderSets at h
  refine zm_i RX0 rfl (by decide +kernel) (Nat.le_of_ble_eq_true rfl) ?_
  intro p e s m below meth c C hr
  refine zx_lv (lv' := [(0, .ref (g t))]) [0] rfl ?_
  refine zx_iconst (v := (1 : Int32)) C dX0_riderSets_0 (by decide) ?_
  refine zx_aload_n C dX0_riderSets_1 0 rfl ?_
  refine zx_getI C ht.1 fg_X0_49 rfl dX0_riderSets_2 ?_
  refine zx_ishl C dX0_riderSets_5 ?_
  exact zx_iret C hr dX0_riderSets_6 h
def w_X0_stations_4 (q_0 : Nat) (P : Int32 → zSto → Prop)  : Nat → Int32 → Int32 → zSto → Prop
  | 0, _, _, _ => False
  | n + 1, x_1, x_2, σ => (((σ.1 q_0 11) ≤ x_2 → P x_1 σ) ∧ (¬ (σ.1 q_0 11) ≤ x_2 → (vp_in x_2 16 ∧ ((¬ (σ.1 (q_0 + 5) (x_2).toNatClampNeg) = (-1 : Int32) → (∀ x2 : Int32, x2 = (x_1 ||| ((1 : Int32) <<< (x_2 &&& 31))) → (∀ x3 : Int32, x3 = (x_2 + (1 : Int32)) → w_X0_stations_4 q_0 P n x2 x3 σ))) ∧ ((σ.1 (q_0 + 5) (x_2).toNatClampNeg) = (-1 : Int32) → (∀ x4 : Int32, x4 = (x_1 ||| (0 : Int32)) → (∀ x5 : Int32, x5 = (x_2 + (1 : Int32)) → w_X0_stations_4 q_0 P n x4 x5 σ)))))))
def w_X0_stations (t : Nat) (σ : zSto) (P : Int32 → zSto → Prop) : Prop := (∃ n : Nat, w_X0_stations_4 t P  n (0 : Int32) (0 : Int32) σ)
set_option maxRecDepth 100000 in
set_option maxHeartbeats 4000000 in
theorem k_X0_stations_4 {p : Program} {l : Launch} {e : Env} {s : State} {m : MethodId} {args : Array Value} {below : List Frame} {meth : Method} {c : Code} {D : va_G} {cy : Nat → ClassId} {g : Nat → Nat} (C : zC p s m args meth c cX0_stations RX0 3 D cy g) (hr : meth.sig.returnType = (some .int)) {P : Int32 → zSto → Prop} (q_0 : Nat) (hq_0 : zIsLine q_0)   : ∀ (n : Nat) (x_1 : Int32) (x_2 : Int32) (σ : zSto), w_X0_stations_4 q_0 P n x_1 x_2 σ → zX p l e (zrm 0 0) s m args below meth c 0 0 (zQi P below args s D cy g) 3 D cy g 4 [(0, .ref (g q_0)), (1, .int x_1), (2, .int x_2)] [] σ := by
  intro n
  induction n with
  | zero => intro x_1 x_2 σ h; exact h.elim
  | succ n ih =>
    intro x_1 x_2 σ h
    unfold w_X0_stations_4 at h
    refine zx_iload_n C dX0_stations_4 2 rfl ?_
    refine zx_aload_n C dX0_stations_5 0 rfl ?_
    refine zx_getI C hq_0.1 fg_X0_45 rfl dX0_stations_6 ?_
    refine zx_icmp_ge C 38 dX0_stations_9 (by decide) (fun q => ?_) (fun q => ?_)
    · replace h := h.1 q
      refine zx_iload_n C dX0_stations_38 1 rfl ?_
      exact zx_iret C hr dX0_stations_39 h
    · replace h := h.2 q
      refine zx_iload_n C dX0_stations_12 1 rfl ?_
      refine zx_aload_n C dX0_stations_13 0 rfl ?_
      refine zx_getR C hq_0.1 fg_X0_24 rfl (q_0 + 5) rfl dX0_stations_14 ?_
      refine zx_iload_n C dX0_stations_17 2 rfl ?_
      obtain ⟨bd1, h⟩ := h
      refine zx_iald C (x_2).toNatClampNeg hq_0.2.2.2.2.2.1 bd1 rfl dX0_stations_18 ?_
      refine zx_iconst (v := (-1 : Int32)) C dX0_stations_19 (by decide) ?_
      refine zx_icmp_ne C 27 dX0_stations_20 (by decide) (fun q => ?_) (fun q => ?_)
      · replace h := h.1 q
        refine zx_iconst (v := (1 : Int32)) C dX0_stations_27 (by decide) ?_
        refine zx_iload_n C dX0_stations_28 2 rfl ?_
        refine zx_ishl C dX0_stations_29 ?_
        refine zx_ior C dX0_stations_30 ?_
        refine zx_topi (fun x2 ex2 => ?_)
        replace h := h x2 ex2
        refine zx_istore_n (lv' := [(1, .int x2), (0, .ref (g q_0)), (2, .int x_2)]) C dX0_stations_31 (by decide) rfl ?_
        obtain ⟨x3, ex3⟩ : ∃ y : Int32, y = (x_2 + (1 : Int32)) := ⟨_, rfl⟩
        replace h := h x3 ex3
        refine zx_iinc (v := x3) (lv' := [(2, .int x3), (1, .int x2), (0, .ref (g q_0))]) C dX0_stations_32 2 rfl (by rw [ex3]; rfl) (by decide) rfl ?_
        refine zx_goto C 4 dX0_stations_35 (by decide) ?_
        refine zx_lv (lv' := [(0, .ref (g q_0)), (1, .int x2), (2, .int x3)]) [2, 1, 0] rfl ?_
        exact ih x2 x3 σ h
      · replace h := h.2 q
        refine zx_iconst (v := (0 : Int32)) C dX0_stations_23 (by decide) ?_
        refine zx_goto C 30 dX0_stations_24 (by decide) ?_
        refine zx_ior C dX0_stations_30 ?_
        refine zx_topi (fun x4 ex4 => ?_)
        replace h := h x4 ex4
        refine zx_istore_n (lv' := [(1, .int x4), (0, .ref (g q_0)), (2, .int x_2)]) C dX0_stations_31 (by decide) rfl ?_
        obtain ⟨x5, ex5⟩ : ∃ y : Int32, y = (x_2 + (1 : Int32)) := ⟨_, rfl⟩
        replace h := h x5 ex5
        refine zx_iinc (v := x5) (lv' := [(2, .int x5), (1, .int x4), (0, .ref (g q_0))]) C dX0_stations_32 2 rfl (by rw [ex5]; rfl) (by decide) rfl ?_
        refine zx_goto C 4 dX0_stations_35 (by decide) ?_
        refine zx_lv (lv' := [(0, .ref (g q_0)), (1, .int x4), (2, .int x5)]) [2, 1, 0] rfl ?_
        exact ih x4 x5 σ h
set_option maxRecDepth 100000 in
set_option maxHeartbeats 4000000 in
theorem c_X0_stations (l : Launch) (D : va_G) (cy : Nat → ClassId) (g : Nat → Nat) (t : Nat) (ht : zIsLine t) (σ : zSto) {P : Int32 → zSto → Prop} (h : w_X0_stations t σ P) : zMi l yX0_stations cX0_stations 3 (some .int) (zrm 0 0) D cy g [.ref (g t)] σ P := by
  unfold w_X0_stations at h
  refine zm_i RX0 rfl (by decide +kernel) (Nat.le_of_ble_eq_true rfl) ?_
  intro p e s m below meth c C hr
  refine zx_lv (lv' := [(0, .ref (g t))]) [0] rfl ?_
  refine zx_iconst (v := (0 : Int32)) C dX0_stations_0 (by decide) ?_
  refine zx_istore_n (lv' := [(1, .int (0 : Int32)), (0, .ref (g t))]) C dX0_stations_1 (by decide) rfl ?_
  refine zx_iconst (v := (0 : Int32)) C dX0_stations_2 (by decide) ?_
  refine zx_istore_n (lv' := [(2, .int (0 : Int32)), (1, .int (0 : Int32)), (0, .ref (g t))]) C dX0_stations_3 (by decide) rfl ?_
  obtain ⟨n, h⟩ := h
  refine zx_lv (lv' := [(0, .ref (g t)), (1, .int (0 : Int32)), (2, .int (0 : Int32))]) [2, 1, 0] rfl ?_
  exact k_X0_stations_4 C hr (t) ht  n (0 : Int32) (0 : Int32) σ h
def w_X0_stationBehind_4 (q_0 : Nat) (P : Int32 → zSto → Prop)  : Nat → Int32 → zSto → Prop
  | 0, _, _ => False
  | n + 1, x_2, σ => (((σ.1 q_0 11) ≤ x_2 → P (-1 : Int32) σ) ∧ (¬ (σ.1 q_0 11) ≤ x_2 → (vp_in x_2 16 ∧ (((σ.1 (q_0 + 5) (x_2).toNatClampNeg) = (-1 : Int32) → (∀ x3 : Int32, x3 = (x_2 + (1 : Int32)) → w_X0_stationBehind_4 q_0 P n x3 σ)) ∧ (¬ (σ.1 (q_0 + 5) (x_2).toNatClampNeg) = (-1 : Int32) → P x_2 σ)))))
def w_X0_stationBehind (t : Nat) (a1 : Int32) (σ : zSto) (P : Int32 → zSto → Prop) : Prop := (∀ x1 : Int32, x1 = (a1 + (1 : Int32)) → (∃ n : Nat, w_X0_stationBehind_4 t P  n x1 σ))
set_option maxRecDepth 100000 in
set_option maxHeartbeats 4000000 in
theorem k_X0_stationBehind_4 {p : Program} {l : Launch} {e : Env} {s : State} {m : MethodId} {args : Array Value} {below : List Frame} {meth : Method} {c : Code} {D : va_G} {cy : Nat → ClassId} {g : Nat → Nat} (C : zC p s m args meth c cX0_stationBehind RX0 3 D cy g) (hr : meth.sig.returnType = (some .int)) {P : Int32 → zSto → Prop} (q_0 : Nat) (hq_0 : zIsLine q_0)   : ∀ (n : Nat) (x_2 : Int32) (σ : zSto), w_X0_stationBehind_4 q_0 P n x_2 σ → zX p l e (zrm 0 0) s m args below meth c 0 0 (zQi P below args s D cy g) 3 D cy g 4 [(0, .ref (g q_0)), (2, .int x_2)] [] σ := by
  intro n
  induction n with
  | zero => intro x_2 σ h; exact h.elim
  | succ n ih =>
    intro x_2 σ h
    unfold w_X0_stationBehind_4 at h
    refine zx_iload_n C dX0_stationBehind_4 1 rfl ?_
    refine zx_aload_n C dX0_stationBehind_5 0 rfl ?_
    refine zx_getI C hq_0.1 fg_X0_45 rfl dX0_stationBehind_6 ?_
    refine zx_icmp_ge C 30 dX0_stationBehind_9 (by decide) (fun q => ?_) (fun q => ?_)
    · replace h := h.1 q
      refine zx_iconst (v := (-1 : Int32)) C dX0_stationBehind_30 (by decide) ?_
      exact zx_iret C hr dX0_stationBehind_31 h
    · replace h := h.2 q
      refine zx_aload_n C dX0_stationBehind_12 0 rfl ?_
      refine zx_getR C hq_0.1 fg_X0_24 rfl (q_0 + 5) rfl dX0_stationBehind_13 ?_
      refine zx_iload_n C dX0_stationBehind_16 1 rfl ?_
      obtain ⟨bd2, h⟩ := h
      refine zx_iald C (x_2).toNatClampNeg hq_0.2.2.2.2.2.1 bd2 rfl dX0_stationBehind_17 ?_
      refine zx_iconst (v := (-1 : Int32)) C dX0_stationBehind_18 (by decide) ?_
      refine zx_icmp_eq C 24 dX0_stationBehind_19 (by decide) (fun q => ?_) (fun q => ?_)
      · replace h := h.1 q
        obtain ⟨x3, ex3⟩ : ∃ y : Int32, y = (x_2 + (1 : Int32)) := ⟨_, rfl⟩
        replace h := h x3 ex3
        refine zx_iinc (v := x3) (lv' := [(2, .int x3), (0, .ref (g q_0))]) C dX0_stationBehind_24 1 rfl (by rw [ex3]; rfl) (by decide) rfl ?_
        refine zx_goto C 4 dX0_stationBehind_27 (by decide) ?_
        refine zx_lv (lv' := [(0, .ref (g q_0)), (2, .int x3)]) [1, 0] rfl ?_
        exact ih x3 σ h
      · replace h := h.2 q
        refine zx_iload_n C dX0_stationBehind_22 1 rfl ?_
        exact zx_iret C hr dX0_stationBehind_23 h
set_option maxRecDepth 100000 in
set_option maxHeartbeats 4000000 in
theorem c_X0_stationBehind (l : Launch) (D : va_G) (cy : Nat → ClassId) (g : Nat → Nat) (t : Nat) (a1 : Int32) (ht : zIsLine t) (σ : zSto) {P : Int32 → zSto → Prop} (h : w_X0_stationBehind t a1 σ P) : zMi l yX0_stationBehind cX0_stationBehind 3 (some .int) (zrm 0 0) D cy g [.ref (g t), .int a1] σ P := by
  unfold w_X0_stationBehind at h
  refine zm_i RX0 rfl (by decide +kernel) (Nat.le_of_ble_eq_true rfl) ?_
  intro p e s m below meth c C hr
  refine zx_lv (lv' := [(0, .ref (g t)), (1, .int a1)]) [0, 1] rfl ?_
  refine zx_iload_n C dX0_stationBehind_0 1 rfl ?_
  refine zx_iconst (v := (1 : Int32)) C dX0_stationBehind_1 (by decide) ?_
  refine zx_iadd C dX0_stationBehind_2 ?_
  refine zx_topi (fun x1 ex1 => ?_)
  replace h := h x1 ex1
  refine zx_istore_n (lv' := [(2, .int x1), (0, .ref (g t)), (1, .int a1)]) C dX0_stationBehind_3 (by decide) rfl ?_
  obtain ⟨n, h⟩ := h
  refine zx_lv (lv' := [(0, .ref (g t)), (2, .int x1)]) [1, 0] rfl ?_
  exact k_X0_stationBehind_4 C hr (t) ht  n x1 σ h
def w_X0_cost (t : Nat) (a1 : Int32) (σ : zSto) (P : Int32 → zSto → Prop) : Prop := (vp_in a1 16 ∧ (∀ x2 : Int32, x2 = ((σ.1 t 13) + ((2 : Int32) * (σ.1 (t + 2) (a1).toNatClampNeg))) → (vp_in a1 16 ∧ ((¬ (σ.1 (t + 2) (a1).toNatClampNeg) = (3 : Int32) → P x2 σ) ∧ ((σ.1 (t + 2) (a1).toNatClampNeg) = (3 : Int32) → ((a1 ≤ 0 → P x2 σ) ∧ (¬ a1 ≤ 0 → (vp_in (a1 - (1 : Int32)) 16 ∧ (∀ x5 : Int32, x5 = (x2 + ((2 : Int32) * (σ.1 (t + 1) ((a1 - (1 : Int32))).toNatClampNeg))) → P x5 σ)))))))))
set_option maxRecDepth 100000 in
set_option maxHeartbeats 4000000 in
theorem c_X0_cost (l : Launch) (D : va_G) (cy : Nat → ClassId) (g : Nat → Nat) (t : Nat) (a1 : Int32) (ht : zIsLine t) (σ : zSto) {P : Int32 → zSto → Prop} (h : w_X0_cost t a1 σ P) : zMi l yX0_cost cX0_cost 3 (some .int) (zrm 0 0) D cy g [.ref (g t), .int a1] σ P := by
  unfold w_X0_cost at h
  refine zm_i RX0 rfl (by decide +kernel) (Nat.le_of_ble_eq_true rfl) ?_
  intro p e s m below meth c C hr
  refine zx_lv (lv' := [(0, .ref (g t)), (1, .int a1)]) [0, 1] rfl ?_
  refine zx_aload_n C dX0_cost_0 0 rfl ?_
  refine zx_getI C ht.1 fg_X0_52 rfl dX0_cost_1 ?_
  refine zx_iconst (v := (2 : Int32)) C dX0_cost_4 (by decide) ?_
  refine zx_aload_n C dX0_cost_5 0 rfl ?_
  refine zx_getR C ht.1 fg_X0_15 rfl (t + 2) rfl dX0_cost_6 ?_
  refine zx_iload_n C dX0_cost_9 1 rfl ?_
  obtain ⟨bd1, h⟩ := h
  refine zx_iald C (a1).toNatClampNeg ht.2.2.1 bd1 rfl dX0_cost_10 ?_
  refine zx_imul C dX0_cost_11 ?_
  refine zx_iadd C dX0_cost_12 ?_
  refine zx_topi (fun x2 ex2 => ?_)
  replace h := h x2 ex2
  refine zx_istore_n (lv' := [(2, .int x2), (0, .ref (g t)), (1, .int a1)]) C dX0_cost_13 (by decide) rfl ?_
  refine zx_aload_n C dX0_cost_14 1 rfl ?_
  refine zx_getR C ht.1 fg_X0_15 rfl (t + 2) rfl dX0_cost_15 ?_
  refine zx_iload_n C dX0_cost_18 2 rfl ?_
  obtain ⟨bd3, h⟩ := h
  refine zx_iald C (a1).toNatClampNeg ht.2.2.1 bd3 rfl dX0_cost_19 ?_
  refine zx_iconst (v := (3 : Int32)) C dX0_cost_20 (by decide) ?_
  refine zx_icmp_ne C 41 dX0_cost_21 (by decide) (fun q => ?_) (fun q => ?_)
  · replace h := h.1 q
    refine zx_iload_n C dX0_cost_41 0 rfl ?_
    exact zx_iret C hr dX0_cost_42 h
  · replace h := h.2 q
    refine zx_iload_n C dX0_cost_24 2 rfl ?_
    refine zx_if_le C 41 dX0_cost_25 (by decide) (fun q => ?_) (fun q => ?_)
    · replace h := h.1 q
      refine zx_iload_n C dX0_cost_41 0 rfl ?_
      exact zx_iret C hr dX0_cost_42 h
    · replace h := h.2 q
      refine zx_iload_n C dX0_cost_28 0 rfl ?_
      refine zx_iconst (v := (2 : Int32)) C dX0_cost_29 (by decide) ?_
      refine zx_aload_n C dX0_cost_30 1 rfl ?_
      refine zx_getR C ht.1 fg_X0_9 rfl (t + 1) rfl dX0_cost_31 ?_
      refine zx_iload_n C dX0_cost_34 2 rfl ?_
      refine zx_iconst (v := (1 : Int32)) C dX0_cost_35 (by decide) ?_
      refine zx_isub C dX0_cost_36 ?_
      obtain ⟨bd4, h⟩ := h
      refine zx_iald C ((a1 - (1 : Int32))).toNatClampNeg ht.2.1 bd4 rfl dX0_cost_37 ?_
      refine zx_imul C dX0_cost_38 ?_
      refine zx_iadd C dX0_cost_39 ?_
      refine zx_topi (fun x5 ex5 => ?_)
      replace h := h x5 ex5
      refine zx_istore_n (lv' := [(2, .int x5), (0, .ref (g t)), (1, .int a1)]) C dX0_cost_40 (by decide) rfl ?_
      refine zx_iload_n C dX0_cost_41 0 rfl ?_
      exact zx_iret C hr dX0_cost_42 h
def w_X0_poundsIn (t : Nat) (a1 : Int32) (a2 : Int32) (σ : zSto) (P : Int32 → zSto → Prop) : Prop := (vp_in a1 16 ∧ P (if (0 : Int32) < ((σ.1 (t + 3) (a1).toNatClampNeg) - ((σ.1 t 14) * a2)) then ((σ.1 (t + 3) (a1).toNatClampNeg) - ((σ.1 t 14) * a2)) else (0 : Int32)) σ)
set_option maxRecDepth 100000 in
set_option maxHeartbeats 4000000 in
theorem c_X0_poundsIn (l : Launch) (D : va_G) (cy : Nat → ClassId) (g : Nat → Nat) (t : Nat) (a1 : Int32) (a2 : Int32) (ht : zIsLine t) (σ : zSto) {P : Int32 → zSto → Prop} (h : w_X0_poundsIn t a1 a2 σ P) : zMi l yX0_poundsIn cX0_poundsIn 3 (some .int) (zrm 1 64) D cy g [.ref (g t), .int a1, .int a2] σ P := by
  unfold w_X0_poundsIn at h
  refine zm_i RX0 rfl (by decide +kernel) (Nat.le_of_ble_eq_true rfl) ?_
  intro p e s m below meth c C hr
  refine zx_lv (lv' := [(0, .ref (g t)), (1, .int a1), (2, .int a2)]) [0, 1, 2] rfl ?_
  refine zx_iconst (v := (0 : Int32)) C dX0_poundsIn_0 (by decide) ?_
  refine zx_aload_n C dX0_poundsIn_1 0 rfl ?_
  refine zx_getR C ht.1 fg_X0_18 rfl (t + 3) rfl dX0_poundsIn_2 ?_
  refine zx_iload_n C dX0_poundsIn_5 1 rfl ?_
  obtain ⟨bd1, h⟩ := h
  refine zx_iald C (a1).toNatClampNeg ht.2.2.2.1 bd1 rfl dX0_poundsIn_6 ?_
  refine zx_aload_n C dX0_poundsIn_7 0 rfl ?_
  refine zx_getI C ht.1 fg_X0_55 rfl dX0_poundsIn_8 ?_
  refine zx_iload_n C dX0_poundsIn_11 2 rfl ?_
  refine zx_imul C dX0_poundsIn_12 ?_
  refine zx_isub C dX0_poundsIn_13 ?_
  refine zx_max C ml_X0_77 st_math_max ini_J9 cd_math_max (Nat.le_of_ble_eq_true rfl) (Nat.le_of_ble_eq_true rfl) ⟨Nat.zero_le _, Nat.zero_le _⟩ dX0_poundsIn_14 ?_
  exact zx_iret C hr dX0_poundsIn_17 h
def w_X0_minutesTo_4 (q_0 : Nat) (x_1 : Int32) (P : Int32 → zSto → Prop)  : Nat → Int32 → Int32 → zSto → Prop
  | 0, _, _, _ => False
  | n + 1, x_2, x_3, σ => ((x_1 ≤ x_3 → P x_2 σ) ∧ (¬ x_1 ≤ x_3 → (vp_in x_3 16 ∧ (∀ x2 : Int32, x2 = (x_2 + (σ.1 (q_0 + 1) (x_3).toNatClampNeg)) → (∀ x3 : Int32, x3 = (x_3 + (1 : Int32)) → w_X0_minutesTo_4 q_0 x_1 P n x2 x3 σ)))))
def w_X0_minutesTo (t : Nat) (a1 : Int32) (σ : zSto) (P : Int32 → zSto → Prop) : Prop := (∃ n : Nat, w_X0_minutesTo_4 t a1 P  n (0 : Int32) (0 : Int32) σ)
set_option maxRecDepth 100000 in
set_option maxHeartbeats 4000000 in
theorem k_X0_minutesTo_4 {p : Program} {l : Launch} {e : Env} {s : State} {m : MethodId} {args : Array Value} {below : List Frame} {meth : Method} {c : Code} {D : va_G} {cy : Nat → ClassId} {g : Nat → Nat} (C : zC p s m args meth c cX0_minutesTo RX0 4 D cy g) (hr : meth.sig.returnType = (some .int)) {P : Int32 → zSto → Prop} (q_0 : Nat) (x_1 : Int32) (hq_0 : zIsLine q_0)   : ∀ (n : Nat) (x_2 : Int32) (x_3 : Int32) (σ : zSto), w_X0_minutesTo_4 q_0 x_1 P n x_2 x_3 σ → zX p l e (zrm 0 0) s m args below meth c 0 0 (zQi P below args s D cy g) 4 D cy g 4 [(0, .ref (g q_0)), (1, .int x_1), (2, .int x_2), (3, .int x_3)] [] σ := by
  intro n
  induction n with
  | zero => intro x_2 x_3 σ h; exact h.elim
  | succ n ih =>
    intro x_2 x_3 σ h
    unfold w_X0_minutesTo_4 at h
    refine zx_iload_n C dX0_minutesTo_4 3 rfl ?_
    refine zx_iload_n C dX0_minutesTo_5 1 rfl ?_
    refine zx_icmp_ge C 24 dX0_minutesTo_6 (by decide) (fun q => ?_) (fun q => ?_)
    · replace h := h.1 q
      refine zx_iload_n C dX0_minutesTo_24 2 rfl ?_
      exact zx_iret C hr dX0_minutesTo_25 h
    · replace h := h.2 q
      refine zx_iload_n C dX0_minutesTo_9 2 rfl ?_
      refine zx_aload_n C dX0_minutesTo_10 0 rfl ?_
      refine zx_getR C hq_0.1 fg_X0_9 rfl (q_0 + 1) rfl dX0_minutesTo_11 ?_
      refine zx_iload_n C dX0_minutesTo_14 3 rfl ?_
      obtain ⟨bd1, h⟩ := h
      refine zx_iald C (x_3).toNatClampNeg hq_0.2.1 bd1 rfl dX0_minutesTo_15 ?_
      refine zx_iadd C dX0_minutesTo_16 ?_
      refine zx_topi (fun x2 ex2 => ?_)
      replace h := h x2 ex2
      refine zx_istore_n (lv' := [(2, .int x2), (0, .ref (g q_0)), (1, .int x_1), (3, .int x_3)]) C dX0_minutesTo_17 (by decide) rfl ?_
      obtain ⟨x3, ex3⟩ : ∃ y : Int32, y = (x_3 + (1 : Int32)) := ⟨_, rfl⟩
      replace h := h x3 ex3
      refine zx_iinc (v := x3) (lv' := [(3, .int x3), (2, .int x2), (0, .ref (g q_0)), (1, .int x_1)]) C dX0_minutesTo_18 3 rfl (by rw [ex3]; rfl) (by decide) rfl ?_
      refine zx_goto C 4 dX0_minutesTo_21 (by decide) ?_
      refine zx_lv (lv' := [(0, .ref (g q_0)), (1, .int x_1), (2, .int x2), (3, .int x3)]) [2, 3, 1, 0] rfl ?_
      exact ih x2 x3 σ h
set_option maxRecDepth 100000 in
set_option maxHeartbeats 4000000 in
theorem c_X0_minutesTo (l : Launch) (D : va_G) (cy : Nat → ClassId) (g : Nat → Nat) (t : Nat) (a1 : Int32) (ht : zIsLine t) (σ : zSto) {P : Int32 → zSto → Prop} (h : w_X0_minutesTo t a1 σ P) : zMi l yX0_minutesTo cX0_minutesTo 4 (some .int) (zrm 0 0) D cy g [.ref (g t), .int a1] σ P := by
  unfold w_X0_minutesTo at h
  refine zm_i RX0 rfl (by decide +kernel) (Nat.le_of_ble_eq_true rfl) ?_
  intro p e s m below meth c C hr
  refine zx_lv (lv' := [(0, .ref (g t)), (1, .int a1)]) [0, 1] rfl ?_
  refine zx_iconst (v := (0 : Int32)) C dX0_minutesTo_0 (by decide) ?_
  refine zx_istore_n (lv' := [(2, .int (0 : Int32)), (0, .ref (g t)), (1, .int a1)]) C dX0_minutesTo_1 (by decide) rfl ?_
  refine zx_iconst (v := (0 : Int32)) C dX0_minutesTo_2 (by decide) ?_
  refine zx_istore_n (lv' := [(3, .int (0 : Int32)), (2, .int (0 : Int32)), (0, .ref (g t)), (1, .int a1)]) C dX0_minutesTo_3 (by decide) rfl ?_
  obtain ⟨n, h⟩ := h
  refine zx_lv (lv' := [(0, .ref (g t)), (1, .int a1), (2, .int (0 : Int32)), (3, .int (0 : Int32))]) [2, 3, 1, 0] rfl ?_
  exact k_X0_minutesTo_4 C hr (t) (a1) ht  n (0 : Int32) (0 : Int32) σ h
theorem lk_X0_83 : zLV RX0 83 RX0 yX0_cost cX0_cost 3 (some .int) 1 := zLV_of ml_X0_83 im_X0_cost se_X0_cost ini_X0 cd_X0_cost (by decide +kernel)
def w_X0_costsBefore_5 (q_0 : Nat) (x_1 : Int32) (x_2 : Int32) (P : Int32 → zSto → Prop)  : Nat → Int32 → Int32 → zSto → Prop
  | 0, _, _, _ => False
  | n + 1, x_3, x_4, σ => ((x_1 ≤ x_4 → P x_3 σ) ∧ (¬ x_1 ≤ x_4 → ((((x_2 >>> (x_4 &&& 31)) &&& (1 : Int32)) = 0 → (∀ x1 : Int32, x1 = (x_4 + (1 : Int32)) → w_X0_costsBefore_5 q_0 x_1 x_2 P n x_3 x1 σ)) ∧ (¬ ((x_2 >>> (x_4 &&& 31)) &&& (1 : Int32)) = 0 → (w_X0_cost q_0 x_4 σ (fun (r3 : Int32) (σ2 : zSto) => (∀ x4 : Int32, x4 = (x_3 + r3) → (∀ x5 : Int32, x5 = (x_4 + (1 : Int32)) → w_X0_costsBefore_5 q_0 x_1 x_2 P n x4 x5 σ2))))))))
def w_X0_costsBefore (t : Nat) (a1 : Int32) (a2 : Int32) (σ : zSto) (P : Int32 → zSto → Prop) : Prop := (∃ n : Nat, w_X0_costsBefore_5 t a1 a2 P  n (0 : Int32) (0 : Int32) σ)
set_option maxRecDepth 100000 in
set_option maxHeartbeats 4000000 in
theorem k_X0_costsBefore_5 {p : Program} {l : Launch} {e : Env} {s : State} {m : MethodId} {args : Array Value} {below : List Frame} {meth : Method} {c : Code} {D : va_G} {cy : Nat → ClassId} {g : Nat → Nat} (C : zC p s m args meth c cX0_costsBefore RX0 5 D cy g) (hr : meth.sig.returnType = (some .int)) {P : Int32 → zSto → Prop} (q_0 : Nat) (x_1 : Int32) (x_2 : Int32) (hq_0 : zIsLine q_0)   : ∀ (n : Nat) (x_3 : Int32) (x_4 : Int32) (σ : zSto), w_X0_costsBefore_5 q_0 x_1 x_2 P n x_3 x_4 σ → zX p l e (zrm 1 22) s m args below meth c 0 0 (zQi P below args s D cy g) 5 D cy g 5 [(0, .ref (g q_0)), (1, .int x_1), (2, .int x_2), (3, .int x_3), (4, .int x_4)] [] σ := by
  intro n
  induction n with
  | zero => intro x_3 x_4 σ h; exact h.elim
  | succ n ih =>
    intro x_3 x_4 σ h
    unfold w_X0_costsBefore_5 at h
    refine zx_iload C dX0_costsBefore_5 4 rfl ?_
    refine zx_iload_n C dX0_costsBefore_7 1 rfl ?_
    refine zx_icmp_ge C 35 dX0_costsBefore_8 (by decide) (fun q => ?_) (fun q => ?_)
    · replace h := h.1 q
      refine zx_iload_n C dX0_costsBefore_35 3 rfl ?_
      exact zx_iret C hr dX0_costsBefore_36 h
    · replace h := h.2 q
      refine zx_iload_n C dX0_costsBefore_11 2 rfl ?_
      refine zx_iload C dX0_costsBefore_12 4 rfl ?_
      refine zx_ishr C dX0_costsBefore_14 ?_
      refine zx_iconst (v := (1 : Int32)) C dX0_costsBefore_15 (by decide) ?_
      refine zx_iand C dX0_costsBefore_16 ?_
      refine zx_if_eq C 29 dX0_costsBefore_17 (by decide) (fun q => ?_) (fun q => ?_)
      · replace h := h.1 q
        obtain ⟨x1, ex1⟩ : ∃ y : Int32, y = (x_4 + (1 : Int32)) := ⟨_, rfl⟩
        replace h := h x1 ex1
        refine zx_iinc (v := x1) (lv' := [(4, .int x1), (0, .ref (g q_0)), (1, .int x_1), (2, .int x_2), (3, .int x_3)]) C dX0_costsBefore_29 4 rfl (by rw [ex1]; rfl) (by decide) rfl ?_
        refine zx_goto C 5 dX0_costsBefore_32 (by decide) ?_
        refine zx_lv (lv' := [(0, .ref (g q_0)), (1, .int x_1), (2, .int x_2), (3, .int x_3), (4, .int x1)]) [1, 2, 3, 4, 0] rfl ?_
        exact ih x_3 x1 σ h
      · replace h := h.2 q
        refine zx_iload_n C dX0_costsBefore_20 3 rfl ?_
        refine zx_aload_n C dX0_costsBefore_21 0 rfl ?_
        refine zx_iload C dX0_costsBefore_22 4 rfl ?_
        refine zx_cVi C [.int x_4] lk_X0_83 (c_X0_cost l D cy g q_0 x_4 hq_0 σ h) hq_0.1 rfl ⟨by decide, by decide⟩ ⟨rfl, rfl⟩ ⟨Nat.zero_le _, Nat.zero_le _⟩ rfl rfl (Nat.le_of_ble_eq_true rfl) dX0_costsBefore_24 (fun r3 σ2 h => ?_)
        refine zx_iadd C dX0_costsBefore_27 ?_
        refine zx_topi (fun x4 ex4 => ?_)
        replace h := h x4 ex4
        refine zx_istore_n (lv' := [(3, .int x4), (0, .ref (g q_0)), (1, .int x_1), (2, .int x_2), (4, .int x_4)]) C dX0_costsBefore_28 (by decide) rfl ?_
        obtain ⟨x5, ex5⟩ : ∃ y : Int32, y = (x_4 + (1 : Int32)) := ⟨_, rfl⟩
        replace h := h x5 ex5
        refine zx_iinc (v := x5) (lv' := [(4, .int x5), (3, .int x4), (0, .ref (g q_0)), (1, .int x_1), (2, .int x_2)]) C dX0_costsBefore_29 4 rfl (by rw [ex5]; rfl) (by decide) rfl ?_
        refine zx_goto C 5 dX0_costsBefore_32 (by decide) ?_
        refine zx_lv (lv' := [(0, .ref (g q_0)), (1, .int x_1), (2, .int x_2), (3, .int x4), (4, .int x5)]) [2, 3, 4, 1, 0] rfl ?_
        exact ih x4 x5 σ2 h
set_option maxRecDepth 100000 in
set_option maxHeartbeats 4000000 in
theorem c_X0_costsBefore (l : Launch) (D : va_G) (cy : Nat → ClassId) (g : Nat → Nat) (t : Nat) (a1 : Int32) (a2 : Int32) (ht : zIsLine t) (σ : zSto) {P : Int32 → zSto → Prop} (h : w_X0_costsBefore t a1 a2 σ P) : zMi l yX0_costsBefore cX0_costsBefore 5 (some .int) (zrm 1 22) D cy g [.ref (g t), .int a1, .int a2] σ P := by
  unfold w_X0_costsBefore at h
  refine zm_i RX0 rfl (by decide +kernel) (Nat.le_of_ble_eq_true rfl) ?_
  intro p e s m below meth c C hr
  refine zx_lv (lv' := [(0, .ref (g t)), (1, .int a1), (2, .int a2)]) [0, 1, 2] rfl ?_
  refine zx_iconst (v := (0 : Int32)) C dX0_costsBefore_0 (by decide) ?_
  refine zx_istore_n (lv' := [(3, .int (0 : Int32)), (0, .ref (g t)), (1, .int a1), (2, .int a2)]) C dX0_costsBefore_1 (by decide) rfl ?_
  refine zx_iconst (v := (0 : Int32)) C dX0_costsBefore_2 (by decide) ?_
  refine zx_istore (lv' := [(4, .int (0 : Int32)), (3, .int (0 : Int32)), (0, .ref (g t)), (1, .int a1), (2, .int a2)]) C dX0_costsBefore_3 (by decide) rfl ?_
  obtain ⟨n, h⟩ := h
  refine zx_lv (lv' := [(0, .ref (g t)), (1, .int a1), (2, .int a2), (3, .int (0 : Int32)), (4, .int (0 : Int32))]) [2, 3, 4, 1, 0] rfl ?_
  exact k_X0_costsBefore_5 C hr (t) (a1) (a2) ht  n (0 : Int32) (0 : Int32) σ h
theorem lk_X1_47 : zLV RX1 47 RX0 yX0_isStation cX0_isStation 2 (some .boolean) 1 := zLV_of ml_X1_47 im_X0_isStation se_X0_isStation ini_X0 cd_X0_isStation (by decide +kernel)
theorem lk_X1_51 : zLV RX1 51 RX0 yX0_stationBehind cX0_stationBehind 3 (some .int) 1 := zLV_of ml_X1_51 im_X0_stationBehind se_X0_stationBehind ini_X0 cd_X0_stationBehind (by decide +kernel)
theorem lk_X1_27 : zLV RX1 27 RX0 yX0_minutesTo cX0_minutesTo 4 (some .int) 1 := zLV_of ml_X1_27 im_X0_minutesTo se_X0_minutesTo ini_X0 cd_X0_minutesTo (by decide +kernel)
def w_X1_waitAt (b1 : Nat) (a2 : Int32) (a3 : Int32) (a4 : Int32) (σ : zSto) (P : Int32 → zSto → Prop) : Prop := (w_X0_isStation b1 a2 σ (fun (r2 : Int32) (σ1 : zSto) => (r2 = 0 ∨ r2 = 1) → ((r2 = 0 → P (0 : Int32) σ1) ∧ (¬ r2 = 0 → (w_X0_stationBehind b1 a2 σ1 (fun (r4 : Int32) (σ3 : zSto) => ((¬ r4 = (-1 : Int32) → (w_X0_minutesTo b1 r4 σ3 (fun (r6 : Int32) (σ5 : zSto) => (w_X0_minutesTo b1 a2 σ5 (fun (r8 : Int32) (σ7 : zSto) => (∀ x9 : Int32, x9 = (r6 - r8) → ((a4 ≤ a3 → P (0 : Int32) σ7) ∧ (¬ a4 ≤ a3 → (((a3 + x9) ≤ (a4 - x9) → P (0 : Int32) σ7) ∧ (¬ (a3 + x9) ≤ (a4 - x9) → P (a4 - a3) σ7)))))))))) ∧ (r4 = (-1 : Int32) → P (0 : Int32) σ3))))))))
set_option maxRecDepth 100000 in
set_option maxHeartbeats 4000000 in
theorem c_X1_waitAt (l : Launch) (D : va_G) (cy : Nat → ClassId) (g : Nat → Nat) (b1 : Nat) (a2 : Int32) (a3 : Int32) (a4 : Int32) (hb1 : zIsLine b1) (σ : zSto) {P : Int32 → zSto → Prop} (h : w_X1_waitAt b1 a2 a3 a4 σ P) : zMi l yX1_waitAt cX1_waitAt 6 (some .int) (zrm 2 42) D cy g [.ref (g b1), .int a2, .int a3, .int a4] σ P := by
  unfold w_X1_waitAt at h
  refine zm_i RX1 rfl (by decide +kernel) (Nat.le_of_ble_eq_true rfl) ?_
  intro p e s m below meth c C hr
  refine zx_lv (lv' := [(0, .ref (g b1)), (1, .int a2), (2, .int a3), (3, .int a4)]) [0, 1, 2, 3] rfl ?_
  refine zx_aload_n C dX1_waitAt_0 0 rfl ?_
  refine zx_iload_n C dX1_waitAt_1 1 rfl ?_
  refine zx_cVb C [.int a2] lk_X1_47 (c_X0_isStation l D cy g b1 a2 hb1 σ h) hb1.1 rfl ⟨by decide, by decide⟩ ⟨rfl, rfl⟩ ⟨Nat.zero_le _, Nat.zero_le _⟩ rfl rfl (Nat.le_of_ble_eq_true rfl) dX1_waitAt_2 (fun r2 σ1 hb h => ?_)
  replace h := h hb
  refine zx_if_eq C 16 dX1_waitAt_5 (by decide) (fun q => ?_) (fun q => ?_)
  · replace h := h.1 q
    refine zx_iconst (v := (-1 : Int32)) C dX1_waitAt_16 (by decide) ?_
    refine zx_istore (lv' := [(4, .int (-1 : Int32)), (0, .ref (g b1)), (1, .int a2), (2, .int a3), (3, .int a4)]) C dX1_waitAt_17 (by decide) rfl ?_
    refine zx_iload C dX1_waitAt_19 0 rfl ?_
    refine zx_iconst (v := (-1 : Int32)) C dX1_waitAt_21 (by decide) ?_
    refine zx_icmp_ne C 27 dX1_waitAt_22 (by decide) (fun q => ?_) (fun q => ?_)
    · exact absurd q (by decide)
    · refine zx_iconst (v := (0 : Int32)) C dX1_waitAt_25 (by decide) ?_
      exact zx_iret C hr dX1_waitAt_26 h
  · replace h := h.2 q
    refine zx_aload_n C dX1_waitAt_8 0 rfl ?_
    refine zx_iload_n C dX1_waitAt_9 1 rfl ?_
    refine zx_cVi C [.int a2] lk_X1_51 (c_X0_stationBehind l D cy g b1 a2 hb1 σ1 h) hb1.1 rfl ⟨by decide, by decide⟩ ⟨rfl, rfl⟩ ⟨Nat.zero_le _, Nat.zero_le _⟩ rfl rfl (Nat.le_of_ble_eq_true rfl) dX1_waitAt_10 (fun r4 σ3 h => ?_)
    refine zx_goto C 17 dX1_waitAt_13 (by decide) ?_
    refine zx_istore (lv' := [(4, .int r4), (0, .ref (g b1)), (1, .int a2), (2, .int a3), (3, .int a4)]) C dX1_waitAt_17 (by decide) rfl ?_
    refine zx_iload C dX1_waitAt_19 0 rfl ?_
    refine zx_iconst (v := (-1 : Int32)) C dX1_waitAt_21 (by decide) ?_
    refine zx_icmp_ne C 27 dX1_waitAt_22 (by decide) (fun q => ?_) (fun q => ?_)
    · replace h := h.1 q
      refine zx_aload_n C dX1_waitAt_27 1 rfl ?_
      refine zx_iload C dX1_waitAt_28 0 rfl ?_
      refine zx_cVi C [.int r4] lk_X1_27 (c_X0_minutesTo l D cy g b1 r4 hb1 σ3 h) hb1.1 rfl ⟨by decide, by decide⟩ ⟨rfl, rfl⟩ ⟨Nat.zero_le _, Nat.zero_le _⟩ rfl rfl (Nat.le_of_ble_eq_true rfl) dX1_waitAt_30 (fun r6 σ5 h => ?_)
      refine zx_aload_n C dX1_waitAt_33 1 rfl ?_
      refine zx_iload_n C dX1_waitAt_34 2 rfl ?_
      refine zx_cVi C [.int a2] lk_X1_27 (c_X0_minutesTo l D cy g b1 a2 hb1 σ5 h) hb1.1 rfl ⟨by decide, by decide⟩ ⟨rfl, rfl⟩ ⟨Nat.zero_le _, Nat.zero_le _⟩ rfl rfl (Nat.le_of_ble_eq_true rfl) dX1_waitAt_35 (fun r8 σ7 h => ?_)
      refine zx_isub C dX1_waitAt_38 ?_
      refine zx_topi (fun x9 ex9 => ?_)
      replace h := h x9 ex9
      refine zx_istore (lv' := [(5, .int x9), (4, .int r4), (0, .ref (g b1)), (1, .int a2), (2, .int a3), (3, .int a4)]) C dX1_waitAt_39 (by decide) rfl ?_
      refine zx_iload_n C dX1_waitAt_41 5 rfl ?_
      refine zx_iload_n C dX1_waitAt_42 4 rfl ?_
      refine zx_icmp_le C 63 dX1_waitAt_43 (by decide) (fun q => ?_) (fun q => ?_)
      · replace h := h.1 q
        refine zx_iconst (v := (0 : Int32)) C dX1_waitAt_63 (by decide) ?_
        exact zx_iret C hr dX1_waitAt_64 h
      · replace h := h.2 q
        refine zx_iload_n C dX1_waitAt_46 5 rfl ?_
        refine zx_iload C dX1_waitAt_47 0 rfl ?_
        refine zx_isub C dX1_waitAt_49 ?_
        refine zx_iload_n C dX1_waitAt_50 4 rfl ?_
        refine zx_iload C dX1_waitAt_51 0 rfl ?_
        refine zx_iadd C dX1_waitAt_53 ?_
        refine zx_icmp_ge C 63 dX1_waitAt_54 (by decide) (fun q => ?_) (fun q => ?_)
        · replace h := h.1 q
          refine zx_iconst (v := (0 : Int32)) C dX1_waitAt_63 (by decide) ?_
          exact zx_iret C hr dX1_waitAt_64 h
        · replace h := h.2 q
          refine zx_iload_n C dX1_waitAt_57 5 rfl ?_
          refine zx_iload_n C dX1_waitAt_58 4 rfl ?_
          refine zx_isub C dX1_waitAt_59 ?_
          refine zx_goto C 64 dX1_waitAt_60 (by decide) ?_
          exact zx_iret C hr dX1_waitAt_64 h
    · replace h := h.2 q
      refine zx_iconst (v := (0 : Int32)) C dX1_waitAt_25 (by decide) ?_
      exact zx_iret C hr dX1_waitAt_26 h
theorem fg_X1_18 : zFG RX1 18 0 17 := ⟨RX0, TX0, 18, rfl, lay_X0, by decide, fl_X1_18⟩
theorem fg_X1_24 : zFG RX1 24 0 11 := ⟨RX0, TX0, 18, rfl, lay_X0, by decide, fl_X1_24⟩
theorem fp_X1_31 : zFP RX1 31 1 2 .int := ⟨RX1, TX1, 4, tyX1, rfl, lay_X1, by decide, fl_X1_31, tyX1_ok, nmX1, rfl, by decide +kernel⟩
theorem fp_X1_34 : zFP RX1 34 1 3 .int := ⟨RX1, TX1, 4, tyX1, rfl, lay_X1, by decide, fl_X1_34, tyX1_ok, nmX1, rfl, by decide +kernel⟩
theorem fg_X1_9 : zFG RX1 9 1 0 := ⟨RX1, TX1, 4, rfl, lay_X1, by decide, fl_X1_9⟩
theorem fg_X1_15 : zFG RX1 15 1 1 := ⟨RX1, TX1, 4, rfl, lay_X1, by decide, fl_X1_15⟩
theorem lk_X1_40 : zLS RX1 40 yX1_waitAt cX1_waitAt 6 (some .int) 4 := zLS_of ml_X1_40 st_X1_waitAt ini_X1 cd_X1_waitAt (by decide +kernel)
theorem fg_X1_31 : zFG RX1 31 1 2 := ⟨RX1, TX1, 4, rfl, lay_X1, by decide, fl_X1_31⟩
theorem fg_X1_44 : zFG RX1 44 0 0 := ⟨RX0, TX0, 18, rfl, lay_X0, by decide, fl_X1_44⟩
theorem fg_X1_34 : zFG RX1 34 1 3 := ⟨RX1, TX1, 4, rfl, lay_X1, by decide, fl_X1_34⟩
theorem lk_X1_37 : zLV RX1 37 RX0 yX0_cost cX0_cost 3 (some .int) 1 := zLV_of ml_X1_37 im_X0_cost se_X0_cost ini_X0 cd_X0_cost (by decide +kernel)
def w_X1_follow_32 (q_1 : Nat) (x_2 : Int32) (P : zSto → Prop)  : Nat → Int32 → Int32 → Int32 → zSto → Prop
  | 0, _, _, _, _ => False
  | n + 1, x_3, x_4, x_5, σ => (((σ.1 q_1 11) ≤ x_5 → P σ) ∧ (¬ (σ.1 q_1 11) ≤ x_5 → ((((x_2 >>> (x_5 &&& 31)) &&& (1 : Int32)) = 0 → (∀ x6 : Int32, x6 = (x_3 + (0 : Int32)) → (vp_in x_5 16 ∧ (∀ σ8 : zSto, σ8 = zI σ 196 (x_5).toNatClampNeg x_3 → (w_X1_waitAt q_1 x_5 x6 x_4 σ8 (fun (r10 : Int32) (σ9 : zSto) => (vp_in x_5 16 ∧ (∀ σ12 : zSto, σ12 = zI σ9 197 (x_5).toNatClampNeg r10 → (vp_in x_5 16 ∧ (∀ σ14 : zSto, σ14 = zI σ12 195 2 ((σ12.1 195 2) + (σ12.1 197 (x_5).toNatClampNeg)) → (vp_in x_5 16 ∧ (∀ x16 : Int32, x16 = (x6 + (σ14.1 197 (x_5).toNatClampNeg)) → (vp_in x_5 16 ∧ (∀ x18 : Int32, x18 = (x16 + (σ14.1 (q_1 + 1) (x_5).toNatClampNeg)) → (vp_in x_5 16 ∧ (∀ x20 : Int32, x20 = (x_4 - (σ14.1 (q_1 + 1) (x_5).toNatClampNeg)) → ((¬ (σ14.1 195 3) = (-1 : Int32) → (∀ x21 : Int32, x21 = (x_5 + (1 : Int32)) → w_X1_follow_32 q_1 x_2 P n x18 x20 x21 σ14)) ∧ ((σ14.1 195 3) = (-1 : Int32) → ((((σ14.1 q_1 11) - (1 : Int32)) ≤ x_5 → (∀ x22 : Int32, x22 = (x_5 + (1 : Int32)) → w_X1_follow_32 q_1 x_2 P n x18 x20 x22 σ14)) ∧ (¬ ((σ14.1 q_1 11) - (1 : Int32)) ≤ x_5 → ((x_4 ≤ x16 → (∀ x23 : Int32, x23 = (x_5 + (1 : Int32)) → w_X1_follow_32 q_1 x_2 P n x18 x20 x23 σ14)) ∧ (¬ x_4 ≤ x16 → ((x18 ≤ x20 → (∀ x24 : Int32, x24 = (x_5 + (1 : Int32)) → w_X1_follow_32 q_1 x_2 P n x18 x20 x24 σ14)) ∧ (¬ x18 ≤ x20 → (∀ σ25 : zSto, σ25 = zI σ14 195 3 x_5 → (∀ x26 : Int32, x26 = (x_5 + (1 : Int32)) → w_X1_follow_32 q_1 x_2 P n x18 x20 x26 σ25)))))))))))))))))))))))))) ∧ (¬ ((x_2 >>> (x_5 &&& 31)) &&& (1 : Int32)) = 0 → (w_X0_cost q_1 x_5 σ (fun (r28 : Int32) (σ27 : zSto) => (∀ x29 : Int32, x29 = (x_3 + r28) → (vp_in x_5 16 ∧ (∀ σ31 : zSto, σ31 = zI σ27 196 (x_5).toNatClampNeg x_3 → (w_X1_waitAt q_1 x_5 x29 x_4 σ31 (fun (r33 : Int32) (σ32 : zSto) => (vp_in x_5 16 ∧ (∀ σ35 : zSto, σ35 = zI σ32 197 (x_5).toNatClampNeg r33 → (vp_in x_5 16 ∧ (∀ σ37 : zSto, σ37 = zI σ35 195 2 ((σ35.1 195 2) + (σ35.1 197 (x_5).toNatClampNeg)) → (vp_in x_5 16 ∧ (∀ x39 : Int32, x39 = (x29 + (σ37.1 197 (x_5).toNatClampNeg)) → (vp_in x_5 16 ∧ (∀ x41 : Int32, x41 = (x39 + (σ37.1 (q_1 + 1) (x_5).toNatClampNeg)) → (vp_in x_5 16 ∧ (∀ x43 : Int32, x43 = (x_4 - (σ37.1 (q_1 + 1) (x_5).toNatClampNeg)) → ((¬ (σ37.1 195 3) = (-1 : Int32) → (∀ x44 : Int32, x44 = (x_5 + (1 : Int32)) → w_X1_follow_32 q_1 x_2 P n x41 x43 x44 σ37)) ∧ ((σ37.1 195 3) = (-1 : Int32) → ((((σ37.1 q_1 11) - (1 : Int32)) ≤ x_5 → (∀ x45 : Int32, x45 = (x_5 + (1 : Int32)) → w_X1_follow_32 q_1 x_2 P n x41 x43 x45 σ37)) ∧ (¬ ((σ37.1 q_1 11) - (1 : Int32)) ≤ x_5 → ((x_4 ≤ x39 → (∀ x46 : Int32, x46 = (x_5 + (1 : Int32)) → w_X1_follow_32 q_1 x_2 P n x41 x43 x46 σ37)) ∧ (¬ x_4 ≤ x39 → ((x41 ≤ x43 → (∀ x47 : Int32, x47 = (x_5 + (1 : Int32)) → w_X1_follow_32 q_1 x_2 P n x41 x43 x47 σ37)) ∧ (¬ x41 ≤ x43 → (∀ σ48 : zSto, σ48 = zI σ37 195 3 x_5 → (∀ x49 : Int32, x49 = (x_5 + (1 : Int32)) → w_X1_follow_32 q_1 x_2 P n x41 x43 x49 σ48)))))))))))))))))))))))))))))))
def w_X1_follow (b1 : Nat) (a2 : Int32) (σ : zSto) (P : zSto → Prop) : Prop := (w_X0_minutesTo b1 ((σ.1 b1 11) - (1 : Int32)) σ (fun (r2 : Int32) (σ1 : zSto) => (∀ x3 : Int32, x3 = ((σ.1 b1 17) + r2) → (∀ σ4 : zSto, σ4 = zI σ1 195 2 (0 : Int32) → (∀ σ5 : zSto, σ5 = zI σ4 195 3 (-1 : Int32) → (∃ n : Nat, w_X1_follow_32 b1 a2 P  n (0 : Int32) x3 (0 : Int32) σ5))))))
set_option maxRecDepth 100000 in
set_option maxHeartbeats 4000000 in
theorem k_X1_follow_32 {p : Program} {l : Launch} {e : Env} {s : State} {m : MethodId} {args : Array Value} {below : List Frame} {meth : Method} {c : Code} {D : va_G} {cy : Nat → ClassId} {g : Nat → Nat} (C : zC p s m args meth c cX1_follow RX1 9 D cy g) (hr : meth.sig.returnType = none) {P : zSto → Prop} (q_1 : Nat) (x_2 : Int32) (hq_1 : zIsLine q_1)   : ∀ (n : Nat) (x_3 : Int32) (x_4 : Int32) (x_5 : Int32) (σ : zSto), w_X1_follow_32 q_1 x_2 P n x_3 x_4 x_5 σ → zX p l e (zrm 3 67) s m args below meth c 0 0 (zQv P below args s D cy g) 9 D cy g 32 [(0, .ref (g 195)), (1, .ref (g q_1)), (2, .int x_2), (3, .int x_3), (4, .int x_4), (5, .int x_5)] [] σ := by
  intro n
  induction n with
  | zero => intro x_3 x_4 x_5 σ h; exact h.elim
  | succ n ih =>
    intro x_3 x_4 x_5 σ h
    unfold w_X1_follow_32 at h
    refine zx_iload C dX1_follow_32 5 rfl ?_
    refine zx_aload_n C dX1_follow_34 1 rfl ?_
    refine zx_getI C hq_1.1 fg_X1_24 rfl dX1_follow_35 ?_
    refine zx_icmp_ge C 188 dX1_follow_38 (by decide) (fun q => ?_) (fun q => ?_)
    · replace h := h.1 q
      exact zx_vret C hr dX1_follow_188 h
    · replace h := h.2 q
      refine zx_iload_n C dX1_follow_41 3 rfl ?_
      refine zx_iload_n C dX1_follow_42 2 rfl ?_
      refine zx_iload C dX1_follow_43 5 rfl ?_
      refine zx_ishr C dX1_follow_45 ?_
      refine zx_iconst (v := (1 : Int32)) C dX1_follow_46 (by decide) ?_
      refine zx_iand C dX1_follow_47 ?_
      refine zx_if_eq C 60 dX1_follow_48 (by decide) (fun q => ?_) (fun q => ?_)
      · replace h := h.1 q
        refine zx_iconst (v := (0 : Int32)) C dX1_follow_60 (by decide) ?_
        refine zx_iadd C dX1_follow_61 ?_
        refine zx_topi (fun x6 ex6 => ?_)
        replace h := h x6 ex6
        refine zx_istore (lv' := [(6, .int x6), (0, .ref (g 195)), (1, .ref (g q_1)), (2, .int x_2), (3, .int x_3), (4, .int x_4), (5, .int x_5)]) C dX1_follow_62 (by decide) rfl ?_
        refine zx_aload_n C dX1_follow_64 1 rfl ?_
        refine zx_getR C zs_195 fg_X1_9 rfl 196 rfl dX1_follow_65 ?_
        refine zx_iload C dX1_follow_68 6 rfl ?_
        refine zx_iload_n C dX1_follow_70 4 rfl ?_
        obtain ⟨bd7, h⟩ := h
        refine zx_iast C (x_5).toNatClampNeg zs_196 bd7 rfl dX1_follow_71 ?_
        refine zx_sig (fun σ8 eσ8 => ?_)
        replace h := h σ8 eσ8
        refine zx_aload_n C dX1_follow_72 1 rfl ?_
        refine zx_getR C zs_195 fg_X1_15 rfl 197 rfl dX1_follow_73 ?_
        refine zx_iload C dX1_follow_76 6 rfl ?_
        refine zx_aload_n C dX1_follow_78 2 rfl ?_
        refine zx_iload C dX1_follow_79 6 rfl ?_
        refine zx_iload C dX1_follow_81 0 rfl ?_
        refine zx_iload C dX1_follow_83 5 rfl ?_
        refine zx_cSi C [.ref (g q_1), .int x_5, .int x6, .int x_4] lk_X1_40 (c_X1_waitAt l D cy g q_1 x_5 x6 x_4 hq_1 σ8 h) ⟨by decide, by decide⟩ ⟨rfl, rfl⟩ ⟨Nat.zero_le _, Nat.zero_le _⟩ rfl rfl (Nat.le_of_ble_eq_true rfl) dX1_follow_85 (fun r10 σ9 h => ?_)
        obtain ⟨bd11, h⟩ := h
        refine zx_iast C (x_5).toNatClampNeg zs_197 bd11 rfl dX1_follow_88 ?_
        refine zx_sig (fun σ12 eσ12 => ?_)
        replace h := h σ12 eσ12
        refine zx_aload_n C dX1_follow_89 1 rfl ?_
        refine zx_dup C dX1_follow_90 rfl ?_
        refine zx_getI C zs_195 fg_X1_31 rfl dX1_follow_91 ?_
        refine zx_aload_n C dX1_follow_94 1 rfl ?_
        refine zx_getR C zs_195 fg_X1_15 rfl 197 rfl dX1_follow_95 ?_
        refine zx_iload C dX1_follow_98 6 rfl ?_
        obtain ⟨bd13, h⟩ := h
        refine zx_iald C (x_5).toNatClampNeg zs_197 bd13 rfl dX1_follow_100 ?_
        refine zx_iadd C dX1_follow_101 ?_
        refine zx_putI C zs_195 fp_X1_31 rfl dX1_follow_102 ?_
        refine zx_sig (fun σ14 eσ14 => ?_)
        replace h := h σ14 eσ14
        refine zx_iload C dX1_follow_105 0 rfl ?_
        refine zx_aload_n C dX1_follow_107 1 rfl ?_
        refine zx_getR C zs_195 fg_X1_15 rfl 197 rfl dX1_follow_108 ?_
        refine zx_iload C dX1_follow_111 6 rfl ?_
        obtain ⟨bd15, h⟩ := h
        refine zx_iald C (x_5).toNatClampNeg zs_197 bd15 rfl dX1_follow_113 ?_
        refine zx_iadd C dX1_follow_114 ?_
        refine zx_topi (fun x16 ex16 => ?_)
        replace h := h x16 ex16
        refine zx_istore (lv' := [(7, .int x16), (6, .int x6), (0, .ref (g 195)), (1, .ref (g q_1)), (2, .int x_2), (3, .int x_3), (4, .int x_4), (5, .int x_5)]) C dX1_follow_115 (by decide) rfl ?_
        refine zx_iload C dX1_follow_117 0 rfl ?_
        refine zx_aload_n C dX1_follow_119 3 rfl ?_
        refine zx_getR C hq_1.1 fg_X1_44 rfl (q_1 + 1) rfl dX1_follow_120 ?_
        refine zx_iload C dX1_follow_123 7 rfl ?_
        obtain ⟨bd17, h⟩ := h
        refine zx_iald C (x_5).toNatClampNeg hq_1.2.1 bd17 rfl dX1_follow_125 ?_
        refine zx_iadd C dX1_follow_126 ?_
        refine zx_topi (fun x18 ex18 => ?_)
        replace h := h x18 ex18
        refine zx_istore_n (lv' := [(3, .int x18), (7, .int x16), (6, .int x6), (0, .ref (g 195)), (1, .ref (g q_1)), (2, .int x_2), (4, .int x_4), (5, .int x_5)]) C dX1_follow_127 (by decide) rfl ?_
        refine zx_iload C dX1_follow_128 6 rfl ?_
        refine zx_aload_n C dX1_follow_130 4 rfl ?_
        refine zx_getR C hq_1.1 fg_X1_44 rfl (q_1 + 1) rfl dX1_follow_131 ?_
        refine zx_iload C dX1_follow_134 7 rfl ?_
        obtain ⟨bd19, h⟩ := h
        refine zx_iald C (x_5).toNatClampNeg hq_1.2.1 bd19 rfl dX1_follow_136 ?_
        refine zx_isub C dX1_follow_137 ?_
        refine zx_topi (fun x20 ex20 => ?_)
        replace h := h x20 ex20
        refine zx_istore (lv' := [(8, .int x20), (3, .int x18), (7, .int x16), (6, .int x6), (0, .ref (g 195)), (1, .ref (g q_1)), (2, .int x_2), (4, .int x_4), (5, .int x_5)]) C dX1_follow_138 (by decide) rfl ?_
        refine zx_aload_n C dX1_follow_140 4 rfl ?_
        refine zx_getI C zs_195 fg_X1_34 rfl dX1_follow_141 ?_
        refine zx_iconst (v := (-1 : Int32)) C dX1_follow_144 (by decide) ?_
        refine zx_icmp_ne C 178 dX1_follow_145 (by decide) (fun q => ?_) (fun q => ?_)
        · replace h := h.1 q
          refine zx_iload C dX1_follow_178 0 rfl ?_
          refine zx_istore (lv' := [(4, .int x20), (8, .int x20), (3, .int x18), (7, .int x16), (6, .int x6), (0, .ref (g 195)), (1, .ref (g q_1)), (2, .int x_2), (5, .int x_5)]) C dX1_follow_180 (by decide) rfl ?_
          obtain ⟨x21, ex21⟩ : ∃ y : Int32, y = (x_5 + (1 : Int32)) := ⟨_, rfl⟩
          replace h := h x21 ex21
          refine zx_iinc (v := x21) (lv' := [(5, .int x21), (4, .int x20), (8, .int x20), (3, .int x18), (7, .int x16), (6, .int x6), (0, .ref (g 195)), (1, .ref (g q_1)), (2, .int x_2)]) C dX1_follow_182 8 rfl (by rw [ex21]; rfl) (by decide) rfl ?_
          refine zx_goto C 32 dX1_follow_185 (by decide) ?_
          refine zx_lv (lv' := [(0, .ref (g 195)), (1, .ref (g q_1)), (2, .int x_2), (3, .int x18), (4, .int x20), (5, .int x21)]) [6, 7, 8, 3, 1, 0] rfl ?_
          exact ih x18 x20 x21 σ14 h
        · replace h := h.2 q
          refine zx_iload C dX1_follow_148 8 rfl ?_
          refine zx_aload_n C dX1_follow_150 5 rfl ?_
          refine zx_getI C hq_1.1 fg_X1_24 rfl dX1_follow_151 ?_
          refine zx_iconst (v := (1 : Int32)) C dX1_follow_154 (by decide) ?_
          refine zx_isub C dX1_follow_155 ?_
          refine zx_icmp_ge C 178 dX1_follow_156 (by decide) (fun q => ?_) (fun q => ?_)
          · replace h := h.1 q
            refine zx_iload C dX1_follow_178 0 rfl ?_
            refine zx_istore (lv' := [(4, .int x20), (8, .int x20), (3, .int x18), (7, .int x16), (6, .int x6), (0, .ref (g 195)), (1, .ref (g q_1)), (2, .int x_2), (5, .int x_5)]) C dX1_follow_180 (by decide) rfl ?_
            obtain ⟨x22, ex22⟩ : ∃ y : Int32, y = (x_5 + (1 : Int32)) := ⟨_, rfl⟩
            replace h := h x22 ex22
            refine zx_iinc (v := x22) (lv' := [(5, .int x22), (4, .int x20), (8, .int x20), (3, .int x18), (7, .int x16), (6, .int x6), (0, .ref (g 195)), (1, .ref (g q_1)), (2, .int x_2)]) C dX1_follow_182 8 rfl (by rw [ex22]; rfl) (by decide) rfl ?_
            refine zx_goto C 32 dX1_follow_185 (by decide) ?_
            refine zx_lv (lv' := [(0, .ref (g 195)), (1, .ref (g q_1)), (2, .int x_2), (3, .int x18), (4, .int x20), (5, .int x22)]) [6, 7, 8, 3, 1, 0] rfl ?_
            exact ih x18 x20 x22 σ14 h
          · replace h := h.2 q
            refine zx_iload C dX1_follow_159 2 rfl ?_
            refine zx_iload C dX1_follow_161 7 rfl ?_
            refine zx_icmp_ge C 178 dX1_follow_163 (by decide) (fun q => ?_) (fun q => ?_)
            · replace h := h.1 q
              refine zx_iload C dX1_follow_178 0 rfl ?_
              refine zx_istore (lv' := [(4, .int x20), (8, .int x20), (3, .int x18), (7, .int x16), (6, .int x6), (0, .ref (g 195)), (1, .ref (g q_1)), (2, .int x_2), (5, .int x_5)]) C dX1_follow_180 (by decide) rfl ?_
              obtain ⟨x23, ex23⟩ : ∃ y : Int32, y = (x_5 + (1 : Int32)) := ⟨_, rfl⟩
              replace h := h x23 ex23
              refine zx_iinc (v := x23) (lv' := [(5, .int x23), (4, .int x20), (8, .int x20), (3, .int x18), (7, .int x16), (6, .int x6), (0, .ref (g 195)), (1, .ref (g q_1)), (2, .int x_2)]) C dX1_follow_182 8 rfl (by rw [ex23]; rfl) (by decide) rfl ?_
              refine zx_goto C 32 dX1_follow_185 (by decide) ?_
              refine zx_lv (lv' := [(0, .ref (g 195)), (1, .ref (g q_1)), (2, .int x_2), (3, .int x18), (4, .int x20), (5, .int x23)]) [6, 7, 8, 3, 1, 0] rfl ?_
              exact ih x18 x20 x23 σ14 h
            · replace h := h.2 q
              refine zx_iload C dX1_follow_166 0 rfl ?_
              refine zx_iload_n C dX1_follow_168 1 rfl ?_
              refine zx_icmp_ge C 178 dX1_follow_169 (by decide) (fun q => ?_) (fun q => ?_)
              · replace h := h.1 q
                refine zx_iload C dX1_follow_178 0 rfl ?_
                refine zx_istore (lv' := [(4, .int x20), (8, .int x20), (3, .int x18), (7, .int x16), (6, .int x6), (0, .ref (g 195)), (1, .ref (g q_1)), (2, .int x_2), (5, .int x_5)]) C dX1_follow_180 (by decide) rfl ?_
                obtain ⟨x24, ex24⟩ : ∃ y : Int32, y = (x_5 + (1 : Int32)) := ⟨_, rfl⟩
                replace h := h x24 ex24
                refine zx_iinc (v := x24) (lv' := [(5, .int x24), (4, .int x20), (8, .int x20), (3, .int x18), (7, .int x16), (6, .int x6), (0, .ref (g 195)), (1, .ref (g q_1)), (2, .int x_2)]) C dX1_follow_182 8 rfl (by rw [ex24]; rfl) (by decide) rfl ?_
                refine zx_goto C 32 dX1_follow_185 (by decide) ?_
                refine zx_lv (lv' := [(0, .ref (g 195)), (1, .ref (g q_1)), (2, .int x_2), (3, .int x18), (4, .int x20), (5, .int x24)]) [6, 7, 8, 3, 1, 0] rfl ?_
                exact ih x18 x20 x24 σ14 h
              · replace h := h.2 q
                refine zx_aload_n C dX1_follow_172 4 rfl ?_
                refine zx_iload C dX1_follow_173 8 rfl ?_
                refine zx_putI C zs_195 fp_X1_34 rfl dX1_follow_175 ?_
                refine zx_sig (fun σ25 eσ25 => ?_)
                replace h := h σ25 eσ25
                refine zx_iload C dX1_follow_178 0 rfl ?_
                refine zx_istore (lv' := [(4, .int x20), (8, .int x20), (3, .int x18), (7, .int x16), (6, .int x6), (0, .ref (g 195)), (1, .ref (g q_1)), (2, .int x_2), (5, .int x_5)]) C dX1_follow_180 (by decide) rfl ?_
                obtain ⟨x26, ex26⟩ : ∃ y : Int32, y = (x_5 + (1 : Int32)) := ⟨_, rfl⟩
                replace h := h x26 ex26
                refine zx_iinc (v := x26) (lv' := [(5, .int x26), (4, .int x20), (8, .int x20), (3, .int x18), (7, .int x16), (6, .int x6), (0, .ref (g 195)), (1, .ref (g q_1)), (2, .int x_2)]) C dX1_follow_182 8 rfl (by rw [ex26]; rfl) (by decide) rfl ?_
                refine zx_goto C 32 dX1_follow_185 (by decide) ?_
                refine zx_lv (lv' := [(0, .ref (g 195)), (1, .ref (g q_1)), (2, .int x_2), (3, .int x18), (4, .int x20), (5, .int x26)]) [6, 7, 8, 3, 1, 0] rfl ?_
                exact ih x18 x20 x26 σ25 h
      · replace h := h.2 q
        refine zx_aload_n C dX1_follow_51 1 rfl ?_
        refine zx_iload C dX1_follow_52 5 rfl ?_
        refine zx_cVi C [.int x_5] lk_X1_37 (c_X0_cost l D cy g q_1 x_5 hq_1 σ h) hq_1.1 rfl ⟨by decide, by decide⟩ ⟨rfl, rfl⟩ ⟨Nat.zero_le _, Nat.zero_le _⟩ rfl rfl (Nat.le_of_ble_eq_true rfl) dX1_follow_54 (fun r28 σ27 h => ?_)
        refine zx_goto C 61 dX1_follow_57 (by decide) ?_
        refine zx_iadd C dX1_follow_61 ?_
        refine zx_topi (fun x29 ex29 => ?_)
        replace h := h x29 ex29
        refine zx_istore (lv' := [(6, .int x29), (0, .ref (g 195)), (1, .ref (g q_1)), (2, .int x_2), (3, .int x_3), (4, .int x_4), (5, .int x_5)]) C dX1_follow_62 (by decide) rfl ?_
        refine zx_aload_n C dX1_follow_64 1 rfl ?_
        refine zx_getR C zs_195 fg_X1_9 rfl 196 rfl dX1_follow_65 ?_
        refine zx_iload C dX1_follow_68 6 rfl ?_
        refine zx_iload_n C dX1_follow_70 4 rfl ?_
        obtain ⟨bd30, h⟩ := h
        refine zx_iast C (x_5).toNatClampNeg zs_196 bd30 rfl dX1_follow_71 ?_
        refine zx_sig (fun σ31 eσ31 => ?_)
        replace h := h σ31 eσ31
        refine zx_aload_n C dX1_follow_72 1 rfl ?_
        refine zx_getR C zs_195 fg_X1_15 rfl 197 rfl dX1_follow_73 ?_
        refine zx_iload C dX1_follow_76 6 rfl ?_
        refine zx_aload_n C dX1_follow_78 2 rfl ?_
        refine zx_iload C dX1_follow_79 6 rfl ?_
        refine zx_iload C dX1_follow_81 0 rfl ?_
        refine zx_iload C dX1_follow_83 5 rfl ?_
        refine zx_cSi C [.ref (g q_1), .int x_5, .int x29, .int x_4] lk_X1_40 (c_X1_waitAt l D cy g q_1 x_5 x29 x_4 hq_1 σ31 h) ⟨by decide, by decide⟩ ⟨rfl, rfl⟩ ⟨Nat.zero_le _, Nat.zero_le _⟩ rfl rfl (Nat.le_of_ble_eq_true rfl) dX1_follow_85 (fun r33 σ32 h => ?_)
        obtain ⟨bd34, h⟩ := h
        refine zx_iast C (x_5).toNatClampNeg zs_197 bd34 rfl dX1_follow_88 ?_
        refine zx_sig (fun σ35 eσ35 => ?_)
        replace h := h σ35 eσ35
        refine zx_aload_n C dX1_follow_89 1 rfl ?_
        refine zx_dup C dX1_follow_90 rfl ?_
        refine zx_getI C zs_195 fg_X1_31 rfl dX1_follow_91 ?_
        refine zx_aload_n C dX1_follow_94 1 rfl ?_
        refine zx_getR C zs_195 fg_X1_15 rfl 197 rfl dX1_follow_95 ?_
        refine zx_iload C dX1_follow_98 6 rfl ?_
        obtain ⟨bd36, h⟩ := h
        refine zx_iald C (x_5).toNatClampNeg zs_197 bd36 rfl dX1_follow_100 ?_
        refine zx_iadd C dX1_follow_101 ?_
        refine zx_putI C zs_195 fp_X1_31 rfl dX1_follow_102 ?_
        refine zx_sig (fun σ37 eσ37 => ?_)
        replace h := h σ37 eσ37
        refine zx_iload C dX1_follow_105 0 rfl ?_
        refine zx_aload_n C dX1_follow_107 1 rfl ?_
        refine zx_getR C zs_195 fg_X1_15 rfl 197 rfl dX1_follow_108 ?_
        refine zx_iload C dX1_follow_111 6 rfl ?_
        obtain ⟨bd38, h⟩ := h
        refine zx_iald C (x_5).toNatClampNeg zs_197 bd38 rfl dX1_follow_113 ?_
        refine zx_iadd C dX1_follow_114 ?_
        refine zx_topi (fun x39 ex39 => ?_)
        replace h := h x39 ex39
        refine zx_istore (lv' := [(7, .int x39), (6, .int x29), (0, .ref (g 195)), (1, .ref (g q_1)), (2, .int x_2), (3, .int x_3), (4, .int x_4), (5, .int x_5)]) C dX1_follow_115 (by decide) rfl ?_
        refine zx_iload C dX1_follow_117 0 rfl ?_
        refine zx_aload_n C dX1_follow_119 3 rfl ?_
        refine zx_getR C hq_1.1 fg_X1_44 rfl (q_1 + 1) rfl dX1_follow_120 ?_
        refine zx_iload C dX1_follow_123 7 rfl ?_
        obtain ⟨bd40, h⟩ := h
        refine zx_iald C (x_5).toNatClampNeg hq_1.2.1 bd40 rfl dX1_follow_125 ?_
        refine zx_iadd C dX1_follow_126 ?_
        refine zx_topi (fun x41 ex41 => ?_)
        replace h := h x41 ex41
        refine zx_istore_n (lv' := [(3, .int x41), (7, .int x39), (6, .int x29), (0, .ref (g 195)), (1, .ref (g q_1)), (2, .int x_2), (4, .int x_4), (5, .int x_5)]) C dX1_follow_127 (by decide) rfl ?_
        refine zx_iload C dX1_follow_128 6 rfl ?_
        refine zx_aload_n C dX1_follow_130 4 rfl ?_
        refine zx_getR C hq_1.1 fg_X1_44 rfl (q_1 + 1) rfl dX1_follow_131 ?_
        refine zx_iload C dX1_follow_134 7 rfl ?_
        obtain ⟨bd42, h⟩ := h
        refine zx_iald C (x_5).toNatClampNeg hq_1.2.1 bd42 rfl dX1_follow_136 ?_
        refine zx_isub C dX1_follow_137 ?_
        refine zx_topi (fun x43 ex43 => ?_)
        replace h := h x43 ex43
        refine zx_istore (lv' := [(8, .int x43), (3, .int x41), (7, .int x39), (6, .int x29), (0, .ref (g 195)), (1, .ref (g q_1)), (2, .int x_2), (4, .int x_4), (5, .int x_5)]) C dX1_follow_138 (by decide) rfl ?_
        refine zx_aload_n C dX1_follow_140 4 rfl ?_
        refine zx_getI C zs_195 fg_X1_34 rfl dX1_follow_141 ?_
        refine zx_iconst (v := (-1 : Int32)) C dX1_follow_144 (by decide) ?_
        refine zx_icmp_ne C 178 dX1_follow_145 (by decide) (fun q => ?_) (fun q => ?_)
        · replace h := h.1 q
          refine zx_iload C dX1_follow_178 0 rfl ?_
          refine zx_istore (lv' := [(4, .int x43), (8, .int x43), (3, .int x41), (7, .int x39), (6, .int x29), (0, .ref (g 195)), (1, .ref (g q_1)), (2, .int x_2), (5, .int x_5)]) C dX1_follow_180 (by decide) rfl ?_
          obtain ⟨x44, ex44⟩ : ∃ y : Int32, y = (x_5 + (1 : Int32)) := ⟨_, rfl⟩
          replace h := h x44 ex44
          refine zx_iinc (v := x44) (lv' := [(5, .int x44), (4, .int x43), (8, .int x43), (3, .int x41), (7, .int x39), (6, .int x29), (0, .ref (g 195)), (1, .ref (g q_1)), (2, .int x_2)]) C dX1_follow_182 8 rfl (by rw [ex44]; rfl) (by decide) rfl ?_
          refine zx_goto C 32 dX1_follow_185 (by decide) ?_
          refine zx_lv (lv' := [(0, .ref (g 195)), (1, .ref (g q_1)), (2, .int x_2), (3, .int x41), (4, .int x43), (5, .int x44)]) [6, 7, 8, 3, 1, 0] rfl ?_
          exact ih x41 x43 x44 σ37 h
        · replace h := h.2 q
          refine zx_iload C dX1_follow_148 8 rfl ?_
          refine zx_aload_n C dX1_follow_150 5 rfl ?_
          refine zx_getI C hq_1.1 fg_X1_24 rfl dX1_follow_151 ?_
          refine zx_iconst (v := (1 : Int32)) C dX1_follow_154 (by decide) ?_
          refine zx_isub C dX1_follow_155 ?_
          refine zx_icmp_ge C 178 dX1_follow_156 (by decide) (fun q => ?_) (fun q => ?_)
          · replace h := h.1 q
            refine zx_iload C dX1_follow_178 0 rfl ?_
            refine zx_istore (lv' := [(4, .int x43), (8, .int x43), (3, .int x41), (7, .int x39), (6, .int x29), (0, .ref (g 195)), (1, .ref (g q_1)), (2, .int x_2), (5, .int x_5)]) C dX1_follow_180 (by decide) rfl ?_
            obtain ⟨x45, ex45⟩ : ∃ y : Int32, y = (x_5 + (1 : Int32)) := ⟨_, rfl⟩
            replace h := h x45 ex45
            refine zx_iinc (v := x45) (lv' := [(5, .int x45), (4, .int x43), (8, .int x43), (3, .int x41), (7, .int x39), (6, .int x29), (0, .ref (g 195)), (1, .ref (g q_1)), (2, .int x_2)]) C dX1_follow_182 8 rfl (by rw [ex45]; rfl) (by decide) rfl ?_
            refine zx_goto C 32 dX1_follow_185 (by decide) ?_
            refine zx_lv (lv' := [(0, .ref (g 195)), (1, .ref (g q_1)), (2, .int x_2), (3, .int x41), (4, .int x43), (5, .int x45)]) [6, 7, 8, 3, 1, 0] rfl ?_
            exact ih x41 x43 x45 σ37 h
          · replace h := h.2 q
            refine zx_iload C dX1_follow_159 2 rfl ?_
            refine zx_iload C dX1_follow_161 7 rfl ?_
            refine zx_icmp_ge C 178 dX1_follow_163 (by decide) (fun q => ?_) (fun q => ?_)
            · replace h := h.1 q
              refine zx_iload C dX1_follow_178 0 rfl ?_
              refine zx_istore (lv' := [(4, .int x43), (8, .int x43), (3, .int x41), (7, .int x39), (6, .int x29), (0, .ref (g 195)), (1, .ref (g q_1)), (2, .int x_2), (5, .int x_5)]) C dX1_follow_180 (by decide) rfl ?_
              obtain ⟨x46, ex46⟩ : ∃ y : Int32, y = (x_5 + (1 : Int32)) := ⟨_, rfl⟩
              replace h := h x46 ex46
              refine zx_iinc (v := x46) (lv' := [(5, .int x46), (4, .int x43), (8, .int x43), (3, .int x41), (7, .int x39), (6, .int x29), (0, .ref (g 195)), (1, .ref (g q_1)), (2, .int x_2)]) C dX1_follow_182 8 rfl (by rw [ex46]; rfl) (by decide) rfl ?_
              refine zx_goto C 32 dX1_follow_185 (by decide) ?_
              refine zx_lv (lv' := [(0, .ref (g 195)), (1, .ref (g q_1)), (2, .int x_2), (3, .int x41), (4, .int x43), (5, .int x46)]) [6, 7, 8, 3, 1, 0] rfl ?_
              exact ih x41 x43 x46 σ37 h
            · replace h := h.2 q
              refine zx_iload C dX1_follow_166 0 rfl ?_
              refine zx_iload_n C dX1_follow_168 1 rfl ?_
              refine zx_icmp_ge C 178 dX1_follow_169 (by decide) (fun q => ?_) (fun q => ?_)
              · replace h := h.1 q
                refine zx_iload C dX1_follow_178 0 rfl ?_
                refine zx_istore (lv' := [(4, .int x43), (8, .int x43), (3, .int x41), (7, .int x39), (6, .int x29), (0, .ref (g 195)), (1, .ref (g q_1)), (2, .int x_2), (5, .int x_5)]) C dX1_follow_180 (by decide) rfl ?_
                obtain ⟨x47, ex47⟩ : ∃ y : Int32, y = (x_5 + (1 : Int32)) := ⟨_, rfl⟩
                replace h := h x47 ex47
                refine zx_iinc (v := x47) (lv' := [(5, .int x47), (4, .int x43), (8, .int x43), (3, .int x41), (7, .int x39), (6, .int x29), (0, .ref (g 195)), (1, .ref (g q_1)), (2, .int x_2)]) C dX1_follow_182 8 rfl (by rw [ex47]; rfl) (by decide) rfl ?_
                refine zx_goto C 32 dX1_follow_185 (by decide) ?_
                refine zx_lv (lv' := [(0, .ref (g 195)), (1, .ref (g q_1)), (2, .int x_2), (3, .int x41), (4, .int x43), (5, .int x47)]) [6, 7, 8, 3, 1, 0] rfl ?_
                exact ih x41 x43 x47 σ37 h
              · replace h := h.2 q
                refine zx_aload_n C dX1_follow_172 4 rfl ?_
                refine zx_iload C dX1_follow_173 8 rfl ?_
                refine zx_putI C zs_195 fp_X1_34 rfl dX1_follow_175 ?_
                refine zx_sig (fun σ48 eσ48 => ?_)
                replace h := h σ48 eσ48
                refine zx_iload C dX1_follow_178 0 rfl ?_
                refine zx_istore (lv' := [(4, .int x43), (8, .int x43), (3, .int x41), (7, .int x39), (6, .int x29), (0, .ref (g 195)), (1, .ref (g q_1)), (2, .int x_2), (5, .int x_5)]) C dX1_follow_180 (by decide) rfl ?_
                obtain ⟨x49, ex49⟩ : ∃ y : Int32, y = (x_5 + (1 : Int32)) := ⟨_, rfl⟩
                replace h := h x49 ex49
                refine zx_iinc (v := x49) (lv' := [(5, .int x49), (4, .int x43), (8, .int x43), (3, .int x41), (7, .int x39), (6, .int x29), (0, .ref (g 195)), (1, .ref (g q_1)), (2, .int x_2)]) C dX1_follow_182 8 rfl (by rw [ex49]; rfl) (by decide) rfl ?_
                refine zx_goto C 32 dX1_follow_185 (by decide) ?_
                refine zx_lv (lv' := [(0, .ref (g 195)), (1, .ref (g q_1)), (2, .int x_2), (3, .int x41), (4, .int x43), (5, .int x49)]) [6, 7, 8, 3, 1, 0] rfl ?_
                exact ih x41 x43 x49 σ48 h
set_option maxRecDepth 100000 in
set_option maxHeartbeats 4000000 in
theorem c_X1_follow (l : Launch) (D : va_G) (cy : Nat → ClassId) (g : Nat → Nat) (b1 : Nat) (a2 : Int32) (hb1 : zIsLine b1) (σ : zSto) {P : zSto → Prop} (h : w_X1_follow b1 a2 σ P) : zMv l yX1_follow cX1_follow 9 none (zrm 3 67) D cy g [.ref (g 195), .ref (g b1), .int a2] σ P := by
  unfold w_X1_follow at h
  refine zm_v RX1 rfl (by decide +kernel) (Nat.le_of_ble_eq_true rfl) ?_
  intro p e s m below meth c C hr
  refine zx_lv (lv' := [(0, .ref (g 195)), (1, .ref (g b1)), (2, .int a2)]) [0, 1, 2] rfl ?_
  refine zx_iconst (v := (0 : Int32)) C dX1_follow_0 (by decide) ?_
  refine zx_istore_n (lv' := [(3, .int (0 : Int32)), (0, .ref (g 195)), (1, .ref (g b1)), (2, .int a2)]) C dX1_follow_1 (by decide) rfl ?_
  refine zx_aload_n C dX1_follow_2 2 rfl ?_
  refine zx_getI C hb1.1 fg_X1_18 rfl dX1_follow_3 ?_
  refine zx_aload_n C dX1_follow_6 2 rfl ?_
  refine zx_aload_n C dX1_follow_7 2 rfl ?_
  refine zx_getI C hb1.1 fg_X1_24 rfl dX1_follow_8 ?_
  refine zx_iconst (v := (1 : Int32)) C dX1_follow_11 (by decide) ?_
  refine zx_isub C dX1_follow_12 ?_
  refine zx_cVi C [.int ((σ.1 b1 11) - (1 : Int32))] lk_X1_27 (c_X0_minutesTo l D cy g b1 ((σ.1 b1 11) - (1 : Int32)) hb1 σ h) hb1.1 rfl ⟨by decide, by decide⟩ ⟨rfl, rfl⟩ ⟨Nat.zero_le _, Nat.zero_le _⟩ rfl rfl (Nat.le_of_ble_eq_true rfl) dX1_follow_13 (fun r2 σ1 h => ?_)
  refine zx_iadd C dX1_follow_16 ?_
  refine zx_topi (fun x3 ex3 => ?_)
  replace h := h x3 ex3
  refine zx_istore (lv' := [(4, .int x3), (3, .int (0 : Int32)), (0, .ref (g 195)), (1, .ref (g b1)), (2, .int a2)]) C dX1_follow_17 (by decide) rfl ?_
  refine zx_aload_n C dX1_follow_19 2 rfl ?_
  refine zx_iconst (v := (0 : Int32)) C dX1_follow_20 (by decide) ?_
  refine zx_putI C zs_195 fp_X1_31 rfl dX1_follow_21 ?_
  refine zx_sig (fun σ4 eσ4 => ?_)
  replace h := h σ4 eσ4
  refine zx_aload_n C dX1_follow_24 2 rfl ?_
  refine zx_iconst (v := (-1 : Int32)) C dX1_follow_25 (by decide) ?_
  refine zx_putI C zs_195 fp_X1_34 rfl dX1_follow_26 ?_
  refine zx_sig (fun σ5 eσ5 => ?_)
  replace h := h σ5 eσ5
  refine zx_iconst (v := (0 : Int32)) C dX1_follow_29 (by decide) ?_
  refine zx_istore (lv' := [(5, .int (0 : Int32)), (4, .int x3), (3, .int (0 : Int32)), (0, .ref (g 195)), (1, .ref (g b1)), (2, .int a2)]) C dX1_follow_30 (by decide) rfl ?_
  obtain ⟨n, h⟩ := h
  refine zx_lv (lv' := [(0, .ref (g 195)), (1, .ref (g b1)), (2, .int a2), (3, .int (0 : Int32)), (4, .int x3), (5, .int (0 : Int32))]) [3, 4, 5, 2, 1, 0] rfl ?_
  exact k_X1_follow_32 C hr (b1) (a2) hb1  n (0 : Int32) x3 (0 : Int32) σ5 h
theorem fg_X2_9 : zFG RX2 9 2 0 := ⟨RX2, TX2, 3, rfl, lay_X2, by decide, fl_X2_9⟩
theorem fg_X2_15 : zFG RX2 15 2 1 := ⟨RX2, TX2, 3, rfl, lay_X2, by decide, fl_X2_15⟩
theorem fg_X2_24 : zFG RX2 24 2 2 := ⟨RX2, TX2, 3, rfl, lay_X2, by decide, fl_X2_24⟩
theorem fp_X2_24 : zFP RX2 24 2 2 .int := ⟨RX2, TX2, 3, tyX2, rfl, lay_X2, by decide, fl_X2_24, tyX2_ok, nmX2, rfl, by decide +kernel⟩
def w_X2_copyFrom (t : Nat) (b1 : Nat) (σ : zSto) (P : zSto → Prop) : Prop := (∀ σ1 : zSto, σ1 = zR σ (t + 1) (va_cpy (σ.1 (b1 + 1)) (σ.1 (t + 1)) 0 0 16) → (∀ σ2 : zSto, σ2 = zR σ1 (t + 2) (va_cpy (σ1.1 (b1 + 2)) (σ1.1 (t + 2)) 0 0 16) → (∀ σ3 : zSto, σ3 = zI σ2 t 2 (σ2.1 b1 2) → P σ3)))
set_option maxRecDepth 100000 in
set_option maxHeartbeats 4000000 in
theorem c_X2_copyFrom (l : Launch) (D : va_G) (cy : Nat → ClassId) (g : Nat → Nat) (t : Nat) (b1 : Nat) (ht : zIsPairs t) (hb1 : zIsPairs b1) (σ : zSto) {P : zSto → Prop} (h : w_X2_copyFrom t b1 σ P) : zMv l yX2_copyFrom cX2_copyFrom 2 none (zrm 1 64) D cy g [.ref (g t), .ref (g b1)] σ P := by
  unfold w_X2_copyFrom at h
  refine zm_v RX2 rfl (by decide +kernel) (Nat.le_of_ble_eq_true rfl) ?_
  intro p e s m below meth c C hr
  refine zx_lv (lv' := [(0, .ref (g t)), (1, .ref (g b1))]) [0, 1] rfl ?_
  refine zx_aload_n C dX2_copyFrom_0 1 rfl ?_
  refine zx_getR C hb1.1 fg_X2_9 rfl (b1 + 1) rfl dX2_copyFrom_1 ?_
  refine zx_iconst (v := (0 : Int32)) C dX2_copyFrom_4 (by decide) ?_
  refine zx_aload_n C dX2_copyFrom_5 0 rfl ?_
  refine zx_getR C ht.1 fg_X2_9 rfl (t + 1) rfl dX2_copyFrom_6 ?_
  refine zx_iconst (v := (0 : Int32)) C dX2_copyFrom_9 (by decide) ?_
  refine zx_bipush (v := (16 : Int32)) C dX2_copyFrom_10 (by decide) ?_
  refine zx_copy C 0 0 16 (ty := .int) hb1.2.1 ht.2.1 rfl rfl ml_X2_18 na_arraycopy st_arraycopy ini_J10 (by decide) (by decide) (by decide) (by decide) (by decide) (by decide) (by decide) (by decide) (fun _ _ => rfl) (Nat.le_of_ble_eq_true rfl) (Nat.le_of_ble_eq_true rfl) dX2_copyFrom_12 ?_
  refine zx_sig (fun σ1 eσ1 => ?_)
  replace h := h σ1 eσ1
  refine zx_aload_n C dX2_copyFrom_15 1 rfl ?_
  refine zx_getR C hb1.1 fg_X2_15 rfl (b1 + 2) rfl dX2_copyFrom_16 ?_
  refine zx_iconst (v := (0 : Int32)) C dX2_copyFrom_19 (by decide) ?_
  refine zx_aload_n C dX2_copyFrom_20 0 rfl ?_
  refine zx_getR C ht.1 fg_X2_15 rfl (t + 2) rfl dX2_copyFrom_21 ?_
  refine zx_iconst (v := (0 : Int32)) C dX2_copyFrom_24 (by decide) ?_
  refine zx_bipush (v := (16 : Int32)) C dX2_copyFrom_25 (by decide) ?_
  refine zx_copy C 0 0 16 (ty := .int) hb1.2.2 ht.2.2 rfl rfl ml_X2_18 na_arraycopy st_arraycopy ini_J10 (by decide) (by decide) (by decide) (by decide) (by decide) (by decide) (by decide) (by decide) (fun _ _ => rfl) (Nat.le_of_ble_eq_true rfl) (Nat.le_of_ble_eq_true rfl) dX2_copyFrom_27 ?_
  refine zx_sig (fun σ2 eσ2 => ?_)
  replace h := h σ2 eσ2
  refine zx_aload_n C dX2_copyFrom_30 0 rfl ?_
  refine zx_aload_n C dX2_copyFrom_31 1 rfl ?_
  refine zx_getI C hb1.1 fg_X2_24 rfl dX2_copyFrom_32 ?_
  refine zx_putI C ht.1 fp_X2_24 rfl dX2_copyFrom_35 ?_
  refine zx_sig (fun σ3 eσ3 => ?_)
  replace h := h σ3 eσ3
  exact zx_vret C hr dX2_copyFrom_38 h
def w_X2_add (t : Nat) (a1 : Int32) (a2 : Int32) (σ : zSto) (P : zSto → Prop) : Prop := (((16 : Int32) ≤ (σ.1 t 2) → P σ) ∧ (¬ (16 : Int32) ≤ (σ.1 t 2) → (vp_in (σ.1 t 2) 16 ∧ (∀ σ2 : zSto, σ2 = zI σ (t + 1) ((σ.1 t 2)).toNatClampNeg a1 → (vp_in (σ2.1 t 2) 16 ∧ (∀ σ4 : zSto, σ4 = zI σ2 (t + 2) ((σ2.1 t 2)).toNatClampNeg a2 → (∀ σ5 : zSto, σ5 = zI σ4 t 2 ((σ4.1 t 2) + (1 : Int32)) → P σ5)))))))
set_option maxRecDepth 100000 in
set_option maxHeartbeats 4000000 in
theorem c_X2_add (l : Launch) (D : va_G) (cy : Nat → ClassId) (g : Nat → Nat) (t : Nat) (a1 : Int32) (a2 : Int32) (ht : zIsPairs t) (σ : zSto) {P : zSto → Prop} (h : w_X2_add t a1 a2 σ P) : zMv l yX2_add cX2_add 3 none (zrm 0 0) D cy g [.ref (g t), .int a1, .int a2] σ P := by
  unfold w_X2_add at h
  refine zm_v RX2 rfl (by decide +kernel) (Nat.le_of_ble_eq_true rfl) ?_
  intro p e s m below meth c C hr
  refine zx_lv (lv' := [(0, .ref (g t)), (1, .int a1), (2, .int a2)]) [0, 1, 2] rfl ?_
  refine zx_aload_n C dX2_add_0 0 rfl ?_
  refine zx_getI C ht.1 fg_X2_24 rfl dX2_add_1 ?_
  refine zx_bipush (v := (16 : Int32)) C dX2_add_4 (by decide) ?_
  refine zx_icmp_ge C 39 dX2_add_6 (by decide) (fun q => ?_) (fun q => ?_)
  · replace h := h.1 q
    exact zx_vret C hr dX2_add_39 h
  · replace h := h.2 q
    refine zx_aload_n C dX2_add_9 0 rfl ?_
    refine zx_getR C ht.1 fg_X2_9 rfl (t + 1) rfl dX2_add_10 ?_
    refine zx_aload_n C dX2_add_13 0 rfl ?_
    refine zx_getI C ht.1 fg_X2_24 rfl dX2_add_14 ?_
    refine zx_iload_n C dX2_add_17 1 rfl ?_
    obtain ⟨bd1, h⟩ := h
    refine zx_iast C ((σ.1 t 2)).toNatClampNeg ht.2.1 bd1 rfl dX2_add_18 ?_
    refine zx_sig (fun σ2 eσ2 => ?_)
    replace h := h σ2 eσ2
    refine zx_aload_n C dX2_add_19 0 rfl ?_
    refine zx_getR C ht.1 fg_X2_15 rfl (t + 2) rfl dX2_add_20 ?_
    refine zx_aload_n C dX2_add_23 0 rfl ?_
    refine zx_getI C ht.1 fg_X2_24 rfl dX2_add_24 ?_
    refine zx_iload_n C dX2_add_27 2 rfl ?_
    obtain ⟨bd3, h⟩ := h
    refine zx_iast C ((σ2.1 t 2)).toNatClampNeg ht.2.2 bd3 rfl dX2_add_28 ?_
    refine zx_sig (fun σ4 eσ4 => ?_)
    replace h := h σ4 eσ4
    refine zx_aload_n C dX2_add_29 0 rfl ?_
    refine zx_dup C dX2_add_30 rfl ?_
    refine zx_getI C ht.1 fg_X2_24 rfl dX2_add_31 ?_
    refine zx_iconst (v := (1 : Int32)) C dX2_add_34 (by decide) ?_
    refine zx_iadd C dX2_add_35 ?_
    refine zx_putI C ht.1 fp_X2_24 rfl dX2_add_36 ?_
    refine zx_sig (fun σ5 eσ5 => ?_)
    replace h := h σ5 eσ5
    exact zx_vret C hr dX2_add_39 h
theorem fg_X3_9 : zFG RX3 9 3 0 := ⟨RX3, TX3, 2, rfl, lay_X3, by decide, fl_X3_9⟩
theorem fg_X3_15 : zFG RX3 15 3 1 := ⟨RX3, TX3, 2, rfl, lay_X3, by decide, fl_X3_15⟩
def w_X3_addPost_10 (x_1 : Int32) (x_2 : Int32) (x_3 : Int32) (P : zSto → Prop)  : Nat → Int32 → zSto → Prop
  | 0, _, _ => False
  | n + 1, x_5, σ => ((x_5 < x_3 → P σ) ∧ (¬ x_5 < x_3 → ((x_3 < 0 → P σ) ∧ (¬ x_3 < 0 → (vp_in (x_5 - x_3) 1000 ∧ (∀ x3 : Int32, x3 = (σ.1 208 ((x_5 - x_3)).toNatClampNeg) → ((x3 = (-1 : Int32) → (∀ x4 : Int32, x4 = (x_5 + (-1 : Int32)) → w_X3_addPost_10 x_1 x_2 x_3 P n x4 σ)) ∧ (¬ x3 = (-1 : Int32) → (vp_in x_5 1000 ∧ (((x3 + x_2) ≤ (σ.1 208 (x_5).toNatClampNeg) → (∀ x6 : Int32, x6 = (x_5 + (-1 : Int32)) → w_X3_addPost_10 x_1 x_2 x_3 P n x6 σ)) ∧ (¬ (x3 + x_2) ≤ (σ.1 208 (x_5).toNatClampNeg) → (vp_in x_5 1000 ∧ (∀ σ8 : zSto, σ8 = zI σ 208 (x_5).toNatClampNeg (x3 + x_2) → (vp_in (x_5 - x_3) 1000 ∧ (vp_in x_5 1000 ∧ (∀ σ11 : zSto, σ11 = zI σ8 209 (x_5).toNatClampNeg ((σ8.1 209 ((x_5 - x_3)).toNatClampNeg) ||| ((1 : Int32) <<< (x_1 &&& 31))) → (∀ x12 : Int32, x12 = (x_5 + (-1 : Int32)) → w_X3_addPost_10 x_1 x_2 x_3 P n x12 σ11)))))))))))))))))
def w_X3_addPost (a1 : Int32) (a2 : Int32) (a3 : Int32) (a4 : Int32) (σ : zSto) (P : zSto → Prop) : Prop := (∀ x1 : Int32, x1 = (if (999 : Int32) < a4 then (999 : Int32) else a4) → (∃ n : Nat, w_X3_addPost_10 a1 a2 a3 P  n x1 σ))
set_option maxRecDepth 100000 in
set_option maxHeartbeats 4000000 in
theorem k_X3_addPost_10 {p : Program} {l : Launch} {e : Env} {s : State} {m : MethodId} {args : Array Value} {below : List Frame} {meth : Method} {c : Code} {D : va_G} {cy : Nat → ClassId} {g : Nat → Nat} (C : zC p s m args meth c cX3_addPost RX3 7 D cy g) (hr : meth.sig.returnType = none) {P : zSto → Prop} (x_1 : Int32) (x_2 : Int32) (x_3 : Int32)    : ∀ (n : Nat) (x_5 : Int32) (σ : zSto), w_X3_addPost_10 x_1 x_2 x_3 P n x_5 σ → zX p l e (zrm 1 64) s m args below meth c 0 0 (zQv P below args s D cy g) 7 D cy g 10 [(0, .ref (g 207)), (1, .int x_1), (2, .int x_2), (3, .int x_3), (5, .int x_5)] [] σ := by
  intro n
  induction n with
  | zero => intro x_5 σ h; exact h.elim
  | succ n ih =>
    intro x_5 σ h
    unfold w_X3_addPost_10 at h
    refine zx_iload C dX3_addPost_10 4 rfl ?_
    refine zx_iload_n C dX3_addPost_12 3 rfl ?_
    refine zx_icmp_lt C 88 dX3_addPost_13 (by decide) (fun q => ?_) (fun q => ?_)
    · replace h := h.1 q
      exact zx_vret C hr dX3_addPost_88 h
    · replace h := h.2 q
      refine zx_iload_n C dX3_addPost_16 3 rfl ?_
      refine zx_if_lt C 88 dX3_addPost_17 (by decide) (fun q => ?_) (fun q => ?_)
      · replace h := h.1 q
        exact zx_vret C hr dX3_addPost_88 h
      · replace h := h.2 q
        refine zx_aload_n C dX3_addPost_20 0 rfl ?_
        refine zx_getR C zs_207 fg_X3_9 rfl 208 rfl dX3_addPost_21 ?_
        refine zx_iload C dX3_addPost_24 4 rfl ?_
        refine zx_iload_n C dX3_addPost_26 3 rfl ?_
        refine zx_isub C dX3_addPost_27 ?_
        obtain ⟨bd2, h⟩ := h
        refine zx_iald C ((x_5 - x_3)).toNatClampNeg zs_208 bd2 rfl dX3_addPost_28 ?_
        refine zx_topi (fun x3 ex3 => ?_)
        replace h := h x3 ex3
        refine zx_istore (lv' := [(6, .int x3), (0, .ref (g 207)), (1, .int x_1), (2, .int x_2), (3, .int x_3), (5, .int x_5)]) C dX3_addPost_29 (by decide) rfl ?_
        refine zx_iload C dX3_addPost_31 0 rfl ?_
        refine zx_iconst (v := (-1 : Int32)) C dX3_addPost_33 (by decide) ?_
        refine zx_icmp_eq C 82 dX3_addPost_34 (by decide) (fun q => ?_) (fun q => ?_)
        · replace h := h.1 q
          obtain ⟨x4, ex4⟩ : ∃ y : Int32, y = (x_5 + (-1 : Int32)) := ⟨_, rfl⟩
          replace h := h x4 ex4
          refine zx_iinc (v := x4) (lv' := [(5, .int x4), (6, .int x3), (0, .ref (g 207)), (1, .int x_1), (2, .int x_2), (3, .int x_3)]) C dX3_addPost_82 5 rfl (by rw [ex4]; rfl) (by decide) rfl ?_
          refine zx_goto C 10 dX3_addPost_85 (by decide) ?_
          refine zx_lv (lv' := [(0, .ref (g 207)), (1, .int x_1), (2, .int x_2), (3, .int x_3), (5, .int x4)]) [2, 3, 4, 5, 0] rfl ?_
          exact ih x4 σ h
        · replace h := h.2 q
          refine zx_iload C dX3_addPost_37 0 rfl ?_
          refine zx_iload_n C dX3_addPost_39 3 rfl ?_
          refine zx_iadd C dX3_addPost_40 ?_
          refine zx_aload_n C dX3_addPost_41 1 rfl ?_
          refine zx_getR C zs_207 fg_X3_9 rfl 208 rfl dX3_addPost_42 ?_
          refine zx_iload C dX3_addPost_45 5 rfl ?_
          obtain ⟨bd5, h⟩ := h
          refine zx_iald C (x_5).toNatClampNeg zs_208 bd5 rfl dX3_addPost_47 ?_
          refine zx_icmp_le C 82 dX3_addPost_48 (by decide) (fun q => ?_) (fun q => ?_)
          · replace h := h.1 q
            obtain ⟨x6, ex6⟩ : ∃ y : Int32, y = (x_5 + (-1 : Int32)) := ⟨_, rfl⟩
            replace h := h x6 ex6
            refine zx_iinc (v := x6) (lv' := [(5, .int x6), (6, .int x3), (0, .ref (g 207)), (1, .int x_1), (2, .int x_2), (3, .int x_3)]) C dX3_addPost_82 5 rfl (by rw [ex6]; rfl) (by decide) rfl ?_
            refine zx_goto C 10 dX3_addPost_85 (by decide) ?_
            refine zx_lv (lv' := [(0, .ref (g 207)), (1, .int x_1), (2, .int x_2), (3, .int x_3), (5, .int x6)]) [2, 3, 4, 5, 0] rfl ?_
            exact ih x6 σ h
          · replace h := h.2 q
            refine zx_aload_n C dX3_addPost_51 1 rfl ?_
            refine zx_getR C zs_207 fg_X3_9 rfl 208 rfl dX3_addPost_52 ?_
            refine zx_iload C dX3_addPost_55 5 rfl ?_
            refine zx_iload C dX3_addPost_57 0 rfl ?_
            refine zx_iload_n C dX3_addPost_59 3 rfl ?_
            refine zx_iadd C dX3_addPost_60 ?_
            obtain ⟨bd7, h⟩ := h
            refine zx_iast C (x_5).toNatClampNeg zs_208 bd7 rfl dX3_addPost_61 ?_
            refine zx_sig (fun σ8 eσ8 => ?_)
            replace h := h σ8 eσ8
            refine zx_aload_n C dX3_addPost_62 1 rfl ?_
            refine zx_getR C zs_207 fg_X3_15 rfl 209 rfl dX3_addPost_63 ?_
            refine zx_iload C dX3_addPost_66 5 rfl ?_
            refine zx_aload_n C dX3_addPost_68 1 rfl ?_
            refine zx_getR C zs_207 fg_X3_15 rfl 209 rfl dX3_addPost_69 ?_
            refine zx_iload C dX3_addPost_72 5 rfl ?_
            refine zx_iload_n C dX3_addPost_74 4 rfl ?_
            refine zx_isub C dX3_addPost_75 ?_
            obtain ⟨bd9, h⟩ := h
            refine zx_iald C ((x_5 - x_3)).toNatClampNeg zs_209 bd9 rfl dX3_addPost_76 ?_
            refine zx_iconst (v := (1 : Int32)) C dX3_addPost_77 (by decide) ?_
            refine zx_iload_n C dX3_addPost_78 2 rfl ?_
            refine zx_ishl C dX3_addPost_79 ?_
            refine zx_ior C dX3_addPost_80 ?_
            obtain ⟨bd10, h⟩ := h
            refine zx_iast C (x_5).toNatClampNeg zs_209 bd10 rfl dX3_addPost_81 ?_
            refine zx_sig (fun σ11 eσ11 => ?_)
            replace h := h σ11 eσ11
            obtain ⟨x12, ex12⟩ : ∃ y : Int32, y = (x_5 + (-1 : Int32)) := ⟨_, rfl⟩
            replace h := h x12 ex12
            refine zx_iinc (v := x12) (lv' := [(5, .int x12), (6, .int x3), (0, .ref (g 207)), (1, .int x_1), (2, .int x_2), (3, .int x_3)]) C dX3_addPost_82 5 rfl (by rw [ex12]; rfl) (by decide) rfl ?_
            refine zx_goto C 10 dX3_addPost_85 (by decide) ?_
            refine zx_lv (lv' := [(0, .ref (g 207)), (1, .int x_1), (2, .int x_2), (3, .int x_3), (5, .int x12)]) [2, 3, 4, 5, 0] rfl ?_
            exact ih x12 σ11 h
set_option maxRecDepth 100000 in
set_option maxHeartbeats 4000000 in
theorem c_X3_addPost (l : Launch) (D : va_G) (cy : Nat → ClassId) (g : Nat → Nat) (a1 : Int32) (a2 : Int32) (a3 : Int32) (a4 : Int32)  (σ : zSto) {P : zSto → Prop} (h : w_X3_addPost a1 a2 a3 a4 σ P) : zMv l yX3_addPost cX3_addPost 7 none (zrm 1 64) D cy g [.ref (g 207), .int a1, .int a2, .int a3, .int a4] σ P := by
  unfold w_X3_addPost at h
  refine zm_v RX3 rfl (by decide +kernel) (Nat.le_of_ble_eq_true rfl) ?_
  intro p e s m below meth c C hr
  refine zx_lv (lv' := [(0, .ref (g 207)), (1, .int a1), (2, .int a2), (3, .int a3), (4, .int a4)]) [0, 1, 2, 3, 4] rfl ?_
  refine zx_iload C dX3_addPost_0 4 rfl ?_
  refine zx_sipush (v := (999 : Int32)) C dX3_addPost_2 (by decide) ?_
  refine zx_min C ml_X3_35 st_math_min ini_J9 cd_math_min (Nat.le_of_ble_eq_true rfl) (Nat.le_of_ble_eq_true rfl) ⟨Nat.zero_le _, Nat.zero_le _⟩ dX3_addPost_5 ?_
  refine zx_topi (fun x1 ex1 => ?_)
  replace h := h x1 ex1
  refine zx_istore (lv' := [(5, .int x1), (0, .ref (g 207)), (1, .int a1), (2, .int a2), (3, .int a3), (4, .int a4)]) C dX3_addPost_8 (by decide) rfl ?_
  obtain ⟨n, h⟩ := h
  refine zx_lv (lv' := [(0, .ref (g 207)), (1, .int a1), (2, .int a2), (3, .int a3), (5, .int x1)]) [1, 2, 3, 4, 0] rfl ?_
  exact k_X3_addPost_10 C hr (a1) (a2) (a3)   n x1 σ h
theorem fg_X3_18 : zFG RX3 18 0 11 := ⟨RX0, TX0, 18, rfl, lay_X0, by decide, fl_X3_18⟩
theorem lk_X3_23 : zLV RX3 23 RX0 yX0_poundsIn cX0_poundsIn 3 (some .int) 2 := zLV_of ml_X3_23 im_X0_poundsIn se_X0_poundsIn ini_X0 cd_X0_poundsIn (by decide +kernel)
theorem lk_X3_27 : zLV RX3 27 RX0 yX0_cost cX0_cost 3 (some .int) 1 := zLV_of ml_X3_27 im_X0_cost se_X0_cost ini_X0 cd_X0_cost (by decide +kernel)
theorem lk_X3_31 : zLV RX3 31 RX3 yX3_addPost cX3_addPost 7 none 4 := zLV_of ml_X3_31 im_X3_addPost se_X3_addPost ini_X3 cd_X3_addPost (by decide +kernel)
def w_X3_fill_41 (q_1 : Nat) (x_2 : Int32) (x_3 : Int32) (P : zSto → Prop)  : Nat → Int32 → zSto → Prop
  | 0, _, _ => False
  | n + 1, x_4, σ => ((((σ.1 q_1 11) - (1 : Int32)) ≤ x_4 → P σ) ∧ (¬ ((σ.1 q_1 11) - (1 : Int32)) ≤ x_4 → (w_X0_poundsIn q_1 x_4 x_2 σ (fun (r3 : Int32) (σ2 : zSto) => ((r3 ≤ 0 → (∀ x4 : Int32, x4 = (x_4 + (1 : Int32)) → w_X3_fill_41 q_1 x_2 x_3 P n x4 σ2)) ∧ (¬ r3 ≤ 0 → (w_X0_cost q_1 x_4 σ2 (fun (r6 : Int32) (σ5 : zSto) => (w_X3_addPost x_4 r3 r6 x_3 σ5 (fun (σ7 : zSto) => (∀ x8 : Int32, x8 = (x_4 + (1 : Int32)) → w_X3_fill_41 q_1 x_2 x_3 P n x8 σ7)))))))))))
def w_X3_fill_3 (q_1 : Nat) (x_2 : Int32) (x_3 : Int32) (P : zSto → Prop)  : Nat → Int32 → zSto → Prop
  | 0, _, _ => False
  | n + 1, x_4, σ => ((x_3 < x_4 → (∀ σ1 : zSto, σ1 = zI σ 208 0 (0 : Int32) → (∃ n2 : Nat, w_X3_fill_41 q_1 x_2 x_3 P  n2 (0 : Int32) σ1))) ∧ (¬ x_3 < x_4 → (((999 : Int32) < x_4 → (∀ σ9 : zSto, σ9 = zI σ 208 0 (0 : Int32) → (∃ n2 : Nat, w_X3_fill_41 q_1 x_2 x_3 P  n2 (0 : Int32) σ9))) ∧ (¬ (999 : Int32) < x_4 → (vp_in x_4 1000 ∧ (∀ σ11 : zSto, σ11 = zI σ 208 (x_4).toNatClampNeg (-1 : Int32) → (∀ x12 : Int32, x12 = (x_4 + (1 : Int32)) → w_X3_fill_3 q_1 x_2 x_3 P n x12 σ11)))))))
def w_X3_fill (b1 : Nat) (a2 : Int32) (a3 : Int32) (σ : zSto) (P : zSto → Prop) : Prop := (∃ n : Nat, w_X3_fill_3 b1 a2 a3 P  n (0 : Int32) σ)
set_option maxRecDepth 100000 in
set_option maxHeartbeats 4000000 in
theorem k_X3_fill_41 {p : Program} {l : Launch} {e : Env} {s : State} {m : MethodId} {args : Array Value} {below : List Frame} {meth : Method} {c : Code} {D : va_G} {cy : Nat → ClassId} {g : Nat → Nat} (C : zC p s m args meth c cX3_fill RX3 6 D cy g) (hr : meth.sig.returnType = none) {P : zSto → Prop} (q_1 : Nat) (x_2 : Int32) (x_3 : Int32) (hq_1 : zIsLine q_1)   : ∀ (n : Nat) (x_4 : Int32) (σ : zSto), w_X3_fill_41 q_1 x_2 x_3 P n x_4 σ → zX p l e (zrm 2 90) s m args below meth c 0 0 (zQv P below args s D cy g) 6 D cy g 41 [(0, .ref (g 207)), (1, .ref (g q_1)), (2, .int x_2), (3, .int x_3), (4, .int x_4)] [] σ := by
  intro n
  induction n with
  | zero => intro x_4 σ h; exact h.elim
  | succ n ih =>
    intro x_4 σ h
    unfold w_X3_fill_41 at h
    refine zx_iload C dX3_fill_41 4 rfl ?_
    refine zx_aload_n C dX3_fill_43 1 rfl ?_
    refine zx_getI C hq_1.1 fg_X3_18 rfl dX3_fill_44 ?_
    refine zx_iconst (v := (1 : Int32)) C dX3_fill_47 (by decide) ?_
    refine zx_isub C dX3_fill_48 ?_
    refine zx_icmp_ge C 87 dX3_fill_49 (by decide) (fun q => ?_) (fun q => ?_)
    · replace h := h.1 q
      exact zx_vret C hr dX3_fill_87 h
    · replace h := h.2 q
      refine zx_aload_n C dX3_fill_52 1 rfl ?_
      refine zx_iload C dX3_fill_53 4 rfl ?_
      refine zx_iload_n C dX3_fill_55 2 rfl ?_
      refine zx_cVi C [.int x_4, .int x_2] lk_X3_23 (c_X0_poundsIn l D cy g q_1 x_4 x_2 hq_1 σ h) hq_1.1 rfl ⟨by decide, by decide⟩ ⟨rfl, rfl⟩ ⟨Nat.zero_le _, Nat.zero_le _⟩ rfl rfl (Nat.le_of_ble_eq_true rfl) dX3_fill_56 (fun r3 σ2 h => ?_)
      refine zx_istore (lv' := [(5, .int r3), (0, .ref (g 207)), (1, .ref (g q_1)), (2, .int x_2), (3, .int x_3), (4, .int x_4)]) C dX3_fill_59 (by decide) rfl ?_
      refine zx_iload C dX3_fill_61 0 rfl ?_
      refine zx_if_le C 81 dX3_fill_63 (by decide) (fun q => ?_) (fun q => ?_)
      · replace h := h.1 q
        obtain ⟨x4, ex4⟩ : ∃ y : Int32, y = (x_4 + (1 : Int32)) := ⟨_, rfl⟩
        replace h := h x4 ex4
        refine zx_iinc (v := x4) (lv' := [(4, .int x4), (5, .int r3), (0, .ref (g 207)), (1, .ref (g q_1)), (2, .int x_2), (3, .int x_3)]) C dX3_fill_81 5 rfl (by rw [ex4]; rfl) (by decide) rfl ?_
        refine zx_goto C 41 dX3_fill_84 (by decide) ?_
        refine zx_lv (lv' := [(0, .ref (g 207)), (1, .ref (g q_1)), (2, .int x_2), (3, .int x_3), (4, .int x4)]) [2, 3, 4, 5, 0] rfl ?_
        exact ih x4 σ2 h
      · replace h := h.2 q
        refine zx_aload_n C dX3_fill_66 1 rfl ?_
        refine zx_iload C dX3_fill_67 5 rfl ?_
        refine zx_iload C dX3_fill_69 0 rfl ?_
        refine zx_aload_n C dX3_fill_71 2 rfl ?_
        refine zx_iload C dX3_fill_72 5 rfl ?_
        refine zx_cVi C [.int x_4] lk_X3_27 (c_X0_cost l D cy g q_1 x_4 hq_1 σ2 h) hq_1.1 rfl ⟨by decide, by decide⟩ ⟨rfl, rfl⟩ ⟨Nat.zero_le _, Nat.zero_le _⟩ rfl rfl (Nat.le_of_ble_eq_true rfl) dX3_fill_74 (fun r6 σ5 h => ?_)
        refine zx_iload_n C dX3_fill_77 4 rfl ?_
        refine zx_cVv C [.int x_4, .int r3, .int r6, .int x_3] lk_X3_31 (c_X3_addPost l D cy g x_4 r3 r6 x_3  σ5 h) zs_207 rfl ⟨by decide, by decide⟩ ⟨rfl, rfl⟩ ⟨Nat.zero_le _, Nat.zero_le _⟩ rfl rfl (Nat.le_of_ble_eq_true rfl) dX3_fill_78 (fun σ7 h => ?_)
        obtain ⟨x8, ex8⟩ : ∃ y : Int32, y = (x_4 + (1 : Int32)) := ⟨_, rfl⟩
        replace h := h x8 ex8
        refine zx_iinc (v := x8) (lv' := [(4, .int x8), (5, .int r3), (0, .ref (g 207)), (1, .ref (g q_1)), (2, .int x_2), (3, .int x_3)]) C dX3_fill_81 5 rfl (by rw [ex8]; rfl) (by decide) rfl ?_
        refine zx_goto C 41 dX3_fill_84 (by decide) ?_
        refine zx_lv (lv' := [(0, .ref (g 207)), (1, .ref (g q_1)), (2, .int x_2), (3, .int x_3), (4, .int x8)]) [2, 3, 4, 5, 0] rfl ?_
        exact ih x8 σ7 h
set_option maxRecDepth 100000 in
set_option maxHeartbeats 4000000 in
theorem k_X3_fill_3 {p : Program} {l : Launch} {e : Env} {s : State} {m : MethodId} {args : Array Value} {below : List Frame} {meth : Method} {c : Code} {D : va_G} {cy : Nat → ClassId} {g : Nat → Nat} (C : zC p s m args meth c cX3_fill RX3 6 D cy g) (hr : meth.sig.returnType = none) {P : zSto → Prop} (q_1 : Nat) (x_2 : Int32) (x_3 : Int32) (hq_1 : zIsLine q_1)   : ∀ (n : Nat) (x_4 : Int32) (σ : zSto), w_X3_fill_3 q_1 x_2 x_3 P n x_4 σ → zX p l e (zrm 2 90) s m args below meth c 0 0 (zQv P below args s D cy g) 6 D cy g 3 [(0, .ref (g 207)), (1, .ref (g q_1)), (2, .int x_2), (3, .int x_3), (4, .int x_4)] [] σ := by
  intro n
  induction n with
  | zero => intro x_4 σ h; exact h.elim
  | succ n ih =>
    intro x_4 σ h
    unfold w_X3_fill_3 at h
    refine zx_iload C dX3_fill_3 4 rfl ?_
    refine zx_iload_n C dX3_fill_5 3 rfl ?_
    refine zx_icmp_gt C 31 dX3_fill_6 (by decide) (fun q => ?_) (fun q => ?_)
    · replace h := h.1 q
      refine zx_aload_n C dX3_fill_31 0 rfl ?_
      refine zx_getR C zs_207 fg_X3_9 rfl 208 rfl dX3_fill_32 ?_
      refine zx_iconst (v := (0 : Int32)) C dX3_fill_35 (by decide) ?_
      refine zx_iconst (v := (0 : Int32)) C dX3_fill_36 (by decide) ?_
      refine zx_iast C 0 zs_208 (by unfold vp_in; decide) (by decide) dX3_fill_37 ?_
      refine zx_sig (fun σ1 eσ1 => ?_)
      replace h := h σ1 eσ1
      refine zx_iconst (v := (0 : Int32)) C dX3_fill_38 (by decide) ?_
      refine zx_istore (lv' := [(4, .int (0 : Int32)), (0, .ref (g 207)), (1, .ref (g q_1)), (2, .int x_2), (3, .int x_3)]) C dX3_fill_39 (by decide) rfl ?_
      obtain ⟨n2, h⟩ := h
      refine zx_lv (lv' := [(0, .ref (g 207)), (1, .ref (g q_1)), (2, .int x_2), (3, .int x_3), (4, .int (0 : Int32))]) [1, 2, 3, 4, 0] rfl ?_
      exact k_X3_fill_41 C hr (q_1) (x_2) (x_3) hq_1  n2 (0 : Int32) σ1 h
    · replace h := h.2 q
      refine zx_iload C dX3_fill_9 4 rfl ?_
      refine zx_sipush (v := (999 : Int32)) C dX3_fill_11 (by decide) ?_
      refine zx_icmp_gt C 31 dX3_fill_14 (by decide) (fun q => ?_) (fun q => ?_)
      · replace h := h.1 q
        refine zx_aload_n C dX3_fill_31 0 rfl ?_
        refine zx_getR C zs_207 fg_X3_9 rfl 208 rfl dX3_fill_32 ?_
        refine zx_iconst (v := (0 : Int32)) C dX3_fill_35 (by decide) ?_
        refine zx_iconst (v := (0 : Int32)) C dX3_fill_36 (by decide) ?_
        refine zx_iast C 0 zs_208 (by unfold vp_in; decide) (by decide) dX3_fill_37 ?_
        refine zx_sig (fun σ9 eσ9 => ?_)
        replace h := h σ9 eσ9
        refine zx_iconst (v := (0 : Int32)) C dX3_fill_38 (by decide) ?_
        refine zx_istore (lv' := [(4, .int (0 : Int32)), (0, .ref (g 207)), (1, .ref (g q_1)), (2, .int x_2), (3, .int x_3)]) C dX3_fill_39 (by decide) rfl ?_
        obtain ⟨n2, h⟩ := h
        refine zx_lv (lv' := [(0, .ref (g 207)), (1, .ref (g q_1)), (2, .int x_2), (3, .int x_3), (4, .int (0 : Int32))]) [1, 2, 3, 4, 0] rfl ?_
        exact k_X3_fill_41 C hr (q_1) (x_2) (x_3) hq_1  n2 (0 : Int32) σ9 h
      · replace h := h.2 q
        refine zx_aload_n C dX3_fill_17 0 rfl ?_
        refine zx_getR C zs_207 fg_X3_9 rfl 208 rfl dX3_fill_18 ?_
        refine zx_iload C dX3_fill_21 4 rfl ?_
        refine zx_iconst (v := (-1 : Int32)) C dX3_fill_23 (by decide) ?_
        obtain ⟨bd10, h⟩ := h
        refine zx_iast C (x_4).toNatClampNeg zs_208 bd10 rfl dX3_fill_24 ?_
        refine zx_sig (fun σ11 eσ11 => ?_)
        replace h := h σ11 eσ11
        obtain ⟨x12, ex12⟩ : ∃ y : Int32, y = (x_4 + (1 : Int32)) := ⟨_, rfl⟩
        replace h := h x12 ex12
        refine zx_iinc (v := x12) (lv' := [(4, .int x12), (0, .ref (g 207)), (1, .ref (g q_1)), (2, .int x_2), (3, .int x_3)]) C dX3_fill_25 4 rfl (by rw [ex12]; rfl) (by decide) rfl ?_
        refine zx_goto C 3 dX3_fill_28 (by decide) ?_
        refine zx_lv (lv' := [(0, .ref (g 207)), (1, .ref (g q_1)), (2, .int x_2), (3, .int x_3), (4, .int x12)]) [1, 2, 3, 4, 0] rfl ?_
        exact ih x12 σ11 h
set_option maxRecDepth 100000 in
set_option maxHeartbeats 4000000 in
theorem c_X3_fill (l : Launch) (D : va_G) (cy : Nat → ClassId) (g : Nat → Nat) (b1 : Nat) (a2 : Int32) (a3 : Int32) (hb1 : zIsLine b1) (σ : zSto) {P : zSto → Prop} (h : w_X3_fill b1 a2 a3 σ P) : zMv l yX3_fill cX3_fill 6 none (zrm 2 90) D cy g [.ref (g 207), .ref (g b1), .int a2, .int a3] σ P := by
  unfold w_X3_fill at h
  refine zm_v RX3 rfl (by decide +kernel) (Nat.le_of_ble_eq_true rfl) ?_
  intro p e s m below meth c C hr
  refine zx_lv (lv' := [(0, .ref (g 207)), (1, .ref (g b1)), (2, .int a2), (3, .int a3)]) [0, 1, 2, 3] rfl ?_
  refine zx_iconst (v := (0 : Int32)) C dX3_fill_0 (by decide) ?_
  refine zx_istore (lv' := [(4, .int (0 : Int32)), (0, .ref (g 207)), (1, .ref (g b1)), (2, .int a2), (3, .int a3)]) C dX3_fill_1 (by decide) rfl ?_
  obtain ⟨n, h⟩ := h
  refine zx_lv (lv' := [(0, .ref (g 207)), (1, .ref (g b1)), (2, .int a2), (3, .int a3), (4, .int (0 : Int32))]) [1, 2, 3, 4, 0] rfl ?_
  exact k_X3_fill_3 C hr (b1) (a2) (a3) hb1  n (0 : Int32) σ h
def w_X3_bestCosts_4 (x_1 : Int32) (P : Int32 → zSto → Prop)  : Nat → Int32 → Int32 → zSto → Prop
  | 0, _, _, _ => False
  | n + 1, x_2, x_3, σ => ((x_1 < x_3 → P x_2 σ) ∧ (¬ x_1 < x_3 → (((999 : Int32) < x_3 → P x_2 σ) ∧ (¬ (999 : Int32) < x_3 → (vp_in x_3 1000 ∧ (vp_in x_2 1000 ∧ (((σ.1 208 (x_3).toNatClampNeg) ≤ (σ.1 208 (x_2).toNatClampNeg) → (∀ x3 : Int32, x3 = (x_3 + (1 : Int32)) → w_X3_bestCosts_4 x_1 P n x_2 x3 σ)) ∧ (¬ (σ.1 208 (x_3).toNatClampNeg) ≤ (σ.1 208 (x_2).toNatClampNeg) → (∀ x4 : Int32, x4 = (x_3 + (1 : Int32)) → w_X3_bestCosts_4 x_1 P n x_3 x4 σ)))))))))
def w_X3_bestCosts (a1 : Int32) (σ : zSto) (P : Int32 → zSto → Prop) : Prop := (∃ n : Nat, w_X3_bestCosts_4 a1 P  n (0 : Int32) (1 : Int32) σ)
set_option maxRecDepth 100000 in
set_option maxHeartbeats 4000000 in
theorem k_X3_bestCosts_4 {p : Program} {l : Launch} {e : Env} {s : State} {m : MethodId} {args : Array Value} {below : List Frame} {meth : Method} {c : Code} {D : va_G} {cy : Nat → ClassId} {g : Nat → Nat} (C : zC p s m args meth c cX3_bestCosts RX3 4 D cy g) (hr : meth.sig.returnType = (some .int)) {P : Int32 → zSto → Prop} (x_1 : Int32)    : ∀ (n : Nat) (x_2 : Int32) (x_3 : Int32) (σ : zSto), w_X3_bestCosts_4 x_1 P n x_2 x_3 σ → zX p l e (zrm 0 0) s m args below meth c 0 0 (zQi P below args s D cy g) 4 D cy g 4 [(0, .ref (g 207)), (1, .int x_1), (2, .int x_2), (3, .int x_3)] [] σ := by
  intro n
  induction n with
  | zero => intro x_2 x_3 σ h; exact h.elim
  | succ n ih =>
    intro x_2 x_3 σ h
    unfold w_X3_bestCosts_4 at h
    refine zx_iload_n C dX3_bestCosts_4 3 rfl ?_
    refine zx_iload_n C dX3_bestCosts_5 1 rfl ?_
    refine zx_icmp_gt C 39 dX3_bestCosts_6 (by decide) (fun q => ?_) (fun q => ?_)
    · replace h := h.1 q
      refine zx_iload_n C dX3_bestCosts_39 2 rfl ?_
      exact zx_iret C hr dX3_bestCosts_40 h
    · replace h := h.2 q
      refine zx_iload_n C dX3_bestCosts_9 3 rfl ?_
      refine zx_sipush (v := (999 : Int32)) C dX3_bestCosts_10 (by decide) ?_
      refine zx_icmp_gt C 39 dX3_bestCosts_13 (by decide) (fun q => ?_) (fun q => ?_)
      · replace h := h.1 q
        refine zx_iload_n C dX3_bestCosts_39 2 rfl ?_
        exact zx_iret C hr dX3_bestCosts_40 h
      · replace h := h.2 q
        refine zx_aload_n C dX3_bestCosts_16 0 rfl ?_
        refine zx_getR C zs_207 fg_X3_9 rfl 208 rfl dX3_bestCosts_17 ?_
        refine zx_iload_n C dX3_bestCosts_20 3 rfl ?_
        obtain ⟨bd1, h⟩ := h
        refine zx_iald C (x_3).toNatClampNeg zs_208 bd1 rfl dX3_bestCosts_21 ?_
        refine zx_aload_n C dX3_bestCosts_22 0 rfl ?_
        refine zx_getR C zs_207 fg_X3_9 rfl 208 rfl dX3_bestCosts_23 ?_
        refine zx_iload_n C dX3_bestCosts_26 2 rfl ?_
        obtain ⟨bd2, h⟩ := h
        refine zx_iald C (x_2).toNatClampNeg zs_208 bd2 rfl dX3_bestCosts_27 ?_
        refine zx_icmp_le C 33 dX3_bestCosts_28 (by decide) (fun q => ?_) (fun q => ?_)
        · replace h := h.1 q
          obtain ⟨x3, ex3⟩ : ∃ y : Int32, y = (x_3 + (1 : Int32)) := ⟨_, rfl⟩
          replace h := h x3 ex3
          refine zx_iinc (v := x3) (lv' := [(3, .int x3), (0, .ref (g 207)), (1, .int x_1), (2, .int x_2)]) C dX3_bestCosts_33 3 rfl (by rw [ex3]; rfl) (by decide) rfl ?_
          refine zx_goto C 4 dX3_bestCosts_36 (by decide) ?_
          refine zx_lv (lv' := [(0, .ref (g 207)), (1, .int x_1), (2, .int x_2), (3, .int x3)]) [1, 2, 3, 0] rfl ?_
          exact ih x_2 x3 σ h
        · replace h := h.2 q
          refine zx_iload_n C dX3_bestCosts_31 3 rfl ?_
          refine zx_istore_n (lv' := [(2, .int x_3), (0, .ref (g 207)), (1, .int x_1), (3, .int x_3)]) C dX3_bestCosts_32 (by decide) rfl ?_
          obtain ⟨x4, ex4⟩ : ∃ y : Int32, y = (x_3 + (1 : Int32)) := ⟨_, rfl⟩
          replace h := h x4 ex4
          refine zx_iinc (v := x4) (lv' := [(3, .int x4), (2, .int x_3), (0, .ref (g 207)), (1, .int x_1)]) C dX3_bestCosts_33 3 rfl (by rw [ex4]; rfl) (by decide) rfl ?_
          refine zx_goto C 4 dX3_bestCosts_36 (by decide) ?_
          refine zx_lv (lv' := [(0, .ref (g 207)), (1, .int x_1), (2, .int x_3), (3, .int x4)]) [2, 3, 1, 0] rfl ?_
          exact ih x_3 x4 σ h
set_option maxRecDepth 100000 in
set_option maxHeartbeats 4000000 in
theorem c_X3_bestCosts (l : Launch) (D : va_G) (cy : Nat → ClassId) (g : Nat → Nat) (a1 : Int32)  (σ : zSto) {P : Int32 → zSto → Prop} (h : w_X3_bestCosts a1 σ P) : zMi l yX3_bestCosts cX3_bestCosts 4 (some .int) (zrm 0 0) D cy g [.ref (g 207), .int a1] σ P := by
  unfold w_X3_bestCosts at h
  refine zm_i RX3 rfl (by decide +kernel) (Nat.le_of_ble_eq_true rfl) ?_
  intro p e s m below meth c C hr
  refine zx_lv (lv' := [(0, .ref (g 207)), (1, .int a1)]) [0, 1] rfl ?_
  refine zx_iconst (v := (0 : Int32)) C dX3_bestCosts_0 (by decide) ?_
  refine zx_istore_n (lv' := [(2, .int (0 : Int32)), (0, .ref (g 207)), (1, .int a1)]) C dX3_bestCosts_1 (by decide) rfl ?_
  refine zx_iconst (v := (1 : Int32)) C dX3_bestCosts_2 (by decide) ?_
  refine zx_istore_n (lv' := [(3, .int (1 : Int32)), (2, .int (0 : Int32)), (0, .ref (g 207)), (1, .int a1)]) C dX3_bestCosts_3 (by decide) rfl ?_
  obtain ⟨n, h⟩ := h
  refine zx_lv (lv' := [(0, .ref (g 207)), (1, .int a1), (2, .int (0 : Int32)), (3, .int (1 : Int32))]) [2, 3, 1, 0] rfl ?_
  exact k_X3_bestCosts_4 C hr (a1)   n (0 : Int32) (1 : Int32) σ h
theorem fg_X4_32 : zFG RX4 32 4 4 := ⟨RX4, TX4, 13, rfl, lay_X4, by decide, fl_X4_32⟩
def w_X4_isLetter (a1 : Int32) (σ : zSto) (P : Int32 → zSto → Prop) : Prop := (vp_in a1 600 ∧ (((σ.1 189 (a1).toNatClampNeg) < (97 : Int32) → P (0 : Int32) σ) ∧ (¬ (σ.1 189 (a1).toNatClampNeg) < (97 : Int32) → (vp_in a1 600 ∧ (((122 : Int32) < (σ.1 189 (a1).toNatClampNeg) → P (0 : Int32) σ) ∧ (¬ (122 : Int32) < (σ.1 189 (a1).toNatClampNeg) → P (1 : Int32) σ))))))
set_option maxRecDepth 100000 in
set_option maxHeartbeats 4000000 in
theorem c_X4_isLetter (l : Launch) (D : va_G) (cy : Nat → ClassId) (g : Nat → Nat) (a1 : Int32)  (σ : zSto) {P : Int32 → zSto → Prop} (h : w_X4_isLetter a1 σ P) : zMb l yX4_isLetter cX4_isLetter 2 (some .boolean) (zrm 0 0) D cy g [.ref (g 171), .int a1] σ P := by
  unfold w_X4_isLetter at h
  refine zm_b RX4 rfl (by decide +kernel) (Nat.le_of_ble_eq_true rfl) ?_
  intro p e s m below meth c C hr
  refine zx_lv (lv' := [(0, .ref (g 171)), (1, .int a1)]) [0, 1] rfl ?_
  refine zx_aload_n C dX4_isLetter_0 0 rfl ?_
  refine zx_getR C zs_171 fg_X4_32 rfl 189 rfl dX4_isLetter_1 ?_
  refine zx_iload_n C dX4_isLetter_4 1 rfl ?_
  obtain ⟨bd1, h⟩ := h
  refine zx_bald C (a1).toNatClampNeg zs_189 bd1 rfl dX4_isLetter_5 ?_
  refine zx_bipush (v := (97 : Int32)) C dX4_isLetter_6 (by decide) ?_
  refine zx_icmp_lt C 26 dX4_isLetter_8 (by decide) (fun q => ?_) (fun q => ?_)
  · replace h := h.1 q
    refine zx_iconst (v := (0 : Int32)) C dX4_isLetter_26 (by decide) ?_
    exact zx_zret C hr dX4_isLetter_27 (Or.inl rfl) h
  · replace h := h.2 q
    refine zx_aload_n C dX4_isLetter_11 0 rfl ?_
    refine zx_getR C zs_171 fg_X4_32 rfl 189 rfl dX4_isLetter_12 ?_
    refine zx_iload_n C dX4_isLetter_15 1 rfl ?_
    obtain ⟨bd2, h⟩ := h
    refine zx_bald C (a1).toNatClampNeg zs_189 bd2 rfl dX4_isLetter_16 ?_
    refine zx_bipush (v := (122 : Int32)) C dX4_isLetter_17 (by decide) ?_
    refine zx_icmp_gt C 26 dX4_isLetter_19 (by decide) (fun q => ?_) (fun q => ?_)
    · replace h := h.1 q
      refine zx_iconst (v := (0 : Int32)) C dX4_isLetter_26 (by decide) ?_
      exact zx_zret C hr dX4_isLetter_27 (Or.inl rfl) h
    · replace h := h.2 q
      refine zx_iconst (v := (1 : Int32)) C dX4_isLetter_22 (by decide) ?_
      refine zx_goto C 27 dX4_isLetter_23 (by decide) ?_
      exact zx_zret C hr dX4_isLetter_27 (Or.inr rfl) h
def w_X4_isDigit (a1 : Int32) (σ : zSto) (P : Int32 → zSto → Prop) : Prop := (vp_in a1 600 ∧ (((σ.1 189 (a1).toNatClampNeg) < (48 : Int32) → P (0 : Int32) σ) ∧ (¬ (σ.1 189 (a1).toNatClampNeg) < (48 : Int32) → (vp_in a1 600 ∧ (((57 : Int32) < (σ.1 189 (a1).toNatClampNeg) → P (0 : Int32) σ) ∧ (¬ (57 : Int32) < (σ.1 189 (a1).toNatClampNeg) → P (1 : Int32) σ))))))
set_option maxRecDepth 100000 in
set_option maxHeartbeats 4000000 in
theorem c_X4_isDigit (l : Launch) (D : va_G) (cy : Nat → ClassId) (g : Nat → Nat) (a1 : Int32)  (σ : zSto) {P : Int32 → zSto → Prop} (h : w_X4_isDigit a1 σ P) : zMb l yX4_isDigit cX4_isDigit 2 (some .boolean) (zrm 0 0) D cy g [.ref (g 171), .int a1] σ P := by
  unfold w_X4_isDigit at h
  refine zm_b RX4 rfl (by decide +kernel) (Nat.le_of_ble_eq_true rfl) ?_
  intro p e s m below meth c C hr
  refine zx_lv (lv' := [(0, .ref (g 171)), (1, .int a1)]) [0, 1] rfl ?_
  refine zx_aload_n C dX4_isDigit_0 0 rfl ?_
  refine zx_getR C zs_171 fg_X4_32 rfl 189 rfl dX4_isDigit_1 ?_
  refine zx_iload_n C dX4_isDigit_4 1 rfl ?_
  obtain ⟨bd1, h⟩ := h
  refine zx_bald C (a1).toNatClampNeg zs_189 bd1 rfl dX4_isDigit_5 ?_
  refine zx_bipush (v := (48 : Int32)) C dX4_isDigit_6 (by decide) ?_
  refine zx_icmp_lt C 26 dX4_isDigit_8 (by decide) (fun q => ?_) (fun q => ?_)
  · replace h := h.1 q
    refine zx_iconst (v := (0 : Int32)) C dX4_isDigit_26 (by decide) ?_
    exact zx_zret C hr dX4_isDigit_27 (Or.inl rfl) h
  · replace h := h.2 q
    refine zx_aload_n C dX4_isDigit_11 0 rfl ?_
    refine zx_getR C zs_171 fg_X4_32 rfl 189 rfl dX4_isDigit_12 ?_
    refine zx_iload_n C dX4_isDigit_15 1 rfl ?_
    obtain ⟨bd2, h⟩ := h
    refine zx_bald C (a1).toNatClampNeg zs_189 bd2 rfl dX4_isDigit_16 ?_
    refine zx_bipush (v := (57 : Int32)) C dX4_isDigit_17 (by decide) ?_
    refine zx_icmp_gt C 26 dX4_isDigit_19 (by decide) (fun q => ?_) (fun q => ?_)
    · replace h := h.1 q
      refine zx_iconst (v := (0 : Int32)) C dX4_isDigit_26 (by decide) ?_
      exact zx_zret C hr dX4_isDigit_27 (Or.inl rfl) h
    · replace h := h.2 q
      refine zx_iconst (v := (1 : Int32)) C dX4_isDigit_22 (by decide) ?_
      refine zx_goto C 27 dX4_isDigit_23 (by decide) ?_
      exact zx_zret C hr dX4_isDigit_27 (Or.inr rfl) h
theorem fp_X4_113 : zFP RX4 113 4 9 .int := ⟨RX4, TX4, 13, tyX4, rfl, lay_X4, by decide, fl_X4_113, tyX4_ok, nmX4, rfl, by decide +kernel⟩
theorem fg_X4_55 : zFG RX4 55 4 6 := ⟨RX4, TX4, 13, rfl, lay_X4, by decide, fl_X4_55⟩
theorem fg_X4_45 : zFG RX4 45 4 5 := ⟨RX4, TX4, 13, rfl, lay_X4, by decide, fl_X4_45⟩
theorem fg_X4_90 : zFG RX4 90 4 8 := ⟨RX4, TX4, 13, rfl, lay_X4, by decide, fl_X4_90⟩
theorem fp_X4_87 : zFP RX4 87 4 7 .int := ⟨RX4, TX4, 13, tyX4, rfl, lay_X4, by decide, fl_X4_87, tyX4_ok, nmX4, rfl, by decide +kernel⟩
theorem lk_X4_107 : zLV RX4 107 RX4 yX4_isDigit cX4_isDigit 2 (some .boolean) 1 := zLV_of ml_X4_107 im_X4_isDigit se_X4_isDigit ini_X4 cd_X4_isDigit (by decide +kernel)
theorem fg_X4_113 : zFG RX4 113 4 9 := ⟨RX4, TX4, 13, rfl, lay_X4, by decide, fl_X4_113⟩
theorem fp_X4_55 : zFP RX4 55 4 6 .int := ⟨RX4, TX4, 13, tyX4, rfl, lay_X4, by decide, fl_X4_55, tyX4_ok, nmX4, rfl, by decide +kernel⟩
def w_X4_takeDigits_5  (P : zSto → Prop)  : Nat → zSto → Prop
  | 0, _ => False
  | n + 1, σ => (((σ.1 171 5) ≤ (σ.1 171 6) → (((3 : Int32) < ((σ.1 171 6) - (σ.1 171 8)) → (∀ σ2 : zSto, σ2 = zI σ 171 7 (4 : Int32) → P σ2)) ∧ (¬ (3 : Int32) < ((σ.1 171 6) - (σ.1 171 8)) → (∀ σ3 : zSto, σ3 = zI σ 171 7 (2 : Int32) → P σ3)))) ∧ (¬ (σ.1 171 5) ≤ (σ.1 171 6) → (w_X4_isDigit (σ.1 171 6) σ (fun (r5 : Int32) (σ4 : zSto) => (r5 = 0 ∨ r5 = 1) → ((r5 = 0 → (((3 : Int32) < ((σ4.1 171 6) - (σ4.1 171 8)) → (∀ σ6 : zSto, σ6 = zI σ4 171 7 (4 : Int32) → P σ6)) ∧ (¬ (3 : Int32) < ((σ4.1 171 6) - (σ4.1 171 8)) → (∀ σ7 : zSto, σ7 = zI σ4 171 7 (2 : Int32) → P σ7)))) ∧ (¬ r5 = 0 → (vp_in (σ4.1 171 6) 600 ∧ (∀ σ9 : zSto, σ9 = zI σ4 171 9 (((σ4.1 171 9) * (10 : Int32)) + ((σ4.1 189 ((σ4.1 171 6)).toNatClampNeg) - (48 : Int32))) → (∀ σ10 : zSto, σ10 = zI σ9 171 6 ((σ9.1 171 6) + (1 : Int32)) → w_X4_takeDigits_5 P n  σ10)))))))))
def w_X4_takeDigits  (σ : zSto) (P : zSto → Prop) : Prop := (∀ σ1 : zSto, σ1 = zI σ 171 9 (0 : Int32) → (∃ n : Nat, w_X4_takeDigits_5  P  n  σ1))
set_option maxRecDepth 100000 in
set_option maxHeartbeats 4000000 in
theorem k_X4_takeDigits_5 {p : Program} {l : Launch} {e : Env} {s : State} {m : MethodId} {args : Array Value} {below : List Frame} {meth : Method} {c : Code} {D : va_G} {cy : Nat → ClassId} {g : Nat → Nat} (C : zC p s m args meth c cX4_takeDigits RX4 1 D cy g) (hr : meth.sig.returnType = none) {P : zSto → Prop}     : ∀ (n : Nat)  (σ : zSto), w_X4_takeDigits_5 P n  σ → zX p l e (zrm 1 21) s m args below meth c 0 0 (zQv P below args s D cy g) 1 D cy g 5 [(0, .ref (g 171))] [] σ := by
  intro n
  induction n with
  | zero => intro  σ h; exact h.elim
  | succ n ih =>
    intro  σ h
    unfold w_X4_takeDigits_5 at h
    refine zx_aload_n C dX4_takeDigits_5 0 rfl ?_
    refine zx_getI C zs_171 fg_X4_55 rfl dX4_takeDigits_6 ?_
    refine zx_aload_n C dX4_takeDigits_9 0 rfl ?_
    refine zx_getI C zs_171 fg_X4_45 rfl dX4_takeDigits_10 ?_
    refine zx_icmp_ge C 64 dX4_takeDigits_13 (by decide) (fun q => ?_) (fun q => ?_)
    · replace h := h.1 q
      refine zx_aload_n C dX4_takeDigits_64 0 rfl ?_
      refine zx_aload_n C dX4_takeDigits_65 0 rfl ?_
      refine zx_getI C zs_171 fg_X4_55 rfl dX4_takeDigits_66 ?_
      refine zx_aload_n C dX4_takeDigits_69 0 rfl ?_
      refine zx_getI C zs_171 fg_X4_90 rfl dX4_takeDigits_70 ?_
      refine zx_isub C dX4_takeDigits_73 ?_
      refine zx_iconst (v := (3 : Int32)) C dX4_takeDigits_74 (by decide) ?_
      refine zx_icmp_gt C 82 dX4_takeDigits_75 (by decide) (fun q => ?_) (fun q => ?_)
      · replace h := h.1 q
        refine zx_iconst (v := (4 : Int32)) C dX4_takeDigits_82 (by decide) ?_
        refine zx_putI C zs_171 fp_X4_87 rfl dX4_takeDigits_83 ?_
        refine zx_sig (fun σ2 eσ2 => ?_)
        replace h := h σ2 eσ2
        exact zx_vret C hr dX4_takeDigits_86 h
      · replace h := h.2 q
        refine zx_iconst (v := (2 : Int32)) C dX4_takeDigits_78 (by decide) ?_
        refine zx_goto C 83 dX4_takeDigits_79 (by decide) ?_
        refine zx_putI C zs_171 fp_X4_87 rfl dX4_takeDigits_83 ?_
        refine zx_sig (fun σ3 eσ3 => ?_)
        replace h := h σ3 eσ3
        exact zx_vret C hr dX4_takeDigits_86 h
    · replace h := h.2 q
      refine zx_aload_n C dX4_takeDigits_16 0 rfl ?_
      refine zx_aload_n C dX4_takeDigits_17 0 rfl ?_
      refine zx_getI C zs_171 fg_X4_55 rfl dX4_takeDigits_18 ?_
      refine zx_cVb C [.int (σ.1 171 6)] lk_X4_107 (c_X4_isDigit l D cy g (σ.1 171 6)  σ h) zs_171 rfl ⟨by decide, by decide⟩ ⟨rfl, rfl⟩ ⟨Nat.zero_le _, Nat.zero_le _⟩ rfl rfl (Nat.le_of_ble_eq_true rfl) dX4_takeDigits_21 (fun r5 σ4 hb h => ?_)
      replace h := h hb
      refine zx_if_eq C 64 dX4_takeDigits_24 (by decide) (fun q => ?_) (fun q => ?_)
      · replace h := h.1 q
        refine zx_aload_n C dX4_takeDigits_64 0 rfl ?_
        refine zx_aload_n C dX4_takeDigits_65 0 rfl ?_
        refine zx_getI C zs_171 fg_X4_55 rfl dX4_takeDigits_66 ?_
        refine zx_aload_n C dX4_takeDigits_69 0 rfl ?_
        refine zx_getI C zs_171 fg_X4_90 rfl dX4_takeDigits_70 ?_
        refine zx_isub C dX4_takeDigits_73 ?_
        refine zx_iconst (v := (3 : Int32)) C dX4_takeDigits_74 (by decide) ?_
        refine zx_icmp_gt C 82 dX4_takeDigits_75 (by decide) (fun q => ?_) (fun q => ?_)
        · replace h := h.1 q
          refine zx_iconst (v := (4 : Int32)) C dX4_takeDigits_82 (by decide) ?_
          refine zx_putI C zs_171 fp_X4_87 rfl dX4_takeDigits_83 ?_
          refine zx_sig (fun σ6 eσ6 => ?_)
          replace h := h σ6 eσ6
          exact zx_vret C hr dX4_takeDigits_86 h
        · replace h := h.2 q
          refine zx_iconst (v := (2 : Int32)) C dX4_takeDigits_78 (by decide) ?_
          refine zx_goto C 83 dX4_takeDigits_79 (by decide) ?_
          refine zx_putI C zs_171 fp_X4_87 rfl dX4_takeDigits_83 ?_
          refine zx_sig (fun σ7 eσ7 => ?_)
          replace h := h σ7 eσ7
          exact zx_vret C hr dX4_takeDigits_86 h
      · replace h := h.2 q
        refine zx_aload_n C dX4_takeDigits_27 0 rfl ?_
        refine zx_aload_n C dX4_takeDigits_28 0 rfl ?_
        refine zx_getI C zs_171 fg_X4_113 rfl dX4_takeDigits_29 ?_
        refine zx_bipush (v := (10 : Int32)) C dX4_takeDigits_32 (by decide) ?_
        refine zx_imul C dX4_takeDigits_34 ?_
        refine zx_aload_n C dX4_takeDigits_35 0 rfl ?_
        refine zx_getR C zs_171 fg_X4_32 rfl 189 rfl dX4_takeDigits_36 ?_
        refine zx_aload_n C dX4_takeDigits_39 0 rfl ?_
        refine zx_getI C zs_171 fg_X4_55 rfl dX4_takeDigits_40 ?_
        obtain ⟨bd8, h⟩ := h
        refine zx_bald C ((σ4.1 171 6)).toNatClampNeg zs_189 bd8 rfl dX4_takeDigits_43 ?_
        refine zx_bipush (v := (48 : Int32)) C dX4_takeDigits_44 (by decide) ?_
        refine zx_isub C dX4_takeDigits_46 ?_
        refine zx_iadd C dX4_takeDigits_47 ?_
        refine zx_putI C zs_171 fp_X4_113 rfl dX4_takeDigits_48 ?_
        refine zx_sig (fun σ9 eσ9 => ?_)
        replace h := h σ9 eσ9
        refine zx_aload_n C dX4_takeDigits_51 0 rfl ?_
        refine zx_dup C dX4_takeDigits_52 rfl ?_
        refine zx_getI C zs_171 fg_X4_55 rfl dX4_takeDigits_53 ?_
        refine zx_iconst (v := (1 : Int32)) C dX4_takeDigits_56 (by decide) ?_
        refine zx_iadd C dX4_takeDigits_57 ?_
        refine zx_putI C zs_171 fp_X4_55 rfl dX4_takeDigits_58 ?_
        refine zx_sig (fun σ10 eσ10 => ?_)
        replace h := h σ10 eσ10
        refine zx_goto C 5 dX4_takeDigits_61 (by decide) ?_
        refine zx_lv (lv' := [(0, .ref (g 171))]) [0] rfl ?_
        exact ih  σ10 h
set_option maxRecDepth 100000 in
set_option maxHeartbeats 4000000 in
theorem c_X4_takeDigits (l : Launch) (D : va_G) (cy : Nat → ClassId) (g : Nat → Nat)   (σ : zSto) {P : zSto → Prop} (h : w_X4_takeDigits  σ P) : zMv l yX4_takeDigits cX4_takeDigits 1 none (zrm 1 21) D cy g [.ref (g 171)] σ P := by
  unfold w_X4_takeDigits at h
  refine zm_v RX4 rfl (by decide +kernel) (Nat.le_of_ble_eq_true rfl) ?_
  intro p e s m below meth c C hr
  refine zx_lv (lv' := [(0, .ref (g 171))]) [0] rfl ?_
  refine zx_aload_n C dX4_takeDigits_0 0 rfl ?_
  refine zx_iconst (v := (0 : Int32)) C dX4_takeDigits_1 (by decide) ?_
  refine zx_putI C zs_171 fp_X4_113 rfl dX4_takeDigits_2 ?_
  refine zx_sig (fun σ1 eσ1 => ?_)
  replace h := h σ1 eσ1
  obtain ⟨n, h⟩ := h
  refine zx_lv (lv' := [(0, .ref (g 171))]) [0] rfl ?_
  exact k_X4_takeDigits_5 C hr    n  σ1 h
theorem fp_X4_90 : zFP RX4 90 4 8 .int := ⟨RX4, TX4, 13, tyX4, rfl, lay_X4, by decide, fl_X4_90, tyX4_ok, nmX4, rfl, by decide +kernel⟩
theorem lk_X4_104 : zLV RX4 104 RX4 yX4_isLetter cX4_isLetter 2 (some .boolean) 1 := zLV_of ml_X4_104 im_X4_isLetter se_X4_isLetter ini_X4 cd_X4_isLetter (by decide +kernel)
theorem lk_X4_110 : zLV RX4 110 RX4 yX4_takeDigits cX4_takeDigits 1 none 0 := zLV_of ml_X4_110 im_X4_takeDigits se_X4_takeDigits ini_X4 cd_X4_takeDigits (by decide +kernel)
def w_X4_nextToken_95  (P : zSto → Prop)  : Nat → zSto → Prop
  | 0, _ => False
  | n + 1, σ => (((σ.1 171 5) ≤ (σ.1 171 6) → P σ) ∧ (¬ (σ.1 171 5) ≤ (σ.1 171 6) → (w_X4_isLetter (σ.1 171 6) σ (fun (r14 : Int32) (σ13 : zSto) => (r14 = 0 ∨ r14 = 1) → ((r14 = 0 → P σ13) ∧ (¬ r14 = 0 → (∀ σ15 : zSto, σ15 = zI σ13 171 6 ((σ13.1 171 6) + (1 : Int32)) → w_X4_nextToken_95 P n  σ15)))))))
def w_X4_nextToken_0  (P : zSto → Prop)  : Nat → zSto → Prop
  | 0, _ => False
  | n + 1, σ => (((σ.1 171 5) ≤ (σ.1 171 6) → (∀ σ1 : zSto, σ1 = zI σ 171 8 (σ.1 171 6) → (((σ1.1 171 6) < (σ1.1 171 5) → (w_X4_isLetter (σ1.1 171 6) σ1 (fun (r3 : Int32) (σ2 : zSto) => (r3 = 0 ∨ r3 = 1) → ((r3 = 0 → (w_X4_isDigit (σ2.1 171 6) σ2 (fun (r5 : Int32) (σ4 : zSto) => (r5 = 0 ∨ r5 = 1) → ((r5 = 0 → (vp_in (σ4.1 171 6) 600 ∧ ((¬ (σ4.1 189 ((σ4.1 171 6)).toNatClampNeg) = (59 : Int32) → (∀ σ7 : zSto, σ7 = zI σ4 171 7 (4 : Int32) → (∀ σ8 : zSto, σ8 = zI σ7 171 6 ((σ7.1 171 6) + (1 : Int32)) → P σ8))) ∧ ((σ4.1 189 ((σ4.1 171 6)).toNatClampNeg) = (59 : Int32) → (∀ σ9 : zSto, σ9 = zI σ4 171 7 (3 : Int32) → (∀ σ10 : zSto, σ10 = zI σ9 171 6 ((σ9.1 171 6) + (1 : Int32)) → P σ10)))))) ∧ (¬ r5 = 0 → (w_X4_takeDigits  σ4 (fun (σ11 : zSto) => P σ11))))))) ∧ (¬ r3 = 0 → (∀ σ12 : zSto, σ12 = zI σ2 171 7 (1 : Int32) → (∃ n2 : Nat, w_X4_nextToken_95  P  n2  σ12))))))) ∧ (¬ (σ1.1 171 6) < (σ1.1 171 5) → (∀ σ16 : zSto, σ16 = zI σ1 171 7 (0 : Int32) → P σ16))))) ∧ (¬ (σ.1 171 5) ≤ (σ.1 171 6) → (vp_in (σ.1 171 6) 600 ∧ (((σ.1 189 ((σ.1 171 6)).toNatClampNeg) = (32 : Int32) → (∀ σ18 : zSto, σ18 = zI σ 171 6 ((σ.1 171 6) + (1 : Int32)) → w_X4_nextToken_0 P n  σ18)) ∧ (¬ (σ.1 189 ((σ.1 171 6)).toNatClampNeg) = (32 : Int32) → (vp_in (σ.1 171 6) 600 ∧ ((¬ (σ.1 189 ((σ.1 171 6)).toNatClampNeg) = (10 : Int32) → (∀ σ20 : zSto, σ20 = zI σ 171 8 (σ.1 171 6) → (((σ20.1 171 6) < (σ20.1 171 5) → (w_X4_isLetter (σ20.1 171 6) σ20 (fun (r22 : Int32) (σ21 : zSto) => (r22 = 0 ∨ r22 = 1) → ((r22 = 0 → (w_X4_isDigit (σ21.1 171 6) σ21 (fun (r24 : Int32) (σ23 : zSto) => (r24 = 0 ∨ r24 = 1) → ((r24 = 0 → (vp_in (σ23.1 171 6) 600 ∧ ((¬ (σ23.1 189 ((σ23.1 171 6)).toNatClampNeg) = (59 : Int32) → (∀ σ26 : zSto, σ26 = zI σ23 171 7 (4 : Int32) → (∀ σ27 : zSto, σ27 = zI σ26 171 6 ((σ26.1 171 6) + (1 : Int32)) → P σ27))) ∧ ((σ23.1 189 ((σ23.1 171 6)).toNatClampNeg) = (59 : Int32) → (∀ σ28 : zSto, σ28 = zI σ23 171 7 (3 : Int32) → (∀ σ29 : zSto, σ29 = zI σ28 171 6 ((σ28.1 171 6) + (1 : Int32)) → P σ29)))))) ∧ (¬ r24 = 0 → (w_X4_takeDigits  σ23 (fun (σ30 : zSto) => P σ30))))))) ∧ (¬ r22 = 0 → (∀ σ31 : zSto, σ31 = zI σ21 171 7 (1 : Int32) → (∃ n2 : Nat, w_X4_nextToken_95  P  n2  σ31))))))) ∧ (¬ (σ20.1 171 6) < (σ20.1 171 5) → (∀ σ32 : zSto, σ32 = zI σ20 171 7 (0 : Int32) → P σ32))))) ∧ ((σ.1 189 ((σ.1 171 6)).toNatClampNeg) = (10 : Int32) → (∀ σ33 : zSto, σ33 = zI σ 171 6 ((σ.1 171 6) + (1 : Int32)) → w_X4_nextToken_0 P n  σ33)))))))))
def w_X4_nextToken  (σ : zSto) (P : zSto → Prop) : Prop := (∃ n : Nat, w_X4_nextToken_0  P  n  σ)
set_option maxRecDepth 100000 in
set_option maxHeartbeats 4000000 in
theorem k_X4_nextToken_95 {p : Program} {l : Launch} {e : Env} {s : State} {m : MethodId} {args : Array Value} {below : List Frame} {meth : Method} {c : Code} {D : va_G} {cy : Nat → ClassId} {g : Nat → Nat} (C : zC p s m args meth c cX4_nextToken RX4 1 D cy g) (hr : meth.sig.returnType = none) {P : zSto → Prop}     : ∀ (n : Nat)  (σ : zSto), w_X4_nextToken_95 P n  σ → zX p l e (zrm 2 41) s m args below meth c 0 0 (zQv P below args s D cy g) 1 D cy g 95 [(0, .ref (g 171))] [] σ := by
  intro n
  induction n with
  | zero => intro  σ h; exact h.elim
  | succ n ih =>
    intro  σ h
    unfold w_X4_nextToken_95 at h
    refine zx_aload_n C dX4_nextToken_95 0 rfl ?_
    refine zx_getI C zs_171 fg_X4_55 rfl dX4_nextToken_96 ?_
    refine zx_aload_n C dX4_nextToken_99 0 rfl ?_
    refine zx_getI C zs_171 fg_X4_45 rfl dX4_nextToken_100 ?_
    refine zx_icmp_ge C 181 dX4_nextToken_103 (by decide) (fun q => ?_) (fun q => ?_)
    · replace h := h.1 q
      exact zx_vret C hr dX4_nextToken_181 h
    · replace h := h.2 q
      refine zx_aload_n C dX4_nextToken_106 0 rfl ?_
      refine zx_aload_n C dX4_nextToken_107 0 rfl ?_
      refine zx_getI C zs_171 fg_X4_55 rfl dX4_nextToken_108 ?_
      refine zx_cVb C [.int (σ.1 171 6)] lk_X4_104 (c_X4_isLetter l D cy g (σ.1 171 6)  σ h) zs_171 rfl ⟨by decide, by decide⟩ ⟨rfl, rfl⟩ ⟨Nat.zero_le _, Nat.zero_le _⟩ rfl rfl (Nat.le_of_ble_eq_true rfl) dX4_nextToken_111 (fun r14 σ13 hb h => ?_)
      replace h := h hb
      refine zx_if_eq C 181 dX4_nextToken_114 (by decide) (fun q => ?_) (fun q => ?_)
      · replace h := h.1 q
        exact zx_vret C hr dX4_nextToken_181 h
      · replace h := h.2 q
        refine zx_aload_n C dX4_nextToken_117 0 rfl ?_
        refine zx_dup C dX4_nextToken_118 rfl ?_
        refine zx_getI C zs_171 fg_X4_55 rfl dX4_nextToken_119 ?_
        refine zx_iconst (v := (1 : Int32)) C dX4_nextToken_122 (by decide) ?_
        refine zx_iadd C dX4_nextToken_123 ?_
        refine zx_putI C zs_171 fp_X4_55 rfl dX4_nextToken_124 ?_
        refine zx_sig (fun σ15 eσ15 => ?_)
        replace h := h σ15 eσ15
        refine zx_goto C 95 dX4_nextToken_127 (by decide) ?_
        refine zx_lv (lv' := [(0, .ref (g 171))]) [0] rfl ?_
        exact ih  σ15 h
set_option maxRecDepth 100000 in
set_option maxHeartbeats 4000000 in
theorem k_X4_nextToken_0 {p : Program} {l : Launch} {e : Env} {s : State} {m : MethodId} {args : Array Value} {below : List Frame} {meth : Method} {c : Code} {D : va_G} {cy : Nat → ClassId} {g : Nat → Nat} (C : zC p s m args meth c cX4_nextToken RX4 1 D cy g) (hr : meth.sig.returnType = none) {P : zSto → Prop}     : ∀ (n : Nat)  (σ : zSto), w_X4_nextToken_0 P n  σ → zX p l e (zrm 2 41) s m args below meth c 0 0 (zQv P below args s D cy g) 1 D cy g 0 [(0, .ref (g 171))] [] σ := by
  intro n
  induction n with
  | zero => intro  σ h; exact h.elim
  | succ n ih =>
    intro  σ h
    unfold w_X4_nextToken_0 at h
    refine zx_aload_n C dX4_nextToken_0 0 rfl ?_
    refine zx_getI C zs_171 fg_X4_55 rfl dX4_nextToken_1 ?_
    refine zx_aload_n C dX4_nextToken_4 0 rfl ?_
    refine zx_getI C zs_171 fg_X4_45 rfl dX4_nextToken_5 ?_
    refine zx_icmp_ge C 52 dX4_nextToken_8 (by decide) (fun q => ?_) (fun q => ?_)
    · replace h := h.1 q
      refine zx_aload_n C dX4_nextToken_52 0 rfl ?_
      refine zx_aload_n C dX4_nextToken_53 0 rfl ?_
      refine zx_getI C zs_171 fg_X4_55 rfl dX4_nextToken_54 ?_
      refine zx_putI C zs_171 fp_X4_90 rfl dX4_nextToken_57 ?_
      refine zx_sig (fun σ1 eσ1 => ?_)
      replace h := h σ1 eσ1
      refine zx_aload_n C dX4_nextToken_60 0 rfl ?_
      refine zx_getI C zs_171 fg_X4_55 rfl dX4_nextToken_61 ?_
      refine zx_aload_n C dX4_nextToken_64 0 rfl ?_
      refine zx_getI C zs_171 fg_X4_45 rfl dX4_nextToken_65 ?_
      refine zx_icmp_lt C 79 dX4_nextToken_68 (by decide) (fun q => ?_) (fun q => ?_)
      · replace h := h.1 q
        refine zx_aload_n C dX4_nextToken_79 0 rfl ?_
        refine zx_aload_n C dX4_nextToken_80 0 rfl ?_
        refine zx_getI C zs_171 fg_X4_55 rfl dX4_nextToken_81 ?_
        refine zx_cVb C [.int (σ1.1 171 6)] lk_X4_104 (c_X4_isLetter l D cy g (σ1.1 171 6)  σ1 h) zs_171 rfl ⟨by decide, by decide⟩ ⟨rfl, rfl⟩ ⟨Nat.zero_le _, Nat.zero_le _⟩ rfl rfl (Nat.le_of_ble_eq_true rfl) dX4_nextToken_84 (fun r3 σ2 hb h => ?_)
        replace h := h hb
        refine zx_if_eq C 130 dX4_nextToken_87 (by decide) (fun q => ?_) (fun q => ?_)
        · replace h := h.1 q
          refine zx_aload_n C dX4_nextToken_130 0 rfl ?_
          refine zx_aload_n C dX4_nextToken_131 0 rfl ?_
          refine zx_getI C zs_171 fg_X4_55 rfl dX4_nextToken_132 ?_
          refine zx_cVb C [.int (σ2.1 171 6)] lk_X4_107 (c_X4_isDigit l D cy g (σ2.1 171 6)  σ2 h) zs_171 rfl ⟨by decide, by decide⟩ ⟨rfl, rfl⟩ ⟨Nat.zero_le _, Nat.zero_le _⟩ rfl rfl (Nat.le_of_ble_eq_true rfl) dX4_nextToken_135 (fun r5 σ4 hb h => ?_)
          replace h := h hb
          refine zx_if_eq C 148 dX4_nextToken_138 (by decide) (fun q => ?_) (fun q => ?_)
          · replace h := h.1 q
            refine zx_aload_n C dX4_nextToken_148 0 rfl ?_
            refine zx_aload_n C dX4_nextToken_149 0 rfl ?_
            refine zx_getR C zs_171 fg_X4_32 rfl 189 rfl dX4_nextToken_150 ?_
            refine zx_aload_n C dX4_nextToken_153 0 rfl ?_
            refine zx_getI C zs_171 fg_X4_55 rfl dX4_nextToken_154 ?_
            obtain ⟨bd6, h⟩ := h
            refine zx_bald C ((σ4.1 171 6)).toNatClampNeg zs_189 bd6 rfl dX4_nextToken_157 ?_
            refine zx_bipush (v := (59 : Int32)) C dX4_nextToken_158 (by decide) ?_
            refine zx_icmp_ne C 167 dX4_nextToken_160 (by decide) (fun q => ?_) (fun q => ?_)
            · replace h := h.1 q
              refine zx_iconst (v := (4 : Int32)) C dX4_nextToken_167 (by decide) ?_
              refine zx_putI C zs_171 fp_X4_87 rfl dX4_nextToken_168 ?_
              refine zx_sig (fun σ7 eσ7 => ?_)
              replace h := h σ7 eσ7
              refine zx_aload_n C dX4_nextToken_171 0 rfl ?_
              refine zx_dup C dX4_nextToken_172 rfl ?_
              refine zx_getI C zs_171 fg_X4_55 rfl dX4_nextToken_173 ?_
              refine zx_iconst (v := (1 : Int32)) C dX4_nextToken_176 (by decide) ?_
              refine zx_iadd C dX4_nextToken_177 ?_
              refine zx_putI C zs_171 fp_X4_55 rfl dX4_nextToken_178 ?_
              refine zx_sig (fun σ8 eσ8 => ?_)
              replace h := h σ8 eσ8
              exact zx_vret C hr dX4_nextToken_181 h
            · replace h := h.2 q
              refine zx_iconst (v := (3 : Int32)) C dX4_nextToken_163 (by decide) ?_
              refine zx_goto C 168 dX4_nextToken_164 (by decide) ?_
              refine zx_putI C zs_171 fp_X4_87 rfl dX4_nextToken_168 ?_
              refine zx_sig (fun σ9 eσ9 => ?_)
              replace h := h σ9 eσ9
              refine zx_aload_n C dX4_nextToken_171 0 rfl ?_
              refine zx_dup C dX4_nextToken_172 rfl ?_
              refine zx_getI C zs_171 fg_X4_55 rfl dX4_nextToken_173 ?_
              refine zx_iconst (v := (1 : Int32)) C dX4_nextToken_176 (by decide) ?_
              refine zx_iadd C dX4_nextToken_177 ?_
              refine zx_putI C zs_171 fp_X4_55 rfl dX4_nextToken_178 ?_
              refine zx_sig (fun σ10 eσ10 => ?_)
              replace h := h σ10 eσ10
              exact zx_vret C hr dX4_nextToken_181 h
          · replace h := h.2 q
            refine zx_aload_n C dX4_nextToken_141 0 rfl ?_
            refine zx_cVv C [] lk_X4_110 (c_X4_takeDigits l D cy g   σ4 h) zs_171 rfl ⟨by decide, by decide⟩ ⟨rfl, rfl⟩ ⟨Nat.zero_le _, Nat.zero_le _⟩ rfl rfl (Nat.le_of_ble_eq_true rfl) dX4_nextToken_142 (fun σ11 h => ?_)
            refine zx_goto C 181 dX4_nextToken_145 (by decide) ?_
            exact zx_vret C hr dX4_nextToken_181 h
        · replace h := h.2 q
          refine zx_aload_n C dX4_nextToken_90 0 rfl ?_
          refine zx_iconst (v := (1 : Int32)) C dX4_nextToken_91 (by decide) ?_
          refine zx_putI C zs_171 fp_X4_87 rfl dX4_nextToken_92 ?_
          refine zx_sig (fun σ12 eσ12 => ?_)
          replace h := h σ12 eσ12
          obtain ⟨n2, h⟩ := h
          refine zx_lv (lv' := [(0, .ref (g 171))]) [0] rfl ?_
          exact k_X4_nextToken_95 C hr    n2  σ12 h
      · replace h := h.2 q
        refine zx_aload_n C dX4_nextToken_71 0 rfl ?_
        refine zx_iconst (v := (0 : Int32)) C dX4_nextToken_72 (by decide) ?_
        refine zx_putI C zs_171 fp_X4_87 rfl dX4_nextToken_73 ?_
        refine zx_sig (fun σ16 eσ16 => ?_)
        replace h := h σ16 eσ16
        refine zx_goto C 181 dX4_nextToken_76 (by decide) ?_
        exact zx_vret C hr dX4_nextToken_181 h
    · replace h := h.2 q
      refine zx_aload_n C dX4_nextToken_11 0 rfl ?_
      refine zx_getR C zs_171 fg_X4_32 rfl 189 rfl dX4_nextToken_12 ?_
      refine zx_aload_n C dX4_nextToken_15 0 rfl ?_
      refine zx_getI C zs_171 fg_X4_55 rfl dX4_nextToken_16 ?_
      obtain ⟨bd17, h⟩ := h
      refine zx_bald C ((σ.1 171 6)).toNatClampNeg zs_189 bd17 rfl dX4_nextToken_19 ?_
      refine zx_bipush (v := (32 : Int32)) C dX4_nextToken_20 (by decide) ?_
      refine zx_icmp_eq C 39 dX4_nextToken_22 (by decide) (fun q => ?_) (fun q => ?_)
      · replace h := h.1 q
        refine zx_aload_n C dX4_nextToken_39 0 rfl ?_
        refine zx_dup C dX4_nextToken_40 rfl ?_
        refine zx_getI C zs_171 fg_X4_55 rfl dX4_nextToken_41 ?_
        refine zx_iconst (v := (1 : Int32)) C dX4_nextToken_44 (by decide) ?_
        refine zx_iadd C dX4_nextToken_45 ?_
        refine zx_putI C zs_171 fp_X4_55 rfl dX4_nextToken_46 ?_
        refine zx_sig (fun σ18 eσ18 => ?_)
        replace h := h σ18 eσ18
        refine zx_goto C 0 dX4_nextToken_49 (by decide) ?_
        refine zx_lv (lv' := [(0, .ref (g 171))]) [0] rfl ?_
        exact ih  σ18 h
      · replace h := h.2 q
        refine zx_aload_n C dX4_nextToken_25 0 rfl ?_
        refine zx_getR C zs_171 fg_X4_32 rfl 189 rfl dX4_nextToken_26 ?_
        refine zx_aload_n C dX4_nextToken_29 0 rfl ?_
        refine zx_getI C zs_171 fg_X4_55 rfl dX4_nextToken_30 ?_
        obtain ⟨bd19, h⟩ := h
        refine zx_bald C ((σ.1 171 6)).toNatClampNeg zs_189 bd19 rfl dX4_nextToken_33 ?_
        refine zx_bipush (v := (10 : Int32)) C dX4_nextToken_34 (by decide) ?_
        refine zx_icmp_ne C 52 dX4_nextToken_36 (by decide) (fun q => ?_) (fun q => ?_)
        · replace h := h.1 q
          refine zx_aload_n C dX4_nextToken_52 0 rfl ?_
          refine zx_aload_n C dX4_nextToken_53 0 rfl ?_
          refine zx_getI C zs_171 fg_X4_55 rfl dX4_nextToken_54 ?_
          refine zx_putI C zs_171 fp_X4_90 rfl dX4_nextToken_57 ?_
          refine zx_sig (fun σ20 eσ20 => ?_)
          replace h := h σ20 eσ20
          refine zx_aload_n C dX4_nextToken_60 0 rfl ?_
          refine zx_getI C zs_171 fg_X4_55 rfl dX4_nextToken_61 ?_
          refine zx_aload_n C dX4_nextToken_64 0 rfl ?_
          refine zx_getI C zs_171 fg_X4_45 rfl dX4_nextToken_65 ?_
          refine zx_icmp_lt C 79 dX4_nextToken_68 (by decide) (fun q => ?_) (fun q => ?_)
          · replace h := h.1 q
            refine zx_aload_n C dX4_nextToken_79 0 rfl ?_
            refine zx_aload_n C dX4_nextToken_80 0 rfl ?_
            refine zx_getI C zs_171 fg_X4_55 rfl dX4_nextToken_81 ?_
            refine zx_cVb C [.int (σ20.1 171 6)] lk_X4_104 (c_X4_isLetter l D cy g (σ20.1 171 6)  σ20 h) zs_171 rfl ⟨by decide, by decide⟩ ⟨rfl, rfl⟩ ⟨Nat.zero_le _, Nat.zero_le _⟩ rfl rfl (Nat.le_of_ble_eq_true rfl) dX4_nextToken_84 (fun r22 σ21 hb h => ?_)
            replace h := h hb
            refine zx_if_eq C 130 dX4_nextToken_87 (by decide) (fun q => ?_) (fun q => ?_)
            · replace h := h.1 q
              refine zx_aload_n C dX4_nextToken_130 0 rfl ?_
              refine zx_aload_n C dX4_nextToken_131 0 rfl ?_
              refine zx_getI C zs_171 fg_X4_55 rfl dX4_nextToken_132 ?_
              refine zx_cVb C [.int (σ21.1 171 6)] lk_X4_107 (c_X4_isDigit l D cy g (σ21.1 171 6)  σ21 h) zs_171 rfl ⟨by decide, by decide⟩ ⟨rfl, rfl⟩ ⟨Nat.zero_le _, Nat.zero_le _⟩ rfl rfl (Nat.le_of_ble_eq_true rfl) dX4_nextToken_135 (fun r24 σ23 hb h => ?_)
              replace h := h hb
              refine zx_if_eq C 148 dX4_nextToken_138 (by decide) (fun q => ?_) (fun q => ?_)
              · replace h := h.1 q
                refine zx_aload_n C dX4_nextToken_148 0 rfl ?_
                refine zx_aload_n C dX4_nextToken_149 0 rfl ?_
                refine zx_getR C zs_171 fg_X4_32 rfl 189 rfl dX4_nextToken_150 ?_
                refine zx_aload_n C dX4_nextToken_153 0 rfl ?_
                refine zx_getI C zs_171 fg_X4_55 rfl dX4_nextToken_154 ?_
                obtain ⟨bd25, h⟩ := h
                refine zx_bald C ((σ23.1 171 6)).toNatClampNeg zs_189 bd25 rfl dX4_nextToken_157 ?_
                refine zx_bipush (v := (59 : Int32)) C dX4_nextToken_158 (by decide) ?_
                refine zx_icmp_ne C 167 dX4_nextToken_160 (by decide) (fun q => ?_) (fun q => ?_)
                · replace h := h.1 q
                  refine zx_iconst (v := (4 : Int32)) C dX4_nextToken_167 (by decide) ?_
                  refine zx_putI C zs_171 fp_X4_87 rfl dX4_nextToken_168 ?_
                  refine zx_sig (fun σ26 eσ26 => ?_)
                  replace h := h σ26 eσ26
                  refine zx_aload_n C dX4_nextToken_171 0 rfl ?_
                  refine zx_dup C dX4_nextToken_172 rfl ?_
                  refine zx_getI C zs_171 fg_X4_55 rfl dX4_nextToken_173 ?_
                  refine zx_iconst (v := (1 : Int32)) C dX4_nextToken_176 (by decide) ?_
                  refine zx_iadd C dX4_nextToken_177 ?_
                  refine zx_putI C zs_171 fp_X4_55 rfl dX4_nextToken_178 ?_
                  refine zx_sig (fun σ27 eσ27 => ?_)
                  replace h := h σ27 eσ27
                  exact zx_vret C hr dX4_nextToken_181 h
                · replace h := h.2 q
                  refine zx_iconst (v := (3 : Int32)) C dX4_nextToken_163 (by decide) ?_
                  refine zx_goto C 168 dX4_nextToken_164 (by decide) ?_
                  refine zx_putI C zs_171 fp_X4_87 rfl dX4_nextToken_168 ?_
                  refine zx_sig (fun σ28 eσ28 => ?_)
                  replace h := h σ28 eσ28
                  refine zx_aload_n C dX4_nextToken_171 0 rfl ?_
                  refine zx_dup C dX4_nextToken_172 rfl ?_
                  refine zx_getI C zs_171 fg_X4_55 rfl dX4_nextToken_173 ?_
                  refine zx_iconst (v := (1 : Int32)) C dX4_nextToken_176 (by decide) ?_
                  refine zx_iadd C dX4_nextToken_177 ?_
                  refine zx_putI C zs_171 fp_X4_55 rfl dX4_nextToken_178 ?_
                  refine zx_sig (fun σ29 eσ29 => ?_)
                  replace h := h σ29 eσ29
                  exact zx_vret C hr dX4_nextToken_181 h
              · replace h := h.2 q
                refine zx_aload_n C dX4_nextToken_141 0 rfl ?_
                refine zx_cVv C [] lk_X4_110 (c_X4_takeDigits l D cy g   σ23 h) zs_171 rfl ⟨by decide, by decide⟩ ⟨rfl, rfl⟩ ⟨Nat.zero_le _, Nat.zero_le _⟩ rfl rfl (Nat.le_of_ble_eq_true rfl) dX4_nextToken_142 (fun σ30 h => ?_)
                refine zx_goto C 181 dX4_nextToken_145 (by decide) ?_
                exact zx_vret C hr dX4_nextToken_181 h
            · replace h := h.2 q
              refine zx_aload_n C dX4_nextToken_90 0 rfl ?_
              refine zx_iconst (v := (1 : Int32)) C dX4_nextToken_91 (by decide) ?_
              refine zx_putI C zs_171 fp_X4_87 rfl dX4_nextToken_92 ?_
              refine zx_sig (fun σ31 eσ31 => ?_)
              replace h := h σ31 eσ31
              obtain ⟨n2, h⟩ := h
              refine zx_lv (lv' := [(0, .ref (g 171))]) [0] rfl ?_
              exact k_X4_nextToken_95 C hr    n2  σ31 h
          · replace h := h.2 q
            refine zx_aload_n C dX4_nextToken_71 0 rfl ?_
            refine zx_iconst (v := (0 : Int32)) C dX4_nextToken_72 (by decide) ?_
            refine zx_putI C zs_171 fp_X4_87 rfl dX4_nextToken_73 ?_
            refine zx_sig (fun σ32 eσ32 => ?_)
            replace h := h σ32 eσ32
            refine zx_goto C 181 dX4_nextToken_76 (by decide) ?_
            exact zx_vret C hr dX4_nextToken_181 h
        · replace h := h.2 q
          refine zx_aload_n C dX4_nextToken_39 0 rfl ?_
          refine zx_dup C dX4_nextToken_40 rfl ?_
          refine zx_getI C zs_171 fg_X4_55 rfl dX4_nextToken_41 ?_
          refine zx_iconst (v := (1 : Int32)) C dX4_nextToken_44 (by decide) ?_
          refine zx_iadd C dX4_nextToken_45 ?_
          refine zx_putI C zs_171 fp_X4_55 rfl dX4_nextToken_46 ?_
          refine zx_sig (fun σ33 eσ33 => ?_)
          replace h := h σ33 eσ33
          refine zx_goto C 0 dX4_nextToken_49 (by decide) ?_
          refine zx_lv (lv' := [(0, .ref (g 171))]) [0] rfl ?_
          exact ih  σ33 h
set_option maxRecDepth 100000 in
set_option maxHeartbeats 4000000 in
theorem c_X4_nextToken (l : Launch) (D : va_G) (cy : Nat → ClassId) (g : Nat → Nat)   (σ : zSto) {P : zSto → Prop} (h : w_X4_nextToken  σ P) : zMv l yX4_nextToken cX4_nextToken 1 none (zrm 2 41) D cy g [.ref (g 171)] σ P := by
  unfold w_X4_nextToken at h
  refine zm_v RX4 rfl (by decide +kernel) (Nat.le_of_ble_eq_true rfl) ?_
  intro p e s m below meth c C hr
  refine zx_lv (lv' := [(0, .ref (g 171))]) [0] rfl ?_
  obtain ⟨n, h⟩ := h
  refine zx_lv (lv' := [(0, .ref (g 171))]) [0] rfl ?_
  exact k_X4_nextToken_0 C hr    n  σ h
def w_J0_coder_7d493 (i0 : Nat) (σ : zSto) (P : Int32 → zSto → Prop) : Prop := P (0 : Int32) σ
set_option maxRecDepth 100000 in
set_option maxHeartbeats 4000000 in
theorem c_J0_coder_7d493 (l : Launch) (D : va_G) (cy : Nat → ClassId) (g : Nat → Nat) (i0 : Nat) (hi0 : i0 < 11) (σ : zSto) {P : Int32 → zSto → Prop} (h : w_J0_coder_7d493 i0 σ P) : zMi l yJ0_coder_7d493 cJ0_coder_7d493 1 (some .byte) (zrm 0 0) D cy g [.ref (cy (100 + i0))] σ P := by
  unfold w_J0_coder_7d493 at h
  refine zm_i RJ0 rfl (by decide +kernel) (Nat.le_of_ble_eq_true rfl) ?_
  intro p e s m below meth c C hr
  refine zx_lv (lv' := [(0, .ref (cy (100 + i0)))]) [0] rfl ?_
  refine zx_kcs C fl_J0_38 dJ0_coder_7d493_0 ?_
  refine zx_if_eq C 13 dJ0_coder_7d493_3 (by decide) (fun q => ?_) (fun q => ?_)
  · exact absurd q (by decide)
  · refine zx_aload_n C dJ0_coder_7d493_6 0 rfl ?_
    refine zx_kcod C hi0 fl_J0_15 dJ0_coder_7d493_7 ?_
    refine zx_goto C 14 dJ0_coder_7d493_10 (by decide) ?_
    exact zx_nret C hr dJ0_coder_7d493_14 rfl h
theorem lk_J0_335 : zLV RJ0 335 RJ0 yJ0_coder_7d493 cJ0_coder_7d493 1 (some .byte) 0 := zLV_of ml_J0_335 im_J0_coder_7d493 se_J0_coder_7d493 ini_J0 cd_J0_coder_7d493 (by decide +kernel)
def w_J0_length_8abf5 (i0 : Nat) (σ : zSto) (P : Int32 → zSto → Prop) : Prop := (w_J0_coder_7d493 i0 σ (fun (r2 : Int32) (σ1 : zSto) => P ((Int32.ofNat (zlen.getD i0 0)) >>> (r2 &&& 31)) σ1))
set_option maxRecDepth 100000 in
set_option maxHeartbeats 4000000 in
theorem c_J0_length_8abf5 (l : Launch) (D : va_G) (cy : Nat → ClassId) (g : Nat → Nat) (i0 : Nat) (hi0 : i0 < 11) (σ : zSto) {P : Int32 → zSto → Prop} (h : w_J0_length_8abf5 i0 σ P) : zMi l yJ0_length_8abf5 cJ0_length_8abf5 1 (some .int) (zrm 1 20) D cy g [.ref (cy (100 + i0))] σ P := by
  unfold w_J0_length_8abf5 at h
  refine zm_i RJ0 rfl (by decide +kernel) (Nat.le_of_ble_eq_true rfl) ?_
  intro p e s m below meth c C hr
  refine zx_lv (lv' := [(0, .ref (cy (100 + i0)))]) [0] rfl ?_
  refine zx_aload_n C dJ0_length_8abf5_0 0 rfl ?_
  refine zx_kval C hi0 fl_J0_9 dJ0_length_8abf5_1 ?_
  refine zx_klen C hi0 dJ0_length_8abf5_4 ?_
  refine zx_aload_n C dJ0_length_8abf5_5 0 rfl ?_
  refine zx_cKi C [] hi0 lk_J0_335 (c_J0_coder_7d493 l D cy g i0 hi0 σ h) ⟨by decide, by decide⟩ ⟨rfl, rfl⟩ ⟨Nat.zero_le _, Nat.zero_le _⟩ rfl rfl (Nat.le_of_ble_eq_true rfl) dJ0_length_8abf5_6 (fun r2 σ1 h => ?_)
  refine zx_ishr C dJ0_length_8abf5_9 ?_
  exact zx_iret C hr dJ0_length_8abf5_10 h
def w_J0_isLatin1_aae02 (i0 : Nat) (σ : zSto) (P : Int32 → zSto → Prop) : Prop := P (1 : Int32) σ
set_option maxRecDepth 100000 in
set_option maxHeartbeats 4000000 in
theorem c_J0_isLatin1_aae02 (l : Launch) (D : va_G) (cy : Nat → ClassId) (g : Nat → Nat) (i0 : Nat) (hi0 : i0 < 11) (σ : zSto) {P : Int32 → zSto → Prop} (h : w_J0_isLatin1_aae02 i0 σ P) : zMb l yJ0_isLatin1_aae02 cJ0_isLatin1_aae02 1 (some .boolean) (zrm 0 0) D cy g [.ref (cy (100 + i0))] σ P := by
  unfold w_J0_isLatin1_aae02 at h
  refine zm_b RJ0 rfl (by decide +kernel) (Nat.le_of_ble_eq_true rfl) ?_
  intro p e s m below meth c C hr
  refine zx_lv (lv' := [(0, .ref (cy (100 + i0)))]) [0] rfl ?_
  refine zx_kcs C fl_J0_38 dJ0_isLatin1_aae02_0 ?_
  refine zx_if_eq C 17 dJ0_isLatin1_aae02_3 (by decide) (fun q => ?_) (fun q => ?_)
  · exact absurd q (by decide)
  · refine zx_aload_n C dJ0_isLatin1_aae02_6 0 rfl ?_
    refine zx_kcod C hi0 fl_J0_15 dJ0_isLatin1_aae02_7 ?_
    refine zx_if_ne C 17 dJ0_isLatin1_aae02_10 (by decide) (fun q => ?_) (fun q => ?_)
    · exact absurd q (by decide)
    · refine zx_iconst (v := (1 : Int32)) C dJ0_isLatin1_aae02_13 (by decide) ?_
      refine zx_goto C 18 dJ0_isLatin1_aae02_14 (by decide) ?_
      exact zx_zret C hr dJ0_isLatin1_aae02_18 (Or.inr rfl) h
def w_J3_checkIndex_8e157 (a1 : Int32) (a2 : Int32) (o3 : Option Nat) (σ : zSto) (P : Int32 → zSto → Prop) : Prop := ((a1 < 0 → False) ∧ (¬ a1 < 0 → ((a1 < a2 → P a1 σ) ∧ (¬ a1 < a2 → False))))
set_option maxRecDepth 100000 in
set_option maxHeartbeats 4000000 in
theorem c_J3_checkIndex_8e157 (l : Launch) (D : va_G) (cy : Nat → ClassId) (g : Nat → Nat) (a1 : Int32) (a2 : Int32) (o3 : Option Nat)  (σ : zSto) {P : Int32 → zSto → Prop} (h : w_J3_checkIndex_8e157 a1 a2 o3 σ P) : zMi l yJ3_checkIndex_8e157 cJ3_checkIndex_8e157 3 (some .int) (zrm 0 0) D cy g [.int a1, .int a2, (va_rf o3)] σ P := by
  unfold w_J3_checkIndex_8e157 at h
  cases o3 with
  | none =>
    refine zm_i RJ3 rfl (by decide +kernel) (Nat.le_of_ble_eq_true rfl) ?_
    intro p e s m below meth c C hr
    refine zx_lv (lv' := [(0, .int a1), (1, .int a2), (2, .null)]) [0, 1, 2] rfl ?_
    refine zx_iload_n C dJ3_checkIndex_8e157_0 0 rfl ?_
    refine zx_if_lt C 9 dJ3_checkIndex_8e157_1 (by decide) (fun q => ?_) (fun q => ?_)
    · replace h := h.1 q
      exact h.elim
    · replace h := h.2 q
      refine zx_iload_n C dJ3_checkIndex_8e157_4 0 rfl ?_
      refine zx_iload_n C dJ3_checkIndex_8e157_5 1 rfl ?_
      refine zx_icmp_lt C 16 dJ3_checkIndex_8e157_6 (by decide) (fun q => ?_) (fun q => ?_)
      · replace h := h.1 q
        refine zx_iload_n C dJ3_checkIndex_8e157_16 0 rfl ?_
        exact zx_iret C hr dJ3_checkIndex_8e157_17 h
      · replace h := h.2 q
        exact h.elim
  | some ko =>
    refine zm_i RJ3 rfl (by decide +kernel) (Nat.le_of_ble_eq_true rfl) ?_
    intro p e s m below meth c C hr
    refine zx_lv (lv' := [(0, .int a1), (1, .int a2), (2, .ref ko)]) [0, 1, 2] rfl ?_
    refine zx_iload_n C dJ3_checkIndex_8e157_0 0 rfl ?_
    refine zx_if_lt C 9 dJ3_checkIndex_8e157_1 (by decide) (fun q => ?_) (fun q => ?_)
    · replace h := h.1 q
      exact h.elim
    · replace h := h.2 q
      refine zx_iload_n C dJ3_checkIndex_8e157_4 0 rfl ?_
      refine zx_iload_n C dJ3_checkIndex_8e157_5 1 rfl ?_
      refine zx_icmp_lt C 16 dJ3_checkIndex_8e157_6 (by decide) (fun q => ?_) (fun q => ?_)
      · replace h := h.1 q
        refine zx_iload_n C dJ3_checkIndex_8e157_16 0 rfl ?_
        exact zx_iret C hr dJ3_checkIndex_8e157_17 h
      · replace h := h.2 q
        exact h.elim
theorem lk_J0_1059 : zLS RJ0 1059 yJ3_checkIndex_8e157 cJ3_checkIndex_8e157 3 (some .int) 3 := zLS_of ml_J0_1059 st_J3_checkIndex_8e157 ini_J3 cd_J3_checkIndex_8e157 (by decide +kernel)
def w_J0_checkIndex_df160 (a1 : Int32) (a2 : Int32) (σ : zSto) (P : zSto → Prop) : Prop := (∀ o1 : Option Nat, (w_J3_checkIndex_8e157 a1 a2 o1 σ (fun (r3 : Int32) (σ2 : zSto) => P σ2)))
set_option maxRecDepth 100000 in
set_option maxHeartbeats 4000000 in
theorem c_J0_checkIndex_df160 (l : Launch) (D : va_G) (cy : Nat → ClassId) (g : Nat → Nat) (a1 : Int32) (a2 : Int32)  (σ : zSto) {P : zSto → Prop} (h : w_J0_checkIndex_df160 a1 a2 σ P) : zMv l yJ0_checkIndex_df160 cJ0_checkIndex_df160 2 none (zrm 1 22) D cy g [.int a1, .int a2] σ P := by
  unfold w_J0_checkIndex_df160 at h
  refine zm_v RJ0 rfl (by decide +kernel) (Nat.le_of_ble_eq_true rfl) ?_
  intro p e s m below meth c C hr
  refine zx_lv (lv' := [(0, .int a1), (1, .int a2)]) [0, 1] rfl ?_
  refine zx_iload_n C dJ0_checkIndex_df160_0 0 rfl ?_
  refine zx_iload_n C dJ0_checkIndex_df160_1 1 rfl ?_
  refine zx_kfm C fl_J0_1053 dJ0_checkIndex_df160_2 (fun o1 => ?_)
  replace h := h o1
  refine zx_cSi C [.int a1, .int a2, (va_rf o1)] lk_J0_1059 (c_J3_checkIndex_8e157 l D cy g a1 a2 o1  σ h) ⟨by decide, by decide⟩ ⟨rfl, rfl⟩ ⟨Nat.zero_le _, Nat.zero_le _⟩ rfl rfl (Nat.le_of_ble_eq_true rfl) dJ0_checkIndex_df160_5 (fun r3 σ2 h => ?_)
  refine zx_pop C dJ0_checkIndex_df160_8 rfl ?_
  exact zx_vret C hr dJ0_checkIndex_df160_9 h
theorem lk_J1_9 : zLS RJ1 9 yJ0_checkIndex_df160 cJ0_checkIndex_df160 2 none 2 := zLS_of ml_J1_9 st_J0_checkIndex_df160 ini_J0 cd_J0_checkIndex_df160 (by decide +kernel)
def w_J1_charAt_3b067 (i1 : Nat) (a2 : Int32) (σ : zSto) (P : Int32 → zSto → Prop) : Prop := (w_J0_checkIndex_df160 a2 (Int32.ofNat (zlen.getD i1 0)) σ (fun (σ1 : zSto) => (vp_in a2 (zlen.getD i1 0) ∧ (narrow .char (.int (((zch i1 (a2).toNatClampNeg) &&& (255 : Int32)).toUInt32 % 65536).toInt32) = .int (((zch i1 (a2).toNatClampNeg) &&& (255 : Int32)).toUInt32 % 65536).toInt32 ∧ P (((zch i1 (a2).toNatClampNeg) &&& (255 : Int32)).toUInt32 % 65536).toInt32 σ1))))
set_option maxRecDepth 100000 in
set_option maxHeartbeats 4000000 in
theorem c_J1_charAt_3b067 (l : Launch) (D : va_G) (cy : Nat → ClassId) (g : Nat → Nat) (i1 : Nat) (a2 : Int32) (hi1 : i1 < 11) (σ : zSto) {P : Int32 → zSto → Prop} (h : w_J1_charAt_3b067 i1 a2 σ P) : zMi l yJ1_charAt_3b067 cJ1_charAt_3b067 2 (some .char) (zrm 2 43) D cy g [.ref (cy (200 + i1)), .int a2] σ P := by
  unfold w_J1_charAt_3b067 at h
  refine zm_i RJ1 rfl (by decide +kernel) (Nat.le_of_ble_eq_true rfl) ?_
  intro p e s m below meth c C hr
  refine zx_lv (lv' := [(0, .ref (cy (200 + i1))), (1, .int a2)]) [0, 1] rfl ?_
  refine zx_iload_n C dJ1_charAt_3b067_0 1 rfl ?_
  refine zx_aload_n C dJ1_charAt_3b067_1 0 rfl ?_
  refine zx_klen C hi1 dJ1_charAt_3b067_2 ?_
  refine zx_cSv C [.int a2, .int (Int32.ofNat (zlen.getD i1 0))] lk_J1_9 (c_J0_checkIndex_df160 l D cy g a2 (Int32.ofNat (zlen.getD i1 0))  σ h) ⟨by decide, by decide⟩ ⟨rfl, rfl⟩ ⟨Nat.zero_le _, Nat.zero_le _⟩ rfl rfl (Nat.le_of_ble_eq_true rfl) dJ1_charAt_3b067_3 (fun σ1 h => ?_)
  refine zx_aload_n C dJ1_charAt_3b067_6 0 rfl ?_
  refine zx_iload_n C dJ1_charAt_3b067_7 1 rfl ?_
  obtain ⟨bd2, h⟩ := h
  refine zx_kald C hi1 bd2 dJ1_charAt_3b067_8 ?_
  refine zx_sipush (v := (255 : Int32)) C dJ1_charAt_3b067_9 (by decide) ?_
  refine zx_iand C dJ1_charAt_3b067_12 ?_
  refine zx_i2c C dJ1_charAt_3b067_13 ?_
  exact zx_nret C hr dJ1_charAt_3b067_14 h.1 h.2
theorem lk_J0_492 : zLV RJ0 492 RJ0 yJ0_isLatin1_aae02 cJ0_isLatin1_aae02 1 (some .boolean) 0 := zLV_of ml_J0_492 im_J0_isLatin1_aae02 se_J0_isLatin1_aae02 ini_J0 cd_J0_isLatin1_aae02 (by decide +kernel)
theorem lk_J0_495 : zLS RJ0 495 yJ1_charAt_3b067 cJ1_charAt_3b067 2 (some .char) 2 := zLS_of ml_J0_495 st_J1_charAt_3b067 ini_J1 cd_J1_charAt_3b067 (by decide +kernel)
def w_J0_charAt_5068e (i0 : Nat) (a1 : Int32) (σ : zSto) (P : Int32 → zSto → Prop) : Prop := (w_J0_isLatin1_aae02 i0 σ (fun (r2 : Int32) (σ1 : zSto) => (r2 = 0 ∨ r2 = 1) → ((r2 = 0 → False) ∧ (¬ r2 = 0 → (w_J1_charAt_3b067 i0 a1 σ1 (fun (r4 : Int32) (σ3 : zSto) => (narrow .char (.int r4) = .int r4 ∧ P r4 σ3)))))))
set_option maxRecDepth 100000 in
set_option maxHeartbeats 4000000 in
theorem c_J0_charAt_5068e (l : Launch) (D : va_G) (cy : Nat → ClassId) (g : Nat → Nat) (i0 : Nat) (a1 : Int32) (hi0 : i0 < 11) (σ : zSto) {P : Int32 → zSto → Prop} (h : w_J0_charAt_5068e i0 a1 σ P) : zMi l yJ0_charAt_5068e cJ0_charAt_5068e 2 (some .char) (zrm 3 64) D cy g [.ref (cy (100 + i0)), .int a1] σ P := by
  unfold w_J0_charAt_5068e at h
  refine zm_i RJ0 rfl (by decide +kernel) (Nat.le_of_ble_eq_true rfl) ?_
  intro p e s m below meth c C hr
  refine zx_lv (lv' := [(0, .ref (cy (100 + i0))), (1, .int a1)]) [0, 1] rfl ?_
  refine zx_aload_n C dJ0_charAt_5068e_0 0 rfl ?_
  refine zx_cKb C [] hi0 lk_J0_492 (c_J0_isLatin1_aae02 l D cy g i0 hi0 σ h) ⟨by decide, by decide⟩ ⟨rfl, rfl⟩ ⟨Nat.zero_le _, Nat.zero_le _⟩ rfl rfl (Nat.le_of_ble_eq_true rfl) dJ0_charAt_5068e_1 (fun r2 σ1 hb h => ?_)
  replace h := h hb
  refine zx_if_eq C 16 dJ0_charAt_5068e_4 (by decide) (fun q => ?_) (fun q => ?_)
  · replace h := h.1 q
    exact h.elim
  · replace h := h.2 q
    refine zx_aload_n C dJ0_charAt_5068e_7 0 rfl ?_
    refine zx_kval C hi0 fl_J0_9 dJ0_charAt_5068e_8 ?_
    refine zx_iload_n C dJ0_charAt_5068e_11 1 rfl ?_
    refine zx_cSi C [.ref (cy (200 + i0)), .int a1] lk_J0_495 (c_J1_charAt_3b067 l D cy g i0 a1 hi0 σ1 h) ⟨by decide, by decide⟩ ⟨rfl, rfl⟩ ⟨Nat.zero_le _, Nat.zero_le _⟩ rfl rfl (Nat.le_of_ble_eq_true rfl) dJ0_charAt_5068e_12 (fun r4 σ3 h => ?_)
    exact zx_nret C hr dJ0_charAt_5068e_15 h.1 h.2
theorem lk_X4_146 : zLV RX4 146 RJ0 yJ0_length_8abf5 cJ0_length_8abf5 1 (some .int) 0 := zLV_of ml_X4_146 im_J0_length_8abf5 se_J0_length_8abf5 ini_J0 cd_J0_length_8abf5 (by decide +kernel)
theorem lk_X4_150 : zLV RX4 150 RJ0 yJ0_charAt_5068e cJ0_charAt_5068e 2 (some .char) 1 := zLV_of ml_X4_150 im_J0_charAt_5068e se_J0_charAt_5068e ini_J0 cd_J0_charAt_5068e (by decide +kernel)
def w_X4_isWord_20 (q_1 : Nat) (P : Int32 → zSto → Prop)  : Nat → Int32 → zSto → Prop
  | 0, _, _ => False
  | n + 1, x_2, σ => (w_J0_length_8abf5 q_1 σ (fun (r4 : Int32) (σ3 : zSto) => ((r4 ≤ x_2 → P (1 : Int32) σ3) ∧ (¬ r4 ≤ x_2 → (((σ3.1 171 5) ≤ ((σ3.1 171 8) + x_2) → P (1 : Int32) σ3) ∧ (¬ (σ3.1 171 5) ≤ ((σ3.1 171 8) + x_2) → (vp_in ((σ3.1 171 8) + x_2) 600 ∧ (w_J0_charAt_5068e q_1 x_2 σ3 (fun (r7 : Int32) (σ6 : zSto) => (((σ3.1 189 (((σ3.1 171 8) + x_2)).toNatClampNeg) = r7 → (∀ x8 : Int32, x8 = (x_2 + (1 : Int32)) → w_X4_isWord_20 q_1 P n x8 σ6)) ∧ (¬ (σ3.1 189 (((σ3.1 171 8) + x_2)).toNatClampNeg) = r7 → P (0 : Int32) σ6)))))))))))
def w_X4_isWord (i1 : Nat) (σ : zSto) (P : Int32 → zSto → Prop) : Prop := (w_J0_length_8abf5 i1 σ (fun (r2 : Int32) (σ1 : zSto) => ((((σ.1 171 6) - (σ.1 171 8)) = r2 → (∃ n : Nat, w_X4_isWord_20 i1 P  n (0 : Int32) σ1)) ∧ (¬ ((σ.1 171 6) - (σ.1 171 8)) = r2 → P (0 : Int32) σ1))))
set_option maxRecDepth 100000 in
set_option maxHeartbeats 4000000 in
theorem k_X4_isWord_20 {p : Program} {l : Launch} {e : Env} {s : State} {m : MethodId} {args : Array Value} {below : List Frame} {meth : Method} {c : Code} {D : va_G} {cy : Nat → ClassId} {g : Nat → Nat} (C : zC p s m args meth c cX4_isWord RX4 3 D cy g) (hr : meth.sig.returnType = (some .boolean)) {P : Int32 → zSto → Prop} (q_1 : Nat) (hq_1 : q_1 < 11)   : ∀ (n : Nat) (x_2 : Int32) (σ : zSto), w_X4_isWord_20 q_1 P n x_2 σ → zX p l e (zrm 4 85) s m args below meth c 0 0 (zQb P below args s D cy g) 3 D cy g 20 [(0, .ref (g 171)), (1, .ref (cy (100 + q_1))), (2, .int x_2)] [] σ := by
  intro n
  induction n with
  | zero => intro x_2 σ h; exact h.elim
  | succ n ih =>
    intro x_2 σ h
    unfold w_X4_isWord_20 at h
    refine zx_iload_n C dX4_isWord_20 2 rfl ?_
    refine zx_aload_n C dX4_isWord_21 1 rfl ?_
    refine zx_cKi C [] hq_1 lk_X4_146 (c_J0_length_8abf5 l D cy g q_1 hq_1 σ h) ⟨by decide, by decide⟩ ⟨rfl, rfl⟩ ⟨Nat.zero_le _, Nat.zero_le _⟩ rfl rfl (Nat.le_of_ble_eq_true rfl) dX4_isWord_22 (fun r4 σ3 h => ?_)
    refine zx_icmp_ge C 68 dX4_isWord_25 (by decide) (fun q => ?_) (fun q => ?_)
    · replace h := h.1 q
      refine zx_iconst (v := (1 : Int32)) C dX4_isWord_68 (by decide) ?_
      exact zx_zret C hr dX4_isWord_69 (Or.inr rfl) h
    · replace h := h.2 q
      refine zx_aload_n C dX4_isWord_28 0 rfl ?_
      refine zx_getI C zs_171 fg_X4_90 rfl dX4_isWord_29 ?_
      refine zx_iload_n C dX4_isWord_32 2 rfl ?_
      refine zx_iadd C dX4_isWord_33 ?_
      refine zx_aload_n C dX4_isWord_34 0 rfl ?_
      refine zx_getI C zs_171 fg_X4_45 rfl dX4_isWord_35 ?_
      refine zx_icmp_ge C 68 dX4_isWord_38 (by decide) (fun q => ?_) (fun q => ?_)
      · replace h := h.1 q
        refine zx_iconst (v := (1 : Int32)) C dX4_isWord_68 (by decide) ?_
        exact zx_zret C hr dX4_isWord_69 (Or.inr rfl) h
      · replace h := h.2 q
        refine zx_aload_n C dX4_isWord_41 0 rfl ?_
        refine zx_getR C zs_171 fg_X4_32 rfl 189 rfl dX4_isWord_42 ?_
        refine zx_aload_n C dX4_isWord_45 0 rfl ?_
        refine zx_getI C zs_171 fg_X4_90 rfl dX4_isWord_46 ?_
        refine zx_iload_n C dX4_isWord_49 2 rfl ?_
        refine zx_iadd C dX4_isWord_50 ?_
        obtain ⟨bd5, h⟩ := h
        refine zx_bald C (((σ3.1 171 8) + x_2)).toNatClampNeg zs_189 bd5 rfl dX4_isWord_51 ?_
        refine zx_aload_n C dX4_isWord_52 1 rfl ?_
        refine zx_iload_n C dX4_isWord_53 2 rfl ?_
        refine zx_cKi C [.int x_2] hq_1 lk_X4_150 (c_J0_charAt_5068e l D cy g q_1 x_2 hq_1 σ3 h) ⟨by decide, by decide⟩ ⟨rfl, rfl⟩ ⟨Nat.zero_le _, Nat.zero_le _⟩ rfl rfl (Nat.le_of_ble_eq_true rfl) dX4_isWord_54 (fun r7 σ6 h => ?_)
        refine zx_icmp_eq C 62 dX4_isWord_57 (by decide) (fun q => ?_) (fun q => ?_)
        · replace h := h.1 q
          obtain ⟨x8, ex8⟩ : ∃ y : Int32, y = (x_2 + (1 : Int32)) := ⟨_, rfl⟩
          replace h := h x8 ex8
          refine zx_iinc (v := x8) (lv' := [(2, .int x8), (0, .ref (g 171)), (1, .ref (cy (100 + q_1)))]) C dX4_isWord_62 2 rfl (by rw [ex8]; rfl) (by decide) rfl ?_
          refine zx_goto C 20 dX4_isWord_65 (by decide) ?_
          refine zx_lv (lv' := [(0, .ref (g 171)), (1, .ref (cy (100 + q_1))), (2, .int x8)]) [1, 2, 0] rfl ?_
          exact ih x8 σ6 h
        · replace h := h.2 q
          refine zx_iconst (v := (0 : Int32)) C dX4_isWord_60 (by decide) ?_
          exact zx_zret C hr dX4_isWord_61 (Or.inl rfl) h
set_option maxRecDepth 100000 in
set_option maxHeartbeats 4000000 in
theorem c_X4_isWord (l : Launch) (D : va_G) (cy : Nat → ClassId) (g : Nat → Nat) (i1 : Nat) (hi1 : i1 < 11) (σ : zSto) {P : Int32 → zSto → Prop} (h : w_X4_isWord i1 σ P) : zMb l yX4_isWord cX4_isWord 3 (some .boolean) (zrm 4 85) D cy g [.ref (g 171), .ref (cy (100 + i1))] σ P := by
  unfold w_X4_isWord at h
  refine zm_b RX4 rfl (by decide +kernel) (Nat.le_of_ble_eq_true rfl) ?_
  intro p e s m below meth c C hr
  refine zx_lv (lv' := [(0, .ref (g 171)), (1, .ref (cy (100 + i1)))]) [0, 1] rfl ?_
  refine zx_aload_n C dX4_isWord_0 0 rfl ?_
  refine zx_getI C zs_171 fg_X4_55 rfl dX4_isWord_1 ?_
  refine zx_aload_n C dX4_isWord_4 0 rfl ?_
  refine zx_getI C zs_171 fg_X4_90 rfl dX4_isWord_5 ?_
  refine zx_isub C dX4_isWord_8 ?_
  refine zx_aload_n C dX4_isWord_9 1 rfl ?_
  refine zx_cKi C [] hi1 lk_X4_146 (c_J0_length_8abf5 l D cy g i1 hi1 σ h) ⟨by decide, by decide⟩ ⟨rfl, rfl⟩ ⟨Nat.zero_le _, Nat.zero_le _⟩ rfl rfl (Nat.le_of_ble_eq_true rfl) dX4_isWord_10 (fun r2 σ1 h => ?_)
  refine zx_icmp_eq C 18 dX4_isWord_13 (by decide) (fun q => ?_) (fun q => ?_)
  · replace h := h.1 q
    refine zx_iconst (v := (0 : Int32)) C dX4_isWord_18 (by decide) ?_
    refine zx_istore_n (lv' := [(2, .int (0 : Int32)), (0, .ref (g 171)), (1, .ref (cy (100 + i1)))]) C dX4_isWord_19 (by decide) rfl ?_
    obtain ⟨n, h⟩ := h
    refine zx_lv (lv' := [(0, .ref (g 171)), (1, .ref (cy (100 + i1))), (2, .int (0 : Int32))]) [1, 2, 0] rfl ?_
    exact k_X4_isWord_20 C hr (i1) hi1  n (0 : Int32) σ1 h
  · replace h := h.2 q
    refine zx_iconst (v := (0 : Int32)) C dX4_isWord_16 (by decide) ?_
    exact zx_zret C hr dX4_isWord_17 (Or.inl rfl) h
theorem lk_X4_118 : zLV RX4 118 RX4 yX4_isWord cX4_isWord 3 (some .boolean) 1 := zLV_of ml_X4_118 im_X4_isWord se_X4_isWord ini_X4 cd_X4_isWord (by decide +kernel)
def w_X4_lineWord  (σ : zSto) (P : Int32 → zSto → Prop) : Prop := (w_X4_isWord 2 σ (fun (r2 : Int32) (σ1 : zSto) => (r2 = 0 ∨ r2 = 1) → ((r2 = 0 → (w_X4_isWord 3 σ1 (fun (r4 : Int32) (σ3 : zSto) => (r4 = 0 ∨ r4 = 1) → ((r4 = 0 → (w_X4_isWord 4 σ3 (fun (r6 : Int32) (σ5 : zSto) => (r6 = 0 ∨ r6 = 1) → ((r6 = 0 → (w_X4_isWord 5 σ5 (fun (r8 : Int32) (σ7 : zSto) => (r8 = 0 ∨ r8 = 1) → ((r8 = 0 → (w_X4_isWord 6 σ7 (fun (r10 : Int32) (σ9 : zSto) => (r10 = 0 ∨ r10 = 1) → ((r10 = 0 → (w_X4_isWord 7 σ9 (fun (r12 : Int32) (σ11 : zSto) => (r12 = 0 ∨ r12 = 1) → ((r12 = 0 → (w_X4_isWord 8 σ11 (fun (r14 : Int32) (σ13 : zSto) => (r14 = 0 ∨ r14 = 1) → ((r14 = 0 → (w_X4_isWord 9 σ13 (fun (r16 : Int32) (σ15 : zSto) => (r16 = 0 ∨ r16 = 1) → ((r16 = 0 → (w_X4_isWord 10 σ15 (fun (r18 : Int32) (σ17 : zSto) => (r18 = 0 ∨ r18 = 1) → ((r18 = 0 → P (-1 : Int32) σ17) ∧ (¬ r18 = 0 → P (8 : Int32) σ17))))) ∧ (¬ r16 = 0 → P (7 : Int32) σ15))))) ∧ (¬ r14 = 0 → P (6 : Int32) σ13))))) ∧ (¬ r12 = 0 → P (5 : Int32) σ11))))) ∧ (¬ r10 = 0 → P (4 : Int32) σ9))))) ∧ (¬ r8 = 0 → P (3 : Int32) σ7))))) ∧ (¬ r6 = 0 → P (2 : Int32) σ5))))) ∧ (¬ r4 = 0 → P (1 : Int32) σ3))))) ∧ (¬ r2 = 0 → P (0 : Int32) σ1))))
set_option maxRecDepth 100000 in
set_option maxHeartbeats 4000000 in
theorem c_X4_lineWord (l : Launch) (D : va_G) (cy : Nat → ClassId) (g : Nat → Nat)   (σ : zSto) {P : Int32 → zSto → Prop} (h : w_X4_lineWord  σ P) : zMi l yX4_lineWord cX4_lineWord 1 (some .int) (zrm 5 107) D cy g [.ref (g 171)] σ P := by
  unfold w_X4_lineWord at h
  refine zm_i RX4 rfl (by decide +kernel) (Nat.le_of_ble_eq_true rfl) ?_
  intro p e s m below meth c C hr
  refine zx_lv (lv' := [(0, .ref (g 171))]) [0] rfl ?_
  refine zx_aload_n C dX4_lineWord_0 0 rfl ?_
  refine zx_ldcS C 2 (by decide) rfl dX4_lineWord_1 ?_
  refine zx_cVb C [.ref (cy (100 + 2))] lk_X4_118 (c_X4_isWord l D cy g 2 (by decide) σ h) zs_171 rfl ⟨by decide, by decide⟩ ⟨rfl, rfl⟩ ⟨Nat.zero_le _, Nat.zero_le _⟩ rfl rfl (Nat.le_of_ble_eq_true rfl) dX4_lineWord_3 (fun r2 σ1 hb h => ?_)
  replace h := h hb
  refine zx_if_eq C 11 dX4_lineWord_6 (by decide) (fun q => ?_) (fun q => ?_)
  · replace h := h.1 q
    refine zx_aload_n C dX4_lineWord_11 0 rfl ?_
    refine zx_ldcS C 3 (by decide) rfl dX4_lineWord_12 ?_
    refine zx_cVb C [.ref (cy (100 + 3))] lk_X4_118 (c_X4_isWord l D cy g 3 (by decide) σ1 h) zs_171 rfl ⟨by decide, by decide⟩ ⟨rfl, rfl⟩ ⟨Nat.zero_le _, Nat.zero_le _⟩ rfl rfl (Nat.le_of_ble_eq_true rfl) dX4_lineWord_14 (fun r4 σ3 hb h => ?_)
    replace h := h hb
    refine zx_if_eq C 22 dX4_lineWord_17 (by decide) (fun q => ?_) (fun q => ?_)
    · replace h := h.1 q
      refine zx_aload_n C dX4_lineWord_22 0 rfl ?_
      refine zx_ldcS C 4 (by decide) rfl dX4_lineWord_23 ?_
      refine zx_cVb C [.ref (cy (100 + 4))] lk_X4_118 (c_X4_isWord l D cy g 4 (by decide) σ3 h) zs_171 rfl ⟨by decide, by decide⟩ ⟨rfl, rfl⟩ ⟨Nat.zero_le _, Nat.zero_le _⟩ rfl rfl (Nat.le_of_ble_eq_true rfl) dX4_lineWord_25 (fun r6 σ5 hb h => ?_)
      replace h := h hb
      refine zx_if_eq C 33 dX4_lineWord_28 (by decide) (fun q => ?_) (fun q => ?_)
      · replace h := h.1 q
        refine zx_aload_n C dX4_lineWord_33 0 rfl ?_
        refine zx_ldcS C 5 (by decide) rfl dX4_lineWord_34 ?_
        refine zx_cVb C [.ref (cy (100 + 5))] lk_X4_118 (c_X4_isWord l D cy g 5 (by decide) σ5 h) zs_171 rfl ⟨by decide, by decide⟩ ⟨rfl, rfl⟩ ⟨Nat.zero_le _, Nat.zero_le _⟩ rfl rfl (Nat.le_of_ble_eq_true rfl) dX4_lineWord_36 (fun r8 σ7 hb h => ?_)
        replace h := h hb
        refine zx_if_eq C 44 dX4_lineWord_39 (by decide) (fun q => ?_) (fun q => ?_)
        · replace h := h.1 q
          refine zx_aload_n C dX4_lineWord_44 0 rfl ?_
          refine zx_ldcS C 6 (by decide) rfl dX4_lineWord_45 ?_
          refine zx_cVb C [.ref (cy (100 + 6))] lk_X4_118 (c_X4_isWord l D cy g 6 (by decide) σ7 h) zs_171 rfl ⟨by decide, by decide⟩ ⟨rfl, rfl⟩ ⟨Nat.zero_le _, Nat.zero_le _⟩ rfl rfl (Nat.le_of_ble_eq_true rfl) dX4_lineWord_47 (fun r10 σ9 hb h => ?_)
          replace h := h hb
          refine zx_if_eq C 55 dX4_lineWord_50 (by decide) (fun q => ?_) (fun q => ?_)
          · replace h := h.1 q
            refine zx_aload_n C dX4_lineWord_55 0 rfl ?_
            refine zx_ldcS C 7 (by decide) rfl dX4_lineWord_56 ?_
            refine zx_cVb C [.ref (cy (100 + 7))] lk_X4_118 (c_X4_isWord l D cy g 7 (by decide) σ9 h) zs_171 rfl ⟨by decide, by decide⟩ ⟨rfl, rfl⟩ ⟨Nat.zero_le _, Nat.zero_le _⟩ rfl rfl (Nat.le_of_ble_eq_true rfl) dX4_lineWord_58 (fun r12 σ11 hb h => ?_)
            replace h := h hb
            refine zx_if_eq C 66 dX4_lineWord_61 (by decide) (fun q => ?_) (fun q => ?_)
            · replace h := h.1 q
              refine zx_aload_n C dX4_lineWord_66 0 rfl ?_
              refine zx_ldcS C 8 (by decide) rfl dX4_lineWord_67 ?_
              refine zx_cVb C [.ref (cy (100 + 8))] lk_X4_118 (c_X4_isWord l D cy g 8 (by decide) σ11 h) zs_171 rfl ⟨by decide, by decide⟩ ⟨rfl, rfl⟩ ⟨Nat.zero_le _, Nat.zero_le _⟩ rfl rfl (Nat.le_of_ble_eq_true rfl) dX4_lineWord_69 (fun r14 σ13 hb h => ?_)
              replace h := h hb
              refine zx_if_eq C 78 dX4_lineWord_72 (by decide) (fun q => ?_) (fun q => ?_)
              · replace h := h.1 q
                refine zx_aload_n C dX4_lineWord_78 0 rfl ?_
                refine zx_ldcS C 9 (by decide) rfl dX4_lineWord_79 ?_
                refine zx_cVb C [.ref (cy (100 + 9))] lk_X4_118 (c_X4_isWord l D cy g 9 (by decide) σ13 h) zs_171 rfl ⟨by decide, by decide⟩ ⟨rfl, rfl⟩ ⟨Nat.zero_le _, Nat.zero_le _⟩ rfl rfl (Nat.le_of_ble_eq_true rfl) dX4_lineWord_81 (fun r16 σ15 hb h => ?_)
                replace h := h hb
                refine zx_if_eq C 90 dX4_lineWord_84 (by decide) (fun q => ?_) (fun q => ?_)
                · replace h := h.1 q
                  refine zx_aload_n C dX4_lineWord_90 0 rfl ?_
                  refine zx_ldcS C 10 (by decide) rfl dX4_lineWord_91 ?_
                  refine zx_cVb C [.ref (cy (100 + 10))] lk_X4_118 (c_X4_isWord l D cy g 10 (by decide) σ15 h) zs_171 rfl ⟨by decide, by decide⟩ ⟨rfl, rfl⟩ ⟨Nat.zero_le _, Nat.zero_le _⟩ rfl rfl (Nat.le_of_ble_eq_true rfl) dX4_lineWord_93 (fun r18 σ17 hb h => ?_)
                  replace h := h hb
                  refine zx_if_eq C 104 dX4_lineWord_96 (by decide) (fun q => ?_) (fun q => ?_)
                  · replace h := h.1 q
                    refine zx_iconst (v := (-1 : Int32)) C dX4_lineWord_104 (by decide) ?_
                    exact zx_iret C hr dX4_lineWord_105 h
                  · replace h := h.2 q
                    refine zx_bipush (v := (8 : Int32)) C dX4_lineWord_99 (by decide) ?_
                    refine zx_goto C 105 dX4_lineWord_101 (by decide) ?_
                    exact zx_iret C hr dX4_lineWord_105 h
                · replace h := h.2 q
                  refine zx_bipush (v := (7 : Int32)) C dX4_lineWord_87 (by decide) ?_
                  exact zx_iret C hr dX4_lineWord_89 h
              · replace h := h.2 q
                refine zx_bipush (v := (6 : Int32)) C dX4_lineWord_75 (by decide) ?_
                exact zx_iret C hr dX4_lineWord_77 h
            · replace h := h.2 q
              refine zx_iconst (v := (5 : Int32)) C dX4_lineWord_64 (by decide) ?_
              exact zx_iret C hr dX4_lineWord_65 h
          · replace h := h.2 q
            refine zx_iconst (v := (4 : Int32)) C dX4_lineWord_53 (by decide) ?_
            exact zx_iret C hr dX4_lineWord_54 h
        · replace h := h.2 q
          refine zx_iconst (v := (3 : Int32)) C dX4_lineWord_42 (by decide) ?_
          exact zx_iret C hr dX4_lineWord_43 h
      · replace h := h.2 q
        refine zx_iconst (v := (2 : Int32)) C dX4_lineWord_31 (by decide) ?_
        exact zx_iret C hr dX4_lineWord_32 h
    · replace h := h.2 q
      refine zx_iconst (v := (1 : Int32)) C dX4_lineWord_20 (by decide) ?_
      exact zx_iret C hr dX4_lineWord_21 h
  · replace h := h.2 q
    refine zx_iconst (v := (0 : Int32)) C dX4_lineWord_9 (by decide) ?_
    exact zx_iret C hr dX4_lineWord_10 h
theorem lk_X4_124 : zLV RX4 124 RX4 yX4_lineWord cX4_lineWord 1 (some .int) 0 := zLV_of ml_X4_124 im_X4_lineWord se_X4_lineWord ini_X4 cd_X4_lineWord (by decide +kernel)
def w_X4_wordOf (a1 : Int32) (σ : zSto) (P : Int32 → zSto → Prop) : Prop := ((¬ a1 = (1 : Int32) → ((¬ a1 = (2 : Int32) → (w_X4_lineWord  σ (fun (r2 : Int32) (σ1 : zSto) => P r2 σ1))) ∧ (a1 = (2 : Int32) → (w_X4_isWord 1 σ (fun (r4 : Int32) (σ3 : zSto) => (r4 = 0 ∨ r4 = 1) → ((r4 = 0 → P (-1 : Int32) σ3) ∧ (¬ r4 = 0 → P (10 : Int32) σ3))))))) ∧ (a1 = (1 : Int32) → (w_X4_isWord 0 σ (fun (r6 : Int32) (σ5 : zSto) => (r6 = 0 ∨ r6 = 1) → ((r6 = 0 → P (-1 : Int32) σ5) ∧ (¬ r6 = 0 → P (9 : Int32) σ5))))))
set_option maxRecDepth 100000 in
set_option maxHeartbeats 4000000 in
theorem c_X4_wordOf (l : Launch) (D : va_G) (cy : Nat → ClassId) (g : Nat → Nat) (a1 : Int32)  (σ : zSto) {P : Int32 → zSto → Prop} (h : w_X4_wordOf a1 σ P) : zMi l yX4_wordOf cX4_wordOf 2 (some .int) (zrm 6 127) D cy g [.ref (g 171), .int a1] σ P := by
  unfold w_X4_wordOf at h
  refine zm_i RX4 rfl (by decide +kernel) (Nat.le_of_ble_eq_true rfl) ?_
  intro p e s m below meth c C hr
  refine zx_lv (lv' := [(0, .ref (g 171)), (1, .int a1)]) [0, 1] rfl ?_
  refine zx_iload_n C dX4_wordOf_0 1 rfl ?_
  refine zx_iconst (v := (1 : Int32)) C dX4_wordOf_1 (by decide) ?_
  refine zx_icmp_ne C 21 dX4_wordOf_2 (by decide) (fun q => ?_) (fun q => ?_)
  · replace h := h.1 q
    refine zx_iload_n C dX4_wordOf_21 1 rfl ?_
    refine zx_iconst (v := (2 : Int32)) C dX4_wordOf_22 (by decide) ?_
    refine zx_icmp_ne C 42 dX4_wordOf_23 (by decide) (fun q => ?_) (fun q => ?_)
    · replace h := h.1 q
      refine zx_aload_n C dX4_wordOf_42 0 rfl ?_
      refine zx_cVi C [] lk_X4_124 (c_X4_lineWord l D cy g   σ h) zs_171 rfl ⟨by decide, by decide⟩ ⟨rfl, rfl⟩ ⟨Nat.zero_le _, Nat.zero_le _⟩ rfl rfl (Nat.le_of_ble_eq_true rfl) dX4_wordOf_43 (fun r2 σ1 h => ?_)
      exact zx_iret C hr dX4_wordOf_46 h
    · replace h := h.2 q
      refine zx_aload_n C dX4_wordOf_26 0 rfl ?_
      refine zx_ldcS C 1 (by decide) rfl dX4_wordOf_27 ?_
      refine zx_cVb C [.ref (cy (100 + 1))] lk_X4_118 (c_X4_isWord l D cy g 1 (by decide) σ h) zs_171 rfl ⟨by decide, by decide⟩ ⟨rfl, rfl⟩ ⟨Nat.zero_le _, Nat.zero_le _⟩ rfl rfl (Nat.le_of_ble_eq_true rfl) dX4_wordOf_29 (fun r4 σ3 hb h => ?_)
      replace h := h hb
      refine zx_if_eq C 40 dX4_wordOf_32 (by decide) (fun q => ?_) (fun q => ?_)
      · replace h := h.1 q
        refine zx_iconst (v := (-1 : Int32)) C dX4_wordOf_40 (by decide) ?_
        exact zx_iret C hr dX4_wordOf_41 h
      · replace h := h.2 q
        refine zx_bipush (v := (10 : Int32)) C dX4_wordOf_35 (by decide) ?_
        refine zx_goto C 41 dX4_wordOf_37 (by decide) ?_
        exact zx_iret C hr dX4_wordOf_41 h
  · replace h := h.2 q
    refine zx_aload_n C dX4_wordOf_5 0 rfl ?_
    refine zx_ldcS C 0 (by decide) rfl dX4_wordOf_6 ?_
    refine zx_cVb C [.ref (cy (100 + 0))] lk_X4_118 (c_X4_isWord l D cy g 0 (by decide) σ h) zs_171 rfl ⟨by decide, by decide⟩ ⟨rfl, rfl⟩ ⟨Nat.zero_le _, Nat.zero_le _⟩ rfl rfl (Nat.le_of_ble_eq_true rfl) dX4_wordOf_8 (fun r6 σ5 hb h => ?_)
    replace h := h hb
    refine zx_if_eq C 19 dX4_wordOf_11 (by decide) (fun q => ?_) (fun q => ?_)
    · replace h := h.1 q
      refine zx_iconst (v := (-1 : Int32)) C dX4_wordOf_19 (by decide) ?_
      exact zx_iret C hr dX4_wordOf_20 h
    · replace h := h.2 q
      refine zx_bipush (v := (9 : Int32)) C dX4_wordOf_14 (by decide) ?_
      refine zx_goto C 20 dX4_wordOf_16 (by decide) ?_
      exact zx_iret C hr dX4_wordOf_20 h
def w_X4_howManyNumbers (a1 : Int32) (σ : zSto) (P : Int32 → zSto → Prop) : Prop := ((a1 = 0 → P (3 : Int32) σ) ∧ (a1 = 1 → P (6 : Int32) σ) ∧ (a1 = 2 → P (2 : Int32) σ) ∧ (a1 = 3 → P (2 : Int32) σ) ∧ (a1 = 4 → P (1 : Int32) σ) ∧ (a1 = 5 → P (1 : Int32) σ) ∧ (a1 = 6 → P (1 : Int32) σ) ∧ (a1 = 7 → P (1 : Int32) σ) ∧ (a1 = 8 → P (1 : Int32) σ) ∧ (a1 = 9 → P (2 : Int32) σ) ∧ (a1 = 10 → P (2 : Int32) σ) ∧ ((a1.toInt < 0 ∨ 10 < a1.toInt) → P (1 : Int32) σ))
set_option maxRecDepth 100000 in
set_option maxHeartbeats 4000000 in
theorem c_X4_howManyNumbers (l : Launch) (D : va_G) (cy : Nat → ClassId) (g : Nat → Nat) (a1 : Int32)  (σ : zSto) {P : Int32 → zSto → Prop} (h : w_X4_howManyNumbers a1 σ P) : zMi l yX4_howManyNumbers cX4_howManyNumbers 1 (some .int) (zrm 0 0) D cy g [.int a1] σ P := by
  unfold w_X4_howManyNumbers at h
  refine zm_i RX4 rfl (by decide +kernel) (Nat.le_of_ble_eq_true rfl) ?_
  intro p e s m below meth c C hr
  refine zx_lv (lv' := [(0, .int a1)]) [0] rfl ?_
  refine zx_iload_n C dX4_howManyNumbers_0 0 rfl ?_
  refine zsw (x := a1) 10 (fun q => ?_) (fun i hi q => ?_)
  · replace h := h.2.2.2.2.2.2.2.2.2.2.2 q
    refine zx_tableOut C 67 dX4_howManyNumbers_1 q (by decide) ?_
    refine zx_iconst (v := (1 : Int32)) C dX4_howManyNumbers_67 (by decide) ?_
    exact zx_iret C hr dX4_howManyNumbers_68 h
  · match i, hi, q with
    | 0, _, q =>
      replace h := h.1 q
      refine zx_tableIn C 60 (0 : Int32) q dX4_howManyNumbers_1 (by decide) (by decide) rfl (by decide) ?_
      refine zx_iconst (v := (3 : Int32)) C dX4_howManyNumbers_60 (by decide) ?_
      exact zx_iret C hr dX4_howManyNumbers_61 h
    | 1, _, q =>
      replace h := h.2.1 q
      refine zx_tableIn C 62 (1 : Int32) q dX4_howManyNumbers_1 (by decide) (by decide) rfl (by decide) ?_
      refine zx_bipush (v := (6 : Int32)) C dX4_howManyNumbers_62 (by decide) ?_
      exact zx_iret C hr dX4_howManyNumbers_64 h
    | 2, _, q =>
      replace h := h.2.2.1 q
      refine zx_tableIn C 65 (2 : Int32) q dX4_howManyNumbers_1 (by decide) (by decide) rfl (by decide) ?_
      refine zx_iconst (v := (2 : Int32)) C dX4_howManyNumbers_65 (by decide) ?_
      exact zx_iret C hr dX4_howManyNumbers_66 h
    | 3, _, q =>
      replace h := h.2.2.2.1 q
      refine zx_tableIn C 65 (3 : Int32) q dX4_howManyNumbers_1 (by decide) (by decide) rfl (by decide) ?_
      refine zx_iconst (v := (2 : Int32)) C dX4_howManyNumbers_65 (by decide) ?_
      exact zx_iret C hr dX4_howManyNumbers_66 h
    | 4, _, q =>
      replace h := h.2.2.2.2.1 q
      refine zx_tableIn C 67 (4 : Int32) q dX4_howManyNumbers_1 (by decide) (by decide) rfl (by decide) ?_
      refine zx_iconst (v := (1 : Int32)) C dX4_howManyNumbers_67 (by decide) ?_
      exact zx_iret C hr dX4_howManyNumbers_68 h
    | 5, _, q =>
      replace h := h.2.2.2.2.2.1 q
      refine zx_tableIn C 67 (5 : Int32) q dX4_howManyNumbers_1 (by decide) (by decide) rfl (by decide) ?_
      refine zx_iconst (v := (1 : Int32)) C dX4_howManyNumbers_67 (by decide) ?_
      exact zx_iret C hr dX4_howManyNumbers_68 h
    | 6, _, q =>
      replace h := h.2.2.2.2.2.2.1 q
      refine zx_tableIn C 67 (6 : Int32) q dX4_howManyNumbers_1 (by decide) (by decide) rfl (by decide) ?_
      refine zx_iconst (v := (1 : Int32)) C dX4_howManyNumbers_67 (by decide) ?_
      exact zx_iret C hr dX4_howManyNumbers_68 h
    | 7, _, q =>
      replace h := h.2.2.2.2.2.2.2.1 q
      refine zx_tableIn C 67 (7 : Int32) q dX4_howManyNumbers_1 (by decide) (by decide) rfl (by decide) ?_
      refine zx_iconst (v := (1 : Int32)) C dX4_howManyNumbers_67 (by decide) ?_
      exact zx_iret C hr dX4_howManyNumbers_68 h
    | 8, _, q =>
      replace h := h.2.2.2.2.2.2.2.2.1 q
      refine zx_tableIn C 67 (8 : Int32) q dX4_howManyNumbers_1 (by decide) (by decide) rfl (by decide) ?_
      refine zx_iconst (v := (1 : Int32)) C dX4_howManyNumbers_67 (by decide) ?_
      exact zx_iret C hr dX4_howManyNumbers_68 h
    | 9, _, q =>
      replace h := h.2.2.2.2.2.2.2.2.2.1 q
      refine zx_tableIn C 65 (9 : Int32) q dX4_howManyNumbers_1 (by decide) (by decide) rfl (by decide) ?_
      refine zx_iconst (v := (2 : Int32)) C dX4_howManyNumbers_65 (by decide) ?_
      exact zx_iret C hr dX4_howManyNumbers_66 h
    | 10, _, q =>
      replace h := h.2.2.2.2.2.2.2.2.2.2.1 q
      refine zx_tableIn C 65 (10 : Int32) q dX4_howManyNumbers_1 (by decide) (by decide) rfl (by decide) ?_
      refine zx_iconst (v := (2 : Int32)) C dX4_howManyNumbers_65 (by decide) ?_
      exact zx_iret C hr dX4_howManyNumbers_66 h
    | i + 11, hi, _ => exact absurd hi (by omega)
theorem lk_X4_154 : zLS RX4 154 yX4_howManyNumbers cX4_howManyNumbers 1 (some .int) 1 := zLS_of ml_X4_154 st_X4_howManyNumbers ini_X4 cd_X4_howManyNumbers (by decide +kernel)
theorem lk_X4_84 : zLV RX4 84 RX4 yX4_nextToken cX4_nextToken 1 none 0 := zLV_of ml_X4_84 im_X4_nextToken se_X4_nextToken ini_X4 cd_X4_nextToken (by decide +kernel)
theorem fg_X4_87 : zFG RX4 87 4 7 := ⟨RX4, TX4, 13, rfl, lay_X4, by decide, fl_X4_87⟩
theorem fg_X4_25 : zFG RX4 25 4 2 := ⟨RX4, TX4, 13, rfl, lay_X4, by decide, fl_X4_25⟩
theorem fg_X4_29 : zFG RX4 29 4 3 := ⟨RX4, TX4, 13, rfl, lay_X4, by decide, fl_X4_29⟩
def w_X4_readNumbers_7 (x_2 : Int32) (P : Int32 → zSto → Prop)  : Nat → Int32 → zSto → Prop
  | 0, _, _ => False
  | n + 1, x_3, σ => ((x_2 ≤ x_3 → (w_X4_nextToken  σ (fun (σ3 : zSto) => ((¬ (σ3.1 171 7) = (3 : Int32) → P (0 : Int32) σ3) ∧ ((σ3.1 171 7) = (3 : Int32) → P (1 : Int32) σ3))))) ∧ (¬ x_2 ≤ x_3 → (((6 : Int32) ≤ x_3 → (w_X4_nextToken  σ (fun (σ4 : zSto) => ((¬ (σ4.1 171 7) = (3 : Int32) → P (0 : Int32) σ4) ∧ ((σ4.1 171 7) = (3 : Int32) → P (1 : Int32) σ4))))) ∧ (¬ (6 : Int32) ≤ x_3 → (w_X4_nextToken  σ (fun (σ5 : zSto) => (((σ5.1 171 7) = (2 : Int32) → (vp_in x_3 6 ∧ (∀ σ7 : zSto, σ7 = zI σ5 187 (x_3).toNatClampNeg (σ5.1 171 9) → (vp_in x_3 6 ∧ (∀ σ9 : zSto, σ9 = zI σ7 188 (x_3).toNatClampNeg (σ7.1 171 8) → (∀ x10 : Int32, x10 = (x_3 + (1 : Int32)) → w_X4_readNumbers_7 x_2 P n x10 σ9)))))) ∧ (¬ (σ5.1 171 7) = (2 : Int32) → P (0 : Int32) σ5))))))))
def w_X4_readNumbers (a1 : Int32) (σ : zSto) (P : Int32 → zSto → Prop) : Prop := (w_X4_howManyNumbers a1 σ (fun (r2 : Int32) (σ1 : zSto) => (∃ n : Nat, w_X4_readNumbers_7 r2 P  n (0 : Int32) σ1)))
set_option maxRecDepth 100000 in
set_option maxHeartbeats 4000000 in
theorem k_X4_readNumbers_7 {p : Program} {l : Launch} {e : Env} {s : State} {m : MethodId} {args : Array Value} {below : List Frame} {meth : Method} {c : Code} {D : va_G} {cy : Nat → ClassId} {g : Nat → Nat} (C : zC p s m args meth c cX4_readNumbers RX4 4 D cy g) (hr : meth.sig.returnType = (some .boolean)) {P : Int32 → zSto → Prop} (x_2 : Int32)    : ∀ (n : Nat) (x_3 : Int32) (σ : zSto), w_X4_readNumbers_7 x_2 P n x_3 σ → zX p l e (zrm 3 61) s m args below meth c 0 0 (zQb P below args s D cy g) 4 D cy g 7 [(0, .ref (g 171)), (2, .int x_2), (3, .int x_3)] [] σ := by
  intro n
  induction n with
  | zero => intro x_3 σ h; exact h.elim
  | succ n ih =>
    intro x_3 σ h
    unfold w_X4_readNumbers_7 at h
    refine zx_iload_n C dX4_readNumbers_7 2 rfl ?_
    refine zx_iload_n C dX4_readNumbers_8 1 rfl ?_
    refine zx_icmp_ge C 58 dX4_readNumbers_9 (by decide) (fun q => ?_) (fun q => ?_)
    · replace h := h.1 q
      refine zx_aload_n C dX4_readNumbers_58 0 rfl ?_
      refine zx_cVv C [] lk_X4_84 (c_X4_nextToken l D cy g   σ h) zs_171 rfl ⟨by decide, by decide⟩ ⟨rfl, rfl⟩ ⟨Nat.zero_le _, Nat.zero_le _⟩ rfl rfl (Nat.le_of_ble_eq_true rfl) dX4_readNumbers_59 (fun σ3 h => ?_)
      refine zx_aload_n C dX4_readNumbers_62 0 rfl ?_
      refine zx_getI C zs_171 fg_X4_87 rfl dX4_readNumbers_63 ?_
      refine zx_iconst (v := (3 : Int32)) C dX4_readNumbers_66 (by decide) ?_
      refine zx_icmp_ne C 74 dX4_readNumbers_67 (by decide) (fun q => ?_) (fun q => ?_)
      · replace h := h.1 q
        refine zx_iconst (v := (0 : Int32)) C dX4_readNumbers_74 (by decide) ?_
        exact zx_zret C hr dX4_readNumbers_75 (Or.inl rfl) h
      · replace h := h.2 q
        refine zx_iconst (v := (1 : Int32)) C dX4_readNumbers_70 (by decide) ?_
        refine zx_goto C 75 dX4_readNumbers_71 (by decide) ?_
        exact zx_zret C hr dX4_readNumbers_75 (Or.inr rfl) h
    · replace h := h.2 q
      refine zx_iload_n C dX4_readNumbers_12 2 rfl ?_
      refine zx_bipush (v := (6 : Int32)) C dX4_readNumbers_13 (by decide) ?_
      refine zx_icmp_ge C 58 dX4_readNumbers_15 (by decide) (fun q => ?_) (fun q => ?_)
      · replace h := h.1 q
        refine zx_aload_n C dX4_readNumbers_58 0 rfl ?_
        refine zx_cVv C [] lk_X4_84 (c_X4_nextToken l D cy g   σ h) zs_171 rfl ⟨by decide, by decide⟩ ⟨rfl, rfl⟩ ⟨Nat.zero_le _, Nat.zero_le _⟩ rfl rfl (Nat.le_of_ble_eq_true rfl) dX4_readNumbers_59 (fun σ4 h => ?_)
        refine zx_aload_n C dX4_readNumbers_62 0 rfl ?_
        refine zx_getI C zs_171 fg_X4_87 rfl dX4_readNumbers_63 ?_
        refine zx_iconst (v := (3 : Int32)) C dX4_readNumbers_66 (by decide) ?_
        refine zx_icmp_ne C 74 dX4_readNumbers_67 (by decide) (fun q => ?_) (fun q => ?_)
        · replace h := h.1 q
          refine zx_iconst (v := (0 : Int32)) C dX4_readNumbers_74 (by decide) ?_
          exact zx_zret C hr dX4_readNumbers_75 (Or.inl rfl) h
        · replace h := h.2 q
          refine zx_iconst (v := (1 : Int32)) C dX4_readNumbers_70 (by decide) ?_
          refine zx_goto C 75 dX4_readNumbers_71 (by decide) ?_
          exact zx_zret C hr dX4_readNumbers_75 (Or.inr rfl) h
      · replace h := h.2 q
        refine zx_aload_n C dX4_readNumbers_18 0 rfl ?_
        refine zx_cVv C [] lk_X4_84 (c_X4_nextToken l D cy g   σ h) zs_171 rfl ⟨by decide, by decide⟩ ⟨rfl, rfl⟩ ⟨Nat.zero_le _, Nat.zero_le _⟩ rfl rfl (Nat.le_of_ble_eq_true rfl) dX4_readNumbers_19 (fun σ5 h => ?_)
        refine zx_aload_n C dX4_readNumbers_22 0 rfl ?_
        refine zx_getI C zs_171 fg_X4_87 rfl dX4_readNumbers_23 ?_
        refine zx_iconst (v := (2 : Int32)) C dX4_readNumbers_26 (by decide) ?_
        refine zx_icmp_eq C 32 dX4_readNumbers_27 (by decide) (fun q => ?_) (fun q => ?_)
        · replace h := h.1 q
          refine zx_aload_n C dX4_readNumbers_32 0 rfl ?_
          refine zx_getR C zs_171 fg_X4_25 rfl 187 rfl dX4_readNumbers_33 ?_
          refine zx_iload_n C dX4_readNumbers_36 2 rfl ?_
          refine zx_aload_n C dX4_readNumbers_37 0 rfl ?_
          refine zx_getI C zs_171 fg_X4_113 rfl dX4_readNumbers_38 ?_
          obtain ⟨bd6, h⟩ := h
          refine zx_iast C (x_3).toNatClampNeg zs_187 bd6 rfl dX4_readNumbers_41 ?_
          refine zx_sig (fun σ7 eσ7 => ?_)
          replace h := h σ7 eσ7
          refine zx_aload_n C dX4_readNumbers_42 0 rfl ?_
          refine zx_getR C zs_171 fg_X4_29 rfl 188 rfl dX4_readNumbers_43 ?_
          refine zx_iload_n C dX4_readNumbers_46 2 rfl ?_
          refine zx_aload_n C dX4_readNumbers_47 0 rfl ?_
          refine zx_getI C zs_171 fg_X4_90 rfl dX4_readNumbers_48 ?_
          obtain ⟨bd8, h⟩ := h
          refine zx_iast C (x_3).toNatClampNeg zs_188 bd8 rfl dX4_readNumbers_51 ?_
          refine zx_sig (fun σ9 eσ9 => ?_)
          replace h := h σ9 eσ9
          obtain ⟨x10, ex10⟩ : ∃ y : Int32, y = (x_3 + (1 : Int32)) := ⟨_, rfl⟩
          replace h := h x10 ex10
          refine zx_iinc (v := x10) (lv' := [(3, .int x10), (0, .ref (g 171)), (2, .int x_2)]) C dX4_readNumbers_52 2 rfl (by rw [ex10]; rfl) (by decide) rfl ?_
          refine zx_goto C 7 dX4_readNumbers_55 (by decide) ?_
          refine zx_lv (lv' := [(0, .ref (g 171)), (2, .int x_2), (3, .int x10)]) [1, 2, 0] rfl ?_
          exact ih x10 σ9 h
        · replace h := h.2 q
          refine zx_iconst (v := (0 : Int32)) C dX4_readNumbers_30 (by decide) ?_
          exact zx_zret C hr dX4_readNumbers_31 (Or.inl rfl) h
set_option maxRecDepth 100000 in
set_option maxHeartbeats 4000000 in
theorem c_X4_readNumbers (l : Launch) (D : va_G) (cy : Nat → ClassId) (g : Nat → Nat) (a1 : Int32)  (σ : zSto) {P : Int32 → zSto → Prop} (h : w_X4_readNumbers a1 σ P) : zMb l yX4_readNumbers cX4_readNumbers 4 (some .boolean) (zrm 3 61) D cy g [.ref (g 171), .int a1] σ P := by
  unfold w_X4_readNumbers at h
  refine zm_b RX4 rfl (by decide +kernel) (Nat.le_of_ble_eq_true rfl) ?_
  intro p e s m below meth c C hr
  refine zx_lv (lv' := [(0, .ref (g 171)), (1, .int a1)]) [0, 1] rfl ?_
  refine zx_iload_n C dX4_readNumbers_0 1 rfl ?_
  refine zx_cSi C [.int a1] lk_X4_154 (c_X4_howManyNumbers l D cy g a1  σ h) ⟨by decide, by decide⟩ ⟨rfl, rfl⟩ ⟨Nat.zero_le _, Nat.zero_le _⟩ rfl rfl (Nat.le_of_ble_eq_true rfl) dX4_readNumbers_1 (fun r2 σ1 h => ?_)
  refine zx_istore_n (lv' := [(2, .int r2), (0, .ref (g 171)), (1, .int a1)]) C dX4_readNumbers_4 (by decide) rfl ?_
  refine zx_iconst (v := (0 : Int32)) C dX4_readNumbers_5 (by decide) ?_
  refine zx_istore_n (lv' := [(3, .int (0 : Int32)), (2, .int r2), (0, .ref (g 171)), (1, .int a1)]) C dX4_readNumbers_6 (by decide) rfl ?_
  obtain ⟨n, h⟩ := h
  refine zx_lv (lv' := [(0, .ref (g 171)), (2, .int r2), (3, .int (0 : Int32))]) [2, 1, 0] rfl ?_
  exact k_X4_readNumbers_7 C hr (r2)   n (0 : Int32) σ1 h
