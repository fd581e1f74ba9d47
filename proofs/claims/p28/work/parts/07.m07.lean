theorem lk_X10_350 : zLS RX10 350 yX10_common cX10_common 10 (some .long) 2 := zLS_of ml_X10_350 st_X10_common ini_X10 cd_X10_common (by decide +kernel)
def w_X10_part (a1 : Int64) (a2 : Int64) (a3 : Int32) (σ : zSto) (P : Int64 → zSto → Prop) : Prop := (w_X10_common a1 a2 σ (fun (r2 : Int64) (σ1 : zSto) => ((a3 = 0 → (¬ r2 = 0 ∧ P (a1 / r2) σ1)) ∧ (¬ a3 = 0 → (¬ r2 = 0 ∧ P (a2 / r2) σ1)))))
set_option maxRecDepth 100000 in
set_option maxHeartbeats 4000000 in
theorem c_X10_part (l : Launch) (D : va_G) (cy : Nat → ClassId) (g : Nat → Nat) (a1 : Int64) (a2 : Int64) (a3 : Int32)  (σ : zSto) {P : Int64 → zSto → Prop} (h : w_X10_part a1 a2 a3 σ P) : zMl l yX10_part cX10_part 7 (some .long) (zrm 1 29) D cy g [.long a1, .long a2, .int a3] σ P := by
  unfold w_X10_part at h
  refine zm_l RX10 rfl (by decide +kernel) (Nat.le_of_ble_eq_true rfl) ?_
  intro p e s m below meth c C hr
  refine zx_lv (lv' := [(0, .long a1), (2, .long a2), (4, .int a3)]) [0, 1, 2] rfl ?_
  refine zx_lload_n C dX10_part_0 0 rfl ?_
  refine zx_lload_n C dX10_part_1 1 rfl ?_
  refine zx_cSl C [.long a1, .long a2] lk_X10_350 (c_X10_common l D cy g a1 a2  σ h) ⟨by decide, by decide⟩ ⟨rfl, rfl⟩ ⟨Nat.zero_le _, Nat.zero_le _⟩ rfl rfl (Nat.le_of_ble_eq_true rfl) dX10_part_2 (fun r2 σ1 h => ?_)
  refine zx_lstore (lv' := [(5, .long r2), (0, .long a1), (2, .long a2), (4, .int a3)]) C dX10_part_5 (by decide) rfl ?_
  refine zx_iload C dX10_part_7 3 rfl ?_
  refine zx_if_eq C 19 dX10_part_9 (by decide) (fun q => ?_) (fun q => ?_)
  · replace h := h.1 q
    refine zx_lload_n C dX10_part_19 1 rfl ?_
    refine zx_lload C dX10_part_20 0 rfl ?_
    obtain ⟨q3, h⟩ := h
    refine zx_ldiv C dX10_part_22 q3 ?_
    exact zx_lret C hr dX10_part_23 h
  · replace h := h.2 q
    refine zx_lload_n C dX10_part_12 2 rfl ?_
    refine zx_lload C dX10_part_13 0 rfl ?_
    obtain ⟨q4, h⟩ := h
    refine zx_ldiv C dX10_part_15 q4 ?_
    refine zx_goto C 23 dX10_part_16 (by decide) ?_
    exact zx_lret C hr dX10_part_23 h
theorem lk_X10_360 : zLV RX10 360 RX10 yX10_findOdds cX10_findOdds 5 none 1 := zLV_of ml_X10_360 im_X10_findOdds se_X10_findOdds ini_X10 cd_X10_findOdds (by decide +kernel)
theorem lk_X10_356 : zLS RX10 356 yX10_part cX10_part 7 (some .long) 3 := zLS_of ml_X10_356 st_X10_part ini_X10 cd_X10_part (by decide +kernel)
def w_X10_chance_98 (x_2 : Int32) (x_3 : Int32) (P : Int64 → zSto → Prop)  : Nat → Int64 → Int32 → zSto → Prop
  | 0, _, _, _ => False
  | n + 1, x_4, x_6, σ => ((x_2 < x_6 → (w_X10_part x_4 (σ.2 223 42) x_3 σ (fun (r8 : Int64) (σ7 : zSto) => P r8 σ7))) ∧ (¬ x_2 < x_6 → (vp_in x_6 1200 ∧ (∀ x10 : Int64, x10 = (x_4 + (σ.2 245 (x_6).toNatClampNeg)) → (∀ x11 : Int32, x11 = (x_6 + (1 : Int32)) → w_X10_chance_98 x_2 x_3 P n x10 x11 σ)))))
def w_X10_chance_40 (x_3 : Int32) (P : Int64 → zSto → Prop)  : Nat → Int64 → Int32 → zSto → Prop
  | 0, _, _, _ => False
  | n + 1, x_4, x_6, σ => (((σ.1 223 25) ≤ x_6 → (w_X10_part x_4 (10 : Int64) x_3 σ (fun (r13 : Int64) (σ12 : zSto) => P r13 σ12))) ∧ (¬ (σ.1 223 25) ≤ x_6 → (vp_in x_6 16 ∧ (w_X10_postOf x_6 (3 : Int32) σ (fun (r16 : Int32) (σ15 : zSto) => (∀ x17 : Int64, x17 = (x_4 + ((σ.1 237 (x_6).toNatClampNeg).toInt64 * r16.toInt64)) → (∀ x18 : Int32, x18 = (x_6 + (1 : Int32)) → w_X10_chance_40 x_3 P n x17 x18 σ15)))))))
def w_X10_chance (a1 : Int32) (a2 : Int32) (a3 : Int32) (σ : zSto) (P : Int64 → zSto → Prop) : Prop := (∀ σ1 : zSto, σ1 = zI σ 223 0 (0 : Int32) → (w_X10_in a2 (-1 : Int32) (999 : Int32) σ1 (fun (r3 : Int32) (σ2 : zSto) => (r3 = 0 ∨ r3 = 1) → ((r3 = 0 → P (-1 : Int64) σ2) ∧ (¬ r3 = 0 → (w_X10_hand a1 (0 : Int32) σ2 (fun (r5 : Int32) (σ4 : zSto) => (r5 = 0 ∨ r5 = 1) → ((¬ r5 = 0 → ((¬ a2 = (-1 : Int32) → (w_X10_findOdds (σ4.1 223 25) σ4 (fun (σ6 : zSto) => (∃ n : Nat, w_X10_chance_98 a2 a3 P  n (0 : Int64) (0 : Int32) σ6)))) ∧ (a2 = (-1 : Int32) → (∃ n : Nat, w_X10_chance_40 a3 P  n (0 : Int64) (0 : Int32) σ4)))) ∧ (r5 = 0 → P (-1 : Int64) σ4)))))))))
set_option maxRecDepth 100000 in
set_option maxHeartbeats 4000000 in
theorem k_X10_chance_98 {p : Program} {l : Launch} {e : Env} {s : State} {m : MethodId} {args : Array Value} {below : List Frame} {meth : Method} {c : Code} {D : va_G} {cy : Nat → ClassId} {g : Nat → Nat} (C : zC p s m args meth c cX10_chance RX10 7 D cy g) (hr : meth.sig.returnType = (some .long)) {P : Int64 → zSto → Prop} (x_2 : Int32) (x_3 : Int32)    : ∀ (n : Nat) (x_4 : Int64) (x_6 : Int32) (σ : zSto), w_X10_chance_98 x_2 x_3 P n x_4 x_6 σ → zX p l e (zrm 4 88) s m args below meth c 0 0 (zQl P below args s D cy g) 7 D cy g 98 [(0, .ref (g 223)), (2, .int x_2), (3, .int x_3), (4, .long x_4), (6, .int x_6)] [] σ := by
  intro n
  induction n with
  | zero => intro x_4 x_6 σ h; exact h.elim
  | succ n ih =>
    intro x_4 x_6 σ h
    unfold w_X10_chance_98 at h
    refine zx_iload C dX10_chance_98 4 rfl ?_
    refine zx_iload_n C dX10_chance_100 1 rfl ?_
    refine zx_icmp_gt C 122 dX10_chance_101 (by decide) (fun q => ?_) (fun q => ?_)
    · replace h := h.1 q
      refine zx_lload C dX10_chance_122 3 rfl ?_
      refine zx_aload_n C dX10_chance_124 0 rfl ?_
      refine zx_getL C zs_223 fg_X10_345 rfl dX10_chance_125 ?_
      refine zx_iload_n C dX10_chance_128 2 rfl ?_
      refine zx_cSl C [.long x_4, .long (σ.2 223 42), .int x_3] lk_X10_356 (c_X10_part l D cy g x_4 (σ.2 223 42) x_3  σ h) ⟨by decide, by decide⟩ ⟨rfl, rfl⟩ ⟨Nat.zero_le _, Nat.zero_le _⟩ rfl rfl (Nat.le_of_ble_eq_true rfl) dX10_chance_129 (fun r8 σ7 h => ?_)
      exact zx_lret C hr dX10_chance_132 h
    · replace h := h.2 q
      refine zx_lload C dX10_chance_104 3 rfl ?_
      refine zx_aload_n C dX10_chance_106 0 rfl ?_
      refine zx_getR C zs_223 fg_X10_75 rfl 245 rfl dX10_chance_107 ?_
      refine zx_iload C dX10_chance_110 4 rfl ?_
      obtain ⟨bd9, h⟩ := h
      refine zx_lald C (x_6).toNatClampNeg zs_245 bd9 rfl dX10_chance_112 ?_
      refine zx_ladd C dX10_chance_113 ?_
      refine zx_topl (fun x10 ex10 => ?_)
      replace h := h x10 ex10
      refine zx_lstore (lv' := [(4, .long x10), (0, .ref (g 223)), (2, .int x_2), (3, .int x_3), (6, .int x_6)]) C dX10_chance_114 (by decide) rfl ?_
      obtain ⟨x11, ex11⟩ : ∃ y : Int32, y = (x_6 + (1 : Int32)) := ⟨_, rfl⟩
      replace h := h x11 ex11
      refine zx_iinc (v := x11) (lv' := [(6, .int x11), (4, .long x10), (0, .ref (g 223)), (2, .int x_2), (3, .int x_3)]) C dX10_chance_116 4 rfl (by rw [ex11]; rfl) (by decide) rfl ?_
      refine zx_goto C 98 dX10_chance_119 (by decide) ?_
      refine zx_lv (lv' := [(0, .ref (g 223)), (2, .int x_2), (3, .int x_3), (4, .long x10), (6, .int x11)]) [2, 3, 4, 1, 0] rfl ?_
      exact ih x10 x11 σ h
set_option maxRecDepth 100000 in
set_option maxHeartbeats 4000000 in
theorem k_X10_chance_40 {p : Program} {l : Launch} {e : Env} {s : State} {m : MethodId} {args : Array Value} {below : List Frame} {meth : Method} {c : Code} {D : va_G} {cy : Nat → ClassId} {g : Nat → Nat} (C : zC p s m args meth c cX10_chance RX10 7 D cy g) (hr : meth.sig.returnType = (some .long)) {P : Int64 → zSto → Prop} (x_3 : Int32)    : ∀ (n : Nat) (x_4 : Int64) (x_6 : Int32) (σ : zSto), w_X10_chance_40 x_3 P n x_4 x_6 σ → zX p l e (zrm 4 88) s m args below meth c 0 0 (zQl P below args s D cy g) 7 D cy g 40 [(0, .ref (g 223)), (3, .int x_3), (4, .long x_4), (6, .int x_6)] [] σ := by
  intro n
  induction n with
  | zero => intro x_4 x_6 σ h; exact h.elim
  | succ n ih =>
    intro x_4 x_6 σ h
    unfold w_X10_chance_40 at h
    refine zx_iload C dX10_chance_40 3 rfl ?_
    refine zx_aload_n C dX10_chance_42 0 rfl ?_
    refine zx_getI C zs_223 fg_X10_248 rfl dX10_chance_43 ?_
    refine zx_icmp_ge C 77 dX10_chance_46 (by decide) (fun q => ?_) (fun q => ?_)
    · replace h := h.1 q
      refine zx_lload C dX10_chance_77 2 rfl ?_
      refine zx_ldc2 C dX10_chance_79 co_X10_348 ?_
      refine zx_iload_n C dX10_chance_82 1 rfl ?_
      refine zx_cSl C [.long x_4, .long (10 : Int64), .int x_3] lk_X10_356 (c_X10_part l D cy g x_4 (10 : Int64) x_3  σ h) ⟨by decide, by decide⟩ ⟨rfl, rfl⟩ ⟨Nat.zero_le _, Nat.zero_le _⟩ rfl rfl (Nat.le_of_ble_eq_true rfl) dX10_chance_83 (fun r13 σ12 h => ?_)
      exact zx_lret C hr dX10_chance_86 h
    · replace h := h.2 q
      refine zx_lload C dX10_chance_49 2 rfl ?_
      refine zx_aload_n C dX10_chance_51 0 rfl ?_
      refine zx_getR C zs_223 fg_X10_50 rfl 237 rfl dX10_chance_52 ?_
      refine zx_iload C dX10_chance_55 3 rfl ?_
      obtain ⟨bd14, h⟩ := h
      refine zx_iald C (x_6).toNatClampNeg zs_237 bd14 rfl dX10_chance_57 ?_
      refine zx_i2l C dX10_chance_58 ?_
      refine zx_aload_n C dX10_chance_59 0 rfl ?_
      refine zx_iload C dX10_chance_60 3 rfl ?_
      refine zx_iconst (v := (3 : Int32)) C dX10_chance_62 (by decide) ?_
      refine zx_cVi C [.int x_6, .int (3 : Int32)] lk_X10_242 (c_X10_postOf l D cy g x_6 (3 : Int32)  σ h) zs_223 rfl ⟨by decide, by decide⟩ ⟨rfl, rfl⟩ ⟨Nat.zero_le _, Nat.zero_le _⟩ rfl rfl (Nat.le_of_ble_eq_true rfl) dX10_chance_63 (fun r16 σ15 h => ?_)
      refine zx_i2l C dX10_chance_66 ?_
      refine zx_lmul C dX10_chance_67 ?_
      refine zx_ladd C dX10_chance_68 ?_
      refine zx_topl (fun x17 ex17 => ?_)
      replace h := h x17 ex17
      refine zx_lstore (lv' := [(4, .long x17), (0, .ref (g 223)), (3, .int x_3), (6, .int x_6)]) C dX10_chance_69 (by decide) rfl ?_
      obtain ⟨x18, ex18⟩ : ∃ y : Int32, y = (x_6 + (1 : Int32)) := ⟨_, rfl⟩
      replace h := h x18 ex18
      refine zx_iinc (v := x18) (lv' := [(6, .int x18), (4, .long x17), (0, .ref (g 223)), (3, .int x_3)]) C dX10_chance_71 3 rfl (by rw [ex18]; rfl) (by decide) rfl ?_
      refine zx_goto C 40 dX10_chance_74 (by decide) ?_
      refine zx_lv (lv' := [(0, .ref (g 223)), (3, .int x_3), (4, .long x17), (6, .int x18)]) [2, 3, 1, 0] rfl ?_
      exact ih x17 x18 σ15 h
set_option maxRecDepth 100000 in
set_option maxHeartbeats 4000000 in
theorem c_X10_chance (l : Launch) (D : va_G) (cy : Nat → ClassId) (g : Nat → Nat) (a1 : Int32) (a2 : Int32) (a3 : Int32)  (σ : zSto) {P : Int64 → zSto → Prop} (h : w_X10_chance a1 a2 a3 σ P) : zMl l yX10_chance cX10_chance 7 (some .long) (zrm 4 88) D cy g [.ref (g 223), .int a1, .int a2, .int a3] σ P := by
  unfold w_X10_chance at h
  refine zm_l RX10 rfl (by decide +kernel) (Nat.le_of_ble_eq_true rfl) ?_
  intro p e s m below meth c C hr
  refine zx_lv (lv' := [(0, .ref (g 223)), (1, .int a1), (2, .int a2), (3, .int a3)]) [0, 1, 2, 3] rfl ?_
  refine zx_aload_n C dX10_chance_0 0 rfl ?_
  refine zx_iconst (v := (0 : Int32)) C dX10_chance_1 (by decide) ?_
  refine zx_putI C zs_223 fp_X10_91 rfl dX10_chance_2 ?_
  refine zx_sig (fun σ1 eσ1 => ?_)
  replace h := h σ1 eσ1
  refine zx_iload_n C dX10_chance_5 2 rfl ?_
  refine zx_iconst (v := (-1 : Int32)) C dX10_chance_6 (by decide) ?_
  refine zx_sipush (v := (999 : Int32)) C dX10_chance_7 (by decide) ?_
  refine zx_cSb C [.int a2, .int (-1 : Int32), .int (999 : Int32)] lk_X10_103 (c_X10_in l D cy g a2 (-1 : Int32) (999 : Int32)  σ1 h) ⟨by decide, by decide⟩ ⟨rfl, rfl⟩ ⟨Nat.zero_le _, Nat.zero_le _⟩ rfl rfl (Nat.le_of_ble_eq_true rfl) dX10_chance_10 (fun r3 σ2 hb h => ?_)
  replace h := h hb
  refine zx_if_eq C 25 dX10_chance_13 (by decide) (fun q => ?_) (fun q => ?_)
  · replace h := h.1 q
    refine zx_ldc2 C dX10_chance_25 co_X10_354 ?_
    exact zx_lret C hr dX10_chance_28 h
  · replace h := h.2 q
    refine zx_aload_n C dX10_chance_16 0 rfl ?_
    refine zx_iload_n C dX10_chance_17 1 rfl ?_
    refine zx_iconst (v := (0 : Int32)) C dX10_chance_18 (by decide) ?_
    refine zx_cVb C [.int a1, .int (0 : Int32)] lk_X10_257 (c_X10_hand l D cy g a1 (0 : Int32)  σ2 h) zs_223 rfl ⟨by decide, by decide⟩ ⟨rfl, rfl⟩ ⟨Nat.zero_le _, Nat.zero_le _⟩ rfl rfl (Nat.le_of_ble_eq_true rfl) dX10_chance_19 (fun r5 σ4 hb h => ?_)
    replace h := h hb
    refine zx_if_ne C 29 dX10_chance_22 (by decide) (fun q => ?_) (fun q => ?_)
    · replace h := h.1 q
      refine zx_lconst (v := (0 : Int64)) C dX10_chance_29 (by decide) ?_
      refine zx_lstore (lv' := [(4, .long (0 : Int64)), (0, .ref (g 223)), (1, .int a1), (2, .int a2), (3, .int a3)]) C dX10_chance_30 (by decide) rfl ?_
      refine zx_iload_n C dX10_chance_32 3 rfl ?_
      refine zx_iconst (v := (-1 : Int32)) C dX10_chance_33 (by decide) ?_
      refine zx_icmp_ne C 87 dX10_chance_34 (by decide) (fun q => ?_) (fun q => ?_)
      · replace h := h.1 q
        refine zx_aload_n C dX10_chance_87 1 rfl ?_
        refine zx_aload_n C dX10_chance_88 1 rfl ?_
        refine zx_getI C zs_223 fg_X10_248 rfl dX10_chance_89 ?_
        refine zx_cVv C [.int (σ4.1 223 25)] lk_X10_360 (c_X10_findOdds l D cy g (σ4.1 223 25)  σ4 h) zs_223 rfl ⟨by decide, by decide⟩ ⟨rfl, rfl⟩ ⟨Nat.zero_le _, Nat.zero_le _⟩ rfl rfl (Nat.le_of_ble_eq_true rfl) dX10_chance_92 (fun σ6 h => ?_)
        refine zx_iconst (v := (0 : Int32)) C dX10_chance_95 (by decide) ?_
        refine zx_istore (lv' := [(6, .int (0 : Int32)), (4, .long (0 : Int64)), (0, .ref (g 223)), (1, .int a1), (2, .int a2), (3, .int a3)]) C dX10_chance_96 (by decide) rfl ?_
        obtain ⟨n, h⟩ := h
        refine zx_lv (lv' := [(0, .ref (g 223)), (2, .int a2), (3, .int a3), (4, .long (0 : Int64)), (6, .int (0 : Int32))]) [2, 4, 5, 1, 0] rfl ?_
        exact k_X10_chance_98 C hr (a2) (a3)   n (0 : Int64) (0 : Int32) σ6 h
      · replace h := h.2 q
        refine zx_iconst (v := (0 : Int32)) C dX10_chance_37 (by decide) ?_
        refine zx_istore (lv' := [(6, .int (0 : Int32)), (4, .long (0 : Int64)), (0, .ref (g 223)), (1, .int a1), (2, .int a2), (3, .int a3)]) C dX10_chance_38 (by decide) rfl ?_
        obtain ⟨n, h⟩ := h
        refine zx_lv (lv' := [(0, .ref (g 223)), (3, .int a3), (4, .long (0 : Int64)), (6, .int (0 : Int32))]) [2, 5, 1, 0] rfl ?_
        exact k_X10_chance_40 C hr (a3)   n (0 : Int64) (0 : Int32) σ4 h
    · replace h := h.2 q
      refine zx_ldc2 C dX10_chance_25 co_X10_354 ?_
      exact zx_lret C hr dX10_chance_28 h
def w_X10_enough_10 (x_1 : Int32) (P : Int32 → zSto → Prop)  : Nat → Int64 → Int32 → zSto → Prop
  | 0, _, _, _ => False
  | n + 1, x_2, x_4, σ => ((0 ≤ (lg_cmp (x_2 * (100 : Int64)) ((σ.2 223 42) * x_1.toInt64)) → P x_4 σ) ∧ (¬ 0 ≤ (lg_cmp (x_2 * (100 : Int64)) ((σ.2 223 42) * x_1.toInt64)) → (∀ x2 : Int32, x2 = (x_4 + (1 : Int32)) → (vp_in x2 1200 ∧ (∀ x4 : Int64, x4 = (x_2 + (σ.2 245 (x2).toNatClampNeg)) → w_X10_enough_10 x_1 P n x4 x2 σ)))))
def w_X10_enough (a1 : Int32) (σ : zSto) (P : Int32 → zSto → Prop) : Prop := (∀ x1 : Int64, x1 = (σ.2 245 0) → (∃ n : Nat, w_X10_enough_10 a1 P  n x1 (0 : Int32) σ))
set_option maxRecDepth 100000 in
set_option maxHeartbeats 4000000 in
theorem k_X10_enough_10 {p : Program} {l : Launch} {e : Env} {s : State} {m : MethodId} {args : Array Value} {below : List Frame} {meth : Method} {c : Code} {D : va_G} {cy : Nat → ClassId} {g : Nat → Nat} (C : zC p s m args meth c cX10_enough RX10 5 D cy g) (hr : meth.sig.returnType = (some .int)) {P : Int32 → zSto → Prop} (x_1 : Int32)    : ∀ (n : Nat) (x_2 : Int64) (x_4 : Int32) (σ : zSto), w_X10_enough_10 x_1 P n x_2 x_4 σ → zX p l e (zrm 0 0) s m args below meth c 0 0 (zQi P below args s D cy g) 5 D cy g 10 [(0, .ref (g 223)), (1, .int x_1), (2, .long x_2), (4, .int x_4)] [] σ := by
  intro n
  induction n with
  | zero => intro x_2 x_4 σ h; exact h.elim
  | succ n ih =>
    intro x_2 x_4 σ h
    unfold w_X10_enough_10 at h
    refine zx_lload_n C dX10_enough_10 2 rfl ?_
    refine zx_ldc2 C dX10_enough_11 co_X10_363 ?_
    refine zx_lmul C dX10_enough_14 ?_
    refine zx_aload_n C dX10_enough_15 0 rfl ?_
    refine zx_getL C zs_223 fg_X10_345 rfl dX10_enough_16 ?_
    refine zx_iload_n C dX10_enough_19 1 rfl ?_
    refine zx_i2l C dX10_enough_20 ?_
    refine zx_lmul C dX10_enough_21 ?_
    refine zx_lcmp C dX10_enough_22 ?_
    refine zx_if_ge C 42 dX10_enough_23 (by decide) (fun q => ?_) (fun q => ?_)
    · replace h := h.1 q
      refine zx_iload C dX10_enough_42 3 rfl ?_
      exact zx_iret C hr dX10_enough_44 h
    · replace h := h.2 q
      obtain ⟨x2, ex2⟩ : ∃ y : Int32, y = (x_4 + (1 : Int32)) := ⟨_, rfl⟩
      replace h := h x2 ex2
      refine zx_iinc (v := x2) (lv' := [(4, .int x2), (0, .ref (g 223)), (1, .int x_1), (2, .long x_2)]) C dX10_enough_26 3 rfl (by rw [ex2]; rfl) (by decide) rfl ?_
      refine zx_lload_n C dX10_enough_29 3 rfl ?_
      refine zx_aload_n C dX10_enough_30 1 rfl ?_
      refine zx_getR C zs_223 fg_X10_75 rfl 245 rfl dX10_enough_31 ?_
      refine zx_iload C dX10_enough_34 0 rfl ?_
      obtain ⟨bd3, h⟩ := h
      refine zx_lald C (x2).toNatClampNeg zs_245 bd3 rfl dX10_enough_36 ?_
      refine zx_ladd C dX10_enough_37 ?_
      refine zx_topl (fun x4 ex4 => ?_)
      replace h := h x4 ex4
      refine zx_lstore_n (lv' := [(2, .long x4), (4, .int x2), (0, .ref (g 223)), (1, .int x_1)]) C dX10_enough_38 (by decide) rfl ?_
      refine zx_goto C 10 dX10_enough_39 (by decide) ?_
      refine zx_lv (lv' := [(0, .ref (g 223)), (1, .int x_1), (2, .long x4), (4, .int x2)]) [2, 3, 0, 1] rfl ?_
      exact ih x4 x2 σ h
set_option maxRecDepth 100000 in
set_option maxHeartbeats 4000000 in
theorem c_X10_enough (l : Launch) (D : va_G) (cy : Nat → ClassId) (g : Nat → Nat) (a1 : Int32)  (σ : zSto) {P : Int32 → zSto → Prop} (h : w_X10_enough a1 σ P) : zMi l yX10_enough cX10_enough 5 (some .int) (zrm 0 0) D cy g [.ref (g 223), .int a1] σ P := by
  unfold w_X10_enough at h
  refine zm_i RX10 rfl (by decide +kernel) (Nat.le_of_ble_eq_true rfl) ?_
  intro p e s m below meth c C hr
  refine zx_lv (lv' := [(0, .ref (g 223)), (1, .int a1)]) [0, 1] rfl ?_
  refine zx_aload_n C dX10_enough_0 0 rfl ?_
  refine zx_getR C zs_223 fg_X10_75 rfl 245 rfl dX10_enough_1 ?_
  refine zx_iconst (v := (0 : Int32)) C dX10_enough_4 (by decide) ?_
  refine zx_lald C 0 zs_245 (by unfold vp_in; decide) (by decide) dX10_enough_5 ?_
  refine zx_topl (fun x1 ex1 => ?_)
  replace h := h x1 ex1
  refine zx_lstore_n (lv' := [(2, .long x1), (0, .ref (g 223)), (1, .int a1)]) C dX10_enough_6 (by decide) rfl ?_
  refine zx_iconst (v := (0 : Int32)) C dX10_enough_7 (by decide) ?_
  refine zx_istore (lv' := [(4, .int (0 : Int32)), (2, .long x1), (0, .ref (g 223)), (1, .int a1)]) C dX10_enough_8 (by decide) rfl ?_
  obtain ⟨n, h⟩ := h
  refine zx_lv (lv' := [(0, .ref (g 223)), (1, .int a1), (2, .long x1), (4, .int (0 : Int32))]) [2, 3, 1, 0] rfl ?_
  exact k_X10_enough_10 C hr (a1)   n x1 (0 : Int32) σ h
theorem lk_X10_365 : zLV RX10 365 RX10 yX10_enough cX10_enough 5 (some .int) 1 := zLV_of ml_X10_365 im_X10_enough se_X10_enough ini_X10 cd_X10_enough (by decide +kernel)
def w_X10_slack (a1 : Int32) (a2 : Int32) (σ : zSto) (P : Int32 → zSto → Prop) : Prop := (∀ σ1 : zSto, σ1 = zI σ 223 0 (0 : Int32) → (w_X10_in a2 (0 : Int32) (100 : Int32) σ1 (fun (r3 : Int32) (σ2 : zSto) => (r3 = 0 ∨ r3 = 1) → ((r3 = 0 → P (-1 : Int32) σ2) ∧ (¬ r3 = 0 → (w_X10_hand a1 (0 : Int32) σ2 (fun (r5 : Int32) (σ4 : zSto) => (r5 = 0 ∨ r5 = 1) → ((¬ r5 = 0 → (w_X10_findOdds (σ4.1 223 25) σ4 (fun (σ6 : zSto) => (w_X10_enough a2 σ6 (fun (r8 : Int32) (σ7 : zSto) => P r8 σ7))))) ∧ (r5 = 0 → P (-1 : Int32) σ4)))))))))
set_option maxRecDepth 100000 in
set_option maxHeartbeats 4000000 in
theorem c_X10_slack (l : Launch) (D : va_G) (cy : Nat → ClassId) (g : Nat → Nat) (a1 : Int32) (a2 : Int32)  (σ : zSto) {P : Int32 → zSto → Prop} (h : w_X10_slack a1 a2 σ P) : zMi l yX10_slack cX10_slack 3 (some .int) (zrm 4 88) D cy g [.ref (g 223), .int a1, .int a2] σ P := by
  unfold w_X10_slack at h
  refine zm_i RX10 rfl (by decide +kernel) (Nat.le_of_ble_eq_true rfl) ?_
  intro p e s m below meth c C hr
  refine zx_lv (lv' := [(0, .ref (g 223)), (1, .int a1), (2, .int a2)]) [0, 1, 2] rfl ?_
  refine zx_aload_n C dX10_slack_0 0 rfl ?_
  refine zx_iconst (v := (0 : Int32)) C dX10_slack_1 (by decide) ?_
  refine zx_putI C zs_223 fp_X10_91 rfl dX10_slack_2 ?_
  refine zx_sig (fun σ1 eσ1 => ?_)
  replace h := h σ1 eσ1
  refine zx_iload_n C dX10_slack_5 2 rfl ?_
  refine zx_iconst (v := (0 : Int32)) C dX10_slack_6 (by decide) ?_
  refine zx_bipush (v := (100 : Int32)) C dX10_slack_7 (by decide) ?_
  refine zx_cSb C [.int a2, .int (0 : Int32), .int (100 : Int32)] lk_X10_103 (c_X10_in l D cy g a2 (0 : Int32) (100 : Int32)  σ1 h) ⟨by decide, by decide⟩ ⟨rfl, rfl⟩ ⟨Nat.zero_le _, Nat.zero_le _⟩ rfl rfl (Nat.le_of_ble_eq_true rfl) dX10_slack_9 (fun r3 σ2 hb h => ?_)
  replace h := h hb
  refine zx_if_eq C 24 dX10_slack_12 (by decide) (fun q => ?_) (fun q => ?_)
  · replace h := h.1 q
    refine zx_iconst (v := (-1 : Int32)) C dX10_slack_24 (by decide) ?_
    exact zx_iret C hr dX10_slack_25 h
  · replace h := h.2 q
    refine zx_aload_n C dX10_slack_15 0 rfl ?_
    refine zx_iload_n C dX10_slack_16 1 rfl ?_
    refine zx_iconst (v := (0 : Int32)) C dX10_slack_17 (by decide) ?_
    refine zx_cVb C [.int a1, .int (0 : Int32)] lk_X10_257 (c_X10_hand l D cy g a1 (0 : Int32)  σ2 h) zs_223 rfl ⟨by decide, by decide⟩ ⟨rfl, rfl⟩ ⟨Nat.zero_le _, Nat.zero_le _⟩ rfl rfl (Nat.le_of_ble_eq_true rfl) dX10_slack_18 (fun r5 σ4 hb h => ?_)
    replace h := h hb
    refine zx_if_ne C 26 dX10_slack_21 (by decide) (fun q => ?_) (fun q => ?_)
    · replace h := h.1 q
      refine zx_aload_n C dX10_slack_26 0 rfl ?_
      refine zx_aload_n C dX10_slack_27 0 rfl ?_
      refine zx_getI C zs_223 fg_X10_248 rfl dX10_slack_28 ?_
      refine zx_cVv C [.int (σ4.1 223 25)] lk_X10_360 (c_X10_findOdds l D cy g (σ4.1 223 25)  σ4 h) zs_223 rfl ⟨by decide, by decide⟩ ⟨rfl, rfl⟩ ⟨Nat.zero_le _, Nat.zero_le _⟩ rfl rfl (Nat.le_of_ble_eq_true rfl) dX10_slack_31 (fun σ6 h => ?_)
      refine zx_aload_n C dX10_slack_34 0 rfl ?_
      refine zx_iload_n C dX10_slack_35 2 rfl ?_
      refine zx_cVi C [.int a2] lk_X10_365 (c_X10_enough l D cy g a2  σ6 h) zs_223 rfl ⟨by decide, by decide⟩ ⟨rfl, rfl⟩ ⟨Nat.zero_le _, Nat.zero_le _⟩ rfl rfl (Nat.le_of_ble_eq_true rfl) dX10_slack_36 (fun r8 σ7 h => ?_)
      exact zx_iret C hr dX10_slack_39 h
    · replace h := h.2 q
      refine zx_iconst (v := (-1 : Int32)) C dX10_slack_24 (by decide) ?_
      exact zx_iret C hr dX10_slack_25 h
def w_X10_shells_45 (x_3 : Int32) (x_4 : Int32) (x_5 : Int32) (x_6 : Int32) (P : Int32 → zSto → Prop)  : Nat → Int32 → Int32 → Int32 → Int32 → zSto → Prop
  | 0, _, _, _, _, _ => False
  | n + 1, x_7, x_8, x_9, x_10, σ => ((x_6 < x_10 → ((¬ x_5 = 0 → ((¬ x_5 = (2 : Int32) → ((¬ x_7 = 0 → P x_8 σ) ∧ (x_7 = 0 → P (-1 : Int32) σ))) ∧ (x_5 = (2 : Int32) → P x_9 σ))) ∧ (x_5 = 0 → P x_7 σ))) ∧ (¬ x_6 < x_10 → ((¬ (x_10 &&& (x_6 ^^^ (-1 : Int32))) = 0 → (∀ x8 : Int32, x8 = (x_10 + (1 : Int32)) → w_X10_shells_45 x_3 x_4 x_5 x_6 P n x_7 x_8 x_9 x8 σ)) ∧ ((x_10 &&& (x_6 ^^^ (-1 : Int32))) = 0 → (w_X10_poundsOf x_10 σ (fun (r10 : Int32) (σ9 : zSto) => ((¬ r10 = x_3 → (∀ x11 : Int32, x11 = (x_10 + (1 : Int32)) → w_X10_shells_45 x_3 x_4 x_5 x_6 P n x_7 x_8 x_9 x11 σ9)) ∧ (r10 = x_3 → (w_X10_costsOf x_10 σ9 (fun (r13 : Int32) (σ12 : zSto) => ((¬ r13 = x_4 → (∀ x14 : Int32, x14 = (x_10 + (1 : Int32)) → w_X10_shells_45 x_3 x_4 x_5 x_6 P n x_7 x_8 x_9 x14 σ12)) ∧ (r13 = x_4 → (∀ x15 : Int32, x15 = (x_7 + (1 : Int32)) → (∀ x16 : Int32, x16 = (x_8 &&& x_10) → (∀ x17 : Int32, x17 = (x_9 ||| x_10) → (∀ x18 : Int32, x18 = (x_10 + (1 : Int32)) → w_X10_shells_45 x_3 x_4 x_5 x_6 P n x15 x16 x17 x18 σ12))))))))))))))))
def w_X10_shells (a1 : Int32) (a2 : Int32) (a3 : Int32) (a4 : Int32) (a5 : Int32) (σ : zSto) (P : Int32 → zSto → Prop) : Prop := (∀ σ1 : zSto, σ1 = zI σ 223 0 (0 : Int32) → (w_X10_in a5 (0 : Int32) (2 : Int32) σ1 (fun (r3 : Int32) (σ2 : zSto) => (r3 = 0 ∨ r3 = 1) → ((r3 = 0 → P (-1 : Int32) σ2) ∧ (¬ r3 = 0 → (w_X10_hand a1 a2 σ2 (fun (r5 : Int32) (σ4 : zSto) => (r5 = 0 ∨ r5 = 1) → ((¬ r5 = 0 → (w_X10_bearing  σ4 (fun (r7 : Int32) (σ6 : zSto) => (∃ n : Nat, w_X10_shells_45 a3 a4 a5 r7 P  n (0 : Int32) r7 (0 : Int32) (0 : Int32) σ6)))) ∧ (r5 = 0 → P (-1 : Int32) σ4)))))))))
set_option maxRecDepth 100000 in
set_option maxHeartbeats 4000000 in
theorem k_X10_shells_45 {p : Program} {l : Launch} {e : Env} {s : State} {m : MethodId} {args : Array Value} {below : List Frame} {meth : Method} {c : Code} {D : va_G} {cy : Nat → ClassId} {g : Nat → Nat} (C : zC p s m args meth c cX10_shells RX10 11 D cy g) (hr : meth.sig.returnType = (some .int)) {P : Int32 → zSto → Prop} (x_3 : Int32) (x_4 : Int32) (x_5 : Int32) (x_6 : Int32)    : ∀ (n : Nat) (x_7 : Int32) (x_8 : Int32) (x_9 : Int32) (x_10 : Int32) (σ : zSto), w_X10_shells_45 x_3 x_4 x_5 x_6 P n x_7 x_8 x_9 x_10 σ → zX p l e (zrm 4 88) s m args below meth c 0 0 (zQi P below args s D cy g) 11 D cy g 45 [(0, .ref (g 223)), (3, .int x_3), (4, .int x_4), (5, .int x_5), (6, .int x_6), (7, .int x_7), (8, .int x_8), (9, .int x_9), (10, .int x_10)] [] σ := by
  intro n
  induction n with
  | zero => intro x_7 x_8 x_9 x_10 σ h; exact h.elim
  | succ n ih =>
    intro x_7 x_8 x_9 x_10 σ h
    unfold w_X10_shells_45 at h
    refine zx_iload C dX10_shells_45 8 rfl ?_
    refine zx_iload C dX10_shells_47 4 rfl ?_
    refine zx_icmp_gt C 106 dX10_shells_49 (by decide) (fun q => ?_) (fun q => ?_)
    · replace h := h.1 q
      refine zx_iload C dX10_shells_106 3 rfl ?_
      refine zx_if_ne C 116 dX10_shells_108 (by decide) (fun q => ?_) (fun q => ?_)
      · replace h := h.1 q
        refine zx_iload C dX10_shells_116 3 rfl ?_
        refine zx_iconst (v := (2 : Int32)) C dX10_shells_118 (by decide) ?_
        refine zx_icmp_ne C 127 dX10_shells_119 (by decide) (fun q => ?_) (fun q => ?_)
        · replace h := h.1 q
          refine zx_iload C dX10_shells_127 5 rfl ?_
          refine zx_if_ne C 136 dX10_shells_129 (by decide) (fun q => ?_) (fun q => ?_)
          · replace h := h.1 q
            refine zx_iload C dX10_shells_136 6 rfl ?_
            exact zx_iret C hr dX10_shells_138 h
          · replace h := h.2 q
            refine zx_iconst (v := (-1 : Int32)) C dX10_shells_132 (by decide) ?_
            refine zx_goto C 138 dX10_shells_133 (by decide) ?_
            exact zx_iret C hr dX10_shells_138 h
        · replace h := h.2 q
          refine zx_iload C dX10_shells_122 7 rfl ?_
          refine zx_goto C 138 dX10_shells_124 (by decide) ?_
          exact zx_iret C hr dX10_shells_138 h
      · replace h := h.2 q
        refine zx_iload C dX10_shells_111 5 rfl ?_
        refine zx_goto C 138 dX10_shells_113 (by decide) ?_
        exact zx_iret C hr dX10_shells_138 h
    · replace h := h.2 q
      refine zx_iload C dX10_shells_52 8 rfl ?_
      refine zx_iload C dX10_shells_54 4 rfl ?_
      refine zx_iconst (v := (-1 : Int32)) C dX10_shells_56 (by decide) ?_
      refine zx_ixor C dX10_shells_57 ?_
      refine zx_iand C dX10_shells_58 ?_
      refine zx_if_ne C 100 dX10_shells_59 (by decide) (fun q => ?_) (fun q => ?_)
      · replace h := h.1 q
        obtain ⟨x8, ex8⟩ : ∃ y : Int32, y = (x_10 + (1 : Int32)) := ⟨_, rfl⟩
        replace h := h x8 ex8
        refine zx_iinc (v := x8) (lv' := [(10, .int x8), (0, .ref (g 223)), (3, .int x_3), (4, .int x_4), (5, .int x_5), (6, .int x_6), (7, .int x_7), (8, .int x_8), (9, .int x_9)]) C dX10_shells_100 8 rfl (by rw [ex8]; rfl) (by decide) rfl ?_
        refine zx_goto C 45 dX10_shells_103 (by decide) ?_
        refine zx_lv (lv' := [(0, .ref (g 223)), (3, .int x_3), (4, .int x_4), (5, .int x_5), (6, .int x_6), (7, .int x_7), (8, .int x_8), (9, .int x_9), (10, .int x8)]) [1, 2, 3, 4, 5, 6, 7, 8, 0] rfl ?_
        exact ih x_7 x_8 x_9 x8 σ h
      · replace h := h.2 q
        refine zx_aload_n C dX10_shells_62 0 rfl ?_
        refine zx_iload C dX10_shells_63 8 rfl ?_
        refine zx_cVi C [.int x_10] lk_X10_329 (c_X10_poundsOf l D cy g x_10  σ h) zs_223 rfl ⟨by decide, by decide⟩ ⟨rfl, rfl⟩ ⟨Nat.zero_le _, Nat.zero_le _⟩ rfl rfl (Nat.le_of_ble_eq_true rfl) dX10_shells_65 (fun r10 σ9 h => ?_)
        refine zx_iload_n C dX10_shells_68 1 rfl ?_
        refine zx_icmp_ne C 100 dX10_shells_69 (by decide) (fun q => ?_) (fun q => ?_)
        · replace h := h.1 q
          obtain ⟨x11, ex11⟩ : ∃ y : Int32, y = (x_10 + (1 : Int32)) := ⟨_, rfl⟩
          replace h := h x11 ex11
          refine zx_iinc (v := x11) (lv' := [(10, .int x11), (0, .ref (g 223)), (3, .int x_3), (4, .int x_4), (5, .int x_5), (6, .int x_6), (7, .int x_7), (8, .int x_8), (9, .int x_9)]) C dX10_shells_100 8 rfl (by rw [ex11]; rfl) (by decide) rfl ?_
          refine zx_goto C 45 dX10_shells_103 (by decide) ?_
          refine zx_lv (lv' := [(0, .ref (g 223)), (3, .int x_3), (4, .int x_4), (5, .int x_5), (6, .int x_6), (7, .int x_7), (8, .int x_8), (9, .int x_9), (10, .int x11)]) [1, 2, 3, 4, 5, 6, 7, 8, 0] rfl ?_
          exact ih x_7 x_8 x_9 x11 σ9 h
        · replace h := h.2 q
          refine zx_aload_n C dX10_shells_72 0 rfl ?_
          refine zx_iload C dX10_shells_73 8 rfl ?_
          refine zx_cVi C [.int x_10] lk_X10_332 (c_X10_costsOf l D cy g x_10  σ9 h) zs_223 rfl ⟨by decide, by decide⟩ ⟨rfl, rfl⟩ ⟨Nat.zero_le _, Nat.zero_le _⟩ rfl rfl (Nat.le_of_ble_eq_true rfl) dX10_shells_75 (fun r13 σ12 h => ?_)
          refine zx_iload C dX10_shells_78 2 rfl ?_
          refine zx_icmp_ne C 100 dX10_shells_80 (by decide) (fun q => ?_) (fun q => ?_)
          · replace h := h.1 q
            obtain ⟨x14, ex14⟩ : ∃ y : Int32, y = (x_10 + (1 : Int32)) := ⟨_, rfl⟩
            replace h := h x14 ex14
            refine zx_iinc (v := x14) (lv' := [(10, .int x14), (0, .ref (g 223)), (3, .int x_3), (4, .int x_4), (5, .int x_5), (6, .int x_6), (7, .int x_7), (8, .int x_8), (9, .int x_9)]) C dX10_shells_100 8 rfl (by rw [ex14]; rfl) (by decide) rfl ?_
            refine zx_goto C 45 dX10_shells_103 (by decide) ?_
            refine zx_lv (lv' := [(0, .ref (g 223)), (3, .int x_3), (4, .int x_4), (5, .int x_5), (6, .int x_6), (7, .int x_7), (8, .int x_8), (9, .int x_9), (10, .int x14)]) [1, 2, 3, 4, 5, 6, 7, 8, 0] rfl ?_
            exact ih x_7 x_8 x_9 x14 σ12 h
          · replace h := h.2 q
            obtain ⟨x15, ex15⟩ : ∃ y : Int32, y = (x_7 + (1 : Int32)) := ⟨_, rfl⟩
            replace h := h x15 ex15
            refine zx_iinc (v := x15) (lv' := [(7, .int x15), (0, .ref (g 223)), (3, .int x_3), (4, .int x_4), (5, .int x_5), (6, .int x_6), (8, .int x_8), (9, .int x_9), (10, .int x_10)]) C dX10_shells_83 5 rfl (by rw [ex15]; rfl) (by decide) rfl ?_
            refine zx_iload C dX10_shells_86 6 rfl ?_
            refine zx_iload C dX10_shells_88 8 rfl ?_
            refine zx_iand C dX10_shells_90 ?_
            refine zx_topi (fun x16 ex16 => ?_)
            replace h := h x16 ex16
            refine zx_istore (lv' := [(8, .int x16), (7, .int x15), (0, .ref (g 223)), (3, .int x_3), (4, .int x_4), (5, .int x_5), (6, .int x_6), (9, .int x_9), (10, .int x_10)]) C dX10_shells_91 (by decide) rfl ?_
            refine zx_iload C dX10_shells_93 7 rfl ?_
            refine zx_iload C dX10_shells_95 8 rfl ?_
            refine zx_ior C dX10_shells_97 ?_
            refine zx_topi (fun x17 ex17 => ?_)
            replace h := h x17 ex17
            refine zx_istore (lv' := [(9, .int x17), (8, .int x16), (7, .int x15), (0, .ref (g 223)), (3, .int x_3), (4, .int x_4), (5, .int x_5), (6, .int x_6), (10, .int x_10)]) C dX10_shells_98 (by decide) rfl ?_
            obtain ⟨x18, ex18⟩ : ∃ y : Int32, y = (x_10 + (1 : Int32)) := ⟨_, rfl⟩
            replace h := h x18 ex18
            refine zx_iinc (v := x18) (lv' := [(10, .int x18), (9, .int x17), (8, .int x16), (7, .int x15), (0, .ref (g 223)), (3, .int x_3), (4, .int x_4), (5, .int x_5), (6, .int x_6)]) C dX10_shells_100 8 rfl (by rw [ex18]; rfl) (by decide) rfl ?_
            refine zx_goto C 45 dX10_shells_103 (by decide) ?_
            refine zx_lv (lv' := [(0, .ref (g 223)), (3, .int x_3), (4, .int x_4), (5, .int x_5), (6, .int x_6), (7, .int x15), (8, .int x16), (9, .int x17), (10, .int x18)]) [4, 5, 6, 7, 8, 3, 2, 1, 0] rfl ?_
            exact ih x15 x16 x17 x18 σ12 h
set_option maxRecDepth 100000 in
set_option maxHeartbeats 4000000 in
theorem c_X10_shells (l : Launch) (D : va_G) (cy : Nat → ClassId) (g : Nat → Nat) (a1 : Int32) (a2 : Int32) (a3 : Int32) (a4 : Int32) (a5 : Int32)  (σ : zSto) {P : Int32 → zSto → Prop} (h : w_X10_shells a1 a2 a3 a4 a5 σ P) : zMi l yX10_shells cX10_shells 11 (some .int) (zrm 4 88) D cy g [.ref (g 223), .int a1, .int a2, .int a3, .int a4, .int a5] σ P := by
  unfold w_X10_shells at h
  refine zm_i RX10 rfl (by decide +kernel) (Nat.le_of_ble_eq_true rfl) ?_
  intro p e s m below meth c C hr
  refine zx_lv (lv' := [(0, .ref (g 223)), (1, .int a1), (2, .int a2), (3, .int a3), (4, .int a4), (5, .int a5)]) [0, 1, 2, 3, 4, 5] rfl ?_
  refine zx_aload_n C dX10_shells_0 0 rfl ?_
  refine zx_iconst (v := (0 : Int32)) C dX10_shells_1 (by decide) ?_
  refine zx_putI C zs_223 fp_X10_91 rfl dX10_shells_2 ?_
  refine zx_sig (fun σ1 eσ1 => ?_)
  replace h := h σ1 eσ1
  refine zx_iload C dX10_shells_5 5 rfl ?_
  refine zx_iconst (v := (0 : Int32)) C dX10_shells_7 (by decide) ?_
  refine zx_iconst (v := (2 : Int32)) C dX10_shells_8 (by decide) ?_
  refine zx_cSb C [.int a5, .int (0 : Int32), .int (2 : Int32)] lk_X10_103 (c_X10_in l D cy g a5 (0 : Int32) (2 : Int32)  σ1 h) ⟨by decide, by decide⟩ ⟨rfl, rfl⟩ ⟨Nat.zero_le _, Nat.zero_le _⟩ rfl rfl (Nat.le_of_ble_eq_true rfl) dX10_shells_9 (fun r3 σ2 hb h => ?_)
  replace h := h hb
  refine zx_if_eq C 24 dX10_shells_12 (by decide) (fun q => ?_) (fun q => ?_)
  · replace h := h.1 q
    refine zx_iconst (v := (-1 : Int32)) C dX10_shells_24 (by decide) ?_
    exact zx_iret C hr dX10_shells_25 h
  · replace h := h.2 q
    refine zx_aload_n C dX10_shells_15 0 rfl ?_
    refine zx_iload_n C dX10_shells_16 1 rfl ?_
    refine zx_iload_n C dX10_shells_17 2 rfl ?_
    refine zx_cVb C [.int a1, .int a2] lk_X10_257 (c_X10_hand l D cy g a1 a2  σ2 h) zs_223 rfl ⟨by decide, by decide⟩ ⟨rfl, rfl⟩ ⟨Nat.zero_le _, Nat.zero_le _⟩ rfl rfl (Nat.le_of_ble_eq_true rfl) dX10_shells_18 (fun r5 σ4 hb h => ?_)
    replace h := h hb
    refine zx_if_ne C 26 dX10_shells_21 (by decide) (fun q => ?_) (fun q => ?_)
    · replace h := h.1 q
      refine zx_aload_n C dX10_shells_26 0 rfl ?_
      refine zx_cVi C [] lk_X10_326 (c_X10_bearing l D cy g   σ4 h) zs_223 rfl ⟨by decide, by decide⟩ ⟨rfl, rfl⟩ ⟨Nat.zero_le _, Nat.zero_le _⟩ rfl rfl (Nat.le_of_ble_eq_true rfl) dX10_shells_27 (fun r7 σ6 h => ?_)
      refine zx_istore (lv' := [(6, .int r7), (0, .ref (g 223)), (1, .int a1), (2, .int a2), (3, .int a3), (4, .int a4), (5, .int a5)]) C dX10_shells_30 (by decide) rfl ?_
      refine zx_iconst (v := (0 : Int32)) C dX10_shells_32 (by decide) ?_
      refine zx_istore (lv' := [(7, .int (0 : Int32)), (6, .int r7), (0, .ref (g 223)), (1, .int a1), (2, .int a2), (3, .int a3), (4, .int a4), (5, .int a5)]) C dX10_shells_33 (by decide) rfl ?_
      refine zx_iload C dX10_shells_35 1 rfl ?_
      refine zx_istore (lv' := [(8, .int r7), (7, .int (0 : Int32)), (6, .int r7), (0, .ref (g 223)), (1, .int a1), (2, .int a2), (3, .int a3), (4, .int a4), (5, .int a5)]) C dX10_shells_37 (by decide) rfl ?_
      refine zx_iconst (v := (0 : Int32)) C dX10_shells_39 (by decide) ?_
      refine zx_istore (lv' := [(9, .int (0 : Int32)), (8, .int r7), (7, .int (0 : Int32)), (6, .int r7), (0, .ref (g 223)), (1, .int a1), (2, .int a2), (3, .int a3), (4, .int a4), (5, .int a5)]) C dX10_shells_40 (by decide) rfl ?_
      refine zx_iconst (v := (0 : Int32)) C dX10_shells_42 (by decide) ?_
      refine zx_istore (lv' := [(10, .int (0 : Int32)), (9, .int (0 : Int32)), (8, .int r7), (7, .int (0 : Int32)), (6, .int r7), (0, .ref (g 223)), (1, .int a1), (2, .int a2), (3, .int a3), (4, .int a4), (5, .int a5)]) C dX10_shells_43 (by decide) rfl ?_
      obtain ⟨n, h⟩ := h
      refine zx_lv (lv' := [(0, .ref (g 223)), (3, .int a3), (4, .int a4), (5, .int a5), (6, .int r7), (7, .int (0 : Int32)), (8, .int r7), (9, .int (0 : Int32)), (10, .int (0 : Int32))]) [5, 8, 9, 10, 4, 3, 2, 1, 0] rfl ?_
      exact k_X10_shells_45 C hr (a3) (a4) (a5) (r7)   n (0 : Int32) r7 (0 : Int32) (0 : Int32) σ6 h
    · replace h := h.2 q
      refine zx_iconst (v := (-1 : Int32)) C dX10_shells_24 (by decide) ?_
      exact zx_iret C hr dX10_shells_25 h
def w_X10_nextStation_4  (P : Int32 → zSto → Prop)  : Nat → Int32 → zSto → Prop
  | 0, _, _ => False
  | n + 1, x_2, σ => (((σ.1 223 24) ≤ x_2 → P (-1 : Int32) σ) ∧ (¬ (σ.1 223 24) ≤ x_2 → (w_X10_postOf x_2 (4 : Int32) σ (fun (r3 : Int32) (σ2 : zSto) => ((r3 = (-1 : Int32) → (∀ x4 : Int32, x4 = (x_2 + (1 : Int32)) → w_X10_nextStation_4 P n x4 σ2)) ∧ (¬ r3 = (-1 : Int32) → P x_2 σ2))))))
def w_X10_nextStation (a1 : Int32) (σ : zSto) (P : Int32 → zSto → Prop) : Prop := (∀ x1 : Int32, x1 = (a1 + (1 : Int32)) → (∃ n : Nat, w_X10_nextStation_4  P  n x1 σ))
set_option maxRecDepth 100000 in
set_option maxHeartbeats 4000000 in
theorem k_X10_nextStation_4 {p : Program} {l : Launch} {e : Env} {s : State} {m : MethodId} {args : Array Value} {below : List Frame} {meth : Method} {c : Code} {D : va_G} {cy : Nat → ClassId} {g : Nat → Nat} (C : zC p s m args meth c cX10_nextStation RX10 3 D cy g) (hr : meth.sig.returnType = (some .int)) {P : Int32 → zSto → Prop}     : ∀ (n : Nat) (x_2 : Int32) (σ : zSto), w_X10_nextStation_4 P n x_2 σ → zX p l e (zrm 2 43) s m args below meth c 0 0 (zQi P below args s D cy g) 3 D cy g 4 [(0, .ref (g 223)), (2, .int x_2)] [] σ := by
  intro n
  induction n with
  | zero => intro x_2 σ h; exact h.elim
  | succ n ih =>
    intro x_2 σ h
    unfold w_X10_nextStation_4 at h
    refine zx_iload_n C dX10_nextStation_4 1 rfl ?_
    refine zx_aload_n C dX10_nextStation_5 0 rfl ?_
    refine zx_getI C zs_223 fg_X10_245 rfl dX10_nextStation_6 ?_
    refine zx_icmp_ge C 30 dX10_nextStation_9 (by decide) (fun q => ?_) (fun q => ?_)
    · replace h := h.1 q
      refine zx_iconst (v := (-1 : Int32)) C dX10_nextStation_30 (by decide) ?_
      exact zx_iret C hr dX10_nextStation_31 h
    · replace h := h.2 q
      refine zx_aload_n C dX10_nextStation_12 0 rfl ?_
      refine zx_iload_n C dX10_nextStation_13 1 rfl ?_
      refine zx_iconst (v := (4 : Int32)) C dX10_nextStation_14 (by decide) ?_
      refine zx_cVi C [.int x_2, .int (4 : Int32)] lk_X10_242 (c_X10_postOf l D cy g x_2 (4 : Int32)  σ h) zs_223 rfl ⟨by decide, by decide⟩ ⟨rfl, rfl⟩ ⟨Nat.zero_le _, Nat.zero_le _⟩ rfl rfl (Nat.le_of_ble_eq_true rfl) dX10_nextStation_15 (fun r3 σ2 h => ?_)
      refine zx_iconst (v := (-1 : Int32)) C dX10_nextStation_18 (by decide) ?_
      refine zx_icmp_eq C 24 dX10_nextStation_19 (by decide) (fun q => ?_) (fun q => ?_)
      · replace h := h.1 q
        obtain ⟨x4, ex4⟩ : ∃ y : Int32, y = (x_2 + (1 : Int32)) := ⟨_, rfl⟩
        replace h := h x4 ex4
        refine zx_iinc (v := x4) (lv' := [(2, .int x4), (0, .ref (g 223))]) C dX10_nextStation_24 1 rfl (by rw [ex4]; rfl) (by decide) rfl ?_
        refine zx_goto C 4 dX10_nextStation_27 (by decide) ?_
        refine zx_lv (lv' := [(0, .ref (g 223)), (2, .int x4)]) [1, 0] rfl ?_
        exact ih x4 σ2 h
      · replace h := h.2 q
        refine zx_iload_n C dX10_nextStation_22 1 rfl ?_
        exact zx_iret C hr dX10_nextStation_23 h
set_option maxRecDepth 100000 in
set_option maxHeartbeats 4000000 in
theorem c_X10_nextStation (l : Launch) (D : va_G) (cy : Nat → ClassId) (g : Nat → Nat) (a1 : Int32)  (σ : zSto) {P : Int32 → zSto → Prop} (h : w_X10_nextStation a1 σ P) : zMi l yX10_nextStation cX10_nextStation 3 (some .int) (zrm 2 43) D cy g [.ref (g 223), .int a1] σ P := by
  unfold w_X10_nextStation at h
  refine zm_i RX10 rfl (by decide +kernel) (Nat.le_of_ble_eq_true rfl) ?_
  intro p e s m below meth c C hr
  refine zx_lv (lv' := [(0, .ref (g 223)), (1, .int a1)]) [0, 1] rfl ?_
  refine zx_iload_n C dX10_nextStation_0 1 rfl ?_
  refine zx_iconst (v := (1 : Int32)) C dX10_nextStation_1 (by decide) ?_
  refine zx_iadd C dX10_nextStation_2 ?_
  refine zx_topi (fun x1 ex1 => ?_)
  replace h := h x1 ex1
  refine zx_istore_n (lv' := [(2, .int x1), (0, .ref (g 223)), (1, .int a1)]) C dX10_nextStation_3 (by decide) rfl ?_
  obtain ⟨n, h⟩ := h
  refine zx_lv (lv' := [(0, .ref (g 223)), (2, .int x1)]) [1, 0] rfl ?_
  exact k_X10_nextStation_4 C hr    n x1 σ h
theorem lk_X10_368 : zLV RX10 368 RX10 yX10_nextStation cX10_nextStation 3 (some .int) 1 := zLV_of ml_X10_368 im_X10_nextStation se_X10_nextStation ini_X10 cd_X10_nextStation (by decide +kernel)
theorem fg_X10_82 : zFG RX10 82 10 45 := ⟨RX10, TX10, 50, rfl, lay_X10, by decide, fl_X10_82⟩
def w_X10_waitAt_43 (x_1 : Int32) (x_2 : Int32) (x_3 : Int32) (P : Int32 → zSto → Prop)  : Nat → Int32 → Int32 → zSto → Prop
  | 0, _, _, _ => False
  | n + 1, x_4, x_5, σ => ((x_3 ≤ x_5 → (vp_in x_3 16 ∧ ((x_4 ≤ (σ.1 247 (x_3).toNatClampNeg) → P (0 : Int32) σ) ∧ (¬ x_4 ≤ (σ.1 247 (x_3).toNatClampNeg) → (vp_in x_1 16 ∧ P ((σ.1 247 (x_1).toNatClampNeg) - x_2) σ))))) ∧ (¬ x_3 ≤ x_5 → (vp_in x_5 16 ∧ (∀ x9 : Int32, x9 = (x_4 + (σ.1 236 (x_5).toNatClampNeg)) → (∀ x10 : Int32, x10 = (x_5 + (1 : Int32)) → w_X10_waitAt_43 x_1 x_2 x_3 P n x9 x10 σ)))))
def w_X10_waitAt (a1 : Int32) (a2 : Int32) (σ : zSto) (P : Int32 → zSto → Prop) : Prop := (w_X10_postOf a1 (4 : Int32) σ (fun (r2 : Int32) (σ1 : zSto) => ((¬ r2 = (-1 : Int32) → (w_X10_nextStation a1 σ1 (fun (r4 : Int32) (σ3 : zSto) => ((r4 = (-1 : Int32) → P (0 : Int32) σ3) ∧ (¬ r4 = (-1 : Int32) → (vp_in a1 16 ∧ ((a2 < (σ3.1 247 (a1).toNatClampNeg) → (∃ n : Nat, w_X10_waitAt_43 a1 a2 r4 P  n a2 a1 σ3)) ∧ (¬ a2 < (σ3.1 247 (a1).toNatClampNeg) → P (0 : Int32) σ3)))))))) ∧ (r2 = (-1 : Int32) → P (0 : Int32) σ1))))
set_option maxRecDepth 100000 in
set_option maxHeartbeats 4000000 in
theorem k_X10_waitAt_43 {p : Program} {l : Launch} {e : Env} {s : State} {m : MethodId} {args : Array Value} {below : List Frame} {meth : Method} {c : Code} {D : va_G} {cy : Nat → ClassId} {g : Nat → Nat} (C : zC p s m args meth c cX10_waitAt RX10 6 D cy g) (hr : meth.sig.returnType = (some .int)) {P : Int32 → zSto → Prop} (x_1 : Int32) (x_2 : Int32) (x_3 : Int32)    : ∀ (n : Nat) (x_4 : Int32) (x_5 : Int32) (σ : zSto), w_X10_waitAt_43 x_1 x_2 x_3 P n x_4 x_5 σ → zX p l e (zrm 3 65) s m args below meth c 0 0 (zQi P below args s D cy g) 6 D cy g 43 [(0, .ref (g 223)), (1, .int x_1), (2, .int x_2), (3, .int x_3), (4, .int x_4), (5, .int x_5)] [] σ := by
  intro n
  induction n with
  | zero => intro x_4 x_5 σ h; exact h.elim
  | succ n ih =>
    intro x_4 x_5 σ h
    unfold w_X10_waitAt_43 at h
    refine zx_iload C dX10_waitAt_43 5 rfl ?_
    refine zx_iload_n C dX10_waitAt_45 3 rfl ?_
    refine zx_icmp_ge C 67 dX10_waitAt_46 (by decide) (fun q => ?_) (fun q => ?_)
    · replace h := h.1 q
      refine zx_aload_n C dX10_waitAt_67 0 rfl ?_
      refine zx_getR C zs_223 fg_X10_82 rfl 247 rfl dX10_waitAt_68 ?_
      refine zx_iload_n C dX10_waitAt_71 3 rfl ?_
      obtain ⟨bd6, h⟩ := h
      refine zx_iald C (x_3).toNatClampNeg zs_247 bd6 rfl dX10_waitAt_72 ?_
      refine zx_iload C dX10_waitAt_73 4 rfl ?_
      refine zx_icmp_ge C 89 dX10_waitAt_75 (by decide) (fun q => ?_) (fun q => ?_)
      · replace h := h.1 q
        refine zx_iconst (v := (0 : Int32)) C dX10_waitAt_89 (by decide) ?_
        exact zx_iret C hr dX10_waitAt_90 h
      · replace h := h.2 q
        refine zx_aload_n C dX10_waitAt_78 0 rfl ?_
        refine zx_getR C zs_223 fg_X10_82 rfl 247 rfl dX10_waitAt_79 ?_
        refine zx_iload_n C dX10_waitAt_82 1 rfl ?_
        obtain ⟨bd7, h⟩ := h
        refine zx_iald C (x_1).toNatClampNeg zs_247 bd7 rfl dX10_waitAt_83 ?_
        refine zx_iload_n C dX10_waitAt_84 2 rfl ?_
        refine zx_isub C dX10_waitAt_85 ?_
        refine zx_goto C 90 dX10_waitAt_86 (by decide) ?_
        exact zx_iret C hr dX10_waitAt_90 h
    · replace h := h.2 q
      refine zx_iload C dX10_waitAt_49 4 rfl ?_
      refine zx_aload_n C dX10_waitAt_51 0 rfl ?_
      refine zx_getR C zs_223 fg_X10_47 rfl 236 rfl dX10_waitAt_52 ?_
      refine zx_iload C dX10_waitAt_55 5 rfl ?_
      obtain ⟨bd8, h⟩ := h
      refine zx_iald C (x_5).toNatClampNeg zs_236 bd8 rfl dX10_waitAt_57 ?_
      refine zx_iadd C dX10_waitAt_58 ?_
      refine zx_topi (fun x9 ex9 => ?_)
      replace h := h x9 ex9
      refine zx_istore (lv' := [(4, .int x9), (0, .ref (g 223)), (1, .int x_1), (2, .int x_2), (3, .int x_3), (5, .int x_5)]) C dX10_waitAt_59 (by decide) rfl ?_
      obtain ⟨x10, ex10⟩ : ∃ y : Int32, y = (x_5 + (1 : Int32)) := ⟨_, rfl⟩
      replace h := h x10 ex10
      refine zx_iinc (v := x10) (lv' := [(5, .int x10), (4, .int x9), (0, .ref (g 223)), (1, .int x_1), (2, .int x_2), (3, .int x_3)]) C dX10_waitAt_61 5 rfl (by rw [ex10]; rfl) (by decide) rfl ?_
      refine zx_goto C 43 dX10_waitAt_64 (by decide) ?_
      refine zx_lv (lv' := [(0, .ref (g 223)), (1, .int x_1), (2, .int x_2), (3, .int x_3), (4, .int x9), (5, .int x10)]) [2, 3, 4, 5, 1, 0] rfl ?_
      exact ih x9 x10 σ h
set_option maxRecDepth 100000 in
set_option maxHeartbeats 4000000 in
theorem c_X10_waitAt (l : Launch) (D : va_G) (cy : Nat → ClassId) (g : Nat → Nat) (a1 : Int32) (a2 : Int32)  (σ : zSto) {P : Int32 → zSto → Prop} (h : w_X10_waitAt a1 a2 σ P) : zMi l yX10_waitAt cX10_waitAt 6 (some .int) (zrm 3 65) D cy g [.ref (g 223), .int a1, .int a2] σ P := by
  unfold w_X10_waitAt at h
  refine zm_i RX10 rfl (by decide +kernel) (Nat.le_of_ble_eq_true rfl) ?_
  intro p e s m below meth c C hr
  refine zx_lv (lv' := [(0, .ref (g 223)), (1, .int a1), (2, .int a2)]) [0, 1, 2] rfl ?_
  refine zx_aload_n C dX10_waitAt_0 0 rfl ?_
  refine zx_iload_n C dX10_waitAt_1 1 rfl ?_
  refine zx_iconst (v := (4 : Int32)) C dX10_waitAt_2 (by decide) ?_
  refine zx_cVi C [.int a1, .int (4 : Int32)] lk_X10_242 (c_X10_postOf l D cy g a1 (4 : Int32)  σ h) zs_223 rfl ⟨by decide, by decide⟩ ⟨rfl, rfl⟩ ⟨Nat.zero_le _, Nat.zero_le _⟩ rfl rfl (Nat.le_of_ble_eq_true rfl) dX10_waitAt_3 (fun r2 σ1 h => ?_)
  refine zx_iconst (v := (-1 : Int32)) C dX10_waitAt_6 (by decide) ?_
  refine zx_icmp_ne C 14 dX10_waitAt_7 (by decide) (fun q => ?_) (fun q => ?_)
  · replace h := h.1 q
    refine zx_aload_n C dX10_waitAt_14 0 rfl ?_
    refine zx_iload_n C dX10_waitAt_15 1 rfl ?_
    refine zx_cVi C [.int a1] lk_X10_368 (c_X10_nextStation l D cy g a1  σ1 h) zs_223 rfl ⟨by decide, by decide⟩ ⟨rfl, rfl⟩ ⟨Nat.zero_le _, Nat.zero_le _⟩ rfl rfl (Nat.le_of_ble_eq_true rfl) dX10_waitAt_16 (fun r4 σ3 h => ?_)
    refine zx_istore_n (lv' := [(3, .int r4), (0, .ref (g 223)), (1, .int a1), (2, .int a2)]) C dX10_waitAt_19 (by decide) rfl ?_
    refine zx_iload_n C dX10_waitAt_20 0 rfl ?_
    refine zx_iconst (v := (-1 : Int32)) C dX10_waitAt_21 (by decide) ?_
    refine zx_icmp_eq C 35 dX10_waitAt_22 (by decide) (fun q => ?_) (fun q => ?_)
    · replace h := h.1 q
      refine zx_iconst (v := (0 : Int32)) C dX10_waitAt_35 (by decide) ?_
      exact zx_iret C hr dX10_waitAt_36 h
    · replace h := h.2 q
      refine zx_aload_n C dX10_waitAt_25 1 rfl ?_
      refine zx_getR C zs_223 fg_X10_82 rfl 247 rfl dX10_waitAt_26 ?_
      refine zx_iload_n C dX10_waitAt_29 2 rfl ?_
      obtain ⟨bd5, h⟩ := h
      refine zx_iald C (a1).toNatClampNeg zs_247 bd5 rfl dX10_waitAt_30 ?_
      refine zx_iload_n C dX10_waitAt_31 3 rfl ?_
      refine zx_icmp_gt C 37 dX10_waitAt_32 (by decide) (fun q => ?_) (fun q => ?_)
      · replace h := h.1 q
        refine zx_iload_n C dX10_waitAt_37 3 rfl ?_
        refine zx_istore (lv' := [(4, .int a2), (3, .int r4), (0, .ref (g 223)), (1, .int a1), (2, .int a2)]) C dX10_waitAt_38 (by decide) rfl ?_
        refine zx_iload_n C dX10_waitAt_40 3 rfl ?_
        refine zx_istore (lv' := [(5, .int a1), (4, .int a2), (3, .int r4), (0, .ref (g 223)), (1, .int a1), (2, .int a2)]) C dX10_waitAt_41 (by decide) rfl ?_
        obtain ⟨n, h⟩ := h
        refine zx_lv (lv' := [(0, .ref (g 223)), (1, .int a1), (2, .int a2), (3, .int r4), (4, .int a2), (5, .int a1)]) [3, 4, 5, 2, 1, 0] rfl ?_
        exact k_X10_waitAt_43 C hr (a1) (a2) (r4)   n a2 a1 σ3 h
      · replace h := h.2 q
        refine zx_iconst (v := (0 : Int32)) C dX10_waitAt_35 (by decide) ?_
        exact zx_iret C hr dX10_waitAt_36 h
  · replace h := h.2 q
    refine zx_iconst (v := (-1 : Int32)) C dX10_waitAt_10 (by decide) ?_
    refine zx_goto C 19 dX10_waitAt_11 (by decide) ?_
    refine zx_istore_n (lv' := [(3, .int (-1 : Int32)), (0, .ref (g 223)), (1, .int a1), (2, .int a2)]) C dX10_waitAt_19 (by decide) rfl ?_
    refine zx_iload_n C dX10_waitAt_20 0 rfl ?_
    refine zx_iconst (v := (-1 : Int32)) C dX10_waitAt_21 (by decide) ?_
    refine zx_icmp_eq C 35 dX10_waitAt_22 (by decide) (fun q => ?_) (fun q => ?_)
    · refine zx_iconst (v := (0 : Int32)) C dX10_waitAt_35 (by decide) ?_
      exact zx_iret C hr dX10_waitAt_36 h
    · exact absurd q (by decide)
theorem fp_X10_371 : zFP RX10 371 10 43 .int := ⟨RX10, TX10, 50, tyX10, rfl, lay_X10, by decide, fl_X10_371, tyX10_ok, nmX10, rfl, by decide +kernel⟩
theorem fg_X10_79 : zFG RX10 79 10 44 := ⟨RX10, TX10, 50, rfl, lay_X10, by decide, fl_X10_79⟩
theorem lk_X10_374 : zLV RX10 374 RX10 yX10_waitAt cX10_waitAt 6 (some .int) 2 := zLV_of ml_X10_374 im_X10_waitAt se_X10_waitAt ini_X10 cd_X10_waitAt (by decide +kernel)
theorem fg_X10_371 : zFG RX10 371 10 43 := ⟨RX10, TX10, 50, rfl, lay_X10, by decide, fl_X10_371⟩
def w_X10_meetOther_62  (P : zSto → Prop)  : Nat → Int32 → Int32 → zSto → Prop
  | 0, _, _, _ => False
  | n + 1, x_1, x_2, σ => (((σ.1 223 24) ≤ x_2 → P σ) ∧ (¬ (σ.1 223 24) ≤ x_2 → (vp_in x_2 16 ∧ (∀ σ8 : zSto, σ8 = zI σ 239 (x_2).toNatClampNeg x_1 → (vp_in x_2 16 ∧ (∀ σ10 : zSto, σ10 = zI σ8 246 (x_2).toNatClampNeg (0 : Int32) → (((σ10.1 223 25) ≤ x_2 → (∀ x11 : Int32, x11 = (x_2 + (1 : Int32)) → w_X10_meetOther_62 P n x_1 x11 σ10)) ∧ (¬ (σ10.1 223 25) ≤ x_2 → (vp_in x_2 16 ∧ (((σ10.1 240 (x_2).toNatClampNeg) = (-1 : Int32) → (∀ x13 : Int32, x13 = (x_1 + (0 : Int32)) → (w_X10_waitAt x_2 x13 σ10 (fun (r15 : Int32) (σ14 : zSto) => (vp_in x_2 16 ∧ (∀ σ17 : zSto, σ17 = zI σ14 246 (x_2).toNatClampNeg r15 → (vp_in x_2 16 ∧ (∀ x19 : Int32, x19 = (x13 + (σ17.1 246 (x_2).toNatClampNeg)) → (vp_in x_2 16 ∧ (∀ x21 : Int32, x21 = (x19 + (σ17.1 236 (x_2).toNatClampNeg)) → ((¬ (σ17.1 223 43) = (-1 : Int32) → (∀ σ22 : zSto, σ22 = zI σ17 223 43 (σ17.1 223 43) → (∀ x23 : Int32, x23 = (x_2 + (1 : Int32)) → w_X10_meetOther_62 P n x21 x23 σ22))) ∧ ((σ17.1 223 43) = (-1 : Int32) → (vp_in x_2 16 ∧ (((σ17.1 247 (x_2).toNatClampNeg) ≤ x19 → (∀ σ25 : zSto, σ25 = zI σ17 223 43 (σ17.1 223 43) → (∀ x26 : Int32, x26 = (x_2 + (1 : Int32)) → w_X10_meetOther_62 P n x21 x26 σ25))) ∧ (¬ (σ17.1 247 (x_2).toNatClampNeg) ≤ x19 → (vp_in (x_2 + (1 : Int32)) 16 ∧ ((x21 ≤ (σ17.1 247 ((x_2 + (1 : Int32))).toNatClampNeg) → (∀ σ28 : zSto, σ28 = zI σ17 223 43 (σ17.1 223 43) → (∀ x29 : Int32, x29 = (x_2 + (1 : Int32)) → w_X10_meetOther_62 P n x21 x29 σ28))) ∧ (¬ x21 ≤ (σ17.1 247 ((x_2 + (1 : Int32))).toNatClampNeg) → (∀ σ30 : zSto, σ30 = zI σ17 223 43 x_2 → (∀ x31 : Int32, x31 = (x_2 + (1 : Int32)) → w_X10_meetOther_62 P n x21 x31 σ30)))))))))))))))))))) ∧ (¬ (σ10.1 240 (x_2).toNatClampNeg) = (-1 : Int32) → (vp_in x_2 16 ∧ (∀ x33 : Int32, x33 = (x_1 + (σ10.1 237 (x_2).toNatClampNeg)) → (w_X10_waitAt x_2 x33 σ10 (fun (r35 : Int32) (σ34 : zSto) => (vp_in x_2 16 ∧ (∀ σ37 : zSto, σ37 = zI σ34 246 (x_2).toNatClampNeg r35 → (vp_in x_2 16 ∧ (∀ x39 : Int32, x39 = (x33 + (σ37.1 246 (x_2).toNatClampNeg)) → (vp_in x_2 16 ∧ (∀ x41 : Int32, x41 = (x39 + (σ37.1 236 (x_2).toNatClampNeg)) → ((¬ (σ37.1 223 43) = (-1 : Int32) → (∀ σ42 : zSto, σ42 = zI σ37 223 43 (σ37.1 223 43) → (∀ x43 : Int32, x43 = (x_2 + (1 : Int32)) → w_X10_meetOther_62 P n x41 x43 σ42))) ∧ ((σ37.1 223 43) = (-1 : Int32) → (vp_in x_2 16 ∧ (((σ37.1 247 (x_2).toNatClampNeg) ≤ x39 → (∀ σ45 : zSto, σ45 = zI σ37 223 43 (σ37.1 223 43) → (∀ x46 : Int32, x46 = (x_2 + (1 : Int32)) → w_X10_meetOther_62 P n x41 x46 σ45))) ∧ (¬ (σ37.1 247 (x_2).toNatClampNeg) ≤ x39 → (vp_in (x_2 + (1 : Int32)) 16 ∧ ((x41 ≤ (σ37.1 247 ((x_2 + (1 : Int32))).toNatClampNeg) → (∀ σ48 : zSto, σ48 = zI σ37 223 43 (σ37.1 223 43) → (∀ x49 : Int32, x49 = (x_2 + (1 : Int32)) → w_X10_meetOther_62 P n x41 x49 σ48))) ∧ (¬ x41 ≤ (σ37.1 247 ((x_2 + (1 : Int32))).toNatClampNeg) → (∀ σ50 : zSto, σ50 = zI σ37 223 43 x_2 → (∀ x51 : Int32, x51 = (x_2 + (1 : Int32)) → w_X10_meetOther_62 P n x41 x51 σ50)))))))))))))))))))))))))))))))
def w_X10_meetOther_22  (P : zSto → Prop)  : Nat → Int32 → zSto → Prop
  | 0, _, _ => False
  | n + 1, x_1, σ => ((x_1 < 0 → (∀ σ6 : zSto, σ6 = zI σ 223 43 (-1 : Int32) → (∃ n2 : Nat, w_X10_meetOther_62  P  n2 (0 : Int32) (0 : Int32) σ6))) ∧ (¬ x_1 < 0 → (vp_in (x_1 + (1 : Int32)) 16 ∧ (vp_in x_1 16 ∧ (vp_in x_1 16 ∧ (∀ σ55 : zSto, σ55 = zI σ 247 (x_1).toNatClampNeg ((σ.1 247 ((x_1 + (1 : Int32))).toNatClampNeg) + (σ.1 236 (x_1).toNatClampNeg)) → (∀ x56 : Int32, x56 = (x_1 + (-1 : Int32)) → w_X10_meetOther_22 P n x56 σ55)))))))
def w_X10_meetOther  (σ : zSto) (P : zSto → Prop) : Prop := (w_X10_of (6 : Int32) σ (fun (r2 : Int32) (σ1 : zSto) => (vp_in (σ.1 223 25) 16 ∧ (∀ σ4 : zSto, σ4 = zI σ1 247 ((σ.1 223 25)).toNatClampNeg r2 → (∀ x5 : Int32, x5 = ((σ4.1 223 25) - (1 : Int32)) → (∃ n : Nat, w_X10_meetOther_22  P  n x5 σ4))))))
set_option maxRecDepth 100000 in
set_option maxHeartbeats 4000000 in
theorem k_X10_meetOther_62 {p : Program} {l : Launch} {e : Env} {s : State} {m : MethodId} {args : Array Value} {below : List Frame} {meth : Method} {c : Code} {D : va_G} {cy : Nat → ClassId} {g : Nat → Nat} (C : zC p s m args meth c cX10_meetOther RX10 5 D cy g) (hr : meth.sig.returnType = none) {P : zSto → Prop}     : ∀ (n : Nat) (x_1 : Int32) (x_2 : Int32) (σ : zSto), w_X10_meetOther_62 P n x_1 x_2 σ → zX p l e (zrm 4 90) s m args below meth c 0 0 (zQv P below args s D cy g) 5 D cy g 62 [(0, .ref (g 223)), (1, .int x_1), (2, .int x_2)] [] σ := by
  intro n
  induction n with
  | zero => intro x_1 x_2 σ h; exact h.elim
  | succ n ih =>
    intro x_1 x_2 σ h
    unfold w_X10_meetOther_62 at h
    refine zx_iload_n C dX10_meetOther_62 2 rfl ?_
    refine zx_aload_n C dX10_meetOther_63 0 rfl ?_
    refine zx_getI C zs_223 fg_X10_245 rfl dX10_meetOther_64 ?_
    refine zx_icmp_ge C 196 dX10_meetOther_67 (by decide) (fun q => ?_) (fun q => ?_)
    · replace h := h.1 q
      exact zx_vret C hr dX10_meetOther_196 h
    · replace h := h.2 q
      refine zx_aload_n C dX10_meetOther_70 0 rfl ?_
      refine zx_getR C zs_223 fg_X10_56 rfl 239 rfl dX10_meetOther_71 ?_
      refine zx_iload_n C dX10_meetOther_74 2 rfl ?_
      refine zx_iload_n C dX10_meetOther_75 1 rfl ?_
      obtain ⟨bd7, h⟩ := h
      refine zx_iast C (x_2).toNatClampNeg zs_239 bd7 rfl dX10_meetOther_76 ?_
      refine zx_sig (fun σ8 eσ8 => ?_)
      replace h := h σ8 eσ8
      refine zx_aload_n C dX10_meetOther_77 0 rfl ?_
      refine zx_getR C zs_223 fg_X10_79 rfl 246 rfl dX10_meetOther_78 ?_
      refine zx_iload_n C dX10_meetOther_81 2 rfl ?_
      refine zx_iconst (v := (0 : Int32)) C dX10_meetOther_82 (by decide) ?_
      obtain ⟨bd9, h⟩ := h
      refine zx_iast C (x_2).toNatClampNeg zs_246 bd9 rfl dX10_meetOther_83 ?_
      refine zx_sig (fun σ10 eσ10 => ?_)
      replace h := h σ10 eσ10
      refine zx_iload_n C dX10_meetOther_84 2 rfl ?_
      refine zx_aload_n C dX10_meetOther_85 0 rfl ?_
      refine zx_getI C zs_223 fg_X10_248 rfl dX10_meetOther_86 ?_
      refine zx_icmp_ge C 190 dX10_meetOther_89 (by decide) (fun q => ?_) (fun q => ?_)
      · replace h := h.1 q
        obtain ⟨x11, ex11⟩ : ∃ y : Int32, y = (x_2 + (1 : Int32)) := ⟨_, rfl⟩
        replace h := h x11 ex11
        refine zx_iinc (v := x11) (lv' := [(2, .int x11), (0, .ref (g 223)), (1, .int x_1)]) C dX10_meetOther_190 2 rfl (by rw [ex11]; rfl) (by decide) rfl ?_
        refine zx_goto C 62 dX10_meetOther_193 (by decide) ?_
        refine zx_lv (lv' := [(0, .ref (g 223)), (1, .int x_1), (2, .int x11)]) [1, 2, 0] rfl ?_
        exact ih x_1 x11 σ10 h
      · replace h := h.2 q
        refine zx_iload_n C dX10_meetOther_92 1 rfl ?_
        refine zx_aload_n C dX10_meetOther_93 0 rfl ?_
        refine zx_getR C zs_223 fg_X10_59 rfl 240 rfl dX10_meetOther_94 ?_
        refine zx_iload_n C dX10_meetOther_97 2 rfl ?_
        obtain ⟨bd12, h⟩ := h
        refine zx_iald C (x_2).toNatClampNeg zs_240 bd12 rfl dX10_meetOther_98 ?_
        refine zx_iconst (v := (-1 : Int32)) C dX10_meetOther_99 (by decide) ?_
        refine zx_icmp_eq C 112 dX10_meetOther_100 (by decide) (fun q => ?_) (fun q => ?_)
        · replace h := h.1 q
          refine zx_iconst (v := (0 : Int32)) C dX10_meetOther_112 (by decide) ?_
          refine zx_iadd C dX10_meetOther_113 ?_
          refine zx_topi (fun x13 ex13 => ?_)
          replace h := h x13 ex13
          refine zx_istore_n (lv' := [(3, .int x13), (0, .ref (g 223)), (1, .int x_1), (2, .int x_2)]) C dX10_meetOther_114 (by decide) rfl ?_
          refine zx_aload_n C dX10_meetOther_115 1 rfl ?_
          refine zx_getR C zs_223 fg_X10_79 rfl 246 rfl dX10_meetOther_116 ?_
          refine zx_iload_n C dX10_meetOther_119 3 rfl ?_
          refine zx_aload_n C dX10_meetOther_120 1 rfl ?_
          refine zx_iload_n C dX10_meetOther_121 3 rfl ?_
          refine zx_iload_n C dX10_meetOther_122 0 rfl ?_
          refine zx_cVi C [.int x_2, .int x13] lk_X10_374 (c_X10_waitAt l D cy g x_2 x13  σ10 h) zs_223 rfl ⟨by decide, by decide⟩ ⟨rfl, rfl⟩ ⟨Nat.zero_le _, Nat.zero_le _⟩ rfl rfl (Nat.le_of_ble_eq_true rfl) dX10_meetOther_123 (fun r15 σ14 h => ?_)
          obtain ⟨bd16, h⟩ := h
          refine zx_iast C (x_2).toNatClampNeg zs_246 bd16 rfl dX10_meetOther_126 ?_
          refine zx_sig (fun σ17 eσ17 => ?_)
          replace h := h σ17 eσ17
          refine zx_iload_n C dX10_meetOther_127 0 rfl ?_
          refine zx_aload_n C dX10_meetOther_128 1 rfl ?_
          refine zx_getR C zs_223 fg_X10_79 rfl 246 rfl dX10_meetOther_129 ?_
          refine zx_iload_n C dX10_meetOther_132 3 rfl ?_
          obtain ⟨bd18, h⟩ := h
          refine zx_iald C (x_2).toNatClampNeg zs_246 bd18 rfl dX10_meetOther_133 ?_
          refine zx_iadd C dX10_meetOther_134 ?_
          refine zx_topi (fun x19 ex19 => ?_)
          replace h := h x19 ex19
          refine zx_istore (lv' := [(4, .int x19), (3, .int x13), (0, .ref (g 223)), (1, .int x_1), (2, .int x_2)]) C dX10_meetOther_135 (by decide) rfl ?_
          refine zx_iload C dX10_meetOther_137 0 rfl ?_
          refine zx_aload_n C dX10_meetOther_139 2 rfl ?_
          refine zx_getR C zs_223 fg_X10_47 rfl 236 rfl dX10_meetOther_140 ?_
          refine zx_iload_n C dX10_meetOther_143 4 rfl ?_
          obtain ⟨bd20, h⟩ := h
          refine zx_iald C (x_2).toNatClampNeg zs_236 bd20 rfl dX10_meetOther_144 ?_
          refine zx_iadd C dX10_meetOther_145 ?_
          refine zx_topi (fun x21 ex21 => ?_)
          replace h := h x21 ex21
          refine zx_istore_n (lv' := [(1, .int x21), (4, .int x19), (3, .int x13), (0, .ref (g 223)), (2, .int x_2)]) C dX10_meetOther_146 (by decide) rfl ?_
          refine zx_aload_n C dX10_meetOther_147 3 rfl ?_
          refine zx_aload_n C dX10_meetOther_148 3 rfl ?_
          refine zx_getI C zs_223 fg_X10_371 rfl dX10_meetOther_149 ?_
          refine zx_iconst (v := (-1 : Int32)) C dX10_meetOther_152 (by decide) ?_
          refine zx_icmp_ne C 183 dX10_meetOther_153 (by decide) (fun q => ?_) (fun q => ?_)
          · replace h := h.1 q
            refine zx_aload_n C dX10_meetOther_183 3 rfl ?_
            refine zx_getI C zs_223 fg_X10_371 rfl dX10_meetOther_184 ?_
            refine zx_putI C zs_223 fp_X10_371 rfl dX10_meetOther_187 ?_
            refine zx_sig (fun σ22 eσ22 => ?_)
            replace h := h σ22 eσ22
            obtain ⟨x23, ex23⟩ : ∃ y : Int32, y = (x_2 + (1 : Int32)) := ⟨_, rfl⟩
            replace h := h x23 ex23
            refine zx_iinc (v := x23) (lv' := [(2, .int x23), (1, .int x21), (4, .int x19), (3, .int x13), (0, .ref (g 223))]) C dX10_meetOther_190 4 rfl (by rw [ex23]; rfl) (by decide) rfl ?_
            refine zx_goto C 62 dX10_meetOther_193 (by decide) ?_
            refine zx_lv (lv' := [(0, .ref (g 223)), (1, .int x21), (2, .int x23)]) [4, 1, 0] rfl ?_
            exact ih x21 x23 σ22 h
          · replace h := h.2 q
            refine zx_iload C dX10_meetOther_156 1 rfl ?_
            refine zx_aload_n C dX10_meetOther_158 3 rfl ?_
            refine zx_getR C zs_223 fg_X10_82 rfl 247 rfl dX10_meetOther_159 ?_
            refine zx_iload_n C dX10_meetOther_162 4 rfl ?_
            obtain ⟨bd24, h⟩ := h
            refine zx_iald C (x_2).toNatClampNeg zs_247 bd24 rfl dX10_meetOther_163 ?_
            refine zx_icmp_ge C 183 dX10_meetOther_164 (by decide) (fun q => ?_) (fun q => ?_)
            · replace h := h.1 q
              refine zx_aload_n C dX10_meetOther_183 3 rfl ?_
              refine zx_getI C zs_223 fg_X10_371 rfl dX10_meetOther_184 ?_
              refine zx_putI C zs_223 fp_X10_371 rfl dX10_meetOther_187 ?_
              refine zx_sig (fun σ25 eσ25 => ?_)
              replace h := h σ25 eσ25
              obtain ⟨x26, ex26⟩ : ∃ y : Int32, y = (x_2 + (1 : Int32)) := ⟨_, rfl⟩
              replace h := h x26 ex26
              refine zx_iinc (v := x26) (lv' := [(2, .int x26), (1, .int x21), (4, .int x19), (3, .int x13), (0, .ref (g 223))]) C dX10_meetOther_190 4 rfl (by rw [ex26]; rfl) (by decide) rfl ?_
              refine zx_goto C 62 dX10_meetOther_193 (by decide) ?_
              refine zx_lv (lv' := [(0, .ref (g 223)), (1, .int x21), (2, .int x26)]) [4, 1, 0] rfl ?_
              exact ih x21 x26 σ25 h
            · replace h := h.2 q
              refine zx_aload_n C dX10_meetOther_167 3 rfl ?_
              refine zx_getR C zs_223 fg_X10_82 rfl 247 rfl dX10_meetOther_168 ?_
              refine zx_iload_n C dX10_meetOther_171 4 rfl ?_
              refine zx_iconst (v := (1 : Int32)) C dX10_meetOther_172 (by decide) ?_
              refine zx_iadd C dX10_meetOther_173 ?_
              obtain ⟨bd27, h⟩ := h
              refine zx_iald C ((x_2 + (1 : Int32))).toNatClampNeg zs_247 bd27 rfl dX10_meetOther_174 ?_
              refine zx_iload_n C dX10_meetOther_175 0 rfl ?_
              refine zx_icmp_ge C 183 dX10_meetOther_176 (by decide) (fun q => ?_) (fun q => ?_)
              · replace h := h.1 q
                refine zx_aload_n C dX10_meetOther_183 3 rfl ?_
                refine zx_getI C zs_223 fg_X10_371 rfl dX10_meetOther_184 ?_
                refine zx_putI C zs_223 fp_X10_371 rfl dX10_meetOther_187 ?_
                refine zx_sig (fun σ28 eσ28 => ?_)
                replace h := h σ28 eσ28
                obtain ⟨x29, ex29⟩ : ∃ y : Int32, y = (x_2 + (1 : Int32)) := ⟨_, rfl⟩
                replace h := h x29 ex29
                refine zx_iinc (v := x29) (lv' := [(2, .int x29), (1, .int x21), (4, .int x19), (3, .int x13), (0, .ref (g 223))]) C dX10_meetOther_190 4 rfl (by rw [ex29]; rfl) (by decide) rfl ?_
                refine zx_goto C 62 dX10_meetOther_193 (by decide) ?_
                refine zx_lv (lv' := [(0, .ref (g 223)), (1, .int x21), (2, .int x29)]) [4, 1, 0] rfl ?_
                exact ih x21 x29 σ28 h
              · replace h := h.2 q
                refine zx_iload_n C dX10_meetOther_179 4 rfl ?_
                refine zx_goto C 187 dX10_meetOther_180 (by decide) ?_
                refine zx_putI C zs_223 fp_X10_371 rfl dX10_meetOther_187 ?_
                refine zx_sig (fun σ30 eσ30 => ?_)
                replace h := h σ30 eσ30
                obtain ⟨x31, ex31⟩ : ∃ y : Int32, y = (x_2 + (1 : Int32)) := ⟨_, rfl⟩
                replace h := h x31 ex31
                refine zx_iinc (v := x31) (lv' := [(2, .int x31), (1, .int x21), (4, .int x19), (3, .int x13), (0, .ref (g 223))]) C dX10_meetOther_190 4 rfl (by rw [ex31]; rfl) (by decide) rfl ?_
                refine zx_goto C 62 dX10_meetOther_193 (by decide) ?_
                refine zx_lv (lv' := [(0, .ref (g 223)), (1, .int x21), (2, .int x31)]) [4, 1, 0] rfl ?_
                exact ih x21 x31 σ30 h
        · replace h := h.2 q
          refine zx_aload_n C dX10_meetOther_103 0 rfl ?_
          refine zx_getR C zs_223 fg_X10_50 rfl 237 rfl dX10_meetOther_104 ?_
          refine zx_iload_n C dX10_meetOther_107 2 rfl ?_
          obtain ⟨bd32, h⟩ := h
          refine zx_iald C (x_2).toNatClampNeg zs_237 bd32 rfl dX10_meetOther_108 ?_
          refine zx_goto C 113 dX10_meetOther_109 (by decide) ?_
          refine zx_iadd C dX10_meetOther_113 ?_
          refine zx_topi (fun x33 ex33 => ?_)
          replace h := h x33 ex33
          refine zx_istore_n (lv' := [(3, .int x33), (0, .ref (g 223)), (1, .int x_1), (2, .int x_2)]) C dX10_meetOther_114 (by decide) rfl ?_
          refine zx_aload_n C dX10_meetOther_115 1 rfl ?_
          refine zx_getR C zs_223 fg_X10_79 rfl 246 rfl dX10_meetOther_116 ?_
          refine zx_iload_n C dX10_meetOther_119 3 rfl ?_
          refine zx_aload_n C dX10_meetOther_120 1 rfl ?_
          refine zx_iload_n C dX10_meetOther_121 3 rfl ?_
          refine zx_iload_n C dX10_meetOther_122 0 rfl ?_
          refine zx_cVi C [.int x_2, .int x33] lk_X10_374 (c_X10_waitAt l D cy g x_2 x33  σ10 h) zs_223 rfl ⟨by decide, by decide⟩ ⟨rfl, rfl⟩ ⟨Nat.zero_le _, Nat.zero_le _⟩ rfl rfl (Nat.le_of_ble_eq_true rfl) dX10_meetOther_123 (fun r35 σ34 h => ?_)
          obtain ⟨bd36, h⟩ := h
          refine zx_iast C (x_2).toNatClampNeg zs_246 bd36 rfl dX10_meetOther_126 ?_
          refine zx_sig (fun σ37 eσ37 => ?_)
          replace h := h σ37 eσ37
          refine zx_iload_n C dX10_meetOther_127 0 rfl ?_
          refine zx_aload_n C dX10_meetOther_128 1 rfl ?_
          refine zx_getR C zs_223 fg_X10_79 rfl 246 rfl dX10_meetOther_129 ?_
          refine zx_iload_n C dX10_meetOther_132 3 rfl ?_
          obtain ⟨bd38, h⟩ := h
          refine zx_iald C (x_2).toNatClampNeg zs_246 bd38 rfl dX10_meetOther_133 ?_
          refine zx_iadd C dX10_meetOther_134 ?_
          refine zx_topi (fun x39 ex39 => ?_)
          replace h := h x39 ex39
          refine zx_istore (lv' := [(4, .int x39), (3, .int x33), (0, .ref (g 223)), (1, .int x_1), (2, .int x_2)]) C dX10_meetOther_135 (by decide) rfl ?_
          refine zx_iload C dX10_meetOther_137 0 rfl ?_
          refine zx_aload_n C dX10_meetOther_139 2 rfl ?_
          refine zx_getR C zs_223 fg_X10_47 rfl 236 rfl dX10_meetOther_140 ?_
          refine zx_iload_n C dX10_meetOther_143 4 rfl ?_
          obtain ⟨bd40, h⟩ := h
          refine zx_iald C (x_2).toNatClampNeg zs_236 bd40 rfl dX10_meetOther_144 ?_
          refine zx_iadd C dX10_meetOther_145 ?_
          refine zx_topi (fun x41 ex41 => ?_)
          replace h := h x41 ex41
          refine zx_istore_n (lv' := [(1, .int x41), (4, .int x39), (3, .int x33), (0, .ref (g 223)), (2, .int x_2)]) C dX10_meetOther_146 (by decide) rfl ?_
          refine zx_aload_n C dX10_meetOther_147 3 rfl ?_
          refine zx_aload_n C dX10_meetOther_148 3 rfl ?_
          refine zx_getI C zs_223 fg_X10_371 rfl dX10_meetOther_149 ?_
          refine zx_iconst (v := (-1 : Int32)) C dX10_meetOther_152 (by decide) ?_
          refine zx_icmp_ne C 183 dX10_meetOther_153 (by decide) (fun q => ?_) (fun q => ?_)
          · replace h := h.1 q
            refine zx_aload_n C dX10_meetOther_183 3 rfl ?_
            refine zx_getI C zs_223 fg_X10_371 rfl dX10_meetOther_184 ?_
            refine zx_putI C zs_223 fp_X10_371 rfl dX10_meetOther_187 ?_
            refine zx_sig (fun σ42 eσ42 => ?_)
            replace h := h σ42 eσ42
            obtain ⟨x43, ex43⟩ : ∃ y : Int32, y = (x_2 + (1 : Int32)) := ⟨_, rfl⟩
            replace h := h x43 ex43
            refine zx_iinc (v := x43) (lv' := [(2, .int x43), (1, .int x41), (4, .int x39), (3, .int x33), (0, .ref (g 223))]) C dX10_meetOther_190 4 rfl (by rw [ex43]; rfl) (by decide) rfl ?_
            refine zx_goto C 62 dX10_meetOther_193 (by decide) ?_
            refine zx_lv (lv' := [(0, .ref (g 223)), (1, .int x41), (2, .int x43)]) [4, 1, 0] rfl ?_
            exact ih x41 x43 σ42 h
          · replace h := h.2 q
            refine zx_iload C dX10_meetOther_156 1 rfl ?_
            refine zx_aload_n C dX10_meetOther_158 3 rfl ?_
            refine zx_getR C zs_223 fg_X10_82 rfl 247 rfl dX10_meetOther_159 ?_
            refine zx_iload_n C dX10_meetOther_162 4 rfl ?_
            obtain ⟨bd44, h⟩ := h
            refine zx_iald C (x_2).toNatClampNeg zs_247 bd44 rfl dX10_meetOther_163 ?_
            refine zx_icmp_ge C 183 dX10_meetOther_164 (by decide) (fun q => ?_) (fun q => ?_)
            · replace h := h.1 q
              refine zx_aload_n C dX10_meetOther_183 3 rfl ?_
              refine zx_getI C zs_223 fg_X10_371 rfl dX10_meetOther_184 ?_
              refine zx_putI C zs_223 fp_X10_371 rfl dX10_meetOther_187 ?_
              refine zx_sig (fun σ45 eσ45 => ?_)
              replace h := h σ45 eσ45
              obtain ⟨x46, ex46⟩ : ∃ y : Int32, y = (x_2 + (1 : Int32)) := ⟨_, rfl⟩
              replace h := h x46 ex46
              refine zx_iinc (v := x46) (lv' := [(2, .int x46), (1, .int x41), (4, .int x39), (3, .int x33), (0, .ref (g 223))]) C dX10_meetOther_190 4 rfl (by rw [ex46]; rfl) (by decide) rfl ?_
              refine zx_goto C 62 dX10_meetOther_193 (by decide) ?_
              refine zx_lv (lv' := [(0, .ref (g 223)), (1, .int x41), (2, .int x46)]) [4, 1, 0] rfl ?_
              exact ih x41 x46 σ45 h
            · replace h := h.2 q
              refine zx_aload_n C dX10_meetOther_167 3 rfl ?_
              refine zx_getR C zs_223 fg_X10_82 rfl 247 rfl dX10_meetOther_168 ?_
              refine zx_iload_n C dX10_meetOther_171 4 rfl ?_
              refine zx_iconst (v := (1 : Int32)) C dX10_meetOther_172 (by decide) ?_
              refine zx_iadd C dX10_meetOther_173 ?_
              obtain ⟨bd47, h⟩ := h
              refine zx_iald C ((x_2 + (1 : Int32))).toNatClampNeg zs_247 bd47 rfl dX10_meetOther_174 ?_
              refine zx_iload_n C dX10_meetOther_175 0 rfl ?_
              refine zx_icmp_ge C 183 dX10_meetOther_176 (by decide) (fun q => ?_) (fun q => ?_)
              · replace h := h.1 q
                refine zx_aload_n C dX10_meetOther_183 3 rfl ?_
                refine zx_getI C zs_223 fg_X10_371 rfl dX10_meetOther_184 ?_
                refine zx_putI C zs_223 fp_X10_371 rfl dX10_meetOther_187 ?_
                refine zx_sig (fun σ48 eσ48 => ?_)
                replace h := h σ48 eσ48
                obtain ⟨x49, ex49⟩ : ∃ y : Int32, y = (x_2 + (1 : Int32)) := ⟨_, rfl⟩
                replace h := h x49 ex49
                refine zx_iinc (v := x49) (lv' := [(2, .int x49), (1, .int x41), (4, .int x39), (3, .int x33), (0, .ref (g 223))]) C dX10_meetOther_190 4 rfl (by rw [ex49]; rfl) (by decide) rfl ?_
                refine zx_goto C 62 dX10_meetOther_193 (by decide) ?_
                refine zx_lv (lv' := [(0, .ref (g 223)), (1, .int x41), (2, .int x49)]) [4, 1, 0] rfl ?_
                exact ih x41 x49 σ48 h
              · replace h := h.2 q
                refine zx_iload_n C dX10_meetOther_179 4 rfl ?_
                refine zx_goto C 187 dX10_meetOther_180 (by decide) ?_
                refine zx_putI C zs_223 fp_X10_371 rfl dX10_meetOther_187 ?_
                refine zx_sig (fun σ50 eσ50 => ?_)
                replace h := h σ50 eσ50
                obtain ⟨x51, ex51⟩ : ∃ y : Int32, y = (x_2 + (1 : Int32)) := ⟨_, rfl⟩
                replace h := h x51 ex51
                refine zx_iinc (v := x51) (lv' := [(2, .int x51), (1, .int x41), (4, .int x39), (3, .int x33), (0, .ref (g 223))]) C dX10_meetOther_190 4 rfl (by rw [ex51]; rfl) (by decide) rfl ?_
                refine zx_goto C 62 dX10_meetOther_193 (by decide) ?_
                refine zx_lv (lv' := [(0, .ref (g 223)), (1, .int x41), (2, .int x51)]) [4, 1, 0] rfl ?_
                exact ih x41 x51 σ50 h
set_option maxRecDepth 100000 in
set_option maxHeartbeats 4000000 in
theorem k_X10_meetOther_22 {p : Program} {l : Launch} {e : Env} {s : State} {m : MethodId} {args : Array Value} {below : List Frame} {meth : Method} {c : Code} {D : va_G} {cy : Nat → ClassId} {g : Nat → Nat} (C : zC p s m args meth c cX10_meetOther RX10 5 D cy g) (hr : meth.sig.returnType = none) {P : zSto → Prop}     : ∀ (n : Nat) (x_1 : Int32) (σ : zSto), w_X10_meetOther_22 P n x_1 σ → zX p l e (zrm 4 90) s m args below meth c 0 0 (zQv P below args s D cy g) 5 D cy g 22 [(0, .ref (g 223)), (1, .int x_1)] [] σ := by
  intro n
  induction n with
  | zero => intro x_1 σ h; exact h.elim
  | succ n ih =>
    intro x_1 σ h
    unfold w_X10_meetOther_22 at h
    refine zx_iload_n C dX10_meetOther_22 1 rfl ?_
    refine zx_if_lt C 53 dX10_meetOther_23 (by decide) (fun q => ?_) (fun q => ?_)
    · replace h := h.1 q
      refine zx_aload_n C dX10_meetOther_53 0 rfl ?_
      refine zx_iconst (v := (-1 : Int32)) C dX10_meetOther_54 (by decide) ?_
      refine zx_putI C zs_223 fp_X10_371 rfl dX10_meetOther_55 ?_
      refine zx_sig (fun σ6 eσ6 => ?_)
      replace h := h σ6 eσ6
      refine zx_iconst (v := (0 : Int32)) C dX10_meetOther_58 (by decide) ?_
      refine zx_istore_n (lv' := [(1, .int (0 : Int32)), (0, .ref (g 223))]) C dX10_meetOther_59 (by decide) rfl ?_
      refine zx_iconst (v := (0 : Int32)) C dX10_meetOther_60 (by decide) ?_
      refine zx_istore_n (lv' := [(2, .int (0 : Int32)), (1, .int (0 : Int32)), (0, .ref (g 223))]) C dX10_meetOther_61 (by decide) rfl ?_
      obtain ⟨n2, h⟩ := h
      refine zx_lv (lv' := [(0, .ref (g 223)), (1, .int (0 : Int32)), (2, .int (0 : Int32))]) [2, 1, 0] rfl ?_
      exact k_X10_meetOther_62 C hr    n2 (0 : Int32) (0 : Int32) σ6 h
    · replace h := h.2 q
      refine zx_aload_n C dX10_meetOther_26 0 rfl ?_
      refine zx_getR C zs_223 fg_X10_82 rfl 247 rfl dX10_meetOther_27 ?_
      refine zx_iload_n C dX10_meetOther_30 1 rfl ?_
      refine zx_aload_n C dX10_meetOther_31 0 rfl ?_
      refine zx_getR C zs_223 fg_X10_82 rfl 247 rfl dX10_meetOther_32 ?_
      refine zx_iload_n C dX10_meetOther_35 1 rfl ?_
      refine zx_iconst (v := (1 : Int32)) C dX10_meetOther_36 (by decide) ?_
      refine zx_iadd C dX10_meetOther_37 ?_
      obtain ⟨bd52, h⟩ := h
      refine zx_iald C ((x_1 + (1 : Int32))).toNatClampNeg zs_247 bd52 rfl dX10_meetOther_38 ?_
      refine zx_aload_n C dX10_meetOther_39 0 rfl ?_
      refine zx_getR C zs_223 fg_X10_47 rfl 236 rfl dX10_meetOther_40 ?_
      refine zx_iload_n C dX10_meetOther_43 1 rfl ?_
      obtain ⟨bd53, h⟩ := h
      refine zx_iald C (x_1).toNatClampNeg zs_236 bd53 rfl dX10_meetOther_44 ?_
      refine zx_iadd C dX10_meetOther_45 ?_
      obtain ⟨bd54, h⟩ := h
      refine zx_iast C (x_1).toNatClampNeg zs_247 bd54 rfl dX10_meetOther_46 ?_
      refine zx_sig (fun σ55 eσ55 => ?_)
      replace h := h σ55 eσ55
      obtain ⟨x56, ex56⟩ : ∃ y : Int32, y = (x_1 + (-1 : Int32)) := ⟨_, rfl⟩
      replace h := h x56 ex56
      refine zx_iinc (v := x56) (lv' := [(1, .int x56), (0, .ref (g 223))]) C dX10_meetOther_47 1 rfl (by rw [ex56]; rfl) (by decide) rfl ?_
      refine zx_goto C 22 dX10_meetOther_50 (by decide) ?_
      refine zx_lv (lv' := [(0, .ref (g 223)), (1, .int x56)]) [1, 0] rfl ?_
      exact ih x56 σ55 h
set_option maxRecDepth 100000 in
set_option maxHeartbeats 4000000 in
theorem c_X10_meetOther (l : Launch) (D : va_G) (cy : Nat → ClassId) (g : Nat → Nat)   (σ : zSto) {P : zSto → Prop} (h : w_X10_meetOther  σ P) : zMv l yX10_meetOther cX10_meetOther 5 none (zrm 4 90) D cy g [.ref (g 223)] σ P := by
  unfold w_X10_meetOther at h
  refine zm_v RX10 rfl (by decide +kernel) (Nat.le_of_ble_eq_true rfl) ?_
  intro p e s m below meth c C hr
  refine zx_lv (lv' := [(0, .ref (g 223))]) [0] rfl ?_
  refine zx_aload_n C dX10_meetOther_0 0 rfl ?_
  refine zx_getR C zs_223 fg_X10_82 rfl 247 rfl dX10_meetOther_1 ?_
  refine zx_aload_n C dX10_meetOther_4 0 rfl ?_
  refine zx_getI C zs_223 fg_X10_248 rfl dX10_meetOther_5 ?_
  refine zx_aload_n C dX10_meetOther_8 0 rfl ?_
  refine zx_bipush (v := (6 : Int32)) C dX10_meetOther_9 (by decide) ?_
  refine zx_cVi C [.int (6 : Int32)] lk_X10_238 (c_X10_of l D cy g (6 : Int32)  σ h) zs_223 rfl ⟨by decide, by decide⟩ ⟨rfl, rfl⟩ ⟨Nat.zero_le _, Nat.zero_le _⟩ rfl rfl (Nat.le_of_ble_eq_true rfl) dX10_meetOther_11 (fun r2 σ1 h => ?_)
  obtain ⟨bd3, h⟩ := h
  refine zx_iast C ((σ.1 223 25)).toNatClampNeg zs_247 bd3 rfl dX10_meetOther_14 ?_
  refine zx_sig (fun σ4 eσ4 => ?_)
  replace h := h σ4 eσ4
  refine zx_aload_n C dX10_meetOther_15 0 rfl ?_
  refine zx_getI C zs_223 fg_X10_248 rfl dX10_meetOther_16 ?_
  refine zx_iconst (v := (1 : Int32)) C dX10_meetOther_19 (by decide) ?_
  refine zx_isub C dX10_meetOther_20 ?_
  refine zx_topi (fun x5 ex5 => ?_)
  replace h := h x5 ex5
  refine zx_istore_n (lv' := [(1, .int x5), (0, .ref (g 223))]) C dX10_meetOther_21 (by decide) rfl ?_
  obtain ⟨n, h⟩ := h
  refine zx_lv (lv' := [(0, .ref (g 223)), (1, .int x5)]) [1, 0] rfl ?_
  exact k_X10_meetOther_22 C hr    n x5 σ4 h
theorem lk_X10_377 : zLV RX10 377 RX10 yX10_meetOther cX10_meetOther 5 none 0 := zLV_of ml_X10_377 im_X10_meetOther se_X10_meetOther ini_X10 cd_X10_meetOther (by decide +kernel)
def w_X10_meet_99 (x_5 : Int32) (P : Int32 → zSto → Prop)  : Nat → Int32 → Int32 → zSto → Prop
  | 0, _, _, _ => False
  | n + 1, x_6, x_7, σ => (((σ.1 223 24) ≤ x_7 → ((¬ x_5 = 0 → ((¬ x_5 = (1 : Int32) → ((¬ x_5 = (2 : Int32) → P (-2 : Int32) σ) ∧ (x_5 = (2 : Int32) → P (σ.1 223 43) σ))) ∧ (x_5 = (1 : Int32) → P x_6 σ))) ∧ (x_5 = 0 → (vp_in (σ.1 223 25) 16 ∧ P (σ.1 239 ((σ.1 223 25)).toNatClampNeg) σ)))) ∧ (¬ (σ.1 223 24) ≤ x_7 → (vp_in x_7 16 ∧ (∀ x13 : Int32, x13 = (x_6 + (σ.1 246 (x_7).toNatClampNeg)) → (∀ x14 : Int32, x14 = (x_7 + (1 : Int32)) → w_X10_meet_99 x_5 P n x13 x14 σ)))))
def w_X10_meet (a1 : Int32) (a2 : Int32) (a3 : Int32) (a4 : Int32) (a5 : Int32) (σ : zSto) (P : Int32 → zSto → Prop) : Prop := (∀ σ1 : zSto, σ1 = zI σ 223 0 (0 : Int32) → (w_X10_layRun a1 a2 a3 a4 σ1 (fun (r3 : Int32) (σ2 : zSto) => (r3 = 0 ∨ r3 = 1) → ((r3 = 0 → P (-2 : Int32) σ2) ∧ (¬ r3 = 0 → (w_X10_of (6 : Int32) σ2 (fun (r5 : Int32) (σ4 : zSto) => ((¬ r5 = (-1 : Int32) → (w_X10_meetOther  σ4 (fun (σ6 : zSto) => (w_X10_in a5 (100 : Int32) ((100 : Int32) + (σ6.1 223 25)) σ6 (fun (r8 : Int32) (σ7 : zSto) => (r8 = 0 ∨ r8 = 1) → ((r8 = 0 → (w_X10_in a5 (200 : Int32) ((200 : Int32) + (σ7.1 223 25)) σ7 (fun (r10 : Int32) (σ9 : zSto) => (r10 = 0 ∨ r10 = 1) → ((r10 = 0 → (∃ n : Nat, w_X10_meet_99 a5 P  n (0 : Int32) (0 : Int32) σ9)) ∧ (¬ r10 = 0 → (vp_in (a5 - (200 : Int32)) 16 ∧ P (σ9.1 246 ((a5 - (200 : Int32))).toNatClampNeg) σ9)))))) ∧ (¬ r8 = 0 → (vp_in (a5 - (100 : Int32)) 16 ∧ P (σ7.1 239 ((a5 - (100 : Int32))).toNatClampNeg) σ7)))))))) ∧ (r5 = (-1 : Int32) → P (-2 : Int32) σ4)))))))))
set_option maxRecDepth 100000 in
set_option maxHeartbeats 4000000 in
theorem k_X10_meet_99 {p : Program} {l : Launch} {e : Env} {s : State} {m : MethodId} {args : Array Value} {below : List Frame} {meth : Method} {c : Code} {D : va_G} {cy : Nat → ClassId} {g : Nat → Nat} (C : zC p s m args meth c cX10_meet RX10 8 D cy g) (hr : meth.sig.returnType = (some .int)) {P : Int32 → zSto → Prop} (x_5 : Int32)    : ∀ (n : Nat) (x_6 : Int32) (x_7 : Int32) (σ : zSto), w_X10_meet_99 x_5 P n x_6 x_7 σ → zX p l e (zrm 7 163) s m args below meth c 0 0 (zQi P below args s D cy g) 8 D cy g 99 [(0, .ref (g 223)), (5, .int x_5), (6, .int x_6), (7, .int x_7)] [] σ := by
  intro n
  induction n with
  | zero => intro x_6 x_7 σ h; exact h.elim
  | succ n ih =>
    intro x_6 x_7 σ h
    unfold w_X10_meet_99 at h
    refine zx_iload C dX10_meet_99 3 rfl ?_
    refine zx_aload_n C dX10_meet_101 0 rfl ?_
    refine zx_getI C zs_223 fg_X10_245 rfl dX10_meet_102 ?_
    refine zx_icmp_ge C 126 dX10_meet_105 (by decide) (fun q => ?_) (fun q => ?_)
    · replace h := h.1 q
      refine zx_iload C dX10_meet_126 1 rfl ?_
      refine zx_if_ne C 143 dX10_meet_128 (by decide) (fun q => ?_) (fun q => ?_)
      · replace h := h.1 q
        refine zx_iload C dX10_meet_143 1 rfl ?_
        refine zx_iconst (v := (1 : Int32)) C dX10_meet_145 (by decide) ?_
        refine zx_icmp_ne C 154 dX10_meet_146 (by decide) (fun q => ?_) (fun q => ?_)
        · replace h := h.1 q
          refine zx_iload C dX10_meet_154 1 rfl ?_
          refine zx_iconst (v := (2 : Int32)) C dX10_meet_156 (by decide) ?_
          refine zx_icmp_ne C 167 dX10_meet_157 (by decide) (fun q => ?_) (fun q => ?_)
          · replace h := h.1 q
            refine zx_bipush (v := (-2 : Int32)) C dX10_meet_167 (by decide) ?_
            exact zx_iret C hr dX10_meet_169 h
          · replace h := h.2 q
            refine zx_aload_n C dX10_meet_160 0 rfl ?_
            refine zx_getI C zs_223 fg_X10_371 rfl dX10_meet_161 ?_
            refine zx_goto C 169 dX10_meet_164 (by decide) ?_
            exact zx_iret C hr dX10_meet_169 h
        · replace h := h.2 q
          refine zx_iload C dX10_meet_149 2 rfl ?_
          refine zx_goto C 169 dX10_meet_151 (by decide) ?_
          exact zx_iret C hr dX10_meet_169 h
      · replace h := h.2 q
        refine zx_aload_n C dX10_meet_131 0 rfl ?_
        refine zx_getR C zs_223 fg_X10_56 rfl 239 rfl dX10_meet_132 ?_
        refine zx_aload_n C dX10_meet_135 0 rfl ?_
        refine zx_getI C zs_223 fg_X10_248 rfl dX10_meet_136 ?_
        obtain ⟨bd11, h⟩ := h
        refine zx_iald C ((σ.1 223 25)).toNatClampNeg zs_239 bd11 rfl dX10_meet_139 ?_
        refine zx_goto C 169 dX10_meet_140 (by decide) ?_
        exact zx_iret C hr dX10_meet_169 h
    · replace h := h.2 q
      refine zx_iload C dX10_meet_108 2 rfl ?_
      refine zx_aload_n C dX10_meet_110 0 rfl ?_
      refine zx_getR C zs_223 fg_X10_79 rfl 246 rfl dX10_meet_111 ?_
      refine zx_iload C dX10_meet_114 3 rfl ?_
      obtain ⟨bd12, h⟩ := h
      refine zx_iald C (x_7).toNatClampNeg zs_246 bd12 rfl dX10_meet_116 ?_
      refine zx_iadd C dX10_meet_117 ?_
      refine zx_topi (fun x13 ex13 => ?_)
      replace h := h x13 ex13
      refine zx_istore (lv' := [(6, .int x13), (0, .ref (g 223)), (5, .int x_5), (7, .int x_7)]) C dX10_meet_118 (by decide) rfl ?_
      obtain ⟨x14, ex14⟩ : ∃ y : Int32, y = (x_7 + (1 : Int32)) := ⟨_, rfl⟩
      replace h := h x14 ex14
      refine zx_iinc (v := x14) (lv' := [(7, .int x14), (6, .int x13), (0, .ref (g 223)), (5, .int x_5)]) C dX10_meet_120 3 rfl (by rw [ex14]; rfl) (by decide) rfl ?_
      refine zx_goto C 99 dX10_meet_123 (by decide) ?_
      refine zx_lv (lv' := [(0, .ref (g 223)), (5, .int x_5), (6, .int x13), (7, .int x14)]) [2, 3, 1, 0] rfl ?_
      exact ih x13 x14 σ h
set_option maxRecDepth 100000 in
set_option maxHeartbeats 4000000 in
theorem c_X10_meet (l : Launch) (D : va_G) (cy : Nat → ClassId) (g : Nat → Nat) (a1 : Int32) (a2 : Int32) (a3 : Int32) (a4 : Int32) (a5 : Int32)  (σ : zSto) {P : Int32 → zSto → Prop} (h : w_X10_meet a1 a2 a3 a4 a5 σ P) : zMi l yX10_meet cX10_meet 8 (some .int) (zrm 7 163) D cy g [.ref (g 223), .int a1, .int a2, .int a3, .int a4, .int a5] σ P := by
  unfold w_X10_meet at h
  refine zm_i RX10 rfl (by decide +kernel) (Nat.le_of_ble_eq_true rfl) ?_
  intro p e s m below meth c C hr
  refine zx_lv (lv' := [(0, .ref (g 223)), (1, .int a1), (2, .int a2), (3, .int a3), (4, .int a4), (5, .int a5)]) [0, 1, 2, 3, 4, 5] rfl ?_
  refine zx_aload_n C dX10_meet_0 0 rfl ?_
  refine zx_iconst (v := (0 : Int32)) C dX10_meet_1 (by decide) ?_
  refine zx_putI C zs_223 fp_X10_91 rfl dX10_meet_2 ?_
  refine zx_sig (fun σ1 eσ1 => ?_)
  replace h := h σ1 eσ1
  refine zx_aload_n C dX10_meet_5 0 rfl ?_
  refine zx_iload_n C dX10_meet_6 1 rfl ?_
  refine zx_iload_n C dX10_meet_7 2 rfl ?_
  refine zx_iload_n C dX10_meet_8 3 rfl ?_
  refine zx_iload C dX10_meet_9 4 rfl ?_
  refine zx_cVb C [.int a1, .int a2, .int a3, .int a4] lk_X10_313 (c_X10_layRun l D cy g a1 a2 a3 a4  σ1 h) zs_223 rfl ⟨by decide, by decide⟩ ⟨rfl, rfl⟩ ⟨Nat.zero_le _, Nat.zero_le _⟩ rfl rfl (Nat.le_of_ble_eq_true rfl) dX10_meet_11 (fun r3 σ2 hb h => ?_)
  replace h := h hb
  refine zx_if_eq C 27 dX10_meet_14 (by decide) (fun q => ?_) (fun q => ?_)
  · replace h := h.1 q
    refine zx_bipush (v := (-2 : Int32)) C dX10_meet_27 (by decide) ?_
    exact zx_iret C hr dX10_meet_29 h
  · replace h := h.2 q
    refine zx_aload_n C dX10_meet_17 0 rfl ?_
    refine zx_bipush (v := (6 : Int32)) C dX10_meet_18 (by decide) ?_
    refine zx_cVi C [.int (6 : Int32)] lk_X10_238 (c_X10_of l D cy g (6 : Int32)  σ2 h) zs_223 rfl ⟨by decide, by decide⟩ ⟨rfl, rfl⟩ ⟨Nat.zero_le _, Nat.zero_le _⟩ rfl rfl (Nat.le_of_ble_eq_true rfl) dX10_meet_20 (fun r5 σ4 h => ?_)
    refine zx_iconst (v := (-1 : Int32)) C dX10_meet_23 (by decide) ?_
    refine zx_icmp_ne C 30 dX10_meet_24 (by decide) (fun q => ?_) (fun q => ?_)
    · replace h := h.1 q
      refine zx_aload_n C dX10_meet_30 0 rfl ?_
      refine zx_cVv C [] lk_X10_377 (c_X10_meetOther l D cy g   σ4 h) zs_223 rfl ⟨by decide, by decide⟩ ⟨rfl, rfl⟩ ⟨Nat.zero_le _, Nat.zero_le _⟩ rfl rfl (Nat.le_of_ble_eq_true rfl) dX10_meet_31 (fun σ6 h => ?_)
      refine zx_iload C dX10_meet_34 5 rfl ?_
      refine zx_bipush (v := (100 : Int32)) C dX10_meet_36 (by decide) ?_
      refine zx_bipush (v := (100 : Int32)) C dX10_meet_38 (by decide) ?_
      refine zx_aload_n C dX10_meet_40 0 rfl ?_
      refine zx_getI C zs_223 fg_X10_248 rfl dX10_meet_41 ?_
      refine zx_iadd C dX10_meet_44 ?_
      refine zx_cSb C [.int a5, .int (100 : Int32), .int ((100 : Int32) + (σ6.1 223 25))] lk_X10_103 (c_X10_in l D cy g a5 (100 : Int32) ((100 : Int32) + (σ6.1 223 25))  σ6 h) ⟨by decide, by decide⟩ ⟨rfl, rfl⟩ ⟨Nat.zero_le _, Nat.zero_le _⟩ rfl rfl (Nat.le_of_ble_eq_true rfl) dX10_meet_45 (fun r8 σ7 hb h => ?_)
      replace h := h hb
      refine zx_if_eq C 62 dX10_meet_48 (by decide) (fun q => ?_) (fun q => ?_)
      · replace h := h.1 q
        refine zx_iload C dX10_meet_62 5 rfl ?_
        refine zx_sipush (v := (200 : Int32)) C dX10_meet_64 (by decide) ?_
        refine zx_sipush (v := (200 : Int32)) C dX10_meet_67 (by decide) ?_
        refine zx_aload_n C dX10_meet_70 0 rfl ?_
        refine zx_getI C zs_223 fg_X10_248 rfl dX10_meet_71 ?_
        refine zx_iadd C dX10_meet_74 ?_
        refine zx_cSb C [.int a5, .int (200 : Int32), .int ((200 : Int32) + (σ7.1 223 25))] lk_X10_103 (c_X10_in l D cy g a5 (200 : Int32) ((200 : Int32) + (σ7.1 223 25))  σ7 h) ⟨by decide, by decide⟩ ⟨rfl, rfl⟩ ⟨Nat.zero_le _, Nat.zero_le _⟩ rfl rfl (Nat.le_of_ble_eq_true rfl) dX10_meet_75 (fun r10 σ9 hb h => ?_)
        replace h := h hb
        refine zx_if_eq C 93 dX10_meet_78 (by decide) (fun q => ?_) (fun q => ?_)
        · replace h := h.1 q
          refine zx_iconst (v := (0 : Int32)) C dX10_meet_93 (by decide) ?_
          refine zx_istore (lv' := [(6, .int (0 : Int32)), (0, .ref (g 223)), (1, .int a1), (2, .int a2), (3, .int a3), (4, .int a4), (5, .int a5)]) C dX10_meet_94 (by decide) rfl ?_
          refine zx_iconst (v := (0 : Int32)) C dX10_meet_96 (by decide) ?_
          refine zx_istore (lv' := [(7, .int (0 : Int32)), (6, .int (0 : Int32)), (0, .ref (g 223)), (1, .int a1), (2, .int a2), (3, .int a3), (4, .int a4), (5, .int a5)]) C dX10_meet_97 (by decide) rfl ?_
          obtain ⟨n, h⟩ := h
          refine zx_lv (lv' := [(0, .ref (g 223)), (5, .int a5), (6, .int (0 : Int32)), (7, .int (0 : Int32))]) [2, 7, 1, 0] rfl ?_
          exact k_X10_meet_99 C hr (a5)   n (0 : Int32) (0 : Int32) σ9 h
        · replace h := h.2 q
          refine zx_aload_n C dX10_meet_81 0 rfl ?_
          refine zx_getR C zs_223 fg_X10_79 rfl 246 rfl dX10_meet_82 ?_
          refine zx_iload C dX10_meet_85 5 rfl ?_
          refine zx_sipush (v := (200 : Int32)) C dX10_meet_87 (by decide) ?_
          refine zx_isub C dX10_meet_90 ?_
          obtain ⟨bd15, h⟩ := h
          refine zx_iald C ((a5 - (200 : Int32))).toNatClampNeg zs_246 bd15 rfl dX10_meet_91 ?_
          exact zx_iret C hr dX10_meet_92 h
      · replace h := h.2 q
        refine zx_aload_n C dX10_meet_51 0 rfl ?_
        refine zx_getR C zs_223 fg_X10_56 rfl 239 rfl dX10_meet_52 ?_
        refine zx_iload C dX10_meet_55 5 rfl ?_
        refine zx_bipush (v := (100 : Int32)) C dX10_meet_57 (by decide) ?_
        refine zx_isub C dX10_meet_59 ?_
        obtain ⟨bd16, h⟩ := h
        refine zx_iald C ((a5 - (100 : Int32))).toNatClampNeg zs_239 bd16 rfl dX10_meet_60 ?_
        exact zx_iret C hr dX10_meet_61 h
    · replace h := h.2 q
      refine zx_bipush (v := (-2 : Int32)) C dX10_meet_27 (by decide) ?_
      exact zx_iret C hr dX10_meet_29 h
theorem fg_X10_380 : zFG RX10 380 10 46 := ⟨RX10, TX10, 50, rfl, lay_X10, by decide, fl_X10_380⟩
def w_X10_pulls  (σ : zSto) (P : Int32 → zSto → Prop) : Prop := (vp_in ((33 : Int32) * (σ.1 223 46)) 264 ∧ P (σ.1 230 (((33 : Int32) * (σ.1 223 46))).toNatClampNeg) σ)
set_option maxRecDepth 100000 in
set_option maxHeartbeats 4000000 in
theorem c_X10_pulls (l : Launch) (D : va_G) (cy : Nat → ClassId) (g : Nat → Nat)   (σ : zSto) {P : Int32 → zSto → Prop} (h : w_X10_pulls  σ P) : zMi l yX10_pulls cX10_pulls 1 (some .int) (zrm 0 0) D cy g [.ref (g 223)] σ P := by
  unfold w_X10_pulls at h
  refine zm_i RX10 rfl (by decide +kernel) (Nat.le_of_ble_eq_true rfl) ?_
  intro p e s m below meth c C hr
  refine zx_lv (lv' := [(0, .ref (g 223))]) [0] rfl ?_
  refine zx_aload_n C dX10_pulls_0 0 rfl ?_
  refine zx_getR C zs_223 fg_X10_29 rfl 230 rfl dX10_pulls_1 ?_
  refine zx_bipush (v := (33 : Int32)) C dX10_pulls_4 (by decide) ?_
  refine zx_aload_n C dX10_pulls_6 0 rfl ?_
  refine zx_getI C zs_223 fg_X10_380 rfl dX10_pulls_7 ?_
  refine zx_imul C dX10_pulls_10 ?_
  obtain ⟨bd1, h⟩ := h
  refine zx_iald C (((33 : Int32) * (σ.1 223 46))).toNatClampNeg zs_230 bd1 rfl dX10_pulls_11 ?_
  exact zx_iret C hr dX10_pulls_12 h
def w_X10_pullOf (a1 : Int32) (a2 : Int32) (σ : zSto) (P : Int32 → zSto → Prop) : Prop := (vp_in (((((33 : Int32) * (σ.1 223 46)) + (1 : Int32)) + ((2 : Int32) * a1)) + a2) 264 ∧ P (σ.1 230 ((((((33 : Int32) * (σ.1 223 46)) + (1 : Int32)) + ((2 : Int32) * a1)) + a2)).toNatClampNeg) σ)
set_option maxRecDepth 100000 in
set_option maxHeartbeats 4000000 in
theorem c_X10_pullOf (l : Launch) (D : va_G) (cy : Nat → ClassId) (g : Nat → Nat) (a1 : Int32) (a2 : Int32)  (σ : zSto) {P : Int32 → zSto → Prop} (h : w_X10_pullOf a1 a2 σ P) : zMi l yX10_pullOf cX10_pullOf 3 (some .int) (zrm 0 0) D cy g [.ref (g 223), .int a1, .int a2] σ P := by
  unfold w_X10_pullOf at h
  refine zm_i RX10 rfl (by decide +kernel) (Nat.le_of_ble_eq_true rfl) ?_
  intro p e s m below meth c C hr
  refine zx_lv (lv' := [(0, .ref (g 223)), (1, .int a1), (2, .int a2)]) [0, 1, 2] rfl ?_
  refine zx_aload_n C dX10_pullOf_0 0 rfl ?_
  refine zx_getR C zs_223 fg_X10_29 rfl 230 rfl dX10_pullOf_1 ?_
  refine zx_bipush (v := (33 : Int32)) C dX10_pullOf_4 (by decide) ?_
  refine zx_aload_n C dX10_pullOf_6 0 rfl ?_
  refine zx_getI C zs_223 fg_X10_380 rfl dX10_pullOf_7 ?_
  refine zx_imul C dX10_pullOf_10 ?_
  refine zx_iconst (v := (1 : Int32)) C dX10_pullOf_11 (by decide) ?_
  refine zx_iadd C dX10_pullOf_12 ?_
  refine zx_iconst (v := (2 : Int32)) C dX10_pullOf_13 (by decide) ?_
  refine zx_iload_n C dX10_pullOf_14 1 rfl ?_
  refine zx_imul C dX10_pullOf_15 ?_
  refine zx_iadd C dX10_pullOf_16 ?_
  refine zx_iload_n C dX10_pullOf_17 2 rfl ?_
  refine zx_iadd C dX10_pullOf_18 ?_
  obtain ⟨bd1, h⟩ := h
  refine zx_iald C ((((((33 : Int32) * (σ.1 223 46)) + (1 : Int32)) + ((2 : Int32) * a1)) + a2)).toNatClampNeg zs_230 bd1 rfl dX10_pullOf_19 ?_
  exact zx_iret C hr dX10_pullOf_20 h
theorem fp_X10_380 : zFP RX10 380 10 46 .int := ⟨RX10, TX10, 50, tyX10, rfl, lay_X10, by decide, fl_X10_380, tyX10_ok, nmX10, rfl, by decide +kernel⟩
def w_X10_hasPlan (a1 : Int32) (σ : zSto) (P : Int32 → zSto → Prop) : Prop := (∀ σ1 : zSto, σ1 = zI σ 223 46 a1 → (w_X10_is (1 : Int32) a1 σ1 (fun (r3 : Int32) (σ2 : zSto) => (r3 = 0 ∨ r3 = 1) → ((r3 = 0 ∨ r3 = 1) ∧ P r3 σ2))))
set_option maxRecDepth 100000 in
set_option maxHeartbeats 4000000 in
theorem c_X10_hasPlan (l : Launch) (D : va_G) (cy : Nat → ClassId) (g : Nat → Nat) (a1 : Int32)  (σ : zSto) {P : Int32 → zSto → Prop} (h : w_X10_hasPlan a1 σ P) : zMb l yX10_hasPlan cX10_hasPlan 2 (some .boolean) (zrm 2 44) D cy g [.ref (g 223), .int a1] σ P := by
  unfold w_X10_hasPlan at h
  refine zm_b RX10 rfl (by decide +kernel) (Nat.le_of_ble_eq_true rfl) ?_
  intro p e s m below meth c C hr
  refine zx_lv (lv' := [(0, .ref (g 223)), (1, .int a1)]) [0, 1] rfl ?_
  refine zx_aload_n C dX10_hasPlan_0 0 rfl ?_
  refine zx_iload_n C dX10_hasPlan_1 1 rfl ?_
  refine zx_putI C zs_223 fp_X10_380 rfl dX10_hasPlan_2 ?_
  refine zx_sig (fun σ1 eσ1 => ?_)
  replace h := h σ1 eσ1
  refine zx_aload_n C dX10_hasPlan_5 0 rfl ?_
  refine zx_iconst (v := (1 : Int32)) C dX10_hasPlan_6 (by decide) ?_
  refine zx_iload_n C dX10_hasPlan_7 1 rfl ?_
  refine zx_cVb C [.int (1 : Int32), .int a1] lk_X10_225 (c_X10_is l D cy g (1 : Int32) a1  σ1 h) zs_223 rfl ⟨by decide, by decide⟩ ⟨rfl, rfl⟩ ⟨Nat.zero_le _, Nat.zero_le _⟩ rfl rfl (Nat.le_of_ble_eq_true rfl) dX10_hasPlan_8 (fun r3 σ2 hb h => ?_)
  replace h := h hb
  exact zx_zret C hr dX10_hasPlan_11 h.1 h.2
theorem lk_X10_383 : zLV RX10 383 RX10 yX10_hasPlan cX10_hasPlan 2 (some .boolean) 1 := zLV_of ml_X10_383 im_X10_hasPlan se_X10_hasPlan ini_X10 cd_X10_hasPlan (by decide +kernel)
theorem lk_X10_386 : zLV RX10 386 RX10 yX10_pulls cX10_pulls 1 (some .int) 0 := zLV_of ml_X10_386 im_X10_pulls se_X10_pulls ini_X10 cd_X10_pulls (by decide +kernel)
theorem lk_X10_389 : zLV RX10 389 RX10 yX10_pullOf cX10_pullOf 3 (some .int) 2 := zLV_of ml_X10_389 im_X10_pullOf se_X10_pullOf ini_X10 cd_X10_pullOf (by decide +kernel)
def w_X10_pull (a1 : Int32) (a2 : Int32) (a3 : Int32) (σ : zSto) (P : Int32 → zSto → Prop) : Prop := (∀ σ1 : zSto, σ1 = zI σ 223 0 (0 : Int32) → (w_X10_hasPlan a1 σ1 (fun (r3 : Int32) (σ2 : zSto) => (r3 = 0 ∨ r3 = 1) → ((¬ r3 = 0 → ((¬ a2 = (-1 : Int32) → (w_X10_pulls  σ2 (fun (r5 : Int32) (σ4 : zSto) => (w_X10_in a2 (0 : Int32) (r5 - (1 : Int32)) σ4 (fun (r7 : Int32) (σ6 : zSto) => (r7 = 0 ∨ r7 = 1) → ((r7 = 0 → P (-2 : Int32) σ6) ∧ (¬ r7 = 0 → (w_X10_in a3 (0 : Int32) (1 : Int32) σ6 (fun (r9 : Int32) (σ8 : zSto) => (r9 = 0 ∨ r9 = 1) → ((r9 = 0 → P (-2 : Int32) σ8) ∧ (¬ r9 = 0 → (w_X10_pullOf a2 a3 σ8 (fun (r11 : Int32) (σ10 : zSto) => P r11 σ10))))))))))))) ∧ (a2 = (-1 : Int32) → ((¬ a3 = 0 → P (-2 : Int32) σ2) ∧ (a3 = 0 → (w_X10_pulls  σ2 (fun (r13 : Int32) (σ12 : zSto) => P r13 σ12))))))) ∧ (r3 = 0 → P (-2 : Int32) σ2)))))
set_option maxRecDepth 100000 in
set_option maxHeartbeats 4000000 in
theorem c_X10_pull (l : Launch) (D : va_G) (cy : Nat → ClassId) (g : Nat → Nat) (a1 : Int32) (a2 : Int32) (a3 : Int32)  (σ : zSto) {P : Int32 → zSto → Prop} (h : w_X10_pull a1 a2 a3 σ P) : zMi l yX10_pull cX10_pull 4 (some .int) (zrm 3 65) D cy g [.ref (g 223), .int a1, .int a2, .int a3] σ P := by
  unfold w_X10_pull at h
  refine zm_i RX10 rfl (by decide +kernel) (Nat.le_of_ble_eq_true rfl) ?_
  intro p e s m below meth c C hr
  refine zx_lv (lv' := [(0, .ref (g 223)), (1, .int a1), (2, .int a2), (3, .int a3)]) [0, 1, 2, 3] rfl ?_
  refine zx_aload_n C dX10_pull_0 0 rfl ?_
  refine zx_iconst (v := (0 : Int32)) C dX10_pull_1 (by decide) ?_
  refine zx_putI C zs_223 fp_X10_91 rfl dX10_pull_2 ?_
  refine zx_sig (fun σ1 eσ1 => ?_)
  replace h := h σ1 eσ1
  refine zx_aload_n C dX10_pull_5 0 rfl ?_
  refine zx_iload_n C dX10_pull_6 1 rfl ?_
  refine zx_cVb C [.int a1] lk_X10_383 (c_X10_hasPlan l D cy g a1  σ1 h) zs_223 rfl ⟨by decide, by decide⟩ ⟨rfl, rfl⟩ ⟨Nat.zero_le _, Nat.zero_le _⟩ rfl rfl (Nat.le_of_ble_eq_true rfl) dX10_pull_7 (fun r3 σ2 hb h => ?_)
  replace h := h hb
  refine zx_if_ne C 16 dX10_pull_10 (by decide) (fun q => ?_) (fun q => ?_)
  · replace h := h.1 q
    refine zx_iload_n C dX10_pull_16 2 rfl ?_
    refine zx_iconst (v := (-1 : Int32)) C dX10_pull_17 (by decide) ?_
    refine zx_icmp_ne C 35 dX10_pull_18 (by decide) (fun q => ?_) (fun q => ?_)
    · replace h := h.1 q
      refine zx_iload_n C dX10_pull_35 2 rfl ?_
      refine zx_iconst (v := (0 : Int32)) C dX10_pull_36 (by decide) ?_
      refine zx_aload_n C dX10_pull_37 0 rfl ?_
      refine zx_cVi C [] lk_X10_386 (c_X10_pulls l D cy g   σ2 h) zs_223 rfl ⟨by decide, by decide⟩ ⟨rfl, rfl⟩ ⟨Nat.zero_le _, Nat.zero_le _⟩ rfl rfl (Nat.le_of_ble_eq_true rfl) dX10_pull_38 (fun r5 σ4 h => ?_)
      refine zx_iconst (v := (1 : Int32)) C dX10_pull_41 (by decide) ?_
      refine zx_isub C dX10_pull_42 ?_
      refine zx_cSb C [.int a2, .int (0 : Int32), .int (r5 - (1 : Int32))] lk_X10_103 (c_X10_in l D cy g a2 (0 : Int32) (r5 - (1 : Int32))  σ4 h) ⟨by decide, by decide⟩ ⟨rfl, rfl⟩ ⟨Nat.zero_le _, Nat.zero_le _⟩ rfl rfl (Nat.le_of_ble_eq_true rfl) dX10_pull_43 (fun r7 σ6 hb h => ?_)
      replace h := h hb
      refine zx_if_eq C 67 dX10_pull_46 (by decide) (fun q => ?_) (fun q => ?_)
      · replace h := h.1 q
        refine zx_bipush (v := (-2 : Int32)) C dX10_pull_67 (by decide) ?_
        exact zx_iret C hr dX10_pull_69 h
      · replace h := h.2 q
        refine zx_iload_n C dX10_pull_49 3 rfl ?_
        refine zx_iconst (v := (0 : Int32)) C dX10_pull_50 (by decide) ?_
        refine zx_iconst (v := (1 : Int32)) C dX10_pull_51 (by decide) ?_
        refine zx_cSb C [.int a3, .int (0 : Int32), .int (1 : Int32)] lk_X10_103 (c_X10_in l D cy g a3 (0 : Int32) (1 : Int32)  σ6 h) ⟨by decide, by decide⟩ ⟨rfl, rfl⟩ ⟨Nat.zero_le _, Nat.zero_le _⟩ rfl rfl (Nat.le_of_ble_eq_true rfl) dX10_pull_52 (fun r9 σ8 hb h => ?_)
        replace h := h hb
        refine zx_if_eq C 67 dX10_pull_55 (by decide) (fun q => ?_) (fun q => ?_)
        · replace h := h.1 q
          refine zx_bipush (v := (-2 : Int32)) C dX10_pull_67 (by decide) ?_
          exact zx_iret C hr dX10_pull_69 h
        · replace h := h.2 q
          refine zx_aload_n C dX10_pull_58 0 rfl ?_
          refine zx_iload_n C dX10_pull_59 2 rfl ?_
          refine zx_iload_n C dX10_pull_60 3 rfl ?_
          refine zx_cVi C [.int a2, .int a3] lk_X10_389 (c_X10_pullOf l D cy g a2 a3  σ8 h) zs_223 rfl ⟨by decide, by decide⟩ ⟨rfl, rfl⟩ ⟨Nat.zero_le _, Nat.zero_le _⟩ rfl rfl (Nat.le_of_ble_eq_true rfl) dX10_pull_61 (fun r11 σ10 h => ?_)
          refine zx_goto C 69 dX10_pull_64 (by decide) ?_
          exact zx_iret C hr dX10_pull_69 h
    · replace h := h.2 q
      refine zx_iload_n C dX10_pull_21 3 rfl ?_
      refine zx_if_ne C 32 dX10_pull_22 (by decide) (fun q => ?_) (fun q => ?_)
      · replace h := h.1 q
        refine zx_bipush (v := (-2 : Int32)) C dX10_pull_32 (by decide) ?_
        exact zx_iret C hr dX10_pull_34 h
      · replace h := h.2 q
        refine zx_aload_n C dX10_pull_25 0 rfl ?_
        refine zx_cVi C [] lk_X10_386 (c_X10_pulls l D cy g   σ2 h) zs_223 rfl ⟨by decide, by decide⟩ ⟨rfl, rfl⟩ ⟨Nat.zero_le _, Nat.zero_le _⟩ rfl rfl (Nat.le_of_ble_eq_true rfl) dX10_pull_26 (fun r13 σ12 h => ?_)
        refine zx_goto C 34 dX10_pull_29 (by decide) ?_
        exact zx_iret C hr dX10_pull_34 h
  · replace h := h.2 q
    refine zx_bipush (v := (-2 : Int32)) C dX10_pull_13 (by decide) ?_
    exact zx_iret C hr dX10_pull_15 h
def w_X10_canPull (a1 : Int32) (σ : zSto) (P : Int32 → zSto → Prop) : Prop := (w_X10_pullOf a1 (0 : Int32) σ (fun (r2 : Int32) (σ1 : zSto) => (w_X10_pullOf a1 (1 : Int32) σ1 (fun (r4 : Int32) (σ3 : zSto) => (((σ3.1 223 25) ≤ r2 → P (0 : Int32) σ3) ∧ (¬ (σ3.1 223 25) ≤ r2 → ((a1 ≤ 0 → (w_X10_isRider r4 σ3 (fun (r6 : Int32) (σ5 : zSto) => (r6 = 0 ∨ r6 = 1) → ((r6 = 0 → P (0 : Int32) σ5) ∧ (¬ r6 = 0 → (w_X10_isOn r4 r2 σ5 (fun (r8 : Int32) (σ7 : zSto) => (r8 = 0 ∨ r8 = 1) → ((r8 = 0 → P (0 : Int32) σ7) ∧ (¬ r8 = 0 → (vp_in r4 6 ∧ (w_X10_riderOf r4 (2 : Int32) σ7 (fun (r11 : Int32) (σ10 : zSto) => ((r11 ≤ (σ7.1 241 (r4).toNatClampNeg) → P (0 : Int32) σ10) ∧ (¬ r11 ≤ (σ7.1 241 (r4).toNatClampNeg) → (vp_in r2 16 ∧ (((σ10.1 238 (r2).toNatClampNeg) ≤ 0 → P (0 : Int32) σ10) ∧ (¬ (σ10.1 238 (r2).toNatClampNeg) ≤ 0 → P (1 : Int32) σ10))))))))))))))))) ∧ (¬ a1 ≤ 0 → (w_X10_pullOf (a1 - (1 : Int32)) (0 : Int32) σ3 (fun (r14 : Int32) (σ13 : zSto) => ((r14 < r2 → (w_X10_isRider r4 σ13 (fun (r16 : Int32) (σ15 : zSto) => (r16 = 0 ∨ r16 = 1) → ((r16 = 0 → P (0 : Int32) σ15) ∧ (¬ r16 = 0 → (w_X10_isOn r4 r2 σ15 (fun (r18 : Int32) (σ17 : zSto) => (r18 = 0 ∨ r18 = 1) → ((r18 = 0 → P (0 : Int32) σ17) ∧ (¬ r18 = 0 → (vp_in r4 6 ∧ (w_X10_riderOf r4 (2 : Int32) σ17 (fun (r21 : Int32) (σ20 : zSto) => ((r21 ≤ (σ17.1 241 (r4).toNatClampNeg) → P (0 : Int32) σ20) ∧ (¬ r21 ≤ (σ17.1 241 (r4).toNatClampNeg) → (vp_in r2 16 ∧ (((σ20.1 238 (r2).toNatClampNeg) ≤ 0 → P (0 : Int32) σ20) ∧ (¬ (σ20.1 238 (r2).toNatClampNeg) ≤ 0 → P (1 : Int32) σ20))))))))))))))))) ∧ (¬ r14 < r2 → P (0 : Int32) σ13))))))))))))
set_option maxRecDepth 100000 in
set_option maxHeartbeats 4000000 in
theorem c_X10_canPull (l : Launch) (D : va_G) (cy : Nat → ClassId) (g : Nat → Nat) (a1 : Int32)  (σ : zSto) {P : Int32 → zSto → Prop} (h : w_X10_canPull a1 σ P) : zMb l yX10_canPull cX10_canPull 4 (some .boolean) (zrm 3 65) D cy g [.ref (g 223), .int a1] σ P := by
  unfold w_X10_canPull at h
  refine zm_b RX10 rfl (by decide +kernel) (Nat.le_of_ble_eq_true rfl) ?_
  intro p e s m below meth c C hr
  refine zx_lv (lv' := [(0, .ref (g 223)), (1, .int a1)]) [0, 1] rfl ?_
  refine zx_aload_n C dX10_canPull_0 0 rfl ?_
  refine zx_iload_n C dX10_canPull_1 1 rfl ?_
  refine zx_iconst (v := (0 : Int32)) C dX10_canPull_2 (by decide) ?_
  refine zx_cVi C [.int a1, .int (0 : Int32)] lk_X10_389 (c_X10_pullOf l D cy g a1 (0 : Int32)  σ h) zs_223 rfl ⟨by decide, by decide⟩ ⟨rfl, rfl⟩ ⟨Nat.zero_le _, Nat.zero_le _⟩ rfl rfl (Nat.le_of_ble_eq_true rfl) dX10_canPull_3 (fun r2 σ1 h => ?_)
  refine zx_istore_n (lv' := [(2, .int r2), (0, .ref (g 223)), (1, .int a1)]) C dX10_canPull_6 (by decide) rfl ?_
  refine zx_aload_n C dX10_canPull_7 1 rfl ?_
  refine zx_iload_n C dX10_canPull_8 2 rfl ?_
  refine zx_iconst (v := (1 : Int32)) C dX10_canPull_9 (by decide) ?_
  refine zx_cVi C [.int a1, .int (1 : Int32)] lk_X10_389 (c_X10_pullOf l D cy g a1 (1 : Int32)  σ1 h) zs_223 rfl ⟨by decide, by decide⟩ ⟨rfl, rfl⟩ ⟨Nat.zero_le _, Nat.zero_le _⟩ rfl rfl (Nat.le_of_ble_eq_true rfl) dX10_canPull_10 (fun r4 σ3 h => ?_)
  refine zx_istore_n (lv' := [(3, .int r4), (2, .int r2), (0, .ref (g 223)), (1, .int a1)]) C dX10_canPull_13 (by decide) rfl ?_
  refine zx_iload_n C dX10_canPull_14 1 rfl ?_
  refine zx_aload_n C dX10_canPull_15 2 rfl ?_
  refine zx_getI C zs_223 fg_X10_248 rfl dX10_canPull_16 ?_
  refine zx_icmp_ge C 38 dX10_canPull_19 (by decide) (fun q => ?_) (fun q => ?_)
  · replace h := h.1 q
    refine zx_iconst (v := (0 : Int32)) C dX10_canPull_38 (by decide) ?_
    exact zx_zret C hr dX10_canPull_39 (Or.inl rfl) h
  · replace h := h.2 q
    refine zx_iload_n C dX10_canPull_22 3 rfl ?_
    refine zx_if_le C 40 dX10_canPull_23 (by decide) (fun q => ?_) (fun q => ?_)
    · replace h := h.1 q
      refine zx_aload_n C dX10_canPull_40 2 rfl ?_
      refine zx_iload_n C dX10_canPull_41 0 rfl ?_
      refine zx_cVb C [.int r4] lk_X10_263 (c_X10_isRider l D cy g r4  σ3 h) zs_223 rfl ⟨by decide, by decide⟩ ⟨rfl, rfl⟩ ⟨Nat.zero_le _, Nat.zero_le _⟩ rfl rfl (Nat.le_of_ble_eq_true rfl) dX10_canPull_42 (fun r6 σ5 hb h => ?_)
      replace h := h hb
      refine zx_if_eq C 85 dX10_canPull_45 (by decide) (fun q => ?_) (fun q => ?_)
      · replace h := h.1 q
        refine zx_iconst (v := (0 : Int32)) C dX10_canPull_85 (by decide) ?_
        exact zx_zret C hr dX10_canPull_86 (Or.inl rfl) h
      · replace h := h.2 q
        refine zx_aload_n C dX10_canPull_48 2 rfl ?_
        refine zx_iload_n C dX10_canPull_49 0 rfl ?_
        refine zx_iload_n C dX10_canPull_50 1 rfl ?_
        refine zx_cVb C [.int r4, .int r2] lk_X10_273 (c_X10_isOn l D cy g r4 r2  σ5 h) zs_223 rfl ⟨by decide, by decide⟩ ⟨rfl, rfl⟩ ⟨Nat.zero_le _, Nat.zero_le _⟩ rfl rfl (Nat.le_of_ble_eq_true rfl) dX10_canPull_51 (fun r8 σ7 hb h => ?_)
        replace h := h hb
        refine zx_if_eq C 85 dX10_canPull_54 (by decide) (fun q => ?_) (fun q => ?_)
        · replace h := h.1 q
          refine zx_iconst (v := (0 : Int32)) C dX10_canPull_85 (by decide) ?_
          exact zx_zret C hr dX10_canPull_86 (Or.inl rfl) h
        · replace h := h.2 q
          refine zx_aload_n C dX10_canPull_57 2 rfl ?_
          refine zx_getR C zs_223 fg_X10_62 rfl 241 rfl dX10_canPull_58 ?_
          refine zx_iload_n C dX10_canPull_61 0 rfl ?_
          obtain ⟨bd9, h⟩ := h
          refine zx_iald C (r4).toNatClampNeg zs_241 bd9 rfl dX10_canPull_62 ?_
          refine zx_aload_n C dX10_canPull_63 2 rfl ?_
          refine zx_iload_n C dX10_canPull_64 0 rfl ?_
          refine zx_iconst (v := (2 : Int32)) C dX10_canPull_65 (by decide) ?_
          refine zx_cVi C [.int r4, .int (2 : Int32)] lk_X10_266 (c_X10_riderOf l D cy g r4 (2 : Int32)  σ7 h) zs_223 rfl ⟨by decide, by decide⟩ ⟨rfl, rfl⟩ ⟨Nat.zero_le _, Nat.zero_le _⟩ rfl rfl (Nat.le_of_ble_eq_true rfl) dX10_canPull_66 (fun r11 σ10 h => ?_)
          refine zx_icmp_ge C 85 dX10_canPull_69 (by decide) (fun q => ?_) (fun q => ?_)
          · replace h := h.1 q
            refine zx_iconst (v := (0 : Int32)) C dX10_canPull_85 (by decide) ?_
            exact zx_zret C hr dX10_canPull_86 (Or.inl rfl) h
          · replace h := h.2 q
            refine zx_aload_n C dX10_canPull_72 2 rfl ?_
            refine zx_getR C zs_223 fg_X10_53 rfl 238 rfl dX10_canPull_73 ?_
            refine zx_iload_n C dX10_canPull_76 1 rfl ?_
            obtain ⟨bd12, h⟩ := h
            refine zx_iald C (r2).toNatClampNeg zs_238 bd12 rfl dX10_canPull_77 ?_
            refine zx_if_le C 85 dX10_canPull_78 (by decide) (fun q => ?_) (fun q => ?_)
            · replace h := h.1 q
              refine zx_iconst (v := (0 : Int32)) C dX10_canPull_85 (by decide) ?_
              exact zx_zret C hr dX10_canPull_86 (Or.inl rfl) h
            · replace h := h.2 q
              refine zx_iconst (v := (1 : Int32)) C dX10_canPull_81 (by decide) ?_
              refine zx_goto C 86 dX10_canPull_82 (by decide) ?_
              exact zx_zret C hr dX10_canPull_86 (Or.inr rfl) h
    · replace h := h.2 q
      refine zx_iload_n C dX10_canPull_26 1 rfl ?_
      refine zx_aload_n C dX10_canPull_27 2 rfl ?_
      refine zx_iload_n C dX10_canPull_28 3 rfl ?_
      refine zx_iconst (v := (1 : Int32)) C dX10_canPull_29 (by decide) ?_
      refine zx_isub C dX10_canPull_30 ?_
      refine zx_iconst (v := (0 : Int32)) C dX10_canPull_31 (by decide) ?_
      refine zx_cVi C [.int (a1 - (1 : Int32)), .int (0 : Int32)] lk_X10_389 (c_X10_pullOf l D cy g (a1 - (1 : Int32)) (0 : Int32)  σ3 h) zs_223 rfl ⟨by decide, by decide⟩ ⟨rfl, rfl⟩ ⟨Nat.zero_le _, Nat.zero_le _⟩ rfl rfl (Nat.le_of_ble_eq_true rfl) dX10_canPull_32 (fun r14 σ13 h => ?_)
      refine zx_icmp_gt C 40 dX10_canPull_35 (by decide) (fun q => ?_) (fun q => ?_)
      · replace h := h.1 q
        refine zx_aload_n C dX10_canPull_40 2 rfl ?_
        refine zx_iload_n C dX10_canPull_41 0 rfl ?_
        refine zx_cVb C [.int r4] lk_X10_263 (c_X10_isRider l D cy g r4  σ13 h) zs_223 rfl ⟨by decide, by decide⟩ ⟨rfl, rfl⟩ ⟨Nat.zero_le _, Nat.zero_le _⟩ rfl rfl (Nat.le_of_ble_eq_true rfl) dX10_canPull_42 (fun r16 σ15 hb h => ?_)
        replace h := h hb
        refine zx_if_eq C 85 dX10_canPull_45 (by decide) (fun q => ?_) (fun q => ?_)
        · replace h := h.1 q
          refine zx_iconst (v := (0 : Int32)) C dX10_canPull_85 (by decide) ?_
          exact zx_zret C hr dX10_canPull_86 (Or.inl rfl) h
        · replace h := h.2 q
          refine zx_aload_n C dX10_canPull_48 2 rfl ?_
          refine zx_iload_n C dX10_canPull_49 0 rfl ?_
          refine zx_iload_n C dX10_canPull_50 1 rfl ?_
          refine zx_cVb C [.int r4, .int r2] lk_X10_273 (c_X10_isOn l D cy g r4 r2  σ15 h) zs_223 rfl ⟨by decide, by decide⟩ ⟨rfl, rfl⟩ ⟨Nat.zero_le _, Nat.zero_le _⟩ rfl rfl (Nat.le_of_ble_eq_true rfl) dX10_canPull_51 (fun r18 σ17 hb h => ?_)
          replace h := h hb
          refine zx_if_eq C 85 dX10_canPull_54 (by decide) (fun q => ?_) (fun q => ?_)
          · replace h := h.1 q
            refine zx_iconst (v := (0 : Int32)) C dX10_canPull_85 (by decide) ?_
            exact zx_zret C hr dX10_canPull_86 (Or.inl rfl) h
          · replace h := h.2 q
            refine zx_aload_n C dX10_canPull_57 2 rfl ?_
            refine zx_getR C zs_223 fg_X10_62 rfl 241 rfl dX10_canPull_58 ?_
            refine zx_iload_n C dX10_canPull_61 0 rfl ?_
            obtain ⟨bd19, h⟩ := h
            refine zx_iald C (r4).toNatClampNeg zs_241 bd19 rfl dX10_canPull_62 ?_
            refine zx_aload_n C dX10_canPull_63 2 rfl ?_
            refine zx_iload_n C dX10_canPull_64 0 rfl ?_
            refine zx_iconst (v := (2 : Int32)) C dX10_canPull_65 (by decide) ?_
            refine zx_cVi C [.int r4, .int (2 : Int32)] lk_X10_266 (c_X10_riderOf l D cy g r4 (2 : Int32)  σ17 h) zs_223 rfl ⟨by decide, by decide⟩ ⟨rfl, rfl⟩ ⟨Nat.zero_le _, Nat.zero_le _⟩ rfl rfl (Nat.le_of_ble_eq_true rfl) dX10_canPull_66 (fun r21 σ20 h => ?_)
            refine zx_icmp_ge C 85 dX10_canPull_69 (by decide) (fun q => ?_) (fun q => ?_)
            · replace h := h.1 q
              refine zx_iconst (v := (0 : Int32)) C dX10_canPull_85 (by decide) ?_
              exact zx_zret C hr dX10_canPull_86 (Or.inl rfl) h
            · replace h := h.2 q
              refine zx_aload_n C dX10_canPull_72 2 rfl ?_
              refine zx_getR C zs_223 fg_X10_53 rfl 238 rfl dX10_canPull_73 ?_
              refine zx_iload_n C dX10_canPull_76 1 rfl ?_
              obtain ⟨bd22, h⟩ := h
              refine zx_iald C (r2).toNatClampNeg zs_238 bd22 rfl dX10_canPull_77 ?_
              refine zx_if_le C 85 dX10_canPull_78 (by decide) (fun q => ?_) (fun q => ?_)
              · replace h := h.1 q
                refine zx_iconst (v := (0 : Int32)) C dX10_canPull_85 (by decide) ?_
                exact zx_zret C hr dX10_canPull_86 (Or.inl rfl) h
              · replace h := h.2 q
                refine zx_iconst (v := (1 : Int32)) C dX10_canPull_81 (by decide) ?_
                refine zx_goto C 86 dX10_canPull_82 (by decide) ?_
                exact zx_zret C hr dX10_canPull_86 (Or.inr rfl) h
      · replace h := h.2 q
        refine zx_iconst (v := (0 : Int32)) C dX10_canPull_38 (by decide) ?_
        exact zx_zret C hr dX10_canPull_39 (Or.inl rfl) h
theorem lk_X10_392 : zLV RX10 392 RX10 yX10_canPull cX10_canPull 4 (some .boolean) 1 := zLV_of ml_X10_392 im_X10_canPull se_X10_canPull ini_X10 cd_X10_canPull (by decide +kernel)
def w_X10_doPlan_29  (P : Int32 → zSto → Prop)  : Nat → Int32 → zSto → Prop
  | 0, _, _ => False
  | n + 1, x_1, σ => (w_X10_pulls  σ (fun (r3 : Int32) (σ2 : zSto) => ((r3 ≤ x_1 → (w_X10_timesBy  σ2 (fun (σ4 : zSto) => P x_1 σ4))) ∧ (¬ r3 ≤ x_1 → (w_X10_canPull x_1 σ2 (fun (r6 : Int32) (σ5 : zSto) => (r6 = 0 ∨ r6 = 1) → ((r6 = 0 → (w_X10_timesBy  σ5 (fun (σ7 : zSto) => P x_1 σ7))) ∧ (¬ r6 = 0 → (w_X10_pullOf x_1 (0 : Int32) σ5 (fun (r9 : Int32) (σ8 : zSto) => (w_X10_pullOf x_1 (1 : Int32) σ8 (fun (r11 : Int32) (σ10 : zSto) => (w_X10_pullsAt r9 r11 σ10 (fun (σ12 : zSto) => (∀ x13 : Int32, x13 = (x_1 + (1 : Int32)) → w_X10_doPlan_29 P n x13 σ12)))))))))))))))
def w_X10_doPlan_6  (P : Int32 → zSto → Prop)  : Nat → Int32 → zSto → Prop
  | 0, _, _ => False
  | n + 1, x_1, σ => (((σ.1 223 24) ≤ x_1 → (∃ n2 : Nat, w_X10_doPlan_29  P  n2 (0 : Int32) σ)) ∧ (¬ (σ.1 223 24) ≤ x_1 → (vp_in x_1 16 ∧ (∀ σ15 : zSto, σ15 = zI σ 240 (x_1).toNatClampNeg (-1 : Int32) → (∀ x16 : Int32, x16 = (x_1 + (1 : Int32)) → w_X10_doPlan_6 P n x16 σ15)))))
def w_X10_doPlan  (σ : zSto) (P : Int32 → zSto → Prop) : Prop := (w_X10_begin  σ (fun (σ1 : zSto) => (∃ n : Nat, w_X10_doPlan_6  P  n (0 : Int32) σ1)))
set_option maxRecDepth 100000 in
set_option maxHeartbeats 4000000 in
theorem k_X10_doPlan_29 {p : Program} {l : Launch} {e : Env} {s : State} {m : MethodId} {args : Array Value} {below : List Frame} {meth : Method} {c : Code} {D : va_G} {cy : Nat → ClassId} {g : Nat → Nat} (C : zC p s m args meth c cX10_doPlan RX10 2 D cy g) (hr : meth.sig.returnType = (some .int)) {P : Int32 → zSto → Prop}     : ∀ (n : Nat) (x_1 : Int32) (σ : zSto), w_X10_doPlan_29 P n x_1 σ → zX p l e (zrm 4 88) s m args below meth c 0 0 (zQi P below args s D cy g) 2 D cy g 29 [(0, .ref (g 223)), (1, .int x_1)] [] σ := by
  intro n
  induction n with
  | zero => intro x_1 σ h; exact h.elim
  | succ n ih =>
    intro x_1 σ h
    unfold w_X10_doPlan_29 at h
    refine zx_iload_n C dX10_doPlan_29 1 rfl ?_
    refine zx_aload_n C dX10_doPlan_30 0 rfl ?_
    refine zx_cVi C [] lk_X10_386 (c_X10_pulls l D cy g   σ h) zs_223 rfl ⟨by decide, by decide⟩ ⟨rfl, rfl⟩ ⟨Nat.zero_le _, Nat.zero_le _⟩ rfl rfl (Nat.le_of_ble_eq_true rfl) dX10_doPlan_31 (fun r3 σ2 h => ?_)
    refine zx_icmp_ge C 67 dX10_doPlan_34 (by decide) (fun q => ?_) (fun q => ?_)
    · replace h := h.1 q
      refine zx_aload_n C dX10_doPlan_67 0 rfl ?_
      refine zx_cVv C [] lk_X10_304 (c_X10_timesBy l D cy g   σ2 h) zs_223 rfl ⟨by decide, by decide⟩ ⟨rfl, rfl⟩ ⟨Nat.zero_le _, Nat.zero_le _⟩ rfl rfl (Nat.le_of_ble_eq_true rfl) dX10_doPlan_68 (fun σ4 h => ?_)
      refine zx_iload_n C dX10_doPlan_71 1 rfl ?_
      exact zx_iret C hr dX10_doPlan_72 h
    · replace h := h.2 q
      refine zx_aload_n C dX10_doPlan_37 0 rfl ?_
      refine zx_iload_n C dX10_doPlan_38 1 rfl ?_
      refine zx_cVb C [.int x_1] lk_X10_392 (c_X10_canPull l D cy g x_1  σ2 h) zs_223 rfl ⟨by decide, by decide⟩ ⟨rfl, rfl⟩ ⟨Nat.zero_le _, Nat.zero_le _⟩ rfl rfl (Nat.le_of_ble_eq_true rfl) dX10_doPlan_39 (fun r6 σ5 hb h => ?_)
      replace h := h hb
      refine zx_if_eq C 67 dX10_doPlan_42 (by decide) (fun q => ?_) (fun q => ?_)
      · replace h := h.1 q
        refine zx_aload_n C dX10_doPlan_67 0 rfl ?_
        refine zx_cVv C [] lk_X10_304 (c_X10_timesBy l D cy g   σ5 h) zs_223 rfl ⟨by decide, by decide⟩ ⟨rfl, rfl⟩ ⟨Nat.zero_le _, Nat.zero_le _⟩ rfl rfl (Nat.le_of_ble_eq_true rfl) dX10_doPlan_68 (fun σ7 h => ?_)
        refine zx_iload_n C dX10_doPlan_71 1 rfl ?_
        exact zx_iret C hr dX10_doPlan_72 h
      · replace h := h.2 q
        refine zx_aload_n C dX10_doPlan_45 0 rfl ?_
        refine zx_aload_n C dX10_doPlan_46 0 rfl ?_
        refine zx_iload_n C dX10_doPlan_47 1 rfl ?_
        refine zx_iconst (v := (0 : Int32)) C dX10_doPlan_48 (by decide) ?_
        refine zx_cVi C [.int x_1, .int (0 : Int32)] lk_X10_389 (c_X10_pullOf l D cy g x_1 (0 : Int32)  σ5 h) zs_223 rfl ⟨by decide, by decide⟩ ⟨rfl, rfl⟩ ⟨Nat.zero_le _, Nat.zero_le _⟩ rfl rfl (Nat.le_of_ble_eq_true rfl) dX10_doPlan_49 (fun r9 σ8 h => ?_)
        refine zx_aload_n C dX10_doPlan_52 0 rfl ?_
        refine zx_iload_n C dX10_doPlan_53 1 rfl ?_
        refine zx_iconst (v := (1 : Int32)) C dX10_doPlan_54 (by decide) ?_
        refine zx_cVi C [.int x_1, .int (1 : Int32)] lk_X10_389 (c_X10_pullOf l D cy g x_1 (1 : Int32)  σ8 h) zs_223 rfl ⟨by decide, by decide⟩ ⟨rfl, rfl⟩ ⟨Nat.zero_le _, Nat.zero_le _⟩ rfl rfl (Nat.le_of_ble_eq_true rfl) dX10_doPlan_55 (fun r11 σ10 h => ?_)
        refine zx_cVv C [.int r9, .int r11] lk_X10_301 (c_X10_pullsAt l D cy g r9 r11  σ10 h) zs_223 rfl ⟨by decide, by decide⟩ ⟨rfl, rfl⟩ ⟨Nat.zero_le _, Nat.zero_le _⟩ rfl rfl (Nat.le_of_ble_eq_true rfl) dX10_doPlan_58 (fun σ12 h => ?_)
        obtain ⟨x13, ex13⟩ : ∃ y : Int32, y = (x_1 + (1 : Int32)) := ⟨_, rfl⟩
        replace h := h x13 ex13
        refine zx_iinc (v := x13) (lv' := [(1, .int x13), (0, .ref (g 223))]) C dX10_doPlan_61 1 rfl (by rw [ex13]; rfl) (by decide) rfl ?_
        refine zx_goto C 29 dX10_doPlan_64 (by decide) ?_
        refine zx_lv (lv' := [(0, .ref (g 223)), (1, .int x13)]) [1, 0] rfl ?_
        exact ih x13 σ12 h
set_option maxRecDepth 100000 in
set_option maxHeartbeats 4000000 in
theorem k_X10_doPlan_6 {p : Program} {l : Launch} {e : Env} {s : State} {m : MethodId} {args : Array Value} {below : List Frame} {meth : Method} {c : Code} {D : va_G} {cy : Nat → ClassId} {g : Nat → Nat} (C : zC p s m args meth c cX10_doPlan RX10 2 D cy g) (hr : meth.sig.returnType = (some .int)) {P : Int32 → zSto → Prop}     : ∀ (n : Nat) (x_1 : Int32) (σ : zSto), w_X10_doPlan_6 P n x_1 σ → zX p l e (zrm 4 88) s m args below meth c 0 0 (zQi P below args s D cy g) 2 D cy g 6 [(0, .ref (g 223)), (1, .int x_1)] [] σ := by
  intro n
  induction n with
  | zero => intro x_1 σ h; exact h.elim
  | succ n ih =>
    intro x_1 σ h
    unfold w_X10_doPlan_6 at h
    refine zx_iload_n C dX10_doPlan_6 1 rfl ?_
    refine zx_aload_n C dX10_doPlan_7 0 rfl ?_
    refine zx_getI C zs_223 fg_X10_245 rfl dX10_doPlan_8 ?_
    refine zx_icmp_ge C 27 dX10_doPlan_11 (by decide) (fun q => ?_) (fun q => ?_)
    · replace h := h.1 q
      refine zx_iconst (v := (0 : Int32)) C dX10_doPlan_27 (by decide) ?_
      refine zx_istore_n (lv' := [(1, .int (0 : Int32)), (0, .ref (g 223))]) C dX10_doPlan_28 (by decide) rfl ?_
      obtain ⟨n2, h⟩ := h
      refine zx_lv (lv' := [(0, .ref (g 223)), (1, .int (0 : Int32))]) [1, 0] rfl ?_
      exact k_X10_doPlan_29 C hr    n2 (0 : Int32) σ h
    · replace h := h.2 q
      refine zx_aload_n C dX10_doPlan_14 0 rfl ?_
      refine zx_getR C zs_223 fg_X10_59 rfl 240 rfl dX10_doPlan_15 ?_
      refine zx_iload_n C dX10_doPlan_18 1 rfl ?_
      refine zx_iconst (v := (-1 : Int32)) C dX10_doPlan_19 (by decide) ?_
      obtain ⟨bd14, h⟩ := h
      refine zx_iast C (x_1).toNatClampNeg zs_240 bd14 rfl dX10_doPlan_20 ?_
      refine zx_sig (fun σ15 eσ15 => ?_)
      replace h := h σ15 eσ15
      obtain ⟨x16, ex16⟩ : ∃ y : Int32, y = (x_1 + (1 : Int32)) := ⟨_, rfl⟩
      replace h := h x16 ex16
      refine zx_iinc (v := x16) (lv' := [(1, .int x16), (0, .ref (g 223))]) C dX10_doPlan_21 1 rfl (by rw [ex16]; rfl) (by decide) rfl ?_
      refine zx_goto C 6 dX10_doPlan_24 (by decide) ?_
      refine zx_lv (lv' := [(0, .ref (g 223)), (1, .int x16)]) [1, 0] rfl ?_
      exact ih x16 σ15 h
set_option maxRecDepth 100000 in
set_option maxHeartbeats 4000000 in
theorem c_X10_doPlan (l : Launch) (D : va_G) (cy : Nat → ClassId) (g : Nat → Nat)   (σ : zSto) {P : Int32 → zSto → Prop} (h : w_X10_doPlan  σ P) : zMi l yX10_doPlan cX10_doPlan 2 (some .int) (zrm 4 88) D cy g [.ref (g 223)] σ P := by
  unfold w_X10_doPlan at h
  refine zm_i RX10 rfl (by decide +kernel) (Nat.le_of_ble_eq_true rfl) ?_
  intro p e s m below meth c C hr
  refine zx_lv (lv' := [(0, .ref (g 223))]) [0] rfl ?_
  refine zx_aload_n C dX10_doPlan_0 0 rfl ?_
  refine zx_cVv C [] lk_X10_294 (c_X10_begin l D cy g   σ h) zs_223 rfl ⟨by decide, by decide⟩ ⟨rfl, rfl⟩ ⟨Nat.zero_le _, Nat.zero_le _⟩ rfl rfl (Nat.le_of_ble_eq_true rfl) dX10_doPlan_1 (fun σ1 h => ?_)
  refine zx_iconst (v := (0 : Int32)) C dX10_doPlan_4 (by decide) ?_
  refine zx_istore_n (lv' := [(1, .int (0 : Int32)), (0, .ref (g 223))]) C dX10_doPlan_5 (by decide) rfl ?_
  obtain ⟨n, h⟩ := h
  refine zx_lv (lv' := [(0, .ref (g 223)), (1, .int (0 : Int32))]) [1, 0] rfl ?_
  exact k_X10_doPlan_6 C hr    n (0 : Int32) σ1 h
theorem lk_X10_395 : zLV RX10 395 RX10 yX10_doPlan cX10_doPlan 2 (some .int) 0 := zLV_of ml_X10_395 im_X10_doPlan se_X10_doPlan ini_X10 cd_X10_doPlan (by decide +kernel)
def w_X10_played (a1 : Int32) (a2 : Int32) (a3 : Int32) (a4 : Int32) (σ : zSto) (P : Int32 → zSto → Prop) : Prop := (∀ σ1 : zSto, σ1 = zI σ 223 0 (0 : Int32) → (w_X10_hasPlan a2 σ1 (fun (r3 : Int32) (σ2 : zSto) => (r3 = 0 ∨ r3 = 1) → ((r3 = 0 → P (-2 : Int32) σ2) ∧ (¬ r3 = 0 → (w_X10_hand a1 a3 σ2 (fun (r5 : Int32) (σ4 : zSto) => (r5 = 0 ∨ r5 = 1) → ((¬ r5 = 0 → (w_X10_doPlan  σ4 (fun (r7 : Int32) (σ6 : zSto) => (w_X10_in a4 (200 : Int32) ((199 : Int32) + (σ6.1 223 26)) σ6 (fun (r9 : Int32) (σ8 : zSto) => (r9 = 0 ∨ r9 = 1) → ((r9 = 0 → ((a4 = 0 → P r7 σ8) ∧ (a4 = 1 → (w_X10_gathered  σ8 (fun (r11 : Int32) (σ10 : zSto) => P r11 σ10))) ∧ (a4 = 2 → P (σ8.1 223 31) σ8) ∧ (a4 = 3 → P (σ8.1 223 33) σ8) ∧ (a4 = 4 → P (σ8.1 223 32) σ8) ∧ ((a4.toInt < 0 ∨ 4 < a4.toInt) → P (-2 : Int32) σ8))) ∧ (¬ r9 = 0 → (vp_in (a4 - (200 : Int32)) 6 ∧ P (σ8.1 243 ((a4 - (200 : Int32))).toNatClampNeg) σ8)))))))) ∧ (r5 = 0 → P (-2 : Int32) σ4)))))))))
set_option maxRecDepth 100000 in
set_option maxHeartbeats 4000000 in
theorem c_X10_played (l : Launch) (D : va_G) (cy : Nat → ClassId) (g : Nat → Nat) (a1 : Int32) (a2 : Int32) (a3 : Int32) (a4 : Int32)  (σ : zSto) {P : Int32 → zSto → Prop} (h : w_X10_played a1 a2 a3 a4 σ P) : zMi l yX10_played cX10_played 6 (some .int) (zrm 5 109) D cy g [.ref (g 223), .int a1, .int a2, .int a3, .int a4] σ P := by
  unfold w_X10_played at h
  refine zm_i RX10 rfl (by decide +kernel) (Nat.le_of_ble_eq_true rfl) ?_
  intro p e s m below meth c C hr
  refine zx_lv (lv' := [(0, .ref (g 223)), (1, .int a1), (2, .int a2), (3, .int a3), (4, .int a4)]) [0, 1, 2, 3, 4] rfl ?_
  refine zx_aload_n C dX10_played_0 0 rfl ?_
  refine zx_iconst (v := (0 : Int32)) C dX10_played_1 (by decide) ?_
  refine zx_putI C zs_223 fp_X10_91 rfl dX10_played_2 ?_
  refine zx_sig (fun σ1 eσ1 => ?_)
  replace h := h σ1 eσ1
  refine zx_aload_n C dX10_played_5 0 rfl ?_
  refine zx_iload_n C dX10_played_6 2 rfl ?_
  refine zx_cVb C [.int a2] lk_X10_383 (c_X10_hasPlan l D cy g a2  σ1 h) zs_223 rfl ⟨by decide, by decide⟩ ⟨rfl, rfl⟩ ⟨Nat.zero_le _, Nat.zero_le _⟩ rfl rfl (Nat.le_of_ble_eq_true rfl) dX10_played_7 (fun r3 σ2 hb h => ?_)
  replace h := h hb
  refine zx_if_eq C 22 dX10_played_10 (by decide) (fun q => ?_) (fun q => ?_)
  · replace h := h.1 q
    refine zx_bipush (v := (-2 : Int32)) C dX10_played_22 (by decide) ?_
    exact zx_iret C hr dX10_played_24 h
  · replace h := h.2 q
    refine zx_aload_n C dX10_played_13 0 rfl ?_
    refine zx_iload_n C dX10_played_14 1 rfl ?_
    refine zx_iload_n C dX10_played_15 3 rfl ?_
    refine zx_cVb C [.int a1, .int a3] lk_X10_257 (c_X10_hand l D cy g a1 a3  σ2 h) zs_223 rfl ⟨by decide, by decide⟩ ⟨rfl, rfl⟩ ⟨Nat.zero_le _, Nat.zero_le _⟩ rfl rfl (Nat.le_of_ble_eq_true rfl) dX10_played_16 (fun r5 σ4 hb h => ?_)
    replace h := h hb
    refine zx_if_ne C 25 dX10_played_19 (by decide) (fun q => ?_) (fun q => ?_)
    · replace h := h.1 q
      refine zx_aload_n C dX10_played_25 0 rfl ?_
      refine zx_cVi C [] lk_X10_395 (c_X10_doPlan l D cy g   σ4 h) zs_223 rfl ⟨by decide, by decide⟩ ⟨rfl, rfl⟩ ⟨Nat.zero_le _, Nat.zero_le _⟩ rfl rfl (Nat.le_of_ble_eq_true rfl) dX10_played_26 (fun r7 σ6 h => ?_)
      refine zx_istore (lv' := [(5, .int r7), (0, .ref (g 223)), (1, .int a1), (2, .int a2), (3, .int a3), (4, .int a4)]) C dX10_played_29 (by decide) rfl ?_
      refine zx_iload C dX10_played_31 5 rfl ?_
      refine zx_sipush (v := (200 : Int32)) C dX10_played_33 (by decide) ?_
      refine zx_sipush (v := (199 : Int32)) C dX10_played_36 (by decide) ?_
      refine zx_aload_n C dX10_played_39 1 rfl ?_
      refine zx_getI C zs_223 fg_X10_251 rfl dX10_played_40 ?_
      refine zx_iadd C dX10_played_43 ?_
      refine zx_cSb C [.int a4, .int (200 : Int32), .int ((199 : Int32) + (σ6.1 223 26))] lk_X10_103 (c_X10_in l D cy g a4 (200 : Int32) ((199 : Int32) + (σ6.1 223 26))  σ6 h) ⟨by decide, by decide⟩ ⟨rfl, rfl⟩ ⟨Nat.zero_le _, Nat.zero_le _⟩ rfl rfl (Nat.le_of_ble_eq_true rfl) dX10_played_44 (fun r9 σ8 hb h => ?_)
      replace h := h hb
      refine zx_if_eq C 62 dX10_played_47 (by decide) (fun q => ?_) (fun q => ?_)
      · replace h := h.1 q
        refine zx_iload C dX10_played_62 5 rfl ?_
        refine zsw (x := a4) 4 (fun q => ?_) (fun i hi q => ?_)
        · replace h := h.2.2.2.2.2 q
          refine zx_tableOut C 123 dX10_played_64 q (by decide) ?_
          refine zx_bipush (v := (-2 : Int32)) C dX10_played_123 (by decide) ?_
          exact zx_iret C hr dX10_played_125 h
        · match i, hi, q with
          | 0, _, q =>
            replace h := h.1 q
            refine zx_tableIn C 100 (0 : Int32) q dX10_played_64 (by decide) (by decide) rfl (by decide) ?_
            refine zx_iload C dX10_played_100 0 rfl ?_
            exact zx_iret C hr dX10_played_102 h
          | 1, _, q =>
            replace h := h.2.1 q
            refine zx_tableIn C 103 (1 : Int32) q dX10_played_64 (by decide) (by decide) rfl (by decide) ?_
            refine zx_aload_n C dX10_played_103 1 rfl ?_
            refine zx_cVi C [] lk_X10_317 (c_X10_gathered l D cy g   σ8 h) zs_223 rfl ⟨by decide, by decide⟩ ⟨rfl, rfl⟩ ⟨Nat.zero_le _, Nat.zero_le _⟩ rfl rfl (Nat.le_of_ble_eq_true rfl) dX10_played_104 (fun r11 σ10 h => ?_)
            exact zx_iret C hr dX10_played_107 h
          | 2, _, q =>
            replace h := h.2.2.1 q
            refine zx_tableIn C 108 (2 : Int32) q dX10_played_64 (by decide) (by decide) rfl (by decide) ?_
            refine zx_aload_n C dX10_played_108 1 rfl ?_
            refine zx_getI C zs_223 fg_X10_276 rfl dX10_played_109 ?_
            exact zx_iret C hr dX10_played_112 h
          | 3, _, q =>
            replace h := h.2.2.2.1 q
            refine zx_tableIn C 113 (3 : Int32) q dX10_played_64 (by decide) (by decide) rfl (by decide) ?_
            refine zx_aload_n C dX10_played_113 1 rfl ?_
            refine zx_getI C zs_223 fg_X10_288 rfl dX10_played_114 ?_
            exact zx_iret C hr dX10_played_117 h
          | 4, _, q =>
            replace h := h.2.2.2.2.1 q
            refine zx_tableIn C 118 (4 : Int32) q dX10_played_64 (by decide) (by decide) rfl (by decide) ?_
            refine zx_aload_n C dX10_played_118 1 rfl ?_
            refine zx_getI C zs_223 fg_X10_285 rfl dX10_played_119 ?_
            exact zx_iret C hr dX10_played_122 h
          | i + 5, hi, _ => exact absurd hi (by omega)
      · replace h := h.2 q
        refine zx_aload_n C dX10_played_50 1 rfl ?_
        refine zx_getR C zs_223 fg_X10_68 rfl 243 rfl dX10_played_51 ?_
        refine zx_iload C dX10_played_54 5 rfl ?_
        refine zx_sipush (v := (200 : Int32)) C dX10_played_56 (by decide) ?_
        refine zx_isub C dX10_played_59 ?_
        obtain ⟨bd12, h⟩ := h
        refine zx_iald C ((a4 - (200 : Int32))).toNatClampNeg zs_243 bd12 rfl dX10_played_60 ?_
        exact zx_iret C hr dX10_played_61 h
    · replace h := h.2 q
      refine zx_bipush (v := (-2 : Int32)) C dX10_played_22 (by decide) ?_
      exact zx_iret C hr dX10_played_24 h
def w_X10_print_59 (x_2 : Int32) (P : Int32 → zSto → Prop)  : Nat → Int32 → Int32 → zSto → Prop
  | 0, _, _, _ => False
  | n + 1, x_4, x_5, σ => ((x_2 ≤ x_5 → P x_4 σ) ∧ (¬ x_2 ≤ x_5 → (vp_in x_5 16 ∧ (∀ x14 : Int32, x14 = (x_4 + (σ.1 236 (x_5).toNatClampNeg)) → (∀ x15 : Int32, x15 = (x_5 + (1 : Int32)) → w_X10_print_59 x_2 P n x14 x15 σ)))))
def w_X10_print (a1 : Int32) (a2 : Int32) (a3 : Int32) (σ : zSto) (P : Int32 → zSto → Prop) : Prop := (∀ σ1 : zSto, σ1 = zI σ 223 0 (0 : Int32) → (w_X10_in a3 (0 : Int32) (100 : Int32) σ1 (fun (r3 : Int32) (σ2 : zSto) => (r3 = 0 ∨ r3 = 1) → ((r3 = 0 → P (-1 : Int32) σ2) ∧ (¬ r3 = 0 → (w_X10_hand a1 (0 : Int32) σ2 (fun (r5 : Int32) (σ4 : zSto) => (r5 = 0 ∨ r5 = 1) → ((r5 = 0 → P (-1 : Int32) σ4) ∧ (¬ r5 = 0 → (w_X10_isPost a2 σ4 (fun (r7 : Int32) (σ6 : zSto) => (r7 = 0 ∨ r7 = 1) → ((r7 = 0 → P (-1 : Int32) σ6) ∧ (¬ r7 = 0 → (w_X10_postOf a2 (4 : Int32) σ6 (fun (r9 : Int32) (σ8 : zSto) => ((¬ r9 = (-1 : Int32) → (w_X10_findOdds a2 σ8 (fun (σ10 : zSto) => (w_X10_enough a3 σ10 (fun (r12 : Int32) (σ11 : zSto) => (∃ n : Nat, w_X10_print_59 a2 P  n r12 (0 : Int32) σ11)))))) ∧ (r9 = (-1 : Int32) → P (-1 : Int32) σ8)))))))))))))))))
set_option maxRecDepth 100000 in
set_option maxHeartbeats 4000000 in
theorem k_X10_print_59 {p : Program} {l : Launch} {e : Env} {s : State} {m : MethodId} {args : Array Value} {below : List Frame} {meth : Method} {c : Code} {D : va_G} {cy : Nat → ClassId} {g : Nat → Nat} (C : zC p s m args meth c cX10_print RX10 6 D cy g) (hr : meth.sig.returnType = (some .int)) {P : Int32 → zSto → Prop} (x_2 : Int32)    : ∀ (n : Nat) (x_4 : Int32) (x_5 : Int32) (σ : zSto), w_X10_print_59 x_2 P n x_4 x_5 σ → zX p l e (zrm 4 88) s m args below meth c 0 0 (zQi P below args s D cy g) 6 D cy g 59 [(0, .ref (g 223)), (2, .int x_2), (4, .int x_4), (5, .int x_5)] [] σ := by
  intro n
  induction n with
  | zero => intro x_4 x_5 σ h; exact h.elim
  | succ n ih =>
    intro x_4 x_5 σ h
    unfold w_X10_print_59 at h
    refine zx_iload C dX10_print_59 3 rfl ?_
    refine zx_iload_n C dX10_print_61 1 rfl ?_
    refine zx_icmp_ge C 83 dX10_print_62 (by decide) (fun q => ?_) (fun q => ?_)
    · replace h := h.1 q
      refine zx_iload C dX10_print_83 2 rfl ?_
      exact zx_iret C hr dX10_print_85 h
    · replace h := h.2 q
      refine zx_iload C dX10_print_65 2 rfl ?_
      refine zx_aload_n C dX10_print_67 0 rfl ?_
      refine zx_getR C zs_223 fg_X10_47 rfl 236 rfl dX10_print_68 ?_
      refine zx_iload C dX10_print_71 3 rfl ?_
      obtain ⟨bd13, h⟩ := h
      refine zx_iald C (x_5).toNatClampNeg zs_236 bd13 rfl dX10_print_73 ?_
      refine zx_iadd C dX10_print_74 ?_
      refine zx_topi (fun x14 ex14 => ?_)
      replace h := h x14 ex14
      refine zx_istore (lv' := [(4, .int x14), (0, .ref (g 223)), (2, .int x_2), (5, .int x_5)]) C dX10_print_75 (by decide) rfl ?_
      obtain ⟨x15, ex15⟩ : ∃ y : Int32, y = (x_5 + (1 : Int32)) := ⟨_, rfl⟩
      replace h := h x15 ex15
      refine zx_iinc (v := x15) (lv' := [(5, .int x15), (4, .int x14), (0, .ref (g 223)), (2, .int x_2)]) C dX10_print_77 3 rfl (by rw [ex15]; rfl) (by decide) rfl ?_
      refine zx_goto C 59 dX10_print_80 (by decide) ?_
      refine zx_lv (lv' := [(0, .ref (g 223)), (2, .int x_2), (4, .int x14), (5, .int x15)]) [2, 3, 1, 0] rfl ?_
      exact ih x14 x15 σ h
set_option maxRecDepth 100000 in
set_option maxHeartbeats 4000000 in
theorem c_X10_print (l : Launch) (D : va_G) (cy : Nat → ClassId) (g : Nat → Nat) (a1 : Int32) (a2 : Int32) (a3 : Int32)  (σ : zSto) {P : Int32 → zSto → Prop} (h : w_X10_print a1 a2 a3 σ P) : zMi l yX10_print cX10_print 6 (some .int) (zrm 4 88) D cy g [.ref (g 223), .int a1, .int a2, .int a3] σ P := by
  unfold w_X10_print at h
  refine zm_i RX10 rfl (by decide +kernel) (Nat.le_of_ble_eq_true rfl) ?_
  intro p e s m below meth c C hr
  refine zx_lv (lv' := [(0, .ref (g 223)), (1, .int a1), (2, .int a2), (3, .int a3)]) [0, 1, 2, 3] rfl ?_
  refine zx_aload_n C dX10_print_0 0 rfl ?_
  refine zx_iconst (v := (0 : Int32)) C dX10_print_1 (by decide) ?_
  refine zx_putI C zs_223 fp_X10_91 rfl dX10_print_2 ?_
  refine zx_sig (fun σ1 eσ1 => ?_)
  replace h := h σ1 eσ1
  refine zx_iload_n C dX10_print_5 3 rfl ?_
  refine zx_iconst (v := (0 : Int32)) C dX10_print_6 (by decide) ?_
  refine zx_bipush (v := (100 : Int32)) C dX10_print_7 (by decide) ?_
  refine zx_cSb C [.int a3, .int (0 : Int32), .int (100 : Int32)] lk_X10_103 (c_X10_in l D cy g a3 (0 : Int32) (100 : Int32)  σ1 h) ⟨by decide, by decide⟩ ⟨rfl, rfl⟩ ⟨Nat.zero_le _, Nat.zero_le _⟩ rfl rfl (Nat.le_of_ble_eq_true rfl) dX10_print_9 (fun r3 σ2 hb h => ?_)
  replace h := h hb
  refine zx_if_eq C 42 dX10_print_12 (by decide) (fun q => ?_) (fun q => ?_)
  · replace h := h.1 q
    refine zx_iconst (v := (-1 : Int32)) C dX10_print_42 (by decide) ?_
    exact zx_iret C hr dX10_print_43 h
  · replace h := h.2 q
    refine zx_aload_n C dX10_print_15 0 rfl ?_
    refine zx_iload_n C dX10_print_16 1 rfl ?_
    refine zx_iconst (v := (0 : Int32)) C dX10_print_17 (by decide) ?_
    refine zx_cVb C [.int a1, .int (0 : Int32)] lk_X10_257 (c_X10_hand l D cy g a1 (0 : Int32)  σ2 h) zs_223 rfl ⟨by decide, by decide⟩ ⟨rfl, rfl⟩ ⟨Nat.zero_le _, Nat.zero_le _⟩ rfl rfl (Nat.le_of_ble_eq_true rfl) dX10_print_18 (fun r5 σ4 hb h => ?_)
    replace h := h hb
    refine zx_if_eq C 42 dX10_print_21 (by decide) (fun q => ?_) (fun q => ?_)
    · replace h := h.1 q
      refine zx_iconst (v := (-1 : Int32)) C dX10_print_42 (by decide) ?_
      exact zx_iret C hr dX10_print_43 h
    · replace h := h.2 q
      refine zx_aload_n C dX10_print_24 0 rfl ?_
      refine zx_iload_n C dX10_print_25 2 rfl ?_
      refine zx_cVb C [.int a2] lk_X10_260 (c_X10_isPost l D cy g a2  σ4 h) zs_223 rfl ⟨by decide, by decide⟩ ⟨rfl, rfl⟩ ⟨Nat.zero_le _, Nat.zero_le _⟩ rfl rfl (Nat.le_of_ble_eq_true rfl) dX10_print_26 (fun r7 σ6 hb h => ?_)
      replace h := h hb
      refine zx_if_eq C 42 dX10_print_29 (by decide) (fun q => ?_) (fun q => ?_)
      · replace h := h.1 q
        refine zx_iconst (v := (-1 : Int32)) C dX10_print_42 (by decide) ?_
        exact zx_iret C hr dX10_print_43 h
      · replace h := h.2 q
        refine zx_aload_n C dX10_print_32 0 rfl ?_
        refine zx_iload_n C dX10_print_33 2 rfl ?_
        refine zx_iconst (v := (4 : Int32)) C dX10_print_34 (by decide) ?_
        refine zx_cVi C [.int a2, .int (4 : Int32)] lk_X10_242 (c_X10_postOf l D cy g a2 (4 : Int32)  σ6 h) zs_223 rfl ⟨by decide, by decide⟩ ⟨rfl, rfl⟩ ⟨Nat.zero_le _, Nat.zero_le _⟩ rfl rfl (Nat.le_of_ble_eq_true rfl) dX10_print_35 (fun r9 σ8 h => ?_)
        refine zx_iconst (v := (-1 : Int32)) C dX10_print_38 (by decide) ?_
        refine zx_icmp_ne C 44 dX10_print_39 (by decide) (fun q => ?_) (fun q => ?_)
        · replace h := h.1 q
          refine zx_aload_n C dX10_print_44 0 rfl ?_
          refine zx_iload_n C dX10_print_45 2 rfl ?_
          refine zx_cVv C [.int a2] lk_X10_360 (c_X10_findOdds l D cy g a2  σ8 h) zs_223 rfl ⟨by decide, by decide⟩ ⟨rfl, rfl⟩ ⟨Nat.zero_le _, Nat.zero_le _⟩ rfl rfl (Nat.le_of_ble_eq_true rfl) dX10_print_46 (fun σ10 h => ?_)
          refine zx_aload_n C dX10_print_49 0 rfl ?_
          refine zx_iload_n C dX10_print_50 3 rfl ?_
          refine zx_cVi C [.int a3] lk_X10_365 (c_X10_enough l D cy g a3  σ10 h) zs_223 rfl ⟨by decide, by decide⟩ ⟨rfl, rfl⟩ ⟨Nat.zero_le _, Nat.zero_le _⟩ rfl rfl (Nat.le_of_ble_eq_true rfl) dX10_print_51 (fun r12 σ11 h => ?_)
          refine zx_istore (lv' := [(4, .int r12), (0, .ref (g 223)), (1, .int a1), (2, .int a2), (3, .int a3)]) C dX10_print_54 (by decide) rfl ?_
          refine zx_iconst (v := (0 : Int32)) C dX10_print_56 (by decide) ?_
          refine zx_istore (lv' := [(5, .int (0 : Int32)), (4, .int r12), (0, .ref (g 223)), (1, .int a1), (2, .int a2), (3, .int a3)]) C dX10_print_57 (by decide) rfl ?_
          obtain ⟨n, h⟩ := h
          refine zx_lv (lv' := [(0, .ref (g 223)), (2, .int a2), (4, .int r12), (5, .int (0 : Int32))]) [2, 4, 1, 0] rfl ?_
          exact k_X10_print_59 C hr (a2)   n r12 (0 : Int32) σ11 h
        · replace h := h.2 q
          refine zx_iconst (v := (-1 : Int32)) C dX10_print_42 (by decide) ?_
          exact zx_iret C hr dX10_print_43 h
def w_X10_most_25 (x_2 : Int32) (x_4 : Int32) (P : Int32 → zSto → Prop)  : Nat → Int32 → Int32 → Int32 → zSto → Prop
  | 0, _, _, _, _ => False
  | n + 1, x_5, x_6, x_7, σ => (((4 : Int32) ≤ x_7 → P x_5 σ) ∧ (¬ (4 : Int32) ≤ x_7 → (w_X10_everyone  σ (fun (r5 : Int32) (σ4 : zSto) => (w_X10_go x_7 x_2 r5 σ4 (fun (σ6 : zSto) => ((x_4 = 0 → (w_X10_gathered  σ6 (fun (r8 : Int32) (σ7 : zSto) => ((x_5 = (-1 : Int32) → ((¬ x_7 = x_7 → (∀ x9 : Int32, x9 = (x_7 + (1 : Int32)) → w_X10_most_25 x_2 x_4 P n x_7 x_6 x9 σ7)) ∧ (x_7 = x_7 → (∀ x10 : Int32, x10 = (x_7 + (1 : Int32)) → w_X10_most_25 x_2 x_4 P n x_7 r8 x10 σ7)))) ∧ (¬ x_5 = (-1 : Int32) → ((r8 ≤ x_6 → ((¬ x_5 = x_7 → (∀ x11 : Int32, x11 = (x_7 + (1 : Int32)) → w_X10_most_25 x_2 x_4 P n x_5 x_6 x11 σ7)) ∧ (x_5 = x_7 → (∀ x12 : Int32, x12 = (x_7 + (1 : Int32)) → w_X10_most_25 x_2 x_4 P n x_5 r8 x12 σ7)))) ∧ (¬ r8 ≤ x_6 → ((¬ x_7 = x_7 → (∀ x13 : Int32, x13 = (x_7 + (1 : Int32)) → w_X10_most_25 x_2 x_4 P n x_7 x_6 x13 σ7)) ∧ (x_7 = x_7 → (∀ x14 : Int32, x14 = (x_7 + (1 : Int32)) → w_X10_most_25 x_2 x_4 P n x_7 r8 x14 σ7)))))))))) ∧ (¬ x_4 = 0 → (∀ x15 : Int32, x15 = (-(σ6.1 223 31)) → ((x_5 = (-1 : Int32) → ((¬ x_7 = x_7 → (∀ x16 : Int32, x16 = (x_7 + (1 : Int32)) → w_X10_most_25 x_2 x_4 P n x_7 x_6 x16 σ6)) ∧ (x_7 = x_7 → (∀ x17 : Int32, x17 = (x_7 + (1 : Int32)) → w_X10_most_25 x_2 x_4 P n x_7 x15 x17 σ6)))) ∧ (¬ x_5 = (-1 : Int32) → ((x15 ≤ x_6 → ((¬ x_5 = x_7 → (∀ x18 : Int32, x18 = (x_7 + (1 : Int32)) → w_X10_most_25 x_2 x_4 P n x_5 x_6 x18 σ6)) ∧ (x_5 = x_7 → (∀ x19 : Int32, x19 = (x_7 + (1 : Int32)) → w_X10_most_25 x_2 x_4 P n x_5 x15 x19 σ6)))) ∧ (¬ x15 ≤ x_6 → ((¬ x_7 = x_7 → (∀ x20 : Int32, x20 = (x_7 + (1 : Int32)) → w_X10_most_25 x_2 x_4 P n x_7 x_6 x20 σ6)) ∧ (x_7 = x_7 → (∀ x21 : Int32, x21 = (x_7 + (1 : Int32)) → w_X10_most_25 x_2 x_4 P n x_7 x15 x21 σ6))))))))))))))))
def w_X10_most (a1 : Int32) (a2 : Int32) (a3 : Int32) (a4 : Int32) (σ : zSto) (P : Int32 → zSto → Prop) : Prop := (∀ σ1 : zSto, σ1 = zI σ 223 0 (0 : Int32) → (w_X10_hand a1 a3 σ1 (fun (r3 : Int32) (σ2 : zSto) => (r3 = 0 ∨ r3 = 1) → ((¬ r3 = 0 → (∃ n : Nat, w_X10_most_25 a2 a4 P  n (-1 : Int32) (0 : Int32) (0 : Int32) σ2)) ∧ (r3 = 0 → P (-1 : Int32) σ2)))))
set_option maxRecDepth 100000 in
set_option maxHeartbeats 4000000 in
theorem k_X10_most_25 {p : Program} {l : Launch} {e : Env} {s : State} {m : MethodId} {args : Array Value} {below : List Frame} {meth : Method} {c : Code} {D : va_G} {cy : Nat → ClassId} {g : Nat → Nat} (C : zC p s m args meth c cX10_most RX10 9 D cy g) (hr : meth.sig.returnType = (some .int)) {P : Int32 → zSto → Prop} (x_2 : Int32) (x_4 : Int32)    : ∀ (n : Nat) (x_5 : Int32) (x_6 : Int32) (x_7 : Int32) (σ : zSto), w_X10_most_25 x_2 x_4 P n x_5 x_6 x_7 σ → zX p l e (zrm 6 139) s m args below meth c 0 0 (zQi P below args s D cy g) 9 D cy g 25 [(0, .ref (g 223)), (2, .int x_2), (4, .int x_4), (5, .int x_5), (6, .int x_6), (7, .int x_7)] [] σ := by
  intro n
  induction n with
  | zero => intro x_5 x_6 x_7 σ h; exact h.elim
  | succ n ih =>
    intro x_5 x_6 x_7 σ h
    unfold w_X10_most_25 at h
    refine zx_iload C dX10_most_25 5 rfl ?_
    refine zx_iconst (v := (4 : Int32)) C dX10_most_27 (by decide) ?_
    refine zx_icmp_ge C 105 dX10_most_28 (by decide) (fun q => ?_) (fun q => ?_)
    · replace h := h.1 q
      refine zx_iload C dX10_most_105 3 rfl ?_
      exact zx_iret C hr dX10_most_107 h
    · replace h := h.2 q
      refine zx_aload_n C dX10_most_31 0 rfl ?_
      refine zx_iload C dX10_most_32 5 rfl ?_
      refine zx_iload_n C dX10_most_34 1 rfl ?_
      refine zx_aload_n C dX10_most_35 0 rfl ?_
      refine zx_cVi C [] lk_X10_307 (c_X10_everyone l D cy g   σ h) zs_223 rfl ⟨by decide, by decide⟩ ⟨rfl, rfl⟩ ⟨Nat.zero_le _, Nat.zero_le _⟩ rfl rfl (Nat.le_of_ble_eq_true rfl) dX10_most_36 (fun r5 σ4 h => ?_)
      refine zx_cVv C [.int x_7, .int x_2, .int r5] lk_X10_310 (c_X10_go l D cy g x_7 x_2 r5  σ4 h) zs_223 rfl ⟨by decide, by decide⟩ ⟨rfl, rfl⟩ ⟨Nat.zero_le _, Nat.zero_le _⟩ rfl rfl (Nat.le_of_ble_eq_true rfl) dX10_most_39 (fun σ6 h => ?_)
      refine zx_iload C dX10_most_42 2 rfl ?_
      refine zx_if_eq C 55 dX10_most_44 (by decide) (fun q => ?_) (fun q => ?_)
      · replace h := h.1 q
        refine zx_aload_n C dX10_most_55 0 rfl ?_
        refine zx_cVi C [] lk_X10_317 (c_X10_gathered l D cy g   σ6 h) zs_223 rfl ⟨by decide, by decide⟩ ⟨rfl, rfl⟩ ⟨Nat.zero_le _, Nat.zero_le _⟩ rfl rfl (Nat.le_of_ble_eq_true rfl) dX10_most_56 (fun r8 σ7 h => ?_)
        refine zx_istore (lv' := [(8, .int r8), (0, .ref (g 223)), (2, .int x_2), (4, .int x_4), (5, .int x_5), (6, .int x_6), (7, .int x_7)]) C dX10_most_59 (by decide) rfl ?_
        refine zx_iload C dX10_most_61 4 rfl ?_
        refine zx_iconst (v := (-1 : Int32)) C dX10_most_63 (by decide) ?_
        refine zx_icmp_eq C 74 dX10_most_64 (by decide) (fun q => ?_) (fun q => ?_)
        · replace h := h.1 q
          refine zx_iload C dX10_most_74 6 rfl ?_
          refine zx_goto C 81 dX10_most_76 (by decide) ?_
          refine zx_istore (lv' := [(5, .int x_7), (8, .int r8), (0, .ref (g 223)), (2, .int x_2), (4, .int x_4), (6, .int x_6), (7, .int x_7)]) C dX10_most_81 (by decide) rfl ?_
          refine zx_iload C dX10_most_83 0 rfl ?_
          refine zx_iload C dX10_most_85 6 rfl ?_
          refine zx_icmp_ne C 95 dX10_most_87 (by decide) (fun q => ?_) (fun q => ?_)
          · replace h := h.1 q
            refine zx_iload C dX10_most_95 5 rfl ?_
            refine zx_istore (lv' := [(6, .int x_6), (5, .int x_7), (8, .int r8), (0, .ref (g 223)), (2, .int x_2), (4, .int x_4), (7, .int x_7)]) C dX10_most_97 (by decide) rfl ?_
            obtain ⟨x9, ex9⟩ : ∃ y : Int32, y = (x_7 + (1 : Int32)) := ⟨_, rfl⟩
            replace h := h x9 ex9
            refine zx_iinc (v := x9) (lv' := [(7, .int x9), (6, .int x_6), (5, .int x_7), (8, .int r8), (0, .ref (g 223)), (2, .int x_2), (4, .int x_4)]) C dX10_most_99 6 rfl (by rw [ex9]; rfl) (by decide) rfl ?_
            refine zx_goto C 25 dX10_most_102 (by decide) ?_
            refine zx_lv (lv' := [(0, .ref (g 223)), (2, .int x_2), (4, .int x_4), (5, .int x_7), (6, .int x_6), (7, .int x9)]) [4, 5, 6, 2, 1, 0] rfl ?_
            exact ih x_7 x_6 x9 σ7 h
          · replace h := h.2 q
            refine zx_iload C dX10_most_90 1 rfl ?_
            refine zx_goto C 97 dX10_most_92 (by decide) ?_
            refine zx_istore (lv' := [(6, .int r8), (5, .int x_7), (8, .int r8), (0, .ref (g 223)), (2, .int x_2), (4, .int x_4), (7, .int x_7)]) C dX10_most_97 (by decide) rfl ?_
            obtain ⟨x10, ex10⟩ : ∃ y : Int32, y = (x_7 + (1 : Int32)) := ⟨_, rfl⟩
            replace h := h x10 ex10
            refine zx_iinc (v := x10) (lv' := [(7, .int x10), (6, .int r8), (5, .int x_7), (8, .int r8), (0, .ref (g 223)), (2, .int x_2), (4, .int x_4)]) C dX10_most_99 6 rfl (by rw [ex10]; rfl) (by decide) rfl ?_
            refine zx_goto C 25 dX10_most_102 (by decide) ?_
            refine zx_lv (lv' := [(0, .ref (g 223)), (2, .int x_2), (4, .int x_4), (5, .int x_7), (6, .int r8), (7, .int x10)]) [4, 5, 6, 2, 1, 0] rfl ?_
            exact ih x_7 r8 x10 σ7 h
        · replace h := h.2 q
          refine zx_iload C dX10_most_67 0 rfl ?_
          refine zx_iload C dX10_most_69 5 rfl ?_
          refine zx_icmp_le C 79 dX10_most_71 (by decide) (fun q => ?_) (fun q => ?_)
          · replace h := h.1 q
            refine zx_iload C dX10_most_79 4 rfl ?_
            refine zx_istore (lv' := [(5, .int x_5), (8, .int r8), (0, .ref (g 223)), (2, .int x_2), (4, .int x_4), (6, .int x_6), (7, .int x_7)]) C dX10_most_81 (by decide) rfl ?_
            refine zx_iload C dX10_most_83 0 rfl ?_
            refine zx_iload C dX10_most_85 6 rfl ?_
            refine zx_icmp_ne C 95 dX10_most_87 (by decide) (fun q => ?_) (fun q => ?_)
            · replace h := h.1 q
              refine zx_iload C dX10_most_95 5 rfl ?_
              refine zx_istore (lv' := [(6, .int x_6), (5, .int x_5), (8, .int r8), (0, .ref (g 223)), (2, .int x_2), (4, .int x_4), (7, .int x_7)]) C dX10_most_97 (by decide) rfl ?_
              obtain ⟨x11, ex11⟩ : ∃ y : Int32, y = (x_7 + (1 : Int32)) := ⟨_, rfl⟩
              replace h := h x11 ex11
              refine zx_iinc (v := x11) (lv' := [(7, .int x11), (6, .int x_6), (5, .int x_5), (8, .int r8), (0, .ref (g 223)), (2, .int x_2), (4, .int x_4)]) C dX10_most_99 6 rfl (by rw [ex11]; rfl) (by decide) rfl ?_
              refine zx_goto C 25 dX10_most_102 (by decide) ?_
              refine zx_lv (lv' := [(0, .ref (g 223)), (2, .int x_2), (4, .int x_4), (5, .int x_5), (6, .int x_6), (7, .int x11)]) [4, 5, 6, 2, 1, 0] rfl ?_
              exact ih x_5 x_6 x11 σ7 h
            · replace h := h.2 q
              refine zx_iload C dX10_most_90 1 rfl ?_
              refine zx_goto C 97 dX10_most_92 (by decide) ?_
              refine zx_istore (lv' := [(6, .int r8), (5, .int x_5), (8, .int r8), (0, .ref (g 223)), (2, .int x_2), (4, .int x_4), (7, .int x_7)]) C dX10_most_97 (by decide) rfl ?_
              obtain ⟨x12, ex12⟩ : ∃ y : Int32, y = (x_7 + (1 : Int32)) := ⟨_, rfl⟩
              replace h := h x12 ex12
              refine zx_iinc (v := x12) (lv' := [(7, .int x12), (6, .int r8), (5, .int x_5), (8, .int r8), (0, .ref (g 223)), (2, .int x_2), (4, .int x_4)]) C dX10_most_99 6 rfl (by rw [ex12]; rfl) (by decide) rfl ?_
              refine zx_goto C 25 dX10_most_102 (by decide) ?_
              refine zx_lv (lv' := [(0, .ref (g 223)), (2, .int x_2), (4, .int x_4), (5, .int x_5), (6, .int r8), (7, .int x12)]) [4, 5, 6, 2, 1, 0] rfl ?_
              exact ih x_5 r8 x12 σ7 h
          · replace h := h.2 q
            refine zx_iload C dX10_most_74 6 rfl ?_
            refine zx_goto C 81 dX10_most_76 (by decide) ?_
            refine zx_istore (lv' := [(5, .int x_7), (8, .int r8), (0, .ref (g 223)), (2, .int x_2), (4, .int x_4), (6, .int x_6), (7, .int x_7)]) C dX10_most_81 (by decide) rfl ?_
            refine zx_iload C dX10_most_83 0 rfl ?_
            refine zx_iload C dX10_most_85 6 rfl ?_
            refine zx_icmp_ne C 95 dX10_most_87 (by decide) (fun q => ?_) (fun q => ?_)
            · replace h := h.1 q
              refine zx_iload C dX10_most_95 5 rfl ?_
              refine zx_istore (lv' := [(6, .int x_6), (5, .int x_7), (8, .int r8), (0, .ref (g 223)), (2, .int x_2), (4, .int x_4), (7, .int x_7)]) C dX10_most_97 (by decide) rfl ?_
              obtain ⟨x13, ex13⟩ : ∃ y : Int32, y = (x_7 + (1 : Int32)) := ⟨_, rfl⟩
              replace h := h x13 ex13
              refine zx_iinc (v := x13) (lv' := [(7, .int x13), (6, .int x_6), (5, .int x_7), (8, .int r8), (0, .ref (g 223)), (2, .int x_2), (4, .int x_4)]) C dX10_most_99 6 rfl (by rw [ex13]; rfl) (by decide) rfl ?_
              refine zx_goto C 25 dX10_most_102 (by decide) ?_
              refine zx_lv (lv' := [(0, .ref (g 223)), (2, .int x_2), (4, .int x_4), (5, .int x_7), (6, .int x_6), (7, .int x13)]) [4, 5, 6, 2, 1, 0] rfl ?_
              exact ih x_7 x_6 x13 σ7 h
            · replace h := h.2 q
              refine zx_iload C dX10_most_90 1 rfl ?_
              refine zx_goto C 97 dX10_most_92 (by decide) ?_
              refine zx_istore (lv' := [(6, .int r8), (5, .int x_7), (8, .int r8), (0, .ref (g 223)), (2, .int x_2), (4, .int x_4), (7, .int x_7)]) C dX10_most_97 (by decide) rfl ?_
              obtain ⟨x14, ex14⟩ : ∃ y : Int32, y = (x_7 + (1 : Int32)) := ⟨_, rfl⟩
              replace h := h x14 ex14
              refine zx_iinc (v := x14) (lv' := [(7, .int x14), (6, .int r8), (5, .int x_7), (8, .int r8), (0, .ref (g 223)), (2, .int x_2), (4, .int x_4)]) C dX10_most_99 6 rfl (by rw [ex14]; rfl) (by decide) rfl ?_
              refine zx_goto C 25 dX10_most_102 (by decide) ?_
              refine zx_lv (lv' := [(0, .ref (g 223)), (2, .int x_2), (4, .int x_4), (5, .int x_7), (6, .int r8), (7, .int x14)]) [4, 5, 6, 2, 1, 0] rfl ?_
              exact ih x_7 r8 x14 σ7 h
      · replace h := h.2 q
        refine zx_aload_n C dX10_most_47 0 rfl ?_
        refine zx_getI C zs_223 fg_X10_276 rfl dX10_most_48 ?_
        refine zx_ineg C dX10_most_51 ?_
        refine zx_goto C 59 dX10_most_52 (by decide) ?_
        refine zx_topi (fun x15 ex15 => ?_)
        replace h := h x15 ex15
        refine zx_istore (lv' := [(8, .int x15), (0, .ref (g 223)), (2, .int x_2), (4, .int x_4), (5, .int x_5), (6, .int x_6), (7, .int x_7)]) C dX10_most_59 (by decide) rfl ?_
        refine zx_iload C dX10_most_61 4 rfl ?_
        refine zx_iconst (v := (-1 : Int32)) C dX10_most_63 (by decide) ?_
        refine zx_icmp_eq C 74 dX10_most_64 (by decide) (fun q => ?_) (fun q => ?_)
        · replace h := h.1 q
          refine zx_iload C dX10_most_74 6 rfl ?_
          refine zx_goto C 81 dX10_most_76 (by decide) ?_
          refine zx_istore (lv' := [(5, .int x_7), (8, .int x15), (0, .ref (g 223)), (2, .int x_2), (4, .int x_4), (6, .int x_6), (7, .int x_7)]) C dX10_most_81 (by decide) rfl ?_
          refine zx_iload C dX10_most_83 0 rfl ?_
          refine zx_iload C dX10_most_85 6 rfl ?_
          refine zx_icmp_ne C 95 dX10_most_87 (by decide) (fun q => ?_) (fun q => ?_)
          · replace h := h.1 q
            refine zx_iload C dX10_most_95 5 rfl ?_
            refine zx_istore (lv' := [(6, .int x_6), (5, .int x_7), (8, .int x15), (0, .ref (g 223)), (2, .int x_2), (4, .int x_4), (7, .int x_7)]) C dX10_most_97 (by decide) rfl ?_
            obtain ⟨x16, ex16⟩ : ∃ y : Int32, y = (x_7 + (1 : Int32)) := ⟨_, rfl⟩
            replace h := h x16 ex16
            refine zx_iinc (v := x16) (lv' := [(7, .int x16), (6, .int x_6), (5, .int x_7), (8, .int x15), (0, .ref (g 223)), (2, .int x_2), (4, .int x_4)]) C dX10_most_99 6 rfl (by rw [ex16]; rfl) (by decide) rfl ?_
            refine zx_goto C 25 dX10_most_102 (by decide) ?_
            refine zx_lv (lv' := [(0, .ref (g 223)), (2, .int x_2), (4, .int x_4), (5, .int x_7), (6, .int x_6), (7, .int x16)]) [4, 5, 6, 2, 1, 0] rfl ?_
            exact ih x_7 x_6 x16 σ6 h
          · replace h := h.2 q
            refine zx_iload C dX10_most_90 1 rfl ?_
            refine zx_goto C 97 dX10_most_92 (by decide) ?_
            refine zx_istore (lv' := [(6, .int x15), (5, .int x_7), (8, .int x15), (0, .ref (g 223)), (2, .int x_2), (4, .int x_4), (7, .int x_7)]) C dX10_most_97 (by decide) rfl ?_
            obtain ⟨x17, ex17⟩ : ∃ y : Int32, y = (x_7 + (1 : Int32)) := ⟨_, rfl⟩
            replace h := h x17 ex17
            refine zx_iinc (v := x17) (lv' := [(7, .int x17), (6, .int x15), (5, .int x_7), (8, .int x15), (0, .ref (g 223)), (2, .int x_2), (4, .int x_4)]) C dX10_most_99 6 rfl (by rw [ex17]; rfl) (by decide) rfl ?_
            refine zx_goto C 25 dX10_most_102 (by decide) ?_
            refine zx_lv (lv' := [(0, .ref (g 223)), (2, .int x_2), (4, .int x_4), (5, .int x_7), (6, .int x15), (7, .int x17)]) [4, 5, 6, 2, 1, 0] rfl ?_
            exact ih x_7 x15 x17 σ6 h
        · replace h := h.2 q
          refine zx_iload C dX10_most_67 0 rfl ?_
          refine zx_iload C dX10_most_69 5 rfl ?_
          refine zx_icmp_le C 79 dX10_most_71 (by decide) (fun q => ?_) (fun q => ?_)
          · replace h := h.1 q
            refine zx_iload C dX10_most_79 4 rfl ?_
            refine zx_istore (lv' := [(5, .int x_5), (8, .int x15), (0, .ref (g 223)), (2, .int x_2), (4, .int x_4), (6, .int x_6), (7, .int x_7)]) C dX10_most_81 (by decide) rfl ?_
            refine zx_iload C dX10_most_83 0 rfl ?_
            refine zx_iload C dX10_most_85 6 rfl ?_
            refine zx_icmp_ne C 95 dX10_most_87 (by decide) (fun q => ?_) (fun q => ?_)
            · replace h := h.1 q
              refine zx_iload C dX10_most_95 5 rfl ?_
              refine zx_istore (lv' := [(6, .int x_6), (5, .int x_5), (8, .int x15), (0, .ref (g 223)), (2, .int x_2), (4, .int x_4), (7, .int x_7)]) C dX10_most_97 (by decide) rfl ?_
              obtain ⟨x18, ex18⟩ : ∃ y : Int32, y = (x_7 + (1 : Int32)) := ⟨_, rfl⟩
              replace h := h x18 ex18
              refine zx_iinc (v := x18) (lv' := [(7, .int x18), (6, .int x_6), (5, .int x_5), (8, .int x15), (0, .ref (g 223)), (2, .int x_2), (4, .int x_4)]) C dX10_most_99 6 rfl (by rw [ex18]; rfl) (by decide) rfl ?_
              refine zx_goto C 25 dX10_most_102 (by decide) ?_
              refine zx_lv (lv' := [(0, .ref (g 223)), (2, .int x_2), (4, .int x_4), (5, .int x_5), (6, .int x_6), (7, .int x18)]) [4, 5, 6, 2, 1, 0] rfl ?_
              exact ih x_5 x_6 x18 σ6 h
            · replace h := h.2 q
              refine zx_iload C dX10_most_90 1 rfl ?_
              refine zx_goto C 97 dX10_most_92 (by decide) ?_
              refine zx_istore (lv' := [(6, .int x15), (5, .int x_5), (8, .int x15), (0, .ref (g 223)), (2, .int x_2), (4, .int x_4), (7, .int x_7)]) C dX10_most_97 (by decide) rfl ?_
              obtain ⟨x19, ex19⟩ : ∃ y : Int32, y = (x_7 + (1 : Int32)) := ⟨_, rfl⟩
              replace h := h x19 ex19
              refine zx_iinc (v := x19) (lv' := [(7, .int x19), (6, .int x15), (5, .int x_5), (8, .int x15), (0, .ref (g 223)), (2, .int x_2), (4, .int x_4)]) C dX10_most_99 6 rfl (by rw [ex19]; rfl) (by decide) rfl ?_
              refine zx_goto C 25 dX10_most_102 (by decide) ?_
              refine zx_lv (lv' := [(0, .ref (g 223)), (2, .int x_2), (4, .int x_4), (5, .int x_5), (6, .int x15), (7, .int x19)]) [4, 5, 6, 2, 1, 0] rfl ?_
              exact ih x_5 x15 x19 σ6 h
          · replace h := h.2 q
            refine zx_iload C dX10_most_74 6 rfl ?_
            refine zx_goto C 81 dX10_most_76 (by decide) ?_
            refine zx_istore (lv' := [(5, .int x_7), (8, .int x15), (0, .ref (g 223)), (2, .int x_2), (4, .int x_4), (6, .int x_6), (7, .int x_7)]) C dX10_most_81 (by decide) rfl ?_
            refine zx_iload C dX10_most_83 0 rfl ?_
            refine zx_iload C dX10_most_85 6 rfl ?_
            refine zx_icmp_ne C 95 dX10_most_87 (by decide) (fun q => ?_) (fun q => ?_)
            · replace h := h.1 q
              refine zx_iload C dX10_most_95 5 rfl ?_
              refine zx_istore (lv' := [(6, .int x_6), (5, .int x_7), (8, .int x15), (0, .ref (g 223)), (2, .int x_2), (4, .int x_4), (7, .int x_7)]) C dX10_most_97 (by decide) rfl ?_
              obtain ⟨x20, ex20⟩ : ∃ y : Int32, y = (x_7 + (1 : Int32)) := ⟨_, rfl⟩
              replace h := h x20 ex20
              refine zx_iinc (v := x20) (lv' := [(7, .int x20), (6, .int x_6), (5, .int x_7), (8, .int x15), (0, .ref (g 223)), (2, .int x_2), (4, .int x_4)]) C dX10_most_99 6 rfl (by rw [ex20]; rfl) (by decide) rfl ?_
              refine zx_goto C 25 dX10_most_102 (by decide) ?_
              refine zx_lv (lv' := [(0, .ref (g 223)), (2, .int x_2), (4, .int x_4), (5, .int x_7), (6, .int x_6), (7, .int x20)]) [4, 5, 6, 2, 1, 0] rfl ?_
              exact ih x_7 x_6 x20 σ6 h
            · replace h := h.2 q
              refine zx_iload C dX10_most_90 1 rfl ?_
              refine zx_goto C 97 dX10_most_92 (by decide) ?_
              refine zx_istore (lv' := [(6, .int x15), (5, .int x_7), (8, .int x15), (0, .ref (g 223)), (2, .int x_2), (4, .int x_4), (7, .int x_7)]) C dX10_most_97 (by decide) rfl ?_
              obtain ⟨x21, ex21⟩ : ∃ y : Int32, y = (x_7 + (1 : Int32)) := ⟨_, rfl⟩
              replace h := h x21 ex21
              refine zx_iinc (v := x21) (lv' := [(7, .int x21), (6, .int x15), (5, .int x_7), (8, .int x15), (0, .ref (g 223)), (2, .int x_2), (4, .int x_4)]) C dX10_most_99 6 rfl (by rw [ex21]; rfl) (by decide) rfl ?_
              refine zx_goto C 25 dX10_most_102 (by decide) ?_
              refine zx_lv (lv' := [(0, .ref (g 223)), (2, .int x_2), (4, .int x_4), (5, .int x_7), (6, .int x15), (7, .int x21)]) [4, 5, 6, 2, 1, 0] rfl ?_
              exact ih x_7 x15 x21 σ6 h
set_option maxRecDepth 100000 in
set_option maxHeartbeats 4000000 in
theorem c_X10_most (l : Launch) (D : va_G) (cy : Nat → ClassId) (g : Nat → Nat) (a1 : Int32) (a2 : Int32) (a3 : Int32) (a4 : Int32)  (σ : zSto) {P : Int32 → zSto → Prop} (h : w_X10_most a1 a2 a3 a4 σ P) : zMi l yX10_most cX10_most 9 (some .int) (zrm 6 139) D cy g [.ref (g 223), .int a1, .int a2, .int a3, .int a4] σ P := by
  unfold w_X10_most at h
  refine zm_i RX10 rfl (by decide +kernel) (Nat.le_of_ble_eq_true rfl) ?_
  intro p e s m below meth c C hr
  refine zx_lv (lv' := [(0, .ref (g 223)), (1, .int a1), (2, .int a2), (3, .int a3), (4, .int a4)]) [0, 1, 2, 3, 4] rfl ?_
  refine zx_aload_n C dX10_most_0 0 rfl ?_
  refine zx_iconst (v := (0 : Int32)) C dX10_most_1 (by decide) ?_
  refine zx_putI C zs_223 fp_X10_91 rfl dX10_most_2 ?_
  refine zx_sig (fun σ1 eσ1 => ?_)
  replace h := h σ1 eσ1
  refine zx_aload_n C dX10_most_5 0 rfl ?_
  refine zx_iload_n C dX10_most_6 1 rfl ?_
  refine zx_iload_n C dX10_most_7 3 rfl ?_
  refine zx_cVb C [.int a1, .int a3] lk_X10_257 (c_X10_hand l D cy g a1 a3  σ1 h) zs_223 rfl ⟨by decide, by decide⟩ ⟨rfl, rfl⟩ ⟨Nat.zero_le _, Nat.zero_le _⟩ rfl rfl (Nat.le_of_ble_eq_true rfl) dX10_most_8 (fun r3 σ2 hb h => ?_)
  replace h := h hb
  refine zx_if_ne C 16 dX10_most_11 (by decide) (fun q => ?_) (fun q => ?_)
  · replace h := h.1 q
    refine zx_iconst (v := (-1 : Int32)) C dX10_most_16 (by decide) ?_
    refine zx_istore (lv' := [(5, .int (-1 : Int32)), (0, .ref (g 223)), (1, .int a1), (2, .int a2), (3, .int a3), (4, .int a4)]) C dX10_most_17 (by decide) rfl ?_
    refine zx_iconst (v := (0 : Int32)) C dX10_most_19 (by decide) ?_
    refine zx_istore (lv' := [(6, .int (0 : Int32)), (5, .int (-1 : Int32)), (0, .ref (g 223)), (1, .int a1), (2, .int a2), (3, .int a3), (4, .int a4)]) C dX10_most_20 (by decide) rfl ?_
    refine zx_iconst (v := (0 : Int32)) C dX10_most_22 (by decide) ?_
    refine zx_istore (lv' := [(7, .int (0 : Int32)), (6, .int (0 : Int32)), (5, .int (-1 : Int32)), (0, .ref (g 223)), (1, .int a1), (2, .int a2), (3, .int a3), (4, .int a4)]) C dX10_most_23 (by decide) rfl ?_
    obtain ⟨n, h⟩ := h
    refine zx_lv (lv' := [(0, .ref (g 223)), (2, .int a2), (4, .int a4), (5, .int (-1 : Int32)), (6, .int (0 : Int32)), (7, .int (0 : Int32))]) [3, 5, 7, 2, 1, 0] rfl ?_
    exact k_X10_most_25 C hr (a2) (a4)   n (-1 : Int32) (0 : Int32) (0 : Int32) σ2 h
  · replace h := h.2 q
    refine zx_iconst (v := (-1 : Int32)) C dX10_most_14 (by decide) ?_
    exact zx_iret C hr dX10_most_15 h
def w_X10_weeks_37 (x_1 : Int32) (x_2 : Int32) (x_3 : Int32) (x_4 : Int32) (P : Int32 → zSto → Prop)  : Nat → Int32 → Int32 → Int32 → Int32 → zSto → Prop
  | 0, _, _, _, _, _ => False
  | n + 1, x_5, x_6, x_7, x_8, σ => (((10 : Int32) ≤ x_8 → ((x_4 = 0 → P x_5 σ) ∧ (¬ x_4 = 0 → P x_7 σ))) ∧ (¬ (10 : Int32) ≤ x_8 → (w_X10_layRun x_1 x_2 x_3 x_8 σ (fun (r7 : Int32) (σ6 : zSto) => (r7 = 0 ∨ r7 = 1) → (w_X10_gathered  σ6 (fun (r9 : Int32) (σ8 : zSto) => (∀ x10 : Int32, x10 = (x_7 + r9) → ((r9 ≤ x_6 → (w_X10_greater x_6 r9 σ8 (fun (r12 : Int32) (σ11 : zSto) => (∀ x13 : Int32, x13 = (x_8 + (1 : Int32)) → w_X10_weeks_37 x_1 x_2 x_3 x_4 P n x_5 r12 x10 x13 σ11)))) ∧ (¬ r9 ≤ x_6 → (w_X10_greater x_6 r9 σ8 (fun (r15 : Int32) (σ14 : zSto) => (∀ x16 : Int32, x16 = (x_8 + (1 : Int32)) → w_X10_weeks_37 x_1 x_2 x_3 x_4 P n x_8 r15 x10 x16 σ14))))))))))))
def w_X10_weeks (a1 : Int32) (a2 : Int32) (a3 : Int32) (a4 : Int32) (σ : zSto) (P : Int32 → zSto → Prop) : Prop := (∀ σ1 : zSto, σ1 = zI σ 223 0 (0 : Int32) → (w_X10_in a2 (0 : Int32) (3 : Int32) σ1 (fun (r3 : Int32) (σ2 : zSto) => (r3 = 0 ∨ r3 = 1) → ((r3 = 0 → P (-1 : Int32) σ2) ∧ (¬ r3 = 0 → (w_X10_is (0 : Int32) a1 σ2 (fun (r5 : Int32) (σ4 : zSto) => (r5 = 0 ∨ r5 = 1) → ((¬ r5 = 0 → (∃ n : Nat, w_X10_weeks_37 a1 a2 a3 a4 P  n (0 : Int32) (-1 : Int32) (0 : Int32) (0 : Int32) σ4)) ∧ (r5 = 0 → P (-1 : Int32) σ4)))))))))
set_option maxRecDepth 100000 in
set_option maxHeartbeats 4000000 in
theorem k_X10_weeks_37 {p : Program} {l : Launch} {e : Env} {s : State} {m : MethodId} {args : Array Value} {below : List Frame} {meth : Method} {c : Code} {D : va_G} {cy : Nat → ClassId} {g : Nat → Nat} (C : zC p s m args meth c cX10_weeks RX10 11 D cy g) (hr : meth.sig.returnType = (some .int)) {P : Int32 → zSto → Prop} (x_1 : Int32) (x_2 : Int32) (x_3 : Int32) (x_4 : Int32)    : ∀ (n : Nat) (x_5 : Int32) (x_6 : Int32) (x_7 : Int32) (x_8 : Int32) (σ : zSto), w_X10_weeks_37 x_1 x_2 x_3 x_4 P n x_5 x_6 x_7 x_8 σ → zX p l e (zrm 7 163) s m args below meth c 0 0 (zQi P below args s D cy g) 11 D cy g 37 [(0, .ref (g 223)), (1, .int x_1), (2, .int x_2), (3, .int x_3), (4, .int x_4), (5, .int x_5), (6, .int x_6), (7, .int x_7), (8, .int x_8)] [] σ := by
  intro n
  induction n with
  | zero => intro x_5 x_6 x_7 x_8 σ h; exact h.elim
  | succ n ih =>
    intro x_5 x_6 x_7 x_8 σ h
    unfold w_X10_weeks_37 at h
    refine zx_iload C dX10_weeks_37 8 rfl ?_
    refine zx_bipush (v := (10 : Int32)) C dX10_weeks_39 (by decide) ?_
    refine zx_icmp_ge C 99 dX10_weeks_41 (by decide) (fun q => ?_) (fun q => ?_)
    · replace h := h.1 q
      refine zx_iload C dX10_weeks_99 4 rfl ?_
      refine zx_if_eq C 109 dX10_weeks_101 (by decide) (fun q => ?_) (fun q => ?_)
      · replace h := h.1 q
        refine zx_iload C dX10_weeks_109 5 rfl ?_
        exact zx_iret C hr dX10_weeks_111 h
      · replace h := h.2 q
        refine zx_iload C dX10_weeks_104 7 rfl ?_
        refine zx_goto C 111 dX10_weeks_106 (by decide) ?_
        exact zx_iret C hr dX10_weeks_111 h
    · replace h := h.2 q
      refine zx_aload_n C dX10_weeks_44 0 rfl ?_
      refine zx_iload_n C dX10_weeks_45 1 rfl ?_
      refine zx_iload_n C dX10_weeks_46 2 rfl ?_
      refine zx_iload_n C dX10_weeks_47 3 rfl ?_
      refine zx_iload C dX10_weeks_48 8 rfl ?_
      refine zx_cVb C [.int x_1, .int x_2, .int x_3, .int x_8] lk_X10_313 (c_X10_layRun l D cy g x_1 x_2 x_3 x_8  σ h) zs_223 rfl ⟨by decide, by decide⟩ ⟨rfl, rfl⟩ ⟨Nat.zero_le _, Nat.zero_le _⟩ rfl rfl (Nat.le_of_ble_eq_true rfl) dX10_weeks_50 (fun r7 σ6 hb h => ?_)
      replace h := h hb
      refine zx_istore (lv' := [(9, .int r7), (0, .ref (g 223)), (1, .int x_1), (2, .int x_2), (3, .int x_3), (4, .int x_4), (5, .int x_5), (6, .int x_6), (7, .int x_7), (8, .int x_8)]) C dX10_weeks_53 (by decide) rfl ?_
      refine zx_aload_n C dX10_weeks_55 1 rfl ?_
      refine zx_cVi C [] lk_X10_317 (c_X10_gathered l D cy g   σ6 h) zs_223 rfl ⟨by decide, by decide⟩ ⟨rfl, rfl⟩ ⟨Nat.zero_le _, Nat.zero_le _⟩ rfl rfl (Nat.le_of_ble_eq_true rfl) dX10_weeks_56 (fun r9 σ8 h => ?_)
      refine zx_istore (lv' := [(10, .int r9), (9, .int r7), (0, .ref (g 223)), (1, .int x_1), (2, .int x_2), (3, .int x_3), (4, .int x_4), (5, .int x_5), (6, .int x_6), (7, .int x_7), (8, .int x_8)]) C dX10_weeks_59 (by decide) rfl ?_
      refine zx_iload C dX10_weeks_61 9 rfl ?_
      refine zx_iload C dX10_weeks_63 0 rfl ?_
      refine zx_iadd C dX10_weeks_65 ?_
      refine zx_topi (fun x10 ex10 => ?_)
      replace h := h x10 ex10
      refine zx_istore (lv' := [(7, .int x10), (10, .int r9), (9, .int r7), (0, .ref (g 223)), (1, .int x_1), (2, .int x_2), (3, .int x_3), (4, .int x_4), (5, .int x_5), (6, .int x_6), (8, .int x_8)]) C dX10_weeks_66 (by decide) rfl ?_
      refine zx_iload C dX10_weeks_68 1 rfl ?_
      refine zx_iload C dX10_weeks_70 9 rfl ?_
      refine zx_icmp_le C 80 dX10_weeks_72 (by decide) (fun q => ?_) (fun q => ?_)
      · replace h := h.1 q
        refine zx_iload C dX10_weeks_80 8 rfl ?_
        refine zx_istore (lv' := [(5, .int x_5), (7, .int x10), (10, .int r9), (9, .int r7), (0, .ref (g 223)), (1, .int x_1), (2, .int x_2), (3, .int x_3), (4, .int x_4), (6, .int x_6), (8, .int x_8)]) C dX10_weeks_82 (by decide) rfl ?_
        refine zx_iload C dX10_weeks_84 9 rfl ?_
        refine zx_iload C dX10_weeks_86 2 rfl ?_
        refine zx_cSi C [.int x_6, .int r9] lk_X10_160 (c_X10_greater l D cy g x_6 r9  σ8 h) ⟨by decide, by decide⟩ ⟨rfl, rfl⟩ ⟨Nat.zero_le _, Nat.zero_le _⟩ rfl rfl (Nat.le_of_ble_eq_true rfl) dX10_weeks_88 (fun r12 σ11 h => ?_)
        refine zx_istore (lv' := [(6, .int r12), (5, .int x_5), (7, .int x10), (10, .int r9), (9, .int r7), (0, .ref (g 223)), (1, .int x_1), (2, .int x_2), (3, .int x_3), (4, .int x_4), (8, .int x_8)]) C dX10_weeks_91 (by decide) rfl ?_
        obtain ⟨x13, ex13⟩ : ∃ y : Int32, y = (x_8 + (1 : Int32)) := ⟨_, rfl⟩
        replace h := h x13 ex13
        refine zx_iinc (v := x13) (lv' := [(8, .int x13), (6, .int r12), (5, .int x_5), (7, .int x10), (10, .int r9), (9, .int r7), (0, .ref (g 223)), (1, .int x_1), (2, .int x_2), (3, .int x_3), (4, .int x_4)]) C dX10_weeks_93 10 rfl (by rw [ex13]; rfl) (by decide) rfl ?_
        refine zx_goto C 37 dX10_weeks_96 (by decide) ?_
        refine zx_lv (lv' := [(0, .ref (g 223)), (1, .int x_1), (2, .int x_2), (3, .int x_3), (4, .int x_4), (5, .int x_5), (6, .int r12), (7, .int x10), (8, .int x13)]) [6, 7, 8, 9, 10, 2, 1, 3, 0] rfl ?_
        exact ih x_5 r12 x10 x13 σ11 h
      · replace h := h.2 q
        refine zx_iload C dX10_weeks_75 10 rfl ?_
        refine zx_goto C 82 dX10_weeks_77 (by decide) ?_
        refine zx_istore (lv' := [(5, .int x_8), (7, .int x10), (10, .int r9), (9, .int r7), (0, .ref (g 223)), (1, .int x_1), (2, .int x_2), (3, .int x_3), (4, .int x_4), (6, .int x_6), (8, .int x_8)]) C dX10_weeks_82 (by decide) rfl ?_
        refine zx_iload C dX10_weeks_84 9 rfl ?_
        refine zx_iload C dX10_weeks_86 2 rfl ?_
        refine zx_cSi C [.int x_6, .int r9] lk_X10_160 (c_X10_greater l D cy g x_6 r9  σ8 h) ⟨by decide, by decide⟩ ⟨rfl, rfl⟩ ⟨Nat.zero_le _, Nat.zero_le _⟩ rfl rfl (Nat.le_of_ble_eq_true rfl) dX10_weeks_88 (fun r15 σ14 h => ?_)
        refine zx_istore (lv' := [(6, .int r15), (5, .int x_8), (7, .int x10), (10, .int r9), (9, .int r7), (0, .ref (g 223)), (1, .int x_1), (2, .int x_2), (3, .int x_3), (4, .int x_4), (8, .int x_8)]) C dX10_weeks_91 (by decide) rfl ?_
        obtain ⟨x16, ex16⟩ : ∃ y : Int32, y = (x_8 + (1 : Int32)) := ⟨_, rfl⟩
        replace h := h x16 ex16
        refine zx_iinc (v := x16) (lv' := [(8, .int x16), (6, .int r15), (5, .int x_8), (7, .int x10), (10, .int r9), (9, .int r7), (0, .ref (g 223)), (1, .int x_1), (2, .int x_2), (3, .int x_3), (4, .int x_4)]) C dX10_weeks_93 10 rfl (by rw [ex16]; rfl) (by decide) rfl ?_
        refine zx_goto C 37 dX10_weeks_96 (by decide) ?_
        refine zx_lv (lv' := [(0, .ref (g 223)), (1, .int x_1), (2, .int x_2), (3, .int x_3), (4, .int x_4), (5, .int x_8), (6, .int r15), (7, .int x10), (8, .int x16)]) [6, 7, 8, 9, 10, 2, 1, 3, 0] rfl ?_
        exact ih x_8 r15 x10 x16 σ14 h
set_option maxRecDepth 100000 in
set_option maxHeartbeats 4000000 in
theorem c_X10_weeks (l : Launch) (D : va_G) (cy : Nat → ClassId) (g : Nat → Nat) (a1 : Int32) (a2 : Int32) (a3 : Int32) (a4 : Int32)  (σ : zSto) {P : Int32 → zSto → Prop} (h : w_X10_weeks a1 a2 a3 a4 σ P) : zMi l yX10_weeks cX10_weeks 11 (some .int) (zrm 7 163) D cy g [.ref (g 223), .int a1, .int a2, .int a3, .int a4] σ P := by
  unfold w_X10_weeks at h
  refine zm_i RX10 rfl (by decide +kernel) (Nat.le_of_ble_eq_true rfl) ?_
  intro p e s m below meth c C hr
  refine zx_lv (lv' := [(0, .ref (g 223)), (1, .int a1), (2, .int a2), (3, .int a3), (4, .int a4)]) [0, 1, 2, 3, 4] rfl ?_
  refine zx_aload_n C dX10_weeks_0 0 rfl ?_
  refine zx_iconst (v := (0 : Int32)) C dX10_weeks_1 (by decide) ?_
  refine zx_putI C zs_223 fp_X10_91 rfl dX10_weeks_2 ?_
  refine zx_sig (fun σ1 eσ1 => ?_)
  replace h := h σ1 eσ1
  refine zx_iload_n C dX10_weeks_5 2 rfl ?_
  refine zx_iconst (v := (0 : Int32)) C dX10_weeks_6 (by decide) ?_
  refine zx_iconst (v := (3 : Int32)) C dX10_weeks_7 (by decide) ?_
  refine zx_cSb C [.int a2, .int (0 : Int32), .int (3 : Int32)] lk_X10_103 (c_X10_in l D cy g a2 (0 : Int32) (3 : Int32)  σ1 h) ⟨by decide, by decide⟩ ⟨rfl, rfl⟩ ⟨Nat.zero_le _, Nat.zero_le _⟩ rfl rfl (Nat.le_of_ble_eq_true rfl) dX10_weeks_8 (fun r3 σ2 hb h => ?_)
  replace h := h hb
  refine zx_if_eq C 23 dX10_weeks_11 (by decide) (fun q => ?_) (fun q => ?_)
  · replace h := h.1 q
    refine zx_iconst (v := (-1 : Int32)) C dX10_weeks_23 (by decide) ?_
    exact zx_iret C hr dX10_weeks_24 h
  · replace h := h.2 q
    refine zx_aload_n C dX10_weeks_14 0 rfl ?_
    refine zx_iconst (v := (0 : Int32)) C dX10_weeks_15 (by decide) ?_
    refine zx_iload_n C dX10_weeks_16 1 rfl ?_
    refine zx_cVb C [.int (0 : Int32), .int a1] lk_X10_225 (c_X10_is l D cy g (0 : Int32) a1  σ2 h) zs_223 rfl ⟨by decide, by decide⟩ ⟨rfl, rfl⟩ ⟨Nat.zero_le _, Nat.zero_le _⟩ rfl rfl (Nat.le_of_ble_eq_true rfl) dX10_weeks_17 (fun r5 σ4 hb h => ?_)
    replace h := h hb
    refine zx_if_ne C 25 dX10_weeks_20 (by decide) (fun q => ?_) (fun q => ?_)
    · replace h := h.1 q
      refine zx_iconst (v := (0 : Int32)) C dX10_weeks_25 (by decide) ?_
      refine zx_istore (lv' := [(5, .int (0 : Int32)), (0, .ref (g 223)), (1, .int a1), (2, .int a2), (3, .int a3), (4, .int a4)]) C dX10_weeks_26 (by decide) rfl ?_
      refine zx_iconst (v := (-1 : Int32)) C dX10_weeks_28 (by decide) ?_
      refine zx_istore (lv' := [(6, .int (-1 : Int32)), (5, .int (0 : Int32)), (0, .ref (g 223)), (1, .int a1), (2, .int a2), (3, .int a3), (4, .int a4)]) C dX10_weeks_29 (by decide) rfl ?_
      refine zx_iconst (v := (0 : Int32)) C dX10_weeks_31 (by decide) ?_
      refine zx_istore (lv' := [(7, .int (0 : Int32)), (6, .int (-1 : Int32)), (5, .int (0 : Int32)), (0, .ref (g 223)), (1, .int a1), (2, .int a2), (3, .int a3), (4, .int a4)]) C dX10_weeks_32 (by decide) rfl ?_
      refine zx_iconst (v := (0 : Int32)) C dX10_weeks_34 (by decide) ?_
      refine zx_istore (lv' := [(8, .int (0 : Int32)), (7, .int (0 : Int32)), (6, .int (-1 : Int32)), (5, .int (0 : Int32)), (0, .ref (g 223)), (1, .int a1), (2, .int a2), (3, .int a3), (4, .int a4)]) C dX10_weeks_35 (by decide) rfl ?_
      obtain ⟨n, h⟩ := h
      refine zx_lv (lv' := [(0, .ref (g 223)), (1, .int a1), (2, .int a2), (3, .int a3), (4, .int a4), (5, .int (0 : Int32)), (6, .int (-1 : Int32)), (7, .int (0 : Int32)), (8, .int (0 : Int32))]) [4, 5, 6, 7, 8, 3, 2, 1, 0] rfl ?_
      exact k_X10_weeks_37 C hr (a1) (a2) (a3) (a4)   n (0 : Int32) (-1 : Int32) (0 : Int32) (0 : Int32) σ4 h
    · replace h := h.2 q
      refine zx_iconst (v := (-1 : Int32)) C dX10_weeks_23 (by decide) ?_
      exact zx_iret C hr dX10_weeks_24 h
def w_X10_isCalm (a1 : Int32) (a2 : Int32) (σ : zSto) (P : Int32 → zSto → Prop) : Prop := (w_X10_go (0 : Int32) (0 : Int32) a1 σ (fun (σ1 : zSto) => ((¬ a2 = (-1 : Int32) → ((a2 < (σ1.1 223 31) → P (0 : Int32) σ1) ∧ (¬ a2 < (σ1.1 223 31) → P (1 : Int32) σ1))) ∧ (a2 = (-1 : Int32) → ((¬ (σ1.1 223 34) = (-1 : Int32) → P (0 : Int32) σ1) ∧ ((σ1.1 223 34) = (-1 : Int32) → P (1 : Int32) σ1))))))
set_option maxRecDepth 100000 in
set_option maxHeartbeats 4000000 in
theorem c_X10_isCalm (l : Launch) (D : va_G) (cy : Nat → ClassId) (g : Nat → Nat) (a1 : Int32) (a2 : Int32)  (σ : zSto) {P : Int32 → zSto → Prop} (h : w_X10_isCalm a1 a2 σ P) : zMb l yX10_isCalm cX10_isCalm 3 (some .boolean) (zrm 6 139) D cy g [.ref (g 223), .int a1, .int a2] σ P := by
  unfold w_X10_isCalm at h
  refine zm_b RX10 rfl (by decide +kernel) (Nat.le_of_ble_eq_true rfl) ?_
  intro p e s m below meth c C hr
  refine zx_lv (lv' := [(0, .ref (g 223)), (1, .int a1), (2, .int a2)]) [0, 1, 2] rfl ?_
  refine zx_aload_n C dX10_isCalm_0 0 rfl ?_
  refine zx_iconst (v := (0 : Int32)) C dX10_isCalm_1 (by decide) ?_
  refine zx_iconst (v := (0 : Int32)) C dX10_isCalm_2 (by decide) ?_
  refine zx_iload_n C dX10_isCalm_3 1 rfl ?_
  refine zx_cVv C [.int (0 : Int32), .int (0 : Int32), .int a1] lk_X10_310 (c_X10_go l D cy g (0 : Int32) (0 : Int32) a1  σ h) zs_223 rfl ⟨by decide, by decide⟩ ⟨rfl, rfl⟩ ⟨Nat.zero_le _, Nat.zero_le _⟩ rfl rfl (Nat.le_of_ble_eq_true rfl) dX10_isCalm_4 (fun σ1 h => ?_)
  refine zx_iload_n C dX10_isCalm_7 2 rfl ?_
  refine zx_iconst (v := (-1 : Int32)) C dX10_isCalm_8 (by decide) ?_
  refine zx_icmp_ne C 28 dX10_isCalm_9 (by decide) (fun q => ?_) (fun q => ?_)
  · replace h := h.1 q
    refine zx_aload_n C dX10_isCalm_28 0 rfl ?_
    refine zx_getI C zs_223 fg_X10_276 rfl dX10_isCalm_29 ?_
    refine zx_iload_n C dX10_isCalm_32 2 rfl ?_
    refine zx_icmp_gt C 40 dX10_isCalm_33 (by decide) (fun q => ?_) (fun q => ?_)
    · replace h := h.1 q
      refine zx_iconst (v := (0 : Int32)) C dX10_isCalm_40 (by decide) ?_
      exact zx_zret C hr dX10_isCalm_41 (Or.inl rfl) h
    · replace h := h.2 q
      refine zx_iconst (v := (1 : Int32)) C dX10_isCalm_36 (by decide) ?_
      refine zx_goto C 41 dX10_isCalm_37 (by decide) ?_
      exact zx_zret C hr dX10_isCalm_41 (Or.inr rfl) h
  · replace h := h.2 q
    refine zx_aload_n C dX10_isCalm_12 0 rfl ?_
    refine zx_getI C zs_223 fg_X10_291 rfl dX10_isCalm_13 ?_
    refine zx_iconst (v := (-1 : Int32)) C dX10_isCalm_16 (by decide) ?_
    refine zx_icmp_ne C 24 dX10_isCalm_17 (by decide) (fun q => ?_) (fun q => ?_)
    · replace h := h.1 q
      refine zx_iconst (v := (0 : Int32)) C dX10_isCalm_24 (by decide) ?_
      refine zx_goto C 41 dX10_isCalm_25 (by decide) ?_
      exact zx_zret C hr dX10_isCalm_41 (Or.inl rfl) h
    · replace h := h.2 q
      refine zx_iconst (v := (1 : Int32)) C dX10_isCalm_20 (by decide) ?_
      refine zx_goto C 41 dX10_isCalm_21 (by decide) ?_
      exact zx_zret C hr dX10_isCalm_41 (Or.inr rfl) h
theorem lk_X10_398 : zLV RX10 398 RX10 yX10_isCalm cX10_isCalm 3 (some .boolean) 2 := zLV_of ml_X10_398 im_X10_isCalm se_X10_isCalm ini_X10 cd_X10_isCalm (by decide +kernel)
def w_X10_calm_42 (x_3 : Int32) (x_4 : Int32) (P : Int32 → zSto → Prop) (K30 : Int32 → zSto → Prop) : Nat → Int32 → zSto → Prop
  | 0, _, _ => False
  | n + 1, x_5, σ => (w_X10_everyone  σ (fun (r7 : Int32) (σ6 : zSto) => ((r7 < x_5 → (∀ x8 : Int32, x8 = (x_4 + (1 : Int32)) → K30 x8 σ6)) ∧ (¬ r7 < x_5 → (w_X10_ones x_5 σ6 (fun (r10 : Int32) (σ9 : zSto) => ((¬ r10 = x_4 → (∀ x11 : Int32, x11 = (x_5 + (1 : Int32)) → w_X10_calm_42 x_3 x_4 P K30 n x11 σ9)) ∧ (r10 = x_4 → (w_X10_everyone  σ9 (fun (r13 : Int32) (σ12 : zSto) => (w_X10_isCalm (r13 &&& (x_5 ^^^ (-1 : Int32))) x_3 σ12 (fun (r15 : Int32) (σ14 : zSto) => (r15 = 0 ∨ r15 = 1) → ((r15 = 0 → (∀ x16 : Int32, x16 = (x_5 + (1 : Int32)) → w_X10_calm_42 x_3 x_4 P K30 n x16 σ14)) ∧ (¬ r15 = 0 → P x_5 σ14))))))))))))))
def w_X10_calm_30 (x_3 : Int32) (P : Int32 → zSto → Prop)  : Nat → Int32 → zSto → Prop
  | 0, _, _ => False
  | n + 1, x_4, σ => (((σ.1 223 26) < x_4 → P (-1 : Int32) σ) ∧ (¬ (σ.1 223 26) < x_4 → (∃ n2 : Nat, w_X10_calm_42 x_3 x_4 P (fun z0 σz => w_X10_calm_30 x_3 P n z0 σz) n2 (0 : Int32) σ)))
def w_X10_calm (a1 : Int32) (a2 : Int32) (a3 : Int32) (σ : zSto) (P : Int32 → zSto → Prop) : Prop := (∀ σ1 : zSto, σ1 = zI σ 223 0 (0 : Int32) → (w_X10_in a3 (-1 : Int32) (999 : Int32) σ1 (fun (r3 : Int32) (σ2 : zSto) => (r3 = 0 ∨ r3 = 1) → ((r3 = 0 → P (-1 : Int32) σ2) ∧ (¬ r3 = 0 → (w_X10_hand a1 a2 σ2 (fun (r5 : Int32) (σ4 : zSto) => (r5 = 0 ∨ r5 = 1) → ((¬ r5 = 0 → (∃ n : Nat, w_X10_calm_30 a3 P  n (0 : Int32) σ4)) ∧ (r5 = 0 → P (-1 : Int32) σ4)))))))))
set_option maxRecDepth 100000 in
set_option maxHeartbeats 4000000 in
theorem k_X10_calm_42 {p : Program} {l : Launch} {e : Env} {s : State} {m : MethodId} {args : Array Value} {below : List Frame} {meth : Method} {c : Code} {D : va_G} {cy : Nat → ClassId} {g : Nat → Nat} (C : zC p s m args meth c cX10_calm RX10 6 D cy g) (hr : meth.sig.returnType = (some .int)) {P : Int32 → zSto → Prop} (x_3 : Int32) (x_4 : Int32)  {K30 : Int32 → zSto → Prop} (hK30 : ∀ (z0 : Int32) (σz : zSto), K30 z0 σz → zX p l e (zrm 7 161) s m args below meth c 0 0 (zQi P below args s D cy g) 6 D cy g 30 [(0, .ref (g 223)), (3, .int x_3), (4, .int z0)] [] σz) : ∀ (n : Nat) (x_5 : Int32) (σ : zSto), w_X10_calm_42 x_3 x_4 P K30 n x_5 σ → zX p l e (zrm 7 161) s m args below meth c 0 0 (zQi P below args s D cy g) 6 D cy g 42 [(0, .ref (g 223)), (3, .int x_3), (4, .int x_4), (5, .int x_5)] [] σ := by
  intro n
  induction n with
  | zero => intro x_5 σ h; exact h.elim
  | succ n ih =>
    intro x_5 σ h
    unfold w_X10_calm_42 at h
    refine zx_iload C dX10_calm_42 3 rfl ?_
    refine zx_aload_n C dX10_calm_44 0 rfl ?_
    refine zx_cVi C [] lk_X10_307 (c_X10_everyone l D cy g   σ h) zs_223 rfl ⟨by decide, by decide⟩ ⟨rfl, rfl⟩ ⟨Nat.zero_le _, Nat.zero_le _⟩ rfl rfl (Nat.le_of_ble_eq_true rfl) dX10_calm_45 (fun r7 σ6 h => ?_)
    refine zx_icmp_gt C 87 dX10_calm_48 (by decide) (fun q => ?_) (fun q => ?_)
    · replace h := h.1 q
      obtain ⟨x8, ex8⟩ : ∃ y : Int32, y = (x_4 + (1 : Int32)) := ⟨_, rfl⟩
      replace h := h x8 ex8
      refine zx_iinc (v := x8) (lv' := [(4, .int x8), (0, .ref (g 223)), (3, .int x_3), (5, .int x_5)]) C dX10_calm_87 2 rfl (by rw [ex8]; rfl) (by decide) rfl ?_
      refine zx_goto C 30 dX10_calm_90 (by decide) ?_
      refine zx_lv (lv' := [(0, .ref (g 223)), (3, .int x_3), (4, .int x8)]) [1, 2, 0] rfl ?_
      exact hK30 x8 σ6 h
    · replace h := h.2 q
      refine zx_iload C dX10_calm_51 3 rfl ?_
      refine zx_cSi C [.int x_5] lk_X10_323 (c_X10_ones l D cy g x_5  σ6 h) ⟨by decide, by decide⟩ ⟨rfl, rfl⟩ ⟨Nat.zero_le _, Nat.zero_le _⟩ rfl rfl (Nat.le_of_ble_eq_true rfl) dX10_calm_53 (fun r10 σ9 h => ?_)
      refine zx_iload C dX10_calm_56 2 rfl ?_
      refine zx_icmp_ne C 81 dX10_calm_58 (by decide) (fun q => ?_) (fun q => ?_)
      · replace h := h.1 q
        obtain ⟨x11, ex11⟩ : ∃ y : Int32, y = (x_5 + (1 : Int32)) := ⟨_, rfl⟩
        replace h := h x11 ex11
        refine zx_iinc (v := x11) (lv' := [(5, .int x11), (0, .ref (g 223)), (3, .int x_3), (4, .int x_4)]) C dX10_calm_81 3 rfl (by rw [ex11]; rfl) (by decide) rfl ?_
        refine zx_goto C 42 dX10_calm_84 (by decide) ?_
        refine zx_lv (lv' := [(0, .ref (g 223)), (3, .int x_3), (4, .int x_4), (5, .int x11)]) [1, 2, 3, 0] rfl ?_
        exact ih x11 σ9 h
      · replace h := h.2 q
        refine zx_aload_n C dX10_calm_61 0 rfl ?_
        refine zx_aload_n C dX10_calm_62 0 rfl ?_
        refine zx_cVi C [] lk_X10_307 (c_X10_everyone l D cy g   σ9 h) zs_223 rfl ⟨by decide, by decide⟩ ⟨rfl, rfl⟩ ⟨Nat.zero_le _, Nat.zero_le _⟩ rfl rfl (Nat.le_of_ble_eq_true rfl) dX10_calm_63 (fun r13 σ12 h => ?_)
        refine zx_iload C dX10_calm_66 3 rfl ?_
        refine zx_iconst (v := (-1 : Int32)) C dX10_calm_68 (by decide) ?_
        refine zx_ixor C dX10_calm_69 ?_
        refine zx_iand C dX10_calm_70 ?_
        refine zx_iload_n C dX10_calm_71 1 rfl ?_
        refine zx_cVb C [.int (r13 &&& (x_5 ^^^ (-1 : Int32))), .int x_3] lk_X10_398 (c_X10_isCalm l D cy g (r13 &&& (x_5 ^^^ (-1 : Int32))) x_3  σ12 h) zs_223 rfl ⟨by decide, by decide⟩ ⟨rfl, rfl⟩ ⟨Nat.zero_le _, Nat.zero_le _⟩ rfl rfl (Nat.le_of_ble_eq_true rfl) dX10_calm_72 (fun r15 σ14 hb h => ?_)
        replace h := h hb
        refine zx_if_eq C 81 dX10_calm_75 (by decide) (fun q => ?_) (fun q => ?_)
        · replace h := h.1 q
          obtain ⟨x16, ex16⟩ : ∃ y : Int32, y = (x_5 + (1 : Int32)) := ⟨_, rfl⟩
          replace h := h x16 ex16
          refine zx_iinc (v := x16) (lv' := [(5, .int x16), (0, .ref (g 223)), (3, .int x_3), (4, .int x_4)]) C dX10_calm_81 3 rfl (by rw [ex16]; rfl) (by decide) rfl ?_
          refine zx_goto C 42 dX10_calm_84 (by decide) ?_
          refine zx_lv (lv' := [(0, .ref (g 223)), (3, .int x_3), (4, .int x_4), (5, .int x16)]) [1, 2, 3, 0] rfl ?_
          exact ih x16 σ14 h
        · replace h := h.2 q
          refine zx_iload C dX10_calm_78 3 rfl ?_
          exact zx_iret C hr dX10_calm_80 h
set_option maxRecDepth 100000 in
set_option maxHeartbeats 4000000 in
theorem k_X10_calm_30 {p : Program} {l : Launch} {e : Env} {s : State} {m : MethodId} {args : Array Value} {below : List Frame} {meth : Method} {c : Code} {D : va_G} {cy : Nat → ClassId} {g : Nat → Nat} (C : zC p s m args meth c cX10_calm RX10 6 D cy g) (hr : meth.sig.returnType = (some .int)) {P : Int32 → zSto → Prop} (x_3 : Int32)    : ∀ (n : Nat) (x_4 : Int32) (σ : zSto), w_X10_calm_30 x_3 P n x_4 σ → zX p l e (zrm 7 161) s m args below meth c 0 0 (zQi P below args s D cy g) 6 D cy g 30 [(0, .ref (g 223)), (3, .int x_3), (4, .int x_4)] [] σ := by
  intro n
  induction n with
  | zero => intro x_4 σ h; exact h.elim
  | succ n ih =>
    intro x_4 σ h
    unfold w_X10_calm_30 at h
    refine zx_iload C dX10_calm_30 2 rfl ?_
    refine zx_aload_n C dX10_calm_32 0 rfl ?_
    refine zx_getI C zs_223 fg_X10_251 rfl dX10_calm_33 ?_
    refine zx_icmp_gt C 93 dX10_calm_36 (by decide) (fun q => ?_) (fun q => ?_)
    · replace h := h.1 q
      refine zx_iconst (v := (-1 : Int32)) C dX10_calm_93 (by decide) ?_
      exact zx_iret C hr dX10_calm_94 h
    · replace h := h.2 q
      refine zx_iconst (v := (0 : Int32)) C dX10_calm_39 (by decide) ?_
      refine zx_istore (lv' := [(5, .int (0 : Int32)), (0, .ref (g 223)), (3, .int x_3), (4, .int x_4)]) C dX10_calm_40 (by decide) rfl ?_
      obtain ⟨n2, h⟩ := h
      refine zx_lv (lv' := [(0, .ref (g 223)), (3, .int x_3), (4, .int x_4), (5, .int (0 : Int32))]) [1, 2, 3, 0] rfl ?_
      exact k_X10_calm_42 C hr (x_3) (x_4)  (fun z0 σz h => ih z0 σz h) n2 (0 : Int32) σ h
set_option maxRecDepth 100000 in
set_option maxHeartbeats 4000000 in
theorem c_X10_calm (l : Launch) (D : va_G) (cy : Nat → ClassId) (g : Nat → Nat) (a1 : Int32) (a2 : Int32) (a3 : Int32)  (σ : zSto) {P : Int32 → zSto → Prop} (h : w_X10_calm a1 a2 a3 σ P) : zMi l yX10_calm cX10_calm 6 (some .int) (zrm 7 161) D cy g [.ref (g 223), .int a1, .int a2, .int a3] σ P := by
  unfold w_X10_calm at h
  refine zm_i RX10 rfl (by decide +kernel) (Nat.le_of_ble_eq_true rfl) ?_
  intro p e s m below meth c C hr
  refine zx_lv (lv' := [(0, .ref (g 223)), (1, .int a1), (2, .int a2), (3, .int a3)]) [0, 1, 2, 3] rfl ?_
  refine zx_aload_n C dX10_calm_0 0 rfl ?_
  refine zx_iconst (v := (0 : Int32)) C dX10_calm_1 (by decide) ?_
  refine zx_putI C zs_223 fp_X10_91 rfl dX10_calm_2 ?_
  refine zx_sig (fun σ1 eσ1 => ?_)
  replace h := h σ1 eσ1
  refine zx_iload_n C dX10_calm_5 3 rfl ?_
  refine zx_iconst (v := (-1 : Int32)) C dX10_calm_6 (by decide) ?_
  refine zx_sipush (v := (999 : Int32)) C dX10_calm_7 (by decide) ?_
  refine zx_cSb C [.int a3, .int (-1 : Int32), .int (999 : Int32)] lk_X10_103 (c_X10_in l D cy g a3 (-1 : Int32) (999 : Int32)  σ1 h) ⟨by decide, by decide⟩ ⟨rfl, rfl⟩ ⟨Nat.zero_le _, Nat.zero_le _⟩ rfl rfl (Nat.le_of_ble_eq_true rfl) dX10_calm_10 (fun r3 σ2 hb h => ?_)
  replace h := h hb
  refine zx_if_eq C 25 dX10_calm_13 (by decide) (fun q => ?_) (fun q => ?_)
  · replace h := h.1 q
    refine zx_iconst (v := (-1 : Int32)) C dX10_calm_25 (by decide) ?_
    exact zx_iret C hr dX10_calm_26 h
  · replace h := h.2 q
    refine zx_aload_n C dX10_calm_16 0 rfl ?_
    refine zx_iload_n C dX10_calm_17 1 rfl ?_
    refine zx_iload_n C dX10_calm_18 2 rfl ?_
    refine zx_cVb C [.int a1, .int a2] lk_X10_257 (c_X10_hand l D cy g a1 a2  σ2 h) zs_223 rfl ⟨by decide, by decide⟩ ⟨rfl, rfl⟩ ⟨Nat.zero_le _, Nat.zero_le _⟩ rfl rfl (Nat.le_of_ble_eq_true rfl) dX10_calm_19 (fun r5 σ4 hb h => ?_)
    replace h := h hb
    refine zx_if_ne C 27 dX10_calm_22 (by decide) (fun q => ?_) (fun q => ?_)
    · replace h := h.1 q
      refine zx_iconst (v := (0 : Int32)) C dX10_calm_27 (by decide) ?_
      refine zx_istore (lv' := [(4, .int (0 : Int32)), (0, .ref (g 223)), (1, .int a1), (2, .int a2), (3, .int a3)]) C dX10_calm_28 (by decide) rfl ?_
      obtain ⟨n, h⟩ := h
      refine zx_lv (lv' := [(0, .ref (g 223)), (3, .int a3), (4, .int (0 : Int32))]) [1, 4, 0] rfl ?_
      exact k_X10_calm_30 C hr (a3)   n (0 : Int32) σ4 h
    · replace h := h.2 q
      refine zx_iconst (v := (-1 : Int32)) C dX10_calm_25 (by decide) ?_
      exact zx_iret C hr dX10_calm_26 h
def w_X10_richest_6  (P : Int32 → zSto → Prop)  : Nat → Int32 → Int32 → Int32 → zSto → Prop
  | 0, _, _, _, _ => False
  | n + 1, x_1, x_2, x_3, σ => (((σ.1 223 26) ≤ x_3 → P x_1 σ) ∧ (¬ (σ.1 223 26) ≤ x_3 → (vp_in x_3 6 ∧ (((σ.1 243 (x_3).toNatClampNeg) ≤ x_2 → (vp_in x_3 6 ∧ (w_X10_greater x_2 (σ.1 243 (x_3).toNatClampNeg) σ (fun (r4 : Int32) (σ3 : zSto) => (∀ x5 : Int32, x5 = (x_3 + (1 : Int32)) → w_X10_richest_6 P n x_1 r4 x5 σ3))))) ∧ (¬ (σ.1 243 (x_3).toNatClampNeg) ≤ x_2 → (vp_in x_3 6 ∧ (w_X10_greater x_2 (σ.1 243 (x_3).toNatClampNeg) σ (fun (r8 : Int32) (σ7 : zSto) => (∀ x9 : Int32, x9 = (x_3 + (1 : Int32)) → w_X10_richest_6 P n x_3 r8 x9 σ7)))))))))
def w_X10_richest  (σ : zSto) (P : Int32 → zSto → Prop) : Prop := (∃ n : Nat, w_X10_richest_6  P  n (-1 : Int32) (0 : Int32) (0 : Int32) σ)
set_option maxRecDepth 100000 in
set_option maxHeartbeats 4000000 in
theorem k_X10_richest_6 {p : Program} {l : Launch} {e : Env} {s : State} {m : MethodId} {args : Array Value} {below : List Frame} {meth : Method} {c : Code} {D : va_G} {cy : Nat → ClassId} {g : Nat → Nat} (C : zC p s m args meth c cX10_richest RX10 4 D cy g) (hr : meth.sig.returnType = (some .int)) {P : Int32 → zSto → Prop}     : ∀ (n : Nat) (x_1 : Int32) (x_2 : Int32) (x_3 : Int32) (σ : zSto), w_X10_richest_6 P n x_1 x_2 x_3 σ → zX p l e (zrm 1 21) s m args below meth c 0 0 (zQi P below args s D cy g) 4 D cy g 6 [(0, .ref (g 223)), (1, .int x_1), (2, .int x_2), (3, .int x_3)] [] σ := by
  intro n
  induction n with
  | zero => intro x_1 x_2 x_3 σ h; exact h.elim
  | succ n ih =>
    intro x_1 x_2 x_3 σ h
    unfold w_X10_richest_6 at h
    refine zx_iload_n C dX10_richest_6 3 rfl ?_
    refine zx_aload_n C dX10_richest_7 0 rfl ?_
    refine zx_getI C zs_223 fg_X10_251 rfl dX10_richest_8 ?_
    refine zx_icmp_ge C 47 dX10_richest_11 (by decide) (fun q => ?_) (fun q => ?_)
    · replace h := h.1 q
      refine zx_iload_n C dX10_richest_47 1 rfl ?_
      exact zx_iret C hr dX10_richest_48 h
    · replace h := h.2 q
      refine zx_aload_n C dX10_richest_14 0 rfl ?_
      refine zx_getR C zs_223 fg_X10_68 rfl 243 rfl dX10_richest_15 ?_
      refine zx_iload_n C dX10_richest_18 3 rfl ?_
      obtain ⟨bd1, h⟩ := h
      refine zx_iald C (x_3).toNatClampNeg zs_243 bd1 rfl dX10_richest_19 ?_
      refine zx_iload_n C dX10_richest_20 2 rfl ?_
      refine zx_icmp_le C 28 dX10_richest_21 (by decide) (fun q => ?_) (fun q => ?_)
      · replace h := h.1 q
        refine zx_iload_n C dX10_richest_28 1 rfl ?_
        refine zx_istore_n (lv' := [(1, .int x_1), (0, .ref (g 223)), (2, .int x_2), (3, .int x_3)]) C dX10_richest_29 (by decide) rfl ?_
        refine zx_iload_n C dX10_richest_30 2 rfl ?_
        refine zx_aload_n C dX10_richest_31 1 rfl ?_
        refine zx_getR C zs_223 fg_X10_68 rfl 243 rfl dX10_richest_32 ?_
        refine zx_iload_n C dX10_richest_35 3 rfl ?_
        obtain ⟨bd2, h⟩ := h
        refine zx_iald C (x_3).toNatClampNeg zs_243 bd2 rfl dX10_richest_36 ?_
        refine zx_cSi C [.int x_2, .int (σ.1 243 (x_3).toNatClampNeg)] lk_X10_160 (c_X10_greater l D cy g x_2 (σ.1 243 (x_3).toNatClampNeg)  σ h) ⟨by decide, by decide⟩ ⟨rfl, rfl⟩ ⟨Nat.zero_le _, Nat.zero_le _⟩ rfl rfl (Nat.le_of_ble_eq_true rfl) dX10_richest_37 (fun r4 σ3 h => ?_)
        refine zx_istore_n (lv' := [(2, .int r4), (1, .int x_1), (0, .ref (g 223)), (3, .int x_3)]) C dX10_richest_40 (by decide) rfl ?_
        obtain ⟨x5, ex5⟩ : ∃ y : Int32, y = (x_3 + (1 : Int32)) := ⟨_, rfl⟩
        replace h := h x5 ex5
        refine zx_iinc (v := x5) (lv' := [(3, .int x5), (2, .int r4), (1, .int x_1), (0, .ref (g 223))]) C dX10_richest_41 3 rfl (by rw [ex5]; rfl) (by decide) rfl ?_
        refine zx_goto C 6 dX10_richest_44 (by decide) ?_
        refine zx_lv (lv' := [(0, .ref (g 223)), (1, .int x_1), (2, .int r4), (3, .int x5)]) [3, 2, 1, 0] rfl ?_
        exact ih x_1 r4 x5 σ3 h
      · replace h := h.2 q
        refine zx_iload_n C dX10_richest_24 3 rfl ?_
        refine zx_goto C 29 dX10_richest_25 (by decide) ?_
        refine zx_istore_n (lv' := [(1, .int x_3), (0, .ref (g 223)), (2, .int x_2), (3, .int x_3)]) C dX10_richest_29 (by decide) rfl ?_
        refine zx_iload_n C dX10_richest_30 2 rfl ?_
        refine zx_aload_n C dX10_richest_31 1 rfl ?_
        refine zx_getR C zs_223 fg_X10_68 rfl 243 rfl dX10_richest_32 ?_
        refine zx_iload_n C dX10_richest_35 3 rfl ?_
        obtain ⟨bd6, h⟩ := h
        refine zx_iald C (x_3).toNatClampNeg zs_243 bd6 rfl dX10_richest_36 ?_
        refine zx_cSi C [.int x_2, .int (σ.1 243 (x_3).toNatClampNeg)] lk_X10_160 (c_X10_greater l D cy g x_2 (σ.1 243 (x_3).toNatClampNeg)  σ h) ⟨by decide, by decide⟩ ⟨rfl, rfl⟩ ⟨Nat.zero_le _, Nat.zero_le _⟩ rfl rfl (Nat.le_of_ble_eq_true rfl) dX10_richest_37 (fun r8 σ7 h => ?_)
        refine zx_istore_n (lv' := [(2, .int r8), (1, .int x_3), (0, .ref (g 223)), (3, .int x_3)]) C dX10_richest_40 (by decide) rfl ?_
        obtain ⟨x9, ex9⟩ : ∃ y : Int32, y = (x_3 + (1 : Int32)) := ⟨_, rfl⟩
        replace h := h x9 ex9
        refine zx_iinc (v := x9) (lv' := [(3, .int x9), (2, .int r8), (1, .int x_3), (0, .ref (g 223))]) C dX10_richest_41 3 rfl (by rw [ex9]; rfl) (by decide) rfl ?_
        refine zx_goto C 6 dX10_richest_44 (by decide) ?_
        refine zx_lv (lv' := [(0, .ref (g 223)), (1, .int x_3), (2, .int r8), (3, .int x9)]) [3, 2, 1, 0] rfl ?_
        exact ih x_3 r8 x9 σ7 h
set_option maxRecDepth 100000 in
set_option maxHeartbeats 4000000 in
theorem c_X10_richest (l : Launch) (D : va_G) (cy : Nat → ClassId) (g : Nat → Nat)   (σ : zSto) {P : Int32 → zSto → Prop} (h : w_X10_richest  σ P) : zMi l yX10_richest cX10_richest 4 (some .int) (zrm 1 21) D cy g [.ref (g 223)] σ P := by
  unfold w_X10_richest at h
  refine zm_i RX10 rfl (by decide +kernel) (Nat.le_of_ble_eq_true rfl) ?_
  intro p e s m below meth c C hr
  refine zx_lv (lv' := [(0, .ref (g 223))]) [0] rfl ?_
  refine zx_iconst (v := (-1 : Int32)) C dX10_richest_0 (by decide) ?_
  refine zx_istore_n (lv' := [(1, .int (-1 : Int32)), (0, .ref (g 223))]) C dX10_richest_1 (by decide) rfl ?_
  refine zx_iconst (v := (0 : Int32)) C dX10_richest_2 (by decide) ?_
  refine zx_istore_n (lv' := [(2, .int (0 : Int32)), (1, .int (-1 : Int32)), (0, .ref (g 223))]) C dX10_richest_3 (by decide) rfl ?_
  refine zx_iconst (v := (0 : Int32)) C dX10_richest_4 (by decide) ?_
  refine zx_istore_n (lv' := [(3, .int (0 : Int32)), (2, .int (0 : Int32)), (1, .int (-1 : Int32)), (0, .ref (g 223))]) C dX10_richest_5 (by decide) rfl ?_
  obtain ⟨n, h⟩ := h
  refine zx_lv (lv' := [(0, .ref (g 223)), (1, .int (-1 : Int32)), (2, .int (0 : Int32)), (3, .int (0 : Int32))]) [3, 2, 1, 0] rfl ?_
  exact k_X10_richest_6 C hr    n (-1 : Int32) (0 : Int32) (0 : Int32) σ h
def w_X10_spare_11 (x_1 : Int32) (x_2 : Int32) (P : Int32 → zSto → Prop)  : Nat → Int32 → Int32 → Int32 → zSto → Prop
  | 0, _, _, _, _ => False
  | n + 1, x_3, x_4, x_5, σ => (((σ.1 223 25) ≤ x_5 → P x_3 σ) ∧ (¬ (σ.1 223 25) ≤ x_5 → (vp_in x_5 16 ∧ (∀ x3 : Int32, x3 = (σ.1 238 (x_5).toNatClampNeg) → (vp_in x_5 16 ∧ (∀ σ5 : zSto, σ5 = zI σ 238 (x_5).toNatClampNeg (0 : Int32) → (w_X10_everyone  σ5 (fun (r7 : Int32) (σ6 : zSto) => (w_X10_go x_1 x_2 r7 σ6 (fun (σ8 : zSto) => (vp_in x_5 16 ∧ (∀ σ10 : zSto, σ10 = zI σ8 238 (x_5).toNatClampNeg x3 → ((x_4 ≤ (σ10.1 223 31) → ((x_4 ≤ (σ10.1 223 31) → (∀ x11 : Int32, x11 = (x_5 + (1 : Int32)) → w_X10_spare_11 x_1 x_2 P n x_3 x_4 x11 σ10)) ∧ (¬ x_4 ≤ (σ10.1 223 31) → (∀ x12 : Int32, x12 = (σ10.1 223 31) → (∀ x13 : Int32, x13 = (x_5 + (1 : Int32)) → w_X10_spare_11 x_1 x_2 P n x_3 x12 x13 σ10))))) ∧ (¬ x_4 ≤ (σ10.1 223 31) → ((x_4 ≤ (σ10.1 223 31) → (∀ x14 : Int32, x14 = (x_5 + (1 : Int32)) → w_X10_spare_11 x_1 x_2 P n x_5 x_4 x14 σ10)) ∧ (¬ x_4 ≤ (σ10.1 223 31) → (∀ x15 : Int32, x15 = (σ10.1 223 31) → (∀ x16 : Int32, x16 = (x_5 + (1 : Int32)) → w_X10_spare_11 x_1 x_2 P n x_5 x15 x16 σ10))))))))))))))))))
def w_X10_spare (a1 : Int32) (a2 : Int32) (σ : zSto) (P : Int32 → zSto → Prop) : Prop := (∀ x1 : Int32, x1 = (σ.1 223 31) → (∃ n : Nat, w_X10_spare_11 a1 a2 P  n (-1 : Int32) x1 (0 : Int32) σ))
set_option maxRecDepth 100000 in
set_option maxHeartbeats 4000000 in
theorem k_X10_spare_11 {p : Program} {l : Launch} {e : Env} {s : State} {m : MethodId} {args : Array Value} {below : List Frame} {meth : Method} {c : Code} {D : va_G} {cy : Nat → ClassId} {g : Nat → Nat} (C : zC p s m args meth c cX10_spare RX10 7 D cy g) (hr : meth.sig.returnType = (some .int)) {P : Int32 → zSto → Prop} (x_1 : Int32) (x_2 : Int32)    : ∀ (n : Nat) (x_3 : Int32) (x_4 : Int32) (x_5 : Int32) (σ : zSto), w_X10_spare_11 x_1 x_2 P n x_3 x_4 x_5 σ → zX p l e (zrm 6 139) s m args below meth c 0 0 (zQi P below args s D cy g) 7 D cy g 11 [(0, .ref (g 223)), (1, .int x_1), (2, .int x_2), (3, .int x_3), (4, .int x_4), (5, .int x_5)] [] σ := by
  intro n
  induction n with
  | zero => intro x_3 x_4 x_5 σ h; exact h.elim
  | succ n ih =>
    intro x_3 x_4 x_5 σ h
    unfold w_X10_spare_11 at h
    refine zx_iload C dX10_spare_11 5 rfl ?_
    refine zx_aload_n C dX10_spare_13 0 rfl ?_
    refine zx_getI C zs_223 fg_X10_248 rfl dX10_spare_14 ?_
    refine zx_icmp_ge C 98 dX10_spare_17 (by decide) (fun q => ?_) (fun q => ?_)
    · replace h := h.1 q
      refine zx_iload_n C dX10_spare_98 3 rfl ?_
      exact zx_iret C hr dX10_spare_99 h
    · replace h := h.2 q
      refine zx_aload_n C dX10_spare_20 0 rfl ?_
      refine zx_getR C zs_223 fg_X10_53 rfl 238 rfl dX10_spare_21 ?_
      refine zx_iload C dX10_spare_24 5 rfl ?_
      obtain ⟨bd2, h⟩ := h
      refine zx_iald C (x_5).toNatClampNeg zs_238 bd2 rfl dX10_spare_26 ?_
      refine zx_topi (fun x3 ex3 => ?_)
      replace h := h x3 ex3
      refine zx_istore (lv' := [(6, .int x3), (0, .ref (g 223)), (1, .int x_1), (2, .int x_2), (3, .int x_3), (4, .int x_4), (5, .int x_5)]) C dX10_spare_27 (by decide) rfl ?_
      refine zx_aload_n C dX10_spare_29 1 rfl ?_
      refine zx_getR C zs_223 fg_X10_53 rfl 238 rfl dX10_spare_30 ?_
      refine zx_iload C dX10_spare_33 6 rfl ?_
      refine zx_iconst (v := (0 : Int32)) C dX10_spare_35 (by decide) ?_
      obtain ⟨bd4, h⟩ := h
      refine zx_iast C (x_5).toNatClampNeg zs_238 bd4 rfl dX10_spare_36 ?_
      refine zx_sig (fun σ5 eσ5 => ?_)
      replace h := h σ5 eσ5
      refine zx_aload_n C dX10_spare_37 1 rfl ?_
      refine zx_iload_n C dX10_spare_38 2 rfl ?_
      refine zx_iload_n C dX10_spare_39 3 rfl ?_
      refine zx_aload_n C dX10_spare_40 1 rfl ?_
      refine zx_cVi C [] lk_X10_307 (c_X10_everyone l D cy g   σ5 h) zs_223 rfl ⟨by decide, by decide⟩ ⟨rfl, rfl⟩ ⟨Nat.zero_le _, Nat.zero_le _⟩ rfl rfl (Nat.le_of_ble_eq_true rfl) dX10_spare_41 (fun r7 σ6 h => ?_)
      refine zx_cVv C [.int x_1, .int x_2, .int r7] lk_X10_310 (c_X10_go l D cy g x_1 x_2 r7  σ6 h) zs_223 rfl ⟨by decide, by decide⟩ ⟨rfl, rfl⟩ ⟨Nat.zero_le _, Nat.zero_le _⟩ rfl rfl (Nat.le_of_ble_eq_true rfl) dX10_spare_44 (fun σ8 h => ?_)
      refine zx_aload_n C dX10_spare_47 1 rfl ?_
      refine zx_getR C zs_223 fg_X10_53 rfl 238 rfl dX10_spare_48 ?_
      refine zx_iload C dX10_spare_51 6 rfl ?_
      refine zx_iload C dX10_spare_53 0 rfl ?_
      obtain ⟨bd9, h⟩ := h
      refine zx_iast C (x_5).toNatClampNeg zs_238 bd9 rfl dX10_spare_55 ?_
      refine zx_sig (fun σ10 eσ10 => ?_)
      replace h := h σ10 eσ10
      refine zx_aload_n C dX10_spare_56 1 rfl ?_
      refine zx_getI C zs_223 fg_X10_276 rfl dX10_spare_57 ?_
      refine zx_iload C dX10_spare_60 5 rfl ?_
      refine zx_icmp_ge C 70 dX10_spare_62 (by decide) (fun q => ?_) (fun q => ?_)
      · replace h := h.1 q
        refine zx_iload_n C dX10_spare_70 4 rfl ?_
        refine zx_istore_n (lv' := [(3, .int x_3), (6, .int x3), (0, .ref (g 223)), (1, .int x_1), (2, .int x_2), (4, .int x_4), (5, .int x_5)]) C dX10_spare_71 (by decide) rfl ?_
        refine zx_aload_n C dX10_spare_72 2 rfl ?_
        refine zx_getI C zs_223 fg_X10_276 rfl dX10_spare_73 ?_
        refine zx_iload C dX10_spare_76 5 rfl ?_
        refine zx_icmp_ge C 88 dX10_spare_78 (by decide) (fun q => ?_) (fun q => ?_)
        · replace h := h.1 q
          refine zx_iload C dX10_spare_88 5 rfl ?_
          refine zx_istore (lv' := [(4, .int x_4), (3, .int x_3), (6, .int x3), (0, .ref (g 223)), (1, .int x_1), (2, .int x_2), (5, .int x_5)]) C dX10_spare_90 (by decide) rfl ?_
          obtain ⟨x11, ex11⟩ : ∃ y : Int32, y = (x_5 + (1 : Int32)) := ⟨_, rfl⟩
          replace h := h x11 ex11
          refine zx_iinc (v := x11) (lv' := [(5, .int x11), (4, .int x_4), (3, .int x_3), (6, .int x3), (0, .ref (g 223)), (1, .int x_1), (2, .int x_2)]) C dX10_spare_92 6 rfl (by rw [ex11]; rfl) (by decide) rfl ?_
          refine zx_goto C 11 dX10_spare_95 (by decide) ?_
          refine zx_lv (lv' := [(0, .ref (g 223)), (1, .int x_1), (2, .int x_2), (3, .int x_3), (4, .int x_4), (5, .int x11)]) [4, 5, 6, 2, 1, 0] rfl ?_
          exact ih x_3 x_4 x11 σ10 h
        · replace h := h.2 q
          refine zx_aload_n C dX10_spare_81 2 rfl ?_
          refine zx_getI C zs_223 fg_X10_276 rfl dX10_spare_82 ?_
          refine zx_goto C 90 dX10_spare_85 (by decide) ?_
          refine zx_topi (fun x12 ex12 => ?_)
          replace h := h x12 ex12
          refine zx_istore (lv' := [(4, .int x12), (3, .int x_3), (6, .int x3), (0, .ref (g 223)), (1, .int x_1), (2, .int x_2), (5, .int x_5)]) C dX10_spare_90 (by decide) rfl ?_
          obtain ⟨x13, ex13⟩ : ∃ y : Int32, y = (x_5 + (1 : Int32)) := ⟨_, rfl⟩
          replace h := h x13 ex13
          refine zx_iinc (v := x13) (lv' := [(5, .int x13), (4, .int x12), (3, .int x_3), (6, .int x3), (0, .ref (g 223)), (1, .int x_1), (2, .int x_2)]) C dX10_spare_92 6 rfl (by rw [ex13]; rfl) (by decide) rfl ?_
          refine zx_goto C 11 dX10_spare_95 (by decide) ?_
          refine zx_lv (lv' := [(0, .ref (g 223)), (1, .int x_1), (2, .int x_2), (3, .int x_3), (4, .int x12), (5, .int x13)]) [4, 5, 6, 2, 1, 0] rfl ?_
          exact ih x_3 x12 x13 σ10 h
      · replace h := h.2 q
        refine zx_iload C dX10_spare_65 6 rfl ?_
        refine zx_goto C 71 dX10_spare_67 (by decide) ?_
        refine zx_istore_n (lv' := [(3, .int x_5), (6, .int x3), (0, .ref (g 223)), (1, .int x_1), (2, .int x_2), (4, .int x_4), (5, .int x_5)]) C dX10_spare_71 (by decide) rfl ?_
        refine zx_aload_n C dX10_spare_72 2 rfl ?_
        refine zx_getI C zs_223 fg_X10_276 rfl dX10_spare_73 ?_
        refine zx_iload C dX10_spare_76 5 rfl ?_
        refine zx_icmp_ge C 88 dX10_spare_78 (by decide) (fun q => ?_) (fun q => ?_)
        · replace h := h.1 q
          refine zx_iload C dX10_spare_88 5 rfl ?_
          refine zx_istore (lv' := [(4, .int x_4), (3, .int x_5), (6, .int x3), (0, .ref (g 223)), (1, .int x_1), (2, .int x_2), (5, .int x_5)]) C dX10_spare_90 (by decide) rfl ?_
          obtain ⟨x14, ex14⟩ : ∃ y : Int32, y = (x_5 + (1 : Int32)) := ⟨_, rfl⟩
          replace h := h x14 ex14
          refine zx_iinc (v := x14) (lv' := [(5, .int x14), (4, .int x_4), (3, .int x_5), (6, .int x3), (0, .ref (g 223)), (1, .int x_1), (2, .int x_2)]) C dX10_spare_92 6 rfl (by rw [ex14]; rfl) (by decide) rfl ?_
          refine zx_goto C 11 dX10_spare_95 (by decide) ?_
          refine zx_lv (lv' := [(0, .ref (g 223)), (1, .int x_1), (2, .int x_2), (3, .int x_5), (4, .int x_4), (5, .int x14)]) [4, 5, 6, 2, 1, 0] rfl ?_
          exact ih x_5 x_4 x14 σ10 h
        · replace h := h.2 q
          refine zx_aload_n C dX10_spare_81 2 rfl ?_
          refine zx_getI C zs_223 fg_X10_276 rfl dX10_spare_82 ?_
          refine zx_goto C 90 dX10_spare_85 (by decide) ?_
          refine zx_topi (fun x15 ex15 => ?_)
          replace h := h x15 ex15
          refine zx_istore (lv' := [(4, .int x15), (3, .int x_5), (6, .int x3), (0, .ref (g 223)), (1, .int x_1), (2, .int x_2), (5, .int x_5)]) C dX10_spare_90 (by decide) rfl ?_
          obtain ⟨x16, ex16⟩ : ∃ y : Int32, y = (x_5 + (1 : Int32)) := ⟨_, rfl⟩
          replace h := h x16 ex16
          refine zx_iinc (v := x16) (lv' := [(5, .int x16), (4, .int x15), (3, .int x_5), (6, .int x3), (0, .ref (g 223)), (1, .int x_1), (2, .int x_2)]) C dX10_spare_92 6 rfl (by rw [ex16]; rfl) (by decide) rfl ?_
          refine zx_goto C 11 dX10_spare_95 (by decide) ?_
          refine zx_lv (lv' := [(0, .ref (g 223)), (1, .int x_1), (2, .int x_2), (3, .int x_5), (4, .int x15), (5, .int x16)]) [4, 5, 6, 2, 1, 0] rfl ?_
          exact ih x_5 x15 x16 σ10 h
set_option maxRecDepth 100000 in
set_option maxHeartbeats 4000000 in
theorem c_X10_spare (l : Launch) (D : va_G) (cy : Nat → ClassId) (g : Nat → Nat) (a1 : Int32) (a2 : Int32)  (σ : zSto) {P : Int32 → zSto → Prop} (h : w_X10_spare a1 a2 σ P) : zMi l yX10_spare cX10_spare 7 (some .int) (zrm 6 139) D cy g [.ref (g 223), .int a1, .int a2] σ P := by
  unfold w_X10_spare at h
  refine zm_i RX10 rfl (by decide +kernel) (Nat.le_of_ble_eq_true rfl) ?_
  intro p e s m below meth c C hr
  refine zx_lv (lv' := [(0, .ref (g 223)), (1, .int a1), (2, .int a2)]) [0, 1, 2] rfl ?_
  refine zx_iconst (v := (-1 : Int32)) C dX10_spare_0 (by decide) ?_
  refine zx_istore_n (lv' := [(3, .int (-1 : Int32)), (0, .ref (g 223)), (1, .int a1), (2, .int a2)]) C dX10_spare_1 (by decide) rfl ?_
  refine zx_aload_n C dX10_spare_2 1 rfl ?_
  refine zx_getI C zs_223 fg_X10_276 rfl dX10_spare_3 ?_
  refine zx_topi (fun x1 ex1 => ?_)
  replace h := h x1 ex1
  refine zx_istore (lv' := [(4, .int x1), (3, .int (-1 : Int32)), (0, .ref (g 223)), (1, .int a1), (2, .int a2)]) C dX10_spare_6 (by decide) rfl ?_
  refine zx_iconst (v := (0 : Int32)) C dX10_spare_8 (by decide) ?_
  refine zx_istore (lv' := [(5, .int (0 : Int32)), (4, .int x1), (3, .int (-1 : Int32)), (0, .ref (g 223)), (1, .int a1), (2, .int a2)]) C dX10_spare_9 (by decide) rfl ?_
  obtain ⟨n, h⟩ := h
  refine zx_lv (lv' := [(0, .ref (g 223)), (1, .int a1), (2, .int a2), (3, .int (-1 : Int32)), (4, .int x1), (5, .int (0 : Int32))]) [3, 4, 5, 2, 1, 0] rfl ?_
  exact k_X10_spare_11 C hr (a1) (a2)   n (-1 : Int32) x1 (0 : Int32) σ h
theorem lk_X10_404 : zLV RX10 404 RX10 yX10_richest cX10_richest 4 (some .int) 0 := zLV_of ml_X10_404 im_X10_richest se_X10_richest ini_X10 cd_X10_richest (by decide +kernel)
theorem lk_X10_401 : zLV RX10 401 RX10 yX10_spare cX10_spare 7 (some .int) 2 := zLV_of ml_X10_401 im_X10_spare se_X10_spare ini_X10 cd_X10_spare (by decide +kernel)
def w_X10_rich (a1 : Int32) (a2 : Int32) (a3 : Int32) (a4 : Int32) (a5 : Int32) (σ : zSto) (P : Int32 → zSto → Prop) : Prop := (∀ σ1 : zSto, σ1 = zI σ 223 0 (0 : Int32) → (w_X10_layRun a1 a2 a3 a4 σ1 (fun (r3 : Int32) (σ2 : zSto) => (r3 = 0 ∨ r3 = 1) → ((¬ r3 = 0 → ((a5 = 0 → (w_X10_richest  σ2 (fun (r5 : Int32) (σ4 : zSto) => P r5 σ4))) ∧ (¬ a5 = 0 → (w_X10_spare a2 a3 σ2 (fun (r7 : Int32) (σ6 : zSto) => P r7 σ6))))) ∧ (r3 = 0 → P (-1 : Int32) σ2)))))
set_option maxRecDepth 100000 in
set_option maxHeartbeats 4000000 in
theorem c_X10_rich (l : Launch) (D : va_G) (cy : Nat → ClassId) (g : Nat → Nat) (a1 : Int32) (a2 : Int32) (a3 : Int32) (a4 : Int32) (a5 : Int32)  (σ : zSto) {P : Int32 → zSto → Prop} (h : w_X10_rich a1 a2 a3 a4 a5 σ P) : zMi l yX10_rich cX10_rich 6 (some .int) (zrm 7 165) D cy g [.ref (g 223), .int a1, .int a2, .int a3, .int a4, .int a5] σ P := by
  unfold w_X10_rich at h
  refine zm_i RX10 rfl (by decide +kernel) (Nat.le_of_ble_eq_true rfl) ?_
  intro p e s m below meth c C hr
  refine zx_lv (lv' := [(0, .ref (g 223)), (1, .int a1), (2, .int a2), (3, .int a3), (4, .int a4), (5, .int a5)]) [0, 1, 2, 3, 4, 5] rfl ?_
  refine zx_aload_n C dX10_rich_0 0 rfl ?_
  refine zx_iconst (v := (0 : Int32)) C dX10_rich_1 (by decide) ?_
  refine zx_putI C zs_223 fp_X10_91 rfl dX10_rich_2 ?_
  refine zx_sig (fun σ1 eσ1 => ?_)
  replace h := h σ1 eσ1
  refine zx_aload_n C dX10_rich_5 0 rfl ?_
  refine zx_iload_n C dX10_rich_6 1 rfl ?_
  refine zx_iload_n C dX10_rich_7 2 rfl ?_
  refine zx_iload_n C dX10_rich_8 3 rfl ?_
  refine zx_iload C dX10_rich_9 4 rfl ?_
  refine zx_cVb C [.int a1, .int a2, .int a3, .int a4] lk_X10_313 (c_X10_layRun l D cy g a1 a2 a3 a4  σ1 h) zs_223 rfl ⟨by decide, by decide⟩ ⟨rfl, rfl⟩ ⟨Nat.zero_le _, Nat.zero_le _⟩ rfl rfl (Nat.le_of_ble_eq_true rfl) dX10_rich_11 (fun r3 σ2 hb h => ?_)
  replace h := h hb
  refine zx_if_ne C 19 dX10_rich_14 (by decide) (fun q => ?_) (fun q => ?_)
  · replace h := h.1 q
    refine zx_iload C dX10_rich_19 5 rfl ?_
    refine zx_if_eq C 33 dX10_rich_21 (by decide) (fun q => ?_) (fun q => ?_)
    · replace h := h.1 q
      refine zx_aload_n C dX10_rich_33 0 rfl ?_
      refine zx_cVi C [] lk_X10_404 (c_X10_richest l D cy g   σ2 h) zs_223 rfl ⟨by decide, by decide⟩ ⟨rfl, rfl⟩ ⟨Nat.zero_le _, Nat.zero_le _⟩ rfl rfl (Nat.le_of_ble_eq_true rfl) dX10_rich_34 (fun r5 σ4 h => ?_)
      exact zx_iret C hr dX10_rich_37 h
    · replace h := h.2 q
      refine zx_aload_n C dX10_rich_24 0 rfl ?_
      refine zx_iload_n C dX10_rich_25 2 rfl ?_
      refine zx_iload_n C dX10_rich_26 3 rfl ?_
      refine zx_cVi C [.int a2, .int a3] lk_X10_401 (c_X10_spare l D cy g a2 a3  σ2 h) zs_223 rfl ⟨by decide, by decide⟩ ⟨rfl, rfl⟩ ⟨Nat.zero_le _, Nat.zero_le _⟩ rfl rfl (Nat.le_of_ble_eq_true rfl) dX10_rich_27 (fun r7 σ6 h => ?_)
      refine zx_goto C 37 dX10_rich_30 (by decide) ?_
      exact zx_iret C hr dX10_rich_37 h
  · replace h := h.2 q
    refine zx_iconst (v := (-1 : Int32)) C dX10_rich_17 (by decide) ?_
    exact zx_iret C hr dX10_rich_18 h
def w_X10_lots_43 (x_3 : Int32) (x_4 : Int32) (x_5 : Int32) (P : Int32 → zSto → Prop)  : Nat → Int32 → Int32 → zSto → Prop
  | 0, _, _, _ => False
  | n + 1, x_6, x_7, σ => ((x_4 ≤ x_7 → P x_6 σ) ∧ (¬ x_4 ≤ x_7 → (w_X10_everyone  σ (fun (r9 : Int32) (σ8 : zSto) => (w_X10_go (2 : Int32) (x_3 + x_7) r9 σ8 (fun (σ10 : zSto) => ((¬ x_5 = 0 → ((¬ x_5 = (1 : Int32) → (((σ10.1 223 34) = (-1 : Int32) → (∀ x11 : Int32, x11 = (x_6 + (0 : Int32)) → (∀ x12 : Int32, x12 = (x_7 + (1 : Int32)) → w_X10_lots_43 x_3 x_4 x_5 P n x11 x12 σ10))) ∧ (¬ (σ10.1 223 34) = (-1 : Int32) → (∀ x13 : Int32, x13 = (x_6 + (1 : Int32)) → (∀ x14 : Int32, x14 = (x_7 + (1 : Int32)) → w_X10_lots_43 x_3 x_4 x_5 P n x13 x14 σ10))))) ∧ (x_5 = (1 : Int32) → (∀ x15 : Int32, x15 = (x_6 + (σ10.1 223 31)) → (∀ x16 : Int32, x16 = (x_7 + (1 : Int32)) → w_X10_lots_43 x_3 x_4 x_5 P n x15 x16 σ10))))) ∧ (x_5 = 0 → (w_X10_gathered  σ10 (fun (r18 : Int32) (σ17 : zSto) => (∀ x19 : Int32, x19 = (x_6 + r18) → (∀ x20 : Int32, x20 = (x_7 + (1 : Int32)) → w_X10_lots_43 x_3 x_4 x_5 P n x19 x20 σ17))))))))))))
def w_X10_lots (a1 : Int32) (a2 : Int32) (a3 : Int32) (a4 : Int32) (a5 : Int32) (σ : zSto) (P : Int32 → zSto → Prop) : Prop := (∀ σ1 : zSto, σ1 = zI σ 223 0 (0 : Int32) → (w_X10_in a4 (1 : Int32) (20 : Int32) σ1 (fun (r3 : Int32) (σ2 : zSto) => (r3 = 0 ∨ r3 = 1) → ((r3 = 0 → P (-1 : Int32) σ2) ∧ (¬ r3 = 0 → (w_X10_in a5 (0 : Int32) (2 : Int32) σ2 (fun (r5 : Int32) (σ4 : zSto) => (r5 = 0 ∨ r5 = 1) → ((r5 = 0 → P (-1 : Int32) σ4) ∧ (¬ r5 = 0 → (w_X10_hand a1 a2 σ4 (fun (r7 : Int32) (σ6 : zSto) => (r7 = 0 ∨ r7 = 1) → ((¬ r7 = 0 → (∃ n : Nat, w_X10_lots_43 a3 a4 a5 P  n (0 : Int32) (0 : Int32) σ6)) ∧ (r7 = 0 → P (-1 : Int32) σ6)))))))))))))
set_option maxRecDepth 100000 in
set_option maxHeartbeats 4000000 in
theorem k_X10_lots_43 {p : Program} {l : Launch} {e : Env} {s : State} {m : MethodId} {args : Array Value} {below : List Frame} {meth : Method} {c : Code} {D : va_G} {cy : Nat → ClassId} {g : Nat → Nat} (C : zC p s m args meth c cX10_lots RX10 8 D cy g) (hr : meth.sig.returnType = (some .int)) {P : Int32 → zSto → Prop} (x_3 : Int32) (x_4 : Int32) (x_5 : Int32)    : ∀ (n : Nat) (x_6 : Int32) (x_7 : Int32) (σ : zSto), w_X10_lots_43 x_3 x_4 x_5 P n x_6 x_7 σ → zX p l e (zrm 6 139) s m args below meth c 0 0 (zQi P below args s D cy g) 8 D cy g 43 [(0, .ref (g 223)), (3, .int x_3), (4, .int x_4), (5, .int x_5), (6, .int x_6), (7, .int x_7)] [] σ := by
  intro n
  induction n with
  | zero => intro x_6 x_7 σ h; exact h.elim
  | succ n ih =>
    intro x_6 x_7 σ h
    unfold w_X10_lots_43 at h
    refine zx_iload C dX10_lots_43 5 rfl ?_
    refine zx_iload C dX10_lots_45 2 rfl ?_
    refine zx_icmp_ge C 112 dX10_lots_47 (by decide) (fun q => ?_) (fun q => ?_)
    · replace h := h.1 q
      refine zx_iload C dX10_lots_112 4 rfl ?_
      exact zx_iret C hr dX10_lots_114 h
    · replace h := h.2 q
      refine zx_aload_n C dX10_lots_50 0 rfl ?_
      refine zx_iconst (v := (2 : Int32)) C dX10_lots_51 (by decide) ?_
      refine zx_iload_n C dX10_lots_52 1 rfl ?_
      refine zx_iload C dX10_lots_53 5 rfl ?_
      refine zx_iadd C dX10_lots_55 ?_
      refine zx_aload_n C dX10_lots_56 0 rfl ?_
      refine zx_cVi C [] lk_X10_307 (c_X10_everyone l D cy g   σ h) zs_223 rfl ⟨by decide, by decide⟩ ⟨rfl, rfl⟩ ⟨Nat.zero_le _, Nat.zero_le _⟩ rfl rfl (Nat.le_of_ble_eq_true rfl) dX10_lots_57 (fun r9 σ8 h => ?_)
      refine zx_cVv C [.int (2 : Int32), .int (x_3 + x_7), .int r9] lk_X10_310 (c_X10_go l D cy g (2 : Int32) (x_3 + x_7) r9  σ8 h) zs_223 rfl ⟨by decide, by decide⟩ ⟨rfl, rfl⟩ ⟨Nat.zero_le _, Nat.zero_le _⟩ rfl rfl (Nat.le_of_ble_eq_true rfl) dX10_lots_60 (fun σ10 h => ?_)
      refine zx_iload C dX10_lots_63 4 rfl ?_
      refine zx_iload C dX10_lots_65 3 rfl ?_
      refine zx_if_ne C 77 dX10_lots_67 (by decide) (fun q => ?_) (fun q => ?_)
      · replace h := h.1 q
        refine zx_iload C dX10_lots_77 3 rfl ?_
        refine zx_iconst (v := (1 : Int32)) C dX10_lots_79 (by decide) ?_
        refine zx_icmp_ne C 90 dX10_lots_80 (by decide) (fun q => ?_) (fun q => ?_)
        · replace h := h.1 q
          refine zx_aload_n C dX10_lots_90 0 rfl ?_
          refine zx_getI C zs_223 fg_X10_291 rfl dX10_lots_91 ?_
          refine zx_iconst (v := (-1 : Int32)) C dX10_lots_94 (by decide) ?_
          refine zx_icmp_eq C 102 dX10_lots_95 (by decide) (fun q => ?_) (fun q => ?_)
          · replace h := h.1 q
            refine zx_iconst (v := (0 : Int32)) C dX10_lots_102 (by decide) ?_
            refine zx_iadd C dX10_lots_103 ?_
            refine zx_topi (fun x11 ex11 => ?_)
            replace h := h x11 ex11
            refine zx_istore (lv' := [(6, .int x11), (0, .ref (g 223)), (3, .int x_3), (4, .int x_4), (5, .int x_5), (7, .int x_7)]) C dX10_lots_104 (by decide) rfl ?_
            obtain ⟨x12, ex12⟩ : ∃ y : Int32, y = (x_7 + (1 : Int32)) := ⟨_, rfl⟩
            replace h := h x12 ex12
            refine zx_iinc (v := x12) (lv' := [(7, .int x12), (6, .int x11), (0, .ref (g 223)), (3, .int x_3), (4, .int x_4), (5, .int x_5)]) C dX10_lots_106 5 rfl (by rw [ex12]; rfl) (by decide) rfl ?_
            refine zx_goto C 43 dX10_lots_109 (by decide) ?_
            refine zx_lv (lv' := [(0, .ref (g 223)), (3, .int x_3), (4, .int x_4), (5, .int x_5), (6, .int x11), (7, .int x12)]) [2, 3, 4, 5, 1, 0] rfl ?_
            exact ih x11 x12 σ10 h
          · replace h := h.2 q
            refine zx_iconst (v := (1 : Int32)) C dX10_lots_98 (by decide) ?_
            refine zx_goto C 103 dX10_lots_99 (by decide) ?_
            refine zx_iadd C dX10_lots_103 ?_
            refine zx_topi (fun x13 ex13 => ?_)
            replace h := h x13 ex13
            refine zx_istore (lv' := [(6, .int x13), (0, .ref (g 223)), (3, .int x_3), (4, .int x_4), (5, .int x_5), (7, .int x_7)]) C dX10_lots_104 (by decide) rfl ?_
            obtain ⟨x14, ex14⟩ : ∃ y : Int32, y = (x_7 + (1 : Int32)) := ⟨_, rfl⟩
            replace h := h x14 ex14
            refine zx_iinc (v := x14) (lv' := [(7, .int x14), (6, .int x13), (0, .ref (g 223)), (3, .int x_3), (4, .int x_4), (5, .int x_5)]) C dX10_lots_106 5 rfl (by rw [ex14]; rfl) (by decide) rfl ?_
            refine zx_goto C 43 dX10_lots_109 (by decide) ?_
            refine zx_lv (lv' := [(0, .ref (g 223)), (3, .int x_3), (4, .int x_4), (5, .int x_5), (6, .int x13), (7, .int x14)]) [2, 3, 4, 5, 1, 0] rfl ?_
            exact ih x13 x14 σ10 h
        · replace h := h.2 q
          refine zx_aload_n C dX10_lots_83 0 rfl ?_
          refine zx_getI C zs_223 fg_X10_276 rfl dX10_lots_84 ?_
          refine zx_goto C 103 dX10_lots_87 (by decide) ?_
          refine zx_iadd C dX10_lots_103 ?_
          refine zx_topi (fun x15 ex15 => ?_)
          replace h := h x15 ex15
          refine zx_istore (lv' := [(6, .int x15), (0, .ref (g 223)), (3, .int x_3), (4, .int x_4), (5, .int x_5), (7, .int x_7)]) C dX10_lots_104 (by decide) rfl ?_
          obtain ⟨x16, ex16⟩ : ∃ y : Int32, y = (x_7 + (1 : Int32)) := ⟨_, rfl⟩
          replace h := h x16 ex16
          refine zx_iinc (v := x16) (lv' := [(7, .int x16), (6, .int x15), (0, .ref (g 223)), (3, .int x_3), (4, .int x_4), (5, .int x_5)]) C dX10_lots_106 5 rfl (by rw [ex16]; rfl) (by decide) rfl ?_
          refine zx_goto C 43 dX10_lots_109 (by decide) ?_
          refine zx_lv (lv' := [(0, .ref (g 223)), (3, .int x_3), (4, .int x_4), (5, .int x_5), (6, .int x15), (7, .int x16)]) [2, 3, 4, 5, 1, 0] rfl ?_
          exact ih x15 x16 σ10 h
      · replace h := h.2 q
        refine zx_aload_n C dX10_lots_70 0 rfl ?_
        refine zx_cVi C [] lk_X10_317 (c_X10_gathered l D cy g   σ10 h) zs_223 rfl ⟨by decide, by decide⟩ ⟨rfl, rfl⟩ ⟨Nat.zero_le _, Nat.zero_le _⟩ rfl rfl (Nat.le_of_ble_eq_true rfl) dX10_lots_71 (fun r18 σ17 h => ?_)
        refine zx_goto C 103 dX10_lots_74 (by decide) ?_
        refine zx_iadd C dX10_lots_103 ?_
        refine zx_topi (fun x19 ex19 => ?_)
        replace h := h x19 ex19
        refine zx_istore (lv' := [(6, .int x19), (0, .ref (g 223)), (3, .int x_3), (4, .int x_4), (5, .int x_5), (7, .int x_7)]) C dX10_lots_104 (by decide) rfl ?_
        obtain ⟨x20, ex20⟩ : ∃ y : Int32, y = (x_7 + (1 : Int32)) := ⟨_, rfl⟩
        replace h := h x20 ex20
        refine zx_iinc (v := x20) (lv' := [(7, .int x20), (6, .int x19), (0, .ref (g 223)), (3, .int x_3), (4, .int x_4), (5, .int x_5)]) C dX10_lots_106 5 rfl (by rw [ex20]; rfl) (by decide) rfl ?_
        refine zx_goto C 43 dX10_lots_109 (by decide) ?_
        refine zx_lv (lv' := [(0, .ref (g 223)), (3, .int x_3), (4, .int x_4), (5, .int x_5), (6, .int x19), (7, .int x20)]) [2, 3, 4, 5, 1, 0] rfl ?_
        exact ih x19 x20 σ17 h
set_option maxRecDepth 100000 in
set_option maxHeartbeats 4000000 in
theorem c_X10_lots (l : Launch) (D : va_G) (cy : Nat → ClassId) (g : Nat → Nat) (a1 : Int32) (a2 : Int32) (a3 : Int32) (a4 : Int32) (a5 : Int32)  (σ : zSto) {P : Int32 → zSto → Prop} (h : w_X10_lots a1 a2 a3 a4 a5 σ P) : zMi l yX10_lots cX10_lots 8 (some .int) (zrm 6 139) D cy g [.ref (g 223), .int a1, .int a2, .int a3, .int a4, .int a5] σ P := by
  unfold w_X10_lots at h
  refine zm_i RX10 rfl (by decide +kernel) (Nat.le_of_ble_eq_true rfl) ?_
  intro p e s m below meth c C hr
  refine zx_lv (lv' := [(0, .ref (g 223)), (1, .int a1), (2, .int a2), (3, .int a3), (4, .int a4), (5, .int a5)]) [0, 1, 2, 3, 4, 5] rfl ?_
  refine zx_aload_n C dX10_lots_0 0 rfl ?_
  refine zx_iconst (v := (0 : Int32)) C dX10_lots_1 (by decide) ?_
  refine zx_putI C zs_223 fp_X10_91 rfl dX10_lots_2 ?_
  refine zx_sig (fun σ1 eσ1 => ?_)
  replace h := h σ1 eσ1
  refine zx_iload C dX10_lots_5 4 rfl ?_
  refine zx_iconst (v := (1 : Int32)) C dX10_lots_7 (by decide) ?_
  refine zx_bipush (v := (20 : Int32)) C dX10_lots_8 (by decide) ?_
  refine zx_cSb C [.int a4, .int (1 : Int32), .int (20 : Int32)] lk_X10_103 (c_X10_in l D cy g a4 (1 : Int32) (20 : Int32)  σ1 h) ⟨by decide, by decide⟩ ⟨rfl, rfl⟩ ⟨Nat.zero_le _, Nat.zero_le _⟩ rfl rfl (Nat.le_of_ble_eq_true rfl) dX10_lots_10 (fun r3 σ2 hb h => ?_)
  replace h := h hb
  refine zx_if_eq C 35 dX10_lots_13 (by decide) (fun q => ?_) (fun q => ?_)
  · replace h := h.1 q
    refine zx_iconst (v := (-1 : Int32)) C dX10_lots_35 (by decide) ?_
    exact zx_iret C hr dX10_lots_36 h
  · replace h := h.2 q
    refine zx_iload C dX10_lots_16 5 rfl ?_
    refine zx_iconst (v := (0 : Int32)) C dX10_lots_18 (by decide) ?_
    refine zx_iconst (v := (2 : Int32)) C dX10_lots_19 (by decide) ?_
    refine zx_cSb C [.int a5, .int (0 : Int32), .int (2 : Int32)] lk_X10_103 (c_X10_in l D cy g a5 (0 : Int32) (2 : Int32)  σ2 h) ⟨by decide, by decide⟩ ⟨rfl, rfl⟩ ⟨Nat.zero_le _, Nat.zero_le _⟩ rfl rfl (Nat.le_of_ble_eq_true rfl) dX10_lots_20 (fun r5 σ4 hb h => ?_)
    replace h := h hb
    refine zx_if_eq C 35 dX10_lots_23 (by decide) (fun q => ?_) (fun q => ?_)
    · replace h := h.1 q
      refine zx_iconst (v := (-1 : Int32)) C dX10_lots_35 (by decide) ?_
      exact zx_iret C hr dX10_lots_36 h
    · replace h := h.2 q
      refine zx_aload_n C dX10_lots_26 0 rfl ?_
      refine zx_iload_n C dX10_lots_27 1 rfl ?_
      refine zx_iload_n C dX10_lots_28 2 rfl ?_
      refine zx_cVb C [.int a1, .int a2] lk_X10_257 (c_X10_hand l D cy g a1 a2  σ4 h) zs_223 rfl ⟨by decide, by decide⟩ ⟨rfl, rfl⟩ ⟨Nat.zero_le _, Nat.zero_le _⟩ rfl rfl (Nat.le_of_ble_eq_true rfl) dX10_lots_29 (fun r7 σ6 hb h => ?_)
      replace h := h hb
      refine zx_if_ne C 37 dX10_lots_32 (by decide) (fun q => ?_) (fun q => ?_)
      · replace h := h.1 q
        refine zx_iconst (v := (0 : Int32)) C dX10_lots_37 (by decide) ?_
        refine zx_istore (lv' := [(6, .int (0 : Int32)), (0, .ref (g 223)), (1, .int a1), (2, .int a2), (3, .int a3), (4, .int a4), (5, .int a5)]) C dX10_lots_38 (by decide) rfl ?_
        refine zx_iconst (v := (0 : Int32)) C dX10_lots_40 (by decide) ?_
        refine zx_istore (lv' := [(7, .int (0 : Int32)), (6, .int (0 : Int32)), (0, .ref (g 223)), (1, .int a1), (2, .int a2), (3, .int a3), (4, .int a4), (5, .int a5)]) C dX10_lots_41 (by decide) rfl ?_
        obtain ⟨n, h⟩ := h
        refine zx_lv (lv' := [(0, .ref (g 223)), (3, .int a3), (4, .int a4), (5, .int a5), (6, .int (0 : Int32)), (7, .int (0 : Int32))]) [2, 5, 6, 7, 1, 0] rfl ?_
        exact k_X10_lots_43 C hr (a3) (a4) (a5)   n (0 : Int32) (0 : Int32) σ6 h
      · replace h := h.2 q
        refine zx_iconst (v := (-1 : Int32)) C dX10_lots_35 (by decide) ?_
        exact zx_iret C hr dX10_lots_36 h
