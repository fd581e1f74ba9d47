def w_X10_greater (a1 : Int32) (a2 : Int32) (σ : zSto) (P : Int32 → zSto → Prop) : Prop := ((a1 ≤ a2 → P a2 σ) ∧ (¬ a1 ≤ a2 → P a1 σ))
set_option maxRecDepth 100000 in
set_option maxHeartbeats 4000000 in
theorem c_X10_greater (l : Launch) (D : va_G) (cy : Nat → ClassId) (g : Nat → Nat) (a1 : Int32) (a2 : Int32)  (σ : zSto) {P : Int32 → zSto → Prop} (h : w_X10_greater a1 a2 σ P) : zMi l yX10_greater cX10_greater 2 (some .int) (zrm 0 0) D cy g [.int a1, .int a2] σ P := by
  unfold w_X10_greater at h
  refine zm_i RX10 rfl (by decide +kernel) (Nat.le_of_ble_eq_true rfl) ?_
  intro p e s m below meth c C hr
  refine zx_lv (lv' := [(0, .int a1), (1, .int a2)]) [0, 1] rfl ?_
  refine zx_iload_n C dX10_greater_0 0 rfl ?_
  refine zx_iload_n C dX10_greater_1 1 rfl ?_
  refine zx_icmp_le C 9 dX10_greater_2 (by decide) (fun q => ?_) (fun q => ?_)
  · replace h := h.1 q
    refine zx_iload_n C dX10_greater_9 1 rfl ?_
    exact zx_iret C hr dX10_greater_10 h
  · replace h := h.2 q
    refine zx_iload_n C dX10_greater_5 0 rfl ?_
    refine zx_goto C 10 dX10_greater_6 (by decide) ?_
    exact zx_iret C hr dX10_greater_10 h
def w_X10_copyRow_3 (q_0 : Nat) (m_0 : Nat) (x_1 : Int32) (x_2 : Int32) (x_3 : Int32) (P : zSto → Prop)  : Nat → Int32 → zSto → Prop
  | 0, _, _ => False
  | n + 1, x_4, σ => ((x_1 ≤ x_4 → P σ) ∧ (¬ x_1 ≤ x_4 → (vp_in ((x_1 * x_2) + x_4) m_0 ∧ (vp_in ((x_1 * x_3) + x_4) m_0 ∧ (∀ σ3 : zSto, σ3 = zI σ q_0 (((x_1 * x_3) + x_4)).toNatClampNeg (σ.1 q_0 (((x_1 * x_2) + x_4)).toNatClampNeg) → (∀ x4 : Int32, x4 = (x_4 + (1 : Int32)) → w_X10_copyRow_3 q_0 m_0 x_1 x_2 x_3 P n x4 σ3))))))
def w_X10_copyRow (b1 n1 : Nat) (a2 : Int32) (a3 : Int32) (a4 : Int32) (σ : zSto) (P : zSto → Prop) : Prop := (∃ n : Nat, w_X10_copyRow_3 b1 n1 a2 a3 a4 P  n (0 : Int32) σ)
set_option maxRecDepth 100000 in
set_option maxHeartbeats 4000000 in
theorem k_X10_copyRow_3 {p : Program} {l : Launch} {e : Env} {s : State} {m : MethodId} {args : Array Value} {below : List Frame} {meth : Method} {c : Code} {D : va_G} {cy : Nat → ClassId} {g : Nat → Nat} (C : zC p s m args meth c cX10_copyRow RX10 5 D cy g) (hr : meth.sig.returnType = none) {P : zSto → Prop} (q_0 : Nat) (m_0 : Nat) (x_1 : Int32) (x_2 : Int32) (x_3 : Int32) (hq_0 : zsh q_0 = za 0 m_0)   : ∀ (n : Nat) (x_4 : Int32) (σ : zSto), w_X10_copyRow_3 q_0 m_0 x_1 x_2 x_3 P n x_4 σ → zX p l e (zrm 0 0) s m args below meth c 0 0 (zQv P below args s D cy g) 5 D cy g 3 [(0, .ref (g q_0)), (1, .int x_1), (2, .int x_2), (3, .int x_3), (4, .int x_4)] [] σ := by
  intro n
  induction n with
  | zero => intro x_4 σ h; exact h.elim
  | succ n ih =>
    intro x_4 σ h
    unfold w_X10_copyRow_3 at h
    refine zx_iload C dX10_copyRow_3 4 rfl ?_
    refine zx_iload_n C dX10_copyRow_5 1 rfl ?_
    refine zx_icmp_ge C 31 dX10_copyRow_6 (by decide) (fun q => ?_) (fun q => ?_)
    · replace h := h.1 q
      exact zx_vret C hr dX10_copyRow_31 h
    · replace h := h.2 q
      refine zx_aload_n C dX10_copyRow_9 0 rfl ?_
      refine zx_iload_n C dX10_copyRow_10 1 rfl ?_
      refine zx_iload_n C dX10_copyRow_11 3 rfl ?_
      refine zx_imul C dX10_copyRow_12 ?_
      refine zx_iload C dX10_copyRow_13 4 rfl ?_
      refine zx_iadd C dX10_copyRow_15 ?_
      refine zx_aload_n C dX10_copyRow_16 0 rfl ?_
      refine zx_iload_n C dX10_copyRow_17 1 rfl ?_
      refine zx_iload_n C dX10_copyRow_18 2 rfl ?_
      refine zx_imul C dX10_copyRow_19 ?_
      refine zx_iload C dX10_copyRow_20 4 rfl ?_
      refine zx_iadd C dX10_copyRow_22 ?_
      obtain ⟨bd1, h⟩ := h
      refine zx_iald C (((x_1 * x_2) + x_4)).toNatClampNeg hq_0 bd1 rfl dX10_copyRow_23 ?_
      obtain ⟨bd2, h⟩ := h
      refine zx_iast C (((x_1 * x_3) + x_4)).toNatClampNeg hq_0 bd2 rfl dX10_copyRow_24 ?_
      refine zx_sig (fun σ3 eσ3 => ?_)
      replace h := h σ3 eσ3
      obtain ⟨x4, ex4⟩ : ∃ y : Int32, y = (x_4 + (1 : Int32)) := ⟨_, rfl⟩
      replace h := h x4 ex4
      refine zx_iinc (v := x4) (lv' := [(4, .int x4), (0, .ref (g q_0)), (1, .int x_1), (2, .int x_2), (3, .int x_3)]) C dX10_copyRow_25 4 rfl (by rw [ex4]; rfl) (by decide) rfl ?_
      refine zx_goto C 3 dX10_copyRow_28 (by decide) ?_
      refine zx_lv (lv' := [(0, .ref (g q_0)), (1, .int x_1), (2, .int x_2), (3, .int x_3), (4, .int x4)]) [1, 2, 3, 4, 0] rfl ?_
      exact ih x4 σ3 h
set_option maxRecDepth 100000 in
set_option maxHeartbeats 4000000 in
theorem c_X10_copyRow (l : Launch) (D : va_G) (cy : Nat → ClassId) (g : Nat → Nat) (b1 n1 : Nat) (a2 : Int32) (a3 : Int32) (a4 : Int32) (hb1 : zsh b1 = za 0 n1) (σ : zSto) {P : zSto → Prop} (h : w_X10_copyRow b1 n1 a2 a3 a4 σ P) : zMv l yX10_copyRow cX10_copyRow 5 none (zrm 0 0) D cy g [.ref (g b1), .int a2, .int a3, .int a4] σ P := by
  unfold w_X10_copyRow at h
  refine zm_v RX10 rfl (by decide +kernel) (Nat.le_of_ble_eq_true rfl) ?_
  intro p e s m below meth c C hr
  refine zx_lv (lv' := [(0, .ref (g b1)), (1, .int a2), (2, .int a3), (3, .int a4)]) [0, 1, 2, 3] rfl ?_
  refine zx_iconst (v := (0 : Int32)) C dX10_copyRow_0 (by decide) ?_
  refine zx_istore (lv' := [(4, .int (0 : Int32)), (0, .ref (g b1)), (1, .int a2), (2, .int a3), (3, .int a4)]) C dX10_copyRow_1 (by decide) rfl ?_
  obtain ⟨n, h⟩ := h
  refine zx_lv (lv' := [(0, .ref (g b1)), (1, .int a2), (2, .int a3), (3, .int a4), (4, .int (0 : Int32))]) [1, 2, 3, 4, 0] rfl ?_
  exact k_X10_copyRow_3 C hr (b1) (n1) (a2) (a3) (a4) hb1  n (0 : Int32) σ h
theorem fg_X10_13 : zFG RX10 13 10 2 := ⟨RX10, TX10, 50, rfl, lay_X10, by decide, fl_X10_13⟩
theorem lk_X10_99 : zLS RX10 99 yX10_copyRow cX10_copyRow 5 none 4 := zLS_of ml_X10_99 st_X10_copyRow ini_X10 cd_X10_copyRow (by decide +kernel)
theorem fg_X10_17 : zFG RX10 17 10 3 := ⟨RX10, TX10, 50, rfl, lay_X10, by decide, fl_X10_17⟩
theorem fg_X10_20 : zFG RX10 20 10 4 := ⟨RX10, TX10, 50, rfl, lay_X10, by decide, fl_X10_20⟩
theorem fg_X10_23 : zFG RX10 23 10 5 := ⟨RX10, TX10, 50, rfl, lay_X10, by decide, fl_X10_23⟩
theorem fg_X10_26 : zFG RX10 26 10 6 := ⟨RX10, TX10, 50, rfl, lay_X10, by decide, fl_X10_26⟩
theorem fg_X10_29 : zFG RX10 29 10 7 := ⟨RX10, TX10, 50, rfl, lay_X10, by decide, fl_X10_29⟩
theorem fg_X10_32 : zFG RX10 32 10 8 := ⟨RX10, TX10, 50, rfl, lay_X10, by decide, fl_X10_32⟩
theorem fg_X10_7 : zFG RX10 7 10 1 := ⟨RX10, TX10, 50, rfl, lay_X10, by decide, fl_X10_7⟩
def w_X10_copyAll_2 (x_1 : Int32) (x_2 : Int32) (P : zSto → Prop)  : Nat → Int32 → zSto → Prop
  | 0, _, _ => False
  | n + 1, x_3, σ => (((600 : Int32) ≤ x_3 → (w_X10_copyRow 225 4 (1 : Int32) x_1 x_2 σ (fun (σ1 : zSto) => (w_X10_copyRow 226 4 (1 : Int32) x_1 x_2 σ1 (fun (σ2 : zSto) => (w_X10_copyRow 227 4 (1 : Int32) x_1 x_2 σ2 (fun (σ3 : zSto) => (w_X10_copyRow 228 12 (3 : Int32) x_1 x_2 σ3 (fun (σ4 : zSto) => (w_X10_copyRow 229 984 (246 : Int32) x_1 x_2 σ4 (fun (σ5 : zSto) => (w_X10_copyRow 230 264 (66 : Int32) x_1 x_2 σ5 (fun (σ6 : zSto) => (w_X10_copyRow 231 168 (42 : Int32) x_1 x_2 σ6 (fun (σ7 : zSto) => P σ7))))))))))))))) ∧ (¬ (600 : Int32) ≤ x_3 → (vp_in (((600 : Int32) * x_1) + x_3) 2400 ∧ (vp_in (((600 : Int32) * x_2) + x_3) 2400 ∧ (∀ σ10 : zSto, σ10 = zI σ 224 ((((600 : Int32) * x_2) + x_3)).toNatClampNeg (vp_nar .byte (σ.1 224 ((((600 : Int32) * x_1) + x_3)).toNatClampNeg)) → (∀ x11 : Int32, x11 = (x_3 + (1 : Int32)) → w_X10_copyAll_2 x_1 x_2 P n x11 σ10))))))
def w_X10_copyAll (a1 : Int32) (a2 : Int32) (σ : zSto) (P : zSto → Prop) : Prop := (∃ n : Nat, w_X10_copyAll_2 a1 a2 P  n (0 : Int32) σ)
set_option maxRecDepth 100000 in
set_option maxHeartbeats 4000000 in
theorem k_X10_copyAll_2 {p : Program} {l : Launch} {e : Env} {s : State} {m : MethodId} {args : Array Value} {below : List Frame} {meth : Method} {c : Code} {D : va_G} {cy : Nat → ClassId} {g : Nat → Nat} (C : zC p s m args meth c cX10_copyAll RX10 4 D cy g) (hr : meth.sig.returnType = none) {P : zSto → Prop} (x_1 : Int32) (x_2 : Int32)    : ∀ (n : Nat) (x_3 : Int32) (σ : zSto), w_X10_copyAll_2 x_1 x_2 P n x_3 σ → zX p l e (zrm 1 24) s m args below meth c 0 0 (zQv P below args s D cy g) 4 D cy g 2 [(0, .ref (g 223)), (1, .int x_1), (2, .int x_2), (3, .int x_3)] [] σ := by
  intro n
  induction n with
  | zero => intro x_3 σ h; exact h.elim
  | succ n ih =>
    intro x_3 σ h
    unfold w_X10_copyAll_2 at h
    refine zx_iload_n C dX10_copyAll_2 3 rfl ?_
    refine zx_sipush (v := (600 : Int32)) C dX10_copyAll_3 (by decide) ?_
    refine zx_icmp_ge C 39 dX10_copyAll_6 (by decide) (fun q => ?_) (fun q => ?_)
    · replace h := h.1 q
      refine zx_aload_n C dX10_copyAll_39 0 rfl ?_
      refine zx_getR C zs_223 fg_X10_13 rfl 225 rfl dX10_copyAll_40 ?_
      refine zx_iconst (v := (1 : Int32)) C dX10_copyAll_43 (by decide) ?_
      refine zx_iload_n C dX10_copyAll_44 1 rfl ?_
      refine zx_iload_n C dX10_copyAll_45 2 rfl ?_
      refine zx_cSv C [.ref (g 225), .int (1 : Int32), .int x_1, .int x_2] lk_X10_99 (c_X10_copyRow l D cy g 225 4 (1 : Int32) x_1 x_2 zs_225 σ h) ⟨by decide, by decide⟩ ⟨rfl, rfl⟩ ⟨Nat.zero_le _, Nat.zero_le _⟩ rfl rfl (Nat.le_of_ble_eq_true rfl) dX10_copyAll_46 (fun σ1 h => ?_)
      refine zx_aload_n C dX10_copyAll_49 0 rfl ?_
      refine zx_getR C zs_223 fg_X10_17 rfl 226 rfl dX10_copyAll_50 ?_
      refine zx_iconst (v := (1 : Int32)) C dX10_copyAll_53 (by decide) ?_
      refine zx_iload_n C dX10_copyAll_54 1 rfl ?_
      refine zx_iload_n C dX10_copyAll_55 2 rfl ?_
      refine zx_cSv C [.ref (g 226), .int (1 : Int32), .int x_1, .int x_2] lk_X10_99 (c_X10_copyRow l D cy g 226 4 (1 : Int32) x_1 x_2 zs_226 σ1 h) ⟨by decide, by decide⟩ ⟨rfl, rfl⟩ ⟨Nat.zero_le _, Nat.zero_le _⟩ rfl rfl (Nat.le_of_ble_eq_true rfl) dX10_copyAll_56 (fun σ2 h => ?_)
      refine zx_aload_n C dX10_copyAll_59 0 rfl ?_
      refine zx_getR C zs_223 fg_X10_20 rfl 227 rfl dX10_copyAll_60 ?_
      refine zx_iconst (v := (1 : Int32)) C dX10_copyAll_63 (by decide) ?_
      refine zx_iload_n C dX10_copyAll_64 1 rfl ?_
      refine zx_iload_n C dX10_copyAll_65 2 rfl ?_
      refine zx_cSv C [.ref (g 227), .int (1 : Int32), .int x_1, .int x_2] lk_X10_99 (c_X10_copyRow l D cy g 227 4 (1 : Int32) x_1 x_2 zs_227 σ2 h) ⟨by decide, by decide⟩ ⟨rfl, rfl⟩ ⟨Nat.zero_le _, Nat.zero_le _⟩ rfl rfl (Nat.le_of_ble_eq_true rfl) dX10_copyAll_66 (fun σ3 h => ?_)
      refine zx_aload_n C dX10_copyAll_69 0 rfl ?_
      refine zx_getR C zs_223 fg_X10_23 rfl 228 rfl dX10_copyAll_70 ?_
      refine zx_iconst (v := (3 : Int32)) C dX10_copyAll_73 (by decide) ?_
      refine zx_iload_n C dX10_copyAll_74 1 rfl ?_
      refine zx_iload_n C dX10_copyAll_75 2 rfl ?_
      refine zx_cSv C [.ref (g 228), .int (3 : Int32), .int x_1, .int x_2] lk_X10_99 (c_X10_copyRow l D cy g 228 12 (3 : Int32) x_1 x_2 zs_228 σ3 h) ⟨by decide, by decide⟩ ⟨rfl, rfl⟩ ⟨Nat.zero_le _, Nat.zero_le _⟩ rfl rfl (Nat.le_of_ble_eq_true rfl) dX10_copyAll_76 (fun σ4 h => ?_)
      refine zx_aload_n C dX10_copyAll_79 0 rfl ?_
      refine zx_getR C zs_223 fg_X10_26 rfl 229 rfl dX10_copyAll_80 ?_
      refine zx_sipush (v := (246 : Int32)) C dX10_copyAll_83 (by decide) ?_
      refine zx_iload_n C dX10_copyAll_86 1 rfl ?_
      refine zx_iload_n C dX10_copyAll_87 2 rfl ?_
      refine zx_cSv C [.ref (g 229), .int (246 : Int32), .int x_1, .int x_2] lk_X10_99 (c_X10_copyRow l D cy g 229 984 (246 : Int32) x_1 x_2 zs_229 σ4 h) ⟨by decide, by decide⟩ ⟨rfl, rfl⟩ ⟨Nat.zero_le _, Nat.zero_le _⟩ rfl rfl (Nat.le_of_ble_eq_true rfl) dX10_copyAll_88 (fun σ5 h => ?_)
      refine zx_aload_n C dX10_copyAll_91 0 rfl ?_
      refine zx_getR C zs_223 fg_X10_29 rfl 230 rfl dX10_copyAll_92 ?_
      refine zx_bipush (v := (66 : Int32)) C dX10_copyAll_95 (by decide) ?_
      refine zx_iload_n C dX10_copyAll_97 1 rfl ?_
      refine zx_iload_n C dX10_copyAll_98 2 rfl ?_
      refine zx_cSv C [.ref (g 230), .int (66 : Int32), .int x_1, .int x_2] lk_X10_99 (c_X10_copyRow l D cy g 230 264 (66 : Int32) x_1 x_2 zs_230 σ5 h) ⟨by decide, by decide⟩ ⟨rfl, rfl⟩ ⟨Nat.zero_le _, Nat.zero_le _⟩ rfl rfl (Nat.le_of_ble_eq_true rfl) dX10_copyAll_99 (fun σ6 h => ?_)
      refine zx_aload_n C dX10_copyAll_102 0 rfl ?_
      refine zx_getR C zs_223 fg_X10_32 rfl 231 rfl dX10_copyAll_103 ?_
      refine zx_bipush (v := (42 : Int32)) C dX10_copyAll_106 (by decide) ?_
      refine zx_iload_n C dX10_copyAll_108 1 rfl ?_
      refine zx_iload_n C dX10_copyAll_109 2 rfl ?_
      refine zx_cSv C [.ref (g 231), .int (42 : Int32), .int x_1, .int x_2] lk_X10_99 (c_X10_copyRow l D cy g 231 168 (42 : Int32) x_1 x_2 zs_231 σ6 h) ⟨by decide, by decide⟩ ⟨rfl, rfl⟩ ⟨Nat.zero_le _, Nat.zero_le _⟩ rfl rfl (Nat.le_of_ble_eq_true rfl) dX10_copyAll_110 (fun σ7 h => ?_)
      exact zx_vret C hr dX10_copyAll_113 h
    · replace h := h.2 q
      refine zx_aload_n C dX10_copyAll_9 0 rfl ?_
      refine zx_getR C zs_223 fg_X10_7 rfl 224 rfl dX10_copyAll_10 ?_
      refine zx_sipush (v := (600 : Int32)) C dX10_copyAll_13 (by decide) ?_
      refine zx_iload_n C dX10_copyAll_16 2 rfl ?_
      refine zx_imul C dX10_copyAll_17 ?_
      refine zx_iload_n C dX10_copyAll_18 3 rfl ?_
      refine zx_iadd C dX10_copyAll_19 ?_
      refine zx_aload_n C dX10_copyAll_20 0 rfl ?_
      refine zx_getR C zs_223 fg_X10_7 rfl 224 rfl dX10_copyAll_21 ?_
      refine zx_sipush (v := (600 : Int32)) C dX10_copyAll_24 (by decide) ?_
      refine zx_iload_n C dX10_copyAll_27 1 rfl ?_
      refine zx_imul C dX10_copyAll_28 ?_
      refine zx_iload_n C dX10_copyAll_29 3 rfl ?_
      refine zx_iadd C dX10_copyAll_30 ?_
      obtain ⟨bd8, h⟩ := h
      refine zx_bald C ((((600 : Int32) * x_1) + x_3)).toNatClampNeg zs_224 bd8 rfl dX10_copyAll_31 ?_
      obtain ⟨bd9, h⟩ := h
      refine zx_bast C ((((600 : Int32) * x_2) + x_3)).toNatClampNeg zs_224 bd9 rfl dX10_copyAll_32 ?_
      refine zx_sig (fun σ10 eσ10 => ?_)
      replace h := h σ10 eσ10
      obtain ⟨x11, ex11⟩ : ∃ y : Int32, y = (x_3 + (1 : Int32)) := ⟨_, rfl⟩
      replace h := h x11 ex11
      refine zx_iinc (v := x11) (lv' := [(3, .int x11), (0, .ref (g 223)), (1, .int x_1), (2, .int x_2)]) C dX10_copyAll_33 3 rfl (by rw [ex11]; rfl) (by decide) rfl ?_
      refine zx_goto C 2 dX10_copyAll_36 (by decide) ?_
      refine zx_lv (lv' := [(0, .ref (g 223)), (1, .int x_1), (2, .int x_2), (3, .int x11)]) [1, 2, 3, 0] rfl ?_
      exact ih x11 σ10 h
set_option maxRecDepth 100000 in
set_option maxHeartbeats 4000000 in
theorem c_X10_copyAll (l : Launch) (D : va_G) (cy : Nat → ClassId) (g : Nat → Nat) (a1 : Int32) (a2 : Int32)  (σ : zSto) {P : zSto → Prop} (h : w_X10_copyAll a1 a2 σ P) : zMv l yX10_copyAll cX10_copyAll 4 none (zrm 1 24) D cy g [.ref (g 223), .int a1, .int a2] σ P := by
  unfold w_X10_copyAll at h
  refine zm_v RX10 rfl (by decide +kernel) (Nat.le_of_ble_eq_true rfl) ?_
  intro p e s m below meth c C hr
  refine zx_lv (lv' := [(0, .ref (g 223)), (1, .int a1), (2, .int a2)]) [0, 1, 2] rfl ?_
  refine zx_iconst (v := (0 : Int32)) C dX10_copyAll_0 (by decide) ?_
  refine zx_istore_n (lv' := [(3, .int (0 : Int32)), (0, .ref (g 223)), (1, .int a1), (2, .int a2)]) C dX10_copyAll_1 (by decide) rfl ?_
  obtain ⟨n, h⟩ := h
  refine zx_lv (lv' := [(0, .ref (g 223)), (1, .int a1), (2, .int a2), (3, .int (0 : Int32))]) [1, 2, 3, 0] rfl ?_
  exact k_X10_copyAll_2 C hr (a1) (a2)   n (0 : Int32) σ h
theorem lk_X10_103 : zLS RX10 103 yX10_in cX10_in 3 (some .boolean) 3 := zLS_of ml_X10_103 st_X10_in ini_X10 cd_X10_in (by decide +kernel)
def w_X10_is (a1 : Int32) (a2 : Int32) (σ : zSto) (P : Int32 → zSto → Prop) : Prop := (vp_in a1 12 ∧ (w_X10_in a2 (0 : Int32) ((σ.1 228 (a1).toNatClampNeg) - (1 : Int32)) σ (fun (r3 : Int32) (σ2 : zSto) => (r3 = 0 ∨ r3 = 1) → ((r3 = 0 ∨ r3 = 1) ∧ P r3 σ2))))
set_option maxRecDepth 100000 in
set_option maxHeartbeats 4000000 in
theorem c_X10_is (l : Launch) (D : va_G) (cy : Nat → ClassId) (g : Nat → Nat) (a1 : Int32) (a2 : Int32)  (σ : zSto) {P : Int32 → zSto → Prop} (h : w_X10_is a1 a2 σ P) : zMb l yX10_is cX10_is 3 (some .boolean) (zrm 1 22) D cy g [.ref (g 223), .int a1, .int a2] σ P := by
  unfold w_X10_is at h
  refine zm_b RX10 rfl (by decide +kernel) (Nat.le_of_ble_eq_true rfl) ?_
  intro p e s m below meth c C hr
  refine zx_lv (lv' := [(0, .ref (g 223)), (1, .int a1), (2, .int a2)]) [0, 1, 2] rfl ?_
  refine zx_iload_n C dX10_is_0 2 rfl ?_
  refine zx_iconst (v := (0 : Int32)) C dX10_is_1 (by decide) ?_
  refine zx_aload_n C dX10_is_2 0 rfl ?_
  refine zx_getR C zs_223 fg_X10_23 rfl 228 rfl dX10_is_3 ?_
  refine zx_iload_n C dX10_is_6 1 rfl ?_
  obtain ⟨bd1, h⟩ := h
  refine zx_iald C (a1).toNatClampNeg zs_228 bd1 rfl dX10_is_7 ?_
  refine zx_iconst (v := (1 : Int32)) C dX10_is_8 (by decide) ?_
  refine zx_isub C dX10_is_9 ?_
  refine zx_cSb C [.int a2, .int (0 : Int32), .int ((σ.1 228 (a1).toNatClampNeg) - (1 : Int32))] lk_X10_103 (c_X10_in l D cy g a2 (0 : Int32) ((σ.1 228 (a1).toNatClampNeg) - (1 : Int32))  σ h) ⟨by decide, by decide⟩ ⟨rfl, rfl⟩ ⟨Nat.zero_le _, Nat.zero_le _⟩ rfl rfl (Nat.le_of_ble_eq_true rfl) dX10_is_10 (fun r3 σ2 hb h => ?_)
  replace h := h hb
  exact zx_zret C hr dX10_is_13 h.1 h.2
def w_X10_four_3 (x_1 : Int32) (P : zSto → Prop)  : Nat → Int32 → zSto → Prop
  | 0, _, _ => False
  | n + 1, x_2, σ => ((x_2 < 0 → P σ) ∧ (¬ x_2 < 0 → (vp_in (σ.1 225 0) 2400 ∧ (∀ σ2 : zSto, σ2 = zI σ 224 ((σ.1 225 0)).toNatClampNeg (vp_nar .byte (x_1 >>> (x_2 &&& 31)).toInt8.toInt32) → (∀ σ3 : zSto, σ3 = zI σ2 225 0 ((σ2.1 225 0) + (1 : Int32)) → (∀ x4 : Int32, x4 = (x_2 + (-8 : Int32)) → w_X10_four_3 x_1 P n x4 σ3))))))
def w_X10_four (a1 : Int32) (σ : zSto) (P : zSto → Prop) : Prop := (∃ n : Nat, w_X10_four_3 a1 P  n (24 : Int32) σ)
set_option maxRecDepth 100000 in
set_option maxHeartbeats 4000000 in
theorem k_X10_four_3 {p : Program} {l : Launch} {e : Env} {s : State} {m : MethodId} {args : Array Value} {below : List Frame} {meth : Method} {c : Code} {D : va_G} {cy : Nat → ClassId} {g : Nat → Nat} (C : zC p s m args meth c cX10_four RX10 3 D cy g) (hr : meth.sig.returnType = none) {P : zSto → Prop} (x_1 : Int32)    : ∀ (n : Nat) (x_2 : Int32) (σ : zSto), w_X10_four_3 x_1 P n x_2 σ → zX p l e (zrm 0 0) s m args below meth c 0 0 (zQv P below args s D cy g) 3 D cy g 3 [(0, .ref (g 223)), (1, .int x_1), (2, .int x_2)] [] σ := by
  intro n
  induction n with
  | zero => intro x_2 σ h; exact h.elim
  | succ n ih =>
    intro x_2 σ h
    unfold w_X10_four_3 at h
    refine zx_iload_n C dX10_four_3 2 rfl ?_
    refine zx_if_lt C 38 dX10_four_4 (by decide) (fun q => ?_) (fun q => ?_)
    · replace h := h.1 q
      exact zx_vret C hr dX10_four_38 h
    · replace h := h.2 q
      refine zx_aload_n C dX10_four_7 0 rfl ?_
      refine zx_getR C zs_223 fg_X10_7 rfl 224 rfl dX10_four_8 ?_
      refine zx_aload_n C dX10_four_11 0 rfl ?_
      refine zx_getR C zs_223 fg_X10_13 rfl 225 rfl dX10_four_12 ?_
      refine zx_iconst (v := (0 : Int32)) C dX10_four_15 (by decide) ?_
      refine zx_iald C 0 zs_225 (by unfold vp_in; decide) (by decide) dX10_four_16 ?_
      refine zx_iload_n C dX10_four_17 1 rfl ?_
      refine zx_iload_n C dX10_four_18 2 rfl ?_
      refine zx_ishr C dX10_four_19 ?_
      refine zx_i2b C dX10_four_20 ?_
      obtain ⟨bd1, h⟩ := h
      refine zx_bast C ((σ.1 225 0)).toNatClampNeg zs_224 bd1 rfl dX10_four_21 ?_
      refine zx_sig (fun σ2 eσ2 => ?_)
      replace h := h σ2 eσ2
      refine zx_aload_n C dX10_four_22 0 rfl ?_
      refine zx_getR C zs_223 fg_X10_13 rfl 225 rfl dX10_four_23 ?_
      refine zx_iconst (v := (0 : Int32)) C dX10_four_26 (by decide) ?_
      refine zx_dup2 C dX10_four_27 rfl rfl ?_
      refine zx_iald C 0 zs_225 (by unfold vp_in; decide) (by decide) dX10_four_28 ?_
      refine zx_iconst (v := (1 : Int32)) C dX10_four_29 (by decide) ?_
      refine zx_iadd C dX10_four_30 ?_
      refine zx_iast C 0 zs_225 (by unfold vp_in; decide) (by decide) dX10_four_31 ?_
      refine zx_sig (fun σ3 eσ3 => ?_)
      replace h := h σ3 eσ3
      obtain ⟨x4, ex4⟩ : ∃ y : Int32, y = (x_2 + (-8 : Int32)) := ⟨_, rfl⟩
      replace h := h x4 ex4
      refine zx_iinc (v := x4) (lv' := [(2, .int x4), (0, .ref (g 223)), (1, .int x_1)]) C dX10_four_32 2 rfl (by rw [ex4]; rfl) (by decide) rfl ?_
      refine zx_goto C 3 dX10_four_35 (by decide) ?_
      refine zx_lv (lv' := [(0, .ref (g 223)), (1, .int x_1), (2, .int x4)]) [1, 2, 0] rfl ?_
      exact ih x4 σ3 h
set_option maxRecDepth 100000 in
set_option maxHeartbeats 4000000 in
theorem c_X10_four (l : Launch) (D : va_G) (cy : Nat → ClassId) (g : Nat → Nat) (a1 : Int32)  (σ : zSto) {P : zSto → Prop} (h : w_X10_four a1 σ P) : zMv l yX10_four cX10_four 3 none (zrm 0 0) D cy g [.ref (g 223), .int a1] σ P := by
  unfold w_X10_four at h
  refine zm_v RX10 rfl (by decide +kernel) (Nat.le_of_ble_eq_true rfl) ?_
  intro p e s m below meth c C hr
  refine zx_lv (lv' := [(0, .ref (g 223)), (1, .int a1)]) [0, 1] rfl ?_
  refine zx_bipush (v := (24 : Int32)) C dX10_four_0 (by decide) ?_
  refine zx_istore_n (lv' := [(2, .int (24 : Int32)), (0, .ref (g 223)), (1, .int a1)]) C dX10_four_2 (by decide) rfl ?_
  obtain ⟨n, h⟩ := h
  refine zx_lv (lv' := [(0, .ref (g 223)), (1, .int a1), (2, .int (24 : Int32))]) [1, 2, 0] rfl ?_
  exact k_X10_four_3 C hr (a1)   n (24 : Int32) σ h
theorem fp_X10_91 : zFP RX10 91 10 0 .int := ⟨RX10, TX10, 50, tyX10, rfl, lay_X10, by decide, fl_X10_91, tyX10_ok, nmX10, rfl, by decide +kernel⟩
theorem lk_X10_107 : zLV RX10 107 RX10 yX10_four cX10_four 3 none 1 := zLV_of ml_X10_107 im_X10_four se_X10_four ini_X10 cd_X10_four (by decide +kernel)
def w_X10_feed (a1 : Int32) (a2 : Int32) (a3 : Int32) (a4 : Int32) (a5 : Int32) (σ : zSto) (P : Int32 → zSto → Prop) : Prop := (∀ σ1 : zSto, σ1 = zI σ 223 0 (0 : Int32) → ((((σ1.1 225 0) + (20 : Int32)) ≤ (600 : Int32) → (w_X10_four a1 σ1 (fun (σ2 : zSto) => (w_X10_four a2 σ2 (fun (σ3 : zSto) => (w_X10_four a3 σ3 (fun (σ4 : zSto) => (w_X10_four a4 σ4 (fun (σ5 : zSto) => (w_X10_four a5 σ5 (fun (σ6 : zSto) => P (σ6.1 225 0) σ6))))))))))) ∧ (¬ ((σ1.1 225 0) + (20 : Int32)) ≤ (600 : Int32) → P (-1 : Int32) σ1)))
set_option maxRecDepth 100000 in
set_option maxHeartbeats 4000000 in
theorem c_X10_feed (l : Launch) (D : va_G) (cy : Nat → ClassId) (g : Nat → Nat) (a1 : Int32) (a2 : Int32) (a3 : Int32) (a4 : Int32) (a5 : Int32)  (σ : zSto) {P : Int32 → zSto → Prop} (h : w_X10_feed a1 a2 a3 a4 a5 σ P) : zMi l yX10_feed cX10_feed 6 (some .int) (zrm 1 22) D cy g [.ref (g 223), .int a1, .int a2, .int a3, .int a4, .int a5] σ P := by
  unfold w_X10_feed at h
  refine zm_i RX10 rfl (by decide +kernel) (Nat.le_of_ble_eq_true rfl) ?_
  intro p e s m below meth c C hr
  refine zx_lv (lv' := [(0, .ref (g 223)), (1, .int a1), (2, .int a2), (3, .int a3), (4, .int a4), (5, .int a5)]) [0, 1, 2, 3, 4, 5] rfl ?_
  refine zx_aload_n C dX10_feed_0 0 rfl ?_
  refine zx_iconst (v := (0 : Int32)) C dX10_feed_1 (by decide) ?_
  refine zx_putI C zs_223 fp_X10_91 rfl dX10_feed_2 ?_
  refine zx_sig (fun σ1 eσ1 => ?_)
  replace h := h σ1 eσ1
  refine zx_aload_n C dX10_feed_5 0 rfl ?_
  refine zx_getR C zs_223 fg_X10_13 rfl 225 rfl dX10_feed_6 ?_
  refine zx_iconst (v := (0 : Int32)) C dX10_feed_9 (by decide) ?_
  refine zx_iald C 0 zs_225 (by unfold vp_in; decide) (by decide) dX10_feed_10 ?_
  refine zx_bipush (v := (20 : Int32)) C dX10_feed_11 (by decide) ?_
  refine zx_iadd C dX10_feed_13 ?_
  refine zx_sipush (v := (600 : Int32)) C dX10_feed_14 (by decide) ?_
  refine zx_icmp_le C 22 dX10_feed_17 (by decide) (fun q => ?_) (fun q => ?_)
  · replace h := h.1 q
    refine zx_aload_n C dX10_feed_22 0 rfl ?_
    refine zx_iload_n C dX10_feed_23 1 rfl ?_
    refine zx_cVv C [.int a1] lk_X10_107 (c_X10_four l D cy g a1  σ1 h) zs_223 rfl ⟨by decide, by decide⟩ ⟨rfl, rfl⟩ ⟨Nat.zero_le _, Nat.zero_le _⟩ rfl rfl (Nat.le_of_ble_eq_true rfl) dX10_feed_24 (fun σ2 h => ?_)
    refine zx_aload_n C dX10_feed_27 0 rfl ?_
    refine zx_iload_n C dX10_feed_28 2 rfl ?_
    refine zx_cVv C [.int a2] lk_X10_107 (c_X10_four l D cy g a2  σ2 h) zs_223 rfl ⟨by decide, by decide⟩ ⟨rfl, rfl⟩ ⟨Nat.zero_le _, Nat.zero_le _⟩ rfl rfl (Nat.le_of_ble_eq_true rfl) dX10_feed_29 (fun σ3 h => ?_)
    refine zx_aload_n C dX10_feed_32 0 rfl ?_
    refine zx_iload_n C dX10_feed_33 3 rfl ?_
    refine zx_cVv C [.int a3] lk_X10_107 (c_X10_four l D cy g a3  σ3 h) zs_223 rfl ⟨by decide, by decide⟩ ⟨rfl, rfl⟩ ⟨Nat.zero_le _, Nat.zero_le _⟩ rfl rfl (Nat.le_of_ble_eq_true rfl) dX10_feed_34 (fun σ4 h => ?_)
    refine zx_aload_n C dX10_feed_37 0 rfl ?_
    refine zx_iload C dX10_feed_38 4 rfl ?_
    refine zx_cVv C [.int a4] lk_X10_107 (c_X10_four l D cy g a4  σ4 h) zs_223 rfl ⟨by decide, by decide⟩ ⟨rfl, rfl⟩ ⟨Nat.zero_le _, Nat.zero_le _⟩ rfl rfl (Nat.le_of_ble_eq_true rfl) dX10_feed_40 (fun σ5 h => ?_)
    refine zx_aload_n C dX10_feed_43 0 rfl ?_
    refine zx_iload C dX10_feed_44 5 rfl ?_
    refine zx_cVv C [.int a5] lk_X10_107 (c_X10_four l D cy g a5  σ5 h) zs_223 rfl ⟨by decide, by decide⟩ ⟨rfl, rfl⟩ ⟨Nat.zero_le _, Nat.zero_le _⟩ rfl rfl (Nat.le_of_ble_eq_true rfl) dX10_feed_46 (fun σ6 h => ?_)
    refine zx_aload_n C dX10_feed_49 0 rfl ?_
    refine zx_getR C zs_223 fg_X10_13 rfl 225 rfl dX10_feed_50 ?_
    refine zx_iconst (v := (0 : Int32)) C dX10_feed_53 (by decide) ?_
    refine zx_iald C 0 zs_225 (by unfold vp_in; decide) (by decide) dX10_feed_54 ?_
    exact zx_iret C hr dX10_feed_55 h
  · replace h := h.2 q
    refine zx_iconst (v := (-1 : Int32)) C dX10_feed_20 (by decide) ?_
    exact zx_iret C hr dX10_feed_21 h
def w_X10_end (a1 : Int32) (σ : zSto) (P : Int32 → zSto → Prop) : Prop := (∀ σ1 : zSto, σ1 = zI σ 223 0 (0 : Int32) → (w_X10_in a1 (0 : Int32) (σ1.1 225 0) σ1 (fun (r3 : Int32) (σ2 : zSto) => (r3 = 0 ∨ r3 = 1) → ((¬ r3 = 0 → (∀ σ4 : zSto, σ4 = zI σ2 225 0 a1 → P a1 σ4)) ∧ (r3 = 0 → P (-1 : Int32) σ2)))))
set_option maxRecDepth 100000 in
set_option maxHeartbeats 4000000 in
theorem c_X10_end (l : Launch) (D : va_G) (cy : Nat → ClassId) (g : Nat → Nat) (a1 : Int32)  (σ : zSto) {P : Int32 → zSto → Prop} (h : w_X10_end a1 σ P) : zMi l yX10_end cX10_end 2 (some .int) (zrm 1 22) D cy g [.ref (g 223), .int a1] σ P := by
  unfold w_X10_end at h
  refine zm_i RX10 rfl (by decide +kernel) (Nat.le_of_ble_eq_true rfl) ?_
  intro p e s m below meth c C hr
  refine zx_lv (lv' := [(0, .ref (g 223)), (1, .int a1)]) [0, 1] rfl ?_
  refine zx_aload_n C dX10_end_0 0 rfl ?_
  refine zx_iconst (v := (0 : Int32)) C dX10_end_1 (by decide) ?_
  refine zx_putI C zs_223 fp_X10_91 rfl dX10_end_2 ?_
  refine zx_sig (fun σ1 eσ1 => ?_)
  replace h := h σ1 eσ1
  refine zx_iload_n C dX10_end_5 1 rfl ?_
  refine zx_iconst (v := (0 : Int32)) C dX10_end_6 (by decide) ?_
  refine zx_aload_n C dX10_end_7 0 rfl ?_
  refine zx_getR C zs_223 fg_X10_13 rfl 225 rfl dX10_end_8 ?_
  refine zx_iconst (v := (0 : Int32)) C dX10_end_11 (by decide) ?_
  refine zx_iald C 0 zs_225 (by unfold vp_in; decide) (by decide) dX10_end_12 ?_
  refine zx_cSb C [.int a1, .int (0 : Int32), .int (σ1.1 225 0)] lk_X10_103 (c_X10_in l D cy g a1 (0 : Int32) (σ1.1 225 0)  σ1 h) ⟨by decide, by decide⟩ ⟨rfl, rfl⟩ ⟨Nat.zero_le _, Nat.zero_le _⟩ rfl rfl (Nat.le_of_ble_eq_true rfl) dX10_end_13 (fun r3 σ2 hb h => ?_)
  replace h := h hb
  refine zx_if_ne C 21 dX10_end_16 (by decide) (fun q => ?_) (fun q => ?_)
  · replace h := h.1 q
    refine zx_aload_n C dX10_end_21 0 rfl ?_
    refine zx_getR C zs_223 fg_X10_13 rfl 225 rfl dX10_end_22 ?_
    refine zx_iconst (v := (0 : Int32)) C dX10_end_25 (by decide) ?_
    refine zx_iload_n C dX10_end_26 1 rfl ?_
    refine zx_iast C 0 zs_225 (by unfold vp_in; decide) (by decide) dX10_end_27 ?_
    refine zx_sig (fun σ4 eσ4 => ?_)
    replace h := h σ4 eσ4
    refine zx_iload_n C dX10_end_28 1 rfl ?_
    exact zx_iret C hr dX10_end_29 h
  · replace h := h.2 q
    refine zx_iconst (v := (-1 : Int32)) C dX10_end_19 (by decide) ?_
    exact zx_iret C hr dX10_end_20 h
theorem fg_X10_111 : zFG RX10 111 10 9 := ⟨RX10, TX10, 50, rfl, lay_X10, by decide, fl_X10_111⟩
theorem fg_X10_114 : zFG RX10 114 10 10 := ⟨RX10, TX10, 50, rfl, lay_X10, by decide, fl_X10_114⟩
def w_X10_see  (σ : zSto) (P : Int32 → zSto → Prop) : Prop := (((σ.1 223 10) ≤ (σ.1 223 9) → P (-1 : Int32) σ) ∧ (¬ (σ.1 223 10) ≤ (σ.1 223 9) → (vp_in (σ.1 223 9) 2400 ∧ P ((σ.1 224 ((σ.1 223 9)).toNatClampNeg) &&& (255 : Int32)) σ)))
set_option maxRecDepth 100000 in
set_option maxHeartbeats 4000000 in
theorem c_X10_see (l : Launch) (D : va_G) (cy : Nat → ClassId) (g : Nat → Nat)   (σ : zSto) {P : Int32 → zSto → Prop} (h : w_X10_see  σ P) : zMi l yX10_see cX10_see 1 (some .int) (zrm 0 0) D cy g [.ref (g 223)] σ P := by
  unfold w_X10_see at h
  refine zm_i RX10 rfl (by decide +kernel) (Nat.le_of_ble_eq_true rfl) ?_
  intro p e s m below meth c C hr
  refine zx_lv (lv' := [(0, .ref (g 223))]) [0] rfl ?_
  refine zx_aload_n C dX10_see_0 0 rfl ?_
  refine zx_getI C zs_223 fg_X10_111 rfl dX10_see_1 ?_
  refine zx_aload_n C dX10_see_4 0 rfl ?_
  refine zx_getI C zs_223 fg_X10_114 rfl dX10_see_5 ?_
  refine zx_icmp_ge C 27 dX10_see_8 (by decide) (fun q => ?_) (fun q => ?_)
  · replace h := h.1 q
    refine zx_iconst (v := (-1 : Int32)) C dX10_see_27 (by decide) ?_
    exact zx_iret C hr dX10_see_28 h
  · replace h := h.2 q
    refine zx_aload_n C dX10_see_11 0 rfl ?_
    refine zx_getR C zs_223 fg_X10_7 rfl 224 rfl dX10_see_12 ?_
    refine zx_aload_n C dX10_see_15 0 rfl ?_
    refine zx_getI C zs_223 fg_X10_111 rfl dX10_see_16 ?_
    obtain ⟨bd1, h⟩ := h
    refine zx_bald C ((σ.1 223 9)).toNatClampNeg zs_224 bd1 rfl dX10_see_19 ?_
    refine zx_sipush (v := (255 : Int32)) C dX10_see_20 (by decide) ?_
    refine zx_iand C dX10_see_23 ?_
    refine zx_goto C 28 dX10_see_24 (by decide) ?_
    exact zx_iret C hr dX10_see_28 h
theorem lk_X10_117 : zLV RX10 117 RX10 yX10_see cX10_see 1 (some .int) 0 := zLV_of ml_X10_117 im_X10_see se_X10_see ini_X10 cd_X10_see (by decide +kernel)
theorem fp_X10_111 : zFP RX10 111 10 9 .int := ⟨RX10, TX10, 50, tyX10, rfl, lay_X10, by decide, fl_X10_111, tyX10_ok, nmX10, rfl, by decide +kernel⟩
theorem fp_X10_121 : zFP RX10 121 10 11 .int := ⟨RX10, TX10, 50, tyX10, rfl, lay_X10, by decide, fl_X10_121, tyX10_ok, nmX10, rfl, by decide +kernel⟩
theorem fp_X10_124 : zFP RX10 124 10 14 .long := ⟨RX10, TX10, 50, tyX10, rfl, lay_X10, by decide, fl_X10_124, tyX10_ok, nmX10, rfl, by decide +kernel⟩
theorem fp_X10_128 : zFP RX10 128 10 12 .int := ⟨RX10, TX10, 50, tyX10, rfl, lay_X10, by decide, fl_X10_128, tyX10_ok, nmX10, rfl, by decide +kernel⟩
theorem fp_X10_131 : zFP RX10 131 10 13 .int := ⟨RX10, TX10, 50, tyX10, rfl, lay_X10, by decide, fl_X10_131, tyX10_ok, nmX10, rfl, by decide +kernel⟩
theorem fg_X10_131 : zFG RX10 131 10 13 := ⟨RX10, TX10, 50, rfl, lay_X10, by decide, fl_X10_131⟩
theorem fg_X10_124 : zFG RX10 124 10 14 := ⟨RX10, TX10, 50, rfl, lay_X10, by decide, fl_X10_124⟩
def w_X10_token_163  (P : zSto → Prop)  : Nat → Int32 → zSto → Prop
  | 0, _, _ => False
  | n + 1, x_2, σ => (w_X10_see  σ (fun (r19 : Int32) (σ18 : zSto) => (w_X10_in r19 (48 : Int32) (57 : Int32) σ18 (fun (r21 : Int32) (σ20 : zSto) => (r21 = 0 ∨ r21 = 1) → ((r21 = 0 → ((x_2 ≤ (3 : Int32) → (∀ σ22 : zSto, σ22 = zI σ20 223 12 (3 : Int32) → P σ22)) ∧ (¬ x_2 ≤ (3 : Int32) → (∀ σ23 : zSto, σ23 = zI σ20 223 12 (1 : Int32) → P σ23)))) ∧ (¬ r21 = 0 → (((3 : Int32) ≤ x_2 → (∀ σ24 : zSto, σ24 = zI σ20 223 13 (σ20.1 223 13) → (∀ σ25 : zSto, σ25 = zI σ24 223 9 ((σ24.1 223 9) + (1 : Int32)) → (∀ x26 : Int32, x26 = (x_2 + (1 : Int32)) → w_X10_token_163 P n x26 σ25)))) ∧ (¬ (3 : Int32) ≤ x_2 → (w_X10_see  σ20 (fun (r28 : Int32) (σ27 : zSto) => (∀ σ29 : zSto, σ29 = zI σ27 223 13 ((((10 : Int32) * (σ20.1 223 13)) + r28) - (48 : Int32)) → (∀ σ30 : zSto, σ30 = zI σ29 223 9 ((σ29.1 223 9) + (1 : Int32)) → (∀ x31 : Int32, x31 = (x_2 + (1 : Int32)) → w_X10_token_163 P n x31 σ30)))))))))))))
def w_X10_token_74  (P : zSto → Prop)  : Nat → Int32 → zSto → Prop
  | 0, _, _ => False
  | n + 1, x_2, σ => (w_X10_see  σ (fun (r33 : Int32) (σ32 : zSto) => (w_X10_in r33 (97 : Int32) (122 : Int32) σ32 (fun (r35 : Int32) (σ34 : zSto) => (r35 = 0 ∨ r35 = 1) → ((r35 = 0 → ((x_2 ≤ (8 : Int32) → (∀ σ36 : zSto, σ36 = zJ σ34 223 14 (σ34.2 223 14) → (∀ σ37 : zSto, σ37 = zI σ36 223 12 (2 : Int32) → P σ37))) ∧ (¬ x_2 ≤ (8 : Int32) → (∀ σ38 : zSto, σ38 = zJ σ34 223 14 (0 : Int64) → (∀ σ39 : zSto, σ39 = zI σ38 223 12 (2 : Int32) → P σ39))))) ∧ (¬ r35 = 0 → (w_X10_see  σ34 (fun (r41 : Int32) (σ40 : zSto) => (∀ σ42 : zSto, σ42 = zJ σ40 223 14 (((σ34.2 223 14) <<< ((8 : Int32).toInt64 &&& 63)) ||| r41.toInt64) → (∀ σ43 : zSto, σ43 = zI σ42 223 9 ((σ42.1 223 9) + (1 : Int32)) → (∀ x44 : Int32, x44 = (x_2 + (1 : Int32)) → w_X10_token_74 P n x44 σ43)))))))))))
def w_X10_token_0  (P : zSto → Prop)  : Nat → zSto → Prop
  | 0, _ => False
  | n + 1, σ => (w_X10_see  σ (fun (r2 : Int32) (σ1 : zSto) => ((r2 = (10 : Int32) → (∀ σ3 : zSto, σ3 = zI σ1 223 9 ((σ1.1 223 9) + (1 : Int32)) → w_X10_token_0 P n  σ3)) ∧ (¬ r2 = (10 : Int32) → (w_X10_see  σ1 (fun (r5 : Int32) (σ4 : zSto) => ((¬ r5 = (32 : Int32) → (∀ σ6 : zSto, σ6 = zI σ4 223 11 (σ4.1 223 9) → (w_X10_see  σ6 (fun (r8 : Int32) (σ7 : zSto) => (∀ σ9 : zSto, σ9 = zJ σ7 223 14 (0 : Int64) → ((0 ≤ r8 → (w_X10_in r8 (97 : Int32) (122 : Int32) σ9 (fun (r11 : Int32) (σ10 : zSto) => (r11 = 0 ∨ r11 = 1) → ((r11 = 0 → (w_X10_in r8 (48 : Int32) (57 : Int32) σ10 (fun (r13 : Int32) (σ12 : zSto) => (r13 = 0 ∨ r13 = 1) → ((r13 = 0 → (∀ σ14 : zSto, σ14 = zI σ12 223 9 ((σ12.1 223 9) + (1 : Int32)) → ((¬ r8 = (59 : Int32) → (∀ σ15 : zSto, σ15 = zI σ14 223 12 (1 : Int32) → P σ15)) ∧ (r8 = (59 : Int32) → (∀ σ16 : zSto, σ16 = zI σ14 223 12 (4 : Int32) → P σ16))))) ∧ (¬ r13 = 0 → (∀ σ17 : zSto, σ17 = zI σ12 223 13 (0 : Int32) → (∃ n2 : Nat, w_X10_token_163  P  n2 (0 : Int32) σ17))))))) ∧ (¬ r11 = 0 → (∃ n2 : Nat, w_X10_token_74  P  n2 (0 : Int32) σ10)))))) ∧ (¬ 0 ≤ r8 → (∀ σ45 : zSto, σ45 = zI σ9 223 12 (0 : Int32) → P σ45)))))))) ∧ (r5 = (32 : Int32) → (∀ σ46 : zSto, σ46 = zI σ4 223 9 ((σ4.1 223 9) + (1 : Int32)) → w_X10_token_0 P n  σ46)))))))))
def w_X10_token  (σ : zSto) (P : zSto → Prop) : Prop := (∃ n : Nat, w_X10_token_0  P  n  σ)
set_option maxRecDepth 100000 in
set_option maxHeartbeats 4000000 in
theorem k_X10_token_163 {p : Program} {l : Launch} {e : Env} {s : State} {m : MethodId} {args : Array Value} {below : List Frame} {meth : Method} {c : Code} {D : va_G} {cy : Nat → ClassId} {g : Nat → Nat} (C : zC p s m args meth c cX10_token RX10 3 D cy g) (hr : meth.sig.returnType = none) {P : zSto → Prop}     : ∀ (n : Nat) (x_2 : Int32) (σ : zSto), w_X10_token_163 P n x_2 σ → zX p l e (zrm 1 22) s m args below meth c 0 0 (zQv P below args s D cy g) 3 D cy g 163 [(0, .ref (g 223)), (2, .int x_2)] [] σ := by
  intro n
  induction n with
  | zero => intro x_2 σ h; exact h.elim
  | succ n ih =>
    intro x_2 σ h
    unfold w_X10_token_163 at h
    refine zx_aload_n C dX10_token_163 0 rfl ?_
    refine zx_cVi C [] lk_X10_117 (c_X10_see l D cy g   σ h) zs_223 rfl ⟨by decide, by decide⟩ ⟨rfl, rfl⟩ ⟨Nat.zero_le _, Nat.zero_le _⟩ rfl rfl (Nat.le_of_ble_eq_true rfl) dX10_token_164 (fun r19 σ18 h => ?_)
    refine zx_bipush (v := (48 : Int32)) C dX10_token_167 (by decide) ?_
    refine zx_bipush (v := (57 : Int32)) C dX10_token_169 (by decide) ?_
    refine zx_cSb C [.int r19, .int (48 : Int32), .int (57 : Int32)] lk_X10_103 (c_X10_in l D cy g r19 (48 : Int32) (57 : Int32)  σ18 h) ⟨by decide, by decide⟩ ⟨rfl, rfl⟩ ⟨Nat.zero_le _, Nat.zero_le _⟩ rfl rfl (Nat.le_of_ble_eq_true rfl) dX10_token_171 (fun r21 σ20 hb h => ?_)
    replace h := h hb
    refine zx_if_eq C 224 dX10_token_174 (by decide) (fun q => ?_) (fun q => ?_)
    · replace h := h.1 q
      refine zx_aload_n C dX10_token_224 0 rfl ?_
      refine zx_iload_n C dX10_token_225 1 rfl ?_
      refine zx_iconst (v := (3 : Int32)) C dX10_token_226 (by decide) ?_
      refine zx_icmp_le C 234 dX10_token_227 (by decide) (fun q => ?_) (fun q => ?_)
      · replace h := h.1 q
        refine zx_iconst (v := (3 : Int32)) C dX10_token_234 (by decide) ?_
        refine zx_putI C zs_223 fp_X10_128 rfl dX10_token_235 ?_
        refine zx_sig (fun σ22 eσ22 => ?_)
        replace h := h σ22 eσ22
        refine zx_goto C 266 dX10_token_238 (by decide) ?_
        exact zx_vret C hr dX10_token_266 h
      · replace h := h.2 q
        refine zx_iconst (v := (1 : Int32)) C dX10_token_230 (by decide) ?_
        refine zx_goto C 235 dX10_token_231 (by decide) ?_
        refine zx_putI C zs_223 fp_X10_128 rfl dX10_token_235 ?_
        refine zx_sig (fun σ23 eσ23 => ?_)
        replace h := h σ23 eσ23
        refine zx_goto C 266 dX10_token_238 (by decide) ?_
        exact zx_vret C hr dX10_token_266 h
    · replace h := h.2 q
      refine zx_aload_n C dX10_token_177 0 rfl ?_
      refine zx_iload_n C dX10_token_178 1 rfl ?_
      refine zx_iconst (v := (3 : Int32)) C dX10_token_179 (by decide) ?_
      refine zx_icmp_ge C 201 dX10_token_180 (by decide) (fun q => ?_) (fun q => ?_)
      · replace h := h.1 q
        refine zx_aload_n C dX10_token_201 0 rfl ?_
        refine zx_getI C zs_223 fg_X10_131 rfl dX10_token_202 ?_
        refine zx_putI C zs_223 fp_X10_131 rfl dX10_token_205 ?_
        refine zx_sig (fun σ24 eσ24 => ?_)
        replace h := h σ24 eσ24
        refine zx_aload_n C dX10_token_208 0 rfl ?_
        refine zx_dup C dX10_token_209 rfl ?_
        refine zx_getI C zs_223 fg_X10_111 rfl dX10_token_210 ?_
        refine zx_iconst (v := (1 : Int32)) C dX10_token_213 (by decide) ?_
        refine zx_iadd C dX10_token_214 ?_
        refine zx_putI C zs_223 fp_X10_111 rfl dX10_token_215 ?_
        refine zx_sig (fun σ25 eσ25 => ?_)
        replace h := h σ25 eσ25
        obtain ⟨x26, ex26⟩ : ∃ y : Int32, y = (x_2 + (1 : Int32)) := ⟨_, rfl⟩
        replace h := h x26 ex26
        refine zx_iinc (v := x26) (lv' := [(2, .int x26), (0, .ref (g 223))]) C dX10_token_218 1 rfl (by rw [ex26]; rfl) (by decide) rfl ?_
        refine zx_goto C 163 dX10_token_221 (by decide) ?_
        refine zx_lv (lv' := [(0, .ref (g 223)), (2, .int x26)]) [1, 0] rfl ?_
        exact ih x26 σ25 h
      · replace h := h.2 q
        refine zx_bipush (v := (10 : Int32)) C dX10_token_183 (by decide) ?_
        refine zx_aload_n C dX10_token_185 0 rfl ?_
        refine zx_getI C zs_223 fg_X10_131 rfl dX10_token_186 ?_
        refine zx_imul C dX10_token_189 ?_
        refine zx_aload_n C dX10_token_190 0 rfl ?_
        refine zx_cVi C [] lk_X10_117 (c_X10_see l D cy g   σ20 h) zs_223 rfl ⟨by decide, by decide⟩ ⟨rfl, rfl⟩ ⟨Nat.zero_le _, Nat.zero_le _⟩ rfl rfl (Nat.le_of_ble_eq_true rfl) dX10_token_191 (fun r28 σ27 h => ?_)
        refine zx_iadd C dX10_token_194 ?_
        refine zx_bipush (v := (48 : Int32)) C dX10_token_195 (by decide) ?_
        refine zx_isub C dX10_token_197 ?_
        refine zx_goto C 205 dX10_token_198 (by decide) ?_
        refine zx_putI C zs_223 fp_X10_131 rfl dX10_token_205 ?_
        refine zx_sig (fun σ29 eσ29 => ?_)
        replace h := h σ29 eσ29
        refine zx_aload_n C dX10_token_208 0 rfl ?_
        refine zx_dup C dX10_token_209 rfl ?_
        refine zx_getI C zs_223 fg_X10_111 rfl dX10_token_210 ?_
        refine zx_iconst (v := (1 : Int32)) C dX10_token_213 (by decide) ?_
        refine zx_iadd C dX10_token_214 ?_
        refine zx_putI C zs_223 fp_X10_111 rfl dX10_token_215 ?_
        refine zx_sig (fun σ30 eσ30 => ?_)
        replace h := h σ30 eσ30
        obtain ⟨x31, ex31⟩ : ∃ y : Int32, y = (x_2 + (1 : Int32)) := ⟨_, rfl⟩
        replace h := h x31 ex31
        refine zx_iinc (v := x31) (lv' := [(2, .int x31), (0, .ref (g 223))]) C dX10_token_218 1 rfl (by rw [ex31]; rfl) (by decide) rfl ?_
        refine zx_goto C 163 dX10_token_221 (by decide) ?_
        refine zx_lv (lv' := [(0, .ref (g 223)), (2, .int x31)]) [1, 0] rfl ?_
        exact ih x31 σ30 h
set_option maxRecDepth 100000 in
set_option maxHeartbeats 4000000 in
theorem k_X10_token_74 {p : Program} {l : Launch} {e : Env} {s : State} {m : MethodId} {args : Array Value} {below : List Frame} {meth : Method} {c : Code} {D : va_G} {cy : Nat → ClassId} {g : Nat → Nat} (C : zC p s m args meth c cX10_token RX10 3 D cy g) (hr : meth.sig.returnType = none) {P : zSto → Prop}     : ∀ (n : Nat) (x_2 : Int32) (σ : zSto), w_X10_token_74 P n x_2 σ → zX p l e (zrm 1 22) s m args below meth c 0 0 (zQv P below args s D cy g) 3 D cy g 74 [(0, .ref (g 223)), (2, .int x_2)] [] σ := by
  intro n
  induction n with
  | zero => intro x_2 σ h; exact h.elim
  | succ n ih =>
    intro x_2 σ h
    unfold w_X10_token_74 at h
    refine zx_aload_n C dX10_token_74 0 rfl ?_
    refine zx_cVi C [] lk_X10_117 (c_X10_see l D cy g   σ h) zs_223 rfl ⟨by decide, by decide⟩ ⟨rfl, rfl⟩ ⟨Nat.zero_le _, Nat.zero_le _⟩ rfl rfl (Nat.le_of_ble_eq_true rfl) dX10_token_75 (fun r33 σ32 h => ?_)
    refine zx_bipush (v := (97 : Int32)) C dX10_token_78 (by decide) ?_
    refine zx_bipush (v := (122 : Int32)) C dX10_token_80 (by decide) ?_
    refine zx_cSb C [.int r33, .int (97 : Int32), .int (122 : Int32)] lk_X10_103 (c_X10_in l D cy g r33 (97 : Int32) (122 : Int32)  σ32 h) ⟨by decide, by decide⟩ ⟨rfl, rfl⟩ ⟨Nat.zero_le _, Nat.zero_le _⟩ rfl rfl (Nat.le_of_ble_eq_true rfl) dX10_token_82 (fun r35 σ34 hb h => ?_)
    replace h := h hb
    refine zx_if_eq C 121 dX10_token_85 (by decide) (fun q => ?_) (fun q => ?_)
    · replace h := h.1 q
      refine zx_aload_n C dX10_token_121 0 rfl ?_
      refine zx_iload_n C dX10_token_122 1 rfl ?_
      refine zx_bipush (v := (8 : Int32)) C dX10_token_123 (by decide) ?_
      refine zx_icmp_le C 132 dX10_token_125 (by decide) (fun q => ?_) (fun q => ?_)
      · replace h := h.1 q
        refine zx_aload_n C dX10_token_132 0 rfl ?_
        refine zx_getL C zs_223 fg_X10_124 rfl dX10_token_133 ?_
        refine zx_putL C zs_223 fp_X10_124 rfl dX10_token_136 ?_
        refine zx_sig (fun σ36 eσ36 => ?_)
        replace h := h σ36 eσ36
        refine zx_aload_n C dX10_token_139 0 rfl ?_
        refine zx_iconst (v := (2 : Int32)) C dX10_token_140 (by decide) ?_
        refine zx_putI C zs_223 fp_X10_128 rfl dX10_token_141 ?_
        refine zx_sig (fun σ37 eσ37 => ?_)
        replace h := h σ37 eσ37
        refine zx_goto C 266 dX10_token_144 (by decide) ?_
        exact zx_vret C hr dX10_token_266 h
      · replace h := h.2 q
        refine zx_lconst (v := (0 : Int64)) C dX10_token_128 (by decide) ?_
        refine zx_goto C 136 dX10_token_129 (by decide) ?_
        refine zx_putL C zs_223 fp_X10_124 rfl dX10_token_136 ?_
        refine zx_sig (fun σ38 eσ38 => ?_)
        replace h := h σ38 eσ38
        refine zx_aload_n C dX10_token_139 0 rfl ?_
        refine zx_iconst (v := (2 : Int32)) C dX10_token_140 (by decide) ?_
        refine zx_putI C zs_223 fp_X10_128 rfl dX10_token_141 ?_
        refine zx_sig (fun σ39 eσ39 => ?_)
        replace h := h σ39 eσ39
        refine zx_goto C 266 dX10_token_144 (by decide) ?_
        exact zx_vret C hr dX10_token_266 h
    · replace h := h.2 q
      refine zx_aload_n C dX10_token_88 0 rfl ?_
      refine zx_aload_n C dX10_token_89 0 rfl ?_
      refine zx_getL C zs_223 fg_X10_124 rfl dX10_token_90 ?_
      refine zx_bipush (v := (8 : Int32)) C dX10_token_93 (by decide) ?_
      refine zx_lshl C dX10_token_95 ?_
      refine zx_aload_n C dX10_token_96 0 rfl ?_
      refine zx_cVi C [] lk_X10_117 (c_X10_see l D cy g   σ34 h) zs_223 rfl ⟨by decide, by decide⟩ ⟨rfl, rfl⟩ ⟨Nat.zero_le _, Nat.zero_le _⟩ rfl rfl (Nat.le_of_ble_eq_true rfl) dX10_token_97 (fun r41 σ40 h => ?_)
      refine zx_i2l C dX10_token_100 ?_
      refine zx_lor C dX10_token_101 ?_
      refine zx_putL C zs_223 fp_X10_124 rfl dX10_token_102 ?_
      refine zx_sig (fun σ42 eσ42 => ?_)
      replace h := h σ42 eσ42
      refine zx_aload_n C dX10_token_105 0 rfl ?_
      refine zx_dup C dX10_token_106 rfl ?_
      refine zx_getI C zs_223 fg_X10_111 rfl dX10_token_107 ?_
      refine zx_iconst (v := (1 : Int32)) C dX10_token_110 (by decide) ?_
      refine zx_iadd C dX10_token_111 ?_
      refine zx_putI C zs_223 fp_X10_111 rfl dX10_token_112 ?_
      refine zx_sig (fun σ43 eσ43 => ?_)
      replace h := h σ43 eσ43
      obtain ⟨x44, ex44⟩ : ∃ y : Int32, y = (x_2 + (1 : Int32)) := ⟨_, rfl⟩
      replace h := h x44 ex44
      refine zx_iinc (v := x44) (lv' := [(2, .int x44), (0, .ref (g 223))]) C dX10_token_115 1 rfl (by rw [ex44]; rfl) (by decide) rfl ?_
      refine zx_goto C 74 dX10_token_118 (by decide) ?_
      refine zx_lv (lv' := [(0, .ref (g 223)), (2, .int x44)]) [1, 0] rfl ?_
      exact ih x44 σ43 h
set_option maxRecDepth 100000 in
set_option maxHeartbeats 4000000 in
theorem k_X10_token_0 {p : Program} {l : Launch} {e : Env} {s : State} {m : MethodId} {args : Array Value} {below : List Frame} {meth : Method} {c : Code} {D : va_G} {cy : Nat → ClassId} {g : Nat → Nat} (C : zC p s m args meth c cX10_token RX10 3 D cy g) (hr : meth.sig.returnType = none) {P : zSto → Prop}     : ∀ (n : Nat)  (σ : zSto), w_X10_token_0 P n  σ → zX p l e (zrm 1 22) s m args below meth c 0 0 (zQv P below args s D cy g) 3 D cy g 0 [(0, .ref (g 223))] [] σ := by
  intro n
  induction n with
  | zero => intro  σ h; exact h.elim
  | succ n ih =>
    intro  σ h
    unfold w_X10_token_0 at h
    refine zx_aload_n C dX10_token_0 0 rfl ?_
    refine zx_cVi C [] lk_X10_117 (c_X10_see l D cy g   σ h) zs_223 rfl ⟨by decide, by decide⟩ ⟨rfl, rfl⟩ ⟨Nat.zero_le _, Nat.zero_le _⟩ rfl rfl (Nat.le_of_ble_eq_true rfl) dX10_token_1 (fun r2 σ1 h => ?_)
    refine zx_bipush (v := (10 : Int32)) C dX10_token_4 (by decide) ?_
    refine zx_icmp_eq C 18 dX10_token_6 (by decide) (fun q => ?_) (fun q => ?_)
    · replace h := h.1 q
      refine zx_aload_n C dX10_token_18 0 rfl ?_
      refine zx_dup C dX10_token_19 rfl ?_
      refine zx_getI C zs_223 fg_X10_111 rfl dX10_token_20 ?_
      refine zx_iconst (v := (1 : Int32)) C dX10_token_23 (by decide) ?_
      refine zx_iadd C dX10_token_24 ?_
      refine zx_putI C zs_223 fp_X10_111 rfl dX10_token_25 ?_
      refine zx_sig (fun σ3 eσ3 => ?_)
      replace h := h σ3 eσ3
      refine zx_goto C 0 dX10_token_28 (by decide) ?_
      refine zx_lv (lv' := [(0, .ref (g 223))]) [0] rfl ?_
      exact ih  σ3 h
    · replace h := h.2 q
      refine zx_aload_n C dX10_token_9 0 rfl ?_
      refine zx_cVi C [] lk_X10_117 (c_X10_see l D cy g   σ1 h) zs_223 rfl ⟨by decide, by decide⟩ ⟨rfl, rfl⟩ ⟨Nat.zero_le _, Nat.zero_le _⟩ rfl rfl (Nat.le_of_ble_eq_true rfl) dX10_token_10 (fun r5 σ4 h => ?_)
      refine zx_bipush (v := (32 : Int32)) C dX10_token_13 (by decide) ?_
      refine zx_icmp_ne C 31 dX10_token_15 (by decide) (fun q => ?_) (fun q => ?_)
      · replace h := h.1 q
        refine zx_aload_n C dX10_token_31 0 rfl ?_
        refine zx_aload_n C dX10_token_32 0 rfl ?_
        refine zx_getI C zs_223 fg_X10_111 rfl dX10_token_33 ?_
        refine zx_putI C zs_223 fp_X10_121 rfl dX10_token_36 ?_
        refine zx_sig (fun σ6 eσ6 => ?_)
        replace h := h σ6 eσ6
        refine zx_aload_n C dX10_token_39 0 rfl ?_
        refine zx_cVi C [] lk_X10_117 (c_X10_see l D cy g   σ6 h) zs_223 rfl ⟨by decide, by decide⟩ ⟨rfl, rfl⟩ ⟨Nat.zero_le _, Nat.zero_le _⟩ rfl rfl (Nat.le_of_ble_eq_true rfl) dX10_token_40 (fun r8 σ7 h => ?_)
        refine zx_istore_n (lv' := [(1, .int r8), (0, .ref (g 223))]) C dX10_token_43 (by decide) rfl ?_
        refine zx_aload_n C dX10_token_44 1 rfl ?_
        refine zx_lconst (v := (0 : Int64)) C dX10_token_45 (by decide) ?_
        refine zx_putL C zs_223 fp_X10_124 rfl dX10_token_46 ?_
        refine zx_sig (fun σ9 eσ9 => ?_)
        replace h := h σ9 eσ9
        refine zx_iconst (v := (0 : Int32)) C dX10_token_49 (by decide) ?_
        refine zx_istore_n (lv' := [(2, .int (0 : Int32)), (1, .int r8), (0, .ref (g 223))]) C dX10_token_50 (by decide) rfl ?_
        refine zx_iload_n C dX10_token_51 1 rfl ?_
        refine zx_if_ge C 63 dX10_token_52 (by decide) (fun q => ?_) (fun q => ?_)
        · replace h := h.1 q
          refine zx_iload_n C dX10_token_63 1 rfl ?_
          refine zx_bipush (v := (97 : Int32)) C dX10_token_64 (by decide) ?_
          refine zx_bipush (v := (122 : Int32)) C dX10_token_66 (by decide) ?_
          refine zx_cSb C [.int r8, .int (97 : Int32), .int (122 : Int32)] lk_X10_103 (c_X10_in l D cy g r8 (97 : Int32) (122 : Int32)  σ9 h) ⟨by decide, by decide⟩ ⟨rfl, rfl⟩ ⟨Nat.zero_le _, Nat.zero_le _⟩ rfl rfl (Nat.le_of_ble_eq_true rfl) dX10_token_68 (fun r11 σ10 hb h => ?_)
          replace h := h hb
          refine zx_if_eq C 147 dX10_token_71 (by decide) (fun q => ?_) (fun q => ?_)
          · replace h := h.1 q
            refine zx_iload_n C dX10_token_147 1 rfl ?_
            refine zx_bipush (v := (48 : Int32)) C dX10_token_148 (by decide) ?_
            refine zx_bipush (v := (57 : Int32)) C dX10_token_150 (by decide) ?_
            refine zx_cSb C [.int r8, .int (48 : Int32), .int (57 : Int32)] lk_X10_103 (c_X10_in l D cy g r8 (48 : Int32) (57 : Int32)  σ10 h) ⟨by decide, by decide⟩ ⟨rfl, rfl⟩ ⟨Nat.zero_le _, Nat.zero_le _⟩ rfl rfl (Nat.le_of_ble_eq_true rfl) dX10_token_152 (fun r13 σ12 hb h => ?_)
            replace h := h hb
            refine zx_if_eq C 241 dX10_token_155 (by decide) (fun q => ?_) (fun q => ?_)
            · replace h := h.1 q
              refine zx_aload_n C dX10_token_241 2 rfl ?_
              refine zx_dup C dX10_token_242 rfl ?_
              refine zx_getI C zs_223 fg_X10_111 rfl dX10_token_243 ?_
              refine zx_iconst (v := (1 : Int32)) C dX10_token_246 (by decide) ?_
              refine zx_iadd C dX10_token_247 ?_
              refine zx_putI C zs_223 fp_X10_111 rfl dX10_token_248 ?_
              refine zx_sig (fun σ14 eσ14 => ?_)
              replace h := h σ14 eσ14
              refine zx_aload_n C dX10_token_251 2 rfl ?_
              refine zx_iload_n C dX10_token_252 1 rfl ?_
              refine zx_bipush (v := (59 : Int32)) C dX10_token_253 (by decide) ?_
              refine zx_icmp_ne C 262 dX10_token_255 (by decide) (fun q => ?_) (fun q => ?_)
              · replace h := h.1 q
                refine zx_iconst (v := (1 : Int32)) C dX10_token_262 (by decide) ?_
                refine zx_putI C zs_223 fp_X10_128 rfl dX10_token_263 ?_
                refine zx_sig (fun σ15 eσ15 => ?_)
                replace h := h σ15 eσ15
                exact zx_vret C hr dX10_token_266 h
              · replace h := h.2 q
                refine zx_iconst (v := (4 : Int32)) C dX10_token_258 (by decide) ?_
                refine zx_goto C 263 dX10_token_259 (by decide) ?_
                refine zx_putI C zs_223 fp_X10_128 rfl dX10_token_263 ?_
                refine zx_sig (fun σ16 eσ16 => ?_)
                replace h := h σ16 eσ16
                exact zx_vret C hr dX10_token_266 h
            · replace h := h.2 q
              refine zx_aload_n C dX10_token_158 2 rfl ?_
              refine zx_iconst (v := (0 : Int32)) C dX10_token_159 (by decide) ?_
              refine zx_putI C zs_223 fp_X10_131 rfl dX10_token_160 ?_
              refine zx_sig (fun σ17 eσ17 => ?_)
              replace h := h σ17 eσ17
              obtain ⟨n2, h⟩ := h
              refine zx_lv (lv' := [(0, .ref (g 223)), (2, .int (0 : Int32))]) [2, 0] rfl ?_
              exact k_X10_token_163 C hr    n2 (0 : Int32) σ17 h
          · replace h := h.2 q
            obtain ⟨n2, h⟩ := h
            refine zx_lv (lv' := [(0, .ref (g 223)), (2, .int (0 : Int32))]) [2, 0] rfl ?_
            exact k_X10_token_74 C hr    n2 (0 : Int32) σ10 h
        · replace h := h.2 q
          refine zx_aload_n C dX10_token_55 2 rfl ?_
          refine zx_iconst (v := (0 : Int32)) C dX10_token_56 (by decide) ?_
          refine zx_putI C zs_223 fp_X10_128 rfl dX10_token_57 ?_
          refine zx_sig (fun σ45 eσ45 => ?_)
          replace h := h σ45 eσ45
          refine zx_goto C 266 dX10_token_60 (by decide) ?_
          exact zx_vret C hr dX10_token_266 h
      · replace h := h.2 q
        refine zx_aload_n C dX10_token_18 0 rfl ?_
        refine zx_dup C dX10_token_19 rfl ?_
        refine zx_getI C zs_223 fg_X10_111 rfl dX10_token_20 ?_
        refine zx_iconst (v := (1 : Int32)) C dX10_token_23 (by decide) ?_
        refine zx_iadd C dX10_token_24 ?_
        refine zx_putI C zs_223 fp_X10_111 rfl dX10_token_25 ?_
        refine zx_sig (fun σ46 eσ46 => ?_)
        replace h := h σ46 eσ46
        refine zx_goto C 0 dX10_token_28 (by decide) ?_
        refine zx_lv (lv' := [(0, .ref (g 223))]) [0] rfl ?_
        exact ih  σ46 h
set_option maxRecDepth 100000 in
set_option maxHeartbeats 4000000 in
theorem c_X10_token (l : Launch) (D : va_G) (cy : Nat → ClassId) (g : Nat → Nat)   (σ : zSto) {P : zSto → Prop} (h : w_X10_token  σ P) : zMv l yX10_token cX10_token 3 none (zrm 1 22) D cy g [.ref (g 223)] σ P := by
  unfold w_X10_token at h
  refine zm_v RX10 rfl (by decide +kernel) (Nat.le_of_ble_eq_true rfl) ?_
  intro p e s m below meth c C hr
  refine zx_lv (lv' := [(0, .ref (g 223))]) [0] rfl ?_
  obtain ⟨n, h⟩ := h
  refine zx_lv (lv' := [(0, .ref (g 223))]) [0] rfl ?_
  exact k_X10_token_0 C hr    n  σ h
theorem fg_X10_121 : zFG RX10 121 10 11 := ⟨RX10, TX10, 50, rfl, lay_X10, by decide, fl_X10_121⟩
theorem fp_X10_134 : zFP RX10 134 10 15 .int := ⟨RX10, TX10, 50, tyX10, rfl, lay_X10, by decide, fl_X10_134, tyX10_ok, nmX10, rfl, by decide +kernel⟩
def w_X10_fails  (σ : zSto) (P : Int32 → zSto → Prop) : Prop := (∀ σ1 : zSto, σ1 = zI σ 223 15 (σ.1 223 11) → P (0 : Int32) σ1)
set_option maxRecDepth 100000 in
set_option maxHeartbeats 4000000 in
theorem c_X10_fails (l : Launch) (D : va_G) (cy : Nat → ClassId) (g : Nat → Nat)   (σ : zSto) {P : Int32 → zSto → Prop} (h : w_X10_fails  σ P) : zMb l yX10_fails cX10_fails 1 (some .boolean) (zrm 0 0) D cy g [.ref (g 223)] σ P := by
  unfold w_X10_fails at h
  refine zm_b RX10 rfl (by decide +kernel) (Nat.le_of_ble_eq_true rfl) ?_
  intro p e s m below meth c C hr
  refine zx_lv (lv' := [(0, .ref (g 223))]) [0] rfl ?_
  refine zx_aload_n C dX10_fails_0 0 rfl ?_
  refine zx_aload_n C dX10_fails_1 0 rfl ?_
  refine zx_getI C zs_223 fg_X10_121 rfl dX10_fails_2 ?_
  refine zx_putI C zs_223 fp_X10_134 rfl dX10_fails_5 ?_
  refine zx_sig (fun σ1 eσ1 => ?_)
  replace h := h σ1 eσ1
  refine zx_iconst (v := (0 : Int32)) C dX10_fails_8 (by decide) ?_
  exact zx_zret C hr dX10_fails_9 (Or.inl rfl) h
theorem fg_X10_137 : zFG RX10 137 10 16 := ⟨RX10, TX10, 50, rfl, lay_X10, by decide, fl_X10_137⟩
theorem fp_X10_137 : zFP RX10 137 10 16 .int := ⟨RX10, TX10, 50, tyX10, rfl, lay_X10, by decide, fl_X10_137, tyX10_ok, nmX10, rfl, by decide +kernel⟩
theorem fp_X10_140 : zFP RX10 140 10 17 .int := ⟨RX10, TX10, 50, tyX10, rfl, lay_X10, by decide, fl_X10_140, tyX10_ok, nmX10, rfl, by decide +kernel⟩
theorem fg_X10_140 : zFG RX10 140 10 17 := ⟨RX10, TX10, 50, rfl, lay_X10, by decide, fl_X10_140⟩
def w_X10_later (a1 : Int32) (a2 : Int32) (σ : zSto) (P : zSto → Prop) : Prop := (((σ.1 223 16) = 0 → (∀ σ1 : zSto, σ1 = zI σ 223 16 a1 → (∀ σ2 : zSto, σ2 = zI σ1 223 17 a2 → P σ2))) ∧ (¬ (σ.1 223 16) = 0 → ((a2 < (σ.1 223 17) → (∀ σ3 : zSto, σ3 = zI σ 223 16 a1 → (∀ σ4 : zSto, σ4 = zI σ3 223 17 a2 → P σ4))) ∧ (¬ a2 < (σ.1 223 17) → ((¬ a2 = (σ.1 223 17) → P σ) ∧ (a2 = (σ.1 223 17) → (((σ.1 223 16) ≤ a1 → P σ) ∧ (¬ (σ.1 223 16) ≤ a1 → (∀ σ5 : zSto, σ5 = zI σ 223 16 a1 → (∀ σ6 : zSto, σ6 = zI σ5 223 17 a2 → P σ6))))))))))
set_option maxRecDepth 100000 in
set_option maxHeartbeats 4000000 in
theorem c_X10_later (l : Launch) (D : va_G) (cy : Nat → ClassId) (g : Nat → Nat) (a1 : Int32) (a2 : Int32)  (σ : zSto) {P : zSto → Prop} (h : w_X10_later a1 a2 σ P) : zMv l yX10_later cX10_later 3 none (zrm 0 0) D cy g [.ref (g 223), .int a1, .int a2] σ P := by
  unfold w_X10_later at h
  refine zm_v RX10 rfl (by decide +kernel) (Nat.le_of_ble_eq_true rfl) ?_
  intro p e s m below meth c C hr
  refine zx_lv (lv' := [(0, .ref (g 223)), (1, .int a1), (2, .int a2)]) [0, 1, 2] rfl ?_
  refine zx_aload_n C dX10_later_0 0 rfl ?_
  refine zx_getI C zs_223 fg_X10_137 rfl dX10_later_1 ?_
  refine zx_if_eq C 31 dX10_later_4 (by decide) (fun q => ?_) (fun q => ?_)
  · replace h := h.1 q
    refine zx_aload_n C dX10_later_31 0 rfl ?_
    refine zx_iload_n C dX10_later_32 1 rfl ?_
    refine zx_putI C zs_223 fp_X10_137 rfl dX10_later_33 ?_
    refine zx_sig (fun σ1 eσ1 => ?_)
    replace h := h σ1 eσ1
    refine zx_aload_n C dX10_later_36 0 rfl ?_
    refine zx_iload_n C dX10_later_37 2 rfl ?_
    refine zx_putI C zs_223 fp_X10_140 rfl dX10_later_38 ?_
    refine zx_sig (fun σ2 eσ2 => ?_)
    replace h := h σ2 eσ2
    exact zx_vret C hr dX10_later_41 h
  · replace h := h.2 q
    refine zx_iload_n C dX10_later_7 2 rfl ?_
    refine zx_aload_n C dX10_later_8 0 rfl ?_
    refine zx_getI C zs_223 fg_X10_140 rfl dX10_later_9 ?_
    refine zx_icmp_lt C 31 dX10_later_12 (by decide) (fun q => ?_) (fun q => ?_)
    · replace h := h.1 q
      refine zx_aload_n C dX10_later_31 0 rfl ?_
      refine zx_iload_n C dX10_later_32 1 rfl ?_
      refine zx_putI C zs_223 fp_X10_137 rfl dX10_later_33 ?_
      refine zx_sig (fun σ3 eσ3 => ?_)
      replace h := h σ3 eσ3
      refine zx_aload_n C dX10_later_36 0 rfl ?_
      refine zx_iload_n C dX10_later_37 2 rfl ?_
      refine zx_putI C zs_223 fp_X10_140 rfl dX10_later_38 ?_
      refine zx_sig (fun σ4 eσ4 => ?_)
      replace h := h σ4 eσ4
      exact zx_vret C hr dX10_later_41 h
    · replace h := h.2 q
      refine zx_iload_n C dX10_later_15 2 rfl ?_
      refine zx_aload_n C dX10_later_16 0 rfl ?_
      refine zx_getI C zs_223 fg_X10_140 rfl dX10_later_17 ?_
      refine zx_icmp_ne C 41 dX10_later_20 (by decide) (fun q => ?_) (fun q => ?_)
      · replace h := h.1 q
        exact zx_vret C hr dX10_later_41 h
      · replace h := h.2 q
        refine zx_iload_n C dX10_later_23 1 rfl ?_
        refine zx_aload_n C dX10_later_24 0 rfl ?_
        refine zx_getI C zs_223 fg_X10_137 rfl dX10_later_25 ?_
        refine zx_icmp_ge C 41 dX10_later_28 (by decide) (fun q => ?_) (fun q => ?_)
        · replace h := h.1 q
          exact zx_vret C hr dX10_later_41 h
        · replace h := h.2 q
          refine zx_aload_n C dX10_later_31 0 rfl ?_
          refine zx_iload_n C dX10_later_32 1 rfl ?_
          refine zx_putI C zs_223 fp_X10_137 rfl dX10_later_33 ?_
          refine zx_sig (fun σ5 eσ5 => ?_)
          replace h := h σ5 eσ5
          refine zx_aload_n C dX10_later_36 0 rfl ?_
          refine zx_iload_n C dX10_later_37 2 rfl ?_
          refine zx_putI C zs_223 fp_X10_140 rfl dX10_later_38 ?_
          refine zx_sig (fun σ6 eσ6 => ?_)
          replace h := h σ6 eσ6
          exact zx_vret C hr dX10_later_41 h
theorem fg_X10_128 : zFG RX10 128 10 12 := ⟨RX10, TX10, 50, rfl, lay_X10, by decide, fl_X10_128⟩
theorem fg_X10_38 : zFG RX10 38 10 19 := ⟨RX10, TX10, 50, rfl, lay_X10, by decide, fl_X10_38⟩
theorem lk_X10_151 : zLV RX10 151 RX10 yX10_token cX10_token 3 none 0 := zLV_of ml_X10_151 im_X10_token se_X10_token ini_X10 cd_X10_token (by decide +kernel)
theorem lk_X10_147 : zLV RX10 147 RX10 yX10_later cX10_later 3 none 2 := zLV_of ml_X10_147 im_X10_later se_X10_later ini_X10 cd_X10_later (by decide +kernel)
theorem lk_X10_143 : zLV RX10 143 RX10 yX10_fails cX10_fails 1 (some .boolean) 0 := zLV_of ml_X10_143 im_X10_fails se_X10_fails ini_X10 cd_X10_fails (by decide +kernel)
def w_X10_take (a1 : Int32) (a2 : Int32) (a3 : Int32) (σ : zSto) (P : Int32 → zSto → Prop) : Prop := (((σ.1 223 12) = (3 : Int32) → (vp_in a1 6 ∧ (∀ σ2 : zSto, σ2 = zI σ 233 (a1).toNatClampNeg (σ.1 223 13) → (w_X10_in (σ2.1 223 13) a2 a3 σ2 (fun (r4 : Int32) (σ3 : zSto) => (r4 = 0 ∨ r4 = 1) → ((¬ r4 = 0 → (w_X10_token  σ3 (fun (σ5 : zSto) => P (1 : Int32) σ5))) ∧ (r4 = 0 → (w_X10_later (2 : Int32) (σ3.1 223 11) σ3 (fun (σ6 : zSto) => (w_X10_token  σ6 (fun (σ7 : zSto) => P (1 : Int32) σ7))))))))))) ∧ (¬ (σ.1 223 12) = (3 : Int32) → (w_X10_fails  σ (fun (r9 : Int32) (σ8 : zSto) => (r9 = 0 ∨ r9 = 1) → ((r9 = 0 ∨ r9 = 1) ∧ P r9 σ8)))))
set_option maxRecDepth 100000 in
set_option maxHeartbeats 4000000 in
theorem c_X10_take (l : Launch) (D : va_G) (cy : Nat → ClassId) (g : Nat → Nat) (a1 : Int32) (a2 : Int32) (a3 : Int32)  (σ : zSto) {P : Int32 → zSto → Prop} (h : w_X10_take a1 a2 a3 σ P) : zMb l yX10_take cX10_take 4 (some .boolean) (zrm 2 44) D cy g [.ref (g 223), .int a1, .int a2, .int a3] σ P := by
  unfold w_X10_take at h
  refine zm_b RX10 rfl (by decide +kernel) (Nat.le_of_ble_eq_true rfl) ?_
  intro p e s m below meth c C hr
  refine zx_lv (lv' := [(0, .ref (g 223)), (1, .int a1), (2, .int a2), (3, .int a3)]) [0, 1, 2, 3] rfl ?_
  refine zx_aload_n C dX10_take_0 0 rfl ?_
  refine zx_getI C zs_223 fg_X10_128 rfl dX10_take_1 ?_
  refine zx_iconst (v := (3 : Int32)) C dX10_take_4 (by decide) ?_
  refine zx_icmp_eq C 13 dX10_take_5 (by decide) (fun q => ?_) (fun q => ?_)
  · replace h := h.1 q
    refine zx_aload_n C dX10_take_13 0 rfl ?_
    refine zx_getR C zs_223 fg_X10_38 rfl 233 rfl dX10_take_14 ?_
    refine zx_iload_n C dX10_take_17 1 rfl ?_
    refine zx_aload_n C dX10_take_18 0 rfl ?_
    refine zx_getI C zs_223 fg_X10_131 rfl dX10_take_19 ?_
    obtain ⟨bd1, h⟩ := h
    refine zx_iast C (a1).toNatClampNeg zs_233 bd1 rfl dX10_take_22 ?_
    refine zx_sig (fun σ2 eσ2 => ?_)
    replace h := h σ2 eσ2
    refine zx_aload_n C dX10_take_23 0 rfl ?_
    refine zx_getI C zs_223 fg_X10_131 rfl dX10_take_24 ?_
    refine zx_iload_n C dX10_take_27 2 rfl ?_
    refine zx_iload_n C dX10_take_28 3 rfl ?_
    refine zx_cSb C [.int (σ2.1 223 13), .int a2, .int a3] lk_X10_103 (c_X10_in l D cy g (σ2.1 223 13) a2 a3  σ2 h) ⟨by decide, by decide⟩ ⟨rfl, rfl⟩ ⟨Nat.zero_le _, Nat.zero_le _⟩ rfl rfl (Nat.le_of_ble_eq_true rfl) dX10_take_29 (fun r4 σ3 hb h => ?_)
    replace h := h hb
    refine zx_if_ne C 44 dX10_take_32 (by decide) (fun q => ?_) (fun q => ?_)
    · replace h := h.1 q
      refine zx_aload_n C dX10_take_44 0 rfl ?_
      refine zx_cVv C [] lk_X10_151 (c_X10_token l D cy g   σ3 h) zs_223 rfl ⟨by decide, by decide⟩ ⟨rfl, rfl⟩ ⟨Nat.zero_le _, Nat.zero_le _⟩ rfl rfl (Nat.le_of_ble_eq_true rfl) dX10_take_45 (fun σ5 h => ?_)
      refine zx_iconst (v := (1 : Int32)) C dX10_take_48 (by decide) ?_
      exact zx_zret C hr dX10_take_49 (Or.inr rfl) h
    · replace h := h.2 q
      refine zx_aload_n C dX10_take_35 0 rfl ?_
      refine zx_iconst (v := (2 : Int32)) C dX10_take_36 (by decide) ?_
      refine zx_aload_n C dX10_take_37 0 rfl ?_
      refine zx_getI C zs_223 fg_X10_121 rfl dX10_take_38 ?_
      refine zx_cVv C [.int (2 : Int32), .int (σ3.1 223 11)] lk_X10_147 (c_X10_later l D cy g (2 : Int32) (σ3.1 223 11)  σ3 h) zs_223 rfl ⟨by decide, by decide⟩ ⟨rfl, rfl⟩ ⟨Nat.zero_le _, Nat.zero_le _⟩ rfl rfl (Nat.le_of_ble_eq_true rfl) dX10_take_41 (fun σ6 h => ?_)
      refine zx_aload_n C dX10_take_44 0 rfl ?_
      refine zx_cVv C [] lk_X10_151 (c_X10_token l D cy g   σ6 h) zs_223 rfl ⟨by decide, by decide⟩ ⟨rfl, rfl⟩ ⟨Nat.zero_le _, Nat.zero_le _⟩ rfl rfl (Nat.le_of_ble_eq_true rfl) dX10_take_45 (fun σ7 h => ?_)
      refine zx_iconst (v := (1 : Int32)) C dX10_take_48 (by decide) ?_
      exact zx_zret C hr dX10_take_49 (Or.inr rfl) h
  · replace h := h.2 q
    refine zx_aload_n C dX10_take_8 0 rfl ?_
    refine zx_cVb C [] lk_X10_143 (c_X10_fails l D cy g   σ h) zs_223 rfl ⟨by decide, by decide⟩ ⟨rfl, rfl⟩ ⟨Nat.zero_le _, Nat.zero_le _⟩ rfl rfl (Nat.le_of_ble_eq_true rfl) dX10_take_9 (fun r9 σ8 hb h => ?_)
    replace h := h hb
    exact zx_zret C hr dX10_take_12 h.1 h.2
theorem lk_X10_154 : zLV RX10 154 RX10 yX10_take cX10_take 4 (some .boolean) 3 := zLV_of ml_X10_154 im_X10_take se_X10_take ini_X10 cd_X10_take (by decide +kernel)
theorem fg_X10_157 : zFG RX10 157 10 22 := ⟨RX10, TX10, 50, rfl, lay_X10, by decide, fl_X10_157⟩
theorem fp_X10_157 : zFP RX10 157 10 22 .int := ⟨RX10, TX10, 50, tyX10, rfl, lay_X10, by decide, fl_X10_157, tyX10_ok, nmX10, rfl, by decide +kernel⟩
theorem lk_X10_160 : zLS RX10 160 yX10_greater cX10_greater 2 (some .int) 2 := zLS_of ml_X10_160 st_X10_greater ini_X10 cd_X10_greater (by decide +kernel)
def w_X10_takePost (a1 : Int32) (a2 : Int32) (σ : zSto) (P : Int32 → zSto → Prop) : Prop := (w_X10_take a1 a2 (15 : Int32) σ (fun (r2 : Int32) (σ1 : zSto) => (r2 = 0 ∨ r2 = 1) → ((r2 = 0 → (∀ σ3 : zSto, σ3 = zI σ1 223 22 (σ1.1 223 22) → ((r2 = 0 ∨ r2 = 1) ∧ P r2 σ3))) ∧ (¬ r2 = 0 → (vp_in a1 6 ∧ (w_X10_greater (σ1.1 223 22) (σ1.1 233 (a1).toNatClampNeg) σ1 (fun (r6 : Int32) (σ5 : zSto) => (∀ σ7 : zSto, σ7 = zI σ5 223 22 r6 → ((r2 = 0 ∨ r2 = 1) ∧ P r2 σ7)))))))))
set_option maxRecDepth 100000 in
set_option maxHeartbeats 4000000 in
theorem c_X10_takePost (l : Launch) (D : va_G) (cy : Nat → ClassId) (g : Nat → Nat) (a1 : Int32) (a2 : Int32)  (σ : zSto) {P : Int32 → zSto → Prop} (h : w_X10_takePost a1 a2 σ P) : zMb l yX10_takePost cX10_takePost 4 (some .boolean) (zrm 3 67) D cy g [.ref (g 223), .int a1, .int a2] σ P := by
  unfold w_X10_takePost at h
  refine zm_b RX10 rfl (by decide +kernel) (Nat.le_of_ble_eq_true rfl) ?_
  intro p e s m below meth c C hr
  refine zx_lv (lv' := [(0, .ref (g 223)), (1, .int a1), (2, .int a2)]) [0, 1, 2] rfl ?_
  refine zx_aload_n C dX10_takePost_0 0 rfl ?_
  refine zx_iload_n C dX10_takePost_1 1 rfl ?_
  refine zx_iload_n C dX10_takePost_2 2 rfl ?_
  refine zx_bipush (v := (15 : Int32)) C dX10_takePost_3 (by decide) ?_
  refine zx_cVb C [.int a1, .int a2, .int (15 : Int32)] lk_X10_154 (c_X10_take l D cy g a1 a2 (15 : Int32)  σ h) zs_223 rfl ⟨by decide, by decide⟩ ⟨rfl, rfl⟩ ⟨Nat.zero_le _, Nat.zero_le _⟩ rfl rfl (Nat.le_of_ble_eq_true rfl) dX10_takePost_5 (fun r2 σ1 hb h => ?_)
  replace h := h hb
  refine zx_istore_n (lv' := [(3, .int r2), (0, .ref (g 223)), (1, .int a1), (2, .int a2)]) C dX10_takePost_8 (by decide) rfl ?_
  refine zx_aload_n C dX10_takePost_9 1 rfl ?_
  refine zx_iload_n C dX10_takePost_10 0 rfl ?_
  refine zx_if_eq C 30 dX10_takePost_11 (by decide) (fun q => ?_) (fun q => ?_)
  · replace h := h.1 q
    refine zx_aload_n C dX10_takePost_30 1 rfl ?_
    refine zx_getI C zs_223 fg_X10_157 rfl dX10_takePost_31 ?_
    refine zx_putI C zs_223 fp_X10_157 rfl dX10_takePost_34 ?_
    refine zx_sig (fun σ3 eσ3 => ?_)
    replace h := h σ3 eσ3
    refine zx_iload_n C dX10_takePost_37 0 rfl ?_
    exact zx_zret C hr dX10_takePost_38 h.1 h.2
  · replace h := h.2 q
    refine zx_aload_n C dX10_takePost_14 1 rfl ?_
    refine zx_getI C zs_223 fg_X10_157 rfl dX10_takePost_15 ?_
    refine zx_aload_n C dX10_takePost_18 1 rfl ?_
    refine zx_getR C zs_223 fg_X10_38 rfl 233 rfl dX10_takePost_19 ?_
    refine zx_iload_n C dX10_takePost_22 2 rfl ?_
    obtain ⟨bd4, h⟩ := h
    refine zx_iald C (a1).toNatClampNeg zs_233 bd4 rfl dX10_takePost_23 ?_
    refine zx_cSi C [.int (σ1.1 223 22), .int (σ1.1 233 (a1).toNatClampNeg)] lk_X10_160 (c_X10_greater l D cy g (σ1.1 223 22) (σ1.1 233 (a1).toNatClampNeg)  σ1 h) ⟨by decide, by decide⟩ ⟨rfl, rfl⟩ ⟨Nat.zero_le _, Nat.zero_le _⟩ rfl rfl (Nat.le_of_ble_eq_true rfl) dX10_takePost_24 (fun r6 σ5 h => ?_)
    refine zx_goto C 34 dX10_takePost_27 (by decide) ?_
    refine zx_putI C zs_223 fp_X10_157 rfl dX10_takePost_34 ?_
    refine zx_sig (fun σ7 eσ7 => ?_)
    replace h := h σ7 eσ7
    refine zx_iload_n C dX10_takePost_37 0 rfl ?_
    exact zx_zret C hr dX10_takePost_38 h.1 h.2
theorem fg_X10_35 : zFG RX10 35 10 18 := ⟨RX10, TX10, 50, rfl, lay_X10, by decide, fl_X10_35⟩
def w_X10_full (a1 : Int32) (a2 : Int32) (a3 : Int32) (σ : zSto) (P : zSto → Prop) : Prop := (vp_in a1 123 ∧ ((¬ (σ.1 232 (a1).toNatClampNeg) = a2 → P σ) ∧ ((σ.1 232 (a1).toNatClampNeg) = a2 → (w_X10_later (3 : Int32) a3 σ (fun (σ2 : zSto) => P σ2)))))
set_option maxRecDepth 100000 in
set_option maxHeartbeats 4000000 in
theorem c_X10_full (l : Launch) (D : va_G) (cy : Nat → ClassId) (g : Nat → Nat) (a1 : Int32) (a2 : Int32) (a3 : Int32)  (σ : zSto) {P : zSto → Prop} (h : w_X10_full a1 a2 a3 σ P) : zMv l yX10_full cX10_full 4 none (zrm 1 22) D cy g [.ref (g 223), .int a1, .int a2, .int a3] σ P := by
  unfold w_X10_full at h
  refine zm_v RX10 rfl (by decide +kernel) (Nat.le_of_ble_eq_true rfl) ?_
  intro p e s m below meth c C hr
  refine zx_lv (lv' := [(0, .ref (g 223)), (1, .int a1), (2, .int a2), (3, .int a3)]) [0, 1, 2, 3] rfl ?_
  refine zx_aload_n C dX10_full_0 0 rfl ?_
  refine zx_getR C zs_223 fg_X10_35 rfl 232 rfl dX10_full_1 ?_
  refine zx_iload_n C dX10_full_4 1 rfl ?_
  obtain ⟨bd1, h⟩ := h
  refine zx_iald C (a1).toNatClampNeg zs_232 bd1 rfl dX10_full_5 ?_
  refine zx_iload_n C dX10_full_6 2 rfl ?_
  refine zx_icmp_ne C 16 dX10_full_7 (by decide) (fun q => ?_) (fun q => ?_)
  · replace h := h.1 q
    exact zx_vret C hr dX10_full_16 h
  · replace h := h.2 q
    refine zx_aload_n C dX10_full_10 0 rfl ?_
    refine zx_iconst (v := (3 : Int32)) C dX10_full_11 (by decide) ?_
    refine zx_iload_n C dX10_full_12 3 rfl ?_
    refine zx_cVv C [.int (3 : Int32), .int a3] lk_X10_147 (c_X10_later l D cy g (3 : Int32) a3  σ h) zs_223 rfl ⟨by decide, by decide⟩ ⟨rfl, rfl⟩ ⟨Nat.zero_le _, Nat.zero_le _⟩ rfl rfl (Nat.le_of_ble_eq_true rfl) dX10_full_13 (fun σ2 h => ?_)
    exact zx_vret C hr dX10_full_16 h
def w_X10_keep_19 (x_1 : Int32) (x_2 : Int32) (x_3 : Int32) (x_5 : Int32) (x_6 : Int32) (P : zSto → Prop)  : Nat → Int32 → zSto → Prop
  | 0, _, _ => False
  | n + 1, x_7, σ => ((x_5 ≤ x_7 → (vp_in x_1 123 ∧ (vp_in x_1 123 ∧ (∀ σ5 : zSto, σ5 = zI σ 232 (x_1).toNatClampNeg ((σ.1 232 (x_1).toNatClampNeg) + (1 : Int32)) → P σ5)))) ∧ (¬ x_5 ≤ x_7 → (vp_in x_7 6 ∧ (vp_in ((x_2 + (x_3 * x_6)) + x_7) 123 ∧ (∀ σ8 : zSto, σ8 = zI σ 232 (((x_2 + (x_3 * x_6)) + x_7)).toNatClampNeg (σ.1 233 (x_7).toNatClampNeg) → (∀ x9 : Int32, x9 = (x_7 + (1 : Int32)) → w_X10_keep_19 x_1 x_2 x_3 x_5 x_6 P n x9 σ8))))))
def w_X10_keep (a1 : Int32) (a2 : Int32) (a3 : Int32) (a4 : Int32) (a5 : Int32) (σ : zSto) (P : zSto → Prop) : Prop := (vp_in a1 123 ∧ (∀ x2 : Int32, x2 = (σ.1 232 (a1).toNatClampNeg) → ((¬ x2 = a4 → (∃ n : Nat, w_X10_keep_19 a1 a2 a3 a5 x2 P  n (0 : Int32) σ)) ∧ (x2 = a4 → P σ))))
set_option maxRecDepth 100000 in
set_option maxHeartbeats 4000000 in
theorem k_X10_keep_19 {p : Program} {l : Launch} {e : Env} {s : State} {m : MethodId} {args : Array Value} {below : List Frame} {meth : Method} {c : Code} {D : va_G} {cy : Nat → ClassId} {g : Nat → Nat} (C : zC p s m args meth c cX10_keep RX10 8 D cy g) (hr : meth.sig.returnType = none) {P : zSto → Prop} (x_1 : Int32) (x_2 : Int32) (x_3 : Int32) (x_5 : Int32) (x_6 : Int32)    : ∀ (n : Nat) (x_7 : Int32) (σ : zSto), w_X10_keep_19 x_1 x_2 x_3 x_5 x_6 P n x_7 σ → zX p l e (zrm 0 0) s m args below meth c 0 0 (zQv P below args s D cy g) 8 D cy g 19 [(0, .ref (g 223)), (1, .int x_1), (2, .int x_2), (3, .int x_3), (5, .int x_5), (6, .int x_6), (7, .int x_7)] [] σ := by
  intro n
  induction n with
  | zero => intro x_7 σ h; exact h.elim
  | succ n ih =>
    intro x_7 σ h
    unfold w_X10_keep_19 at h
    refine zx_iload C dX10_keep_19 6 rfl ?_
    refine zx_iload C dX10_keep_21 4 rfl ?_
    refine zx_icmp_ge C 53 dX10_keep_23 (by decide) (fun q => ?_) (fun q => ?_)
    · replace h := h.1 q
      refine zx_aload_n C dX10_keep_53 0 rfl ?_
      refine zx_getR C zs_223 fg_X10_35 rfl 232 rfl dX10_keep_54 ?_
      refine zx_iload_n C dX10_keep_57 1 rfl ?_
      refine zx_dup2 C dX10_keep_58 rfl rfl ?_
      obtain ⟨bd3, h⟩ := h
      refine zx_iald C (x_1).toNatClampNeg zs_232 bd3 rfl dX10_keep_59 ?_
      refine zx_iconst (v := (1 : Int32)) C dX10_keep_60 (by decide) ?_
      refine zx_iadd C dX10_keep_61 ?_
      obtain ⟨bd4, h⟩ := h
      refine zx_iast C (x_1).toNatClampNeg zs_232 bd4 rfl dX10_keep_62 ?_
      refine zx_sig (fun σ5 eσ5 => ?_)
      replace h := h σ5 eσ5
      exact zx_vret C hr dX10_keep_63 h
    · replace h := h.2 q
      refine zx_aload_n C dX10_keep_26 0 rfl ?_
      refine zx_getR C zs_223 fg_X10_35 rfl 232 rfl dX10_keep_27 ?_
      refine zx_iload_n C dX10_keep_30 2 rfl ?_
      refine zx_iload_n C dX10_keep_31 3 rfl ?_
      refine zx_iload C dX10_keep_32 5 rfl ?_
      refine zx_imul C dX10_keep_34 ?_
      refine zx_iadd C dX10_keep_35 ?_
      refine zx_iload C dX10_keep_36 6 rfl ?_
      refine zx_iadd C dX10_keep_38 ?_
      refine zx_aload_n C dX10_keep_39 0 rfl ?_
      refine zx_getR C zs_223 fg_X10_38 rfl 233 rfl dX10_keep_40 ?_
      refine zx_iload C dX10_keep_43 6 rfl ?_
      obtain ⟨bd6, h⟩ := h
      refine zx_iald C (x_7).toNatClampNeg zs_233 bd6 rfl dX10_keep_45 ?_
      obtain ⟨bd7, h⟩ := h
      refine zx_iast C (((x_2 + (x_3 * x_6)) + x_7)).toNatClampNeg zs_232 bd7 rfl dX10_keep_46 ?_
      refine zx_sig (fun σ8 eσ8 => ?_)
      replace h := h σ8 eσ8
      obtain ⟨x9, ex9⟩ : ∃ y : Int32, y = (x_7 + (1 : Int32)) := ⟨_, rfl⟩
      replace h := h x9 ex9
      refine zx_iinc (v := x9) (lv' := [(7, .int x9), (0, .ref (g 223)), (1, .int x_1), (2, .int x_2), (3, .int x_3), (5, .int x_5), (6, .int x_6)]) C dX10_keep_47 6 rfl (by rw [ex9]; rfl) (by decide) rfl ?_
      refine zx_goto C 19 dX10_keep_50 (by decide) ?_
      refine zx_lv (lv' := [(0, .ref (g 223)), (1, .int x_1), (2, .int x_2), (3, .int x_3), (5, .int x_5), (6, .int x_6), (7, .int x9)]) [1, 2, 3, 4, 5, 6, 0] rfl ?_
      exact ih x9 σ8 h
set_option maxRecDepth 100000 in
set_option maxHeartbeats 4000000 in
theorem c_X10_keep (l : Launch) (D : va_G) (cy : Nat → ClassId) (g : Nat → Nat) (a1 : Int32) (a2 : Int32) (a3 : Int32) (a4 : Int32) (a5 : Int32)  (σ : zSto) {P : zSto → Prop} (h : w_X10_keep a1 a2 a3 a4 a5 σ P) : zMv l yX10_keep cX10_keep 8 none (zrm 0 0) D cy g [.ref (g 223), .int a1, .int a2, .int a3, .int a4, .int a5] σ P := by
  unfold w_X10_keep at h
  refine zm_v RX10 rfl (by decide +kernel) (Nat.le_of_ble_eq_true rfl) ?_
  intro p e s m below meth c C hr
  refine zx_lv (lv' := [(0, .ref (g 223)), (1, .int a1), (2, .int a2), (3, .int a3), (4, .int a4), (5, .int a5)]) [0, 1, 2, 3, 4, 5] rfl ?_
  refine zx_aload_n C dX10_keep_0 0 rfl ?_
  refine zx_getR C zs_223 fg_X10_35 rfl 232 rfl dX10_keep_1 ?_
  refine zx_iload_n C dX10_keep_4 1 rfl ?_
  obtain ⟨bd1, h⟩ := h
  refine zx_iald C (a1).toNatClampNeg zs_232 bd1 rfl dX10_keep_5 ?_
  refine zx_topi (fun x2 ex2 => ?_)
  replace h := h x2 ex2
  refine zx_istore (lv' := [(6, .int x2), (0, .ref (g 223)), (1, .int a1), (2, .int a2), (3, .int a3), (4, .int a4), (5, .int a5)]) C dX10_keep_6 (by decide) rfl ?_
  refine zx_iload C dX10_keep_8 0 rfl ?_
  refine zx_iload C dX10_keep_10 5 rfl ?_
  refine zx_icmp_ne C 16 dX10_keep_12 (by decide) (fun q => ?_) (fun q => ?_)
  · replace h := h.1 q
    refine zx_iconst (v := (0 : Int32)) C dX10_keep_16 (by decide) ?_
    refine zx_istore (lv' := [(7, .int (0 : Int32)), (6, .int x2), (0, .ref (g 223)), (1, .int a1), (2, .int a2), (3, .int a3), (4, .int a4), (5, .int a5)]) C dX10_keep_17 (by decide) rfl ?_
    obtain ⟨n, h⟩ := h
    refine zx_lv (lv' := [(0, .ref (g 223)), (1, .int a1), (2, .int a2), (3, .int a3), (5, .int a5), (6, .int x2), (7, .int (0 : Int32))]) [2, 3, 4, 5, 7, 1, 0] rfl ?_
    exact k_X10_keep_19 C hr (a1) (a2) (a3) (a5) (x2)   n (0 : Int32) σ h
  · replace h := h.2 q
    exact zx_vret C hr dX10_keep_15 h
theorem lk_X10_164 : zLV RX10 164 RX10 yX10_takePost cX10_takePost 4 (some .boolean) 2 := zLV_of ml_X10_164 im_X10_takePost se_X10_takePost ini_X10 cd_X10_takePost (by decide +kernel)
theorem lk_X10_167 : zLV RX10 167 RX10 yX10_keep cX10_keep 8 none 5 := zLV_of ml_X10_167 im_X10_keep se_X10_keep ini_X10 cd_X10_keep (by decide +kernel)
def w_X10_riderLine  (σ : zSto) (P : Int32 → zSto → Prop) : Prop := (w_X10_takePost (0 : Int32) (0 : Int32) σ (fun (r2 : Int32) (σ1 : zSto) => (r2 = 0 ∨ r2 = 1) → ((r2 = 0 → P (0 : Int32) σ1) ∧ (¬ r2 = 0 → (w_X10_takePost (1 : Int32) ((σ1.1 233 0) + (1 : Int32)) σ1 (fun (r4 : Int32) (σ3 : zSto) => (r4 = 0 ∨ r4 = 1) → ((r4 = 0 → P (0 : Int32) σ3) ∧ (¬ r4 = 0 → (w_X10_take (2 : Int32) (1 : Int32) (60 : Int32) σ3 (fun (r6 : Int32) (σ5 : zSto) => (r6 = 0 ∨ r6 = 1) → ((r6 = 0 → P (0 : Int32) σ5) ∧ (¬ r6 = 0 → (w_X10_take (3 : Int32) (1 : Int32) (30 : Int32) σ5 (fun (r8 : Int32) (σ7 : zSto) => (r8 = 0 ∨ r8 = 1) → ((r8 = 0 → P (0 : Int32) σ7) ∧ (¬ r8 = 0 → (w_X10_take (4 : Int32) (0 : Int32) (200 : Int32) σ7 (fun (r10 : Int32) (σ9 : zSto) => (r10 = 0 ∨ r10 = 1) → ((r10 = 0 → P (0 : Int32) σ9) ∧ (¬ r10 = 0 → (w_X10_take (5 : Int32) (0 : Int32) (9 : Int32) σ9 (fun (r12 : Int32) (σ11 : zSto) => (r12 = 0 ∨ r12 = 1) → ((¬ r12 = 0 → (w_X10_keep (1 : Int32) (87 : Int32) (6 : Int32) (6 : Int32) (6 : Int32) σ11 (fun (σ13 : zSto) => P (1 : Int32) σ13))) ∧ (r12 = 0 → P (0 : Int32) σ11))))))))))))))))))))))))
set_option maxRecDepth 100000 in
set_option maxHeartbeats 4000000 in
theorem c_X10_riderLine (l : Launch) (D : va_G) (cy : Nat → ClassId) (g : Nat → Nat)   (σ : zSto) {P : Int32 → zSto → Prop} (h : w_X10_riderLine  σ P) : zMb l yX10_riderLine cX10_riderLine 1 (some .boolean) (zrm 4 90) D cy g [.ref (g 223)] σ P := by
  unfold w_X10_riderLine at h
  refine zm_b RX10 rfl (by decide +kernel) (Nat.le_of_ble_eq_true rfl) ?_
  intro p e s m below meth c C hr
  refine zx_lv (lv' := [(0, .ref (g 223))]) [0] rfl ?_
  refine zx_aload_n C dX10_riderLine_0 0 rfl ?_
  refine zx_iconst (v := (0 : Int32)) C dX10_riderLine_1 (by decide) ?_
  refine zx_iconst (v := (0 : Int32)) C dX10_riderLine_2 (by decide) ?_
  refine zx_cVb C [.int (0 : Int32), .int (0 : Int32)] lk_X10_164 (c_X10_takePost l D cy g (0 : Int32) (0 : Int32)  σ h) zs_223 rfl ⟨by decide, by decide⟩ ⟨rfl, rfl⟩ ⟨Nat.zero_le _, Nat.zero_le _⟩ rfl rfl (Nat.le_of_ble_eq_true rfl) dX10_riderLine_3 (fun r2 σ1 hb h => ?_)
  replace h := h hb
  refine zx_if_eq C 70 dX10_riderLine_6 (by decide) (fun q => ?_) (fun q => ?_)
  · replace h := h.1 q
    refine zx_iconst (v := (0 : Int32)) C dX10_riderLine_70 (by decide) ?_
    exact zx_zret C hr dX10_riderLine_71 (Or.inl rfl) h
  · replace h := h.2 q
    refine zx_aload_n C dX10_riderLine_9 0 rfl ?_
    refine zx_iconst (v := (1 : Int32)) C dX10_riderLine_10 (by decide) ?_
    refine zx_aload_n C dX10_riderLine_11 0 rfl ?_
    refine zx_getR C zs_223 fg_X10_38 rfl 233 rfl dX10_riderLine_12 ?_
    refine zx_iconst (v := (0 : Int32)) C dX10_riderLine_15 (by decide) ?_
    refine zx_iald C 0 zs_233 (by unfold vp_in; decide) (by decide) dX10_riderLine_16 ?_
    refine zx_iconst (v := (1 : Int32)) C dX10_riderLine_17 (by decide) ?_
    refine zx_iadd C dX10_riderLine_18 ?_
    refine zx_cVb C [.int (1 : Int32), .int ((σ1.1 233 0) + (1 : Int32))] lk_X10_164 (c_X10_takePost l D cy g (1 : Int32) ((σ1.1 233 0) + (1 : Int32))  σ1 h) zs_223 rfl ⟨by decide, by decide⟩ ⟨rfl, rfl⟩ ⟨Nat.zero_le _, Nat.zero_le _⟩ rfl rfl (Nat.le_of_ble_eq_true rfl) dX10_riderLine_19 (fun r4 σ3 hb h => ?_)
    replace h := h hb
    refine zx_if_eq C 70 dX10_riderLine_22 (by decide) (fun q => ?_) (fun q => ?_)
    · replace h := h.1 q
      refine zx_iconst (v := (0 : Int32)) C dX10_riderLine_70 (by decide) ?_
      exact zx_zret C hr dX10_riderLine_71 (Or.inl rfl) h
    · replace h := h.2 q
      refine zx_aload_n C dX10_riderLine_25 0 rfl ?_
      refine zx_iconst (v := (2 : Int32)) C dX10_riderLine_26 (by decide) ?_
      refine zx_iconst (v := (1 : Int32)) C dX10_riderLine_27 (by decide) ?_
      refine zx_bipush (v := (60 : Int32)) C dX10_riderLine_28 (by decide) ?_
      refine zx_cVb C [.int (2 : Int32), .int (1 : Int32), .int (60 : Int32)] lk_X10_154 (c_X10_take l D cy g (2 : Int32) (1 : Int32) (60 : Int32)  σ3 h) zs_223 rfl ⟨by decide, by decide⟩ ⟨rfl, rfl⟩ ⟨Nat.zero_le _, Nat.zero_le _⟩ rfl rfl (Nat.le_of_ble_eq_true rfl) dX10_riderLine_30 (fun r6 σ5 hb h => ?_)
      replace h := h hb
      refine zx_if_eq C 70 dX10_riderLine_33 (by decide) (fun q => ?_) (fun q => ?_)
      · replace h := h.1 q
        refine zx_iconst (v := (0 : Int32)) C dX10_riderLine_70 (by decide) ?_
        exact zx_zret C hr dX10_riderLine_71 (Or.inl rfl) h
      · replace h := h.2 q
        refine zx_aload_n C dX10_riderLine_36 0 rfl ?_
        refine zx_iconst (v := (3 : Int32)) C dX10_riderLine_37 (by decide) ?_
        refine zx_iconst (v := (1 : Int32)) C dX10_riderLine_38 (by decide) ?_
        refine zx_bipush (v := (30 : Int32)) C dX10_riderLine_39 (by decide) ?_
        refine zx_cVb C [.int (3 : Int32), .int (1 : Int32), .int (30 : Int32)] lk_X10_154 (c_X10_take l D cy g (3 : Int32) (1 : Int32) (30 : Int32)  σ5 h) zs_223 rfl ⟨by decide, by decide⟩ ⟨rfl, rfl⟩ ⟨Nat.zero_le _, Nat.zero_le _⟩ rfl rfl (Nat.le_of_ble_eq_true rfl) dX10_riderLine_41 (fun r8 σ7 hb h => ?_)
        replace h := h hb
        refine zx_if_eq C 70 dX10_riderLine_44 (by decide) (fun q => ?_) (fun q => ?_)
        · replace h := h.1 q
          refine zx_iconst (v := (0 : Int32)) C dX10_riderLine_70 (by decide) ?_
          exact zx_zret C hr dX10_riderLine_71 (Or.inl rfl) h
        · replace h := h.2 q
          refine zx_aload_n C dX10_riderLine_47 0 rfl ?_
          refine zx_iconst (v := (4 : Int32)) C dX10_riderLine_48 (by decide) ?_
          refine zx_iconst (v := (0 : Int32)) C dX10_riderLine_49 (by decide) ?_
          refine zx_sipush (v := (200 : Int32)) C dX10_riderLine_50 (by decide) ?_
          refine zx_cVb C [.int (4 : Int32), .int (0 : Int32), .int (200 : Int32)] lk_X10_154 (c_X10_take l D cy g (4 : Int32) (0 : Int32) (200 : Int32)  σ7 h) zs_223 rfl ⟨by decide, by decide⟩ ⟨rfl, rfl⟩ ⟨Nat.zero_le _, Nat.zero_le _⟩ rfl rfl (Nat.le_of_ble_eq_true rfl) dX10_riderLine_53 (fun r10 σ9 hb h => ?_)
          replace h := h hb
          refine zx_if_eq C 70 dX10_riderLine_56 (by decide) (fun q => ?_) (fun q => ?_)
          · replace h := h.1 q
            refine zx_iconst (v := (0 : Int32)) C dX10_riderLine_70 (by decide) ?_
            exact zx_zret C hr dX10_riderLine_71 (Or.inl rfl) h
          · replace h := h.2 q
            refine zx_aload_n C dX10_riderLine_59 0 rfl ?_
            refine zx_iconst (v := (5 : Int32)) C dX10_riderLine_60 (by decide) ?_
            refine zx_iconst (v := (0 : Int32)) C dX10_riderLine_61 (by decide) ?_
            refine zx_bipush (v := (9 : Int32)) C dX10_riderLine_62 (by decide) ?_
            refine zx_cVb C [.int (5 : Int32), .int (0 : Int32), .int (9 : Int32)] lk_X10_154 (c_X10_take l D cy g (5 : Int32) (0 : Int32) (9 : Int32)  σ9 h) zs_223 rfl ⟨by decide, by decide⟩ ⟨rfl, rfl⟩ ⟨Nat.zero_le _, Nat.zero_le _⟩ rfl rfl (Nat.le_of_ble_eq_true rfl) dX10_riderLine_64 (fun r12 σ11 hb h => ?_)
            replace h := h hb
            refine zx_if_ne C 72 dX10_riderLine_67 (by decide) (fun q => ?_) (fun q => ?_)
            · replace h := h.1 q
              refine zx_aload_n C dX10_riderLine_72 0 rfl ?_
              refine zx_iconst (v := (1 : Int32)) C dX10_riderLine_73 (by decide) ?_
              refine zx_bipush (v := (87 : Int32)) C dX10_riderLine_74 (by decide) ?_
              refine zx_bipush (v := (6 : Int32)) C dX10_riderLine_76 (by decide) ?_
              refine zx_bipush (v := (6 : Int32)) C dX10_riderLine_78 (by decide) ?_
              refine zx_bipush (v := (6 : Int32)) C dX10_riderLine_80 (by decide) ?_
              refine zx_cVv C [.int (1 : Int32), .int (87 : Int32), .int (6 : Int32), .int (6 : Int32), .int (6 : Int32)] lk_X10_167 (c_X10_keep l D cy g (1 : Int32) (87 : Int32) (6 : Int32) (6 : Int32) (6 : Int32)  σ11 h) zs_223 rfl ⟨by decide, by decide⟩ ⟨rfl, rfl⟩ ⟨Nat.zero_le _, Nat.zero_le _⟩ rfl rfl (Nat.le_of_ble_eq_true rfl) dX10_riderLine_82 (fun σ13 h => ?_)
              refine zx_iconst (v := (1 : Int32)) C dX10_riderLine_85 (by decide) ?_
              exact zx_zret C hr dX10_riderLine_86 (Or.inr rfl) h
            · replace h := h.2 q
              refine zx_iconst (v := (0 : Int32)) C dX10_riderLine_70 (by decide) ?_
              exact zx_zret C hr dX10_riderLine_71 (Or.inl rfl) h
def w_X10_postLine  (σ : zSto) (P : Int32 → zSto → Prop) : Prop := (w_X10_take (0 : Int32) (1 : Int32) (30 : Int32) σ (fun (r2 : Int32) (σ1 : zSto) => (r2 = 0 ∨ r2 = 1) → ((r2 = 0 → P (0 : Int32) σ1) ∧ (¬ r2 = 0 → (w_X10_take (1 : Int32) (0 : Int32) (3 : Int32) σ1 (fun (r4 : Int32) (σ3 : zSto) => (r4 = 0 ∨ r4 = 1) → ((r4 = 0 → P (0 : Int32) σ3) ∧ (¬ r4 = 0 → (w_X10_take (2 : Int32) (0 : Int32) (30 : Int32) σ3 (fun (r6 : Int32) (σ5 : zSto) => (r6 = 0 ∨ r6 = 1) → ((¬ r6 = 0 → (w_X10_keep (0 : Int32) (7 : Int32) (5 : Int32) (16 : Int32) (3 : Int32) σ5 (fun (σ7 : zSto) => P (1 : Int32) σ7))) ∧ (r6 = 0 → P (0 : Int32) σ5))))))))))))
set_option maxRecDepth 100000 in
set_option maxHeartbeats 4000000 in
theorem c_X10_postLine (l : Launch) (D : va_G) (cy : Nat → ClassId) (g : Nat → Nat)   (σ : zSto) {P : Int32 → zSto → Prop} (h : w_X10_postLine  σ P) : zMb l yX10_postLine cX10_postLine 1 (some .boolean) (zrm 3 67) D cy g [.ref (g 223)] σ P := by
  unfold w_X10_postLine at h
  refine zm_b RX10 rfl (by decide +kernel) (Nat.le_of_ble_eq_true rfl) ?_
  intro p e s m below meth c C hr
  refine zx_lv (lv' := [(0, .ref (g 223))]) [0] rfl ?_
  refine zx_aload_n C dX10_postLine_0 0 rfl ?_
  refine zx_iconst (v := (0 : Int32)) C dX10_postLine_1 (by decide) ?_
  refine zx_iconst (v := (1 : Int32)) C dX10_postLine_2 (by decide) ?_
  refine zx_bipush (v := (30 : Int32)) C dX10_postLine_3 (by decide) ?_
  refine zx_cVb C [.int (0 : Int32), .int (1 : Int32), .int (30 : Int32)] lk_X10_154 (c_X10_take l D cy g (0 : Int32) (1 : Int32) (30 : Int32)  σ h) zs_223 rfl ⟨by decide, by decide⟩ ⟨rfl, rfl⟩ ⟨Nat.zero_le _, Nat.zero_le _⟩ rfl rfl (Nat.le_of_ble_eq_true rfl) dX10_postLine_5 (fun r2 σ1 hb h => ?_)
  replace h := h hb
  refine zx_if_eq C 32 dX10_postLine_8 (by decide) (fun q => ?_) (fun q => ?_)
  · replace h := h.1 q
    refine zx_iconst (v := (0 : Int32)) C dX10_postLine_32 (by decide) ?_
    exact zx_zret C hr dX10_postLine_33 (Or.inl rfl) h
  · replace h := h.2 q
    refine zx_aload_n C dX10_postLine_11 0 rfl ?_
    refine zx_iconst (v := (1 : Int32)) C dX10_postLine_12 (by decide) ?_
    refine zx_iconst (v := (0 : Int32)) C dX10_postLine_13 (by decide) ?_
    refine zx_iconst (v := (3 : Int32)) C dX10_postLine_14 (by decide) ?_
    refine zx_cVb C [.int (1 : Int32), .int (0 : Int32), .int (3 : Int32)] lk_X10_154 (c_X10_take l D cy g (1 : Int32) (0 : Int32) (3 : Int32)  σ1 h) zs_223 rfl ⟨by decide, by decide⟩ ⟨rfl, rfl⟩ ⟨Nat.zero_le _, Nat.zero_le _⟩ rfl rfl (Nat.le_of_ble_eq_true rfl) dX10_postLine_15 (fun r4 σ3 hb h => ?_)
    replace h := h hb
    refine zx_if_eq C 32 dX10_postLine_18 (by decide) (fun q => ?_) (fun q => ?_)
    · replace h := h.1 q
      refine zx_iconst (v := (0 : Int32)) C dX10_postLine_32 (by decide) ?_
      exact zx_zret C hr dX10_postLine_33 (Or.inl rfl) h
    · replace h := h.2 q
      refine zx_aload_n C dX10_postLine_21 0 rfl ?_
      refine zx_iconst (v := (2 : Int32)) C dX10_postLine_22 (by decide) ?_
      refine zx_iconst (v := (0 : Int32)) C dX10_postLine_23 (by decide) ?_
      refine zx_bipush (v := (30 : Int32)) C dX10_postLine_24 (by decide) ?_
      refine zx_cVb C [.int (2 : Int32), .int (0 : Int32), .int (30 : Int32)] lk_X10_154 (c_X10_take l D cy g (2 : Int32) (0 : Int32) (30 : Int32)  σ3 h) zs_223 rfl ⟨by decide, by decide⟩ ⟨rfl, rfl⟩ ⟨Nat.zero_le _, Nat.zero_le _⟩ rfl rfl (Nat.le_of_ble_eq_true rfl) dX10_postLine_26 (fun r6 σ5 hb h => ?_)
      replace h := h hb
      refine zx_if_ne C 34 dX10_postLine_29 (by decide) (fun q => ?_) (fun q => ?_)
      · replace h := h.1 q
        refine zx_aload_n C dX10_postLine_34 0 rfl ?_
        refine zx_iconst (v := (0 : Int32)) C dX10_postLine_35 (by decide) ?_
        refine zx_bipush (v := (7 : Int32)) C dX10_postLine_36 (by decide) ?_
        refine zx_iconst (v := (5 : Int32)) C dX10_postLine_38 (by decide) ?_
        refine zx_bipush (v := (16 : Int32)) C dX10_postLine_39 (by decide) ?_
        refine zx_iconst (v := (3 : Int32)) C dX10_postLine_41 (by decide) ?_
        refine zx_cVv C [.int (0 : Int32), .int (7 : Int32), .int (5 : Int32), .int (16 : Int32), .int (3 : Int32)] lk_X10_167 (c_X10_keep l D cy g (0 : Int32) (7 : Int32) (5 : Int32) (16 : Int32) (3 : Int32)  σ5 h) zs_223 rfl ⟨by decide, by decide⟩ ⟨rfl, rfl⟩ ⟨Nat.zero_le _, Nat.zero_le _⟩ rfl rfl (Nat.le_of_ble_eq_true rfl) dX10_postLine_42 (fun σ7 h => ?_)
        refine zx_iconst (v := (1 : Int32)) C dX10_postLine_45 (by decide) ?_
        exact zx_zret C hr dX10_postLine_46 (Or.inr rfl) h
      · replace h := h.2 q
        refine zx_iconst (v := (0 : Int32)) C dX10_postLine_32 (by decide) ?_
        exact zx_zret C hr dX10_postLine_33 (Or.inl rfl) h
theorem fg_X10_44 : zFG RX10 44 10 21 := ⟨RX10, TX10, 50, rfl, lay_X10, by decide, fl_X10_44⟩
theorem fg_X10_41 : zFG RX10 41 10 20 := ⟨RX10, TX10, 50, rfl, lay_X10, by decide, fl_X10_41⟩
def w_X10_ofPost (a1 : Int32) (σ : zSto) (P : Int32 → zSto → Prop) : Prop := (w_X10_takePost (0 : Int32) (0 : Int32) σ (fun (r2 : Int32) (σ1 : zSto) => (r2 = 0 ∨ r2 = 1) → ((r2 = 0 → P (0 : Int32) σ1) ∧ (¬ r2 = 0 → ((a1 = 0 → (w_X10_take (1 : Int32) (0 : Int32) (999 : Int32) σ1 (fun (r4 : Int32) (σ3 : zSto) => (r4 = 0 ∨ r4 = 1) → ((¬ r4 = 0 → (((16 : Int32) ≤ (σ3.1 233 0) → P (1 : Int32) σ3) ∧ (¬ (16 : Int32) ≤ (σ3.1 233 0) → ((a1 = 0 → (vp_in (σ3.1 233 0) 16 ∧ (∀ σ6 : zSto, σ6 = zI σ3 235 ((σ3.1 233 0)).toNatClampNeg (σ3.1 233 1) → P (1 : Int32) σ6))) ∧ (¬ a1 = 0 → (vp_in (σ3.1 233 0) 16 ∧ (∀ σ8 : zSto, σ8 = zI σ3 234 ((σ3.1 233 0)).toNatClampNeg (σ3.1 233 1) → P (1 : Int32) σ8))))))) ∧ (r4 = 0 → P (0 : Int32) σ3))))) ∧ (¬ a1 = 0 → (w_X10_take (1 : Int32) (0 : Int32) (10 : Int32) σ1 (fun (r10 : Int32) (σ9 : zSto) => (r10 = 0 ∨ r10 = 1) → ((¬ r10 = 0 → (((16 : Int32) ≤ (σ9.1 233 0) → P (1 : Int32) σ9) ∧ (¬ (16 : Int32) ≤ (σ9.1 233 0) → ((a1 = 0 → (vp_in (σ9.1 233 0) 16 ∧ (∀ σ12 : zSto, σ12 = zI σ9 235 ((σ9.1 233 0)).toNatClampNeg (σ9.1 233 1) → P (1 : Int32) σ12))) ∧ (¬ a1 = 0 → (vp_in (σ9.1 233 0) 16 ∧ (∀ σ14 : zSto, σ14 = zI σ9 234 ((σ9.1 233 0)).toNatClampNeg (σ9.1 233 1) → P (1 : Int32) σ14))))))) ∧ (r10 = 0 → P (0 : Int32) σ9))))))))))
set_option maxRecDepth 100000 in
set_option maxHeartbeats 4000000 in
theorem c_X10_ofPost (l : Launch) (D : va_G) (cy : Nat → ClassId) (g : Nat → Nat) (a1 : Int32)  (σ : zSto) {P : Int32 → zSto → Prop} (h : w_X10_ofPost a1 σ P) : zMb l yX10_ofPost cX10_ofPost 2 (some .boolean) (zrm 4 90) D cy g [.ref (g 223), .int a1] σ P := by
  unfold w_X10_ofPost at h
  refine zm_b RX10 rfl (by decide +kernel) (Nat.le_of_ble_eq_true rfl) ?_
  intro p e s m below meth c C hr
  refine zx_lv (lv' := [(0, .ref (g 223)), (1, .int a1)]) [0, 1] rfl ?_
  refine zx_aload_n C dX10_ofPost_0 0 rfl ?_
  refine zx_iconst (v := (0 : Int32)) C dX10_ofPost_1 (by decide) ?_
  refine zx_iconst (v := (0 : Int32)) C dX10_ofPost_2 (by decide) ?_
  refine zx_cVb C [.int (0 : Int32), .int (0 : Int32)] lk_X10_164 (c_X10_takePost l D cy g (0 : Int32) (0 : Int32)  σ h) zs_223 rfl ⟨by decide, by decide⟩ ⟨rfl, rfl⟩ ⟨Nat.zero_le _, Nat.zero_le _⟩ rfl rfl (Nat.le_of_ble_eq_true rfl) dX10_ofPost_3 (fun r2 σ1 hb h => ?_)
  replace h := h hb
  refine zx_if_eq C 30 dX10_ofPost_6 (by decide) (fun q => ?_) (fun q => ?_)
  · replace h := h.1 q
    refine zx_iconst (v := (0 : Int32)) C dX10_ofPost_30 (by decide) ?_
    exact zx_zret C hr dX10_ofPost_31 (Or.inl rfl) h
  · replace h := h.2 q
    refine zx_aload_n C dX10_ofPost_9 0 rfl ?_
    refine zx_iconst (v := (1 : Int32)) C dX10_ofPost_10 (by decide) ?_
    refine zx_iconst (v := (0 : Int32)) C dX10_ofPost_11 (by decide) ?_
    refine zx_iload_n C dX10_ofPost_12 1 rfl ?_
    refine zx_if_eq C 21 dX10_ofPost_13 (by decide) (fun q => ?_) (fun q => ?_)
    · replace h := h.1 q
      refine zx_sipush (v := (999 : Int32)) C dX10_ofPost_21 (by decide) ?_
      refine zx_cVb C [.int (1 : Int32), .int (0 : Int32), .int (999 : Int32)] lk_X10_154 (c_X10_take l D cy g (1 : Int32) (0 : Int32) (999 : Int32)  σ1 h) zs_223 rfl ⟨by decide, by decide⟩ ⟨rfl, rfl⟩ ⟨Nat.zero_le _, Nat.zero_le _⟩ rfl rfl (Nat.le_of_ble_eq_true rfl) dX10_ofPost_24 (fun r4 σ3 hb h => ?_)
      replace h := h hb
      refine zx_if_ne C 32 dX10_ofPost_27 (by decide) (fun q => ?_) (fun q => ?_)
      · replace h := h.1 q
        refine zx_aload_n C dX10_ofPost_32 0 rfl ?_
        refine zx_getR C zs_223 fg_X10_38 rfl 233 rfl dX10_ofPost_33 ?_
        refine zx_iconst (v := (0 : Int32)) C dX10_ofPost_36 (by decide) ?_
        refine zx_iald C 0 zs_233 (by unfold vp_in; decide) (by decide) dX10_ofPost_37 ?_
        refine zx_bipush (v := (16 : Int32)) C dX10_ofPost_38 (by decide) ?_
        refine zx_icmp_ge C 84 dX10_ofPost_40 (by decide) (fun q => ?_) (fun q => ?_)
        · replace h := h.1 q
          refine zx_iconst (v := (1 : Int32)) C dX10_ofPost_84 (by decide) ?_
          exact zx_zret C hr dX10_ofPost_85 (Or.inr rfl) h
        · replace h := h.2 q
          refine zx_iload_n C dX10_ofPost_43 1 rfl ?_
          refine zx_if_eq C 67 dX10_ofPost_44 (by decide) (fun q => ?_) (fun q => ?_)
          · replace h := h.1 q
            refine zx_aload_n C dX10_ofPost_67 0 rfl ?_
            refine zx_getR C zs_223 fg_X10_44 rfl 235 rfl dX10_ofPost_68 ?_
            refine zx_aload_n C dX10_ofPost_71 0 rfl ?_
            refine zx_getR C zs_223 fg_X10_38 rfl 233 rfl dX10_ofPost_72 ?_
            refine zx_iconst (v := (0 : Int32)) C dX10_ofPost_75 (by decide) ?_
            refine zx_iald C 0 zs_233 (by unfold vp_in; decide) (by decide) dX10_ofPost_76 ?_
            refine zx_aload_n C dX10_ofPost_77 0 rfl ?_
            refine zx_getR C zs_223 fg_X10_38 rfl 233 rfl dX10_ofPost_78 ?_
            refine zx_iconst (v := (1 : Int32)) C dX10_ofPost_81 (by decide) ?_
            refine zx_iald C 1 zs_233 (by unfold vp_in; decide) (by decide) dX10_ofPost_82 ?_
            obtain ⟨bd5, h⟩ := h
            refine zx_iast C ((σ3.1 233 0)).toNatClampNeg zs_235 bd5 rfl dX10_ofPost_83 ?_
            refine zx_sig (fun σ6 eσ6 => ?_)
            replace h := h σ6 eσ6
            refine zx_iconst (v := (1 : Int32)) C dX10_ofPost_84 (by decide) ?_
            exact zx_zret C hr dX10_ofPost_85 (Or.inr rfl) h
          · replace h := h.2 q
            refine zx_aload_n C dX10_ofPost_47 0 rfl ?_
            refine zx_getR C zs_223 fg_X10_41 rfl 234 rfl dX10_ofPost_48 ?_
            refine zx_aload_n C dX10_ofPost_51 0 rfl ?_
            refine zx_getR C zs_223 fg_X10_38 rfl 233 rfl dX10_ofPost_52 ?_
            refine zx_iconst (v := (0 : Int32)) C dX10_ofPost_55 (by decide) ?_
            refine zx_iald C 0 zs_233 (by unfold vp_in; decide) (by decide) dX10_ofPost_56 ?_
            refine zx_aload_n C dX10_ofPost_57 0 rfl ?_
            refine zx_getR C zs_223 fg_X10_38 rfl 233 rfl dX10_ofPost_58 ?_
            refine zx_iconst (v := (1 : Int32)) C dX10_ofPost_61 (by decide) ?_
            refine zx_iald C 1 zs_233 (by unfold vp_in; decide) (by decide) dX10_ofPost_62 ?_
            obtain ⟨bd7, h⟩ := h
            refine zx_iast C ((σ3.1 233 0)).toNatClampNeg zs_234 bd7 rfl dX10_ofPost_63 ?_
            refine zx_sig (fun σ8 eσ8 => ?_)
            replace h := h σ8 eσ8
            refine zx_goto C 84 dX10_ofPost_64 (by decide) ?_
            refine zx_iconst (v := (1 : Int32)) C dX10_ofPost_84 (by decide) ?_
            exact zx_zret C hr dX10_ofPost_85 (Or.inr rfl) h
      · replace h := h.2 q
        refine zx_iconst (v := (0 : Int32)) C dX10_ofPost_30 (by decide) ?_
        exact zx_zret C hr dX10_ofPost_31 (Or.inl rfl) h
    · replace h := h.2 q
      refine zx_bipush (v := (10 : Int32)) C dX10_ofPost_16 (by decide) ?_
      refine zx_goto C 24 dX10_ofPost_18 (by decide) ?_
      refine zx_cVb C [.int (1 : Int32), .int (0 : Int32), .int (10 : Int32)] lk_X10_154 (c_X10_take l D cy g (1 : Int32) (0 : Int32) (10 : Int32)  σ1 h) zs_223 rfl ⟨by decide, by decide⟩ ⟨rfl, rfl⟩ ⟨Nat.zero_le _, Nat.zero_le _⟩ rfl rfl (Nat.le_of_ble_eq_true rfl) dX10_ofPost_24 (fun r10 σ9 hb h => ?_)
      replace h := h hb
      refine zx_if_ne C 32 dX10_ofPost_27 (by decide) (fun q => ?_) (fun q => ?_)
      · replace h := h.1 q
        refine zx_aload_n C dX10_ofPost_32 0 rfl ?_
        refine zx_getR C zs_223 fg_X10_38 rfl 233 rfl dX10_ofPost_33 ?_
        refine zx_iconst (v := (0 : Int32)) C dX10_ofPost_36 (by decide) ?_
        refine zx_iald C 0 zs_233 (by unfold vp_in; decide) (by decide) dX10_ofPost_37 ?_
        refine zx_bipush (v := (16 : Int32)) C dX10_ofPost_38 (by decide) ?_
        refine zx_icmp_ge C 84 dX10_ofPost_40 (by decide) (fun q => ?_) (fun q => ?_)
        · replace h := h.1 q
          refine zx_iconst (v := (1 : Int32)) C dX10_ofPost_84 (by decide) ?_
          exact zx_zret C hr dX10_ofPost_85 (Or.inr rfl) h
        · replace h := h.2 q
          refine zx_iload_n C dX10_ofPost_43 1 rfl ?_
          refine zx_if_eq C 67 dX10_ofPost_44 (by decide) (fun q => ?_) (fun q => ?_)
          · replace h := h.1 q
            refine zx_aload_n C dX10_ofPost_67 0 rfl ?_
            refine zx_getR C zs_223 fg_X10_44 rfl 235 rfl dX10_ofPost_68 ?_
            refine zx_aload_n C dX10_ofPost_71 0 rfl ?_
            refine zx_getR C zs_223 fg_X10_38 rfl 233 rfl dX10_ofPost_72 ?_
            refine zx_iconst (v := (0 : Int32)) C dX10_ofPost_75 (by decide) ?_
            refine zx_iald C 0 zs_233 (by unfold vp_in; decide) (by decide) dX10_ofPost_76 ?_
            refine zx_aload_n C dX10_ofPost_77 0 rfl ?_
            refine zx_getR C zs_223 fg_X10_38 rfl 233 rfl dX10_ofPost_78 ?_
            refine zx_iconst (v := (1 : Int32)) C dX10_ofPost_81 (by decide) ?_
            refine zx_iald C 1 zs_233 (by unfold vp_in; decide) (by decide) dX10_ofPost_82 ?_
            obtain ⟨bd11, h⟩ := h
            refine zx_iast C ((σ9.1 233 0)).toNatClampNeg zs_235 bd11 rfl dX10_ofPost_83 ?_
            refine zx_sig (fun σ12 eσ12 => ?_)
            replace h := h σ12 eσ12
            refine zx_iconst (v := (1 : Int32)) C dX10_ofPost_84 (by decide) ?_
            exact zx_zret C hr dX10_ofPost_85 (Or.inr rfl) h
          · replace h := h.2 q
            refine zx_aload_n C dX10_ofPost_47 0 rfl ?_
            refine zx_getR C zs_223 fg_X10_41 rfl 234 rfl dX10_ofPost_48 ?_
            refine zx_aload_n C dX10_ofPost_51 0 rfl ?_
            refine zx_getR C zs_223 fg_X10_38 rfl 233 rfl dX10_ofPost_52 ?_
            refine zx_iconst (v := (0 : Int32)) C dX10_ofPost_55 (by decide) ?_
            refine zx_iald C 0 zs_233 (by unfold vp_in; decide) (by decide) dX10_ofPost_56 ?_
            refine zx_aload_n C dX10_ofPost_57 0 rfl ?_
            refine zx_getR C zs_223 fg_X10_38 rfl 233 rfl dX10_ofPost_58 ?_
            refine zx_iconst (v := (1 : Int32)) C dX10_ofPost_61 (by decide) ?_
            refine zx_iald C 1 zs_233 (by unfold vp_in; decide) (by decide) dX10_ofPost_62 ?_
            obtain ⟨bd13, h⟩ := h
            refine zx_iast C ((σ9.1 233 0)).toNatClampNeg zs_234 bd13 rfl dX10_ofPost_63 ?_
            refine zx_sig (fun σ14 eσ14 => ?_)
            replace h := h σ14 eσ14
            refine zx_goto C 84 dX10_ofPost_64 (by decide) ?_
            refine zx_iconst (v := (1 : Int32)) C dX10_ofPost_84 (by decide) ?_
            exact zx_zret C hr dX10_ofPost_85 (Or.inr rfl) h
      · replace h := h.2 q
        refine zx_iconst (v := (0 : Int32)) C dX10_ofPost_30 (by decide) ?_
        exact zx_zret C hr dX10_ofPost_31 (Or.inl rfl) h
def w_X10_plainOf (a1 : Int64) (σ : zSto) (P : Int32 → zSto → Prop) : Prop := False
set_option maxRecDepth 100000 in
set_option maxHeartbeats 4000000 in
theorem c_X10_plainOf (l : Launch) (D : va_G) (cy : Nat → ClassId) (g : Nat → Nat) (a1 : Int64)  (σ : zSto) {P : Int32 → zSto → Prop} (h : w_X10_plainOf a1 σ P) : zMi l yX10_plainOf cX10_plainOf 2 (some .int) (zrm 0 0) D cy g [.long a1] σ P := by
  unfold w_X10_plainOf at h
  refine zm_i RX10 rfl (by decide +kernel) (Nat.le_of_ble_eq_true rfl) ?_
  intro p e s m below meth c C hr
  refine zx_lv (lv' := [(0, .long a1)]) [0] rfl ?_
  refine zx_lload_n C dX10_plainOf_0 0 rfl ?_
  exact h.elim
theorem lk_X10_181 : zLS RX10 181 yX10_plainOf cX10_plainOf 2 (some .int) 1 := zLS_of ml_X10_181 st_X10_plainOf ini_X10 cd_X10_plainOf (by decide +kernel)
def w_X10_lineLine (a1 : Int64) (a2 : Int32) (σ : zSto) (P : Int32 → zSto → Prop) : Prop := (w_X10_plainOf a1 σ (fun (r2 : Int32) (σ1 : zSto) => ((¬ r2 = (-1 : Int32) → False) ∧ (r2 = (-1 : Int32) → False))))
set_option maxRecDepth 100000 in
set_option maxHeartbeats 4000000 in
theorem c_X10_lineLine (l : Launch) (D : va_G) (cy : Nat → ClassId) (g : Nat → Nat) (a1 : Int64) (a2 : Int32)  (σ : zSto) {P : Int32 → zSto → Prop} (h : w_X10_lineLine a1 a2 σ P) : zMb l yX10_lineLine cX10_lineLine 5 (some .boolean) (zrm 1 21) D cy g [.ref (g 223), .long a1, .int a2] σ P := by
  unfold w_X10_lineLine at h
  refine zm_b RX10 rfl (by decide +kernel) (Nat.le_of_ble_eq_true rfl) ?_
  intro p e s m below meth c C hr
  refine zx_lv (lv' := [(0, .ref (g 223)), (1, .long a1), (3, .int a2)]) [0, 1, 2] rfl ?_
  refine zx_lload_n C dX10_lineLine_0 1 rfl ?_
  refine zx_cSi C [.long a1] lk_X10_181 (c_X10_plainOf l D cy g a1  σ h) ⟨by decide, by decide⟩ ⟨rfl, rfl⟩ ⟨Nat.zero_le _, Nat.zero_le _⟩ rfl rfl (Nat.le_of_ble_eq_true rfl) dX10_lineLine_1 (fun r2 σ1 h => ?_)
  refine zx_istore (lv' := [(4, .int r2), (0, .ref (g 223)), (1, .long a1), (3, .int a2)]) C dX10_lineLine_4 (by decide) rfl ?_
  refine zx_iload C dX10_lineLine_6 0 rfl ?_
  refine zx_iconst (v := (-1 : Int32)) C dX10_lineLine_8 (by decide) ?_
  refine zx_icmp_ne C 49 dX10_lineLine_9 (by decide) (fun q => ?_) (fun q => ?_)
  · replace h := h.1 q
    refine zx_lload_n C dX10_lineLine_49 2 rfl ?_
    exact h.elim
  · replace h := h.2 q
    refine zx_lload_n C dX10_lineLine_12 2 rfl ?_
    exact h.elim
def w_X10_planLine (a1 : Int64) (a2 : Int32) (σ : zSto) (P : Int32 → zSto → Prop) : Prop := False
set_option maxRecDepth 100000 in
set_option maxHeartbeats 4000000 in
theorem c_X10_planLine (l : Launch) (D : va_G) (cy : Nat → ClassId) (g : Nat → Nat) (a1 : Int64) (a2 : Int32)  (σ : zSto) {P : Int32 → zSto → Prop} (h : w_X10_planLine a1 a2 σ P) : zMb l yX10_planLine cX10_planLine 4 (some .boolean) (zrm 0 0) D cy g [.ref (g 223), .long a1, .int a2] σ P := by
  unfold w_X10_planLine at h
  refine zm_b RX10 rfl (by decide +kernel) (Nat.le_of_ble_eq_true rfl) ?_
  intro p e s m below meth c C hr
  refine zx_lv (lv' := [(0, .ref (g 223)), (1, .long a1), (3, .int a2)]) [0, 1, 2] rfl ?_
  refine zx_lload_n C dX10_planLine_0 1 rfl ?_
  exact h.elim
def w_X10_logLine (a1 : Int64) (a2 : Int32) (σ : zSto) (P : Int32 → zSto → Prop) : Prop := False
set_option maxRecDepth 100000 in
set_option maxHeartbeats 4000000 in
theorem c_X10_logLine (l : Launch) (D : va_G) (cy : Nat → ClassId) (g : Nat → Nat) (a1 : Int64) (a2 : Int32)  (σ : zSto) {P : Int32 → zSto → Prop} (h : w_X10_logLine a1 a2 σ P) : zMb l yX10_logLine cX10_logLine 4 (some .boolean) (zrm 0 0) D cy g [.ref (g 223), .long a1, .int a2] σ P := by
  unfold w_X10_logLine at h
  refine zm_b RX10 rfl (by decide +kernel) (Nat.le_of_ble_eq_true rfl) ?_
  intro p e s m below meth c C hr
  refine zx_lv (lv' := [(0, .ref (g 223)), (1, .long a1), (3, .int a2)]) [0, 1, 2] rfl ?_
  refine zx_lload_n C dX10_logLine_0 1 rfl ?_
  exact h.elim
theorem lk_X10_218 : zLV RX10 218 RX10 yX10_logLine cX10_logLine 4 (some .boolean) 2 := zLV_of ml_X10_218 im_X10_logLine se_X10_logLine ini_X10 cd_X10_logLine (by decide +kernel)
theorem lk_X10_215 : zLV RX10 215 RX10 yX10_planLine cX10_planLine 4 (some .boolean) 2 := zLV_of ml_X10_215 im_X10_planLine se_X10_planLine ini_X10 cd_X10_planLine (by decide +kernel)
theorem lk_X10_211 : zLV RX10 211 RX10 yX10_lineLine cX10_lineLine 5 (some .boolean) 2 := zLV_of ml_X10_211 im_X10_lineLine se_X10_lineLine ini_X10 cd_X10_lineLine (by decide +kernel)
def w_X10_textLines_2 (x_1 : Int32) (P : Int32 → zSto → Prop)  : Nat → Int32 → zSto → Prop
  | 0, _, _ => False
  | n + 1, x_2, σ => ((x_2 = 0 → ((x_2 = 0 ∨ x_2 = 1) ∧ P x_2 σ)) ∧ (¬ x_2 = 0 → (((σ.1 223 12) = 0 → ((x_2 = 0 ∨ x_2 = 1) ∧ P x_2 σ)) ∧ (¬ (σ.1 223 12) = 0 → (∀ x1 : Int32, x1 = (σ.1 223 11) → ((¬ (σ.1 223 12) = (2 : Int32) → ((¬ x_1 = 0 → ((¬ x_1 = (1 : Int32) → (w_X10_logLine (0 : Int64) x1 σ (fun (r3 : Int32) (σ2 : zSto) => (r3 = 0 ∨ r3 = 1) → ((r3 = 0 → ((r3 = 0 → w_X10_textLines_2 x_1 P n r3 σ2) ∧ (¬ r3 = 0 → (w_X10_token  σ2 (fun (σ4 : zSto) => w_X10_textLines_2 x_1 P n r3 σ4))))) ∧ (¬ r3 = 0 → (((σ2.1 223 12) = (4 : Int32) → ((r3 = 0 → w_X10_textLines_2 x_1 P n r3 σ2) ∧ (¬ r3 = 0 → (w_X10_token  σ2 (fun (σ5 : zSto) => w_X10_textLines_2 x_1 P n r3 σ5))))) ∧ (¬ (σ2.1 223 12) = (4 : Int32) → (w_X10_fails  σ2 (fun (r7 : Int32) (σ6 : zSto) => (r7 = 0 ∨ r7 = 1) → ((r7 = 0 → w_X10_textLines_2 x_1 P n r7 σ6) ∧ (¬ r7 = 0 → (w_X10_token  σ6 (fun (σ8 : zSto) => w_X10_textLines_2 x_1 P n r7 σ8))))))))))))) ∧ (x_1 = (1 : Int32) → (w_X10_planLine (0 : Int64) x1 σ (fun (r10 : Int32) (σ9 : zSto) => (r10 = 0 ∨ r10 = 1) → ((r10 = 0 → ((r10 = 0 → w_X10_textLines_2 x_1 P n r10 σ9) ∧ (¬ r10 = 0 → (w_X10_token  σ9 (fun (σ11 : zSto) => w_X10_textLines_2 x_1 P n r10 σ11))))) ∧ (¬ r10 = 0 → (((σ9.1 223 12) = (4 : Int32) → ((r10 = 0 → w_X10_textLines_2 x_1 P n r10 σ9) ∧ (¬ r10 = 0 → (w_X10_token  σ9 (fun (σ12 : zSto) => w_X10_textLines_2 x_1 P n r10 σ12))))) ∧ (¬ (σ9.1 223 12) = (4 : Int32) → (w_X10_fails  σ9 (fun (r14 : Int32) (σ13 : zSto) => (r14 = 0 ∨ r14 = 1) → ((r14 = 0 → w_X10_textLines_2 x_1 P n r14 σ13) ∧ (¬ r14 = 0 → (w_X10_token  σ13 (fun (σ15 : zSto) => w_X10_textLines_2 x_1 P n r14 σ15))))))))))))))) ∧ (x_1 = 0 → (w_X10_lineLine (0 : Int64) x1 σ (fun (r17 : Int32) (σ16 : zSto) => (r17 = 0 ∨ r17 = 1) → ((r17 = 0 → ((r17 = 0 → w_X10_textLines_2 x_1 P n r17 σ16) ∧ (¬ r17 = 0 → (w_X10_token  σ16 (fun (σ18 : zSto) => w_X10_textLines_2 x_1 P n r17 σ18))))) ∧ (¬ r17 = 0 → (((σ16.1 223 12) = (4 : Int32) → ((r17 = 0 → w_X10_textLines_2 x_1 P n r17 σ16) ∧ (¬ r17 = 0 → (w_X10_token  σ16 (fun (σ19 : zSto) => w_X10_textLines_2 x_1 P n r17 σ19))))) ∧ (¬ (σ16.1 223 12) = (4 : Int32) → (w_X10_fails  σ16 (fun (r21 : Int32) (σ20 : zSto) => (r21 = 0 ∨ r21 = 1) → ((r21 = 0 → w_X10_textLines_2 x_1 P n r21 σ20) ∧ (¬ r21 = 0 → (w_X10_token  σ20 (fun (σ22 : zSto) => w_X10_textLines_2 x_1 P n r21 σ22))))))))))))))) ∧ ((σ.1 223 12) = (2 : Int32) → (∀ x23 : Int64, x23 = (σ.2 223 14) → ((¬ x_1 = 0 → ((¬ x_1 = (1 : Int32) → (w_X10_logLine x23 x1 σ (fun (r25 : Int32) (σ24 : zSto) => (r25 = 0 ∨ r25 = 1) → ((r25 = 0 → ((r25 = 0 → w_X10_textLines_2 x_1 P n r25 σ24) ∧ (¬ r25 = 0 → (w_X10_token  σ24 (fun (σ26 : zSto) => w_X10_textLines_2 x_1 P n r25 σ26))))) ∧ (¬ r25 = 0 → (((σ24.1 223 12) = (4 : Int32) → ((r25 = 0 → w_X10_textLines_2 x_1 P n r25 σ24) ∧ (¬ r25 = 0 → (w_X10_token  σ24 (fun (σ27 : zSto) => w_X10_textLines_2 x_1 P n r25 σ27))))) ∧ (¬ (σ24.1 223 12) = (4 : Int32) → (w_X10_fails  σ24 (fun (r29 : Int32) (σ28 : zSto) => (r29 = 0 ∨ r29 = 1) → ((r29 = 0 → w_X10_textLines_2 x_1 P n r29 σ28) ∧ (¬ r29 = 0 → (w_X10_token  σ28 (fun (σ30 : zSto) => w_X10_textLines_2 x_1 P n r29 σ30))))))))))))) ∧ (x_1 = (1 : Int32) → (w_X10_planLine x23 x1 σ (fun (r32 : Int32) (σ31 : zSto) => (r32 = 0 ∨ r32 = 1) → ((r32 = 0 → ((r32 = 0 → w_X10_textLines_2 x_1 P n r32 σ31) ∧ (¬ r32 = 0 → (w_X10_token  σ31 (fun (σ33 : zSto) => w_X10_textLines_2 x_1 P n r32 σ33))))) ∧ (¬ r32 = 0 → (((σ31.1 223 12) = (4 : Int32) → ((r32 = 0 → w_X10_textLines_2 x_1 P n r32 σ31) ∧ (¬ r32 = 0 → (w_X10_token  σ31 (fun (σ34 : zSto) => w_X10_textLines_2 x_1 P n r32 σ34))))) ∧ (¬ (σ31.1 223 12) = (4 : Int32) → (w_X10_fails  σ31 (fun (r36 : Int32) (σ35 : zSto) => (r36 = 0 ∨ r36 = 1) → ((r36 = 0 → w_X10_textLines_2 x_1 P n r36 σ35) ∧ (¬ r36 = 0 → (w_X10_token  σ35 (fun (σ37 : zSto) => w_X10_textLines_2 x_1 P n r36 σ37))))))))))))))) ∧ (x_1 = 0 → (w_X10_lineLine x23 x1 σ (fun (r39 : Int32) (σ38 : zSto) => (r39 = 0 ∨ r39 = 1) → ((r39 = 0 → ((r39 = 0 → w_X10_textLines_2 x_1 P n r39 σ38) ∧ (¬ r39 = 0 → (w_X10_token  σ38 (fun (σ40 : zSto) => w_X10_textLines_2 x_1 P n r39 σ40))))) ∧ (¬ r39 = 0 → (((σ38.1 223 12) = (4 : Int32) → ((r39 = 0 → w_X10_textLines_2 x_1 P n r39 σ38) ∧ (¬ r39 = 0 → (w_X10_token  σ38 (fun (σ41 : zSto) => w_X10_textLines_2 x_1 P n r39 σ41))))) ∧ (¬ (σ38.1 223 12) = (4 : Int32) → (w_X10_fails  σ38 (fun (r43 : Int32) (σ42 : zSto) => (r43 = 0 ∨ r43 = 1) → ((r43 = 0 → w_X10_textLines_2 x_1 P n r43 σ42) ∧ (¬ r43 = 0 → (w_X10_token  σ42 (fun (σ44 : zSto) => w_X10_textLines_2 x_1 P n r43 σ44))))))))))))))))))))))
def w_X10_textLines (a1 : Int32) (σ : zSto) (P : Int32 → zSto → Prop) : Prop := (∃ n : Nat, w_X10_textLines_2 a1 P  n (1 : Int32) σ)
set_option maxRecDepth 100000 in
set_option maxHeartbeats 4000000 in
theorem k_X10_textLines_2 {p : Program} {l : Launch} {e : Env} {s : State} {m : MethodId} {args : Array Value} {below : List Frame} {meth : Method} {c : Code} {D : va_G} {cy : Nat → ClassId} {g : Nat → Nat} (C : zC p s m args meth c cX10_textLines RX10 6 D cy g) (hr : meth.sig.returnType = (some .boolean)) {P : Int32 → zSto → Prop} (x_1 : Int32)    : ∀ (n : Nat) (x_2 : Int32) (σ : zSto), w_X10_textLines_2 x_1 P n x_2 σ → zX p l e (zrm 2 45) s m args below meth c 0 0 (zQb P below args s D cy g) 6 D cy g 2 [(0, .ref (g 223)), (1, .int x_1), (2, .int x_2)] [] σ := by
  intro n
  induction n with
  | zero => intro x_2 σ h; exact h.elim
  | succ n ih =>
    intro x_2 σ h
    unfold w_X10_textLines_2 at h
    refine zx_iload_n C dX10_textLines_2 2 rfl ?_
    refine zx_if_eq C 101 dX10_textLines_3 (by decide) (fun q => ?_) (fun q => ?_)
    · replace h := h.1 q
      refine zx_iload_n C dX10_textLines_101 2 rfl ?_
      exact zx_zret C hr dX10_textLines_102 h.1 h.2
    · replace h := h.2 q
      refine zx_aload_n C dX10_textLines_6 0 rfl ?_
      refine zx_getI C zs_223 fg_X10_128 rfl dX10_textLines_7 ?_
      refine zx_if_eq C 101 dX10_textLines_10 (by decide) (fun q => ?_) (fun q => ?_)
      · replace h := h.1 q
        refine zx_iload_n C dX10_textLines_101 2 rfl ?_
        exact zx_zret C hr dX10_textLines_102 h.1 h.2
      · replace h := h.2 q
        refine zx_aload_n C dX10_textLines_13 0 rfl ?_
        refine zx_getI C zs_223 fg_X10_121 rfl dX10_textLines_14 ?_
        refine zx_topi (fun x1 ex1 => ?_)
        replace h := h x1 ex1
        refine zx_istore_n (lv' := [(3, .int x1), (0, .ref (g 223)), (1, .int x_1), (2, .int x_2)]) C dX10_textLines_17 (by decide) rfl ?_
        refine zx_aload_n C dX10_textLines_18 1 rfl ?_
        refine zx_getI C zs_223 fg_X10_128 rfl dX10_textLines_19 ?_
        refine zx_iconst (v := (2 : Int32)) C dX10_textLines_22 (by decide) ?_
        refine zx_icmp_ne C 33 dX10_textLines_23 (by decide) (fun q => ?_) (fun q => ?_)
        · replace h := h.1 q
          refine zx_lconst (v := (0 : Int64)) C dX10_textLines_33 (by decide) ?_
          refine zx_lstore (lv' := [(4, .long (0 : Int64)), (3, .int x1), (0, .ref (g 223)), (1, .int x_1), (2, .int x_2)]) C dX10_textLines_34 (by decide) rfl ?_
          refine zx_iload_n C dX10_textLines_36 3 rfl ?_
          refine zx_if_ne C 50 dX10_textLines_37 (by decide) (fun q => ?_) (fun q => ?_)
          · replace h := h.1 q
            refine zx_iload_n C dX10_textLines_50 3 rfl ?_
            refine zx_iconst (v := (1 : Int32)) C dX10_textLines_51 (by decide) ?_
            refine zx_icmp_ne C 65 dX10_textLines_52 (by decide) (fun q => ?_) (fun q => ?_)
            · replace h := h.1 q
              refine zx_aload_n C dX10_textLines_65 2 rfl ?_
              refine zx_lload C dX10_textLines_66 0 rfl ?_
              refine zx_iload_n C dX10_textLines_68 1 rfl ?_
              refine zx_cVb C [.long (0 : Int64), .int x1] lk_X10_218 (c_X10_logLine l D cy g (0 : Int64) x1  σ h) zs_223 rfl ⟨by decide, by decide⟩ ⟨rfl, rfl⟩ ⟨Nat.zero_le _, Nat.zero_le _⟩ rfl rfl (Nat.le_of_ble_eq_true rfl) dX10_textLines_69 (fun r3 σ2 hb h => ?_)
              replace h := h hb
              refine zx_istore_n (lv' := [(2, .int r3), (4, .long (0 : Int64)), (3, .int x1), (0, .ref (g 223)), (1, .int x_1)]) C dX10_textLines_72 (by decide) rfl ?_
              refine zx_iload_n C dX10_textLines_73 0 rfl ?_
              refine zx_if_eq C 90 dX10_textLines_74 (by decide) (fun q => ?_) (fun q => ?_)
              · replace h := h.1 q
                refine zx_iload_n C dX10_textLines_90 0 rfl ?_
                refine zx_if_eq C 98 dX10_textLines_91 (by decide) (fun q => ?_) (fun q => ?_)
                · replace h := h.1 q
                  refine zx_goto C 2 dX10_textLines_98 (by decide) ?_
                  refine zx_lv (lv' := [(0, .ref (g 223)), (1, .int x_1), (2, .int r3)]) [3, 4, 0] rfl ?_
                  exact ih r3 σ2 h
                · replace h := h.2 q
                  refine zx_aload_n C dX10_textLines_94 3 rfl ?_
                  refine zx_cVv C [] lk_X10_151 (c_X10_token l D cy g   σ2 h) zs_223 rfl ⟨by decide, by decide⟩ ⟨rfl, rfl⟩ ⟨Nat.zero_le _, Nat.zero_le _⟩ rfl rfl (Nat.le_of_ble_eq_true rfl) dX10_textLines_95 (fun σ4 h => ?_)
                  refine zx_goto C 2 dX10_textLines_98 (by decide) ?_
                  refine zx_lv (lv' := [(0, .ref (g 223)), (1, .int x_1), (2, .int r3)]) [3, 4, 0] rfl ?_
                  exact ih r3 σ4 h
              · replace h := h.2 q
                refine zx_aload_n C dX10_textLines_77 3 rfl ?_
                refine zx_getI C zs_223 fg_X10_128 rfl dX10_textLines_78 ?_
                refine zx_iconst (v := (4 : Int32)) C dX10_textLines_81 (by decide) ?_
                refine zx_icmp_eq C 90 dX10_textLines_82 (by decide) (fun q => ?_) (fun q => ?_)
                · replace h := h.1 q
                  refine zx_iload_n C dX10_textLines_90 0 rfl ?_
                  refine zx_if_eq C 98 dX10_textLines_91 (by decide) (fun q => ?_) (fun q => ?_)
                  · replace h := h.1 q
                    refine zx_goto C 2 dX10_textLines_98 (by decide) ?_
                    refine zx_lv (lv' := [(0, .ref (g 223)), (1, .int x_1), (2, .int r3)]) [3, 4, 0] rfl ?_
                    exact ih r3 σ2 h
                  · replace h := h.2 q
                    refine zx_aload_n C dX10_textLines_94 3 rfl ?_
                    refine zx_cVv C [] lk_X10_151 (c_X10_token l D cy g   σ2 h) zs_223 rfl ⟨by decide, by decide⟩ ⟨rfl, rfl⟩ ⟨Nat.zero_le _, Nat.zero_le _⟩ rfl rfl (Nat.le_of_ble_eq_true rfl) dX10_textLines_95 (fun σ5 h => ?_)
                    refine zx_goto C 2 dX10_textLines_98 (by decide) ?_
                    refine zx_lv (lv' := [(0, .ref (g 223)), (1, .int x_1), (2, .int r3)]) [3, 4, 0] rfl ?_
                    exact ih r3 σ5 h
                · replace h := h.2 q
                  refine zx_aload_n C dX10_textLines_85 3 rfl ?_
                  refine zx_cVb C [] lk_X10_143 (c_X10_fails l D cy g   σ2 h) zs_223 rfl ⟨by decide, by decide⟩ ⟨rfl, rfl⟩ ⟨Nat.zero_le _, Nat.zero_le _⟩ rfl rfl (Nat.le_of_ble_eq_true rfl) dX10_textLines_86 (fun r7 σ6 hb h => ?_)
                  replace h := h hb
                  refine zx_istore_n (lv' := [(2, .int r7), (4, .long (0 : Int64)), (3, .int x1), (0, .ref (g 223)), (1, .int x_1)]) C dX10_textLines_89 (by decide) rfl ?_
                  refine zx_iload_n C dX10_textLines_90 0 rfl ?_
                  refine zx_if_eq C 98 dX10_textLines_91 (by decide) (fun q => ?_) (fun q => ?_)
                  · replace h := h.1 q
                    refine zx_goto C 2 dX10_textLines_98 (by decide) ?_
                    refine zx_lv (lv' := [(0, .ref (g 223)), (1, .int x_1), (2, .int r7)]) [3, 4, 0] rfl ?_
                    exact ih r7 σ6 h
                  · replace h := h.2 q
                    refine zx_aload_n C dX10_textLines_94 3 rfl ?_
                    refine zx_cVv C [] lk_X10_151 (c_X10_token l D cy g   σ6 h) zs_223 rfl ⟨by decide, by decide⟩ ⟨rfl, rfl⟩ ⟨Nat.zero_le _, Nat.zero_le _⟩ rfl rfl (Nat.le_of_ble_eq_true rfl) dX10_textLines_95 (fun σ8 h => ?_)
                    refine zx_goto C 2 dX10_textLines_98 (by decide) ?_
                    refine zx_lv (lv' := [(0, .ref (g 223)), (1, .int x_1), (2, .int r7)]) [3, 4, 0] rfl ?_
                    exact ih r7 σ8 h
            · replace h := h.2 q
              refine zx_aload_n C dX10_textLines_55 2 rfl ?_
              refine zx_lload C dX10_textLines_56 0 rfl ?_
              refine zx_iload_n C dX10_textLines_58 1 rfl ?_
              refine zx_cVb C [.long (0 : Int64), .int x1] lk_X10_215 (c_X10_planLine l D cy g (0 : Int64) x1  σ h) zs_223 rfl ⟨by decide, by decide⟩ ⟨rfl, rfl⟩ ⟨Nat.zero_le _, Nat.zero_le _⟩ rfl rfl (Nat.le_of_ble_eq_true rfl) dX10_textLines_59 (fun r10 σ9 hb h => ?_)
              replace h := h hb
              refine zx_goto C 72 dX10_textLines_62 (by decide) ?_
              refine zx_istore_n (lv' := [(2, .int r10), (4, .long (0 : Int64)), (3, .int x1), (0, .ref (g 223)), (1, .int x_1)]) C dX10_textLines_72 (by decide) rfl ?_
              refine zx_iload_n C dX10_textLines_73 0 rfl ?_
              refine zx_if_eq C 90 dX10_textLines_74 (by decide) (fun q => ?_) (fun q => ?_)
              · replace h := h.1 q
                refine zx_iload_n C dX10_textLines_90 0 rfl ?_
                refine zx_if_eq C 98 dX10_textLines_91 (by decide) (fun q => ?_) (fun q => ?_)
                · replace h := h.1 q
                  refine zx_goto C 2 dX10_textLines_98 (by decide) ?_
                  refine zx_lv (lv' := [(0, .ref (g 223)), (1, .int x_1), (2, .int r10)]) [3, 4, 0] rfl ?_
                  exact ih r10 σ9 h
                · replace h := h.2 q
                  refine zx_aload_n C dX10_textLines_94 3 rfl ?_
                  refine zx_cVv C [] lk_X10_151 (c_X10_token l D cy g   σ9 h) zs_223 rfl ⟨by decide, by decide⟩ ⟨rfl, rfl⟩ ⟨Nat.zero_le _, Nat.zero_le _⟩ rfl rfl (Nat.le_of_ble_eq_true rfl) dX10_textLines_95 (fun σ11 h => ?_)
                  refine zx_goto C 2 dX10_textLines_98 (by decide) ?_
                  refine zx_lv (lv' := [(0, .ref (g 223)), (1, .int x_1), (2, .int r10)]) [3, 4, 0] rfl ?_
                  exact ih r10 σ11 h
              · replace h := h.2 q
                refine zx_aload_n C dX10_textLines_77 3 rfl ?_
                refine zx_getI C zs_223 fg_X10_128 rfl dX10_textLines_78 ?_
                refine zx_iconst (v := (4 : Int32)) C dX10_textLines_81 (by decide) ?_
                refine zx_icmp_eq C 90 dX10_textLines_82 (by decide) (fun q => ?_) (fun q => ?_)
                · replace h := h.1 q
                  refine zx_iload_n C dX10_textLines_90 0 rfl ?_
                  refine zx_if_eq C 98 dX10_textLines_91 (by decide) (fun q => ?_) (fun q => ?_)
                  · replace h := h.1 q
                    refine zx_goto C 2 dX10_textLines_98 (by decide) ?_
                    refine zx_lv (lv' := [(0, .ref (g 223)), (1, .int x_1), (2, .int r10)]) [3, 4, 0] rfl ?_
                    exact ih r10 σ9 h
                  · replace h := h.2 q
                    refine zx_aload_n C dX10_textLines_94 3 rfl ?_
                    refine zx_cVv C [] lk_X10_151 (c_X10_token l D cy g   σ9 h) zs_223 rfl ⟨by decide, by decide⟩ ⟨rfl, rfl⟩ ⟨Nat.zero_le _, Nat.zero_le _⟩ rfl rfl (Nat.le_of_ble_eq_true rfl) dX10_textLines_95 (fun σ12 h => ?_)
                    refine zx_goto C 2 dX10_textLines_98 (by decide) ?_
                    refine zx_lv (lv' := [(0, .ref (g 223)), (1, .int x_1), (2, .int r10)]) [3, 4, 0] rfl ?_
                    exact ih r10 σ12 h
                · replace h := h.2 q
                  refine zx_aload_n C dX10_textLines_85 3 rfl ?_
                  refine zx_cVb C [] lk_X10_143 (c_X10_fails l D cy g   σ9 h) zs_223 rfl ⟨by decide, by decide⟩ ⟨rfl, rfl⟩ ⟨Nat.zero_le _, Nat.zero_le _⟩ rfl rfl (Nat.le_of_ble_eq_true rfl) dX10_textLines_86 (fun r14 σ13 hb h => ?_)
                  replace h := h hb
                  refine zx_istore_n (lv' := [(2, .int r14), (4, .long (0 : Int64)), (3, .int x1), (0, .ref (g 223)), (1, .int x_1)]) C dX10_textLines_89 (by decide) rfl ?_
                  refine zx_iload_n C dX10_textLines_90 0 rfl ?_
                  refine zx_if_eq C 98 dX10_textLines_91 (by decide) (fun q => ?_) (fun q => ?_)
                  · replace h := h.1 q
                    refine zx_goto C 2 dX10_textLines_98 (by decide) ?_
                    refine zx_lv (lv' := [(0, .ref (g 223)), (1, .int x_1), (2, .int r14)]) [3, 4, 0] rfl ?_
                    exact ih r14 σ13 h
                  · replace h := h.2 q
                    refine zx_aload_n C dX10_textLines_94 3 rfl ?_
                    refine zx_cVv C [] lk_X10_151 (c_X10_token l D cy g   σ13 h) zs_223 rfl ⟨by decide, by decide⟩ ⟨rfl, rfl⟩ ⟨Nat.zero_le _, Nat.zero_le _⟩ rfl rfl (Nat.le_of_ble_eq_true rfl) dX10_textLines_95 (fun σ15 h => ?_)
                    refine zx_goto C 2 dX10_textLines_98 (by decide) ?_
                    refine zx_lv (lv' := [(0, .ref (g 223)), (1, .int x_1), (2, .int r14)]) [3, 4, 0] rfl ?_
                    exact ih r14 σ15 h
          · replace h := h.2 q
            refine zx_aload_n C dX10_textLines_40 2 rfl ?_
            refine zx_lload C dX10_textLines_41 0 rfl ?_
            refine zx_iload_n C dX10_textLines_43 1 rfl ?_
            refine zx_cVb C [.long (0 : Int64), .int x1] lk_X10_211 (c_X10_lineLine l D cy g (0 : Int64) x1  σ h) zs_223 rfl ⟨by decide, by decide⟩ ⟨rfl, rfl⟩ ⟨Nat.zero_le _, Nat.zero_le _⟩ rfl rfl (Nat.le_of_ble_eq_true rfl) dX10_textLines_44 (fun r17 σ16 hb h => ?_)
            replace h := h hb
            refine zx_goto C 72 dX10_textLines_47 (by decide) ?_
            refine zx_istore_n (lv' := [(2, .int r17), (4, .long (0 : Int64)), (3, .int x1), (0, .ref (g 223)), (1, .int x_1)]) C dX10_textLines_72 (by decide) rfl ?_
            refine zx_iload_n C dX10_textLines_73 0 rfl ?_
            refine zx_if_eq C 90 dX10_textLines_74 (by decide) (fun q => ?_) (fun q => ?_)
            · replace h := h.1 q
              refine zx_iload_n C dX10_textLines_90 0 rfl ?_
              refine zx_if_eq C 98 dX10_textLines_91 (by decide) (fun q => ?_) (fun q => ?_)
              · replace h := h.1 q
                refine zx_goto C 2 dX10_textLines_98 (by decide) ?_
                refine zx_lv (lv' := [(0, .ref (g 223)), (1, .int x_1), (2, .int r17)]) [3, 4, 0] rfl ?_
                exact ih r17 σ16 h
              · replace h := h.2 q
                refine zx_aload_n C dX10_textLines_94 3 rfl ?_
                refine zx_cVv C [] lk_X10_151 (c_X10_token l D cy g   σ16 h) zs_223 rfl ⟨by decide, by decide⟩ ⟨rfl, rfl⟩ ⟨Nat.zero_le _, Nat.zero_le _⟩ rfl rfl (Nat.le_of_ble_eq_true rfl) dX10_textLines_95 (fun σ18 h => ?_)
                refine zx_goto C 2 dX10_textLines_98 (by decide) ?_
                refine zx_lv (lv' := [(0, .ref (g 223)), (1, .int x_1), (2, .int r17)]) [3, 4, 0] rfl ?_
                exact ih r17 σ18 h
            · replace h := h.2 q
              refine zx_aload_n C dX10_textLines_77 3 rfl ?_
              refine zx_getI C zs_223 fg_X10_128 rfl dX10_textLines_78 ?_
              refine zx_iconst (v := (4 : Int32)) C dX10_textLines_81 (by decide) ?_
              refine zx_icmp_eq C 90 dX10_textLines_82 (by decide) (fun q => ?_) (fun q => ?_)
              · replace h := h.1 q
                refine zx_iload_n C dX10_textLines_90 0 rfl ?_
                refine zx_if_eq C 98 dX10_textLines_91 (by decide) (fun q => ?_) (fun q => ?_)
                · replace h := h.1 q
                  refine zx_goto C 2 dX10_textLines_98 (by decide) ?_
                  refine zx_lv (lv' := [(0, .ref (g 223)), (1, .int x_1), (2, .int r17)]) [3, 4, 0] rfl ?_
                  exact ih r17 σ16 h
                · replace h := h.2 q
                  refine zx_aload_n C dX10_textLines_94 3 rfl ?_
                  refine zx_cVv C [] lk_X10_151 (c_X10_token l D cy g   σ16 h) zs_223 rfl ⟨by decide, by decide⟩ ⟨rfl, rfl⟩ ⟨Nat.zero_le _, Nat.zero_le _⟩ rfl rfl (Nat.le_of_ble_eq_true rfl) dX10_textLines_95 (fun σ19 h => ?_)
                  refine zx_goto C 2 dX10_textLines_98 (by decide) ?_
                  refine zx_lv (lv' := [(0, .ref (g 223)), (1, .int x_1), (2, .int r17)]) [3, 4, 0] rfl ?_
                  exact ih r17 σ19 h
              · replace h := h.2 q
                refine zx_aload_n C dX10_textLines_85 3 rfl ?_
                refine zx_cVb C [] lk_X10_143 (c_X10_fails l D cy g   σ16 h) zs_223 rfl ⟨by decide, by decide⟩ ⟨rfl, rfl⟩ ⟨Nat.zero_le _, Nat.zero_le _⟩ rfl rfl (Nat.le_of_ble_eq_true rfl) dX10_textLines_86 (fun r21 σ20 hb h => ?_)
                replace h := h hb
                refine zx_istore_n (lv' := [(2, .int r21), (4, .long (0 : Int64)), (3, .int x1), (0, .ref (g 223)), (1, .int x_1)]) C dX10_textLines_89 (by decide) rfl ?_
                refine zx_iload_n C dX10_textLines_90 0 rfl ?_
                refine zx_if_eq C 98 dX10_textLines_91 (by decide) (fun q => ?_) (fun q => ?_)
                · replace h := h.1 q
                  refine zx_goto C 2 dX10_textLines_98 (by decide) ?_
                  refine zx_lv (lv' := [(0, .ref (g 223)), (1, .int x_1), (2, .int r21)]) [3, 4, 0] rfl ?_
                  exact ih r21 σ20 h
                · replace h := h.2 q
                  refine zx_aload_n C dX10_textLines_94 3 rfl ?_
                  refine zx_cVv C [] lk_X10_151 (c_X10_token l D cy g   σ20 h) zs_223 rfl ⟨by decide, by decide⟩ ⟨rfl, rfl⟩ ⟨Nat.zero_le _, Nat.zero_le _⟩ rfl rfl (Nat.le_of_ble_eq_true rfl) dX10_textLines_95 (fun σ22 h => ?_)
                  refine zx_goto C 2 dX10_textLines_98 (by decide) ?_
                  refine zx_lv (lv' := [(0, .ref (g 223)), (1, .int x_1), (2, .int r21)]) [3, 4, 0] rfl ?_
                  exact ih r21 σ22 h
        · replace h := h.2 q
          refine zx_aload_n C dX10_textLines_26 1 rfl ?_
          refine zx_getL C zs_223 fg_X10_124 rfl dX10_textLines_27 ?_
          refine zx_goto C 34 dX10_textLines_30 (by decide) ?_
          refine zx_topl (fun x23 ex23 => ?_)
          replace h := h x23 ex23
          refine zx_lstore (lv' := [(4, .long x23), (3, .int x1), (0, .ref (g 223)), (1, .int x_1), (2, .int x_2)]) C dX10_textLines_34 (by decide) rfl ?_
          refine zx_iload_n C dX10_textLines_36 3 rfl ?_
          refine zx_if_ne C 50 dX10_textLines_37 (by decide) (fun q => ?_) (fun q => ?_)
          · replace h := h.1 q
            refine zx_iload_n C dX10_textLines_50 3 rfl ?_
            refine zx_iconst (v := (1 : Int32)) C dX10_textLines_51 (by decide) ?_
            refine zx_icmp_ne C 65 dX10_textLines_52 (by decide) (fun q => ?_) (fun q => ?_)
            · replace h := h.1 q
              refine zx_aload_n C dX10_textLines_65 2 rfl ?_
              refine zx_lload C dX10_textLines_66 0 rfl ?_
              refine zx_iload_n C dX10_textLines_68 1 rfl ?_
              refine zx_cVb C [.long x23, .int x1] lk_X10_218 (c_X10_logLine l D cy g x23 x1  σ h) zs_223 rfl ⟨by decide, by decide⟩ ⟨rfl, rfl⟩ ⟨Nat.zero_le _, Nat.zero_le _⟩ rfl rfl (Nat.le_of_ble_eq_true rfl) dX10_textLines_69 (fun r25 σ24 hb h => ?_)
              replace h := h hb
              refine zx_istore_n (lv' := [(2, .int r25), (4, .long x23), (3, .int x1), (0, .ref (g 223)), (1, .int x_1)]) C dX10_textLines_72 (by decide) rfl ?_
              refine zx_iload_n C dX10_textLines_73 0 rfl ?_
              refine zx_if_eq C 90 dX10_textLines_74 (by decide) (fun q => ?_) (fun q => ?_)
              · replace h := h.1 q
                refine zx_iload_n C dX10_textLines_90 0 rfl ?_
                refine zx_if_eq C 98 dX10_textLines_91 (by decide) (fun q => ?_) (fun q => ?_)
                · replace h := h.1 q
                  refine zx_goto C 2 dX10_textLines_98 (by decide) ?_
                  refine zx_lv (lv' := [(0, .ref (g 223)), (1, .int x_1), (2, .int r25)]) [3, 4, 0] rfl ?_
                  exact ih r25 σ24 h
                · replace h := h.2 q
                  refine zx_aload_n C dX10_textLines_94 3 rfl ?_
                  refine zx_cVv C [] lk_X10_151 (c_X10_token l D cy g   σ24 h) zs_223 rfl ⟨by decide, by decide⟩ ⟨rfl, rfl⟩ ⟨Nat.zero_le _, Nat.zero_le _⟩ rfl rfl (Nat.le_of_ble_eq_true rfl) dX10_textLines_95 (fun σ26 h => ?_)
                  refine zx_goto C 2 dX10_textLines_98 (by decide) ?_
                  refine zx_lv (lv' := [(0, .ref (g 223)), (1, .int x_1), (2, .int r25)]) [3, 4, 0] rfl ?_
                  exact ih r25 σ26 h
              · replace h := h.2 q
                refine zx_aload_n C dX10_textLines_77 3 rfl ?_
                refine zx_getI C zs_223 fg_X10_128 rfl dX10_textLines_78 ?_
                refine zx_iconst (v := (4 : Int32)) C dX10_textLines_81 (by decide) ?_
                refine zx_icmp_eq C 90 dX10_textLines_82 (by decide) (fun q => ?_) (fun q => ?_)
                · replace h := h.1 q
                  refine zx_iload_n C dX10_textLines_90 0 rfl ?_
                  refine zx_if_eq C 98 dX10_textLines_91 (by decide) (fun q => ?_) (fun q => ?_)
                  · replace h := h.1 q
                    refine zx_goto C 2 dX10_textLines_98 (by decide) ?_
                    refine zx_lv (lv' := [(0, .ref (g 223)), (1, .int x_1), (2, .int r25)]) [3, 4, 0] rfl ?_
                    exact ih r25 σ24 h
                  · replace h := h.2 q
                    refine zx_aload_n C dX10_textLines_94 3 rfl ?_
                    refine zx_cVv C [] lk_X10_151 (c_X10_token l D cy g   σ24 h) zs_223 rfl ⟨by decide, by decide⟩ ⟨rfl, rfl⟩ ⟨Nat.zero_le _, Nat.zero_le _⟩ rfl rfl (Nat.le_of_ble_eq_true rfl) dX10_textLines_95 (fun σ27 h => ?_)
                    refine zx_goto C 2 dX10_textLines_98 (by decide) ?_
                    refine zx_lv (lv' := [(0, .ref (g 223)), (1, .int x_1), (2, .int r25)]) [3, 4, 0] rfl ?_
                    exact ih r25 σ27 h
                · replace h := h.2 q
                  refine zx_aload_n C dX10_textLines_85 3 rfl ?_
                  refine zx_cVb C [] lk_X10_143 (c_X10_fails l D cy g   σ24 h) zs_223 rfl ⟨by decide, by decide⟩ ⟨rfl, rfl⟩ ⟨Nat.zero_le _, Nat.zero_le _⟩ rfl rfl (Nat.le_of_ble_eq_true rfl) dX10_textLines_86 (fun r29 σ28 hb h => ?_)
                  replace h := h hb
                  refine zx_istore_n (lv' := [(2, .int r29), (4, .long x23), (3, .int x1), (0, .ref (g 223)), (1, .int x_1)]) C dX10_textLines_89 (by decide) rfl ?_
                  refine zx_iload_n C dX10_textLines_90 0 rfl ?_
                  refine zx_if_eq C 98 dX10_textLines_91 (by decide) (fun q => ?_) (fun q => ?_)
                  · replace h := h.1 q
                    refine zx_goto C 2 dX10_textLines_98 (by decide) ?_
                    refine zx_lv (lv' := [(0, .ref (g 223)), (1, .int x_1), (2, .int r29)]) [3, 4, 0] rfl ?_
                    exact ih r29 σ28 h
                  · replace h := h.2 q
                    refine zx_aload_n C dX10_textLines_94 3 rfl ?_
                    refine zx_cVv C [] lk_X10_151 (c_X10_token l D cy g   σ28 h) zs_223 rfl ⟨by decide, by decide⟩ ⟨rfl, rfl⟩ ⟨Nat.zero_le _, Nat.zero_le _⟩ rfl rfl (Nat.le_of_ble_eq_true rfl) dX10_textLines_95 (fun σ30 h => ?_)
                    refine zx_goto C 2 dX10_textLines_98 (by decide) ?_
                    refine zx_lv (lv' := [(0, .ref (g 223)), (1, .int x_1), (2, .int r29)]) [3, 4, 0] rfl ?_
                    exact ih r29 σ30 h
            · replace h := h.2 q
              refine zx_aload_n C dX10_textLines_55 2 rfl ?_
              refine zx_lload C dX10_textLines_56 0 rfl ?_
              refine zx_iload_n C dX10_textLines_58 1 rfl ?_
              refine zx_cVb C [.long x23, .int x1] lk_X10_215 (c_X10_planLine l D cy g x23 x1  σ h) zs_223 rfl ⟨by decide, by decide⟩ ⟨rfl, rfl⟩ ⟨Nat.zero_le _, Nat.zero_le _⟩ rfl rfl (Nat.le_of_ble_eq_true rfl) dX10_textLines_59 (fun r32 σ31 hb h => ?_)
              replace h := h hb
              refine zx_goto C 72 dX10_textLines_62 (by decide) ?_
              refine zx_istore_n (lv' := [(2, .int r32), (4, .long x23), (3, .int x1), (0, .ref (g 223)), (1, .int x_1)]) C dX10_textLines_72 (by decide) rfl ?_
              refine zx_iload_n C dX10_textLines_73 0 rfl ?_
              refine zx_if_eq C 90 dX10_textLines_74 (by decide) (fun q => ?_) (fun q => ?_)
              · replace h := h.1 q
                refine zx_iload_n C dX10_textLines_90 0 rfl ?_
                refine zx_if_eq C 98 dX10_textLines_91 (by decide) (fun q => ?_) (fun q => ?_)
                · replace h := h.1 q
                  refine zx_goto C 2 dX10_textLines_98 (by decide) ?_
                  refine zx_lv (lv' := [(0, .ref (g 223)), (1, .int x_1), (2, .int r32)]) [3, 4, 0] rfl ?_
                  exact ih r32 σ31 h
                · replace h := h.2 q
                  refine zx_aload_n C dX10_textLines_94 3 rfl ?_
                  refine zx_cVv C [] lk_X10_151 (c_X10_token l D cy g   σ31 h) zs_223 rfl ⟨by decide, by decide⟩ ⟨rfl, rfl⟩ ⟨Nat.zero_le _, Nat.zero_le _⟩ rfl rfl (Nat.le_of_ble_eq_true rfl) dX10_textLines_95 (fun σ33 h => ?_)
                  refine zx_goto C 2 dX10_textLines_98 (by decide) ?_
                  refine zx_lv (lv' := [(0, .ref (g 223)), (1, .int x_1), (2, .int r32)]) [3, 4, 0] rfl ?_
                  exact ih r32 σ33 h
              · replace h := h.2 q
                refine zx_aload_n C dX10_textLines_77 3 rfl ?_
                refine zx_getI C zs_223 fg_X10_128 rfl dX10_textLines_78 ?_
                refine zx_iconst (v := (4 : Int32)) C dX10_textLines_81 (by decide) ?_
                refine zx_icmp_eq C 90 dX10_textLines_82 (by decide) (fun q => ?_) (fun q => ?_)
                · replace h := h.1 q
                  refine zx_iload_n C dX10_textLines_90 0 rfl ?_
                  refine zx_if_eq C 98 dX10_textLines_91 (by decide) (fun q => ?_) (fun q => ?_)
                  · replace h := h.1 q
                    refine zx_goto C 2 dX10_textLines_98 (by decide) ?_
                    refine zx_lv (lv' := [(0, .ref (g 223)), (1, .int x_1), (2, .int r32)]) [3, 4, 0] rfl ?_
                    exact ih r32 σ31 h
                  · replace h := h.2 q
                    refine zx_aload_n C dX10_textLines_94 3 rfl ?_
                    refine zx_cVv C [] lk_X10_151 (c_X10_token l D cy g   σ31 h) zs_223 rfl ⟨by decide, by decide⟩ ⟨rfl, rfl⟩ ⟨Nat.zero_le _, Nat.zero_le _⟩ rfl rfl (Nat.le_of_ble_eq_true rfl) dX10_textLines_95 (fun σ34 h => ?_)
                    refine zx_goto C 2 dX10_textLines_98 (by decide) ?_
                    refine zx_lv (lv' := [(0, .ref (g 223)), (1, .int x_1), (2, .int r32)]) [3, 4, 0] rfl ?_
                    exact ih r32 σ34 h
                · replace h := h.2 q
                  refine zx_aload_n C dX10_textLines_85 3 rfl ?_
                  refine zx_cVb C [] lk_X10_143 (c_X10_fails l D cy g   σ31 h) zs_223 rfl ⟨by decide, by decide⟩ ⟨rfl, rfl⟩ ⟨Nat.zero_le _, Nat.zero_le _⟩ rfl rfl (Nat.le_of_ble_eq_true rfl) dX10_textLines_86 (fun r36 σ35 hb h => ?_)
                  replace h := h hb
                  refine zx_istore_n (lv' := [(2, .int r36), (4, .long x23), (3, .int x1), (0, .ref (g 223)), (1, .int x_1)]) C dX10_textLines_89 (by decide) rfl ?_
                  refine zx_iload_n C dX10_textLines_90 0 rfl ?_
                  refine zx_if_eq C 98 dX10_textLines_91 (by decide) (fun q => ?_) (fun q => ?_)
                  · replace h := h.1 q
                    refine zx_goto C 2 dX10_textLines_98 (by decide) ?_
                    refine zx_lv (lv' := [(0, .ref (g 223)), (1, .int x_1), (2, .int r36)]) [3, 4, 0] rfl ?_
                    exact ih r36 σ35 h
                  · replace h := h.2 q
                    refine zx_aload_n C dX10_textLines_94 3 rfl ?_
                    refine zx_cVv C [] lk_X10_151 (c_X10_token l D cy g   σ35 h) zs_223 rfl ⟨by decide, by decide⟩ ⟨rfl, rfl⟩ ⟨Nat.zero_le _, Nat.zero_le _⟩ rfl rfl (Nat.le_of_ble_eq_true rfl) dX10_textLines_95 (fun σ37 h => ?_)
                    refine zx_goto C 2 dX10_textLines_98 (by decide) ?_
                    refine zx_lv (lv' := [(0, .ref (g 223)), (1, .int x_1), (2, .int r36)]) [3, 4, 0] rfl ?_
                    exact ih r36 σ37 h
          · replace h := h.2 q
            refine zx_aload_n C dX10_textLines_40 2 rfl ?_
            refine zx_lload C dX10_textLines_41 0 rfl ?_
            refine zx_iload_n C dX10_textLines_43 1 rfl ?_
            refine zx_cVb C [.long x23, .int x1] lk_X10_211 (c_X10_lineLine l D cy g x23 x1  σ h) zs_223 rfl ⟨by decide, by decide⟩ ⟨rfl, rfl⟩ ⟨Nat.zero_le _, Nat.zero_le _⟩ rfl rfl (Nat.le_of_ble_eq_true rfl) dX10_textLines_44 (fun r39 σ38 hb h => ?_)
            replace h := h hb
            refine zx_goto C 72 dX10_textLines_47 (by decide) ?_
            refine zx_istore_n (lv' := [(2, .int r39), (4, .long x23), (3, .int x1), (0, .ref (g 223)), (1, .int x_1)]) C dX10_textLines_72 (by decide) rfl ?_
            refine zx_iload_n C dX10_textLines_73 0 rfl ?_
            refine zx_if_eq C 90 dX10_textLines_74 (by decide) (fun q => ?_) (fun q => ?_)
            · replace h := h.1 q
              refine zx_iload_n C dX10_textLines_90 0 rfl ?_
              refine zx_if_eq C 98 dX10_textLines_91 (by decide) (fun q => ?_) (fun q => ?_)
              · replace h := h.1 q
                refine zx_goto C 2 dX10_textLines_98 (by decide) ?_
                refine zx_lv (lv' := [(0, .ref (g 223)), (1, .int x_1), (2, .int r39)]) [3, 4, 0] rfl ?_
                exact ih r39 σ38 h
              · replace h := h.2 q
                refine zx_aload_n C dX10_textLines_94 3 rfl ?_
                refine zx_cVv C [] lk_X10_151 (c_X10_token l D cy g   σ38 h) zs_223 rfl ⟨by decide, by decide⟩ ⟨rfl, rfl⟩ ⟨Nat.zero_le _, Nat.zero_le _⟩ rfl rfl (Nat.le_of_ble_eq_true rfl) dX10_textLines_95 (fun σ40 h => ?_)
                refine zx_goto C 2 dX10_textLines_98 (by decide) ?_
                refine zx_lv (lv' := [(0, .ref (g 223)), (1, .int x_1), (2, .int r39)]) [3, 4, 0] rfl ?_
                exact ih r39 σ40 h
            · replace h := h.2 q
              refine zx_aload_n C dX10_textLines_77 3 rfl ?_
              refine zx_getI C zs_223 fg_X10_128 rfl dX10_textLines_78 ?_
              refine zx_iconst (v := (4 : Int32)) C dX10_textLines_81 (by decide) ?_
              refine zx_icmp_eq C 90 dX10_textLines_82 (by decide) (fun q => ?_) (fun q => ?_)
              · replace h := h.1 q
                refine zx_iload_n C dX10_textLines_90 0 rfl ?_
                refine zx_if_eq C 98 dX10_textLines_91 (by decide) (fun q => ?_) (fun q => ?_)
                · replace h := h.1 q
                  refine zx_goto C 2 dX10_textLines_98 (by decide) ?_
                  refine zx_lv (lv' := [(0, .ref (g 223)), (1, .int x_1), (2, .int r39)]) [3, 4, 0] rfl ?_
                  exact ih r39 σ38 h
                · replace h := h.2 q
                  refine zx_aload_n C dX10_textLines_94 3 rfl ?_
                  refine zx_cVv C [] lk_X10_151 (c_X10_token l D cy g   σ38 h) zs_223 rfl ⟨by decide, by decide⟩ ⟨rfl, rfl⟩ ⟨Nat.zero_le _, Nat.zero_le _⟩ rfl rfl (Nat.le_of_ble_eq_true rfl) dX10_textLines_95 (fun σ41 h => ?_)
                  refine zx_goto C 2 dX10_textLines_98 (by decide) ?_
                  refine zx_lv (lv' := [(0, .ref (g 223)), (1, .int x_1), (2, .int r39)]) [3, 4, 0] rfl ?_
                  exact ih r39 σ41 h
              · replace h := h.2 q
                refine zx_aload_n C dX10_textLines_85 3 rfl ?_
                refine zx_cVb C [] lk_X10_143 (c_X10_fails l D cy g   σ38 h) zs_223 rfl ⟨by decide, by decide⟩ ⟨rfl, rfl⟩ ⟨Nat.zero_le _, Nat.zero_le _⟩ rfl rfl (Nat.le_of_ble_eq_true rfl) dX10_textLines_86 (fun r43 σ42 hb h => ?_)
                replace h := h hb
                refine zx_istore_n (lv' := [(2, .int r43), (4, .long x23), (3, .int x1), (0, .ref (g 223)), (1, .int x_1)]) C dX10_textLines_89 (by decide) rfl ?_
                refine zx_iload_n C dX10_textLines_90 0 rfl ?_
                refine zx_if_eq C 98 dX10_textLines_91 (by decide) (fun q => ?_) (fun q => ?_)
                · replace h := h.1 q
                  refine zx_goto C 2 dX10_textLines_98 (by decide) ?_
                  refine zx_lv (lv' := [(0, .ref (g 223)), (1, .int x_1), (2, .int r43)]) [3, 4, 0] rfl ?_
                  exact ih r43 σ42 h
                · replace h := h.2 q
                  refine zx_aload_n C dX10_textLines_94 3 rfl ?_
                  refine zx_cVv C [] lk_X10_151 (c_X10_token l D cy g   σ42 h) zs_223 rfl ⟨by decide, by decide⟩ ⟨rfl, rfl⟩ ⟨Nat.zero_le _, Nat.zero_le _⟩ rfl rfl (Nat.le_of_ble_eq_true rfl) dX10_textLines_95 (fun σ44 h => ?_)
                  refine zx_goto C 2 dX10_textLines_98 (by decide) ?_
                  refine zx_lv (lv' := [(0, .ref (g 223)), (1, .int x_1), (2, .int r43)]) [3, 4, 0] rfl ?_
                  exact ih r43 σ44 h
set_option maxRecDepth 100000 in
set_option maxHeartbeats 4000000 in
theorem c_X10_textLines (l : Launch) (D : va_G) (cy : Nat → ClassId) (g : Nat → Nat) (a1 : Int32)  (σ : zSto) {P : Int32 → zSto → Prop} (h : w_X10_textLines a1 σ P) : zMb l yX10_textLines cX10_textLines 6 (some .boolean) (zrm 2 45) D cy g [.ref (g 223), .int a1] σ P := by
  unfold w_X10_textLines at h
  refine zm_b RX10 rfl (by decide +kernel) (Nat.le_of_ble_eq_true rfl) ?_
  intro p e s m below meth c C hr
  refine zx_lv (lv' := [(0, .ref (g 223)), (1, .int a1)]) [0, 1] rfl ?_
  refine zx_iconst (v := (1 : Int32)) C dX10_textLines_0 (by decide) ?_
  refine zx_istore_n (lv' := [(2, .int (1 : Int32)), (0, .ref (g 223)), (1, .int a1)]) C dX10_textLines_1 (by decide) rfl ?_
  obtain ⟨n, h⟩ := h
  refine zx_lv (lv' := [(0, .ref (g 223)), (1, .int a1), (2, .int (1 : Int32))]) [1, 2, 0] rfl ?_
  exact k_X10_textLines_2 C hr (a1)   n (1 : Int32) σ h
theorem lk_X10_221 : zLV RX10 221 RX10 yX10_textLines cX10_textLines 6 (some .boolean) 1 := zLV_of ml_X10_221 im_X10_textLines se_X10_textLines ini_X10 cd_X10_textLines (by decide +kernel)
theorem fg_X10_134 : zFG RX10 134 10 15 := ⟨RX10, TX10, 50, rfl, lay_X10, by decide, fl_X10_134⟩
def w_X10_readText_154 (x_1 : Int32) (x_2 : Int32) (P : Int32 → zSto → Prop)  : Nat → Int32 → zSto → Prop
  | 0, _, _ => False
  | n + 1, x_3, σ => (((16 : Int32) ≤ x_3 → ((x_2 = 0 → (∀ σ9 : zSto, σ9 = zI σ 226 0 (1 : Int32) → ((¬ x_2 = 0 → (((σ9.1 223 16) ≤ 0 → (∀ σ10 : zSto, σ10 = zI σ9 227 0 (-1 : Int32) → ((¬ (σ10.1 226 0) = 0 → P (0 : Int32) σ10) ∧ ((σ10.1 226 0) = 0 → P (1 : Int32) σ10)))) ∧ (¬ (σ9.1 223 16) ≤ 0 → (∀ σ11 : zSto, σ11 = zI σ9 227 0 (σ9.1 223 17) → ((¬ (σ11.1 226 0) = 0 → P (0 : Int32) σ11) ∧ ((σ11.1 226 0) = 0 → P (1 : Int32) σ11)))))) ∧ (x_2 = 0 → (∀ σ12 : zSto, σ12 = zI σ9 227 0 (σ9.1 223 15) → ((¬ (σ12.1 226 0) = 0 → P (0 : Int32) σ12) ∧ ((σ12.1 226 0) = 0 → P (1 : Int32) σ12))))))) ∧ (¬ x_2 = 0 → (∀ σ13 : zSto, σ13 = zI σ 226 0 (σ.1 223 16) → ((¬ x_2 = 0 → (((σ13.1 223 16) ≤ 0 → (∀ σ14 : zSto, σ14 = zI σ13 227 0 (-1 : Int32) → ((¬ (σ14.1 226 0) = 0 → P (0 : Int32) σ14) ∧ ((σ14.1 226 0) = 0 → P (1 : Int32) σ14)))) ∧ (¬ (σ13.1 223 16) ≤ 0 → (∀ σ15 : zSto, σ15 = zI σ13 227 0 (σ13.1 223 17) → ((¬ (σ15.1 226 0) = 0 → P (0 : Int32) σ15) ∧ ((σ15.1 226 0) = 0 → P (1 : Int32) σ15)))))) ∧ (x_2 = 0 → (∀ σ16 : zSto, σ16 = zI σ13 227 0 (σ13.1 223 15) → ((¬ (σ16.1 226 0) = 0 → P (0 : Int32) σ16) ∧ ((σ16.1 226 0) = 0 → P (1 : Int32) σ16))))))))) ∧ (¬ (16 : Int32) ≤ x_3 → ((¬ x_1 = 0 → ((x_2 = 0 → (∀ σ17 : zSto, σ17 = zI σ 226 0 (1 : Int32) → ((¬ x_2 = 0 → (((σ17.1 223 16) ≤ 0 → (∀ σ18 : zSto, σ18 = zI σ17 227 0 (-1 : Int32) → ((¬ (σ18.1 226 0) = 0 → P (0 : Int32) σ18) ∧ ((σ18.1 226 0) = 0 → P (1 : Int32) σ18)))) ∧ (¬ (σ17.1 223 16) ≤ 0 → (∀ σ19 : zSto, σ19 = zI σ17 227 0 (σ17.1 223 17) → ((¬ (σ19.1 226 0) = 0 → P (0 : Int32) σ19) ∧ ((σ19.1 226 0) = 0 → P (1 : Int32) σ19)))))) ∧ (x_2 = 0 → (∀ σ20 : zSto, σ20 = zI σ17 227 0 (σ17.1 223 15) → ((¬ (σ20.1 226 0) = 0 → P (0 : Int32) σ20) ∧ ((σ20.1 226 0) = 0 → P (1 : Int32) σ20))))))) ∧ (¬ x_2 = 0 → (∀ σ21 : zSto, σ21 = zI σ 226 0 (σ.1 223 16) → ((¬ x_2 = 0 → (((σ21.1 223 16) ≤ 0 → (∀ σ22 : zSto, σ22 = zI σ21 227 0 (-1 : Int32) → ((¬ (σ22.1 226 0) = 0 → P (0 : Int32) σ22) ∧ ((σ22.1 226 0) = 0 → P (1 : Int32) σ22)))) ∧ (¬ (σ21.1 223 16) ≤ 0 → (∀ σ23 : zSto, σ23 = zI σ21 227 0 (σ21.1 223 17) → ((¬ (σ23.1 226 0) = 0 → P (0 : Int32) σ23) ∧ ((σ23.1 226 0) = 0 → P (1 : Int32) σ23)))))) ∧ (x_2 = 0 → (∀ σ24 : zSto, σ24 = zI σ21 227 0 (σ21.1 223 15) → ((¬ (σ24.1 226 0) = 0 → P (0 : Int32) σ24) ∧ ((σ24.1 226 0) = 0 → P (1 : Int32) σ24))))))))) ∧ (x_1 = 0 → (vp_in x_3 16 ∧ (vp_in (((7 : Int32) + ((5 : Int32) * x_3)) + (3 : Int32)) 123 ∧ (∀ σ27 : zSto, σ27 = zI σ 232 ((((7 : Int32) + ((5 : Int32) * x_3)) + (3 : Int32))).toNatClampNeg (σ.1 234 (x_3).toNatClampNeg) → (vp_in x_3 16 ∧ (vp_in (((7 : Int32) + ((5 : Int32) * x_3)) + (4 : Int32)) 123 ∧ (∀ σ30 : zSto, σ30 = zI σ27 232 ((((7 : Int32) + ((5 : Int32) * x_3)) + (4 : Int32))).toNatClampNeg (σ27.1 235 (x_3).toNatClampNeg) → (∀ x31 : Int32, x31 = (x_3 + (1 : Int32)) → w_X10_readText_154 x_1 x_2 P n x31 σ30)))))))))))
def w_X10_readText_23 (x_1 : Int32) (P : Int32 → zSto → Prop)  : Nat → Int32 → zSto → Prop
  | 0, _, _ => False
  | n + 1, x_2, σ => (((16 : Int32) ≤ x_2 → ((¬ x_1 = 0 → (∀ σ1 : zSto, σ1 = zI σ 232 2 (0 : Int32) → ((¬ x_1 = 0 → (∀ σ2 : zSto, σ2 = zI σ1 232 6 (0 : Int32) → (∀ σ3 : zSto, σ3 = zI σ2 223 22 (-1 : Int32) → (∀ σ4 : zSto, σ4 = zI σ3 223 9 (0 : Int32) → (∀ σ5 : zSto, σ5 = zI σ4 223 16 (0 : Int32) → (w_X10_token  σ5 (fun (σ6 : zSto) => (w_X10_textLines x_1 σ6 (fun (r8 : Int32) (σ7 : zSto) => (r8 = 0 ∨ r8 = 1) → ((r8 = 0 → (∃ n2 : Nat, w_X10_readText_154 x_1 r8 P  n2 (0 : Int32) σ7)) ∧ (¬ r8 = 0 → ((¬ x_1 = 0 → (∃ n2 : Nat, w_X10_readText_154 x_1 r8 P  n2 (0 : Int32) σ7)) ∧ (x_1 = 0 → ((¬ (σ7.1 223 16) = 0 → (∃ n2 : Nat, w_X10_readText_154 x_1 r8 P  n2 (0 : Int32) σ7)) ∧ ((σ7.1 223 16) = 0 → (((σ7.1 232 0) ≤ (σ7.1 223 22) → (w_X10_later (4 : Int32) (σ7.1 223 11) σ7 (fun (σ32 : zSto) => (∃ n2 : Nat, w_X10_readText_154 x_1 r8 P  n2 (0 : Int32) σ32)))) ∧ (¬ (σ7.1 232 0) ≤ (σ7.1 223 22) → (((2 : Int32) ≤ (σ7.1 232 0) → (∃ n2 : Nat, w_X10_readText_154 x_1 r8 P  n2 (0 : Int32) σ7)) ∧ (¬ (2 : Int32) ≤ (σ7.1 232 0) → (w_X10_later (4 : Int32) (σ7.1 223 11) σ7 (fun (σ33 : zSto) => (∃ n2 : Nat, w_X10_readText_154 x_1 r8 P  n2 (0 : Int32) σ33)))))))))))))))))))))) ∧ (x_1 = 0 → (∀ σ34 : zSto, σ34 = zI σ1 232 6 (-1 : Int32) → (∀ σ35 : zSto, σ35 = zI σ34 223 22 (-1 : Int32) → (∀ σ36 : zSto, σ36 = zI σ35 223 9 (0 : Int32) → (∀ σ37 : zSto, σ37 = zI σ36 223 16 (0 : Int32) → (w_X10_token  σ37 (fun (σ38 : zSto) => (w_X10_textLines x_1 σ38 (fun (r40 : Int32) (σ39 : zSto) => (r40 = 0 ∨ r40 = 1) → ((r40 = 0 → (∃ n2 : Nat, w_X10_readText_154 x_1 r40 P  n2 (0 : Int32) σ39)) ∧ (¬ r40 = 0 → ((¬ x_1 = 0 → (∃ n2 : Nat, w_X10_readText_154 x_1 r40 P  n2 (0 : Int32) σ39)) ∧ (x_1 = 0 → ((¬ (σ39.1 223 16) = 0 → (∃ n2 : Nat, w_X10_readText_154 x_1 r40 P  n2 (0 : Int32) σ39)) ∧ ((σ39.1 223 16) = 0 → (((σ39.1 232 0) ≤ (σ39.1 223 22) → (w_X10_later (4 : Int32) (σ39.1 223 11) σ39 (fun (σ41 : zSto) => (∃ n2 : Nat, w_X10_readText_154 x_1 r40 P  n2 (0 : Int32) σ41)))) ∧ (¬ (σ39.1 232 0) ≤ (σ39.1 223 22) → (((2 : Int32) ≤ (σ39.1 232 0) → (∃ n2 : Nat, w_X10_readText_154 x_1 r40 P  n2 (0 : Int32) σ39)) ∧ (¬ (2 : Int32) ≤ (σ39.1 232 0) → (w_X10_later (4 : Int32) (σ39.1 223 11) σ39 (fun (σ42 : zSto) => (∃ n2 : Nat, w_X10_readText_154 x_1 r40 P  n2 (0 : Int32) σ42))))))))))))))))))))))))) ∧ (x_1 = 0 → (∀ σ43 : zSto, σ43 = zI σ 232 2 (2 : Int32) → ((¬ x_1 = 0 → (∀ σ44 : zSto, σ44 = zI σ43 232 6 (0 : Int32) → (∀ σ45 : zSto, σ45 = zI σ44 223 22 (-1 : Int32) → (∀ σ46 : zSto, σ46 = zI σ45 223 9 (0 : Int32) → (∀ σ47 : zSto, σ47 = zI σ46 223 16 (0 : Int32) → (w_X10_token  σ47 (fun (σ48 : zSto) => (w_X10_textLines x_1 σ48 (fun (r50 : Int32) (σ49 : zSto) => (r50 = 0 ∨ r50 = 1) → ((r50 = 0 → (∃ n2 : Nat, w_X10_readText_154 x_1 r50 P  n2 (0 : Int32) σ49)) ∧ (¬ r50 = 0 → ((¬ x_1 = 0 → (∃ n2 : Nat, w_X10_readText_154 x_1 r50 P  n2 (0 : Int32) σ49)) ∧ (x_1 = 0 → ((¬ (σ49.1 223 16) = 0 → (∃ n2 : Nat, w_X10_readText_154 x_1 r50 P  n2 (0 : Int32) σ49)) ∧ ((σ49.1 223 16) = 0 → (((σ49.1 232 0) ≤ (σ49.1 223 22) → (w_X10_later (4 : Int32) (σ49.1 223 11) σ49 (fun (σ51 : zSto) => (∃ n2 : Nat, w_X10_readText_154 x_1 r50 P  n2 (0 : Int32) σ51)))) ∧ (¬ (σ49.1 232 0) ≤ (σ49.1 223 22) → (((2 : Int32) ≤ (σ49.1 232 0) → (∃ n2 : Nat, w_X10_readText_154 x_1 r50 P  n2 (0 : Int32) σ49)) ∧ (¬ (2 : Int32) ≤ (σ49.1 232 0) → (w_X10_later (4 : Int32) (σ49.1 223 11) σ49 (fun (σ52 : zSto) => (∃ n2 : Nat, w_X10_readText_154 x_1 r50 P  n2 (0 : Int32) σ52)))))))))))))))))))))) ∧ (x_1 = 0 → (∀ σ53 : zSto, σ53 = zI σ43 232 6 (-1 : Int32) → (∀ σ54 : zSto, σ54 = zI σ53 223 22 (-1 : Int32) → (∀ σ55 : zSto, σ55 = zI σ54 223 9 (0 : Int32) → (∀ σ56 : zSto, σ56 = zI σ55 223 16 (0 : Int32) → (w_X10_token  σ56 (fun (σ57 : zSto) => (w_X10_textLines x_1 σ57 (fun (r59 : Int32) (σ58 : zSto) => (r59 = 0 ∨ r59 = 1) → ((r59 = 0 → (∃ n2 : Nat, w_X10_readText_154 x_1 r59 P  n2 (0 : Int32) σ58)) ∧ (¬ r59 = 0 → ((¬ x_1 = 0 → (∃ n2 : Nat, w_X10_readText_154 x_1 r59 P  n2 (0 : Int32) σ58)) ∧ (x_1 = 0 → ((¬ (σ58.1 223 16) = 0 → (∃ n2 : Nat, w_X10_readText_154 x_1 r59 P  n2 (0 : Int32) σ58)) ∧ ((σ58.1 223 16) = 0 → (((σ58.1 232 0) ≤ (σ58.1 223 22) → (w_X10_later (4 : Int32) (σ58.1 223 11) σ58 (fun (σ60 : zSto) => (∃ n2 : Nat, w_X10_readText_154 x_1 r59 P  n2 (0 : Int32) σ60)))) ∧ (¬ (σ58.1 232 0) ≤ (σ58.1 223 22) → (((2 : Int32) ≤ (σ58.1 232 0) → (∃ n2 : Nat, w_X10_readText_154 x_1 r59 P  n2 (0 : Int32) σ58)) ∧ (¬ (2 : Int32) ≤ (σ58.1 232 0) → (w_X10_later (4 : Int32) (σ58.1 223 11) σ58 (fun (σ61 : zSto) => (∃ n2 : Nat, w_X10_readText_154 x_1 r59 P  n2 (0 : Int32) σ61))))))))))))))))))))))))))) ∧ (¬ (16 : Int32) ≤ x_2 → (vp_in x_2 16 ∧ (∀ σ63 : zSto, σ63 = zI σ 234 (x_2).toNatClampNeg (0 : Int32) → (vp_in x_2 16 ∧ (∀ σ65 : zSto, σ65 = zI σ63 235 (x_2).toNatClampNeg (-1 : Int32) → (∀ x66 : Int32, x66 = (x_2 + (1 : Int32)) → w_X10_readText_23 x_1 P n x66 σ65)))))))
def w_X10_readText_2 (x_1 : Int32) (P : Int32 → zSto → Prop)  : Nat → Int32 → zSto → Prop
  | 0, _, _ => False
  | n + 1, x_2, σ => (((123 : Int32) ≤ x_2 → (∃ n2 : Nat, w_X10_readText_23 x_1 P  n2 (0 : Int32) σ)) ∧ (¬ (123 : Int32) ≤ x_2 → (vp_in x_2 123 ∧ (∀ σ68 : zSto, σ68 = zI σ 232 (x_2).toNatClampNeg (0 : Int32) → (∀ x69 : Int32, x69 = (x_2 + (1 : Int32)) → w_X10_readText_2 x_1 P n x69 σ68)))))
def w_X10_readText (a1 : Int32) (σ : zSto) (P : Int32 → zSto → Prop) : Prop := (∃ n : Nat, w_X10_readText_2 a1 P  n (0 : Int32) σ)
set_option maxRecDepth 100000 in
set_option maxHeartbeats 4000000 in
theorem k_X10_readText_154 {p : Program} {l : Launch} {e : Env} {s : State} {m : MethodId} {args : Array Value} {below : List Frame} {meth : Method} {c : Code} {D : va_G} {cy : Nat → ClassId} {g : Nat → Nat} (C : zC p s m args meth c cX10_readText RX10 4 D cy g) (hr : meth.sig.returnType = (some .boolean)) {P : Int32 → zSto → Prop} (x_1 : Int32) (x_2 : Int32)    : ∀ (n : Nat) (x_3 : Int32) (σ : zSto), w_X10_readText_154 x_1 x_2 P n x_3 σ → zX p l e (zrm 3 70) s m args below meth c 0 0 (zQb P below args s D cy g) 4 D cy g 154 [(0, .ref (g 223)), (1, .int x_1), (2, .int x_2), (3, .int x_3)] [] σ := by
  intro n
  induction n with
  | zero => intro x_3 σ h; exact h.elim
  | succ n ih =>
    intro x_3 σ h
    unfold w_X10_readText_154 at h
    refine zx_iload_n C dX10_readText_154 3 rfl ?_
    refine zx_bipush (v := (16 : Int32)) C dX10_readText_155 (by decide) ?_
    refine zx_icmp_ge C 208 dX10_readText_157 (by decide) (fun q => ?_) (fun q => ?_)
    · replace h := h.1 q
      refine zx_aload_n C dX10_readText_208 0 rfl ?_
      refine zx_getR C zs_223 fg_X10_17 rfl 226 rfl dX10_readText_209 ?_
      refine zx_iconst (v := (0 : Int32)) C dX10_readText_212 (by decide) ?_
      refine zx_iload_n C dX10_readText_213 2 rfl ?_
      refine zx_if_eq C 224 dX10_readText_214 (by decide) (fun q => ?_) (fun q => ?_)
      · replace h := h.1 q
        refine zx_iconst (v := (1 : Int32)) C dX10_readText_224 (by decide) ?_
        refine zx_iast C 0 zs_226 (by unfold vp_in; decide) (by decide) dX10_readText_225 ?_
        refine zx_sig (fun σ9 eσ9 => ?_)
        replace h := h σ9 eσ9
        refine zx_aload_n C dX10_readText_226 0 rfl ?_
        refine zx_getR C zs_223 fg_X10_20 rfl 227 rfl dX10_readText_227 ?_
        refine zx_iconst (v := (0 : Int32)) C dX10_readText_230 (by decide) ?_
        refine zx_iload_n C dX10_readText_231 2 rfl ?_
        refine zx_if_ne C 242 dX10_readText_232 (by decide) (fun q => ?_) (fun q => ?_)
        · replace h := h.1 q
          refine zx_aload_n C dX10_readText_242 0 rfl ?_
          refine zx_getI C zs_223 fg_X10_137 rfl dX10_readText_243 ?_
          refine zx_if_le C 256 dX10_readText_246 (by decide) (fun q => ?_) (fun q => ?_)
          · replace h := h.1 q
            refine zx_iconst (v := (-1 : Int32)) C dX10_readText_256 (by decide) ?_
            refine zx_iast C 0 zs_227 (by unfold vp_in; decide) (by decide) dX10_readText_257 ?_
            refine zx_sig (fun σ10 eσ10 => ?_)
            replace h := h σ10 eσ10
            refine zx_aload_n C dX10_readText_258 0 rfl ?_
            refine zx_getR C zs_223 fg_X10_17 rfl 226 rfl dX10_readText_259 ?_
            refine zx_iconst (v := (0 : Int32)) C dX10_readText_262 (by decide) ?_
            refine zx_iald C 0 zs_226 (by unfold vp_in; decide) (by decide) dX10_readText_263 ?_
            refine zx_if_ne C 271 dX10_readText_264 (by decide) (fun q => ?_) (fun q => ?_)
            · replace h := h.1 q
              refine zx_iconst (v := (0 : Int32)) C dX10_readText_271 (by decide) ?_
              exact zx_zret C hr dX10_readText_272 (Or.inl rfl) h
            · replace h := h.2 q
              refine zx_iconst (v := (1 : Int32)) C dX10_readText_267 (by decide) ?_
              refine zx_goto C 272 dX10_readText_268 (by decide) ?_
              exact zx_zret C hr dX10_readText_272 (Or.inr rfl) h
          · replace h := h.2 q
            refine zx_aload_n C dX10_readText_249 0 rfl ?_
            refine zx_getI C zs_223 fg_X10_140 rfl dX10_readText_250 ?_
            refine zx_goto C 257 dX10_readText_253 (by decide) ?_
            refine zx_iast C 0 zs_227 (by unfold vp_in; decide) (by decide) dX10_readText_257 ?_
            refine zx_sig (fun σ11 eσ11 => ?_)
            replace h := h σ11 eσ11
            refine zx_aload_n C dX10_readText_258 0 rfl ?_
            refine zx_getR C zs_223 fg_X10_17 rfl 226 rfl dX10_readText_259 ?_
            refine zx_iconst (v := (0 : Int32)) C dX10_readText_262 (by decide) ?_
            refine zx_iald C 0 zs_226 (by unfold vp_in; decide) (by decide) dX10_readText_263 ?_
            refine zx_if_ne C 271 dX10_readText_264 (by decide) (fun q => ?_) (fun q => ?_)
            · replace h := h.1 q
              refine zx_iconst (v := (0 : Int32)) C dX10_readText_271 (by decide) ?_
              exact zx_zret C hr dX10_readText_272 (Or.inl rfl) h
            · replace h := h.2 q
              refine zx_iconst (v := (1 : Int32)) C dX10_readText_267 (by decide) ?_
              refine zx_goto C 272 dX10_readText_268 (by decide) ?_
              exact zx_zret C hr dX10_readText_272 (Or.inr rfl) h
        · replace h := h.2 q
          refine zx_aload_n C dX10_readText_235 0 rfl ?_
          refine zx_getI C zs_223 fg_X10_134 rfl dX10_readText_236 ?_
          refine zx_goto C 257 dX10_readText_239 (by decide) ?_
          refine zx_iast C 0 zs_227 (by unfold vp_in; decide) (by decide) dX10_readText_257 ?_
          refine zx_sig (fun σ12 eσ12 => ?_)
          replace h := h σ12 eσ12
          refine zx_aload_n C dX10_readText_258 0 rfl ?_
          refine zx_getR C zs_223 fg_X10_17 rfl 226 rfl dX10_readText_259 ?_
          refine zx_iconst (v := (0 : Int32)) C dX10_readText_262 (by decide) ?_
          refine zx_iald C 0 zs_226 (by unfold vp_in; decide) (by decide) dX10_readText_263 ?_
          refine zx_if_ne C 271 dX10_readText_264 (by decide) (fun q => ?_) (fun q => ?_)
          · replace h := h.1 q
            refine zx_iconst (v := (0 : Int32)) C dX10_readText_271 (by decide) ?_
            exact zx_zret C hr dX10_readText_272 (Or.inl rfl) h
          · replace h := h.2 q
            refine zx_iconst (v := (1 : Int32)) C dX10_readText_267 (by decide) ?_
            refine zx_goto C 272 dX10_readText_268 (by decide) ?_
            exact zx_zret C hr dX10_readText_272 (Or.inr rfl) h
      · replace h := h.2 q
        refine zx_aload_n C dX10_readText_217 0 rfl ?_
        refine zx_getI C zs_223 fg_X10_137 rfl dX10_readText_218 ?_
        refine zx_goto C 225 dX10_readText_221 (by decide) ?_
        refine zx_iast C 0 zs_226 (by unfold vp_in; decide) (by decide) dX10_readText_225 ?_
        refine zx_sig (fun σ13 eσ13 => ?_)
        replace h := h σ13 eσ13
        refine zx_aload_n C dX10_readText_226 0 rfl ?_
        refine zx_getR C zs_223 fg_X10_20 rfl 227 rfl dX10_readText_227 ?_
        refine zx_iconst (v := (0 : Int32)) C dX10_readText_230 (by decide) ?_
        refine zx_iload_n C dX10_readText_231 2 rfl ?_
        refine zx_if_ne C 242 dX10_readText_232 (by decide) (fun q => ?_) (fun q => ?_)
        · replace h := h.1 q
          refine zx_aload_n C dX10_readText_242 0 rfl ?_
          refine zx_getI C zs_223 fg_X10_137 rfl dX10_readText_243 ?_
          refine zx_if_le C 256 dX10_readText_246 (by decide) (fun q => ?_) (fun q => ?_)
          · replace h := h.1 q
            refine zx_iconst (v := (-1 : Int32)) C dX10_readText_256 (by decide) ?_
            refine zx_iast C 0 zs_227 (by unfold vp_in; decide) (by decide) dX10_readText_257 ?_
            refine zx_sig (fun σ14 eσ14 => ?_)
            replace h := h σ14 eσ14
            refine zx_aload_n C dX10_readText_258 0 rfl ?_
            refine zx_getR C zs_223 fg_X10_17 rfl 226 rfl dX10_readText_259 ?_
            refine zx_iconst (v := (0 : Int32)) C dX10_readText_262 (by decide) ?_
            refine zx_iald C 0 zs_226 (by unfold vp_in; decide) (by decide) dX10_readText_263 ?_
            refine zx_if_ne C 271 dX10_readText_264 (by decide) (fun q => ?_) (fun q => ?_)
            · replace h := h.1 q
              refine zx_iconst (v := (0 : Int32)) C dX10_readText_271 (by decide) ?_
              exact zx_zret C hr dX10_readText_272 (Or.inl rfl) h
            · replace h := h.2 q
              refine zx_iconst (v := (1 : Int32)) C dX10_readText_267 (by decide) ?_
              refine zx_goto C 272 dX10_readText_268 (by decide) ?_
              exact zx_zret C hr dX10_readText_272 (Or.inr rfl) h
          · replace h := h.2 q
            refine zx_aload_n C dX10_readText_249 0 rfl ?_
            refine zx_getI C zs_223 fg_X10_140 rfl dX10_readText_250 ?_
            refine zx_goto C 257 dX10_readText_253 (by decide) ?_
            refine zx_iast C 0 zs_227 (by unfold vp_in; decide) (by decide) dX10_readText_257 ?_
            refine zx_sig (fun σ15 eσ15 => ?_)
            replace h := h σ15 eσ15
            refine zx_aload_n C dX10_readText_258 0 rfl ?_
            refine zx_getR C zs_223 fg_X10_17 rfl 226 rfl dX10_readText_259 ?_
            refine zx_iconst (v := (0 : Int32)) C dX10_readText_262 (by decide) ?_
            refine zx_iald C 0 zs_226 (by unfold vp_in; decide) (by decide) dX10_readText_263 ?_
            refine zx_if_ne C 271 dX10_readText_264 (by decide) (fun q => ?_) (fun q => ?_)
            · replace h := h.1 q
              refine zx_iconst (v := (0 : Int32)) C dX10_readText_271 (by decide) ?_
              exact zx_zret C hr dX10_readText_272 (Or.inl rfl) h
            · replace h := h.2 q
              refine zx_iconst (v := (1 : Int32)) C dX10_readText_267 (by decide) ?_
              refine zx_goto C 272 dX10_readText_268 (by decide) ?_
              exact zx_zret C hr dX10_readText_272 (Or.inr rfl) h
        · replace h := h.2 q
          refine zx_aload_n C dX10_readText_235 0 rfl ?_
          refine zx_getI C zs_223 fg_X10_134 rfl dX10_readText_236 ?_
          refine zx_goto C 257 dX10_readText_239 (by decide) ?_
          refine zx_iast C 0 zs_227 (by unfold vp_in; decide) (by decide) dX10_readText_257 ?_
          refine zx_sig (fun σ16 eσ16 => ?_)
          replace h := h σ16 eσ16
          refine zx_aload_n C dX10_readText_258 0 rfl ?_
          refine zx_getR C zs_223 fg_X10_17 rfl 226 rfl dX10_readText_259 ?_
          refine zx_iconst (v := (0 : Int32)) C dX10_readText_262 (by decide) ?_
          refine zx_iald C 0 zs_226 (by unfold vp_in; decide) (by decide) dX10_readText_263 ?_
          refine zx_if_ne C 271 dX10_readText_264 (by decide) (fun q => ?_) (fun q => ?_)
          · replace h := h.1 q
            refine zx_iconst (v := (0 : Int32)) C dX10_readText_271 (by decide) ?_
            exact zx_zret C hr dX10_readText_272 (Or.inl rfl) h
          · replace h := h.2 q
            refine zx_iconst (v := (1 : Int32)) C dX10_readText_267 (by decide) ?_
            refine zx_goto C 272 dX10_readText_268 (by decide) ?_
            exact zx_zret C hr dX10_readText_272 (Or.inr rfl) h
    · replace h := h.2 q
      refine zx_iload_n C dX10_readText_160 1 rfl ?_
      refine zx_if_ne C 208 dX10_readText_161 (by decide) (fun q => ?_) (fun q => ?_)
      · replace h := h.1 q
        refine zx_aload_n C dX10_readText_208 0 rfl ?_
        refine zx_getR C zs_223 fg_X10_17 rfl 226 rfl dX10_readText_209 ?_
        refine zx_iconst (v := (0 : Int32)) C dX10_readText_212 (by decide) ?_
        refine zx_iload_n C dX10_readText_213 2 rfl ?_
        refine zx_if_eq C 224 dX10_readText_214 (by decide) (fun q => ?_) (fun q => ?_)
        · replace h := h.1 q
          refine zx_iconst (v := (1 : Int32)) C dX10_readText_224 (by decide) ?_
          refine zx_iast C 0 zs_226 (by unfold vp_in; decide) (by decide) dX10_readText_225 ?_
          refine zx_sig (fun σ17 eσ17 => ?_)
          replace h := h σ17 eσ17
          refine zx_aload_n C dX10_readText_226 0 rfl ?_
          refine zx_getR C zs_223 fg_X10_20 rfl 227 rfl dX10_readText_227 ?_
          refine zx_iconst (v := (0 : Int32)) C dX10_readText_230 (by decide) ?_
          refine zx_iload_n C dX10_readText_231 2 rfl ?_
          refine zx_if_ne C 242 dX10_readText_232 (by decide) (fun q => ?_) (fun q => ?_)
          · replace h := h.1 q
            refine zx_aload_n C dX10_readText_242 0 rfl ?_
            refine zx_getI C zs_223 fg_X10_137 rfl dX10_readText_243 ?_
            refine zx_if_le C 256 dX10_readText_246 (by decide) (fun q => ?_) (fun q => ?_)
            · replace h := h.1 q
              refine zx_iconst (v := (-1 : Int32)) C dX10_readText_256 (by decide) ?_
              refine zx_iast C 0 zs_227 (by unfold vp_in; decide) (by decide) dX10_readText_257 ?_
              refine zx_sig (fun σ18 eσ18 => ?_)
              replace h := h σ18 eσ18
              refine zx_aload_n C dX10_readText_258 0 rfl ?_
              refine zx_getR C zs_223 fg_X10_17 rfl 226 rfl dX10_readText_259 ?_
              refine zx_iconst (v := (0 : Int32)) C dX10_readText_262 (by decide) ?_
              refine zx_iald C 0 zs_226 (by unfold vp_in; decide) (by decide) dX10_readText_263 ?_
              refine zx_if_ne C 271 dX10_readText_264 (by decide) (fun q => ?_) (fun q => ?_)
              · replace h := h.1 q
                refine zx_iconst (v := (0 : Int32)) C dX10_readText_271 (by decide) ?_
                exact zx_zret C hr dX10_readText_272 (Or.inl rfl) h
              · replace h := h.2 q
                refine zx_iconst (v := (1 : Int32)) C dX10_readText_267 (by decide) ?_
                refine zx_goto C 272 dX10_readText_268 (by decide) ?_
                exact zx_zret C hr dX10_readText_272 (Or.inr rfl) h
            · replace h := h.2 q
              refine zx_aload_n C dX10_readText_249 0 rfl ?_
              refine zx_getI C zs_223 fg_X10_140 rfl dX10_readText_250 ?_
              refine zx_goto C 257 dX10_readText_253 (by decide) ?_
              refine zx_iast C 0 zs_227 (by unfold vp_in; decide) (by decide) dX10_readText_257 ?_
              refine zx_sig (fun σ19 eσ19 => ?_)
              replace h := h σ19 eσ19
              refine zx_aload_n C dX10_readText_258 0 rfl ?_
              refine zx_getR C zs_223 fg_X10_17 rfl 226 rfl dX10_readText_259 ?_
              refine zx_iconst (v := (0 : Int32)) C dX10_readText_262 (by decide) ?_
              refine zx_iald C 0 zs_226 (by unfold vp_in; decide) (by decide) dX10_readText_263 ?_
              refine zx_if_ne C 271 dX10_readText_264 (by decide) (fun q => ?_) (fun q => ?_)
              · replace h := h.1 q
                refine zx_iconst (v := (0 : Int32)) C dX10_readText_271 (by decide) ?_
                exact zx_zret C hr dX10_readText_272 (Or.inl rfl) h
              · replace h := h.2 q
                refine zx_iconst (v := (1 : Int32)) C dX10_readText_267 (by decide) ?_
                refine zx_goto C 272 dX10_readText_268 (by decide) ?_
                exact zx_zret C hr dX10_readText_272 (Or.inr rfl) h
          · replace h := h.2 q
            refine zx_aload_n C dX10_readText_235 0 rfl ?_
            refine zx_getI C zs_223 fg_X10_134 rfl dX10_readText_236 ?_
            refine zx_goto C 257 dX10_readText_239 (by decide) ?_
            refine zx_iast C 0 zs_227 (by unfold vp_in; decide) (by decide) dX10_readText_257 ?_
            refine zx_sig (fun σ20 eσ20 => ?_)
            replace h := h σ20 eσ20
            refine zx_aload_n C dX10_readText_258 0 rfl ?_
            refine zx_getR C zs_223 fg_X10_17 rfl 226 rfl dX10_readText_259 ?_
            refine zx_iconst (v := (0 : Int32)) C dX10_readText_262 (by decide) ?_
            refine zx_iald C 0 zs_226 (by unfold vp_in; decide) (by decide) dX10_readText_263 ?_
            refine zx_if_ne C 271 dX10_readText_264 (by decide) (fun q => ?_) (fun q => ?_)
            · replace h := h.1 q
              refine zx_iconst (v := (0 : Int32)) C dX10_readText_271 (by decide) ?_
              exact zx_zret C hr dX10_readText_272 (Or.inl rfl) h
            · replace h := h.2 q
              refine zx_iconst (v := (1 : Int32)) C dX10_readText_267 (by decide) ?_
              refine zx_goto C 272 dX10_readText_268 (by decide) ?_
              exact zx_zret C hr dX10_readText_272 (Or.inr rfl) h
        · replace h := h.2 q
          refine zx_aload_n C dX10_readText_217 0 rfl ?_
          refine zx_getI C zs_223 fg_X10_137 rfl dX10_readText_218 ?_
          refine zx_goto C 225 dX10_readText_221 (by decide) ?_
          refine zx_iast C 0 zs_226 (by unfold vp_in; decide) (by decide) dX10_readText_225 ?_
          refine zx_sig (fun σ21 eσ21 => ?_)
          replace h := h σ21 eσ21
          refine zx_aload_n C dX10_readText_226 0 rfl ?_
          refine zx_getR C zs_223 fg_X10_20 rfl 227 rfl dX10_readText_227 ?_
          refine zx_iconst (v := (0 : Int32)) C dX10_readText_230 (by decide) ?_
          refine zx_iload_n C dX10_readText_231 2 rfl ?_
          refine zx_if_ne C 242 dX10_readText_232 (by decide) (fun q => ?_) (fun q => ?_)
          · replace h := h.1 q
            refine zx_aload_n C dX10_readText_242 0 rfl ?_
            refine zx_getI C zs_223 fg_X10_137 rfl dX10_readText_243 ?_
            refine zx_if_le C 256 dX10_readText_246 (by decide) (fun q => ?_) (fun q => ?_)
            · replace h := h.1 q
              refine zx_iconst (v := (-1 : Int32)) C dX10_readText_256 (by decide) ?_
              refine zx_iast C 0 zs_227 (by unfold vp_in; decide) (by decide) dX10_readText_257 ?_
              refine zx_sig (fun σ22 eσ22 => ?_)
              replace h := h σ22 eσ22
              refine zx_aload_n C dX10_readText_258 0 rfl ?_
              refine zx_getR C zs_223 fg_X10_17 rfl 226 rfl dX10_readText_259 ?_
              refine zx_iconst (v := (0 : Int32)) C dX10_readText_262 (by decide) ?_
              refine zx_iald C 0 zs_226 (by unfold vp_in; decide) (by decide) dX10_readText_263 ?_
              refine zx_if_ne C 271 dX10_readText_264 (by decide) (fun q => ?_) (fun q => ?_)
              · replace h := h.1 q
                refine zx_iconst (v := (0 : Int32)) C dX10_readText_271 (by decide) ?_
                exact zx_zret C hr dX10_readText_272 (Or.inl rfl) h
              · replace h := h.2 q
                refine zx_iconst (v := (1 : Int32)) C dX10_readText_267 (by decide) ?_
                refine zx_goto C 272 dX10_readText_268 (by decide) ?_
                exact zx_zret C hr dX10_readText_272 (Or.inr rfl) h
            · replace h := h.2 q
              refine zx_aload_n C dX10_readText_249 0 rfl ?_
              refine zx_getI C zs_223 fg_X10_140 rfl dX10_readText_250 ?_
              refine zx_goto C 257 dX10_readText_253 (by decide) ?_
              refine zx_iast C 0 zs_227 (by unfold vp_in; decide) (by decide) dX10_readText_257 ?_
              refine zx_sig (fun σ23 eσ23 => ?_)
              replace h := h σ23 eσ23
              refine zx_aload_n C dX10_readText_258 0 rfl ?_
              refine zx_getR C zs_223 fg_X10_17 rfl 226 rfl dX10_readText_259 ?_
              refine zx_iconst (v := (0 : Int32)) C dX10_readText_262 (by decide) ?_
              refine zx_iald C 0 zs_226 (by unfold vp_in; decide) (by decide) dX10_readText_263 ?_
              refine zx_if_ne C 271 dX10_readText_264 (by decide) (fun q => ?_) (fun q => ?_)
              · replace h := h.1 q
                refine zx_iconst (v := (0 : Int32)) C dX10_readText_271 (by decide) ?_
                exact zx_zret C hr dX10_readText_272 (Or.inl rfl) h
              · replace h := h.2 q
                refine zx_iconst (v := (1 : Int32)) C dX10_readText_267 (by decide) ?_
                refine zx_goto C 272 dX10_readText_268 (by decide) ?_
                exact zx_zret C hr dX10_readText_272 (Or.inr rfl) h
          · replace h := h.2 q
            refine zx_aload_n C dX10_readText_235 0 rfl ?_
            refine zx_getI C zs_223 fg_X10_134 rfl dX10_readText_236 ?_
            refine zx_goto C 257 dX10_readText_239 (by decide) ?_
            refine zx_iast C 0 zs_227 (by unfold vp_in; decide) (by decide) dX10_readText_257 ?_
            refine zx_sig (fun σ24 eσ24 => ?_)
            replace h := h σ24 eσ24
            refine zx_aload_n C dX10_readText_258 0 rfl ?_
            refine zx_getR C zs_223 fg_X10_17 rfl 226 rfl dX10_readText_259 ?_
            refine zx_iconst (v := (0 : Int32)) C dX10_readText_262 (by decide) ?_
            refine zx_iald C 0 zs_226 (by unfold vp_in; decide) (by decide) dX10_readText_263 ?_
            refine zx_if_ne C 271 dX10_readText_264 (by decide) (fun q => ?_) (fun q => ?_)
            · replace h := h.1 q
              refine zx_iconst (v := (0 : Int32)) C dX10_readText_271 (by decide) ?_
              exact zx_zret C hr dX10_readText_272 (Or.inl rfl) h
            · replace h := h.2 q
              refine zx_iconst (v := (1 : Int32)) C dX10_readText_267 (by decide) ?_
              refine zx_goto C 272 dX10_readText_268 (by decide) ?_
              exact zx_zret C hr dX10_readText_272 (Or.inr rfl) h
      · replace h := h.2 q
        refine zx_aload_n C dX10_readText_164 0 rfl ?_
        refine zx_getR C zs_223 fg_X10_35 rfl 232 rfl dX10_readText_165 ?_
        refine zx_bipush (v := (7 : Int32)) C dX10_readText_168 (by decide) ?_
        refine zx_iconst (v := (5 : Int32)) C dX10_readText_170 (by decide) ?_
        refine zx_iload_n C dX10_readText_171 3 rfl ?_
        refine zx_imul C dX10_readText_172 ?_
        refine zx_iadd C dX10_readText_173 ?_
        refine zx_iconst (v := (3 : Int32)) C dX10_readText_174 (by decide) ?_
        refine zx_iadd C dX10_readText_175 ?_
        refine zx_aload_n C dX10_readText_176 0 rfl ?_
        refine zx_getR C zs_223 fg_X10_41 rfl 234 rfl dX10_readText_177 ?_
        refine zx_iload_n C dX10_readText_180 3 rfl ?_
        obtain ⟨bd25, h⟩ := h
        refine zx_iald C (x_3).toNatClampNeg zs_234 bd25 rfl dX10_readText_181 ?_
        obtain ⟨bd26, h⟩ := h
        refine zx_iast C ((((7 : Int32) + ((5 : Int32) * x_3)) + (3 : Int32))).toNatClampNeg zs_232 bd26 rfl dX10_readText_182 ?_
        refine zx_sig (fun σ27 eσ27 => ?_)
        replace h := h σ27 eσ27
        refine zx_aload_n C dX10_readText_183 0 rfl ?_
        refine zx_getR C zs_223 fg_X10_35 rfl 232 rfl dX10_readText_184 ?_
        refine zx_bipush (v := (7 : Int32)) C dX10_readText_187 (by decide) ?_
        refine zx_iconst (v := (5 : Int32)) C dX10_readText_189 (by decide) ?_
        refine zx_iload_n C dX10_readText_190 3 rfl ?_
        refine zx_imul C dX10_readText_191 ?_
        refine zx_iadd C dX10_readText_192 ?_
        refine zx_iconst (v := (4 : Int32)) C dX10_readText_193 (by decide) ?_
        refine zx_iadd C dX10_readText_194 ?_
        refine zx_aload_n C dX10_readText_195 0 rfl ?_
        refine zx_getR C zs_223 fg_X10_44 rfl 235 rfl dX10_readText_196 ?_
        refine zx_iload_n C dX10_readText_199 3 rfl ?_
        obtain ⟨bd28, h⟩ := h
        refine zx_iald C (x_3).toNatClampNeg zs_235 bd28 rfl dX10_readText_200 ?_
        obtain ⟨bd29, h⟩ := h
        refine zx_iast C ((((7 : Int32) + ((5 : Int32) * x_3)) + (4 : Int32))).toNatClampNeg zs_232 bd29 rfl dX10_readText_201 ?_
        refine zx_sig (fun σ30 eσ30 => ?_)
        replace h := h σ30 eσ30
        obtain ⟨x31, ex31⟩ : ∃ y : Int32, y = (x_3 + (1 : Int32)) := ⟨_, rfl⟩
        replace h := h x31 ex31
        refine zx_iinc (v := x31) (lv' := [(3, .int x31), (0, .ref (g 223)), (1, .int x_1), (2, .int x_2)]) C dX10_readText_202 3 rfl (by rw [ex31]; rfl) (by decide) rfl ?_
        refine zx_goto C 154 dX10_readText_205 (by decide) ?_
        refine zx_lv (lv' := [(0, .ref (g 223)), (1, .int x_1), (2, .int x_2), (3, .int x31)]) [1, 2, 3, 0] rfl ?_
        exact ih x31 σ30 h
set_option maxRecDepth 100000 in
set_option maxHeartbeats 4000000 in
theorem k_X10_readText_23 {p : Program} {l : Launch} {e : Env} {s : State} {m : MethodId} {args : Array Value} {below : List Frame} {meth : Method} {c : Code} {D : va_G} {cy : Nat → ClassId} {g : Nat → Nat} (C : zC p s m args meth c cX10_readText RX10 4 D cy g) (hr : meth.sig.returnType = (some .boolean)) {P : Int32 → zSto → Prop} (x_1 : Int32)    : ∀ (n : Nat) (x_2 : Int32) (σ : zSto), w_X10_readText_23 x_1 P n x_2 σ → zX p l e (zrm 3 70) s m args below meth c 0 0 (zQb P below args s D cy g) 4 D cy g 23 [(0, .ref (g 223)), (1, .int x_1), (2, .int x_2)] [] σ := by
  intro n
  induction n with
  | zero => intro x_2 σ h; exact h.elim
  | succ n ih =>
    intro x_2 σ h
    unfold w_X10_readText_23 at h
    refine zx_iload_n C dX10_readText_23 2 rfl ?_
    refine zx_bipush (v := (16 : Int32)) C dX10_readText_24 (by decide) ?_
    refine zx_icmp_ge C 49 dX10_readText_26 (by decide) (fun q => ?_) (fun q => ?_)
    · replace h := h.1 q
      refine zx_aload_n C dX10_readText_49 0 rfl ?_
      refine zx_getR C zs_223 fg_X10_35 rfl 232 rfl dX10_readText_50 ?_
      refine zx_iconst (v := (2 : Int32)) C dX10_readText_53 (by decide) ?_
      refine zx_iload_n C dX10_readText_54 1 rfl ?_
      refine zx_if_ne C 62 dX10_readText_55 (by decide) (fun q => ?_) (fun q => ?_)
      · replace h := h.1 q
        refine zx_iconst (v := (0 : Int32)) C dX10_readText_62 (by decide) ?_
        refine zx_iast C 2 zs_232 (by unfold vp_in; decide) (by decide) dX10_readText_63 ?_
        refine zx_sig (fun σ1 eσ1 => ?_)
        replace h := h σ1 eσ1
        refine zx_aload_n C dX10_readText_64 0 rfl ?_
        refine zx_getR C zs_223 fg_X10_35 rfl 232 rfl dX10_readText_65 ?_
        refine zx_bipush (v := (6 : Int32)) C dX10_readText_68 (by decide) ?_
        refine zx_iload_n C dX10_readText_70 1 rfl ?_
        refine zx_if_ne C 78 dX10_readText_71 (by decide) (fun q => ?_) (fun q => ?_)
        · replace h := h.1 q
          refine zx_iconst (v := (0 : Int32)) C dX10_readText_78 (by decide) ?_
          refine zx_iast C 6 zs_232 (by unfold vp_in; decide) (by decide) dX10_readText_79 ?_
          refine zx_sig (fun σ2 eσ2 => ?_)
          replace h := h σ2 eσ2
          refine zx_aload_n C dX10_readText_80 0 rfl ?_
          refine zx_iconst (v := (-1 : Int32)) C dX10_readText_81 (by decide) ?_
          refine zx_putI C zs_223 fp_X10_157 rfl dX10_readText_82 ?_
          refine zx_sig (fun σ3 eσ3 => ?_)
          replace h := h σ3 eσ3
          refine zx_aload_n C dX10_readText_85 0 rfl ?_
          refine zx_iconst (v := (0 : Int32)) C dX10_readText_86 (by decide) ?_
          refine zx_putI C zs_223 fp_X10_111 rfl dX10_readText_87 ?_
          refine zx_sig (fun σ4 eσ4 => ?_)
          replace h := h σ4 eσ4
          refine zx_aload_n C dX10_readText_90 0 rfl ?_
          refine zx_iconst (v := (0 : Int32)) C dX10_readText_91 (by decide) ?_
          refine zx_putI C zs_223 fp_X10_137 rfl dX10_readText_92 ?_
          refine zx_sig (fun σ5 eσ5 => ?_)
          replace h := h σ5 eσ5
          refine zx_aload_n C dX10_readText_95 0 rfl ?_
          refine zx_cVv C [] lk_X10_151 (c_X10_token l D cy g   σ5 h) zs_223 rfl ⟨by decide, by decide⟩ ⟨rfl, rfl⟩ ⟨Nat.zero_le _, Nat.zero_le _⟩ rfl rfl (Nat.le_of_ble_eq_true rfl) dX10_readText_96 (fun σ6 h => ?_)
          refine zx_aload_n C dX10_readText_99 0 rfl ?_
          refine zx_iload_n C dX10_readText_100 1 rfl ?_
          refine zx_cVb C [.int x_1] lk_X10_221 (c_X10_textLines l D cy g x_1  σ6 h) zs_223 rfl ⟨by decide, by decide⟩ ⟨rfl, rfl⟩ ⟨Nat.zero_le _, Nat.zero_le _⟩ rfl rfl (Nat.le_of_ble_eq_true rfl) dX10_readText_101 (fun r8 σ7 hb h => ?_)
          replace h := h hb
          refine zx_istore_n (lv' := [(2, .int r8), (0, .ref (g 223)), (1, .int x_1)]) C dX10_readText_104 (by decide) rfl ?_
          refine zx_iload_n C dX10_readText_105 0 rfl ?_
          refine zx_if_eq C 152 dX10_readText_106 (by decide) (fun q => ?_) (fun q => ?_)
          · replace h := h.1 q
            refine zx_iconst (v := (0 : Int32)) C dX10_readText_152 (by decide) ?_
            refine zx_istore_n (lv' := [(3, .int (0 : Int32)), (2, .int r8), (0, .ref (g 223)), (1, .int x_1)]) C dX10_readText_153 (by decide) rfl ?_
            obtain ⟨n2, h⟩ := h
            refine zx_lv (lv' := [(0, .ref (g 223)), (1, .int x_1), (2, .int r8), (3, .int (0 : Int32))]) [2, 3, 1, 0] rfl ?_
            exact k_X10_readText_154 C hr (x_1) (r8)   n2 (0 : Int32) σ7 h
          · replace h := h.2 q
            refine zx_iload_n C dX10_readText_109 2 rfl ?_
            refine zx_if_ne C 152 dX10_readText_110 (by decide) (fun q => ?_) (fun q => ?_)
            · replace h := h.1 q
              refine zx_iconst (v := (0 : Int32)) C dX10_readText_152 (by decide) ?_
              refine zx_istore_n (lv' := [(3, .int (0 : Int32)), (2, .int r8), (0, .ref (g 223)), (1, .int x_1)]) C dX10_readText_153 (by decide) rfl ?_
              obtain ⟨n2, h⟩ := h
              refine zx_lv (lv' := [(0, .ref (g 223)), (1, .int x_1), (2, .int r8), (3, .int (0 : Int32))]) [2, 3, 1, 0] rfl ?_
              exact k_X10_readText_154 C hr (x_1) (r8)   n2 (0 : Int32) σ7 h
            · replace h := h.2 q
              refine zx_aload_n C dX10_readText_113 1 rfl ?_
              refine zx_getI C zs_223 fg_X10_137 rfl dX10_readText_114 ?_
              refine zx_if_ne C 152 dX10_readText_117 (by decide) (fun q => ?_) (fun q => ?_)
              · replace h := h.1 q
                refine zx_iconst (v := (0 : Int32)) C dX10_readText_152 (by decide) ?_
                refine zx_istore_n (lv' := [(3, .int (0 : Int32)), (2, .int r8), (0, .ref (g 223)), (1, .int x_1)]) C dX10_readText_153 (by decide) rfl ?_
                obtain ⟨n2, h⟩ := h
                refine zx_lv (lv' := [(0, .ref (g 223)), (1, .int x_1), (2, .int r8), (3, .int (0 : Int32))]) [2, 3, 1, 0] rfl ?_
                exact k_X10_readText_154 C hr (x_1) (r8)   n2 (0 : Int32) σ7 h
              · replace h := h.2 q
                refine zx_aload_n C dX10_readText_120 1 rfl ?_
                refine zx_getI C zs_223 fg_X10_157 rfl dX10_readText_121 ?_
                refine zx_aload_n C dX10_readText_124 1 rfl ?_
                refine zx_getR C zs_223 fg_X10_35 rfl 232 rfl dX10_readText_125 ?_
                refine zx_iconst (v := (0 : Int32)) C dX10_readText_128 (by decide) ?_
                refine zx_iald C 0 zs_232 (by unfold vp_in; decide) (by decide) dX10_readText_129 ?_
                refine zx_icmp_ge C 143 dX10_readText_130 (by decide) (fun q => ?_) (fun q => ?_)
                · replace h := h.1 q
                  refine zx_aload_n C dX10_readText_143 1 rfl ?_
                  refine zx_iconst (v := (4 : Int32)) C dX10_readText_144 (by decide) ?_
                  refine zx_aload_n C dX10_readText_145 1 rfl ?_
                  refine zx_getI C zs_223 fg_X10_121 rfl dX10_readText_146 ?_
                  refine zx_cVv C [.int (4 : Int32), .int (σ7.1 223 11)] lk_X10_147 (c_X10_later l D cy g (4 : Int32) (σ7.1 223 11)  σ7 h) zs_223 rfl ⟨by decide, by decide⟩ ⟨rfl, rfl⟩ ⟨Nat.zero_le _, Nat.zero_le _⟩ rfl rfl (Nat.le_of_ble_eq_true rfl) dX10_readText_149 (fun σ32 h => ?_)
                  refine zx_iconst (v := (0 : Int32)) C dX10_readText_152 (by decide) ?_
                  refine zx_istore_n (lv' := [(3, .int (0 : Int32)), (2, .int r8), (0, .ref (g 223)), (1, .int x_1)]) C dX10_readText_153 (by decide) rfl ?_
                  obtain ⟨n2, h⟩ := h
                  refine zx_lv (lv' := [(0, .ref (g 223)), (1, .int x_1), (2, .int r8), (3, .int (0 : Int32))]) [2, 3, 1, 0] rfl ?_
                  exact k_X10_readText_154 C hr (x_1) (r8)   n2 (0 : Int32) σ32 h
                · replace h := h.2 q
                  refine zx_aload_n C dX10_readText_133 1 rfl ?_
                  refine zx_getR C zs_223 fg_X10_35 rfl 232 rfl dX10_readText_134 ?_
                  refine zx_iconst (v := (0 : Int32)) C dX10_readText_137 (by decide) ?_
                  refine zx_iald C 0 zs_232 (by unfold vp_in; decide) (by decide) dX10_readText_138 ?_
                  refine zx_iconst (v := (2 : Int32)) C dX10_readText_139 (by decide) ?_
                  refine zx_icmp_ge C 152 dX10_readText_140 (by decide) (fun q => ?_) (fun q => ?_)
                  · replace h := h.1 q
                    refine zx_iconst (v := (0 : Int32)) C dX10_readText_152 (by decide) ?_
                    refine zx_istore_n (lv' := [(3, .int (0 : Int32)), (2, .int r8), (0, .ref (g 223)), (1, .int x_1)]) C dX10_readText_153 (by decide) rfl ?_
                    obtain ⟨n2, h⟩ := h
                    refine zx_lv (lv' := [(0, .ref (g 223)), (1, .int x_1), (2, .int r8), (3, .int (0 : Int32))]) [2, 3, 1, 0] rfl ?_
                    exact k_X10_readText_154 C hr (x_1) (r8)   n2 (0 : Int32) σ7 h
                  · replace h := h.2 q
                    refine zx_aload_n C dX10_readText_143 1 rfl ?_
                    refine zx_iconst (v := (4 : Int32)) C dX10_readText_144 (by decide) ?_
                    refine zx_aload_n C dX10_readText_145 1 rfl ?_
                    refine zx_getI C zs_223 fg_X10_121 rfl dX10_readText_146 ?_
                    refine zx_cVv C [.int (4 : Int32), .int (σ7.1 223 11)] lk_X10_147 (c_X10_later l D cy g (4 : Int32) (σ7.1 223 11)  σ7 h) zs_223 rfl ⟨by decide, by decide⟩ ⟨rfl, rfl⟩ ⟨Nat.zero_le _, Nat.zero_le _⟩ rfl rfl (Nat.le_of_ble_eq_true rfl) dX10_readText_149 (fun σ33 h => ?_)
                    refine zx_iconst (v := (0 : Int32)) C dX10_readText_152 (by decide) ?_
                    refine zx_istore_n (lv' := [(3, .int (0 : Int32)), (2, .int r8), (0, .ref (g 223)), (1, .int x_1)]) C dX10_readText_153 (by decide) rfl ?_
                    obtain ⟨n2, h⟩ := h
                    refine zx_lv (lv' := [(0, .ref (g 223)), (1, .int x_1), (2, .int r8), (3, .int (0 : Int32))]) [2, 3, 1, 0] rfl ?_
                    exact k_X10_readText_154 C hr (x_1) (r8)   n2 (0 : Int32) σ33 h
        · replace h := h.2 q
          refine zx_iconst (v := (-1 : Int32)) C dX10_readText_74 (by decide) ?_
          refine zx_goto C 79 dX10_readText_75 (by decide) ?_
          refine zx_iast C 6 zs_232 (by unfold vp_in; decide) (by decide) dX10_readText_79 ?_
          refine zx_sig (fun σ34 eσ34 => ?_)
          replace h := h σ34 eσ34
          refine zx_aload_n C dX10_readText_80 0 rfl ?_
          refine zx_iconst (v := (-1 : Int32)) C dX10_readText_81 (by decide) ?_
          refine zx_putI C zs_223 fp_X10_157 rfl dX10_readText_82 ?_
          refine zx_sig (fun σ35 eσ35 => ?_)
          replace h := h σ35 eσ35
          refine zx_aload_n C dX10_readText_85 0 rfl ?_
          refine zx_iconst (v := (0 : Int32)) C dX10_readText_86 (by decide) ?_
          refine zx_putI C zs_223 fp_X10_111 rfl dX10_readText_87 ?_
          refine zx_sig (fun σ36 eσ36 => ?_)
          replace h := h σ36 eσ36
          refine zx_aload_n C dX10_readText_90 0 rfl ?_
          refine zx_iconst (v := (0 : Int32)) C dX10_readText_91 (by decide) ?_
          refine zx_putI C zs_223 fp_X10_137 rfl dX10_readText_92 ?_
          refine zx_sig (fun σ37 eσ37 => ?_)
          replace h := h σ37 eσ37
          refine zx_aload_n C dX10_readText_95 0 rfl ?_
          refine zx_cVv C [] lk_X10_151 (c_X10_token l D cy g   σ37 h) zs_223 rfl ⟨by decide, by decide⟩ ⟨rfl, rfl⟩ ⟨Nat.zero_le _, Nat.zero_le _⟩ rfl rfl (Nat.le_of_ble_eq_true rfl) dX10_readText_96 (fun σ38 h => ?_)
          refine zx_aload_n C dX10_readText_99 0 rfl ?_
          refine zx_iload_n C dX10_readText_100 1 rfl ?_
          refine zx_cVb C [.int x_1] lk_X10_221 (c_X10_textLines l D cy g x_1  σ38 h) zs_223 rfl ⟨by decide, by decide⟩ ⟨rfl, rfl⟩ ⟨Nat.zero_le _, Nat.zero_le _⟩ rfl rfl (Nat.le_of_ble_eq_true rfl) dX10_readText_101 (fun r40 σ39 hb h => ?_)
          replace h := h hb
          refine zx_istore_n (lv' := [(2, .int r40), (0, .ref (g 223)), (1, .int x_1)]) C dX10_readText_104 (by decide) rfl ?_
          refine zx_iload_n C dX10_readText_105 0 rfl ?_
          refine zx_if_eq C 152 dX10_readText_106 (by decide) (fun q => ?_) (fun q => ?_)
          · replace h := h.1 q
            refine zx_iconst (v := (0 : Int32)) C dX10_readText_152 (by decide) ?_
            refine zx_istore_n (lv' := [(3, .int (0 : Int32)), (2, .int r40), (0, .ref (g 223)), (1, .int x_1)]) C dX10_readText_153 (by decide) rfl ?_
            obtain ⟨n2, h⟩ := h
            refine zx_lv (lv' := [(0, .ref (g 223)), (1, .int x_1), (2, .int r40), (3, .int (0 : Int32))]) [2, 3, 1, 0] rfl ?_
            exact k_X10_readText_154 C hr (x_1) (r40)   n2 (0 : Int32) σ39 h
          · replace h := h.2 q
            refine zx_iload_n C dX10_readText_109 2 rfl ?_
            refine zx_if_ne C 152 dX10_readText_110 (by decide) (fun q => ?_) (fun q => ?_)
            · replace h := h.1 q
              refine zx_iconst (v := (0 : Int32)) C dX10_readText_152 (by decide) ?_
              refine zx_istore_n (lv' := [(3, .int (0 : Int32)), (2, .int r40), (0, .ref (g 223)), (1, .int x_1)]) C dX10_readText_153 (by decide) rfl ?_
              obtain ⟨n2, h⟩ := h
              refine zx_lv (lv' := [(0, .ref (g 223)), (1, .int x_1), (2, .int r40), (3, .int (0 : Int32))]) [2, 3, 1, 0] rfl ?_
              exact k_X10_readText_154 C hr (x_1) (r40)   n2 (0 : Int32) σ39 h
            · replace h := h.2 q
              refine zx_aload_n C dX10_readText_113 1 rfl ?_
              refine zx_getI C zs_223 fg_X10_137 rfl dX10_readText_114 ?_
              refine zx_if_ne C 152 dX10_readText_117 (by decide) (fun q => ?_) (fun q => ?_)
              · replace h := h.1 q
                refine zx_iconst (v := (0 : Int32)) C dX10_readText_152 (by decide) ?_
                refine zx_istore_n (lv' := [(3, .int (0 : Int32)), (2, .int r40), (0, .ref (g 223)), (1, .int x_1)]) C dX10_readText_153 (by decide) rfl ?_
                obtain ⟨n2, h⟩ := h
                refine zx_lv (lv' := [(0, .ref (g 223)), (1, .int x_1), (2, .int r40), (3, .int (0 : Int32))]) [2, 3, 1, 0] rfl ?_
                exact k_X10_readText_154 C hr (x_1) (r40)   n2 (0 : Int32) σ39 h
              · replace h := h.2 q
                refine zx_aload_n C dX10_readText_120 1 rfl ?_
                refine zx_getI C zs_223 fg_X10_157 rfl dX10_readText_121 ?_
                refine zx_aload_n C dX10_readText_124 1 rfl ?_
                refine zx_getR C zs_223 fg_X10_35 rfl 232 rfl dX10_readText_125 ?_
                refine zx_iconst (v := (0 : Int32)) C dX10_readText_128 (by decide) ?_
                refine zx_iald C 0 zs_232 (by unfold vp_in; decide) (by decide) dX10_readText_129 ?_
                refine zx_icmp_ge C 143 dX10_readText_130 (by decide) (fun q => ?_) (fun q => ?_)
                · replace h := h.1 q
                  refine zx_aload_n C dX10_readText_143 1 rfl ?_
                  refine zx_iconst (v := (4 : Int32)) C dX10_readText_144 (by decide) ?_
                  refine zx_aload_n C dX10_readText_145 1 rfl ?_
                  refine zx_getI C zs_223 fg_X10_121 rfl dX10_readText_146 ?_
                  refine zx_cVv C [.int (4 : Int32), .int (σ39.1 223 11)] lk_X10_147 (c_X10_later l D cy g (4 : Int32) (σ39.1 223 11)  σ39 h) zs_223 rfl ⟨by decide, by decide⟩ ⟨rfl, rfl⟩ ⟨Nat.zero_le _, Nat.zero_le _⟩ rfl rfl (Nat.le_of_ble_eq_true rfl) dX10_readText_149 (fun σ41 h => ?_)
                  refine zx_iconst (v := (0 : Int32)) C dX10_readText_152 (by decide) ?_
                  refine zx_istore_n (lv' := [(3, .int (0 : Int32)), (2, .int r40), (0, .ref (g 223)), (1, .int x_1)]) C dX10_readText_153 (by decide) rfl ?_
                  obtain ⟨n2, h⟩ := h
                  refine zx_lv (lv' := [(0, .ref (g 223)), (1, .int x_1), (2, .int r40), (3, .int (0 : Int32))]) [2, 3, 1, 0] rfl ?_
                  exact k_X10_readText_154 C hr (x_1) (r40)   n2 (0 : Int32) σ41 h
                · replace h := h.2 q
                  refine zx_aload_n C dX10_readText_133 1 rfl ?_
                  refine zx_getR C zs_223 fg_X10_35 rfl 232 rfl dX10_readText_134 ?_
                  refine zx_iconst (v := (0 : Int32)) C dX10_readText_137 (by decide) ?_
                  refine zx_iald C 0 zs_232 (by unfold vp_in; decide) (by decide) dX10_readText_138 ?_
                  refine zx_iconst (v := (2 : Int32)) C dX10_readText_139 (by decide) ?_
                  refine zx_icmp_ge C 152 dX10_readText_140 (by decide) (fun q => ?_) (fun q => ?_)
                  · replace h := h.1 q
                    refine zx_iconst (v := (0 : Int32)) C dX10_readText_152 (by decide) ?_
                    refine zx_istore_n (lv' := [(3, .int (0 : Int32)), (2, .int r40), (0, .ref (g 223)), (1, .int x_1)]) C dX10_readText_153 (by decide) rfl ?_
                    obtain ⟨n2, h⟩ := h
                    refine zx_lv (lv' := [(0, .ref (g 223)), (1, .int x_1), (2, .int r40), (3, .int (0 : Int32))]) [2, 3, 1, 0] rfl ?_
                    exact k_X10_readText_154 C hr (x_1) (r40)   n2 (0 : Int32) σ39 h
                  · replace h := h.2 q
                    refine zx_aload_n C dX10_readText_143 1 rfl ?_
                    refine zx_iconst (v := (4 : Int32)) C dX10_readText_144 (by decide) ?_
                    refine zx_aload_n C dX10_readText_145 1 rfl ?_
                    refine zx_getI C zs_223 fg_X10_121 rfl dX10_readText_146 ?_
                    refine zx_cVv C [.int (4 : Int32), .int (σ39.1 223 11)] lk_X10_147 (c_X10_later l D cy g (4 : Int32) (σ39.1 223 11)  σ39 h) zs_223 rfl ⟨by decide, by decide⟩ ⟨rfl, rfl⟩ ⟨Nat.zero_le _, Nat.zero_le _⟩ rfl rfl (Nat.le_of_ble_eq_true rfl) dX10_readText_149 (fun σ42 h => ?_)
                    refine zx_iconst (v := (0 : Int32)) C dX10_readText_152 (by decide) ?_
                    refine zx_istore_n (lv' := [(3, .int (0 : Int32)), (2, .int r40), (0, .ref (g 223)), (1, .int x_1)]) C dX10_readText_153 (by decide) rfl ?_
                    obtain ⟨n2, h⟩ := h
                    refine zx_lv (lv' := [(0, .ref (g 223)), (1, .int x_1), (2, .int r40), (3, .int (0 : Int32))]) [2, 3, 1, 0] rfl ?_
                    exact k_X10_readText_154 C hr (x_1) (r40)   n2 (0 : Int32) σ42 h
      · replace h := h.2 q
        refine zx_iconst (v := (2 : Int32)) C dX10_readText_58 (by decide) ?_
        refine zx_goto C 63 dX10_readText_59 (by decide) ?_
        refine zx_iast C 2 zs_232 (by unfold vp_in; decide) (by decide) dX10_readText_63 ?_
        refine zx_sig (fun σ43 eσ43 => ?_)
        replace h := h σ43 eσ43
        refine zx_aload_n C dX10_readText_64 0 rfl ?_
        refine zx_getR C zs_223 fg_X10_35 rfl 232 rfl dX10_readText_65 ?_
        refine zx_bipush (v := (6 : Int32)) C dX10_readText_68 (by decide) ?_
        refine zx_iload_n C dX10_readText_70 1 rfl ?_
        refine zx_if_ne C 78 dX10_readText_71 (by decide) (fun q => ?_) (fun q => ?_)
        · replace h := h.1 q
          refine zx_iconst (v := (0 : Int32)) C dX10_readText_78 (by decide) ?_
          refine zx_iast C 6 zs_232 (by unfold vp_in; decide) (by decide) dX10_readText_79 ?_
          refine zx_sig (fun σ44 eσ44 => ?_)
          replace h := h σ44 eσ44
          refine zx_aload_n C dX10_readText_80 0 rfl ?_
          refine zx_iconst (v := (-1 : Int32)) C dX10_readText_81 (by decide) ?_
          refine zx_putI C zs_223 fp_X10_157 rfl dX10_readText_82 ?_
          refine zx_sig (fun σ45 eσ45 => ?_)
          replace h := h σ45 eσ45
          refine zx_aload_n C dX10_readText_85 0 rfl ?_
          refine zx_iconst (v := (0 : Int32)) C dX10_readText_86 (by decide) ?_
          refine zx_putI C zs_223 fp_X10_111 rfl dX10_readText_87 ?_
          refine zx_sig (fun σ46 eσ46 => ?_)
          replace h := h σ46 eσ46
          refine zx_aload_n C dX10_readText_90 0 rfl ?_
          refine zx_iconst (v := (0 : Int32)) C dX10_readText_91 (by decide) ?_
          refine zx_putI C zs_223 fp_X10_137 rfl dX10_readText_92 ?_
          refine zx_sig (fun σ47 eσ47 => ?_)
          replace h := h σ47 eσ47
          refine zx_aload_n C dX10_readText_95 0 rfl ?_
          refine zx_cVv C [] lk_X10_151 (c_X10_token l D cy g   σ47 h) zs_223 rfl ⟨by decide, by decide⟩ ⟨rfl, rfl⟩ ⟨Nat.zero_le _, Nat.zero_le _⟩ rfl rfl (Nat.le_of_ble_eq_true rfl) dX10_readText_96 (fun σ48 h => ?_)
          refine zx_aload_n C dX10_readText_99 0 rfl ?_
          refine zx_iload_n C dX10_readText_100 1 rfl ?_
          refine zx_cVb C [.int x_1] lk_X10_221 (c_X10_textLines l D cy g x_1  σ48 h) zs_223 rfl ⟨by decide, by decide⟩ ⟨rfl, rfl⟩ ⟨Nat.zero_le _, Nat.zero_le _⟩ rfl rfl (Nat.le_of_ble_eq_true rfl) dX10_readText_101 (fun r50 σ49 hb h => ?_)
          replace h := h hb
          refine zx_istore_n (lv' := [(2, .int r50), (0, .ref (g 223)), (1, .int x_1)]) C dX10_readText_104 (by decide) rfl ?_
          refine zx_iload_n C dX10_readText_105 0 rfl ?_
          refine zx_if_eq C 152 dX10_readText_106 (by decide) (fun q => ?_) (fun q => ?_)
          · replace h := h.1 q
            refine zx_iconst (v := (0 : Int32)) C dX10_readText_152 (by decide) ?_
            refine zx_istore_n (lv' := [(3, .int (0 : Int32)), (2, .int r50), (0, .ref (g 223)), (1, .int x_1)]) C dX10_readText_153 (by decide) rfl ?_
            obtain ⟨n2, h⟩ := h
            refine zx_lv (lv' := [(0, .ref (g 223)), (1, .int x_1), (2, .int r50), (3, .int (0 : Int32))]) [2, 3, 1, 0] rfl ?_
            exact k_X10_readText_154 C hr (x_1) (r50)   n2 (0 : Int32) σ49 h
          · replace h := h.2 q
            refine zx_iload_n C dX10_readText_109 2 rfl ?_
            refine zx_if_ne C 152 dX10_readText_110 (by decide) (fun q => ?_) (fun q => ?_)
            · replace h := h.1 q
              refine zx_iconst (v := (0 : Int32)) C dX10_readText_152 (by decide) ?_
              refine zx_istore_n (lv' := [(3, .int (0 : Int32)), (2, .int r50), (0, .ref (g 223)), (1, .int x_1)]) C dX10_readText_153 (by decide) rfl ?_
              obtain ⟨n2, h⟩ := h
              refine zx_lv (lv' := [(0, .ref (g 223)), (1, .int x_1), (2, .int r50), (3, .int (0 : Int32))]) [2, 3, 1, 0] rfl ?_
              exact k_X10_readText_154 C hr (x_1) (r50)   n2 (0 : Int32) σ49 h
            · replace h := h.2 q
              refine zx_aload_n C dX10_readText_113 1 rfl ?_
              refine zx_getI C zs_223 fg_X10_137 rfl dX10_readText_114 ?_
              refine zx_if_ne C 152 dX10_readText_117 (by decide) (fun q => ?_) (fun q => ?_)
              · replace h := h.1 q
                refine zx_iconst (v := (0 : Int32)) C dX10_readText_152 (by decide) ?_
                refine zx_istore_n (lv' := [(3, .int (0 : Int32)), (2, .int r50), (0, .ref (g 223)), (1, .int x_1)]) C dX10_readText_153 (by decide) rfl ?_
                obtain ⟨n2, h⟩ := h
                refine zx_lv (lv' := [(0, .ref (g 223)), (1, .int x_1), (2, .int r50), (3, .int (0 : Int32))]) [2, 3, 1, 0] rfl ?_
                exact k_X10_readText_154 C hr (x_1) (r50)   n2 (0 : Int32) σ49 h
              · replace h := h.2 q
                refine zx_aload_n C dX10_readText_120 1 rfl ?_
                refine zx_getI C zs_223 fg_X10_157 rfl dX10_readText_121 ?_
                refine zx_aload_n C dX10_readText_124 1 rfl ?_
                refine zx_getR C zs_223 fg_X10_35 rfl 232 rfl dX10_readText_125 ?_
                refine zx_iconst (v := (0 : Int32)) C dX10_readText_128 (by decide) ?_
                refine zx_iald C 0 zs_232 (by unfold vp_in; decide) (by decide) dX10_readText_129 ?_
                refine zx_icmp_ge C 143 dX10_readText_130 (by decide) (fun q => ?_) (fun q => ?_)
                · replace h := h.1 q
                  refine zx_aload_n C dX10_readText_143 1 rfl ?_
                  refine zx_iconst (v := (4 : Int32)) C dX10_readText_144 (by decide) ?_
                  refine zx_aload_n C dX10_readText_145 1 rfl ?_
                  refine zx_getI C zs_223 fg_X10_121 rfl dX10_readText_146 ?_
                  refine zx_cVv C [.int (4 : Int32), .int (σ49.1 223 11)] lk_X10_147 (c_X10_later l D cy g (4 : Int32) (σ49.1 223 11)  σ49 h) zs_223 rfl ⟨by decide, by decide⟩ ⟨rfl, rfl⟩ ⟨Nat.zero_le _, Nat.zero_le _⟩ rfl rfl (Nat.le_of_ble_eq_true rfl) dX10_readText_149 (fun σ51 h => ?_)
                  refine zx_iconst (v := (0 : Int32)) C dX10_readText_152 (by decide) ?_
                  refine zx_istore_n (lv' := [(3, .int (0 : Int32)), (2, .int r50), (0, .ref (g 223)), (1, .int x_1)]) C dX10_readText_153 (by decide) rfl ?_
                  obtain ⟨n2, h⟩ := h
                  refine zx_lv (lv' := [(0, .ref (g 223)), (1, .int x_1), (2, .int r50), (3, .int (0 : Int32))]) [2, 3, 1, 0] rfl ?_
                  exact k_X10_readText_154 C hr (x_1) (r50)   n2 (0 : Int32) σ51 h
                · replace h := h.2 q
                  refine zx_aload_n C dX10_readText_133 1 rfl ?_
                  refine zx_getR C zs_223 fg_X10_35 rfl 232 rfl dX10_readText_134 ?_
                  refine zx_iconst (v := (0 : Int32)) C dX10_readText_137 (by decide) ?_
                  refine zx_iald C 0 zs_232 (by unfold vp_in; decide) (by decide) dX10_readText_138 ?_
                  refine zx_iconst (v := (2 : Int32)) C dX10_readText_139 (by decide) ?_
                  refine zx_icmp_ge C 152 dX10_readText_140 (by decide) (fun q => ?_) (fun q => ?_)
                  · replace h := h.1 q
                    refine zx_iconst (v := (0 : Int32)) C dX10_readText_152 (by decide) ?_
                    refine zx_istore_n (lv' := [(3, .int (0 : Int32)), (2, .int r50), (0, .ref (g 223)), (1, .int x_1)]) C dX10_readText_153 (by decide) rfl ?_
                    obtain ⟨n2, h⟩ := h
                    refine zx_lv (lv' := [(0, .ref (g 223)), (1, .int x_1), (2, .int r50), (3, .int (0 : Int32))]) [2, 3, 1, 0] rfl ?_
                    exact k_X10_readText_154 C hr (x_1) (r50)   n2 (0 : Int32) σ49 h
                  · replace h := h.2 q
                    refine zx_aload_n C dX10_readText_143 1 rfl ?_
                    refine zx_iconst (v := (4 : Int32)) C dX10_readText_144 (by decide) ?_
                    refine zx_aload_n C dX10_readText_145 1 rfl ?_
                    refine zx_getI C zs_223 fg_X10_121 rfl dX10_readText_146 ?_
                    refine zx_cVv C [.int (4 : Int32), .int (σ49.1 223 11)] lk_X10_147 (c_X10_later l D cy g (4 : Int32) (σ49.1 223 11)  σ49 h) zs_223 rfl ⟨by decide, by decide⟩ ⟨rfl, rfl⟩ ⟨Nat.zero_le _, Nat.zero_le _⟩ rfl rfl (Nat.le_of_ble_eq_true rfl) dX10_readText_149 (fun σ52 h => ?_)
                    refine zx_iconst (v := (0 : Int32)) C dX10_readText_152 (by decide) ?_
                    refine zx_istore_n (lv' := [(3, .int (0 : Int32)), (2, .int r50), (0, .ref (g 223)), (1, .int x_1)]) C dX10_readText_153 (by decide) rfl ?_
                    obtain ⟨n2, h⟩ := h
                    refine zx_lv (lv' := [(0, .ref (g 223)), (1, .int x_1), (2, .int r50), (3, .int (0 : Int32))]) [2, 3, 1, 0] rfl ?_
                    exact k_X10_readText_154 C hr (x_1) (r50)   n2 (0 : Int32) σ52 h
        · replace h := h.2 q
          refine zx_iconst (v := (-1 : Int32)) C dX10_readText_74 (by decide) ?_
          refine zx_goto C 79 dX10_readText_75 (by decide) ?_
          refine zx_iast C 6 zs_232 (by unfold vp_in; decide) (by decide) dX10_readText_79 ?_
          refine zx_sig (fun σ53 eσ53 => ?_)
          replace h := h σ53 eσ53
          refine zx_aload_n C dX10_readText_80 0 rfl ?_
          refine zx_iconst (v := (-1 : Int32)) C dX10_readText_81 (by decide) ?_
          refine zx_putI C zs_223 fp_X10_157 rfl dX10_readText_82 ?_
          refine zx_sig (fun σ54 eσ54 => ?_)
          replace h := h σ54 eσ54
          refine zx_aload_n C dX10_readText_85 0 rfl ?_
          refine zx_iconst (v := (0 : Int32)) C dX10_readText_86 (by decide) ?_
          refine zx_putI C zs_223 fp_X10_111 rfl dX10_readText_87 ?_
          refine zx_sig (fun σ55 eσ55 => ?_)
          replace h := h σ55 eσ55
          refine zx_aload_n C dX10_readText_90 0 rfl ?_
          refine zx_iconst (v := (0 : Int32)) C dX10_readText_91 (by decide) ?_
          refine zx_putI C zs_223 fp_X10_137 rfl dX10_readText_92 ?_
          refine zx_sig (fun σ56 eσ56 => ?_)
          replace h := h σ56 eσ56
          refine zx_aload_n C dX10_readText_95 0 rfl ?_
          refine zx_cVv C [] lk_X10_151 (c_X10_token l D cy g   σ56 h) zs_223 rfl ⟨by decide, by decide⟩ ⟨rfl, rfl⟩ ⟨Nat.zero_le _, Nat.zero_le _⟩ rfl rfl (Nat.le_of_ble_eq_true rfl) dX10_readText_96 (fun σ57 h => ?_)
          refine zx_aload_n C dX10_readText_99 0 rfl ?_
          refine zx_iload_n C dX10_readText_100 1 rfl ?_
          refine zx_cVb C [.int x_1] lk_X10_221 (c_X10_textLines l D cy g x_1  σ57 h) zs_223 rfl ⟨by decide, by decide⟩ ⟨rfl, rfl⟩ ⟨Nat.zero_le _, Nat.zero_le _⟩ rfl rfl (Nat.le_of_ble_eq_true rfl) dX10_readText_101 (fun r59 σ58 hb h => ?_)
          replace h := h hb
          refine zx_istore_n (lv' := [(2, .int r59), (0, .ref (g 223)), (1, .int x_1)]) C dX10_readText_104 (by decide) rfl ?_
          refine zx_iload_n C dX10_readText_105 0 rfl ?_
          refine zx_if_eq C 152 dX10_readText_106 (by decide) (fun q => ?_) (fun q => ?_)
          · replace h := h.1 q
            refine zx_iconst (v := (0 : Int32)) C dX10_readText_152 (by decide) ?_
            refine zx_istore_n (lv' := [(3, .int (0 : Int32)), (2, .int r59), (0, .ref (g 223)), (1, .int x_1)]) C dX10_readText_153 (by decide) rfl ?_
            obtain ⟨n2, h⟩ := h
            refine zx_lv (lv' := [(0, .ref (g 223)), (1, .int x_1), (2, .int r59), (3, .int (0 : Int32))]) [2, 3, 1, 0] rfl ?_
            exact k_X10_readText_154 C hr (x_1) (r59)   n2 (0 : Int32) σ58 h
          · replace h := h.2 q
            refine zx_iload_n C dX10_readText_109 2 rfl ?_
            refine zx_if_ne C 152 dX10_readText_110 (by decide) (fun q => ?_) (fun q => ?_)
            · replace h := h.1 q
              refine zx_iconst (v := (0 : Int32)) C dX10_readText_152 (by decide) ?_
              refine zx_istore_n (lv' := [(3, .int (0 : Int32)), (2, .int r59), (0, .ref (g 223)), (1, .int x_1)]) C dX10_readText_153 (by decide) rfl ?_
              obtain ⟨n2, h⟩ := h
              refine zx_lv (lv' := [(0, .ref (g 223)), (1, .int x_1), (2, .int r59), (3, .int (0 : Int32))]) [2, 3, 1, 0] rfl ?_
              exact k_X10_readText_154 C hr (x_1) (r59)   n2 (0 : Int32) σ58 h
            · replace h := h.2 q
              refine zx_aload_n C dX10_readText_113 1 rfl ?_
              refine zx_getI C zs_223 fg_X10_137 rfl dX10_readText_114 ?_
              refine zx_if_ne C 152 dX10_readText_117 (by decide) (fun q => ?_) (fun q => ?_)
              · replace h := h.1 q
                refine zx_iconst (v := (0 : Int32)) C dX10_readText_152 (by decide) ?_
                refine zx_istore_n (lv' := [(3, .int (0 : Int32)), (2, .int r59), (0, .ref (g 223)), (1, .int x_1)]) C dX10_readText_153 (by decide) rfl ?_
                obtain ⟨n2, h⟩ := h
                refine zx_lv (lv' := [(0, .ref (g 223)), (1, .int x_1), (2, .int r59), (3, .int (0 : Int32))]) [2, 3, 1, 0] rfl ?_
                exact k_X10_readText_154 C hr (x_1) (r59)   n2 (0 : Int32) σ58 h
              · replace h := h.2 q
                refine zx_aload_n C dX10_readText_120 1 rfl ?_
                refine zx_getI C zs_223 fg_X10_157 rfl dX10_readText_121 ?_
                refine zx_aload_n C dX10_readText_124 1 rfl ?_
                refine zx_getR C zs_223 fg_X10_35 rfl 232 rfl dX10_readText_125 ?_
                refine zx_iconst (v := (0 : Int32)) C dX10_readText_128 (by decide) ?_
                refine zx_iald C 0 zs_232 (by unfold vp_in; decide) (by decide) dX10_readText_129 ?_
                refine zx_icmp_ge C 143 dX10_readText_130 (by decide) (fun q => ?_) (fun q => ?_)
                · replace h := h.1 q
                  refine zx_aload_n C dX10_readText_143 1 rfl ?_
                  refine zx_iconst (v := (4 : Int32)) C dX10_readText_144 (by decide) ?_
                  refine zx_aload_n C dX10_readText_145 1 rfl ?_
                  refine zx_getI C zs_223 fg_X10_121 rfl dX10_readText_146 ?_
                  refine zx_cVv C [.int (4 : Int32), .int (σ58.1 223 11)] lk_X10_147 (c_X10_later l D cy g (4 : Int32) (σ58.1 223 11)  σ58 h) zs_223 rfl ⟨by decide, by decide⟩ ⟨rfl, rfl⟩ ⟨Nat.zero_le _, Nat.zero_le _⟩ rfl rfl (Nat.le_of_ble_eq_true rfl) dX10_readText_149 (fun σ60 h => ?_)
                  refine zx_iconst (v := (0 : Int32)) C dX10_readText_152 (by decide) ?_
                  refine zx_istore_n (lv' := [(3, .int (0 : Int32)), (2, .int r59), (0, .ref (g 223)), (1, .int x_1)]) C dX10_readText_153 (by decide) rfl ?_
                  obtain ⟨n2, h⟩ := h
                  refine zx_lv (lv' := [(0, .ref (g 223)), (1, .int x_1), (2, .int r59), (3, .int (0 : Int32))]) [2, 3, 1, 0] rfl ?_
                  exact k_X10_readText_154 C hr (x_1) (r59)   n2 (0 : Int32) σ60 h
                · replace h := h.2 q
                  refine zx_aload_n C dX10_readText_133 1 rfl ?_
                  refine zx_getR C zs_223 fg_X10_35 rfl 232 rfl dX10_readText_134 ?_
                  refine zx_iconst (v := (0 : Int32)) C dX10_readText_137 (by decide) ?_
                  refine zx_iald C 0 zs_232 (by unfold vp_in; decide) (by decide) dX10_readText_138 ?_
                  refine zx_iconst (v := (2 : Int32)) C dX10_readText_139 (by decide) ?_
                  refine zx_icmp_ge C 152 dX10_readText_140 (by decide) (fun q => ?_) (fun q => ?_)
                  · replace h := h.1 q
                    refine zx_iconst (v := (0 : Int32)) C dX10_readText_152 (by decide) ?_
                    refine zx_istore_n (lv' := [(3, .int (0 : Int32)), (2, .int r59), (0, .ref (g 223)), (1, .int x_1)]) C dX10_readText_153 (by decide) rfl ?_
                    obtain ⟨n2, h⟩ := h
                    refine zx_lv (lv' := [(0, .ref (g 223)), (1, .int x_1), (2, .int r59), (3, .int (0 : Int32))]) [2, 3, 1, 0] rfl ?_
                    exact k_X10_readText_154 C hr (x_1) (r59)   n2 (0 : Int32) σ58 h
                  · replace h := h.2 q
                    refine zx_aload_n C dX10_readText_143 1 rfl ?_
                    refine zx_iconst (v := (4 : Int32)) C dX10_readText_144 (by decide) ?_
                    refine zx_aload_n C dX10_readText_145 1 rfl ?_
                    refine zx_getI C zs_223 fg_X10_121 rfl dX10_readText_146 ?_
                    refine zx_cVv C [.int (4 : Int32), .int (σ58.1 223 11)] lk_X10_147 (c_X10_later l D cy g (4 : Int32) (σ58.1 223 11)  σ58 h) zs_223 rfl ⟨by decide, by decide⟩ ⟨rfl, rfl⟩ ⟨Nat.zero_le _, Nat.zero_le _⟩ rfl rfl (Nat.le_of_ble_eq_true rfl) dX10_readText_149 (fun σ61 h => ?_)
                    refine zx_iconst (v := (0 : Int32)) C dX10_readText_152 (by decide) ?_
                    refine zx_istore_n (lv' := [(3, .int (0 : Int32)), (2, .int r59), (0, .ref (g 223)), (1, .int x_1)]) C dX10_readText_153 (by decide) rfl ?_
                    obtain ⟨n2, h⟩ := h
                    refine zx_lv (lv' := [(0, .ref (g 223)), (1, .int x_1), (2, .int r59), (3, .int (0 : Int32))]) [2, 3, 1, 0] rfl ?_
                    exact k_X10_readText_154 C hr (x_1) (r59)   n2 (0 : Int32) σ61 h
    · replace h := h.2 q
      refine zx_aload_n C dX10_readText_29 0 rfl ?_
      refine zx_getR C zs_223 fg_X10_41 rfl 234 rfl dX10_readText_30 ?_
      refine zx_iload_n C dX10_readText_33 2 rfl ?_
      refine zx_iconst (v := (0 : Int32)) C dX10_readText_34 (by decide) ?_
      obtain ⟨bd62, h⟩ := h
      refine zx_iast C (x_2).toNatClampNeg zs_234 bd62 rfl dX10_readText_35 ?_
      refine zx_sig (fun σ63 eσ63 => ?_)
      replace h := h σ63 eσ63
      refine zx_aload_n C dX10_readText_36 0 rfl ?_
      refine zx_getR C zs_223 fg_X10_44 rfl 235 rfl dX10_readText_37 ?_
      refine zx_iload_n C dX10_readText_40 2 rfl ?_
      refine zx_iconst (v := (-1 : Int32)) C dX10_readText_41 (by decide) ?_
      obtain ⟨bd64, h⟩ := h
      refine zx_iast C (x_2).toNatClampNeg zs_235 bd64 rfl dX10_readText_42 ?_
      refine zx_sig (fun σ65 eσ65 => ?_)
      replace h := h σ65 eσ65
      obtain ⟨x66, ex66⟩ : ∃ y : Int32, y = (x_2 + (1 : Int32)) := ⟨_, rfl⟩
      replace h := h x66 ex66
      refine zx_iinc (v := x66) (lv' := [(2, .int x66), (0, .ref (g 223)), (1, .int x_1)]) C dX10_readText_43 2 rfl (by rw [ex66]; rfl) (by decide) rfl ?_
      refine zx_goto C 23 dX10_readText_46 (by decide) ?_
      refine zx_lv (lv' := [(0, .ref (g 223)), (1, .int x_1), (2, .int x66)]) [1, 2, 0] rfl ?_
      exact ih x66 σ65 h
set_option maxRecDepth 100000 in
set_option maxHeartbeats 4000000 in
theorem k_X10_readText_2 {p : Program} {l : Launch} {e : Env} {s : State} {m : MethodId} {args : Array Value} {below : List Frame} {meth : Method} {c : Code} {D : va_G} {cy : Nat → ClassId} {g : Nat → Nat} (C : zC p s m args meth c cX10_readText RX10 4 D cy g) (hr : meth.sig.returnType = (some .boolean)) {P : Int32 → zSto → Prop} (x_1 : Int32)    : ∀ (n : Nat) (x_2 : Int32) (σ : zSto), w_X10_readText_2 x_1 P n x_2 σ → zX p l e (zrm 3 70) s m args below meth c 0 0 (zQb P below args s D cy g) 4 D cy g 2 [(0, .ref (g 223)), (1, .int x_1), (2, .int x_2)] [] σ := by
  intro n
  induction n with
  | zero => intro x_2 σ h; exact h.elim
  | succ n ih =>
    intro x_2 σ h
    unfold w_X10_readText_2 at h
    refine zx_iload_n C dX10_readText_2 2 rfl ?_
    refine zx_bipush (v := (123 : Int32)) C dX10_readText_3 (by decide) ?_
    refine zx_icmp_ge C 21 dX10_readText_5 (by decide) (fun q => ?_) (fun q => ?_)
    · replace h := h.1 q
      refine zx_iconst (v := (0 : Int32)) C dX10_readText_21 (by decide) ?_
      refine zx_istore_n (lv' := [(2, .int (0 : Int32)), (0, .ref (g 223)), (1, .int x_1)]) C dX10_readText_22 (by decide) rfl ?_
      obtain ⟨n2, h⟩ := h
      refine zx_lv (lv' := [(0, .ref (g 223)), (1, .int x_1), (2, .int (0 : Int32))]) [1, 2, 0] rfl ?_
      exact k_X10_readText_23 C hr (x_1)   n2 (0 : Int32) σ h
    · replace h := h.2 q
      refine zx_aload_n C dX10_readText_8 0 rfl ?_
      refine zx_getR C zs_223 fg_X10_35 rfl 232 rfl dX10_readText_9 ?_
      refine zx_iload_n C dX10_readText_12 2 rfl ?_
      refine zx_iconst (v := (0 : Int32)) C dX10_readText_13 (by decide) ?_
      obtain ⟨bd67, h⟩ := h
      refine zx_iast C (x_2).toNatClampNeg zs_232 bd67 rfl dX10_readText_14 ?_
      refine zx_sig (fun σ68 eσ68 => ?_)
      replace h := h σ68 eσ68
      obtain ⟨x69, ex69⟩ : ∃ y : Int32, y = (x_2 + (1 : Int32)) := ⟨_, rfl⟩
      replace h := h x69 ex69
      refine zx_iinc (v := x69) (lv' := [(2, .int x69), (0, .ref (g 223)), (1, .int x_1)]) C dX10_readText_15 2 rfl (by rw [ex69]; rfl) (by decide) rfl ?_
      refine zx_goto C 2 dX10_readText_18 (by decide) ?_
      refine zx_lv (lv' := [(0, .ref (g 223)), (1, .int x_1), (2, .int x69)]) [1, 2, 0] rfl ?_
      exact ih x69 σ68 h
set_option maxRecDepth 100000 in
set_option maxHeartbeats 4000000 in
theorem c_X10_readText (l : Launch) (D : va_G) (cy : Nat → ClassId) (g : Nat → Nat) (a1 : Int32)  (σ : zSto) {P : Int32 → zSto → Prop} (h : w_X10_readText a1 σ P) : zMb l yX10_readText cX10_readText 4 (some .boolean) (zrm 3 70) D cy g [.ref (g 223), .int a1] σ P := by
  unfold w_X10_readText at h
  refine zm_b RX10 rfl (by decide +kernel) (Nat.le_of_ble_eq_true rfl) ?_
  intro p e s m below meth c C hr
  refine zx_lv (lv' := [(0, .ref (g 223)), (1, .int a1)]) [0, 1] rfl ?_
  refine zx_iconst (v := (0 : Int32)) C dX10_readText_0 (by decide) ?_
  refine zx_istore_n (lv' := [(2, .int (0 : Int32)), (0, .ref (g 223)), (1, .int a1)]) C dX10_readText_1 (by decide) rfl ?_
  obtain ⟨n, h⟩ := h
  refine zx_lv (lv' := [(0, .ref (g 223)), (1, .int a1), (2, .int (0 : Int32))]) [1, 2, 0] rfl ?_
  exact k_X10_readText_2 C hr (a1)   n (0 : Int32) σ h
