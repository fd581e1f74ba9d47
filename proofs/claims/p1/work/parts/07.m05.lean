def w_X10_store_3 (q_1 : Nat) (m_1 : Nat) (x_2 : Int32) (x_3 : Int32) (P : zSto → Prop)  : Nat → Int32 → zSto → Prop
  | 0, _, _ => False
  | n + 1, x_4, σ => ((x_2 ≤ x_4 → P σ) ∧ (¬ x_2 ≤ x_4 → (vp_in x_4 123 ∧ (vp_in ((x_2 * x_3) + x_4) m_1 ∧ (∀ σ3 : zSto, σ3 = zI σ q_1 (((x_2 * x_3) + x_4)).toNatClampNeg (σ.1 232 (x_4).toNatClampNeg) → (∀ x4 : Int32, x4 = (x_4 + (1 : Int32)) → w_X10_store_3 q_1 m_1 x_2 x_3 P n x4 σ3))))))
def w_X10_store (b1 n1 : Nat) (a2 : Int32) (a3 : Int32) (σ : zSto) (P : zSto → Prop) : Prop := (∃ n : Nat, w_X10_store_3 b1 n1 a2 a3 P  n (0 : Int32) σ)
set_option maxRecDepth 100000 in
set_option maxHeartbeats 4000000 in
theorem k_X10_store_3 {p : Program} {l : Launch} {e : Env} {s : State} {m : MethodId} {args : Array Value} {below : List Frame} {meth : Method} {c : Code} {D : va_G} {cy : Nat → ClassId} {g : Nat → Nat} (C : zC p s m args meth c cX10_store RX10 5 D cy g) (hr : meth.sig.returnType = none) {P : zSto → Prop} (q_1 : Nat) (m_1 : Nat) (x_2 : Int32) (x_3 : Int32) (hq_1 : zsh q_1 = za 0 m_1)   : ∀ (n : Nat) (x_4 : Int32) (σ : zSto), w_X10_store_3 q_1 m_1 x_2 x_3 P n x_4 σ → zX p l e (zrm 0 0) s m args below meth c 0 0 (zQv P below args s D cy g) 5 D cy g 3 [(0, .ref (g 223)), (1, .ref (g q_1)), (2, .int x_2), (3, .int x_3), (4, .int x_4)] [] σ := by
  intro n
  induction n with
  | zero => intro x_4 σ h; exact h.elim
  | succ n ih =>
    intro x_4 σ h
    unfold w_X10_store_3 at h
    refine zx_iload C dX10_store_3 4 rfl ?_
    refine zx_iload_n C dX10_store_5 2 rfl ?_
    refine zx_icmp_ge C 30 dX10_store_6 (by decide) (fun q => ?_) (fun q => ?_)
    · replace h := h.1 q
      exact zx_vret C hr dX10_store_30 h
    · replace h := h.2 q
      refine zx_aload_n C dX10_store_9 1 rfl ?_
      refine zx_iload_n C dX10_store_10 2 rfl ?_
      refine zx_iload_n C dX10_store_11 3 rfl ?_
      refine zx_imul C dX10_store_12 ?_
      refine zx_iload C dX10_store_13 4 rfl ?_
      refine zx_iadd C dX10_store_15 ?_
      refine zx_aload_n C dX10_store_16 0 rfl ?_
      refine zx_getR C zs_223 fg_X10_35 rfl 232 rfl dX10_store_17 ?_
      refine zx_iload C dX10_store_20 4 rfl ?_
      obtain ⟨bd1, h⟩ := h
      refine zx_iald C (x_4).toNatClampNeg zs_232 bd1 rfl dX10_store_22 ?_
      obtain ⟨bd2, h⟩ := h
      refine zx_iast C (((x_2 * x_3) + x_4)).toNatClampNeg hq_1 bd2 rfl dX10_store_23 ?_
      refine zx_sig (fun σ3 eσ3 => ?_)
      replace h := h σ3 eσ3
      obtain ⟨x4, ex4⟩ : ∃ y : Int32, y = (x_4 + (1 : Int32)) := ⟨_, rfl⟩
      replace h := h x4 ex4
      refine zx_iinc (v := x4) (lv' := [(4, .int x4), (0, .ref (g 223)), (1, .ref (g q_1)), (2, .int x_2), (3, .int x_3)]) C dX10_store_24 4 rfl (by rw [ex4]; rfl) (by decide) rfl ?_
      refine zx_goto C 3 dX10_store_27 (by decide) ?_
      refine zx_lv (lv' := [(0, .ref (g 223)), (1, .ref (g q_1)), (2, .int x_2), (3, .int x_3), (4, .int x4)]) [1, 2, 3, 4, 0] rfl ?_
      exact ih x4 σ3 h
set_option maxRecDepth 100000 in
set_option maxHeartbeats 4000000 in
theorem c_X10_store (l : Launch) (D : va_G) (cy : Nat → ClassId) (g : Nat → Nat) (b1 n1 : Nat) (a2 : Int32) (a3 : Int32) (hb1 : zsh b1 = za 0 n1) (σ : zSto) {P : zSto → Prop} (h : w_X10_store b1 n1 a2 a3 σ P) : zMv l yX10_store cX10_store 5 none (zrm 0 0) D cy g [.ref (g 223), .ref (g b1), .int a2, .int a3] σ P := by
  unfold w_X10_store at h
  refine zm_v RX10 rfl (by decide +kernel) (Nat.le_of_ble_eq_true rfl) ?_
  intro p e s m below meth c C hr
  refine zx_lv (lv' := [(0, .ref (g 223)), (1, .ref (g b1)), (2, .int a2), (3, .int a3)]) [0, 1, 2, 3] rfl ?_
  refine zx_iconst (v := (0 : Int32)) C dX10_store_0 (by decide) ?_
  refine zx_istore (lv' := [(4, .int (0 : Int32)), (0, .ref (g 223)), (1, .ref (g b1)), (2, .int a2), (3, .int a3)]) C dX10_store_1 (by decide) rfl ?_
  obtain ⟨n, h⟩ := h
  refine zx_lv (lv' := [(0, .ref (g 223)), (1, .ref (g b1)), (2, .int a2), (3, .int a3), (4, .int (0 : Int32))]) [1, 2, 3, 4, 0] rfl ?_
  exact k_X10_store_3 C hr (b1) (n1) (a2) (a3) hb1  n (0 : Int32) σ h
theorem fp_X10_114 : zFP RX10 114 10 10 .int := ⟨RX10, TX10, 50, tyX10, rfl, lay_X10, by decide, fl_X10_114, tyX10_ok, nmX10, rfl, by decide +kernel⟩
theorem lk_X10_225 : zLV RX10 225 RX10 yX10_is cX10_is 3 (some .boolean) 2 := zLV_of ml_X10_225 im_X10_is se_X10_is ini_X10 cd_X10_is (by decide +kernel)
theorem lk_X10_228 : zLV RX10 228 RX10 yX10_readText cX10_readText 4 (some .boolean) 1 := zLV_of ml_X10_228 im_X10_readText se_X10_readText ini_X10 cd_X10_readText (by decide +kernel)
theorem lk_X10_231 : zLV RX10 231 RX10 yX10_store cX10_store 5 none 3 := zLV_of ml_X10_231 im_X10_store se_X10_store ini_X10 cd_X10_store (by decide +kernel)
def w_X10_text (a1 : Int32) (a2 : Int32) (σ : zSto) (P : Int32 → zSto → Prop) : Prop := (∀ σ1 : zSto, σ1 = zI σ 223 0 (0 : Int32) → (∀ σ2 : zSto, σ2 = zI σ1 223 10 (σ1.1 225 0) → (∀ σ3 : zSto, σ3 = zI σ2 225 0 (0 : Int32) → (∀ σ4 : zSto, σ4 = zI σ3 226 0 (0 : Int32) → (∀ σ5 : zSto, σ5 = zI σ4 227 0 (-1 : Int32) → (w_X10_in a1 (0 : Int32) (2 : Int32) σ5 (fun (r7 : Int32) (σ6 : zSto) => (r7 = 0 ∨ r7 = 1) → ((r7 = 0 → P (-2 : Int32) σ6) ∧ (¬ r7 = 0 → ((¬ a2 = (-1 : Int32) → (w_X10_is a1 a2 σ6 (fun (r9 : Int32) (σ8 : zSto) => (r9 = 0 ∨ r9 = 1) → ((¬ r9 = 0 → (w_X10_readText a1 σ8 (fun (r11 : Int32) (σ10 : zSto) => (r11 = 0 ∨ r11 = 1) → ((¬ r11 = 0 → ((¬ a2 = (-1 : Int32) → (vp_in a1 12 ∧ ((¬ a2 = (-1 : Int32) → (vp_in a1 12 ∧ (∀ σ14 : zSto, σ14 = zI σ10 228 (a1).toNatClampNeg ((σ10.1 228 (a1).toNatClampNeg) + (0 : Int32)) → ((¬ a1 = 0 → ((¬ a1 = (1 : Int32) → (w_X10_store 231 168 (21 : Int32) a2 σ14 (fun (σ15 : zSto) => P a2 σ15))) ∧ (a1 = (1 : Int32) → (w_X10_store 230 264 (33 : Int32) a2 σ14 (fun (σ16 : zSto) => P a2 σ16))))) ∧ (a1 = 0 → (w_X10_store 229 984 (123 : Int32) a2 σ14 (fun (σ17 : zSto) => P a2 σ17))))))) ∧ (a2 = (-1 : Int32) → (vp_in a1 12 ∧ (∀ σ19 : zSto, σ19 = zI σ10 228 (a1).toNatClampNeg ((σ10.1 228 (a1).toNatClampNeg) + (1 : Int32)) → ((¬ a1 = 0 → ((¬ a1 = (1 : Int32) → (w_X10_store 231 168 (21 : Int32) a2 σ19 (fun (σ20 : zSto) => P a2 σ20))) ∧ (a1 = (1 : Int32) → (w_X10_store 230 264 (33 : Int32) a2 σ19 (fun (σ21 : zSto) => P a2 σ21))))) ∧ (a1 = 0 → (w_X10_store 229 984 (123 : Int32) a2 σ19 (fun (σ22 : zSto) => P a2 σ22)))))))))) ∧ (a2 = (-1 : Int32) → (vp_in a1 12 ∧ (∀ x24 : Int32, x24 = (σ10.1 228 (a1).toNatClampNeg) → (vp_in a1 12 ∧ ((¬ a2 = (-1 : Int32) → (vp_in a1 12 ∧ (∀ σ27 : zSto, σ27 = zI σ10 228 (a1).toNatClampNeg ((σ10.1 228 (a1).toNatClampNeg) + (0 : Int32)) → ((¬ a1 = 0 → ((¬ a1 = (1 : Int32) → (w_X10_store 231 168 (21 : Int32) x24 σ27 (fun (σ28 : zSto) => P x24 σ28))) ∧ (a1 = (1 : Int32) → (w_X10_store 230 264 (33 : Int32) x24 σ27 (fun (σ29 : zSto) => P x24 σ29))))) ∧ (a1 = 0 → (w_X10_store 229 984 (123 : Int32) x24 σ27 (fun (σ30 : zSto) => P x24 σ30))))))) ∧ (a2 = (-1 : Int32) → (vp_in a1 12 ∧ (∀ σ32 : zSto, σ32 = zI σ10 228 (a1).toNatClampNeg ((σ10.1 228 (a1).toNatClampNeg) + (1 : Int32)) → ((¬ a1 = 0 → ((¬ a1 = (1 : Int32) → (w_X10_store 231 168 (21 : Int32) x24 σ32 (fun (σ33 : zSto) => P x24 σ33))) ∧ (a1 = (1 : Int32) → (w_X10_store 230 264 (33 : Int32) x24 σ32 (fun (σ34 : zSto) => P x24 σ34))))) ∧ (a1 = 0 → (w_X10_store 229 984 (123 : Int32) x24 σ32 (fun (σ35 : zSto) => P x24 σ35)))))))))))))) ∧ (r11 = 0 → P (-1 : Int32) σ10))))) ∧ (r9 = 0 → P (-2 : Int32) σ8))))) ∧ (a2 = (-1 : Int32) → (vp_in a1 12 ∧ ((¬ (σ6.1 228 (a1).toNatClampNeg) = (2 : Int32) → (w_X10_readText a1 σ6 (fun (r38 : Int32) (σ37 : zSto) => (r38 = 0 ∨ r38 = 1) → ((¬ r38 = 0 → ((¬ a2 = (-1 : Int32) → (vp_in a1 12 ∧ ((¬ a2 = (-1 : Int32) → (vp_in a1 12 ∧ (∀ σ41 : zSto, σ41 = zI σ37 228 (a1).toNatClampNeg ((σ37.1 228 (a1).toNatClampNeg) + (0 : Int32)) → ((¬ a1 = 0 → ((¬ a1 = (1 : Int32) → (w_X10_store 231 168 (21 : Int32) a2 σ41 (fun (σ42 : zSto) => P a2 σ42))) ∧ (a1 = (1 : Int32) → (w_X10_store 230 264 (33 : Int32) a2 σ41 (fun (σ43 : zSto) => P a2 σ43))))) ∧ (a1 = 0 → (w_X10_store 229 984 (123 : Int32) a2 σ41 (fun (σ44 : zSto) => P a2 σ44))))))) ∧ (a2 = (-1 : Int32) → (vp_in a1 12 ∧ (∀ σ46 : zSto, σ46 = zI σ37 228 (a1).toNatClampNeg ((σ37.1 228 (a1).toNatClampNeg) + (1 : Int32)) → ((¬ a1 = 0 → ((¬ a1 = (1 : Int32) → (w_X10_store 231 168 (21 : Int32) a2 σ46 (fun (σ47 : zSto) => P a2 σ47))) ∧ (a1 = (1 : Int32) → (w_X10_store 230 264 (33 : Int32) a2 σ46 (fun (σ48 : zSto) => P a2 σ48))))) ∧ (a1 = 0 → (w_X10_store 229 984 (123 : Int32) a2 σ46 (fun (σ49 : zSto) => P a2 σ49)))))))))) ∧ (a2 = (-1 : Int32) → (vp_in a1 12 ∧ (∀ x51 : Int32, x51 = (σ37.1 228 (a1).toNatClampNeg) → (vp_in a1 12 ∧ ((¬ a2 = (-1 : Int32) → (vp_in a1 12 ∧ (∀ σ54 : zSto, σ54 = zI σ37 228 (a1).toNatClampNeg ((σ37.1 228 (a1).toNatClampNeg) + (0 : Int32)) → ((¬ a1 = 0 → ((¬ a1 = (1 : Int32) → (w_X10_store 231 168 (21 : Int32) x51 σ54 (fun (σ55 : zSto) => P x51 σ55))) ∧ (a1 = (1 : Int32) → (w_X10_store 230 264 (33 : Int32) x51 σ54 (fun (σ56 : zSto) => P x51 σ56))))) ∧ (a1 = 0 → (w_X10_store 229 984 (123 : Int32) x51 σ54 (fun (σ57 : zSto) => P x51 σ57))))))) ∧ (a2 = (-1 : Int32) → (vp_in a1 12 ∧ (∀ σ59 : zSto, σ59 = zI σ37 228 (a1).toNatClampNeg ((σ37.1 228 (a1).toNatClampNeg) + (1 : Int32)) → ((¬ a1 = 0 → ((¬ a1 = (1 : Int32) → (w_X10_store 231 168 (21 : Int32) x51 σ59 (fun (σ60 : zSto) => P x51 σ60))) ∧ (a1 = (1 : Int32) → (w_X10_store 230 264 (33 : Int32) x51 σ59 (fun (σ61 : zSto) => P x51 σ61))))) ∧ (a1 = 0 → (w_X10_store 229 984 (123 : Int32) x51 σ59 (fun (σ62 : zSto) => P x51 σ62)))))))))))))) ∧ (r38 = 0 → P (-1 : Int32) σ37))))) ∧ ((σ6.1 228 (a1).toNatClampNeg) = (2 : Int32) → P (-2 : Int32) σ6))))))))))))))
set_option maxRecDepth 100000 in
set_option maxHeartbeats 4000000 in
theorem c_X10_text (l : Launch) (D : va_G) (cy : Nat → ClassId) (g : Nat → Nat) (a1 : Int32) (a2 : Int32)  (σ : zSto) {P : Int32 → zSto → Prop} (h : w_X10_text a1 a2 σ P) : zMi l yX10_text cX10_text 4 (some .int) (zrm 4 93) D cy g [.ref (g 223), .int a1, .int a2] σ P := by
  unfold w_X10_text at h
  refine zm_i RX10 rfl (by decide +kernel) (Nat.le_of_ble_eq_true rfl) ?_
  intro p e s m below meth c C hr
  refine zx_lv (lv' := [(0, .ref (g 223)), (1, .int a1), (2, .int a2)]) [0, 1, 2] rfl ?_
  refine zx_aload_n C dX10_text_0 0 rfl ?_
  refine zx_iconst (v := (0 : Int32)) C dX10_text_1 (by decide) ?_
  refine zx_putI C zs_223 fp_X10_91 rfl dX10_text_2 ?_
  refine zx_sig (fun σ1 eσ1 => ?_)
  replace h := h σ1 eσ1
  refine zx_aload_n C dX10_text_5 0 rfl ?_
  refine zx_aload_n C dX10_text_6 0 rfl ?_
  refine zx_getR C zs_223 fg_X10_13 rfl 225 rfl dX10_text_7 ?_
  refine zx_iconst (v := (0 : Int32)) C dX10_text_10 (by decide) ?_
  refine zx_iald C 0 zs_225 (by unfold vp_in; decide) (by decide) dX10_text_11 ?_
  refine zx_putI C zs_223 fp_X10_114 rfl dX10_text_12 ?_
  refine zx_sig (fun σ2 eσ2 => ?_)
  replace h := h σ2 eσ2
  refine zx_aload_n C dX10_text_15 0 rfl ?_
  refine zx_getR C zs_223 fg_X10_13 rfl 225 rfl dX10_text_16 ?_
  refine zx_iconst (v := (0 : Int32)) C dX10_text_19 (by decide) ?_
  refine zx_iconst (v := (0 : Int32)) C dX10_text_20 (by decide) ?_
  refine zx_iast C 0 zs_225 (by unfold vp_in; decide) (by decide) dX10_text_21 ?_
  refine zx_sig (fun σ3 eσ3 => ?_)
  replace h := h σ3 eσ3
  refine zx_aload_n C dX10_text_22 0 rfl ?_
  refine zx_getR C zs_223 fg_X10_17 rfl 226 rfl dX10_text_23 ?_
  refine zx_iconst (v := (0 : Int32)) C dX10_text_26 (by decide) ?_
  refine zx_iconst (v := (0 : Int32)) C dX10_text_27 (by decide) ?_
  refine zx_iast C 0 zs_226 (by unfold vp_in; decide) (by decide) dX10_text_28 ?_
  refine zx_sig (fun σ4 eσ4 => ?_)
  replace h := h σ4 eσ4
  refine zx_aload_n C dX10_text_29 0 rfl ?_
  refine zx_getR C zs_223 fg_X10_20 rfl 227 rfl dX10_text_30 ?_
  refine zx_iconst (v := (0 : Int32)) C dX10_text_33 (by decide) ?_
  refine zx_iconst (v := (-1 : Int32)) C dX10_text_34 (by decide) ?_
  refine zx_iast C 0 zs_227 (by unfold vp_in; decide) (by decide) dX10_text_35 ?_
  refine zx_sig (fun σ5 eσ5 => ?_)
  replace h := h σ5 eσ5
  refine zx_iload_n C dX10_text_36 1 rfl ?_
  refine zx_iconst (v := (0 : Int32)) C dX10_text_37 (by decide) ?_
  refine zx_iconst (v := (2 : Int32)) C dX10_text_38 (by decide) ?_
  refine zx_cSb C [.int a1, .int (0 : Int32), .int (2 : Int32)] lk_X10_103 (c_X10_in l D cy g a1 (0 : Int32) (2 : Int32)  σ5 h) ⟨by decide, by decide⟩ ⟨rfl, rfl⟩ ⟨Nat.zero_le _, Nat.zero_le _⟩ rfl rfl (Nat.le_of_ble_eq_true rfl) dX10_text_39 (fun r7 σ6 hb h => ?_)
  replace h := h hb
  refine zx_if_eq C 72 dX10_text_42 (by decide) (fun q => ?_) (fun q => ?_)
  · replace h := h.1 q
    refine zx_bipush (v := (-2 : Int32)) C dX10_text_72 (by decide) ?_
    exact zx_iret C hr dX10_text_74 h
  · replace h := h.2 q
    refine zx_iload_n C dX10_text_45 2 rfl ?_
    refine zx_iconst (v := (-1 : Int32)) C dX10_text_46 (by decide) ?_
    refine zx_icmp_ne C 63 dX10_text_47 (by decide) (fun q => ?_) (fun q => ?_)
    · replace h := h.1 q
      refine zx_aload_n C dX10_text_63 0 rfl ?_
      refine zx_iload_n C dX10_text_64 1 rfl ?_
      refine zx_iload_n C dX10_text_65 2 rfl ?_
      refine zx_cVb C [.int a1, .int a2] lk_X10_225 (c_X10_is l D cy g a1 a2  σ6 h) zs_223 rfl ⟨by decide, by decide⟩ ⟨rfl, rfl⟩ ⟨Nat.zero_le _, Nat.zero_le _⟩ rfl rfl (Nat.le_of_ble_eq_true rfl) dX10_text_66 (fun r9 σ8 hb h => ?_)
      replace h := h hb
      refine zx_if_ne C 75 dX10_text_69 (by decide) (fun q => ?_) (fun q => ?_)
      · replace h := h.1 q
        refine zx_aload_n C dX10_text_75 0 rfl ?_
        refine zx_iload_n C dX10_text_76 1 rfl ?_
        refine zx_cVb C [.int a1] lk_X10_228 (c_X10_readText l D cy g a1  σ8 h) zs_223 rfl ⟨by decide, by decide⟩ ⟨rfl, rfl⟩ ⟨Nat.zero_le _, Nat.zero_le _⟩ rfl rfl (Nat.le_of_ble_eq_true rfl) dX10_text_77 (fun r11 σ10 hb h => ?_)
        replace h := h hb
        refine zx_if_ne C 85 dX10_text_80 (by decide) (fun q => ?_) (fun q => ?_)
        · replace h := h.1 q
          refine zx_iload_n C dX10_text_85 2 rfl ?_
          refine zx_iconst (v := (-1 : Int32)) C dX10_text_86 (by decide) ?_
          refine zx_icmp_ne C 99 dX10_text_87 (by decide) (fun q => ?_) (fun q => ?_)
          · replace h := h.1 q
            refine zx_iload_n C dX10_text_99 2 rfl ?_
            refine zx_istore_n (lv' := [(3, .int a2), (0, .ref (g 223)), (1, .int a1), (2, .int a2)]) C dX10_text_100 (by decide) rfl ?_
            refine zx_aload_n C dX10_text_101 1 rfl ?_
            refine zx_getR C zs_223 fg_X10_23 rfl 228 rfl dX10_text_102 ?_
            refine zx_iload_n C dX10_text_105 2 rfl ?_
            refine zx_dup2 C dX10_text_106 rfl rfl ?_
            obtain ⟨bd12, h⟩ := h
            refine zx_iald C (a1).toNatClampNeg zs_228 bd12 rfl dX10_text_107 ?_
            refine zx_iload_n C dX10_text_108 3 rfl ?_
            refine zx_iconst (v := (-1 : Int32)) C dX10_text_109 (by decide) ?_
            refine zx_icmp_ne C 117 dX10_text_110 (by decide) (fun q => ?_) (fun q => ?_)
            · replace h := h.1 q
              refine zx_iconst (v := (0 : Int32)) C dX10_text_117 (by decide) ?_
              refine zx_iadd C dX10_text_118 ?_
              obtain ⟨bd13, h⟩ := h
              refine zx_iast C (a1).toNatClampNeg zs_228 bd13 rfl dX10_text_119 ?_
              refine zx_sig (fun σ14 eσ14 => ?_)
              replace h := h σ14 eσ14
              refine zx_iload_n C dX10_text_120 2 rfl ?_
              refine zx_if_ne C 138 dX10_text_121 (by decide) (fun q => ?_) (fun q => ?_)
              · replace h := h.1 q
                refine zx_iload_n C dX10_text_138 2 rfl ?_
                refine zx_iconst (v := (1 : Int32)) C dX10_text_139 (by decide) ?_
                refine zx_icmp_ne C 157 dX10_text_140 (by decide) (fun q => ?_) (fun q => ?_)
                · replace h := h.1 q
                  refine zx_aload_n C dX10_text_157 1 rfl ?_
                  refine zx_aload_n C dX10_text_158 1 rfl ?_
                  refine zx_getR C zs_223 fg_X10_32 rfl 231 rfl dX10_text_159 ?_
                  refine zx_bipush (v := (21 : Int32)) C dX10_text_162 (by decide) ?_
                  refine zx_iload_n C dX10_text_164 0 rfl ?_
                  refine zx_cVv C [.ref (g 231), .int (21 : Int32), .int a2] lk_X10_231 (c_X10_store l D cy g 231 168 (21 : Int32) a2 zs_231 σ14 h) zs_223 rfl ⟨by decide, by decide⟩ ⟨rfl, rfl⟩ ⟨Nat.zero_le _, Nat.zero_le _⟩ rfl rfl (Nat.le_of_ble_eq_true rfl) dX10_text_165 (fun σ15 h => ?_)
                  refine zx_iload_n C dX10_text_168 0 rfl ?_
                  exact zx_iret C hr dX10_text_169 h
                · replace h := h.2 q
                  refine zx_aload_n C dX10_text_143 1 rfl ?_
                  refine zx_aload_n C dX10_text_144 1 rfl ?_
                  refine zx_getR C zs_223 fg_X10_29 rfl 230 rfl dX10_text_145 ?_
                  refine zx_bipush (v := (33 : Int32)) C dX10_text_148 (by decide) ?_
                  refine zx_iload_n C dX10_text_150 0 rfl ?_
                  refine zx_cVv C [.ref (g 230), .int (33 : Int32), .int a2] lk_X10_231 (c_X10_store l D cy g 230 264 (33 : Int32) a2 zs_230 σ14 h) zs_223 rfl ⟨by decide, by decide⟩ ⟨rfl, rfl⟩ ⟨Nat.zero_le _, Nat.zero_le _⟩ rfl rfl (Nat.le_of_ble_eq_true rfl) dX10_text_151 (fun σ16 h => ?_)
                  refine zx_goto C 168 dX10_text_154 (by decide) ?_
                  refine zx_iload_n C dX10_text_168 0 rfl ?_
                  exact zx_iret C hr dX10_text_169 h
              · replace h := h.2 q
                refine zx_aload_n C dX10_text_124 1 rfl ?_
                refine zx_aload_n C dX10_text_125 1 rfl ?_
                refine zx_getR C zs_223 fg_X10_26 rfl 229 rfl dX10_text_126 ?_
                refine zx_bipush (v := (123 : Int32)) C dX10_text_129 (by decide) ?_
                refine zx_iload_n C dX10_text_131 0 rfl ?_
                refine zx_cVv C [.ref (g 229), .int (123 : Int32), .int a2] lk_X10_231 (c_X10_store l D cy g 229 984 (123 : Int32) a2 zs_229 σ14 h) zs_223 rfl ⟨by decide, by decide⟩ ⟨rfl, rfl⟩ ⟨Nat.zero_le _, Nat.zero_le _⟩ rfl rfl (Nat.le_of_ble_eq_true rfl) dX10_text_132 (fun σ17 h => ?_)
                refine zx_goto C 168 dX10_text_135 (by decide) ?_
                refine zx_iload_n C dX10_text_168 0 rfl ?_
                exact zx_iret C hr dX10_text_169 h
            · replace h := h.2 q
              refine zx_iconst (v := (1 : Int32)) C dX10_text_113 (by decide) ?_
              refine zx_goto C 118 dX10_text_114 (by decide) ?_
              refine zx_iadd C dX10_text_118 ?_
              obtain ⟨bd18, h⟩ := h
              refine zx_iast C (a1).toNatClampNeg zs_228 bd18 rfl dX10_text_119 ?_
              refine zx_sig (fun σ19 eσ19 => ?_)
              replace h := h σ19 eσ19
              refine zx_iload_n C dX10_text_120 2 rfl ?_
              refine zx_if_ne C 138 dX10_text_121 (by decide) (fun q => ?_) (fun q => ?_)
              · replace h := h.1 q
                refine zx_iload_n C dX10_text_138 2 rfl ?_
                refine zx_iconst (v := (1 : Int32)) C dX10_text_139 (by decide) ?_
                refine zx_icmp_ne C 157 dX10_text_140 (by decide) (fun q => ?_) (fun q => ?_)
                · replace h := h.1 q
                  refine zx_aload_n C dX10_text_157 1 rfl ?_
                  refine zx_aload_n C dX10_text_158 1 rfl ?_
                  refine zx_getR C zs_223 fg_X10_32 rfl 231 rfl dX10_text_159 ?_
                  refine zx_bipush (v := (21 : Int32)) C dX10_text_162 (by decide) ?_
                  refine zx_iload_n C dX10_text_164 0 rfl ?_
                  refine zx_cVv C [.ref (g 231), .int (21 : Int32), .int a2] lk_X10_231 (c_X10_store l D cy g 231 168 (21 : Int32) a2 zs_231 σ19 h) zs_223 rfl ⟨by decide, by decide⟩ ⟨rfl, rfl⟩ ⟨Nat.zero_le _, Nat.zero_le _⟩ rfl rfl (Nat.le_of_ble_eq_true rfl) dX10_text_165 (fun σ20 h => ?_)
                  refine zx_iload_n C dX10_text_168 0 rfl ?_
                  exact zx_iret C hr dX10_text_169 h
                · replace h := h.2 q
                  refine zx_aload_n C dX10_text_143 1 rfl ?_
                  refine zx_aload_n C dX10_text_144 1 rfl ?_
                  refine zx_getR C zs_223 fg_X10_29 rfl 230 rfl dX10_text_145 ?_
                  refine zx_bipush (v := (33 : Int32)) C dX10_text_148 (by decide) ?_
                  refine zx_iload_n C dX10_text_150 0 rfl ?_
                  refine zx_cVv C [.ref (g 230), .int (33 : Int32), .int a2] lk_X10_231 (c_X10_store l D cy g 230 264 (33 : Int32) a2 zs_230 σ19 h) zs_223 rfl ⟨by decide, by decide⟩ ⟨rfl, rfl⟩ ⟨Nat.zero_le _, Nat.zero_le _⟩ rfl rfl (Nat.le_of_ble_eq_true rfl) dX10_text_151 (fun σ21 h => ?_)
                  refine zx_goto C 168 dX10_text_154 (by decide) ?_
                  refine zx_iload_n C dX10_text_168 0 rfl ?_
                  exact zx_iret C hr dX10_text_169 h
              · replace h := h.2 q
                refine zx_aload_n C dX10_text_124 1 rfl ?_
                refine zx_aload_n C dX10_text_125 1 rfl ?_
                refine zx_getR C zs_223 fg_X10_26 rfl 229 rfl dX10_text_126 ?_
                refine zx_bipush (v := (123 : Int32)) C dX10_text_129 (by decide) ?_
                refine zx_iload_n C dX10_text_131 0 rfl ?_
                refine zx_cVv C [.ref (g 229), .int (123 : Int32), .int a2] lk_X10_231 (c_X10_store l D cy g 229 984 (123 : Int32) a2 zs_229 σ19 h) zs_223 rfl ⟨by decide, by decide⟩ ⟨rfl, rfl⟩ ⟨Nat.zero_le _, Nat.zero_le _⟩ rfl rfl (Nat.le_of_ble_eq_true rfl) dX10_text_132 (fun σ22 h => ?_)
                refine zx_goto C 168 dX10_text_135 (by decide) ?_
                refine zx_iload_n C dX10_text_168 0 rfl ?_
                exact zx_iret C hr dX10_text_169 h
          · replace h := h.2 q
            refine zx_aload_n C dX10_text_90 0 rfl ?_
            refine zx_getR C zs_223 fg_X10_23 rfl 228 rfl dX10_text_91 ?_
            refine zx_iload_n C dX10_text_94 1 rfl ?_
            obtain ⟨bd23, h⟩ := h
            refine zx_iald C (a1).toNatClampNeg zs_228 bd23 rfl dX10_text_95 ?_
            refine zx_goto C 100 dX10_text_96 (by decide) ?_
            refine zx_topi (fun x24 ex24 => ?_)
            replace h := h x24 ex24
            refine zx_istore_n (lv' := [(3, .int x24), (0, .ref (g 223)), (1, .int a1), (2, .int a2)]) C dX10_text_100 (by decide) rfl ?_
            refine zx_aload_n C dX10_text_101 1 rfl ?_
            refine zx_getR C zs_223 fg_X10_23 rfl 228 rfl dX10_text_102 ?_
            refine zx_iload_n C dX10_text_105 2 rfl ?_
            refine zx_dup2 C dX10_text_106 rfl rfl ?_
            obtain ⟨bd25, h⟩ := h
            refine zx_iald C (a1).toNatClampNeg zs_228 bd25 rfl dX10_text_107 ?_
            refine zx_iload_n C dX10_text_108 3 rfl ?_
            refine zx_iconst (v := (-1 : Int32)) C dX10_text_109 (by decide) ?_
            refine zx_icmp_ne C 117 dX10_text_110 (by decide) (fun q => ?_) (fun q => ?_)
            · replace h := h.1 q
              refine zx_iconst (v := (0 : Int32)) C dX10_text_117 (by decide) ?_
              refine zx_iadd C dX10_text_118 ?_
              obtain ⟨bd26, h⟩ := h
              refine zx_iast C (a1).toNatClampNeg zs_228 bd26 rfl dX10_text_119 ?_
              refine zx_sig (fun σ27 eσ27 => ?_)
              replace h := h σ27 eσ27
              refine zx_iload_n C dX10_text_120 2 rfl ?_
              refine zx_if_ne C 138 dX10_text_121 (by decide) (fun q => ?_) (fun q => ?_)
              · replace h := h.1 q
                refine zx_iload_n C dX10_text_138 2 rfl ?_
                refine zx_iconst (v := (1 : Int32)) C dX10_text_139 (by decide) ?_
                refine zx_icmp_ne C 157 dX10_text_140 (by decide) (fun q => ?_) (fun q => ?_)
                · replace h := h.1 q
                  refine zx_aload_n C dX10_text_157 1 rfl ?_
                  refine zx_aload_n C dX10_text_158 1 rfl ?_
                  refine zx_getR C zs_223 fg_X10_32 rfl 231 rfl dX10_text_159 ?_
                  refine zx_bipush (v := (21 : Int32)) C dX10_text_162 (by decide) ?_
                  refine zx_iload_n C dX10_text_164 0 rfl ?_
                  refine zx_cVv C [.ref (g 231), .int (21 : Int32), .int x24] lk_X10_231 (c_X10_store l D cy g 231 168 (21 : Int32) x24 zs_231 σ27 h) zs_223 rfl ⟨by decide, by decide⟩ ⟨rfl, rfl⟩ ⟨Nat.zero_le _, Nat.zero_le _⟩ rfl rfl (Nat.le_of_ble_eq_true rfl) dX10_text_165 (fun σ28 h => ?_)
                  refine zx_iload_n C dX10_text_168 0 rfl ?_
                  exact zx_iret C hr dX10_text_169 h
                · replace h := h.2 q
                  refine zx_aload_n C dX10_text_143 1 rfl ?_
                  refine zx_aload_n C dX10_text_144 1 rfl ?_
                  refine zx_getR C zs_223 fg_X10_29 rfl 230 rfl dX10_text_145 ?_
                  refine zx_bipush (v := (33 : Int32)) C dX10_text_148 (by decide) ?_
                  refine zx_iload_n C dX10_text_150 0 rfl ?_
                  refine zx_cVv C [.ref (g 230), .int (33 : Int32), .int x24] lk_X10_231 (c_X10_store l D cy g 230 264 (33 : Int32) x24 zs_230 σ27 h) zs_223 rfl ⟨by decide, by decide⟩ ⟨rfl, rfl⟩ ⟨Nat.zero_le _, Nat.zero_le _⟩ rfl rfl (Nat.le_of_ble_eq_true rfl) dX10_text_151 (fun σ29 h => ?_)
                  refine zx_goto C 168 dX10_text_154 (by decide) ?_
                  refine zx_iload_n C dX10_text_168 0 rfl ?_
                  exact zx_iret C hr dX10_text_169 h
              · replace h := h.2 q
                refine zx_aload_n C dX10_text_124 1 rfl ?_
                refine zx_aload_n C dX10_text_125 1 rfl ?_
                refine zx_getR C zs_223 fg_X10_26 rfl 229 rfl dX10_text_126 ?_
                refine zx_bipush (v := (123 : Int32)) C dX10_text_129 (by decide) ?_
                refine zx_iload_n C dX10_text_131 0 rfl ?_
                refine zx_cVv C [.ref (g 229), .int (123 : Int32), .int x24] lk_X10_231 (c_X10_store l D cy g 229 984 (123 : Int32) x24 zs_229 σ27 h) zs_223 rfl ⟨by decide, by decide⟩ ⟨rfl, rfl⟩ ⟨Nat.zero_le _, Nat.zero_le _⟩ rfl rfl (Nat.le_of_ble_eq_true rfl) dX10_text_132 (fun σ30 h => ?_)
                refine zx_goto C 168 dX10_text_135 (by decide) ?_
                refine zx_iload_n C dX10_text_168 0 rfl ?_
                exact zx_iret C hr dX10_text_169 h
            · replace h := h.2 q
              refine zx_iconst (v := (1 : Int32)) C dX10_text_113 (by decide) ?_
              refine zx_goto C 118 dX10_text_114 (by decide) ?_
              refine zx_iadd C dX10_text_118 ?_
              obtain ⟨bd31, h⟩ := h
              refine zx_iast C (a1).toNatClampNeg zs_228 bd31 rfl dX10_text_119 ?_
              refine zx_sig (fun σ32 eσ32 => ?_)
              replace h := h σ32 eσ32
              refine zx_iload_n C dX10_text_120 2 rfl ?_
              refine zx_if_ne C 138 dX10_text_121 (by decide) (fun q => ?_) (fun q => ?_)
              · replace h := h.1 q
                refine zx_iload_n C dX10_text_138 2 rfl ?_
                refine zx_iconst (v := (1 : Int32)) C dX10_text_139 (by decide) ?_
                refine zx_icmp_ne C 157 dX10_text_140 (by decide) (fun q => ?_) (fun q => ?_)
                · replace h := h.1 q
                  refine zx_aload_n C dX10_text_157 1 rfl ?_
                  refine zx_aload_n C dX10_text_158 1 rfl ?_
                  refine zx_getR C zs_223 fg_X10_32 rfl 231 rfl dX10_text_159 ?_
                  refine zx_bipush (v := (21 : Int32)) C dX10_text_162 (by decide) ?_
                  refine zx_iload_n C dX10_text_164 0 rfl ?_
                  refine zx_cVv C [.ref (g 231), .int (21 : Int32), .int x24] lk_X10_231 (c_X10_store l D cy g 231 168 (21 : Int32) x24 zs_231 σ32 h) zs_223 rfl ⟨by decide, by decide⟩ ⟨rfl, rfl⟩ ⟨Nat.zero_le _, Nat.zero_le _⟩ rfl rfl (Nat.le_of_ble_eq_true rfl) dX10_text_165 (fun σ33 h => ?_)
                  refine zx_iload_n C dX10_text_168 0 rfl ?_
                  exact zx_iret C hr dX10_text_169 h
                · replace h := h.2 q
                  refine zx_aload_n C dX10_text_143 1 rfl ?_
                  refine zx_aload_n C dX10_text_144 1 rfl ?_
                  refine zx_getR C zs_223 fg_X10_29 rfl 230 rfl dX10_text_145 ?_
                  refine zx_bipush (v := (33 : Int32)) C dX10_text_148 (by decide) ?_
                  refine zx_iload_n C dX10_text_150 0 rfl ?_
                  refine zx_cVv C [.ref (g 230), .int (33 : Int32), .int x24] lk_X10_231 (c_X10_store l D cy g 230 264 (33 : Int32) x24 zs_230 σ32 h) zs_223 rfl ⟨by decide, by decide⟩ ⟨rfl, rfl⟩ ⟨Nat.zero_le _, Nat.zero_le _⟩ rfl rfl (Nat.le_of_ble_eq_true rfl) dX10_text_151 (fun σ34 h => ?_)
                  refine zx_goto C 168 dX10_text_154 (by decide) ?_
                  refine zx_iload_n C dX10_text_168 0 rfl ?_
                  exact zx_iret C hr dX10_text_169 h
              · replace h := h.2 q
                refine zx_aload_n C dX10_text_124 1 rfl ?_
                refine zx_aload_n C dX10_text_125 1 rfl ?_
                refine zx_getR C zs_223 fg_X10_26 rfl 229 rfl dX10_text_126 ?_
                refine zx_bipush (v := (123 : Int32)) C dX10_text_129 (by decide) ?_
                refine zx_iload_n C dX10_text_131 0 rfl ?_
                refine zx_cVv C [.ref (g 229), .int (123 : Int32), .int x24] lk_X10_231 (c_X10_store l D cy g 229 984 (123 : Int32) x24 zs_229 σ32 h) zs_223 rfl ⟨by decide, by decide⟩ ⟨rfl, rfl⟩ ⟨Nat.zero_le _, Nat.zero_le _⟩ rfl rfl (Nat.le_of_ble_eq_true rfl) dX10_text_132 (fun σ35 h => ?_)
                refine zx_goto C 168 dX10_text_135 (by decide) ?_
                refine zx_iload_n C dX10_text_168 0 rfl ?_
                exact zx_iret C hr dX10_text_169 h
        · replace h := h.2 q
          refine zx_iconst (v := (-1 : Int32)) C dX10_text_83 (by decide) ?_
          exact zx_iret C hr dX10_text_84 h
      · replace h := h.2 q
        refine zx_bipush (v := (-2 : Int32)) C dX10_text_72 (by decide) ?_
        exact zx_iret C hr dX10_text_74 h
    · replace h := h.2 q
      refine zx_aload_n C dX10_text_50 0 rfl ?_
      refine zx_getR C zs_223 fg_X10_23 rfl 228 rfl dX10_text_51 ?_
      refine zx_iload_n C dX10_text_54 1 rfl ?_
      obtain ⟨bd36, h⟩ := h
      refine zx_iald C (a1).toNatClampNeg zs_228 bd36 rfl dX10_text_55 ?_
      refine zx_iconst (v := (2 : Int32)) C dX10_text_56 (by decide) ?_
      refine zx_icmp_ne C 75 dX10_text_57 (by decide) (fun q => ?_) (fun q => ?_)
      · replace h := h.1 q
        refine zx_aload_n C dX10_text_75 0 rfl ?_
        refine zx_iload_n C dX10_text_76 1 rfl ?_
        refine zx_cVb C [.int a1] lk_X10_228 (c_X10_readText l D cy g a1  σ6 h) zs_223 rfl ⟨by decide, by decide⟩ ⟨rfl, rfl⟩ ⟨Nat.zero_le _, Nat.zero_le _⟩ rfl rfl (Nat.le_of_ble_eq_true rfl) dX10_text_77 (fun r38 σ37 hb h => ?_)
        replace h := h hb
        refine zx_if_ne C 85 dX10_text_80 (by decide) (fun q => ?_) (fun q => ?_)
        · replace h := h.1 q
          refine zx_iload_n C dX10_text_85 2 rfl ?_
          refine zx_iconst (v := (-1 : Int32)) C dX10_text_86 (by decide) ?_
          refine zx_icmp_ne C 99 dX10_text_87 (by decide) (fun q => ?_) (fun q => ?_)
          · replace h := h.1 q
            refine zx_iload_n C dX10_text_99 2 rfl ?_
            refine zx_istore_n (lv' := [(3, .int a2), (0, .ref (g 223)), (1, .int a1), (2, .int a2)]) C dX10_text_100 (by decide) rfl ?_
            refine zx_aload_n C dX10_text_101 1 rfl ?_
            refine zx_getR C zs_223 fg_X10_23 rfl 228 rfl dX10_text_102 ?_
            refine zx_iload_n C dX10_text_105 2 rfl ?_
            refine zx_dup2 C dX10_text_106 rfl rfl ?_
            obtain ⟨bd39, h⟩ := h
            refine zx_iald C (a1).toNatClampNeg zs_228 bd39 rfl dX10_text_107 ?_
            refine zx_iload_n C dX10_text_108 3 rfl ?_
            refine zx_iconst (v := (-1 : Int32)) C dX10_text_109 (by decide) ?_
            refine zx_icmp_ne C 117 dX10_text_110 (by decide) (fun q => ?_) (fun q => ?_)
            · replace h := h.1 q
              refine zx_iconst (v := (0 : Int32)) C dX10_text_117 (by decide) ?_
              refine zx_iadd C dX10_text_118 ?_
              obtain ⟨bd40, h⟩ := h
              refine zx_iast C (a1).toNatClampNeg zs_228 bd40 rfl dX10_text_119 ?_
              refine zx_sig (fun σ41 eσ41 => ?_)
              replace h := h σ41 eσ41
              refine zx_iload_n C dX10_text_120 2 rfl ?_
              refine zx_if_ne C 138 dX10_text_121 (by decide) (fun q => ?_) (fun q => ?_)
              · replace h := h.1 q
                refine zx_iload_n C dX10_text_138 2 rfl ?_
                refine zx_iconst (v := (1 : Int32)) C dX10_text_139 (by decide) ?_
                refine zx_icmp_ne C 157 dX10_text_140 (by decide) (fun q => ?_) (fun q => ?_)
                · replace h := h.1 q
                  refine zx_aload_n C dX10_text_157 1 rfl ?_
                  refine zx_aload_n C dX10_text_158 1 rfl ?_
                  refine zx_getR C zs_223 fg_X10_32 rfl 231 rfl dX10_text_159 ?_
                  refine zx_bipush (v := (21 : Int32)) C dX10_text_162 (by decide) ?_
                  refine zx_iload_n C dX10_text_164 0 rfl ?_
                  refine zx_cVv C [.ref (g 231), .int (21 : Int32), .int a2] lk_X10_231 (c_X10_store l D cy g 231 168 (21 : Int32) a2 zs_231 σ41 h) zs_223 rfl ⟨by decide, by decide⟩ ⟨rfl, rfl⟩ ⟨Nat.zero_le _, Nat.zero_le _⟩ rfl rfl (Nat.le_of_ble_eq_true rfl) dX10_text_165 (fun σ42 h => ?_)
                  refine zx_iload_n C dX10_text_168 0 rfl ?_
                  exact zx_iret C hr dX10_text_169 h
                · replace h := h.2 q
                  refine zx_aload_n C dX10_text_143 1 rfl ?_
                  refine zx_aload_n C dX10_text_144 1 rfl ?_
                  refine zx_getR C zs_223 fg_X10_29 rfl 230 rfl dX10_text_145 ?_
                  refine zx_bipush (v := (33 : Int32)) C dX10_text_148 (by decide) ?_
                  refine zx_iload_n C dX10_text_150 0 rfl ?_
                  refine zx_cVv C [.ref (g 230), .int (33 : Int32), .int a2] lk_X10_231 (c_X10_store l D cy g 230 264 (33 : Int32) a2 zs_230 σ41 h) zs_223 rfl ⟨by decide, by decide⟩ ⟨rfl, rfl⟩ ⟨Nat.zero_le _, Nat.zero_le _⟩ rfl rfl (Nat.le_of_ble_eq_true rfl) dX10_text_151 (fun σ43 h => ?_)
                  refine zx_goto C 168 dX10_text_154 (by decide) ?_
                  refine zx_iload_n C dX10_text_168 0 rfl ?_
                  exact zx_iret C hr dX10_text_169 h
              · replace h := h.2 q
                refine zx_aload_n C dX10_text_124 1 rfl ?_
                refine zx_aload_n C dX10_text_125 1 rfl ?_
                refine zx_getR C zs_223 fg_X10_26 rfl 229 rfl dX10_text_126 ?_
                refine zx_bipush (v := (123 : Int32)) C dX10_text_129 (by decide) ?_
                refine zx_iload_n C dX10_text_131 0 rfl ?_
                refine zx_cVv C [.ref (g 229), .int (123 : Int32), .int a2] lk_X10_231 (c_X10_store l D cy g 229 984 (123 : Int32) a2 zs_229 σ41 h) zs_223 rfl ⟨by decide, by decide⟩ ⟨rfl, rfl⟩ ⟨Nat.zero_le _, Nat.zero_le _⟩ rfl rfl (Nat.le_of_ble_eq_true rfl) dX10_text_132 (fun σ44 h => ?_)
                refine zx_goto C 168 dX10_text_135 (by decide) ?_
                refine zx_iload_n C dX10_text_168 0 rfl ?_
                exact zx_iret C hr dX10_text_169 h
            · replace h := h.2 q
              refine zx_iconst (v := (1 : Int32)) C dX10_text_113 (by decide) ?_
              refine zx_goto C 118 dX10_text_114 (by decide) ?_
              refine zx_iadd C dX10_text_118 ?_
              obtain ⟨bd45, h⟩ := h
              refine zx_iast C (a1).toNatClampNeg zs_228 bd45 rfl dX10_text_119 ?_
              refine zx_sig (fun σ46 eσ46 => ?_)
              replace h := h σ46 eσ46
              refine zx_iload_n C dX10_text_120 2 rfl ?_
              refine zx_if_ne C 138 dX10_text_121 (by decide) (fun q => ?_) (fun q => ?_)
              · replace h := h.1 q
                refine zx_iload_n C dX10_text_138 2 rfl ?_
                refine zx_iconst (v := (1 : Int32)) C dX10_text_139 (by decide) ?_
                refine zx_icmp_ne C 157 dX10_text_140 (by decide) (fun q => ?_) (fun q => ?_)
                · replace h := h.1 q
                  refine zx_aload_n C dX10_text_157 1 rfl ?_
                  refine zx_aload_n C dX10_text_158 1 rfl ?_
                  refine zx_getR C zs_223 fg_X10_32 rfl 231 rfl dX10_text_159 ?_
                  refine zx_bipush (v := (21 : Int32)) C dX10_text_162 (by decide) ?_
                  refine zx_iload_n C dX10_text_164 0 rfl ?_
                  refine zx_cVv C [.ref (g 231), .int (21 : Int32), .int a2] lk_X10_231 (c_X10_store l D cy g 231 168 (21 : Int32) a2 zs_231 σ46 h) zs_223 rfl ⟨by decide, by decide⟩ ⟨rfl, rfl⟩ ⟨Nat.zero_le _, Nat.zero_le _⟩ rfl rfl (Nat.le_of_ble_eq_true rfl) dX10_text_165 (fun σ47 h => ?_)
                  refine zx_iload_n C dX10_text_168 0 rfl ?_
                  exact zx_iret C hr dX10_text_169 h
                · replace h := h.2 q
                  refine zx_aload_n C dX10_text_143 1 rfl ?_
                  refine zx_aload_n C dX10_text_144 1 rfl ?_
                  refine zx_getR C zs_223 fg_X10_29 rfl 230 rfl dX10_text_145 ?_
                  refine zx_bipush (v := (33 : Int32)) C dX10_text_148 (by decide) ?_
                  refine zx_iload_n C dX10_text_150 0 rfl ?_
                  refine zx_cVv C [.ref (g 230), .int (33 : Int32), .int a2] lk_X10_231 (c_X10_store l D cy g 230 264 (33 : Int32) a2 zs_230 σ46 h) zs_223 rfl ⟨by decide, by decide⟩ ⟨rfl, rfl⟩ ⟨Nat.zero_le _, Nat.zero_le _⟩ rfl rfl (Nat.le_of_ble_eq_true rfl) dX10_text_151 (fun σ48 h => ?_)
                  refine zx_goto C 168 dX10_text_154 (by decide) ?_
                  refine zx_iload_n C dX10_text_168 0 rfl ?_
                  exact zx_iret C hr dX10_text_169 h
              · replace h := h.2 q
                refine zx_aload_n C dX10_text_124 1 rfl ?_
                refine zx_aload_n C dX10_text_125 1 rfl ?_
                refine zx_getR C zs_223 fg_X10_26 rfl 229 rfl dX10_text_126 ?_
                refine zx_bipush (v := (123 : Int32)) C dX10_text_129 (by decide) ?_
                refine zx_iload_n C dX10_text_131 0 rfl ?_
                refine zx_cVv C [.ref (g 229), .int (123 : Int32), .int a2] lk_X10_231 (c_X10_store l D cy g 229 984 (123 : Int32) a2 zs_229 σ46 h) zs_223 rfl ⟨by decide, by decide⟩ ⟨rfl, rfl⟩ ⟨Nat.zero_le _, Nat.zero_le _⟩ rfl rfl (Nat.le_of_ble_eq_true rfl) dX10_text_132 (fun σ49 h => ?_)
                refine zx_goto C 168 dX10_text_135 (by decide) ?_
                refine zx_iload_n C dX10_text_168 0 rfl ?_
                exact zx_iret C hr dX10_text_169 h
          · replace h := h.2 q
            refine zx_aload_n C dX10_text_90 0 rfl ?_
            refine zx_getR C zs_223 fg_X10_23 rfl 228 rfl dX10_text_91 ?_
            refine zx_iload_n C dX10_text_94 1 rfl ?_
            obtain ⟨bd50, h⟩ := h
            refine zx_iald C (a1).toNatClampNeg zs_228 bd50 rfl dX10_text_95 ?_
            refine zx_goto C 100 dX10_text_96 (by decide) ?_
            refine zx_topi (fun x51 ex51 => ?_)
            replace h := h x51 ex51
            refine zx_istore_n (lv' := [(3, .int x51), (0, .ref (g 223)), (1, .int a1), (2, .int a2)]) C dX10_text_100 (by decide) rfl ?_
            refine zx_aload_n C dX10_text_101 1 rfl ?_
            refine zx_getR C zs_223 fg_X10_23 rfl 228 rfl dX10_text_102 ?_
            refine zx_iload_n C dX10_text_105 2 rfl ?_
            refine zx_dup2 C dX10_text_106 rfl rfl ?_
            obtain ⟨bd52, h⟩ := h
            refine zx_iald C (a1).toNatClampNeg zs_228 bd52 rfl dX10_text_107 ?_
            refine zx_iload_n C dX10_text_108 3 rfl ?_
            refine zx_iconst (v := (-1 : Int32)) C dX10_text_109 (by decide) ?_
            refine zx_icmp_ne C 117 dX10_text_110 (by decide) (fun q => ?_) (fun q => ?_)
            · replace h := h.1 q
              refine zx_iconst (v := (0 : Int32)) C dX10_text_117 (by decide) ?_
              refine zx_iadd C dX10_text_118 ?_
              obtain ⟨bd53, h⟩ := h
              refine zx_iast C (a1).toNatClampNeg zs_228 bd53 rfl dX10_text_119 ?_
              refine zx_sig (fun σ54 eσ54 => ?_)
              replace h := h σ54 eσ54
              refine zx_iload_n C dX10_text_120 2 rfl ?_
              refine zx_if_ne C 138 dX10_text_121 (by decide) (fun q => ?_) (fun q => ?_)
              · replace h := h.1 q
                refine zx_iload_n C dX10_text_138 2 rfl ?_
                refine zx_iconst (v := (1 : Int32)) C dX10_text_139 (by decide) ?_
                refine zx_icmp_ne C 157 dX10_text_140 (by decide) (fun q => ?_) (fun q => ?_)
                · replace h := h.1 q
                  refine zx_aload_n C dX10_text_157 1 rfl ?_
                  refine zx_aload_n C dX10_text_158 1 rfl ?_
                  refine zx_getR C zs_223 fg_X10_32 rfl 231 rfl dX10_text_159 ?_
                  refine zx_bipush (v := (21 : Int32)) C dX10_text_162 (by decide) ?_
                  refine zx_iload_n C dX10_text_164 0 rfl ?_
                  refine zx_cVv C [.ref (g 231), .int (21 : Int32), .int x51] lk_X10_231 (c_X10_store l D cy g 231 168 (21 : Int32) x51 zs_231 σ54 h) zs_223 rfl ⟨by decide, by decide⟩ ⟨rfl, rfl⟩ ⟨Nat.zero_le _, Nat.zero_le _⟩ rfl rfl (Nat.le_of_ble_eq_true rfl) dX10_text_165 (fun σ55 h => ?_)
                  refine zx_iload_n C dX10_text_168 0 rfl ?_
                  exact zx_iret C hr dX10_text_169 h
                · replace h := h.2 q
                  refine zx_aload_n C dX10_text_143 1 rfl ?_
                  refine zx_aload_n C dX10_text_144 1 rfl ?_
                  refine zx_getR C zs_223 fg_X10_29 rfl 230 rfl dX10_text_145 ?_
                  refine zx_bipush (v := (33 : Int32)) C dX10_text_148 (by decide) ?_
                  refine zx_iload_n C dX10_text_150 0 rfl ?_
                  refine zx_cVv C [.ref (g 230), .int (33 : Int32), .int x51] lk_X10_231 (c_X10_store l D cy g 230 264 (33 : Int32) x51 zs_230 σ54 h) zs_223 rfl ⟨by decide, by decide⟩ ⟨rfl, rfl⟩ ⟨Nat.zero_le _, Nat.zero_le _⟩ rfl rfl (Nat.le_of_ble_eq_true rfl) dX10_text_151 (fun σ56 h => ?_)
                  refine zx_goto C 168 dX10_text_154 (by decide) ?_
                  refine zx_iload_n C dX10_text_168 0 rfl ?_
                  exact zx_iret C hr dX10_text_169 h
              · replace h := h.2 q
                refine zx_aload_n C dX10_text_124 1 rfl ?_
                refine zx_aload_n C dX10_text_125 1 rfl ?_
                refine zx_getR C zs_223 fg_X10_26 rfl 229 rfl dX10_text_126 ?_
                refine zx_bipush (v := (123 : Int32)) C dX10_text_129 (by decide) ?_
                refine zx_iload_n C dX10_text_131 0 rfl ?_
                refine zx_cVv C [.ref (g 229), .int (123 : Int32), .int x51] lk_X10_231 (c_X10_store l D cy g 229 984 (123 : Int32) x51 zs_229 σ54 h) zs_223 rfl ⟨by decide, by decide⟩ ⟨rfl, rfl⟩ ⟨Nat.zero_le _, Nat.zero_le _⟩ rfl rfl (Nat.le_of_ble_eq_true rfl) dX10_text_132 (fun σ57 h => ?_)
                refine zx_goto C 168 dX10_text_135 (by decide) ?_
                refine zx_iload_n C dX10_text_168 0 rfl ?_
                exact zx_iret C hr dX10_text_169 h
            · replace h := h.2 q
              refine zx_iconst (v := (1 : Int32)) C dX10_text_113 (by decide) ?_
              refine zx_goto C 118 dX10_text_114 (by decide) ?_
              refine zx_iadd C dX10_text_118 ?_
              obtain ⟨bd58, h⟩ := h
              refine zx_iast C (a1).toNatClampNeg zs_228 bd58 rfl dX10_text_119 ?_
              refine zx_sig (fun σ59 eσ59 => ?_)
              replace h := h σ59 eσ59
              refine zx_iload_n C dX10_text_120 2 rfl ?_
              refine zx_if_ne C 138 dX10_text_121 (by decide) (fun q => ?_) (fun q => ?_)
              · replace h := h.1 q
                refine zx_iload_n C dX10_text_138 2 rfl ?_
                refine zx_iconst (v := (1 : Int32)) C dX10_text_139 (by decide) ?_
                refine zx_icmp_ne C 157 dX10_text_140 (by decide) (fun q => ?_) (fun q => ?_)
                · replace h := h.1 q
                  refine zx_aload_n C dX10_text_157 1 rfl ?_
                  refine zx_aload_n C dX10_text_158 1 rfl ?_
                  refine zx_getR C zs_223 fg_X10_32 rfl 231 rfl dX10_text_159 ?_
                  refine zx_bipush (v := (21 : Int32)) C dX10_text_162 (by decide) ?_
                  refine zx_iload_n C dX10_text_164 0 rfl ?_
                  refine zx_cVv C [.ref (g 231), .int (21 : Int32), .int x51] lk_X10_231 (c_X10_store l D cy g 231 168 (21 : Int32) x51 zs_231 σ59 h) zs_223 rfl ⟨by decide, by decide⟩ ⟨rfl, rfl⟩ ⟨Nat.zero_le _, Nat.zero_le _⟩ rfl rfl (Nat.le_of_ble_eq_true rfl) dX10_text_165 (fun σ60 h => ?_)
                  refine zx_iload_n C dX10_text_168 0 rfl ?_
                  exact zx_iret C hr dX10_text_169 h
                · replace h := h.2 q
                  refine zx_aload_n C dX10_text_143 1 rfl ?_
                  refine zx_aload_n C dX10_text_144 1 rfl ?_
                  refine zx_getR C zs_223 fg_X10_29 rfl 230 rfl dX10_text_145 ?_
                  refine zx_bipush (v := (33 : Int32)) C dX10_text_148 (by decide) ?_
                  refine zx_iload_n C dX10_text_150 0 rfl ?_
                  refine zx_cVv C [.ref (g 230), .int (33 : Int32), .int x51] lk_X10_231 (c_X10_store l D cy g 230 264 (33 : Int32) x51 zs_230 σ59 h) zs_223 rfl ⟨by decide, by decide⟩ ⟨rfl, rfl⟩ ⟨Nat.zero_le _, Nat.zero_le _⟩ rfl rfl (Nat.le_of_ble_eq_true rfl) dX10_text_151 (fun σ61 h => ?_)
                  refine zx_goto C 168 dX10_text_154 (by decide) ?_
                  refine zx_iload_n C dX10_text_168 0 rfl ?_
                  exact zx_iret C hr dX10_text_169 h
              · replace h := h.2 q
                refine zx_aload_n C dX10_text_124 1 rfl ?_
                refine zx_aload_n C dX10_text_125 1 rfl ?_
                refine zx_getR C zs_223 fg_X10_26 rfl 229 rfl dX10_text_126 ?_
                refine zx_bipush (v := (123 : Int32)) C dX10_text_129 (by decide) ?_
                refine zx_iload_n C dX10_text_131 0 rfl ?_
                refine zx_cVv C [.ref (g 229), .int (123 : Int32), .int x51] lk_X10_231 (c_X10_store l D cy g 229 984 (123 : Int32) x51 zs_229 σ59 h) zs_223 rfl ⟨by decide, by decide⟩ ⟨rfl, rfl⟩ ⟨Nat.zero_le _, Nat.zero_le _⟩ rfl rfl (Nat.le_of_ble_eq_true rfl) dX10_text_132 (fun σ62 h => ?_)
                refine zx_goto C 168 dX10_text_135 (by decide) ?_
                refine zx_iload_n C dX10_text_168 0 rfl ?_
                exact zx_iret C hr dX10_text_169 h
        · replace h := h.2 q
          refine zx_iconst (v := (-1 : Int32)) C dX10_text_83 (by decide) ?_
          exact zx_iret C hr dX10_text_84 h
      · replace h := h.2 q
        refine zx_goto C 72 dX10_text_60 (by decide) ?_
        refine zx_bipush (v := (-2 : Int32)) C dX10_text_72 (by decide) ?_
        exact zx_iret C hr dX10_text_74 h
def w_X10_fault (a1 : Int32) (σ : zSto) (P : Int32 → zSto → Prop) : Prop := (∀ σ1 : zSto, σ1 = zI σ 223 0 (0 : Int32) → ((¬ a1 = 0 → ((¬ a1 = (1 : Int32) → P (-1 : Int32) σ1) ∧ (a1 = (1 : Int32) → P (σ1.1 227 0) σ1))) ∧ (a1 = 0 → P (σ1.1 226 0) σ1)))
set_option maxRecDepth 100000 in
set_option maxHeartbeats 4000000 in
theorem c_X10_fault (l : Launch) (D : va_G) (cy : Nat → ClassId) (g : Nat → Nat) (a1 : Int32)  (σ : zSto) {P : Int32 → zSto → Prop} (h : w_X10_fault a1 σ P) : zMi l yX10_fault cX10_fault 2 (some .int) (zrm 0 0) D cy g [.ref (g 223), .int a1] σ P := by
  unfold w_X10_fault at h
  refine zm_i RX10 rfl (by decide +kernel) (Nat.le_of_ble_eq_true rfl) ?_
  intro p e s m below meth c C hr
  refine zx_lv (lv' := [(0, .ref (g 223)), (1, .int a1)]) [0, 1] rfl ?_
  refine zx_aload_n C dX10_fault_0 0 rfl ?_
  refine zx_iconst (v := (0 : Int32)) C dX10_fault_1 (by decide) ?_
  refine zx_putI C zs_223 fp_X10_91 rfl dX10_fault_2 ?_
  refine zx_sig (fun σ1 eσ1 => ?_)
  replace h := h σ1 eσ1
  refine zx_iload_n C dX10_fault_5 1 rfl ?_
  refine zx_if_ne C 18 dX10_fault_6 (by decide) (fun q => ?_) (fun q => ?_)
  · replace h := h.1 q
    refine zx_iload_n C dX10_fault_18 1 rfl ?_
    refine zx_iconst (v := (1 : Int32)) C dX10_fault_19 (by decide) ?_
    refine zx_icmp_ne C 32 dX10_fault_20 (by decide) (fun q => ?_) (fun q => ?_)
    · replace h := h.1 q
      refine zx_iconst (v := (-1 : Int32)) C dX10_fault_32 (by decide) ?_
      exact zx_iret C hr dX10_fault_33 h
    · replace h := h.2 q
      refine zx_aload_n C dX10_fault_23 0 rfl ?_
      refine zx_getR C zs_223 fg_X10_20 rfl 227 rfl dX10_fault_24 ?_
      refine zx_iconst (v := (0 : Int32)) C dX10_fault_27 (by decide) ?_
      refine zx_iald C 0 zs_227 (by unfold vp_in; decide) (by decide) dX10_fault_28 ?_
      refine zx_goto C 33 dX10_fault_29 (by decide) ?_
      exact zx_iret C hr dX10_fault_33 h
  · replace h := h.2 q
    refine zx_aload_n C dX10_fault_9 0 rfl ?_
    refine zx_getR C zs_223 fg_X10_17 rfl 226 rfl dX10_fault_10 ?_
    refine zx_iconst (v := (0 : Int32)) C dX10_fault_13 (by decide) ?_
    refine zx_iald C 0 zs_226 (by unfold vp_in; decide) (by decide) dX10_fault_14 ?_
    refine zx_goto C 33 dX10_fault_15 (by decide) ?_
    exact zx_iret C hr dX10_fault_33 h
theorem fg_X10_235 : zFG RX10 235 10 23 := ⟨RX10, TX10, 50, rfl, lay_X10, by decide, fl_X10_235⟩
def w_X10_of (a1 : Int32) (σ : zSto) (P : Int32 → zSto → Prop) : Prop := (vp_in (((123 : Int32) * (σ.1 223 23)) + a1) 984 ∧ P (σ.1 229 ((((123 : Int32) * (σ.1 223 23)) + a1)).toNatClampNeg) σ)
set_option maxRecDepth 100000 in
set_option maxHeartbeats 4000000 in
theorem c_X10_of (l : Launch) (D : va_G) (cy : Nat → ClassId) (g : Nat → Nat) (a1 : Int32)  (σ : zSto) {P : Int32 → zSto → Prop} (h : w_X10_of a1 σ P) : zMi l yX10_of cX10_of 2 (some .int) (zrm 0 0) D cy g [.ref (g 223), .int a1] σ P := by
  unfold w_X10_of at h
  refine zm_i RX10 rfl (by decide +kernel) (Nat.le_of_ble_eq_true rfl) ?_
  intro p e s m below meth c C hr
  refine zx_lv (lv' := [(0, .ref (g 223)), (1, .int a1)]) [0, 1] rfl ?_
  refine zx_aload_n C dX10_of_0 0 rfl ?_
  refine zx_getR C zs_223 fg_X10_26 rfl 229 rfl dX10_of_1 ?_
  refine zx_bipush (v := (123 : Int32)) C dX10_of_4 (by decide) ?_
  refine zx_aload_n C dX10_of_6 0 rfl ?_
  refine zx_getI C zs_223 fg_X10_235 rfl dX10_of_7 ?_
  refine zx_imul C dX10_of_10 ?_
  refine zx_iload_n C dX10_of_11 1 rfl ?_
  refine zx_iadd C dX10_of_12 ?_
  obtain ⟨bd1, h⟩ := h
  refine zx_iald C ((((123 : Int32) * (σ.1 223 23)) + a1)).toNatClampNeg zs_229 bd1 rfl dX10_of_13 ?_
  exact zx_iret C hr dX10_of_14 h
theorem lk_X10_238 : zLV RX10 238 RX10 yX10_of cX10_of 2 (some .int) 1 := zLV_of ml_X10_238 im_X10_of se_X10_of ini_X10 cd_X10_of (by decide +kernel)
def w_X10_postOf (a1 : Int32) (a2 : Int32) (σ : zSto) (P : Int32 → zSto → Prop) : Prop := (w_X10_of (((7 : Int32) + ((5 : Int32) * a1)) + a2) σ (fun (r2 : Int32) (σ1 : zSto) => P r2 σ1))
set_option maxRecDepth 100000 in
set_option maxHeartbeats 4000000 in
theorem c_X10_postOf (l : Launch) (D : va_G) (cy : Nat → ClassId) (g : Nat → Nat) (a1 : Int32) (a2 : Int32)  (σ : zSto) {P : Int32 → zSto → Prop} (h : w_X10_postOf a1 a2 σ P) : zMi l yX10_postOf cX10_postOf 3 (some .int) (zrm 1 21) D cy g [.ref (g 223), .int a1, .int a2] σ P := by
  unfold w_X10_postOf at h
  refine zm_i RX10 rfl (by decide +kernel) (Nat.le_of_ble_eq_true rfl) ?_
  intro p e s m below meth c C hr
  refine zx_lv (lv' := [(0, .ref (g 223)), (1, .int a1), (2, .int a2)]) [0, 1, 2] rfl ?_
  refine zx_aload_n C dX10_postOf_0 0 rfl ?_
  refine zx_bipush (v := (7 : Int32)) C dX10_postOf_1 (by decide) ?_
  refine zx_iconst (v := (5 : Int32)) C dX10_postOf_3 (by decide) ?_
  refine zx_iload_n C dX10_postOf_4 1 rfl ?_
  refine zx_imul C dX10_postOf_5 ?_
  refine zx_iadd C dX10_postOf_6 ?_
  refine zx_iload_n C dX10_postOf_7 2 rfl ?_
  refine zx_iadd C dX10_postOf_8 ?_
  refine zx_cVi C [.int (((7 : Int32) + ((5 : Int32) * a1)) + a2)] lk_X10_238 (c_X10_of l D cy g (((7 : Int32) + ((5 : Int32) * a1)) + a2)  σ h) zs_223 rfl ⟨by decide, by decide⟩ ⟨rfl, rfl⟩ ⟨Nat.zero_le _, Nat.zero_le _⟩ rfl rfl (Nat.le_of_ble_eq_true rfl) dX10_postOf_9 (fun r2 σ1 h => ?_)
  exact zx_iret C hr dX10_postOf_12 h
def w_X10_riderOf (a1 : Int32) (a2 : Int32) (σ : zSto) (P : Int32 → zSto → Prop) : Prop := (w_X10_of (((87 : Int32) + ((6 : Int32) * a1)) + a2) σ (fun (r2 : Int32) (σ1 : zSto) => P r2 σ1))
set_option maxRecDepth 100000 in
set_option maxHeartbeats 4000000 in
theorem c_X10_riderOf (l : Launch) (D : va_G) (cy : Nat → ClassId) (g : Nat → Nat) (a1 : Int32) (a2 : Int32)  (σ : zSto) {P : Int32 → zSto → Prop} (h : w_X10_riderOf a1 a2 σ P) : zMi l yX10_riderOf cX10_riderOf 3 (some .int) (zrm 1 21) D cy g [.ref (g 223), .int a1, .int a2] σ P := by
  unfold w_X10_riderOf at h
  refine zm_i RX10 rfl (by decide +kernel) (Nat.le_of_ble_eq_true rfl) ?_
  intro p e s m below meth c C hr
  refine zx_lv (lv' := [(0, .ref (g 223)), (1, .int a1), (2, .int a2)]) [0, 1, 2] rfl ?_
  refine zx_aload_n C dX10_riderOf_0 0 rfl ?_
  refine zx_bipush (v := (87 : Int32)) C dX10_riderOf_1 (by decide) ?_
  refine zx_bipush (v := (6 : Int32)) C dX10_riderOf_3 (by decide) ?_
  refine zx_iload_n C dX10_riderOf_5 1 rfl ?_
  refine zx_imul C dX10_riderOf_6 ?_
  refine zx_iadd C dX10_riderOf_7 ?_
  refine zx_iload_n C dX10_riderOf_8 2 rfl ?_
  refine zx_iadd C dX10_riderOf_9 ?_
  refine zx_cVi C [.int (((87 : Int32) + ((6 : Int32) * a1)) + a2)] lk_X10_238 (c_X10_of l D cy g (((87 : Int32) + ((6 : Int32) * a1)) + a2)  σ h) zs_223 rfl ⟨by decide, by decide⟩ ⟨rfl, rfl⟩ ⟨Nat.zero_le _, Nat.zero_le _⟩ rfl rfl (Nat.le_of_ble_eq_true rfl) dX10_riderOf_10 (fun r2 σ1 h => ?_)
  exact zx_iret C hr dX10_riderOf_13 h
theorem lk_X10_242 : zLV RX10 242 RX10 yX10_postOf cX10_postOf 3 (some .int) 2 := zLV_of ml_X10_242 im_X10_postOf se_X10_postOf ini_X10 cd_X10_postOf (by decide +kernel)
def w_X10_poundsIn (a1 : Int32) (a2 : Int32) (σ : zSto) (P : Int32 → zSto → Prop) : Prop := (w_X10_postOf a1 (2 : Int32) σ (fun (r2 : Int32) (σ1 : zSto) => (w_X10_of (3 : Int32) σ1 (fun (r4 : Int32) (σ3 : zSto) => (w_X10_greater (0 : Int32) (r2 - (r4 * a2)) σ3 (fun (r6 : Int32) (σ5 : zSto) => P r6 σ5))))))
set_option maxRecDepth 100000 in
set_option maxHeartbeats 4000000 in
theorem c_X10_poundsIn (l : Launch) (D : va_G) (cy : Nat → ClassId) (g : Nat → Nat) (a1 : Int32) (a2 : Int32)  (σ : zSto) {P : Int32 → zSto → Prop} (h : w_X10_poundsIn a1 a2 σ P) : zMi l yX10_poundsIn cX10_poundsIn 3 (some .int) (zrm 2 43) D cy g [.ref (g 223), .int a1, .int a2] σ P := by
  unfold w_X10_poundsIn at h
  refine zm_i RX10 rfl (by decide +kernel) (Nat.le_of_ble_eq_true rfl) ?_
  intro p e s m below meth c C hr
  refine zx_lv (lv' := [(0, .ref (g 223)), (1, .int a1), (2, .int a2)]) [0, 1, 2] rfl ?_
  refine zx_iconst (v := (0 : Int32)) C dX10_poundsIn_0 (by decide) ?_
  refine zx_aload_n C dX10_poundsIn_1 0 rfl ?_
  refine zx_iload_n C dX10_poundsIn_2 1 rfl ?_
  refine zx_iconst (v := (2 : Int32)) C dX10_poundsIn_3 (by decide) ?_
  refine zx_cVi C [.int a1, .int (2 : Int32)] lk_X10_242 (c_X10_postOf l D cy g a1 (2 : Int32)  σ h) zs_223 rfl ⟨by decide, by decide⟩ ⟨rfl, rfl⟩ ⟨Nat.zero_le _, Nat.zero_le _⟩ rfl rfl (Nat.le_of_ble_eq_true rfl) dX10_poundsIn_4 (fun r2 σ1 h => ?_)
  refine zx_aload_n C dX10_poundsIn_7 0 rfl ?_
  refine zx_iconst (v := (3 : Int32)) C dX10_poundsIn_8 (by decide) ?_
  refine zx_cVi C [.int (3 : Int32)] lk_X10_238 (c_X10_of l D cy g (3 : Int32)  σ1 h) zs_223 rfl ⟨by decide, by decide⟩ ⟨rfl, rfl⟩ ⟨Nat.zero_le _, Nat.zero_le _⟩ rfl rfl (Nat.le_of_ble_eq_true rfl) dX10_poundsIn_9 (fun r4 σ3 h => ?_)
  refine zx_iload_n C dX10_poundsIn_12 2 rfl ?_
  refine zx_imul C dX10_poundsIn_13 ?_
  refine zx_isub C dX10_poundsIn_14 ?_
  refine zx_cSi C [.int (0 : Int32), .int (r2 - (r4 * a2))] lk_X10_160 (c_X10_greater l D cy g (0 : Int32) (r2 - (r4 * a2))  σ3 h) ⟨by decide, by decide⟩ ⟨rfl, rfl⟩ ⟨Nat.zero_le _, Nat.zero_le _⟩ rfl rfl (Nat.le_of_ble_eq_true rfl) dX10_poundsIn_15 (fun r6 σ5 h => ?_)
  exact zx_iret C hr dX10_poundsIn_18 h
theorem fp_X10_235 : zFP RX10 235 10 23 .int := ⟨RX10, TX10, 50, tyX10, rfl, lay_X10, by decide, fl_X10_235, tyX10_ok, nmX10, rfl, by decide +kernel⟩
theorem fp_X10_245 : zFP RX10 245 10 24 .int := ⟨RX10, TX10, 50, tyX10, rfl, lay_X10, by decide, fl_X10_245, tyX10_ok, nmX10, rfl, by decide +kernel⟩
theorem fg_X10_245 : zFG RX10 245 10 24 := ⟨RX10, TX10, 50, rfl, lay_X10, by decide, fl_X10_245⟩
theorem fp_X10_248 : zFP RX10 248 10 25 .int := ⟨RX10, TX10, 50, tyX10, rfl, lay_X10, by decide, fl_X10_248, tyX10_ok, nmX10, rfl, by decide +kernel⟩
theorem fp_X10_251 : zFP RX10 251 10 26 .int := ⟨RX10, TX10, 50, tyX10, rfl, lay_X10, by decide, fl_X10_251, tyX10_ok, nmX10, rfl, by decide +kernel⟩
theorem fg_X10_47 : zFG RX10 47 10 27 := ⟨RX10, TX10, 50, rfl, lay_X10, by decide, fl_X10_47⟩
theorem fg_X10_53 : zFG RX10 53 10 29 := ⟨RX10, TX10, 50, rfl, lay_X10, by decide, fl_X10_53⟩
theorem lk_X10_254 : zLV RX10 254 RX10 yX10_poundsIn cX10_poundsIn 3 (some .int) 2 := zLV_of ml_X10_254 im_X10_poundsIn se_X10_poundsIn ini_X10 cd_X10_poundsIn (by decide +kernel)
theorem fg_X10_50 : zFG RX10 50 10 28 := ⟨RX10, TX10, 50, rfl, lay_X10, by decide, fl_X10_50⟩
def w_X10_hand_56 (x_2 : Int32) (P : Int32 → zSto → Prop)  : Nat → Int32 → zSto → Prop
  | 0, _, _ => False
  | n + 1, x_3, σ => (((σ.1 223 24) ≤ x_3 → P (1 : Int32) σ) ∧ (¬ (σ.1 223 24) ≤ x_3 → (w_X10_postOf x_3 (0 : Int32) σ (fun (r14 : Int32) (σ13 : zSto) => (vp_in x_3 16 ∧ (∀ σ16 : zSto, σ16 = zI σ13 236 (x_3).toNatClampNeg r14 → (w_X10_poundsIn x_3 x_2 σ16 (fun (r18 : Int32) (σ17 : zSto) => (vp_in x_3 16 ∧ (∀ σ20 : zSto, σ20 = zI σ17 238 (x_3).toNatClampNeg r18 → (w_X10_of (2 : Int32) σ20 (fun (r22 : Int32) (σ21 : zSto) => (w_X10_postOf x_3 (1 : Int32) σ21 (fun (r24 : Int32) (σ23 : zSto) => (w_X10_postOf x_3 (1 : Int32) σ23 (fun (r26 : Int32) (σ25 : zSto) => ((¬ r26 = (3 : Int32) → (vp_in x_3 16 ∧ (∀ σ28 : zSto, σ28 = zI σ25 237 (x_3).toNatClampNeg ((r22 + ((2 : Int32) * r24)) + (0 : Int32)) → (∀ x29 : Int32, x29 = (x_3 + (1 : Int32)) → w_X10_hand_56 x_2 P n x29 σ28)))) ∧ (r26 = (3 : Int32) → ((x_3 ≤ 0 → (vp_in x_3 16 ∧ (∀ σ31 : zSto, σ31 = zI σ25 237 (x_3).toNatClampNeg ((r22 + ((2 : Int32) * r24)) + (0 : Int32)) → (∀ x32 : Int32, x32 = (x_3 + (1 : Int32)) → w_X10_hand_56 x_2 P n x32 σ31)))) ∧ (¬ x_3 ≤ 0 → (w_X10_postOf (x_3 - (1 : Int32)) (0 : Int32) σ25 (fun (r34 : Int32) (σ33 : zSto) => (vp_in x_3 16 ∧ (∀ σ36 : zSto, σ36 = zI σ33 237 (x_3).toNatClampNeg ((r22 + ((2 : Int32) * r24)) + ((2 : Int32) * r34)) → (∀ x37 : Int32, x37 = (x_3 + (1 : Int32)) → w_X10_hand_56 x_2 P n x37 σ36)))))))))))))))))))))))))
def w_X10_hand (a1 : Int32) (a2 : Int32) (σ : zSto) (P : Int32 → zSto → Prop) : Prop := (w_X10_is (0 : Int32) a1 σ (fun (r2 : Int32) (σ1 : zSto) => (r2 = 0 ∨ r2 = 1) → ((r2 = 0 → P (0 : Int32) σ1) ∧ (¬ r2 = 0 → (w_X10_in a2 (0 : Int32) (9 : Int32) σ1 (fun (r4 : Int32) (σ3 : zSto) => (r4 = 0 ∨ r4 = 1) → ((¬ r4 = 0 → (∀ σ5 : zSto, σ5 = zI σ3 223 23 a1 → (w_X10_of (0 : Int32) σ5 (fun (r7 : Int32) (σ6 : zSto) => (∀ σ8 : zSto, σ8 = zI σ6 223 24 r7 → (∀ σ9 : zSto, σ9 = zI σ8 223 25 ((σ8.1 223 24) - (1 : Int32)) → (w_X10_of (1 : Int32) σ9 (fun (r11 : Int32) (σ10 : zSto) => (∀ σ12 : zSto, σ12 = zI σ10 223 26 r11 → (∃ n : Nat, w_X10_hand_56 a2 P  n (0 : Int32) σ12)))))))))) ∧ (r4 = 0 → P (0 : Int32) σ3))))))))
set_option maxRecDepth 100000 in
set_option maxHeartbeats 4000000 in
theorem k_X10_hand_56 {p : Program} {l : Launch} {e : Env} {s : State} {m : MethodId} {args : Array Value} {below : List Frame} {meth : Method} {c : Code} {D : va_G} {cy : Nat → ClassId} {g : Nat → Nat} (C : zC p s m args meth c cX10_hand RX10 4 D cy g) (hr : meth.sig.returnType = (some .boolean)) {P : Int32 → zSto → Prop} (x_2 : Int32)    : ∀ (n : Nat) (x_3 : Int32) (σ : zSto), w_X10_hand_56 x_2 P n x_3 σ → zX p l e (zrm 3 65) s m args below meth c 0 0 (zQb P below args s D cy g) 4 D cy g 56 [(0, .ref (g 223)), (2, .int x_2), (3, .int x_3)] [] σ := by
  intro n
  induction n with
  | zero => intro x_3 σ h; exact h.elim
  | succ n ih =>
    intro x_3 σ h
    unfold w_X10_hand_56 at h
    refine zx_iload_n C dX10_hand_56 2 rfl ?_
    refine zx_aload_n C dX10_hand_57 0 rfl ?_
    refine zx_getI C zs_223 fg_X10_245 rfl dX10_hand_58 ?_
    refine zx_icmp_ge C 143 dX10_hand_61 (by decide) (fun q => ?_) (fun q => ?_)
    · replace h := h.1 q
      refine zx_iconst (v := (1 : Int32)) C dX10_hand_143 (by decide) ?_
      exact zx_zret C hr dX10_hand_144 (Or.inr rfl) h
    · replace h := h.2 q
      refine zx_aload_n C dX10_hand_64 0 rfl ?_
      refine zx_getR C zs_223 fg_X10_47 rfl 236 rfl dX10_hand_65 ?_
      refine zx_iload_n C dX10_hand_68 2 rfl ?_
      refine zx_aload_n C dX10_hand_69 0 rfl ?_
      refine zx_iload_n C dX10_hand_70 2 rfl ?_
      refine zx_iconst (v := (0 : Int32)) C dX10_hand_71 (by decide) ?_
      refine zx_cVi C [.int x_3, .int (0 : Int32)] lk_X10_242 (c_X10_postOf l D cy g x_3 (0 : Int32)  σ h) zs_223 rfl ⟨by decide, by decide⟩ ⟨rfl, rfl⟩ ⟨Nat.zero_le _, Nat.zero_le _⟩ rfl rfl (Nat.le_of_ble_eq_true rfl) dX10_hand_72 (fun r14 σ13 h => ?_)
      obtain ⟨bd15, h⟩ := h
      refine zx_iast C (x_3).toNatClampNeg zs_236 bd15 rfl dX10_hand_75 ?_
      refine zx_sig (fun σ16 eσ16 => ?_)
      replace h := h σ16 eσ16
      refine zx_aload_n C dX10_hand_76 0 rfl ?_
      refine zx_getR C zs_223 fg_X10_53 rfl 238 rfl dX10_hand_77 ?_
      refine zx_iload_n C dX10_hand_80 2 rfl ?_
      refine zx_aload_n C dX10_hand_81 0 rfl ?_
      refine zx_iload_n C dX10_hand_82 2 rfl ?_
      refine zx_iload_n C dX10_hand_83 1 rfl ?_
      refine zx_cVi C [.int x_3, .int x_2] lk_X10_254 (c_X10_poundsIn l D cy g x_3 x_2  σ16 h) zs_223 rfl ⟨by decide, by decide⟩ ⟨rfl, rfl⟩ ⟨Nat.zero_le _, Nat.zero_le _⟩ rfl rfl (Nat.le_of_ble_eq_true rfl) dX10_hand_84 (fun r18 σ17 h => ?_)
      obtain ⟨bd19, h⟩ := h
      refine zx_iast C (x_3).toNatClampNeg zs_238 bd19 rfl dX10_hand_87 ?_
      refine zx_sig (fun σ20 eσ20 => ?_)
      replace h := h σ20 eσ20
      refine zx_aload_n C dX10_hand_88 0 rfl ?_
      refine zx_getR C zs_223 fg_X10_50 rfl 237 rfl dX10_hand_89 ?_
      refine zx_iload_n C dX10_hand_92 2 rfl ?_
      refine zx_aload_n C dX10_hand_93 0 rfl ?_
      refine zx_iconst (v := (2 : Int32)) C dX10_hand_94 (by decide) ?_
      refine zx_cVi C [.int (2 : Int32)] lk_X10_238 (c_X10_of l D cy g (2 : Int32)  σ20 h) zs_223 rfl ⟨by decide, by decide⟩ ⟨rfl, rfl⟩ ⟨Nat.zero_le _, Nat.zero_le _⟩ rfl rfl (Nat.le_of_ble_eq_true rfl) dX10_hand_95 (fun r22 σ21 h => ?_)
      refine zx_iconst (v := (2 : Int32)) C dX10_hand_98 (by decide) ?_
      refine zx_aload_n C dX10_hand_99 0 rfl ?_
      refine zx_iload_n C dX10_hand_100 2 rfl ?_
      refine zx_iconst (v := (1 : Int32)) C dX10_hand_101 (by decide) ?_
      refine zx_cVi C [.int x_3, .int (1 : Int32)] lk_X10_242 (c_X10_postOf l D cy g x_3 (1 : Int32)  σ21 h) zs_223 rfl ⟨by decide, by decide⟩ ⟨rfl, rfl⟩ ⟨Nat.zero_le _, Nat.zero_le _⟩ rfl rfl (Nat.le_of_ble_eq_true rfl) dX10_hand_102 (fun r24 σ23 h => ?_)
      refine zx_imul C dX10_hand_105 ?_
      refine zx_iadd C dX10_hand_106 ?_
      refine zx_aload_n C dX10_hand_107 0 rfl ?_
      refine zx_iload_n C dX10_hand_108 2 rfl ?_
      refine zx_iconst (v := (1 : Int32)) C dX10_hand_109 (by decide) ?_
      refine zx_cVi C [.int x_3, .int (1 : Int32)] lk_X10_242 (c_X10_postOf l D cy g x_3 (1 : Int32)  σ23 h) zs_223 rfl ⟨by decide, by decide⟩ ⟨rfl, rfl⟩ ⟨Nat.zero_le _, Nat.zero_le _⟩ rfl rfl (Nat.le_of_ble_eq_true rfl) dX10_hand_110 (fun r26 σ25 h => ?_)
      refine zx_iconst (v := (3 : Int32)) C dX10_hand_113 (by decide) ?_
      refine zx_icmp_ne C 134 dX10_hand_114 (by decide) (fun q => ?_) (fun q => ?_)
      · replace h := h.1 q
        refine zx_iconst (v := (0 : Int32)) C dX10_hand_134 (by decide) ?_
        refine zx_iadd C dX10_hand_135 ?_
        obtain ⟨bd27, h⟩ := h
        refine zx_iast C (x_3).toNatClampNeg zs_237 bd27 rfl dX10_hand_136 ?_
        refine zx_sig (fun σ28 eσ28 => ?_)
        replace h := h σ28 eσ28
        obtain ⟨x29, ex29⟩ : ∃ y : Int32, y = (x_3 + (1 : Int32)) := ⟨_, rfl⟩
        replace h := h x29 ex29
        refine zx_iinc (v := x29) (lv' := [(3, .int x29), (0, .ref (g 223)), (2, .int x_2)]) C dX10_hand_137 2 rfl (by rw [ex29]; rfl) (by decide) rfl ?_
        refine zx_goto C 56 dX10_hand_140 (by decide) ?_
        refine zx_lv (lv' := [(0, .ref (g 223)), (2, .int x_2), (3, .int x29)]) [1, 2, 0] rfl ?_
        exact ih x29 σ28 h
      · replace h := h.2 q
        refine zx_iload_n C dX10_hand_117 2 rfl ?_
        refine zx_if_le C 134 dX10_hand_118 (by decide) (fun q => ?_) (fun q => ?_)
        · replace h := h.1 q
          refine zx_iconst (v := (0 : Int32)) C dX10_hand_134 (by decide) ?_
          refine zx_iadd C dX10_hand_135 ?_
          obtain ⟨bd30, h⟩ := h
          refine zx_iast C (x_3).toNatClampNeg zs_237 bd30 rfl dX10_hand_136 ?_
          refine zx_sig (fun σ31 eσ31 => ?_)
          replace h := h σ31 eσ31
          obtain ⟨x32, ex32⟩ : ∃ y : Int32, y = (x_3 + (1 : Int32)) := ⟨_, rfl⟩
          replace h := h x32 ex32
          refine zx_iinc (v := x32) (lv' := [(3, .int x32), (0, .ref (g 223)), (2, .int x_2)]) C dX10_hand_137 2 rfl (by rw [ex32]; rfl) (by decide) rfl ?_
          refine zx_goto C 56 dX10_hand_140 (by decide) ?_
          refine zx_lv (lv' := [(0, .ref (g 223)), (2, .int x_2), (3, .int x32)]) [1, 2, 0] rfl ?_
          exact ih x32 σ31 h
        · replace h := h.2 q
          refine zx_iconst (v := (2 : Int32)) C dX10_hand_121 (by decide) ?_
          refine zx_aload_n C dX10_hand_122 0 rfl ?_
          refine zx_iload_n C dX10_hand_123 2 rfl ?_
          refine zx_iconst (v := (1 : Int32)) C dX10_hand_124 (by decide) ?_
          refine zx_isub C dX10_hand_125 ?_
          refine zx_iconst (v := (0 : Int32)) C dX10_hand_126 (by decide) ?_
          refine zx_cVi C [.int (x_3 - (1 : Int32)), .int (0 : Int32)] lk_X10_242 (c_X10_postOf l D cy g (x_3 - (1 : Int32)) (0 : Int32)  σ25 h) zs_223 rfl ⟨by decide, by decide⟩ ⟨rfl, rfl⟩ ⟨Nat.zero_le _, Nat.zero_le _⟩ rfl rfl (Nat.le_of_ble_eq_true rfl) dX10_hand_127 (fun r34 σ33 h => ?_)
          refine zx_imul C dX10_hand_130 ?_
          refine zx_goto C 135 dX10_hand_131 (by decide) ?_
          refine zx_iadd C dX10_hand_135 ?_
          obtain ⟨bd35, h⟩ := h
          refine zx_iast C (x_3).toNatClampNeg zs_237 bd35 rfl dX10_hand_136 ?_
          refine zx_sig (fun σ36 eσ36 => ?_)
          replace h := h σ36 eσ36
          obtain ⟨x37, ex37⟩ : ∃ y : Int32, y = (x_3 + (1 : Int32)) := ⟨_, rfl⟩
          replace h := h x37 ex37
          refine zx_iinc (v := x37) (lv' := [(3, .int x37), (0, .ref (g 223)), (2, .int x_2)]) C dX10_hand_137 2 rfl (by rw [ex37]; rfl) (by decide) rfl ?_
          refine zx_goto C 56 dX10_hand_140 (by decide) ?_
          refine zx_lv (lv' := [(0, .ref (g 223)), (2, .int x_2), (3, .int x37)]) [1, 2, 0] rfl ?_
          exact ih x37 σ36 h
set_option maxRecDepth 100000 in
set_option maxHeartbeats 4000000 in
theorem c_X10_hand (l : Launch) (D : va_G) (cy : Nat → ClassId) (g : Nat → Nat) (a1 : Int32) (a2 : Int32)  (σ : zSto) {P : Int32 → zSto → Prop} (h : w_X10_hand a1 a2 σ P) : zMb l yX10_hand cX10_hand 4 (some .boolean) (zrm 3 65) D cy g [.ref (g 223), .int a1, .int a2] σ P := by
  unfold w_X10_hand at h
  refine zm_b RX10 rfl (by decide +kernel) (Nat.le_of_ble_eq_true rfl) ?_
  intro p e s m below meth c C hr
  refine zx_lv (lv' := [(0, .ref (g 223)), (1, .int a1), (2, .int a2)]) [0, 1, 2] rfl ?_
  refine zx_aload_n C dX10_hand_0 0 rfl ?_
  refine zx_iconst (v := (0 : Int32)) C dX10_hand_1 (by decide) ?_
  refine zx_iload_n C dX10_hand_2 1 rfl ?_
  refine zx_cVb C [.int (0 : Int32), .int a1] lk_X10_225 (c_X10_is l D cy g (0 : Int32) a1  σ h) zs_223 rfl ⟨by decide, by decide⟩ ⟨rfl, rfl⟩ ⟨Nat.zero_le _, Nat.zero_le _⟩ rfl rfl (Nat.le_of_ble_eq_true rfl) dX10_hand_3 (fun r2 σ1 hb h => ?_)
  replace h := h hb
  refine zx_if_eq C 19 dX10_hand_6 (by decide) (fun q => ?_) (fun q => ?_)
  · replace h := h.1 q
    refine zx_iconst (v := (0 : Int32)) C dX10_hand_19 (by decide) ?_
    exact zx_zret C hr dX10_hand_20 (Or.inl rfl) h
  · replace h := h.2 q
    refine zx_iload_n C dX10_hand_9 2 rfl ?_
    refine zx_iconst (v := (0 : Int32)) C dX10_hand_10 (by decide) ?_
    refine zx_bipush (v := (9 : Int32)) C dX10_hand_11 (by decide) ?_
    refine zx_cSb C [.int a2, .int (0 : Int32), .int (9 : Int32)] lk_X10_103 (c_X10_in l D cy g a2 (0 : Int32) (9 : Int32)  σ1 h) ⟨by decide, by decide⟩ ⟨rfl, rfl⟩ ⟨Nat.zero_le _, Nat.zero_le _⟩ rfl rfl (Nat.le_of_ble_eq_true rfl) dX10_hand_13 (fun r4 σ3 hb h => ?_)
    replace h := h hb
    refine zx_if_ne C 21 dX10_hand_16 (by decide) (fun q => ?_) (fun q => ?_)
    · replace h := h.1 q
      refine zx_aload_n C dX10_hand_21 0 rfl ?_
      refine zx_iload_n C dX10_hand_22 1 rfl ?_
      refine zx_putI C zs_223 fp_X10_235 rfl dX10_hand_23 ?_
      refine zx_sig (fun σ5 eσ5 => ?_)
      replace h := h σ5 eσ5
      refine zx_aload_n C dX10_hand_26 0 rfl ?_
      refine zx_aload_n C dX10_hand_27 0 rfl ?_
      refine zx_iconst (v := (0 : Int32)) C dX10_hand_28 (by decide) ?_
      refine zx_cVi C [.int (0 : Int32)] lk_X10_238 (c_X10_of l D cy g (0 : Int32)  σ5 h) zs_223 rfl ⟨by decide, by decide⟩ ⟨rfl, rfl⟩ ⟨Nat.zero_le _, Nat.zero_le _⟩ rfl rfl (Nat.le_of_ble_eq_true rfl) dX10_hand_29 (fun r7 σ6 h => ?_)
      refine zx_putI C zs_223 fp_X10_245 rfl dX10_hand_32 ?_
      refine zx_sig (fun σ8 eσ8 => ?_)
      replace h := h σ8 eσ8
      refine zx_aload_n C dX10_hand_35 0 rfl ?_
      refine zx_aload_n C dX10_hand_36 0 rfl ?_
      refine zx_getI C zs_223 fg_X10_245 rfl dX10_hand_37 ?_
      refine zx_iconst (v := (1 : Int32)) C dX10_hand_40 (by decide) ?_
      refine zx_isub C dX10_hand_41 ?_
      refine zx_putI C zs_223 fp_X10_248 rfl dX10_hand_42 ?_
      refine zx_sig (fun σ9 eσ9 => ?_)
      replace h := h σ9 eσ9
      refine zx_aload_n C dX10_hand_45 0 rfl ?_
      refine zx_aload_n C dX10_hand_46 0 rfl ?_
      refine zx_iconst (v := (1 : Int32)) C dX10_hand_47 (by decide) ?_
      refine zx_cVi C [.int (1 : Int32)] lk_X10_238 (c_X10_of l D cy g (1 : Int32)  σ9 h) zs_223 rfl ⟨by decide, by decide⟩ ⟨rfl, rfl⟩ ⟨Nat.zero_le _, Nat.zero_le _⟩ rfl rfl (Nat.le_of_ble_eq_true rfl) dX10_hand_48 (fun r11 σ10 h => ?_)
      refine zx_putI C zs_223 fp_X10_251 rfl dX10_hand_51 ?_
      refine zx_sig (fun σ12 eσ12 => ?_)
      replace h := h σ12 eσ12
      refine zx_iconst (v := (0 : Int32)) C dX10_hand_54 (by decide) ?_
      refine zx_istore_n (lv' := [(3, .int (0 : Int32)), (0, .ref (g 223)), (1, .int a1), (2, .int a2)]) C dX10_hand_55 (by decide) rfl ?_
      obtain ⟨n, h⟩ := h
      refine zx_lv (lv' := [(0, .ref (g 223)), (2, .int a2), (3, .int (0 : Int32))]) [1, 3, 0] rfl ?_
      exact k_X10_hand_56 C hr (a2)   n (0 : Int32) σ12 h
    · replace h := h.2 q
      refine zx_iconst (v := (0 : Int32)) C dX10_hand_19 (by decide) ?_
      exact zx_zret C hr dX10_hand_20 (Or.inl rfl) h
theorem lk_X10_257 : zLV RX10 257 RX10 yX10_hand cX10_hand 4 (some .boolean) 2 := zLV_of ml_X10_257 im_X10_hand se_X10_hand ini_X10 cd_X10_hand (by decide +kernel)
def w_X10_line_28  (P : Int32 → zSto → Prop)  : Nat → Int32 → Int32 → zSto → Prop
  | 0, _, _, _ => False
  | n + 1, x_3, x_4, σ => (((σ.1 223 24) ≤ x_4 → P x_3 σ) ∧ (¬ (σ.1 223 24) ≤ x_4 → (w_X10_postOf x_4 (4 : Int32) σ (fun (r9 : Int32) (σ8 : zSto) => ((r9 = (-1 : Int32) → (∀ x10 : Int32, x10 = (x_3 ||| (0 : Int32)) → (∀ x11 : Int32, x11 = (x_4 + (1 : Int32)) → w_X10_line_28 P n x10 x11 σ8))) ∧ (¬ r9 = (-1 : Int32) → (∀ x12 : Int32, x12 = (x_3 ||| ((1 : Int32) <<< (x_4 &&& 31))) → (∀ x13 : Int32, x13 = (x_4 + (1 : Int32)) → w_X10_line_28 P n x12 x13 σ8))))))))
def w_X10_line (a1 : Int32) (a2 : Int32) (σ : zSto) (P : Int32 → zSto → Prop) : Prop := (∀ σ1 : zSto, σ1 = zI σ 223 0 (0 : Int32) → (w_X10_hand a1 (0 : Int32) σ1 (fun (r3 : Int32) (σ2 : zSto) => (r3 = 0 ∨ r3 = 1) → ((¬ r3 = 0 → ((¬ a2 = (7 : Int32) → (w_X10_in a2 (0 : Int32) (6 : Int32) σ2 (fun (r5 : Int32) (σ4 : zSto) => (r5 = 0 ∨ r5 = 1) → ((r5 = 0 → P (-2 : Int32) σ4) ∧ (¬ r5 = 0 → (w_X10_of a2 σ4 (fun (r7 : Int32) (σ6 : zSto) => P r7 σ6))))))) ∧ (a2 = (7 : Int32) → (∃ n : Nat, w_X10_line_28  P  n (0 : Int32) (0 : Int32) σ2)))) ∧ (r3 = 0 → P (-2 : Int32) σ2)))))
set_option maxRecDepth 100000 in
set_option maxHeartbeats 4000000 in
theorem k_X10_line_28 {p : Program} {l : Launch} {e : Env} {s : State} {m : MethodId} {args : Array Value} {below : List Frame} {meth : Method} {c : Code} {D : va_G} {cy : Nat → ClassId} {g : Nat → Nat} (C : zC p s m args meth c cX10_line RX10 5 D cy g) (hr : meth.sig.returnType = (some .int)) {P : Int32 → zSto → Prop}     : ∀ (n : Nat) (x_3 : Int32) (x_4 : Int32) (σ : zSto), w_X10_line_28 P n x_3 x_4 σ → zX p l e (zrm 4 88) s m args below meth c 0 0 (zQi P below args s D cy g) 5 D cy g 28 [(0, .ref (g 223)), (3, .int x_3), (4, .int x_4)] [] σ := by
  intro n
  induction n with
  | zero => intro x_3 x_4 σ h; exact h.elim
  | succ n ih =>
    intro x_3 x_4 σ h
    unfold w_X10_line_28 at h
    refine zx_iload C dX10_line_28 2 rfl ?_
    refine zx_aload_n C dX10_line_30 0 rfl ?_
    refine zx_getI C zs_223 fg_X10_245 rfl dX10_line_31 ?_
    refine zx_icmp_ge C 65 dX10_line_34 (by decide) (fun q => ?_) (fun q => ?_)
    · replace h := h.1 q
      refine zx_iload_n C dX10_line_65 1 rfl ?_
      exact zx_iret C hr dX10_line_66 h
    · replace h := h.2 q
      refine zx_iload_n C dX10_line_37 1 rfl ?_
      refine zx_aload_n C dX10_line_38 0 rfl ?_
      refine zx_iload C dX10_line_39 2 rfl ?_
      refine zx_iconst (v := (4 : Int32)) C dX10_line_41 (by decide) ?_
      refine zx_cVi C [.int x_4, .int (4 : Int32)] lk_X10_242 (c_X10_postOf l D cy g x_4 (4 : Int32)  σ h) zs_223 rfl ⟨by decide, by decide⟩ ⟨rfl, rfl⟩ ⟨Nat.zero_le _, Nat.zero_le _⟩ rfl rfl (Nat.le_of_ble_eq_true rfl) dX10_line_42 (fun r9 σ8 h => ?_)
      refine zx_iconst (v := (-1 : Int32)) C dX10_line_45 (by decide) ?_
      refine zx_icmp_eq C 56 dX10_line_46 (by decide) (fun q => ?_) (fun q => ?_)
      · replace h := h.1 q
        refine zx_iconst (v := (0 : Int32)) C dX10_line_56 (by decide) ?_
        refine zx_ior C dX10_line_57 ?_
        refine zx_topi (fun x10 ex10 => ?_)
        replace h := h x10 ex10
        refine zx_istore_n (lv' := [(3, .int x10), (0, .ref (g 223)), (4, .int x_4)]) C dX10_line_58 (by decide) rfl ?_
        obtain ⟨x11, ex11⟩ : ∃ y : Int32, y = (x_4 + (1 : Int32)) := ⟨_, rfl⟩
        replace h := h x11 ex11
        refine zx_iinc (v := x11) (lv' := [(4, .int x11), (3, .int x10), (0, .ref (g 223))]) C dX10_line_59 2 rfl (by rw [ex11]; rfl) (by decide) rfl ?_
        refine zx_goto C 28 dX10_line_62 (by decide) ?_
        refine zx_lv (lv' := [(0, .ref (g 223)), (3, .int x10), (4, .int x11)]) [2, 1, 0] rfl ?_
        exact ih x10 x11 σ8 h
      · replace h := h.2 q
        refine zx_iconst (v := (1 : Int32)) C dX10_line_49 (by decide) ?_
        refine zx_iload C dX10_line_50 2 rfl ?_
        refine zx_ishl C dX10_line_52 ?_
        refine zx_goto C 57 dX10_line_53 (by decide) ?_
        refine zx_ior C dX10_line_57 ?_
        refine zx_topi (fun x12 ex12 => ?_)
        replace h := h x12 ex12
        refine zx_istore_n (lv' := [(3, .int x12), (0, .ref (g 223)), (4, .int x_4)]) C dX10_line_58 (by decide) rfl ?_
        obtain ⟨x13, ex13⟩ : ∃ y : Int32, y = (x_4 + (1 : Int32)) := ⟨_, rfl⟩
        replace h := h x13 ex13
        refine zx_iinc (v := x13) (lv' := [(4, .int x13), (3, .int x12), (0, .ref (g 223))]) C dX10_line_59 2 rfl (by rw [ex13]; rfl) (by decide) rfl ?_
        refine zx_goto C 28 dX10_line_62 (by decide) ?_
        refine zx_lv (lv' := [(0, .ref (g 223)), (3, .int x12), (4, .int x13)]) [2, 1, 0] rfl ?_
        exact ih x12 x13 σ8 h
set_option maxRecDepth 100000 in
set_option maxHeartbeats 4000000 in
theorem c_X10_line (l : Launch) (D : va_G) (cy : Nat → ClassId) (g : Nat → Nat) (a1 : Int32) (a2 : Int32)  (σ : zSto) {P : Int32 → zSto → Prop} (h : w_X10_line a1 a2 σ P) : zMi l yX10_line cX10_line 5 (some .int) (zrm 4 88) D cy g [.ref (g 223), .int a1, .int a2] σ P := by
  unfold w_X10_line at h
  refine zm_i RX10 rfl (by decide +kernel) (Nat.le_of_ble_eq_true rfl) ?_
  intro p e s m below meth c C hr
  refine zx_lv (lv' := [(0, .ref (g 223)), (1, .int a1), (2, .int a2)]) [0, 1, 2] rfl ?_
  refine zx_aload_n C dX10_line_0 0 rfl ?_
  refine zx_iconst (v := (0 : Int32)) C dX10_line_1 (by decide) ?_
  refine zx_putI C zs_223 fp_X10_91 rfl dX10_line_2 ?_
  refine zx_sig (fun σ1 eσ1 => ?_)
  replace h := h σ1 eσ1
  refine zx_aload_n C dX10_line_5 0 rfl ?_
  refine zx_iload_n C dX10_line_6 1 rfl ?_
  refine zx_iconst (v := (0 : Int32)) C dX10_line_7 (by decide) ?_
  refine zx_cVb C [.int a1, .int (0 : Int32)] lk_X10_257 (c_X10_hand l D cy g a1 (0 : Int32)  σ1 h) zs_223 rfl ⟨by decide, by decide⟩ ⟨rfl, rfl⟩ ⟨Nat.zero_le _, Nat.zero_le _⟩ rfl rfl (Nat.le_of_ble_eq_true rfl) dX10_line_8 (fun r3 σ2 hb h => ?_)
  replace h := h hb
  refine zx_if_ne C 17 dX10_line_11 (by decide) (fun q => ?_) (fun q => ?_)
  · replace h := h.1 q
    refine zx_iload_n C dX10_line_17 2 rfl ?_
    refine zx_bipush (v := (7 : Int32)) C dX10_line_18 (by decide) ?_
    refine zx_icmp_ne C 67 dX10_line_20 (by decide) (fun q => ?_) (fun q => ?_)
    · replace h := h.1 q
      refine zx_iload_n C dX10_line_67 2 rfl ?_
      refine zx_iconst (v := (0 : Int32)) C dX10_line_68 (by decide) ?_
      refine zx_bipush (v := (6 : Int32)) C dX10_line_69 (by decide) ?_
      refine zx_cSb C [.int a2, .int (0 : Int32), .int (6 : Int32)] lk_X10_103 (c_X10_in l D cy g a2 (0 : Int32) (6 : Int32)  σ2 h) ⟨by decide, by decide⟩ ⟨rfl, rfl⟩ ⟨Nat.zero_le _, Nat.zero_le _⟩ rfl rfl (Nat.le_of_ble_eq_true rfl) dX10_line_71 (fun r5 σ4 hb h => ?_)
      replace h := h hb
      refine zx_if_eq C 85 dX10_line_74 (by decide) (fun q => ?_) (fun q => ?_)
      · replace h := h.1 q
        refine zx_bipush (v := (-2 : Int32)) C dX10_line_85 (by decide) ?_
        exact zx_iret C hr dX10_line_87 h
      · replace h := h.2 q
        refine zx_aload_n C dX10_line_77 0 rfl ?_
        refine zx_iload_n C dX10_line_78 2 rfl ?_
        refine zx_cVi C [.int a2] lk_X10_238 (c_X10_of l D cy g a2  σ4 h) zs_223 rfl ⟨by decide, by decide⟩ ⟨rfl, rfl⟩ ⟨Nat.zero_le _, Nat.zero_le _⟩ rfl rfl (Nat.le_of_ble_eq_true rfl) dX10_line_79 (fun r7 σ6 h => ?_)
        refine zx_goto C 87 dX10_line_82 (by decide) ?_
        exact zx_iret C hr dX10_line_87 h
    · replace h := h.2 q
      refine zx_iconst (v := (0 : Int32)) C dX10_line_23 (by decide) ?_
      refine zx_istore_n (lv' := [(3, .int (0 : Int32)), (0, .ref (g 223)), (1, .int a1), (2, .int a2)]) C dX10_line_24 (by decide) rfl ?_
      refine zx_iconst (v := (0 : Int32)) C dX10_line_25 (by decide) ?_
      refine zx_istore (lv' := [(4, .int (0 : Int32)), (3, .int (0 : Int32)), (0, .ref (g 223)), (1, .int a1), (2, .int a2)]) C dX10_line_26 (by decide) rfl ?_
      obtain ⟨n, h⟩ := h
      refine zx_lv (lv' := [(0, .ref (g 223)), (3, .int (0 : Int32)), (4, .int (0 : Int32))]) [2, 1, 0] rfl ?_
      exact k_X10_line_28 C hr    n (0 : Int32) (0 : Int32) σ2 h
  · replace h := h.2 q
    refine zx_bipush (v := (-2 : Int32)) C dX10_line_14 (by decide) ?_
    exact zx_iret C hr dX10_line_16 h
theorem fg_X10_248 : zFG RX10 248 10 25 := ⟨RX10, TX10, 50, rfl, lay_X10, by decide, fl_X10_248⟩
def w_X10_isPost (a1 : Int32) (σ : zSto) (P : Int32 → zSto → Prop) : Prop := (w_X10_in a1 (0 : Int32) (σ.1 223 25) σ (fun (r2 : Int32) (σ1 : zSto) => (r2 = 0 ∨ r2 = 1) → ((r2 = 0 ∨ r2 = 1) ∧ P r2 σ1)))
set_option maxRecDepth 100000 in
set_option maxHeartbeats 4000000 in
theorem c_X10_isPost (l : Launch) (D : va_G) (cy : Nat → ClassId) (g : Nat → Nat) (a1 : Int32)  (σ : zSto) {P : Int32 → zSto → Prop} (h : w_X10_isPost a1 σ P) : zMb l yX10_isPost cX10_isPost 2 (some .boolean) (zrm 1 22) D cy g [.ref (g 223), .int a1] σ P := by
  unfold w_X10_isPost at h
  refine zm_b RX10 rfl (by decide +kernel) (Nat.le_of_ble_eq_true rfl) ?_
  intro p e s m below meth c C hr
  refine zx_lv (lv' := [(0, .ref (g 223)), (1, .int a1)]) [0, 1] rfl ?_
  refine zx_iload_n C dX10_isPost_0 1 rfl ?_
  refine zx_iconst (v := (0 : Int32)) C dX10_isPost_1 (by decide) ?_
  refine zx_aload_n C dX10_isPost_2 0 rfl ?_
  refine zx_getI C zs_223 fg_X10_248 rfl dX10_isPost_3 ?_
  refine zx_cSb C [.int a1, .int (0 : Int32), .int (σ.1 223 25)] lk_X10_103 (c_X10_in l D cy g a1 (0 : Int32) (σ.1 223 25)  σ h) ⟨by decide, by decide⟩ ⟨rfl, rfl⟩ ⟨Nat.zero_le _, Nat.zero_le _⟩ rfl rfl (Nat.le_of_ble_eq_true rfl) dX10_isPost_6 (fun r2 σ1 hb h => ?_)
  replace h := h hb
  exact zx_zret C hr dX10_isPost_9 h.1 h.2
theorem fg_X10_251 : zFG RX10 251 10 26 := ⟨RX10, TX10, 50, rfl, lay_X10, by decide, fl_X10_251⟩
def w_X10_isRider (a1 : Int32) (σ : zSto) (P : Int32 → zSto → Prop) : Prop := (w_X10_in a1 (0 : Int32) ((σ.1 223 26) - (1 : Int32)) σ (fun (r2 : Int32) (σ1 : zSto) => (r2 = 0 ∨ r2 = 1) → ((r2 = 0 ∨ r2 = 1) ∧ P r2 σ1)))
set_option maxRecDepth 100000 in
set_option maxHeartbeats 4000000 in
theorem c_X10_isRider (l : Launch) (D : va_G) (cy : Nat → ClassId) (g : Nat → Nat) (a1 : Int32)  (σ : zSto) {P : Int32 → zSto → Prop} (h : w_X10_isRider a1 σ P) : zMb l yX10_isRider cX10_isRider 2 (some .boolean) (zrm 1 22) D cy g [.ref (g 223), .int a1] σ P := by
  unfold w_X10_isRider at h
  refine zm_b RX10 rfl (by decide +kernel) (Nat.le_of_ble_eq_true rfl) ?_
  intro p e s m below meth c C hr
  refine zx_lv (lv' := [(0, .ref (g 223)), (1, .int a1)]) [0, 1] rfl ?_
  refine zx_iload_n C dX10_isRider_0 1 rfl ?_
  refine zx_iconst (v := (0 : Int32)) C dX10_isRider_1 (by decide) ?_
  refine zx_aload_n C dX10_isRider_2 0 rfl ?_
  refine zx_getI C zs_223 fg_X10_251 rfl dX10_isRider_3 ?_
  refine zx_iconst (v := (1 : Int32)) C dX10_isRider_6 (by decide) ?_
  refine zx_isub C dX10_isRider_7 ?_
  refine zx_cSb C [.int a1, .int (0 : Int32), .int ((σ.1 223 26) - (1 : Int32))] lk_X10_103 (c_X10_in l D cy g a1 (0 : Int32) ((σ.1 223 26) - (1 : Int32))  σ h) ⟨by decide, by decide⟩ ⟨rfl, rfl⟩ ⟨Nat.zero_le _, Nat.zero_le _⟩ rfl rfl (Nat.le_of_ble_eq_true rfl) dX10_isRider_8 (fun r2 σ1 hb h => ?_)
  replace h := h hb
  exact zx_zret C hr dX10_isRider_11 h.1 h.2
theorem lk_X10_260 : zLV RX10 260 RX10 yX10_isPost cX10_isPost 2 (some .boolean) 1 := zLV_of ml_X10_260 im_X10_isPost se_X10_isPost ini_X10 cd_X10_isPost (by decide +kernel)
def w_X10_post (a1 : Int32) (a2 : Int32) (a3 : Int32) (σ : zSto) (P : Int32 → zSto → Prop) : Prop := (∀ σ1 : zSto, σ1 = zI σ 223 0 (0 : Int32) → (w_X10_hand a1 (0 : Int32) σ1 (fun (r3 : Int32) (σ2 : zSto) => (r3 = 0 ∨ r3 = 1) → ((r3 = 0 → P (-2 : Int32) σ2) ∧ (¬ r3 = 0 → (w_X10_isPost a2 σ2 (fun (r5 : Int32) (σ4 : zSto) => (r5 = 0 ∨ r5 = 1) → ((¬ r5 = 0 → (w_X10_in a3 (0 : Int32) (4 : Int32) σ4 (fun (r7 : Int32) (σ6 : zSto) => (r7 = 0 ∨ r7 = 1) → ((r7 = 0 → ((¬ a3 = (5 : Int32) → (w_X10_in a3 (10 : Int32) (19 : Int32) σ6 (fun (r9 : Int32) (σ8 : zSto) => (r9 = 0 ∨ r9 = 1) → ((r9 = 0 → P (-2 : Int32) σ8) ∧ (¬ r9 = 0 → (w_X10_poundsIn a2 (a3 - (10 : Int32)) σ8 (fun (r11 : Int32) (σ10 : zSto) => P r11 σ10))))))) ∧ (a3 = (5 : Int32) → ((¬ a2 = (σ6.1 223 25) → (vp_in a2 16 ∧ P (σ6.1 237 (a2).toNatClampNeg) σ6)) ∧ (a2 = (σ6.1 223 25) → P (-1 : Int32) σ6))))) ∧ (¬ r7 = 0 → (w_X10_postOf a2 a3 σ6 (fun (r14 : Int32) (σ13 : zSto) => P r14 σ13))))))) ∧ (r5 = 0 → P (-2 : Int32) σ4)))))))))
set_option maxRecDepth 100000 in
set_option maxHeartbeats 4000000 in
theorem c_X10_post (l : Launch) (D : va_G) (cy : Nat → ClassId) (g : Nat → Nat) (a1 : Int32) (a2 : Int32) (a3 : Int32)  (σ : zSto) {P : Int32 → zSto → Prop} (h : w_X10_post a1 a2 a3 σ P) : zMi l yX10_post cX10_post 4 (some .int) (zrm 4 88) D cy g [.ref (g 223), .int a1, .int a2, .int a3] σ P := by
  unfold w_X10_post at h
  refine zm_i RX10 rfl (by decide +kernel) (Nat.le_of_ble_eq_true rfl) ?_
  intro p e s m below meth c C hr
  refine zx_lv (lv' := [(0, .ref (g 223)), (1, .int a1), (2, .int a2), (3, .int a3)]) [0, 1, 2, 3] rfl ?_
  refine zx_aload_n C dX10_post_0 0 rfl ?_
  refine zx_iconst (v := (0 : Int32)) C dX10_post_1 (by decide) ?_
  refine zx_putI C zs_223 fp_X10_91 rfl dX10_post_2 ?_
  refine zx_sig (fun σ1 eσ1 => ?_)
  replace h := h σ1 eσ1
  refine zx_aload_n C dX10_post_5 0 rfl ?_
  refine zx_iload_n C dX10_post_6 1 rfl ?_
  refine zx_iconst (v := (0 : Int32)) C dX10_post_7 (by decide) ?_
  refine zx_cVb C [.int a1, .int (0 : Int32)] lk_X10_257 (c_X10_hand l D cy g a1 (0 : Int32)  σ1 h) zs_223 rfl ⟨by decide, by decide⟩ ⟨rfl, rfl⟩ ⟨Nat.zero_le _, Nat.zero_le _⟩ rfl rfl (Nat.le_of_ble_eq_true rfl) dX10_post_8 (fun r3 σ2 hb h => ?_)
  replace h := h hb
  refine zx_if_eq C 22 dX10_post_11 (by decide) (fun q => ?_) (fun q => ?_)
  · replace h := h.1 q
    refine zx_bipush (v := (-2 : Int32)) C dX10_post_22 (by decide) ?_
    exact zx_iret C hr dX10_post_24 h
  · replace h := h.2 q
    refine zx_aload_n C dX10_post_14 0 rfl ?_
    refine zx_iload_n C dX10_post_15 2 rfl ?_
    refine zx_cVb C [.int a2] lk_X10_260 (c_X10_isPost l D cy g a2  σ2 h) zs_223 rfl ⟨by decide, by decide⟩ ⟨rfl, rfl⟩ ⟨Nat.zero_le _, Nat.zero_le _⟩ rfl rfl (Nat.le_of_ble_eq_true rfl) dX10_post_16 (fun r5 σ4 hb h => ?_)
    replace h := h hb
    refine zx_if_ne C 25 dX10_post_19 (by decide) (fun q => ?_) (fun q => ?_)
    · replace h := h.1 q
      refine zx_iload_n C dX10_post_25 3 rfl ?_
      refine zx_iconst (v := (0 : Int32)) C dX10_post_26 (by decide) ?_
      refine zx_iconst (v := (4 : Int32)) C dX10_post_27 (by decide) ?_
      refine zx_cSb C [.int a3, .int (0 : Int32), .int (4 : Int32)] lk_X10_103 (c_X10_in l D cy g a3 (0 : Int32) (4 : Int32)  σ4 h) ⟨by decide, by decide⟩ ⟨rfl, rfl⟩ ⟨Nat.zero_le _, Nat.zero_le _⟩ rfl rfl (Nat.le_of_ble_eq_true rfl) dX10_post_28 (fun r7 σ6 hb h => ?_)
      replace h := h hb
      refine zx_if_eq C 41 dX10_post_31 (by decide) (fun q => ?_) (fun q => ?_)
      · replace h := h.1 q
        refine zx_iload_n C dX10_post_41 3 rfl ?_
        refine zx_iconst (v := (5 : Int32)) C dX10_post_42 (by decide) ?_
        refine zx_icmp_ne C 67 dX10_post_43 (by decide) (fun q => ?_) (fun q => ?_)
        · replace h := h.1 q
          refine zx_iload_n C dX10_post_67 3 rfl ?_
          refine zx_bipush (v := (10 : Int32)) C dX10_post_68 (by decide) ?_
          refine zx_bipush (v := (19 : Int32)) C dX10_post_70 (by decide) ?_
          refine zx_cSb C [.int a3, .int (10 : Int32), .int (19 : Int32)] lk_X10_103 (c_X10_in l D cy g a3 (10 : Int32) (19 : Int32)  σ6 h) ⟨by decide, by decide⟩ ⟨rfl, rfl⟩ ⟨Nat.zero_le _, Nat.zero_le _⟩ rfl rfl (Nat.le_of_ble_eq_true rfl) dX10_post_72 (fun r9 σ8 hb h => ?_)
          replace h := h hb
          refine zx_if_eq C 90 dX10_post_75 (by decide) (fun q => ?_) (fun q => ?_)
          · replace h := h.1 q
            refine zx_bipush (v := (-2 : Int32)) C dX10_post_90 (by decide) ?_
            exact zx_iret C hr dX10_post_92 h
          · replace h := h.2 q
            refine zx_aload_n C dX10_post_78 0 rfl ?_
            refine zx_iload_n C dX10_post_79 2 rfl ?_
            refine zx_iload_n C dX10_post_80 3 rfl ?_
            refine zx_bipush (v := (10 : Int32)) C dX10_post_81 (by decide) ?_
            refine zx_isub C dX10_post_83 ?_
            refine zx_cVi C [.int a2, .int (a3 - (10 : Int32))] lk_X10_254 (c_X10_poundsIn l D cy g a2 (a3 - (10 : Int32))  σ8 h) zs_223 rfl ⟨by decide, by decide⟩ ⟨rfl, rfl⟩ ⟨Nat.zero_le _, Nat.zero_le _⟩ rfl rfl (Nat.le_of_ble_eq_true rfl) dX10_post_84 (fun r11 σ10 h => ?_)
            refine zx_goto C 92 dX10_post_87 (by decide) ?_
            exact zx_iret C hr dX10_post_92 h
        · replace h := h.2 q
          refine zx_iload_n C dX10_post_46 2 rfl ?_
          refine zx_aload_n C dX10_post_47 0 rfl ?_
          refine zx_getI C zs_223 fg_X10_248 rfl dX10_post_48 ?_
          refine zx_icmp_ne C 58 dX10_post_51 (by decide) (fun q => ?_) (fun q => ?_)
          · replace h := h.1 q
            refine zx_aload_n C dX10_post_58 0 rfl ?_
            refine zx_getR C zs_223 fg_X10_50 rfl 237 rfl dX10_post_59 ?_
            refine zx_iload_n C dX10_post_62 2 rfl ?_
            obtain ⟨bd12, h⟩ := h
            refine zx_iald C (a2).toNatClampNeg zs_237 bd12 rfl dX10_post_63 ?_
            refine zx_goto C 92 dX10_post_64 (by decide) ?_
            exact zx_iret C hr dX10_post_92 h
          · replace h := h.2 q
            refine zx_iconst (v := (-1 : Int32)) C dX10_post_54 (by decide) ?_
            refine zx_goto C 92 dX10_post_55 (by decide) ?_
            exact zx_iret C hr dX10_post_92 h
      · replace h := h.2 q
        refine zx_aload_n C dX10_post_34 0 rfl ?_
        refine zx_iload_n C dX10_post_35 2 rfl ?_
        refine zx_iload_n C dX10_post_36 3 rfl ?_
        refine zx_cVi C [.int a2, .int a3] lk_X10_242 (c_X10_postOf l D cy g a2 a3  σ6 h) zs_223 rfl ⟨by decide, by decide⟩ ⟨rfl, rfl⟩ ⟨Nat.zero_le _, Nat.zero_le _⟩ rfl rfl (Nat.le_of_ble_eq_true rfl) dX10_post_37 (fun r14 σ13 h => ?_)
        exact zx_iret C hr dX10_post_40 h
    · replace h := h.2 q
      refine zx_bipush (v := (-2 : Int32)) C dX10_post_22 (by decide) ?_
      exact zx_iret C hr dX10_post_24 h
theorem lk_X10_263 : zLV RX10 263 RX10 yX10_isRider cX10_isRider 2 (some .boolean) 1 := zLV_of ml_X10_263 im_X10_isRider se_X10_isRider ini_X10 cd_X10_isRider (by decide +kernel)
theorem lk_X10_266 : zLV RX10 266 RX10 yX10_riderOf cX10_riderOf 3 (some .int) 2 := zLV_of ml_X10_266 im_X10_riderOf se_X10_riderOf ini_X10 cd_X10_riderOf (by decide +kernel)
def w_X10_rider (a1 : Int32) (a2 : Int32) (a3 : Int32) (σ : zSto) (P : Int32 → zSto → Prop) : Prop := (∀ σ1 : zSto, σ1 = zI σ 223 0 (0 : Int32) → (w_X10_hand a1 (0 : Int32) σ1 (fun (r3 : Int32) (σ2 : zSto) => (r3 = 0 ∨ r3 = 1) → ((r3 = 0 → P (-1 : Int32) σ2) ∧ (¬ r3 = 0 → (w_X10_isRider a2 σ2 (fun (r5 : Int32) (σ4 : zSto) => (r5 = 0 ∨ r5 = 1) → ((r5 = 0 → P (-1 : Int32) σ4) ∧ (¬ r5 = 0 → (w_X10_in a3 (0 : Int32) (5 : Int32) σ4 (fun (r7 : Int32) (σ6 : zSto) => (r7 = 0 ∨ r7 = 1) → ((r7 = 0 → P (-1 : Int32) σ6) ∧ (¬ r7 = 0 → (w_X10_riderOf a2 a3 σ6 (fun (r9 : Int32) (σ8 : zSto) => P r9 σ8)))))))))))))))
set_option maxRecDepth 100000 in
set_option maxHeartbeats 4000000 in
theorem c_X10_rider (l : Launch) (D : va_G) (cy : Nat → ClassId) (g : Nat → Nat) (a1 : Int32) (a2 : Int32) (a3 : Int32)  (σ : zSto) {P : Int32 → zSto → Prop} (h : w_X10_rider a1 a2 a3 σ P) : zMi l yX10_rider cX10_rider 4 (some .int) (zrm 4 88) D cy g [.ref (g 223), .int a1, .int a2, .int a3] σ P := by
  unfold w_X10_rider at h
  refine zm_i RX10 rfl (by decide +kernel) (Nat.le_of_ble_eq_true rfl) ?_
  intro p e s m below meth c C hr
  refine zx_lv (lv' := [(0, .ref (g 223)), (1, .int a1), (2, .int a2), (3, .int a3)]) [0, 1, 2, 3] rfl ?_
  refine zx_aload_n C dX10_rider_0 0 rfl ?_
  refine zx_iconst (v := (0 : Int32)) C dX10_rider_1 (by decide) ?_
  refine zx_putI C zs_223 fp_X10_91 rfl dX10_rider_2 ?_
  refine zx_sig (fun σ1 eσ1 => ?_)
  replace h := h σ1 eσ1
  refine zx_aload_n C dX10_rider_5 0 rfl ?_
  refine zx_iload_n C dX10_rider_6 1 rfl ?_
  refine zx_iconst (v := (0 : Int32)) C dX10_rider_7 (by decide) ?_
  refine zx_cVb C [.int a1, .int (0 : Int32)] lk_X10_257 (c_X10_hand l D cy g a1 (0 : Int32)  σ1 h) zs_223 rfl ⟨by decide, by decide⟩ ⟨rfl, rfl⟩ ⟨Nat.zero_le _, Nat.zero_le _⟩ rfl rfl (Nat.le_of_ble_eq_true rfl) dX10_rider_8 (fun r3 σ2 hb h => ?_)
  replace h := h hb
  refine zx_if_eq C 40 dX10_rider_11 (by decide) (fun q => ?_) (fun q => ?_)
  · replace h := h.1 q
    refine zx_iconst (v := (-1 : Int32)) C dX10_rider_40 (by decide) ?_
    exact zx_iret C hr dX10_rider_41 h
  · replace h := h.2 q
    refine zx_aload_n C dX10_rider_14 0 rfl ?_
    refine zx_iload_n C dX10_rider_15 2 rfl ?_
    refine zx_cVb C [.int a2] lk_X10_263 (c_X10_isRider l D cy g a2  σ2 h) zs_223 rfl ⟨by decide, by decide⟩ ⟨rfl, rfl⟩ ⟨Nat.zero_le _, Nat.zero_le _⟩ rfl rfl (Nat.le_of_ble_eq_true rfl) dX10_rider_16 (fun r5 σ4 hb h => ?_)
    replace h := h hb
    refine zx_if_eq C 40 dX10_rider_19 (by decide) (fun q => ?_) (fun q => ?_)
    · replace h := h.1 q
      refine zx_iconst (v := (-1 : Int32)) C dX10_rider_40 (by decide) ?_
      exact zx_iret C hr dX10_rider_41 h
    · replace h := h.2 q
      refine zx_iload_n C dX10_rider_22 3 rfl ?_
      refine zx_iconst (v := (0 : Int32)) C dX10_rider_23 (by decide) ?_
      refine zx_iconst (v := (5 : Int32)) C dX10_rider_24 (by decide) ?_
      refine zx_cSb C [.int a3, .int (0 : Int32), .int (5 : Int32)] lk_X10_103 (c_X10_in l D cy g a3 (0 : Int32) (5 : Int32)  σ4 h) ⟨by decide, by decide⟩ ⟨rfl, rfl⟩ ⟨Nat.zero_le _, Nat.zero_le _⟩ rfl rfl (Nat.le_of_ble_eq_true rfl) dX10_rider_25 (fun r7 σ6 hb h => ?_)
      replace h := h hb
      refine zx_if_eq C 40 dX10_rider_28 (by decide) (fun q => ?_) (fun q => ?_)
      · replace h := h.1 q
        refine zx_iconst (v := (-1 : Int32)) C dX10_rider_40 (by decide) ?_
        exact zx_iret C hr dX10_rider_41 h
      · replace h := h.2 q
        refine zx_aload_n C dX10_rider_31 0 rfl ?_
        refine zx_iload_n C dX10_rider_32 2 rfl ?_
        refine zx_iload_n C dX10_rider_33 3 rfl ?_
        refine zx_cVi C [.int a2, .int a3] lk_X10_266 (c_X10_riderOf l D cy g a2 a3  σ6 h) zs_223 rfl ⟨by decide, by decide⟩ ⟨rfl, rfl⟩ ⟨Nat.zero_le _, Nat.zero_le _⟩ rfl rfl (Nat.le_of_ble_eq_true rfl) dX10_rider_34 (fun r9 σ8 h => ?_)
        refine zx_goto C 41 dX10_rider_37 (by decide) ?_
        exact zx_iret C hr dX10_rider_41 h
theorem fg_X10_269 : zFG RX10 269 10 30 := ⟨RX10, TX10, 50, rfl, lay_X10, by decide, fl_X10_269⟩
theorem fp_X10_269 : zFP RX10 269 10 30 .int := ⟨RX10, TX10, 50, tyX10, rfl, lay_X10, by decide, fl_X10_269, tyX10_ok, nmX10, rfl, by decide +kernel⟩
def w_X10_draw (a1 : Int32) (σ : zSto) (P : Int32 → zSto → Prop) : Prop := (∀ σ1 : zSto, σ1 = zI σ 223 30 (((σ.1 223 30) * (1103515245 : Int32)) + (12345 : Int32)) → (¬ a1 = 0 ∧ P (((σ1.1 223 30).toUInt32 >>> ((16 : Int32).toUInt32 &&& Int32.toUInt32 31)).toInt32 - ((σ1.1 223 30).toUInt32 >>> ((16 : Int32).toUInt32 &&& Int32.toUInt32 31)).toInt32 / a1 * a1) σ1))
set_option maxRecDepth 100000 in
set_option maxHeartbeats 4000000 in
theorem c_X10_draw (l : Launch) (D : va_G) (cy : Nat → ClassId) (g : Nat → Nat) (a1 : Int32)  (σ : zSto) {P : Int32 → zSto → Prop} (h : w_X10_draw a1 σ P) : zMi l yX10_draw cX10_draw 2 (some .int) (zrm 0 0) D cy g [.ref (g 223), .int a1] σ P := by
  unfold w_X10_draw at h
  refine zm_i RX10 rfl (by decide +kernel) (Nat.le_of_ble_eq_true rfl) ?_
  intro p e s m below meth c C hr
  refine zx_lv (lv' := [(0, .ref (g 223)), (1, .int a1)]) [0, 1] rfl ?_
  refine zx_aload_n C dX10_draw_0 0 rfl ?_
  refine zx_aload_n C dX10_draw_1 0 rfl ?_
  refine zx_getI C zs_223 fg_X10_269 rfl dX10_draw_2 ?_
  refine zx_ldcw C dX10_draw_5 co_X10_272 ?_
  refine zx_imul C dX10_draw_8 ?_
  refine zx_sipush (v := (12345 : Int32)) C dX10_draw_9 (by decide) ?_
  refine zx_iadd C dX10_draw_12 ?_
  refine zx_putI C zs_223 fp_X10_269 rfl dX10_draw_13 ?_
  refine zx_sig (fun σ1 eσ1 => ?_)
  replace h := h σ1 eσ1
  refine zx_aload_n C dX10_draw_16 0 rfl ?_
  refine zx_getI C zs_223 fg_X10_269 rfl dX10_draw_17 ?_
  refine zx_bipush (v := (16 : Int32)) C dX10_draw_20 (by decide) ?_
  refine zx_iushr C dX10_draw_22 ?_
  refine zx_iload_n C dX10_draw_23 1 rfl ?_
  obtain ⟨q2, h⟩ := h
  refine zx_irem C dX10_draw_24 q2 ?_
  exact zx_iret C hr dX10_draw_25 h
def w_X10_isOn (a1 : Int32) (a2 : Int32) (σ : zSto) (P : Int32 → zSto → Prop) : Prop := (w_X10_riderOf a1 (0 : Int32) σ (fun (r2 : Int32) (σ1 : zSto) => ((a2 < r2 → P (0 : Int32) σ1) ∧ (¬ a2 < r2 → (w_X10_riderOf a1 (1 : Int32) σ1 (fun (r4 : Int32) (σ3 : zSto) => ((r4 ≤ a2 → P (0 : Int32) σ3) ∧ (¬ r4 ≤ a2 → P (1 : Int32) σ3))))))))
set_option maxRecDepth 100000 in
set_option maxHeartbeats 4000000 in
theorem c_X10_isOn (l : Launch) (D : va_G) (cy : Nat → ClassId) (g : Nat → Nat) (a1 : Int32) (a2 : Int32)  (σ : zSto) {P : Int32 → zSto → Prop} (h : w_X10_isOn a1 a2 σ P) : zMb l yX10_isOn cX10_isOn 3 (some .boolean) (zrm 2 43) D cy g [.ref (g 223), .int a1, .int a2] σ P := by
  unfold w_X10_isOn at h
  refine zm_b RX10 rfl (by decide +kernel) (Nat.le_of_ble_eq_true rfl) ?_
  intro p e s m below meth c C hr
  refine zx_lv (lv' := [(0, .ref (g 223)), (1, .int a1), (2, .int a2)]) [0, 1, 2] rfl ?_
  refine zx_aload_n C dX10_isOn_0 0 rfl ?_
  refine zx_iload_n C dX10_isOn_1 1 rfl ?_
  refine zx_iconst (v := (0 : Int32)) C dX10_isOn_2 (by decide) ?_
  refine zx_cVi C [.int a1, .int (0 : Int32)] lk_X10_266 (c_X10_riderOf l D cy g a1 (0 : Int32)  σ h) zs_223 rfl ⟨by decide, by decide⟩ ⟨rfl, rfl⟩ ⟨Nat.zero_le _, Nat.zero_le _⟩ rfl rfl (Nat.le_of_ble_eq_true rfl) dX10_isOn_3 (fun r2 σ1 h => ?_)
  refine zx_iload_n C dX10_isOn_6 2 rfl ?_
  refine zx_icmp_gt C 24 dX10_isOn_7 (by decide) (fun q => ?_) (fun q => ?_)
  · replace h := h.1 q
    refine zx_iconst (v := (0 : Int32)) C dX10_isOn_24 (by decide) ?_
    exact zx_zret C hr dX10_isOn_25 (Or.inl rfl) h
  · replace h := h.2 q
    refine zx_iload_n C dX10_isOn_10 2 rfl ?_
    refine zx_aload_n C dX10_isOn_11 0 rfl ?_
    refine zx_iload_n C dX10_isOn_12 1 rfl ?_
    refine zx_iconst (v := (1 : Int32)) C dX10_isOn_13 (by decide) ?_
    refine zx_cVi C [.int a1, .int (1 : Int32)] lk_X10_266 (c_X10_riderOf l D cy g a1 (1 : Int32)  σ1 h) zs_223 rfl ⟨by decide, by decide⟩ ⟨rfl, rfl⟩ ⟨Nat.zero_le _, Nat.zero_le _⟩ rfl rfl (Nat.le_of_ble_eq_true rfl) dX10_isOn_14 (fun r4 σ3 h => ?_)
    refine zx_icmp_ge C 24 dX10_isOn_17 (by decide) (fun q => ?_) (fun q => ?_)
    · replace h := h.1 q
      refine zx_iconst (v := (0 : Int32)) C dX10_isOn_24 (by decide) ?_
      exact zx_zret C hr dX10_isOn_25 (Or.inl rfl) h
    · replace h := h.2 q
      refine zx_iconst (v := (1 : Int32)) C dX10_isOn_20 (by decide) ?_
      refine zx_goto C 25 dX10_isOn_21 (by decide) ?_
      exact zx_zret C hr dX10_isOn_25 (Or.inr rfl) h
theorem lk_X10_273 : zLV RX10 273 RX10 yX10_isOn cX10_isOn 3 (some .boolean) 2 := zLV_of ml_X10_273 im_X10_isOn se_X10_isOn ini_X10 cd_X10_isOn (by decide +kernel)
theorem fg_X10_62 : zFG RX10 62 10 37 := ⟨RX10, TX10, 50, rfl, lay_X10, by decide, fl_X10_62⟩
theorem fg_X10_276 : zFG RX10 276 10 31 := ⟨RX10, TX10, 50, rfl, lay_X10, by decide, fl_X10_276⟩
def w_X10_wants (a1 : Int32) (a2 : Int32) (σ : zSto) (P : Int32 → zSto → Prop) : Prop := (w_X10_isOn a1 a2 σ (fun (r2 : Int32) (σ1 : zSto) => (r2 = 0 ∨ r2 = 1) → ((r2 = 0 → P (0 : Int32) σ1) ∧ (¬ r2 = 0 → (vp_in a2 16 ∧ (((σ1.1 238 (a2).toNatClampNeg) ≤ 0 → P (0 : Int32) σ1) ∧ (¬ (σ1.1 238 (a2).toNatClampNeg) ≤ 0 → (w_X10_riderOf a1 (3 : Int32) σ1 (fun (r5 : Int32) (σ4 : zSto) => (vp_in a2 16 ∧ (((σ4.1 238 (a2).toNatClampNeg) < r5 → P (0 : Int32) σ4) ∧ (¬ (σ4.1 238 (a2).toNatClampNeg) < r5 → (vp_in a1 6 ∧ (w_X10_riderOf a1 (2 : Int32) σ4 (fun (r9 : Int32) (σ8 : zSto) => ((r9 ≤ (σ4.1 241 (a1).toNatClampNeg) → P (0 : Int32) σ8) ∧ (¬ r9 ≤ (σ4.1 241 (a1).toNatClampNeg) → (w_X10_riderOf a1 (4 : Int32) σ8 (fun (r11 : Int32) (σ10 : zSto) => (vp_in a2 16 ∧ ((r11 < ((σ10.1 223 31) + (σ10.1 237 (a2).toNatClampNeg)) → P (0 : Int32) σ10) ∧ (¬ r11 < ((σ10.1 223 31) + (σ10.1 237 (a2).toNatClampNeg)) → P (1 : Int32) σ10))))))))))))))))))))))
set_option maxRecDepth 100000 in
set_option maxHeartbeats 4000000 in
theorem c_X10_wants (l : Launch) (D : va_G) (cy : Nat → ClassId) (g : Nat → Nat) (a1 : Int32) (a2 : Int32)  (σ : zSto) {P : Int32 → zSto → Prop} (h : w_X10_wants a1 a2 σ P) : zMb l yX10_wants cX10_wants 3 (some .boolean) (zrm 3 65) D cy g [.ref (g 223), .int a1, .int a2] σ P := by
  unfold w_X10_wants at h
  refine zm_b RX10 rfl (by decide +kernel) (Nat.le_of_ble_eq_true rfl) ?_
  intro p e s m below meth c C hr
  refine zx_lv (lv' := [(0, .ref (g 223)), (1, .int a1), (2, .int a2)]) [0, 1, 2] rfl ?_
  refine zx_aload_n C dX10_wants_0 0 rfl ?_
  refine zx_iload_n C dX10_wants_1 1 rfl ?_
  refine zx_iload_n C dX10_wants_2 2 rfl ?_
  refine zx_cVb C [.int a1, .int a2] lk_X10_273 (c_X10_isOn l D cy g a1 a2  σ h) zs_223 rfl ⟨by decide, by decide⟩ ⟨rfl, rfl⟩ ⟨Nat.zero_le _, Nat.zero_le _⟩ rfl rfl (Nat.le_of_ble_eq_true rfl) dX10_wants_3 (fun r2 σ1 hb h => ?_)
  replace h := h hb
  refine zx_if_eq C 72 dX10_wants_6 (by decide) (fun q => ?_) (fun q => ?_)
  · replace h := h.1 q
    refine zx_iconst (v := (0 : Int32)) C dX10_wants_72 (by decide) ?_
    exact zx_zret C hr dX10_wants_73 (Or.inl rfl) h
  · replace h := h.2 q
    refine zx_aload_n C dX10_wants_9 0 rfl ?_
    refine zx_getR C zs_223 fg_X10_53 rfl 238 rfl dX10_wants_10 ?_
    refine zx_iload_n C dX10_wants_13 2 rfl ?_
    obtain ⟨bd3, h⟩ := h
    refine zx_iald C (a2).toNatClampNeg zs_238 bd3 rfl dX10_wants_14 ?_
    refine zx_if_le C 72 dX10_wants_15 (by decide) (fun q => ?_) (fun q => ?_)
    · replace h := h.1 q
      refine zx_iconst (v := (0 : Int32)) C dX10_wants_72 (by decide) ?_
      exact zx_zret C hr dX10_wants_73 (Or.inl rfl) h
    · replace h := h.2 q
      refine zx_aload_n C dX10_wants_18 0 rfl ?_
      refine zx_iload_n C dX10_wants_19 1 rfl ?_
      refine zx_iconst (v := (3 : Int32)) C dX10_wants_20 (by decide) ?_
      refine zx_cVi C [.int a1, .int (3 : Int32)] lk_X10_266 (c_X10_riderOf l D cy g a1 (3 : Int32)  σ1 h) zs_223 rfl ⟨by decide, by decide⟩ ⟨rfl, rfl⟩ ⟨Nat.zero_le _, Nat.zero_le _⟩ rfl rfl (Nat.le_of_ble_eq_true rfl) dX10_wants_21 (fun r5 σ4 h => ?_)
      refine zx_aload_n C dX10_wants_24 0 rfl ?_
      refine zx_getR C zs_223 fg_X10_53 rfl 238 rfl dX10_wants_25 ?_
      refine zx_iload_n C dX10_wants_28 2 rfl ?_
      obtain ⟨bd6, h⟩ := h
      refine zx_iald C (a2).toNatClampNeg zs_238 bd6 rfl dX10_wants_29 ?_
      refine zx_icmp_gt C 72 dX10_wants_30 (by decide) (fun q => ?_) (fun q => ?_)
      · replace h := h.1 q
        refine zx_iconst (v := (0 : Int32)) C dX10_wants_72 (by decide) ?_
        exact zx_zret C hr dX10_wants_73 (Or.inl rfl) h
      · replace h := h.2 q
        refine zx_aload_n C dX10_wants_33 0 rfl ?_
        refine zx_getR C zs_223 fg_X10_62 rfl 241 rfl dX10_wants_34 ?_
        refine zx_iload_n C dX10_wants_37 1 rfl ?_
        obtain ⟨bd7, h⟩ := h
        refine zx_iald C (a1).toNatClampNeg zs_241 bd7 rfl dX10_wants_38 ?_
        refine zx_aload_n C dX10_wants_39 0 rfl ?_
        refine zx_iload_n C dX10_wants_40 1 rfl ?_
        refine zx_iconst (v := (2 : Int32)) C dX10_wants_41 (by decide) ?_
        refine zx_cVi C [.int a1, .int (2 : Int32)] lk_X10_266 (c_X10_riderOf l D cy g a1 (2 : Int32)  σ4 h) zs_223 rfl ⟨by decide, by decide⟩ ⟨rfl, rfl⟩ ⟨Nat.zero_le _, Nat.zero_le _⟩ rfl rfl (Nat.le_of_ble_eq_true rfl) dX10_wants_42 (fun r9 σ8 h => ?_)
        refine zx_icmp_ge C 72 dX10_wants_45 (by decide) (fun q => ?_) (fun q => ?_)
        · replace h := h.1 q
          refine zx_iconst (v := (0 : Int32)) C dX10_wants_72 (by decide) ?_
          exact zx_zret C hr dX10_wants_73 (Or.inl rfl) h
        · replace h := h.2 q
          refine zx_aload_n C dX10_wants_48 0 rfl ?_
          refine zx_iload_n C dX10_wants_49 1 rfl ?_
          refine zx_iconst (v := (4 : Int32)) C dX10_wants_50 (by decide) ?_
          refine zx_cVi C [.int a1, .int (4 : Int32)] lk_X10_266 (c_X10_riderOf l D cy g a1 (4 : Int32)  σ8 h) zs_223 rfl ⟨by decide, by decide⟩ ⟨rfl, rfl⟩ ⟨Nat.zero_le _, Nat.zero_le _⟩ rfl rfl (Nat.le_of_ble_eq_true rfl) dX10_wants_51 (fun r11 σ10 h => ?_)
          refine zx_aload_n C dX10_wants_54 0 rfl ?_
          refine zx_getI C zs_223 fg_X10_276 rfl dX10_wants_55 ?_
          refine zx_aload_n C dX10_wants_58 0 rfl ?_
          refine zx_getR C zs_223 fg_X10_50 rfl 237 rfl dX10_wants_59 ?_
          refine zx_iload_n C dX10_wants_62 2 rfl ?_
          obtain ⟨bd12, h⟩ := h
          refine zx_iald C (a2).toNatClampNeg zs_237 bd12 rfl dX10_wants_63 ?_
          refine zx_iadd C dX10_wants_64 ?_
          refine zx_icmp_lt C 72 dX10_wants_65 (by decide) (fun q => ?_) (fun q => ?_)
          · replace h := h.1 q
            refine zx_iconst (v := (0 : Int32)) C dX10_wants_72 (by decide) ?_
            exact zx_zret C hr dX10_wants_73 (Or.inl rfl) h
          · replace h := h.2 q
            refine zx_iconst (v := (1 : Int32)) C dX10_wants_68 (by decide) ?_
            refine zx_goto C 73 dX10_wants_69 (by decide) ?_
            exact zx_zret C hr dX10_wants_73 (Or.inr rfl) h
theorem lk_X10_282 : zLV RX10 282 RX10 yX10_draw cX10_draw 2 (some .int) 1 := zLV_of ml_X10_282 im_X10_draw se_X10_draw ini_X10 cd_X10_draw (by decide +kernel)
theorem lk_X10_279 : zLV RX10 279 RX10 yX10_wants cX10_wants 3 (some .boolean) 2 := zLV_of ml_X10_279 im_X10_wants se_X10_wants ini_X10 cd_X10_wants (by decide +kernel)
theorem fg_X10_71 : zFG RX10 71 10 40 := ⟨RX10, TX10, 50, rfl, lay_X10, by decide, fl_X10_71⟩
def w_X10_pullerAt_150 (x_1 : Int32) (x_3 : Int32) (P : Int32 → zSto → Prop)  : Nat → Int32 → Int32 → zSto → Prop
  | 0, _, _, _ => False
  | n + 1, x_7, x_8, σ => (((σ.1 223 26) ≤ x_8 → P (-1 : Int32) σ) ∧ (¬ (σ.1 223 26) ≤ x_8 → (w_X10_has x_3 x_8 σ (fun (r4 : Int32) (σ3 : zSto) => (r4 = 0 ∨ r4 = 1) → ((r4 = 0 → (∀ x5 : Int32, x5 = (x_8 + (1 : Int32)) → w_X10_pullerAt_150 x_1 x_3 P n x_7 x5 σ3)) ∧ (¬ r4 = 0 → (w_X10_wants x_8 x_1 σ3 (fun (r7 : Int32) (σ6 : zSto) => (r7 = 0 ∨ r7 = 1) → ((r7 = 0 → (∀ x8 : Int32, x8 = (x_8 + (1 : Int32)) → w_X10_pullerAt_150 x_1 x_3 P n x_7 x8 σ6)) ∧ (¬ r7 = 0 → ((¬ x_7 = 0 → (∀ x9 : Int32, x9 = (x_7 + (-1 : Int32)) → (∀ x10 : Int32, x10 = (x_8 + (1 : Int32)) → w_X10_pullerAt_150 x_1 x_3 P n x9 x10 σ6))) ∧ (x_7 = 0 → P x_8 σ6))))))))))))
def w_X10_pullerAt_12 (x_1 : Int32) (x_2 : Int32) (x_3 : Int32) (P : Int32 → zSto → Prop)  : Nat → Int32 → Int32 → Int32 → Int32 → zSto → Prop
  | 0, _, _, _, _, _ => False
  | n + 1, x_4, x_5, x_6, x_7, σ => (((σ.1 223 26) ≤ x_7 → ((¬ x_2 = (2 : Int32) → ((¬ x_2 = (3 : Int32) → P x_4 σ) ∧ (x_2 = (3 : Int32) → P x_5 σ))) ∧ (x_2 = (2 : Int32) → ((¬ x_6 = 0 → (w_X10_draw x_6 σ (fun (r2 : Int32) (σ1 : zSto) => (∃ n2 : Nat, w_X10_pullerAt_150 x_1 x_3 P  n2 r2 (0 : Int32) σ1)))) ∧ (x_6 = 0 → ((¬ x_2 = (3 : Int32) → P x_4 σ) ∧ (x_2 = (3 : Int32) → P x_5 σ))))))) ∧ (¬ (σ.1 223 26) ≤ x_7 → ((x_2 = (-1 : Int32) → ((¬ x_2 = (2 : Int32) → ((¬ x_2 = (3 : Int32) → P x_4 σ) ∧ (x_2 = (3 : Int32) → P x_5 σ))) ∧ (x_2 = (2 : Int32) → ((¬ x_6 = 0 → (w_X10_draw x_6 σ (fun (r12 : Int32) (σ11 : zSto) => (∃ n2 : Nat, w_X10_pullerAt_150 x_1 x_3 P  n2 r12 (0 : Int32) σ11)))) ∧ (x_6 = 0 → ((¬ x_2 = (3 : Int32) → P x_4 σ) ∧ (x_2 = (3 : Int32) → P x_5 σ))))))) ∧ (¬ x_2 = (-1 : Int32) → (w_X10_has x_3 x_7 σ (fun (r14 : Int32) (σ13 : zSto) => (r14 = 0 ∨ r14 = 1) → ((r14 = 0 → (∀ x15 : Int32, x15 = (x_7 + (1 : Int32)) → w_X10_pullerAt_12 x_1 x_2 x_3 P n x_4 x_5 x_6 x15 σ13)) ∧ (¬ r14 = 0 → (w_X10_wants x_7 x_1 σ13 (fun (r17 : Int32) (σ16 : zSto) => (r17 = 0 ∨ r17 = 1) → ((r17 = 0 → (∀ x18 : Int32, x18 = (x_7 + (1 : Int32)) → w_X10_pullerAt_12 x_1 x_2 x_3 P n x_4 x_5 x_6 x18 σ16)) ∧ (¬ r17 = 0 → ((¬ x_2 = (1 : Int32) → ((¬ x_4 = (-1 : Int32) → ((x_5 = (-1 : Int32) → (∀ x19 : Int32, x19 = (x_6 + (1 : Int32)) → (∀ x20 : Int32, x20 = (x_7 + (1 : Int32)) → w_X10_pullerAt_12 x_1 x_2 x_3 P n x_4 x_7 x19 x20 σ16))) ∧ (¬ x_5 = (-1 : Int32) → (w_X10_riderOf x_7 (5 : Int32) σ16 (fun (r22 : Int32) (σ21 : zSto) => (w_X10_riderOf x_5 (5 : Int32) σ21 (fun (r24 : Int32) (σ23 : zSto) => ((r22 ≤ r24 → (∀ x25 : Int32, x25 = (x_6 + (1 : Int32)) → (∀ x26 : Int32, x26 = (x_7 + (1 : Int32)) → w_X10_pullerAt_12 x_1 x_2 x_3 P n x_4 x_5 x25 x26 σ23))) ∧ (¬ r22 ≤ r24 → (∀ x27 : Int32, x27 = (x_6 + (1 : Int32)) → (∀ x28 : Int32, x28 = (x_7 + (1 : Int32)) → w_X10_pullerAt_12 x_1 x_2 x_3 P n x_4 x_7 x27 x28 σ23))))))))))) ∧ (x_4 = (-1 : Int32) → ((x_5 = (-1 : Int32) → (∀ x29 : Int32, x29 = (x_6 + (1 : Int32)) → (∀ x30 : Int32, x30 = (x_7 + (1 : Int32)) → w_X10_pullerAt_12 x_1 x_2 x_3 P n x_7 x_7 x29 x30 σ16))) ∧ (¬ x_5 = (-1 : Int32) → (w_X10_riderOf x_7 (5 : Int32) σ16 (fun (r32 : Int32) (σ31 : zSto) => (w_X10_riderOf x_5 (5 : Int32) σ31 (fun (r34 : Int32) (σ33 : zSto) => ((r32 ≤ r34 → (∀ x35 : Int32, x35 = (x_6 + (1 : Int32)) → (∀ x36 : Int32, x36 = (x_7 + (1 : Int32)) → w_X10_pullerAt_12 x_1 x_2 x_3 P n x_7 x_5 x35 x36 σ33))) ∧ (¬ r32 ≤ r34 → (∀ x37 : Int32, x37 = (x_6 + (1 : Int32)) → (∀ x38 : Int32, x38 = (x_7 + (1 : Int32)) → w_X10_pullerAt_12 x_1 x_2 x_3 P n x_7 x_7 x37 x38 σ33))))))))))))) ∧ (x_2 = (1 : Int32) → (vp_in x_7 6 ∧ ((¬ (σ16.1 244 (x_7).toNatClampNeg) = 0 → (∀ x40 : Int32, x40 = (x_7 + (1 : Int32)) → w_X10_pullerAt_12 x_1 x_2 x_3 P n x_4 x_5 x_6 x40 σ16)) ∧ ((σ16.1 244 (x_7).toNatClampNeg) = 0 → ((¬ x_4 = (-1 : Int32) → ((x_5 = (-1 : Int32) → (∀ x41 : Int32, x41 = (x_6 + (1 : Int32)) → (∀ x42 : Int32, x42 = (x_7 + (1 : Int32)) → w_X10_pullerAt_12 x_1 x_2 x_3 P n x_4 x_7 x41 x42 σ16))) ∧ (¬ x_5 = (-1 : Int32) → (w_X10_riderOf x_7 (5 : Int32) σ16 (fun (r44 : Int32) (σ43 : zSto) => (w_X10_riderOf x_5 (5 : Int32) σ43 (fun (r46 : Int32) (σ45 : zSto) => ((r44 ≤ r46 → (∀ x47 : Int32, x47 = (x_6 + (1 : Int32)) → (∀ x48 : Int32, x48 = (x_7 + (1 : Int32)) → w_X10_pullerAt_12 x_1 x_2 x_3 P n x_4 x_5 x47 x48 σ45))) ∧ (¬ r44 ≤ r46 → (∀ x49 : Int32, x49 = (x_6 + (1 : Int32)) → (∀ x50 : Int32, x50 = (x_7 + (1 : Int32)) → w_X10_pullerAt_12 x_1 x_2 x_3 P n x_4 x_7 x49 x50 σ45))))))))))) ∧ (x_4 = (-1 : Int32) → ((x_5 = (-1 : Int32) → (∀ x51 : Int32, x51 = (x_6 + (1 : Int32)) → (∀ x52 : Int32, x52 = (x_7 + (1 : Int32)) → w_X10_pullerAt_12 x_1 x_2 x_3 P n x_7 x_7 x51 x52 σ16))) ∧ (¬ x_5 = (-1 : Int32) → (w_X10_riderOf x_7 (5 : Int32) σ16 (fun (r54 : Int32) (σ53 : zSto) => (w_X10_riderOf x_5 (5 : Int32) σ53 (fun (r56 : Int32) (σ55 : zSto) => ((r54 ≤ r56 → (∀ x57 : Int32, x57 = (x_6 + (1 : Int32)) → (∀ x58 : Int32, x58 = (x_7 + (1 : Int32)) → w_X10_pullerAt_12 x_1 x_2 x_3 P n x_7 x_5 x57 x58 σ55))) ∧ (¬ r54 ≤ r56 → (∀ x59 : Int32, x59 = (x_6 + (1 : Int32)) → (∀ x60 : Int32, x60 = (x_7 + (1 : Int32)) → w_X10_pullerAt_12 x_1 x_2 x_3 P n x_7 x_7 x59 x60 σ55)))))))))))))))))))))))))))))
def w_X10_pullerAt (a1 : Int32) (a2 : Int32) (a3 : Int32) (σ : zSto) (P : Int32 → zSto → Prop) : Prop := (∃ n : Nat, w_X10_pullerAt_12 a1 a2 a3 P  n (-1 : Int32) (-1 : Int32) (0 : Int32) (0 : Int32) σ)
set_option maxRecDepth 100000 in
set_option maxHeartbeats 4000000 in
theorem k_X10_pullerAt_150 {p : Program} {l : Launch} {e : Env} {s : State} {m : MethodId} {args : Array Value} {below : List Frame} {meth : Method} {c : Code} {D : va_G} {cy : Nat → ClassId} {g : Nat → Nat} (C : zC p s m args meth c cX10_pullerAt RX10 9 D cy g) (hr : meth.sig.returnType = (some .int)) {P : Int32 → zSto → Prop} (x_1 : Int32) (x_3 : Int32)    : ∀ (n : Nat) (x_7 : Int32) (x_8 : Int32) (σ : zSto), w_X10_pullerAt_150 x_1 x_3 P n x_7 x_8 σ → zX p l e (zrm 4 87) s m args below meth c 0 0 (zQi P below args s D cy g) 9 D cy g 150 [(0, .ref (g 223)), (1, .int x_1), (3, .int x_3), (7, .int x_7), (8, .int x_8)] [] σ := by
  intro n
  induction n with
  | zero => intro x_7 x_8 σ h; exact h.elim
  | succ n ih =>
    intro x_7 x_8 σ h
    unfold w_X10_pullerAt_150 at h
    refine zx_iload C dX10_pullerAt_150 4 rfl ?_
    refine zx_aload_n C dX10_pullerAt_152 0 rfl ?_
    refine zx_getI C zs_223 fg_X10_251 rfl dX10_pullerAt_153 ?_
    refine zx_icmp_ge C 195 dX10_pullerAt_156 (by decide) (fun q => ?_) (fun q => ?_)
    · replace h := h.1 q
      refine zx_iconst (v := (-1 : Int32)) C dX10_pullerAt_195 (by decide) ?_
      exact zx_iret C hr dX10_pullerAt_196 h
    · replace h := h.2 q
      refine zx_iload_n C dX10_pullerAt_159 2 rfl ?_
      refine zx_iload C dX10_pullerAt_160 4 rfl ?_
      refine zx_cSb C [.int x_3, .int x_8] lk_X10_95 (c_X10_has l D cy g x_3 x_8  σ h) ⟨by decide, by decide⟩ ⟨rfl, rfl⟩ ⟨Nat.zero_le _, Nat.zero_le _⟩ rfl rfl (Nat.le_of_ble_eq_true rfl) dX10_pullerAt_162 (fun r4 σ3 hb h => ?_)
      replace h := h hb
      refine zx_if_eq C 189 dX10_pullerAt_165 (by decide) (fun q => ?_) (fun q => ?_)
      · replace h := h.1 q
        obtain ⟨x5, ex5⟩ : ∃ y : Int32, y = (x_8 + (1 : Int32)) := ⟨_, rfl⟩
        replace h := h x5 ex5
        refine zx_iinc (v := x5) (lv' := [(8, .int x5), (0, .ref (g 223)), (1, .int x_1), (3, .int x_3), (7, .int x_7)]) C dX10_pullerAt_189 4 rfl (by rw [ex5]; rfl) (by decide) rfl ?_
        refine zx_goto C 150 dX10_pullerAt_192 (by decide) ?_
        refine zx_lv (lv' := [(0, .ref (g 223)), (1, .int x_1), (3, .int x_3), (7, .int x_7), (8, .int x5)]) [1, 2, 3, 4, 0] rfl ?_
        exact ih x_7 x5 σ3 h
      · replace h := h.2 q
        refine zx_aload_n C dX10_pullerAt_168 0 rfl ?_
        refine zx_iload C dX10_pullerAt_169 4 rfl ?_
        refine zx_iload_n C dX10_pullerAt_171 1 rfl ?_
        refine zx_cVb C [.int x_8, .int x_1] lk_X10_279 (c_X10_wants l D cy g x_8 x_1  σ3 h) zs_223 rfl ⟨by decide, by decide⟩ ⟨rfl, rfl⟩ ⟨Nat.zero_le _, Nat.zero_le _⟩ rfl rfl (Nat.le_of_ble_eq_true rfl) dX10_pullerAt_172 (fun r7 σ6 hb h => ?_)
        replace h := h hb
        refine zx_if_eq C 189 dX10_pullerAt_175 (by decide) (fun q => ?_) (fun q => ?_)
        · replace h := h.1 q
          obtain ⟨x8, ex8⟩ : ∃ y : Int32, y = (x_8 + (1 : Int32)) := ⟨_, rfl⟩
          replace h := h x8 ex8
          refine zx_iinc (v := x8) (lv' := [(8, .int x8), (0, .ref (g 223)), (1, .int x_1), (3, .int x_3), (7, .int x_7)]) C dX10_pullerAt_189 4 rfl (by rw [ex8]; rfl) (by decide) rfl ?_
          refine zx_goto C 150 dX10_pullerAt_192 (by decide) ?_
          refine zx_lv (lv' := [(0, .ref (g 223)), (1, .int x_1), (3, .int x_3), (7, .int x_7), (8, .int x8)]) [1, 2, 3, 4, 0] rfl ?_
          exact ih x_7 x8 σ6 h
        · replace h := h.2 q
          refine zx_iload C dX10_pullerAt_178 3 rfl ?_
          refine zx_if_ne C 186 dX10_pullerAt_180 (by decide) (fun q => ?_) (fun q => ?_)
          · replace h := h.1 q
            obtain ⟨x9, ex9⟩ : ∃ y : Int32, y = (x_7 + (-1 : Int32)) := ⟨_, rfl⟩
            replace h := h x9 ex9
            refine zx_iinc (v := x9) (lv' := [(7, .int x9), (0, .ref (g 223)), (1, .int x_1), (3, .int x_3), (8, .int x_8)]) C dX10_pullerAt_186 3 rfl (by rw [ex9]; rfl) (by decide) rfl ?_
            obtain ⟨x10, ex10⟩ : ∃ y : Int32, y = (x_8 + (1 : Int32)) := ⟨_, rfl⟩
            replace h := h x10 ex10
            refine zx_iinc (v := x10) (lv' := [(8, .int x10), (7, .int x9), (0, .ref (g 223)), (1, .int x_1), (3, .int x_3)]) C dX10_pullerAt_189 4 rfl (by rw [ex10]; rfl) (by decide) rfl ?_
            refine zx_goto C 150 dX10_pullerAt_192 (by decide) ?_
            refine zx_lv (lv' := [(0, .ref (g 223)), (1, .int x_1), (3, .int x_3), (7, .int x9), (8, .int x10)]) [2, 3, 4, 1, 0] rfl ?_
            exact ih x9 x10 σ6 h
          · replace h := h.2 q
            refine zx_iload C dX10_pullerAt_183 4 rfl ?_
            exact zx_iret C hr dX10_pullerAt_185 h
set_option maxRecDepth 100000 in
set_option maxHeartbeats 4000000 in
theorem k_X10_pullerAt_12 {p : Program} {l : Launch} {e : Env} {s : State} {m : MethodId} {args : Array Value} {below : List Frame} {meth : Method} {c : Code} {D : va_G} {cy : Nat → ClassId} {g : Nat → Nat} (C : zC p s m args meth c cX10_pullerAt RX10 9 D cy g) (hr : meth.sig.returnType = (some .int)) {P : Int32 → zSto → Prop} (x_1 : Int32) (x_2 : Int32) (x_3 : Int32)    : ∀ (n : Nat) (x_4 : Int32) (x_5 : Int32) (x_6 : Int32) (x_7 : Int32) (σ : zSto), w_X10_pullerAt_12 x_1 x_2 x_3 P n x_4 x_5 x_6 x_7 σ → zX p l e (zrm 4 87) s m args below meth c 0 0 (zQi P below args s D cy g) 9 D cy g 12 [(0, .ref (g 223)), (1, .int x_1), (2, .int x_2), (3, .int x_3), (4, .int x_4), (5, .int x_5), (6, .int x_6), (7, .int x_7)] [] σ := by
  intro n
  induction n with
  | zero => intro x_4 x_5 x_6 x_7 σ h; exact h.elim
  | succ n ih =>
    intro x_4 x_5 x_6 x_7 σ h
    unfold w_X10_pullerAt_12 at h
    refine zx_iload C dX10_pullerAt_12 7 rfl ?_
    refine zx_aload_n C dX10_pullerAt_14 0 rfl ?_
    refine zx_getI C zs_223 fg_X10_251 rfl dX10_pullerAt_15 ?_
    refine zx_icmp_ge C 116 dX10_pullerAt_18 (by decide) (fun q => ?_) (fun q => ?_)
    · replace h := h.1 q
      refine zx_iload_n C dX10_pullerAt_116 2 rfl ?_
      refine zx_iconst (v := (2 : Int32)) C dX10_pullerAt_117 (by decide) ?_
      refine zx_icmp_ne C 126 dX10_pullerAt_118 (by decide) (fun q => ?_) (fun q => ?_)
      · replace h := h.1 q
        refine zx_iload_n C dX10_pullerAt_126 2 rfl ?_
        refine zx_iconst (v := (3 : Int32)) C dX10_pullerAt_127 (by decide) ?_
        refine zx_icmp_ne C 136 dX10_pullerAt_128 (by decide) (fun q => ?_) (fun q => ?_)
        · replace h := h.1 q
          refine zx_iload C dX10_pullerAt_136 4 rfl ?_
          exact zx_iret C hr dX10_pullerAt_138 h
        · replace h := h.2 q
          refine zx_iload C dX10_pullerAt_131 5 rfl ?_
          refine zx_goto C 138 dX10_pullerAt_133 (by decide) ?_
          exact zx_iret C hr dX10_pullerAt_138 h
      · replace h := h.2 q
        refine zx_iload C dX10_pullerAt_121 6 rfl ?_
        refine zx_if_ne C 139 dX10_pullerAt_123 (by decide) (fun q => ?_) (fun q => ?_)
        · replace h := h.1 q
          refine zx_aload_n C dX10_pullerAt_139 0 rfl ?_
          refine zx_iload C dX10_pullerAt_140 6 rfl ?_
          refine zx_cVi C [.int x_6] lk_X10_282 (c_X10_draw l D cy g x_6  σ h) zs_223 rfl ⟨by decide, by decide⟩ ⟨rfl, rfl⟩ ⟨Nat.zero_le _, Nat.zero_le _⟩ rfl rfl (Nat.le_of_ble_eq_true rfl) dX10_pullerAt_142 (fun r2 σ1 h => ?_)
          refine zx_istore (lv' := [(7, .int r2), (0, .ref (g 223)), (1, .int x_1), (2, .int x_2), (3, .int x_3), (4, .int x_4), (5, .int x_5), (6, .int x_6)]) C dX10_pullerAt_145 (by decide) rfl ?_
          refine zx_iconst (v := (0 : Int32)) C dX10_pullerAt_147 (by decide) ?_
          refine zx_istore (lv' := [(8, .int (0 : Int32)), (7, .int r2), (0, .ref (g 223)), (1, .int x_1), (2, .int x_2), (3, .int x_3), (4, .int x_4), (5, .int x_5), (6, .int x_6)]) C dX10_pullerAt_148 (by decide) rfl ?_
          obtain ⟨n2, h⟩ := h
          refine zx_lv (lv' := [(0, .ref (g 223)), (1, .int x_1), (3, .int x_3), (7, .int r2), (8, .int (0 : Int32))]) [2, 3, 5, 1, 0] rfl ?_
          exact k_X10_pullerAt_150 C hr (x_1) (x_3)   n2 r2 (0 : Int32) σ1 h
        · replace h := h.2 q
          refine zx_iload_n C dX10_pullerAt_126 2 rfl ?_
          refine zx_iconst (v := (3 : Int32)) C dX10_pullerAt_127 (by decide) ?_
          refine zx_icmp_ne C 136 dX10_pullerAt_128 (by decide) (fun q => ?_) (fun q => ?_)
          · replace h := h.1 q
            refine zx_iload C dX10_pullerAt_136 4 rfl ?_
            exact zx_iret C hr dX10_pullerAt_138 h
          · replace h := h.2 q
            refine zx_iload C dX10_pullerAt_131 5 rfl ?_
            refine zx_goto C 138 dX10_pullerAt_133 (by decide) ?_
            exact zx_iret C hr dX10_pullerAt_138 h
    · replace h := h.2 q
      refine zx_iload_n C dX10_pullerAt_21 2 rfl ?_
      refine zx_iconst (v := (-1 : Int32)) C dX10_pullerAt_22 (by decide) ?_
      refine zx_icmp_eq C 116 dX10_pullerAt_23 (by decide) (fun q => ?_) (fun q => ?_)
      · replace h := h.1 q
        refine zx_iload_n C dX10_pullerAt_116 2 rfl ?_
        refine zx_iconst (v := (2 : Int32)) C dX10_pullerAt_117 (by decide) ?_
        refine zx_icmp_ne C 126 dX10_pullerAt_118 (by decide) (fun q => ?_) (fun q => ?_)
        · replace h := h.1 q
          refine zx_iload_n C dX10_pullerAt_126 2 rfl ?_
          refine zx_iconst (v := (3 : Int32)) C dX10_pullerAt_127 (by decide) ?_
          refine zx_icmp_ne C 136 dX10_pullerAt_128 (by decide) (fun q => ?_) (fun q => ?_)
          · replace h := h.1 q
            refine zx_iload C dX10_pullerAt_136 4 rfl ?_
            exact zx_iret C hr dX10_pullerAt_138 h
          · replace h := h.2 q
            refine zx_iload C dX10_pullerAt_131 5 rfl ?_
            refine zx_goto C 138 dX10_pullerAt_133 (by decide) ?_
            exact zx_iret C hr dX10_pullerAt_138 h
        · replace h := h.2 q
          refine zx_iload C dX10_pullerAt_121 6 rfl ?_
          refine zx_if_ne C 139 dX10_pullerAt_123 (by decide) (fun q => ?_) (fun q => ?_)
          · replace h := h.1 q
            refine zx_aload_n C dX10_pullerAt_139 0 rfl ?_
            refine zx_iload C dX10_pullerAt_140 6 rfl ?_
            refine zx_cVi C [.int x_6] lk_X10_282 (c_X10_draw l D cy g x_6  σ h) zs_223 rfl ⟨by decide, by decide⟩ ⟨rfl, rfl⟩ ⟨Nat.zero_le _, Nat.zero_le _⟩ rfl rfl (Nat.le_of_ble_eq_true rfl) dX10_pullerAt_142 (fun r12 σ11 h => ?_)
            refine zx_istore (lv' := [(7, .int r12), (0, .ref (g 223)), (1, .int x_1), (2, .int x_2), (3, .int x_3), (4, .int x_4), (5, .int x_5), (6, .int x_6)]) C dX10_pullerAt_145 (by decide) rfl ?_
            refine zx_iconst (v := (0 : Int32)) C dX10_pullerAt_147 (by decide) ?_
            refine zx_istore (lv' := [(8, .int (0 : Int32)), (7, .int r12), (0, .ref (g 223)), (1, .int x_1), (2, .int x_2), (3, .int x_3), (4, .int x_4), (5, .int x_5), (6, .int x_6)]) C dX10_pullerAt_148 (by decide) rfl ?_
            obtain ⟨n2, h⟩ := h
            refine zx_lv (lv' := [(0, .ref (g 223)), (1, .int x_1), (3, .int x_3), (7, .int r12), (8, .int (0 : Int32))]) [2, 3, 5, 1, 0] rfl ?_
            exact k_X10_pullerAt_150 C hr (x_1) (x_3)   n2 r12 (0 : Int32) σ11 h
          · replace h := h.2 q
            refine zx_iload_n C dX10_pullerAt_126 2 rfl ?_
            refine zx_iconst (v := (3 : Int32)) C dX10_pullerAt_127 (by decide) ?_
            refine zx_icmp_ne C 136 dX10_pullerAt_128 (by decide) (fun q => ?_) (fun q => ?_)
            · replace h := h.1 q
              refine zx_iload C dX10_pullerAt_136 4 rfl ?_
              exact zx_iret C hr dX10_pullerAt_138 h
            · replace h := h.2 q
              refine zx_iload C dX10_pullerAt_131 5 rfl ?_
              refine zx_goto C 138 dX10_pullerAt_133 (by decide) ?_
              exact zx_iret C hr dX10_pullerAt_138 h
      · replace h := h.2 q
        refine zx_iload_n C dX10_pullerAt_26 3 rfl ?_
        refine zx_iload C dX10_pullerAt_27 7 rfl ?_
        refine zx_cSb C [.int x_3, .int x_7] lk_X10_95 (c_X10_has l D cy g x_3 x_7  σ h) ⟨by decide, by decide⟩ ⟨rfl, rfl⟩ ⟨Nat.zero_le _, Nat.zero_le _⟩ rfl rfl (Nat.le_of_ble_eq_true rfl) dX10_pullerAt_29 (fun r14 σ13 hb h => ?_)
        replace h := h hb
        refine zx_if_eq C 110 dX10_pullerAt_32 (by decide) (fun q => ?_) (fun q => ?_)
        · replace h := h.1 q
          obtain ⟨x15, ex15⟩ : ∃ y : Int32, y = (x_7 + (1 : Int32)) := ⟨_, rfl⟩
          replace h := h x15 ex15
          refine zx_iinc (v := x15) (lv' := [(7, .int x15), (0, .ref (g 223)), (1, .int x_1), (2, .int x_2), (3, .int x_3), (4, .int x_4), (5, .int x_5), (6, .int x_6)]) C dX10_pullerAt_110 7 rfl (by rw [ex15]; rfl) (by decide) rfl ?_
          refine zx_goto C 12 dX10_pullerAt_113 (by decide) ?_
          refine zx_lv (lv' := [(0, .ref (g 223)), (1, .int x_1), (2, .int x_2), (3, .int x_3), (4, .int x_4), (5, .int x_5), (6, .int x_6), (7, .int x15)]) [1, 2, 3, 4, 5, 6, 7, 0] rfl ?_
          exact ih x_4 x_5 x_6 x15 σ13 h
        · replace h := h.2 q
          refine zx_aload_n C dX10_pullerAt_35 0 rfl ?_
          refine zx_iload C dX10_pullerAt_36 7 rfl ?_
          refine zx_iload_n C dX10_pullerAt_38 1 rfl ?_
          refine zx_cVb C [.int x_7, .int x_1] lk_X10_279 (c_X10_wants l D cy g x_7 x_1  σ13 h) zs_223 rfl ⟨by decide, by decide⟩ ⟨rfl, rfl⟩ ⟨Nat.zero_le _, Nat.zero_le _⟩ rfl rfl (Nat.le_of_ble_eq_true rfl) dX10_pullerAt_39 (fun r17 σ16 hb h => ?_)
          replace h := h hb
          refine zx_if_eq C 110 dX10_pullerAt_42 (by decide) (fun q => ?_) (fun q => ?_)
          · replace h := h.1 q
            obtain ⟨x18, ex18⟩ : ∃ y : Int32, y = (x_7 + (1 : Int32)) := ⟨_, rfl⟩
            replace h := h x18 ex18
            refine zx_iinc (v := x18) (lv' := [(7, .int x18), (0, .ref (g 223)), (1, .int x_1), (2, .int x_2), (3, .int x_3), (4, .int x_4), (5, .int x_5), (6, .int x_6)]) C dX10_pullerAt_110 7 rfl (by rw [ex18]; rfl) (by decide) rfl ?_
            refine zx_goto C 12 dX10_pullerAt_113 (by decide) ?_
            refine zx_lv (lv' := [(0, .ref (g 223)), (1, .int x_1), (2, .int x_2), (3, .int x_3), (4, .int x_4), (5, .int x_5), (6, .int x_6), (7, .int x18)]) [1, 2, 3, 4, 5, 6, 7, 0] rfl ?_
            exact ih x_4 x_5 x_6 x18 σ16 h
          · replace h := h.2 q
            refine zx_iload_n C dX10_pullerAt_45 2 rfl ?_
            refine zx_iconst (v := (1 : Int32)) C dX10_pullerAt_46 (by decide) ?_
            refine zx_icmp_ne C 60 dX10_pullerAt_47 (by decide) (fun q => ?_) (fun q => ?_)
            · replace h := h.1 q
              refine zx_iload C dX10_pullerAt_60 4 rfl ?_
              refine zx_iconst (v := (-1 : Int32)) C dX10_pullerAt_62 (by decide) ?_
              refine zx_icmp_ne C 71 dX10_pullerAt_63 (by decide) (fun q => ?_) (fun q => ?_)
              · replace h := h.1 q
                refine zx_iload C dX10_pullerAt_71 4 rfl ?_
                refine zx_istore (lv' := [(4, .int x_4), (0, .ref (g 223)), (1, .int x_1), (2, .int x_2), (3, .int x_3), (5, .int x_5), (6, .int x_6), (7, .int x_7)]) C dX10_pullerAt_73 (by decide) rfl ?_
                refine zx_iload C dX10_pullerAt_75 5 rfl ?_
                refine zx_iconst (v := (-1 : Int32)) C dX10_pullerAt_77 (by decide) ?_
                refine zx_icmp_eq C 98 dX10_pullerAt_78 (by decide) (fun q => ?_) (fun q => ?_)
                · replace h := h.1 q
                  refine zx_iload C dX10_pullerAt_98 7 rfl ?_
                  refine zx_goto C 105 dX10_pullerAt_100 (by decide) ?_
                  refine zx_istore (lv' := [(5, .int x_7), (4, .int x_4), (0, .ref (g 223)), (1, .int x_1), (2, .int x_2), (3, .int x_3), (6, .int x_6), (7, .int x_7)]) C dX10_pullerAt_105 (by decide) rfl ?_
                  obtain ⟨x19, ex19⟩ : ∃ y : Int32, y = (x_6 + (1 : Int32)) := ⟨_, rfl⟩
                  replace h := h x19 ex19
                  refine zx_iinc (v := x19) (lv' := [(6, .int x19), (5, .int x_7), (4, .int x_4), (0, .ref (g 223)), (1, .int x_1), (2, .int x_2), (3, .int x_3), (7, .int x_7)]) C dX10_pullerAt_107 6 rfl (by rw [ex19]; rfl) (by decide) rfl ?_
                  obtain ⟨x20, ex20⟩ : ∃ y : Int32, y = (x_7 + (1 : Int32)) := ⟨_, rfl⟩
                  replace h := h x20 ex20
                  refine zx_iinc (v := x20) (lv' := [(7, .int x20), (6, .int x19), (5, .int x_7), (4, .int x_4), (0, .ref (g 223)), (1, .int x_1), (2, .int x_2), (3, .int x_3)]) C dX10_pullerAt_110 7 rfl (by rw [ex20]; rfl) (by decide) rfl ?_
                  refine zx_goto C 12 dX10_pullerAt_113 (by decide) ?_
                  refine zx_lv (lv' := [(0, .ref (g 223)), (1, .int x_1), (2, .int x_2), (3, .int x_3), (4, .int x_4), (5, .int x_7), (6, .int x19), (7, .int x20)]) [4, 5, 6, 7, 3, 2, 1, 0] rfl ?_
                  exact ih x_4 x_7 x19 x20 σ16 h
                · replace h := h.2 q
                  refine zx_aload_n C dX10_pullerAt_81 1 rfl ?_
                  refine zx_iload C dX10_pullerAt_82 7 rfl ?_
                  refine zx_iconst (v := (5 : Int32)) C dX10_pullerAt_84 (by decide) ?_
                  refine zx_cVi C [.int x_7, .int (5 : Int32)] lk_X10_266 (c_X10_riderOf l D cy g x_7 (5 : Int32)  σ16 h) zs_223 rfl ⟨by decide, by decide⟩ ⟨rfl, rfl⟩ ⟨Nat.zero_le _, Nat.zero_le _⟩ rfl rfl (Nat.le_of_ble_eq_true rfl) dX10_pullerAt_85 (fun r22 σ21 h => ?_)
                  refine zx_aload_n C dX10_pullerAt_88 1 rfl ?_
                  refine zx_iload C dX10_pullerAt_89 5 rfl ?_
                  refine zx_iconst (v := (5 : Int32)) C dX10_pullerAt_91 (by decide) ?_
                  refine zx_cVi C [.int x_5, .int (5 : Int32)] lk_X10_266 (c_X10_riderOf l D cy g x_5 (5 : Int32)  σ21 h) zs_223 rfl ⟨by decide, by decide⟩ ⟨rfl, rfl⟩ ⟨Nat.zero_le _, Nat.zero_le _⟩ rfl rfl (Nat.le_of_ble_eq_true rfl) dX10_pullerAt_92 (fun r24 σ23 h => ?_)
                  refine zx_icmp_le C 103 dX10_pullerAt_95 (by decide) (fun q => ?_) (fun q => ?_)
                  · replace h := h.1 q
                    refine zx_iload C dX10_pullerAt_103 5 rfl ?_
                    refine zx_istore (lv' := [(5, .int x_5), (4, .int x_4), (0, .ref (g 223)), (1, .int x_1), (2, .int x_2), (3, .int x_3), (6, .int x_6), (7, .int x_7)]) C dX10_pullerAt_105 (by decide) rfl ?_
                    obtain ⟨x25, ex25⟩ : ∃ y : Int32, y = (x_6 + (1 : Int32)) := ⟨_, rfl⟩
                    replace h := h x25 ex25
                    refine zx_iinc (v := x25) (lv' := [(6, .int x25), (5, .int x_5), (4, .int x_4), (0, .ref (g 223)), (1, .int x_1), (2, .int x_2), (3, .int x_3), (7, .int x_7)]) C dX10_pullerAt_107 6 rfl (by rw [ex25]; rfl) (by decide) rfl ?_
                    obtain ⟨x26, ex26⟩ : ∃ y : Int32, y = (x_7 + (1 : Int32)) := ⟨_, rfl⟩
                    replace h := h x26 ex26
                    refine zx_iinc (v := x26) (lv' := [(7, .int x26), (6, .int x25), (5, .int x_5), (4, .int x_4), (0, .ref (g 223)), (1, .int x_1), (2, .int x_2), (3, .int x_3)]) C dX10_pullerAt_110 7 rfl (by rw [ex26]; rfl) (by decide) rfl ?_
                    refine zx_goto C 12 dX10_pullerAt_113 (by decide) ?_
                    refine zx_lv (lv' := [(0, .ref (g 223)), (1, .int x_1), (2, .int x_2), (3, .int x_3), (4, .int x_4), (5, .int x_5), (6, .int x25), (7, .int x26)]) [4, 5, 6, 7, 3, 2, 1, 0] rfl ?_
                    exact ih x_4 x_5 x25 x26 σ23 h
                  · replace h := h.2 q
                    refine zx_iload C dX10_pullerAt_98 7 rfl ?_
                    refine zx_goto C 105 dX10_pullerAt_100 (by decide) ?_
                    refine zx_istore (lv' := [(5, .int x_7), (4, .int x_4), (0, .ref (g 223)), (1, .int x_1), (2, .int x_2), (3, .int x_3), (6, .int x_6), (7, .int x_7)]) C dX10_pullerAt_105 (by decide) rfl ?_
                    obtain ⟨x27, ex27⟩ : ∃ y : Int32, y = (x_6 + (1 : Int32)) := ⟨_, rfl⟩
                    replace h := h x27 ex27
                    refine zx_iinc (v := x27) (lv' := [(6, .int x27), (5, .int x_7), (4, .int x_4), (0, .ref (g 223)), (1, .int x_1), (2, .int x_2), (3, .int x_3), (7, .int x_7)]) C dX10_pullerAt_107 6 rfl (by rw [ex27]; rfl) (by decide) rfl ?_
                    obtain ⟨x28, ex28⟩ : ∃ y : Int32, y = (x_7 + (1 : Int32)) := ⟨_, rfl⟩
                    replace h := h x28 ex28
                    refine zx_iinc (v := x28) (lv' := [(7, .int x28), (6, .int x27), (5, .int x_7), (4, .int x_4), (0, .ref (g 223)), (1, .int x_1), (2, .int x_2), (3, .int x_3)]) C dX10_pullerAt_110 7 rfl (by rw [ex28]; rfl) (by decide) rfl ?_
                    refine zx_goto C 12 dX10_pullerAt_113 (by decide) ?_
                    refine zx_lv (lv' := [(0, .ref (g 223)), (1, .int x_1), (2, .int x_2), (3, .int x_3), (4, .int x_4), (5, .int x_7), (6, .int x27), (7, .int x28)]) [4, 5, 6, 7, 3, 2, 1, 0] rfl ?_
                    exact ih x_4 x_7 x27 x28 σ23 h
              · replace h := h.2 q
                refine zx_iload C dX10_pullerAt_66 7 rfl ?_
                refine zx_goto C 73 dX10_pullerAt_68 (by decide) ?_
                refine zx_istore (lv' := [(4, .int x_7), (0, .ref (g 223)), (1, .int x_1), (2, .int x_2), (3, .int x_3), (5, .int x_5), (6, .int x_6), (7, .int x_7)]) C dX10_pullerAt_73 (by decide) rfl ?_
                refine zx_iload C dX10_pullerAt_75 5 rfl ?_
                refine zx_iconst (v := (-1 : Int32)) C dX10_pullerAt_77 (by decide) ?_
                refine zx_icmp_eq C 98 dX10_pullerAt_78 (by decide) (fun q => ?_) (fun q => ?_)
                · replace h := h.1 q
                  refine zx_iload C dX10_pullerAt_98 7 rfl ?_
                  refine zx_goto C 105 dX10_pullerAt_100 (by decide) ?_
                  refine zx_istore (lv' := [(5, .int x_7), (4, .int x_7), (0, .ref (g 223)), (1, .int x_1), (2, .int x_2), (3, .int x_3), (6, .int x_6), (7, .int x_7)]) C dX10_pullerAt_105 (by decide) rfl ?_
                  obtain ⟨x29, ex29⟩ : ∃ y : Int32, y = (x_6 + (1 : Int32)) := ⟨_, rfl⟩
                  replace h := h x29 ex29
                  refine zx_iinc (v := x29) (lv' := [(6, .int x29), (5, .int x_7), (4, .int x_7), (0, .ref (g 223)), (1, .int x_1), (2, .int x_2), (3, .int x_3), (7, .int x_7)]) C dX10_pullerAt_107 6 rfl (by rw [ex29]; rfl) (by decide) rfl ?_
                  obtain ⟨x30, ex30⟩ : ∃ y : Int32, y = (x_7 + (1 : Int32)) := ⟨_, rfl⟩
                  replace h := h x30 ex30
                  refine zx_iinc (v := x30) (lv' := [(7, .int x30), (6, .int x29), (5, .int x_7), (4, .int x_7), (0, .ref (g 223)), (1, .int x_1), (2, .int x_2), (3, .int x_3)]) C dX10_pullerAt_110 7 rfl (by rw [ex30]; rfl) (by decide) rfl ?_
                  refine zx_goto C 12 dX10_pullerAt_113 (by decide) ?_
                  refine zx_lv (lv' := [(0, .ref (g 223)), (1, .int x_1), (2, .int x_2), (3, .int x_3), (4, .int x_7), (5, .int x_7), (6, .int x29), (7, .int x30)]) [4, 5, 6, 7, 3, 2, 1, 0] rfl ?_
                  exact ih x_7 x_7 x29 x30 σ16 h
                · replace h := h.2 q
                  refine zx_aload_n C dX10_pullerAt_81 1 rfl ?_
                  refine zx_iload C dX10_pullerAt_82 7 rfl ?_
                  refine zx_iconst (v := (5 : Int32)) C dX10_pullerAt_84 (by decide) ?_
                  refine zx_cVi C [.int x_7, .int (5 : Int32)] lk_X10_266 (c_X10_riderOf l D cy g x_7 (5 : Int32)  σ16 h) zs_223 rfl ⟨by decide, by decide⟩ ⟨rfl, rfl⟩ ⟨Nat.zero_le _, Nat.zero_le _⟩ rfl rfl (Nat.le_of_ble_eq_true rfl) dX10_pullerAt_85 (fun r32 σ31 h => ?_)
                  refine zx_aload_n C dX10_pullerAt_88 1 rfl ?_
                  refine zx_iload C dX10_pullerAt_89 5 rfl ?_
                  refine zx_iconst (v := (5 : Int32)) C dX10_pullerAt_91 (by decide) ?_
                  refine zx_cVi C [.int x_5, .int (5 : Int32)] lk_X10_266 (c_X10_riderOf l D cy g x_5 (5 : Int32)  σ31 h) zs_223 rfl ⟨by decide, by decide⟩ ⟨rfl, rfl⟩ ⟨Nat.zero_le _, Nat.zero_le _⟩ rfl rfl (Nat.le_of_ble_eq_true rfl) dX10_pullerAt_92 (fun r34 σ33 h => ?_)
                  refine zx_icmp_le C 103 dX10_pullerAt_95 (by decide) (fun q => ?_) (fun q => ?_)
                  · replace h := h.1 q
                    refine zx_iload C dX10_pullerAt_103 5 rfl ?_
                    refine zx_istore (lv' := [(5, .int x_5), (4, .int x_7), (0, .ref (g 223)), (1, .int x_1), (2, .int x_2), (3, .int x_3), (6, .int x_6), (7, .int x_7)]) C dX10_pullerAt_105 (by decide) rfl ?_
                    obtain ⟨x35, ex35⟩ : ∃ y : Int32, y = (x_6 + (1 : Int32)) := ⟨_, rfl⟩
                    replace h := h x35 ex35
                    refine zx_iinc (v := x35) (lv' := [(6, .int x35), (5, .int x_5), (4, .int x_7), (0, .ref (g 223)), (1, .int x_1), (2, .int x_2), (3, .int x_3), (7, .int x_7)]) C dX10_pullerAt_107 6 rfl (by rw [ex35]; rfl) (by decide) rfl ?_
                    obtain ⟨x36, ex36⟩ : ∃ y : Int32, y = (x_7 + (1 : Int32)) := ⟨_, rfl⟩
                    replace h := h x36 ex36
                    refine zx_iinc (v := x36) (lv' := [(7, .int x36), (6, .int x35), (5, .int x_5), (4, .int x_7), (0, .ref (g 223)), (1, .int x_1), (2, .int x_2), (3, .int x_3)]) C dX10_pullerAt_110 7 rfl (by rw [ex36]; rfl) (by decide) rfl ?_
                    refine zx_goto C 12 dX10_pullerAt_113 (by decide) ?_
                    refine zx_lv (lv' := [(0, .ref (g 223)), (1, .int x_1), (2, .int x_2), (3, .int x_3), (4, .int x_7), (5, .int x_5), (6, .int x35), (7, .int x36)]) [4, 5, 6, 7, 3, 2, 1, 0] rfl ?_
                    exact ih x_7 x_5 x35 x36 σ33 h
                  · replace h := h.2 q
                    refine zx_iload C dX10_pullerAt_98 7 rfl ?_
                    refine zx_goto C 105 dX10_pullerAt_100 (by decide) ?_
                    refine zx_istore (lv' := [(5, .int x_7), (4, .int x_7), (0, .ref (g 223)), (1, .int x_1), (2, .int x_2), (3, .int x_3), (6, .int x_6), (7, .int x_7)]) C dX10_pullerAt_105 (by decide) rfl ?_
                    obtain ⟨x37, ex37⟩ : ∃ y : Int32, y = (x_6 + (1 : Int32)) := ⟨_, rfl⟩
                    replace h := h x37 ex37
                    refine zx_iinc (v := x37) (lv' := [(6, .int x37), (5, .int x_7), (4, .int x_7), (0, .ref (g 223)), (1, .int x_1), (2, .int x_2), (3, .int x_3), (7, .int x_7)]) C dX10_pullerAt_107 6 rfl (by rw [ex37]; rfl) (by decide) rfl ?_
                    obtain ⟨x38, ex38⟩ : ∃ y : Int32, y = (x_7 + (1 : Int32)) := ⟨_, rfl⟩
                    replace h := h x38 ex38
                    refine zx_iinc (v := x38) (lv' := [(7, .int x38), (6, .int x37), (5, .int x_7), (4, .int x_7), (0, .ref (g 223)), (1, .int x_1), (2, .int x_2), (3, .int x_3)]) C dX10_pullerAt_110 7 rfl (by rw [ex38]; rfl) (by decide) rfl ?_
                    refine zx_goto C 12 dX10_pullerAt_113 (by decide) ?_
                    refine zx_lv (lv' := [(0, .ref (g 223)), (1, .int x_1), (2, .int x_2), (3, .int x_3), (4, .int x_7), (5, .int x_7), (6, .int x37), (7, .int x38)]) [4, 5, 6, 7, 3, 2, 1, 0] rfl ?_
                    exact ih x_7 x_7 x37 x38 σ33 h
            · replace h := h.2 q
              refine zx_aload_n C dX10_pullerAt_50 0 rfl ?_
              refine zx_getR C zs_223 fg_X10_71 rfl 244 rfl dX10_pullerAt_51 ?_
              refine zx_iload C dX10_pullerAt_54 7 rfl ?_
              obtain ⟨bd39, h⟩ := h
              refine zx_zald C (x_7).toNatClampNeg zs_244 bd39 rfl dX10_pullerAt_56 ?_
              refine zx_if_ne C 110 dX10_pullerAt_57 (by decide) (fun q => ?_) (fun q => ?_)
              · replace h := h.1 q
                obtain ⟨x40, ex40⟩ : ∃ y : Int32, y = (x_7 + (1 : Int32)) := ⟨_, rfl⟩
                replace h := h x40 ex40
                refine zx_iinc (v := x40) (lv' := [(7, .int x40), (0, .ref (g 223)), (1, .int x_1), (2, .int x_2), (3, .int x_3), (4, .int x_4), (5, .int x_5), (6, .int x_6)]) C dX10_pullerAt_110 7 rfl (by rw [ex40]; rfl) (by decide) rfl ?_
                refine zx_goto C 12 dX10_pullerAt_113 (by decide) ?_
                refine zx_lv (lv' := [(0, .ref (g 223)), (1, .int x_1), (2, .int x_2), (3, .int x_3), (4, .int x_4), (5, .int x_5), (6, .int x_6), (7, .int x40)]) [1, 2, 3, 4, 5, 6, 7, 0] rfl ?_
                exact ih x_4 x_5 x_6 x40 σ16 h
              · replace h := h.2 q
                refine zx_iload C dX10_pullerAt_60 4 rfl ?_
                refine zx_iconst (v := (-1 : Int32)) C dX10_pullerAt_62 (by decide) ?_
                refine zx_icmp_ne C 71 dX10_pullerAt_63 (by decide) (fun q => ?_) (fun q => ?_)
                · replace h := h.1 q
                  refine zx_iload C dX10_pullerAt_71 4 rfl ?_
                  refine zx_istore (lv' := [(4, .int x_4), (0, .ref (g 223)), (1, .int x_1), (2, .int x_2), (3, .int x_3), (5, .int x_5), (6, .int x_6), (7, .int x_7)]) C dX10_pullerAt_73 (by decide) rfl ?_
                  refine zx_iload C dX10_pullerAt_75 5 rfl ?_
                  refine zx_iconst (v := (-1 : Int32)) C dX10_pullerAt_77 (by decide) ?_
                  refine zx_icmp_eq C 98 dX10_pullerAt_78 (by decide) (fun q => ?_) (fun q => ?_)
                  · replace h := h.1 q
                    refine zx_iload C dX10_pullerAt_98 7 rfl ?_
                    refine zx_goto C 105 dX10_pullerAt_100 (by decide) ?_
                    refine zx_istore (lv' := [(5, .int x_7), (4, .int x_4), (0, .ref (g 223)), (1, .int x_1), (2, .int x_2), (3, .int x_3), (6, .int x_6), (7, .int x_7)]) C dX10_pullerAt_105 (by decide) rfl ?_
                    obtain ⟨x41, ex41⟩ : ∃ y : Int32, y = (x_6 + (1 : Int32)) := ⟨_, rfl⟩
                    replace h := h x41 ex41
                    refine zx_iinc (v := x41) (lv' := [(6, .int x41), (5, .int x_7), (4, .int x_4), (0, .ref (g 223)), (1, .int x_1), (2, .int x_2), (3, .int x_3), (7, .int x_7)]) C dX10_pullerAt_107 6 rfl (by rw [ex41]; rfl) (by decide) rfl ?_
                    obtain ⟨x42, ex42⟩ : ∃ y : Int32, y = (x_7 + (1 : Int32)) := ⟨_, rfl⟩
                    replace h := h x42 ex42
                    refine zx_iinc (v := x42) (lv' := [(7, .int x42), (6, .int x41), (5, .int x_7), (4, .int x_4), (0, .ref (g 223)), (1, .int x_1), (2, .int x_2), (3, .int x_3)]) C dX10_pullerAt_110 7 rfl (by rw [ex42]; rfl) (by decide) rfl ?_
                    refine zx_goto C 12 dX10_pullerAt_113 (by decide) ?_
                    refine zx_lv (lv' := [(0, .ref (g 223)), (1, .int x_1), (2, .int x_2), (3, .int x_3), (4, .int x_4), (5, .int x_7), (6, .int x41), (7, .int x42)]) [4, 5, 6, 7, 3, 2, 1, 0] rfl ?_
                    exact ih x_4 x_7 x41 x42 σ16 h
                  · replace h := h.2 q
                    refine zx_aload_n C dX10_pullerAt_81 1 rfl ?_
                    refine zx_iload C dX10_pullerAt_82 7 rfl ?_
                    refine zx_iconst (v := (5 : Int32)) C dX10_pullerAt_84 (by decide) ?_
                    refine zx_cVi C [.int x_7, .int (5 : Int32)] lk_X10_266 (c_X10_riderOf l D cy g x_7 (5 : Int32)  σ16 h) zs_223 rfl ⟨by decide, by decide⟩ ⟨rfl, rfl⟩ ⟨Nat.zero_le _, Nat.zero_le _⟩ rfl rfl (Nat.le_of_ble_eq_true rfl) dX10_pullerAt_85 (fun r44 σ43 h => ?_)
                    refine zx_aload_n C dX10_pullerAt_88 1 rfl ?_
                    refine zx_iload C dX10_pullerAt_89 5 rfl ?_
                    refine zx_iconst (v := (5 : Int32)) C dX10_pullerAt_91 (by decide) ?_
                    refine zx_cVi C [.int x_5, .int (5 : Int32)] lk_X10_266 (c_X10_riderOf l D cy g x_5 (5 : Int32)  σ43 h) zs_223 rfl ⟨by decide, by decide⟩ ⟨rfl, rfl⟩ ⟨Nat.zero_le _, Nat.zero_le _⟩ rfl rfl (Nat.le_of_ble_eq_true rfl) dX10_pullerAt_92 (fun r46 σ45 h => ?_)
                    refine zx_icmp_le C 103 dX10_pullerAt_95 (by decide) (fun q => ?_) (fun q => ?_)
                    · replace h := h.1 q
                      refine zx_iload C dX10_pullerAt_103 5 rfl ?_
                      refine zx_istore (lv' := [(5, .int x_5), (4, .int x_4), (0, .ref (g 223)), (1, .int x_1), (2, .int x_2), (3, .int x_3), (6, .int x_6), (7, .int x_7)]) C dX10_pullerAt_105 (by decide) rfl ?_
                      obtain ⟨x47, ex47⟩ : ∃ y : Int32, y = (x_6 + (1 : Int32)) := ⟨_, rfl⟩
                      replace h := h x47 ex47
                      refine zx_iinc (v := x47) (lv' := [(6, .int x47), (5, .int x_5), (4, .int x_4), (0, .ref (g 223)), (1, .int x_1), (2, .int x_2), (3, .int x_3), (7, .int x_7)]) C dX10_pullerAt_107 6 rfl (by rw [ex47]; rfl) (by decide) rfl ?_
                      obtain ⟨x48, ex48⟩ : ∃ y : Int32, y = (x_7 + (1 : Int32)) := ⟨_, rfl⟩
                      replace h := h x48 ex48
                      refine zx_iinc (v := x48) (lv' := [(7, .int x48), (6, .int x47), (5, .int x_5), (4, .int x_4), (0, .ref (g 223)), (1, .int x_1), (2, .int x_2), (3, .int x_3)]) C dX10_pullerAt_110 7 rfl (by rw [ex48]; rfl) (by decide) rfl ?_
                      refine zx_goto C 12 dX10_pullerAt_113 (by decide) ?_
                      refine zx_lv (lv' := [(0, .ref (g 223)), (1, .int x_1), (2, .int x_2), (3, .int x_3), (4, .int x_4), (5, .int x_5), (6, .int x47), (7, .int x48)]) [4, 5, 6, 7, 3, 2, 1, 0] rfl ?_
                      exact ih x_4 x_5 x47 x48 σ45 h
                    · replace h := h.2 q
                      refine zx_iload C dX10_pullerAt_98 7 rfl ?_
                      refine zx_goto C 105 dX10_pullerAt_100 (by decide) ?_
                      refine zx_istore (lv' := [(5, .int x_7), (4, .int x_4), (0, .ref (g 223)), (1, .int x_1), (2, .int x_2), (3, .int x_3), (6, .int x_6), (7, .int x_7)]) C dX10_pullerAt_105 (by decide) rfl ?_
                      obtain ⟨x49, ex49⟩ : ∃ y : Int32, y = (x_6 + (1 : Int32)) := ⟨_, rfl⟩
                      replace h := h x49 ex49
                      refine zx_iinc (v := x49) (lv' := [(6, .int x49), (5, .int x_7), (4, .int x_4), (0, .ref (g 223)), (1, .int x_1), (2, .int x_2), (3, .int x_3), (7, .int x_7)]) C dX10_pullerAt_107 6 rfl (by rw [ex49]; rfl) (by decide) rfl ?_
                      obtain ⟨x50, ex50⟩ : ∃ y : Int32, y = (x_7 + (1 : Int32)) := ⟨_, rfl⟩
                      replace h := h x50 ex50
                      refine zx_iinc (v := x50) (lv' := [(7, .int x50), (6, .int x49), (5, .int x_7), (4, .int x_4), (0, .ref (g 223)), (1, .int x_1), (2, .int x_2), (3, .int x_3)]) C dX10_pullerAt_110 7 rfl (by rw [ex50]; rfl) (by decide) rfl ?_
                      refine zx_goto C 12 dX10_pullerAt_113 (by decide) ?_
                      refine zx_lv (lv' := [(0, .ref (g 223)), (1, .int x_1), (2, .int x_2), (3, .int x_3), (4, .int x_4), (5, .int x_7), (6, .int x49), (7, .int x50)]) [4, 5, 6, 7, 3, 2, 1, 0] rfl ?_
                      exact ih x_4 x_7 x49 x50 σ45 h
                · replace h := h.2 q
                  refine zx_iload C dX10_pullerAt_66 7 rfl ?_
                  refine zx_goto C 73 dX10_pullerAt_68 (by decide) ?_
                  refine zx_istore (lv' := [(4, .int x_7), (0, .ref (g 223)), (1, .int x_1), (2, .int x_2), (3, .int x_3), (5, .int x_5), (6, .int x_6), (7, .int x_7)]) C dX10_pullerAt_73 (by decide) rfl ?_
                  refine zx_iload C dX10_pullerAt_75 5 rfl ?_
                  refine zx_iconst (v := (-1 : Int32)) C dX10_pullerAt_77 (by decide) ?_
                  refine zx_icmp_eq C 98 dX10_pullerAt_78 (by decide) (fun q => ?_) (fun q => ?_)
                  · replace h := h.1 q
                    refine zx_iload C dX10_pullerAt_98 7 rfl ?_
                    refine zx_goto C 105 dX10_pullerAt_100 (by decide) ?_
                    refine zx_istore (lv' := [(5, .int x_7), (4, .int x_7), (0, .ref (g 223)), (1, .int x_1), (2, .int x_2), (3, .int x_3), (6, .int x_6), (7, .int x_7)]) C dX10_pullerAt_105 (by decide) rfl ?_
                    obtain ⟨x51, ex51⟩ : ∃ y : Int32, y = (x_6 + (1 : Int32)) := ⟨_, rfl⟩
                    replace h := h x51 ex51
                    refine zx_iinc (v := x51) (lv' := [(6, .int x51), (5, .int x_7), (4, .int x_7), (0, .ref (g 223)), (1, .int x_1), (2, .int x_2), (3, .int x_3), (7, .int x_7)]) C dX10_pullerAt_107 6 rfl (by rw [ex51]; rfl) (by decide) rfl ?_
                    obtain ⟨x52, ex52⟩ : ∃ y : Int32, y = (x_7 + (1 : Int32)) := ⟨_, rfl⟩
                    replace h := h x52 ex52
                    refine zx_iinc (v := x52) (lv' := [(7, .int x52), (6, .int x51), (5, .int x_7), (4, .int x_7), (0, .ref (g 223)), (1, .int x_1), (2, .int x_2), (3, .int x_3)]) C dX10_pullerAt_110 7 rfl (by rw [ex52]; rfl) (by decide) rfl ?_
                    refine zx_goto C 12 dX10_pullerAt_113 (by decide) ?_
                    refine zx_lv (lv' := [(0, .ref (g 223)), (1, .int x_1), (2, .int x_2), (3, .int x_3), (4, .int x_7), (5, .int x_7), (6, .int x51), (7, .int x52)]) [4, 5, 6, 7, 3, 2, 1, 0] rfl ?_
                    exact ih x_7 x_7 x51 x52 σ16 h
                  · replace h := h.2 q
                    refine zx_aload_n C dX10_pullerAt_81 1 rfl ?_
                    refine zx_iload C dX10_pullerAt_82 7 rfl ?_
                    refine zx_iconst (v := (5 : Int32)) C dX10_pullerAt_84 (by decide) ?_
                    refine zx_cVi C [.int x_7, .int (5 : Int32)] lk_X10_266 (c_X10_riderOf l D cy g x_7 (5 : Int32)  σ16 h) zs_223 rfl ⟨by decide, by decide⟩ ⟨rfl, rfl⟩ ⟨Nat.zero_le _, Nat.zero_le _⟩ rfl rfl (Nat.le_of_ble_eq_true rfl) dX10_pullerAt_85 (fun r54 σ53 h => ?_)
                    refine zx_aload_n C dX10_pullerAt_88 1 rfl ?_
                    refine zx_iload C dX10_pullerAt_89 5 rfl ?_
                    refine zx_iconst (v := (5 : Int32)) C dX10_pullerAt_91 (by decide) ?_
                    refine zx_cVi C [.int x_5, .int (5 : Int32)] lk_X10_266 (c_X10_riderOf l D cy g x_5 (5 : Int32)  σ53 h) zs_223 rfl ⟨by decide, by decide⟩ ⟨rfl, rfl⟩ ⟨Nat.zero_le _, Nat.zero_le _⟩ rfl rfl (Nat.le_of_ble_eq_true rfl) dX10_pullerAt_92 (fun r56 σ55 h => ?_)
                    refine zx_icmp_le C 103 dX10_pullerAt_95 (by decide) (fun q => ?_) (fun q => ?_)
                    · replace h := h.1 q
                      refine zx_iload C dX10_pullerAt_103 5 rfl ?_
                      refine zx_istore (lv' := [(5, .int x_5), (4, .int x_7), (0, .ref (g 223)), (1, .int x_1), (2, .int x_2), (3, .int x_3), (6, .int x_6), (7, .int x_7)]) C dX10_pullerAt_105 (by decide) rfl ?_
                      obtain ⟨x57, ex57⟩ : ∃ y : Int32, y = (x_6 + (1 : Int32)) := ⟨_, rfl⟩
                      replace h := h x57 ex57
                      refine zx_iinc (v := x57) (lv' := [(6, .int x57), (5, .int x_5), (4, .int x_7), (0, .ref (g 223)), (1, .int x_1), (2, .int x_2), (3, .int x_3), (7, .int x_7)]) C dX10_pullerAt_107 6 rfl (by rw [ex57]; rfl) (by decide) rfl ?_
                      obtain ⟨x58, ex58⟩ : ∃ y : Int32, y = (x_7 + (1 : Int32)) := ⟨_, rfl⟩
                      replace h := h x58 ex58
                      refine zx_iinc (v := x58) (lv' := [(7, .int x58), (6, .int x57), (5, .int x_5), (4, .int x_7), (0, .ref (g 223)), (1, .int x_1), (2, .int x_2), (3, .int x_3)]) C dX10_pullerAt_110 7 rfl (by rw [ex58]; rfl) (by decide) rfl ?_
                      refine zx_goto C 12 dX10_pullerAt_113 (by decide) ?_
                      refine zx_lv (lv' := [(0, .ref (g 223)), (1, .int x_1), (2, .int x_2), (3, .int x_3), (4, .int x_7), (5, .int x_5), (6, .int x57), (7, .int x58)]) [4, 5, 6, 7, 3, 2, 1, 0] rfl ?_
                      exact ih x_7 x_5 x57 x58 σ55 h
                    · replace h := h.2 q
                      refine zx_iload C dX10_pullerAt_98 7 rfl ?_
                      refine zx_goto C 105 dX10_pullerAt_100 (by decide) ?_
                      refine zx_istore (lv' := [(5, .int x_7), (4, .int x_7), (0, .ref (g 223)), (1, .int x_1), (2, .int x_2), (3, .int x_3), (6, .int x_6), (7, .int x_7)]) C dX10_pullerAt_105 (by decide) rfl ?_
                      obtain ⟨x59, ex59⟩ : ∃ y : Int32, y = (x_6 + (1 : Int32)) := ⟨_, rfl⟩
                      replace h := h x59 ex59
                      refine zx_iinc (v := x59) (lv' := [(6, .int x59), (5, .int x_7), (4, .int x_7), (0, .ref (g 223)), (1, .int x_1), (2, .int x_2), (3, .int x_3), (7, .int x_7)]) C dX10_pullerAt_107 6 rfl (by rw [ex59]; rfl) (by decide) rfl ?_
                      obtain ⟨x60, ex60⟩ : ∃ y : Int32, y = (x_7 + (1 : Int32)) := ⟨_, rfl⟩
                      replace h := h x60 ex60
                      refine zx_iinc (v := x60) (lv' := [(7, .int x60), (6, .int x59), (5, .int x_7), (4, .int x_7), (0, .ref (g 223)), (1, .int x_1), (2, .int x_2), (3, .int x_3)]) C dX10_pullerAt_110 7 rfl (by rw [ex60]; rfl) (by decide) rfl ?_
                      refine zx_goto C 12 dX10_pullerAt_113 (by decide) ?_
                      refine zx_lv (lv' := [(0, .ref (g 223)), (1, .int x_1), (2, .int x_2), (3, .int x_3), (4, .int x_7), (5, .int x_7), (6, .int x59), (7, .int x60)]) [4, 5, 6, 7, 3, 2, 1, 0] rfl ?_
                      exact ih x_7 x_7 x59 x60 σ55 h
set_option maxRecDepth 100000 in
set_option maxHeartbeats 4000000 in
theorem c_X10_pullerAt (l : Launch) (D : va_G) (cy : Nat → ClassId) (g : Nat → Nat) (a1 : Int32) (a2 : Int32) (a3 : Int32)  (σ : zSto) {P : Int32 → zSto → Prop} (h : w_X10_pullerAt a1 a2 a3 σ P) : zMi l yX10_pullerAt cX10_pullerAt 9 (some .int) (zrm 4 87) D cy g [.ref (g 223), .int a1, .int a2, .int a3] σ P := by
  unfold w_X10_pullerAt at h
  refine zm_i RX10 rfl (by decide +kernel) (Nat.le_of_ble_eq_true rfl) ?_
  intro p e s m below meth c C hr
  refine zx_lv (lv' := [(0, .ref (g 223)), (1, .int a1), (2, .int a2), (3, .int a3)]) [0, 1, 2, 3] rfl ?_
  refine zx_iconst (v := (-1 : Int32)) C dX10_pullerAt_0 (by decide) ?_
  refine zx_istore (lv' := [(4, .int (-1 : Int32)), (0, .ref (g 223)), (1, .int a1), (2, .int a2), (3, .int a3)]) C dX10_pullerAt_1 (by decide) rfl ?_
  refine zx_iconst (v := (-1 : Int32)) C dX10_pullerAt_3 (by decide) ?_
  refine zx_istore (lv' := [(5, .int (-1 : Int32)), (4, .int (-1 : Int32)), (0, .ref (g 223)), (1, .int a1), (2, .int a2), (3, .int a3)]) C dX10_pullerAt_4 (by decide) rfl ?_
  refine zx_iconst (v := (0 : Int32)) C dX10_pullerAt_6 (by decide) ?_
  refine zx_istore (lv' := [(6, .int (0 : Int32)), (5, .int (-1 : Int32)), (4, .int (-1 : Int32)), (0, .ref (g 223)), (1, .int a1), (2, .int a2), (3, .int a3)]) C dX10_pullerAt_7 (by decide) rfl ?_
  refine zx_iconst (v := (0 : Int32)) C dX10_pullerAt_9 (by decide) ?_
  refine zx_istore (lv' := [(7, .int (0 : Int32)), (6, .int (0 : Int32)), (5, .int (-1 : Int32)), (4, .int (-1 : Int32)), (0, .ref (g 223)), (1, .int a1), (2, .int a2), (3, .int a3)]) C dX10_pullerAt_10 (by decide) rfl ?_
  obtain ⟨n, h⟩ := h
  refine zx_lv (lv' := [(0, .ref (g 223)), (1, .int a1), (2, .int a2), (3, .int a3), (4, .int (-1 : Int32)), (5, .int (-1 : Int32)), (6, .int (0 : Int32)), (7, .int (0 : Int32))]) [4, 5, 6, 7, 3, 2, 1, 0] rfl ?_
  exact k_X10_pullerAt_12 C hr (a1) (a2) (a3)   n (-1 : Int32) (-1 : Int32) (0 : Int32) (0 : Int32) σ h
theorem fp_X10_276 : zFP RX10 276 10 31 .int := ⟨RX10, TX10, 50, tyX10, rfl, lay_X10, by decide, fl_X10_276, tyX10_ok, nmX10, rfl, by decide +kernel⟩
theorem fp_X10_285 : zFP RX10 285 10 32 .int := ⟨RX10, TX10, 50, tyX10, rfl, lay_X10, by decide, fl_X10_285, tyX10_ok, nmX10, rfl, by decide +kernel⟩
theorem fg_X10_68 : zFG RX10 68 10 39 := ⟨RX10, TX10, 50, rfl, lay_X10, by decide, fl_X10_68⟩
def w_X10_begin_12  (P : zSto → Prop)  : Nat → Int32 → zSto → Prop
  | 0, _, _ => False
  | n + 1, x_1, σ => (((6 : Int32) ≤ x_1 → P σ) ∧ (¬ (6 : Int32) ≤ x_1 → (vp_in x_1 6 ∧ (∀ σ4 : zSto, σ4 = zI σ 241 (x_1).toNatClampNeg (0 : Int32) → (vp_in x_1 6 ∧ (∀ σ6 : zSto, σ6 = zI σ4 243 (x_1).toNatClampNeg (0 : Int32) → (vp_in x_1 6 ∧ (∀ σ8 : zSto, σ8 = zI σ6 244 (x_1).toNatClampNeg (vp_nar .boolean (0 : Int32)) → (∀ x9 : Int32, x9 = (x_1 + (1 : Int32)) → w_X10_begin_12 P n x9 σ8)))))))))
def w_X10_begin  (σ : zSto) (P : zSto → Prop) : Prop := (∀ σ1 : zSto, σ1 = zI σ 223 31 (0 : Int32) → (∀ σ2 : zSto, σ2 = zI σ1 223 32 (0 : Int32) → (∃ n : Nat, w_X10_begin_12  P  n (0 : Int32) σ2)))
set_option maxRecDepth 100000 in
set_option maxHeartbeats 4000000 in
theorem k_X10_begin_12 {p : Program} {l : Launch} {e : Env} {s : State} {m : MethodId} {args : Array Value} {below : List Frame} {meth : Method} {c : Code} {D : va_G} {cy : Nat → ClassId} {g : Nat → Nat} (C : zC p s m args meth c cX10_begin RX10 2 D cy g) (hr : meth.sig.returnType = none) {P : zSto → Prop}     : ∀ (n : Nat) (x_1 : Int32) (σ : zSto), w_X10_begin_12 P n x_1 σ → zX p l e (zrm 0 0) s m args below meth c 0 0 (zQv P below args s D cy g) 2 D cy g 12 [(0, .ref (g 223)), (1, .int x_1)] [] σ := by
  intro n
  induction n with
  | zero => intro x_1 σ h; exact h.elim
  | succ n ih =>
    intro x_1 σ h
    unfold w_X10_begin_12 at h
    refine zx_iload_n C dX10_begin_12 1 rfl ?_
    refine zx_bipush (v := (6 : Int32)) C dX10_begin_13 (by decide) ?_
    refine zx_icmp_ge C 45 dX10_begin_15 (by decide) (fun q => ?_) (fun q => ?_)
    · replace h := h.1 q
      exact zx_vret C hr dX10_begin_45 h
    · replace h := h.2 q
      refine zx_aload_n C dX10_begin_18 0 rfl ?_
      refine zx_getR C zs_223 fg_X10_62 rfl 241 rfl dX10_begin_19 ?_
      refine zx_iload_n C dX10_begin_22 1 rfl ?_
      refine zx_iconst (v := (0 : Int32)) C dX10_begin_23 (by decide) ?_
      obtain ⟨bd3, h⟩ := h
      refine zx_iast C (x_1).toNatClampNeg zs_241 bd3 rfl dX10_begin_24 ?_
      refine zx_sig (fun σ4 eσ4 => ?_)
      replace h := h σ4 eσ4
      refine zx_aload_n C dX10_begin_25 0 rfl ?_
      refine zx_getR C zs_223 fg_X10_68 rfl 243 rfl dX10_begin_26 ?_
      refine zx_iload_n C dX10_begin_29 1 rfl ?_
      refine zx_iconst (v := (0 : Int32)) C dX10_begin_30 (by decide) ?_
      obtain ⟨bd5, h⟩ := h
      refine zx_iast C (x_1).toNatClampNeg zs_243 bd5 rfl dX10_begin_31 ?_
      refine zx_sig (fun σ6 eσ6 => ?_)
      replace h := h σ6 eσ6
      refine zx_aload_n C dX10_begin_32 0 rfl ?_
      refine zx_getR C zs_223 fg_X10_71 rfl 244 rfl dX10_begin_33 ?_
      refine zx_iload_n C dX10_begin_36 1 rfl ?_
      refine zx_iconst (v := (0 : Int32)) C dX10_begin_37 (by decide) ?_
      obtain ⟨bd7, h⟩ := h
      refine zx_zast C (x_1).toNatClampNeg zs_244 bd7 rfl dX10_begin_38 ?_
      refine zx_sig (fun σ8 eσ8 => ?_)
      replace h := h σ8 eσ8
      obtain ⟨x9, ex9⟩ : ∃ y : Int32, y = (x_1 + (1 : Int32)) := ⟨_, rfl⟩
      replace h := h x9 ex9
      refine zx_iinc (v := x9) (lv' := [(1, .int x9), (0, .ref (g 223))]) C dX10_begin_39 1 rfl (by rw [ex9]; rfl) (by decide) rfl ?_
      refine zx_goto C 12 dX10_begin_42 (by decide) ?_
      refine zx_lv (lv' := [(0, .ref (g 223)), (1, .int x9)]) [1, 0] rfl ?_
      exact ih x9 σ8 h
set_option maxRecDepth 100000 in
set_option maxHeartbeats 4000000 in
theorem c_X10_begin (l : Launch) (D : va_G) (cy : Nat → ClassId) (g : Nat → Nat)   (σ : zSto) {P : zSto → Prop} (h : w_X10_begin  σ P) : zMv l yX10_begin cX10_begin 2 none (zrm 0 0) D cy g [.ref (g 223)] σ P := by
  unfold w_X10_begin at h
  refine zm_v RX10 rfl (by decide +kernel) (Nat.le_of_ble_eq_true rfl) ?_
  intro p e s m below meth c C hr
  refine zx_lv (lv' := [(0, .ref (g 223))]) [0] rfl ?_
  refine zx_aload_n C dX10_begin_0 0 rfl ?_
  refine zx_iconst (v := (0 : Int32)) C dX10_begin_1 (by decide) ?_
  refine zx_putI C zs_223 fp_X10_276 rfl dX10_begin_2 ?_
  refine zx_sig (fun σ1 eσ1 => ?_)
  replace h := h σ1 eσ1
  refine zx_aload_n C dX10_begin_5 0 rfl ?_
  refine zx_iconst (v := (0 : Int32)) C dX10_begin_6 (by decide) ?_
  refine zx_putI C zs_223 fp_X10_285 rfl dX10_begin_7 ?_
  refine zx_sig (fun σ2 eσ2 => ?_)
  replace h := h σ2 eσ2
  refine zx_iconst (v := (0 : Int32)) C dX10_begin_10 (by decide) ?_
  refine zx_istore_n (lv' := [(1, .int (0 : Int32)), (0, .ref (g 223))]) C dX10_begin_11 (by decide) rfl ?_
  obtain ⟨n, h⟩ := h
  refine zx_lv (lv' := [(0, .ref (g 223)), (1, .int (0 : Int32))]) [1, 0] rfl ?_
  exact k_X10_begin_12 C hr    n (0 : Int32) σ2 h
theorem fg_X10_59 : zFG RX10 59 10 36 := ⟨RX10, TX10, 50, rfl, lay_X10, by decide, fl_X10_59⟩
theorem fg_X10_65 : zFG RX10 65 10 38 := ⟨RX10, TX10, 50, rfl, lay_X10, by decide, fl_X10_65⟩
theorem fg_X10_285 : zFG RX10 285 10 32 := ⟨RX10, TX10, 50, rfl, lay_X10, by decide, fl_X10_285⟩
def w_X10_pullsAt (a1 : Int32) (a2 : Int32) (σ : zSto) (P : zSto → Prop) : Prop := (vp_in a1 16 ∧ (∀ σ2 : zSto, σ2 = zI σ 240 (a1).toNatClampNeg a2 → (vp_in a1 16 ∧ (∀ σ4 : zSto, σ4 = zI σ2 242 (a1).toNatClampNeg (0 : Int32) → ((¬ a2 = (-1 : Int32) → (w_X10_riderOf a2 (2 : Int32) σ4 (fun (r6 : Int32) (σ5 : zSto) => (vp_in a2 6 ∧ (∀ x8 : Int32, x8 = (r6 - (σ5.1 241 (a2).toNatClampNeg)) → (vp_in a1 16 ∧ ((x8 ≤ (σ5.1 238 (a1).toNatClampNeg) → (vp_in a2 6 ∧ (vp_in a2 6 ∧ (∀ σ12 : zSto, σ12 = zI σ5 241 (a2).toNatClampNeg ((σ5.1 241 (a2).toNatClampNeg) + x8) → (vp_in a1 16 ∧ (∀ σ14 : zSto, σ14 = zI σ12 242 (a1).toNatClampNeg x8 → (vp_in a2 6 ∧ (vp_in a2 6 ∧ (∀ σ17 : zSto, σ17 = zI σ14 243 (a2).toNatClampNeg ((σ14.1 243 (a2).toNatClampNeg) + (x8 - (x8 / (3 : Int32)))) → (∀ σ18 : zSto, σ18 = zI σ17 223 32 ((σ17.1 223 32) + (x8 / (3 : Int32))) → (vp_in a2 6 ∧ (∀ σ20 : zSto, σ20 = zI σ18 244 (a2).toNatClampNeg (vp_nar .boolean (1 : Int32)) → (vp_in a1 16 ∧ (∀ σ22 : zSto, σ22 = zI σ20 223 31 ((σ20.1 223 31) + (σ20.1 237 (a1).toNatClampNeg)) → P σ22)))))))))))))) ∧ (¬ x8 ≤ (σ5.1 238 (a1).toNatClampNeg) → (vp_in a1 16 ∧ (∀ x24 : Int32, x24 = (σ5.1 238 (a1).toNatClampNeg) → (vp_in a2 6 ∧ (vp_in a2 6 ∧ (∀ σ27 : zSto, σ27 = zI σ5 241 (a2).toNatClampNeg ((σ5.1 241 (a2).toNatClampNeg) + x24) → (vp_in a1 16 ∧ (∀ σ29 : zSto, σ29 = zI σ27 242 (a1).toNatClampNeg x24 → (vp_in a2 6 ∧ (vp_in a2 6 ∧ (∀ σ32 : zSto, σ32 = zI σ29 243 (a2).toNatClampNeg ((σ29.1 243 (a2).toNatClampNeg) + (x24 - (x24 / (3 : Int32)))) → (∀ σ33 : zSto, σ33 = zI σ32 223 32 ((σ32.1 223 32) + (x24 / (3 : Int32))) → (vp_in a2 6 ∧ (∀ σ35 : zSto, σ35 = zI σ33 244 (a2).toNatClampNeg (vp_nar .boolean (1 : Int32)) → (vp_in a1 16 ∧ (∀ σ37 : zSto, σ37 = zI σ35 223 31 ((σ35.1 223 31) + (σ35.1 237 (a1).toNatClampNeg)) → P σ37))))))))))))))))))))))) ∧ (a2 = (-1 : Int32) → P σ4))))))
set_option maxRecDepth 100000 in
set_option maxHeartbeats 4000000 in
theorem c_X10_pullsAt (l : Launch) (D : va_G) (cy : Nat → ClassId) (g : Nat → Nat) (a1 : Int32) (a2 : Int32)  (σ : zSto) {P : zSto → Prop} (h : w_X10_pullsAt a1 a2 σ P) : zMv l yX10_pullsAt cX10_pullsAt 5 none (zrm 2 43) D cy g [.ref (g 223), .int a1, .int a2] σ P := by
  unfold w_X10_pullsAt at h
  refine zm_v RX10 rfl (by decide +kernel) (Nat.le_of_ble_eq_true rfl) ?_
  intro p e s m below meth c C hr
  refine zx_lv (lv' := [(0, .ref (g 223)), (1, .int a1), (2, .int a2)]) [0, 1, 2] rfl ?_
  refine zx_aload_n C dX10_pullsAt_0 0 rfl ?_
  refine zx_getR C zs_223 fg_X10_59 rfl 240 rfl dX10_pullsAt_1 ?_
  refine zx_iload_n C dX10_pullsAt_4 1 rfl ?_
  refine zx_iload_n C dX10_pullsAt_5 2 rfl ?_
  obtain ⟨bd1, h⟩ := h
  refine zx_iast C (a1).toNatClampNeg zs_240 bd1 rfl dX10_pullsAt_6 ?_
  refine zx_sig (fun σ2 eσ2 => ?_)
  replace h := h σ2 eσ2
  refine zx_aload_n C dX10_pullsAt_7 0 rfl ?_
  refine zx_getR C zs_223 fg_X10_65 rfl 242 rfl dX10_pullsAt_8 ?_
  refine zx_iload_n C dX10_pullsAt_11 1 rfl ?_
  refine zx_iconst (v := (0 : Int32)) C dX10_pullsAt_12 (by decide) ?_
  obtain ⟨bd3, h⟩ := h
  refine zx_iast C (a1).toNatClampNeg zs_242 bd3 rfl dX10_pullsAt_13 ?_
  refine zx_sig (fun σ4 eσ4 => ?_)
  replace h := h σ4 eσ4
  refine zx_iload_n C dX10_pullsAt_14 2 rfl ?_
  refine zx_iconst (v := (-1 : Int32)) C dX10_pullsAt_15 (by decide) ?_
  refine zx_icmp_ne C 20 dX10_pullsAt_16 (by decide) (fun q => ?_) (fun q => ?_)
  · replace h := h.1 q
    refine zx_aload_n C dX10_pullsAt_20 0 rfl ?_
    refine zx_iload_n C dX10_pullsAt_21 2 rfl ?_
    refine zx_iconst (v := (2 : Int32)) C dX10_pullsAt_22 (by decide) ?_
    refine zx_cVi C [.int a2, .int (2 : Int32)] lk_X10_266 (c_X10_riderOf l D cy g a2 (2 : Int32)  σ4 h) zs_223 rfl ⟨by decide, by decide⟩ ⟨rfl, rfl⟩ ⟨Nat.zero_le _, Nat.zero_le _⟩ rfl rfl (Nat.le_of_ble_eq_true rfl) dX10_pullsAt_23 (fun r6 σ5 h => ?_)
    refine zx_aload_n C dX10_pullsAt_26 0 rfl ?_
    refine zx_getR C zs_223 fg_X10_62 rfl 241 rfl dX10_pullsAt_27 ?_
    refine zx_iload_n C dX10_pullsAt_30 2 rfl ?_
    obtain ⟨bd7, h⟩ := h
    refine zx_iald C (a2).toNatClampNeg zs_241 bd7 rfl dX10_pullsAt_31 ?_
    refine zx_isub C dX10_pullsAt_32 ?_
    refine zx_topi (fun x8 ex8 => ?_)
    replace h := h x8 ex8
    refine zx_istore_n (lv' := [(3, .int x8), (0, .ref (g 223)), (1, .int a1), (2, .int a2)]) C dX10_pullsAt_33 (by decide) rfl ?_
    refine zx_aload_n C dX10_pullsAt_34 1 rfl ?_
    refine zx_getR C zs_223 fg_X10_53 rfl 238 rfl dX10_pullsAt_35 ?_
    refine zx_iload_n C dX10_pullsAt_38 2 rfl ?_
    obtain ⟨bd9, h⟩ := h
    refine zx_iald C (a1).toNatClampNeg zs_238 bd9 rfl dX10_pullsAt_39 ?_
    refine zx_iload_n C dX10_pullsAt_40 0 rfl ?_
    refine zx_icmp_ge C 53 dX10_pullsAt_41 (by decide) (fun q => ?_) (fun q => ?_)
    · replace h := h.1 q
      refine zx_iload_n C dX10_pullsAt_53 0 rfl ?_
      refine zx_istore (lv' := [(4, .int x8), (3, .int x8), (0, .ref (g 223)), (1, .int a1), (2, .int a2)]) C dX10_pullsAt_54 (by decide) rfl ?_
      refine zx_aload_n C dX10_pullsAt_56 2 rfl ?_
      refine zx_getR C zs_223 fg_X10_62 rfl 241 rfl dX10_pullsAt_57 ?_
      refine zx_iload_n C dX10_pullsAt_60 4 rfl ?_
      refine zx_dup2 C dX10_pullsAt_61 rfl rfl ?_
      obtain ⟨bd10, h⟩ := h
      refine zx_iald C (a2).toNatClampNeg zs_241 bd10 rfl dX10_pullsAt_62 ?_
      refine zx_iload C dX10_pullsAt_63 0 rfl ?_
      refine zx_iadd C dX10_pullsAt_65 ?_
      obtain ⟨bd11, h⟩ := h
      refine zx_iast C (a2).toNatClampNeg zs_241 bd11 rfl dX10_pullsAt_66 ?_
      refine zx_sig (fun σ12 eσ12 => ?_)
      replace h := h σ12 eσ12
      refine zx_aload_n C dX10_pullsAt_67 2 rfl ?_
      refine zx_getR C zs_223 fg_X10_65 rfl 242 rfl dX10_pullsAt_68 ?_
      refine zx_iload_n C dX10_pullsAt_71 3 rfl ?_
      refine zx_iload C dX10_pullsAt_72 0 rfl ?_
      obtain ⟨bd13, h⟩ := h
      refine zx_iast C (a1).toNatClampNeg zs_242 bd13 rfl dX10_pullsAt_74 ?_
      refine zx_sig (fun σ14 eσ14 => ?_)
      replace h := h σ14 eσ14
      refine zx_aload_n C dX10_pullsAt_75 2 rfl ?_
      refine zx_getR C zs_223 fg_X10_68 rfl 243 rfl dX10_pullsAt_76 ?_
      refine zx_iload_n C dX10_pullsAt_79 4 rfl ?_
      refine zx_dup2 C dX10_pullsAt_80 rfl rfl ?_
      obtain ⟨bd15, h⟩ := h
      refine zx_iald C (a2).toNatClampNeg zs_243 bd15 rfl dX10_pullsAt_81 ?_
      refine zx_iload C dX10_pullsAt_82 0 rfl ?_
      refine zx_iload C dX10_pullsAt_84 0 rfl ?_
      refine zx_iconst (v := (3 : Int32)) C dX10_pullsAt_86 (by decide) ?_
      refine zx_idiv C dX10_pullsAt_87 (by decide) ?_
      refine zx_isub C dX10_pullsAt_88 ?_
      refine zx_iadd C dX10_pullsAt_89 ?_
      obtain ⟨bd16, h⟩ := h
      refine zx_iast C (a2).toNatClampNeg zs_243 bd16 rfl dX10_pullsAt_90 ?_
      refine zx_sig (fun σ17 eσ17 => ?_)
      replace h := h σ17 eσ17
      refine zx_aload_n C dX10_pullsAt_91 2 rfl ?_
      refine zx_dup C dX10_pullsAt_92 rfl ?_
      refine zx_getI C zs_223 fg_X10_285 rfl dX10_pullsAt_93 ?_
      refine zx_iload C dX10_pullsAt_96 0 rfl ?_
      refine zx_iconst (v := (3 : Int32)) C dX10_pullsAt_98 (by decide) ?_
      refine zx_idiv C dX10_pullsAt_99 (by decide) ?_
      refine zx_iadd C dX10_pullsAt_100 ?_
      refine zx_putI C zs_223 fp_X10_285 rfl dX10_pullsAt_101 ?_
      refine zx_sig (fun σ18 eσ18 => ?_)
      replace h := h σ18 eσ18
      refine zx_aload_n C dX10_pullsAt_104 2 rfl ?_
      refine zx_getR C zs_223 fg_X10_71 rfl 244 rfl dX10_pullsAt_105 ?_
      refine zx_iload_n C dX10_pullsAt_108 4 rfl ?_
      refine zx_iconst (v := (1 : Int32)) C dX10_pullsAt_109 (by decide) ?_
      obtain ⟨bd19, h⟩ := h
      refine zx_zast C (a2).toNatClampNeg zs_244 bd19 rfl dX10_pullsAt_110 ?_
      refine zx_sig (fun σ20 eσ20 => ?_)
      replace h := h σ20 eσ20
      refine zx_aload_n C dX10_pullsAt_111 2 rfl ?_
      refine zx_dup C dX10_pullsAt_112 rfl ?_
      refine zx_getI C zs_223 fg_X10_276 rfl dX10_pullsAt_113 ?_
      refine zx_aload_n C dX10_pullsAt_116 2 rfl ?_
      refine zx_getR C zs_223 fg_X10_50 rfl 237 rfl dX10_pullsAt_117 ?_
      refine zx_iload_n C dX10_pullsAt_120 3 rfl ?_
      obtain ⟨bd21, h⟩ := h
      refine zx_iald C (a1).toNatClampNeg zs_237 bd21 rfl dX10_pullsAt_121 ?_
      refine zx_iadd C dX10_pullsAt_122 ?_
      refine zx_putI C zs_223 fp_X10_276 rfl dX10_pullsAt_123 ?_
      refine zx_sig (fun σ22 eσ22 => ?_)
      replace h := h σ22 eσ22
      exact zx_vret C hr dX10_pullsAt_126 h
    · replace h := h.2 q
      refine zx_aload_n C dX10_pullsAt_44 1 rfl ?_
      refine zx_getR C zs_223 fg_X10_53 rfl 238 rfl dX10_pullsAt_45 ?_
      refine zx_iload_n C dX10_pullsAt_48 2 rfl ?_
      obtain ⟨bd23, h⟩ := h
      refine zx_iald C (a1).toNatClampNeg zs_238 bd23 rfl dX10_pullsAt_49 ?_
      refine zx_goto C 54 dX10_pullsAt_50 (by decide) ?_
      refine zx_topi (fun x24 ex24 => ?_)
      replace h := h x24 ex24
      refine zx_istore (lv' := [(4, .int x24), (3, .int x8), (0, .ref (g 223)), (1, .int a1), (2, .int a2)]) C dX10_pullsAt_54 (by decide) rfl ?_
      refine zx_aload_n C dX10_pullsAt_56 2 rfl ?_
      refine zx_getR C zs_223 fg_X10_62 rfl 241 rfl dX10_pullsAt_57 ?_
      refine zx_iload_n C dX10_pullsAt_60 4 rfl ?_
      refine zx_dup2 C dX10_pullsAt_61 rfl rfl ?_
      obtain ⟨bd25, h⟩ := h
      refine zx_iald C (a2).toNatClampNeg zs_241 bd25 rfl dX10_pullsAt_62 ?_
      refine zx_iload C dX10_pullsAt_63 0 rfl ?_
      refine zx_iadd C dX10_pullsAt_65 ?_
      obtain ⟨bd26, h⟩ := h
      refine zx_iast C (a2).toNatClampNeg zs_241 bd26 rfl dX10_pullsAt_66 ?_
      refine zx_sig (fun σ27 eσ27 => ?_)
      replace h := h σ27 eσ27
      refine zx_aload_n C dX10_pullsAt_67 2 rfl ?_
      refine zx_getR C zs_223 fg_X10_65 rfl 242 rfl dX10_pullsAt_68 ?_
      refine zx_iload_n C dX10_pullsAt_71 3 rfl ?_
      refine zx_iload C dX10_pullsAt_72 0 rfl ?_
      obtain ⟨bd28, h⟩ := h
      refine zx_iast C (a1).toNatClampNeg zs_242 bd28 rfl dX10_pullsAt_74 ?_
      refine zx_sig (fun σ29 eσ29 => ?_)
      replace h := h σ29 eσ29
      refine zx_aload_n C dX10_pullsAt_75 2 rfl ?_
      refine zx_getR C zs_223 fg_X10_68 rfl 243 rfl dX10_pullsAt_76 ?_
      refine zx_iload_n C dX10_pullsAt_79 4 rfl ?_
      refine zx_dup2 C dX10_pullsAt_80 rfl rfl ?_
      obtain ⟨bd30, h⟩ := h
      refine zx_iald C (a2).toNatClampNeg zs_243 bd30 rfl dX10_pullsAt_81 ?_
      refine zx_iload C dX10_pullsAt_82 0 rfl ?_
      refine zx_iload C dX10_pullsAt_84 0 rfl ?_
      refine zx_iconst (v := (3 : Int32)) C dX10_pullsAt_86 (by decide) ?_
      refine zx_idiv C dX10_pullsAt_87 (by decide) ?_
      refine zx_isub C dX10_pullsAt_88 ?_
      refine zx_iadd C dX10_pullsAt_89 ?_
      obtain ⟨bd31, h⟩ := h
      refine zx_iast C (a2).toNatClampNeg zs_243 bd31 rfl dX10_pullsAt_90 ?_
      refine zx_sig (fun σ32 eσ32 => ?_)
      replace h := h σ32 eσ32
      refine zx_aload_n C dX10_pullsAt_91 2 rfl ?_
      refine zx_dup C dX10_pullsAt_92 rfl ?_
      refine zx_getI C zs_223 fg_X10_285 rfl dX10_pullsAt_93 ?_
      refine zx_iload C dX10_pullsAt_96 0 rfl ?_
      refine zx_iconst (v := (3 : Int32)) C dX10_pullsAt_98 (by decide) ?_
      refine zx_idiv C dX10_pullsAt_99 (by decide) ?_
      refine zx_iadd C dX10_pullsAt_100 ?_
      refine zx_putI C zs_223 fp_X10_285 rfl dX10_pullsAt_101 ?_
      refine zx_sig (fun σ33 eσ33 => ?_)
      replace h := h σ33 eσ33
      refine zx_aload_n C dX10_pullsAt_104 2 rfl ?_
      refine zx_getR C zs_223 fg_X10_71 rfl 244 rfl dX10_pullsAt_105 ?_
      refine zx_iload_n C dX10_pullsAt_108 4 rfl ?_
      refine zx_iconst (v := (1 : Int32)) C dX10_pullsAt_109 (by decide) ?_
      obtain ⟨bd34, h⟩ := h
      refine zx_zast C (a2).toNatClampNeg zs_244 bd34 rfl dX10_pullsAt_110 ?_
      refine zx_sig (fun σ35 eσ35 => ?_)
      replace h := h σ35 eσ35
      refine zx_aload_n C dX10_pullsAt_111 2 rfl ?_
      refine zx_dup C dX10_pullsAt_112 rfl ?_
      refine zx_getI C zs_223 fg_X10_276 rfl dX10_pullsAt_113 ?_
      refine zx_aload_n C dX10_pullsAt_116 2 rfl ?_
      refine zx_getR C zs_223 fg_X10_50 rfl 237 rfl dX10_pullsAt_117 ?_
      refine zx_iload_n C dX10_pullsAt_120 3 rfl ?_
      obtain ⟨bd36, h⟩ := h
      refine zx_iald C (a1).toNatClampNeg zs_237 bd36 rfl dX10_pullsAt_121 ?_
      refine zx_iadd C dX10_pullsAt_122 ?_
      refine zx_putI C zs_223 fp_X10_276 rfl dX10_pullsAt_123 ?_
      refine zx_sig (fun σ37 eσ37 => ?_)
      replace h := h σ37 eσ37
      exact zx_vret C hr dX10_pullsAt_126 h
  · replace h := h.2 q
    exact zx_vret C hr dX10_pullsAt_19 h
theorem fp_X10_288 : zFP RX10 288 10 33 .int := ⟨RX10, TX10, 50, tyX10, rfl, lay_X10, by decide, fl_X10_288, tyX10_ok, nmX10, rfl, by decide +kernel⟩
theorem fp_X10_291 : zFP RX10 291 10 34 .int := ⟨RX10, TX10, 50, tyX10, rfl, lay_X10, by decide, fl_X10_291, tyX10_ok, nmX10, rfl, by decide +kernel⟩
theorem fg_X10_56 : zFG RX10 56 10 35 := ⟨RX10, TX10, 50, rfl, lay_X10, by decide, fl_X10_56⟩
theorem fg_X10_291 : zFG RX10 291 10 34 := ⟨RX10, TX10, 50, rfl, lay_X10, by decide, fl_X10_291⟩
theorem fg_X10_288 : zFG RX10 288 10 33 := ⟨RX10, TX10, 50, rfl, lay_X10, by decide, fl_X10_288⟩
def w_X10_timesBy_16  (P : zSto → Prop)  : Nat → Int32 → Int32 → Int32 → zSto → Prop
  | 0, _, _, _, _ => False
  | n + 1, x_1, x_2, x_3, σ => (((σ.1 223 24) ≤ x_3 → P σ) ∧ (¬ (σ.1 223 24) ≤ x_3 → (vp_in x_3 16 ∧ (∀ σ4 : zSto, σ4 = zI σ 239 (x_3).toNatClampNeg x_1 → (w_X10_postOf x_3 (4 : Int32) σ4 (fun (r6 : Int32) (σ5 : zSto) => ((r6 = (-1 : Int32) → (vp_in x_3 16 ∧ (((σ5.1 240 (x_3).toNatClampNeg) = (-1 : Int32) → (vp_in x_3 16 ∧ (∀ x9 : Int32, x9 = (x_1 + (σ5.1 236 (x_3).toNatClampNeg)) → (∀ x10 : Int32, x10 = (x_3 + (1 : Int32)) → w_X10_timesBy_16 P n x9 x_2 x10 σ5)))) ∧ (¬ (σ5.1 240 (x_3).toNatClampNeg) = (-1 : Int32) → (∀ x11 : Int32, x11 = (x_2 + (1 : Int32)) → (w_X10_of (5 : Int32) σ5 (fun (r13 : Int32) (σ12 : zSto) => ((¬ x11 = r13 → (∀ σ14 : zSto, σ14 = zI σ12 223 34 (σ12.1 223 34) → (vp_in x_3 16 ∧ (∀ x16 : Int32, x16 = (x_1 + (σ14.1 237 (x_3).toNatClampNeg)) → (vp_in x_3 16 ∧ (∀ x18 : Int32, x18 = (x16 + (σ14.1 236 (x_3).toNatClampNeg)) → (∀ x19 : Int32, x19 = (x_3 + (1 : Int32)) → w_X10_timesBy_16 P n x18 x11 x19 σ14))))))) ∧ (x11 = r13 → (∀ σ20 : zSto, σ20 = zI σ12 223 34 x_3 → (vp_in x_3 16 ∧ (∀ x22 : Int32, x22 = (x_1 + (σ20.1 237 (x_3).toNatClampNeg)) → (vp_in x_3 16 ∧ (∀ x24 : Int32, x24 = (x22 + (σ20.1 236 (x_3).toNatClampNeg)) → (∀ x25 : Int32, x25 = (x_3 + (1 : Int32)) → w_X10_timesBy_16 P n x24 x11 x25 σ20))))))))))))))) ∧ (¬ r6 = (-1 : Int32) → (w_X10_postOf x_3 (4 : Int32) σ5 (fun (r27 : Int32) (σ26 : zSto) => (w_X10_of (4 : Int32) σ26 (fun (r29 : Int32) (σ28 : zSto) => (w_X10_greater (0 : Int32) ((x_1 - r27) - r29) σ28 (fun (r31 : Int32) (σ30 : zSto) => (∀ σ32 : zSto, σ32 = zI σ30 223 33 ((σ5.1 223 33) + r31) → (vp_in x_3 16 ∧ (((σ32.1 240 (x_3).toNatClampNeg) = (-1 : Int32) → (vp_in x_3 16 ∧ (∀ x35 : Int32, x35 = (x_1 + (σ32.1 236 (x_3).toNatClampNeg)) → (∀ x36 : Int32, x36 = (x_3 + (1 : Int32)) → w_X10_timesBy_16 P n x35 x_2 x36 σ32)))) ∧ (¬ (σ32.1 240 (x_3).toNatClampNeg) = (-1 : Int32) → (∀ x37 : Int32, x37 = (x_2 + (1 : Int32)) → (w_X10_of (5 : Int32) σ32 (fun (r39 : Int32) (σ38 : zSto) => ((¬ x37 = r39 → (∀ σ40 : zSto, σ40 = zI σ38 223 34 (σ38.1 223 34) → (vp_in x_3 16 ∧ (∀ x42 : Int32, x42 = (x_1 + (σ40.1 237 (x_3).toNatClampNeg)) → (vp_in x_3 16 ∧ (∀ x44 : Int32, x44 = (x42 + (σ40.1 236 (x_3).toNatClampNeg)) → (∀ x45 : Int32, x45 = (x_3 + (1 : Int32)) → w_X10_timesBy_16 P n x44 x37 x45 σ40))))))) ∧ (x37 = r39 → (∀ σ46 : zSto, σ46 = zI σ38 223 34 x_3 → (vp_in x_3 16 ∧ (∀ x48 : Int32, x48 = (x_1 + (σ46.1 237 (x_3).toNatClampNeg)) → (vp_in x_3 16 ∧ (∀ x50 : Int32, x50 = (x48 + (σ46.1 236 (x_3).toNatClampNeg)) → (∀ x51 : Int32, x51 = (x_3 + (1 : Int32)) → w_X10_timesBy_16 P n x50 x37 x51 σ46)))))))))))))))))))))))))))))
def w_X10_timesBy  (σ : zSto) (P : zSto → Prop) : Prop := (∀ σ1 : zSto, σ1 = zI σ 223 33 (0 : Int32) → (∀ σ2 : zSto, σ2 = zI σ1 223 34 (-1 : Int32) → (∃ n : Nat, w_X10_timesBy_16  P  n (0 : Int32) (0 : Int32) (0 : Int32) σ2)))
set_option maxRecDepth 100000 in
set_option maxHeartbeats 4000000 in
theorem k_X10_timesBy_16 {p : Program} {l : Launch} {e : Env} {s : State} {m : MethodId} {args : Array Value} {below : List Frame} {meth : Method} {c : Code} {D : va_G} {cy : Nat → ClassId} {g : Nat → Nat} (C : zC p s m args meth c cX10_timesBy RX10 4 D cy g) (hr : meth.sig.returnType = none) {P : zSto → Prop}     : ∀ (n : Nat) (x_1 : Int32) (x_2 : Int32) (x_3 : Int32) (σ : zSto), w_X10_timesBy_16 P n x_1 x_2 x_3 σ → zX p l e (zrm 2 43) s m args below meth c 0 0 (zQv P below args s D cy g) 4 D cy g 16 [(0, .ref (g 223)), (1, .int x_1), (2, .int x_2), (3, .int x_3)] [] σ := by
  intro n
  induction n with
  | zero => intro x_1 x_2 x_3 σ h; exact h.elim
  | succ n ih =>
    intro x_1 x_2 x_3 σ h
    unfold w_X10_timesBy_16 at h
    refine zx_iload_n C dX10_timesBy_16 3 rfl ?_
    refine zx_aload_n C dX10_timesBy_17 0 rfl ?_
    refine zx_getI C zs_223 fg_X10_245 rfl dX10_timesBy_18 ?_
    refine zx_icmp_ge C 126 dX10_timesBy_21 (by decide) (fun q => ?_) (fun q => ?_)
    · replace h := h.1 q
      exact zx_vret C hr dX10_timesBy_126 h
    · replace h := h.2 q
      refine zx_aload_n C dX10_timesBy_24 0 rfl ?_
      refine zx_getR C zs_223 fg_X10_56 rfl 239 rfl dX10_timesBy_25 ?_
      refine zx_iload_n C dX10_timesBy_28 3 rfl ?_
      refine zx_iload_n C dX10_timesBy_29 1 rfl ?_
      obtain ⟨bd3, h⟩ := h
      refine zx_iast C (x_3).toNatClampNeg zs_239 bd3 rfl dX10_timesBy_30 ?_
      refine zx_sig (fun σ4 eσ4 => ?_)
      replace h := h σ4 eσ4
      refine zx_aload_n C dX10_timesBy_31 0 rfl ?_
      refine zx_iload_n C dX10_timesBy_32 3 rfl ?_
      refine zx_iconst (v := (4 : Int32)) C dX10_timesBy_33 (by decide) ?_
      refine zx_cVi C [.int x_3, .int (4 : Int32)] lk_X10_242 (c_X10_postOf l D cy g x_3 (4 : Int32)  σ4 h) zs_223 rfl ⟨by decide, by decide⟩ ⟨rfl, rfl⟩ ⟨Nat.zero_le _, Nat.zero_le _⟩ rfl rfl (Nat.le_of_ble_eq_true rfl) dX10_timesBy_34 (fun r6 σ5 h => ?_)
      refine zx_iconst (v := (-1 : Int32)) C dX10_timesBy_37 (by decide) ?_
      refine zx_icmp_eq C 68 dX10_timesBy_38 (by decide) (fun q => ?_) (fun q => ?_)
      · replace h := h.1 q
        refine zx_aload_n C dX10_timesBy_68 0 rfl ?_
        refine zx_getR C zs_223 fg_X10_59 rfl 240 rfl dX10_timesBy_69 ?_
        refine zx_iload_n C dX10_timesBy_72 3 rfl ?_
        obtain ⟨bd7, h⟩ := h
        refine zx_iald C (x_3).toNatClampNeg zs_240 bd7 rfl dX10_timesBy_73 ?_
        refine zx_iconst (v := (-1 : Int32)) C dX10_timesBy_74 (by decide) ?_
        refine zx_icmp_eq C 111 dX10_timesBy_75 (by decide) (fun q => ?_) (fun q => ?_)
        · replace h := h.1 q
          refine zx_iload_n C dX10_timesBy_111 1 rfl ?_
          refine zx_aload_n C dX10_timesBy_112 0 rfl ?_
          refine zx_getR C zs_223 fg_X10_47 rfl 236 rfl dX10_timesBy_113 ?_
          refine zx_iload_n C dX10_timesBy_116 3 rfl ?_
          obtain ⟨bd8, h⟩ := h
          refine zx_iald C (x_3).toNatClampNeg zs_236 bd8 rfl dX10_timesBy_117 ?_
          refine zx_iadd C dX10_timesBy_118 ?_
          refine zx_topi (fun x9 ex9 => ?_)
          replace h := h x9 ex9
          refine zx_istore_n (lv' := [(1, .int x9), (0, .ref (g 223)), (2, .int x_2), (3, .int x_3)]) C dX10_timesBy_119 (by decide) rfl ?_
          obtain ⟨x10, ex10⟩ : ∃ y : Int32, y = (x_3 + (1 : Int32)) := ⟨_, rfl⟩
          replace h := h x10 ex10
          refine zx_iinc (v := x10) (lv' := [(3, .int x10), (1, .int x9), (0, .ref (g 223)), (2, .int x_2)]) C dX10_timesBy_120 3 rfl (by rw [ex10]; rfl) (by decide) rfl ?_
          refine zx_goto C 16 dX10_timesBy_123 (by decide) ?_
          refine zx_lv (lv' := [(0, .ref (g 223)), (1, .int x9), (2, .int x_2), (3, .int x10)]) [2, 1, 3, 0] rfl ?_
          exact ih x9 x_2 x10 σ5 h
        · replace h := h.2 q
          obtain ⟨x11, ex11⟩ : ∃ y : Int32, y = (x_2 + (1 : Int32)) := ⟨_, rfl⟩
          replace h := h x11 ex11
          refine zx_iinc (v := x11) (lv' := [(2, .int x11), (0, .ref (g 223)), (1, .int x_1), (3, .int x_3)]) C dX10_timesBy_78 2 rfl (by rw [ex11]; rfl) (by decide) rfl ?_
          refine zx_aload_n C dX10_timesBy_81 1 rfl ?_
          refine zx_iload_n C dX10_timesBy_82 0 rfl ?_
          refine zx_aload_n C dX10_timesBy_83 1 rfl ?_
          refine zx_iconst (v := (5 : Int32)) C dX10_timesBy_84 (by decide) ?_
          refine zx_cVi C [.int (5 : Int32)] lk_X10_238 (c_X10_of l D cy g (5 : Int32)  σ5 h) zs_223 rfl ⟨by decide, by decide⟩ ⟨rfl, rfl⟩ ⟨Nat.zero_le _, Nat.zero_le _⟩ rfl rfl (Nat.le_of_ble_eq_true rfl) dX10_timesBy_85 (fun r13 σ12 h => ?_)
          refine zx_icmp_ne C 95 dX10_timesBy_88 (by decide) (fun q => ?_) (fun q => ?_)
          · replace h := h.1 q
            refine zx_aload_n C dX10_timesBy_95 1 rfl ?_
            refine zx_getI C zs_223 fg_X10_291 rfl dX10_timesBy_96 ?_
            refine zx_putI C zs_223 fp_X10_291 rfl dX10_timesBy_99 ?_
            refine zx_sig (fun σ14 eσ14 => ?_)
            replace h := h σ14 eσ14
            refine zx_iload_n C dX10_timesBy_102 2 rfl ?_
            refine zx_aload_n C dX10_timesBy_103 1 rfl ?_
            refine zx_getR C zs_223 fg_X10_50 rfl 237 rfl dX10_timesBy_104 ?_
            refine zx_iload_n C dX10_timesBy_107 3 rfl ?_
            obtain ⟨bd15, h⟩ := h
            refine zx_iald C (x_3).toNatClampNeg zs_237 bd15 rfl dX10_timesBy_108 ?_
            refine zx_iadd C dX10_timesBy_109 ?_
            refine zx_topi (fun x16 ex16 => ?_)
            replace h := h x16 ex16
            refine zx_istore_n (lv' := [(1, .int x16), (2, .int x11), (0, .ref (g 223)), (3, .int x_3)]) C dX10_timesBy_110 (by decide) rfl ?_
            refine zx_iload_n C dX10_timesBy_111 0 rfl ?_
            refine zx_aload_n C dX10_timesBy_112 2 rfl ?_
            refine zx_getR C zs_223 fg_X10_47 rfl 236 rfl dX10_timesBy_113 ?_
            refine zx_iload_n C dX10_timesBy_116 3 rfl ?_
            obtain ⟨bd17, h⟩ := h
            refine zx_iald C (x_3).toNatClampNeg zs_236 bd17 rfl dX10_timesBy_117 ?_
            refine zx_iadd C dX10_timesBy_118 ?_
            refine zx_topi (fun x18 ex18 => ?_)
            replace h := h x18 ex18
            refine zx_istore_n (lv' := [(1, .int x18), (2, .int x11), (0, .ref (g 223)), (3, .int x_3)]) C dX10_timesBy_119 (by decide) rfl ?_
            obtain ⟨x19, ex19⟩ : ∃ y : Int32, y = (x_3 + (1 : Int32)) := ⟨_, rfl⟩
            replace h := h x19 ex19
            refine zx_iinc (v := x19) (lv' := [(3, .int x19), (1, .int x18), (2, .int x11), (0, .ref (g 223))]) C dX10_timesBy_120 3 rfl (by rw [ex19]; rfl) (by decide) rfl ?_
            refine zx_goto C 16 dX10_timesBy_123 (by decide) ?_
            refine zx_lv (lv' := [(0, .ref (g 223)), (1, .int x18), (2, .int x11), (3, .int x19)]) [3, 1, 2, 0] rfl ?_
            exact ih x18 x11 x19 σ14 h
          · replace h := h.2 q
            refine zx_iload_n C dX10_timesBy_91 3 rfl ?_
            refine zx_goto C 99 dX10_timesBy_92 (by decide) ?_
            refine zx_putI C zs_223 fp_X10_291 rfl dX10_timesBy_99 ?_
            refine zx_sig (fun σ20 eσ20 => ?_)
            replace h := h σ20 eσ20
            refine zx_iload_n C dX10_timesBy_102 2 rfl ?_
            refine zx_aload_n C dX10_timesBy_103 1 rfl ?_
            refine zx_getR C zs_223 fg_X10_50 rfl 237 rfl dX10_timesBy_104 ?_
            refine zx_iload_n C dX10_timesBy_107 3 rfl ?_
            obtain ⟨bd21, h⟩ := h
            refine zx_iald C (x_3).toNatClampNeg zs_237 bd21 rfl dX10_timesBy_108 ?_
            refine zx_iadd C dX10_timesBy_109 ?_
            refine zx_topi (fun x22 ex22 => ?_)
            replace h := h x22 ex22
            refine zx_istore_n (lv' := [(1, .int x22), (2, .int x11), (0, .ref (g 223)), (3, .int x_3)]) C dX10_timesBy_110 (by decide) rfl ?_
            refine zx_iload_n C dX10_timesBy_111 0 rfl ?_
            refine zx_aload_n C dX10_timesBy_112 2 rfl ?_
            refine zx_getR C zs_223 fg_X10_47 rfl 236 rfl dX10_timesBy_113 ?_
            refine zx_iload_n C dX10_timesBy_116 3 rfl ?_
            obtain ⟨bd23, h⟩ := h
            refine zx_iald C (x_3).toNatClampNeg zs_236 bd23 rfl dX10_timesBy_117 ?_
            refine zx_iadd C dX10_timesBy_118 ?_
            refine zx_topi (fun x24 ex24 => ?_)
            replace h := h x24 ex24
            refine zx_istore_n (lv' := [(1, .int x24), (2, .int x11), (0, .ref (g 223)), (3, .int x_3)]) C dX10_timesBy_119 (by decide) rfl ?_
            obtain ⟨x25, ex25⟩ : ∃ y : Int32, y = (x_3 + (1 : Int32)) := ⟨_, rfl⟩
            replace h := h x25 ex25
            refine zx_iinc (v := x25) (lv' := [(3, .int x25), (1, .int x24), (2, .int x11), (0, .ref (g 223))]) C dX10_timesBy_120 3 rfl (by rw [ex25]; rfl) (by decide) rfl ?_
            refine zx_goto C 16 dX10_timesBy_123 (by decide) ?_
            refine zx_lv (lv' := [(0, .ref (g 223)), (1, .int x24), (2, .int x11), (3, .int x25)]) [3, 1, 2, 0] rfl ?_
            exact ih x24 x11 x25 σ20 h
      · replace h := h.2 q
        refine zx_aload_n C dX10_timesBy_41 0 rfl ?_
        refine zx_dup C dX10_timesBy_42 rfl ?_
        refine zx_getI C zs_223 fg_X10_288 rfl dX10_timesBy_43 ?_
        refine zx_iconst (v := (0 : Int32)) C dX10_timesBy_46 (by decide) ?_
        refine zx_iload_n C dX10_timesBy_47 1 rfl ?_
        refine zx_aload_n C dX10_timesBy_48 0 rfl ?_
        refine zx_iload_n C dX10_timesBy_49 3 rfl ?_
        refine zx_iconst (v := (4 : Int32)) C dX10_timesBy_50 (by decide) ?_
        refine zx_cVi C [.int x_3, .int (4 : Int32)] lk_X10_242 (c_X10_postOf l D cy g x_3 (4 : Int32)  σ5 h) zs_223 rfl ⟨by decide, by decide⟩ ⟨rfl, rfl⟩ ⟨Nat.zero_le _, Nat.zero_le _⟩ rfl rfl (Nat.le_of_ble_eq_true rfl) dX10_timesBy_51 (fun r27 σ26 h => ?_)
        refine zx_isub C dX10_timesBy_54 ?_
        refine zx_aload_n C dX10_timesBy_55 0 rfl ?_
        refine zx_iconst (v := (4 : Int32)) C dX10_timesBy_56 (by decide) ?_
        refine zx_cVi C [.int (4 : Int32)] lk_X10_238 (c_X10_of l D cy g (4 : Int32)  σ26 h) zs_223 rfl ⟨by decide, by decide⟩ ⟨rfl, rfl⟩ ⟨Nat.zero_le _, Nat.zero_le _⟩ rfl rfl (Nat.le_of_ble_eq_true rfl) dX10_timesBy_57 (fun r29 σ28 h => ?_)
        refine zx_isub C dX10_timesBy_60 ?_
        refine zx_cSi C [.int (0 : Int32), .int ((x_1 - r27) - r29)] lk_X10_160 (c_X10_greater l D cy g (0 : Int32) ((x_1 - r27) - r29)  σ28 h) ⟨by decide, by decide⟩ ⟨rfl, rfl⟩ ⟨Nat.zero_le _, Nat.zero_le _⟩ rfl rfl (Nat.le_of_ble_eq_true rfl) dX10_timesBy_61 (fun r31 σ30 h => ?_)
        refine zx_iadd C dX10_timesBy_64 ?_
        refine zx_putI C zs_223 fp_X10_288 rfl dX10_timesBy_65 ?_
        refine zx_sig (fun σ32 eσ32 => ?_)
        replace h := h σ32 eσ32
        refine zx_aload_n C dX10_timesBy_68 0 rfl ?_
        refine zx_getR C zs_223 fg_X10_59 rfl 240 rfl dX10_timesBy_69 ?_
        refine zx_iload_n C dX10_timesBy_72 3 rfl ?_
        obtain ⟨bd33, h⟩ := h
        refine zx_iald C (x_3).toNatClampNeg zs_240 bd33 rfl dX10_timesBy_73 ?_
        refine zx_iconst (v := (-1 : Int32)) C dX10_timesBy_74 (by decide) ?_
        refine zx_icmp_eq C 111 dX10_timesBy_75 (by decide) (fun q => ?_) (fun q => ?_)
        · replace h := h.1 q
          refine zx_iload_n C dX10_timesBy_111 1 rfl ?_
          refine zx_aload_n C dX10_timesBy_112 0 rfl ?_
          refine zx_getR C zs_223 fg_X10_47 rfl 236 rfl dX10_timesBy_113 ?_
          refine zx_iload_n C dX10_timesBy_116 3 rfl ?_
          obtain ⟨bd34, h⟩ := h
          refine zx_iald C (x_3).toNatClampNeg zs_236 bd34 rfl dX10_timesBy_117 ?_
          refine zx_iadd C dX10_timesBy_118 ?_
          refine zx_topi (fun x35 ex35 => ?_)
          replace h := h x35 ex35
          refine zx_istore_n (lv' := [(1, .int x35), (0, .ref (g 223)), (2, .int x_2), (3, .int x_3)]) C dX10_timesBy_119 (by decide) rfl ?_
          obtain ⟨x36, ex36⟩ : ∃ y : Int32, y = (x_3 + (1 : Int32)) := ⟨_, rfl⟩
          replace h := h x36 ex36
          refine zx_iinc (v := x36) (lv' := [(3, .int x36), (1, .int x35), (0, .ref (g 223)), (2, .int x_2)]) C dX10_timesBy_120 3 rfl (by rw [ex36]; rfl) (by decide) rfl ?_
          refine zx_goto C 16 dX10_timesBy_123 (by decide) ?_
          refine zx_lv (lv' := [(0, .ref (g 223)), (1, .int x35), (2, .int x_2), (3, .int x36)]) [2, 1, 3, 0] rfl ?_
          exact ih x35 x_2 x36 σ32 h
        · replace h := h.2 q
          obtain ⟨x37, ex37⟩ : ∃ y : Int32, y = (x_2 + (1 : Int32)) := ⟨_, rfl⟩
          replace h := h x37 ex37
          refine zx_iinc (v := x37) (lv' := [(2, .int x37), (0, .ref (g 223)), (1, .int x_1), (3, .int x_3)]) C dX10_timesBy_78 2 rfl (by rw [ex37]; rfl) (by decide) rfl ?_
          refine zx_aload_n C dX10_timesBy_81 1 rfl ?_
          refine zx_iload_n C dX10_timesBy_82 0 rfl ?_
          refine zx_aload_n C dX10_timesBy_83 1 rfl ?_
          refine zx_iconst (v := (5 : Int32)) C dX10_timesBy_84 (by decide) ?_
          refine zx_cVi C [.int (5 : Int32)] lk_X10_238 (c_X10_of l D cy g (5 : Int32)  σ32 h) zs_223 rfl ⟨by decide, by decide⟩ ⟨rfl, rfl⟩ ⟨Nat.zero_le _, Nat.zero_le _⟩ rfl rfl (Nat.le_of_ble_eq_true rfl) dX10_timesBy_85 (fun r39 σ38 h => ?_)
          refine zx_icmp_ne C 95 dX10_timesBy_88 (by decide) (fun q => ?_) (fun q => ?_)
          · replace h := h.1 q
            refine zx_aload_n C dX10_timesBy_95 1 rfl ?_
            refine zx_getI C zs_223 fg_X10_291 rfl dX10_timesBy_96 ?_
            refine zx_putI C zs_223 fp_X10_291 rfl dX10_timesBy_99 ?_
            refine zx_sig (fun σ40 eσ40 => ?_)
            replace h := h σ40 eσ40
            refine zx_iload_n C dX10_timesBy_102 2 rfl ?_
            refine zx_aload_n C dX10_timesBy_103 1 rfl ?_
            refine zx_getR C zs_223 fg_X10_50 rfl 237 rfl dX10_timesBy_104 ?_
            refine zx_iload_n C dX10_timesBy_107 3 rfl ?_
            obtain ⟨bd41, h⟩ := h
            refine zx_iald C (x_3).toNatClampNeg zs_237 bd41 rfl dX10_timesBy_108 ?_
            refine zx_iadd C dX10_timesBy_109 ?_
            refine zx_topi (fun x42 ex42 => ?_)
            replace h := h x42 ex42
            refine zx_istore_n (lv' := [(1, .int x42), (2, .int x37), (0, .ref (g 223)), (3, .int x_3)]) C dX10_timesBy_110 (by decide) rfl ?_
            refine zx_iload_n C dX10_timesBy_111 0 rfl ?_
            refine zx_aload_n C dX10_timesBy_112 2 rfl ?_
            refine zx_getR C zs_223 fg_X10_47 rfl 236 rfl dX10_timesBy_113 ?_
            refine zx_iload_n C dX10_timesBy_116 3 rfl ?_
            obtain ⟨bd43, h⟩ := h
            refine zx_iald C (x_3).toNatClampNeg zs_236 bd43 rfl dX10_timesBy_117 ?_
            refine zx_iadd C dX10_timesBy_118 ?_
            refine zx_topi (fun x44 ex44 => ?_)
            replace h := h x44 ex44
            refine zx_istore_n (lv' := [(1, .int x44), (2, .int x37), (0, .ref (g 223)), (3, .int x_3)]) C dX10_timesBy_119 (by decide) rfl ?_
            obtain ⟨x45, ex45⟩ : ∃ y : Int32, y = (x_3 + (1 : Int32)) := ⟨_, rfl⟩
            replace h := h x45 ex45
            refine zx_iinc (v := x45) (lv' := [(3, .int x45), (1, .int x44), (2, .int x37), (0, .ref (g 223))]) C dX10_timesBy_120 3 rfl (by rw [ex45]; rfl) (by decide) rfl ?_
            refine zx_goto C 16 dX10_timesBy_123 (by decide) ?_
            refine zx_lv (lv' := [(0, .ref (g 223)), (1, .int x44), (2, .int x37), (3, .int x45)]) [3, 1, 2, 0] rfl ?_
            exact ih x44 x37 x45 σ40 h
          · replace h := h.2 q
            refine zx_iload_n C dX10_timesBy_91 3 rfl ?_
            refine zx_goto C 99 dX10_timesBy_92 (by decide) ?_
            refine zx_putI C zs_223 fp_X10_291 rfl dX10_timesBy_99 ?_
            refine zx_sig (fun σ46 eσ46 => ?_)
            replace h := h σ46 eσ46
            refine zx_iload_n C dX10_timesBy_102 2 rfl ?_
            refine zx_aload_n C dX10_timesBy_103 1 rfl ?_
            refine zx_getR C zs_223 fg_X10_50 rfl 237 rfl dX10_timesBy_104 ?_
            refine zx_iload_n C dX10_timesBy_107 3 rfl ?_
            obtain ⟨bd47, h⟩ := h
            refine zx_iald C (x_3).toNatClampNeg zs_237 bd47 rfl dX10_timesBy_108 ?_
            refine zx_iadd C dX10_timesBy_109 ?_
            refine zx_topi (fun x48 ex48 => ?_)
            replace h := h x48 ex48
            refine zx_istore_n (lv' := [(1, .int x48), (2, .int x37), (0, .ref (g 223)), (3, .int x_3)]) C dX10_timesBy_110 (by decide) rfl ?_
            refine zx_iload_n C dX10_timesBy_111 0 rfl ?_
            refine zx_aload_n C dX10_timesBy_112 2 rfl ?_
            refine zx_getR C zs_223 fg_X10_47 rfl 236 rfl dX10_timesBy_113 ?_
            refine zx_iload_n C dX10_timesBy_116 3 rfl ?_
            obtain ⟨bd49, h⟩ := h
            refine zx_iald C (x_3).toNatClampNeg zs_236 bd49 rfl dX10_timesBy_117 ?_
            refine zx_iadd C dX10_timesBy_118 ?_
            refine zx_topi (fun x50 ex50 => ?_)
            replace h := h x50 ex50
            refine zx_istore_n (lv' := [(1, .int x50), (2, .int x37), (0, .ref (g 223)), (3, .int x_3)]) C dX10_timesBy_119 (by decide) rfl ?_
            obtain ⟨x51, ex51⟩ : ∃ y : Int32, y = (x_3 + (1 : Int32)) := ⟨_, rfl⟩
            replace h := h x51 ex51
            refine zx_iinc (v := x51) (lv' := [(3, .int x51), (1, .int x50), (2, .int x37), (0, .ref (g 223))]) C dX10_timesBy_120 3 rfl (by rw [ex51]; rfl) (by decide) rfl ?_
            refine zx_goto C 16 dX10_timesBy_123 (by decide) ?_
            refine zx_lv (lv' := [(0, .ref (g 223)), (1, .int x50), (2, .int x37), (3, .int x51)]) [3, 1, 2, 0] rfl ?_
            exact ih x50 x37 x51 σ46 h
set_option maxRecDepth 100000 in
set_option maxHeartbeats 4000000 in
theorem c_X10_timesBy (l : Launch) (D : va_G) (cy : Nat → ClassId) (g : Nat → Nat)   (σ : zSto) {P : zSto → Prop} (h : w_X10_timesBy  σ P) : zMv l yX10_timesBy cX10_timesBy 4 none (zrm 2 43) D cy g [.ref (g 223)] σ P := by
  unfold w_X10_timesBy at h
  refine zm_v RX10 rfl (by decide +kernel) (Nat.le_of_ble_eq_true rfl) ?_
  intro p e s m below meth c C hr
  refine zx_lv (lv' := [(0, .ref (g 223))]) [0] rfl ?_
  refine zx_iconst (v := (0 : Int32)) C dX10_timesBy_0 (by decide) ?_
  refine zx_istore_n (lv' := [(1, .int (0 : Int32)), (0, .ref (g 223))]) C dX10_timesBy_1 (by decide) rfl ?_
  refine zx_iconst (v := (0 : Int32)) C dX10_timesBy_2 (by decide) ?_
  refine zx_istore_n (lv' := [(2, .int (0 : Int32)), (1, .int (0 : Int32)), (0, .ref (g 223))]) C dX10_timesBy_3 (by decide) rfl ?_
  refine zx_aload_n C dX10_timesBy_4 2 rfl ?_
  refine zx_iconst (v := (0 : Int32)) C dX10_timesBy_5 (by decide) ?_
  refine zx_putI C zs_223 fp_X10_288 rfl dX10_timesBy_6 ?_
  refine zx_sig (fun σ1 eσ1 => ?_)
  replace h := h σ1 eσ1
  refine zx_aload_n C dX10_timesBy_9 2 rfl ?_
  refine zx_iconst (v := (-1 : Int32)) C dX10_timesBy_10 (by decide) ?_
  refine zx_putI C zs_223 fp_X10_291 rfl dX10_timesBy_11 ?_
  refine zx_sig (fun σ2 eσ2 => ?_)
  replace h := h σ2 eσ2
  refine zx_iconst (v := (0 : Int32)) C dX10_timesBy_14 (by decide) ?_
  refine zx_istore_n (lv' := [(3, .int (0 : Int32)), (2, .int (0 : Int32)), (1, .int (0 : Int32)), (0, .ref (g 223))]) C dX10_timesBy_15 (by decide) rfl ?_
  obtain ⟨n, h⟩ := h
  refine zx_lv (lv' := [(0, .ref (g 223)), (1, .int (0 : Int32)), (2, .int (0 : Int32)), (3, .int (0 : Int32))]) [3, 2, 1, 0] rfl ?_
  exact k_X10_timesBy_16 C hr    n (0 : Int32) (0 : Int32) (0 : Int32) σ2 h
theorem lk_X10_294 : zLV RX10 294 RX10 yX10_begin cX10_begin 2 none 0 := zLV_of ml_X10_294 im_X10_begin se_X10_begin ini_X10 cd_X10_begin (by decide +kernel)
theorem lk_X10_304 : zLV RX10 304 RX10 yX10_timesBy cX10_timesBy 4 none 0 := zLV_of ml_X10_304 im_X10_timesBy se_X10_timesBy ini_X10 cd_X10_timesBy (by decide +kernel)
theorem lk_X10_297 : zLV RX10 297 RX10 yX10_pullerAt cX10_pullerAt 9 (some .int) 3 := zLV_of ml_X10_297 im_X10_pullerAt se_X10_pullerAt ini_X10 cd_X10_pullerAt (by decide +kernel)
theorem lk_X10_301 : zLV RX10 301 RX10 yX10_pullsAt cX10_pullsAt 5 none 2 := zLV_of ml_X10_301 im_X10_pullsAt se_X10_pullsAt ini_X10 cd_X10_pullsAt (by decide +kernel)
def w_X10_go_12 (x_1 : Int32) (x_3 : Int32) (P : zSto → Prop)  : Nat → Int32 → zSto → Prop
  | 0, _, _ => False
  | n + 1, x_4, σ => (((σ.1 223 25) ≤ x_4 → (vp_in (σ.1 223 25) 16 ∧ (∀ σ4 : zSto, σ4 = zI σ 240 ((σ.1 223 25)).toNatClampNeg (-1 : Int32) → (vp_in (σ4.1 223 25) 16 ∧ (∀ σ6 : zSto, σ6 = zI σ4 242 ((σ4.1 223 25)).toNatClampNeg (0 : Int32) → (w_X10_timesBy  σ6 (fun (σ7 : zSto) => P σ7))))))) ∧ (¬ (σ.1 223 25) ≤ x_4 → (w_X10_pullerAt x_4 x_1 x_3 σ (fun (r9 : Int32) (σ8 : zSto) => (w_X10_pullsAt x_4 r9 σ8 (fun (σ10 : zSto) => (∀ x11 : Int32, x11 = (x_4 + (1 : Int32)) → w_X10_go_12 x_1 x_3 P n x11 σ10)))))))
def w_X10_go (a1 : Int32) (a2 : Int32) (a3 : Int32) (σ : zSto) (P : zSto → Prop) : Prop := (∀ σ1 : zSto, σ1 = zI σ 223 30 a2 → (w_X10_begin  σ1 (fun (σ2 : zSto) => (∃ n : Nat, w_X10_go_12 a1 a3 P  n (0 : Int32) σ2))))
set_option maxRecDepth 100000 in
set_option maxHeartbeats 4000000 in
theorem k_X10_go_12 {p : Program} {l : Launch} {e : Env} {s : State} {m : MethodId} {args : Array Value} {below : List Frame} {meth : Method} {c : Code} {D : va_G} {cy : Nat → ClassId} {g : Nat → Nat} (C : zC p s m args meth c cX10_go RX10 5 D cy g) (hr : meth.sig.returnType = none) {P : zSto → Prop} (x_1 : Int32) (x_3 : Int32)    : ∀ (n : Nat) (x_4 : Int32) (σ : zSto), w_X10_go_12 x_1 x_3 P n x_4 σ → zX p l e (zrm 5 115) s m args below meth c 0 0 (zQv P below args s D cy g) 5 D cy g 12 [(0, .ref (g 223)), (1, .int x_1), (3, .int x_3), (4, .int x_4)] [] σ := by
  intro n
  induction n with
  | zero => intro x_4 σ h; exact h.elim
  | succ n ih =>
    intro x_4 σ h
    unfold w_X10_go_12 at h
    refine zx_iload C dX10_go_12 3 rfl ?_
    refine zx_aload_n C dX10_go_14 0 rfl ?_
    refine zx_getI C zs_223 fg_X10_248 rfl dX10_go_15 ?_
    refine zx_icmp_ge C 41 dX10_go_18 (by decide) (fun q => ?_) (fun q => ?_)
    · replace h := h.1 q
      refine zx_aload_n C dX10_go_41 0 rfl ?_
      refine zx_getR C zs_223 fg_X10_59 rfl 240 rfl dX10_go_42 ?_
      refine zx_aload_n C dX10_go_45 0 rfl ?_
      refine zx_getI C zs_223 fg_X10_248 rfl dX10_go_46 ?_
      refine zx_iconst (v := (-1 : Int32)) C dX10_go_49 (by decide) ?_
      obtain ⟨bd3, h⟩ := h
      refine zx_iast C ((σ.1 223 25)).toNatClampNeg zs_240 bd3 rfl dX10_go_50 ?_
      refine zx_sig (fun σ4 eσ4 => ?_)
      replace h := h σ4 eσ4
      refine zx_aload_n C dX10_go_51 0 rfl ?_
      refine zx_getR C zs_223 fg_X10_65 rfl 242 rfl dX10_go_52 ?_
      refine zx_aload_n C dX10_go_55 0 rfl ?_
      refine zx_getI C zs_223 fg_X10_248 rfl dX10_go_56 ?_
      refine zx_iconst (v := (0 : Int32)) C dX10_go_59 (by decide) ?_
      obtain ⟨bd5, h⟩ := h
      refine zx_iast C ((σ4.1 223 25)).toNatClampNeg zs_242 bd5 rfl dX10_go_60 ?_
      refine zx_sig (fun σ6 eσ6 => ?_)
      replace h := h σ6 eσ6
      refine zx_aload_n C dX10_go_61 0 rfl ?_
      refine zx_cVv C [] lk_X10_304 (c_X10_timesBy l D cy g   σ6 h) zs_223 rfl ⟨by decide, by decide⟩ ⟨rfl, rfl⟩ ⟨Nat.zero_le _, Nat.zero_le _⟩ rfl rfl (Nat.le_of_ble_eq_true rfl) dX10_go_62 (fun σ7 h => ?_)
      exact zx_vret C hr dX10_go_65 h
    · replace h := h.2 q
      refine zx_aload_n C dX10_go_21 0 rfl ?_
      refine zx_iload C dX10_go_22 3 rfl ?_
      refine zx_aload_n C dX10_go_24 0 rfl ?_
      refine zx_iload C dX10_go_25 3 rfl ?_
      refine zx_iload_n C dX10_go_27 1 rfl ?_
      refine zx_iload_n C dX10_go_28 2 rfl ?_
      refine zx_cVi C [.int x_4, .int x_1, .int x_3] lk_X10_297 (c_X10_pullerAt l D cy g x_4 x_1 x_3  σ h) zs_223 rfl ⟨by decide, by decide⟩ ⟨rfl, rfl⟩ ⟨Nat.zero_le _, Nat.zero_le _⟩ rfl rfl (Nat.le_of_ble_eq_true rfl) dX10_go_29 (fun r9 σ8 h => ?_)
      refine zx_cVv C [.int x_4, .int r9] lk_X10_301 (c_X10_pullsAt l D cy g x_4 r9  σ8 h) zs_223 rfl ⟨by decide, by decide⟩ ⟨rfl, rfl⟩ ⟨Nat.zero_le _, Nat.zero_le _⟩ rfl rfl (Nat.le_of_ble_eq_true rfl) dX10_go_32 (fun σ10 h => ?_)
      obtain ⟨x11, ex11⟩ : ∃ y : Int32, y = (x_4 + (1 : Int32)) := ⟨_, rfl⟩
      replace h := h x11 ex11
      refine zx_iinc (v := x11) (lv' := [(4, .int x11), (0, .ref (g 223)), (1, .int x_1), (3, .int x_3)]) C dX10_go_35 3 rfl (by rw [ex11]; rfl) (by decide) rfl ?_
      refine zx_goto C 12 dX10_go_38 (by decide) ?_
      refine zx_lv (lv' := [(0, .ref (g 223)), (1, .int x_1), (3, .int x_3), (4, .int x11)]) [1, 2, 3, 0] rfl ?_
      exact ih x11 σ10 h
set_option maxRecDepth 100000 in
set_option maxHeartbeats 4000000 in
theorem c_X10_go (l : Launch) (D : va_G) (cy : Nat → ClassId) (g : Nat → Nat) (a1 : Int32) (a2 : Int32) (a3 : Int32)  (σ : zSto) {P : zSto → Prop} (h : w_X10_go a1 a2 a3 σ P) : zMv l yX10_go cX10_go 5 none (zrm 5 115) D cy g [.ref (g 223), .int a1, .int a2, .int a3] σ P := by
  unfold w_X10_go at h
  refine zm_v RX10 rfl (by decide +kernel) (Nat.le_of_ble_eq_true rfl) ?_
  intro p e s m below meth c C hr
  refine zx_lv (lv' := [(0, .ref (g 223)), (1, .int a1), (2, .int a2), (3, .int a3)]) [0, 1, 2, 3] rfl ?_
  refine zx_aload_n C dX10_go_0 0 rfl ?_
  refine zx_iload_n C dX10_go_1 2 rfl ?_
  refine zx_putI C zs_223 fp_X10_269 rfl dX10_go_2 ?_
  refine zx_sig (fun σ1 eσ1 => ?_)
  replace h := h σ1 eσ1
  refine zx_aload_n C dX10_go_5 0 rfl ?_
  refine zx_cVv C [] lk_X10_294 (c_X10_begin l D cy g   σ1 h) zs_223 rfl ⟨by decide, by decide⟩ ⟨rfl, rfl⟩ ⟨Nat.zero_le _, Nat.zero_le _⟩ rfl rfl (Nat.le_of_ble_eq_true rfl) dX10_go_6 (fun σ2 h => ?_)
  refine zx_iconst (v := (0 : Int32)) C dX10_go_9 (by decide) ?_
  refine zx_istore (lv' := [(4, .int (0 : Int32)), (0, .ref (g 223)), (1, .int a1), (2, .int a2), (3, .int a3)]) C dX10_go_10 (by decide) rfl ?_
  obtain ⟨n, h⟩ := h
  refine zx_lv (lv' := [(0, .ref (g 223)), (1, .int a1), (3, .int a3), (4, .int (0 : Int32))]) [1, 2, 4, 0] rfl ?_
  exact k_X10_go_12 C hr (a1) (a3)   n (0 : Int32) σ2 h
def w_X10_everyone  (σ : zSto) (P : Int32 → zSto → Prop) : Prop := P (((1 : Int32) <<< ((σ.1 223 26) &&& 31)) - (1 : Int32)) σ
set_option maxRecDepth 100000 in
set_option maxHeartbeats 4000000 in
theorem c_X10_everyone (l : Launch) (D : va_G) (cy : Nat → ClassId) (g : Nat → Nat)   (σ : zSto) {P : Int32 → zSto → Prop} (h : w_X10_everyone  σ P) : zMi l yX10_everyone cX10_everyone 1 (some .int) (zrm 0 0) D cy g [.ref (g 223)] σ P := by
  unfold w_X10_everyone at h
  refine zm_i RX10 rfl (by decide +kernel) (Nat.le_of_ble_eq_true rfl) ?_
  intro p e s m below meth c C hr
  refine zx_lv (lv' := [(0, .ref (g 223))]) [0] rfl ?_
  refine zx_iconst (v := (1 : Int32)) C dX10_everyone_0 (by decide) ?_
  refine zx_aload_n C dX10_everyone_1 0 rfl ?_
  refine zx_getI C zs_223 fg_X10_251 rfl dX10_everyone_2 ?_
  refine zx_ishl C dX10_everyone_5 ?_
  refine zx_iconst (v := (1 : Int32)) C dX10_everyone_6 (by decide) ?_
  refine zx_isub C dX10_everyone_7 ?_
  exact zx_iret C hr dX10_everyone_8 h
theorem lk_X10_307 : zLV RX10 307 RX10 yX10_everyone cX10_everyone 1 (some .int) 0 := zLV_of ml_X10_307 im_X10_everyone se_X10_everyone ini_X10 cd_X10_everyone (by decide +kernel)
theorem lk_X10_310 : zLV RX10 310 RX10 yX10_go cX10_go 5 none 3 := zLV_of ml_X10_310 im_X10_go se_X10_go ini_X10 cd_X10_go (by decide +kernel)
def w_X10_layRun (a1 : Int32) (a2 : Int32) (a3 : Int32) (a4 : Int32) (σ : zSto) (P : Int32 → zSto → Prop) : Prop := (w_X10_in a2 (-1 : Int32) (3 : Int32) σ (fun (r2 : Int32) (σ1 : zSto) => (r2 = 0 ∨ r2 = 1) → ((r2 = 0 → P (0 : Int32) σ1) ∧ (¬ r2 = 0 → (w_X10_hand a1 a4 σ1 (fun (r4 : Int32) (σ3 : zSto) => (r4 = 0 ∨ r4 = 1) → ((¬ r4 = 0 → (w_X10_everyone  σ3 (fun (r6 : Int32) (σ5 : zSto) => (w_X10_go a2 a3 r6 σ5 (fun (σ7 : zSto) => P (1 : Int32) σ7))))) ∧ (r4 = 0 → P (0 : Int32) σ3))))))))
set_option maxRecDepth 100000 in
set_option maxHeartbeats 4000000 in
theorem c_X10_layRun (l : Launch) (D : va_G) (cy : Nat → ClassId) (g : Nat → Nat) (a1 : Int32) (a2 : Int32) (a3 : Int32) (a4 : Int32)  (σ : zSto) {P : Int32 → zSto → Prop} (h : w_X10_layRun a1 a2 a3 a4 σ P) : zMb l yX10_layRun cX10_layRun 5 (some .boolean) (zrm 6 139) D cy g [.ref (g 223), .int a1, .int a2, .int a3, .int a4] σ P := by
  unfold w_X10_layRun at h
  refine zm_b RX10 rfl (by decide +kernel) (Nat.le_of_ble_eq_true rfl) ?_
  intro p e s m below meth c C hr
  refine zx_lv (lv' := [(0, .ref (g 223)), (1, .int a1), (2, .int a2), (3, .int a3), (4, .int a4)]) [0, 1, 2, 3, 4] rfl ?_
  refine zx_iload_n C dX10_layRun_0 2 rfl ?_
  refine zx_iconst (v := (-1 : Int32)) C dX10_layRun_1 (by decide) ?_
  refine zx_iconst (v := (3 : Int32)) C dX10_layRun_2 (by decide) ?_
  refine zx_cSb C [.int a2, .int (-1 : Int32), .int (3 : Int32)] lk_X10_103 (c_X10_in l D cy g a2 (-1 : Int32) (3 : Int32)  σ h) ⟨by decide, by decide⟩ ⟨rfl, rfl⟩ ⟨Nat.zero_le _, Nat.zero_le _⟩ rfl rfl (Nat.le_of_ble_eq_true rfl) dX10_layRun_3 (fun r2 σ1 hb h => ?_)
  replace h := h hb
  refine zx_if_eq C 19 dX10_layRun_6 (by decide) (fun q => ?_) (fun q => ?_)
  · replace h := h.1 q
    refine zx_iconst (v := (0 : Int32)) C dX10_layRun_19 (by decide) ?_
    exact zx_zret C hr dX10_layRun_20 (Or.inl rfl) h
  · replace h := h.2 q
    refine zx_aload_n C dX10_layRun_9 0 rfl ?_
    refine zx_iload_n C dX10_layRun_10 1 rfl ?_
    refine zx_iload C dX10_layRun_11 4 rfl ?_
    refine zx_cVb C [.int a1, .int a4] lk_X10_257 (c_X10_hand l D cy g a1 a4  σ1 h) zs_223 rfl ⟨by decide, by decide⟩ ⟨rfl, rfl⟩ ⟨Nat.zero_le _, Nat.zero_le _⟩ rfl rfl (Nat.le_of_ble_eq_true rfl) dX10_layRun_13 (fun r4 σ3 hb h => ?_)
    replace h := h hb
    refine zx_if_ne C 21 dX10_layRun_16 (by decide) (fun q => ?_) (fun q => ?_)
    · replace h := h.1 q
      refine zx_aload_n C dX10_layRun_21 0 rfl ?_
      refine zx_iload_n C dX10_layRun_22 2 rfl ?_
      refine zx_iload_n C dX10_layRun_23 3 rfl ?_
      refine zx_aload_n C dX10_layRun_24 0 rfl ?_
      refine zx_cVi C [] lk_X10_307 (c_X10_everyone l D cy g   σ3 h) zs_223 rfl ⟨by decide, by decide⟩ ⟨rfl, rfl⟩ ⟨Nat.zero_le _, Nat.zero_le _⟩ rfl rfl (Nat.le_of_ble_eq_true rfl) dX10_layRun_25 (fun r6 σ5 h => ?_)
      refine zx_cVv C [.int a2, .int a3, .int r6] lk_X10_310 (c_X10_go l D cy g a2 a3 r6  σ5 h) zs_223 rfl ⟨by decide, by decide⟩ ⟨rfl, rfl⟩ ⟨Nat.zero_le _, Nat.zero_le _⟩ rfl rfl (Nat.le_of_ble_eq_true rfl) dX10_layRun_28 (fun σ7 h => ?_)
      refine zx_iconst (v := (1 : Int32)) C dX10_layRun_31 (by decide) ?_
      exact zx_zret C hr dX10_layRun_32 (Or.inr rfl) h
    · replace h := h.2 q
      refine zx_iconst (v := (0 : Int32)) C dX10_layRun_19 (by decide) ?_
      exact zx_zret C hr dX10_layRun_20 (Or.inl rfl) h
def w_X10_gathered_4  (P : Int32 → zSto → Prop)  : Nat → Int32 → Int32 → zSto → Prop
  | 0, _, _, _ => False
  | n + 1, x_1, x_2, σ => (((σ.1 223 26) ≤ x_2 → P x_1 σ) ∧ (¬ (σ.1 223 26) ≤ x_2 → (vp_in x_2 6 ∧ (∀ x2 : Int32, x2 = (x_1 + (σ.1 241 (x_2).toNatClampNeg)) → (∀ x3 : Int32, x3 = (x_2 + (1 : Int32)) → w_X10_gathered_4 P n x2 x3 σ)))))
def w_X10_gathered  (σ : zSto) (P : Int32 → zSto → Prop) : Prop := (∃ n : Nat, w_X10_gathered_4  P  n (0 : Int32) (0 : Int32) σ)
set_option maxRecDepth 100000 in
set_option maxHeartbeats 4000000 in
theorem k_X10_gathered_4 {p : Program} {l : Launch} {e : Env} {s : State} {m : MethodId} {args : Array Value} {below : List Frame} {meth : Method} {c : Code} {D : va_G} {cy : Nat → ClassId} {g : Nat → Nat} (C : zC p s m args meth c cX10_gathered RX10 3 D cy g) (hr : meth.sig.returnType = (some .int)) {P : Int32 → zSto → Prop}     : ∀ (n : Nat) (x_1 : Int32) (x_2 : Int32) (σ : zSto), w_X10_gathered_4 P n x_1 x_2 σ → zX p l e (zrm 0 0) s m args below meth c 0 0 (zQi P below args s D cy g) 3 D cy g 4 [(0, .ref (g 223)), (1, .int x_1), (2, .int x_2)] [] σ := by
  intro n
  induction n with
  | zero => intro x_1 x_2 σ h; exact h.elim
  | succ n ih =>
    intro x_1 x_2 σ h
    unfold w_X10_gathered_4 at h
    refine zx_iload_n C dX10_gathered_4 2 rfl ?_
    refine zx_aload_n C dX10_gathered_5 0 rfl ?_
    refine zx_getI C zs_223 fg_X10_251 rfl dX10_gathered_6 ?_
    refine zx_icmp_ge C 27 dX10_gathered_9 (by decide) (fun q => ?_) (fun q => ?_)
    · replace h := h.1 q
      refine zx_iload_n C dX10_gathered_27 1 rfl ?_
      exact zx_iret C hr dX10_gathered_28 h
    · replace h := h.2 q
      refine zx_iload_n C dX10_gathered_12 1 rfl ?_
      refine zx_aload_n C dX10_gathered_13 0 rfl ?_
      refine zx_getR C zs_223 fg_X10_62 rfl 241 rfl dX10_gathered_14 ?_
      refine zx_iload_n C dX10_gathered_17 2 rfl ?_
      obtain ⟨bd1, h⟩ := h
      refine zx_iald C (x_2).toNatClampNeg zs_241 bd1 rfl dX10_gathered_18 ?_
      refine zx_iadd C dX10_gathered_19 ?_
      refine zx_topi (fun x2 ex2 => ?_)
      replace h := h x2 ex2
      refine zx_istore_n (lv' := [(1, .int x2), (0, .ref (g 223)), (2, .int x_2)]) C dX10_gathered_20 (by decide) rfl ?_
      obtain ⟨x3, ex3⟩ : ∃ y : Int32, y = (x_2 + (1 : Int32)) := ⟨_, rfl⟩
      replace h := h x3 ex3
      refine zx_iinc (v := x3) (lv' := [(2, .int x3), (1, .int x2), (0, .ref (g 223))]) C dX10_gathered_21 2 rfl (by rw [ex3]; rfl) (by decide) rfl ?_
      refine zx_goto C 4 dX10_gathered_24 (by decide) ?_
      refine zx_lv (lv' := [(0, .ref (g 223)), (1, .int x2), (2, .int x3)]) [2, 1, 0] rfl ?_
      exact ih x2 x3 σ h
set_option maxRecDepth 100000 in
set_option maxHeartbeats 4000000 in
theorem c_X10_gathered (l : Launch) (D : va_G) (cy : Nat → ClassId) (g : Nat → Nat)   (σ : zSto) {P : Int32 → zSto → Prop} (h : w_X10_gathered  σ P) : zMi l yX10_gathered cX10_gathered 3 (some .int) (zrm 0 0) D cy g [.ref (g 223)] σ P := by
  unfold w_X10_gathered at h
  refine zm_i RX10 rfl (by decide +kernel) (Nat.le_of_ble_eq_true rfl) ?_
  intro p e s m below meth c C hr
  refine zx_lv (lv' := [(0, .ref (g 223))]) [0] rfl ?_
  refine zx_iconst (v := (0 : Int32)) C dX10_gathered_0 (by decide) ?_
  refine zx_istore_n (lv' := [(1, .int (0 : Int32)), (0, .ref (g 223))]) C dX10_gathered_1 (by decide) rfl ?_
  refine zx_iconst (v := (0 : Int32)) C dX10_gathered_2 (by decide) ?_
  refine zx_istore_n (lv' := [(2, .int (0 : Int32)), (1, .int (0 : Int32)), (0, .ref (g 223))]) C dX10_gathered_3 (by decide) rfl ?_
  obtain ⟨n, h⟩ := h
  refine zx_lv (lv' := [(0, .ref (g 223)), (1, .int (0 : Int32)), (2, .int (0 : Int32))]) [2, 1, 0] rfl ?_
  exact k_X10_gathered_4 C hr    n (0 : Int32) (0 : Int32) σ h
def w_X10_stopsOf_4  (P : Int32 → zSto → Prop)  : Nat → Int32 → Int32 → zSto → Prop
  | 0, _, _, _ => False
  | n + 1, x_1, x_2, σ => (((σ.1 223 24) ≤ x_2 → P x_1 σ) ∧ (¬ (σ.1 223 24) ≤ x_2 → (vp_in x_2 16 ∧ (((σ.1 240 (x_2).toNatClampNeg) = (-1 : Int32) → (∀ x2 : Int32, x2 = (x_1 ||| (0 : Int32)) → (∀ x3 : Int32, x3 = (x_2 + (1 : Int32)) → w_X10_stopsOf_4 P n x2 x3 σ))) ∧ (¬ (σ.1 240 (x_2).toNatClampNeg) = (-1 : Int32) → (∀ x4 : Int32, x4 = (x_1 ||| ((1 : Int32) <<< (x_2 &&& 31))) → (∀ x5 : Int32, x5 = (x_2 + (1 : Int32)) → w_X10_stopsOf_4 P n x4 x5 σ)))))))
def w_X10_stopsOf  (σ : zSto) (P : Int32 → zSto → Prop) : Prop := (∃ n : Nat, w_X10_stopsOf_4  P  n (0 : Int32) (0 : Int32) σ)
set_option maxRecDepth 100000 in
set_option maxHeartbeats 4000000 in
theorem k_X10_stopsOf_4 {p : Program} {l : Launch} {e : Env} {s : State} {m : MethodId} {args : Array Value} {below : List Frame} {meth : Method} {c : Code} {D : va_G} {cy : Nat → ClassId} {g : Nat → Nat} (C : zC p s m args meth c cX10_stopsOf RX10 3 D cy g) (hr : meth.sig.returnType = (some .int)) {P : Int32 → zSto → Prop}     : ∀ (n : Nat) (x_1 : Int32) (x_2 : Int32) (σ : zSto), w_X10_stopsOf_4 P n x_1 x_2 σ → zX p l e (zrm 0 0) s m args below meth c 0 0 (zQi P below args s D cy g) 3 D cy g 4 [(0, .ref (g 223)), (1, .int x_1), (2, .int x_2)] [] σ := by
  intro n
  induction n with
  | zero => intro x_1 x_2 σ h; exact h.elim
  | succ n ih =>
    intro x_1 x_2 σ h
    unfold w_X10_stopsOf_4 at h
    refine zx_iload_n C dX10_stopsOf_4 2 rfl ?_
    refine zx_aload_n C dX10_stopsOf_5 0 rfl ?_
    refine zx_getI C zs_223 fg_X10_245 rfl dX10_stopsOf_6 ?_
    refine zx_icmp_ge C 38 dX10_stopsOf_9 (by decide) (fun q => ?_) (fun q => ?_)
    · replace h := h.1 q
      refine zx_iload_n C dX10_stopsOf_38 1 rfl ?_
      exact zx_iret C hr dX10_stopsOf_39 h
    · replace h := h.2 q
      refine zx_iload_n C dX10_stopsOf_12 1 rfl ?_
      refine zx_aload_n C dX10_stopsOf_13 0 rfl ?_
      refine zx_getR C zs_223 fg_X10_59 rfl 240 rfl dX10_stopsOf_14 ?_
      refine zx_iload_n C dX10_stopsOf_17 2 rfl ?_
      obtain ⟨bd1, h⟩ := h
      refine zx_iald C (x_2).toNatClampNeg zs_240 bd1 rfl dX10_stopsOf_18 ?_
      refine zx_iconst (v := (-1 : Int32)) C dX10_stopsOf_19 (by decide) ?_
      refine zx_icmp_eq C 29 dX10_stopsOf_20 (by decide) (fun q => ?_) (fun q => ?_)
      · replace h := h.1 q
        refine zx_iconst (v := (0 : Int32)) C dX10_stopsOf_29 (by decide) ?_
        refine zx_ior C dX10_stopsOf_30 ?_
        refine zx_topi (fun x2 ex2 => ?_)
        replace h := h x2 ex2
        refine zx_istore_n (lv' := [(1, .int x2), (0, .ref (g 223)), (2, .int x_2)]) C dX10_stopsOf_31 (by decide) rfl ?_
        obtain ⟨x3, ex3⟩ : ∃ y : Int32, y = (x_2 + (1 : Int32)) := ⟨_, rfl⟩
        replace h := h x3 ex3
        refine zx_iinc (v := x3) (lv' := [(2, .int x3), (1, .int x2), (0, .ref (g 223))]) C dX10_stopsOf_32 2 rfl (by rw [ex3]; rfl) (by decide) rfl ?_
        refine zx_goto C 4 dX10_stopsOf_35 (by decide) ?_
        refine zx_lv (lv' := [(0, .ref (g 223)), (1, .int x2), (2, .int x3)]) [2, 1, 0] rfl ?_
        exact ih x2 x3 σ h
      · replace h := h.2 q
        refine zx_iconst (v := (1 : Int32)) C dX10_stopsOf_23 (by decide) ?_
        refine zx_iload_n C dX10_stopsOf_24 2 rfl ?_
        refine zx_ishl C dX10_stopsOf_25 ?_
        refine zx_goto C 30 dX10_stopsOf_26 (by decide) ?_
        refine zx_ior C dX10_stopsOf_30 ?_
        refine zx_topi (fun x4 ex4 => ?_)
        replace h := h x4 ex4
        refine zx_istore_n (lv' := [(1, .int x4), (0, .ref (g 223)), (2, .int x_2)]) C dX10_stopsOf_31 (by decide) rfl ?_
        obtain ⟨x5, ex5⟩ : ∃ y : Int32, y = (x_2 + (1 : Int32)) := ⟨_, rfl⟩
        replace h := h x5 ex5
        refine zx_iinc (v := x5) (lv' := [(2, .int x5), (1, .int x4), (0, .ref (g 223))]) C dX10_stopsOf_32 2 rfl (by rw [ex5]; rfl) (by decide) rfl ?_
        refine zx_goto C 4 dX10_stopsOf_35 (by decide) ?_
        refine zx_lv (lv' := [(0, .ref (g 223)), (1, .int x4), (2, .int x5)]) [2, 1, 0] rfl ?_
        exact ih x4 x5 σ h
set_option maxRecDepth 100000 in
set_option maxHeartbeats 4000000 in
theorem c_X10_stopsOf (l : Launch) (D : va_G) (cy : Nat → ClassId) (g : Nat → Nat)   (σ : zSto) {P : Int32 → zSto → Prop} (h : w_X10_stopsOf  σ P) : zMi l yX10_stopsOf cX10_stopsOf 3 (some .int) (zrm 0 0) D cy g [.ref (g 223)] σ P := by
  unfold w_X10_stopsOf at h
  refine zm_i RX10 rfl (by decide +kernel) (Nat.le_of_ble_eq_true rfl) ?_
  intro p e s m below meth c C hr
  refine zx_lv (lv' := [(0, .ref (g 223))]) [0] rfl ?_
  refine zx_iconst (v := (0 : Int32)) C dX10_stopsOf_0 (by decide) ?_
  refine zx_istore_n (lv' := [(1, .int (0 : Int32)), (0, .ref (g 223))]) C dX10_stopsOf_1 (by decide) rfl ?_
  refine zx_iconst (v := (0 : Int32)) C dX10_stopsOf_2 (by decide) ?_
  refine zx_istore_n (lv' := [(2, .int (0 : Int32)), (1, .int (0 : Int32)), (0, .ref (g 223))]) C dX10_stopsOf_3 (by decide) rfl ?_
  obtain ⟨n, h⟩ := h
  refine zx_lv (lv' := [(0, .ref (g 223)), (1, .int (0 : Int32)), (2, .int (0 : Int32))]) [2, 1, 0] rfl ?_
  exact k_X10_stopsOf_4 C hr    n (0 : Int32) (0 : Int32) σ h
