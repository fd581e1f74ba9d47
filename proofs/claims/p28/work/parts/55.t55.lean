def FX (o : Nat) (σ σ2 : zSto) : Prop := ∀ k j, (k < 223 ∨ k = 224 ∨ (k = 225 ∧ j ≠ 0) ∨ (k = 226 ∧ j ≠ 0) ∨ (k = 227 ∧ j ≠ 0) ∨ (k = 228 ∧ j ≠ o) ∨ k = 249) → σ2.1 k j = σ.1 k j
set_option maxHeartbeats 4000000 in
theorem f_X10_text (a1 a2 : Int32) {n : Nat} {σ : zSto} (I : zInv zA0 zF0 3 σ) (hn : ti (σ.1 225 0) = (n : Int)) {P : Int32 → zSto → Prop} (hP : ∀ r σ2, TX (ti a1) (ti a2) (ti (σ.1 228 (ti a1).toNat)) (FN (ti a1) n (RD (ti a1) (gB σ) n 601 0 sI)) (ti r) (ti (σ2.1 226 0)) (ti (σ2.1 227 0)) (ti (σ2.1 228 (ti a1).toNat)) → FX (ti a1).toNat σ σ2 → TK (ti a1) (ti a2) (ti (σ.1 228 (ti a1).toNat)) (FN (ti a1) n (RD (ti a1) (gB σ) n 601 0 sI)) (ti r) (rv σ 0) (rv σ2 0) → (∀ i o l s, 1 ≤ i → o < 3 → l < 2 → s < wdo o → rv σ2 i o l s = rv σ i o l s) → P r σ2) : w_X10_text a1 a2 σ P := by
  unfold w_X10_text
  have l0 := lit_0
  have l1 := lit_1
  have l2 := lit_2
  have lm := lit_m1
  have lm2 := lit_m2
  intro σ1 e1 σ2 e2 σ3 e3 σ4 e4 σ5 e5
  have I1 : zInv zA0 zF0 3 σ1 := by rw [e1]; exact wIr I (fun h => h.elim) (by decide) kd_223 rfl rfl (full32 _)
  have I2 : zInv zA0 zF0 3 σ2 := by rw [e2]; exact wIr (a := 0) (b := 600) I1 (fun h => h.elim) (by decide) kd_223 rfl rfl (rdr I1 kd_225 rfl rfl)
  have I3 : zInv zA0 zF0 3 σ3 := by rw [e3]; exact wIr (a := 0) (b := 600) I2 (fun h => h.elim) (rl0 rk_225) kd_225 rfl rfl (by omega)
  have I4 : zInv zA0 zF0 3 σ4 := by rw [e4]; exact wI0 I3 (fun h => h.elim) rk_226 kd_226
  have I5 : zInv zA0 zF0 3 σ5 := by rw [e5]; exact wI0 I4 (fun h => h.elim) rk_227 kd_227
  have fr : ∀ k j, ¬ (k = 223 ∧ (j = 0 ∨ j = 10)) → ¬ (k = 225 ∧ j = 0) → ¬ (k = 226 ∧ j = 0) → ¬ (k = 227 ∧ j = 0) → σ5.1 k j = σ.1 k j := fun k j h1 h2 h3 h4 => by
    rw [zI_q' e5 (by omega), zI_q' e4 (by omega), zI_q' e3 (by omega), zI_q' e2 (by omega), zI_q' e1 (by omega)]
  have v6 : ti (σ5.1 226 0) = 0 := by rw [zI_q' e5 (by omega), e4, zI_s]; exact l0
  have v7 : ti (σ5.1 227 0) = -1 := by rw [e5, zI_s]; exact lm
  have v10 : ti (σ5.1 223 10) = (n : Int) := by
    rw [zI_q' e5 (by omega), zI_q' e4 (by omega), zI_q' e3 (by omega), e2, zI_s, zI_q' e1 (by omega)]; exact hn
  have hB : gB σ5 = gB σ := by funext j; exact congrArg ti (fr 224 j (by omega) (by omega) (by omega) (by omega))
  have f5 : FX (ti a1).toNat σ σ5 := fun k j h => fr k j (by omega) (by omega) (by omega) (by omega)
  have c5 : ∀ j, σ5.1 228 j = σ.1 228 j := fun j => fr 228 j (by omega) (by omega) (by omega) (by omega)
  have rv5 : ∀ i o l s, rv σ5 i o l s = rv σ i o l s := fun i o l s => rv_q (fun k j y1 y2 => fr k j (by omega) (by omega) (by omega) (by omega))
  -- refused
  have no : ∀ r, ti r = -2 → ¬ tOk (ti a1) (ti a2) (ti (σ.1 228 (ti a1).toNat)) → P r σ5 := fun r hr k => hP r σ5 ⟨fun _ => ⟨hr, v6, v7, by rw [c5]⟩, fun c => absurd c k⟩ f5 (fun o' l s _ _ _ => ⟨fun y => absurd y.1 k, fun _ => rv5 0 o' l s⟩) (fun i o l s _ _ _ _ => rv5 i o l s)
  refine b_X10_in a1 (0 : Int32) (2 : Int32) (fun r7 z7 => ?_)
  intro b7
  refine ⟨fun q => no _ lm2 (fun k => ?_), fun q7 => ?_⟩
  · have := k.1
    have := k.2.1
    exact (z7.mpr ⟨by omega, by omega⟩) q
  have hz := z7.mp q7
  have tn := tn_eq a1
  obtain ⟨s, hs⟩ : ∃ s, s = (ti a1).toNat := ⟨_, rfl⟩
  have es : a1.toNatClampNeg = s := by omega
  have ho : ti a1 = (s : Int) := by omega
  rw [es]
  rw [← hs] at hP no f5
  have dm : 0 ≤ ti (σ.1 228 s) ∧ ti (σ.1 228 s) ≤ 2 := rdg I.1 kd_228 rfl rfl
  have hQ : Qz (FN (s : Int) n (RD (s : Int) (gB σ) n 601 0 sI)) := Qz_FN (Qz_RD _ _ _ _ _ _ sI_Q)
  rw [ho] at hP no
  obtain ⟨fin, hfin⟩ : ∃ fin, fin = FN (s : Int) n (RD (s : Int) (gB σ) n 601 0 sI) := ⟨_, rfl⟩
  rw [← hfin] at hP hQ
  have rd : ∀ {Q : Int32 → zSto → Prop}, (∀ r σ10, (∀ k j, AZ k j → σ10.1 k j = σ5.1 k j) → RE (s : Int) fin r σ10 → Q r σ10) → w_X10_readText a1 σ5 Q := fun {Q} h => j_readText a1 ho (by omega) I5 hB v10 (fun r σ10 a b => h r σ10 a (by rw [hfin]; exact b))
  -- with a FAULT
  have bad : ∀ (r11 : Int32) (σ10 : zSto), tOk (s : Int) (ti a2) (ti (σ.1 228 s)) → (∀ k j, AZ k j → σ10.1 k j = σ5.1 k j) → RE (s : Int) fin r11 σ10 → r11 = 0 → P (-1 : Int32) σ10 := by
    intro r11 σ10 k az re q
    obtain ⟨_, w6, w7, wr, _⟩ := re
    have nz : fin 200 ≠ 0 := fun z => (wr.mpr z) q
    refine hP _ σ10 ⟨fun c => absurd k c, fun _ => ⟨w6, by rw [w7, if_neg nz], fun _ => ⟨lm, ?_⟩, fun c => absurd c nz⟩⟩ (fun k j h => ?_) (fun o' l t x1 x2 x3 => ?_) (fun i o l t x0 x1 x2 x3 => ?_)
    · rw [az 228 s (by unfold AZ; omega), c5]
    · rw [az k j (by unfold AZ; omega)]; exact f5 k j h
    · exact ⟨fun y => absurd y.2.1 nz, fun _ => by rw [rv_q (fun k j y1 y2 => az k j (by unfold AZ; omega))]; exact rv5 0 o' l t⟩
    · rw [rv_q (fun k j y1 y2 => az k j (by unfold AZ; omega))]; exact rv5 i o l t
  -- told
  have fin' : ∀ (k : Nat) (x v r11 : Int32) (σ10 σ14 : zSto), tOk (s : Int) (ti a2) (ti (σ.1 228 s)) → (∀ k j, AZ k j → σ10.1 k j = σ5.1 k j) → RE (s : Int) fin r11 σ10 → ¬ r11 = 0 → ti x = (k : Int) → k ≤ 1 → ti x = (if ti a2 = -1 then ti (σ.1 228 s) else ti a2) → σ14 = zI σ10 228 s v → ti v = (if ti a2 = -1 then ti (σ.1 228 s) + 1 else ti (σ.1 228 s)) → ((¬ a1 = 0 → ((¬ a1 = (1 : Int32) → (w_X10_store 231 168 (21 : Int32) x σ14 (fun (σ15 : zSto) => P x σ15))) ∧ (a1 = (1 : Int32) → (w_X10_store 230 264 (33 : Int32) x σ14 (fun (σ16 : zSto) => P x σ16))))) ∧ (a1 = 0 → (w_X10_store 229 984 (123 : Int32) x σ14 (fun (σ17 : zSto) => P x σ17)))) := by
    intro k x v r11 σ10 σ14 kk az re q hx hk hx2 e14 hv
    obtain ⟨_, w6, w7, wr, ct⟩ := re
    have z : fin 200 = 0 := wr.mp q
    have ct := ct z
    have g : ∀ c b W σ15, c = 229 + s → b = wdo s * k → W = wdo s → stR c b W σ14 σ15 → P x σ15 := by
      intro c b W σ15 hc hb hW h
      subst hc
      subst hb
      subst hW
      have sv : ∀ i o' l t, o' < 3 → l < 2 → t < wdo o' → rv σ15 i o' l t = if i = 0 ∧ o' = s ∧ l = k then ti (σ14.1 232 t) else rv σ14 i o' l t := fun i o' l t x1 x2 x3 => rv_st (by omega) (by omega) h x1 x2 x3
      have rv14 : ∀ i o' l t, rv σ14 i o' l t = rv σ i o' l t := fun i o' l t => by rw [rv_q (σ := σ10) (fun k j y1 y2 => zI_q' e14 (by omega)), rv_q (σ := σ5) (fun k j y1 y2 => az k j (by unfold AZ; omega))]; exact rv5 i o' l t
      have o15 : ∀ q j, q ≠ 229 → q ≠ 230 → q ≠ 231 → σ15.1 q j = σ14.1 q j := fun q j a1 a2 a3 => by rw [h q j, if_neg (by omega)]
      have o14 : ∀ q j, ¬ (q = 228 ∧ j = s) → σ14.1 q j = σ10.1 q j := fun q j a => zI_q' e14 (by omega)
      refine hP _ σ15 ⟨fun c => absurd kk c, fun _ => ⟨?_, ?_, fun c => absurd z c, fun _ => ⟨hx2, ?_⟩⟩⟩ (fun k j h => ?_) (fun o' l t x1 x2 x3 => ?_) (fun i o l t x0 x1 x2 x3 => ?_)
      · rw [o15 _ _ (by omega) (by omega) (by omega), o14 _ _ (by omega)]; exact w6
      · rw [o15 _ _ (by omega) (by omega) (by omega), o14 _ _ (by omega), w7, if_pos z]; exact (hQ.2 z).symm
      · rw [o15 _ _ (by omega) (by omega) (by omega), e14, zI_s]; exact hv
      · rw [o15 _ _ (by omega) (by omega) (by omega), o14 _ _ (by omega), az k j (by unfold AZ; omega)]; exact f5 k j h
      · rw [sv 0 o' l t x1 x2 x3]
        refine ⟨fun y => ?_, fun y => ?_⟩
        · have y3 := y.2.2.1
          have y4 := y.2.2.2
          rw [if_pos ⟨rfl, by omega, by omega⟩, o14 _ _ (by omega)]
          unfold fnS
          by_cases c0 : o' = 0
          · subst c0
            rw [if_pos rfl]
            exact ct.1 (by omega) t x3
          · rw [if_neg c0]
            exact ct.2 (by omega) t (wdo_33 c0 x3)
        · rw [if_neg (fun w => y ⟨kk, z, by omega, by omega⟩)]
          exact rv14 0 o' l t
      · rw [sv i o l t x1 x2 x3, if_neg (by omega)]
        exact rv14 i o l t
    refine ⟨fun qa => ⟨fun qb => ?_, fun qb => ?_⟩, fun qa => ?_⟩
    · have na := ne_t qa
      have nb := ne_t qb
      exact f_store 231 168 k 21 (by decide) _ x lit_21 (by decide) hx hk (by decide) (by omega) (fun σ15 h => g 231 (21 * k) 21 σ15 (by omega) (by rw [show s = 2 by omega]; rfl) (by rw [show s = 2 by omega]; rfl) h)
    · have nb := eq_t qb
      exact f_store 230 264 k 33 (by decide) _ x lit_33 (by decide) hx hk (by decide) (by omega) (fun σ15 h => g 230 (33 * k) 33 σ15 (by omega) (by rw [show s = 1 by omega]; rfl) (by rw [show s = 1 by omega]; rfl) h)
    · have na := eq_t qa
      exact f_store 229 984 k 123 (by decide) _ x lit_123 (by decide) hx hk (by decide) (by omega) (fun σ15 h => g 229 (123 * k) 123 σ15 (by omega) (by rw [show s = 0 by omega]; rfl) (by rw [show s = 0 by omega]; rfl) h)
  refine ⟨fun q8 => ?_, fun q8 => ⟨vin (by omega), ?_⟩⟩
  · have n8 := ne_t q8
    refine f_X10_is a1 a2 ho (by omega) (by rw [c5]; exact dm) (fun r9 z9 => ?_)
    intro b9
    rw [c5] at z9
    refine ⟨fun q9 => ?_, fun q9 => no _ lm2 (fun k => (z9.mpr (k.2.2.2 (by omega))) q9)⟩
    have y := z9.mp q9
    have k : tOk (s : Int) (ti a2) (ti (σ.1 228 s)) := ⟨by omega, by omega, fun z => by omega, fun _ => y⟩
    refine rd (fun r11 σ10 az re => ?_)
    intro b11
    have m10 : σ10.1 228 s = σ.1 228 s := by rw [az 228 s (by unfold AZ; omega), c5]
    refine ⟨fun q11 => ⟨fun _ => ⟨vin (by omega), fun _ => ⟨vin (by omega), fun σ14 e14 => ?_⟩, fun qq => absurd qq q8⟩, fun qq => absurd qq q8⟩, fun q11 => bad r11 σ10 k az re q11⟩
    refine fin' (ti a2).toNat a2 _ r11 σ10 σ14 k az re q11 (by omega) (by omega) (by rw [if_neg (by omega)]) e14 ?_
    rw [m10, if_neg (by omega), tadd (by omega)]
    omega
  · have n8 := eq_t q8
    rw [c5]
    refine ⟨fun q9 => ?_, fun q9 => no _ lm2 (fun k => ?_)⟩
    · have y := ne_t q9
      have k : tOk (s : Int) (ti a2) (ti (σ.1 228 s)) := ⟨by omega, by omega, fun z => by omega, fun z => by omega⟩
      refine rd (fun r11 σ10 az re => ?_)
      intro b11
      have m10 : σ10.1 228 s = σ.1 228 s := by rw [az 228 s (by unfold AZ; omega), c5]
      refine ⟨fun q11 => ⟨fun qq => absurd q8 qq, fun _ => ⟨vin (by omega), fun x24 e24 => ⟨vin (by omega), fun qq => absurd q8 qq, fun _ => ⟨vin (by omega), fun σ14 e14 => ?_⟩⟩⟩⟩, fun q11 => bad r11 σ10 k az re q11⟩
      have t24 := eq_t e24
      rw [m10] at t24
      refine fin' (ti (σ.1 228 s)).toNat x24 _ r11 σ10 σ14 k az re q11 (by omega) (by omega) (by rw [if_pos (by omega)]; exact t24) e14 ?_
      rw [m10, if_pos (by omega), tadd (by omega)]
      omega
    · have y := eq_t q9
      have := k.2.2.1 (by omega)
      omega
