/-! most, weeks, lots on both sides -/
def exW (σ : zSto) (a1 a2 : Int32) : Prop := 0 ≤ ti a1 ∧ ti a1 < ti (σ.1 42 0) ∧ 0 ≤ ti a2 ∧ ti a2 ≤ 9
theorem exW_eq1 {σ σ1 : zSto} (h : ∀ k j, k ≠ 223 → (k < 171 ∨ 223 ≤ k) → σ1.1 k j = σ.1 k j) {a1 a2 : Int32} : exW σ1 a1 a2 ↔ exW σ a1 a2 := by
  unfold exW
  rw [h 42 0 (by omega) (by omega)]
theorem f_handX {σ : zSto} (H : Lz σ) (a1 a2 : Int32) {P : Int32 → zSto → Prop} (h0 : ¬ exW σ a1 a2 → P 0 σ) (hP : exW σ a1 a2 → ∀ (l N R : Nat) (G : Nat → Int32), ti a1 = (l : Int) → tlL σ l N R G → ∀ σ2, FrL σ σ2 → RfX l R N G (csI G) (fun p => pdI G p a2) σ2 → P 1 σ2) : w_X10_hand a1 a2 σ P := by
  have m0 := many0 H.2.1 (o := 0) (by omega)
  refine f_X10_hand a1 a2 H.1 (fun z => h0 (fun e => z ⟨e.1, by have := e.2.1; omega, e.2.2.1, e.2.2.2⟩)) (fun l N hl hl2 hc hw hN hN1 hN16 σ2 hd => ?_)
  have ex : exW σ a1 a2 := ⟨by omega, by omega, hw.1, hw.2⟩
  obtain ⟨N', R, G, tl⟩ := tlL_of H hl2 (by omega)
  obtain ⟨_, _, t3, t4, t5, t6, t7, t8, t9⟩ := id tl
  have eN : N' = N := by
    rw [t3 0] at t4
    have t4' : ti (σ.1 229 (123 * l)) = (N' : Int) := t4
    omega
  subst eN
  obtain ⟨d1, d2, d3, d4, d5, d6, d7⟩ := hd
  have eG : (fun s => σ.1 229 (123 * l + s)) = G := funext (fun s => (t3 s).symm)
  rw [eG] at d6 d7
  exact hP ex l N' R G hl tl σ2 (fun k j x => d1 k j (by omega) (by omega) (by omega) (by omega)) ⟨d3, hl2, d4, d5, by rw [d6]; exact t5, hN1, hN16, t8, fun s _ => by rw [d1 229 _ (by omega) (by omega) (by omega) (by omega), t3 s], fun p hp => ⟨(d7 p hp).2.2, (d7 p hp).2.1, (d7 p hp).1⟩⟩
theorem f_goE {l R N : Nat} {G cs pd : Nat → Int32} {σ : zSto} (X : RfX l R N G cs pd σ) (a1 a2 : Int32) (hlaw : -1 ≤ ti a1 ∧ ti a1 ≤ 3) {P : zSto → Prop} (hP : ∀ σ2, RfX l R N G cs pd σ2 → RnS (rnF a1 R (fun _ => true) cs pd (rdG G) a2 (N - 1)) N G cs σ2 → P σ2) : w_X10_everyone σ (fun (r5 : Int32) (σ4 : zSto) => w_X10_go a1 a2 r5 σ4 P) := by
  have e26 : σ.1 223 26 = Int32.ofNat R := t_inj (by rw [X.2.2.2.2.1]; exact (nI_t (by have := X.2.2.2.2.2.2.2.1; omega)).symm)
  unfold w_X10_everyone
  exact f_X10_go (so := fun _ => true) X a1 a2 _ hlaw (fun r hr => by rw [e26]; exact (bt_ev R (by have := X.2.2.2.2.2.2.2.1; omega) r hr).symm) (fun σ3 f3 h3 => hP σ3 (FrG_X X f3) h3)
/-- the answer of most: of those laws the first with the most -/
def moW (late : Int32) (f : Nat → Nat → Int32) : Nat → Int32 := fun k => if late = 0 then f k 3 else -(f k 0)
set_option maxHeartbeats 8000000 in
theorem al_most {σ : zSto} (H : Lz σ) (a1 a2 a3 a4 : Int32) : ∃ A : Int32, w_X9_most a1 a2 a3 a4 σ (fun r _ => r = A) ∧ ∀ σa, SmR σ σa → w_X10_most a1 a2 a3 a4 σa (fun r _ => r = A) := by
  have l0 := lit_0
  have l1 := lit_1
  have l4 := lit_4
  have lm := lit_m1
  have d : 0 ≤ ti (σ.1 42 0) ∧ ti (σ.1 42 0) ≤ 2 := rdg H.1.1 kd_42 rfl rfl
  by_cases ex : exW σ a1 a3
  · obtain ⟨l, hl⟩ : ∃ l : Nat, ti a1 = (l : Int) := ⟨(ti a1).toNat, by have := ex.1; omega⟩
    obtain ⟨N, R, G, tl⟩ := tlL_of H (l := l) (by have := ex.2.1; omega) (by have := ex.2.1; omega)
    obtain ⟨t1, t2, t3, t4, t5, t6, t7, t8, t9⟩ := id tl
    obtain ⟨F, hF⟩ : ∃ F : Nat → Nat → Int32, F = fun k => rnA (Int32.ofNat k) R (fun _ => true) G a3 a2 N := ⟨_, rfl⟩
    obtain ⟨w, hw⟩ : ∃ w, w = moW a4 F := ⟨_, rfl⟩
    have wv : ∀ k, w k = if a4 = 0 then F k 3 else -(F k 0) := fun k => by rw [hw]; rfl
    refine ⟨drF (fun _ => true) w 4, ?_, ?_⟩
    · unfold w_X9_most
      refine f_X8_lineAt a1 H.1 (fun z => absurd ⟨ex.1, ex.2.1⟩ z) (fun l' hl' hl2 hc => ⟨fun z => (by cases z), fun j3 e3 => ?_⟩)
      have e3' := Option.some.inj e3
      subst e3'
      have el : l' = l := by omega
      subst el
      refine ⟨isT_L (isN_T (by unfold isN; omega)), f_X9_isWeek a3 (fun r5 z5 => fun _ => ⟨fun q5 => ?_, fun q5 => absurd q5 (z5.mpr ⟨ex.2.2.1, ex.2.2.2⟩)⟩)⟩
      have go : ∀ (n i : Nat) (x_6 x_7 x_8 : Int32) (σ2 : zSto), LnR (4 + 12 * l') G σ2 → ti x_8 = (i : Int) → i ≤ 4 → x_6 = drF (fun _ => true) w i → x_7 = (if x_6 = -1 then 0 else w x_6.toNatClampNeg) → 4 - i < n → w_X9_most_33 a2 a3 a4 (4 + 12 * l') (fun r _ => r = drF (fun _ => true) w 4) n x_6 x_7 x_8 σ2 := by
        intro n
        induction n with
        | zero => intro i x_6 x_7 x_8 σ2 _ _ _ _ _ h; omega
        | succ n ih =>
          intro i x_6 x_7 x_8 σ2 L2 hi hi4 h6 h7 hn
          unfold w_X9_most_33
          refine ⟨fun q => ?_, fun q => ?_⟩
          · have c := le_t q
            have e : i = 4 := by omega
            subst e
            exact h6
          · have c := nle_t q
            have tx := tadd (x := x_8) (y := (1 : Int32)) (by omega)
            have e8 := nI_x hi (by omega)
            refine f_X5_byLaw (so := fun _ => true) (okT_l hl2) L2 t4 t6 t7 t5 t8 x_8 a2 a3 (-1 : Int32) (by omega) (fun r hr => (bt_m1 (by omega)).symm) (fun σ6 f6 T6 => ?_)
            have eF : rnF x_8 R (fun _ => true) (csI G) (fun p => pdI G p a3) (rdG G) a2 (N - 1) = F i := by rw [hF, e8]; rfl
            rw [eF] at T6
            have L6 := LnR_C (okT_l hl2) L2 f6
            have stepA : ∀ (v x8 : Int32), v = w i → (x_6 = -1 ∨ ¬ v ≤ x_7) → x8 = x_8 + (1 : Int32) → w_X9_most_33 a2 a3 a4 (4 + 12 * l') (fun r _ => r = drF (fun _ => true) w 4) n x_8 v x8 σ6 := fun v x8 ev k ex8 => by
              have f8 := eq_t ex8
              refine ih (i + 1) x_8 v x8 σ6 L6 (by omega) (by omega) ?_ ?_ (by omega)
              · rw [drF_1, if_pos, e8]
                refine ⟨rfl, ?_⟩
                rcases k with k | k
                · exact Or.inl (by rw [← h6]; exact k)
                · by_cases k2 : x_6 = -1
                  · exact Or.inl (by rw [← h6]; exact k2)
                  · rw [if_neg k2] at h7
                    exact Or.inr (by rw [← h6, ← h7, ← ev]; exact k)
              · rw [if_neg (by rw [e8]; exact ofNat_ne (by omega)), ev, e8, ofNat_c (by omega)]
            have stepB : ∀ (v x8 : Int32), v = w i → ¬ x_6 = -1 → v ≤ x_7 → x8 = x_8 + (1 : Int32) → w_X9_most_33 a2 a3 a4 (4 + 12 * l') (fun r _ => r = drF (fun _ => true) w 4) n x_6 x_7 x8 σ6 := fun v x8 ev k le ex8 => by
              have f8 := eq_t ex8
              refine ih (i + 1) x_6 x_7 x8 σ6 L6 (by omega) (by omega) ?_ h7 (by omega)
              rw [if_neg k] at h7
              rw [drF_1, if_neg]
              · exact h6
              · rintro ⟨_, y | y⟩
                · exact k (h6.trans y)
                · rw [← h6, ← h7, ← ev] at y
                  exact y le
            refine ⟨fun k => fun x7 e7 => ?_, fun k => fun x7 e7 => ?_⟩
            · have ev : x7 = w i := by rw [e7, wv, if_pos k]; exact T6.2.2.2.1
              exact ⟨fun m x8 ex8 => stepA x7 x8 ev (Or.inl m) ex8, fun m => ⟨fun le x8 ex8 => stepB x7 x8 ev m le ex8, fun le x8 ex8 => stepA x7 x8 ev (Or.inr le) ex8⟩⟩
            · have ev : x7 = w i := by rw [e7, wv, if_neg k, T6.1]
              exact ⟨fun m x8 ex8 => stepA x7 x8 ev (Or.inl m) ex8, fun m => ⟨fun le x8 ex8 => stepB x7 x8 ev m le ex8, fun le x8 ex8 => stepA x7 x8 ev (Or.inr le) ex8⟩⟩
      exact ⟨10, go 10 0 (-1 : Int32) (0 : Int32) (0 : Int32) σ t9 lit_0 (by omega) rfl (by rw [if_pos rfl]) (by omega)⟩
    · intro σa sm
      unfold w_X10_most
      intro σ1 e1
      obtain ⟨H1, u1⟩ := SmR_223 sm e1
      refine f_handX H1 a1 a3 (fun z => absurd ((exW_eq1 u1).mpr ex) z) (fun _ l' N' R' G' hl' tl' σ2 f2 X2 => fun _ => ⟨fun _ => ?_, fun c => absurd c (by decide)⟩)
      have el : l' = l := by omega
      subst el
      obtain ⟨eN, eR, eG⟩ := tlL_eq tl tl' (fun j => u1 229 j (by omega) (by omega))
      subst eN
      subst eR
      subst eG
      have go : ∀ (n i : Nat) (x_5 x_6 x_7 : Int32) (σ3 : zSto), RfX l' R' N' G' (csI G') (fun p => pdI G' p a3) σ3 → ti x_7 = (i : Int) → i ≤ 4 → x_5 = drF (fun _ => true) w i → x_6 = (if x_5 = -1 then 0 else w x_5.toNatClampNeg) → 4 - i < n → w_X10_most_25 a2 a4 (fun r _ => r = drF (fun _ => true) w 4) n x_5 x_6 x_7 σ3 := by
        intro n
        induction n with
        | zero => intro i x_5 x_6 x_7 σ3 _ _ _ _ _ h; omega
        | succ n ih =>
          intro i x_5 x_6 x_7 σ3 X3 hi hi4 h5 h6 hn
          unfold w_X10_most_25
          refine ⟨fun q => ?_, fun q => ?_⟩
          · have c := le_t q
            have e : i = 4 := by omega
            subst e
            exact h5
          · have c := nle_t q
            have tx := tadd (x := x_7) (y := (1 : Int32)) (by omega)
            have e7 := nI_x hi (by omega)
            refine f_goE X3 x_7 a2 (by omega) (fun σ6 X6 T6 => ?_)
            have eF : rnF x_7 R' (fun _ => true) (csI G') (fun p => pdI G' p a3) (rdG G') a2 (N' - 1) = F i := by rw [hF, e7]; rfl
            rw [eF] at T6
            have gt : smT (fun r => F i (10 + r)) R' = F i 3 := by rw [hF]; exact gth t8 (N' - 1)
            have lt5 : ¬ x_5 = -1 → ¬ x_5 = x_7 := fun k z => by
              rcases drF_sp (fun _ => true) w i (by omega) with y | ⟨r0, a, b, _⟩
              · exact k (h5.trans y)
              · have y := eq_t z
                rw [h5, b, show ti (Int32.ofNat r0) = (r0 : Int) from nI_t (by omega)] at y
                omega
            have stepA : ∀ (v x8 : Int32), v = w i → (x_5 = -1 ∨ ¬ v ≤ x_6) → x8 = x_7 + (1 : Int32) → w_X10_most_25 a2 a4 (fun r _ => r = drF (fun _ => true) w 4) n x_7 v x8 σ6 := fun v x8 ev k ex8 => by
              have f8 := eq_t ex8
              refine ih (i + 1) x_7 v x8 σ6 X6 (by omega) (by omega) ?_ ?_ (by omega)
              · rw [drF_1, if_pos, e7]
                refine ⟨rfl, ?_⟩
                rcases k with k | k
                · exact Or.inl (by rw [← h5]; exact k)
                · by_cases k2 : x_5 = -1
                  · exact Or.inl (by rw [← h5]; exact k2)
                  · rw [if_neg k2] at h6
                    exact Or.inr (by rw [← h5, ← h6, ← ev]; exact k)
              · rw [if_neg (by rw [e7]; exact ofNat_ne (by omega)), ev, e7, ofNat_c (by omega)]
            have stepB : ∀ (v x8 : Int32), v = w i → ¬ x_5 = -1 → v ≤ x_6 → x8 = x_7 + (1 : Int32) → w_X10_most_25 a2 a4 (fun r _ => r = drF (fun _ => true) w 4) n x_5 x_6 x8 σ6 := fun v x8 ev k le ex8 => by
              have f8 := eq_t ex8
              refine ih (i + 1) x_5 x_6 x8 σ6 X6 (by omega) (by omega) ?_ h6 (by omega)
              rw [if_neg k] at h6
              rw [drF_1, if_neg]
              · exact h5
              · rintro ⟨_, y | y⟩
                · exact k (h5.trans y)
                · rw [← h5, ← h6, ← ev] at y
                  exact y le
            refine ⟨fun k => ?_, fun k => fun x15 e15 => ?_⟩
            · refine f_X10_gathered X6 (fun r hr => (T6.1.2.2.2.1 r hr).1) ?_
              have ev : smT (fun r => F i (10 + r)) R' = w i := by rw [gt, wv, if_pos k]
              exact ⟨fun m => ⟨fun c => absurd rfl c, fun _ x8 ex8 => stepA _ x8 ev (Or.inl m) ex8⟩, fun m => ⟨fun le => ⟨fun _ x8 ex8 => stepB _ x8 ev m le ex8, fun z => absurd z (lt5 m)⟩, fun le => ⟨fun c => absurd rfl c, fun _ x8 ex8 => stepA _ x8 ev (Or.inr le) ex8⟩⟩⟩
            · have ev : x15 = w i := by rw [e15, wv, if_neg k, T6.1.1]
              exact ⟨fun m => ⟨fun c => absurd rfl c, fun _ x8 ex8 => stepA _ x8 ev (Or.inl m) ex8⟩, fun m => ⟨fun le => ⟨fun _ x8 ex8 => stepB _ x8 ev m le ex8, fun z => absurd z (lt5 m)⟩, fun le => ⟨fun c => absurd rfl c, fun _ x8 ex8 => stepA _ x8 ev (Or.inr le) ex8⟩⟩⟩
      exact ⟨10, go 10 0 (-1 : Int32) (0 : Int32) (0 : Int32) σ2 X2 lit_0 (by omega) rfl (by rw [if_pos rfl]) (by omega)⟩
  · refine ⟨-1, ?_, ?_⟩
    · unfold w_X9_most
      refine f_X8_lineAt a1 H.1 (fun _ => ⟨fun _ => rfl, fun j3 e3 => (by cases e3)⟩) (fun l' hl' hl2 hc => ⟨fun z => (by cases z), fun j3 e3 => ?_⟩)
      have e3' := Option.some.inj e3
      subst e3'
      exact ⟨isT_L (isN_T (by unfold isN; omega)), f_X9_isWeek a3 (fun r5 z5 => fun _ => ⟨fun q5 => absurd ⟨by omega, by omega, (z5.mp q5).1, (z5.mp q5).2⟩ ex, fun _ => rfl⟩)⟩
    · intro σa sm
      unfold w_X10_most
      intro σ1 e1
      obtain ⟨H1, u1⟩ := SmR_223 sm e1
      exact f_handX H1 a1 a3 (fun _ => fun _ => ⟨fun c => absurd rfl c, fun _ => rfl⟩) (fun e => absurd ((exW_eq1 u1).mp e) ex)
