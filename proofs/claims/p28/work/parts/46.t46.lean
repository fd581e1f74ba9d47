theorem mx_2 {a b c : Int} (h : b + 1 ≤ c) : mxI (mxI a b) c = mxI a c := by
  unfold mxI
  by_cases x : a < b
  · rw [if_pos x, if_pos (by omega), if_pos (by omega)]
  · rw [if_neg x]
theorem f_X10_riderLine {B : Nat → Int} {n q : Nat} {st : Nat → Int} {w : Int} {σ : zSto} (C : RC B n 0 (ful st 1 6 w) (q : Int) (st 202) σ) (T : TKs B n q σ) {P : Int32 → zSto → Prop} (W : RW B n 0 6 q (apR st (vlN B n q) (plN B n q) w) P) : w_X10_riderLine σ P := by
  have l0 := lit_0
  have l1 := lit_1
  have l2 := lit_2
  have l3 := lit_3
  have l4 := lit_4
  have l5 := lit_5
  have l6 := lit_6
  have l9 := lit_9
  have l30 := lit_30
  have l60 := lit_60
  have l87 := lit_87
  have l200 := lit_200
  have g := fun p => tkF_ge B n p
  unfold w_X10_riderLine
  refine f_takePost C T (by have := g q; omega) _ _ (k := 0) l0 (by omega) l0 W (fun σ2 h _ => ⟨fun _ => h, fun c => absurd rfl c⟩) (fun σ1 W1 C1 T1 v1 u1 => fun _ => ⟨fun c => absurd c (by decide), fun _ => ?_⟩)
  have d1 := tkV_233 C1.1 0
  refine f_takePost C1 T1 (by have := g (tkE B n q); omega) _ _ (k := 1) (l := tkV B n q + 1) l1 (by omega) (by rw [tadd (by omega), v1, l1]) W1 (fun σ2 h _ => ⟨fun _ => h, fun c => absurd rfl c⟩) (fun σ2 W2 C2 T2 v2 u2 => fun _ => ⟨fun c => absurd c (by decide), fun _ => ?_⟩)
  refine f_take C2 T2 (by have := g (tkE B n (tkE B n q)); omega) _ _ _ (k := 2) l2 (by omega) l1 l60 W2 (fun σ2 h _ => ⟨fun _ => h, fun c => absurd rfl c⟩) (fun σ3 W3 C3 T3 v3 u3 => fun _ => ⟨fun c => absurd c (by decide), fun _ => ?_⟩)
  refine f_take C3 T3 (by have := g (tkE B n (tkE B n (tkE B n q))); omega) _ _ _ (k := 3) l3 (by omega) l1 l30 W3 (fun σ2 h _ => ⟨fun _ => h, fun c => absurd rfl c⟩) (fun σ4 W4 C4 T4 v4 u4 => fun _ => ⟨fun c => absurd c (by decide), fun _ => ?_⟩)
  refine f_take C4 T4 (by have := g (tkE B n (tkE B n (tkE B n (tkE B n q)))); omega) _ _ _ (k := 4) l4 (by omega) l0 l200 W4 (fun σ2 h _ => ⟨fun _ => h, fun c => absurd rfl c⟩) (fun σ5 W5 C5 T5 v5 u5 => fun _ => ⟨fun c => absurd c (by decide), fun _ => ?_⟩)
  refine f_take C5 T5 (by have := g (tkE B n (tkE B n (tkE B n (tkE B n (tkE B n q))))); omega) _ _ _ (k := 5) l5 (by omega) l0 l9 W5 (fun σ2 h _ => ⟨fun c => absurd rfl c, fun _ => h⟩) (fun σ6 W6 C6 T6 v6 u6 => fun _ => ⟨fun _ => ?_, fun c => absurd c (by decide)⟩)
  have hk0 := C6.2.2.2.2.2.2.2.1 rfl
  have hr := (C6.2.2.2.2.2.2.1.1 rfl).1 1 (by omega) (by omega)
  have e0 : ∀ s, s < 123 → (chk (chk (chk (chk (chk (chk (ful st 1 6 w) (tkV B n q) (tkF B n q : Nat) 0 15) (tkV B n (tkE B n q)) (tkF B n (tkE B n q) : Nat) (tkV B n q + 1) 15) (tkV B n (tkE B n (tkE B n q))) (tkF B n (tkE B n (tkE B n q)) : Nat) 1 60) (tkV B n (tkE B n (tkE B n (tkE B n q)))) (tkF B n (tkE B n (tkE B n (tkE B n q))) : Nat) 1 30) (tkV B n (tkE B n (tkE B n (tkE B n (tkE B n q))))) (tkF B n (tkE B n (tkE B n (tkE B n (tkE B n q)))) : Nat) 0 200) (tkV B n (tkE B n (tkE B n (tkE B n (tkE B n (tkE B n q)))))) (tkF B n (tkE B n (tkE B n (tkE B n (tkE B n (tkE B n q))))) : Nat) 0 9) s = st s := fun s hs => by
    rw [chk_s (by omega), chk_s (by omega), chk_s (by omega), chk_s (by omega), chk_s (by omega), chk_s (by omega)]
    unfold ful
    split
    · exact nte_s (by omega)
    · rfl
  have ez := e0 1 (by omega)
  have ez0 := e0 0 (by omega)
  rw [ez, ez0] at hk0
  rw [ez] at hr
  refine f_keep2 1 87 6 6 6 _ _ _ _ _ l1 l87 l6 l6 l6 (by omega) (by omega) (by omega) ⟨by omega, by omega⟩ (by omega) (by omega) (by omega) (fun c => RW_0 W6 σ6 ?_ T6) (fun k hk hk2 σ7 e7 => RW_0 W6 σ7 ?_ (TKs_w T6 (kp_fr e7)))
  · have c2 : st 1 = 6 := by omega
    have ef : ful st 1 6 w = nte st 3 w := if_pos c2
    have ea : apR st (vlN B n q) (plN B n q) w = nte st 3 w := if_neg (by omega)
    have nz : nte st 3 w 200 ≠ 0 := nte_200 (by decide)
    rw [ef, chk_nz nz, chk_nz nz, chk_nz nz, chk_nz nz, chk_nz nz, chk_nz nz] at C6
    rw [ea]
    exact RC_w C6 (fun _ _ _ _ _ => rfl) rfl rfl (fun z => absurd z nz) C6.2.2.2.2.2.2.1 C6.2.2.2.2.2.2.2
  · have ef : ful st 1 6 w = st := if_neg (by omega)
    rw [ef] at C6 e0
    have hk3 : st 1 = (k : Int) := by omega
    have ea : apR st (vlN B n q) (plN B n q) w = up (up (up (up (up (up (up (up (chk (chk (chk (chk (chk (chk st (tkV B n q) (tkF B n q : Nat) 0 15) (tkV B n (tkE B n q)) (tkF B n (tkE B n q) : Nat) (tkV B n q + 1) 15) (tkV B n (tkE B n (tkE B n q))) (tkF B n (tkE B n (tkE B n q)) : Nat) 1 60) (tkV B n (tkE B n (tkE B n (tkE B n q)))) (tkF B n (tkE B n (tkE B n (tkE B n q))) : Nat) 1 30) (tkV B n (tkE B n (tkE B n (tkE B n (tkE B n q))))) (tkF B n (tkE B n (tkE B n (tkE B n (tkE B n q)))) : Nat) 0 200) (tkV B n (tkE B n (tkE B n (tkE B n (tkE B n (tkE B n q)))))) (tkF B n (tkE B n (tkE B n (tkE B n (tkE B n (tkE B n q))))) : Nat) 0 9) (87 + 6 * k + 0) (tkV B n q)) (87 + 6 * k + 1) (tkV B n (tkE B n q))) 202 (mxI (st 202) (tkV B n (tkE B n q)))) (87 + 6 * k + 2) (tkV B n (tkE B n (tkE B n q)))) (87 + 6 * k + 3) (tkV B n (tkE B n (tkE B n (tkE B n q))))) (87 + 6 * k + 4) (tkV B n (tkE B n (tkE B n (tkE B n (tkE B n q)))))) (87 + 6 * k + 5) (tkV B n (tkE B n (tkE B n (tkE B n (tkE B n (tkE B n q))))))) 1 (st 1 + 1) := by
      unfold apR
      rw [if_pos (by omega), hk3, Int.toNat_natCast]
      rfl
    rw [ea]
    have u8 : ∀ {f : Nat → Int} {a b c d e i m l : Nat} {x1 x2 x3 x4 x5 x6 x7 x8 : Int} {j : Nat}, j ≠ a → j ≠ b → j ≠ c → j ≠ d → j ≠ e → j ≠ i → j ≠ m → j ≠ l → up (up (up (up (up (up (up (up f a x1) b x2) c x3) d x4) e x5) i x6) m x7) l x8 j = f j := fun h1 h2 h3 h4 h5 h6 h7 h8 => by rw [up_q h8, up_q h7, up_q h6, up_q h5, up_q h4, up_q h3, up_q h2, up_q h1]
    refine RC_w C6 (kp_fr e7) (u8 (by omega) (by omega) (by omega) (by omega) (by omega) (by omega) (by omega) (by omega)) (u8 (by omega) (by omega) (by omega) (by omega) (by omega) (by omega) (by omega) (by omega)) (fun z => ?_) (RR_keep (c := 1) (base := 87 + 6 * k) (N := 6) (v := vlN B n q) C6.2.2.2.2.2.2.1 (fun s hs => ?_) e7 (fun i hi => ?_) (by omega) (by omega) (by rw [e0 1 (by omega)]; omega) (fun i hi => by omega)) ?_
    · rw [up_q (by omega), up_q (by omega), up_q (by omega), up_q (by omega), up_q (by omega), up_s]
      have c := (chk_0 (chk_0 (chk_0 (chk_0 (chk_0 z).1).1).1).1).2
      exact mx_2 c.1
    · unfold wr
      by_cases c0 : s = 1
      · rw [c0, up_s, if_pos rfl, e0 1 (by omega)]
      · rw [up_q c0, if_neg c0]
        by_cases c2 : 87 + 6 * k ≤ s ∧ s < 87 + 6 * k + 6
        · rw [if_pos c2]
          rcases (show s = 87 + 6 * k + 0 ∨ s = 87 + 6 * k + 1 ∨ s = 87 + 6 * k + 2 ∨ s = 87 + 6 * k + 3 ∨ s = 87 + 6 * k + 4 ∨ s = 87 + 6 * k + 5 by omega) with r | r | r | r | r | r
          · rw [r, up_q (by omega), up_q (by omega), up_q (by omega), up_q (by omega), up_q (by omega), up_q (by omega), up_s, show 87 + 6 * k + 0 - (87 + 6 * k) = 0 by omega]; rfl
          · rw [r, up_q (by omega), up_q (by omega), up_q (by omega), up_q (by omega), up_q (by omega), up_s, show 87 + 6 * k + 1 - (87 + 6 * k) = 1 by omega]; rfl
          · rw [r, up_q (by omega), up_q (by omega), up_q (by omega), up_s, show 87 + 6 * k + 2 - (87 + 6 * k) = 2 by omega]; rfl
          · rw [r, up_q (by omega), up_q (by omega), up_s, show 87 + 6 * k + 3 - (87 + 6 * k) = 3 by omega]; rfl
          · rw [r, up_q (by omega), up_s, show 87 + 6 * k + 4 - (87 + 6 * k) = 4 by omega]; rfl
          · rw [r, up_s, show 87 + 6 * k + 5 - (87 + 6 * k) = 5 by omega]; rfl
        · rw [if_neg c2, up_q (by omega), up_q (by omega), up_q (by omega), up_q (by omega), up_q (by omega), up_q (by omega), up_q (by omega)]
    · rcases (show i = 0 ∨ i = 1 ∨ i = 2 ∨ i = 3 ∨ i = 4 ∨ i = 5 by omega) with r | r | r | r | r | r <;> subst r
      · rw [u6 0 (by omega), u5 0 (by omega), u4 0 (by omega), u3 0 (by omega), u2 0 (by omega)]; exact v1
      · rw [u6 1 (by omega), u5 1 (by omega), u4 1 (by omega), u3 1 (by omega)]; exact v2
      · rw [u6 2 (by omega), u5 2 (by omega), u4 2 (by omega)]; exact v3
      · rw [u6 3 (by omega), u5 3 (by omega)]; exact v4
      · rw [u6 4 (by omega)]; exact v5
      · exact v6
    · refine ⟨fun _ => ?_, fun z => absurd z (by decide), fun z => absurd z (by decide)⟩
      have e00 := e0 0 (by omega)
      rw [up_s, u8 (by omega) (by omega) (by omega) (by omega) (by omega) (by omega) (by omega) (by omega), e00]
      omega
/-- a word with ONE NUMBER -/
theorem f_plainR {B : Nat → Int} {n q s : Nat} (hs : 2 ≤ s ∧ s < 7) {l h : Int} {st : Nat → Int} {σ : zSto} (C : RC B n 0 st (q : Int) (st 202) σ) (T : TKs B n q σ) (a2 a3 r2 : Int32) (h2 : ti a2 = l) (h3 : ti a3 = h) (hr2 : ti r2 = (s : Int)) {P : Int32 → zSto → Prop} (W : RW B n 0 1 q (apW s l h st (vlN B n q) (plN B n q)) P) : w_X10_take (0 : Int32) a2 a3 σ (fun (r5 : Int32) (σ4 : zSto) => (r5 = 0 ∨ r5 = 1) → ((¬ r5 = 0 → (vp_in r2 123 ∧ (∀ σ7 : zSto, σ7 = zI σ4 232 (r2).toNatClampNeg (σ4.1 233 0) → P (1 : Int32) σ7))) ∧ (r5 = 0 → P (0 : Int32) σ4))) := by
  have l0 := lit_0
  have g := fun p => tkF_ge B n p
  refine f_take C T (by have := g q; omega) _ _ _ (k := 0) l0 (by omega) h2 h3 W (fun σ2 h _ => ⟨fun c => absurd rfl c, fun _ => h⟩) (fun σ1 W1 C1 T1 v1 u1 => fun _ => ⟨fun _ => ⟨vin (by omega), fun σ7 e7 => ?_⟩, fun c => absurd c (by decide)⟩)
  have tn := tn_eq r2
  rw [show r2.toNatClampNeg = s by omega] at e7
  have fr : ∀ q j, q ≠ 232 → q ≠ 234 → q ≠ 235 → σ7.1 q j = σ1.1 q j := fun q j a _ _ => zI_q' e7 (Or.inl a)
  have R1 := C1.2.2.2.2.2.2.1.1 rfl
  refine RW_0 W1 σ7 ?_ (TKs_w T1 fr)
  show RC B n 0 (up (chk st (tkV B n q) (tkF B n q : Nat) l h) s (tkV B n q)) _ _ _
  refine RC_w C1 fr (up_q (by omega)) (up_q (by omega)) (fun _ => ?_) ⟨fun _ => ⟨fun j a b => ?_, fun p a => ?_⟩, fun z => absurd rfl z⟩ (RB_3 C1.2.2.2.2.2.2.2 (up_q (by omega)) (up_q (by omega)) (up_q (by omega)))
  · show st 202 = up (chk st (tkV B n q) (tkF B n q : Nat) l h) s (tkV B n q) 202
    rw [up_q (by omega), chk_q (by omega) (by omega)]
  · by_cases c : j = s
    · rw [c, up_s, e7, zI_s]; exact v1
    · rw [up_q c, zI_q' e7 (by omega)]; exact R1.1 j a b
  · rw [up_q (by omega), up_q (by omega), zI_q' e7 (by omega), zI_q' e7 (by omega)]
    exact R1.2 p a
