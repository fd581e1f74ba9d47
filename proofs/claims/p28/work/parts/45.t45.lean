theorem RB_3 {o : Int} {st st' : Nat → Int} (h : RB o st) (h0 : st' 0 = st 0) (h1 : st' 1 = st 1) (h3 : st' 300 = st 300) : RB o st' := by
  unfold RB
  rw [h0, h1, h3]
  exact h
theorem tkV_233 {σ : zSto} (I : zRg σ) (j : Nat) : 0 ≤ ti (σ.1 233 j) ∧ ti (σ.1 233 j) ≤ 999 := rdg I kd_233 rfl rfl
theorem f_X10_ofPost {B : Nat → Int} {n q r : Nat} {h : Int} {st : Nat → Int} {σ : zSto} (a1 : Int32) (hr : (a1 = 0 ∧ r = 4 ∧ h = 999) ∨ (¬ a1 = 0 ∧ r = 3 ∧ h = 10)) (C : RC B n 0 st (q : Int) (st 202) σ) (T : TKs B n q σ) {P : Int32 → zSto → Prop} (W : RW B n 0 2 q (apO r h st (vlN B n q) (plN B n q)) P) : w_X10_ofPost a1 σ P := by
  have l0 := lit_0
  have l1 := lit_1
  have l10 := lit_10
  have l16 := lit_16
  have l999 := lit_999
  have g := fun p => tkF_ge B n p
  unfold w_X10_ofPost
  refine f_takePost C T (by have := g q; omega) _ _ (k := 0) l0 (by omega) l0 W (fun σ2 h _ => ⟨fun _ => h, fun c => absurd rfl c⟩) (fun σ1 W1 C1 T1 v1 u1 => fun _ => ⟨fun c => absurd c (by decide), fun _ => ?_⟩)
  -- what is written behind
  have key : ∀ σ3, RW B n 0 0 (tkE B n (tkE B n q)) (apO r h st (vlN B n q) (plN B n q)) P → RC B n 0 (chk (chk st (tkV B n q) (tkF B n q : Nat) 0 15) (tkV B n (tkE B n q)) (tkF B n (tkE B n q) : Nat) 0 h) (tkE B n (tkE B n q) : Nat) (mxI (st 202) (tkV B n q)) σ3 → TKs B n (tkE B n (tkE B n q)) σ3 → ti (σ3.1 233 0) = tkV B n q → ti (σ3.1 233 1) = tkV B n (tkE B n q) → ((16 : Int32) ≤ σ3.1 233 0 → P (1 : Int32) σ3) ∧ (¬ (16 : Int32) ≤ σ3.1 233 0 → vp_in (σ3.1 233 0) 16 ∧ ∀ σ6, (r = 4 → σ6 = zI σ3 235 (σ3.1 233 0).toNatClampNeg (σ3.1 233 1)) → (r = 3 → σ6 = zI σ3 234 (σ3.1 233 0).toNatClampNeg (σ3.1 233 1)) → P (1 : Int32) σ6) := by
    intro σ3 W3 C3 T3 v3 v4
    have d := tkV_233 C3.1 0
    have ev0 : vlN B n q 0 = tkV B n q := rfl
    refine ⟨fun c => RW_0 W3 σ3 ?_ T3, fun c => ⟨vin (by have := nle_t c; omega), fun σ6 e6 e6' => ?_⟩⟩
    · have c1 := le_t c
      have ea : apO r h st (vlN B n q) (plN B n q) = up (chk (chk st (tkV B n q) (tkF B n q : Nat) 0 15) (tkV B n (tkE B n q)) (tkF B n (tkE B n q) : Nat) 0 h) 202 (mxI (st 202) (tkV B n q)) := by
        unfold apO
        rw [if_neg (by rw [ev0]; omega)]
        rfl
      rw [ea]
      refine RC_w C3 (fun _ _ _ _ _ => rfl) (up_q (by omega)) (up_q (by omega)) (fun _ => up_s.symm) (RR_q C3.2.2.2.2.2.2.1 (fun _ => rfl) (fun _ => rfl) (fun _ => rfl) (fun s hs => up_q (by omega))) (RB_q C3.2.2.2.2.2.2.2 (fun s hs => up_q (by omega)))
    · have c1 := nle_t c
      obtain ⟨k, hk⟩ : ∃ k : Nat, k = (ti (σ3.1 233 0)).toNat := ⟨_, rfl⟩
      have tn := tn_eq (σ3.1 233 0)
      have hk2 : tkV B n q = (k : Int) := by omega
      rw [show (σ3.1 233 0).toNatClampNeg = k by omega] at e6 e6'
      have ea : apO r h st (vlN B n q) (plN B n q) = up (up (chk (chk st (tkV B n q) (tkF B n q : Nat) 0 15) (tkV B n (tkE B n q)) (tkF B n (tkE B n q) : Nat) 0 h) 202 (mxI (st 202) (tkV B n q))) (7 + 5 * k + r) (tkV B n (tkE B n q)) := by
        unfold apO
        rw [if_pos (by rw [ev0]; omega)]
        show up (up (chk (chk st (tkV B n q) (tkF B n q : Nat) 0 15) (tkV B n (tkE B n q)) (tkF B n (tkE B n q) : Nat) 0 h) 202 (mxI (st 202) (tkV B n q))) (7 + 5 * (tkV B n q).toNat + r) (tkV B n (tkE B n q)) = _
        rw [show (tkV B n q).toNat = k by omega]
      have hr34 : r = 3 ∨ r = 4 := by rcases hr with hr | hr <;> omega
      have fr : ∀ q j, q ≠ 232 → q ≠ 234 → q ≠ 235 → σ6.1 q j = σ3.1 q j := fun q j _ a b => by
        rcases hr34 with z | z
        · exact zI_q' (e6' z) (Or.inl a)
        · exact zI_q' (e6 z) (Or.inl b)
      refine RW_0 W3 σ6 ?_ (TKs_w T3 fr)
      rw [ea]
      have R3 := C3.2.2.2.2.2.2.1.1 rfl
      refine RC_w C3 fr (by rw [up_q (by omega), up_q (by omega)]) (by rw [up_q (by omega), up_q (by omega)]) (fun _ => by rw [up_q (by omega), up_s]) ⟨fun _ => ⟨fun s a b => ?_, fun p a => ?_⟩, fun z => absurd rfl z⟩ (RB_3 C3.2.2.2.2.2.2.2 (by rw [up_q (by omega), up_q (by omega)]) (by rw [up_q (by omega), up_q (by omega)]) (by rw [up_q (by omega), up_q (by omega)]))
      · have f2 : σ6.1 232 s = σ3.1 232 s := by
          rcases hr34 with z | z
          · exact zI_q' (e6' z) (by omega)
          · exact zI_q' (e6 z) (by omega)
        rw [f2, up_q (by omega), up_q (by omega)]
        exact R3.1 s a b
      · have hp := R3.2 p a
        rcases hr34 with z | z
        · subst z
          have f5 : σ6.1 235 p = σ3.1 235 p := zI_q' (e6' rfl) (by omega)
          rw [f5, up_q (show 7 + 5 * p + 4 ≠ _ by omega), up_q (show 7 + 5 * p + 4 ≠ _ by omega)]
          refine ⟨?_, hp.2⟩
          by_cases cp : p = k
          · rw [cp, up_s, e6' rfl, zI_s]; exact v4
          · rw [zI_q' (e6' rfl) (by omega), up_q (by omega), up_q (by omega)]; exact hp.1
        · subst z
          have f5 : σ6.1 234 p = σ3.1 234 p := zI_q' (e6 rfl) (by omega)
          rw [f5, up_q (show 7 + 5 * p + 3 ≠ _ by omega), up_q (show 7 + 5 * p + 3 ≠ _ by omega)]
          refine ⟨hp.1, ?_⟩
          by_cases cp : p = k
          · rw [cp, up_s, e6 rfl, zI_s]; exact v4
          · rw [zI_q' (e6 rfl) (by omega), up_q (by omega), up_q (by omega)]; exact hp.2
  refine ⟨fun qa => ?_, fun qa => ?_⟩
  · have hr2 : r = 4 ∧ h = 999 := by rcases hr with hr | hr; exact hr.2; exact absurd qa hr.1
    refine f_take C1 T1 (h := h) (by have := g (tkE B n q); omega) _ _ _ (k := 1) l1 (by omega) l0 (by rw [l999]; exact hr2.2.symm) W1 (fun σ2 h _ => ⟨fun c => absurd rfl c, fun _ => h⟩) (fun σ3 W3 C3 T3 v3 u3 => fun _ => ⟨fun _ => ?_, fun c => absurd c (by decide)⟩)
    have := key σ3 W3 C3 T3 (by rw [u3 0 (by omega)]; exact v1) v3
    refine ⟨this.1, fun c => ⟨fun _ => ⟨(this.2 c).1, fun σ6 e6 => (this.2 c).2 σ6 (fun _ => e6) (fun z => by omega)⟩, fun z => absurd qa z⟩⟩
  · have hr2 : r = 3 ∧ h = 10 := by rcases hr with hr | hr; exact absurd hr.1 qa; exact hr.2
    refine f_take C1 T1 (h := h) (by have := g (tkE B n q); omega) _ _ _ (k := 1) l1 (by omega) l0 (by rw [l10]; exact hr2.2.symm) W1 (fun σ2 h _ => ⟨fun c => absurd rfl c, fun _ => h⟩) (fun σ3 W3 C3 T3 v3 u3 => fun _ => ⟨fun _ => ?_, fun c => absurd c (by decide)⟩)
    have := key σ3 W3 C3 T3 (by rw [u3 0 (by omega)]; exact v1) v3
    refine ⟨this.1, fun c => ⟨fun z => absurd z qa, fun _ => ⟨(this.2 c).1, fun σ6 e6 => (this.2 c).2 σ6 (fun z => by omega) (fun _ => e6)⟩⟩⟩
theorem f_pair {B : Nat → Int} {n q m : Nat} {o h w : Int} (ho : (o = 1 ∧ m = 16) ∨ (o = 2 ∧ m = 10)) {st : Nat → Int} {σ : zSto} (C : RC B n o (ful st 300 m w) (q : Int) (st 202) σ) (T : TKs B n q σ) (a3 a4 : Int32) (h3 : ti a3 = h) (h4 : ti a4 = (m : Int)) {P : Int32 → zSto → Prop} (W : RW B n o 2 q (apX m h st (vlN B n q) (plN B n q) w) P) : w_X10_take (0 : Int32) (0 : Int32) (15 : Int32) σ (fun (r4 : Int32) (σ3 : zSto) => (r4 = 0 ∨ r4 = 1) → ((r4 = 0 → P (0 : Int32) σ3) ∧ (¬ r4 = 0 → (w_X10_take (1 : Int32) (0 : Int32) a3 σ3 (fun (r6 : Int32) (σ5 : zSto) => (r6 = 0 ∨ r6 = 1) → ((¬ r6 = 0 → (w_X10_keep (0 : Int32) (1 : Int32) (2 : Int32) a4 (2 : Int32) σ5 (fun (σ7 : zSto) => P (1 : Int32) σ7))) ∧ (r6 = 0 → P (0 : Int32) σ5))))))) := by
  have l0 := lit_0
  have l1 := lit_1
  have l2 := lit_2
  have l15 := lit_15
  have g := fun p => tkF_ge B n p
  have on : o ≠ 0 := by omega
  refine f_take C T (by have := g q; omega) _ _ _ (k := 0) l0 (by omega) l0 l15 W (fun σ2 h _ => ⟨fun _ => h, fun c => absurd rfl c⟩) (fun σ1 W1 C1 T1 v1 u1 => fun _ => ⟨fun c => absurd c (by decide), fun _ => ?_⟩)
  refine f_take C1 T1 (by have := g (tkE B n q); omega) _ _ _ (k := 1) l1 (by omega) l0 h3 W1 (fun σ2 h _ => ⟨fun c => absurd rfl c, fun _ => h⟩) (fun σ2 W2 C2 T2 v2 u2 => fun _ => ⟨fun _ => ?_, fun c => absurd c (by decide)⟩)
  have hr := C2.2.2.2.2.2.2.1.2 on 0 (by omega)
  have hB := C2.2.2.2.2.2.2.2
  have e0 : ∀ s, 300 ≤ s → (chk (chk (ful st 300 m w) (tkV B n q) (tkF B n q : Nat) 0 15) (tkV B n (tkE B n q)) (tkF B n (tkE B n q) : Nat) 0 h) s = st s := fun s hs => by
    rw [chk_s (by omega), chk_s (by omega)]
    unfold ful
    split
    · exact nte_s (by omega)
    · rfl
  have ez := e0 300 (by omega)
  rw [show 300 + 0 = 300 from rfl, ez] at hr
  have hb : 0 ≤ st 300 ∧ st 300 ≤ m := by
    unfold RB at hB
    rw [ez] at hB
    rcases ho with z | z
    · have := hB.2.1 z.1; omega
    · have := hB.2.2 z.1; omega
  have hm : m ≤ 16 := by omega
  refine f_keep2 0 1 2 m 2 _ _ _ _ _ l0 l1 l2 h4 l2 (by omega) (by omega) (by omega) ⟨by omega, by omega⟩ hm (by omega) (by omega) (fun c => RW_0 W2 σ2 ?_ T2) (fun k hk hk2 σ4 e4 => RW_0 W2 σ4 ?_ (TKs_w T2 (kp_fr e4)))
  · have c2 : st 300 = m := by omega
    have ef : ful st 300 m w = nte st 3 w := if_pos c2
    have ea : apX m h st (vlN B n q) (plN B n q) w = nte st 3 w := if_neg (by omega)
    have nz : nte st 3 w 200 ≠ 0 := nte_200 (by decide)
    rw [ef, chk_nz nz, chk_nz nz] at C2
    rw [ea]
    exact RC_w C2 (fun _ _ _ _ _ => rfl) rfl rfl (fun z => absurd z nz) C2.2.2.2.2.2.2.1 C2.2.2.2.2.2.2.2
  · have ef : ful st 300 m w = st := if_neg (by omega)
    rw [ef] at C2 e0
    have hk3 : st 300 = (k : Int) := by omega
    have ea : apX m h st (vlN B n q) (plN B n q) w = up (up (up (chk (chk st (tkV B n q) (tkF B n q : Nat) 0 15) (tkV B n (tkE B n q)) (tkF B n (tkE B n q) : Nat) 0 h) (301 + 2 * k + 0) (tkV B n q)) (301 + 2 * k + 1) (tkV B n (tkE B n q))) 300 (st 300 + 1) := by
      unfold apX
      rw [if_pos (by omega), hk3, Int.toNat_natCast]
      rfl
    rw [ea]
    have u' : ∀ {f : Nat → Int} {a b c : Nat} {x y z : Int} {j : Nat}, j ≠ a → j ≠ b → j ≠ c → up (up (up f a x) b y) c z j = f j := fun h1 h2 h3 => by rw [up_q h3, up_q h2, up_q h1]
    refine RC_w C2 (kp_fr e4) (u' (by omega) (by omega) (by omega)) (u' (by omega) (by omega) (by omega)) (fun _ => ?_) (RR_keepP (base := 1 + 2 * k) (N := 2) (v := vlN B n q) on C2.2.2.2.2.2.2.1 (fun j hj => ?_) e4 (fun i hi => ?_) (by omega) (by rw [e0 300 (by omega)]; omega)) ?_
    · rw [u' (by omega) (by omega) (by omega), chk_q (by omega) (by omega), chk_q (by omega) (by omega)]
    · unfold wr
      by_cases c0 : 300 + j = 300
      · rw [c0, up_s, if_pos rfl, e0 300 (by omega)]
      · rw [up_q c0, if_neg c0]
        by_cases c2 : 300 + (1 + 2 * k) ≤ 300 + j ∧ 300 + j < 300 + (1 + 2 * k) + 2
        · rw [if_pos c2]
          rcases (show 300 + j = 301 + 2 * k + 0 ∨ 300 + j = 301 + 2 * k + 1 by omega) with r | r
          · rw [r, up_q (by omega), up_s, show 301 + 2 * k + 0 - (300 + (1 + 2 * k)) = 0 by omega]; rfl
          · rw [r, up_s, show 301 + 2 * k + 1 - (300 + (1 + 2 * k)) = 1 by omega]; rfl
        · rw [if_neg c2, up_q (by omega), up_q (by omega)]
    · rcases (show i = 0 ∨ i = 1 by omega) with r | r <;> subst r
      · rw [u2 0 (by omega)]; exact v1
      · exact v2
    · refine ⟨fun z => absurd z on, fun z => ?_, fun z => ?_⟩
      · rw [up_s]; omega
      · rw [up_s]; omega
