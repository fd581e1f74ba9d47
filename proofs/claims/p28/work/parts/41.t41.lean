/-! bytes behind the last say nothing -/
theorem adv_cg {c : Int → Bool} {B B' : Nat → Int} {n : Nat} (h : ∀ j, j < n → B j = B' j) : ∀ f p, adv c B n f p = adv c B' n f p := by
  intro f
  induction f with
  | zero => intro p; rfl
  | succ f ih =>
    intro p
    by_cases g : p < n ∧ c (B p) = true
    · rw [adv_go g, adv_go ⟨g.1, by rw [← h p g.1]; exact g.2⟩, ih]
    · rw [adv_no g, adv_no (fun z => g ⟨z.1, by rw [h p z.1]; exact z.2⟩)]
theorem tkF_cg {B B' : Nat → Int} {n : Nat} (h : ∀ j, j < n → B j = B' j) (p : Nat) : tkF B n p = tkF B' n p := adv_cg h 601 p
theorem tkE_cg {B B' : Nat → Int} {n : Nat} (h : ∀ j, j < n → B j = B' j) (p : Nat) : tkE B n p = tkE B' n p := by
  unfold tkE
  rw [← tkF_cg h p, adv_cg (c := cLt) h, adv_cg (c := cDg) h]
  by_cases c : n ≤ tkF B n p
  · rw [if_pos c, if_pos c]
  · rw [if_neg c, if_neg c, h (tkF B n p) (by omega)]
theorem tkK_cg {B B' : Nat → Int} {n : Nat} (h : ∀ j, j < n → B j = B' j) (p : Nat) : tkK B n p = tkK B' n p := by
  unfold tkK
  rw [← tkF_cg h p, ← tkE_cg h p]
  by_cases c : n ≤ tkF B n p
  · rw [if_pos c, if_pos c]
  · rw [if_neg c, if_neg c, h (tkF B n p) (by omega)]
theorem dgV_cg {B B' : Nat → Int} {n : Nat} (h : ∀ j, j < n → B j = B' j) (q : Nat) : ∀ k, q + k ≤ n → dgV B q k = dgV B' q k := by
  intro k
  induction k with
  | zero => intro _; rfl
  | succ k ih => intro hk; rw [dgV_1, dgV_1, ih (by omega), h (q + k) (by omega)]
theorem wdV_cg {B B' : Nat → Int} {n : Nat} (h : ∀ j, j < n → B j = B' j) (q : Nat) : ∀ k, q + k ≤ n → wdV B q k = wdV B' q k := by
  intro k
  induction k with
  | zero => intro _; rfl
  | succ k ih => intro hk; rw [wdV_1, wdV_1, ih (by omega), h (q + k) (by omega)]
theorem tkV_cg {B B' : Nat → Int} {n : Nat} (h : ∀ j, j < n → B j = B' j) {p : Nat} (hp : p ≤ n) : tkV B n p = tkV B' n p := by
  have h1 := tkE_le (B := B) hp
  have h2 := tkE_ge B n p
  unfold tkV
  rw [← tkF_cg h p, ← tkE_cg h p]
  exact dgV_cg h _ _ (by omega)
theorem tkW_cg {B B' : Nat → Int} {n : Nat} (h : ∀ j, j < n → B j = B' j) {p : Nat} (hp : p ≤ n) : tkW B n p = tkW B' n p := by
  have h1 := tkE_le (B := B) hp
  have h2 := tkE_ge B n p
  unfold tkW
  rw [← tkF_cg h p, ← tkE_cg h p, wdV_cg h _ _ (by omega)]
theorem nP_cg {B B' : Nat → Int} {n : Nat} (h : ∀ j, j < n → B j = B' j) (p : Nat) : ∀ i, nP B n p i = nP B' n p i := by
  intro i
  induction i with
  | zero => rfl
  | succ i ih => show tkE B n (nP B n p i) = tkE B' n (nP B' n p i); rw [ih, tkE_cg h]
theorem alN_cg {B B' : Nat → Int} {n : Nat} (h : ∀ j, j < n → B j = B' j) : ∀ m p, alN B n m p = alN B' n m p := by
  intro m
  induction m with
  | zero => intro p; rfl
  | succ m ih => intro p; show (decide (tkK B n p = 2) && alN B n m (tkE B n p)) = (decide (tkK B' n p = 2) && alN B' n m (tkE B' n p)); rw [tkK_cg h, tkE_cg h, ih]
theorem rbN_cg {B B' : Nat → Int} {n : Nat} (h : ∀ j, j < n → B j = B' j) : ∀ m p, rbN B n m p = rbN B' n m p := by
  intro m
  induction m with
  | zero => intro p; rfl
  | succ m ih => intro p; show (if tkK B n p = 2 then rbN B n m (tkE B n p) else p) = (if tkK B' n p = 2 then rbN B' n m (tkE B' n p) else p); rw [tkK_cg h, tkE_cg h, ih]
theorem rbN_le {B : Nat → Int} {n : Nat} : ∀ m p, p ≤ n → rbN B n m p ≤ n := by
  intro m
  induction m with
  | zero => intro p h; exact h
  | succ m ih =>
    intro p h
    show (if tkK B n p = 2 then rbN B n m (tkE B n p) else p) ≤ n
    split
    · exact ih _ (tkE_le h)
    · exact h
theorem rbN_ge {B : Nat → Int} {n : Nat} : ∀ m p, p ≤ rbN B n m p := by
  intro m
  induction m with
  | zero => intro p; exact Nat.le_refl p
  | succ m ih =>
    intro p
    show p ≤ (if tkK B n p = 2 then rbN B n m (tkE B n p) else p)
    split
    · have h1 := ih (tkE B n p)
      have h2 := tkE_ge B n p
      have h3 := tkF_ge B n p
      omega
    · exact Nat.le_refl p
theorem RD_1 (o : Int) (B : Nat → Int) (n f p : Nat) (st : Nat → Int) : RD o B n (f + 1) p st = if tkK B n p = 0 then st else if wcN o B n p = -1 then fl st (tkF B n p) else
      if alN B n (hmN (wcN o B n p)) (tkE B n p) = true ∧ tkK B n (rbN B n (hmN (wcN o B n p)) (tkE B n p)) = 3 then RD o B n f (tkE B n (rbN B n (hmN (wcN o B n p)) (tkE B n p))) (ap (wcN o B n p) st (fun i => tkV B n (nP B n (tkE B n p) i)) (fun i => (tkF B n (nP B n (tkE B n p) i) : Nat)) (tkF B n p : Nat)) else fl st (tkF B n (rbN B n (hmN (wcN o B n p)) (tkE B n p))) := rfl
theorem RD_cg {o : Int} {B B' : Nat → Int} {n : Nat} (h : ∀ j, j < n → B j = B' j) : ∀ f p st, p ≤ n → RD o B n f p st = RD o B' n f p st := by
  intro f
  induction f with
  | zero => intro p st _; rfl
  | succ f ih =>
    intro p st hp
    have w : wcN o B n p = wcN o B' n p := by unfold wcN; rw [tkK_cg h, tkW_cg h hp]
    have hE := tkE_le (B := B') hp
    have v : (fun i => tkV B n (nP B n (tkE B' n p) i)) = (fun i => tkV B' n (nP B' n (tkE B' n p) i)) := by
      funext i
      rw [nP_cg h, tkV_cg h (nP_le hE i)]
    have q : (fun i => ((tkF B n (nP B n (tkE B' n p) i) : Nat) : Int)) = (fun i => ((tkF B' n (nP B' n (tkE B' n p) i) : Nat) : Int)) := by
      funext i
      rw [nP_cg h, tkF_cg h]
    rw [RD_1, RD_1, w, tkK_cg h, tkK_cg h, tkF_cg h, tkF_cg h, tkE_cg h, tkE_cg h, alN_cg h, rbN_cg h, v, q]
    rw [ih _ _ (tkE_le (rbN_le _ _ hE))]
/-- as a text begins -/
def Ini (st : Nat → Int) : Prop := st 0 = 0 ∧ st 1 = 0 ∧ st 2 = 2 ∧ st 3 = 0 ∧ st 4 = 0 ∧ st 5 = 0 ∧ st 6 = -1 ∧ (∀ p, p < 16 → st (7 + 5 * p + 3) = 0 ∧ st (7 + 5 * p + 4) = -1) ∧ st 200 = 0 ∧ st 201 = -1 ∧ st 202 = -1 ∧ st 300 = 0
def FN (o : Int) (n : Nat) (st : Nat → Int) : Nat → Int := if o = 0 ∧ (st 0 < 2 ∨ ¬ st 202 < st 0) then nte st 4 (n : Int) else st
theorem wcd_rg (o W : Int) : wcd o W = -1 ∨ (0 ≤ wcd o W ∧ wcd o W ≤ 10) := by
  unfold wcd
  repeat' split
  all_goals omega
theorem CX_0 {B : Nat → Int} {n p : Nat} {v pl v' pl' : Nat → Int} {m : Nat} {st : Nat → Int} {σ : zSto} (h : CX B n p v pl m st σ) : CX B n p v' pl' 0 st σ := ⟨h.1, h.2.1, h.2.2.1, h.2.2.2.1, fun i hi => absurd hi (Nat.not_lt_zero i), h.2.2.2.2.2⟩
set_option maxHeartbeats 4000000 in
theorem f_X4_readRows_2 {B : Nat → Int} {n : Nat} (hn : n ≤ 600) (x_1 : Int32) (fin : Nat → Int) {P : zSto → Prop} (hP : ∀ σ2, zRg σ2 → CR fin σ2 → ti (σ2.1 171 5) = (n : Int) → P σ2) : ∀ (k f p : Nat) (x_2 : Int32) (st v pl : Nat → Int) (m : Nat) (σ : zSto), f ≤ 601 → ti x_2 = 601 - (f : Int) → p ≤ n → CX B n p v pl m st σ → RD (ti x_1) B n f p st = fin → f < k → w_X4_readRows_2 x_1 P k x_2 σ := by
  have l0 := lit_0
  have l1 := lit_1
  have lm := lit_m1
  have l600 := lit_600
  intro k
  induction k with
  | zero => intro f p x st v pl m σ h1 h2 h3 h4 h5 h6; exfalso; omega
  | succ k ih =>
    intro f p x_2 st v pl m σ h1 h2 h3 h4 h5 h6
    unfold w_X4_readRows_2
    have fails : ∀ (σa σ3 σ4 : zSto) (q : Nat), zRg σa → CR st σa → ti (σa.1 171 8) = (q : Int) → ti (σa.1 171 5) = (n : Int) → fl st q = fin → σ3 = zI σa 171 11 (1 : Int32) → σ4 = zI σ3 171 12 (σ3.1 171 8) → P σ4 := by
      intro σa σ3 σ4 q g1 g2 g3 g4 g5 e3 e4
      have r3 : zRg σ3 := by rw [e3]; exact wIg g1 kd_171 rfl rfl (full32 _)
      have c3 := CR_w g2 e3 200 (by unfold sD; omega) rfl rfl l1
      have c4 := CR_w c3 e4 201 (by unfold sD; omega) rfl rfl (show ti (σ3.1 171 8) = (q : Int) by rw [e3, zI_q (Or.inr (by decide))]; exact g3)
      refine hP σ4 (by rw [e4]; exact wIg r3 kd_171 rfl rfl (full32 _)) (by rw [← g5]; exact c4) ?_
      rw [e4, zI_q (Or.inr (by decide)), e3, zI_q (Or.inr (by decide))]; exact g4
    refine ⟨fun q => ?_, fun q => ?_⟩
    · have c := lt_t q
      have hf : f = 0 := by omega
      subst hf
      exact hP σ h4.1 (by rw [← h5]; exact h4.2.2.2.2.2) h4.2.2.1
    have c := nlt_t q
    obtain ⟨f', hf⟩ : ∃ f', f = f' + 1 := ⟨f - 1, by omega⟩
    subst hf
    rw [RD_1] at h5
    refine f_next h4 (fun σ1 c1 a8 a7 a9 => ⟨fun q1 x2 e2 => ?_, fun q1 => ?_⟩)
    · have n1 := ne_t q1
      rw [if_neg (by omega)] at h5
      have t2 := eq_t e2
      refine ⟨fun q2 σ3 e3 σ4 e4 => ?_, fun q2 => ?_⟩
      · have n2 := ne_t q2
        have hw : wcN (ti x_1) B n p = -1 := by unfold wcN; rw [if_neg (by omega)]
        rw [if_pos hw] at h5
        exact fails σ1 σ3 σ4 _ c1.1 c1.2.2.2.2.2 a8 c1.2.2.1 h5 e3 e4
      · have n2 := eq_t q2
        have hk : tkK B n p = 1 := by omega
        refine f_X4_wordOf x_1 c1.2.1 c1.2.2.1 hn h3 c1.2.2.2.1 a8 hk (fun r6 e6 => ?_)
        have hw : wcN (ti x_1) B n p = ti r6 := by unfold wcN; rw [if_pos hk]; exact e6.symm
        rw [hw] at h5
        refine ⟨fun q3 σ3 e3 σ4 e4 => ?_, fun q3 => ?_⟩
        · have n3 := eq_t q3
          rw [if_pos (by omega)] at h5
          exact fails σ1 σ3 σ4 _ c1.1 c1.2.2.2.2.2 a8 c1.2.2.1 h5 e3 e4
        · have n3 := ne_t q3
          rw [if_neg (by omega)] at h5
          have w1 := wcd_rg (ti x_1) (tkW B n p)
          have hM := hmN_rg (ti r6)
          have hE := tkE_le (B := B) h3
          unfold w_X4_readNumbers
          refine f_X4_howMany r6 (by omega) (fun r2 e2' => ⟨100, ?_⟩)
          refine f_X4_readNumbers_7 (hmN (ti r6)) hM.2 r2 e2' (st := st) (p := tkE B n p) (B := B) (n := n) (fun σ9 y1 y2 c9 => ?_) (fun σ9 y1 y2 y3 y4 y5 => ?_) 100 0 (0 : Int32) σ1 (by omega) l0 (CX_0 c1) rfl rfl (by omega)
          · intro b9
            refine ⟨fun q4 => ?_, fun q4 => absurd q4 (by decide)⟩
            rw [if_pos ⟨y1, y2⟩] at h5
            refine f_X4_tell r6 x2 (by omega) c9 (fun σ11 c11 => fun x12 e12 => ?_)
            have t12 := eq_t e12
            have ta := tadd (x := x_2) (y := (1 : Int32)) (by omega)
            rw [t2, a8] at c11
            exact ih f' _ x12 _ _ _ _ σ11 (by omega) (by omega) (tkE_le (rbN_le _ _ hE)) c11 h5 (by omega)
          · intro b9
            refine ⟨fun q4 => absurd rfl q4, fun q4 σ13 e13 σ14 e14 => ?_⟩
            rw [if_neg y1] at h5
            exact fails σ9 σ13 σ14 _ y2 y3 y4 y5 h5 e13 e14
    · have n1 := eq_t q1
      rw [if_pos (by omega)] at h5
      exact hP σ1 c1.1 (by rw [← h5]; exact c1.2.2.2.2.2) c1.2.2.1
