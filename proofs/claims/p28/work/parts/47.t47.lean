theorem lg_0 {x y : Int64} (h : lg_cmp x y = 0) : x = y := by
  unfold lg_cmp at h
  split at h
  · exact absurd h (by decide)
  · split at h
    · assumption
    · exact absurd h (by decide)
theorem lg_n {x y : Int64} {c : Int} (hc : tl y = c) (h : tl x ≠ c) : ¬ lg_cmp x y = 0 := fun z => h (by rw [lg_0 z]; exact hc)
theorem tlW : tl (1886352244 : Int64) = 1886352244 ∧ tl (491394458994 : Int64) = 491394458994 ∧ tl (32497584235442030 : Int64) = 32497584235442030 ∧ tl (1868850291 : Int64) = 1868850291 ∧ tl (1751215220 : Int64) = 1751215220 ∧ tl (6644084 : Int64) = 6644084 ∧ tl (444300616549 : Int64) = 444300616549 ∧ tl (108205047312240 : Int64) = 108205047312240 ∧ tl (478694368626 : Int64) = 478694368626 ∧ tl (1886743660 : Int64) = 1886743660 ∧ tl (1936024942 : Int64) = 1936024942 := by
  refine ⟨?_, ?_, ?_, ?_, ?_, ?_, ?_, ?_, ?_, ?_, ?_⟩ <;> (rw [tl_eq]; decide)
theorem f_planLine {B : Nat → Int} {n p : Nat} {st : Nat → Int} {b : Int} {σ : zSto} (C : RC B n 1 st b (st 202) σ) (T : TKs B n p σ) (hb : b ≤ (tkF B n p : Nat)) (hE : tkF B n p < tkE B n p) (a1 : Int64) (a2 : Int32) (h2 : ti a2 = (tkF B n p : Nat)) {P : Int32 → zSto → Prop} (hn : wcd 1 (tl a1) = -1 → ∀ σ2, zRg σ2 → ti (σ2.1 223 15) = (tkF B n p : Nat) → P 0 σ2) (hy : wcd 1 (tl a1) ≠ -1 → RW B n 1 (hmN (wcd 1 (tl a1))) (tkE B n p) (ap (wcd 1 (tl a1)) st (vlN B n (tkE B n p)) (plN B n (tkE B n p)) (tkF B n p : Nat)) P) : w_X10_planLine a1 a2 σ P := by
  have l0 := lit_0
  have l16 := lit_16
  have l5 := lit_5
  unfold w_X10_planLine
  refine ⟨fun c => ?_, fun c => ?_⟩
  · have e : tl a1 = 1886743660 := by rw [lg_0 c]; exact tlW.2.2.2.2.2.2.2.2.2.1
    rw [e] at hy
    have W := hy (by decide)
    have hs := C.2.2.2.2.2.2.1.2 (by decide) 0 (by omega)
    refine f_full (c := 0) (cs := 300) C _ _ _ l0 (by omega) l16 hs (by omega) (fun σ1 C1 f1 => ?_)
    rw [h2] at C1
    refine f_tok C1 (p := tkE B n p) (by rw [f1]; exact T.2.1) (fun σ2 C2 T2 _ => ?_)
    exact f_pair (m := 16) (h := 5) (Or.inl ⟨rfl, rfl⟩) (RC_b C2 (by omega)) T2.1 _ _ l5 l16 W
  · have e : tl a1 ≠ 1886743660 := fun z => c (by rw [tl_inj (z.trans tlW.2.2.2.2.2.2.2.2.2.1.symm)]; decide)
    refine f_fails C.1 T (fun σ2 I2 e2 => fun _ => ⟨Or.inl rfl, hn ?_ σ2 I2 e2⟩)
    unfold wcd
    rw [if_pos rfl, if_neg e]
theorem f_logLine {B : Nat → Int} {n p : Nat} {st : Nat → Int} {b : Int} {σ : zSto} (C : RC B n 2 st b (st 202) σ) (T : TKs B n p σ) (hb : b ≤ (tkF B n p : Nat)) (hE : tkF B n p < tkE B n p) (a1 : Int64) (a2 : Int32) (h2 : ti a2 = (tkF B n p : Nat)) {P : Int32 → zSto → Prop} (hn : wcd 2 (tl a1) = -1 → ∀ σ2, zRg σ2 → ti (σ2.1 223 15) = (tkF B n p : Nat) → P 0 σ2) (hy : wcd 2 (tl a1) ≠ -1 → RW B n 2 (hmN (wcd 2 (tl a1))) (tkE B n p) (ap (wcd 2 (tl a1)) st (vlN B n (tkE B n p)) (plN B n (tkE B n p)) (tkF B n p : Nat)) P) : w_X10_logLine a1 a2 σ P := by
  have l0 := lit_0
  have l10 := lit_10
  have l999 := lit_999
  unfold w_X10_logLine
  refine ⟨fun c => ?_, fun c => ?_⟩
  · have e : tl a1 = 1936024942 := by rw [lg_0 c]; exact tlW.2.2.2.2.2.2.2.2.2.2
    rw [e] at hy
    have W := hy (by decide)
    have hs := C.2.2.2.2.2.2.1.2 (by decide) 0 (by omega)
    refine f_full (c := 0) (cs := 300) C _ _ _ l0 (by omega) l10 hs (by omega) (fun σ1 C1 f1 => ?_)
    rw [h2] at C1
    refine f_tok C1 (p := tkE B n p) (by rw [f1]; exact T.2.1) (fun σ2 C2 T2 _ => ?_)
    exact f_pair (m := 10) (h := 999) (Or.inr ⟨rfl, rfl⟩) (RC_b C2 (by omega)) T2.1 _ _ l999 l10 W
  · have e : tl a1 ≠ 1936024942 := fun z => c (by rw [tl_inj (z.trans tlW.2.2.2.2.2.2.2.2.2.2.symm)]; decide)
    refine f_fails C.1 T (fun σ2 I2 e2 => fun _ => ⟨Or.inl rfl, hn ?_ σ2 I2 e2⟩)
    unfold wcd
    rw [if_neg (by decide), if_pos rfl, if_neg e]
