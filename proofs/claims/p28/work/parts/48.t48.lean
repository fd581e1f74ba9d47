theorem f_ll0 {B : Nat → Int} {n p : Nat} {st : Nat → Int} {b : Int} {σ : zSto} (C : RC B n 0 st b (st 202) σ) (T : TKs B n p σ) (hb : b ≤ (tkF B n p : Nat)) (hE : tkF B n p < tkE B n p) (a2 : Int32) (h2 : ti a2 = (tkF B n p : Nat)) {P : Int32 → zSto → Prop} (W : RW B n 0 (hmN 0) (tkE B n p) (ap 0 st (vlN B n (tkE B n p)) (plN B n (tkE B n p)) (tkF B n p : Nat)) P) : w_X10_lineLine (1886352244 : Int64) a2 σ P := by
  have l0 := lit_0
  have l1 := lit_1
  have W' := RW_m (Q := fun r σ => (r = 0 ∨ r = 1) → ((r = 0 ∨ r = 1) ∧ P r σ)) W (fun r σ hr h => fun _ => ⟨hr, h⟩)
  unfold w_X10_lineLine w_X10_plainOf
  repeat (first | refine ⟨fun q => absurd q (by decide), fun _ => ?_⟩ | refine ⟨fun _ => ?_, fun q => absurd (by decide) q⟩ | refine ⟨fun _ => ?_, fun q => absurd q (by decide)⟩ | refine ⟨fun q => absurd (by decide) q, fun _ => ?_⟩)
  have hs := (C.2.2.2.2.2.2.1.1 rfl).1 0 (by omega) (by omega)
  refine f_full (c := 0) (cs := 0) C _ _ _ l0 (by omega) lit_16 hs (by omega) (fun σ1 C1 f1 => ?_)
  rw [h2] at C1
  refine f_tok C1 (p := tkE B n p) (by rw [f1]; exact T.2.1) (fun σ2 C2 T2 _ => ?_)
  have C3 := RC_b C2 (b' := (tkE B n p : Nat)) (by omega)
  repeat (first | refine ⟨fun q => absurd q (by decide), fun _ => ?_⟩ | refine ⟨fun _ => ?_, fun q => absurd (by decide) q⟩ | refine ⟨fun _ => ?_, fun q => absurd q (by decide)⟩ | refine ⟨fun q => absurd (by decide) q, fun _ => ?_⟩)
  exact f_X10_postLine (G := 0) C3 T2.1 W'
theorem f_ll1 {B : Nat → Int} {n p : Nat} {st : Nat → Int} {b : Int} {σ : zSto} (C : RC B n 0 st b (st 202) σ) (T : TKs B n p σ) (hb : b ≤ (tkF B n p : Nat)) (hE : tkF B n p < tkE B n p) (a2 : Int32) (h2 : ti a2 = (tkF B n p : Nat)) {P : Int32 → zSto → Prop} (W : RW B n 0 (hmN 1) (tkE B n p) (ap 1 st (vlN B n (tkE B n p)) (plN B n (tkE B n p)) (tkF B n p : Nat)) P) : w_X10_lineLine (491394458994 : Int64) a2 σ P := by
  have l0 := lit_0
  have l1 := lit_1
  have W' := RW_m (Q := fun r σ => (r = 0 ∨ r = 1) → ((r = 0 ∨ r = 1) ∧ P r σ)) W (fun r σ hr h => fun _ => ⟨hr, h⟩)
  unfold w_X10_lineLine w_X10_plainOf
  repeat (first | refine ⟨fun q => absurd q (by decide), fun _ => ?_⟩ | refine ⟨fun _ => ?_, fun q => absurd (by decide) q⟩ | refine ⟨fun _ => ?_, fun q => absurd q (by decide)⟩ | refine ⟨fun q => absurd (by decide) q, fun _ => ?_⟩)
  have hs := (C.2.2.2.2.2.2.1.1 rfl).1 1 (by omega) (by omega)
  refine f_full (c := 1) (cs := 1) C _ _ _ l1 (by omega) lit_6 hs (by omega) (fun σ1 C1 f1 => ?_)
  rw [h2] at C1
  refine f_tok C1 (p := tkE B n p) (by rw [f1]; exact T.2.1) (fun σ2 C2 T2 _ => ?_)
  have C3 := RC_b C2 (b' := (tkE B n p : Nat)) (by omega)
  repeat (first | refine ⟨fun q => absurd q (by decide), fun _ => ?_⟩ | refine ⟨fun _ => ?_, fun q => absurd (by decide) q⟩ | refine ⟨fun _ => ?_, fun q => absurd q (by decide)⟩ | refine ⟨fun q => absurd (by decide) q, fun _ => ?_⟩)
  exact f_X10_riderLine C3 T2.1 W'
theorem f_ll2 {B : Nat → Int} {n p : Nat} {st : Nat → Int} {b : Int} {σ : zSto} (C : RC B n 0 st b (st 202) σ) (T : TKs B n p σ) (hb : b ≤ (tkF B n p : Nat)) (hE : tkF B n p < tkE B n p) (a2 : Int32) (h2 : ti a2 = (tkF B n p : Nat)) {P : Int32 → zSto → Prop} (W : RW B n 0 (hmN 2) (tkE B n p) (ap 2 st (vlN B n (tkE B n p)) (plN B n (tkE B n p)) (tkF B n p : Nat)) P) : w_X10_lineLine (32497584235442030 : Int64) a2 σ P := by
  have l0 := lit_0
  have l1 := lit_1
  have W' := RW_m (Q := fun r σ => (r = 0 ∨ r = 1) → ((r = 0 ∨ r = 1) ∧ P r σ)) W (fun r σ hr h => fun _ => ⟨hr, h⟩)
  unfold w_X10_lineLine w_X10_plainOf
  repeat (first | refine ⟨fun q => absurd q (by decide), fun _ => ?_⟩ | refine ⟨fun _ => ?_, fun q => absurd (by decide) q⟩ | refine ⟨fun _ => ?_, fun q => absurd q (by decide)⟩ | refine ⟨fun q => absurd (by decide) q, fun _ => ?_⟩)
  refine f_tok C (p := tkE B n p) T.2.1 (fun σ2 C2 T2 _ => ?_)
  have C3 := RC_b C2 (b' := (tkE B n p : Nat)) (by omega)
  repeat (first | refine ⟨fun q => absurd q (by decide), fun _ => ?_⟩ | refine ⟨fun _ => ?_, fun q => absurd (by decide) q⟩ | refine ⟨fun _ => ?_, fun q => absurd q (by decide)⟩ | refine ⟨fun q => absurd (by decide) q, fun _ => ?_⟩)
  exact f_X10_ofPost (r := 4) (h := 999) _ (Or.inl ⟨rfl, rfl, rfl⟩) C3 T2.1 W'
theorem f_ll3 {B : Nat → Int} {n p : Nat} {st : Nat → Int} {b : Int} {σ : zSto} (C : RC B n 0 st b (st 202) σ) (T : TKs B n p σ) (hb : b ≤ (tkF B n p : Nat)) (hE : tkF B n p < tkE B n p) (a2 : Int32) (h2 : ti a2 = (tkF B n p : Nat)) {P : Int32 → zSto → Prop} (W : RW B n 0 (hmN 3) (tkE B n p) (ap 3 st (vlN B n (tkE B n p)) (plN B n (tkE B n p)) (tkF B n p : Nat)) P) : w_X10_lineLine (1868850291 : Int64) a2 σ P := by
  have l0 := lit_0
  have l1 := lit_1
  have W' := RW_m (Q := fun r σ => (r = 0 ∨ r = 1) → ((r = 0 ∨ r = 1) ∧ P r σ)) W (fun r σ hr h => fun _ => ⟨hr, h⟩)
  unfold w_X10_lineLine w_X10_plainOf
  repeat (first | refine ⟨fun q => absurd q (by decide), fun _ => ?_⟩ | refine ⟨fun _ => ?_, fun q => absurd (by decide) q⟩ | refine ⟨fun _ => ?_, fun q => absurd q (by decide)⟩ | refine ⟨fun q => absurd (by decide) q, fun _ => ?_⟩)
  refine f_tok C (p := tkE B n p) T.2.1 (fun σ2 C2 T2 _ => ?_)
  have C3 := RC_b C2 (b' := (tkE B n p : Nat)) (by omega)
  repeat (first | refine ⟨fun q => absurd q (by decide), fun _ => ?_⟩ | refine ⟨fun _ => ?_, fun q => absurd (by decide) q⟩ | refine ⟨fun _ => ?_, fun q => absurd q (by decide)⟩ | refine ⟨fun q => absurd (by decide) q, fun _ => ?_⟩)
  exact f_X10_ofPost (r := 3) (h := 10) _ (Or.inr ⟨by decide, rfl, rfl⟩) C3 T2.1 W'
theorem f_ll4 {B : Nat → Int} {n p : Nat} {st : Nat → Int} {b : Int} {σ : zSto} (C : RC B n 0 st b (st 202) σ) (T : TKs B n p σ) (hb : b ≤ (tkF B n p : Nat)) (hE : tkF B n p < tkE B n p) (a2 : Int32) (h2 : ti a2 = (tkF B n p : Nat)) {P : Int32 → zSto → Prop} (W : RW B n 0 (hmN 4) (tkE B n p) (ap 4 st (vlN B n (tkE B n p)) (plN B n (tkE B n p)) (tkF B n p : Nat)) P) : w_X10_lineLine (1751215220 : Int64) a2 σ P := by
  have l0 := lit_0
  have l1 := lit_1
  have W' := RW_m (Q := fun r σ => (r = 0 ∨ r = 1) → ((r = 0 ∨ r = 1) ∧ P r σ)) W (fun r σ hr h => fun _ => ⟨hr, h⟩)
  unfold w_X10_lineLine w_X10_plainOf
  repeat (first | refine ⟨fun q => absurd q (by decide), fun _ => ?_⟩ | refine ⟨fun _ => ?_, fun q => absurd (by decide) q⟩ | refine ⟨fun _ => ?_, fun q => absurd q (by decide)⟩ | refine ⟨fun q => absurd (by decide) q, fun _ => ?_⟩)
  refine f_tok C (p := tkE B n p) T.2.1 (fun σ2 C2 T2 _ => ?_)
  have C3 := RC_b C2 (b' := (tkE B n p : Nat)) (by omega)
  repeat (first | refine ⟨fun q => absurd q (by decide), fun _ => ?_⟩ | refine ⟨fun _ => ?_, fun q => absurd (by decide) q⟩ | refine ⟨fun _ => ?_, fun q => absurd q (by decide)⟩ | refine ⟨fun q => absurd (by decide) q, fun _ => ?_⟩)
  exact f_plainR (s := 2) (by omega) C3 T2.1 _ _ _ l1 lit_9 lit_2 W
theorem f_ll5 {B : Nat → Int} {n p : Nat} {st : Nat → Int} {b : Int} {σ : zSto} (C : RC B n 0 st b (st 202) σ) (T : TKs B n p σ) (hb : b ≤ (tkF B n p : Nat)) (hE : tkF B n p < tkE B n p) (a2 : Int32) (h2 : ti a2 = (tkF B n p : Nat)) {P : Int32 → zSto → Prop} (W : RW B n 0 (hmN 5) (tkE B n p) (ap 5 st (vlN B n (tkE B n p)) (plN B n (tkE B n p)) (tkF B n p : Nat)) P) : w_X10_lineLine (6644084 : Int64) a2 σ P := by
  have l0 := lit_0
  have l1 := lit_1
  have W' := RW_m (Q := fun r σ => (r = 0 ∨ r = 1) → ((r = 0 ∨ r = 1) ∧ P r σ)) W (fun r σ hr h => fun _ => ⟨hr, h⟩)
  unfold w_X10_lineLine w_X10_plainOf
  repeat (first | refine ⟨fun q => absurd q (by decide), fun _ => ?_⟩ | refine ⟨fun _ => ?_, fun q => absurd (by decide) q⟩ | refine ⟨fun _ => ?_, fun q => absurd q (by decide)⟩ | refine ⟨fun q => absurd (by decide) q, fun _ => ?_⟩)
  refine f_tok C (p := tkE B n p) T.2.1 (fun σ2 C2 T2 _ => ?_)
  have C3 := RC_b C2 (b' := (tkE B n p : Nat)) (by omega)
  repeat (first | refine ⟨fun q => absurd q (by decide), fun _ => ?_⟩ | refine ⟨fun _ => ?_, fun q => absurd (by decide) q⟩ | refine ⟨fun _ => ?_, fun q => absurd q (by decide)⟩ | refine ⟨fun q => absurd (by decide) q, fun _ => ?_⟩)
  exact f_plainR (s := 3) (by omega) C3 T2.1 _ _ _ l0 lit_9 lit_3 W
theorem f_ll6 {B : Nat → Int} {n p : Nat} {st : Nat → Int} {b : Int} {σ : zSto} (C : RC B n 0 st b (st 202) σ) (T : TKs B n p σ) (hb : b ≤ (tkF B n p : Nat)) (hE : tkF B n p < tkE B n p) (a2 : Int32) (h2 : ti a2 = (tkF B n p : Nat)) {P : Int32 → zSto → Prop} (W : RW B n 0 (hmN 6) (tkE B n p) (ap 6 st (vlN B n (tkE B n p)) (plN B n (tkE B n p)) (tkF B n p : Nat)) P) : w_X10_lineLine (444300616549 : Int64) a2 σ P := by
  have l0 := lit_0
  have l1 := lit_1
  have W' := RW_m (Q := fun r σ => (r = 0 ∨ r = 1) → ((r = 0 ∨ r = 1) ∧ P r σ)) W (fun r σ hr h => fun _ => ⟨hr, h⟩)
  unfold w_X10_lineLine w_X10_plainOf
  repeat (first | refine ⟨fun q => absurd q (by decide), fun _ => ?_⟩ | refine ⟨fun _ => ?_, fun q => absurd (by decide) q⟩ | refine ⟨fun _ => ?_, fun q => absurd q (by decide)⟩ | refine ⟨fun q => absurd (by decide) q, fun _ => ?_⟩)
  refine f_tok C (p := tkE B n p) T.2.1 (fun σ2 C2 T2 _ => ?_)
  have C3 := RC_b C2 (b' := (tkE B n p : Nat)) (by omega)
  repeat (first | refine ⟨fun q => absurd q (by decide), fun _ => ?_⟩ | refine ⟨fun _ => ?_, fun q => absurd (by decide) q⟩ | refine ⟨fun _ => ?_, fun q => absurd q (by decide)⟩ | refine ⟨fun q => absurd (by decide) q, fun _ => ?_⟩)
  exact f_plainR (s := 4) (by omega) C3 T2.1 _ _ _ l0 lit_60 lit_4 W
theorem f_ll7 {B : Nat → Int} {n p : Nat} {st : Nat → Int} {b : Int} {σ : zSto} (C : RC B n 0 st b (st 202) σ) (T : TKs B n p σ) (hb : b ≤ (tkF B n p : Nat)) (hE : tkF B n p < tkE B n p) (a2 : Int32) (h2 : ti a2 = (tkF B n p : Nat)) {P : Int32 → zSto → Prop} (W : RW B n 0 (hmN 7) (tkE B n p) (ap 7 st (vlN B n (tkE B n p)) (plN B n (tkE B n p)) (tkF B n p : Nat)) P) : w_X10_lineLine (108205047312240 : Int64) a2 σ P := by
  have l0 := lit_0
  have l1 := lit_1
  have W' := RW_m (Q := fun r σ => (r = 0 ∨ r = 1) → ((r = 0 ∨ r = 1) ∧ P r σ)) W (fun r σ hr h => fun _ => ⟨hr, h⟩)
  unfold w_X10_lineLine w_X10_plainOf
  repeat (first | refine ⟨fun q => absurd q (by decide), fun _ => ?_⟩ | refine ⟨fun _ => ?_, fun q => absurd (by decide) q⟩ | refine ⟨fun _ => ?_, fun q => absurd q (by decide)⟩ | refine ⟨fun q => absurd (by decide) q, fun _ => ?_⟩)
  refine f_tok C (p := tkE B n p) T.2.1 (fun σ2 C2 T2 _ => ?_)
  have C3 := RC_b C2 (b' := (tkE B n p : Nat)) (by omega)
  repeat (first | refine ⟨fun q => absurd q (by decide), fun _ => ?_⟩ | refine ⟨fun _ => ?_, fun q => absurd (by decide) q⟩ | refine ⟨fun _ => ?_, fun q => absurd q (by decide)⟩ | refine ⟨fun q => absurd (by decide) q, fun _ => ?_⟩)
  exact f_plainR (s := 5) (by omega) C3 T2.1 _ _ _ l0 lit_9 lit_5 W
theorem f_ll8 {B : Nat → Int} {n p : Nat} {st : Nat → Int} {b : Int} {σ : zSto} (C : RC B n 0 st b (st 202) σ) (T : TKs B n p σ) (hb : b ≤ (tkF B n p : Nat)) (hE : tkF B n p < tkE B n p) (a2 : Int32) (h2 : ti a2 = (tkF B n p : Nat)) {P : Int32 → zSto → Prop} (W : RW B n 0 (hmN 8) (tkE B n p) (ap 8 st (vlN B n (tkE B n p)) (plN B n (tkE B n p)) (tkF B n p : Nat)) P) : w_X10_lineLine (478694368626 : Int64) a2 σ P := by
  have l0 := lit_0
  have l1 := lit_1
  have W' := RW_m (Q := fun r σ => (r = 0 ∨ r = 1) → ((r = 0 ∨ r = 1) ∧ P r σ)) W (fun r σ hr h => fun _ => ⟨hr, h⟩)
  unfold w_X10_lineLine w_X10_plainOf
  repeat (first | refine ⟨fun q => absurd q (by decide), fun _ => ?_⟩ | refine ⟨fun _ => ?_, fun q => absurd (by decide) q⟩ | refine ⟨fun _ => ?_, fun q => absurd q (by decide)⟩ | refine ⟨fun q => absurd (by decide) q, fun _ => ?_⟩)
  refine f_tok C (p := tkE B n p) T.2.1 (fun σ2 C2 T2 _ => ?_)
  have C3 := RC_b C2 (b' := (tkE B n p : Nat)) (by omega)
  repeat (first | refine ⟨fun q => absurd q (by decide), fun _ => ?_⟩ | refine ⟨fun _ => ?_, fun q => absurd (by decide) q⟩ | refine ⟨fun _ => ?_, fun q => absurd q (by decide)⟩ | refine ⟨fun q => absurd (by decide) q, fun _ => ?_⟩)
  exact f_plainR (s := 6) (by omega) C3 T2.1 _ _ _ l0 lit_999 lit_6 W
theorem f_lineLine {B : Nat → Int} {n p : Nat} {st : Nat → Int} {b : Int} {σ : zSto} (C : RC B n 0 st b (st 202) σ) (T : TKs B n p σ) (hb : b ≤ (tkF B n p : Nat)) (hE : tkF B n p < tkE B n p) (a2 : Int32) (h2 : ti a2 = (tkF B n p : Nat)) {P : Int32 → zSto → Prop} (a1 : Int64) (hn : wcd 0 (tl a1) = -1 → ∀ σ2, zRg σ2 → ti (σ2.1 223 15) = (tkF B n p : Nat) → P 0 σ2) (hy : wcd 0 (tl a1) ≠ -1 → RW B n 0 (hmN (wcd 0 (tl a1))) (tkE B n p) (ap (wcd 0 (tl a1)) st (vlN B n (tkE B n p)) (plN B n (tkE B n p)) (tkF B n p : Nat)) P) : w_X10_lineLine a1 a2 σ P := by
  by_cases c0 : tl a1 = 1886352244
  · rw [c0] at hy
    have e := tl_inj (c0.trans tlW.1.symm)
    rw [e]
    exact f_ll0 C T hb hE a2 h2 (hy (by decide))
  by_cases c1 : tl a1 = 491394458994
  · rw [c1] at hy
    have e := tl_inj (c1.trans tlW.2.1.symm)
    rw [e]
    exact f_ll1 C T hb hE a2 h2 (hy (by decide))
  by_cases c2 : tl a1 = 32497584235442030
  · rw [c2] at hy
    have e := tl_inj (c2.trans tlW.2.2.1.symm)
    rw [e]
    exact f_ll2 C T hb hE a2 h2 (hy (by decide))
  by_cases c3 : tl a1 = 1868850291
  · rw [c3] at hy
    have e := tl_inj (c3.trans tlW.2.2.2.1.symm)
    rw [e]
    exact f_ll3 C T hb hE a2 h2 (hy (by decide))
  by_cases c4 : tl a1 = 1751215220
  · rw [c4] at hy
    have e := tl_inj (c4.trans tlW.2.2.2.2.1.symm)
    rw [e]
    exact f_ll4 C T hb hE a2 h2 (hy (by decide))
  by_cases c5 : tl a1 = 6644084
  · rw [c5] at hy
    have e := tl_inj (c5.trans tlW.2.2.2.2.2.1.symm)
    rw [e]
    exact f_ll5 C T hb hE a2 h2 (hy (by decide))
  by_cases c6 : tl a1 = 444300616549
  · rw [c6] at hy
    have e := tl_inj (c6.trans tlW.2.2.2.2.2.2.1.symm)
    rw [e]
    exact f_ll6 C T hb hE a2 h2 (hy (by decide))
  by_cases c7 : tl a1 = 108205047312240
  · rw [c7] at hy
    have e := tl_inj (c7.trans tlW.2.2.2.2.2.2.2.1.symm)
    rw [e]
    exact f_ll7 C T hb hE a2 h2 (hy (by decide))
  by_cases c8 : tl a1 = 478694368626
  · rw [c8] at hy
    have e := tl_inj (c8.trans tlW.2.2.2.2.2.2.2.2.1.symm)
    rw [e]
    exact f_ll8 C T hb hE a2 h2 (hy (by decide))
  have n0 := lg_n tlW.1 c0
  have n1 := lg_n tlW.2.1 c1
  have n2 := lg_n tlW.2.2.1 c2
  have n3 := lg_n tlW.2.2.2.1 c3
  have n4 := lg_n tlW.2.2.2.2.1 c4
  have n5 := lg_n tlW.2.2.2.2.2.1 c5
  have n6 := lg_n tlW.2.2.2.2.2.2.1 c6
  have n7 := lg_n tlW.2.2.2.2.2.2.2.1 c7
  have n8 := lg_n tlW.2.2.2.2.2.2.2.2.1 c8
  have ew : wcd 0 (tl a1) = -1 := by
    unfold wcd
    rw [if_neg (by decide), if_neg (by decide), if_neg c0, if_neg c1, if_neg c2, if_neg c3, if_neg c4, if_neg c5, if_neg c6, if_neg c7, if_neg c8]
  unfold w_X10_lineLine w_X10_plainOf
  repeat (first | refine ⟨fun _ => ?_, fun q => absurd q (by assumption)⟩ | refine ⟨fun q => absurd q (by assumption), fun _ => ?_⟩ | refine ⟨fun q => absurd rfl q, fun _ => ?_⟩)
  exact f_fails C.1 T (fun σ2 I2 e2 => fun _ => ⟨Or.inl rfl, hn ew σ2 I2 e2⟩)
