theorem wb_tb (n : Nat) : (lN n).toBitVec = BitVec.ofNat 64 n := rfl
theorem wb_inj {a b : Int64} (h : a.toBitVec = b.toBitVec) : a = b := Int64.toBitVec_inj.mp h
theorem wb_tn {n : Nat} (h : n < 2 ^ 64) : (lN n).toBitVec.toNat = n := by rw [wb_tb, BitVec.toNat_ofNat, Nat.mod_eq_of_lt h]
theorem wb_of (x : Int64) : ∃ n, n < 2 ^ 64 ∧ x = lN n := ⟨x.toBitVec.toNat, x.toBitVec.isLt, wb_inj (by rw [wb_tb]; simp)⟩
theorem wb_of32 (x : Int32) : ∃ n, n < 2 ^ 32 ∧ x = nI n := ⟨x.toBitVec.toNat, x.toBitVec.isLt, Int32.toBitVec_inj.mp (by show _ = BitVec.ofNat 32 _; simp)⟩
theorem wb_c : ∀ k, k < 64 → ((nI k).toInt64 &&& 63) = lN k := by decide +kernel
theorem wb_cu : ∀ k, k < 64 → ((nI k).toInt64.toUInt64 &&& Int64.toUInt64 63) = UInt64.ofNat k := by decide +kernel
theorem wb_sm : ∀ k, k < 64 → (BitVec.ofNat 64 k).smod 64 = BitVec.ofNat 64 k := by decide +kernel
theorem wb_pw {a b : Nat} (h : a ≤ b) : 2 ^ b = 2 ^ a * 2 ^ (b - a) := by rw [← Nat.pow_add]; congr 1; omega
theorem wb_lt2 {a b : Nat} (h : a < b) : 2 ^ a < 2 ^ b := Nat.pow_lt_pow_right (by decide) h
theorem wb_mod (n : Nat) : lN n = lN (n % 2 ^ 64) := wb_inj (by rw [wb_tb, wb_tb]; apply BitVec.eq_of_toNat_eq; rw [BitVec.toNat_ofNat, BitVec.toNat_ofNat, Nat.mod_mod])
theorem wb_shr {n k : Nat} (hn : n < 2 ^ 64) (hk : k < 64) : ((lN n).toUInt64 >>> ((nI k).toInt64.toUInt64 &&& Int64.toUInt64 63)).toInt64 = lN (n / 2 ^ k) := by
  rw [wb_cu k hk]
  apply wb_inj
  apply BitVec.eq_of_toNat_eq
  show ((lN n).toUInt64 >>> UInt64.ofNat k).toNat = (BitVec.ofNat 64 _).toNat
  have h1 : (UInt64.ofNat k).toNat = k := by
    show (BitVec.ofNat 64 k).toNat = k
    rw [BitVec.toNat_ofNat, Nat.mod_eq_of_lt (by omega)]
  have h2 : (lN n).toUInt64.toNat = n := wb_tn hn
  rw [UInt64.toNat_shiftRight, h1, h2, Nat.mod_eq_of_lt hk, Nat.shiftRight_eq_div_pow, BitVec.toNat_ofNat, Nat.mod_eq_of_lt (Nat.lt_of_le_of_lt (Nat.div_le_self _ _) hn)]
theorem wb_shl (n : Nat) {k : Nat} (hk : k < 64) : lN n <<< ((nI k).toInt64 &&& 63) = lN (n * 2 ^ k) := by
  rw [wb_c k hk]
  apply wb_inj
  rw [Int64.toBitVec_shiftLeft, wb_tb, wb_tb, wb_tb, wb_sm k hk]
  apply BitVec.eq_of_toNat_eq
  rw [BitVec.shiftLeft_eq', BitVec.toNat_shiftLeft, BitVec.toNat_ofNat, BitVec.toNat_ofNat, BitVec.toNat_ofNat, Nat.mod_eq_of_lt (show k < 2 ^ 64 by omega), Nat.shiftLeft_eq, Nat.mul_mod, Nat.mod_mod, ← Nat.mul_mod]
theorem wb_and {a b : Nat} (ha : a < 2 ^ 64) (hb : b < 2 ^ 64) : lN a &&& lN b = lN (a &&& b) := by
  apply wb_inj
  rw [Int64.toBitVec_and, wb_tb, wb_tb, wb_tb]
  apply BitVec.eq_of_toNat_eq
  rw [BitVec.toNat_and, BitVec.toNat_ofNat, BitVec.toNat_ofNat, BitVec.toNat_ofNat, Nat.mod_eq_of_lt ha, Nat.mod_eq_of_lt hb, Nat.mod_eq_of_lt (Nat.and_lt_two_pow _ hb)]
theorem wb_or {a b : Nat} (ha : a < 2 ^ 64) (hb : b < 2 ^ 64) : lN a ||| lN b = lN (a ||| b) := by
  apply wb_inj
  rw [Int64.toBitVec_or, wb_tb, wb_tb, wb_tb]
  apply BitVec.eq_of_toNat_eq
  rw [BitVec.toNat_or, BitVec.toNat_ofNat, BitVec.toNat_ofNat, BitVec.toNat_ofNat, Nat.mod_eq_of_lt ha, Nat.mod_eq_of_lt hb, Nat.mod_eq_of_lt (Nat.or_lt_two_pow ha hb)]
/-! the reference's token -/
theorem and255 {x : Int32} (h : -128 ≤ ti x ∧ ti x ≤ 127) : ti (x &&& (255 : Int32)) = if ti x < 0 then ti x + 256 else ti x := by
  rw [pk_and x 8 (by decide), nI_t (by have := Nat.mod_lt x.toBitVec.toNat (show 2 ^ 8 > 0 by decide); omega)]
  have e : ti x = x.toBitVec.toInt := by rw [ti_eq]; rfl
  have b := x.toBitVec.isLt
  rw [BitVec.toInt_eq_toNat_cond] at e
  by_cases c : 2 * x.toBitVec.toNat < 2 ^ 32
  · rw [if_pos c] at e
    rw [if_neg (by omega)]
    omega
  · rw [if_neg c] at e
    rw [if_pos (by omega)]
    omega
def sv (b : Int) : Int := if b < 0 then b + 256 else b
noncomputable def gB (σ : zSto) : Nat → Int := fun j => ti (σ.1 224 j)
theorem b_X10_see {σ : zSto} (I : zRg σ) {P : Int32 → zSto → Prop} (hP : ∀ r, (ti (σ.1 223 9) < ti (σ.1 223 10) → ti r = sv (gB σ (ti (σ.1 223 9)).toNat)) → (ti (σ.1 223 10) ≤ ti (σ.1 223 9) → ti r = -1) → P r σ) : w_X10_see σ P := by
  unfold w_X10_see
  have d9 : 0 ≤ ti (σ.1 223 9) ∧ ti (σ.1 223 9) ≤ 600 := rdg I kd_223 rfl rfl
  have tn := tn_eq (σ.1 223 9)
  refine ⟨fun q => hP _ (fun z => by have := le_t q; omega) (fun _ => lit_m1), fun q => ⟨vin (by omega), hP _ (fun _ => ?_) (fun z => by have := nle_t q; omega)⟩⟩
  have d : -128 ≤ ti (σ.1 224 (σ.1 223 9).toNatClampNeg) ∧ ti (σ.1 224 (σ.1 223 9).toNatClampNeg) ≤ 127 := rdg I kd_224 rfl rfl
  rw [and255 d, tn]
  rfl
theorem sv_bl {b : Int} (h : -128 ≤ b ∧ b ≤ 127) : (sv b = 10 ∨ sv b = 32) ↔ cBl b = true := by
  unfold sv cBl
  rw [decide_eq_true_iff]
  split <;> omega
theorem sv_lt {b : Int} (h : -128 ≤ b ∧ b ≤ 127) : (97 ≤ sv b ∧ sv b ≤ 122) ↔ cLt b = true := by
  unfold sv cLt
  rw [decide_eq_true_iff]
  split <;> omega
theorem sv_dg {b : Int} (h : -128 ≤ b ∧ b ≤ 127) : (48 ≤ sv b ∧ sv b ≤ 57) ↔ cDg b = true := by
  unfold sv cDg
  rw [decide_eq_true_iff]
  split <;> omega
theorem sv_59 {b : Int} (h : -128 ≤ b ∧ b ≤ 127) : sv b = 59 ↔ b = 59 := by
  unfold sv
  split <;> omega
theorem sv_nn {b : Int} (h : -128 ≤ b ∧ b ≤ 127) : 0 ≤ sv b := by
  unfold sv
  split <;> omega
theorem sv_id {b : Int} (h : 0 ≤ b) : sv b = b := by
  unfold sv
  rw [if_neg (by omega)]
/-- what a token of the reference changes -/
def Er (σ σ' : zSto) : Prop := ∀ k j, ¬ (k = 223 ∧ (j = 9 ∨ j = 11 ∨ j = 12 ∨ j = 13)) → σ'.1 k j = σ.1 k j
theorem Er.tr {a b c : zSto} (h : Er a b) (h2 : Er b c) : Er a c := fun k j q => (h2 k j q).trans (h k j q)
theorem Er_w {σ σ2 : zSto} {j : Nat} {v : Int32} (e : σ2 = zI σ 223 j v) (hj : j = 9 ∨ j = 11 ∨ j = 12 ∨ j = 13) : Er σ σ2 := fun k j' q => zI_q' e (by omega)
theorem Er_j {σ σ2 : zSto} {j : Nat} {v : Int64} (e : σ2 = zJ σ 223 j v) : Er σ σ2 := fun k j' q => by rw [e]; rfl
theorem gB_eq {σ σ' : zSto} (h : Er σ σ') : gB σ' = gB σ := by
  funext j
  exact congrArg ti (h 224 j (by omega))
/-- words as numbers of base 256 -/
def wdV (B : Nat → Int) (q : Nat) : Nat → Int
  | 0 => 0
  | k + 1 => 256 * wdV B q k + B (q + k)
def tkW (B : Nat → Int) (n p : Nat) : Int := if tkE B n p ≤ tkF B n p + 8 then wdV B (tkF B n p) (tkE B n p - tkF B n p) else 0
def srt (k : Int) : Int := if k = 0 then 0 else if k = 1 then 2 else if k = 2 then 3 else if k = 3 then 4 else 1
theorem lN_t {n : Nat} (h : n < 9223372036854775808) : tl (lN n) = n := by rw [tl_eq]; exact Int64.toInt_ofNat_of_lt (by omega)
theorem toNL {x : Int64} (h : 0 ≤ tl x) : x = lN (tl x).toNat := by
  have := (tl_top x).2
  exact tl_inj (by rw [lN_t (by omega)]; omega)
/-- a byte more behind a word -/
theorem tl_shor {w : Int64} {r : Int32} (h1 : 0 ≤ tl w) (h2 : tl w < 36028797018963968) (h3 : 0 ≤ ti r ∧ ti r < 256) : tl ((w <<< ((8 : Int32).toInt64 &&& 63)) ||| r.toInt64) = 256 * tl w + ti r := by
  obtain ⟨a, ha⟩ : ∃ a, a = (tl w).toNat := ⟨_, rfl⟩
  obtain ⟨b, hb⟩ : ∃ b, b = (ti r).toNat := ⟨_, rfl⟩
  have e1 := toNL h1
  have e2 : r.toInt64 = lN b := tl_inj (by rw [tl_i, lN_t (by omega)]; omega)
  rw [← ha] at e1
  have e3 := wb_shl a (k := 8) (by decide)
  have e4 : (8 : Int32) = nI 8 := by decide
  rw [e1, e2, e4, e3, wb_or (by omega) (by omega)]
  have e5 : a * 2 ^ 8 ||| b = a * 2 ^ 8 + b := by
    have := Nat.shiftLeft_add_eq_or_of_lt (show b < 2 ^ 8 by omega) a
    rw [Nat.shiftLeft_eq] at this
    exact this.symm
  rw [e5, lN_t (by omega), lN_t (by omega)]
  omega
def bdW : Nat → Int
  | 0 => 1
  | k + 1 => 128 * 256 ^ k
theorem bdW_s (k : Nat) : 256 * (bdW (k + 1)) = bdW (k + 2) := by
  show 256 * (128 * 256 ^ k) = 128 * 256 ^ (k + 1)
  rw [Int.pow_succ]
  omega
theorem bdW_8 : ∀ k : Fin 9, bdW k.val ≤ 9223372036854775808 ∧ (k.val ≤ 7 → bdW k.val ≤ 36028797018963968) := by decide
theorem wdV_1 (B : Nat → Int) (q k : Nat) : wdV B q (k + 1) = 256 * wdV B q k + B (q + k) := rfl
set_option maxHeartbeats 4000000 in
theorem f_X10_token_74 {σ0 : zSto} (N E S : Nat) (hN : ti (σ0.1 223 10) = (N : Int)) {P : zSto → Prop} (hP : ∀ σ2, zRg σ2 → Er σ0 σ2 → ti (σ2.1 223 11) = (S : Int) → ti (σ2.1 223 9) = (E : Int) → ti (σ2.1 223 12) = 2 → tl (σ2.2 223 14) = (if E ≤ S + 8 then wdV (gB σ0) S (E - S) else 0) → P σ2) : ∀ (k q : Nat) (x_2 : Int32) (σ : zSto), zRg σ → Er σ0 σ → ti (σ.1 223 11) = (S : Int) → S ≤ q → ti (σ.1 223 9) = (q : Int) → ti x_2 = (q : Int) - (S : Int) → adv cLt (gB σ0) N 601 q = E → (q ≤ S + 8 → tl (σ.2 223 14) = wdV (gB σ0) S (q - S) ∧ 0 ≤ wdV (gB σ0) S (q - S) ∧ wdV (gB σ0) S (q - S) < bdW (q - S)) → N - q < k → w_X10_token_74 P k x_2 σ := by
  have l1 := lit_1
  have l2 := lit_2
  have l8 := lit_8
  have l97 := lit_97
  have l122 := lit_122
  intro k
  induction k with
  | zero => intro q x_2 σ I h1 h2 h3 h4 h5 h6 h7 h8; exfalso; omega
  | succ k ih =>
    intro q x_2 σ I h1 h2 h3 h4 h5 h6 h7 h8
    unfold w_X10_token_74
    have d9 : 0 ≤ ti (σ.1 223 9) ∧ ti (σ.1 223 9) ≤ 600 := rdg I kd_223 rfl rfl
    have d10 : 0 ≤ ti (σ.1 223 10) ∧ ti (σ.1 223 10) ≤ 600 := rdg I kd_223 rfl rfl
    have n10 : ti (σ.1 223 10) = (N : Int) := by rw [h1 223 10 (by omega)]; exact hN
    have dB : -128 ≤ gB σ0 q ∧ gB σ0 q ≤ 127 := by
      have e : gB σ0 q = ti (σ.1 224 q) := by rw [h1 224 q (by omega)]; rfl
      rw [e]
      exact rdg I kd_224 rfl rfl
    have eB : gB σ (ti (σ.1 223 9)).toNat = gB σ0 q := by rw [gB_eq h1, show (ti (σ.1 223 9)).toNat = q by omega]
    refine b_X10_see I (fun r33 z1 z2 => ?_)
    rw [eB] at z1
    refine b_X10_in r33 _ _ (fun r35 z => ?_)
    intro b
    refine ⟨fun q1 => ?_, fun q1 => ?_⟩
    · have c2 : ¬ (q < N ∧ cLt (gB σ0 q) = true) := fun g => by
        have g2 := (sv_lt dB).mpr g.2
        have g3 := z1 (by omega)
        exact z.mpr (by omega) q1
      rw [adv_no c2] at h6
      subst h6
      have g : ∀ (v : Int64) (σ36 σ37 : zSto), σ36 = zJ σ 223 14 v → σ37 = zI σ36 223 12 (2 : Int32) → tl v = (if q ≤ S + 8 then wdV (gB σ0) S (q - S) else 0) → P σ37 := by
        intro v σ36 σ37 e36 e37 hv
        have I36 : zRg σ36 := by rw [e36]; exact wJg I
        have I37 : zRg σ37 := by rw [e37]; exact wIg I36 kd_223 rfl rfl (full32 _)
        refine hP σ37 I37 ((h1.tr (Er_j e36)).tr (Er_w e37 (by omega))) ?_ ?_ ?_ ?_
        · rw [e37, zI_q (Or.inr (by decide)), e36]; exact h2
        · rw [e37, zI_q (Or.inr (by decide)), e36]; exact h4
        · rw [e37, zI_s]; exact l2
        · rw [e37]
          show tl (σ36.2 223 14) = _
          rw [e36, zJ_s]; exact hv
      refine ⟨fun q2 σ36 e36 σ37 e37 => g _ σ36 σ37 e36 e37 ?_, fun q2 σ38 e38 σ39 e39 => g _ σ38 σ39 e38 e39 ?_⟩
      · have c := le_t q2
        rw [if_pos (by omega)]
        exact (h7 (by omega)).1
      · have c := nle_t q2
        rw [if_neg (by omega)]
        exact tl_0
    · have hz := z.mp q1
      have c1 : ti (σ.1 223 9) < ti (σ.1 223 10) := by
        by_cases c : ti (σ.1 223 9) < ti (σ.1 223 10)
        · exact c
        · have := z2 (by omega)
          omega
      have g3 := z1 c1
      have c2 : cLt (gB σ0 q) = true := (sv_lt dB).mp (by omega)
      have c3 := of_decide_eq_true c2
      have g4 := sv_id (b := gB σ0 q) (by omega)
      refine b_X10_see I (fun r41 y1 y2 => ?_)
      rw [eB] at y1
      have g5 := y1 c1
      intro σ42 e42 σ43 e43 x44 e44
      have I42 : zRg σ42 := by rw [e42]; exact wJg I
      have g9 : ti (σ42.1 223 9) = (q : Int) := by rw [e42]; exact h4
      have t9 := tadd (x := σ42.1 223 9) (y := (1 : Int32)) (by omega)
      have I43 : zRg σ43 := by rw [e43]; exact wIg (a := 0) (b := 600) I42 kd_223 rfl rfl (by omega)
      have tx := tadd (x := x_2) (y := (1 : Int32)) (by omega)
      have tx2 := eq_t e44
      refine ih (q + 1) x44 σ43 I43 ((h1.tr (Er_j e42)).tr (Er_w e43 (by omega))) ?_ (by omega) ?_ (by omega) ?_ (fun z3 => ?_) (by omega)
      · rw [e43, zI_q (Or.inr (by decide)), e42]; exact h2
      · rw [e43, zI_s]; omega
      · rw [adv_step (by omega) ⟨by omega, c2⟩]; exact h6
      · obtain ⟨y3, y4, y5⟩ := h7 (by omega)
        have eq1 : q + 1 - S = (q - S) + 1 := by omega
        have ed := wdV_1 (gB σ0) S (q - S)
        rw [show S + (q - S) = q by omega] at ed
        have bb := (bdW_8 ⟨q - S, by omega⟩).2 (by show q - S ≤ 7; omega)
        have bb' : bdW (q - S) ≤ 36028797018963968 := bb
        have v := tl_shor (w := σ.2 223 14) (r := r41) (by omega) (by omega) (by omega)
        rw [eq1, ed]
        refine ⟨?_, by omega, ?_⟩
        · rw [e43]
          show tl (σ42.2 223 14) = _
          rw [e42, zJ_s, v]; omega
        · by_cases c5 : q - S = 0
          · rw [c5] at y5 ⊢
            have : bdW 0 = 1 := rfl
            show _ < (128 : Int) * 256 ^ 0
            omega
          · obtain ⟨m, hm⟩ : ∃ m, q - S = m + 1 := ⟨q - S - 1, by omega⟩
            have e6 : wdV (gB σ0) S (q - S) = wdV (gB σ0) S (m + 1) := by rw [hm]
            rw [hm] at y5 ⊢
            have e7 : 256 * bdW (m + 1) = bdW (m + 1 + 1) := bdW_s m
            omega
set_option maxHeartbeats 4000000 in
theorem f_X10_token_163 {σ0 : zSto} (N E S : Nat) (hN : ti (σ0.1 223 10) = (N : Int)) {P : zSto → Prop} (hP : ∀ σ2, zRg σ2 → Er σ0 σ2 → ti (σ2.1 223 11) = (S : Int) → ti (σ2.1 223 9) = (E : Int) → ti (σ2.1 223 12) = (if E ≤ S + 3 then 3 else 1) → (E ≤ S + 3 → ti (σ2.1 223 13) = dgV (gB σ0) S (E - S)) → P σ2) : ∀ (k q : Nat) (x_2 : Int32) (σ : zSto), zRg σ → Er σ0 σ → ti (σ.1 223 11) = (S : Int) → S ≤ q → ti (σ.1 223 9) = (q : Int) → ti x_2 = (q : Int) - (S : Int) → adv cDg (gB σ0) N 601 q = E → (q ≤ S + 3 → ti (σ.1 223 13) = dgV (gB σ0) S (q - S) ∧ 0 ≤ dgV (gB σ0) S (q - S) ∧ (q = S → dgV (gB σ0) S (q - S) ≤ 0) ∧ (q = S + 1 → dgV (gB σ0) S (q - S) ≤ 9) ∧ (q = S + 2 → dgV (gB σ0) S (q - S) ≤ 99)) → N - q < k → w_X10_token_163 P k x_2 σ := by
  have l1 := lit_1
  have l3 := lit_3
  have l10 := lit_10
  have l48 := lit_48
  have l57 := lit_57
  intro k
  induction k with
  | zero => intro q x_2 σ I h1 h2 h3 h4 h5 h6 h7 h8; exfalso; omega
  | succ k ih =>
    intro q x_2 σ I h1 h2 h3 h4 h5 h6 h7 h8
    unfold w_X10_token_163
    have d9 : 0 ≤ ti (σ.1 223 9) ∧ ti (σ.1 223 9) ≤ 600 := rdg I kd_223 rfl rfl
    have d10 : 0 ≤ ti (σ.1 223 10) ∧ ti (σ.1 223 10) ≤ 600 := rdg I kd_223 rfl rfl
    have d13 : 0 ≤ ti (σ.1 223 13) ∧ ti (σ.1 223 13) ≤ 999 := rdg I kd_223 rfl rfl
    have n10 : ti (σ.1 223 10) = (N : Int) := by rw [h1 223 10 (by omega)]; exact hN
    have dB : -128 ≤ gB σ0 q ∧ gB σ0 q ≤ 127 := by
      have e : gB σ0 q = ti (σ.1 224 q) := by rw [h1 224 q (by omega)]; rfl
      rw [e]
      exact rdg I kd_224 rfl rfl
    have eB : gB σ (ti (σ.1 223 9)).toNat = gB σ0 q := by rw [gB_eq h1, show (ti (σ.1 223 9)).toNat = q by omega]
    refine b_X10_see I (fun r19 z1 z2 => ?_)
    rw [eB] at z1
    refine b_X10_in r19 _ _ (fun r21 z => ?_)
    intro b
    refine ⟨fun q1 => ?_, fun q1 => ?_⟩
    · have c2 : ¬ (q < N ∧ cDg (gB σ0 q) = true) := fun g => by
        have g2 := (sv_dg dB).mpr g.2
        have g3 := z1 (by omega)
        exact z.mpr (by omega) q1
      rw [adv_no c2] at h6
      subst h6
      have g : ∀ (v : Int32) (σ22 : zSto), σ22 = zI σ 223 12 v → ti v = (if q ≤ S + 3 then 3 else 1) → P σ22 := by
        intro v σ22 e22 hv
        refine hP σ22 (by rw [e22]; exact wIg I kd_223 rfl rfl (full32 _)) (h1.tr (Er_w e22 (by omega))) ?_ ?_ ?_ (fun z3 => ?_)
        · rw [e22, zI_q (Or.inr (by decide))]; exact h2
        · rw [e22, zI_q (Or.inr (by decide))]; exact h4
        · rw [e22, zI_s]; exact hv
        · rw [e22, zI_q (Or.inr (by decide))]; exact (h7 z3).1
      refine ⟨fun q2 σ22 e22 => g _ σ22 e22 ?_, fun q2 σ23 e23 => g _ σ23 e23 ?_⟩
      · have c := le_t q2
        rw [if_pos (by omega)]; exact l3
      · have c := nle_t q2
        rw [if_neg (by omega)]; exact l1
    · have hz := z.mp q1
      have c1 : ti (σ.1 223 9) < ti (σ.1 223 10) := by
        by_cases c : ti (σ.1 223 9) < ti (σ.1 223 10)
        · exact c
        · have := z2 (by omega)
          omega
      have g3 := z1 c1
      have c2 : cDg (gB σ0 q) = true := (sv_dg dB).mp (by omega)
      have c3 := of_decide_eq_true c2
      have g4 := sv_id (b := gB σ0 q) (by omega)
      have tx := tadd (x := x_2) (y := (1 : Int32)) (by omega)
      have go : ∀ (v : Int32) (σa σb : zSto) (x' : Int32), σa = zI σ 223 13 v → (0 ≤ ti v ∧ ti v ≤ 999) → σb = zI σa 223 9 ((σa.1 223 9) + (1 : Int32)) → x' = x_2 + (1 : Int32) → (q + 1 ≤ S + 3 → ti v = dgV (gB σ0) S (q + 1 - S) ∧ 0 ≤ dgV (gB σ0) S (q + 1 - S) ∧ (q + 1 = S → dgV (gB σ0) S (q + 1 - S) ≤ 0) ∧ (q + 1 = S + 1 → dgV (gB σ0) S (q + 1 - S) ≤ 9) ∧ (q + 1 = S + 2 → dgV (gB σ0) S (q + 1 - S) ≤ 99)) → w_X10_token_163 P k x' σb := by
        intro v σa σb x' ea hv eb ex hd
        have Ia : zRg σa := by rw [ea]; exact wIg (a := 0) (b := 999) I kd_223 rfl rfl hv
        have g9 : ti (σa.1 223 9) = (q : Int) := by rw [ea, zI_q (Or.inr (by decide))]; exact h4
        have t9 := tadd (x := σa.1 223 9) (y := (1 : Int32)) (by omega)
        have Ib : zRg σb := by rw [eb]; exact wIg (a := 0) (b := 600) Ia kd_223 rfl rfl (by omega)
        have tx2 := eq_t ex
        refine ih (q + 1) x' σb Ib ((h1.tr (Er_w ea (by omega))).tr (Er_w eb (by omega))) ?_ (by omega) ?_ (by omega) ?_ (fun z3 => ?_) (by omega)
        · rw [eb, zI_q (Or.inr (by decide)), ea, zI_q (Or.inr (by decide))]; exact h2
        · rw [eb, zI_s]; omega
        · rw [adv_step (by omega) ⟨by omega, c2⟩]; exact h6
        · rw [eb, zI_q (Or.inr (by decide)), ea, zI_s]; exact hd z3
      refine ⟨fun q2 σ24 e24 σ25 e25 x26 e26 => go _ σ24 σ25 x26 e24 d13 e25 e26 (fun z3 => by have := le_t q2; omega), fun q2 => ?_⟩
      have c4 := nle_t q2
      refine b_X10_see I (fun r28 y1 y2 => ?_)
      rw [eB] at y1
      have g5 := y1 c1
      obtain ⟨y3, y4, y5, y6, y7⟩ := h7 (by omega)
      have ee : q + 1 - S = (q - S) + 1 := by omega
      have ed := dgV_1 (gB σ0) S (q - S)
      rw [show S + (q - S) = q by omega] at ed
      have v1 := tmull (x := (10 : Int32)) (y := σ.1 223 13) 10 lit_10 (by omega)
      have v2 := tadd (x := (10 : Int32) * σ.1 223 13) (y := r28) (by omega)
      have v3 := tsub (x := (10 : Int32) * σ.1 223 13 + r28) (y := (48 : Int32)) (by omega)
      intro σ29 e29 σ30 e30 x31 e31
      refine go _ σ29 σ30 x31 e29 (by omega) e30 e31 (fun z3 => ?_)
      rw [ee, ed]
      refine ⟨by omega, by omega, by omega, by omega, by omega⟩
/-- what the reference's token is -/
def NR (σ0 σ2 : zSto) : Prop := Er σ0 σ2 ∧ ti (σ2.1 223 11) = (tkF (gB σ0) (ti (σ0.1 223 10)).toNat (ti (σ0.1 223 9)).toNat : Nat) ∧ ti (σ2.1 223 9) = (tkE (gB σ0) (ti (σ0.1 223 10)).toNat (ti (σ0.1 223 9)).toNat : Nat) ∧ ti (σ2.1 223 12) = srt (tkK (gB σ0) (ti (σ0.1 223 10)).toNat (ti (σ0.1 223 9)).toNat) ∧ (tkK (gB σ0) (ti (σ0.1 223 10)).toNat (ti (σ0.1 223 9)).toNat = 2 → ti (σ2.1 223 13) = tkV (gB σ0) (ti (σ0.1 223 10)).toNat (ti (σ0.1 223 9)).toNat) ∧ (tkK (gB σ0) (ti (σ0.1 223 10)).toNat (ti (σ0.1 223 9)).toNat = 1 → tl (σ2.2 223 14) = tkW (gB σ0) (ti (σ0.1 223 10)).toNat (ti (σ0.1 223 9)).toNat)
set_option maxHeartbeats 4000000 in
theorem f_X10_token_0 {σ0 : zSto} (N p : Nat) (hN : ti (σ0.1 223 10) = (N : Int)) (hp : ti (σ0.1 223 9) = (p : Int)) {P : zSto → Prop} (hP : ∀ σ2, zRg σ2 → NR σ0 σ2 → P σ2) : ∀ (k q : Nat) (σ : zSto), zRg σ → Er σ0 σ → ti (σ.1 223 9) = (q : Int) → adv cBl (gB σ0) N 601 q = tkF (gB σ0) N p → N - q < k → w_X10_token_0 P k σ := by
  have l0 := lit_0
  have l1 := lit_1
  have l4 := lit_4
  have l10 := lit_10
  have l32 := lit_32
  have l48 := lit_48
  have l57 := lit_57
  have l59 := lit_59
  have l97 := lit_97
  have l122 := lit_122
  have eN : (ti (σ0.1 223 10)).toNat = N := by omega
  have ep : (ti (σ0.1 223 9)).toNat = p := by omega
  unfold NR at hP
  rw [eN, ep] at hP
  intro k
  induction k with
  | zero => intro q σ I h1 h2 h3 h4; exfalso; omega
  | succ k ih =>
    intro q σ I h1 h2 h3 h4
    unfold w_X10_token_0
    have d9 : 0 ≤ ti (σ.1 223 9) ∧ ti (σ.1 223 9) ≤ 600 := rdg I kd_223 rfl rfl
    have d10 : 0 ≤ ti (σ.1 223 10) ∧ ti (σ.1 223 10) ≤ 600 := rdg I kd_223 rfl rfl
    have n10 : ti (σ.1 223 10) = (N : Int) := by rw [h1 223 10 (by omega)]; exact hN
    have dB : -128 ≤ gB σ0 q ∧ gB σ0 q ≤ 127 := by
      have e : gB σ0 q = ti (σ.1 224 q) := by rw [h1 224 q (by omega)]; rfl
      rw [e]
      exact rdg I kd_224 rfl rfl
    have eB : gB σ (ti (σ.1 223 9)).toNat = gB σ0 q := by rw [gB_eq h1, show (ti (σ.1 223 9)).toNat = q by omega]
    have go : ∀ σ3 : zSto, σ3 = zI σ 223 9 ((σ.1 223 9) + (1 : Int32)) → q < N → cBl (gB σ0 q) = true → w_X10_token_0 P k σ3 := by
      intro σ3 e3 c1 c2
      have t := tadd (x := σ.1 223 9) (y := (1 : Int32)) (by omega)
      have I3 : zRg σ3 := by rw [e3]; exact wIg (a := 0) (b := 600) I kd_223 rfl rfl (by omega)
      refine ih (q + 1) σ3 I3 (h1.tr (Er_w e3 (by omega))) ?_ ?_ (by omega)
      · rw [e3, zI_s]; omega
      · rw [adv_step (by omega) ⟨c1, c2⟩]; exact h3
    refine b_X10_see I (fun r2 z1 z2 => ?_)
    rw [eB] at z1
    have inb : 0 ≤ ti r2 → q < N := fun g => by
      by_cases c : ti (σ.1 223 9) < ti (σ.1 223 10)
      · omega
      · have := z2 (by omega)
        omega
    refine ⟨fun q1 σ3 e3 => ?_, fun q1 => ?_⟩
    · have c := eq_t q1
      have c1 := inb (by omega)
      have g := z1 (by omega)
      exact go σ3 e3 c1 ((sv_bl dB).mp (by omega))
    have c10 := ne_t q1
    refine b_X10_see I (fun r5 y1 y2 => ?_)
    rw [eB] at y1
    refine ⟨fun q2 => ?_, fun q2 σ46 e46 => ?_⟩
    · have c32 := ne_t q2
      have stop : ¬ (q < N ∧ cBl (gB σ0 q) = true) := fun g => by
        have g1 := z1 (by omega)
        have g2 := y1 (by omega)
        have g3 := (sv_bl dB).mpr g.2
        omega
      have hq : q = tkF (gB σ0) N p := by rw [← h3, adv_no stop]
      have hE : Nat → (tkE (gB σ0) N p = if N ≤ q then q else if cLt (gB σ0 q) = true then adv cLt (gB σ0) N 601 q else if cDg (gB σ0 q) = true then adv cDg (gB σ0) N 601 q else q + 1) := fun _ => by rw [hq]; rfl
      have hK : Nat → (tkK (gB σ0) N p = if N ≤ q then 0 else if cLt (gB σ0 q) = true then 1 else if cDg (gB σ0 q) = true then (if tkE (gB σ0) N p ≤ q + 3 then 2 else 4) else if gB σ0 q = 59 then 3 else 4) := fun _ => by rw [hq]; rfl
      have hV : tkV (gB σ0) N p = dgV (gB σ0) q (tkE (gB σ0) N p - q) := by rw [hq]; rfl
      have hW : tkW (gB σ0) N p = if tkE (gB σ0) N p ≤ q + 8 then wdV (gB σ0) q (tkE (gB σ0) N p - q) else 0 := by rw [hq]; rfl
      rw [← hq] at hP
      intro σ6 e6
      have I6 : zRg σ6 := by rw [e6]; exact wIg (a := 0) (b := 600) I kd_223 rfl rfl d9
      have k6 : Er σ0 σ6 := h1.tr (Er_w e6 (by omega))
      have a11 : ti (σ6.1 223 11) = (q : Int) := by rw [e6, zI_s]; exact h2
      have a9 : ti (σ6.1 223 9) = (q : Int) := by rw [e6, zI_q (Or.inr (by decide))]; exact h2
      have a10 : ti (σ6.1 223 10) = (N : Int) := by rw [k6 223 10 (by omega)]; exact hN
      have eB6 : gB σ6 (ti (σ6.1 223 9)).toNat = gB σ0 q := by rw [gB_eq k6, show (ti (σ6.1 223 9)).toNat = q by omega]
      refine b_X10_see I6 (fun r8 x1 x2 => ?_)
      rw [eB6] at x1
      intro σ9 e9
      have I9 : zRg σ9 := by rw [e9]; exact wJg I6
      have k9 : Er σ0 σ9 := k6.tr (Er_j e9)
      have b11 : ti (σ9.1 223 11) = (q : Int) := by rw [e9]; exact a11
      have b9 : ti (σ9.1 223 9) = (q : Int) := by rw [e9]; exact a9
      have bw : tl (σ9.2 223 14) = 0 := by rw [e9, zJ_s]; exact tl_0
      refine ⟨fun q3 => ?_, fun q3 σ45 e45 => ?_⟩
      · have c3 := le_t q3
        have hqN : q < N := by
          by_cases c : q < N
          · exact c
          · have := x2 (by omega)
            omega
        have g8 := x1 (by omega)
        rw [if_neg (by omega)] at hE hK
        refine b_X10_in r8 _ _ (fun r11 z11 => ?_)
        intro bb11
        refine ⟨fun q4 => ?_, fun q4 => ?_⟩
        · have c4 : ¬ cLt (gB σ0 q) = true := fun g => by
            have g2 := (sv_lt dB).mpr g
            exact z11.mpr (by omega) q4
          rw [if_neg c4] at hE hK
          refine b_X10_in r8 _ _ (fun r13 z13 => ?_)
          intro bb13
          refine ⟨fun q5 => ?_, fun q5 => ?_⟩
          · have c5 : ¬ cDg (gB σ0 q) = true := fun g => by
              have g2 := (sv_dg dB).mpr g
              exact z13.mpr (by omega) q5
            rw [if_neg c5] at hE hK
            intro σ14 e14
            have t9 := tadd (x := σ9.1 223 9) (y := (1 : Int32)) (by omega)
            have I14 : zRg σ14 := by rw [e14]; exact wIg (a := 0) (b := 600) I9 kd_223 rfl rfl (by omega)
            have g : ∀ (v : Int32) (σ15 : zSto), σ15 = zI σ14 223 12 v → ti v = srt (tkK (gB σ0) N p) → tkK (gB σ0) N p ≠ 2 → tkK (gB σ0) N p ≠ 1 → P σ15 := by
              intro v σ15 e15 hv n2 n1
              refine hP σ15 (by rw [e15]; exact wIg I14 kd_223 rfl rfl (full32 _)) ⟨(k9.tr (Er_w e14 (by omega))).tr (Er_w e15 (by omega)), ?_, ?_, ?_, fun z => absurd z n2, fun z => absurd z n1⟩
              · rw [e15, zI_q (Or.inr (by decide)), e14, zI_q (Or.inr (by decide))]; exact b11
              · rw [e15, zI_q (Or.inr (by decide)), e14, zI_s, (hE 0)]; omega
              · rw [e15, zI_s]; exact hv
            refine ⟨fun q6 σ15 e15 => ?_, fun q6 σ16 e16 => ?_⟩
            · have c6 := ne_t q6
              have c7 : ¬ gB σ0 q = 59 := fun g' => by have := (sv_59 dB).mpr g'; omega
              rw [if_neg c7] at hK
              exact g _ σ15 e15 (by rw [(hK 0)]; exact l1) (by rw [(hK 0)]; decide) (by rw [(hK 0)]; decide)
            · have c6 := eq_t q6
              have c7 : gB σ0 q = 59 := (sv_59 dB).mp (by omega)
              rw [if_pos c7] at hK
              exact g _ σ16 e16 (by rw [(hK 0)]; exact l4) (by rw [(hK 0)]; decide) (by rw [(hK 0)]; decide)
          · have c5 : cDg (gB σ0 q) = true := (sv_dg dB).mp (by have := z13.mp q5; omega)
            rw [if_pos c5] at hE hK
            intro σ17 e17
            have I17 : zRg σ17 := by rw [e17]; exact wIg (a := 0) (b := 999) I9 kd_223 rfl rfl (by omega)
            refine ⟨1000, f_X10_token_163 N (tkE (gB σ0) N p) q hN (fun σ2 I2 u1 u2 u3 u4 u5 => hP σ2 I2 ⟨u1, u2, u3, ?_, fun z => ?_, fun z => ?_⟩) 1000 q (0 : Int32) σ17 I17 (k9.tr (Er_w e17 (by omega))) ?_ (Nat.le_refl _) ?_ (by omega) (hE 0).symm (fun _ => ⟨?_, ?_⟩) (by omega)⟩
            · rw [u4, (hK 0)]
              by_cases c6 : tkE (gB σ0) N p ≤ q + 3
              · rw [if_pos c6, if_pos c6]; rfl
              · rw [if_neg c6, if_neg c6]; rfl
            · rw [hV]
              refine u5 ?_
              by_cases c6 : tkE (gB σ0) N p ≤ q + 3
              · exact c6
              · rw [(hK 0), if_neg c6] at z
                omega
            · rw [(hK 0)] at z
              by_cases c6 : tkE (gB σ0) N p ≤ q + 3
              · rw [if_pos c6] at z; omega
              · rw [if_neg c6] at z; omega
            · rw [e17, zI_q (Or.inr (by decide))]; exact b11
            · rw [e17, zI_q (Or.inr (by decide))]; exact b9
            · rw [e17, zI_s, show q - q = 0 by omega]; exact l0
            · rw [show q - q = 0 by omega]
              exact ⟨Int.le_refl _, fun _ => Int.le_refl _, fun h => by omega, fun h => by omega⟩
        · have c4 : cLt (gB σ0 q) = true := (sv_lt dB).mp (by have := z11.mp q4; omega)
          rw [if_pos c4] at hE hK
          refine ⟨1000, f_X10_token_74 N (tkE (gB σ0) N p) q hN (fun σ2 I2 u1 u2 u3 u4 u5 => hP σ2 I2 ⟨u1, u2, u3, by rw [u4, (hK 0)]; rfl, fun z => by rw [(hK 0)] at z; omega, fun _ => by rw [u5, hW]⟩) 1000 q (0 : Int32) σ9 I9 k9 b11 (Nat.le_refl _) b9 (by omega) (hE 0).symm (fun _ => ⟨?_, ?_, ?_⟩) (by omega)⟩
          · rw [bw, show q - q = 0 by omega]; rfl
          · rw [show q - q = 0 by omega]; exact Int.le_refl _
          · rw [show q - q = 0 by omega]
            show (0 : Int) < 1
            decide
      · have c3 := nle_t q3
        have hqN : ¬ q < N := fun c => by
          have g8 := x1 (by omega)
          have := sv_nn dB
          omega
        rw [if_pos (by omega)] at hE hK
        refine hP σ45 (by rw [e45]; exact wIg I9 kd_223 rfl rfl (full32 _)) ⟨k9.tr (Er_w e45 (by omega)), ?_, ?_, ?_, fun z => by rw [(hK 0)] at z; omega, fun z => by rw [(hK 0)] at z; omega⟩
        · rw [e45, zI_q (Or.inr (by decide))]; exact b11
        · rw [e45, zI_q (Or.inr (by decide)), (hE 0)]; exact b9
        · rw [e45, zI_s, (hK 0)]; exact l0
    · have c := eq_t q2
      have c1 : q < N := by
        by_cases c : ti (σ.1 223 9) < ti (σ.1 223 10)
        · omega
        · have := y2 (by omega)
          omega
      have g := y1 (by omega)
      exact go σ46 e46 c1 ((sv_bl dB).mp (by omega))
theorem f_X10_token {σ : zSto} (I : zRg σ) {P : zSto → Prop} (hP : ∀ σ2, zRg σ2 → NR σ σ2 → P σ2) : w_X10_token σ P := by
  have d9 : 0 ≤ ti (σ.1 223 9) ∧ ti (σ.1 223 9) ≤ 600 := rdg I kd_223 rfl rfl
  have d10 : 0 ≤ ti (σ.1 223 10) ∧ ti (σ.1 223 10) ≤ 600 := rdg I kd_223 rfl rfl
  unfold w_X10_token
  exact ⟨1000, f_X10_token_0 (ti (σ.1 223 10)).toNat (ti (σ.1 223 9)).toNat (by omega) (by omega) hP 1000 (ti (σ.1 223 9)).toNat σ I (fun _ _ _ => rfl) (by omega) rfl (by omega)⟩
