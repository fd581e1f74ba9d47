/-! FAULT 0 has place -1; FAULTS are not below 0 -/
def Qz (st : Nat → Int) : Prop := 0 ≤ st 200 ∧ (st 200 = 0 → st 201 = -1)
theorem Qz_up {st : Nat → Int} {s : Nat} {x : Int} (h : Qz st) (h1 : s ≠ 200) (h2 : s ≠ 201) : Qz (up st s x) := by
  unfold Qz
  rw [up_q (by omega), up_q (by omega)]
  exact h
theorem Qz_nte {st : Nat → Int} {f p : Int} (h : Qz st) (hf : 0 < f) : Qz (nte st f p) := by
  unfold nte
  split
  · refine ⟨?_, fun z => ?_⟩
    · rw [up_q (by omega), up_s]; omega
    · rw [up_q (by omega), up_s] at z; omega
  · exact h
theorem Qz_chk {st : Nat → Int} {v p l u : Int} (h : Qz st) : Qz (chk st v p l u) := by
  unfold chk
  split
  · exact Qz_nte h (by omega)
  · exact h
theorem Qz_ap {st v p : Nat → Int} {c w : Int} (h : Qz st) : Qz (ap c st v p w) := by
  unfold ap
  split
  · unfold apP
    split
    · exact Qz_up (Qz_up (Qz_up (Qz_up (Qz_chk (Qz_chk (Qz_chk h))) (by omega) (by omega)) (by omega) (by omega)) (by omega) (by omega)) (by omega) (by omega)
    · exact Qz_nte h (by omega)
  split
  · unfold apR
    split
    · exact Qz_up (Qz_up (Qz_up (Qz_up (Qz_up (Qz_up (Qz_up (Qz_up (Qz_chk (Qz_chk (Qz_chk (Qz_chk (Qz_chk (Qz_chk h)))))) (by omega) (by omega)) (by omega) (by omega)) (by omega) (by omega)) (by omega) (by omega)) (by omega) (by omega)) (by omega) (by omega)) (by omega) (by omega)) (by omega) (by omega)
    · exact Qz_nte h (by omega)
  have hO : ∀ r : Nat, ∀ u : Int, r < 5 → Qz (apO r u st v p) := by
    intro r u hr
    unfold apO
    split
    · exact Qz_up (Qz_up (Qz_chk (Qz_chk h)) (by omega) (by omega)) (by omega) (by omega)
    · exact Qz_up (Qz_chk (Qz_chk h)) (by omega) (by omega)
  have hW : ∀ s : Nat, ∀ l u : Int, s < 7 → Qz (apW s l u st v p) := fun s l u hs => Qz_up (Qz_chk h) (by omega) (by omega)
  have hX : ∀ m u : Int, Qz (apX m u st v p w) := by
    intro m u
    unfold apX
    split
    · exact Qz_up (Qz_up (Qz_up (Qz_chk (Qz_chk h)) (by omega) (by omega)) (by omega) (by omega)) (by omega) (by omega)
    · exact Qz_nte h (by omega)
  split
  · exact hO 4 999 (by omega)
  split
  · exact hO 3 10 (by omega)
  split
  · exact hW 2 1 9 (by omega)
  split
  · exact hW 3 0 9 (by omega)
  split
  · exact hW 4 0 60 (by omega)
  split
  · exact hW 5 0 9 (by omega)
  split
  · exact hW 6 0 999 (by omega)
  split
  · exact hX 16 5
  · exact hX 10 999
theorem Qz_fl (st : Nat → Int) (q : Nat) : Qz (fl st q) := by
  unfold fl
  refine ⟨?_, fun z => ?_⟩
  · rw [up_q (by omega), up_s]; omega
  · rw [up_q (by omega), up_s] at z; omega
theorem Qz_RD (o : Int) (B : Nat → Int) (n : Nat) : ∀ f p st, Qz st → Qz (RD o B n f p st) := by
  intro f
  induction f with
  | zero => intro p st h; exact h
  | succ f ih =>
    intro p st h
    rw [RD_1]
    split
    · exact h
    split
    · exact Qz_fl _ _
    split
    · exact ih _ _ (Qz_ap h)
    · exact Qz_fl _ _
theorem Qz_FN {o : Int} {n : Nat} {st : Nat → Int} (h : Qz st) : Qz (FN o n st) := by
  unfold FN
  split
  · exact Qz_nte h (by omega)
  · exact h
/-! the reference's readText -/
def CT (o : Int) (fin : Nat → Int) (σ : zSto) : Prop := (o = 0 → ∀ s, s < 123 → ti (σ.1 232 s) = fin s) ∧ (o ≠ 0 → ∀ j, j < 33 → ti (σ.1 232 j) = fin (300 + j))
def RE (o : Int) (fin : Nat → Int) (r : Int32) (σ2 : zSto) : Prop := zRg σ2 ∧ ti (σ2.1 226 0) = fin 200 ∧ ti (σ2.1 227 0) = (if fin 200 = 0 then -1 else fin 201) ∧ (¬ r = 0 ↔ fin 200 = 0) ∧ (fin 200 = 0 → CT o fin σ2)
theorem rt_end {o : Int} {fin : Nat → Int} (hQ : 0 ≤ fin 200) {x_2 : Int32} {P : Int32 → zSto → Prop} (hP : ∀ r σ2, RE o fin r σ2 → P r σ2) {σ : zSto} (I : zRg σ) (hA : x_2 = 0 → fin 200 = 1 ∧ ti (σ.1 223 15) = fin 201) (hB : ¬ x_2 = 0 → ti (σ.1 223 16) = fin 200 ∧ (fin 200 ≠ 0 → ti (σ.1 223 17) = fin 201) ∧ CT o fin σ) : ((x_2 = 0 → (∀ σ9 : zSto, σ9 = zI σ 226 0 (1 : Int32) → ((¬ x_2 = 0 → (((σ9.1 223 16) ≤ 0 → (∀ σ10 : zSto, σ10 = zI σ9 227 0 (-1 : Int32) → ((¬ (σ10.1 226 0) = 0 → P (0 : Int32) σ10) ∧ ((σ10.1 226 0) = 0 → P (1 : Int32) σ10)))) ∧ (¬ (σ9.1 223 16) ≤ 0 → (∀ σ11 : zSto, σ11 = zI σ9 227 0 (σ9.1 223 17) → ((¬ (σ11.1 226 0) = 0 → P (0 : Int32) σ11) ∧ ((σ11.1 226 0) = 0 → P (1 : Int32) σ11)))))) ∧ (x_2 = 0 → (∀ σ12 : zSto, σ12 = zI σ9 227 0 (σ9.1 223 15) → ((¬ (σ12.1 226 0) = 0 → P (0 : Int32) σ12) ∧ ((σ12.1 226 0) = 0 → P (1 : Int32) σ12))))))) ∧ (¬ x_2 = 0 → (∀ σ13 : zSto, σ13 = zI σ 226 0 (σ.1 223 16) → ((¬ x_2 = 0 → (((σ13.1 223 16) ≤ 0 → (∀ σ14 : zSto, σ14 = zI σ13 227 0 (-1 : Int32) → ((¬ (σ14.1 226 0) = 0 → P (0 : Int32) σ14) ∧ ((σ14.1 226 0) = 0 → P (1 : Int32) σ14)))) ∧ (¬ (σ13.1 223 16) ≤ 0 → (∀ σ15 : zSto, σ15 = zI σ13 227 0 (σ13.1 223 17) → ((¬ (σ15.1 226 0) = 0 → P (0 : Int32) σ15) ∧ ((σ15.1 226 0) = 0 → P (1 : Int32) σ15)))))) ∧ (x_2 = 0 → (∀ σ16 : zSto, σ16 = zI σ13 227 0 (σ13.1 223 15) → ((¬ (σ16.1 226 0) = 0 → P (0 : Int32) σ16) ∧ ((σ16.1 226 0) = 0 → P (1 : Int32) σ16)))))))) := by
  have l0 := lit_0
  have l1 := lit_1
  have lm := lit_m1
  have key : ∀ (v w : Int32) (σ9 σ12 : zSto), σ9 = zI σ 226 0 v → σ12 = zI σ9 227 0 w → ti v = fin 200 → ti w = (if fin 200 = 0 then -1 else fin 201) → (fin 200 = 0 → CT o fin σ) → ((¬ (σ12.1 226 0) = 0 → P (0 : Int32) σ12) ∧ ((σ12.1 226 0) = 0 → P (1 : Int32) σ12)) := by
    intro v w σ9 σ12 e9 e12 hv hw hc
    have v6 : σ12.1 226 0 = v := by rw [zI_q' e12 (by omega), e9, zI_s]
    have v7 : σ12.1 227 0 = w := by rw [e12, zI_s]
    have I2 : zRg σ12 := by
      subst e12; subst e9
      exact wIg (wIg I kd_226 rfl rfl (any_t _)) kd_227 rfl rfl (any_t _)
    have ct : fin 200 = 0 → CT o fin σ12 := fun z => by
      have := hc z
      refine ⟨fun a s b => ?_, fun a s b => ?_⟩
      · rw [zI_q' e12 (by omega), zI_q' e9 (by omega)]; exact this.1 a s b
      · rw [zI_q' e12 (by omega), zI_q' e9 (by omega)]; exact this.2 a s b
    rw [v6]
    refine ⟨fun q => hP _ _ ⟨I2, by rw [v6]; exact hv, by rw [v7]; exact hw, ⟨fun c => absurd rfl c, fun z => ?_⟩, ct⟩, fun q => hP _ _ ⟨I2, by rw [v6]; exact hv, by rw [v7]; exact hw, ⟨fun _ => ?_, fun _ => by decide⟩, ct⟩⟩
    · have := ne_t q; omega
    · have := eq_t q; omega
  refine ⟨fun q σ9 e9 => ⟨fun c => absurd q c, fun _ σ12 e12 => ?_⟩, fun q σ13 e13 => ⟨fun _ => ⟨fun c σ14 e14 => ?_, fun c σ14 e14 => ?_⟩, fun c => absurd c q⟩⟩
  · have h := hA q
    refine key _ _ σ9 σ12 e9 e12 (by omega) ?_ (fun z => by omega)
    rw [zI_q' e9 (by omega), if_neg (by omega)]
    exact h.2
  · have h := hB q
    have c2 := le_t c
    rw [zI_q' e13 (by omega)] at c2
    refine key _ _ σ13 σ14 e13 e14 h.1 ?_ (fun z => h.2.2)
    rw [if_pos (by omega)]
    exact lm
  · have h := hB q
    have c2 := nle_t c
    rw [zI_q' e13 (by omega)] at c2
    refine key _ _ σ13 σ14 e13 e14 h.1 ?_ (fun z => h.2.2)
    rw [if_neg (by omega), zI_q' e13 (by omega)]
    exact h.2.1 (by omega)
theorem f_readText_154 {o : Int} {fin : Nat → Int} (hQ : 0 ≤ fin 200) (x_1 x_2 : Int32) (ho : ti x_1 = o) {P : Int32 → zSto → Prop} (hP : ∀ r σ2, RE o fin r σ2 → P r σ2) : ∀ (k i : Nat) (x_3 : Int32) (σ : zSto), ti x_3 = (i : Int) → i ≤ 16 → 16 - i < k → zRg σ → (x_2 = 0 → fin 200 = 1 ∧ ti (σ.1 223 15) = fin 201) → (¬ x_2 = 0 → ti (σ.1 223 16) = fin 200 ∧ (fin 200 ≠ 0 → ti (σ.1 223 17) = fin 201) ∧ RR o fin σ ∧ (o = 0 → ∀ p, p < i → ti (σ.1 232 (7 + 5 * p + 3)) = fin (7 + 5 * p + 3) ∧ ti (σ.1 232 (7 + 5 * p + 4)) = fin (7 + 5 * p + 4))) → w_X10_readText_154 x_1 x_2 P k x_3 σ := by
  have l0 := lit_0
  have l1 := lit_1
  have l3 := lit_3
  have l4 := lit_4
  have l5 := lit_5
  have l7 := lit_7
  have l16 := lit_16
  intro k
  induction k with
  | zero => intro i x_3 σ _ _ h; omega
  | succ k ih =>
    intro i x_3 σ hi hi16 hk I hA hB
    refine ⟨fun q => ?_, fun q => ⟨fun qx => ?_, fun qx => ?_⟩⟩
    · have c := le_t q
      have ei : i = 16 := by omega
      subst ei
      refine rt_end hQ hP I hA (fun z => ?_)
      obtain ⟨b1, b2, b3, b4⟩ := hB z
      refine ⟨b1, b2, fun z0 s hs => ?_, b3.2⟩
      by_cases c1 : s < 7 ∨ 87 ≤ s ∨ (s - 7) % 5 < 3
      · exact (b3.1 z0).1 s hs c1
      · have b5 := b4 z0 ((s - 7) / 5) (by omega)
        rcases (show s = 7 + 5 * ((s - 7) / 5) + 3 ∨ s = 7 + 5 * ((s - 7) / 5) + 4 by omega) with e | e
        · rw [e]; exact b5.1
        · rw [e]; exact b5.2
    · refine rt_end hQ hP I hA (fun z => ?_)
      obtain ⟨b1, b2, b3, b4⟩ := hB z
      have : o ≠ 0 := by have := ne_t qx; omega
      exact ⟨b1, b2, fun z0 => absurd z0 this, b3.2⟩
    · have c := nle_t q
      have o0 : o = 0 := by have := eq_t qx; omega
      have m1 : ti ((5 : Int32) * x_3) = 5 * (i : Int) := by rw [tmul (by rw [l5, hi]; omega), l5, hi]
      have m2 : ti ((7 : Int32) + (5 : Int32) * x_3) = 7 + 5 * (i : Int) := by rw [tadd (by omega), l7, m1]
      have m3 : ti ((7 : Int32) + (5 : Int32) * x_3 + (3 : Int32)) = 7 + 5 * (i : Int) + 3 := by rw [tadd (by omega), m2, l3]
      have m4 : ti ((7 : Int32) + (5 : Int32) * x_3 + (4 : Int32)) = 7 + 5 * (i : Int) + 4 := by rw [tadd (by omega), m2, l4]
      have t0 := tn_eq x_3
      have t3 := tn_eq ((7 : Int32) + (5 : Int32) * x_3 + (3 : Int32))
      have t4 := tn_eq ((7 : Int32) + (5 : Int32) * x_3 + (4 : Int32))
      refine ⟨vin (by omega), vin (by omega), fun σ27 e27 => ⟨vin (by omega), vin (by omega), fun σ30 e30 x31 e31 => ?_⟩⟩
      rw [show x_3.toNatClampNeg = i by omega, show ((7 : Int32) + (5 : Int32) * x_3 + (3 : Int32)).toNatClampNeg = 7 + 5 * i + 3 by omega] at e27
      rw [show x_3.toNatClampNeg = i by omega, show ((7 : Int32) + (5 : Int32) * x_3 + (4 : Int32)).toNatClampNeg = 7 + 5 * i + 4 by omega] at e30
      have fr : ∀ q j, ¬ (q = 232 ∧ (j = 7 + 5 * i + 3 ∨ j = 7 + 5 * i + 4)) → σ30.1 q j = σ.1 q j := fun q j h => by rw [zI_q' e30 (by omega), zI_q' e27 (by omega)]
      refine ih (i + 1) x31 σ30 (by rw [e31, tadd (by omega), hi, l1]; omega) (by omega) (by omega) ?_ (fun z => ?_) (fun z => ?_)
      · subst e30; subst e27
        exact wIg (wIg I kd_232 rfl rfl (any_t _)) kd_232 rfl rfl (any_t _)
      · rw [fr _ _ (by omega)]; exact hA z
      · obtain ⟨b1, b2, b3, b4⟩ := hB z
        have b3' := b3.1 o0
        refine ⟨by rw [fr _ _ (by omega)]; exact b1, fun y => by rw [fr _ _ (by omega)]; exact b2 y, ⟨fun _ => ⟨fun s a b => ?_, fun p a => ?_⟩, fun y => absurd o0 y⟩, fun _ p hp => ?_⟩
        · rw [fr _ _ (by omega)]; exact b3'.1 s a b
        · rw [fr _ _ (by omega), fr _ _ (by omega)]; exact b3'.2 p a
        · by_cases ep : p = i
          · subst ep
            have g3 : σ30.1 232 (7 + 5 * p + 3) = σ.1 234 p := by rw [zI_q' e30 (by omega), e27, zI_s]
            have g4 : σ30.1 232 (7 + 5 * p + 4) = σ.1 235 p := by rw [e30, zI_s, zI_q' e27 (by omega)]
            rw [g3, g4]
            exact b3'.2 p (by omega)
          · rw [fr _ _ (by omega), fr _ _ (by omega)]; exact b4 o0 p (by omega)
