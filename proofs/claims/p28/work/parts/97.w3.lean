/-! shells on both sides -/
theorem pdI_rg {N R : Nat} {G : Nat → Int32} (ln : LnN N R G) {w : Int32} (hw : 0 ≤ ti w ∧ ti w ≤ 9) {p : Nat} (hp : p < N) : 0 ≤ ti (pdI G p w) ∧ ti (pdI G p w) ≤ 30 := by
  have l0 := lit_0
  have g3 := ln.2.2.2.1
  have g2 := (ln.2.2.2.2.2.1 p hp).2.2.1
  have m1 : 0 ≤ ti (G 3) * ti w := Int.mul_nonneg g3.1 hw.1
  have m2 : ti (G 3) * ti w ≤ 9 * 9 := Int.mul_le_mul g3.2 hw.2 hw.1 (by decide)
  have m := tmul (x := G 3) (y := w) (by omega)
  have ts := tsub (x := G (7 + 5 * p + 2)) (y := G 3 * w) (by omega)
  unfold pdI
  by_cases c : (0 : Int32) < G (7 + 5 * p + 2) - G 3 * w
  · have := lt_t c
    rw [if_pos c]; omega
  · rw [if_neg c]; omega
theorem sure_eq {x : Int32} {q : Nat → Bool} (h : ∀ j, j < 32 → (bt x j = true ↔ q j = true)) : x = rkF q 32 := bt_ex (fun j hj => by
  rw [rk_bt 32 (Nat.le_refl 32) j hj, decide_eq_true hj, Bool.true_and]
  cases hx : bt x j
  · cases hq : q j
    · rfl
    · rw [(h j hj).mpr hq] at hx
      cases hx
  · exact ((h j hj).mp hx).symm)
set_option maxHeartbeats 8000000 in
theorem al_shells {σ : zSto} (H : Lz σ) (a1 a2 a3 a4 a5 : Int32) : ∃ A : Int32, w_X9_shells a1 a2 a3 a4 a5 σ (fun r _ => r = A) ∧ ∀ σa, SmR σ σa → w_X10_shells a1 a2 a3 a4 a5 σa (fun r _ => r = A) := by
  have l0 := lit_0
  have l1 := lit_1
  have l2 := lit_2
  have d : 0 ≤ ti (σ.1 42 0) ∧ ti (σ.1 42 0) ≤ 2 := rdg H.1.1 kd_42 rfl rfl
  by_cases ex : exW σ a1 a2 ∧ (0 ≤ ti a5 ∧ ti a5 ≤ 2)
  · obtain ⟨ex, x5⟩ := ex
    obtain ⟨l, hl⟩ : ∃ l : Nat, ti a1 = (l : Int) := ⟨(ti a1).toNat, by have := ex.1; omega⟩
    obtain ⟨N, R, G, tl⟩ := tlL_of H (l := l) (by have := ex.2.1; omega) (by have := ex.2.1; omega)
    obtain ⟨t1, t2, t3, t4, t5, t6, t7, t8, t9⟩ := id tl
    have ln := LnN_of H tl
    have hw : 0 ≤ ti a2 ∧ ti a2 ≤ 9 := ⟨ex.2.2.1, ex.2.2.2⟩
    obtain ⟨n, hn⟩ : ∃ n, n = N - 1 := ⟨_, rfl⟩
    have n15 : n ≤ 15 := by omega
    have pw15 : 2 ^ n ≤ 2 ^ 15 := Nat.pow_le_pow_right (by decide) n15
    obtain ⟨b, hb⟩ : ∃ b : Nat → Bool, ∀ p, (b p = true ↔ p < n ∧ ¬ pdI G p a2 ≤ 0) := ⟨fun p => decide (p < n ∧ ¬ pdI G p a2 ≤ 0), fun p => ⟨of_decide_eq_true, decide_eq_true⟩⟩
    obtain ⟨a, ha⟩ : ∃ a : Nat → Int, ∀ p, a p = ti (pdI G p a2) := ⟨fun p => ti (pdI G p a2), fun _ => rfl⟩
    obtain ⟨c, hc⟩ : ∃ c : Nat → Int, ∀ p, c p = ti (csI G p) := ⟨fun p => ti (csI G p), fun _ => rfl⟩
    have ra : ∀ p, p < n → 0 ≤ a p ∧ a p ≤ 1000 := fun p hp => by
      have := pdI_rg ln hw (p := p) (by omega)
      rw [ha]; omega
    have rc : ∀ p, p < n → 0 ≤ c p ∧ c p ≤ 1000 := fun p hp => by
      have := csI_rg ln (p := p) (by omega)
      rw [hc]; omega
    obtain ⟨W, hW⟩ : ∃ W, W = fmE b a c n 0 (ti a3) (ti a4) := ⟨_, rfl⟩
    obtain ⟨allB, hall⟩ : ∃ f : Nat → Bool, ∀ j, (f j = true ↔ ∀ k, k < 2 ^ n → W k = true → bt (Int32.ofNat k) j = true) := ⟨fun j => @decide _ (Classical.propDecidable (∀ k, k < 2 ^ n → W k = true → bt (Int32.ofNat k) j = true)), fun j => ⟨fun h => @of_decide_eq_true _ (Classical.propDecidable _) h, fun h => @decide_eq_true _ (Classical.propDecidable _) h⟩⟩
    obtain ⟨anyB, hany⟩ : ∃ f : Nat → Bool, ∀ j, (f j = true ↔ ∃ k, k < 2 ^ n ∧ W k = true ∧ bt (Int32.ofNat k) j = true) := ⟨fun j => @decide _ (Classical.propDecidable (∃ k, k < 2 ^ n ∧ W k = true ∧ bt (Int32.ofNat k) j = true)), fun j => ⟨fun h => @of_decide_eq_true _ (Classical.propDecidable _) h, fun h => @decide_eq_true _ (Classical.propDecidable _) h⟩⟩
    have cl := cnF_le W (2 ^ n)
    have tcn : ∀ i, i ≤ 2 ^ n → ti (Int32.ofNat (cnF W i)) = (cnF W i : Int) := fun i hi => nI_t (by have := cnF_le W i; omega)
    refine ⟨if a5 = 0 then Int32.ofNat (cnF W (2 ^ n)) else if a5 = 2 then rkF anyB 32 else if cnF W (2 ^ n) = 0 then -1 else rkF allB 32, ?_, ?_⟩
    · unfold w_X9_shells
      refine f_X8_lineAt a1 H.1 (fun z => absurd ⟨ex.1, ex.2.1⟩ z) (fun l' hl' hl2 hc' => ⟨fun z => (by cases z), fun j3 e3 => ?_⟩)
      have e3' := Option.some.inj e3
      subst e3'
      have el : l' = l := by omega
      subst el
      refine ⟨isT_L (isN_T (by unfold isN; omega)), f_X9_isWeek a2 (fun r5 z5 => fun _ => ⟨fun q5 => absurd q5 (z5.mpr hw), fun _ => ⟨fun k => by have := lt_t k; omega, fun _ => ⟨fun _ => ?_, fun k => by have := nle_t k; omega⟩⟩⟩)⟩
      unfold w_X6_clear
      intro σ0 e0
      have go : ∀ (m i : Nat) (x_7 : Int32) (σ3 : zSto), (∀ k j, k < 200 → σ3.1 k j = σ.1 k j) → ti x_7 = (i : Int) → i ≤ n → ItS b a c 0 i σ3 → n - i < m → w_X9_shells_45 a2 a3 a4 a5 (4 + 12 * l') (fun r _ => r = if a5 = 0 then Int32.ofNat (cnF W (2 ^ n)) else if a5 = 2 then rkF anyB 32 else if cnF W (2 ^ n) = 0 then -1 else rkF allB 32) m x_7 σ3 := by
        intro m
        induction m with
        | zero => intro i x_7 σ3 _ _ _ _ h; omega
        | succ m ih =>
          intro i x_7 σ3 fr hi hin it hm
          have L3 : LnR (4 + 12 * l') G σ3 := LnR_fr t9 (fun k j x y => fr k j (by omega))
          have e11 : ti (σ3.1 (4 + 12 * l') 11) = (N : Int) := by rw [L3.1 0 (by omega)]; exact t4
          have ts := tsub (x := σ3.1 (4 + 12 * l') 11) (y := (1 : Int32)) (by omega)
          unfold w_X9_shells_45
          refine ⟨fun q => ?_, fun q => ?_⟩
          · have cc := le_t q
            have e : i = n := by omega
            subst e
            refine f_X6_find (fun p h => by have y := (hb p).mp h; exact ra p y.1) (fun p h => by have y := (hb p).mp h; exact rc p y.1) (by omega) it a3 a4 (fun σ7 f7 K7 => ?_)
            obtain ⟨K1, K2, K3, K4⟩ := K7
            rw [fm_len, ← hW] at K1
            have mem : ∀ x, x ∈ fmX b a c i 0 (ti a3) (ti a4) 0 ↔ ∃ k, k < 2 ^ i ∧ W k = true ∧ x = Int32.ofNat k := fun x => by rw [fm_nat (by omega), ← hW]
            refine ⟨fun k => ⟨fun k1 => ?_, fun k1 => ?_⟩, fun k => ?_⟩
            · have n0 := ne_t k
              have n1 := ne_t k1
              have e2 : a5 = 2 := t_inj (by omega)
              rw [if_neg k, if_pos e2]
              exact sure_eq (fun j hj => by
                rw [K3 j hj, hany]
                exact ⟨fun ⟨x, hx, hx2⟩ => by
                  obtain ⟨k, h1, h2, h3⟩ := (mem x).mp hx
                  rw [h3] at hx2
                  exact ⟨k, h1, h2, hx2⟩, fun ⟨k, h1, h2, h3⟩ => ⟨_, (mem _).mpr ⟨k, h1, h2, rfl⟩, h3⟩⟩)
            · have n2 : ¬ a5 = 2 := by rw [k1]; decide
              rw [if_neg k, if_neg n2]
              unfold w_X6_surePosts
              refine ⟨fun k2 => ?_, fun k2 => ?_⟩
              · have y := ne_t k2
                rw [K1, tcn _ (Nat.le_refl _)] at y
                rw [if_neg (by omega)]
                exact sure_eq (fun j hj => by
                  rw [K2 j hj, hall]
                  exact ⟨fun z k h1 h2 => z _ ((mem _).mpr ⟨k, h1, h2, rfl⟩), fun z x hx => by
                    obtain ⟨k, h1, h2, h3⟩ := (mem x).mp hx
                    rw [h3]
                    exact z k h1 h2⟩)
              · have y := eq_t k2
                rw [K1, tcn _ (Nat.le_refl _)] at y
                rw [if_pos (by omega)]
            · rw [if_pos k]
              exact K1
          · have cc := nle_t q
            have tx := tadd (x := x_7) (y := (1 : Int32)) (by omega)
            have e7 := nI_x hi (by omega)
            refine f_X0_poundsIn L3 x_7 a2 hi (by omega) (by omega) ⟨fun k x12 e12 => ?_, fun k => ?_⟩
            · have f := eq_t e12
              exact ih (i + 1) x12 σ3 fr (by omega) (by omega) (ItS_skip it (fun z => ((hb _).mp z).2 (by rw [Nat.zero_add]; exact k))) (by omega)
            · refine f_X0_cost L3 x_7 hi (by omega) (by omega) ?_
              refine f_X6_add it (by omega) ((hb _).mpr ⟨by omega, by rw [Nat.zero_add]; exact k⟩) x_7 _ _ (by rw [Nat.zero_add]; exact e7) (by rw [ha, Nat.zero_add]) (by rw [hc, Nat.zero_add]) (fun σ15 f15 it15 => fun x16 e16 => ?_)
              have f := eq_t e16
              exact ih (i + 1) x16 σ15 (fun k j x => by rw [f15 k j (by omega) (by omega), fr k j x]) (by omega) (by omega) it15 (by omega)
      exact ⟨100, go 100 0 (0 : Int32) σ0 (fun k j x => zI_q' e0 (by omega)) lit_0 (by omega) (ItS_0 (by rw [e0, zI_s])) (by omega)⟩
    · intro σa sm
      unfold w_X10_shells
      intro σ1 e1
      obtain ⟨H1, u1⟩ := SmR_223 sm e1
      refine b_X10_in a5 (0 : Int32) (2 : Int32) (fun r3 z3 => fun _ => ⟨fun q => absurd q (z3.mpr ⟨by omega, by omega⟩), fun _ => ?_⟩)
      refine f_handX H1 a1 a2 (fun z => absurd ((exW_eq1 u1).mpr ex) z) (fun _ l' N' R' G' hl' tl' σ2 f2 X2 => fun _ => ⟨fun _ => ?_, fun c => absurd c (by decide)⟩)
      have el : l' = l := by omega
      subst el
      obtain ⟨eN, eR, eG⟩ := tlL_eq tl tl' (fun j => u1 229 j (by omega) (by omega))
      subst eN
      subst eR
      subst eG
      have h25 := X2.2.2.2.1
      refine f_X10_bearing X2 (b := b) (fun p hp => by rw [hb]; exact ⟨fun z => z.2, fun z => ⟨by omega, z⟩⟩) (fun may hmay => ?_)
      rw [← hn] at hmay
      obtain ⟨m, hm, em⟩ := bt_num (x := may) (n := n) (by omega) (fun j h1 h2 => by rw [hmay j h2, decide_eq_false (by omega)]; rfl)
      have tm : ti may = (m : Int) := by rw [em]; exact nI_t (by omega)
      -- a set of the family lies in may
      have sub : ∀ k, k < 2 ^ n → W k = true → (∀ j, j < 32 → bt (Int32.ofNat k) j = true → bt may j = true) ∧ k ≤ m := fun k hk hw' => by
        rw [hW, fm_E, bF_iff] at hw'
        have s1 : ∀ j, j < 32 → bt (Int32.ofNat k) j = true → bt may j = true := fun j hj hb' => by
          rw [bt_nat (by omega) hj] at hb'
          have y := of_decide_eq_true hb'
          by_cases cj : j < n
          · have w := hw'.1 j cj y
            rw [Nat.zero_add] at w
            rw [hmay j hj, decide_eq_true cj, w]
            rfl
          · rw [bt_hi hk (by omega)] at y
            omega
        refine ⟨s1, ?_⟩
        have e : k &&& m = k := Nat.eq_of_testBit_eq (fun i => by
          rw [Nat.testBit_and]
          by_cases ci : i < 32
          · cases hk2 : k.testBit i
            · rfl
            · have y : bt (Int32.ofNat k) i = true := by
                rw [bt_nat (by omega) ci, ← Nat.testBit_eq_decide_div_mod_eq]
                exact hk2
              have z := s1 i ci y
              rw [em, bt_nat (by omega) ci, ← Nat.testBit_eq_decide_div_mod_eq] at z
              rw [z]
              rfl
          · have z : k.testBit i = false := by
              rw [Nat.testBit_eq_decide_div_mod_eq, bt_hi hk (by omega)]
              rfl
            rw [z]
            rfl)
        rw [← e]
        exact Nat.and_le_right
      have out : cnF W (2 ^ n) = cnF W (m + 1) := by
        have y := cnF_up (W := W) (R := m + 1) (2 ^ n - (m + 1)) (fun r h1 h2 => by
          cases hr : W r
          · rfl
          · have := (sub r (by omega) hr).2
            omega)
        rw [show m + 1 + (2 ^ n - (m + 1)) = 2 ^ n by omega] at y
        exact y
      have go : ∀ (f i : Nat) (x_7 x_8 x_9 x_10 : Int32), ti x_10 = (i : Int) → i ≤ m + 1 → x_7 = Int32.ofNat (cnF W i) → (∀ j, j < 32 → (bt x_8 j = true ↔ bt may j = true ∧ ∀ k, k < i → W k = true → bt (Int32.ofNat k) j = true)) → (∀ j, j < 32 → (bt x_9 j = true ↔ ∃ k, k < i ∧ W k = true ∧ bt (Int32.ofNat k) j = true)) → m + 1 - i < f → w_X10_shells_45 a3 a4 a5 may (fun r _ => r = if a5 = 0 then Int32.ofNat (cnF W (2 ^ n)) else if a5 = 2 then rkF anyB 32 else if cnF W (2 ^ n) = 0 then -1 else rkF allB 32) f x_7 x_8 x_9 x_10 σ2 := by
        intro f
        induction f with
        | zero => intro i x_7 x_8 x_9 x_10 _ _ _ _ _ h; omega
        | succ f ih =>
          intro i x_7 x_8 x_9 x_10 hi him h7 h8 h9 hf
          unfold w_X10_shells_45
          refine ⟨fun q => ?_, fun q => ?_⟩
          · have cc := lt_t q
            have e : i = m + 1 := by omega
            subst e
            refine ⟨fun k => ⟨fun k1 => ⟨fun k2 => ?_, fun k2 => ?_⟩, fun k1 => ?_⟩, fun k => ?_⟩
            · have y := ne_t k2
              rw [h7, tcn _ (by omega)] at y
              have ne : ¬ cnF W (2 ^ n) = 0 := by rw [out]; omega
              rw [if_neg k, if_neg k1, if_neg ne]
              obtain ⟨k0, g1, g2⟩ : ∃ k0, k0 < m + 1 ∧ W k0 = true := Classical.byContradiction (fun z => ne (by
                rw [out]
                exact cnF_z (m + 1) (fun r hr => by
                  cases hw' : W r
                  · rfl
                  · exact absurd ⟨r, hr, hw'⟩ z)))
              exact sure_eq (fun j hj => by
                rw [h8 j hj, hall]
                exact ⟨fun z k h1 h2 => z.2 k (by have := (sub k h1 h2).2; omega) h2, fun z => ⟨(sub k0 (by omega) g2).1 j hj (z k0 (by omega) g2), fun k h1 h2 => z k (by omega) h2⟩⟩)
            · have y := eq_t k2
              rw [h7, tcn _ (by omega)] at y
              rw [if_neg k, if_neg k1, if_pos (by rw [out]; omega)]
            · rw [if_neg k, if_pos k1]
              exact sure_eq (fun j hj => by
                rw [h9 j hj, hany]
                exact ⟨fun ⟨k, h1, h2, h3⟩ => ⟨k, by omega, h2, h3⟩, fun ⟨k, h1, h2, h3⟩ => ⟨k, by have := (sub k h1 h2).2; omega, h2, h3⟩⟩)
            · rw [if_pos k, out]
              exact h7
          · have cc := nlt_t q
            have tx := tadd (x := x_10) (y := (1 : Int32)) (by omega)
            have e10 : x_10 = Int32.ofNat i := t_inj (by rw [hi]; exact (nI_t (by omega)).symm)
            have skip : ¬ W i = true → ∀ x8 : Int32, x8 = x_10 + (1 : Int32) → w_X10_shells_45 a3 a4 a5 may (fun r _ => r = if a5 = 0 then Int32.ofNat (cnF W (2 ^ n)) else if a5 = 2 then rkF anyB 32 else if cnF W (2 ^ n) = 0 then -1 else rkF allB 32) f x_7 x_8 x_9 x8 σ2 := fun z x8 e8 => by
              have g := eq_t e8
              have st : ∀ k, k < i + 1 → W k = true → k < i := fun k h1 h2 => by
                by_cases d : k = i
                · subst d; exact absurd h2 z
                · omega
              refine ih (i + 1) x_7 x_8 x_9 x8 (by omega) (by omega) ?_ (fun j hj => ?_) (fun j hj => ?_) (by omega)
              · rw [cnF_1, if_neg z]
                exact h7
              · rw [h8 j hj]
                exact ⟨fun y => ⟨y.1, fun k h1 h2 => y.2 k (st k h1 h2) h2⟩, fun y => ⟨y.1, fun k h1 h2 => y.2 k (by omega) h2⟩⟩
              · rw [h9 j hj]
                exact ⟨fun ⟨k, h1, h2, h3⟩ => ⟨k, by omega, h2, h3⟩, fun ⟨k, h1, h2, h3⟩ => ⟨k, st k h1 h2, h2, h3⟩⟩
            have iff0 : (x_10 &&& (may ^^^ (-1 : Int32))) = 0 ↔ bF b n 0 i = true := by
              rw [bF_iff]
              refine ⟨fun z j hj hk => ?_, fun z => bt_ex (fun j hj => ?_)⟩
              · have y : bt (x_10 &&& (may ^^^ (-1 : Int32))) j = false := by rw [z]; exact bt_z j
                rw [bt_an, bt_no may (by omega), e10, bt_nat (by omega) (by omega), decide_eq_true hk, Bool.true_and, hmay j (by omega), decide_eq_true hj, Bool.true_and] at y
                rw [Nat.zero_add]
                cases hbj : b j
                · rw [hbj] at y; cases y
                · rfl
              · rw [bt_z, bt_an, bt_no may hj, e10, bt_nat (by omega) hj]
                by_cases hk : i / 2 ^ j % 2 = 1
                · by_cases cj : j < n
                  · have w := z j cj hk
                    rw [Nat.zero_add] at w
                    rw [hmay j hj, decide_eq_true cj, w]
                    cases decide (i / 2 ^ j % 2 = 1) <;> rfl
                  · rw [bt_hi (show i < 2 ^ n by omega) (by omega)] at hk
                    omega
                · rw [decide_eq_false hk]
                  rfl
            refine ⟨fun k => skip (fun w => by rw [hW, fm_E] at w; exact k (iff0.mpr w.1)), fun k => ?_⟩
            have k1 := iff0.mp k
            refine f_X10_poundsOf X2 (a := a) (fun p hp => ⟨(ha p).symm, ra p (by omega)⟩) x_10 e10 (by omega) (fun r10 hr10 => ?_)
            rw [← hn] at hr10
            refine ⟨fun k2 => skip (fun w => by rw [hW, fm_E] at w; exact k2 (t_inj (hr10.trans w.2.1))), fun k2 => ?_⟩
            refine f_X10_costsOf X2 (a := c) (fun p hp => ⟨(hc p).symm, rc p (by omega)⟩) x_10 e10 (by omega) (fun r13 hr13 => ?_)
            rw [← hn] at hr13
            refine ⟨fun k3 => skip (fun w => by rw [hW, fm_E] at w; exact k3 (t_inj (hr13.trans w.2.2))), fun k3 x15 e15 x16 e16 x17 e17 x18 e18 => ?_⟩
            have w : W i = true := by
              rw [hW, fm_E]
              exact ⟨k1, by rw [← hr10, k2], by rw [← hr13, k3]⟩
            have g := eq_t e18
            refine ih (i + 1) x15 x16 x17 x18 (by omega) (by omega) ?_ (fun j hj => ?_) (fun j hj => ?_) (by omega)
            · rw [cnF_1, if_pos w, e15, h7]
              exact nI_1 _
            · rw [e16, bt_an, Bool.and_eq_true, h8 j hj, e10]
              exact ⟨fun y => ⟨y.1.1, fun k h1 h2 => by
                by_cases d : k = i
                · subst d; exact y.2
                · exact y.1.2 k (by omega) h2⟩, fun y => ⟨⟨y.1, fun k h1 h2 => y.2 k (by omega) h2⟩, y.2 i (by omega) w⟩⟩
            · rw [e17, bt_or, Bool.or_eq_true, h9 j hj, e10]
              exact ⟨fun y => by
                rcases y with ⟨k, h1, h2, h3⟩ | y
                · exact ⟨k, by omega, h2, h3⟩
                · exact ⟨i, by omega, w, y⟩, fun ⟨k, h1, h2, h3⟩ => by
                by_cases d : k = i
                · subst d; exact Or.inr h3
                · exact Or.inl ⟨k, by omega, h2, h3⟩⟩
      exact ⟨100000, go 100000 0 (0 : Int32) may (0 : Int32) (0 : Int32) lit_0 (by omega) rfl (fun j hj => ⟨fun z => ⟨z, fun k h1 => absurd h1 (Nat.not_lt_zero k)⟩, fun z => z.1⟩) (fun j hj => ⟨fun z => absurd z (by rw [bt_z]; decide), fun ⟨k, h1, _⟩ => absurd h1 (Nat.not_lt_zero k)⟩) (by omega)⟩
  · refine ⟨-1, ?_, ?_⟩
    · unfold w_X9_shells
      refine f_X8_lineAt a1 H.1 (fun _ => ⟨fun _ => rfl, fun j3 e3 => (by cases e3)⟩) (fun l' hl' hl2 hc => ⟨fun z => (by cases z), fun j3 e3 => ?_⟩)
      have e3' := Option.some.inj e3
      subst e3'
      refine ⟨isT_L (isN_T (by unfold isN; omega)), f_X9_isWeek a2 (fun r5 z5 => fun _ => ⟨fun _ => rfl, fun q5 => ⟨fun _ => rfl, fun k1 => ⟨fun k2 => ?_, fun _ => rfl⟩⟩⟩)⟩
      have w := z5.mp q5
      have y1 := nlt_t k1
      have y2 := le_t k2
      exact absurd ⟨⟨by omega, by omega, w.1, w.2⟩, ⟨by omega, by omega⟩⟩ ex
    · intro σa sm
      unfold w_X10_shells
      intro σ1 e1
      obtain ⟨H1, u1⟩ := SmR_223 sm e1
      refine b_X10_in a5 (0 : Int32) (2 : Int32) (fun r3 z3 => fun _ => ⟨fun _ => rfl, fun q3 => ?_⟩)
      have w3 := z3.mp q3
      exact f_handX H1 a1 a2 (fun _ => fun _ => ⟨fun c => absurd rfl c, fun _ => rfl⟩) (fun e => absurd ⟨(exW_eq1 u1).mp e, ⟨by omega, by omega⟩⟩ ex)
theorem m_shells {σ : zSto} (H : Lz σ) (a1 a2 a3 a4 a5 : Int32) {P : Int32 → zSto → Prop} (hP : ∀ r σa, (∀ Q : Int32 → zSto → Prop, (∀ σ2, Lz σ2 → Q r σ2) → w_X10_shells a1 a2 a3 a4 a5 σa Q) → P r σa) : w_X9_shells a1 a2 a3 a4 a5 σ P := by
  obtain ⟨A, hc, hr⟩ := al_shells H a1 a2 a3 a4 a5
  exact cj_X9_shells (P := fun _ σa => zInv AC σ.1 3 σa) (Q := fun r _ => r = A) (fun r σa i e2 => by
    subst e2
    have sm := SmR_C H i
    exact hP _ _ (fun Q hQ => cj_X10_shells (P := fun _ σb => zInv AR2 σa.1 3 σb) (Q := fun r' _ => r' = r) (fun r' σb i e => by
      subst e
      exact hQ σb (Lz_R sm.1 i)) (s_X10_shells (A := AR2) (F := σa.1) ar2_r a1 a2 a3 a4 a5 (inv_any sm.1.1) (fun _ _ i => i)) (hr σa sm))) (s_X9_shells (A := AC) (F := σ.1) ac_c a1 a2 a3 a4 a5 (inv_any H.1) (fun _ _ i => i)) hc
