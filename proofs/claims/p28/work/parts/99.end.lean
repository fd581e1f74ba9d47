set_option maxHeartbeats 4000000 in
set_option maxRecDepth 100000 in
theorem whole_start {p : Program} {e : Env} {s : State} {m : MethodId} {below : List Frame} {meth : Method} {c : Code} (l : Launch) {b L : Nat} {xs : Nat → Int32} (hL : L ≤ 3072) (C0 : lw_At p s m meth c b L xs) : W p l e room_1 s m #[Value.ref b] below meth c s.heap [] 0 0 (lw_Z below #[Value.ref b] s) (entryFrame m ([Value.ref b] : List Value).toArray 4) := by
  obtain ⟨hx, hb, hr, hml, hown, hts, hX, hbl, hlocks, hgv⟩ := id C0
  have hU : ∀ w ∈ zUU, w.before #[Value.ref b] s = true := fun w h => hts w (zUU_tbl h)
  obtain ⟨g, hg⟩ : ∃ g : Nat → Nat, g = (fun k => s.heap.size + k) := ⟨_, rfl⟩
  have hgo : ∀ k, k < 250 → s.heap.size ≤ g k := fun k _ => by subst hg; exact Nat.le_add_right _ _
  have hgA : ∀ a : Nat, a < s.heap.size → ¬ zA g s.heap.size a := by
    rintro a ha (⟨k, hk, e1⟩ | h)
    · have := hgo k hk; omega
    · omega
  obtain ⟨adK, adV, hS1, hS2, hS3, hS4⟩ := str_start (A := zA g s.heap.size) hgv hts hgA
  obtain ⟨c0, iS0, hKn0⟩ := u_known (C := RX0) (T := TX0) (N := 18) (n := 18) hU lay_X0 (hU _ ia_X0)
  obtain ⟨c1, iS1, hKn1⟩ := u_known (C := RX1) (T := TX1) (N := 4) (n := 4) hU lay_X1 (hU _ ia_X1)
  obtain ⟨c2, iS2, hKn2⟩ := u_known (C := RX2) (T := TX2) (N := 3) (n := 3) hU lay_X2 (hU _ ia_X2)
  obtain ⟨c3, iS3, hKn3⟩ := u_known (C := RX3) (T := TX3) (N := 2) (n := 2) hU lay_X3 (hU _ ia_X3)
  obtain ⟨c4, iS4, hKn4⟩ := u_known (C := RX4) (T := TX4) (N := 13) (n := 13) hU lay_X4 (hU _ ia_X4)
  obtain ⟨c5, iS5, hKn5⟩ := u_known (C := RX5) (T := TX5) (N := 12) (n := 12) hU lay_X5 (hU _ ia_X5)
  obtain ⟨c6, iS6, hKn6⟩ := u_known (C := RX6) (T := TX6) (N := 11) (n := 11) hU lay_X6 (hU _ ia_X6)
  obtain ⟨c7, iS7, hKn7⟩ := u_known (C := RX7) (T := TX7) (N := 3) (n := 3) hU lay_X7 (hU _ ia_X7)
  obtain ⟨c8, iS8, hKn8⟩ := u_known (C := RX8) (T := TX8) (N := 8) (n := 8) hU lay_X8 (hU _ ia_X8)
  obtain ⟨c9, iS9, hKn9⟩ := u_known (C := RX9) (T := TX9) (N := 11) (n := 11) hU lay_X9 (hU _ ia_X9)
  obtain ⟨c10, iS10, hKn10⟩ := u_known (C := RX10) (T := TX10) (N := 50) (n := 50) hU lay_X10 (hU _ ia_X10)
  obtain ⟨dC, dI, hKc⟩ : ∃ (dC : Nat → ClassId) (dI : Nat → Nat → Nat), ∀ (k : Nat) (q : vw_C), vwCl[k]? = some q → u_Kn s q.1 q.2.1 q.2.2 (dC k) (dI k) := by
    refine ⟨fun k => if k = 0 then c0 else if k = 1 then c1 else if k = 2 then c2 else if k = 3 then c3 else if k = 4 then c4 else if k = 5 then c5 else if k = 6 then c6 else if k = 7 then c7 else if k = 8 then c8 else if k = 9 then c9 else c10, fun k => if k = 0 then iS0 else if k = 1 then iS1 else if k = 2 then iS2 else if k = 3 then iS3 else if k = 4 then iS4 else if k = 5 then iS5 else if k = 6 then iS6 else if k = 7 then iS7 else if k = 8 then iS8 else if k = 9 then iS9 else iS10, ?_⟩
    intro k q hq
    match k, hq with
    | 0, hq => cases hq; exact hKn0
    | 1, hq => cases hq; exact hKn1
    | 2, hq => cases hq; exact hKn2
    | 3, hq => cases hq; exact hKn3
    | 4, hq => cases hq; exact hKn4
    | 5, hq => cases hq; exact hKn5
    | 6, hq => cases hq; exact hKn6
    | 7, hq => cases hq; exact hKn7
    | 8, hq => cases hq; exact hKn8
    | 9, hq => cases hq; exact hKn9
    | 10, hq => cases hq; exact hKn10
    | k + 11, hq => simp [vwCl] at hq
  obtain ⟨y0, kA0, co0, hf0, hk0, hd0⟩ := Cond.arrayClass_spec (hU _ ac_int)
  obtain ⟨y1, kA1, co1, hf1, hk1, hd1⟩ := Cond.arrayClass_spec (hU _ ac_byte)
  obtain ⟨y2, kA2, co2, hf2, hk2, hd2⟩ := Cond.arrayClass_spec (hU _ ac_boolean)
  obtain ⟨y3, kA3, co3, hf3, hk3, hd3⟩ := Cond.arrayClass_spec (hU _ ac_long)
  obtain ⟨co4, y4, kA4, hc4, -, hk4, hd4, hf4⟩ := Cond.arrayOver_spec (hts (.arrayOver (.object RX0)) (List.mem_append_right _ (show _ ∈ tables_1 from List.mem_append_left _ (List.mem_of_getElem? (i := 34) rfl))))
  obtain ⟨co5, y5, kA5, hc5, -, hk5, hd5, hf5⟩ := Cond.arrayOver_spec (hts (.arrayOver (.object RX2)) (List.mem_append_right _ (show _ ∈ tables_1 from List.mem_append_left _ (List.mem_of_getElem? (i := 150) rfl))))
  obtain ⟨co6, y6, kA6, hc6, -, hk6, hd6, hf6⟩ := Cond.arrayOver_spec (hts (.arrayOver (.object RX8)) (List.mem_append_right _ (show _ ∈ tables_1 from List.mem_append_left _ (List.mem_of_getElem? (i := 205) rfl))))
  obtain ⟨cy, hcy⟩ : ∃ cy : Nat → ClassId, cy = (fun k => if k = 0 then y0 else if k = 1 then y1 else if k = 2 then y2 else if k = 3 then y3 else if k = 4 then y4 else if k = 5 then y5 else if k = 6 then y6 else if k < 200 then adK (k - 100) else adV (k - 200)) := ⟨_, rfl⟩
  have hK : va_K (dC, dI) vwCl (zty cy) s := by
    subst hcy
    refine ⟨hKc, fun k q hq => ?_⟩
    match k, hq with
    | 0, hq => cases hq; exact ⟨fun n z => ⟨fun k h => (by cases h), kA0, hk0, co0, hd0⟩, hf0⟩
    | 1, hq => cases hq; exact ⟨fun n z => ⟨fun k h => (by cases h), kA1, hk1, co1, hd1⟩, hf1⟩
    | 2, hq => cases hq; exact ⟨fun n z => ⟨fun k h => (by cases h), kA2, hk2, co2, hd2⟩, hf2⟩
    | 3, hq => cases hq; exact ⟨fun n z => ⟨fun k h => (by cases h), kA3, hk3, co3, hd3⟩, hf3⟩
    | 4, hq => cases hq; exact ⟨fun n z => ⟨fun k h => (by cases h), kA4, hk4, co4, hd4⟩, kA4, co4, hk4, hd4, hc4, hf4⟩
    | 5, hq => cases hq; exact ⟨fun n z => ⟨fun k h => (by cases h), kA5, hk5, co5, hd5⟩, kA5, co5, hk5, hd5, hc5, hf5⟩
    | 6, hq => cases hq; exact ⟨fun n z => ⟨fun k h => (by cases h), kA6, hk6, co6, hd6⟩, kA6, co6, hk6, hd6, hc6, hf6⟩
    | k + 7, hq => simp [zty] at hq
  have hN : zNn s := ⟨va_Nw.of rfl (hts (.methodLinkNest RX8 59 yX9_isSort "ChestnutLine") (List.mem_append_right _ (show _ ∈ tables_1 from List.mem_append_right _ (List.mem_append_left _ (List.mem_of_getElem? (i := 235) rfl))))), va_Nw.of rfl (hts (.methodLinkNest RX9 11 yX8_init "ChestnutLine") (List.mem_append_right _ (show _ ∈ tables_1 from List.mem_append_left _ (List.mem_of_getElem? (i := 29) rfl)))), va_Nw.of rfl (hts (.methodLinkNest RX8 17 yX0_init "ChestnutLine") (List.mem_append_right _ (show _ ∈ tables_1 from List.mem_append_left _ (List.mem_of_getElem? (i := 36) rfl)))), va_Nw.of rfl (hts (.methodLinkNest RX8 24 yX2_init "ChestnutLine") (List.mem_append_right _ (show _ ∈ tables_1 from List.mem_append_left _ (List.mem_of_getElem? (i := 152) rfl)))), va_Nw.of rfl (hts (.methodLinkNest RX9 26 yX4_init "ChestnutLine") (List.mem_append_right _ (show _ ∈ tables_1 from List.mem_append_left _ (List.mem_of_getElem? (i := 208) rfl)))), va_Nw.of rfl (hts (.methodLinkNest RX4 11 yX0_init "ChestnutLine") (List.mem_append_right _ (show _ ∈ tables_1 from List.mem_append_left _ (List.mem_of_getElem? (i := 213) rfl)))), va_Nw.of rfl (hts (.methodLinkNest RX4 20 yX2_init "ChestnutLine") (List.mem_append_right _ (show _ ∈ tables_1 from List.mem_append_left _ (List.mem_of_getElem? (i := 215) rfl)))), va_Nw.of rfl (hts (.methodLinkNest RX9 33 yX5_init "ChestnutLine") (List.mem_append_right _ (show _ ∈ tables_1 from List.mem_append_right _ (List.mem_append_left _ (List.mem_of_getElem? (i := 23) rfl))))), va_Nw.of rfl (hts (.methodLinkNest RX9 40 yX1_init "ChestnutLine") (List.mem_append_right _ (show _ ∈ tables_1 from List.mem_append_right _ (List.mem_append_left _ (List.mem_of_getElem? (i := 75) rfl))))), va_Nw.of rfl (hts (.methodLinkNest RX9 47 yX7_init "ChestnutLine") (List.mem_append_right _ (show _ ∈ tables_1 from List.mem_append_right _ (List.mem_append_left _ (List.mem_of_getElem? (i := 98) rfl))))), va_Nw.of rfl (hts (.methodLinkNest RX9 54 yX6_init "ChestnutLine") (List.mem_append_right _ (show _ ∈ tables_1 from List.mem_append_right _ (List.mem_append_left _ (List.mem_of_getElem? (i := 116) rfl))))), va_Nw.of rfl (hts (.methodLinkNest RX9 61 yX3_init "ChestnutLine") (List.mem_append_right _ (show _ ∈ tables_1 from List.mem_append_right _ (List.mem_append_left _ (List.mem_of_getElem? (i := 159) rfl))))), va_Nw.of rfl (hts (.methodLinkNest RX9 68 yX0_init "ChestnutLine") (List.mem_append_right _ (show _ ∈ tables_1 from List.mem_append_right _ (List.mem_append_left _ (List.mem_of_getElem? (i := 173) rfl))))), va_AO.of (hts (.arrayOver (.object RX0)) (List.mem_append_right _ (show _ ∈ tables_1 from List.mem_append_left _ (List.mem_of_getElem? (i := 34) rfl)))), va_AO.of (hts (.arrayOver (.object RX2)) (List.mem_append_right _ (show _ ∈ tables_1 from List.mem_append_left _ (List.mem_of_getElem? (i := 150) rfl)))), va_AO.of (hts (.arrayOver (.object RX8)) (List.mem_append_right _ (show _ ∈ tables_1 from List.mem_append_left _ (List.mem_of_getElem? (i := 205) rfl))))⟩
  have hkK : ∀ i, i < 11 → cy (100 + i) = adK i := fun i hi => by
    subst hcy
    show (if 100 + i = 0 then y0 else if 100 + i = 1 then y1 else if 100 + i = 2 then y2 else if 100 + i = 3 then y3 else if 100 + i = 4 then y4 else if 100 + i = 5 then y5 else if 100 + i = 6 then y6 else if 100 + i < 200 then adK (100 + i - 100) else adV (100 + i - 200)) = adK i
    rw [if_neg (by omega), if_neg (by omega), if_neg (by omega), if_neg (by omega), if_neg (by omega), if_neg (by omega), if_neg (by omega), if_pos (by omega), Nat.add_sub_cancel_left]
  have hkV : ∀ i, i < 11 → cy (200 + i) = adV i := fun i hi => by
    subst hcy
    show (if 200 + i = 0 then y0 else if 200 + i = 1 then y1 else if 200 + i = 2 then y2 else if 200 + i = 3 then y3 else if 200 + i = 4 then y4 else if 200 + i = 5 then y5 else if 200 + i = 6 then y6 else if 200 + i < 200 then adK (200 + i - 100) else adV (200 + i - 200)) = adV i
    rw [if_neg (by omega), if_neg (by omega), if_neg (by omega), if_neg (by omega), if_neg (by omega), if_neg (by omega), if_neg (by omega), if_neg (by omega), Nat.add_sub_cancel_left]
  have hNN : zN cy g s := ⟨hN, vk_S_congr hS1 hkK hkV, hS2, hS3, fun i hi => by rw [hkK i hi]; exact hS4 i hi⟩
  have hC : yC p s m #[Value.ref b] meth c cL_law RL 4 (dC, dI) cy s.heap.size := ⟨⟨hx, hb, hml, hown, hU⟩, hK, hN, hlocks, Nat.le_refl _⟩
  have hl := lv_entry ([.ref b]) (n := 4) (Nat.le_of_ble_eq_true rfl)
  rw [lg_entry_eq]
  refine (?_ : yX p l e room_1 s m #[Value.ref b] below meth c 0 0 (lw_Z below #[Value.ref b] s) 4 (dC, dI) s.heap.size 0 [(0, .ref b)] [] 0 (zfin cy s.heap.size)) _ s.heap [] hl rfl (fun k q h => by simp [zG] at h) va_S.rf
  refine yx_new (ci := 9) (fs := [.null, .null, .null, .null, .null, .null, .null, .null, .null, .null, .null]) hC tyX9 tyX9_ok lay_X9 cl_L_7 ia_X9 ini_X9 rfl (by decide +kernel) 1 11 rfl rfl (Nat.le_of_ble_eq_true rfl) (Nat.le_of_ble_eq_true rfl) dL_law_0 ?_
  refine yx_dup hC dL_law_3 rfl ?_
  refine yx_cI (n1 := 0 + 223) (c1 := zfin cy s.heap.size) hC (zU_in cd_X9_init) (by decide +kernel) ini_X9 im_X9_init rfl ml_L_9 (yi_X9 l (dC, dI) cy s.heap.size 0 (zfin cy s.heap.size) (yfin_9 cy s.heap.size)) ⟨by decide, by decide⟩ ⟨rfl, rfl⟩ 223 8761 rfl rfl ⟨by decide, by decide⟩ (Nat.le_of_ble_eq_true rfl) dL_law_4 ?_
  refine yx_astore_n (lv' := [(1, .ref (s.heap.size + 0)), (0, .ref b)]) hC dL_law_7 (by decide) rfl ?_
  refine yx_new (ci := 10) (fs := [.int 0, .null, .null, .null, .null, .null, .null, .null, .null, .int 0, .int 0, .int 0, .int 0, .int 0, .long 0, .int 0, .int 0, .int 0, .null, .null, .null, .null, .int 0, .int 0, .int 0, .int 0, .int 0, .null, .null, .null, .int 0, .int 0, .int 0, .int 0, .int 0, .null, .null, .null, .null, .null, .null, .null, .long 0, .int 0, .null, .null, .int 0, .int 0, .null, .null]) hC tyX10 tyX10_ok lay_X10 cl_L_10 ia_X10 ini_X10 rfl (by decide +kernel) 224 8811 rfl rfl (Nat.le_of_ble_eq_true rfl) (Nat.le_of_ble_eq_true rfl) dL_law_8 ?_
  refine yx_dup hC dL_law_11 rfl ?_
  refine yx_cI (n1 := 223 + 27) (c1 := zfin cy s.heap.size) hC (zU_in cd_X10_init) (by decide +kernel) ini_X10 im_X10_init rfl ml_L_12 (yi_X10 l (dC, dI) cy s.heap.size 223 (zfin cy s.heap.size) (yfin_10 cy s.heap.size)) ⟨by decide, by decide⟩ ⟨rfl, rfl⟩ 250 14165 rfl rfl ⟨by decide, by decide⟩ (Nat.le_of_ble_eq_true rfl) dL_law_12 ?_
  refine yx_astore_n (lv' := [(2, .ref (s.heap.size + 223)), (1, .ref (s.heap.size + 0)), (0, .ref b)]) hC dL_law_15 (by decide) rfl ?_
  intro ls H locs h1 h2 h3 h4
  have hgi : zin g := fun i j _ _ e => by subst hg; simp at e; exact e
  have C : zC p s m #[Value.ref b] meth c cL_law RL 4 (dC, dI) cy g := ⟨⟨hx, hb, hml, hown, hU⟩, hK, hgi, hNN, hlocks⟩
  have hbA : ¬ zA g s.heap.size b := hgA b hbl
  have h5 : va_P (dC, dI) vwCl (zW cy g σ0) H := by subst hg; rw [← zfin_W]; exact h3
  have h6 : va_S (zA g s.heap.size) s.heap H locs := ⟨h4.1, fun q a1 a2 => h4.2.1 q a1 (fun a3 => a2 (Or.inr a3)), fun q hq => Or.inr (h4.2.2 q hq)⟩
  refine (?_ : zX p l e room_1 s m #[Value.ref b] below meth c 250 14165 (lw_Z below #[Value.ref b] s) 4 (dC, dI) cy g 16 [(2, .ref (g 223)), (1, .ref (g 0)), (0, .ref b)] [] σ0) ls H locs (by subst hg; exact h1) h5 h6
  refine zx_iconst (v := (0 : Int32)) C dL_law_16 (by decide) ?_
  refine zx_istore_n (lv' := [(3, .int (0 : Int32)), (2, .ref (g 223)), (1, .ref (g 0)), (0, .ref b)]) C dL_law_17 (by decide) rfl ?_
  refine zx_lv (lv' := [(0, .ref b), (1, .ref (g 0)), (2, .ref (g 223)), (3, .int (0 : Int32))]) [3, 2, 1, 0] rfl ?_
  obtain ⟨n, hn⟩ := law_all hL xs
  exact k_law_18 C hr hX hbl hbA hgo n (0 : Int32) σ0 hn
-- ===== YOUR PART ENDS =====
set_option maxHeartbeats 4000000 in
theorem lw_walk (l : Launch) (b : Addr) (xs : List Int32) : MetFree l x (headSpec (Jvm.Cond.code x code maxLocals ret :: tables_1) room_1) (lw_P b xs) (fun _ _ _ _ _ => True) lw_Q := by
  refine MetFree.of_bodyS (code := code) (maxLocals := maxLocals) (ret := ret) (by decide) ?_ ?_
  · intro args s m h hn
    obtain ⟨meth, c, h1, h2, h3, h4, h5, h6, -, -⟩ := Cond.code_spec hn (atoms_spec (ws := Jvm.Cond.code x code maxLocals ret :: tables_1) h _ List.mem_cons_self)
    exact ⟨meth, c, h1, h2, h3, h4, h5, h6⟩
  · intro p e s m args below meth c s₁ B hml0 hP _
    obtain ⟨rfl, hx, hbd, hgv⟩ := hP
    obtain ⟨scr, harrAt, hlist, hof, hsmall⟩ := hx
    obtain ⟨hcb, hkn, -, -⟩ := State.arrayAt?_spec harrAt
    have hown : s.vm.findClass R_law = some m.cls := findClass_of_methodNamed B.named
    have hts0 : ∀ c ∈ (Jvm.Cond.code x code maxLocals ret :: tables_1), c.before #[Value.ref b] s = true := atoms_spec (ws := Jvm.Cond.code x code maxLocals ret :: tables_1) B.pre
    have hts : ∀ w ∈ lw_tbl, w.before #[Value.ref b] s = true := k2_hts_sels lw_privs (fun w hw => hts0 w (List.mem_cons_of_mem _ hw)) lw_privs_ok
    have hml : c.maxLocals = 4 := B.maxLocals_eq (hts0 _ List.mem_cons_self)
    have X₀ : Stand p l e room_1 s m #[Value.ref b] below meth c s₁ [] 0 0 := Stand.of_body B
    have hh0 : s₁.heap = s.heap := by rw [B.state]; rfl
    have hsz : scr.slots.size = xs.length := by rw [← Array.length_toList, hlist, List.length_map]
    have hval : ∀ j : Nat, j < xs.length → scr.slots[j]? = some (.int (xs.getD j 0)) := fun j hj => by
      rw [← Array.getElem?_toList, hlist]
      simp [hj]
    have hbl : b < s.heap.size := (Array.getElem?_eq_some_iff.mp hcb).1
    have hX : va_X b xs.length (fun j => xs.getD j 0) s s.heap := ⟨scr, hcb, hof, hkn, hsz, hval⟩
    have K : W p l e room_1 s m #[Value.ref b] below meth c s₁.heap [] 0 0 (lw_Z below #[Value.ref b] s) (entryFrame m ([Value.ref b] : List Value).toArray 4) := by
      rw [hh0]
      exact whole_start l hbd ⟨B.exec, B.bytes, B.returns, hml, hown, hts, hX, hbl, B.notSynchronized, hgv⟩
    obtain ⟨t, a1, o, b1, b2, b3⟩ := K s₁ rfl X₀
    exact ⟨t, o, a1, b1, b2, b3⟩
theorem lw_pre_spec {args : Array Value} {s : State} (h : (Jvm.Cond.and given_1 narrow_1).before args s = true) (hr : rest_1_c.before args s = true) : ∃ (b : Addr) (xs : List Int32), lw_P b xs args s := by
  have hs := flat_of_before _ h
  have hq := flat_of_before _ hr
  have hc : (Cond.count 1).before args s = true := hs _ (by decide +kernel)
  have harr : (Cond.arrayOf (.arg 0) .int).before args s = true := hs _ (by decide +kernel)
  have hle : (Cond.le (.length (.arg 0)) (.int 3072)).before args s = true := hs _ (by decide +kernel)
  have hlen : (Cond.isInt (.length (.arg 0))).before args s = true := hq _ (by decide +kernel)
  have hall : (Cond.all (.arg 0) (.isInt (.elem (.arg 0) (.index 0)))).before args s = true := hq _ (by decide +kernel)
  obtain ⟨b, xs, hb, hx⟩ := State.ints_of_pre rfl harr hlen hall
  have hsm : xs.length < 2 ^ 31 := hx.choose_spec.2.2.2
  have hev : (Term.length (.arg 0)).eval args s none [] s = some (.int xs.length.toInt32) := hx.length_eval hb
  have hv := Cond.le_ints hev (show (Term.int 3072).eval args s none [] s = some (.int 3072) from rfl)
  have hd : xs.length.toInt32 ≤ 3072 := by
    simpa [Cond.before, Cond.holds, hv] using hle
  have hN : xs.length ≤ 3072 := (Int32.ofNat_le_ofNat hsm (by decide)).mp (show Int32.ofNat xs.length ≤ Int32.ofNat 3072 from hd)
  exact ⟨b, xs, Cond.one_arg hc (show args[0]? = some (.ref b) from hb), hx, hN, h⟩
theorem lw_comes (l : Launch) : Comes l x (Jvm.Cond.code x code maxLocals ret :: tables_1) room_1 (fun tb e args s => Calls_1 tb e args s ∧ rest_1 tb e args s ∧ Pre_1 tb e args s)
    (fun _ _ args s o t => lw_Q args s o t) := by
  intro p e ha hc hk s m args below hf hfit hheap happ hpre
  obtain ⟨b, xs, hP⟩ := lw_pre_spec hpre.2.2 hpre.2.1
  obtain ⟨k, o, h1, h2, h3, hQ⟩ := lw_walk l b xs p e ha hc hk s m args below hf ((Spec.applies_iff_loose hf).mp happ).1 hP trivial
  exact ⟨k, o, h1, h2, h3, hQ⟩
theorem lw_frame {s t : State} {o : Outcome} {args : Array Value} (h : Framed s o t [] 600000 7302250) :
    Framed s o t (fieldLocs frame_1_writes args s ++ arrayLocs frame_1_arrays args s ++ staticLocs frame_1_statics s) 600000 7302250 := h
theorem lw_limb (L : Cond) (hL : ∀ (args : Array Value) (s t : State), L.after args s (.returned (some (.int 1))) t = true) :
    ArmFor flags0 classFile x code maxLocals ret World_1 tables_1 room_1 Calls_1 rest_1 Pre_1
      (fun tb e a s o t => postC L tb e a s o t ∧ Framed s o t (fieldLocs frame_1_writes a s ++ arrayLocs frame_1_arrays a s ++ staticLocs frame_1_statics s) 600000 7302250) := by
  intro l _ _ _ p e ha hc hk s m args below hf hfit hheap happ hpre
  obtain ⟨k, o, h1, h2, h3, rfl, hF⟩ := lw_comes l p e ha hc hk s m args below hf hfit hheap happ hpre
  exact ⟨k, _, h1, h2, h3, hL args s _, lw_frame hF⟩
theorem i_vc : Claimed_1_1 ∧ Claimed_1_2 := ⟨lw_limb limb_1_1 (fun args s t => by simp [limb_1_1, Cond.after, Cond.holds, Cond.value]), lw_limb limb_1_2 (fun args s t => Cond.after_iff.mpr (by
  first | (rw [show limb_1_2 = Cond.eq .result (.int 1) from rfl, Cond.eq_ints (x := 1) (y := 1) rfl rfl]; simp; done) | (simp [limb_1_2, Cond.value, Term.eval]; done)))⟩
