/-! THE STORE. Every cell of the class (0..222) and of the reference (223..249) has a number; its ints and longs stand in a store; where it points never changes. -/
abbrev zSto : Type := (Nat → Nat → Int32) × (Nat → Nat → Int64)
abbrev zShp : Type := Nat × Nat × Nat × List (Nat × Nat)
def zI (σ : zSto) (k j : Nat) (v : Int32) : zSto := (va_up σ.1 k (upd (σ.1 k) j v), σ.2)
def zJ (σ : zSto) (k j : Nat) (v : Int64) : zSto := (σ.1, va_up σ.2 k (vp_updL (σ.2 k) j v))
def zR (σ : zSto) (k : Nat) (f : Nat → Int32) : zSto := (va_up σ.1 k f, σ.2)
def zo (ci : Nat) (fds : List (Nat × Nat)) : zShp := (0, ci, 0, fds)
def za (a n : Nat) : zShp := (1, a, n, [])
def zl (n : Nat) : zShp := (2, 3, n, [])
def zr (a n : Nat) (fds : List (Nat × Nat)) : zShp := (3, a, n, fds)
def zLine : List zShp := [zo 0 [(0, 1), (0, 2), (0, 3), (0, 4), (0, 5), (0, 6), (0, 7), (0, 8), (0, 9), (0, 10), (0, 11), (1, 0), (1, 0), (1, 0), (1, 0), (1, 0), (1, 0), (1, 0)], za 0 16, za 0 16, za 0 16, za 0 16, za 0 16, za 0 6, za 0 6, za 0 6, za 0 6, za 0 6, za 0 6]
def zPairs : List zShp := [zo 2 [(0, 1), (0, 2), (1, 0)], za 0 16, za 0 16]
def zState : List zShp := [zo 8 [(0, 1), (0, 2), (0, 27), (0, 34), (0, 41), (1, 0), (1, 0), (1, 0)], za 1 600, zr 4 2 [(0, 1), (0, 13)]] ++ zLine ++ zLine ++ [zr 5 2 [(0, 1), (0, 4)]] ++ zPairs ++ zPairs ++ [zr 5 2 [(0, 1), (0, 4)]] ++ zPairs ++ zPairs ++ [za 0 3]
def zMine : List zShp := [zo 9 [(0, 1), (0, 43), (0, 170), (0, 171), (0, 190), (0, 195), (0, 198), (0, 200), (0, 207), (0, 210), (0, 222)]] ++ zState ++ [zr 6 3 [(0, 1), (0, 43), (0, 85)]] ++ zState ++ zState ++ zState ++ [za 2 3] ++ [zo 4 [(0, 1), (0, 13), (0, 16), (0, 17), (0, 18), (1, 0), (1, 0), (1, 0), (1, 0), (1, 0), (1, 0), (1, 0), (1, 0)]] ++ zLine ++ zPairs ++ [za 0 6, za 0 6, za 1 600] ++ [zo 5 [(0, 1), (0, 2), (0, 3), (0, 4), (1, 0), (1, 0), (1, 0), (1, 0), (1, 0), (1, 0), (1, 0), (1, 0)], za 0 16, za 0 16, za 0 6, za 0 6] ++ [zo 1 [(0, 1), (0, 2), (1, 0), (1, 0)], za 0 16, za 0 16] ++ [zo 7 [(0, 1), (1, 0), (2, 0)], zl 1126] ++ [zo 6 [(0, 1), (0, 2), (0, 3), (0, 4), (0, 5), (0, 6), (1, 0), (1, 0), (1, 0), (1, 0), (1, 0)], za 0 16, za 0 16, za 0 16, za 0 17, za 0 17, za 0 16] ++ [zo 3 [(0, 1), (0, 2)], za 0 1000, za 0 1000] ++ zLine ++ [za 0 384]
def zTwin : List zShp := [zo 10 [(1, 0), (0, 1), (0, 2), (0, 3), (0, 4), (0, 5), (0, 6), (0, 7), (0, 8), (1, 0), (1, 0), (1, 0), (1, 0), (1, 0), (2, 0), (1, 0), (1, 0), (1, 0), (0, 9), (0, 10), (0, 11), (0, 12), (1, 0), (1, 0), (1, 0), (1, 0), (1, 0), (0, 13), (0, 14), (0, 15), (1, 0), (1, 0), (1, 0), (1, 0), (1, 0), (0, 16), (0, 17), (0, 18), (0, 19), (0, 20), (0, 21), (0, 22), (2, 0), (1, 0), (0, 23), (0, 24), (1, 0), (1, 0), (0, 25), (0, 26)], za 1 2400, za 0 4, za 0 4, za 0 4, za 0 12, za 0 984, za 0 264, za 0 168, za 0 123, za 0 6, za 0 16, za 0 16, za 0 16, za 0 16, za 0 16, za 0 16, za 0 16, za 0 6, za 0 16, za 0 6, za 2 6, zl 1200, za 0 16, za 0 16, za 0 4, za 2 3]
def zAll : List zShp := zMine ++ zTwin
def zsh (k : Nat) : zShp := zAll.getD k (9, 0, 0, [])
def zel (fds : List (Nat × Nat)) (i : Int32) : Nat := (fds.getD i.toNatClampNeg (0, 0)).2
theorem zAll_len : zAll.length = 250 := by decide +kernel
def zV (g : Nat → Nat) (k : Nat) (r : Nat → Int32) (w : Nat → Int64) (j : Nat) (fd : Nat × Nat) : Value := if fd.1 = 0 then .ref (g (k + fd.2)) else if fd.1 = 1 then .int (r j) else .long (w j)
def zE (cy : Nat → ClassId) (g : Nat → Nat) (k : Nat) (r : Nat → Int32) (w : Nat → Int64) (h : zShp) : va_E :=
  if h.1 = 0 then .inr (h.2.1, h.2.2.2.mapIdx (zV g k r w)) else if h.1 = 1 then .inl (cy h.2.1, h.2.2.1, .inl r) else if h.1 = 2 then .inl (cy h.2.1, h.2.2.1, .inr (.inl w)) else .inl (cy h.2.1, h.2.2.1, .inr (.inr (.inr (.inr (fun i => (h.2.2.2[i]?).map (fun fd => g (k + fd.2)))))))
def zW (cy : Nat → ClassId) (g : Nat → Nat) (σ : zSto) : va_W := (List.range 250).map (fun k => (g k, zE cy g k (σ.1 k) (σ.2 k) (zsh k)))
def zin (g : Nat → Nat) : Prop := ∀ i j, i < 250 → j < 250 → g i = g j → i = j
def zA (g : Nat → Nat) (sz : Nat) : Nat → Prop := fun q => (∃ k, k < 250 ∧ q = g k) ∨ sz ≤ q
def zty (cy : Nat → ClassId) : List (ClassId × FieldType) := [(cy 0, .int), (cy 1, .byte), (cy 2, .boolean), (cy 3, .long), (cy 4, .object RX0), (cy 5, .object RX2), (cy 6, .object RX8)]
theorem zW_get {cy : Nat → ClassId} {g : Nat → Nat} {σ : zSto} {k : Nat} (h : k < 250) : (zW cy g σ)[k]? = some (g k, zE cy g k (σ.1 k) (σ.2 k) (zsh k)) := by
  simp [zW, List.getElem?_map, List.getElem?_range, h]
theorem zW_lt {cy : Nat → ClassId} {g : Nat → Nat} {σ : zSto} {k : Nat} {q : Nat × va_E} (h : (zW cy g σ)[k]? = some q) : k < 250 ∧ q.1 = g k := by
  have h1 : k < 250 := by
    have := (List.getElem?_eq_some_iff.mp h).1
    simpa [zW] using this
  rw [zW_get h1] at h
  cases h
  exact ⟨h1, rfl⟩
theorem zW_D {cy : Nat → ClassId} {g : Nat → Nat} (h : zin g) {A : Nat → Prop} (hA : ∀ k, k < 250 → A (g k)) (σ : zSto) : va_D A (zW cy g σ) := by
  refine ⟨fun i j p q hp hq e => ?_, fun k q hq => ?_⟩
  · obtain ⟨h1, e1⟩ := zW_lt hp
    obtain ⟨h2, e2⟩ := zW_lt hq
    exact h i j h1 h2 (by rw [← e1, ← e2]; exact e)
  · obtain ⟨h1, e1⟩ := zW_lt hq
    rw [e1]
    exact hA k h1
theorem zW_set {cy : Nat → ClassId} {g : Nat → Nat} {σ σ' : zSto} {k : Nat} {e : va_E} (he : e = zE cy g k (σ'.1 k) (σ'.2 k) (zsh k)) (h1 : ∀ j, j ≠ k → σ'.1 j = σ.1 j) (h2 : ∀ j, j ≠ k → σ'.2 j = σ.2 j) : (zW cy g σ).set k (g k, e) = zW cy g σ' := by
  apply List.ext_getElem?
  intro i
  by_cases hi : i < 250
  · by_cases hk : k = i
    · subst hk
      rw [zW_get hi, List.getElem?_set_self (by simpa [zW] using hi), he]
    · rw [List.getElem?_set_ne hk, zW_get hi, zW_get hi, h1 i (fun q => hk q.symm), h2 i (fun q => hk q.symm)]
  · rw [List.getElem?_eq_none (by simpa [zW] using hi), List.getElem?_eq_none (by simpa [zW] using hi)]
theorem zV_set {g : Nat → Nat} {k : Nat} {r : Nat → Int32} {w : Nat → Int64} {fds : List (Nat × Nat)} {j d : Nat} (h : fds[j]? = some (1, d)) (v : Int32) : (fds.mapIdx (zV g k r w)).set j (.int v) = fds.mapIdx (zV g k (upd r j v) w) := by
  apply List.ext_getElem?
  intro i
  have hj : j < fds.length := (List.getElem?_eq_some_iff.mp h).1
  by_cases hk : j = i
  · subst hk
    rw [List.getElem?_set_self (by simpa using hj), List.getElem?_mapIdx, h]
    simp [zV, upd]
  · rw [List.getElem?_set_ne hk, List.getElem?_mapIdx, List.getElem?_mapIdx]
    congr 1
    funext fd
    have hne : ¬ i = j := fun q => hk q.symm
    simp [zV, upd, hne]
theorem zV_setL {g : Nat → Nat} {k : Nat} {r : Nat → Int32} {w : Nat → Int64} {fds : List (Nat × Nat)} {j d : Nat} (h : fds[j]? = some (2, d)) (v : Int64) : (fds.mapIdx (zV g k r w)).set j (.long v) = fds.mapIdx (zV g k r (vp_updL w j v)) := by
  apply List.ext_getElem?
  intro i
  have hj : j < fds.length := (List.getElem?_eq_some_iff.mp h).1
  by_cases hk : j = i
  · subst hk
    rw [List.getElem?_set_self (by simpa using hj), List.getElem?_mapIdx, h]
    simp [zV, vp_updL]
  · rw [List.getElem?_set_ne hk, List.getElem?_mapIdx, List.getElem?_mapIdx]
    congr 1
    funext fd
    have hne : ¬ i = j := fun q => hk q.symm
    simp [zV, vp_updL, hne]
theorem zup_s {α : Type} (f : Nat → α) (k : Nat) (v : α) : va_up f k v k = v := by simp [va_up]
theorem zup_n {α : Type} (f : Nat → α) (k : Nat) (v : α) {j : Nat} (h : j ≠ k) : va_up f k v j = f j := by simp [va_up, h]
theorem zE_o {cy : Nat → ClassId} {g : Nat → Nat} {k : Nat} {r : Nat → Int32} {w : Nat → Int64} {ci : Nat} {fds : List (Nat × Nat)} : zE cy g k r w (zo ci fds) = .inr (ci, fds.mapIdx (zV g k r w)) := rfl
theorem zE_a {cy : Nat → ClassId} {g : Nat → Nat} {k : Nat} {r : Nat → Int32} {w : Nat → Int64} {a n : Nat} : zE cy g k r w (za a n) = .inl (cy a, n, .inl r) := rfl
theorem zE_l {cy : Nat → ClassId} {g : Nat → Nat} {k : Nat} {r : Nat → Int32} {w : Nat → Int64} {n : Nat} : zE cy g k r w (zl n) = .inl (cy 3, n, .inr (.inl w)) := rfl
theorem zE_r {cy : Nat → ClassId} {g : Nat → Nat} {k : Nat} {r : Nat → Int32} {w : Nat → Int64} {a n : Nat} {fds : List (Nat × Nat)} : zE cy g k r w (zr a n fds) = .inl (cy a, n, .inr (.inr (.inr (.inr (fun i => (fds[i]?).map (fun fd => g (k + fd.2))))))) := rfl
theorem zsh_lt {k : Nat} {h : zShp} (e : zsh k = h) (hh : h.1 ≠ 9) : k < 250 := by
  rcases Nat.lt_or_ge k 250 with q | q
  · exact q
  · exfalso
    apply hh
    rw [← e]
    unfold zsh
    rw [List.getD_eq_getElem?_getD, List.getElem?_eq_none (by rw [zAll_len]; exact q)]
    rfl
theorem zlt_o {k ci : Nat} {fds : List (Nat × Nat)} (e : zsh k = zo ci fds) : k < 250 := zsh_lt e (by show (0 : Nat) ≠ 9; decide)
theorem zlt_a {k a n : Nat} (e : zsh k = za a n) : k < 250 := zsh_lt e (by show (1 : Nat) ≠ 9; decide)
theorem zlt_l {k n : Nat} (e : zsh k = zl n) : k < 250 := zsh_lt e (by show (2 : Nat) ≠ 9; decide)
theorem zlt_r {k a n : Nat} {fds : List (Nat × Nat)} (e : zsh k = zr a n fds) : k < 250 := zsh_lt e (by show (3 : Nat) ≠ 9; decide)
theorem zg_o {cy : Nat → ClassId} {g : Nat → Nat} {σ : zSto} {k ci : Nat} {fds : List (Nat × Nat)} (e : zsh k = zo ci fds) : (zW cy g σ)[k]? = some (g k, .inr (ci, fds.mapIdx (zV g k (σ.1 k) (σ.2 k)))) := by rw [zW_get (zlt_o e), e, zE_o]
theorem zg_a {cy : Nat → ClassId} {g : Nat → Nat} {σ : zSto} {k a n : Nat} (e : zsh k = za a n) : (zW cy g σ)[k]? = some (g k, .inl (cy a, n, .inl (σ.1 k))) := by rw [zW_get (zlt_a e), e, zE_a]
theorem zg_l {cy : Nat → ClassId} {g : Nat → Nat} {σ : zSto} {k n : Nat} (e : zsh k = zl n) : (zW cy g σ)[k]? = some (g k, .inl (cy 3, n, .inr (.inl (σ.2 k)))) := by rw [zW_get (zlt_l e), e, zE_l]
theorem zg_r {cy : Nat → ClassId} {g : Nat → Nat} {σ : zSto} {k a n : Nat} {fds : List (Nat × Nat)} (e : zsh k = zr a n fds) : (zW cy g σ)[k]? = some (g k, .inl (cy a, n, .inr (.inr (.inr (.inr (fun i => (fds[i]?).map (fun fd => g (k + fd.2)))))))) := by rw [zW_get (zlt_r e), e, zE_r]
/-! CONTRACTS over the store -/
theorem zU_good : GoodIn zUU zUU := fun _ h => ⟨h, good_of_word (zUU_good h)⟩
def zU (y : MethodName) (bytes : ByteArray) (maxL : Nat) (ret : Option FieldType) : List Cond := .code y bytes maxL ret :: zUU
theorem zU_in {y : MethodName} {bytes : ByteArray} {maxL : Nat} {ret : Option FieldType} (h : Cond.code y bytes maxL ret ∈ zUU) : GoodIn zUU (zU y bytes maxL ret) := fun w hw => by
  rcases List.mem_cons.mp hw with e | e
  · subst e; exact zU_good _ h
  · exact zU_good _ e
def zFG (own : String) (i ci j : Nat) : Prop := ∃ (Cn : String) (T : u_T) (N : Nat), vwCl[ci]? = some (Cn, T, N) ∧ (∀ w ∈ u_ws Cn T N, w ∈ zUU) ∧ j < N ∧ Cond.fieldLink own i (T j).1 (T j).2.1 (T j).2.2.1 ∈ zUU
def zFP (own : String) (i ci j : Nat) (ty : FieldType) : Prop := ∃ (Cn : String) (T : u_T) (N : Nat) (ty0 : Nat → FieldType), vwCl[ci]? = some (Cn, T, N) ∧ (∀ w ∈ u_ws Cn T N, w ∈ zUU) ∧ j < N ∧ Cond.fieldLink own i (T j).1 (T j).2.1 (T j).2.2.1 ∈ zUU ∧ (∀ k, k < N → parseFieldDescriptor (T k).2.2.1 = some (ty0 k)) ∧ (∀ a, a < N → ∀ b, b < N → a ≠ b → (T a).2.1 ≠ (T b).2.1) ∧ (T j).2.2.2 = false ∧ parseFieldDescriptor (T j).2.2.1 = some ty
abbrev zrm (f lo : Nat) : Room := { frames := f, cells := 0, slots := 0, locals := lo }
def zLV (own : String) (i : Nat) (Cn : String) (y : MethodName) (bytes : ByteArray) (maxL : Nat) (ret : Option FieldType) (n : Nat) : Prop := GoodIn zUU (wsV own i Cn y (zU y bytes maxL ret)) ∧ (y.cls = Cn ∧ y.cls ≠ "java/lang/invoke/MethodHandle" ∧ y.cls ≠ "java/lang/invoke/VarHandle" ∧ (parseMethodDescriptor y.desc).map (fun d => d.parameters.length) = some n)
def zLS (own : String) (i : Nat) (y : MethodName) (bytes : ByteArray) (maxL : Nat) (ret : Option FieldType) (n : Nat) : Prop := GoodIn zUU (va_wsS own i y (zU y bytes maxL ret)) ∧ (y.cls ≠ "java/lang/invoke/MethodHandle" ∧ y.cls ≠ "java/lang/invoke/VarHandle" ∧ (parseMethodDescriptor y.desc).map (fun d => d.parameters.length) = some n)
theorem zLV_of {own : String} {i : Nat} {Cn : String} {y : MethodName} {bytes : ByteArray} {maxL : Nat} {ret : Option FieldType} {n : Nat} (h1 : Cond.methodLink own i y ∈ zUU) (h2 : Cond.instanceMethod y ∈ zUU) (h3 : Cond.selects Cn y y ∈ zUU) (h4 : Cond.initialized Cn ∈ zUU) (h5 : Cond.code y bytes maxL ret ∈ zUU) (h6 : y.cls = Cn ∧ y.cls ≠ "java/lang/invoke/MethodHandle" ∧ y.cls ≠ "java/lang/invoke/VarHandle" ∧ (parseMethodDescriptor y.desc).map (fun d => d.parameters.length) = some n) : zLV own i Cn y bytes maxL ret n := by
  refine ⟨fun w hw => ?_, h6⟩
  unfold wsV at hw
  rcases List.mem_append.mp hw with e | e
  · simp only [List.mem_cons, List.not_mem_nil, or_false] at e
    rcases e with e | e | e | e <;> subst e
    · exact zU_good _ h1
    · exact zU_good _ h2
    · exact zU_good _ h3
    · exact zU_good _ h4
  · exact zU_in h5 _ e
theorem zLS_of {own : String} {i : Nat} {y : MethodName} {bytes : ByteArray} {maxL : Nat} {ret : Option FieldType} {n : Nat} (h1 : Cond.methodLink own i y ∈ zUU) (h2 : Cond.static y ∈ zUU) (h4 : Cond.initialized y.cls ∈ zUU) (h5 : Cond.code y bytes maxL ret ∈ zUU) (h6 : y.cls ≠ "java/lang/invoke/MethodHandle" ∧ y.cls ≠ "java/lang/invoke/VarHandle" ∧ (parseMethodDescriptor y.desc).map (fun d => d.parameters.length) = some n) : zLS own i y bytes maxL ret n := by
  refine ⟨fun w hw => ?_, h6⟩
  unfold va_wsS at hw
  rcases List.mem_append.mp hw with e | e
  · simp only [List.mem_cons, List.not_mem_nil, or_false] at e
    rcases e with e | e | e <;> subst e
    · exact zU_good _ h1
    · exact zU_good _ h2
    · exact zU_good _ h4
  · exact zU_in h5 _ e
theorem zW_Ds {cy : Nat → ClassId} {g : Nat → Nat} (h : zin g) (sz : Nat) (σ : zSto) : va_D (zA g sz) (zW cy g σ) := zW_D h (fun k hk => Or.inl ⟨k, hk, rfl⟩) σ
theorem zA_mono {g : Nat → Nat} {a b q : Nat} (h : a ≤ b) (hq : zA g b q) : zA g a q := by
  rcases hq with ⟨k, h1, h2⟩ | h1
  · exact Or.inl ⟨k, h1, h2⟩
  · exact Or.inr (Nat.le_trans h h1)
/-- the links to nest mates, which are no words -/
def zNn (U : State) : Prop := va_Nw (.methodLinkNest RX8 59 yX9_isSort "ChestnutLine") U ∧ va_Nw (.methodLinkNest RX9 11 yX8_init "ChestnutLine") U ∧ va_Nw (.methodLinkNest RX8 17 yX0_init "ChestnutLine") U ∧ va_Nw (.methodLinkNest RX8 24 yX2_init "ChestnutLine") U ∧ va_Nw (.methodLinkNest RX9 26 yX4_init "ChestnutLine") U ∧ va_Nw (.methodLinkNest RX4 11 yX0_init "ChestnutLine") U ∧ va_Nw (.methodLinkNest RX4 20 yX2_init "ChestnutLine") U ∧ va_Nw (.methodLinkNest RX9 33 yX5_init "ChestnutLine") U ∧ va_Nw (.methodLinkNest RX9 40 yX1_init "ChestnutLine") U ∧ va_Nw (.methodLinkNest RX9 47 yX7_init "ChestnutLine") U ∧ va_Nw (.methodLinkNest RX9 54 yX6_init "ChestnutLine") U ∧ va_Nw (.methodLinkNest RX9 61 yX3_init "ChestnutLine") U ∧ va_Nw (.methodLinkNest RX9 68 yX0_init "ChestnutLine") U ∧ va_AO RX0 U ∧ va_AO RX2 U ∧ va_AO RX8 U
theorem zNn.warm {s U : State} (h : zNn s) (hW : s.WarmedH U.vm) : zNn U := ⟨va_Nw.warmM hW h.1, va_Nw.warmM hW h.2.1, va_Nw.warmM hW h.2.2.1, va_Nw.warmM hW h.2.2.2.1, va_Nw.warmM hW h.2.2.2.2.1, va_Nw.warmM hW h.2.2.2.2.2.1, va_Nw.warmM hW h.2.2.2.2.2.2.1, va_Nw.warmM hW h.2.2.2.2.2.2.2.1, va_Nw.warmM hW h.2.2.2.2.2.2.2.2.1, va_Nw.warmM hW h.2.2.2.2.2.2.2.2.2.1, va_Nw.warmM hW h.2.2.2.2.2.2.2.2.2.2.1, va_Nw.warmM hW h.2.2.2.2.2.2.2.2.2.2.2.1, va_Nw.warmM hW h.2.2.2.2.2.2.2.2.2.2.2.2.1, va_AO.moved hW.alike h.2.2.2.2.2.2.2.2.2.2.2.2.2.1, va_AO.moved hW.alike h.2.2.2.2.2.2.2.2.2.2.2.2.2.2.1, va_AO.moved hW.alike h.2.2.2.2.2.2.2.2.2.2.2.2.2.2.2⟩
theorem zNn.same {s U : State} (h : zNn s) (e : s.vm = U.vm) : zNn U := ⟨va_Nw.same rfl e h.1, va_Nw.same rfl e h.2.1, va_Nw.same rfl e h.2.2.1, va_Nw.same rfl e h.2.2.2.1, va_Nw.same rfl e h.2.2.2.2.1, va_Nw.same rfl e h.2.2.2.2.2.1, va_Nw.same rfl e h.2.2.2.2.2.2.1, va_Nw.same rfl e h.2.2.2.2.2.2.2.1, va_Nw.same rfl e h.2.2.2.2.2.2.2.2.1, va_Nw.same rfl e h.2.2.2.2.2.2.2.2.2.1, va_Nw.same rfl e h.2.2.2.2.2.2.2.2.2.2.1, va_Nw.same rfl e h.2.2.2.2.2.2.2.2.2.2.2.1, va_Nw.same rfl e h.2.2.2.2.2.2.2.2.2.2.2.2.1, va_AO.moved (by rw [e]; exact Vm.Alike.refl _) h.2.2.2.2.2.2.2.2.2.2.2.2.2.1, va_AO.moved (by rw [e]; exact Vm.Alike.refl _) h.2.2.2.2.2.2.2.2.2.2.2.2.2.2.1, va_AO.moved (by rw [e]; exact Vm.Alike.refl _) h.2.2.2.2.2.2.2.2.2.2.2.2.2.2.2⟩
theorem zNn.n_X8_59 {s : State} (h : zNn s) : va_Nw (.methodLinkNest RX8 59 yX9_isSort "ChestnutLine") s := h.1
theorem zNn.n_X9_11 {s : State} (h : zNn s) : va_Nw (.methodLinkNest RX9 11 yX8_init "ChestnutLine") s := h.2.1
theorem zNn.n_X8_17 {s : State} (h : zNn s) : va_Nw (.methodLinkNest RX8 17 yX0_init "ChestnutLine") s := h.2.2.1
theorem zNn.n_X8_24 {s : State} (h : zNn s) : va_Nw (.methodLinkNest RX8 24 yX2_init "ChestnutLine") s := h.2.2.2.1
theorem zNn.n_X9_26 {s : State} (h : zNn s) : va_Nw (.methodLinkNest RX9 26 yX4_init "ChestnutLine") s := h.2.2.2.2.1
theorem zNn.n_X4_11 {s : State} (h : zNn s) : va_Nw (.methodLinkNest RX4 11 yX0_init "ChestnutLine") s := h.2.2.2.2.2.1
theorem zNn.n_X4_20 {s : State} (h : zNn s) : va_Nw (.methodLinkNest RX4 20 yX2_init "ChestnutLine") s := h.2.2.2.2.2.2.1
theorem zNn.n_X9_33 {s : State} (h : zNn s) : va_Nw (.methodLinkNest RX9 33 yX5_init "ChestnutLine") s := h.2.2.2.2.2.2.2.1
theorem zNn.n_X9_40 {s : State} (h : zNn s) : va_Nw (.methodLinkNest RX9 40 yX1_init "ChestnutLine") s := h.2.2.2.2.2.2.2.2.1
theorem zNn.n_X9_47 {s : State} (h : zNn s) : va_Nw (.methodLinkNest RX9 47 yX7_init "ChestnutLine") s := h.2.2.2.2.2.2.2.2.2.1
theorem zNn.n_X9_54 {s : State} (h : zNn s) : va_Nw (.methodLinkNest RX9 54 yX6_init "ChestnutLine") s := h.2.2.2.2.2.2.2.2.2.2.1
theorem zNn.n_X9_61 {s : State} (h : zNn s) : va_Nw (.methodLinkNest RX9 61 yX3_init "ChestnutLine") s := h.2.2.2.2.2.2.2.2.2.2.2.1
theorem zNn.n_X9_68 {s : State} (h : zNn s) : va_Nw (.methodLinkNest RX9 68 yX0_init "ChestnutLine") s := h.2.2.2.2.2.2.2.2.2.2.2.2.1
theorem zNn.a_X0 {s : State} (h : zNn s) : va_AO RX0 s := h.2.2.2.2.2.2.2.2.2.2.2.2.2.1
theorem zNn.a_X2 {s : State} (h : zNn s) : va_AO RX2 s := h.2.2.2.2.2.2.2.2.2.2.2.2.2.2.1
theorem zNn.a_X8 {s : State} (h : zNn s) : va_AO RX8 s := h.2.2.2.2.2.2.2.2.2.2.2.2.2.2.2
/-! the String constants, by their places; COMPACT_STRINGS, the formatter: what nobody writes -/
def zlen : List Nat := [4, 4, 4, 5, 7, 4, 4, 3, 5, 6, 5]
def zbyt : List (List Int32) := [[112, 117, 108, 108], [115, 101, 101, 110], [112, 111, 115, 116], [114, 105, 100, 101, 114], [115, 116, 97, 116, 105, 111, 110], [111, 100, 100, 115], [104, 97, 108, 116], [101, 97, 116], [103, 114, 97, 99, 101], [98, 105, 115, 104, 111, 112], [111, 116, 104, 101, 114]]
def zkx : List Nat := [116, 122, 128, 130, 132, 134, 136, 138, 140, 142, 144]
def ztx : List String := ["pull", "seen", "post", "rider", "station", "odds", "halt", "eat", "grace", "bishop", "other"]
def zch (i k : Nat) : Int32 := (zbyt.getD i []).getD k 0
def zStr (cy : Nat → ClassId) (g : Nat → Nat) (U : State) : Prop := vk_S 11 zlen zbyt (fun i => cy (100 + i)) (fun i => cy (200 + i)) (zA g U.heap.size) U U.heap ∧ va_Z "java/lang/String" "COMPACT_STRINGS" "Z" (.int 1) (zA g U.heap.size) U U.heap ∧ va_Zq "jdk/internal/util/Preconditions" "SIOOBE_FORMATTER" "Ljava/util/function/BiFunction;" (zA g U.heap.size) U U.heap ∧ ∀ i, i < 11 → vk_R RX4 (zkx.getD i 0) (ztx.getD i "") (cy (100 + i)) U
def zN (cy : Nat → ClassId) (g : Nat → Nat) (U : State) : Prop := zNn U ∧ zStr cy g U
theorem zN.same {cy : Nat → ClassId} {g : Nat → Nat} {s U : State} (h : zN cy g s) (e : s.vm = U.vm) (e2 : U.heap = s.heap) : zN cy g U := by
  obtain ⟨h1, h2, h3, h4, h5⟩ := h
  have hal : s.vm.Alike U.vm := by rw [e]; exact Vm.Alike.refl _
  refine ⟨h1.same e, ?_, ?_, ?_, fun i hi => vk_R.same e.symm (h5 i hi)⟩
  · rw [e2]; exact h2.moved hal
  · rw [e2]; exact h3.moved hal
  · rw [e2]; exact h4.moved hal
theorem zN.call {cy : Nat → ClassId} {g : Nat → Nat} {s U : State} {H : Heap} {locs : List Loc} (h : zN cy g s) (hW : s.WarmedH U.vm) (hU : U.heap = H) (hS : va_S (zA g s.heap.size) s.heap H locs) : zN cy g U := by
  obtain ⟨h1, h2, h3, h4, h5⟩ := h
  subst hU
  have nr : ∀ q, zA g U.heap.size q → zA g s.heap.size q := fun q hq => zA_mono hS.1 hq
  exact ⟨h1.warm hW, ((h2.kept hS.2.1).narrow nr).moved hW.alike, ((h3.kept hS.2.1).narrow nr).moved hW.alike, ((h4.kept hS.2.1).narrow nr).moved hW.alike, fun i hi => (h5 i hi).warm hW⟩
theorem zN.n_X8_59 {cy : Nat → ClassId} {g : Nat → Nat} {s : State} (h : zN cy g s) : va_Nw (.methodLinkNest RX8 59 yX9_isSort "ChestnutLine") s := h.1.n_X8_59
theorem zN.n_X9_11 {cy : Nat → ClassId} {g : Nat → Nat} {s : State} (h : zN cy g s) : va_Nw (.methodLinkNest RX9 11 yX8_init "ChestnutLine") s := h.1.n_X9_11
theorem zN.n_X8_17 {cy : Nat → ClassId} {g : Nat → Nat} {s : State} (h : zN cy g s) : va_Nw (.methodLinkNest RX8 17 yX0_init "ChestnutLine") s := h.1.n_X8_17
theorem zN.n_X8_24 {cy : Nat → ClassId} {g : Nat → Nat} {s : State} (h : zN cy g s) : va_Nw (.methodLinkNest RX8 24 yX2_init "ChestnutLine") s := h.1.n_X8_24
theorem zN.n_X9_26 {cy : Nat → ClassId} {g : Nat → Nat} {s : State} (h : zN cy g s) : va_Nw (.methodLinkNest RX9 26 yX4_init "ChestnutLine") s := h.1.n_X9_26
theorem zN.n_X4_11 {cy : Nat → ClassId} {g : Nat → Nat} {s : State} (h : zN cy g s) : va_Nw (.methodLinkNest RX4 11 yX0_init "ChestnutLine") s := h.1.n_X4_11
theorem zN.n_X4_20 {cy : Nat → ClassId} {g : Nat → Nat} {s : State} (h : zN cy g s) : va_Nw (.methodLinkNest RX4 20 yX2_init "ChestnutLine") s := h.1.n_X4_20
theorem zN.n_X9_33 {cy : Nat → ClassId} {g : Nat → Nat} {s : State} (h : zN cy g s) : va_Nw (.methodLinkNest RX9 33 yX5_init "ChestnutLine") s := h.1.n_X9_33
theorem zN.n_X9_40 {cy : Nat → ClassId} {g : Nat → Nat} {s : State} (h : zN cy g s) : va_Nw (.methodLinkNest RX9 40 yX1_init "ChestnutLine") s := h.1.n_X9_40
theorem zN.n_X9_47 {cy : Nat → ClassId} {g : Nat → Nat} {s : State} (h : zN cy g s) : va_Nw (.methodLinkNest RX9 47 yX7_init "ChestnutLine") s := h.1.n_X9_47
theorem zN.n_X9_54 {cy : Nat → ClassId} {g : Nat → Nat} {s : State} (h : zN cy g s) : va_Nw (.methodLinkNest RX9 54 yX6_init "ChestnutLine") s := h.1.n_X9_54
theorem zN.n_X9_61 {cy : Nat → ClassId} {g : Nat → Nat} {s : State} (h : zN cy g s) : va_Nw (.methodLinkNest RX9 61 yX3_init "ChestnutLine") s := h.1.n_X9_61
theorem zN.n_X9_68 {cy : Nat → ClassId} {g : Nat → Nat} {s : State} (h : zN cy g s) : va_Nw (.methodLinkNest RX9 68 yX0_init "ChestnutLine") s := h.1.n_X9_68
def zPre (D : va_G) (cy : Nat → ClassId) (g : Nat → Nat) (σ : zSto) (sz : Nat) (U : State) : Prop := U.heap.size = sz ∧ va_P D vwCl (zW cy g σ) U.heap ∧ va_K D vwCl (zty cy) U ∧ zin g ∧ zN cy g U
theorem zPre_blind {D : va_G} {cy : Nat → ClassId} {g : Nat → Nat} {σ : zSto} {sz : Nat} {av : List Value} : FrameBlind (va_Pc av (zPre D cy g σ sz)) := fun a U f mk q => by
  obtain ⟨q0, q1, q2, q3, q4, q5⟩ := q
  exact ⟨q0, q1, q2, va_K.moved (u := U) (U := U.calling f mk a) (Vm.Alike.refl U.vm) q3, q4, q5.same rfl rfl⟩
/-- what holds in a method's body -/
def zC (p : Program) (s : State) (m : MethodId) (args : Array Value) (meth : Method) (c : Code) (cc : ByteArray) (own : String) (nL : Nat) (D : va_G) (cy : Nat → ClassId) (g : Nat → Nat) : Prop :=
  CallFix p m c cc nL s args zUU own ∧ va_K D vwCl (zty cy) s ∧ zin g ∧ zN cy g s ∧ meth.locks = false
/-- a contract over the store (i) -/
def zMi (l : Launch) (y : MethodName) (bytes : ByteArray) (maxL : Nat) (ret : Option FieldType) (rm : Room) (D : va_G) (cy : Nat → ClassId) (g : Nat → Nat) (av : List Value) (σ : zSto) (P : Int32 → zSto → Prop) : Prop := ∀ sz : Nat, Met l y (zU y bytes maxL ret) rm (va_Pc av (zPre D cy g σ sz)) (va_Qi P (fun (σ' : zSto) (t : State) => va_P D vwCl (zW cy g σ') t.heap) (zA g sz)) 0 0 (zA g sz)
/-- a contract over the store (b) -/
def zMb (l : Launch) (y : MethodName) (bytes : ByteArray) (maxL : Nat) (ret : Option FieldType) (rm : Room) (D : va_G) (cy : Nat → ClassId) (g : Nat → Nat) (av : List Value) (σ : zSto) (P : Int32 → zSto → Prop) : Prop := ∀ sz : Nat, Met l y (zU y bytes maxL ret) rm (va_Pc av (zPre D cy g σ sz)) (va_Qi (fun r u => (r = 0 ∨ r = 1) ∧ P r u) (fun (σ' : zSto) (t : State) => va_P D vwCl (zW cy g σ') t.heap) (zA g sz)) 0 0 (zA g sz)
/-- a contract over the store (l) -/
def zMl (l : Launch) (y : MethodName) (bytes : ByteArray) (maxL : Nat) (ret : Option FieldType) (rm : Room) (D : va_G) (cy : Nat → ClassId) (g : Nat → Nat) (av : List Value) (σ : zSto) (P : Int64 → zSto → Prop) : Prop := ∀ sz : Nat, Met l y (zU y bytes maxL ret) rm (va_Pc av (zPre D cy g σ sz)) (va_Ql P (fun (σ' : zSto) (t : State) => va_P D vwCl (zW cy g σ') t.heap) (zA g sz)) 0 0 (zA g sz)
/-- a contract over the store (v) -/
def zMv (l : Launch) (y : MethodName) (bytes : ByteArray) (maxL : Nat) (ret : Option FieldType) (rm : Room) (D : va_G) (cy : Nat → ClassId) (g : Nat → Nat) (av : List Value) (σ : zSto) (P : zSto → Prop) : Prop := ∀ sz : Nat, Met l y (zU y bytes maxL ret) rm (va_Pc av (zPre D cy g σ sz)) (va_Qv P (fun (σ' : zSto) (t : State) => va_P D vwCl (zW cy g σ') t.heap) (zA g sz)) 0 0 (zA g sz)
/-- a contract over the store (q) -/
def zMq (l : Launch) (y : MethodName) (bytes : ByteArray) (maxL : Nat) (ret : Option FieldType) (rm : Room) (D : va_G) (cy : Nat → ClassId) (g : Nat → Nat) (av : List Value) (σ : zSto) (P : Option Nat → zSto → Prop) : Prop := ∀ sz : Nat, Met l y (zU y bytes maxL ret) rm (va_Pc av (zPre D cy g σ sz)) (va_Qq (fun r u => ∃ i : Option Nat, r = i.map g ∧ P i u) (fun (σ' : zSto) (t : State) => va_P D vwCl (zW cy g σ') t.heap) (zA g sz)) 0 0 (zA g sz)
/-! THE WALK OVER THE STORE -/
section ZR
variable {p : Program} {l : Launch} {e : Env} {R : Room} {s : State} {m : MethodId} {args : Array Value} {below : List Frame} {meth : Method} {c : Code} {nc ns : Nat} {Q : State → Prop}
variable {cc : ByteArray} {own : String} {nL : Nat} {D : va_G} {cy : Nat → ClassId} {g : Nat → Nat}
variable {pc : Nat} {lv lv' : List (Nat × Value)} {st : List Value} {σ : zSto}
/-- the machine stands at pc with these locals, this stack, the world of this store, and comes to Q -/
def zX (p : Program) (l : Launch) (e : Env) (R : Room) (s : State) (m : MethodId) (args : Array Value) (below : List Frame) (meth : Method) (c : Code) (nc ns : Nat) (Q : State → Prop) (nL : Nat) (D : va_G) (cy : Nat → ClassId) (g : Nat → Nat) (pc : Nat) (lv : List (Nat × Value)) (st : List Value) (σ : zSto) : Prop :=
  ∀ (ls : Array Slot) (H : Heap) (locs : List Loc), lv_has ls nL lv → va_P D vwCl (zW cy g σ) H → va_S (zA g s.heap.size) s.heap H locs → W p l e R s m args below meth c H locs nc ns Q (F0 m pc ls st)
theorem zx_lv (ks : List Nat) (h : lv_pick lv ks = lv') (k : zX p l e R s m args below meth c nc ns Q nL D cy g pc lv' st σ) : zX p l e R s m args below meth c nc ns Q nL D cy g pc lv st σ := fun ls H locs h1 h2 h3 => k ls H locs (lv_sub h1 ks h) h2 h3
theorem zx_topi {x : Int32} (k : ∀ y : Int32, y = x → zX p l e R s m args below meth c nc ns Q nL D cy g pc lv (.int y :: st) σ) : zX p l e R s m args below meth c nc ns Q nL D cy g pc lv (.int x :: st) σ := k x rfl
theorem zx_topl {x : Int64} (k : ∀ y : Int64, y = x → zX p l e R s m args below meth c nc ns Q nL D cy g pc lv (.long y :: st) σ) : zX p l e R s m args below meth c nc ns Q nL D cy g pc lv (.long x :: st) σ := k x rfl
theorem zx_topr {x : Nat} (k : ∀ y : Nat, y = x → zX p l e R s m args below meth c nc ns Q nL D cy g pc lv (.ref (g y) :: st) σ) : zX p l e R s m args below meth c nc ns Q nL D cy g pc lv (.ref (g x) :: st) σ := k x rfl
theorem zx_sig (k : ∀ τ : zSto, τ = σ → zX p l e R s m args below meth c nc ns Q nL D cy g pc lv st τ) : zX p l e R s m args below meth c nc ns Q nL D cy g pc lv st σ := k σ rfl
theorem zx_st {σ' : zSto} (h : σ = σ') (k : zX p l e R s m args below meth c nc ns Q nL D cy g pc lv st σ') : zX p l e R s m args below meth c nc ns Q nL D cy g pc lv st σ := h ▸ k
theorem zx_iconst (C : zC p s m args meth c cc own nL D cy g) {n : Int} {v : Int32} (hd : decode cc pc = .ok (.iconst n, 1)) (hv : Int32.ofInt n = v) (k : zX p l e R s m args below meth c nc ns Q nL D cy g (pc + 1) lv (.int v :: st) σ) : zX p l e R s m args below meth c nc ns Q nL D cy g pc lv st σ := fun ls H locs h1 h2 h3 => lv_iconst C.1.1 C.1.2.1 hd hv (k ls H locs h1 h2 h3)
theorem zx_bipush (C : zC p s m args meth c cc own nL D cy g) {n : Int} {v : Int32} (hd : decode cc pc = .ok (.bipush n, 2)) (hv : (Int8.ofInt n).toInt32 = v) (k : zX p l e R s m args below meth c nc ns Q nL D cy g (pc + 2) lv (.int v :: st) σ) : zX p l e R s m args below meth c nc ns Q nL D cy g pc lv st σ := fun ls H locs h1 h2 h3 => lv_bipush C.1.1 C.1.2.1 hd hv (k ls H locs h1 h2 h3)
theorem zx_sipush (C : zC p s m args meth c cc own nL D cy g) {n : Int} {v : Int32} (hd : decode cc pc = .ok (.sipush n, 3)) (hv : (Int16.ofInt n).toInt32 = v) (k : zX p l e R s m args below meth c nc ns Q nL D cy g (pc + 3) lv (.int v :: st) σ) : zX p l e R s m args below meth c nc ns Q nL D cy g pc lv st σ := fun ls H locs h1 h2 h3 => lv_sipush C.1.1 C.1.2.1 hd hv (k ls H locs h1 h2 h3)
theorem zx_lconst (C : zC p s m args meth c cc own nL D cy g) {n : Fin 2} {v : Int64} (hd : decode cc pc = .ok (.lconst n, 1)) (hv : Int64.ofNat (n : Nat) = v) (k : zX p l e R s m args below meth c nc ns Q nL D cy g (pc + 1) lv (.long v :: st) σ) : zX p l e R s m args below meth c nc ns Q nL D cy g pc lv st σ := fun ls H locs h1 h2 h3 => lv_lconst C.1.1 C.1.2.1 hd hv (k ls H locs h1 h2 h3)
theorem zx_ldc (C : zC p s m args meth c cc own nL D cy g) {i : Nat} {v : Int32} (hd : decode cc pc = .ok (.ldc i, 2)) (hc : Cond.constant own i v ∈ zUU) (k : zX p l e R s m args below meth c nc ns Q nL D cy g (pc + 2) lv (.int v :: st) σ) : zX p l e R s m args below meth c nc ns Q nL D cy g pc lv st σ := fun ls H locs h1 h2 h3 => lv_ldc C.1.1 C.1.2.1 C.1.2.2.2.1 (C.1.2.2.2.2 _ hc) hd (k ls H locs h1 h2 h3)
theorem zx_ldcw (C : zC p s m args meth c cc own nL D cy g) {i : Nat} {v : Int32} (hd : decode cc pc = .ok (.ldc_w i, 3)) (hc : Cond.constant own i v ∈ zUU) (k : zX p l e R s m args below meth c nc ns Q nL D cy g (pc + 3) lv (.int v :: st) σ) : zX p l e R s m args below meth c nc ns Q nL D cy g pc lv st σ := fun ls H locs h1 h2 h3 => lv_ldcw C.1.1 C.1.2.1 C.1.2.2.2.1 (C.1.2.2.2.2 _ hc) hd (k ls H locs h1 h2 h3)
theorem zx_ldc2 (C : zC p s m args meth c cc own nL D cy g) {i : Nat} {v : Int64} (hd : decode cc pc = .ok (.ldc2_w i, 3)) (hc : Cond.constantLong own i v ∈ zUU) (k : zX p l e R s m args below meth c nc ns Q nL D cy g (pc + 3) lv (.long v :: st) σ) : zX p l e R s m args below meth c nc ns Q nL D cy g pc lv st σ := fun ls H locs h1 h2 h3 => lv_ldc2 C.1.1 C.1.2.1 C.1.2.2.2.1 (C.1.2.2.2.2 _ hc) hd (k ls H locs h1 h2 h3)
theorem zx_null (C : zC p s m args meth c cc own nL D cy g) (hd : decode cc pc = .ok (.aconst_null, 1)) (k : zX p l e R s m args below meth c nc ns Q nL D cy g (pc + 1) lv (.null :: st) σ) : zX p l e R s m args below meth c nc ns Q nL D cy g pc lv st σ := fun ls H locs h1 h2 h3 => lv_null C.1.1 C.1.2.1 hd (k ls H locs h1 h2 h3)
theorem zx_iload_n (C : zC p s m args meth c cc own nL D cy g) {i : Fin 4} {x : Int32} (hd : decode cc pc = .ok (.iload_n i, 1)) (j : Nat) (hl : lv[j]? = some ((i : Nat), .int x)) (k : zX p l e R s m args below meth c nc ns Q nL D cy g (pc + 1) lv (.int x :: st) σ) : zX p l e R s m args below meth c nc ns Q nL D cy g pc lv st σ := fun ls H locs h1 h2 h3 => lv_iload_n C.1.1 C.1.2.1 hd rfl (lv_at h1 j hl) (k ls H locs h1 h2 h3)
theorem zx_iload (C : zC p s m args meth c cc own nL D cy g) {i : Nat} {x : Int32} (hd : decode cc pc = .ok (.iload i, 2)) (j : Nat) (hl : lv[j]? = some (i, .int x)) (k : zX p l e R s m args below meth c nc ns Q nL D cy g (pc + 2) lv (.int x :: st) σ) : zX p l e R s m args below meth c nc ns Q nL D cy g pc lv st σ := fun ls H locs h1 h2 h3 => lv_iload C.1.1 C.1.2.1 hd (lv_at h1 j hl) (k ls H locs h1 h2 h3)
theorem zx_lload_n (C : zC p s m args meth c cc own nL D cy g) {i : Fin 4} {x : Int64} (hd : decode cc pc = .ok (.lload_n i, 1)) (j : Nat) (hl : lv[j]? = some ((i : Nat), .long x)) (k : zX p l e R s m args below meth c nc ns Q nL D cy g (pc + 1) lv (.long x :: st) σ) : zX p l e R s m args below meth c nc ns Q nL D cy g pc lv st σ := fun ls H locs h1 h2 h3 => lv_lload_n C.1.1 C.1.2.1 hd rfl (lv_at h1 j hl) (k ls H locs h1 h2 h3)
theorem zx_lload (C : zC p s m args meth c cc own nL D cy g) {i : Nat} {x : Int64} (hd : decode cc pc = .ok (.lload i, 2)) (j : Nat) (hl : lv[j]? = some (i, .long x)) (k : zX p l e R s m args below meth c nc ns Q nL D cy g (pc + 2) lv (.long x :: st) σ) : zX p l e R s m args below meth c nc ns Q nL D cy g pc lv st σ := fun ls H locs h1 h2 h3 => lv_lload C.1.1 C.1.2.1 hd (lv_at h1 j hl) (k ls H locs h1 h2 h3)
theorem zx_aload_n (C : zC p s m args meth c cc own nL D cy g) {i : Fin 4} {x : Nat} (hd : decode cc pc = .ok (.aload_n i, 1)) (j : Nat) (hl : lv[j]? = some ((i : Nat), .ref x)) (k : zX p l e R s m args below meth c nc ns Q nL D cy g (pc + 1) lv (.ref x :: st) σ) : zX p l e R s m args below meth c nc ns Q nL D cy g pc lv st σ := fun ls H locs h1 h2 h3 => lv_aload_n C.1.1 C.1.2.1 hd rfl (lv_at h1 j hl) (k ls H locs h1 h2 h3)
theorem zx_aload (C : zC p s m args meth c cc own nL D cy g) {i : Nat} {x : Nat} (hd : decode cc pc = .ok (.aload i, 2)) (j : Nat) (hl : lv[j]? = some (i, .ref x)) (k : zX p l e R s m args below meth c nc ns Q nL D cy g (pc + 2) lv (.ref x :: st) σ) : zX p l e R s m args below meth c nc ns Q nL D cy g pc lv st σ := fun ls H locs h1 h2 h3 => lv_aload C.1.1 C.1.2.1 hd (lv_at h1 j hl) (k ls H locs h1 h2 h3)
theorem zx_aload_nN (C : zC p s m args meth c cc own nL D cy g) {i : Fin 4} (hd : decode cc pc = .ok (.aload_n i, 1)) (j : Nat) (hl : lv[j]? = some ((i : Nat), .null)) (k : zX p l e R s m args below meth c nc ns Q nL D cy g (pc + 1) lv (.null :: st) σ) : zX p l e R s m args below meth c nc ns Q nL D cy g pc lv st σ := fun ls H locs h1 h2 h3 => lv_aload_nN C.1.1 C.1.2.1 hd rfl (lv_at h1 j hl) (k ls H locs h1 h2 h3)
theorem zx_aloadN (C : zC p s m args meth c cc own nL D cy g) {i : Nat} (hd : decode cc pc = .ok (.aload i, 2)) (j : Nat) (hl : lv[j]? = some (i, .null)) (k : zX p l e R s m args below meth c nc ns Q nL D cy g (pc + 2) lv (.null :: st) σ) : zX p l e R s m args below meth c nc ns Q nL D cy g pc lv st σ := fun ls H locs h1 h2 h3 => lv_aloadN C.1.1 C.1.2.1 hd (lv_at h1 j hl) (k ls H locs h1 h2 h3)
theorem zx_istore_n (C : zC p s m args meth c cc own nL D cy g) {i : Fin 4} {x : Int32} (hd : decode cc pc = .ok (.istore_n i, 1)) (hn : (i : Nat) < nL) (hl : ((i : Nat), Value.int x) :: lv.filter (fun q => !(q.1 == (i : Nat)) && !(q.1 + 1 == (i : Nat) && q.2.category == 2)) = lv') (k : zX p l e R s m args below meth c nc ns Q nL D cy g (pc + 1) lv' st σ) : zX p l e R s m args below meth c nc ns Q nL D cy g pc lv (.int x :: st) σ := fun ls H locs h1 h2 h3 => lv_istore_n C.1.1 C.1.2.1 hd rfl h1 hn hl (fun ls h1 => k ls H locs h1 h2 h3)
theorem zx_istore (C : zC p s m args meth c cc own nL D cy g) {i : Nat} {x : Int32} (hd : decode cc pc = .ok (.istore i, 2)) (hn : i < nL) (hl : (i, Value.int x) :: lv.filter (fun q => !(q.1 == i) && !(q.1 + 1 == i && q.2.category == 2)) = lv') (k : zX p l e R s m args below meth c nc ns Q nL D cy g (pc + 2) lv' st σ) : zX p l e R s m args below meth c nc ns Q nL D cy g pc lv (.int x :: st) σ := fun ls H locs h1 h2 h3 => lv_istore C.1.1 C.1.2.1 hd h1 hn hl (fun ls h1 => k ls H locs h1 h2 h3)
theorem zx_lstore_n (C : zC p s m args meth c cc own nL D cy g) {i : Fin 4} {x : Int64} (hd : decode cc pc = .ok (.lstore_n i, 1)) (hn : (i : Nat) + 1 < nL) (hl : ((i : Nat), Value.long x) :: lv.filter (fun q => !(q.1 == (i : Nat)) && (!(q.1 == (i : Nat) + 1) && !(q.1 + 1 == (i : Nat) && q.2.category == 2))) = lv') (k : zX p l e R s m args below meth c nc ns Q nL D cy g (pc + 1) lv' st σ) : zX p l e R s m args below meth c nc ns Q nL D cy g pc lv (.long x :: st) σ := fun ls H locs h1 h2 h3 => lv_lstore_n C.1.1 C.1.2.1 hd rfl h1 hn hl (fun ls h1 => k ls H locs h1 h2 h3)
theorem zx_lstore (C : zC p s m args meth c cc own nL D cy g) {i : Nat} {x : Int64} (hd : decode cc pc = .ok (.lstore i, 2)) (hn : i + 1 < nL) (hl : (i, Value.long x) :: lv.filter (fun q => !(q.1 == i) && (!(q.1 == i + 1) && !(q.1 + 1 == i && q.2.category == 2))) = lv') (k : zX p l e R s m args below meth c nc ns Q nL D cy g (pc + 2) lv' st σ) : zX p l e R s m args below meth c nc ns Q nL D cy g pc lv (.long x :: st) σ := fun ls H locs h1 h2 h3 => lv_lstore C.1.1 C.1.2.1 hd h1 hn hl (fun ls h1 => k ls H locs h1 h2 h3)
theorem zx_astore_n (C : zC p s m args meth c cc own nL D cy g) {i : Fin 4} {x : Nat} (hd : decode cc pc = .ok (.astore_n i, 1)) (hn : (i : Nat) < nL) (hl : ((i : Nat), Value.ref x) :: lv.filter (fun q => !(q.1 == (i : Nat)) && !(q.1 + 1 == (i : Nat) && q.2.category == 2)) = lv') (k : zX p l e R s m args below meth c nc ns Q nL D cy g (pc + 1) lv' st σ) : zX p l e R s m args below meth c nc ns Q nL D cy g pc lv (.ref x :: st) σ := fun ls H locs h1 h2 h3 => lv_astore_n C.1.1 C.1.2.1 hd rfl h1 hn hl (fun ls h1 => k ls H locs h1 h2 h3)
theorem zx_astore (C : zC p s m args meth c cc own nL D cy g) {i : Nat} {x : Nat} (hd : decode cc pc = .ok (.astore i, 2)) (hn : i < nL) (hl : (i, Value.ref x) :: lv.filter (fun q => !(q.1 == i) && !(q.1 + 1 == i && q.2.category == 2)) = lv') (k : zX p l e R s m args below meth c nc ns Q nL D cy g (pc + 2) lv' st σ) : zX p l e R s m args below meth c nc ns Q nL D cy g pc lv (.ref x :: st) σ := fun ls H locs h1 h2 h3 => lv_astore C.1.1 C.1.2.1 hd h1 hn hl (fun ls h1 => k ls H locs h1 h2 h3)
theorem zx_astore_nN (C : zC p s m args meth c cc own nL D cy g) {i : Fin 4} (hd : decode cc pc = .ok (.astore_n i, 1)) (hn : (i : Nat) < nL) (hl : ((i : Nat), Value.null) :: lv.filter (fun q => !(q.1 == (i : Nat)) && !(q.1 + 1 == (i : Nat) && q.2.category == 2)) = lv') (k : zX p l e R s m args below meth c nc ns Q nL D cy g (pc + 1) lv' st σ) : zX p l e R s m args below meth c nc ns Q nL D cy g pc lv (.null :: st) σ := fun ls H locs h1 h2 h3 => lv_astore_nN C.1.1 C.1.2.1 hd rfl h1 hn hl (fun ls h1 => k ls H locs h1 h2 h3)
theorem zx_astoreN (C : zC p s m args meth c cc own nL D cy g) {i : Nat} (hd : decode cc pc = .ok (.astore i, 2)) (hn : i < nL) (hl : (i, Value.null) :: lv.filter (fun q => !(q.1 == i) && !(q.1 + 1 == i && q.2.category == 2)) = lv') (k : zX p l e R s m args below meth c nc ns Q nL D cy g (pc + 2) lv' st σ) : zX p l e R s m args below meth c nc ns Q nL D cy g pc lv (.null :: st) σ := fun ls H locs h1 h2 h3 => lv_astoreN C.1.1 C.1.2.1 hd h1 hn hl (fun ls h1 => k ls H locs h1 h2 h3)
theorem zx_iinc (C : zC p s m args meth c cc own nL D cy g) {i : Nat} {n : Int} {x v : Int32} (hd : decode cc pc = .ok (.iinc i n, 3)) (j : Nat) (hj : lv[j]? = some (i, .int x)) (hv : x + Int32.ofInt n = v) (hn : i < nL) (hl : (i, Value.int v) :: lv.filter (fun q => !(q.1 == i) && !(q.1 + 1 == i && q.2.category == 2)) = lv') (k : zX p l e R s m args below meth c nc ns Q nL D cy g (pc + 3) lv' st σ) : zX p l e R s m args below meth c nc ns Q nL D cy g pc lv st σ := fun ls H locs h1 h2 h3 => lv_iinc C.1.1 C.1.2.1 hd h1 hj hv hn hl (fun ls h1 => k ls H locs h1 h2 h3)
theorem zx_iadd (C : zC p s m args meth c cc own nL D cy g) {x y : Int32} (hd : decode cc pc = .ok (.iadd, 1)) (k : zX p l e R s m args below meth c nc ns Q nL D cy g (pc + 1) lv (.int (x + y) :: st) σ) : zX p l e R s m args below meth c nc ns Q nL D cy g pc lv (.int y :: .int x :: st) σ := fun ls H locs h1 h2 h3 => lv_iadd C.1.1 C.1.2.1 hd (k ls H locs h1 h2 h3)
theorem zx_isub (C : zC p s m args meth c cc own nL D cy g) {x y : Int32} (hd : decode cc pc = .ok (.isub, 1)) (k : zX p l e R s m args below meth c nc ns Q nL D cy g (pc + 1) lv (.int (x - y) :: st) σ) : zX p l e R s m args below meth c nc ns Q nL D cy g pc lv (.int y :: .int x :: st) σ := fun ls H locs h1 h2 h3 => lv_isub C.1.1 C.1.2.1 hd (k ls H locs h1 h2 h3)
theorem zx_imul (C : zC p s m args meth c cc own nL D cy g) {x y : Int32} (hd : decode cc pc = .ok (.imul, 1)) (k : zX p l e R s m args below meth c nc ns Q nL D cy g (pc + 1) lv (.int (x * y) :: st) σ) : zX p l e R s m args below meth c nc ns Q nL D cy g pc lv (.int y :: .int x :: st) σ := fun ls H locs h1 h2 h3 => lv_imul C.1.1 C.1.2.1 hd (k ls H locs h1 h2 h3)
theorem zx_iand (C : zC p s m args meth c cc own nL D cy g) {x y : Int32} (hd : decode cc pc = .ok (.iand, 1)) (k : zX p l e R s m args below meth c nc ns Q nL D cy g (pc + 1) lv (.int (x &&& y) :: st) σ) : zX p l e R s m args below meth c nc ns Q nL D cy g pc lv (.int y :: .int x :: st) σ := fun ls H locs h1 h2 h3 => lv_iand C.1.1 C.1.2.1 hd (k ls H locs h1 h2 h3)
theorem zx_ior (C : zC p s m args meth c cc own nL D cy g) {x y : Int32} (hd : decode cc pc = .ok (.ior, 1)) (k : zX p l e R s m args below meth c nc ns Q nL D cy g (pc + 1) lv (.int (x ||| y) :: st) σ) : zX p l e R s m args below meth c nc ns Q nL D cy g pc lv (.int y :: .int x :: st) σ := fun ls H locs h1 h2 h3 => lv_ior C.1.1 C.1.2.1 hd (k ls H locs h1 h2 h3)
theorem zx_ixor (C : zC p s m args meth c cc own nL D cy g) {x y : Int32} (hd : decode cc pc = .ok (.ixor, 1)) (k : zX p l e R s m args below meth c nc ns Q nL D cy g (pc + 1) lv (.int (x ^^^ y) :: st) σ) : zX p l e R s m args below meth c nc ns Q nL D cy g pc lv (.int y :: .int x :: st) σ := fun ls H locs h1 h2 h3 => lv_ixor C.1.1 C.1.2.1 hd (k ls H locs h1 h2 h3)
theorem zx_ladd (C : zC p s m args meth c cc own nL D cy g) {x y : Int64} (hd : decode cc pc = .ok (.ladd, 1)) (k : zX p l e R s m args below meth c nc ns Q nL D cy g (pc + 1) lv (.long (x + y) :: st) σ) : zX p l e R s m args below meth c nc ns Q nL D cy g pc lv (.long y :: .long x :: st) σ := fun ls H locs h1 h2 h3 => lv_ladd C.1.1 C.1.2.1 hd (k ls H locs h1 h2 h3)
theorem zx_lsub (C : zC p s m args meth c cc own nL D cy g) {x y : Int64} (hd : decode cc pc = .ok (.lsub, 1)) (k : zX p l e R s m args below meth c nc ns Q nL D cy g (pc + 1) lv (.long (x - y) :: st) σ) : zX p l e R s m args below meth c nc ns Q nL D cy g pc lv (.long y :: .long x :: st) σ := fun ls H locs h1 h2 h3 => lv_lsub C.1.1 C.1.2.1 hd (k ls H locs h1 h2 h3)
theorem zx_lmul (C : zC p s m args meth c cc own nL D cy g) {x y : Int64} (hd : decode cc pc = .ok (.lmul, 1)) (k : zX p l e R s m args below meth c nc ns Q nL D cy g (pc + 1) lv (.long (x * y) :: st) σ) : zX p l e R s m args below meth c nc ns Q nL D cy g pc lv (.long y :: .long x :: st) σ := fun ls H locs h1 h2 h3 => lv_lmul C.1.1 C.1.2.1 hd (k ls H locs h1 h2 h3)
theorem zx_lor (C : zC p s m args meth c cc own nL D cy g) {x y : Int64} (hd : decode cc pc = .ok (.lor, 1)) (k : zX p l e R s m args below meth c nc ns Q nL D cy g (pc + 1) lv (.long (x ||| y) :: st) σ) : zX p l e R s m args below meth c nc ns Q nL D cy g pc lv (.long y :: .long x :: st) σ := fun ls H locs h1 h2 h3 => lv_lor C.1.1 C.1.2.1 hd (k ls H locs h1 h2 h3)
theorem zx_ishl (C : zC p s m args meth c cc own nL D cy g) {x y : Int32} (hd : decode cc pc = .ok (.ishl, 1)) (k : zX p l e R s m args below meth c nc ns Q nL D cy g (pc + 1) lv (.int (x <<< (y &&& 31)) :: st) σ) : zX p l e R s m args below meth c nc ns Q nL D cy g pc lv (.int y :: .int x :: st) σ := fun ls H locs h1 h2 h3 => lv_ishl C.1.1 C.1.2.1 hd (k ls H locs h1 h2 h3)
theorem zx_ishr (C : zC p s m args meth c cc own nL D cy g) {x y : Int32} (hd : decode cc pc = .ok (.ishr, 1)) (k : zX p l e R s m args below meth c nc ns Q nL D cy g (pc + 1) lv (.int (x >>> (y &&& 31)) :: st) σ) : zX p l e R s m args below meth c nc ns Q nL D cy g pc lv (.int y :: .int x :: st) σ := fun ls H locs h1 h2 h3 => lv_ishr C.1.1 C.1.2.1 hd (k ls H locs h1 h2 h3)
theorem zx_ineg (C : zC p s m args meth c cc own nL D cy g) {x : Int32} (hd : decode cc pc = .ok (.ineg, 1)) (k : zX p l e R s m args below meth c nc ns Q nL D cy g (pc + 1) lv (.int (-x) :: st) σ) : zX p l e R s m args below meth c nc ns Q nL D cy g pc lv (.int x :: st) σ := fun ls H locs h1 h2 h3 => lv_ineg C.1.1 C.1.2.1 hd (k ls H locs h1 h2 h3)
theorem zx_idiv (C : zC p s m args meth c cc own nL D cy g) {x y : Int32} (hd : decode cc pc = .ok (.idiv, 1)) (hne : ¬ y = 0) (k : zX p l e R s m args below meth c nc ns Q nL D cy g (pc + 1) lv (.int (x / y) :: st) σ) : zX p l e R s m args below meth c nc ns Q nL D cy g pc lv (.int y :: .int x :: st) σ := fun ls H locs h1 h2 h3 => lv_idiv C.1.1 C.1.2.1 hd hne (k ls H locs h1 h2 h3)
theorem zx_irem (C : zC p s m args meth c cc own nL D cy g) {x y : Int32} (hd : decode cc pc = .ok (.irem, 1)) (hne : ¬ y = 0) (k : zX p l e R s m args below meth c nc ns Q nL D cy g (pc + 1) lv (.int (x - x / y * y) :: st) σ) : zX p l e R s m args below meth c nc ns Q nL D cy g pc lv (.int y :: .int x :: st) σ := fun ls H locs h1 h2 h3 => lv_irem C.1.1 C.1.2.1 hd hne (k ls H locs h1 h2 h3)
theorem zx_ldiv (C : zC p s m args meth c cc own nL D cy g) {x y : Int64} (hd : decode cc pc = .ok (.ldiv, 1)) (hne : ¬ y = 0) (k : zX p l e R s m args below meth c nc ns Q nL D cy g (pc + 1) lv (.long (x / y) :: st) σ) : zX p l e R s m args below meth c nc ns Q nL D cy g pc lv (.long y :: .long x :: st) σ := fun ls H locs h1 h2 h3 => lv_ldiv C.1.1 C.1.2.1 hd hne (k ls H locs h1 h2 h3)
theorem zx_lrem (C : zC p s m args meth c cc own nL D cy g) {x y : Int64} (hd : decode cc pc = .ok (.lrem, 1)) (hne : ¬ y = 0) (k : zX p l e R s m args below meth c nc ns Q nL D cy g (pc + 1) lv (.long (x - x / y * y) :: st) σ) : zX p l e R s m args below meth c nc ns Q nL D cy g pc lv (.long y :: .long x :: st) σ := fun ls H locs h1 h2 h3 => lv_lrem C.1.1 C.1.2.1 hd hne (k ls H locs h1 h2 h3)
theorem zx_iushr (C : zC p s m args meth c cc own nL D cy g) {x y : Int32} (hd : decode cc pc = .ok (.iushr, 1)) (k : zX p l e R s m args below meth c nc ns Q nL D cy g (pc + 1) lv (.int (x.toUInt32 >>> (y.toUInt32 &&& Int32.toUInt32 31)).toInt32 :: st) σ) : zX p l e R s m args below meth c nc ns Q nL D cy g pc lv (.int y :: .int x :: st) σ := fun ls H locs h1 h2 h3 => lv_iushr C.1.1 C.1.2.1 hd rfl (k ls H locs h1 h2 h3)
theorem zx_lshl (C : zC p s m args meth c cc own nL D cy g) {x : Int64} {y : Int32} (hd : decode cc pc = .ok (.lshl, 1)) (k : zX p l e R s m args below meth c nc ns Q nL D cy g (pc + 1) lv (.long (x <<< (y.toInt64 &&& 63)) :: st) σ) : zX p l e R s m args below meth c nc ns Q nL D cy g pc lv (.int y :: .long x :: st) σ := fun ls H locs h1 h2 h3 => lv_lshl C.1.1 C.1.2.1 hd rfl (k ls H locs h1 h2 h3)
theorem zx_i2l (C : zC p s m args meth c cc own nL D cy g) {x : Int32} (hd : decode cc pc = .ok (.i2l, 1)) (k : zX p l e R s m args below meth c nc ns Q nL D cy g (pc + 1) lv (.long x.toInt64 :: st) σ) : zX p l e R s m args below meth c nc ns Q nL D cy g pc lv (.int x :: st) σ := fun ls H locs h1 h2 h3 => lv_i2l C.1.1 C.1.2.1 hd rfl (k ls H locs h1 h2 h3)
theorem zx_i2b (C : zC p s m args meth c cc own nL D cy g) {x : Int32} (hd : decode cc pc = .ok (.i2b, 1)) (k : zX p l e R s m args below meth c nc ns Q nL D cy g (pc + 1) lv (.int x.toInt8.toInt32 :: st) σ) : zX p l e R s m args below meth c nc ns Q nL D cy g pc lv (.int x :: st) σ := fun ls H locs h1 h2 h3 => lv_i2b C.1.1 C.1.2.1 hd rfl (k ls H locs h1 h2 h3)
theorem zx_lcmp (C : zC p s m args meth c cc own nL D cy g) {x y : Int64} (hd : decode cc pc = .ok (.lcmp, 1)) (k : zX p l e R s m args below meth c nc ns Q nL D cy g (pc + 1) lv (.int (lg_cmp x y) :: st) σ) : zX p l e R s m args below meth c nc ns Q nL D cy g pc lv (.long y :: .long x :: st) σ := fun ls H locs h1 h2 h3 => W.lcmp C.1.1 C.1.2.1 hd (k ls H locs h1 h2 h3)
theorem zx_dup (C : zC p s m args meth c cc own nL D cy g) {v : Value} (hd : decode cc pc = .ok (.dup, 1)) (hv : v.category = 1) (k : zX p l e R s m args below meth c nc ns Q nL D cy g (pc + 1) lv (v :: v :: st) σ) : zX p l e R s m args below meth c nc ns Q nL D cy g pc lv (v :: st) σ := fun ls H locs h1 h2 h3 => lv_dup C.1.1 C.1.2.1 hd hv (k ls H locs h1 h2 h3)
theorem zx_dup2 (C : zC p s m args meth c cc own nL D cy g) {v w : Value} (hd : decode cc pc = .ok (.dup2, 1)) (hv : v.category = 1) (hw : w.category = 1) (k : zX p l e R s m args below meth c nc ns Q nL D cy g (pc + 1) lv (v :: w :: v :: w :: st) σ) : zX p l e R s m args below meth c nc ns Q nL D cy g pc lv (v :: w :: st) σ := fun ls H locs h1 h2 h3 => lv_dup2_11 C.1.1 C.1.2.1 hd hv hw (k ls H locs h1 h2 h3)
theorem zx_pop (C : zC p s m args meth c cc own nL D cy g) {v : Value} (hd : decode cc pc = .ok (.pop, 1)) (hv : v.category = 1) (k : zX p l e R s m args below meth c nc ns Q nL D cy g (pc + 1) lv st σ) : zX p l e R s m args below meth c nc ns Q nL D cy g pc lv (v :: st) σ := fun ls H locs h1 h2 h3 => lv_pop C.1.1 C.1.2.1 hd hv (k ls H locs h1 h2 h3)
theorem zx_goto (C : zC p s m args meth c cc own nL D cy g) {off : Int} (tgt : Nat) (hd : decode cc pc = .ok (.goto off, 3)) (ht : (pc : Int) + off = (tgt : Int)) (k : zX p l e R s m args below meth c nc ns Q nL D cy g tgt lv st σ) : zX p l e R s m args below meth c nc ns Q nL D cy g pc lv st σ := fun ls H locs h1 h2 h3 => lv_goto C.1.1 C.1.2.1 hd ht (k ls H locs h1 h2 h3)
theorem zx_if_eq (C : zC p s m args meth c cc own nL D cy g) {x : Int32} {off : Int} (tgt : Nat) (hd : decode cc pc = .ok (.ifCond .eq off, 3)) (ht : (pc : Int) + off = (tgt : Int)) (kt : x = 0 → zX p l e R s m args below meth c nc ns Q nL D cy g tgt lv st σ) (kf : ¬ (x = 0) → zX p l e R s m args below meth c nc ns Q nL D cy g (pc + 3) lv st σ) : zX p l e R s m args below meth c nc ns Q nL D cy g pc lv (.int x :: st) σ := fun ls H locs h1 h2 h3 => lv_if_eq C.1.1 C.1.2.1 hd ht (fun q => kt q ls H locs h1 h2 h3) (fun q => kf q ls H locs h1 h2 h3)
theorem zx_icmp_eq (C : zC p s m args meth c cc own nL D cy g) {x y : Int32} {off : Int} (tgt : Nat) (hd : decode cc pc = .ok (.if_icmp .eq off, 3)) (ht : (pc : Int) + off = (tgt : Int)) (kt : x = y → zX p l e R s m args below meth c nc ns Q nL D cy g tgt lv st σ) (kf : ¬ (x = y) → zX p l e R s m args below meth c nc ns Q nL D cy g (pc + 3) lv st σ) : zX p l e R s m args below meth c nc ns Q nL D cy g pc lv (.int y :: .int x :: st) σ := fun ls H locs h1 h2 h3 => lv_icmp_eq C.1.1 C.1.2.1 hd ht (fun q => kt q ls H locs h1 h2 h3) (fun q => kf q ls H locs h1 h2 h3)
theorem zx_if_ne (C : zC p s m args meth c cc own nL D cy g) {x : Int32} {off : Int} (tgt : Nat) (hd : decode cc pc = .ok (.ifCond .ne off, 3)) (ht : (pc : Int) + off = (tgt : Int)) (kt : ¬ x = 0 → zX p l e R s m args below meth c nc ns Q nL D cy g tgt lv st σ) (kf : x = 0 → zX p l e R s m args below meth c nc ns Q nL D cy g (pc + 3) lv st σ) : zX p l e R s m args below meth c nc ns Q nL D cy g pc lv (.int x :: st) σ := fun ls H locs h1 h2 h3 => lv_if_ne C.1.1 C.1.2.1 hd ht (fun q => kt q ls H locs h1 h2 h3) (fun q => kf q ls H locs h1 h2 h3)
theorem zx_icmp_ne (C : zC p s m args meth c cc own nL D cy g) {x y : Int32} {off : Int} (tgt : Nat) (hd : decode cc pc = .ok (.if_icmp .ne off, 3)) (ht : (pc : Int) + off = (tgt : Int)) (kt : ¬ x = y → zX p l e R s m args below meth c nc ns Q nL D cy g tgt lv st σ) (kf : x = y → zX p l e R s m args below meth c nc ns Q nL D cy g (pc + 3) lv st σ) : zX p l e R s m args below meth c nc ns Q nL D cy g pc lv (.int y :: .int x :: st) σ := fun ls H locs h1 h2 h3 => lv_icmp_ne C.1.1 C.1.2.1 hd ht (fun q => kt q ls H locs h1 h2 h3) (fun q => kf q ls H locs h1 h2 h3)
theorem zx_if_lt (C : zC p s m args meth c cc own nL D cy g) {x : Int32} {off : Int} (tgt : Nat) (hd : decode cc pc = .ok (.ifCond .lt off, 3)) (ht : (pc : Int) + off = (tgt : Int)) (kt : x < 0 → zX p l e R s m args below meth c nc ns Q nL D cy g tgt lv st σ) (kf : ¬ (x < 0) → zX p l e R s m args below meth c nc ns Q nL D cy g (pc + 3) lv st σ) : zX p l e R s m args below meth c nc ns Q nL D cy g pc lv (.int x :: st) σ := fun ls H locs h1 h2 h3 => lv_if_lt C.1.1 C.1.2.1 hd ht (fun q => kt q ls H locs h1 h2 h3) (fun q => kf q ls H locs h1 h2 h3)
theorem zx_icmp_lt (C : zC p s m args meth c cc own nL D cy g) {x y : Int32} {off : Int} (tgt : Nat) (hd : decode cc pc = .ok (.if_icmp .lt off, 3)) (ht : (pc : Int) + off = (tgt : Int)) (kt : x < y → zX p l e R s m args below meth c nc ns Q nL D cy g tgt lv st σ) (kf : ¬ (x < y) → zX p l e R s m args below meth c nc ns Q nL D cy g (pc + 3) lv st σ) : zX p l e R s m args below meth c nc ns Q nL D cy g pc lv (.int y :: .int x :: st) σ := fun ls H locs h1 h2 h3 => lv_icmp_lt C.1.1 C.1.2.1 hd ht (fun q => kt q ls H locs h1 h2 h3) (fun q => kf q ls H locs h1 h2 h3)
theorem zx_if_ge (C : zC p s m args meth c cc own nL D cy g) {x : Int32} {off : Int} (tgt : Nat) (hd : decode cc pc = .ok (.ifCond .ge off, 3)) (ht : (pc : Int) + off = (tgt : Int)) (kt : 0 ≤ x → zX p l e R s m args below meth c nc ns Q nL D cy g tgt lv st σ) (kf : ¬ (0 ≤ x) → zX p l e R s m args below meth c nc ns Q nL D cy g (pc + 3) lv st σ) : zX p l e R s m args below meth c nc ns Q nL D cy g pc lv (.int x :: st) σ := fun ls H locs h1 h2 h3 => lv_if_ge C.1.1 C.1.2.1 hd ht (fun q => kt q ls H locs h1 h2 h3) (fun q => kf q ls H locs h1 h2 h3)
theorem zx_icmp_ge (C : zC p s m args meth c cc own nL D cy g) {x y : Int32} {off : Int} (tgt : Nat) (hd : decode cc pc = .ok (.if_icmp .ge off, 3)) (ht : (pc : Int) + off = (tgt : Int)) (kt : y ≤ x → zX p l e R s m args below meth c nc ns Q nL D cy g tgt lv st σ) (kf : ¬ (y ≤ x) → zX p l e R s m args below meth c nc ns Q nL D cy g (pc + 3) lv st σ) : zX p l e R s m args below meth c nc ns Q nL D cy g pc lv (.int y :: .int x :: st) σ := fun ls H locs h1 h2 h3 => lv_icmp_ge C.1.1 C.1.2.1 hd ht (fun q => kt q ls H locs h1 h2 h3) (fun q => kf q ls H locs h1 h2 h3)
theorem zx_if_gt (C : zC p s m args meth c cc own nL D cy g) {x : Int32} {off : Int} (tgt : Nat) (hd : decode cc pc = .ok (.ifCond .gt off, 3)) (ht : (pc : Int) + off = (tgt : Int)) (kt : 0 < x → zX p l e R s m args below meth c nc ns Q nL D cy g tgt lv st σ) (kf : ¬ (0 < x) → zX p l e R s m args below meth c nc ns Q nL D cy g (pc + 3) lv st σ) : zX p l e R s m args below meth c nc ns Q nL D cy g pc lv (.int x :: st) σ := fun ls H locs h1 h2 h3 => lv_if_gt C.1.1 C.1.2.1 hd ht (fun q => kt q ls H locs h1 h2 h3) (fun q => kf q ls H locs h1 h2 h3)
theorem zx_icmp_gt (C : zC p s m args meth c cc own nL D cy g) {x y : Int32} {off : Int} (tgt : Nat) (hd : decode cc pc = .ok (.if_icmp .gt off, 3)) (ht : (pc : Int) + off = (tgt : Int)) (kt : y < x → zX p l e R s m args below meth c nc ns Q nL D cy g tgt lv st σ) (kf : ¬ (y < x) → zX p l e R s m args below meth c nc ns Q nL D cy g (pc + 3) lv st σ) : zX p l e R s m args below meth c nc ns Q nL D cy g pc lv (.int y :: .int x :: st) σ := fun ls H locs h1 h2 h3 => lv_icmp_gt C.1.1 C.1.2.1 hd ht (fun q => kt q ls H locs h1 h2 h3) (fun q => kf q ls H locs h1 h2 h3)
theorem zx_if_le (C : zC p s m args meth c cc own nL D cy g) {x : Int32} {off : Int} (tgt : Nat) (hd : decode cc pc = .ok (.ifCond .le off, 3)) (ht : (pc : Int) + off = (tgt : Int)) (kt : x ≤ 0 → zX p l e R s m args below meth c nc ns Q nL D cy g tgt lv st σ) (kf : ¬ (x ≤ 0) → zX p l e R s m args below meth c nc ns Q nL D cy g (pc + 3) lv st σ) : zX p l e R s m args below meth c nc ns Q nL D cy g pc lv (.int x :: st) σ := fun ls H locs h1 h2 h3 => lv_if_le C.1.1 C.1.2.1 hd ht (fun q => kt q ls H locs h1 h2 h3) (fun q => kf q ls H locs h1 h2 h3)
theorem zx_icmp_le (C : zC p s m args meth c cc own nL D cy g) {x y : Int32} {off : Int} (tgt : Nat) (hd : decode cc pc = .ok (.if_icmp .le off, 3)) (ht : (pc : Int) + off = (tgt : Int)) (kt : x ≤ y → zX p l e R s m args below meth c nc ns Q nL D cy g tgt lv st σ) (kf : ¬ (x ≤ y) → zX p l e R s m args below meth c nc ns Q nL D cy g (pc + 3) lv st σ) : zX p l e R s m args below meth c nc ns Q nL D cy g pc lv (.int y :: .int x :: st) σ := fun ls H locs h1 h2 h3 => lv_icmp_le C.1.1 C.1.2.1 hd ht (fun q => kt q ls H locs h1 h2 h3) (fun q => kf q ls H locs h1 h2 h3)
theorem zx_ifnull (C : zC p s m args meth c cc own nL D cy g) {x : Nat} {off : Int} (hd : decode cc pc = .ok (.ifnull off, 3)) (k : zX p l e R s m args below meth c nc ns Q nL D cy g (pc + 3) lv st σ) : zX p l e R s m args below meth c nc ns Q nL D cy g pc lv (.ref x :: st) σ := fun ls H locs h1 h2 h3 => lv_ifnull C.1.1 C.1.2.1 hd (k ls H locs h1 h2 h3)
theorem zx_ifnullN (C : zC p s m args meth c cc own nL D cy g) {off : Int} (tgt : Nat) (hd : decode cc pc = .ok (.ifnull off, 3)) (ht : (pc : Int) + off = (tgt : Int)) (k : zX p l e R s m args below meth c nc ns Q nL D cy g tgt lv st σ) : zX p l e R s m args below meth c nc ns Q nL D cy g pc lv (.null :: st) σ := fun ls H locs h1 h2 h3 => lv_ifnullN C.1.1 C.1.2.1 hd ht (k ls H locs h1 h2 h3)
theorem zx_ifnonnull (C : zC p s m args meth c cc own nL D cy g) {x : Nat} {off : Int} (tgt : Nat) (hd : decode cc pc = .ok (.ifnonnull off, 3)) (ht : (pc : Int) + off = (tgt : Int)) (k : zX p l e R s m args below meth c nc ns Q nL D cy g tgt lv st σ) : zX p l e R s m args below meth c nc ns Q nL D cy g pc lv (.ref x :: st) σ := fun ls H locs h1 h2 h3 => lv_ifnonnull C.1.1 C.1.2.1 hd ht (k ls H locs h1 h2 h3)
theorem zx_ifnonnullN (C : zC p s m args meth c cc own nL D cy g) {off : Int} (hd : decode cc pc = .ok (.ifnonnull off, 3)) (k : zX p l e R s m args below meth c nc ns Q nL D cy g (pc + 3) lv st σ) : zX p l e R s m args below meth c nc ns Q nL D cy g pc lv (.null :: st) σ := fun ls H locs h1 h2 h3 => lv_ifnonnullN C.1.1 C.1.2.1 hd (k ls H locs h1 h2 h3)
theorem zx_tableOut (C : zC p s m args meth c cc own nL D cy g) {dflt lo hi : Int} {offs : Array Int} {len : Nat} {x : Int32} (tgt : Nat) (hd : decode cc pc = .ok (.tableswitch dflt lo hi offs, len)) (h : x.toInt < lo ∨ hi < x.toInt) (ht : (pc : Int) + dflt = (tgt : Int)) (k : zX p l e R s m args below meth c nc ns Q nL D cy g tgt lv st σ) : zX p l e R s m args below meth c nc ns Q nL D cy g pc lv (.int x :: st) σ := fun ls H locs h1 h2 h3 => lv_tableOut C.1.1 C.1.2.1 hd h ht (k ls H locs h1 h2 h3)
theorem zx_tableIn (C : zC p s m args meth c cc own nL D cy g) {dflt lo hi off : Int} {offs : Array Int} {len : Nat} {x : Int32} (tgt : Nat) (v : Int32) (hx : x = v) (hd : decode cc pc = .ok (.tableswitch dflt lo hi offs, len)) (h1 : ¬ v.toInt < lo) (h2 : ¬ hi < v.toInt) (ho : offs[(v.toInt - lo).toNat]? = some off) (ht : (pc : Int) + off = (tgt : Int)) (k : zX p l e R s m args below meth c nc ns Q nL D cy g tgt lv st σ) : zX p l e R s m args below meth c nc ns Q nL D cy g pc lv (.int x :: st) σ := fun ls H locs q1 q2 q3 => lv_tableIn C.1.1 C.1.2.1 hd (by rw [hx]; exact h1) (by rw [hx]; exact h2) (by rw [hx]; exact ho) ht (k ls H locs q1 q2 q3)
/-- a field of an object: a reference that never changes, an int, a long -/
theorem zx_getR (C : zC p s m args meth c cc own nL D cy g) {k0 ci i d j : Nat} {fds : List (Nat × Nat)} (hs : zsh k0 = zo ci fds) (hF : zFG own i ci j) (hf : fds[j]? = some (0, d)) (k1 : Nat) (e1 : k0 + d = k1) (hd : decode cc pc = .ok (.getfield i, 3)) (k : zX p l e R s m args below meth c nc ns Q nL D cy g (pc + 3) lv (.ref (g k1) :: st) σ) : zX p l e R s m args below meth c nc ns Q nL D cy g pc lv (.ref (g k0) :: st) σ := fun ls H locs h1 h2 h3 => by
  obtain ⟨Cn, T, N, hc, hin, hk, hl⟩ := hF
  exact va_get C.1.1 C.1.2.1 C.1.2.2.2.2 hin C.1.2.2.2.1 C.2.1 h2 k0 (zg_o hs) hc j hk (C.1.2.2.2.2 _ hl) (fun _ h => h) (by rw [List.getElem?_mapIdx, hf]; subst e1; rfl) hd (k ls H locs h1 h2 h3)
theorem zx_getI (C : zC p s m args meth c cc own nL D cy g) {k0 ci i d j : Nat} {fds : List (Nat × Nat)} (hs : zsh k0 = zo ci fds) (hF : zFG own i ci j) (hf : fds[j]? = some (1, d)) (hd : decode cc pc = .ok (.getfield i, 3)) (k : zX p l e R s m args below meth c nc ns Q nL D cy g (pc + 3) lv (.int (σ.1 k0 j) :: st) σ) : zX p l e R s m args below meth c nc ns Q nL D cy g pc lv (.ref (g k0) :: st) σ := fun ls H locs h1 h2 h3 => by
  obtain ⟨Cn, T, N, hc, hin, hk, hl⟩ := hF
  exact va_get C.1.1 C.1.2.1 C.1.2.2.2.2 hin C.1.2.2.2.1 C.2.1 h2 k0 (zg_o hs) hc j hk (C.1.2.2.2.2 _ hl) (fun _ h => h) (by rw [List.getElem?_mapIdx, hf]; rfl) hd (k ls H locs h1 h2 h3)
theorem zx_getL (C : zC p s m args meth c cc own nL D cy g) {k0 ci i d j : Nat} {fds : List (Nat × Nat)} (hs : zsh k0 = zo ci fds) (hF : zFG own i ci j) (hf : fds[j]? = some (2, d)) (hd : decode cc pc = .ok (.getfield i, 3)) (k : zX p l e R s m args below meth c nc ns Q nL D cy g (pc + 3) lv (.long (σ.2 k0 j) :: st) σ) : zX p l e R s m args below meth c nc ns Q nL D cy g pc lv (.ref (g k0) :: st) σ := fun ls H locs h1 h2 h3 => by
  obtain ⟨Cn, T, N, hc, hin, hk, hl⟩ := hF
  exact va_get C.1.1 C.1.2.1 C.1.2.2.2.2 hin C.1.2.2.2.1 C.2.1 h2 k0 (zg_o hs) hc j hk (C.1.2.2.2.2 _ hl) (fun _ h => h) (by rw [List.getElem?_mapIdx, hf]; rfl) hd (k ls H locs h1 h2 h3)
theorem zx_putI (C : zC p s m args meth c cc own nL D cy g) {k0 ci i d j : Nat} {fds : List (Nat × Nat)} (hs : zsh k0 = zo ci fds) (hF : zFP own i ci j .int) (hf : fds[j]? = some (1, d)) (hd : decode cc pc = .ok (.putfield i, 3)) {v : Int32} (k : zX p l e R s m args below meth c nc ns Q nL D cy g (pc + 3) lv st (zI σ k0 j v)) : zX p l e R s m args below meth c nc ns Q nL D cy g pc lv (.int v :: .ref (g k0) :: st) σ := by
  intro ls H locs h1 h2 h3
  obtain ⟨Cn, T, N, ty0, hc, hin, hk, hl, hty, hnm, hfin, hpd⟩ := hF
  refine va_put (ty := .int) C.1.1 C.1.2.1 C.1.2.2.2.2 hin ty0 hty hnm C.1.2.2.2.1 C.2.1 h2 (zW_Ds C.2.2.1 _ σ) h3 k0 (zg_o hs) hc j hk (C.1.2.2.2.2 _ hl) (fun _ h => h) hfin hpd rfl rfl (by rw [List.length_mapIdx]; exact (List.getElem?_eq_some_iff.mp hf).1) hd (fun H1 locs1 q1 _ q3 => k ls H1 locs1 h1 ?_ q3)
  rw [zV_set hf, zW_set (σ := σ) (σ' := zI σ k0 j v) (by rw [hs, zE_o]; show _ = Sum.inr (ci, fds.mapIdx (zV g k0 (va_up σ.1 k0 (upd (σ.1 k0) j v) k0) (σ.2 k0))); rw [zup_s]) (fun a ha => zup_n _ _ _ ha) (fun a _ => rfl)] at q1
  exact q1
theorem zx_putL (C : zC p s m args meth c cc own nL D cy g) {k0 ci i d j : Nat} {fds : List (Nat × Nat)} (hs : zsh k0 = zo ci fds) (hF : zFP own i ci j .long) (hf : fds[j]? = some (2, d)) (hd : decode cc pc = .ok (.putfield i, 3)) {v : Int64} (k : zX p l e R s m args below meth c nc ns Q nL D cy g (pc + 3) lv st (zJ σ k0 j v)) : zX p l e R s m args below meth c nc ns Q nL D cy g pc lv (.long v :: .ref (g k0) :: st) σ := by
  intro ls H locs h1 h2 h3
  obtain ⟨Cn, T, N, ty0, hc, hin, hk, hl, hty, hnm, hfin, hpd⟩ := hF
  refine va_put (ty := .long) C.1.1 C.1.2.1 C.1.2.2.2.2 hin ty0 hty hnm C.1.2.2.2.1 C.2.1 h2 (zW_Ds C.2.2.1 _ σ) h3 k0 (zg_o hs) hc j hk (C.1.2.2.2.2 _ hl) (fun _ h => h) hfin hpd rfl rfl (by rw [List.length_mapIdx]; exact (List.getElem?_eq_some_iff.mp hf).1) hd (fun H1 locs1 q1 _ q3 => k ls H1 locs1 h1 ?_ q3)
  rw [zV_setL hf, zW_set (σ := σ) (σ' := zJ σ k0 j v) (by rw [hs, zE_o]; show _ = Sum.inr (ci, fds.mapIdx (zV g k0 (σ.1 k0) (va_up σ.2 k0 (vp_updL (σ.2 k0) j v) k0))); rw [zup_s]) (fun a _ => rfl) (fun a ha => zup_n _ _ _ ha)] at q1
  exact q1
theorem zx_iald (C : zC p s m args meth c cc own nL D cy g) {k0 n : Nat} (j : Nat) {i : Int32} (hs : zsh k0 = za 0 n) (hi : vp_in i n) (hj : i.toNatClampNeg = j) (hd : decode cc pc = .ok (.iaload, 1)) (k : zX p l e R s m args below meth c nc ns Q nL D cy g (pc + 1) lv (.int (σ.1 k0 j) :: st) σ) : zX p l e R s m args below meth c nc ns Q nL D cy g pc lv (.int i :: .ref (g k0) :: st) σ := fun ls H locs h1 h2 h3 => by
  subst hj
  exact va_iald C.1.1 C.1.2.1 C.2.1 h2 k0 0 (zg_a hs) rfl hi hd (k ls H locs h1 h2 h3)
theorem zx_bald (C : zC p s m args meth c cc own nL D cy g) {k0 n : Nat} (j : Nat) {i : Int32} (hs : zsh k0 = za 1 n) (hi : vp_in i n) (hj : i.toNatClampNeg = j) (hd : decode cc pc = .ok (.baload, 1)) (k : zX p l e R s m args below meth c nc ns Q nL D cy g (pc + 1) lv (.int (σ.1 k0 j) :: st) σ) : zX p l e R s m args below meth c nc ns Q nL D cy g pc lv (.int i :: .ref (g k0) :: st) σ := fun ls H locs h1 h2 h3 => by
  subst hj
  exact va_bald C.1.1 C.1.2.1 C.2.1 h2 k0 1 (zg_a hs) rfl hi hd (k ls H locs h1 h2 h3)
theorem zx_zald (C : zC p s m args meth c cc own nL D cy g) {k0 n : Nat} (j : Nat) {i : Int32} (hs : zsh k0 = za 2 n) (hi : vp_in i n) (hj : i.toNatClampNeg = j) (hd : decode cc pc = .ok (.baload, 1)) (k : zX p l e R s m args below meth c nc ns Q nL D cy g (pc + 1) lv (.int (σ.1 k0 j) :: st) σ) : zX p l e R s m args below meth c nc ns Q nL D cy g pc lv (.int i :: .ref (g k0) :: st) σ := fun ls H locs h1 h2 h3 => by
  subst hj
  exact va_zald C.1.1 C.1.2.1 C.2.1 h2 k0 2 (zg_a hs) rfl hi hd (k ls H locs h1 h2 h3)
theorem zx_lald (C : zC p s m args meth c cc own nL D cy g) {k0 n : Nat} (j : Nat) {i : Int32} (hs : zsh k0 = zl n) (hi : vp_in i n) (hj : i.toNatClampNeg = j) (hd : decode cc pc = .ok (.laload, 1)) (k : zX p l e R s m args below meth c nc ns Q nL D cy g (pc + 1) lv (.long (σ.2 k0 j) :: st) σ) : zX p l e R s m args below meth c nc ns Q nL D cy g pc lv (.int i :: .ref (g k0) :: st) σ := fun ls H locs h1 h2 h3 => by
  subst hj
  exact va_lald C.1.1 C.1.2.1 C.2.1 h2 k0 3 (zg_l hs) rfl hi hd (k ls H locs h1 h2 h3)
theorem zx_aald (C : zC p s m args meth c cc own nL D cy g) {k0 n a : Nat} {Cn : String} {fds : List (Nat × Nat)} {i : Int32} (hs : zsh k0 = zr a n fds) (ht : (zty cy)[a]? = some (cy a, .object Cn)) (hi : vp_in i n) (hf : fds.length = n) (hd : decode cc pc = .ok (.aaload, 1)) (k : zX p l e R s m args below meth c nc ns Q nL D cy g (pc + 1) lv (.ref (g (k0 + zel fds i)) :: st) σ) : zX p l e R s m args below meth c nc ns Q nL D cy g pc lv (.int i :: .ref (g k0) :: st) σ := fun ls H locs h1 h2 h3 => va_aldq C.1.1 C.1.2.1 C.2.1 h2 k0 a (zg_r hs) ht hi hd (by
  have hlt : i.toNatClampNeg < fds.length := by rw [hf]; exact Nat.not_le.mp fun q => hi (Or.inr q)
  have : (fds[i.toNatClampNeg]?).map (fun fd => g (k0 + fd.2)) = some (g (k0 + zel fds i)) := by
    unfold zel
    rw [List.getD_eq_getElem?_getD, List.getElem?_eq_getElem hlt]
    rfl
  rw [this]
  exact k ls H locs h1 h2 h3)
theorem zx_iast (C : zC p s m args meth c cc own nL D cy g) {k0 n : Nat} (j : Nat) {i v : Int32} (hs : zsh k0 = za 0 n) (hi : vp_in i n) (hj : i.toNatClampNeg = j) (hd : decode cc pc = .ok (.iastore, 1)) (k : zX p l e R s m args below meth c nc ns Q nL D cy g (pc + 1) lv st (zI σ k0 j v)) : zX p l e R s m args below meth c nc ns Q nL D cy g pc lv (.int v :: .int i :: .ref (g k0) :: st) σ := by
  subst hj
  intro ls H locs h1 h2 h3
  refine va_iast C.1.1 C.1.2.1 C.2.1 h2 (zW_Ds C.2.2.1 _ σ) h3 k0 0 (zg_a hs) rfl hi hd (fun H1 locs1 q1 _ q3 => k ls H1 locs1 h1 ?_ q3)
  rw [zW_set (σ := σ) (σ' := zI σ k0 i.toNatClampNeg v) (by rw [hs, zE_a]; show _ = Sum.inl (cy 0, n, Sum.inl (va_up σ.1 k0 (upd (σ.1 k0) i.toNatClampNeg v) k0)); rw [zup_s]) (fun a ha => zup_n _ _ _ ha) (fun a _ => rfl)] at q1
  exact q1
theorem zx_bast (C : zC p s m args meth c cc own nL D cy g) {k0 n : Nat} (j : Nat) {i v : Int32} (hs : zsh k0 = za 1 n) (hi : vp_in i n) (hj : i.toNatClampNeg = j) (hd : decode cc pc = .ok (.bastore, 1)) (k : zX p l e R s m args below meth c nc ns Q nL D cy g (pc + 1) lv st (zI σ k0 j (vp_nar .byte v))) : zX p l e R s m args below meth c nc ns Q nL D cy g pc lv (.int v :: .int i :: .ref (g k0) :: st) σ := by
  subst hj
  intro ls H locs h1 h2 h3
  refine va_bast C.1.1 C.1.2.1 C.2.1 h2 (zW_Ds C.2.2.1 _ σ) h3 k0 1 (zg_a hs) rfl hi hd (fun H1 locs1 q1 _ q3 => k ls H1 locs1 h1 ?_ q3)
  rw [zW_set (σ := σ) (σ' := zI σ k0 i.toNatClampNeg (vp_nar .byte v)) (by rw [hs, zE_a]; show _ = Sum.inl (cy 1, n, Sum.inl (va_up σ.1 k0 (upd (σ.1 k0) i.toNatClampNeg (vp_nar .byte v)) k0)); rw [zup_s]) (fun a ha => zup_n _ _ _ ha) (fun a _ => rfl)] at q1
  exact q1
theorem zx_zast (C : zC p s m args meth c cc own nL D cy g) {k0 n : Nat} (j : Nat) {i v : Int32} (hs : zsh k0 = za 2 n) (hi : vp_in i n) (hj : i.toNatClampNeg = j) (hd : decode cc pc = .ok (.bastore, 1)) (k : zX p l e R s m args below meth c nc ns Q nL D cy g (pc + 1) lv st (zI σ k0 j (vp_nar .boolean v))) : zX p l e R s m args below meth c nc ns Q nL D cy g pc lv (.int v :: .int i :: .ref (g k0) :: st) σ := by
  subst hj
  intro ls H locs h1 h2 h3
  refine va_zast C.1.1 C.1.2.1 C.2.1 h2 (zW_Ds C.2.2.1 _ σ) h3 k0 2 (zg_a hs) rfl hi hd (fun H1 locs1 q1 _ q3 => k ls H1 locs1 h1 ?_ q3)
  rw [zW_set (σ := σ) (σ' := zI σ k0 i.toNatClampNeg (vp_nar .boolean v)) (by rw [hs, zE_a]; show _ = Sum.inl (cy 2, n, Sum.inl (va_up σ.1 k0 (upd (σ.1 k0) i.toNatClampNeg (vp_nar .boolean v)) k0)); rw [zup_s]) (fun a ha => zup_n _ _ _ ha) (fun a _ => rfl)] at q1
  exact q1
theorem zx_last (C : zC p s m args meth c cc own nL D cy g) {k0 n : Nat} (j : Nat) {i : Int32} {v : Int64} (hs : zsh k0 = zl n) (hi : vp_in i n) (hj : i.toNatClampNeg = j) (hd : decode cc pc = .ok (.lastore, 1)) (k : zX p l e R s m args below meth c nc ns Q nL D cy g (pc + 1) lv st (zJ σ k0 j v)) : zX p l e R s m args below meth c nc ns Q nL D cy g pc lv (.long v :: .int i :: .ref (g k0) :: st) σ := by
  subst hj
  intro ls H locs h1 h2 h3
  refine va_last C.1.1 C.1.2.1 C.2.1 h2 (zW_Ds C.2.2.1 _ σ) h3 k0 3 (zg_l hs) rfl hi hd (fun H1 locs1 q1 _ q3 => k ls H1 locs1 h1 ?_ q3)
  rw [zW_set (σ := σ) (σ' := zJ σ k0 i.toNatClampNeg v) (by rw [hs, zE_l]; show _ = Sum.inl (cy 3, n, Sum.inr (Sum.inl (va_up σ.2 k0 (vp_updL (σ.2 k0) i.toNatClampNeg v) k0))); rw [zup_s]) (fun a _ => rfl) (fun a ha => zup_n _ _ _ ha)] at q1
  exact q1
theorem zx_alen (C : zC p s m args meth c cc own nL D cy g) {k0 a n : Nat} {ty : FieldType} (hs : zsh k0 = za a n) (ht : (zty cy)[a]? = some (cy a, ty)) {v : Int32} (hv : Int32.ofNat n = v) (hd : decode cc pc = .ok (.arraylength, 1)) (k : zX p l e R s m args below meth c nc ns Q nL D cy g (pc + 1) lv (.int v :: st) σ) : zX p l e R s m args below meth c nc ns Q nL D cy g pc lv (.ref (g k0) :: st) σ := fun ls H locs h1 h2 h3 => va_alen C.1.1 C.1.2.1 C.2.1 h2 k0 a (zg_a hs) ht hv hd (k ls H locs h1 h2 h3)
theorem zx_copy (C : zC p s m args meth c cc own nL D cy g) {k0 k1 a n0 n1 i : Nat} (sp' dp' n' : Nat) {ty : FieldType} (hs0 : zsh k0 = za a n0) (hs1 : zsh k1 = za a n1) (ht : (zty cy)[a]? = some (cy a, ty)) (hprim : refKind ty = false) (hl : Cond.methodLink own i arraycopyName ∈ zUU) (hn : Cond.native arraycopyName ∈ zUU) (hst : Cond.static arraycopyName ∈ zUU) (hi : Cond.initialized "java/lang/System" ∈ zUU)
    {sp dp n : Int32} (es : sp.toNatClampNeg = sp') (ed : dp.toNatClampNeg = dp') (en : n.toNatClampNeg = n') (h1 : ¬ sp < 0) (h2 : ¬ dp < 0) (h3 : ¬ n < 0) (h4 : sp' + n' ≤ n0) (h5 : dp' + n' ≤ n1) (hfit : ∀ i, i < n' → fits ty (.int (σ.1 k0 (sp' + i))) = true)
    (hfr : 1 ≤ R.frames) (hlo : (st.map fun v => v.category).sum + (nativeFrameWords "java/lang/System" "arraycopy" 5 + 11) ≤ R.locals) (hd : decode cc pc = .ok (.invokestatic i, 3)) (k : zX p l e R s m args below meth c nc ns Q nL D cy g (pc + 3) lv st (zR σ k1 (va_cpy (σ.1 k0) (σ.1 k1) sp' dp' n'))) : zX p l e R s m args below meth c nc ns Q nL D cy g pc lv (.int n :: .int dp :: .ref (g k1) :: .int sp :: .ref (g k0) :: st) σ := by
  subst es ed en
  intro ls H locs q1 q2 q3
  have hT := C.1.2.2.2.2
  refine va_copyi C.1.1 C.1.2.1 (by rw [C.1.2.2.1]; exact q1.1.symm) C.1.2.2.2.1 (hT _ hl) (hT _ hn) (hT _ hst) (hT _ hi) C.2.1 q2 (zW_Ds C.2.2.1 _ σ) q3 k0 k1 a a (zg_a hs0) (zg_a hs1) ht ht hprim h1 h2 h3 h4 h5 hfit hfr hlo hd (fun H1 locs1 r1 _ r3 => k ls H1 locs1 q1 ?_ r3)
  rw [zW_set (σ := σ) (σ' := zR σ k1 (va_cpy (σ.1 k0) (σ.1 k1) sp.toNatClampNeg dp.toNatClampNeg n.toNatClampNeg)) (by rw [hs1, zE_a]; show _ = Sum.inl (cy a, n1, Sum.inl (va_up σ.1 k1 (va_cpy (σ.1 k0) (σ.1 k1) sp.toNatClampNeg dp.toNatClampNeg n.toNatClampNeg) k1)); rw [zup_s]) (fun a ha => zup_n _ _ _ ha) (fun a _ => rfl)] at r1
  exact r1
theorem zx_max (C : zC p s m args meth c cc own nL D cy g) {i : Nat} {x y : Int32} (hl : Cond.methodLink own i Lib.Math.max.name ∈ zUU) (hst : Cond.static Lib.Math.max.name ∈ zUU) (hi : Cond.initialized "java/lang/Math" ∈ zUU) (hc : Cond.code Lib.Math.max.name Lib.Math.max.code 2 (some .int) ∈ zUU) (hfr : 1 ≤ R.frames) (hlo : (st.map fun v => v.category).sum + 13 ≤ R.locals) (hf : nc ≤ R.cells ∧ ns ≤ R.slots) (hd : decode cc pc = .ok (.invokestatic i, 3)) (k : zX p l e R s m args below meth c nc ns Q nL D cy g (pc + 3) lv (.int (if x < y then y else x) :: st) σ) : zX p l e R s m args below meth c nc ns Q nL D cy g pc lv (.int y :: .int x :: st) σ := fun ls H locs h1 h2 h3 => va_mmax C.1.1 C.1.2.1 (by rw [C.1.2.2.1]; exact h1.1.symm) C.1.2.2.2.1 (C.1.2.2.2.2 _ hl) (C.1.2.2.2.2 _ hst) (C.1.2.2.2.2 _ hi) (C.1.2.2.2.2 _ hc) hfr hlo hf.1 hf.2 hd (k ls H locs h1 h2 h3)
theorem zx_min (C : zC p s m args meth c cc own nL D cy g) {i : Nat} {x y : Int32} (hl : Cond.methodLink own i Lib.Math.min.name ∈ zUU) (hst : Cond.static Lib.Math.min.name ∈ zUU) (hi : Cond.initialized "java/lang/Math" ∈ zUU) (hc : Cond.code Lib.Math.min.name Lib.Math.min.code 2 (some .int) ∈ zUU) (hfr : 1 ≤ R.frames) (hlo : (st.map fun v => v.category).sum + 13 ≤ R.locals) (hf : nc ≤ R.cells ∧ ns ≤ R.slots) (hd : decode cc pc = .ok (.invokestatic i, 3)) (k : zX p l e R s m args below meth c nc ns Q nL D cy g (pc + 3) lv (.int (if y < x then y else x) :: st) σ) : zX p l e R s m args below meth c nc ns Q nL D cy g pc lv (.int y :: .int x :: st) σ := fun ls H locs h1 h2 h3 => va_mmin C.1.1 C.1.2.1 (by rw [C.1.2.2.1]; exact h1.1.symm) C.1.2.2.2.1 (C.1.2.2.2.2 _ hl) (C.1.2.2.2.2 _ hst) (C.1.2.2.2.2 _ hi) (C.1.2.2.2.2 _ hc) hfr hlo hf.1 hf.2 hd (k ls H locs h1 h2 h3)
theorem zx_iret (C : zC p s m args meth c cc own nL D cy g) {P : Int32 → zSto → Prop} {v : Int32} (hr : meth.sig.returnType = some .int) (hd : decode cc pc = .ok (.ireturn, 1)) (hP : P v σ) : zX p l e R s m args below meth c 0 0 (MQ below (va_Qi P (fun (σ' : zSto) (t : State) => va_P D vwCl (zW cy g σ') t.heap) (zA g s.heap.size)) args s 0 0 (zA g s.heap.size)) nL D cy g pc lv [.int v] σ := fun ls H locs h1 h2 h3 => W.iret C.1.1 C.1.2.1 hr (fun t ht hW => ⟨⟨v, σ, rfl, hP, by show va_P _ _ _ t.heap; rw [ht]; exact h2⟩, h3.F ht⟩) h3.2.2 hd C.2.2.2.2
theorem zx_zret (C : zC p s m args meth c cc own nL D cy g) {P : Int32 → zSto → Prop} {v : Int32} (hr : meth.sig.returnType = some .boolean) (hd : decode cc pc = .ok (.ireturn, 1)) (hv : v = 0 ∨ v = 1) (hP : P v σ) : zX p l e R s m args below meth c 0 0 (MQ below (va_Qi (fun r u => (r = 0 ∨ r = 1) ∧ P r u) (fun (σ' : zSto) (t : State) => va_P D vwCl (zW cy g σ') t.heap) (zA g s.heap.size)) args s 0 0 (zA g s.heap.size)) nL D cy g pc lv [.int v] σ := fun ls H locs h1 h2 h3 => W.zret C.1.1 C.1.2.1 hr (by rcases hv with h | h <;> subst h <;> rfl) (fun t ht hW => ⟨⟨v, σ, rfl, ⟨hv, hP⟩, by show va_P _ _ _ t.heap; rw [ht]; exact h2⟩, h3.F ht⟩) h3.2.2 hd C.2.2.2.2
theorem zx_lret (C : zC p s m args meth c cc own nL D cy g) {P : Int64 → zSto → Prop} {v : Int64} (hr : meth.sig.returnType = some .long) (hd : decode cc pc = .ok (.lreturn, 1)) (hP : P v σ) : zX p l e R s m args below meth c 0 0 (MQ below (va_Ql P (fun (σ' : zSto) (t : State) => va_P D vwCl (zW cy g σ') t.heap) (zA g s.heap.size)) args s 0 0 (zA g s.heap.size)) nL D cy g pc lv [.long v] σ := fun ls H locs h1 h2 h3 => W.lret C.1.1 C.1.2.1 hr (fun t ht hW => ⟨⟨v, σ, rfl, hP, by show va_P _ _ _ t.heap; rw [ht]; exact h2⟩, h3.F ht⟩) h3.2.2 hd C.2.2.2.2
theorem zx_vret (C : zC p s m args meth c cc own nL D cy g) {P : zSto → Prop} (hr : meth.sig.returnType = none) (hd : decode cc pc = .ok (.return_, 1)) (hP : P σ) : zX p l e R s m args below meth c 0 0 (MQ below (va_Qv P (fun (σ' : zSto) (t : State) => va_P D vwCl (zW cy g σ') t.heap) (zA g s.heap.size)) args s 0 0 (zA g s.heap.size)) nL D cy g pc lv [] σ := fun ls H locs h1 h2 h3 => W.vret C.1.1 C.1.2.1 hr (fun t ht hW => ⟨⟨σ, rfl, hP, by show va_P _ _ _ t.heap; rw [ht]; exact h2⟩, h3.F ht⟩) h3.2.2 hd C.2.2.2.2
theorem zx_aret (C : zC p s m args meth c cc own nL D cy g) {P : Option Nat → zSto → Prop} {k0 : Nat} {Cn : String} (hr : meth.sig.returnType = some (.object Cn)) (hd : decode cc pc = .ok (.areturn, 1)) (hP : P (some k0) σ) : zX p l e R s m args below meth c 0 0 (MQ below (va_Qq (fun r u => ∃ i : Option Nat, r = i.map g ∧ P i u) (fun (σ' : zSto) (t : State) => va_P D vwCl (zW cy g σ') t.heap) (zA g s.heap.size)) args s 0 0 (zA g s.heap.size)) nL D cy g pc lv [.ref (g k0)] σ := fun ls H locs h1 h2 h3 => W.aret C.1.1 C.1.2.1 hr (Or.inl ⟨_, rfl⟩) (Or.inr ⟨_, rfl⟩) (fun t ht hW => ⟨⟨some (g k0), σ, rfl, ⟨some k0, rfl, hP⟩, by show va_P _ _ _ t.heap; rw [ht]; exact h2⟩, h3.F ht⟩) h3.2.2 hd C.2.2.2.2
theorem zx_aretN (C : zC p s m args meth c cc own nL D cy g) {P : Option Nat → zSto → Prop} {Cn : String} (hr : meth.sig.returnType = some (.object Cn)) (hd : decode cc pc = .ok (.areturn, 1)) (hP : P none σ) : zX p l e R s m args below meth c 0 0 (MQ below (va_Qq (fun r u => ∃ i : Option Nat, r = i.map g ∧ P i u) (fun (σ' : zSto) (t : State) => va_P D vwCl (zW cy g σ') t.heap) (zA g s.heap.size)) args s 0 0 (zA g s.heap.size)) nL D cy g pc lv [.null] σ := fun ls H locs h1 h2 h3 => W.aret C.1.1 C.1.2.1 hr (Or.inl ⟨_, rfl⟩) (Or.inl rfl) (fun t ht hW => ⟨⟨none, σ, rfl, ⟨none, rfl, hP⟩, by show va_P _ _ _ t.heap; rw [ht]; exact h2⟩, h3.F ht⟩) h3.2.2 hd C.2.2.2.2
theorem zx_nret (C : zC p s m args meth c cc own nL D cy g) {P : Int32 → zSto → Prop} {v : Int32} {ty : FieldType} (hr : meth.sig.returnType = some ty) (hd : decode cc pc = .ok (.ireturn, 1)) (hn : narrow ty (.int v) = .int v) (hP : P v σ) : zX p l e R s m args below meth c 0 0 (MQ below (va_Qi P (fun (σ' : zSto) (t : State) => va_P D vwCl (zW cy g σ') t.heap) (zA g s.heap.size)) args s 0 0 (zA g s.heap.size)) nL D cy g pc lv [.int v] σ := fun ls H locs h1 h2 h3 => W.zret C.1.1 C.1.2.1 hr hn (fun t ht hW => ⟨⟨v, σ, rfl, hP, by show va_P _ _ _ t.heap; rw [ht]; exact h2⟩, h3.F ht⟩) h3.2.2 hd C.2.2.2.2
theorem zx_i2c (C : zC p s m args meth c cc own nL D cy g) {x : Int32} (hd : decode cc pc = .ok (.i2c, 1)) (k : zX p l e R s m args below meth c nc ns Q nL D cy g (pc + 1) lv (.int (x.toUInt32 % 65536).toInt32 :: st) σ) : zX p l e R s m args below meth c nc ns Q nL D cy g pc lv (.int x :: st) σ := fun ls H locs h1 h2 h3 => lv_i2c C.1.1 C.1.2.1 hd rfl (k ls H locs h1 h2 h3)
theorem zx_pop2 (C : zC p s m args meth c cc own nL D cy g) {x : Int64} (hd : decode cc pc = .ok (.pop2, 1)) (k : zX p l e R s m args below meth c nc ns Q nL D cy g (pc + 1) lv st σ) : zX p l e R s m args below meth c nc ns Q nL D cy g pc lv (.long x :: st) σ := fun ls H locs h1 h2 h3 => lv_pop2_2 C.1.1 C.1.2.1 hd rfl (k ls H locs h1 h2 h3)
theorem zx_ldcS (C : zC p s m args meth c cc RX4 nL D cy g) (i0 : Nat) (hi0 : i0 < 11) {i : Nat} (hi : zkx.getD i0 0 = i) (hd : decode cc pc = .ok (.ldc i, 2)) (k : zX p l e R s m args below meth c nc ns Q nL D cy g (pc + 2) lv (.ref (cy (100 + i0)) :: st) σ) : zX p l e R s m args below meth c nc ns Q nL D cy g pc lv st σ := fun ls H locs h1 h2 h3 => by
  subst hi
  exact va_ldcS C.1.1 C.1.2.1 C.1.2.2.2.1 (C.2.2.2.1.2.2.2.2 i0 hi0) hd (k ls H locs h1 h2 h3)
theorem zx_kval (C : zC p s m args meth c cc RJ0 nL D cy g) {i0 i : Nat} (hi0 : i0 < 11) (hl : Cond.fieldLink RJ0 i "java/lang/String" "value" "[B" ∈ zUU) (hd : decode cc pc = .ok (.getfield i, 3)) (k : zX p l e R s m args below meth c nc ns Q nL D cy g (pc + 3) lv (.ref (cy (200 + i0)) :: st) σ) : zX p l e R s m args below meth c nc ns Q nL D cy g pc lv (.ref (cy (100 + i0)) :: st) σ := fun ls H locs h1 h2 h3 => vk_getf C.1.1 C.1.2.1 (C.2.2.2.1.2.1.1 i0 hi0).2.2.1 h3 C.1.2.2.2.1 (C.1.2.2.2.2 _ hl) (fun _ h => h) hd (k ls H locs h1 h2 h3)
theorem zx_kcod (C : zC p s m args meth c cc RJ0 nL D cy g) {i0 i : Nat} (hi0 : i0 < 11) (hl : Cond.fieldLink RJ0 i "java/lang/String" "coder" "B" ∈ zUU) (hd : decode cc pc = .ok (.getfield i, 3)) (k : zX p l e R s m args below meth c nc ns Q nL D cy g (pc + 3) lv (.int 0 :: st) σ) : zX p l e R s m args below meth c nc ns Q nL D cy g pc lv (.ref (cy (100 + i0)) :: st) σ := fun ls H locs h1 h2 h3 => vk_getf C.1.1 C.1.2.1 (C.2.2.2.1.2.1.1 i0 hi0).2.1 h3 C.1.2.2.2.1 (C.1.2.2.2.2 _ hl) (fun _ h => h) hd (k ls H locs h1 h2 h3)
theorem zx_klen (C : zC p s m args meth c cc own nL D cy g) {i0 : Nat} (hi0 : i0 < 11) (hd : decode cc pc = .ok (.arraylength, 1)) (k : zX p l e R s m args below meth c nc ns Q nL D cy g (pc + 1) lv (.int (Int32.ofNat (zlen.getD i0 0)) :: st) σ) : zX p l e R s m args below meth c nc ns Q nL D cy g pc lv (.ref (cy (200 + i0)) :: st) σ := fun ls H locs h1 h2 h3 => va_tlen C.1.1 C.1.2.1 (C.2.2.2.1.2.1.1 i0 hi0).2.2.2 h3 rfl hd (k ls H locs h1 h2 h3)
theorem zx_kald (C : zC p s m args meth c cc own nL D cy g) {i0 : Nat} (hi0 : i0 < 11) {i : Int32} (hi : vp_in i (zlen.getD i0 0)) (hd : decode cc pc = .ok (.baload, 1)) (k : zX p l e R s m args below meth c nc ns Q nL D cy g (pc + 1) lv (.int (zch i0 i.toNatClampNeg) :: st) σ) : zX p l e R s m args below meth c nc ns Q nL D cy g pc lv (.int i :: .ref (cy (200 + i0)) :: st) σ := fun ls H locs h1 h2 h3 => va_tb C.1.1 C.1.2.1 (C.2.2.2.1.2.1.1 i0 hi0).2.2.2 h3 hi rfl hd (k ls H locs h1 h2 h3)
theorem zx_kcs (C : zC p s m args meth c cc RJ0 nL D cy g) {i : Nat} (hl : Cond.fieldLink RJ0 i "java/lang/String" "COMPACT_STRINGS" "Z" ∈ zUU) (hd : decode cc pc = .ok (.getstatic i, 3)) (k : zX p l e R s m args below meth c nc ns Q nL D cy g (pc + 3) lv (.int 1 :: st) σ) : zX p l e R s m args below meth c nc ns Q nL D cy g pc lv st σ := fun ls H locs h1 h2 h3 => va_gets C.1.1 C.1.2.1 C.2.2.2.1.2.2.1 h3 C.1.2.2.2.1 (C.1.2.2.2.2 _ hl) (fun _ h => h) hd (k ls H locs h1 h2 h3)
theorem zx_kfm (C : zC p s m args meth c cc RJ0 nL D cy g) {i : Nat} (hl : Cond.fieldLink RJ0 i "jdk/internal/util/Preconditions" "SIOOBE_FORMATTER" "Ljava/util/function/BiFunction;" ∈ zUU) (hd : decode cc pc = .ok (.getstatic i, 3)) (k : ∀ o : Option Nat, zX p l e R s m args below meth c nc ns Q nL D cy g (pc + 3) lv (va_rf o :: st) σ) : zX p l e R s m args below meth c nc ns Q nL D cy g pc lv st σ := fun ls H locs h1 h2 h3 => by
  rcases C.2.2.2.1.2.2.2.1 with h | ⟨t, h⟩
  · exact va_gets C.1.1 C.1.2.1 h h3 C.1.2.2.2.1 (C.1.2.2.2.2 _ hl) (fun _ h => h) hd (k none ls H locs h1 h2 h3)
  · exact va_gets C.1.1 C.1.2.1 h h3 C.1.2.2.2.1 (C.1.2.2.2.2 _ hl) (fun _ h => h) hd (k (some t) ls H locs h1 h2 h3)
theorem zx_cVi (C : zC p s m args meth c cc own nL D cy g) {y : MethodName} {bytes : ByteArray} {maxL i n : Nat} {ret : Option FieldType} {rm : Room} {P : Int32 → zSto → Prop} (As : List Value) {k0 ci N : Nat} {T : u_T} {Cn : String} {fds : List (Nat × Nat)} {st0 : List Value} (hL : zLV own i Cn y bytes maxL ret n) (hM : zMi l y bytes maxL ret rm D cy g (.ref (g k0) :: As) σ P) (hs : zsh k0 = zo ci fds) (hc : vwCl[ci]? = some (Cn, T, N)) (hR : rm.frames + 1 ≤ R.frames ∧ 8 + (maxL + 11) + rm.locals ≤ R.locals) (hc0 : rm.cells = 0 ∧ rm.slots = 0) (hf : nc ≤ R.cells ∧ ns ≤ R.slots) (hn : As.length = n) (h0 : st0 = As.reverse ++ .ref (g k0) :: st) (hw8 : (st.map fun v => v.category).sum ≤ 8) (hd : decode cc pc = .ok (.invokevirtual i, 3)) (k : ∀ (r : Int32) (σ' : zSto), P r σ' → zX p l e R s m args below meth c nc ns Q nL D cy g (pc + 3) lv (.int r :: st) σ') : zX p l e R s m args below meth c nc ns Q nL D cy g pc lv st0 σ := by
  intro ls H locs h1 h2 h3
  subst h0
  exact va_calli (va_runV (As := As) (rest := st) C.1 (hM H.size) (cwV n C.1.2.2.2.2 hL.1 rfl hc0.1 hc0.2 hL.2 hR) ⟨zPre_blind, va_recv C.2.1 h2 hc (zg_o hs), fun U hU hW => ⟨rfl, by rw [hU], by rw [hU]; exact h2, va_K.moved hW.alike C.2.1, C.2.2.1, C.2.2.2.1.call hW hU h3⟩⟩ rfl hn h1.1 rfl (lv_room hw8) hd hf) h3 (fun q _ h => zA_mono h3.1 h) (fun q h => zA_mono h3.1 h) (fun r u t H1 locs1 ht _ hw hB _ _ hS => k r u hw ls H1 locs1 h1 (by rw [← ht]; exact hB) hS)
theorem zx_cSi (C : zC p s m args meth c cc own nL D cy g) {y : MethodName} {bytes : ByteArray} {maxL i n : Nat} {ret : Option FieldType} {rm : Room} {P : Int32 → zSto → Prop} (As : List Value) {st0 : List Value} (hL : zLS own i y bytes maxL ret n) (hM : zMi l y bytes maxL ret rm D cy g As σ P) (hR : rm.frames + 1 ≤ R.frames ∧ 8 + (maxL + 11) + rm.locals ≤ R.locals) (hc0 : rm.cells = 0 ∧ rm.slots = 0) (hf : nc ≤ R.cells ∧ ns ≤ R.slots) (hn : As.length = n) (h0 : st0 = As.reverse ++ st) (hw8 : (st.map fun v => v.category).sum ≤ 8) (hd : decode cc pc = .ok (.invokestatic i, 3)) (k : ∀ (r : Int32) (σ' : zSto), P r σ' → zX p l e R s m args below meth c nc ns Q nL D cy g (pc + 3) lv (.int r :: st) σ') : zX p l e R s m args below meth c nc ns Q nL D cy g pc lv st0 σ := by
  intro ls H locs h1 h2 h3
  subst h0
  exact va_calli (va_runS (As := As) (rest := st) C.1 (hM H.size) (va_cwS n C.1.2.2.2.2 hL.1 rfl hc0.1 hc0.2 hL.2 hR) ⟨zPre_blind, fun U hU hW => ⟨rfl, by rw [hU], by rw [hU]; exact h2, va_K.moved hW.alike C.2.1, C.2.2.1, C.2.2.2.1.call hW hU h3⟩⟩ rfl hn h1.1 rfl (lv_room hw8) hd hf) h3 (fun q _ h => zA_mono h3.1 h) (fun q h => zA_mono h3.1 h) (fun r u t H1 locs1 ht _ hw hB _ _ hS => k r u hw ls H1 locs1 h1 (by rw [← ht]; exact hB) hS)
theorem zx_cVb (C : zC p s m args meth c cc own nL D cy g) {y : MethodName} {bytes : ByteArray} {maxL i n : Nat} {ret : Option FieldType} {rm : Room} {P : Int32 → zSto → Prop} (As : List Value) {k0 ci N : Nat} {T : u_T} {Cn : String} {fds : List (Nat × Nat)} {st0 : List Value} (hL : zLV own i Cn y bytes maxL ret n) (hM : zMb l y bytes maxL ret rm D cy g (.ref (g k0) :: As) σ P) (hs : zsh k0 = zo ci fds) (hc : vwCl[ci]? = some (Cn, T, N)) (hR : rm.frames + 1 ≤ R.frames ∧ 8 + (maxL + 11) + rm.locals ≤ R.locals) (hc0 : rm.cells = 0 ∧ rm.slots = 0) (hf : nc ≤ R.cells ∧ ns ≤ R.slots) (hn : As.length = n) (h0 : st0 = As.reverse ++ .ref (g k0) :: st) (hw8 : (st.map fun v => v.category).sum ≤ 8) (hd : decode cc pc = .ok (.invokevirtual i, 3)) (k : ∀ (r : Int32) (σ' : zSto), (r = 0 ∨ r = 1) → P r σ' → zX p l e R s m args below meth c nc ns Q nL D cy g (pc + 3) lv (.int r :: st) σ') : zX p l e R s m args below meth c nc ns Q nL D cy g pc lv st0 σ := by
  intro ls H locs h1 h2 h3
  subst h0
  exact va_calli (va_runV (As := As) (rest := st) C.1 (hM H.size) (cwV n C.1.2.2.2.2 hL.1 rfl hc0.1 hc0.2 hL.2 hR) ⟨zPre_blind, va_recv C.2.1 h2 hc (zg_o hs), fun U hU hW => ⟨rfl, by rw [hU], by rw [hU]; exact h2, va_K.moved hW.alike C.2.1, C.2.2.1, C.2.2.2.1.call hW hU h3⟩⟩ rfl hn h1.1 rfl (lv_room hw8) hd hf) h3 (fun q _ h => zA_mono h3.1 h) (fun q h => zA_mono h3.1 h) (fun r u t H1 locs1 ht _ hw hB _ _ hS => k r u hw.1 hw.2 ls H1 locs1 h1 (by rw [← ht]; exact hB) hS)
theorem zx_cSb (C : zC p s m args meth c cc own nL D cy g) {y : MethodName} {bytes : ByteArray} {maxL i n : Nat} {ret : Option FieldType} {rm : Room} {P : Int32 → zSto → Prop} (As : List Value) {st0 : List Value} (hL : zLS own i y bytes maxL ret n) (hM : zMb l y bytes maxL ret rm D cy g As σ P) (hR : rm.frames + 1 ≤ R.frames ∧ 8 + (maxL + 11) + rm.locals ≤ R.locals) (hc0 : rm.cells = 0 ∧ rm.slots = 0) (hf : nc ≤ R.cells ∧ ns ≤ R.slots) (hn : As.length = n) (h0 : st0 = As.reverse ++ st) (hw8 : (st.map fun v => v.category).sum ≤ 8) (hd : decode cc pc = .ok (.invokestatic i, 3)) (k : ∀ (r : Int32) (σ' : zSto), (r = 0 ∨ r = 1) → P r σ' → zX p l e R s m args below meth c nc ns Q nL D cy g (pc + 3) lv (.int r :: st) σ') : zX p l e R s m args below meth c nc ns Q nL D cy g pc lv st0 σ := by
  intro ls H locs h1 h2 h3
  subst h0
  exact va_calli (va_runS (As := As) (rest := st) C.1 (hM H.size) (va_cwS n C.1.2.2.2.2 hL.1 rfl hc0.1 hc0.2 hL.2 hR) ⟨zPre_blind, fun U hU hW => ⟨rfl, by rw [hU], by rw [hU]; exact h2, va_K.moved hW.alike C.2.1, C.2.2.1, C.2.2.2.1.call hW hU h3⟩⟩ rfl hn h1.1 rfl (lv_room hw8) hd hf) h3 (fun q _ h => zA_mono h3.1 h) (fun q h => zA_mono h3.1 h) (fun r u t H1 locs1 ht _ hw hB _ _ hS => k r u hw.1 hw.2 ls H1 locs1 h1 (by rw [← ht]; exact hB) hS)
theorem zx_cNb (C : zC p s m args meth c cc own nL D cy g) {y : MethodName} {bytes : ByteArray} {maxL i n : Nat} {ret : Option FieldType} {rm : Room} {P : Int32 → zSto → Prop} (As : List Value) {st0 : List Value} {host : String} (hL : GoodIn zUU (zU y bytes maxL ret) ∧ (y.cls ≠ "java/lang/invoke/MethodHandle" ∧ y.cls ≠ "java/lang/invoke/VarHandle" ∧ (parseMethodDescriptor y.desc).map (fun d => d.parameters.length) = some n) ∧ Cond.initialized y.cls ∈ zUU ∧ Cond.static y ∈ zUU) (hNw : va_Nw (.methodLinkNest own i y host) s) (hM : zMb l y bytes maxL ret rm D cy g As σ P) (hR : rm.frames + 1 ≤ R.frames ∧ 8 + (maxL + 11) + rm.locals ≤ R.locals) (hc0 : rm.cells = 0 ∧ rm.slots = 0) (hf : nc ≤ R.cells ∧ ns ≤ R.slots) (hn : As.length = n) (h0 : st0 = As.reverse ++ st) (hw8 : (st.map fun v => v.category).sum ≤ 8) (hd : decode cc pc = .ok (.invokestatic i, 3)) (k : ∀ (r : Int32) (σ' : zSto), (r = 0 ∨ r = 1) → P r σ' → zX p l e R s m args below meth c nc ns Q nL D cy g (pc + 3) lv (.int r :: st) σ') : zX p l e R s m args below meth c nc ns Q nL D cy g pc lv st0 σ := by
  intro ls H locs h1 h2 h3
  subst h0
  exact va_calli (va_runSN (As := As) (rest := st) C.1 (hM H.size) ⟨va_cnB n C.1.2.2.2.2 hL.1 rfl hc0.1 hc0.2 hNw (C.1.2.2.2.2 _ hL.2.2.1) hL.2.1 hR, C.1.2.2.2.2 _ hL.2.2.2, trivial⟩ ⟨zPre_blind, fun U hU hW => ⟨rfl, by rw [hU], by rw [hU]; exact h2, va_K.moved hW.alike C.2.1, C.2.2.1, C.2.2.2.1.call hW hU h3⟩⟩ rfl hn h1.1 rfl (lv_room hw8) hd hf) h3 (fun q _ h => zA_mono h3.1 h) (fun q h => zA_mono h3.1 h) (fun r u t H1 locs1 ht _ hw hB _ _ hS => k r u hw.1 hw.2 ls H1 locs1 h1 (by rw [← ht]; exact hB) hS)
theorem zx_cVl (C : zC p s m args meth c cc own nL D cy g) {y : MethodName} {bytes : ByteArray} {maxL i n : Nat} {ret : Option FieldType} {rm : Room} {P : Int64 → zSto → Prop} (As : List Value) {k0 ci N : Nat} {T : u_T} {Cn : String} {fds : List (Nat × Nat)} {st0 : List Value} (hL : zLV own i Cn y bytes maxL ret n) (hM : zMl l y bytes maxL ret rm D cy g (.ref (g k0) :: As) σ P) (hs : zsh k0 = zo ci fds) (hc : vwCl[ci]? = some (Cn, T, N)) (hR : rm.frames + 1 ≤ R.frames ∧ 8 + (maxL + 11) + rm.locals ≤ R.locals) (hc0 : rm.cells = 0 ∧ rm.slots = 0) (hf : nc ≤ R.cells ∧ ns ≤ R.slots) (hn : As.length = n) (h0 : st0 = As.reverse ++ .ref (g k0) :: st) (hw8 : (st.map fun v => v.category).sum ≤ 8) (hd : decode cc pc = .ok (.invokevirtual i, 3)) (k : ∀ (r : Int64) (σ' : zSto), P r σ' → zX p l e R s m args below meth c nc ns Q nL D cy g (pc + 3) lv (.long r :: st) σ') : zX p l e R s m args below meth c nc ns Q nL D cy g pc lv st0 σ := by
  intro ls H locs h1 h2 h3
  subst h0
  exact va_calll (va_runV (As := As) (rest := st) C.1 (hM H.size) (cwV n C.1.2.2.2.2 hL.1 rfl hc0.1 hc0.2 hL.2 hR) ⟨zPre_blind, va_recv C.2.1 h2 hc (zg_o hs), fun U hU hW => ⟨rfl, by rw [hU], by rw [hU]; exact h2, va_K.moved hW.alike C.2.1, C.2.2.1, C.2.2.2.1.call hW hU h3⟩⟩ rfl hn h1.1 rfl (lv_room hw8) hd hf) h3 (fun q _ h => zA_mono h3.1 h) (fun q h => zA_mono h3.1 h) (fun r u t H1 locs1 ht _ hw hB _ _ hS => k r u hw ls H1 locs1 h1 (by rw [← ht]; exact hB) hS)
theorem zx_cSl (C : zC p s m args meth c cc own nL D cy g) {y : MethodName} {bytes : ByteArray} {maxL i n : Nat} {ret : Option FieldType} {rm : Room} {P : Int64 → zSto → Prop} (As : List Value) {st0 : List Value} (hL : zLS own i y bytes maxL ret n) (hM : zMl l y bytes maxL ret rm D cy g As σ P) (hR : rm.frames + 1 ≤ R.frames ∧ 8 + (maxL + 11) + rm.locals ≤ R.locals) (hc0 : rm.cells = 0 ∧ rm.slots = 0) (hf : nc ≤ R.cells ∧ ns ≤ R.slots) (hn : As.length = n) (h0 : st0 = As.reverse ++ st) (hw8 : (st.map fun v => v.category).sum ≤ 8) (hd : decode cc pc = .ok (.invokestatic i, 3)) (k : ∀ (r : Int64) (σ' : zSto), P r σ' → zX p l e R s m args below meth c nc ns Q nL D cy g (pc + 3) lv (.long r :: st) σ') : zX p l e R s m args below meth c nc ns Q nL D cy g pc lv st0 σ := by
  intro ls H locs h1 h2 h3
  subst h0
  exact va_calll (va_runS (As := As) (rest := st) C.1 (hM H.size) (va_cwS n C.1.2.2.2.2 hL.1 rfl hc0.1 hc0.2 hL.2 hR) ⟨zPre_blind, fun U hU hW => ⟨rfl, by rw [hU], by rw [hU]; exact h2, va_K.moved hW.alike C.2.1, C.2.2.1, C.2.2.2.1.call hW hU h3⟩⟩ rfl hn h1.1 rfl (lv_room hw8) hd hf) h3 (fun q _ h => zA_mono h3.1 h) (fun q h => zA_mono h3.1 h) (fun r u t H1 locs1 ht _ hw hB _ _ hS => k r u hw ls H1 locs1 h1 (by rw [← ht]; exact hB) hS)
theorem zx_cVv (C : zC p s m args meth c cc own nL D cy g) {y : MethodName} {bytes : ByteArray} {maxL i n : Nat} {ret : Option FieldType} {rm : Room} {P : zSto → Prop} (As : List Value) {k0 ci N : Nat} {T : u_T} {Cn : String} {fds : List (Nat × Nat)} {st0 : List Value} (hL : zLV own i Cn y bytes maxL ret n) (hM : zMv l y bytes maxL ret rm D cy g (.ref (g k0) :: As) σ P) (hs : zsh k0 = zo ci fds) (hc : vwCl[ci]? = some (Cn, T, N)) (hR : rm.frames + 1 ≤ R.frames ∧ 8 + (maxL + 11) + rm.locals ≤ R.locals) (hc0 : rm.cells = 0 ∧ rm.slots = 0) (hf : nc ≤ R.cells ∧ ns ≤ R.slots) (hn : As.length = n) (h0 : st0 = As.reverse ++ .ref (g k0) :: st) (hw8 : (st.map fun v => v.category).sum ≤ 8) (hd : decode cc pc = .ok (.invokevirtual i, 3)) (k : ∀ σ' : zSto, P σ' → zX p l e R s m args below meth c nc ns Q nL D cy g (pc + 3) lv st σ') : zX p l e R s m args below meth c nc ns Q nL D cy g pc lv st0 σ := by
  intro ls H locs h1 h2 h3
  subst h0
  exact va_callv (va_runV (As := As) (rest := st) C.1 (hM H.size) (cwV n C.1.2.2.2.2 hL.1 rfl hc0.1 hc0.2 hL.2 hR) ⟨zPre_blind, va_recv C.2.1 h2 hc (zg_o hs), fun U hU hW => ⟨rfl, by rw [hU], by rw [hU]; exact h2, va_K.moved hW.alike C.2.1, C.2.2.1, C.2.2.2.1.call hW hU h3⟩⟩ rfl hn h1.1 rfl (lv_room hw8) hd hf) h3 (fun q _ h => zA_mono h3.1 h) (fun q h => zA_mono h3.1 h) (fun u t H1 locs1 ht _ hw hB _ _ hS => k u hw ls H1 locs1 h1 (by rw [← ht]; exact hB) hS)
theorem zx_cSv (C : zC p s m args meth c cc own nL D cy g) {y : MethodName} {bytes : ByteArray} {maxL i n : Nat} {ret : Option FieldType} {rm : Room} {P : zSto → Prop} (As : List Value) {st0 : List Value} (hL : zLS own i y bytes maxL ret n) (hM : zMv l y bytes maxL ret rm D cy g As σ P) (hR : rm.frames + 1 ≤ R.frames ∧ 8 + (maxL + 11) + rm.locals ≤ R.locals) (hc0 : rm.cells = 0 ∧ rm.slots = 0) (hf : nc ≤ R.cells ∧ ns ≤ R.slots) (hn : As.length = n) (h0 : st0 = As.reverse ++ st) (hw8 : (st.map fun v => v.category).sum ≤ 8) (hd : decode cc pc = .ok (.invokestatic i, 3)) (k : ∀ σ' : zSto, P σ' → zX p l e R s m args below meth c nc ns Q nL D cy g (pc + 3) lv st σ') : zX p l e R s m args below meth c nc ns Q nL D cy g pc lv st0 σ := by
  intro ls H locs h1 h2 h3
  subst h0
  exact va_callv (va_runS (As := As) (rest := st) C.1 (hM H.size) (va_cwS n C.1.2.2.2.2 hL.1 rfl hc0.1 hc0.2 hL.2 hR) ⟨zPre_blind, fun U hU hW => ⟨rfl, by rw [hU], by rw [hU]; exact h2, va_K.moved hW.alike C.2.1, C.2.2.1, C.2.2.2.1.call hW hU h3⟩⟩ rfl hn h1.1 rfl (lv_room hw8) hd hf) h3 (fun q _ h => zA_mono h3.1 h) (fun q h => zA_mono h3.1 h) (fun u t H1 locs1 ht _ hw hB _ _ hS => k u hw ls H1 locs1 h1 (by rw [← ht]; exact hB) hS)
theorem zx_cVq (C : zC p s m args meth c cc own nL D cy g) {y : MethodName} {bytes : ByteArray} {maxL i n : Nat} {ret : Option FieldType} {rm : Room} {P : Option Nat → zSto → Prop} (As : List Value) {k0 ci N : Nat} {T : u_T} {Cn : String} {fds : List (Nat × Nat)} {st0 : List Value} (hL : zLV own i Cn y bytes maxL ret n) (hM : zMq l y bytes maxL ret rm D cy g (.ref (g k0) :: As) σ P) (hs : zsh k0 = zo ci fds) (hc : vwCl[ci]? = some (Cn, T, N)) (hR : rm.frames + 1 ≤ R.frames ∧ 8 + (maxL + 11) + rm.locals ≤ R.locals) (hc0 : rm.cells = 0 ∧ rm.slots = 0) (hf : nc ≤ R.cells ∧ ns ≤ R.slots) (hn : As.length = n) (h0 : st0 = As.reverse ++ .ref (g k0) :: st) (hw8 : (st.map fun v => v.category).sum ≤ 8) (hd : decode cc pc = .ok (.invokevirtual i, 3)) (kn : ∀ σ' : zSto, P none σ' → zX p l e R s m args below meth c nc ns Q nL D cy g (pc + 3) lv (.null :: st) σ') (k : ∀ (i : Nat) (σ' : zSto), P (some i) σ' → zX p l e R s m args below meth c nc ns Q nL D cy g (pc + 3) lv (.ref (g i) :: st) σ') : zX p l e R s m args below meth c nc ns Q nL D cy g pc lv st0 σ := by
  intro ls H locs h1 h2 h3
  subst h0
  exact va_callq (va_runV (As := As) (rest := st) C.1 (hM H.size) (cwV n C.1.2.2.2.2 hL.1 rfl hc0.1 hc0.2 hL.2 hR) ⟨zPre_blind, va_recv C.2.1 h2 hc (zg_o hs), fun U hU hW => ⟨rfl, by rw [hU], by rw [hU]; exact h2, va_K.moved hW.alike C.2.1, C.2.2.1, C.2.2.2.1.call hW hU h3⟩⟩ rfl hn h1.1 rfl (lv_room hw8) hd hf) h3 (fun q _ h => zA_mono h3.1 h) (fun q h => zA_mono h3.1 h) (fun r u t H1 locs1 ht _ hw hB _ _ hS => by
    obtain ⟨i, hi, hw⟩ := hw
    subst hi
    cases i with
    | none => exact kn u hw ls H1 locs1 h1 (by rw [← ht]; exact hB) hS
    | some i => exact k i u hw ls H1 locs1 h1 (by rw [← ht]; exact hB) hS)
theorem zx_cSq (C : zC p s m args meth c cc own nL D cy g) {y : MethodName} {bytes : ByteArray} {maxL i n : Nat} {ret : Option FieldType} {rm : Room} {P : Option Nat → zSto → Prop} (As : List Value) {st0 : List Value} (hL : zLS own i y bytes maxL ret n) (hM : zMq l y bytes maxL ret rm D cy g As σ P) (hR : rm.frames + 1 ≤ R.frames ∧ 8 + (maxL + 11) + rm.locals ≤ R.locals) (hc0 : rm.cells = 0 ∧ rm.slots = 0) (hf : nc ≤ R.cells ∧ ns ≤ R.slots) (hn : As.length = n) (h0 : st0 = As.reverse ++ st) (hw8 : (st.map fun v => v.category).sum ≤ 8) (hd : decode cc pc = .ok (.invokestatic i, 3)) (kn : ∀ σ' : zSto, P none σ' → zX p l e R s m args below meth c nc ns Q nL D cy g (pc + 3) lv (.null :: st) σ') (k : ∀ (i : Nat) (σ' : zSto), P (some i) σ' → zX p l e R s m args below meth c nc ns Q nL D cy g (pc + 3) lv (.ref (g i) :: st) σ') : zX p l e R s m args below meth c nc ns Q nL D cy g pc lv st0 σ := by
  intro ls H locs h1 h2 h3
  subst h0
  exact va_callq (va_runS (As := As) (rest := st) C.1 (hM H.size) (va_cwS n C.1.2.2.2.2 hL.1 rfl hc0.1 hc0.2 hL.2 hR) ⟨zPre_blind, fun U hU hW => ⟨rfl, by rw [hU], by rw [hU]; exact h2, va_K.moved hW.alike C.2.1, C.2.2.1, C.2.2.2.1.call hW hU h3⟩⟩ rfl hn h1.1 rfl (lv_room hw8) hd hf) h3 (fun q _ h => zA_mono h3.1 h) (fun q h => zA_mono h3.1 h) (fun r u t H1 locs1 ht _ hw hB _ _ hS => by
    obtain ⟨i, hi, hw⟩ := hw
    subst hi
    cases i with
    | none => exact kn u hw ls H1 locs1 h1 (by rw [← ht]; exact hB) hS
    | some i => exact k i u hw ls H1 locs1 h1 (by rw [← ht]; exact hB) hS)
theorem zx_cKi (C : zC p s m args meth c cc own nL D cy g) {y : MethodName} {bytes : ByteArray} {maxL i n i0 : Nat} {ret : Option FieldType} {rm : Room} {P : Int32 → zSto → Prop} (As : List Value) {st0 : List Value} (hi0 : i0 < 11) (hL : zLV own i "java/lang/String" y bytes maxL ret n) (hM : zMi l y bytes maxL ret rm D cy g (.ref (cy (100 + i0)) :: As) σ P) (hR : rm.frames + 1 ≤ R.frames ∧ 8 + (maxL + 11) + rm.locals ≤ R.locals) (hc0 : rm.cells = 0 ∧ rm.slots = 0) (hf : nc ≤ R.cells ∧ ns ≤ R.slots) (hn : As.length = n) (h0 : st0 = As.reverse ++ .ref (cy (100 + i0)) :: st) (hw8 : (st.map fun v => v.category).sum ≤ 8) (hd : decode cc pc = .ok (.invokevirtual i, 3)) (k : ∀ (r : Int32) (σ' : zSto), P r σ' → zX p l e R s m args below meth c nc ns Q nL D cy g (pc + 3) lv (.int r :: st) σ') : zX p l e R s m args below meth c nc ns Q nL D cy g pc lv st0 σ := by
  intro ls H locs h1 h2 h3
  subst h0
  exact va_calli (va_runV (As := As) (rest := st) C.1 (hM H.size) (cwV n C.1.2.2.2.2 hL.1 rfl hc0.1 hc0.2 hL.2 hR) ⟨zPre_blind, vk_recv C.2.2.2.1.2.1 hi0 h3, fun U hU hW => ⟨rfl, by rw [hU], by rw [hU]; exact h2, va_K.moved hW.alike C.2.1, C.2.2.1, C.2.2.2.1.call hW hU h3⟩⟩ rfl hn h1.1 rfl (lv_room hw8) hd hf) h3 (fun q _ h => zA_mono h3.1 h) (fun q h => zA_mono h3.1 h) (fun r u t H1 locs1 ht _ hw hB _ _ hS => k r u hw ls H1 locs1 h1 (by rw [← ht]; exact hB) hS)
theorem zx_cKb (C : zC p s m args meth c cc own nL D cy g) {y : MethodName} {bytes : ByteArray} {maxL i n i0 : Nat} {ret : Option FieldType} {rm : Room} {P : Int32 → zSto → Prop} (As : List Value) {st0 : List Value} (hi0 : i0 < 11) (hL : zLV own i "java/lang/String" y bytes maxL ret n) (hM : zMb l y bytes maxL ret rm D cy g (.ref (cy (100 + i0)) :: As) σ P) (hR : rm.frames + 1 ≤ R.frames ∧ 8 + (maxL + 11) + rm.locals ≤ R.locals) (hc0 : rm.cells = 0 ∧ rm.slots = 0) (hf : nc ≤ R.cells ∧ ns ≤ R.slots) (hn : As.length = n) (h0 : st0 = As.reverse ++ .ref (cy (100 + i0)) :: st) (hw8 : (st.map fun v => v.category).sum ≤ 8) (hd : decode cc pc = .ok (.invokevirtual i, 3)) (k : ∀ (r : Int32) (σ' : zSto), (r = 0 ∨ r = 1) → P r σ' → zX p l e R s m args below meth c nc ns Q nL D cy g (pc + 3) lv (.int r :: st) σ') : zX p l e R s m args below meth c nc ns Q nL D cy g pc lv st0 σ := by
  intro ls H locs h1 h2 h3
  subst h0
  exact va_calli (va_runV (As := As) (rest := st) C.1 (hM H.size) (cwV n C.1.2.2.2.2 hL.1 rfl hc0.1 hc0.2 hL.2 hR) ⟨zPre_blind, vk_recv C.2.2.2.1.2.1 hi0 h3, fun U hU hW => ⟨rfl, by rw [hU], by rw [hU]; exact h2, va_K.moved hW.alike C.2.1, C.2.2.1, C.2.2.2.1.call hW hU h3⟩⟩ rfl hn h1.1 rfl (lv_room hw8) hd hf) h3 (fun q _ h => zA_mono h3.1 h) (fun q h => zA_mono h3.1 h) (fun r u t H1 locs1 ht _ hw hB _ _ hS => k r u hw.1 hw.2 ls H1 locs1 h1 (by rw [← ht]; exact hB) hS)
end ZR

theorem zm_i {l : Launch} {y : MethodName} {bytes : ByteArray} {maxL : Nat} {ret : Option FieldType} {rm : Room} {D : va_G} {cy : Nat → ClassId} {g : Nat → Nat} {av : List Value} {σ : zSto} {P : Int32 → zSto → Prop} (own : String) (hown : y.cls = own) (hy : plainName y.cls = true) (hlen : (lg_sl av).length ≤ maxL)
    (body : ∀ (p : Program) (e : Env) (s : State) (m : MethodId) (below : List Frame) (meth : Method) (c : Code), zC p s m av.toArray meth c bytes own maxL D cy g → meth.sig.returnType = ret → zX p l e rm s m av.toArray below meth c 0 0 (MQ below (va_Qi P (fun (σ' : zSto) (t : State) => va_P D vwCl (zW cy g σ') t.heap) (zA g s.heap.size)) av.toArray s 0 0 (zA g s.heap.size)) maxL D cy g 0 (lv_args 0 av) [] σ) : zMi l y bytes maxL ret rm D cy g av σ P := by
  intro sz
  refine Met.ofW (cc := bytes) (maxL := maxL) (ret := ret) hy rfl ?_
  intro p e s m args below meth c s₁ B hml hv
  obtain ⟨rfl, rfl, hP, hK, hin, hN⟩ := hv
  have hts := atoms_spec (ws := zU y bytes maxL ret) B.pre
  have C : zC p s m av.toArray meth c bytes own maxL D cy g := ⟨⟨B.exec, B.bytes, hml, hown ▸ findClass_of_methodNamed B.named, fun w hw => hts w (List.mem_cons_of_mem _ hw)⟩, hK, hin, hN, B.notSynchronized⟩
  rw [lg_entry_eq]
  exact body p e s m below meth c C B.returns _ s.heap [] (lv_entry av hlen) hP va_S.rf
theorem zm_b {l : Launch} {y : MethodName} {bytes : ByteArray} {maxL : Nat} {ret : Option FieldType} {rm : Room} {D : va_G} {cy : Nat → ClassId} {g : Nat → Nat} {av : List Value} {σ : zSto} {P : Int32 → zSto → Prop} (own : String) (hown : y.cls = own) (hy : plainName y.cls = true) (hlen : (lg_sl av).length ≤ maxL)
    (body : ∀ (p : Program) (e : Env) (s : State) (m : MethodId) (below : List Frame) (meth : Method) (c : Code), zC p s m av.toArray meth c bytes own maxL D cy g → meth.sig.returnType = ret → zX p l e rm s m av.toArray below meth c 0 0 (MQ below (va_Qi (fun r u => (r = 0 ∨ r = 1) ∧ P r u) (fun (σ' : zSto) (t : State) => va_P D vwCl (zW cy g σ') t.heap) (zA g s.heap.size)) av.toArray s 0 0 (zA g s.heap.size)) maxL D cy g 0 (lv_args 0 av) [] σ) : zMb l y bytes maxL ret rm D cy g av σ P := by
  intro sz
  refine Met.ofW (cc := bytes) (maxL := maxL) (ret := ret) hy rfl ?_
  intro p e s m args below meth c s₁ B hml hv
  obtain ⟨rfl, rfl, hP, hK, hin, hN⟩ := hv
  have hts := atoms_spec (ws := zU y bytes maxL ret) B.pre
  have C : zC p s m av.toArray meth c bytes own maxL D cy g := ⟨⟨B.exec, B.bytes, hml, hown ▸ findClass_of_methodNamed B.named, fun w hw => hts w (List.mem_cons_of_mem _ hw)⟩, hK, hin, hN, B.notSynchronized⟩
  rw [lg_entry_eq]
  exact body p e s m below meth c C B.returns _ s.heap [] (lv_entry av hlen) hP va_S.rf
theorem zm_l {l : Launch} {y : MethodName} {bytes : ByteArray} {maxL : Nat} {ret : Option FieldType} {rm : Room} {D : va_G} {cy : Nat → ClassId} {g : Nat → Nat} {av : List Value} {σ : zSto} {P : Int64 → zSto → Prop} (own : String) (hown : y.cls = own) (hy : plainName y.cls = true) (hlen : (lg_sl av).length ≤ maxL)
    (body : ∀ (p : Program) (e : Env) (s : State) (m : MethodId) (below : List Frame) (meth : Method) (c : Code), zC p s m av.toArray meth c bytes own maxL D cy g → meth.sig.returnType = ret → zX p l e rm s m av.toArray below meth c 0 0 (MQ below (va_Ql P (fun (σ' : zSto) (t : State) => va_P D vwCl (zW cy g σ') t.heap) (zA g s.heap.size)) av.toArray s 0 0 (zA g s.heap.size)) maxL D cy g 0 (lv_args 0 av) [] σ) : zMl l y bytes maxL ret rm D cy g av σ P := by
  intro sz
  refine Met.ofW (cc := bytes) (maxL := maxL) (ret := ret) hy rfl ?_
  intro p e s m args below meth c s₁ B hml hv
  obtain ⟨rfl, rfl, hP, hK, hin, hN⟩ := hv
  have hts := atoms_spec (ws := zU y bytes maxL ret) B.pre
  have C : zC p s m av.toArray meth c bytes own maxL D cy g := ⟨⟨B.exec, B.bytes, hml, hown ▸ findClass_of_methodNamed B.named, fun w hw => hts w (List.mem_cons_of_mem _ hw)⟩, hK, hin, hN, B.notSynchronized⟩
  rw [lg_entry_eq]
  exact body p e s m below meth c C B.returns _ s.heap [] (lv_entry av hlen) hP va_S.rf
theorem zm_v {l : Launch} {y : MethodName} {bytes : ByteArray} {maxL : Nat} {ret : Option FieldType} {rm : Room} {D : va_G} {cy : Nat → ClassId} {g : Nat → Nat} {av : List Value} {σ : zSto} {P : zSto → Prop} (own : String) (hown : y.cls = own) (hy : plainName y.cls = true) (hlen : (lg_sl av).length ≤ maxL)
    (body : ∀ (p : Program) (e : Env) (s : State) (m : MethodId) (below : List Frame) (meth : Method) (c : Code), zC p s m av.toArray meth c bytes own maxL D cy g → meth.sig.returnType = ret → zX p l e rm s m av.toArray below meth c 0 0 (MQ below (va_Qv P (fun (σ' : zSto) (t : State) => va_P D vwCl (zW cy g σ') t.heap) (zA g s.heap.size)) av.toArray s 0 0 (zA g s.heap.size)) maxL D cy g 0 (lv_args 0 av) [] σ) : zMv l y bytes maxL ret rm D cy g av σ P := by
  intro sz
  refine Met.ofW (cc := bytes) (maxL := maxL) (ret := ret) hy rfl ?_
  intro p e s m args below meth c s₁ B hml hv
  obtain ⟨rfl, rfl, hP, hK, hin, hN⟩ := hv
  have hts := atoms_spec (ws := zU y bytes maxL ret) B.pre
  have C : zC p s m av.toArray meth c bytes own maxL D cy g := ⟨⟨B.exec, B.bytes, hml, hown ▸ findClass_of_methodNamed B.named, fun w hw => hts w (List.mem_cons_of_mem _ hw)⟩, hK, hin, hN, B.notSynchronized⟩
  rw [lg_entry_eq]
  exact body p e s m below meth c C B.returns _ s.heap [] (lv_entry av hlen) hP va_S.rf
theorem zm_q {l : Launch} {y : MethodName} {bytes : ByteArray} {maxL : Nat} {ret : Option FieldType} {rm : Room} {D : va_G} {cy : Nat → ClassId} {g : Nat → Nat} {av : List Value} {σ : zSto} {P : Option Nat → zSto → Prop} (own : String) (hown : y.cls = own) (hy : plainName y.cls = true) (hlen : (lg_sl av).length ≤ maxL)
    (body : ∀ (p : Program) (e : Env) (s : State) (m : MethodId) (below : List Frame) (meth : Method) (c : Code), zC p s m av.toArray meth c bytes own maxL D cy g → meth.sig.returnType = ret → zX p l e rm s m av.toArray below meth c 0 0 (MQ below (va_Qq (fun r u => ∃ i : Option Nat, r = i.map g ∧ P i u) (fun (σ' : zSto) (t : State) => va_P D vwCl (zW cy g σ') t.heap) (zA g s.heap.size)) av.toArray s 0 0 (zA g s.heap.size)) maxL D cy g 0 (lv_args 0 av) [] σ) : zMq l y bytes maxL ret rm D cy g av σ P := by
  intro sz
  refine Met.ofW (cc := bytes) (maxL := maxL) (ret := ret) hy rfl ?_
  intro p e s m args below meth c s₁ B hml hv
  obtain ⟨rfl, rfl, hP, hK, hin, hN⟩ := hv
  have hts := atoms_spec (ws := zU y bytes maxL ret) B.pre
  have C : zC p s m av.toArray meth c bytes own maxL D cy g := ⟨⟨B.exec, B.bytes, hml, hown ▸ findClass_of_methodNamed B.named, fun w hw => hts w (List.mem_cons_of_mem _ hw)⟩, hK, hin, hN, B.notSynchronized⟩
  rw [lg_entry_eq]
  exact body p e s m below meth c C B.returns _ s.heap [] (lv_entry av hlen) hP va_S.rf
abbrev zQi (P : Int32 → zSto → Prop) (below : List Frame) (args : Array Value) (s : State) (D : va_G) (cy : Nat → ClassId) (g : Nat → Nat) : State → Prop := MQ below (va_Qi P (fun (σ' : zSto) (t : State) => va_P D vwCl (zW cy g σ') t.heap) (zA g s.heap.size)) args s 0 0 (zA g s.heap.size)
abbrev zQb (P : Int32 → zSto → Prop) (below : List Frame) (args : Array Value) (s : State) (D : va_G) (cy : Nat → ClassId) (g : Nat → Nat) : State → Prop := MQ below (va_Qi (fun r u => (r = 0 ∨ r = 1) ∧ P r u) (fun (σ' : zSto) (t : State) => va_P D vwCl (zW cy g σ') t.heap) (zA g s.heap.size)) args s 0 0 (zA g s.heap.size)
abbrev zQl (P : Int64 → zSto → Prop) (below : List Frame) (args : Array Value) (s : State) (D : va_G) (cy : Nat → ClassId) (g : Nat → Nat) : State → Prop := MQ below (va_Ql P (fun (σ' : zSto) (t : State) => va_P D vwCl (zW cy g σ') t.heap) (zA g s.heap.size)) args s 0 0 (zA g s.heap.size)
abbrev zQv (P : zSto → Prop) (below : List Frame) (args : Array Value) (s : State) (D : va_G) (cy : Nat → ClassId) (g : Nat → Nat) : State → Prop := MQ below (va_Qv P (fun (σ' : zSto) (t : State) => va_P D vwCl (zW cy g σ') t.heap) (zA g s.heap.size)) args s 0 0 (zA g s.heap.size)
abbrev zQq (P : Option Nat → zSto → Prop) (below : List Frame) (args : Array Value) (s : State) (D : va_G) (cy : Nat → ClassId) (g : Nat → Nat) : State → Prop := MQ below (va_Qq (fun r u => ∃ i : Option Nat, r = i.map g ∧ P i u) (fun (σ' : zSto) (t : State) => va_P D vwCl (zW cy g σ') t.heap) (zA g s.heap.size)) args s 0 0 (zA g s.heap.size)
/-! the cells by their numbers -/
def zIsLine (L : Nat) : Prop := zsh L = zo 0 [(0, 1), (0, 2), (0, 3), (0, 4), (0, 5), (0, 6), (0, 7), (0, 8), (0, 9), (0, 10), (0, 11), (1, 0), (1, 0), (1, 0), (1, 0), (1, 0), (1, 0), (1, 0)] ∧ zsh (L + 1) = za 0 16 ∧ zsh (L + 2) = za 0 16 ∧ zsh (L + 3) = za 0 16 ∧ zsh (L + 4) = za 0 16 ∧ zsh (L + 5) = za 0 16 ∧ zsh (L + 6) = za 0 6 ∧ zsh (L + 7) = za 0 6 ∧ zsh (L + 8) = za 0 6 ∧ zsh (L + 9) = za 0 6 ∧ zsh (L + 10) = za 0 6 ∧ zsh (L + 11) = za 0 6
def zIsPairs (K : Nat) : Prop := zsh K = zo 2 [(0, 1), (0, 2), (1, 0)] ∧ zsh (K + 1) = za 0 16 ∧ zsh (K + 2) = za 0 16
def zIsState (S : Nat) : Prop := zsh S = zo 8 [(0, 1), (0, 2), (0, 27), (0, 34), (0, 41), (1, 0), (1, 0), (1, 0)] ∧ zsh (S + 1) = za 1 600 ∧ zsh (S + 2) = zr 4 2 [(0, 1), (0, 13)] ∧ zsh (S + 27) = zr 5 2 [(0, 1), (0, 4)] ∧ zsh (S + 34) = zr 5 2 [(0, 1), (0, 4)] ∧ zsh (S + 41) = za 0 3 ∧ zIsLine (S + 3) ∧ zIsLine (S + 15) ∧ zIsPairs (S + 28) ∧ zIsPairs (S + 31) ∧ zIsPairs (S + 35) ∧ zIsPairs (S + 38)
theorem zIsLine_4 : zIsLine 4 := ⟨by decide +kernel, by decide +kernel, by decide +kernel, by decide +kernel, by decide +kernel, by decide +kernel, by decide +kernel, by decide +kernel, by decide +kernel, by decide +kernel, by decide +kernel, by decide +kernel⟩
theorem zIsLine_16 : zIsLine 16 := ⟨by decide +kernel, by decide +kernel, by decide +kernel, by decide +kernel, by decide +kernel, by decide +kernel, by decide +kernel, by decide +kernel, by decide +kernel, by decide +kernel, by decide +kernel, by decide +kernel⟩
theorem zIsLine_47 : zIsLine 47 := ⟨by decide +kernel, by decide +kernel, by decide +kernel, by decide +kernel, by decide +kernel, by decide +kernel, by decide +kernel, by decide +kernel, by decide +kernel, by decide +kernel, by decide +kernel, by decide +kernel⟩
theorem zIsLine_59 : zIsLine 59 := ⟨by decide +kernel, by decide +kernel, by decide +kernel, by decide +kernel, by decide +kernel, by decide +kernel, by decide +kernel, by decide +kernel, by decide +kernel, by decide +kernel, by decide +kernel, by decide +kernel⟩
theorem zIsLine_89 : zIsLine 89 := ⟨by decide +kernel, by decide +kernel, by decide +kernel, by decide +kernel, by decide +kernel, by decide +kernel, by decide +kernel, by decide +kernel, by decide +kernel, by decide +kernel, by decide +kernel, by decide +kernel⟩
theorem zIsLine_101 : zIsLine 101 := ⟨by decide +kernel, by decide +kernel, by decide +kernel, by decide +kernel, by decide +kernel, by decide +kernel, by decide +kernel, by decide +kernel, by decide +kernel, by decide +kernel, by decide +kernel, by decide +kernel⟩
theorem zIsLine_131 : zIsLine 131 := ⟨by decide +kernel, by decide +kernel, by decide +kernel, by decide +kernel, by decide +kernel, by decide +kernel, by decide +kernel, by decide +kernel, by decide +kernel, by decide +kernel, by decide +kernel, by decide +kernel⟩
theorem zIsLine_143 : zIsLine 143 := ⟨by decide +kernel, by decide +kernel, by decide +kernel, by decide +kernel, by decide +kernel, by decide +kernel, by decide +kernel, by decide +kernel, by decide +kernel, by decide +kernel, by decide +kernel, by decide +kernel⟩
theorem zIsLine_172 : zIsLine 172 := ⟨by decide +kernel, by decide +kernel, by decide +kernel, by decide +kernel, by decide +kernel, by decide +kernel, by decide +kernel, by decide +kernel, by decide +kernel, by decide +kernel, by decide +kernel, by decide +kernel⟩
theorem zIsLine_210 : zIsLine 210 := ⟨by decide +kernel, by decide +kernel, by decide +kernel, by decide +kernel, by decide +kernel, by decide +kernel, by decide +kernel, by decide +kernel, by decide +kernel, by decide +kernel, by decide +kernel, by decide +kernel⟩
theorem zIsPairs_29 : zIsPairs 29 := by unfold zIsPairs; decide +kernel
theorem zIsPairs_32 : zIsPairs 32 := by unfold zIsPairs; decide +kernel
theorem zIsPairs_36 : zIsPairs 36 := by unfold zIsPairs; decide +kernel
theorem zIsPairs_39 : zIsPairs 39 := by unfold zIsPairs; decide +kernel
theorem zIsPairs_72 : zIsPairs 72 := by unfold zIsPairs; decide +kernel
theorem zIsPairs_75 : zIsPairs 75 := by unfold zIsPairs; decide +kernel
theorem zIsPairs_79 : zIsPairs 79 := by unfold zIsPairs; decide +kernel
theorem zIsPairs_82 : zIsPairs 82 := by unfold zIsPairs; decide +kernel
theorem zIsPairs_114 : zIsPairs 114 := by unfold zIsPairs; decide +kernel
theorem zIsPairs_117 : zIsPairs 117 := by unfold zIsPairs; decide +kernel
theorem zIsPairs_121 : zIsPairs 121 := by unfold zIsPairs; decide +kernel
theorem zIsPairs_124 : zIsPairs 124 := by unfold zIsPairs; decide +kernel
theorem zIsPairs_156 : zIsPairs 156 := by unfold zIsPairs; decide +kernel
theorem zIsPairs_159 : zIsPairs 159 := by unfold zIsPairs; decide +kernel
theorem zIsPairs_163 : zIsPairs 163 := by unfold zIsPairs; decide +kernel
theorem zIsPairs_166 : zIsPairs 166 := by unfold zIsPairs; decide +kernel
theorem zIsPairs_184 : zIsPairs 184 := by unfold zIsPairs; decide +kernel
theorem zIsState_1 : zIsState 1 := ⟨by decide +kernel, by decide +kernel, by decide +kernel, by decide +kernel, by decide +kernel, by decide +kernel, zIsLine_4, zIsLine_16, zIsPairs_29, zIsPairs_32, zIsPairs_36, zIsPairs_39⟩
theorem zIsState_44 : zIsState 44 := ⟨by decide +kernel, by decide +kernel, by decide +kernel, by decide +kernel, by decide +kernel, by decide +kernel, zIsLine_47, zIsLine_59, zIsPairs_72, zIsPairs_75, zIsPairs_79, zIsPairs_82⟩
theorem zIsState_86 : zIsState 86 := ⟨by decide +kernel, by decide +kernel, by decide +kernel, by decide +kernel, by decide +kernel, by decide +kernel, zIsLine_89, zIsLine_101, zIsPairs_114, zIsPairs_117, zIsPairs_121, zIsPairs_124⟩
theorem zIsState_128 : zIsState 128 := ⟨by decide +kernel, by decide +kernel, by decide +kernel, by decide +kernel, by decide +kernel, by decide +kernel, zIsLine_131, zIsLine_143, zIsPairs_156, zIsPairs_159, zIsPairs_163, zIsPairs_166⟩
theorem zs_0 : zsh 0 = zo 9 [(0, 1), (0, 43), (0, 170), (0, 171), (0, 190), (0, 195), (0, 198), (0, 200), (0, 207), (0, 210), (0, 222)] := by decide +kernel
theorem zs_1 : zsh 1 = zo 8 [(0, 1), (0, 2), (0, 27), (0, 34), (0, 41), (1, 0), (1, 0), (1, 0)] := by decide +kernel
theorem zs_43 : zsh 43 = zr 6 3 [(0, 1), (0, 43), (0, 85)] := by decide +kernel
theorem zs_170 : zsh 170 = za 2 3 := by decide +kernel
theorem zs_171 : zsh 171 = zo 4 [(0, 1), (0, 13), (0, 16), (0, 17), (0, 18), (1, 0), (1, 0), (1, 0), (1, 0), (1, 0), (1, 0), (1, 0), (1, 0)] := by decide +kernel
theorem zs_187 : zsh 187 = za 0 6 := by decide +kernel
theorem zs_188 : zsh 188 = za 0 6 := by decide +kernel
theorem zs_189 : zsh 189 = za 1 600 := by decide +kernel
theorem zs_190 : zsh 190 = zo 5 [(0, 1), (0, 2), (0, 3), (0, 4), (1, 0), (1, 0), (1, 0), (1, 0), (1, 0), (1, 0), (1, 0), (1, 0)] := by decide +kernel
theorem zs_191 : zsh 191 = za 0 16 := by decide +kernel
theorem zs_192 : zsh 192 = za 0 16 := by decide +kernel
theorem zs_193 : zsh 193 = za 0 6 := by decide +kernel
theorem zs_194 : zsh 194 = za 0 6 := by decide +kernel
theorem zs_195 : zsh 195 = zo 1 [(0, 1), (0, 2), (1, 0), (1, 0)] := by decide +kernel
theorem zs_196 : zsh 196 = za 0 16 := by decide +kernel
theorem zs_197 : zsh 197 = za 0 16 := by decide +kernel
theorem zs_198 : zsh 198 = zo 7 [(0, 1), (1, 0), (2, 0)] := by decide +kernel
theorem zs_199 : zsh 199 = zl 1126 := by decide +kernel
theorem zs_200 : zsh 200 = zo 6 [(0, 1), (0, 2), (0, 3), (0, 4), (0, 5), (0, 6), (1, 0), (1, 0), (1, 0), (1, 0), (1, 0)] := by decide +kernel
theorem zs_201 : zsh 201 = za 0 16 := by decide +kernel
theorem zs_202 : zsh 202 = za 0 16 := by decide +kernel
theorem zs_203 : zsh 203 = za 0 16 := by decide +kernel
theorem zs_204 : zsh 204 = za 0 17 := by decide +kernel
theorem zs_205 : zsh 205 = za 0 17 := by decide +kernel
theorem zs_206 : zsh 206 = za 0 16 := by decide +kernel
theorem zs_207 : zsh 207 = zo 3 [(0, 1), (0, 2)] := by decide +kernel
theorem zs_208 : zsh 208 = za 0 1000 := by decide +kernel
theorem zs_209 : zsh 209 = za 0 1000 := by decide +kernel
theorem zs_222 : zsh 222 = za 0 384 := by decide +kernel
theorem zs_223 : zsh 223 = zo 10 [(1, 0), (0, 1), (0, 2), (0, 3), (0, 4), (0, 5), (0, 6), (0, 7), (0, 8), (1, 0), (1, 0), (1, 0), (1, 0), (1, 0), (2, 0), (1, 0), (1, 0), (1, 0), (0, 9), (0, 10), (0, 11), (0, 12), (1, 0), (1, 0), (1, 0), (1, 0), (1, 0), (0, 13), (0, 14), (0, 15), (1, 0), (1, 0), (1, 0), (1, 0), (1, 0), (0, 16), (0, 17), (0, 18), (0, 19), (0, 20), (0, 21), (0, 22), (2, 0), (1, 0), (0, 23), (0, 24), (1, 0), (1, 0), (0, 25), (0, 26)] := by decide +kernel
theorem zs_224 : zsh 224 = za 1 2400 := by decide +kernel
theorem zs_225 : zsh 225 = za 0 4 := by decide +kernel
theorem zs_226 : zsh 226 = za 0 4 := by decide +kernel
theorem zs_227 : zsh 227 = za 0 4 := by decide +kernel
theorem zs_228 : zsh 228 = za 0 12 := by decide +kernel
theorem zs_229 : zsh 229 = za 0 984 := by decide +kernel
theorem zs_230 : zsh 230 = za 0 264 := by decide +kernel
theorem zs_231 : zsh 231 = za 0 168 := by decide +kernel
theorem zs_232 : zsh 232 = za 0 123 := by decide +kernel
theorem zs_233 : zsh 233 = za 0 6 := by decide +kernel
theorem zs_234 : zsh 234 = za 0 16 := by decide +kernel
theorem zs_235 : zsh 235 = za 0 16 := by decide +kernel
theorem zs_236 : zsh 236 = za 0 16 := by decide +kernel
theorem zs_237 : zsh 237 = za 0 16 := by decide +kernel
theorem zs_238 : zsh 238 = za 0 16 := by decide +kernel
theorem zs_239 : zsh 239 = za 0 16 := by decide +kernel
theorem zs_240 : zsh 240 = za 0 16 := by decide +kernel
theorem zs_241 : zsh 241 = za 0 6 := by decide +kernel
theorem zs_242 : zsh 242 = za 0 16 := by decide +kernel
theorem zs_243 : zsh 243 = za 0 6 := by decide +kernel
theorem zs_244 : zsh 244 = za 2 6 := by decide +kernel
theorem zs_245 : zsh 245 = zl 1200 := by decide +kernel
theorem zs_246 : zsh 246 = za 0 16 := by decide +kernel
theorem zs_247 : zsh 247 = za 0 16 := by decide +kernel
theorem zs_248 : zsh 248 = za 0 4 := by decide +kernel
theorem zs_249 : zsh 249 = za 2 3 := by decide +kernel
theorem zsw {A : Prop} {x : Int32} (n : Nat) (hd : (x.toInt < 0 ∨ (n : Int) < x.toInt) → A) (hi : ∀ i : Nat, i ≤ n → x = Int32.ofNat i → A) : A := by
  by_cases h : x.toInt < 0 ∨ (n : Int) < x.toInt
  · exact hd h
  · have h0 : 0 ≤ x.toInt := by omega
    refine hi x.toInt.toNat (by omega) ?_
    have h1 := Int32.toInt_lt x
    apply Int32.toInt_inj.mp
    rw [Int32.toInt_ofNat_of_lt (by omega)]
    omega
