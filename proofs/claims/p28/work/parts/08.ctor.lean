/-! MAKING THE CELLS. Addresses follow each other: cell k lies at o + k. -/
def zG (n o : Nat) (c : Nat → va_E) : va_W := (List.range n).map (fun k => (o + k, c k))
theorem zG_get {n o : Nat} {c : Nat → va_E} {k : Nat} (h : k < n) : (zG n o c)[k]? = some (o + k, c k) := by simp [zG, List.getElem?_map, List.getElem?_range, h]
theorem zG_lt {n o : Nat} {c : Nat → va_E} {k : Nat} {q : Nat × va_E} (h : (zG n o c)[k]? = some q) : k < n ∧ q.1 = o + k := by
  have h1 : k < n := by
    have := (List.getElem?_eq_some_iff.mp h).1
    simpa [zG] using this
  rw [zG_get h1] at h
  cases h
  exact ⟨h1, rfl⟩
theorem zG_D {n o : Nat} {c : Nat → va_E} : va_D (fun q => o ≤ q) (zG n o c) := by
  refine ⟨fun i j p q hp hq e => ?_, fun k q hq => ?_⟩
  · have e1 := (zG_lt hp).2
    have e2 := (zG_lt hq).2
    omega
  · have e1 := (zG_lt hq).2
    show o ≤ q.1
    omega
theorem zG_set {n o : Nat} {c : Nat → va_E} {k : Nat} {e : va_E} : (zG n o c).set k (o + k, e) = zG n o (va_up c k e) := by
  apply List.ext_getElem?
  intro i
  by_cases hi : i < n
  · by_cases hk : k = i
    · subst hk
      rw [zG_get hi, List.getElem?_set_self (by simpa [zG] using hi), zup_s]
    · rw [List.getElem?_set_ne hk, zG_get hi, zG_get hi, zup_n _ _ _ (fun q => hk q.symm)]
  · rw [List.getElem?_eq_none (by simpa [zG] using hi), List.getElem?_eq_none (by simpa [zG] using hi)]
theorem zG_push {n o : Nat} {c : Nat → va_E} {e : va_E} : zG n o c ++ [(o + n, e)] = zG (n + 1) o (va_up c n e) := by
  apply List.ext_getElem?
  intro i
  rcases Nat.lt_trichotomy i n with h | h | h
  · rw [List.getElem?_append_left (by simpa [zG] using h), zG_get h, zG_get (by omega), zup_n _ _ _ (by omega)]
  · subst h
    rw [zG_get (by omega), zup_s, List.getElem?_append_right (by simp [zG])]
    simp [zG]
  · rw [List.getElem?_eq_none (by simp [zG]; omega), List.getElem?_eq_none (by simp [zG]; omega)]
theorem zup_id {f : Nat → va_E} {k : Nat} {v : va_E} (h : f k = v) : va_up f k v = f := by
  funext j
  by_cases hj : j = k
  · subst hj; rw [zup_s, h]
  · rw [zup_n _ _ _ hj]
theorem zup_up {f : Nat → va_E} {k : Nat} {v w : va_E} : va_up (va_up f k v) k w = va_up f k w := by
  funext j
  by_cases hj : j = k
  · subst hj; rw [zup_s, zup_s]
  · rw [zup_n _ _ _ hj, zup_n _ _ _ hj, zup_n _ _ _ hj]
theorem zup_cm {f : Nat → va_E} {k i : Nat} {v w : va_E} (h : k ≠ i) : va_up (va_up f k v) i w = va_up (va_up f i w) k v := by
  funext j
  by_cases h1 : j = k
  · subst h1; rw [zup_n _ _ _ h, zup_s, zup_s]
  · by_cases h2 : j = i
    · subst h2; rw [zup_s, zup_n _ _ _ h1, zup_s]
    · rw [zup_n _ _ _ h2, zup_n _ _ _ h1, zup_n _ _ _ h1, zup_n _ _ _ h2]
def yPre (D : va_G) (cy : Nat → ClassId) (o n : Nat) (c : Nat → va_E) (U : State) : Prop := U.heap.size = o + n ∧ va_P D vwCl (zG n o c) U.heap ∧ va_K D vwCl (zty cy) U ∧ zNn U
theorem yPre_blind {D : va_G} {cy : Nat → ClassId} {o n : Nat} {c : Nat → va_E} {av : List Value} : FrameBlind (va_Pc av (yPre D cy o n c)) := fun a U f mk q => by
  obtain ⟨q0, q1, q2, q3, q5⟩ := q
  exact ⟨q0, q1, q2, va_K.moved (u := U) (U := U.calling f mk a) (Vm.Alike.refl U.vm) q3, q5.same rfl⟩
abbrev yQ (D : va_G) (o n : Nat) (c : Nat → va_E) : Array Value → State → Outcome → State → Prop := va_Qv (fun _ : Unit => True) (fun _ t => t.heap.size = o + n ∧ va_P D vwCl (zG n o c) t.heap) (fun q => o ≤ q)
abbrev yrm (f lo ce sl : Nat) : Room := { frames := f, cells := ce, slots := sl, locals := lo }
def yM (l : Launch) (y : MethodName) (bytes : ByteArray) (maxL : Nat) (rm : Room) (D : va_G) (cy : Nat → ClassId) (o : Nat) (av : List Value) (n0 n1 : Nat) (c0 c1 : Nat → va_E) (mc ms : Nat) : Prop := Met l y (zU y bytes maxL none) rm (va_Pc av (yPre D cy o n0 c0)) (yQ D o n1 c1) mc ms (fun q => o ≤ q)
def yC (p : Program) (s : State) (m : MethodId) (args : Array Value) (meth : Method) (c : Code) (cc : ByteArray) (own : String) (nL : Nat) (D : va_G) (cy : Nat → ClassId) (o : Nat) : Prop :=
  CallFix p m c cc nL s args zUU own ∧ va_K D vwCl (zty cy) s ∧ zNn s ∧ meth.locks = false ∧ o ≤ s.heap.size
def yX (p : Program) (l : Launch) (e : Env) (R : Room) (s : State) (m : MethodId) (args : Array Value) (below : List Frame) (meth : Method) (c : Code) (nc ns : Nat) (Q : State → Prop) (nL : Nat) (D : va_G) (o : Nat) (pc : Nat) (lv : List (Nat × Value)) (st : List Value) (n : Nat) (cc : Nat → va_E) : Prop :=
  ∀ (ls : Array Slot) (H : Heap) (locs : List Loc), lv_has ls nL lv → H.size = o + n → va_P D vwCl (zG n o cc) H → va_S (fun q => o ≤ q) s.heap H locs → W p l e R s m args below meth c H locs nc ns Q (F0 m pc ls st)
section YR
variable {p : Program} {l : Launch} {e : Env} {R : Room} {s : State} {m : MethodId} {args : Array Value} {below : List Frame} {meth : Method} {c : Code} {nc ns : Nat} {Q : State → Prop}
variable {bc : ByteArray} {own : String} {nL : Nat} {D : va_G} {cy : Nat → ClassId} {o : Nat}
variable {pc : Nat} {lv lv' : List (Nat × Value)} {st : List Value} {n : Nat} {cc : Nat → va_E}
theorem yx_lv (ks : List Nat) (h : lv_pick lv ks = lv') (k : yX p l e R s m args below meth c nc ns Q nL D o pc lv' st n cc) : yX p l e R s m args below meth c nc ns Q nL D o pc lv st n cc := fun ls H locs h1 h2 h3 h4 => k ls H locs (lv_sub h1 ks h) h2 h3 h4
theorem yx_cc {cc' : Nat → va_E} (h : cc = cc') (k : yX p l e R s m args below meth c nc ns Q nL D o pc lv st n cc') : yX p l e R s m args below meth c nc ns Q nL D o pc lv st n cc := h ▸ k
theorem yx_wide {nc' ns' : Nat} (h1 : nc ≤ nc') (h2 : ns ≤ ns') (k : yX p l e R s m args below meth c nc' ns' Q nL D o pc lv st n cc) : yX p l e R s m args below meth c nc ns Q nL D o pc lv st n cc := fun ls H locs q1 q2 q3 q4 => W.widen h1 h2 (k ls H locs q1 q2 q3 q4)
theorem yx_iconst (C : yC p s m args meth c bc own nL D cy o) {i : Int} {v : Int32} (hd : decode bc pc = .ok (.iconst i, 1)) (hv : Int32.ofInt i = v) (k : yX p l e R s m args below meth c nc ns Q nL D o (pc + 1) lv (.int v :: st) n cc) : yX p l e R s m args below meth c nc ns Q nL D o pc lv st n cc := fun ls H locs h1 h2 h3 h4 => lv_iconst C.1.1 C.1.2.1 hd hv (k ls H locs h1 h2 h3 h4)
theorem yx_bipush (C : yC p s m args meth c bc own nL D cy o) {i : Int} {v : Int32} (hd : decode bc pc = .ok (.bipush i, 2)) (hv : (Int8.ofInt i).toInt32 = v) (k : yX p l e R s m args below meth c nc ns Q nL D o (pc + 2) lv (.int v :: st) n cc) : yX p l e R s m args below meth c nc ns Q nL D o pc lv st n cc := fun ls H locs h1 h2 h3 h4 => lv_bipush C.1.1 C.1.2.1 hd hv (k ls H locs h1 h2 h3 h4)
theorem yx_sipush (C : yC p s m args meth c bc own nL D cy o) {i : Int} {v : Int32} (hd : decode bc pc = .ok (.sipush i, 3)) (hv : (Int16.ofInt i).toInt32 = v) (k : yX p l e R s m args below meth c nc ns Q nL D o (pc + 3) lv (.int v :: st) n cc) : yX p l e R s m args below meth c nc ns Q nL D o pc lv st n cc := fun ls H locs h1 h2 h3 h4 => lv_sipush C.1.1 C.1.2.1 hd hv (k ls H locs h1 h2 h3 h4)
theorem yx_aload_n (C : yC p s m args meth c bc own nL D cy o) {i : Fin 4} {x : Nat} (hd : decode bc pc = .ok (.aload_n i, 1)) (j : Nat) (hl : lv[j]? = some ((i : Nat), .ref x)) (k : yX p l e R s m args below meth c nc ns Q nL D o (pc + 1) lv (.ref x :: st) n cc) : yX p l e R s m args below meth c nc ns Q nL D o pc lv st n cc := fun ls H locs h1 h2 h3 h4 => lv_aload_n C.1.1 C.1.2.1 hd rfl (lv_at h1 j hl) (k ls H locs h1 h2 h3 h4)
theorem yx_astore_n (C : yC p s m args meth c bc own nL D cy o) {i : Fin 4} {x : Nat} (hd : decode bc pc = .ok (.astore_n i, 1)) (hn : (i : Nat) < nL) (hl : ((i : Nat), Value.ref x) :: lv.filter (fun q => !(q.1 == (i : Nat)) && !(q.1 + 1 == (i : Nat) && q.2.category == 2)) = lv') (k : yX p l e R s m args below meth c nc ns Q nL D o (pc + 1) lv' st n cc) : yX p l e R s m args below meth c nc ns Q nL D o pc lv (.ref x :: st) n cc := fun ls H locs h1 h2 h3 h4 => lv_astore_n C.1.1 C.1.2.1 hd rfl h1 hn hl (fun ls h1 => k ls H locs h1 h2 h3 h4)
theorem yx_dup (C : yC p s m args meth c bc own nL D cy o) {v : Value} (hd : decode bc pc = .ok (.dup, 1)) (hv : v.category = 1) (k : yX p l e R s m args below meth c nc ns Q nL D o (pc + 1) lv (v :: v :: st) n cc) : yX p l e R s m args below meth c nc ns Q nL D o pc lv (v :: st) n cc := fun ls H locs h1 h2 h3 h4 => lv_dup C.1.1 C.1.2.1 hd hv (k ls H locs h1 h2 h3 h4)
theorem yx_obj (C : yC p s m args meth c bc own nL D cy o) {i a : Nat} (hl : Cond.methodLink own i objectInit ∈ zUU) (hi : Cond.instanceMethod objectInit ∈ zUU) (hcd : Cond.code objectInit ⟨#[0xb1]⟩ 1 none ∈ zUU) (hd : decode bc pc = .ok (.invokespecial i, 3)) (hf : 1 ≤ R.frames) (hlo : (st.map fun v => v.category).sum + 12 ≤ R.locals) (k : yX p l e R s m args below meth c nc ns Q nL D o (pc + 3) lv st n cc) : yX p l e R s m args below meth c nc ns Q nL D o pc lv (.ref a :: st) n cc := fun ls H locs h1 h2 h3 h4 => W.objInit C.1.1 C.1.2.1 C.1.2.2.2.1 (C.1.2.2.2.2 _ hl) (C.1.2.2.2.2 _ hi) (C.1.2.2.2.2 _ hcd) rfl (by rw [C.1.2.2.1]; exact h1.1) rfl hd hf (by show 2 * 0 + _ + 12 ≤ _; omega) (W.eq (g2 := F0 m (pc + 3) ls st) rfl (k ls H locs h1 h2 h3 h4))
theorem yA_up {H0 H H1 : Heap} {locs : List Loc} {o : Nat} (hS : va_S (fun q => o ≤ q) H0 H locs) (z : H.size ≤ H1.size) (hq : ∀ q, q < H.size → H1[q]? = H[q]?) : va_S (fun q => o ≤ q) H0 H1 locs := ⟨Nat.le_trans hS.1 z, fun q h1 h2 => (hq q (Nat.lt_of_lt_of_le h1 hS.1)).trans (hS.2.1 q h1 h2), hS.2.2⟩
theorem yP_push {D : va_G} {n o : Nat} {cc : Nat → va_E} {E : va_E} {H H1 : Heap} (hP : va_P D vwCl (zG n o cc) H) (hz : H.size = o + n) (hq : ∀ q, q < H.size → H1[q]? = H[q]?) (he : va_at D vwCl (o + n, E) H1) : va_P D vwCl (zG (n + 1) o (va_up cc n E)) H1 := by
  rw [← zG_push]
  refine (hP.kept (fun k x hx => ?_)).app (fun k x hx => ?_)
  · obtain ⟨h1, h2⟩ := zG_lt hx
    exact hq _ (by rw [h2, hz]; omega)
  · have hz : k < 1 := (List.getElem?_eq_some_iff.mp hx).1
    rw [show k = 0 by omega] at hx
    cases hx
    exact he
theorem yx_newa (C : yC p s m args meth c bc own nL D cy o) {at0 : ArrayType} {a N' : Nat} {x : Int32} {a0 : vp_A} (harr : Cond.arrayClass (newarray.typeOf at0) ∈ zUU) (hty : (zty cy)[a]? = some (cy a, newarray.typeOf at0)) (ha : ∀ cA : ClassId, vp_cell cA a0 = arrV cA N' (fun _ => defaultValue (newarray.typeOf at0))) (hn : ¬ x < 0) (hN : x.toNatClampNeg = N') (hb : N' * componentBytes (newarray.typeOf at0) ≤ 536870912) (hcc : cc n = .inl (cy a, a0)) (nc' ns' : Nat) (e1 : nc + 1 = nc') (e2 : ns + N' = ns') (hce : nc' ≤ R.cells) (hsl : ns' ≤ R.slots) (hd : decode bc pc = .ok (.newarray at0, 2)) (k : yX p l e R s m args below meth c nc' ns' Q nL D o (pc + 2) lv (.ref (o + n) :: st) (n + 1) cc) : yX p l e R s m args below meth c nc ns Q nL D o pc lv (.int x :: st) n cc := by
  intro ls H locs h1 h2 h3 h4
  subst e1 e2
  refine va_newaK C.1.1 C.1.2.1 (C.1.2.2.2.2 _ harr) rfl hd rfl hn hN hb hce hsl h2 (fun H1 cA f1 f2 f3 _ f5 => ?_)
  have hk := (C.2.1.2 a _ hty).2
  have hc : cA = cy a := by
    have h6 : s.vm.findClass ("[" ++ (newarray.typeOf at0).toString) = some (cy a) := by
      cases at0 <;> exact hk
    rw [f5] at h6
    exact Option.some.inj h6
  subst hc
  refine k ls H1 locs h1 (by omega) ?_ (yA_up h4 (by omega) (fun q hq => f3 q (by omega)))
  have := yP_push (E := .inl (cy a, a0)) h3 h2 (fun q hq => f3 q (by omega)) (by show H1[o + n]? = some (vp_cell _ _); rw [ha]; exact f1)
  rw [zup_id hcc] at this
  exact this
theorem yx_newaV (C : yC p s m args meth c bc own nL D cy o) {at0 : ArrayType} {a N' : Nat} {x : Int32} {a0 : vp_A} (harr : Cond.arrayClass (newarray.typeOf at0) ∈ zUU) (hty : (zty cy)[a]? = some (cy a, newarray.typeOf at0)) (ha : ∀ cA : ClassId, vp_cell cA a0 = arrV cA N' (fun _ => defaultValue (newarray.typeOf at0))) (hn : ¬ x < 0) (hN : x.toNatClampNeg = N') (hb : N' * componentBytes (newarray.typeOf at0) ≤ 536870912) (nc' ns' : Nat) (e1 : nc + 1 = nc') (e2 : ns + N' = ns') (hce : nc' ≤ R.cells) (hsl : ns' ≤ R.slots) (hd : decode bc pc = .ok (.newarray at0, 2)) (k : yX p l e R s m args below meth c nc' ns' Q nL D o (pc + 2) lv (.ref (o + n) :: st) (n + 1) (va_up cc n (.inl (cy a, a0)))) : yX p l e R s m args below meth c nc ns Q nL D o pc lv (.int x :: st) n cc := by
  intro ls H locs h1 h2 h3 h4
  subst e1 e2
  refine va_newaK C.1.1 C.1.2.1 (C.1.2.2.2.2 _ harr) rfl hd rfl hn hN hb hce hsl h2 (fun H1 cA f1 f2 f3 _ f5 => ?_)
  have hk := (C.2.1.2 a _ hty).2
  have hc : cA = cy a := by
    have h6 : s.vm.findClass ("[" ++ (newarray.typeOf at0).toString) = some (cy a) := by
      cases at0 <;> exact hk
    rw [f5] at h6
    exact Option.some.inj h6
  subst hc
  refine k ls H1 locs h1 (by omega) ?_ (yA_up h4 (by omega) (fun q hq => f3 q (by omega)))
  have := yP_push (E := .inl (cy a, a0)) h3 h2 (fun q hq => f3 q (by omega)) (by show H1[o + n]? = some (vp_cell _ _); rw [ha]; exact f1)
  exact this
theorem yx_newq (C : yC p s m args meth c bc own nL D cy o) {i a N' : Nat} {x : Int32} {Cn : String} (hcl : Cond.classLink own i Cn ∈ zUU) (hov : va_AO Cn s) (hty : (zty cy)[a]? = some (cy a, .object Cn)) (hn : ¬ x < 0) (hN : x.toNatClampNeg = N') (hb : N' * 4 ≤ 536870912) (nc' ns' : Nat) (e1 : nc + 1 = nc') (e2 : ns + N' = ns') (hce : nc' ≤ R.cells) (hsl : ns' ≤ R.slots) (hd : decode bc pc = .ok (.anewarray i, 3)) (k : yX p l e R s m args below meth c nc' ns' Q nL D o (pc + 3) lv (.ref (o + n) :: st) (n + 1) (va_up cc n (.inl (cy a, N', .inr (.inr (.inr (.inr (fun _ => none)))))))) : yX p l e R s m args below meth c nc ns Q nL D o pc lv (.int x :: st) n cc := by
  intro ls H locs h1 h2 h3 h4
  subst e1 e2 hN
  refine W.anew C.1.1 C.1.2.1 C.1.2.2.2.1 (C.1.2.2.2.2 _ hcl) (va_AO.use hov) rfl hd rfl hn hb hce hsl (fun cA kA comp f1 f2 f3 f4 => ?_)
  have hk := (C.2.1.2 a _ hty).2
  have hc : cA = cy a := by
    obtain ⟨kA', comp', g1, g2, g3, g4⟩ := hk
    rw [f1] at g4
    exact Option.some.inj g4
  subst hc
  generalize hH1 : H.push ({ cls := cy a, slots := Array.replicate x.toNatClampNeg .null, vm := .none } : Cell) = H1
  have z1 : H1.size = H.size + 1 := by rw [← hH1, Array.size_push]
  have e1 : H1[H.size]? = some (arrV (cy a) x.toNatClampNeg (fun _ => .null)) := by rw [← hH1, Array.getElem?_push_size, ← arrV_new]
  have o1 : ∀ q : Nat, q < H.size → H1[q]? = H[q]? := fun q hq => by rw [← hH1, Array.getElem?_push, if_neg (Nat.ne_of_lt hq)]
  have k2 := k ls H1 locs h1 (by omega) (yP_push h3 h2 o1 (by show H1[o + n]? = some (vp_cell _ _); rw [vp_cell_q, ← h2]; exact e1)) (yA_up h4 (by omega) o1)
  rw [← h2] at k2
  exact k2
theorem yx_new (C : yC p s m args meth c bc own nL D cy o) {i ci N : Nat} {Cn : String} {T : u_T} {fs : List Value} (ty : Nat → FieldType) (hty : ∀ k, k < N → parseFieldDescriptor (T k).2.2.1 = some (ty k)) (hin : ∀ w ∈ u_ws Cn T N, w ∈ zUU) (hcl : Cond.classLink own i Cn ∈ zUU) (hia : Cond.instantiable Cn N ∈ zUU) (hini : Cond.initialized Cn ∈ zUU) (hc : vwCl[ci]? = some (Cn, T, N)) (hfs : ∀ j, j < N → defaultValue (ty j) = vp_V fs j) (nc' ns' : Nat) (e1 : nc + 1 = nc') (e2 : ns + N = ns') (hce : nc' ≤ R.cells) (hsl : ns' ≤ R.slots) (hd : decode bc pc = .ok (.new i, 3)) (k : yX p l e R s m args below meth c nc' ns' Q nL D o (pc + 3) lv (.ref (o + n) :: st) (n + 1) (va_up cc n (.inr (ci, fs)))) : yX p l e R s m args below meth c nc ns Q nL D o pc lv st n cc := by
  intro ls H locs h1 h2 h3 h4
  subst e1 e2
  have hts := C.1.2.2.2.2
  have hKn := C.2.1.1 ci _ hc
  refine W.newcK C.1.1 C.1.2.1 C.1.2.2.2.1 (hts _ hcl) (hts _ hia) (hts _ hini) rfl hd hce hsl hKn.2.1 h2 (fun H1 kC hkC f1 z1 o1 => ?_)
  exact k ls H1 locs h1 (by omega) (yP_push h3 h2 (fun q hq => o1 q (by omega)) ⟨_, hc, (u_born ty hts hin hKn hkC f1 hty).to hfs⟩) (yA_up h4 (by omega) (fun q hq => o1 q (by omega)))
/-- a field of an object that is being made: the heap stays as large as it is -/
theorem yput_at {fs : List Value} {ci k0 j N : Nat} {T : u_T} {Cn : String} {v : Value} {H H' : Heap} {cell : Cell} (hP : va_P D vwCl (zG n o cc) H) (hk0 : k0 < n) (hg : (zG n o cc)[k0]? = some (o + k0, .inr (ci, fs))) (hc : vwCl[ci]? = some (Cn, T, N)) (hk : j < N) (hlen : j < fs.length) (hap : ∀ a b : Nat, a < N → b < N → a ≠ b → D.2 ci a ≠ D.2 ci b) (q2 : cell.cls = D.1 ci) (q3 : cell.vm = .none) (q4 : ∀ k, k < N → cell.slots[D.2 ci k]? = some (vp_V fs k)) (e1 : H'[o + k0]? = some (cell.setSlot (D.2 ci j) v)) (e3 : ∀ q : Nat, q ≠ o + k0 → H'[q]? = H[q]?) : va_P D vwCl (zG n o (va_up cc k0 (.inr (ci, fs.set j v)))) H' := by
  have h9 := hP.set zG_D hg (e := .inr (ci, fs.set j v)) ⟨_, hc, t_OB.to (V := updV (vp_V fs) j v) ⟨_, e1, q2, q3, t_set q4 hap hk v⟩ (fun j _ => vp_updV_set hlen v j)⟩ e3
  rw [zG_set] at h9
  exact h9
theorem yx_putF (C : yC p s m args meth c bc own nL D cy o) {k0 ci N i j : Nat} {T : u_T} {Cn : String} {fs : List Value} {v : Value} {ty : FieldType} (ty0 : Nat → FieldType) (hty : ∀ k, k < N → parseFieldDescriptor (T k).2.2.1 = some (ty0 k)) (hnm : ∀ a, a < N → ∀ b, b < N → a ≠ b → (T a).2.1 ≠ (T b).2.1) (hin : ∀ w ∈ u_ws Cn T N, w ∈ zUU) (hc : vwCl[ci]? = some (Cn, T, N)) (hmn : meth.name = "<init>") (hdc : (T j).1 = own) (hk0 : k0 < n) (hcc : cc k0 = .inr (ci, fs)) (hk : j < N) (hl : Cond.fieldLink own i (T j).1 (T j).2.1 (T j).2.2.1 ∈ zUU) (hfin : (T j).2.2.2 = true) (hpd : parseFieldDescriptor (T j).2.2.1 = some ty) (hn : narrow ty v = v) (hfit : fits ty v = true) (hlen : j < fs.length) (hd : decode bc pc = .ok (.putfield i, 3)) (k : yX p l e R s m args below meth c nc ns Q nL D o (pc + 3) lv st n (va_up cc k0 (.inr (ci, fs.set j v)))) : yX p l e R s m args below meth c nc ns Q nL D o pc lv (v :: .ref (o + k0) :: st) n cc := by
  intro ls H locs h1 h2 h3 h4
  have hts := C.1.2.2.2.2
  have hK := C.2.1
  have hown := C.1.2.2.2.1
  have hg : (zG n o cc)[k0]? = some (o + k0, .inr (ci, fs)) := by rw [zG_get hk0, hcc]
  have hap := va_apart (own := own) hts hin ty0 hty hnm hK hc
  obtain ⟨r, hr1, cell, q1, q2, q3, q4⟩ := h3 k0 _ hg
  have hr : r = (Cn, T, N) := Option.some.inj (hr1.symm.trans hc)
  subst hr
  obtain ⟨hS, hfc, kC, hkC, hkind⟩ := hK.1 ci _ hc
  obtain ⟨cf, kf, fi, f, hi, hsl⟩ := hS j hk
  have hlay := hts _ (hin _ (u_in_lay hk))
  unfold u_lay at hlay
  rw [if_pos hfin] at hlay
  have hst := (u_facts hfc hkC (u_lays hts hin hk) hi).1
  have hcf : m.cls = cf := by
    obtain ⟨_, _, c', _, _, _, -, -, hf', -, -, -, hown2, -⟩ := Cond.laysFinal_spec hlay
    have e1 : c' = cf := by have := hi.symm.trans hf'; simp at this; exact this.1.symm
    rw [hdc] at hown2
    rw [← e1]; exact Option.some.inj (hown.symm.trans hown2)
  have h6 := u_fits hfc hkC hkind (Or.inr hlay) hi hpd hn hfit
  refine W.putFinK C.1.1 C.1.2.1 hown (hts _ hl) hi hst hcf hmn (by rw [q2]; exact h6) q1 q3 (by rw [hsl]; exact k2_hasslot (q4 j hk)) rfl rfl hd fun H' e1 e2 e3 => ?_
  rw [hsl] at e1 ⊢
  exact k ls H' _ h1 (by rw [e2]; exact h2) (yput_at h3 hk0 hg hc hk hlen hap q2 q3 q4 e1 e3) (h4.put e2 e3 (Nat.le_add_right o k0))
theorem yx_putI (C : yC p s m args meth c bc own nL D cy o) {k0 ci N i j : Nat} {T : u_T} {Cn : String} {fs : List Value} {v : Value} {ty : FieldType} (ty0 : Nat → FieldType) (hty : ∀ k, k < N → parseFieldDescriptor (T k).2.2.1 = some (ty0 k)) (hnm : ∀ a, a < N → ∀ b, b < N → a ≠ b → (T a).2.1 ≠ (T b).2.1) (hin : ∀ w ∈ u_ws Cn T N, w ∈ zUU) (hc : vwCl[ci]? = some (Cn, T, N)) (hk0 : k0 < n) (hcc : cc k0 = .inr (ci, fs)) (hk : j < N) (hl : Cond.fieldLink own i (T j).1 (T j).2.1 (T j).2.2.1 ∈ zUU) (hfin : (T j).2.2.2 = false) (hpd : parseFieldDescriptor (T j).2.2.1 = some ty) (hn : narrow ty v = v) (hfit : fits ty v = true) (hlen : j < fs.length) (hd : decode bc pc = .ok (.putfield i, 3)) (k : yX p l e R s m args below meth c nc ns Q nL D o (pc + 3) lv st n (va_up cc k0 (.inr (ci, fs.set j v)))) : yX p l e R s m args below meth c nc ns Q nL D o pc lv (v :: .ref (o + k0) :: st) n cc := by
  intro ls H locs h1 h2 h3 h4
  have hts := C.1.2.2.2.2
  have hK := C.2.1
  have hown := C.1.2.2.2.1
  have hg : (zG n o cc)[k0]? = some (o + k0, .inr (ci, fs)) := by rw [zG_get hk0, hcc]
  have hap := va_apart (own := own) hts hin ty0 hty hnm hK hc
  obtain ⟨r, hr1, cell, q1, q2, q3, q4⟩ := h3 k0 _ hg
  have hr : r = (Cn, T, N) := Option.some.inj (hr1.symm.trans hc)
  subst hr
  obtain ⟨hS, hfc, kC, hkC, hkind⟩ := hK.1 ci _ hc
  obtain ⟨cf, kf, fi, f, hi, hsl⟩ := hS j hk
  have hlay := hts _ (hin _ (u_in_lay hk))
  unfold u_lay at hlay
  rw [if_neg (by rw [hfin]; decide)] at hlay
  have hst := (u_facts hfc hkC (u_lays hts hin hk) hi).1
  have h6 := u_store hfc hkC hkind hlay hi hpd hn hfit
  refine W.putK C.1.1 C.1.2.1 (f := f) ⟨hown, hts _ hl, ⟨_, _, _, hi⟩, hst⟩ (by rw [q2]; exact h6) q1 q3 (by rw [hsl]; exact k2_hasslot (q4 j hk)) rfl rfl hd fun H' e1 e2 e3 => ?_
  rw [hsl] at e1 ⊢
  exact k ls H' _ h1 (by rw [e2]; exact h2) (yput_at h3 hk0 hg hc hk hlen hap q2 q3 q4 e1 e3) (h4.put e2 e3 (Nat.le_add_right o k0))
theorem yx_getR (C : yC p s m args meth c bc own nL D cy o) {k0 ci i j : Nat} {fs : List Value} {v : Value} (hF : zFG own i ci j) (hk0 : k0 < n) (hcc : cc k0 = .inr (ci, fs)) (hv : fs[j]? = some v) (hd : decode bc pc = .ok (.getfield i, 3)) (k : yX p l e R s m args below meth c nc ns Q nL D o (pc + 3) lv (v :: st) n cc) : yX p l e R s m args below meth c nc ns Q nL D o pc lv (.ref (o + k0) :: st) n cc := fun ls H locs h1 h2 h3 h4 => by
  obtain ⟨Cn, T, N, hc, hin, hk, hl⟩ := hF
  exact va_get C.1.1 C.1.2.1 C.1.2.2.2.2 hin C.1.2.2.2.1 C.2.1 h3 k0 (by rw [zG_get hk0, hcc]) hc j hk (C.1.2.2.2.2 _ hl) (fun _ h => h) hv hd (k ls H locs h1 h2 h3 h4)
theorem yx_iast (C : yC p s m args meth c bc own nL D cy o) {k0 N' : Nat} {f : Nat → Int32} {i x : Int32} (hk0 : k0 < n) (hcc : cc k0 = .inl (cy 0, N', .inl f)) (hi : vp_in i N') (hd : decode bc pc = .ok (.iastore, 1)) (k : yX p l e R s m args below meth c nc ns Q nL D o (pc + 1) lv st n (va_up cc k0 (.inl (cy 0, N', .inl (upd f i.toNatClampNeg x))))) : yX p l e R s m args below meth c nc ns Q nL D o pc lv (.int x :: .int i :: .ref (o + k0) :: st) n cc := by
  intro ls H locs h1 h2 h3 h4
  have hg : (zG n o cc)[k0]? = some (o + k0, .inl (cy 0, N', .inl f)) := by rw [zG_get hk0, hcc]
  refine W.iast C.1.1 C.1.2.1 (h3 k0 _ hg) ((C.2.1.2 0 _ rfl).1 N' (fun j => .int (f j))) (fun q => by cases q) (by show ¬ (i < 0 ∨ (arrV _ _ _).slots.size ≤ _); rw [arrV_size]; exact hi) rfl rfl hd fun H1 e z oq => ?_
  have h9 := h3.set zG_D hg (e := .inl (cy 0, N', .inl (upd f i.toNatClampNeg x))) (by
    show H1[o + k0]? = some (vp_cell _ _)
    rw [e, vp_cell_i, vp_cell_i, arrV_store]
    congr 2
    funext q
    by_cases hq : q = i.toNatClampNeg
    · subst hq; simp [updV, upd]
    · simp [updV, upd, hq]) oq
  rw [zG_set] at h9
  exact k ls H1 _ h1 (by rw [z]; exact h2) h9 (h4.put z oq (Nat.le_add_right o k0))
theorem yx_aast (C : yC p s m args meth c bc own nL D cy o) {k0 k1 ci a N' N : Nat} {T : u_T} {Cn : String} {fs : List Value} {f : Nat → Option Nat} {i : Int32} (j : Nat) (hk0 : k0 < n) (hk1 : k1 < n) (hcc : cc k0 = .inl (cy a, N', .inr (.inr (.inr (.inr f))))) (hc1 : cc k1 = .inr (ci, fs)) (hc : vwCl[ci]? = some (Cn, T, N)) (hty : (zty cy)[a]? = some (cy a, .object Cn)) (hi : vp_in i N') (hj : i.toNatClampNeg = j) (hd : decode bc pc = .ok (.aastore, 1)) (k : yX p l e R s m args below meth c nc ns Q nL D o (pc + 1) lv st n (va_up cc k0 (.inl (cy a, N', .inr (.inr (.inr (.inr (va_up f j (some (o + k1)))))))))) : yX p l e R s m args below meth c nc ns Q nL D o pc lv (.ref (o + k1) :: .int i :: .ref (o + k0) :: st) n cc := by
  intro ls H locs h1 h2 h3 h4
  subst hj
  have hK := C.2.1
  have ha : (zG n o cc)[k0]? = some (o + k0, .inl (cy a, N', .inr (.inr (.inr (.inr f))))) := by rw [zG_get hk0, hcc]
  have hv : (zG n o cc)[k1]? = some (o + k1, .inr (ci, fs)) := by rw [zG_get hk1, hc1]
  have hlt : i.toNatClampNeg < N' := Nat.not_le.mp fun q => hi (Or.inr q)
  have h0 : ¬ i < 0 := fun q => hi (Or.inl q)
  obtain ⟨r', hr', cellV, g1, g2, g3, -⟩ := h3 k1 _ hv
  have hcls := (hK.1 ci _ hc).2
  obtain ⟨kA, comp, f1, f2, f3, -⟩ := (hK.2 a _ hty).2
  have hcomp : comp = D.1 ci := Option.some.inj (f3.symm.trans hcls.1)
  subst hcomp
  obtain ⟨kC, hkC, -⟩ := hcls.2
  refine W.aast C.1.1 C.1.2.1 (h3 k0 _ ha) (fun q h => by cases h) (fun h => by cases h) f1 f2 rfl hkC ⟨h0, by show _ < (arrV _ _ _).slots.size; rw [arrV_size]; exact hlt⟩ g1 (fun q h => by rw [g3] at h; cases h) (by rw [g2]; exact hkC) (by rw [g2]; exact va_assign hcls) rfl rfl hd fun H1 e z oq => ?_
  have h9 := h3.set zG_D ha (e := .inl (cy a, N', .inr (.inr (.inr (.inr (va_up f i.toNatClampNeg (some (o + k1)))))))) (by
    show H1[o + k0]? = some (vp_cell _ _)
    rw [e, vp_cell_q, vp_cell_q, arrV_store]
    congr 2
    funext q
    by_cases hq : q = i.toNatClampNeg
    · subst hq; simp [updV, va_up, va_rf]
    · simp [updV, va_up, hq]) oq
  rw [zG_set] at h9
  exact k ls H1 _ h1 (by rw [z]; exact h2) h9 (h4.put z oq (Nat.le_add_right o k0))
theorem yx_ret (C : yC p s m args meth c bc own nL D cy o) (hr : meth.sig.returnType = none) (hd : decode bc pc = .ok (.return_, 1)) : yX p l e R s m args below meth c nc ns (MQ below (yQ D o n cc) args s nc ns (fun q => o ≤ q)) nL D o pc lv [] n cc := fun ls H locs h1 h2 h3 h4 => W.vret C.1.1 C.1.2.1 hr (fun t ht hW => ⟨⟨(), rfl, trivial, by rw [ht]; exact h2, by rw [ht]; exact h3⟩, h4.F ht⟩) h4.2.2 hd C.2.2.2.1
/-- a constructor of a nest mate -/
theorem yx_cN (C : yC p s m args meth c bc own nL D cy o) {y : MethodName} {bytes : ByteArray} {maxL i n1 mc ms k0 : Nat} {rm : Room} {c1 : Nat → va_E} {host : String} (hU : GoodIn zUU (zU y bytes maxL none)) (hy : y.cls ≠ "java/lang/invoke/MethodHandle" ∧ y.cls ≠ "java/lang/invoke/VarHandle" ∧ (parseMethodDescriptor y.desc).map (fun d => d.parameters.length) = some 0) (hini : Cond.initialized y.cls ∈ zUU) (him : Cond.instanceMethod y ∈ zUU) (hnm : y.name = "<init>") (hNw : va_Nw (.methodLinkNest own i y host) s) (hM : yM l y bytes maxL rm D cy o [.ref (o + k0)] n n1 cc c1 mc ms) (hR : rm.frames + 1 ≤ R.frames ∧ 8 + (maxL + 11) + rm.locals ≤ R.locals) (hc0 : rm.cells = mc ∧ rm.slots = ms) (nc' ns' : Nat) (e1 : nc + mc = nc') (e2 : ns + ms = ns') (hf : nc' ≤ R.cells ∧ ns' ≤ R.slots) (hw8 : (st.map fun v => v.category).sum ≤ 8) (hd : decode bc pc = .ok (.invokespecial i, 3)) (k : yX p l e R s m args below meth c nc' ns' Q nL D o (pc + 3) lv st n1 c1) : yX p l e R s m args below meth c nc ns Q nL D o pc lv (.ref (o + k0) :: st) n cc := by
  intro ls H locs h1 h2 h3 h4
  subst e1 e2
  exact va_callv (va_runIN (As := []) (rest := st) C.1 hM ⟨va_cnB 0 C.1.2.2.2.2 hU rfl hc0.1 hc0.2 hNw (C.1.2.2.2.2 _ hini) hy hR, hnm, C.1.2.2.2.2 _ him⟩ ⟨yPre_blind, fun U hU hW => ⟨rfl, by rw [hU]; exact h2, by rw [hU]; exact h3, va_K.moved hW.alike C.2.1, C.2.2.1.warm hW⟩⟩ rfl rfl h1.1 rfl (lv_room hw8) hd hf) h4 (fun q _ h => h) (fun q h => h) (fun u t H1 locs1 ht _ _ hB _ _ hS => k ls H1 locs1 h1 (by rw [← ht]; exact hB.1) (by rw [← ht]; exact hB.2) hS)
theorem yx_cI (C : yC p s m args meth c bc own nL D cy o) {y : MethodName} {bytes : ByteArray} {maxL i n1 mc ms k0 : Nat} {rm : Room} {c1 : Nat → va_E} (hU : GoodIn zUU (zU y bytes maxL none)) (hy : y.cls ≠ "java/lang/invoke/MethodHandle" ∧ y.cls ≠ "java/lang/invoke/VarHandle" ∧ (parseMethodDescriptor y.desc).map (fun d => d.parameters.length) = some 0) (hini : Cond.initialized y.cls ∈ zUU) (him : Cond.instanceMethod y ∈ zUU) (hnm : y.name = "<init>") (hml : Cond.methodLink own i y ∈ zUU) (hM : yM l y bytes maxL rm D cy o [.ref (o + k0)] n n1 cc c1 mc ms) (hR : rm.frames + 1 ≤ R.frames ∧ 8 + (maxL + 11) + rm.locals ≤ R.locals) (hc0 : rm.cells = mc ∧ rm.slots = ms) (nc' ns' : Nat) (e1 : nc + mc = nc') (e2 : ns + ms = ns') (hf : nc' ≤ R.cells ∧ ns' ≤ R.slots) (hw8 : (st.map fun v => v.category).sum ≤ 8) (hd : decode bc pc = .ok (.invokespecial i, 3)) (k : yX p l e R s m args below meth c nc' ns' Q nL D o (pc + 3) lv st n1 c1) : yX p l e R s m args below meth c nc ns Q nL D o pc lv (.ref (o + k0) :: st) n cc := by
  intro ls H locs h1 h2 h3 h4
  subst e1 e2
  exact va_callv (va_runI (As := []) (rest := st) C.1 hM (cwI 0 C.1.2.2.2.2 hU rfl hc0.1 hc0.2 (C.1.2.2.2.2 _ hini) (C.1.2.2.2.2 _ hml) (C.1.2.2.2.2 _ him) hnm hy hR) ⟨yPre_blind, fun U hU hW => ⟨rfl, by rw [hU]; exact h2, by rw [hU]; exact h3, va_K.moved hW.alike C.2.1, C.2.2.1.warm hW⟩⟩ rfl rfl h1.1 rfl (lv_room hw8) hd hf) h4 (fun q _ h => h) (fun q h => h) (fun u t H1 locs1 ht _ _ hB _ _ hS => k ls H1 locs1 h1 (by rw [← ht]; exact hB.1) (by rw [← ht]; exact hB.2) hS)
end YR
theorem ym_of {l : Launch} {y : MethodName} {bytes : ByteArray} {maxL : Nat} {rm : Room} {D : va_G} {cy : Nat → ClassId} {o n0 n1 : Nat} {av : List Value} {c0 c1 : Nat → va_E} {mc ms : Nat} (own : String) (hown : y.cls = own) (hy : plainName y.cls = true) (hnm : y.name = "<init>") (hlen : (lg_sl av).length ≤ maxL)
    (body : ∀ (p : Program) (e : Env) (s : State) (m : MethodId) (below : List Frame) (meth : Method) (c : Code), yC p s m av.toArray meth c bytes own maxL D cy o → meth.sig.returnType = none → meth.name = "<init>" → yX p l e rm s m av.toArray below meth c 0 0 (MQ below (yQ D o n1 c1) av.toArray s mc ms (fun q => o ≤ q)) maxL D o 0 (lv_args 0 av) [] n0 c0) : yM l y bytes maxL rm D cy o av n0 n1 c0 c1 mc ms := by
  refine Met.ofW (cc := bytes) (maxL := maxL) (ret := none) hy rfl ?_
  intro p e s m args below meth c s₁ B hml hv
  obtain ⟨rfl, hsz, hP, hK, hN⟩ := hv
  have hts := atoms_spec (ws := zU y bytes maxL none) B.pre
  have C : yC p s m av.toArray meth c bytes own maxL D cy o := ⟨⟨B.exec, B.bytes, hml, hown ▸ findClass_of_methodNamed B.named, fun w hw => hts w (List.mem_cons_of_mem _ hw)⟩, hK, hN, B.notSynchronized, by omega⟩
  have hin : meth.name = "<init>" := by rw [← hnm]; exact (name_of_methodNamed B.named B.method).1
  rw [lg_entry_eq]
  exact body p e s m below meth c C B.returns hin _ s.heap [] (lv_entry av hlen) hsz hP va_S.rf
theorem ya_I {cA : ClassId} (n : Nat) : vp_cell cA (n, .inl (fun _ => 0)) = arrV cA n (fun _ => defaultValue (newarray.typeOf .int)) := rfl
theorem ya_B {cA : ClassId} (n : Nat) : vp_cell cA (n, .inl (fun _ => 0)) = arrV cA n (fun _ => defaultValue (newarray.typeOf .byte)) := rfl
theorem ya_Z {cA : ClassId} (n : Nat) : vp_cell cA (n, .inl (fun _ => 0)) = arrV cA n (fun _ => defaultValue (newarray.typeOf .boolean)) := rfl
theorem ya_J {cA : ClassId} (n : Nat) : vp_cell cA (n, .inr (.inl (fun _ => 0))) = arrV cA n (fun _ => defaultValue (newarray.typeOf .long)) := rfl
def yX0 (cy : Nat → ClassId) (o : Nat) (c : Nat → va_E) (b : Nat) : Prop := c b = .inr (0, [.ref (o + (b + 1)), .ref (o + (b + 2)), .ref (o + (b + 3)), .ref (o + (b + 4)), .ref (o + (b + 5)), .ref (o + (b + 6)), .ref (o + (b + 7)), .ref (o + (b + 8)), .ref (o + (b + 9)), .ref (o + (b + 10)), .ref (o + (b + 11)), .int 0, .int 0, .int 0, .int 0, .int 0, .int 0, .int 0]) ∧ c (b + 1) = .inl (cy 0, 16, .inl (fun _ => 0)) ∧ c (b + 2) = .inl (cy 0, 16, .inl (fun _ => 0)) ∧ c (b + 3) = .inl (cy 0, 16, .inl (fun _ => 0)) ∧ c (b + 4) = .inl (cy 0, 16, .inl (fun _ => 0)) ∧ c (b + 5) = .inl (cy 0, 16, .inl (fun _ => 0)) ∧ c (b + 6) = .inl (cy 0, 6, .inl (fun _ => 0)) ∧ c (b + 7) = .inl (cy 0, 6, .inl (fun _ => 0)) ∧ c (b + 8) = .inl (cy 0, 6, .inl (fun _ => 0)) ∧ c (b + 9) = .inl (cy 0, 6, .inl (fun _ => 0)) ∧ c (b + 10) = .inl (cy 0, 6, .inl (fun _ => 0)) ∧ c (b + 11) = .inl (cy 0, 6, .inl (fun _ => 0))
theorem yX0_up {cy : Nat → ClassId} {o : Nat} {c : Nat → va_E} {b k : Nat} {e : va_E} (h : yX0 cy o c b) (hk : k < b ∨ b + 12 ≤ k) : yX0 cy o (va_up c k e) b := ⟨by rw [zup_n _ _ _ (by omega)]; exact h.1, by rw [zup_n _ _ _ (by omega)]; exact h.2.1, by rw [zup_n _ _ _ (by omega)]; exact h.2.2.1, by rw [zup_n _ _ _ (by omega)]; exact h.2.2.2.1, by rw [zup_n _ _ _ (by omega)]; exact h.2.2.2.2.1, by rw [zup_n _ _ _ (by omega)]; exact h.2.2.2.2.2.1, by rw [zup_n _ _ _ (by omega)]; exact h.2.2.2.2.2.2.1, by rw [zup_n _ _ _ (by omega)]; exact h.2.2.2.2.2.2.2.1, by rw [zup_n _ _ _ (by omega)]; exact h.2.2.2.2.2.2.2.2.1, by rw [zup_n _ _ _ (by omega)]; exact h.2.2.2.2.2.2.2.2.2.1, by rw [zup_n _ _ _ (by omega)]; exact h.2.2.2.2.2.2.2.2.2.2.1, by rw [zup_n _ _ _ (by omega)]; exact h.2.2.2.2.2.2.2.2.2.2.2⟩
def yX2 (cy : Nat → ClassId) (o : Nat) (c : Nat → va_E) (b : Nat) : Prop := c b = .inr (2, [.ref (o + (b + 1)), .ref (o + (b + 2)), .int 0]) ∧ c (b + 1) = .inl (cy 0, 16, .inl (fun _ => 0)) ∧ c (b + 2) = .inl (cy 0, 16, .inl (fun _ => 0))
theorem yX2_up {cy : Nat → ClassId} {o : Nat} {c : Nat → va_E} {b k : Nat} {e : va_E} (h : yX2 cy o c b) (hk : k < b ∨ b + 3 ≤ k) : yX2 cy o (va_up c k e) b := ⟨by rw [zup_n _ _ _ (by omega)]; exact h.1, by rw [zup_n _ _ _ (by omega)]; exact h.2.1, by rw [zup_n _ _ _ (by omega)]; exact h.2.2⟩
def yX8 (cy : Nat → ClassId) (o : Nat) (c : Nat → va_E) (b : Nat) : Prop := c b = .inr (8, [.ref (o + (b + 1)), .ref (o + (b + 2)), .ref (o + (b + 27)), .ref (o + (b + 34)), .ref (o + (b + 41)), .int 0, .int 0, .int (-1)]) ∧ c (b + 1) = .inl (cy 1, 600, .inl (fun _ => 0)) ∧ c (b + 2) = .inl (cy 4, 2, .inr (.inr (.inr (.inr (fun i => (([(0, 1), (0, 13)] : List (Nat × Nat))[i]?).map (fun fd => o + ((b + 2) + fd.2))))))) ∧ yX0 cy o c (b + 3) ∧ yX0 cy o c (b + 15) ∧ c (b + 27) = .inl (cy 5, 2, .inr (.inr (.inr (.inr (fun i => (([(0, 1), (0, 4)] : List (Nat × Nat))[i]?).map (fun fd => o + ((b + 27) + fd.2))))))) ∧ yX2 cy o c (b + 28) ∧ yX2 cy o c (b + 31) ∧ c (b + 34) = .inl (cy 5, 2, .inr (.inr (.inr (.inr (fun i => (([(0, 1), (0, 4)] : List (Nat × Nat))[i]?).map (fun fd => o + ((b + 34) + fd.2))))))) ∧ yX2 cy o c (b + 35) ∧ yX2 cy o c (b + 38) ∧ c (b + 41) = .inl (cy 0, 3, .inl (fun _ => 0))
theorem yX8_up {cy : Nat → ClassId} {o : Nat} {c : Nat → va_E} {b k : Nat} {e : va_E} (h : yX8 cy o c b) (hk : k < b ∨ b + 42 ≤ k) : yX8 cy o (va_up c k e) b := ⟨by rw [zup_n _ _ _ (by omega)]; exact h.1, by rw [zup_n _ _ _ (by omega)]; exact h.2.1, by rw [zup_n _ _ _ (by omega)]; exact h.2.2.1, yX0_up h.2.2.2.1 (by omega), yX0_up h.2.2.2.2.1 (by omega), by rw [zup_n _ _ _ (by omega)]; exact h.2.2.2.2.2.1, yX2_up h.2.2.2.2.2.2.1 (by omega), yX2_up h.2.2.2.2.2.2.2.1 (by omega), by rw [zup_n _ _ _ (by omega)]; exact h.2.2.2.2.2.2.2.2.1, yX2_up h.2.2.2.2.2.2.2.2.2.1 (by omega), yX2_up h.2.2.2.2.2.2.2.2.2.2.1 (by omega), by rw [zup_n _ _ _ (by omega)]; exact h.2.2.2.2.2.2.2.2.2.2.2⟩
def yX4 (cy : Nat → ClassId) (o : Nat) (c : Nat → va_E) (b : Nat) : Prop := c b = .inr (4, [.ref (o + (b + 1)), .ref (o + (b + 13)), .ref (o + (b + 16)), .ref (o + (b + 17)), .ref (o + (b + 18)), .int 0, .int 0, .int 0, .int 0, .int 0, .int 0, .int 0, .int 0]) ∧ yX0 cy o c (b + 1) ∧ yX2 cy o c (b + 13) ∧ c (b + 16) = .inl (cy 0, 6, .inl (fun _ => 0)) ∧ c (b + 17) = .inl (cy 0, 6, .inl (fun _ => 0)) ∧ c (b + 18) = .inl (cy 1, 600, .inl (fun _ => 0))
theorem yX4_up {cy : Nat → ClassId} {o : Nat} {c : Nat → va_E} {b k : Nat} {e : va_E} (h : yX4 cy o c b) (hk : k < b ∨ b + 19 ≤ k) : yX4 cy o (va_up c k e) b := ⟨by rw [zup_n _ _ _ (by omega)]; exact h.1, yX0_up h.2.1 (by omega), yX2_up h.2.2.1 (by omega), by rw [zup_n _ _ _ (by omega)]; exact h.2.2.2.1, by rw [zup_n _ _ _ (by omega)]; exact h.2.2.2.2.1, by rw [zup_n _ _ _ (by omega)]; exact h.2.2.2.2.2⟩
def yX5 (cy : Nat → ClassId) (o : Nat) (c : Nat → va_E) (b : Nat) : Prop := c b = .inr (5, [.ref (o + (b + 1)), .ref (o + (b + 2)), .ref (o + (b + 3)), .ref (o + (b + 4)), .int 0, .int 0, .int 0, .int 0, .int 0, .int 0, .int 0, .int 0]) ∧ c (b + 1) = .inl (cy 0, 16, .inl (fun _ => 0)) ∧ c (b + 2) = .inl (cy 0, 16, .inl (fun _ => 0)) ∧ c (b + 3) = .inl (cy 0, 6, .inl (fun _ => 0)) ∧ c (b + 4) = .inl (cy 0, 6, .inl (fun _ => 0))
theorem yX5_up {cy : Nat → ClassId} {o : Nat} {c : Nat → va_E} {b k : Nat} {e : va_E} (h : yX5 cy o c b) (hk : k < b ∨ b + 5 ≤ k) : yX5 cy o (va_up c k e) b := ⟨by rw [zup_n _ _ _ (by omega)]; exact h.1, by rw [zup_n _ _ _ (by omega)]; exact h.2.1, by rw [zup_n _ _ _ (by omega)]; exact h.2.2.1, by rw [zup_n _ _ _ (by omega)]; exact h.2.2.2.1, by rw [zup_n _ _ _ (by omega)]; exact h.2.2.2.2⟩
def yX1 (cy : Nat → ClassId) (o : Nat) (c : Nat → va_E) (b : Nat) : Prop := c b = .inr (1, [.ref (o + (b + 1)), .ref (o + (b + 2)), .int 0, .int 0]) ∧ c (b + 1) = .inl (cy 0, 16, .inl (fun _ => 0)) ∧ c (b + 2) = .inl (cy 0, 16, .inl (fun _ => 0))
theorem yX1_up {cy : Nat → ClassId} {o : Nat} {c : Nat → va_E} {b k : Nat} {e : va_E} (h : yX1 cy o c b) (hk : k < b ∨ b + 3 ≤ k) : yX1 cy o (va_up c k e) b := ⟨by rw [zup_n _ _ _ (by omega)]; exact h.1, by rw [zup_n _ _ _ (by omega)]; exact h.2.1, by rw [zup_n _ _ _ (by omega)]; exact h.2.2⟩
def yX7 (cy : Nat → ClassId) (o : Nat) (c : Nat → va_E) (b : Nat) : Prop := c b = .inr (7, [.ref (o + (b + 1)), .int 0, .long 0]) ∧ c (b + 1) = .inl (cy 3, 1126, .inr (.inl (fun _ => 0)))
theorem yX7_up {cy : Nat → ClassId} {o : Nat} {c : Nat → va_E} {b k : Nat} {e : va_E} (h : yX7 cy o c b) (hk : k < b ∨ b + 2 ≤ k) : yX7 cy o (va_up c k e) b := ⟨by rw [zup_n _ _ _ (by omega)]; exact h.1, by rw [zup_n _ _ _ (by omega)]; exact h.2⟩
def yX6 (cy : Nat → ClassId) (o : Nat) (c : Nat → va_E) (b : Nat) : Prop := c b = .inr (6, [.ref (o + (b + 1)), .ref (o + (b + 2)), .ref (o + (b + 3)), .ref (o + (b + 4)), .ref (o + (b + 5)), .ref (o + (b + 6)), .int 0, .int 0, .int 0, .int 0, .int 0]) ∧ c (b + 1) = .inl (cy 0, 16, .inl (fun _ => 0)) ∧ c (b + 2) = .inl (cy 0, 16, .inl (fun _ => 0)) ∧ c (b + 3) = .inl (cy 0, 16, .inl (fun _ => 0)) ∧ c (b + 4) = .inl (cy 0, 17, .inl (fun _ => 0)) ∧ c (b + 5) = .inl (cy 0, 17, .inl (fun _ => 0)) ∧ c (b + 6) = .inl (cy 0, 16, .inl (fun _ => 0))
theorem yX6_up {cy : Nat → ClassId} {o : Nat} {c : Nat → va_E} {b k : Nat} {e : va_E} (h : yX6 cy o c b) (hk : k < b ∨ b + 7 ≤ k) : yX6 cy o (va_up c k e) b := ⟨by rw [zup_n _ _ _ (by omega)]; exact h.1, by rw [zup_n _ _ _ (by omega)]; exact h.2.1, by rw [zup_n _ _ _ (by omega)]; exact h.2.2.1, by rw [zup_n _ _ _ (by omega)]; exact h.2.2.2.1, by rw [zup_n _ _ _ (by omega)]; exact h.2.2.2.2.1, by rw [zup_n _ _ _ (by omega)]; exact h.2.2.2.2.2.1, by rw [zup_n _ _ _ (by omega)]; exact h.2.2.2.2.2.2⟩
def yX3 (cy : Nat → ClassId) (o : Nat) (c : Nat → va_E) (b : Nat) : Prop := c b = .inr (3, [.ref (o + (b + 1)), .ref (o + (b + 2))]) ∧ c (b + 1) = .inl (cy 0, 1000, .inl (fun _ => 0)) ∧ c (b + 2) = .inl (cy 0, 1000, .inl (fun _ => 0))
theorem yX3_up {cy : Nat → ClassId} {o : Nat} {c : Nat → va_E} {b k : Nat} {e : va_E} (h : yX3 cy o c b) (hk : k < b ∨ b + 3 ≤ k) : yX3 cy o (va_up c k e) b := ⟨by rw [zup_n _ _ _ (by omega)]; exact h.1, by rw [zup_n _ _ _ (by omega)]; exact h.2.1, by rw [zup_n _ _ _ (by omega)]; exact h.2.2⟩
def yX9 (cy : Nat → ClassId) (o : Nat) (c : Nat → va_E) (b : Nat) : Prop := c b = .inr (9, [.ref (o + (b + 1)), .ref (o + (b + 43)), .ref (o + (b + 170)), .ref (o + (b + 171)), .ref (o + (b + 190)), .ref (o + (b + 195)), .ref (o + (b + 198)), .ref (o + (b + 200)), .ref (o + (b + 207)), .ref (o + (b + 210)), .ref (o + (b + 222))]) ∧ yX8 cy o c (b + 1) ∧ c (b + 43) = .inl (cy 6, 3, .inr (.inr (.inr (.inr (fun i => (([(0, 1), (0, 43), (0, 85)] : List (Nat × Nat))[i]?).map (fun fd => o + ((b + 43) + fd.2))))))) ∧ yX8 cy o c (b + 44) ∧ yX8 cy o c (b + 86) ∧ yX8 cy o c (b + 128) ∧ c (b + 170) = .inl (cy 2, 3, .inl (fun _ => 0)) ∧ yX4 cy o c (b + 171) ∧ yX5 cy o c (b + 190) ∧ yX1 cy o c (b + 195) ∧ yX7 cy o c (b + 198) ∧ yX6 cy o c (b + 200) ∧ yX3 cy o c (b + 207) ∧ yX0 cy o c (b + 210) ∧ c (b + 222) = .inl (cy 0, 384, .inl (fun _ => 0))
def yX10 (cy : Nat → ClassId) (o : Nat) (c : Nat → va_E) (b : Nat) : Prop := c b = .inr (10, [.int 0, .ref (o + (b + 1)), .ref (o + (b + 2)), .ref (o + (b + 3)), .ref (o + (b + 4)), .ref (o + (b + 5)), .ref (o + (b + 6)), .ref (o + (b + 7)), .ref (o + (b + 8)), .int 0, .int 0, .int 0, .int 0, .int 0, .long 0, .int 0, .int 0, .int 0, .ref (o + (b + 9)), .ref (o + (b + 10)), .ref (o + (b + 11)), .ref (o + (b + 12)), .int 0, .int 0, .int 0, .int 0, .int 0, .ref (o + (b + 13)), .ref (o + (b + 14)), .ref (o + (b + 15)), .int 0, .int 0, .int 0, .int 0, .int 0, .ref (o + (b + 16)), .ref (o + (b + 17)), .ref (o + (b + 18)), .ref (o + (b + 19)), .ref (o + (b + 20)), .ref (o + (b + 21)), .ref (o + (b + 22)), .long 0, .int 0, .ref (o + (b + 23)), .ref (o + (b + 24)), .int 0, .int 0, .ref (o + (b + 25)), .ref (o + (b + 26))]) ∧ c (b + 1) = .inl (cy 1, 2400, .inl (fun _ => 0)) ∧ c (b + 2) = .inl (cy 0, 4, .inl (fun _ => 0)) ∧ c (b + 3) = .inl (cy 0, 4, .inl (fun _ => 0)) ∧ c (b + 4) = .inl (cy 0, 4, .inl (upd (fun _ => 0) 0 (-1))) ∧ c (b + 5) = .inl (cy 0, 12, .inl (fun _ => 0)) ∧ c (b + 6) = .inl (cy 0, 984, .inl (fun _ => 0)) ∧ c (b + 7) = .inl (cy 0, 264, .inl (fun _ => 0)) ∧ c (b + 8) = .inl (cy 0, 168, .inl (fun _ => 0)) ∧ c (b + 9) = .inl (cy 0, 123, .inl (fun _ => 0)) ∧ c (b + 10) = .inl (cy 0, 6, .inl (fun _ => 0)) ∧ c (b + 11) = .inl (cy 0, 16, .inl (fun _ => 0)) ∧ c (b + 12) = .inl (cy 0, 16, .inl (fun _ => 0)) ∧ c (b + 13) = .inl (cy 0, 16, .inl (fun _ => 0)) ∧ c (b + 14) = .inl (cy 0, 16, .inl (fun _ => 0)) ∧ c (b + 15) = .inl (cy 0, 16, .inl (fun _ => 0)) ∧ c (b + 16) = .inl (cy 0, 16, .inl (fun _ => 0)) ∧ c (b + 17) = .inl (cy 0, 16, .inl (fun _ => 0)) ∧ c (b + 18) = .inl (cy 0, 6, .inl (fun _ => 0)) ∧ c (b + 19) = .inl (cy 0, 16, .inl (fun _ => 0)) ∧ c (b + 20) = .inl (cy 0, 6, .inl (fun _ => 0)) ∧ c (b + 21) = .inl (cy 2, 6, .inl (fun _ => 0)) ∧ c (b + 22) = .inl (cy 3, 1200, .inr (.inl (fun _ => 0))) ∧ c (b + 23) = .inl (cy 0, 16, .inl (fun _ => 0)) ∧ c (b + 24) = .inl (cy 0, 16, .inl (fun _ => 0)) ∧ c (b + 25) = .inl (cy 0, 4, .inl (fun _ => 0)) ∧ c (b + 26) = .inl (cy 2, 3, .inl (fun _ => 0))
theorem yarr2 {o k a b : Nat} {d1 d2 : Nat} (h1 : a = o + (k + d1)) (h2 : b = o + (k + d2)) : va_up (va_up (fun _ => none) 0 (some a)) 1 (some b) = (fun i => (([(0, d1), (0, d2)] : List (Nat × Nat))[i]?).map (fun fd => o + (k + fd.2))) := by
  funext i
  subst h1 h2
  match i with
  | 0 => rfl
  | 1 => rfl
  | i + 2 => simp [va_up]
theorem yarr3 {o k a b c : Nat} {d1 d2 d3 : Nat} (h1 : a = o + (k + d1)) (h2 : b = o + (k + d2)) (h3 : c = o + (k + d3)) : va_up (va_up (va_up (fun _ => none) 0 (some a)) 1 (some b)) 2 (some c) = (fun i => (([(0, d1), (0, d2), (0, d3)] : List (Nat × Nat))[i]?).map (fun fd => o + (k + fd.2))) := by
  funext i
  subst h1 h2 h3
  match i with
  | 0 => rfl
  | 1 => rfl
  | 2 => rfl
  | i + 3 => simp [va_up]
set_option maxRecDepth 100000 in
set_option maxHeartbeats 4000000 in
theorem yi_X0 (l : Launch) (D : va_G) (cy : Nat → ClassId) (o b : Nat) (c0 : Nat → va_E) (h : yX0 cy o c0 b) : yM l yX0_init cX0_init 1 (yrm 1 64 11 116) D cy o [.ref (o + b)] (b + 1) (b + 12) (va_up c0 b (.inr (0, [.null, .null, .null, .null, .null, .null, .null, .null, .null, .null, .null, .int 0, .int 0, .int 0, .int 0, .int 0, .int 0, .int 0]))) c0 11 116 := by
  refine ym_of RX0 rfl (by decide +kernel) rfl (Nat.le_of_ble_eq_true rfl) ?_
  intro p e s m below meth c C hr hin
  refine yx_lv (lv' := [(0, .ref (o + b))]) [0] rfl ?_
  refine yx_aload_n C dX0_init_0 0 rfl ?_
  refine yx_obj C ml_X0_3 im_object cd_object dX0_init_1 (Nat.le_of_ble_eq_true rfl) (Nat.le_of_ble_eq_true rfl) ?_
  refine yx_aload_n C dX0_init_4 0 rfl ?_
  refine yx_bipush (v := (16 : Int32)) C dX0_init_5 (by decide) ?_
  refine yx_newa (at0 := .int) (a0 := (16, .inl (fun _ => 0))) (a := 0) C ac_int rfl (fun _ => ya_I _) (by decide) (by decide) (by decide) (by rw [zup_n _ _ _ (by omega)]; exact h.2.1) 1 16 (by omega) (by omega) (Nat.le_of_ble_eq_true rfl) (Nat.le_of_ble_eq_true rfl) dX0_init_7 ?_
  refine yx_putF (ci := 0) (j := 0) (ty := (tyX0 0)) C tyX0 tyX0_ok nmX0 lay_X0 rfl hin rfl (by omega) (zup_s _ _ _) (by decide) fl_X0_9 rfl (by decide +kernel) rfl rfl (Nat.le_of_ble_eq_true rfl) dX0_init_9 ?_
  refine yx_cc (cc' := (va_up c0 b (.inr (0, [.ref (o + (b + 1)), .null, .null, .null, .null, .null, .null, .null, .null, .null, .null, .int 0, .int 0, .int 0, .int 0, .int 0, .int 0, .int 0])))) (by exact zup_up) ?_
  refine yx_aload_n C dX0_init_12 0 rfl ?_
  refine yx_bipush (v := (16 : Int32)) C dX0_init_13 (by decide) ?_
  refine yx_newa (at0 := .int) (a0 := (16, .inl (fun _ => 0))) (a := 0) C ac_int rfl (fun _ => ya_I _) (by decide) (by decide) (by decide) (by rw [zup_n _ _ _ (by omega)]; exact h.2.2.1) 2 32 (by omega) (by omega) (Nat.le_of_ble_eq_true rfl) (Nat.le_of_ble_eq_true rfl) dX0_init_15 ?_
  refine yx_putF (ci := 0) (j := 1) (ty := (tyX0 1)) C tyX0 tyX0_ok nmX0 lay_X0 rfl hin rfl (by omega) (zup_s _ _ _) (by decide) fl_X0_15 rfl (by decide +kernel) rfl rfl (Nat.le_of_ble_eq_true rfl) dX0_init_17 ?_
  refine yx_cc (cc' := (va_up c0 b (.inr (0, [.ref (o + (b + 1)), .ref (o + (b + 2)), .null, .null, .null, .null, .null, .null, .null, .null, .null, .int 0, .int 0, .int 0, .int 0, .int 0, .int 0, .int 0])))) (by exact zup_up) ?_
  refine yx_aload_n C dX0_init_20 0 rfl ?_
  refine yx_bipush (v := (16 : Int32)) C dX0_init_21 (by decide) ?_
  refine yx_newa (at0 := .int) (a0 := (16, .inl (fun _ => 0))) (a := 0) C ac_int rfl (fun _ => ya_I _) (by decide) (by decide) (by decide) (by rw [zup_n _ _ _ (by omega)]; exact h.2.2.2.1) 3 48 (by omega) (by omega) (Nat.le_of_ble_eq_true rfl) (Nat.le_of_ble_eq_true rfl) dX0_init_23 ?_
  refine yx_putF (ci := 0) (j := 2) (ty := (tyX0 2)) C tyX0 tyX0_ok nmX0 lay_X0 rfl hin rfl (by omega) (zup_s _ _ _) (by decide) fl_X0_18 rfl (by decide +kernel) rfl rfl (Nat.le_of_ble_eq_true rfl) dX0_init_25 ?_
  refine yx_cc (cc' := (va_up c0 b (.inr (0, [.ref (o + (b + 1)), .ref (o + (b + 2)), .ref (o + (b + 3)), .null, .null, .null, .null, .null, .null, .null, .null, .int 0, .int 0, .int 0, .int 0, .int 0, .int 0, .int 0])))) (by exact zup_up) ?_
  refine yx_aload_n C dX0_init_28 0 rfl ?_
  refine yx_bipush (v := (16 : Int32)) C dX0_init_29 (by decide) ?_
  refine yx_newa (at0 := .int) (a0 := (16, .inl (fun _ => 0))) (a := 0) C ac_int rfl (fun _ => ya_I _) (by decide) (by decide) (by decide) (by rw [zup_n _ _ _ (by omega)]; exact h.2.2.2.2.1) 4 64 (by omega) (by omega) (Nat.le_of_ble_eq_true rfl) (Nat.le_of_ble_eq_true rfl) dX0_init_31 ?_
  refine yx_putF (ci := 0) (j := 3) (ty := (tyX0 3)) C tyX0 tyX0_ok nmX0 lay_X0 rfl hin rfl (by omega) (zup_s _ _ _) (by decide) fl_X0_21 rfl (by decide +kernel) rfl rfl (Nat.le_of_ble_eq_true rfl) dX0_init_33 ?_
  refine yx_cc (cc' := (va_up c0 b (.inr (0, [.ref (o + (b + 1)), .ref (o + (b + 2)), .ref (o + (b + 3)), .ref (o + (b + 4)), .null, .null, .null, .null, .null, .null, .null, .int 0, .int 0, .int 0, .int 0, .int 0, .int 0, .int 0])))) (by exact zup_up) ?_
  refine yx_aload_n C dX0_init_36 0 rfl ?_
  refine yx_bipush (v := (16 : Int32)) C dX0_init_37 (by decide) ?_
  refine yx_newa (at0 := .int) (a0 := (16, .inl (fun _ => 0))) (a := 0) C ac_int rfl (fun _ => ya_I _) (by decide) (by decide) (by decide) (by rw [zup_n _ _ _ (by omega)]; exact h.2.2.2.2.2.1) 5 80 (by omega) (by omega) (Nat.le_of_ble_eq_true rfl) (Nat.le_of_ble_eq_true rfl) dX0_init_39 ?_
  refine yx_putF (ci := 0) (j := 4) (ty := (tyX0 4)) C tyX0 tyX0_ok nmX0 lay_X0 rfl hin rfl (by omega) (zup_s _ _ _) (by decide) fl_X0_24 rfl (by decide +kernel) rfl rfl (Nat.le_of_ble_eq_true rfl) dX0_init_41 ?_
  refine yx_cc (cc' := (va_up c0 b (.inr (0, [.ref (o + (b + 1)), .ref (o + (b + 2)), .ref (o + (b + 3)), .ref (o + (b + 4)), .ref (o + (b + 5)), .null, .null, .null, .null, .null, .null, .int 0, .int 0, .int 0, .int 0, .int 0, .int 0, .int 0])))) (by exact zup_up) ?_
  refine yx_aload_n C dX0_init_44 0 rfl ?_
  refine yx_bipush (v := (6 : Int32)) C dX0_init_45 (by decide) ?_
  refine yx_newa (at0 := .int) (a0 := (6, .inl (fun _ => 0))) (a := 0) C ac_int rfl (fun _ => ya_I _) (by decide) (by decide) (by decide) (by rw [zup_n _ _ _ (by omega)]; exact h.2.2.2.2.2.2.1) 6 86 (by omega) (by omega) (Nat.le_of_ble_eq_true rfl) (Nat.le_of_ble_eq_true rfl) dX0_init_47 ?_
  refine yx_putF (ci := 0) (j := 5) (ty := (tyX0 5)) C tyX0 tyX0_ok nmX0 lay_X0 rfl hin rfl (by omega) (zup_s _ _ _) (by decide) fl_X0_27 rfl (by decide +kernel) rfl rfl (Nat.le_of_ble_eq_true rfl) dX0_init_49 ?_
  refine yx_cc (cc' := (va_up c0 b (.inr (0, [.ref (o + (b + 1)), .ref (o + (b + 2)), .ref (o + (b + 3)), .ref (o + (b + 4)), .ref (o + (b + 5)), .ref (o + (b + 6)), .null, .null, .null, .null, .null, .int 0, .int 0, .int 0, .int 0, .int 0, .int 0, .int 0])))) (by exact zup_up) ?_
  refine yx_aload_n C dX0_init_52 0 rfl ?_
  refine yx_bipush (v := (6 : Int32)) C dX0_init_53 (by decide) ?_
  refine yx_newa (at0 := .int) (a0 := (6, .inl (fun _ => 0))) (a := 0) C ac_int rfl (fun _ => ya_I _) (by decide) (by decide) (by decide) (by rw [zup_n _ _ _ (by omega)]; exact h.2.2.2.2.2.2.2.1) 7 92 (by omega) (by omega) (Nat.le_of_ble_eq_true rfl) (Nat.le_of_ble_eq_true rfl) dX0_init_55 ?_
  refine yx_putF (ci := 0) (j := 6) (ty := (tyX0 6)) C tyX0 tyX0_ok nmX0 lay_X0 rfl hin rfl (by omega) (zup_s _ _ _) (by decide) fl_X0_30 rfl (by decide +kernel) rfl rfl (Nat.le_of_ble_eq_true rfl) dX0_init_57 ?_
  refine yx_cc (cc' := (va_up c0 b (.inr (0, [.ref (o + (b + 1)), .ref (o + (b + 2)), .ref (o + (b + 3)), .ref (o + (b + 4)), .ref (o + (b + 5)), .ref (o + (b + 6)), .ref (o + (b + 7)), .null, .null, .null, .null, .int 0, .int 0, .int 0, .int 0, .int 0, .int 0, .int 0])))) (by exact zup_up) ?_
  refine yx_aload_n C dX0_init_60 0 rfl ?_
  refine yx_bipush (v := (6 : Int32)) C dX0_init_61 (by decide) ?_
  refine yx_newa (at0 := .int) (a0 := (6, .inl (fun _ => 0))) (a := 0) C ac_int rfl (fun _ => ya_I _) (by decide) (by decide) (by decide) (by rw [zup_n _ _ _ (by omega)]; exact h.2.2.2.2.2.2.2.2.1) 8 98 (by omega) (by omega) (Nat.le_of_ble_eq_true rfl) (Nat.le_of_ble_eq_true rfl) dX0_init_63 ?_
  refine yx_putF (ci := 0) (j := 7) (ty := (tyX0 7)) C tyX0 tyX0_ok nmX0 lay_X0 rfl hin rfl (by omega) (zup_s _ _ _) (by decide) fl_X0_33 rfl (by decide +kernel) rfl rfl (Nat.le_of_ble_eq_true rfl) dX0_init_65 ?_
  refine yx_cc (cc' := (va_up c0 b (.inr (0, [.ref (o + (b + 1)), .ref (o + (b + 2)), .ref (o + (b + 3)), .ref (o + (b + 4)), .ref (o + (b + 5)), .ref (o + (b + 6)), .ref (o + (b + 7)), .ref (o + (b + 8)), .null, .null, .null, .int 0, .int 0, .int 0, .int 0, .int 0, .int 0, .int 0])))) (by exact zup_up) ?_
  refine yx_aload_n C dX0_init_68 0 rfl ?_
  refine yx_bipush (v := (6 : Int32)) C dX0_init_69 (by decide) ?_
  refine yx_newa (at0 := .int) (a0 := (6, .inl (fun _ => 0))) (a := 0) C ac_int rfl (fun _ => ya_I _) (by decide) (by decide) (by decide) (by rw [zup_n _ _ _ (by omega)]; exact h.2.2.2.2.2.2.2.2.2.1) 9 104 (by omega) (by omega) (Nat.le_of_ble_eq_true rfl) (Nat.le_of_ble_eq_true rfl) dX0_init_71 ?_
  refine yx_putF (ci := 0) (j := 8) (ty := (tyX0 8)) C tyX0 tyX0_ok nmX0 lay_X0 rfl hin rfl (by omega) (zup_s _ _ _) (by decide) fl_X0_36 rfl (by decide +kernel) rfl rfl (Nat.le_of_ble_eq_true rfl) dX0_init_73 ?_
  refine yx_cc (cc' := (va_up c0 b (.inr (0, [.ref (o + (b + 1)), .ref (o + (b + 2)), .ref (o + (b + 3)), .ref (o + (b + 4)), .ref (o + (b + 5)), .ref (o + (b + 6)), .ref (o + (b + 7)), .ref (o + (b + 8)), .ref (o + (b + 9)), .null, .null, .int 0, .int 0, .int 0, .int 0, .int 0, .int 0, .int 0])))) (by exact zup_up) ?_
  refine yx_aload_n C dX0_init_76 0 rfl ?_
  refine yx_bipush (v := (6 : Int32)) C dX0_init_77 (by decide) ?_
  refine yx_newa (at0 := .int) (a0 := (6, .inl (fun _ => 0))) (a := 0) C ac_int rfl (fun _ => ya_I _) (by decide) (by decide) (by decide) (by rw [zup_n _ _ _ (by omega)]; exact h.2.2.2.2.2.2.2.2.2.2.1) 10 110 (by omega) (by omega) (Nat.le_of_ble_eq_true rfl) (Nat.le_of_ble_eq_true rfl) dX0_init_79 ?_
  refine yx_putF (ci := 0) (j := 9) (ty := (tyX0 9)) C tyX0 tyX0_ok nmX0 lay_X0 rfl hin rfl (by omega) (zup_s _ _ _) (by decide) fl_X0_39 rfl (by decide +kernel) rfl rfl (Nat.le_of_ble_eq_true rfl) dX0_init_81 ?_
  refine yx_cc (cc' := (va_up c0 b (.inr (0, [.ref (o + (b + 1)), .ref (o + (b + 2)), .ref (o + (b + 3)), .ref (o + (b + 4)), .ref (o + (b + 5)), .ref (o + (b + 6)), .ref (o + (b + 7)), .ref (o + (b + 8)), .ref (o + (b + 9)), .ref (o + (b + 10)), .null, .int 0, .int 0, .int 0, .int 0, .int 0, .int 0, .int 0])))) (by exact zup_up) ?_
  refine yx_aload_n C dX0_init_84 0 rfl ?_
  refine yx_bipush (v := (6 : Int32)) C dX0_init_85 (by decide) ?_
  refine yx_newa (at0 := .int) (a0 := (6, .inl (fun _ => 0))) (a := 0) C ac_int rfl (fun _ => ya_I _) (by decide) (by decide) (by decide) (by rw [zup_n _ _ _ (by omega)]; exact h.2.2.2.2.2.2.2.2.2.2.2) 11 116 (by omega) (by omega) (Nat.le_of_ble_eq_true rfl) (Nat.le_of_ble_eq_true rfl) dX0_init_87 ?_
  refine yx_putF (ci := 0) (j := 10) (ty := (tyX0 10)) C tyX0 tyX0_ok nmX0 lay_X0 rfl hin rfl (by omega) (zup_s _ _ _) (by decide) fl_X0_42 rfl (by decide +kernel) rfl rfl (Nat.le_of_ble_eq_true rfl) dX0_init_89 ?_
  refine yx_cc (cc' := (va_up c0 b (.inr (0, [.ref (o + (b + 1)), .ref (o + (b + 2)), .ref (o + (b + 3)), .ref (o + (b + 4)), .ref (o + (b + 5)), .ref (o + (b + 6)), .ref (o + (b + 7)), .ref (o + (b + 8)), .ref (o + (b + 9)), .ref (o + (b + 10)), .ref (o + (b + 11)), .int 0, .int 0, .int 0, .int 0, .int 0, .int 0, .int 0])))) (by exact zup_up) ?_
  refine yx_cc (cc' := c0) (zup_id h.1) ?_
  exact yx_ret C hr dX0_init_92
set_option maxRecDepth 100000 in
set_option maxHeartbeats 4000000 in
theorem yi_X2 (l : Launch) (D : va_G) (cy : Nat → ClassId) (o b : Nat) (c0 : Nat → va_E) (h : yX2 cy o c0 b) : yM l yX2_init cX2_init 1 (yrm 1 64 2 32) D cy o [.ref (o + b)] (b + 1) (b + 3) (va_up c0 b (.inr (2, [.null, .null, .int 0]))) c0 2 32 := by
  refine ym_of RX2 rfl (by decide +kernel) rfl (Nat.le_of_ble_eq_true rfl) ?_
  intro p e s m below meth c C hr hin
  refine yx_lv (lv' := [(0, .ref (o + b))]) [0] rfl ?_
  refine yx_aload_n C dX2_init_0 0 rfl ?_
  refine yx_obj C ml_X2_3 im_object cd_object dX2_init_1 (Nat.le_of_ble_eq_true rfl) (Nat.le_of_ble_eq_true rfl) ?_
  refine yx_aload_n C dX2_init_4 0 rfl ?_
  refine yx_bipush (v := (16 : Int32)) C dX2_init_5 (by decide) ?_
  refine yx_newa (at0 := .int) (a0 := (16, .inl (fun _ => 0))) (a := 0) C ac_int rfl (fun _ => ya_I _) (by decide) (by decide) (by decide) (by rw [zup_n _ _ _ (by omega)]; exact h.2.1) 1 16 (by omega) (by omega) (Nat.le_of_ble_eq_true rfl) (Nat.le_of_ble_eq_true rfl) dX2_init_7 ?_
  refine yx_putF (ci := 2) (j := 0) (ty := (tyX2 0)) C tyX2 tyX2_ok nmX2 lay_X2 rfl hin rfl (by omega) (zup_s _ _ _) (by decide) fl_X2_9 rfl (by decide +kernel) rfl rfl (Nat.le_of_ble_eq_true rfl) dX2_init_9 ?_
  refine yx_cc (cc' := (va_up c0 b (.inr (2, [.ref (o + (b + 1)), .null, .int 0])))) (by exact zup_up) ?_
  refine yx_aload_n C dX2_init_12 0 rfl ?_
  refine yx_bipush (v := (16 : Int32)) C dX2_init_13 (by decide) ?_
  refine yx_newa (at0 := .int) (a0 := (16, .inl (fun _ => 0))) (a := 0) C ac_int rfl (fun _ => ya_I _) (by decide) (by decide) (by decide) (by rw [zup_n _ _ _ (by omega)]; exact h.2.2) 2 32 (by omega) (by omega) (Nat.le_of_ble_eq_true rfl) (Nat.le_of_ble_eq_true rfl) dX2_init_15 ?_
  refine yx_putF (ci := 2) (j := 1) (ty := (tyX2 1)) C tyX2 tyX2_ok nmX2 lay_X2 rfl hin rfl (by omega) (zup_s _ _ _) (by decide) fl_X2_15 rfl (by decide +kernel) rfl rfl (Nat.le_of_ble_eq_true rfl) dX2_init_17 ?_
  refine yx_cc (cc' := (va_up c0 b (.inr (2, [.ref (o + (b + 1)), .ref (o + (b + 2)), .int 0])))) (by exact zup_up) ?_
  refine yx_cc (cc' := c0) (zup_id h.1) ?_
  exact yx_ret C hr dX2_init_20
set_option maxRecDepth 100000 in
set_option maxHeartbeats 4000000 in
theorem yi_X8 (l : Launch) (D : va_G) (cy : Nat → ClassId) (o b : Nat) (c0 : Nat → va_E) (h : yX8 cy o c0 b) : yM l yX8_init cX8_init 1 (yrm 2 84 41 1017) D cy o [.ref (o + b)] (b + 1) (b + 42) (va_up c0 b (.inr (8, [.null, .null, .null, .null, .null, .int 0, .int 0, .int 0]))) c0 41 1017 := by
  refine ym_of RX8 rfl (by decide +kernel) rfl (Nat.le_of_ble_eq_true rfl) ?_
  intro p e s m below meth c C hr hin
  refine yx_lv (lv' := [(0, .ref (o + b))]) [0] rfl ?_
  refine yx_aload_n C dX8_init_0 0 rfl ?_
  refine yx_obj C ml_X8_3 im_object cd_object dX8_init_1 (Nat.le_of_ble_eq_true rfl) (Nat.le_of_ble_eq_true rfl) ?_
  refine yx_aload_n C dX8_init_4 0 rfl ?_
  refine yx_sipush (v := (600 : Int32)) C dX8_init_5 (by decide) ?_
  refine yx_newa (at0 := .byte) (a0 := (600, .inl (fun _ => 0))) (a := 1) C ac_byte rfl (fun _ => ya_B _) (by decide) (by decide) (by decide) (by rw [zup_n _ _ _ (by omega)]; exact h.2.1) 1 600 (by omega) (by omega) (Nat.le_of_ble_eq_true rfl) (Nat.le_of_ble_eq_true rfl) dX8_init_8 ?_
  refine yx_putF (ci := 8) (j := 0) (ty := (tyX8 0)) C tyX8 tyX8_ok nmX8 lay_X8 rfl hin rfl (by omega) (zup_s _ _ _) (by decide) fl_X8_9 rfl (by decide +kernel) rfl rfl (Nat.le_of_ble_eq_true rfl) dX8_init_10 ?_
  refine yx_cc (cc' := (va_up c0 b (.inr (8, [.ref (o + (b + 1)), .null, .null, .null, .null, .int 0, .int 0, .int 0])))) (by exact zup_up) ?_
  refine yx_aload_n C dX8_init_13 0 rfl ?_
  refine yx_iconst (v := (2 : Int32)) C dX8_init_14 (by decide) ?_
  refine yx_newq (N' := 2) (a := 4) C cl_X8_15 C.2.2.1.a_X0 rfl (by decide) (by decide) (by decide) 2 602 (by omega) (by omega) (Nat.le_of_ble_eq_true rfl) (Nat.le_of_ble_eq_true rfl) dX8_init_15 ?_
  refine yx_dup C dX8_init_18 rfl ?_
  refine yx_iconst (v := (0 : Int32)) C dX8_init_19 (by decide) ?_
  refine yx_new (ci := 0) (fs := [.null, .null, .null, .null, .null, .null, .null, .null, .null, .null, .null, .int 0, .int 0, .int 0, .int 0, .int 0, .int 0, .int 0]) C tyX0 tyX0_ok lay_X0 cl_X8_15 ia_X0 ini_X0 rfl (by decide +kernel) 3 620 (by omega) (by omega) (Nat.le_of_ble_eq_true rfl) (Nat.le_of_ble_eq_true rfl) dX8_init_20 ?_
  refine yx_dup C dX8_init_23 rfl ?_
  refine yx_cN (n1 := b + 15) (c1 := (va_up (va_up c0 b (.inr (8, [.ref (o + (b + 1)), .null, .null, .null, .null, .int 0, .int 0, .int 0]))) (b + 2) (.inl (cy 4, 2, .inr (.inr (.inr (.inr (fun _ => none)))))))) C (zU_in cd_X0_init) (by decide +kernel) ini_X0 im_X0_init rfl C.2.2.1.n_X8_17 (yi_X0 l D cy o (b + 3) (va_up (va_up c0 b (.inr (8, [.ref (o + (b + 1)), .null, .null, .null, .null, .int 0, .int 0, .int 0]))) (b + 2) (.inl (cy 4, 2, .inr (.inr (.inr (.inr (fun _ => none))))))) (yX0_up (yX0_up (h.2.2.2.1) (by omega)) (by omega))) ⟨Nat.le_of_ble_eq_true rfl, Nat.le_of_ble_eq_true rfl⟩ ⟨rfl, rfl⟩ 14 736 (by omega) (by omega) ⟨Nat.le_of_ble_eq_true rfl, Nat.le_of_ble_eq_true rfl⟩ (Nat.le_of_ble_eq_true rfl) dX8_init_24 ?_
  refine yx_aast (ci := 0) (a := 4) C 0 (by omega) (by omega) (zup_s _ _ _) (by rw [zup_n _ _ _ (by omega)]; rw [zup_n _ _ _ (by omega)]; exact (h.2.2.2.1).1) rfl rfl (by unfold vp_in; decide) (by decide) dX8_init_27 ?_
  refine yx_cc (cc' := (va_up (va_up c0 b (.inr (8, [.ref (o + (b + 1)), .null, .null, .null, .null, .int 0, .int 0, .int 0]))) (b + 2) (.inl (cy 4, 2, .inr (.inr (.inr (.inr (va_up (fun _ => none) 0 (some (o + (b + 3))))))))))) zup_up ?_
  refine yx_dup C dX8_init_28 rfl ?_
  refine yx_iconst (v := (1 : Int32)) C dX8_init_29 (by decide) ?_
  refine yx_new (ci := 0) (fs := [.null, .null, .null, .null, .null, .null, .null, .null, .null, .null, .null, .int 0, .int 0, .int 0, .int 0, .int 0, .int 0, .int 0]) C tyX0 tyX0_ok lay_X0 cl_X8_15 ia_X0 ini_X0 rfl (by decide +kernel) 15 754 (by omega) (by omega) (Nat.le_of_ble_eq_true rfl) (Nat.le_of_ble_eq_true rfl) dX8_init_30 ?_
  refine yx_dup C dX8_init_33 rfl ?_
  refine yx_cN (n1 := b + 27) (c1 := (va_up (va_up c0 b (.inr (8, [.ref (o + (b + 1)), .null, .null, .null, .null, .int 0, .int 0, .int 0]))) (b + 2) (.inl (cy 4, 2, .inr (.inr (.inr (.inr (va_up (fun _ => none) 0 (some (o + (b + 3))))))))))) C (zU_in cd_X0_init) (by decide +kernel) ini_X0 im_X0_init rfl C.2.2.1.n_X8_17 (yi_X0 l D cy o (b + 15) (va_up (va_up c0 b (.inr (8, [.ref (o + (b + 1)), .null, .null, .null, .null, .int 0, .int 0, .int 0]))) (b + 2) (.inl (cy 4, 2, .inr (.inr (.inr (.inr (va_up (fun _ => none) 0 (some (o + (b + 3)))))))))) (yX0_up (yX0_up (h.2.2.2.2.1) (by omega)) (by omega))) ⟨Nat.le_of_ble_eq_true rfl, Nat.le_of_ble_eq_true rfl⟩ ⟨rfl, rfl⟩ 26 870 (by omega) (by omega) ⟨Nat.le_of_ble_eq_true rfl, Nat.le_of_ble_eq_true rfl⟩ (Nat.le_of_ble_eq_true rfl) dX8_init_34 ?_
  refine yx_aast (ci := 0) (a := 4) C 1 (by omega) (by omega) (zup_s _ _ _) (by rw [zup_n _ _ _ (by omega)]; rw [zup_n _ _ _ (by omega)]; exact (h.2.2.2.2.1).1) rfl rfl (by unfold vp_in; decide) (by decide) dX8_init_37 ?_
  refine yx_cc (cc' := (va_up (va_up c0 b (.inr (8, [.ref (o + (b + 1)), .null, .null, .null, .null, .int 0, .int 0, .int 0]))) (b + 2) (.inl (cy 4, 2, .inr (.inr (.inr (.inr (va_up (va_up (fun _ => none) 0 (some (o + (b + 3)))) 1 (some (o + (b + 15))))))))))) zup_up ?_
  refine yx_cc (cc' := (va_up c0 b (.inr (8, [.ref (o + (b + 1)), .null, .null, .null, .null, .int 0, .int 0, .int 0])))) (by rw [yarr2 (k := (b + 2)) (d1 := 1) (d2 := 13) rfl rfl]; exact zup_id (by rw [zup_n _ _ _ (by omega)]; exact h.2.2.1)) ?_
  refine yx_putF (ci := 8) (j := 1) (ty := (tyX8 1)) C tyX8 tyX8_ok nmX8 lay_X8 rfl hin rfl (by omega) (zup_s _ _ _) (by decide) fl_X8_18 rfl (by decide +kernel) rfl rfl (Nat.le_of_ble_eq_true rfl) dX8_init_38 ?_
  refine yx_cc (cc' := (va_up c0 b (.inr (8, [.ref (o + (b + 1)), .ref (o + (b + 2)), .null, .null, .null, .int 0, .int 0, .int 0])))) (by exact zup_up) ?_
  refine yx_aload_n C dX8_init_41 0 rfl ?_
  refine yx_iconst (v := (2 : Int32)) C dX8_init_42 (by decide) ?_
  refine yx_newq (N' := 2) (a := 5) C cl_X8_22 C.2.2.1.a_X2 rfl (by decide) (by decide) (by decide) 27 872 (by omega) (by omega) (Nat.le_of_ble_eq_true rfl) (Nat.le_of_ble_eq_true rfl) dX8_init_43 ?_
  refine yx_dup C dX8_init_46 rfl ?_
  refine yx_iconst (v := (0 : Int32)) C dX8_init_47 (by decide) ?_
  refine yx_new (ci := 2) (fs := [.null, .null, .int 0]) C tyX2 tyX2_ok lay_X2 cl_X8_22 ia_X2 ini_X2 rfl (by decide +kernel) 28 875 (by omega) (by omega) (Nat.le_of_ble_eq_true rfl) (Nat.le_of_ble_eq_true rfl) dX8_init_48 ?_
  refine yx_dup C dX8_init_51 rfl ?_
  refine yx_cN (n1 := b + 31) (c1 := (va_up (va_up c0 b (.inr (8, [.ref (o + (b + 1)), .ref (o + (b + 2)), .null, .null, .null, .int 0, .int 0, .int 0]))) (b + 27) (.inl (cy 5, 2, .inr (.inr (.inr (.inr (fun _ => none)))))))) C (zU_in cd_X2_init) (by decide +kernel) ini_X2 im_X2_init rfl C.2.2.1.n_X8_24 (yi_X2 l D cy o (b + 28) (va_up (va_up c0 b (.inr (8, [.ref (o + (b + 1)), .ref (o + (b + 2)), .null, .null, .null, .int 0, .int 0, .int 0]))) (b + 27) (.inl (cy 5, 2, .inr (.inr (.inr (.inr (fun _ => none))))))) (yX2_up (yX2_up (h.2.2.2.2.2.2.1) (by omega)) (by omega))) ⟨Nat.le_of_ble_eq_true rfl, Nat.le_of_ble_eq_true rfl⟩ ⟨rfl, rfl⟩ 30 907 (by omega) (by omega) ⟨Nat.le_of_ble_eq_true rfl, Nat.le_of_ble_eq_true rfl⟩ (Nat.le_of_ble_eq_true rfl) dX8_init_52 ?_
  refine yx_aast (ci := 2) (a := 5) C 0 (by omega) (by omega) (zup_s _ _ _) (by rw [zup_n _ _ _ (by omega)]; rw [zup_n _ _ _ (by omega)]; exact (h.2.2.2.2.2.2.1).1) rfl rfl (by unfold vp_in; decide) (by decide) dX8_init_55 ?_
  refine yx_cc (cc' := (va_up (va_up c0 b (.inr (8, [.ref (o + (b + 1)), .ref (o + (b + 2)), .null, .null, .null, .int 0, .int 0, .int 0]))) (b + 27) (.inl (cy 5, 2, .inr (.inr (.inr (.inr (va_up (fun _ => none) 0 (some (o + (b + 28))))))))))) zup_up ?_
  refine yx_dup C dX8_init_56 rfl ?_
  refine yx_iconst (v := (1 : Int32)) C dX8_init_57 (by decide) ?_
  refine yx_new (ci := 2) (fs := [.null, .null, .int 0]) C tyX2 tyX2_ok lay_X2 cl_X8_22 ia_X2 ini_X2 rfl (by decide +kernel) 31 910 (by omega) (by omega) (Nat.le_of_ble_eq_true rfl) (Nat.le_of_ble_eq_true rfl) dX8_init_58 ?_
  refine yx_dup C dX8_init_61 rfl ?_
  refine yx_cN (n1 := b + 34) (c1 := (va_up (va_up c0 b (.inr (8, [.ref (o + (b + 1)), .ref (o + (b + 2)), .null, .null, .null, .int 0, .int 0, .int 0]))) (b + 27) (.inl (cy 5, 2, .inr (.inr (.inr (.inr (va_up (fun _ => none) 0 (some (o + (b + 28))))))))))) C (zU_in cd_X2_init) (by decide +kernel) ini_X2 im_X2_init rfl C.2.2.1.n_X8_24 (yi_X2 l D cy o (b + 31) (va_up (va_up c0 b (.inr (8, [.ref (o + (b + 1)), .ref (o + (b + 2)), .null, .null, .null, .int 0, .int 0, .int 0]))) (b + 27) (.inl (cy 5, 2, .inr (.inr (.inr (.inr (va_up (fun _ => none) 0 (some (o + (b + 28)))))))))) (yX2_up (yX2_up (h.2.2.2.2.2.2.2.1) (by omega)) (by omega))) ⟨Nat.le_of_ble_eq_true rfl, Nat.le_of_ble_eq_true rfl⟩ ⟨rfl, rfl⟩ 33 942 (by omega) (by omega) ⟨Nat.le_of_ble_eq_true rfl, Nat.le_of_ble_eq_true rfl⟩ (Nat.le_of_ble_eq_true rfl) dX8_init_62 ?_
  refine yx_aast (ci := 2) (a := 5) C 1 (by omega) (by omega) (zup_s _ _ _) (by rw [zup_n _ _ _ (by omega)]; rw [zup_n _ _ _ (by omega)]; exact (h.2.2.2.2.2.2.2.1).1) rfl rfl (by unfold vp_in; decide) (by decide) dX8_init_65 ?_
  refine yx_cc (cc' := (va_up (va_up c0 b (.inr (8, [.ref (o + (b + 1)), .ref (o + (b + 2)), .null, .null, .null, .int 0, .int 0, .int 0]))) (b + 27) (.inl (cy 5, 2, .inr (.inr (.inr (.inr (va_up (va_up (fun _ => none) 0 (some (o + (b + 28)))) 1 (some (o + (b + 31))))))))))) zup_up ?_
  refine yx_cc (cc' := (va_up c0 b (.inr (8, [.ref (o + (b + 1)), .ref (o + (b + 2)), .null, .null, .null, .int 0, .int 0, .int 0])))) (by rw [yarr2 (k := (b + 27)) (d1 := 1) (d2 := 4) rfl rfl]; exact zup_id (by rw [zup_n _ _ _ (by omega)]; exact h.2.2.2.2.2.1)) ?_
  refine yx_putF (ci := 8) (j := 2) (ty := (tyX8 2)) C tyX8 tyX8_ok nmX8 lay_X8 rfl hin rfl (by omega) (zup_s _ _ _) (by decide) fl_X8_25 rfl (by decide +kernel) rfl rfl (Nat.le_of_ble_eq_true rfl) dX8_init_66 ?_
  refine yx_cc (cc' := (va_up c0 b (.inr (8, [.ref (o + (b + 1)), .ref (o + (b + 2)), .ref (o + (b + 27)), .null, .null, .int 0, .int 0, .int 0])))) (by exact zup_up) ?_
  refine yx_aload_n C dX8_init_69 0 rfl ?_
  refine yx_iconst (v := (2 : Int32)) C dX8_init_70 (by decide) ?_
  refine yx_newq (N' := 2) (a := 5) C cl_X8_22 C.2.2.1.a_X2 rfl (by decide) (by decide) (by decide) 34 944 (by omega) (by omega) (Nat.le_of_ble_eq_true rfl) (Nat.le_of_ble_eq_true rfl) dX8_init_71 ?_
  refine yx_dup C dX8_init_74 rfl ?_
  refine yx_iconst (v := (0 : Int32)) C dX8_init_75 (by decide) ?_
  refine yx_new (ci := 2) (fs := [.null, .null, .int 0]) C tyX2 tyX2_ok lay_X2 cl_X8_22 ia_X2 ini_X2 rfl (by decide +kernel) 35 947 (by omega) (by omega) (Nat.le_of_ble_eq_true rfl) (Nat.le_of_ble_eq_true rfl) dX8_init_76 ?_
  refine yx_dup C dX8_init_79 rfl ?_
  refine yx_cN (n1 := b + 38) (c1 := (va_up (va_up c0 b (.inr (8, [.ref (o + (b + 1)), .ref (o + (b + 2)), .ref (o + (b + 27)), .null, .null, .int 0, .int 0, .int 0]))) (b + 34) (.inl (cy 5, 2, .inr (.inr (.inr (.inr (fun _ => none)))))))) C (zU_in cd_X2_init) (by decide +kernel) ini_X2 im_X2_init rfl C.2.2.1.n_X8_24 (yi_X2 l D cy o (b + 35) (va_up (va_up c0 b (.inr (8, [.ref (o + (b + 1)), .ref (o + (b + 2)), .ref (o + (b + 27)), .null, .null, .int 0, .int 0, .int 0]))) (b + 34) (.inl (cy 5, 2, .inr (.inr (.inr (.inr (fun _ => none))))))) (yX2_up (yX2_up (h.2.2.2.2.2.2.2.2.2.1) (by omega)) (by omega))) ⟨Nat.le_of_ble_eq_true rfl, Nat.le_of_ble_eq_true rfl⟩ ⟨rfl, rfl⟩ 37 979 (by omega) (by omega) ⟨Nat.le_of_ble_eq_true rfl, Nat.le_of_ble_eq_true rfl⟩ (Nat.le_of_ble_eq_true rfl) dX8_init_80 ?_
  refine yx_aast (ci := 2) (a := 5) C 0 (by omega) (by omega) (zup_s _ _ _) (by rw [zup_n _ _ _ (by omega)]; rw [zup_n _ _ _ (by omega)]; exact (h.2.2.2.2.2.2.2.2.2.1).1) rfl rfl (by unfold vp_in; decide) (by decide) dX8_init_83 ?_
  refine yx_cc (cc' := (va_up (va_up c0 b (.inr (8, [.ref (o + (b + 1)), .ref (o + (b + 2)), .ref (o + (b + 27)), .null, .null, .int 0, .int 0, .int 0]))) (b + 34) (.inl (cy 5, 2, .inr (.inr (.inr (.inr (va_up (fun _ => none) 0 (some (o + (b + 35))))))))))) zup_up ?_
  refine yx_dup C dX8_init_84 rfl ?_
  refine yx_iconst (v := (1 : Int32)) C dX8_init_85 (by decide) ?_
  refine yx_new (ci := 2) (fs := [.null, .null, .int 0]) C tyX2 tyX2_ok lay_X2 cl_X8_22 ia_X2 ini_X2 rfl (by decide +kernel) 38 982 (by omega) (by omega) (Nat.le_of_ble_eq_true rfl) (Nat.le_of_ble_eq_true rfl) dX8_init_86 ?_
  refine yx_dup C dX8_init_89 rfl ?_
  refine yx_cN (n1 := b + 41) (c1 := (va_up (va_up c0 b (.inr (8, [.ref (o + (b + 1)), .ref (o + (b + 2)), .ref (o + (b + 27)), .null, .null, .int 0, .int 0, .int 0]))) (b + 34) (.inl (cy 5, 2, .inr (.inr (.inr (.inr (va_up (fun _ => none) 0 (some (o + (b + 35))))))))))) C (zU_in cd_X2_init) (by decide +kernel) ini_X2 im_X2_init rfl C.2.2.1.n_X8_24 (yi_X2 l D cy o (b + 38) (va_up (va_up c0 b (.inr (8, [.ref (o + (b + 1)), .ref (o + (b + 2)), .ref (o + (b + 27)), .null, .null, .int 0, .int 0, .int 0]))) (b + 34) (.inl (cy 5, 2, .inr (.inr (.inr (.inr (va_up (fun _ => none) 0 (some (o + (b + 35)))))))))) (yX2_up (yX2_up (h.2.2.2.2.2.2.2.2.2.2.1) (by omega)) (by omega))) ⟨Nat.le_of_ble_eq_true rfl, Nat.le_of_ble_eq_true rfl⟩ ⟨rfl, rfl⟩ 40 1014 (by omega) (by omega) ⟨Nat.le_of_ble_eq_true rfl, Nat.le_of_ble_eq_true rfl⟩ (Nat.le_of_ble_eq_true rfl) dX8_init_90 ?_
  refine yx_aast (ci := 2) (a := 5) C 1 (by omega) (by omega) (zup_s _ _ _) (by rw [zup_n _ _ _ (by omega)]; rw [zup_n _ _ _ (by omega)]; exact (h.2.2.2.2.2.2.2.2.2.2.1).1) rfl rfl (by unfold vp_in; decide) (by decide) dX8_init_93 ?_
  refine yx_cc (cc' := (va_up (va_up c0 b (.inr (8, [.ref (o + (b + 1)), .ref (o + (b + 2)), .ref (o + (b + 27)), .null, .null, .int 0, .int 0, .int 0]))) (b + 34) (.inl (cy 5, 2, .inr (.inr (.inr (.inr (va_up (va_up (fun _ => none) 0 (some (o + (b + 35)))) 1 (some (o + (b + 38))))))))))) zup_up ?_
  refine yx_cc (cc' := (va_up c0 b (.inr (8, [.ref (o + (b + 1)), .ref (o + (b + 2)), .ref (o + (b + 27)), .null, .null, .int 0, .int 0, .int 0])))) (by rw [yarr2 (k := (b + 34)) (d1 := 1) (d2 := 4) rfl rfl]; exact zup_id (by rw [zup_n _ _ _ (by omega)]; exact h.2.2.2.2.2.2.2.2.1)) ?_
  refine yx_putF (ci := 8) (j := 3) (ty := (tyX8 3)) C tyX8 tyX8_ok nmX8 lay_X8 rfl hin rfl (by omega) (zup_s _ _ _) (by decide) fl_X8_29 rfl (by decide +kernel) rfl rfl (Nat.le_of_ble_eq_true rfl) dX8_init_94 ?_
  refine yx_cc (cc' := (va_up c0 b (.inr (8, [.ref (o + (b + 1)), .ref (o + (b + 2)), .ref (o + (b + 27)), .ref (o + (b + 34)), .null, .int 0, .int 0, .int 0])))) (by exact zup_up) ?_
  refine yx_aload_n C dX8_init_97 0 rfl ?_
  refine yx_iconst (v := (3 : Int32)) C dX8_init_98 (by decide) ?_
  refine yx_newa (at0 := .int) (a0 := (3, .inl (fun _ => 0))) (a := 0) C ac_int rfl (fun _ => ya_I _) (by decide) (by decide) (by decide) (by rw [zup_n _ _ _ (by omega)]; exact h.2.2.2.2.2.2.2.2.2.2.2) 41 1017 (by omega) (by omega) (Nat.le_of_ble_eq_true rfl) (Nat.le_of_ble_eq_true rfl) dX8_init_99 ?_
  refine yx_putF (ci := 8) (j := 4) (ty := (tyX8 4)) C tyX8 tyX8_ok nmX8 lay_X8 rfl hin rfl (by omega) (zup_s _ _ _) (by decide) fl_X8_32 rfl (by decide +kernel) rfl rfl (Nat.le_of_ble_eq_true rfl) dX8_init_101 ?_
  refine yx_cc (cc' := (va_up c0 b (.inr (8, [.ref (o + (b + 1)), .ref (o + (b + 2)), .ref (o + (b + 27)), .ref (o + (b + 34)), .ref (o + (b + 41)), .int 0, .int 0, .int 0])))) (by exact zup_up) ?_
  refine yx_aload_n C dX8_init_104 0 rfl ?_
  refine yx_iconst (v := (-1 : Int32)) C dX8_init_105 (by decide) ?_
  refine yx_putI (ci := 8) (j := 7) (ty := (tyX8 7)) C tyX8 tyX8_ok nmX8 lay_X8 rfl (by omega) (zup_s _ _ _) (by decide) fl_X8_36 rfl (by decide +kernel) rfl rfl (Nat.le_of_ble_eq_true rfl) dX8_init_106 ?_
  refine yx_cc (cc' := (va_up c0 b (.inr (8, [.ref (o + (b + 1)), .ref (o + (b + 2)), .ref (o + (b + 27)), .ref (o + (b + 34)), .ref (o + (b + 41)), .int 0, .int 0, .int (-1)])))) (by exact zup_up) ?_
  refine yx_cc (cc' := c0) (zup_id h.1) ?_
  exact yx_ret C hr dX8_init_109
set_option maxRecDepth 100000 in
set_option maxHeartbeats 4000000 in
theorem yi_X4 (l : Launch) (D : va_G) (cy : Nat → ClassId) (o b : Nat) (c0 : Nat → va_E) (h : yX4 cy o c0 b) : yM l yX4_init cX4_init 1 (yrm 2 84 18 781) D cy o [.ref (o + b)] (b + 1) (b + 19) (va_up c0 b (.inr (4, [.null, .null, .null, .null, .null, .int 0, .int 0, .int 0, .int 0, .int 0, .int 0, .int 0, .int 0]))) c0 18 781 := by
  refine ym_of RX4 rfl (by decide +kernel) rfl (Nat.le_of_ble_eq_true rfl) ?_
  intro p e s m below meth c C hr hin
  refine yx_lv (lv' := [(0, .ref (o + b))]) [0] rfl ?_
  refine yx_aload_n C dX4_init_0 0 rfl ?_
  refine yx_obj C ml_X4_3 im_object cd_object dX4_init_1 (Nat.le_of_ble_eq_true rfl) (Nat.le_of_ble_eq_true rfl) ?_
  refine yx_aload_n C dX4_init_4 0 rfl ?_
  refine yx_new (ci := 0) (fs := [.null, .null, .null, .null, .null, .null, .null, .null, .null, .null, .null, .int 0, .int 0, .int 0, .int 0, .int 0, .int 0, .int 0]) C tyX0 tyX0_ok lay_X0 cl_X4_9 ia_X0 ini_X0 rfl (by decide +kernel) 1 18 (by omega) (by omega) (Nat.le_of_ble_eq_true rfl) (Nat.le_of_ble_eq_true rfl) dX4_init_5 ?_
  refine yx_dup C dX4_init_8 rfl ?_
  refine yx_cN (n1 := b + 13) (c1 := (va_up c0 b (.inr (4, [.null, .null, .null, .null, .null, .int 0, .int 0, .int 0, .int 0, .int 0, .int 0, .int 0, .int 0])))) C (zU_in cd_X0_init) (by decide +kernel) ini_X0 im_X0_init rfl C.2.2.1.n_X4_11 (yi_X0 l D cy o (b + 1) (va_up c0 b (.inr (4, [.null, .null, .null, .null, .null, .int 0, .int 0, .int 0, .int 0, .int 0, .int 0, .int 0, .int 0]))) (yX0_up (h.2.1) (by omega))) ⟨Nat.le_of_ble_eq_true rfl, Nat.le_of_ble_eq_true rfl⟩ ⟨rfl, rfl⟩ 12 134 (by omega) (by omega) ⟨Nat.le_of_ble_eq_true rfl, Nat.le_of_ble_eq_true rfl⟩ (Nat.le_of_ble_eq_true rfl) dX4_init_9 ?_
  refine yx_putF (ci := 4) (j := 0) (ty := (tyX4 0)) C tyX4 tyX4_ok nmX4 lay_X4 rfl hin rfl (by omega) (zup_s _ _ _) (by decide) fl_X4_12 rfl (by decide +kernel) rfl rfl (Nat.le_of_ble_eq_true rfl) dX4_init_12 ?_
  refine yx_cc (cc' := (va_up c0 b (.inr (4, [.ref (o + (b + 1)), .null, .null, .null, .null, .int 0, .int 0, .int 0, .int 0, .int 0, .int 0, .int 0, .int 0])))) (by exact zup_up) ?_
  refine yx_aload_n C dX4_init_15 0 rfl ?_
  refine yx_new (ci := 2) (fs := [.null, .null, .int 0]) C tyX2 tyX2_ok lay_X2 cl_X4_18 ia_X2 ini_X2 rfl (by decide +kernel) 13 137 (by omega) (by omega) (Nat.le_of_ble_eq_true rfl) (Nat.le_of_ble_eq_true rfl) dX4_init_16 ?_
  refine yx_dup C dX4_init_19 rfl ?_
  refine yx_cN (n1 := b + 16) (c1 := (va_up c0 b (.inr (4, [.ref (o + (b + 1)), .null, .null, .null, .null, .int 0, .int 0, .int 0, .int 0, .int 0, .int 0, .int 0, .int 0])))) C (zU_in cd_X2_init) (by decide +kernel) ini_X2 im_X2_init rfl C.2.2.1.n_X4_20 (yi_X2 l D cy o (b + 13) (va_up c0 b (.inr (4, [.ref (o + (b + 1)), .null, .null, .null, .null, .int 0, .int 0, .int 0, .int 0, .int 0, .int 0, .int 0, .int 0]))) (yX2_up (h.2.2.1) (by omega))) ⟨Nat.le_of_ble_eq_true rfl, Nat.le_of_ble_eq_true rfl⟩ ⟨rfl, rfl⟩ 15 169 (by omega) (by omega) ⟨Nat.le_of_ble_eq_true rfl, Nat.le_of_ble_eq_true rfl⟩ (Nat.le_of_ble_eq_true rfl) dX4_init_20 ?_
  refine yx_putF (ci := 4) (j := 1) (ty := (tyX4 1)) C tyX4 tyX4_ok nmX4 lay_X4 rfl hin rfl (by omega) (zup_s _ _ _) (by decide) fl_X4_21 rfl (by decide +kernel) rfl rfl (Nat.le_of_ble_eq_true rfl) dX4_init_23 ?_
  refine yx_cc (cc' := (va_up c0 b (.inr (4, [.ref (o + (b + 1)), .ref (o + (b + 13)), .null, .null, .null, .int 0, .int 0, .int 0, .int 0, .int 0, .int 0, .int 0, .int 0])))) (by exact zup_up) ?_
  refine yx_aload_n C dX4_init_26 0 rfl ?_
  refine yx_bipush (v := (6 : Int32)) C dX4_init_27 (by decide) ?_
  refine yx_newa (at0 := .int) (a0 := (6, .inl (fun _ => 0))) (a := 0) C ac_int rfl (fun _ => ya_I _) (by decide) (by decide) (by decide) (by rw [zup_n _ _ _ (by omega)]; exact h.2.2.2.1) 16 175 (by omega) (by omega) (Nat.le_of_ble_eq_true rfl) (Nat.le_of_ble_eq_true rfl) dX4_init_29 ?_
  refine yx_putF (ci := 4) (j := 2) (ty := (tyX4 2)) C tyX4 tyX4_ok nmX4 lay_X4 rfl hin rfl (by omega) (zup_s _ _ _) (by decide) fl_X4_25 rfl (by decide +kernel) rfl rfl (Nat.le_of_ble_eq_true rfl) dX4_init_31 ?_
  refine yx_cc (cc' := (va_up c0 b (.inr (4, [.ref (o + (b + 1)), .ref (o + (b + 13)), .ref (o + (b + 16)), .null, .null, .int 0, .int 0, .int 0, .int 0, .int 0, .int 0, .int 0, .int 0])))) (by exact zup_up) ?_
  refine yx_aload_n C dX4_init_34 0 rfl ?_
  refine yx_bipush (v := (6 : Int32)) C dX4_init_35 (by decide) ?_
  refine yx_newa (at0 := .int) (a0 := (6, .inl (fun _ => 0))) (a := 0) C ac_int rfl (fun _ => ya_I _) (by decide) (by decide) (by decide) (by rw [zup_n _ _ _ (by omega)]; exact h.2.2.2.2.1) 17 181 (by omega) (by omega) (Nat.le_of_ble_eq_true rfl) (Nat.le_of_ble_eq_true rfl) dX4_init_37 ?_
  refine yx_putF (ci := 4) (j := 3) (ty := (tyX4 3)) C tyX4 tyX4_ok nmX4 lay_X4 rfl hin rfl (by omega) (zup_s _ _ _) (by decide) fl_X4_29 rfl (by decide +kernel) rfl rfl (Nat.le_of_ble_eq_true rfl) dX4_init_39 ?_
  refine yx_cc (cc' := (va_up c0 b (.inr (4, [.ref (o + (b + 1)), .ref (o + (b + 13)), .ref (o + (b + 16)), .ref (o + (b + 17)), .null, .int 0, .int 0, .int 0, .int 0, .int 0, .int 0, .int 0, .int 0])))) (by exact zup_up) ?_
  refine yx_aload_n C dX4_init_42 0 rfl ?_
  refine yx_sipush (v := (600 : Int32)) C dX4_init_43 (by decide) ?_
  refine yx_newa (at0 := .byte) (a0 := (600, .inl (fun _ => 0))) (a := 1) C ac_byte rfl (fun _ => ya_B _) (by decide) (by decide) (by decide) (by rw [zup_n _ _ _ (by omega)]; exact h.2.2.2.2.2) 18 781 (by omega) (by omega) (Nat.le_of_ble_eq_true rfl) (Nat.le_of_ble_eq_true rfl) dX4_init_46 ?_
  refine yx_putF (ci := 4) (j := 4) (ty := (tyX4 4)) C tyX4 tyX4_ok nmX4 lay_X4 rfl hin rfl (by omega) (zup_s _ _ _) (by decide) fl_X4_32 rfl (by decide +kernel) rfl rfl (Nat.le_of_ble_eq_true rfl) dX4_init_48 ?_
  refine yx_cc (cc' := (va_up c0 b (.inr (4, [.ref (o + (b + 1)), .ref (o + (b + 13)), .ref (o + (b + 16)), .ref (o + (b + 17)), .ref (o + (b + 18)), .int 0, .int 0, .int 0, .int 0, .int 0, .int 0, .int 0, .int 0])))) (by exact zup_up) ?_
  refine yx_cc (cc' := c0) (zup_id h.1) ?_
  exact yx_ret C hr dX4_init_51
set_option maxRecDepth 100000 in
set_option maxHeartbeats 4000000 in
theorem yi_X5 (l : Launch) (D : va_G) (cy : Nat → ClassId) (o b : Nat) (c0 : Nat → va_E) (h : yX5 cy o c0 b) : yM l yX5_init cX5_init 1 (yrm 1 64 4 44) D cy o [.ref (o + b)] (b + 1) (b + 5) (va_up c0 b (.inr (5, [.null, .null, .null, .null, .int 0, .int 0, .int 0, .int 0, .int 0, .int 0, .int 0, .int 0]))) c0 4 44 := by
  refine ym_of RX5 rfl (by decide +kernel) rfl (Nat.le_of_ble_eq_true rfl) ?_
  intro p e s m below meth c C hr hin
  refine yx_lv (lv' := [(0, .ref (o + b))]) [0] rfl ?_
  refine yx_aload_n C dX5_init_0 0 rfl ?_
  refine yx_obj C ml_X5_3 im_object cd_object dX5_init_1 (Nat.le_of_ble_eq_true rfl) (Nat.le_of_ble_eq_true rfl) ?_
  refine yx_aload_n C dX5_init_4 0 rfl ?_
  refine yx_bipush (v := (16 : Int32)) C dX5_init_5 (by decide) ?_
  refine yx_newa (at0 := .int) (a0 := (16, .inl (fun _ => 0))) (a := 0) C ac_int rfl (fun _ => ya_I _) (by decide) (by decide) (by decide) (by rw [zup_n _ _ _ (by omega)]; exact h.2.1) 1 16 (by omega) (by omega) (Nat.le_of_ble_eq_true rfl) (Nat.le_of_ble_eq_true rfl) dX5_init_7 ?_
  refine yx_putF (ci := 5) (j := 0) (ty := (tyX5 0)) C tyX5 tyX5_ok nmX5 lay_X5 rfl hin rfl (by omega) (zup_s _ _ _) (by decide) fl_X5_9 rfl (by decide +kernel) rfl rfl (Nat.le_of_ble_eq_true rfl) dX5_init_9 ?_
  refine yx_cc (cc' := (va_up c0 b (.inr (5, [.ref (o + (b + 1)), .null, .null, .null, .int 0, .int 0, .int 0, .int 0, .int 0, .int 0, .int 0, .int 0])))) (by exact zup_up) ?_
  refine yx_aload_n C dX5_init_12 0 rfl ?_
  refine yx_bipush (v := (16 : Int32)) C dX5_init_13 (by decide) ?_
  refine yx_newa (at0 := .int) (a0 := (16, .inl (fun _ => 0))) (a := 0) C ac_int rfl (fun _ => ya_I _) (by decide) (by decide) (by decide) (by rw [zup_n _ _ _ (by omega)]; exact h.2.2.1) 2 32 (by omega) (by omega) (Nat.le_of_ble_eq_true rfl) (Nat.le_of_ble_eq_true rfl) dX5_init_15 ?_
  refine yx_putF (ci := 5) (j := 1) (ty := (tyX5 1)) C tyX5 tyX5_ok nmX5 lay_X5 rfl hin rfl (by omega) (zup_s _ _ _) (by decide) fl_X5_15 rfl (by decide +kernel) rfl rfl (Nat.le_of_ble_eq_true rfl) dX5_init_17 ?_
  refine yx_cc (cc' := (va_up c0 b (.inr (5, [.ref (o + (b + 1)), .ref (o + (b + 2)), .null, .null, .int 0, .int 0, .int 0, .int 0, .int 0, .int 0, .int 0, .int 0])))) (by exact zup_up) ?_
  refine yx_aload_n C dX5_init_20 0 rfl ?_
  refine yx_bipush (v := (6 : Int32)) C dX5_init_21 (by decide) ?_
  refine yx_newa (at0 := .int) (a0 := (6, .inl (fun _ => 0))) (a := 0) C ac_int rfl (fun _ => ya_I _) (by decide) (by decide) (by decide) (by rw [zup_n _ _ _ (by omega)]; exact h.2.2.2.1) 3 38 (by omega) (by omega) (Nat.le_of_ble_eq_true rfl) (Nat.le_of_ble_eq_true rfl) dX5_init_23 ?_
  refine yx_putF (ci := 5) (j := 2) (ty := (tyX5 2)) C tyX5 tyX5_ok nmX5 lay_X5 rfl hin rfl (by omega) (zup_s _ _ _) (by decide) fl_X5_18 rfl (by decide +kernel) rfl rfl (Nat.le_of_ble_eq_true rfl) dX5_init_25 ?_
  refine yx_cc (cc' := (va_up c0 b (.inr (5, [.ref (o + (b + 1)), .ref (o + (b + 2)), .ref (o + (b + 3)), .null, .int 0, .int 0, .int 0, .int 0, .int 0, .int 0, .int 0, .int 0])))) (by exact zup_up) ?_
  refine yx_aload_n C dX5_init_28 0 rfl ?_
  refine yx_bipush (v := (6 : Int32)) C dX5_init_29 (by decide) ?_
  refine yx_newa (at0 := .int) (a0 := (6, .inl (fun _ => 0))) (a := 0) C ac_int rfl (fun _ => ya_I _) (by decide) (by decide) (by decide) (by rw [zup_n _ _ _ (by omega)]; exact h.2.2.2.2) 4 44 (by omega) (by omega) (Nat.le_of_ble_eq_true rfl) (Nat.le_of_ble_eq_true rfl) dX5_init_31 ?_
  refine yx_putF (ci := 5) (j := 3) (ty := (tyX5 3)) C tyX5 tyX5_ok nmX5 lay_X5 rfl hin rfl (by omega) (zup_s _ _ _) (by decide) fl_X5_21 rfl (by decide +kernel) rfl rfl (Nat.le_of_ble_eq_true rfl) dX5_init_33 ?_
  refine yx_cc (cc' := (va_up c0 b (.inr (5, [.ref (o + (b + 1)), .ref (o + (b + 2)), .ref (o + (b + 3)), .ref (o + (b + 4)), .int 0, .int 0, .int 0, .int 0, .int 0, .int 0, .int 0, .int 0])))) (by exact zup_up) ?_
  refine yx_cc (cc' := c0) (zup_id h.1) ?_
  exact yx_ret C hr dX5_init_36
set_option maxRecDepth 100000 in
set_option maxHeartbeats 4000000 in
theorem yi_X1 (l : Launch) (D : va_G) (cy : Nat → ClassId) (o b : Nat) (c0 : Nat → va_E) (h : yX1 cy o c0 b) : yM l yX1_init cX1_init 1 (yrm 1 64 2 32) D cy o [.ref (o + b)] (b + 1) (b + 3) (va_up c0 b (.inr (1, [.null, .null, .int 0, .int 0]))) c0 2 32 := by
  refine ym_of RX1 rfl (by decide +kernel) rfl (Nat.le_of_ble_eq_true rfl) ?_
  intro p e s m below meth c C hr hin
  refine yx_lv (lv' := [(0, .ref (o + b))]) [0] rfl ?_
  refine yx_aload_n C dX1_init_0 0 rfl ?_
  refine yx_obj C ml_X1_3 im_object cd_object dX1_init_1 (Nat.le_of_ble_eq_true rfl) (Nat.le_of_ble_eq_true rfl) ?_
  refine yx_aload_n C dX1_init_4 0 rfl ?_
  refine yx_bipush (v := (16 : Int32)) C dX1_init_5 (by decide) ?_
  refine yx_newa (at0 := .int) (a0 := (16, .inl (fun _ => 0))) (a := 0) C ac_int rfl (fun _ => ya_I _) (by decide) (by decide) (by decide) (by rw [zup_n _ _ _ (by omega)]; exact h.2.1) 1 16 (by omega) (by omega) (Nat.le_of_ble_eq_true rfl) (Nat.le_of_ble_eq_true rfl) dX1_init_7 ?_
  refine yx_putF (ci := 1) (j := 0) (ty := (tyX1 0)) C tyX1 tyX1_ok nmX1 lay_X1 rfl hin rfl (by omega) (zup_s _ _ _) (by decide) fl_X1_9 rfl (by decide +kernel) rfl rfl (Nat.le_of_ble_eq_true rfl) dX1_init_9 ?_
  refine yx_cc (cc' := (va_up c0 b (.inr (1, [.ref (o + (b + 1)), .null, .int 0, .int 0])))) (by exact zup_up) ?_
  refine yx_aload_n C dX1_init_12 0 rfl ?_
  refine yx_bipush (v := (16 : Int32)) C dX1_init_13 (by decide) ?_
  refine yx_newa (at0 := .int) (a0 := (16, .inl (fun _ => 0))) (a := 0) C ac_int rfl (fun _ => ya_I _) (by decide) (by decide) (by decide) (by rw [zup_n _ _ _ (by omega)]; exact h.2.2) 2 32 (by omega) (by omega) (Nat.le_of_ble_eq_true rfl) (Nat.le_of_ble_eq_true rfl) dX1_init_15 ?_
  refine yx_putF (ci := 1) (j := 1) (ty := (tyX1 1)) C tyX1 tyX1_ok nmX1 lay_X1 rfl hin rfl (by omega) (zup_s _ _ _) (by decide) fl_X1_15 rfl (by decide +kernel) rfl rfl (Nat.le_of_ble_eq_true rfl) dX1_init_17 ?_
  refine yx_cc (cc' := (va_up c0 b (.inr (1, [.ref (o + (b + 1)), .ref (o + (b + 2)), .int 0, .int 0])))) (by exact zup_up) ?_
  refine yx_cc (cc' := c0) (zup_id h.1) ?_
  exact yx_ret C hr dX1_init_20
set_option maxRecDepth 100000 in
set_option maxHeartbeats 4000000 in
theorem yi_X7 (l : Launch) (D : va_G) (cy : Nat → ClassId) (o b : Nat) (c0 : Nat → va_E) (h : yX7 cy o c0 b) : yM l yX7_init cX7_init 1 (yrm 1 64 1 1126) D cy o [.ref (o + b)] (b + 1) (b + 2) (va_up c0 b (.inr (7, [.null, .int 0, .long 0]))) c0 1 1126 := by
  refine ym_of RX7 rfl (by decide +kernel) rfl (Nat.le_of_ble_eq_true rfl) ?_
  intro p e s m below meth c C hr hin
  refine yx_lv (lv' := [(0, .ref (o + b))]) [0] rfl ?_
  refine yx_aload_n C dX7_init_0 0 rfl ?_
  refine yx_obj C ml_X7_3 im_object cd_object dX7_init_1 (Nat.le_of_ble_eq_true rfl) (Nat.le_of_ble_eq_true rfl) ?_
  refine yx_aload_n C dX7_init_4 0 rfl ?_
  refine yx_sipush (v := (1126 : Int32)) C dX7_init_5 (by decide) ?_
  refine yx_newa (at0 := .long) (a0 := (1126, .inr (.inl (fun _ => 0)))) (a := 3) C ac_long rfl (fun _ => ya_J _) (by decide) (by decide) (by decide) (by rw [zup_n _ _ _ (by omega)]; exact h.2) 1 1126 (by omega) (by omega) (Nat.le_of_ble_eq_true rfl) (Nat.le_of_ble_eq_true rfl) dX7_init_8 ?_
  refine yx_putF (ci := 7) (j := 0) (ty := (tyX7 0)) C tyX7 tyX7_ok nmX7 lay_X7 rfl hin rfl (by omega) (zup_s _ _ _) (by decide) fl_X7_9 rfl (by decide +kernel) rfl rfl (Nat.le_of_ble_eq_true rfl) dX7_init_10 ?_
  refine yx_cc (cc' := (va_up c0 b (.inr (7, [.ref (o + (b + 1)), .int 0, .long 0])))) (by exact zup_up) ?_
  refine yx_cc (cc' := c0) (zup_id h.1) ?_
  exact yx_ret C hr dX7_init_13
set_option maxRecDepth 100000 in
set_option maxHeartbeats 4000000 in
theorem yi_X6 (l : Launch) (D : va_G) (cy : Nat → ClassId) (o b : Nat) (c0 : Nat → va_E) (h : yX6 cy o c0 b) : yM l yX6_init cX6_init 1 (yrm 1 64 6 98) D cy o [.ref (o + b)] (b + 1) (b + 7) (va_up c0 b (.inr (6, [.null, .null, .null, .null, .null, .null, .int 0, .int 0, .int 0, .int 0, .int 0]))) c0 6 98 := by
  refine ym_of RX6 rfl (by decide +kernel) rfl (Nat.le_of_ble_eq_true rfl) ?_
  intro p e s m below meth c C hr hin
  refine yx_lv (lv' := [(0, .ref (o + b))]) [0] rfl ?_
  refine yx_aload_n C dX6_init_0 0 rfl ?_
  refine yx_obj C ml_X6_3 im_object cd_object dX6_init_1 (Nat.le_of_ble_eq_true rfl) (Nat.le_of_ble_eq_true rfl) ?_
  refine yx_aload_n C dX6_init_4 0 rfl ?_
  refine yx_bipush (v := (16 : Int32)) C dX6_init_5 (by decide) ?_
  refine yx_newa (at0 := .int) (a0 := (16, .inl (fun _ => 0))) (a := 0) C ac_int rfl (fun _ => ya_I _) (by decide) (by decide) (by decide) (by rw [zup_n _ _ _ (by omega)]; exact h.2.1) 1 16 (by omega) (by omega) (Nat.le_of_ble_eq_true rfl) (Nat.le_of_ble_eq_true rfl) dX6_init_7 ?_
  refine yx_putF (ci := 6) (j := 0) (ty := (tyX6 0)) C tyX6 tyX6_ok nmX6 lay_X6 rfl hin rfl (by omega) (zup_s _ _ _) (by decide) fl_X6_9 rfl (by decide +kernel) rfl rfl (Nat.le_of_ble_eq_true rfl) dX6_init_9 ?_
  refine yx_cc (cc' := (va_up c0 b (.inr (6, [.ref (o + (b + 1)), .null, .null, .null, .null, .null, .int 0, .int 0, .int 0, .int 0, .int 0])))) (by exact zup_up) ?_
  refine yx_aload_n C dX6_init_12 0 rfl ?_
  refine yx_bipush (v := (16 : Int32)) C dX6_init_13 (by decide) ?_
  refine yx_newa (at0 := .int) (a0 := (16, .inl (fun _ => 0))) (a := 0) C ac_int rfl (fun _ => ya_I _) (by decide) (by decide) (by decide) (by rw [zup_n _ _ _ (by omega)]; exact h.2.2.1) 2 32 (by omega) (by omega) (Nat.le_of_ble_eq_true rfl) (Nat.le_of_ble_eq_true rfl) dX6_init_15 ?_
  refine yx_putF (ci := 6) (j := 1) (ty := (tyX6 1)) C tyX6 tyX6_ok nmX6 lay_X6 rfl hin rfl (by omega) (zup_s _ _ _) (by decide) fl_X6_15 rfl (by decide +kernel) rfl rfl (Nat.le_of_ble_eq_true rfl) dX6_init_17 ?_
  refine yx_cc (cc' := (va_up c0 b (.inr (6, [.ref (o + (b + 1)), .ref (o + (b + 2)), .null, .null, .null, .null, .int 0, .int 0, .int 0, .int 0, .int 0])))) (by exact zup_up) ?_
  refine yx_aload_n C dX6_init_20 0 rfl ?_
  refine yx_bipush (v := (16 : Int32)) C dX6_init_21 (by decide) ?_
  refine yx_newa (at0 := .int) (a0 := (16, .inl (fun _ => 0))) (a := 0) C ac_int rfl (fun _ => ya_I _) (by decide) (by decide) (by decide) (by rw [zup_n _ _ _ (by omega)]; exact h.2.2.2.1) 3 48 (by omega) (by omega) (Nat.le_of_ble_eq_true rfl) (Nat.le_of_ble_eq_true rfl) dX6_init_23 ?_
  refine yx_putF (ci := 6) (j := 2) (ty := (tyX6 2)) C tyX6 tyX6_ok nmX6 lay_X6 rfl hin rfl (by omega) (zup_s _ _ _) (by decide) fl_X6_18 rfl (by decide +kernel) rfl rfl (Nat.le_of_ble_eq_true rfl) dX6_init_25 ?_
  refine yx_cc (cc' := (va_up c0 b (.inr (6, [.ref (o + (b + 1)), .ref (o + (b + 2)), .ref (o + (b + 3)), .null, .null, .null, .int 0, .int 0, .int 0, .int 0, .int 0])))) (by exact zup_up) ?_
  refine yx_aload_n C dX6_init_28 0 rfl ?_
  refine yx_bipush (v := (17 : Int32)) C dX6_init_29 (by decide) ?_
  refine yx_newa (at0 := .int) (a0 := (17, .inl (fun _ => 0))) (a := 0) C ac_int rfl (fun _ => ya_I _) (by decide) (by decide) (by decide) (by rw [zup_n _ _ _ (by omega)]; exact h.2.2.2.2.1) 4 65 (by omega) (by omega) (Nat.le_of_ble_eq_true rfl) (Nat.le_of_ble_eq_true rfl) dX6_init_31 ?_
  refine yx_putF (ci := 6) (j := 3) (ty := (tyX6 3)) C tyX6 tyX6_ok nmX6 lay_X6 rfl hin rfl (by omega) (zup_s _ _ _) (by decide) fl_X6_21 rfl (by decide +kernel) rfl rfl (Nat.le_of_ble_eq_true rfl) dX6_init_33 ?_
  refine yx_cc (cc' := (va_up c0 b (.inr (6, [.ref (o + (b + 1)), .ref (o + (b + 2)), .ref (o + (b + 3)), .ref (o + (b + 4)), .null, .null, .int 0, .int 0, .int 0, .int 0, .int 0])))) (by exact zup_up) ?_
  refine yx_aload_n C dX6_init_36 0 rfl ?_
  refine yx_bipush (v := (17 : Int32)) C dX6_init_37 (by decide) ?_
  refine yx_newa (at0 := .int) (a0 := (17, .inl (fun _ => 0))) (a := 0) C ac_int rfl (fun _ => ya_I _) (by decide) (by decide) (by decide) (by rw [zup_n _ _ _ (by omega)]; exact h.2.2.2.2.2.1) 5 82 (by omega) (by omega) (Nat.le_of_ble_eq_true rfl) (Nat.le_of_ble_eq_true rfl) dX6_init_39 ?_
  refine yx_putF (ci := 6) (j := 4) (ty := (tyX6 4)) C tyX6 tyX6_ok nmX6 lay_X6 rfl hin rfl (by omega) (zup_s _ _ _) (by decide) fl_X6_24 rfl (by decide +kernel) rfl rfl (Nat.le_of_ble_eq_true rfl) dX6_init_41 ?_
  refine yx_cc (cc' := (va_up c0 b (.inr (6, [.ref (o + (b + 1)), .ref (o + (b + 2)), .ref (o + (b + 3)), .ref (o + (b + 4)), .ref (o + (b + 5)), .null, .int 0, .int 0, .int 0, .int 0, .int 0])))) (by exact zup_up) ?_
  refine yx_aload_n C dX6_init_44 0 rfl ?_
  refine yx_bipush (v := (16 : Int32)) C dX6_init_45 (by decide) ?_
  refine yx_newa (at0 := .int) (a0 := (16, .inl (fun _ => 0))) (a := 0) C ac_int rfl (fun _ => ya_I _) (by decide) (by decide) (by decide) (by rw [zup_n _ _ _ (by omega)]; exact h.2.2.2.2.2.2) 6 98 (by omega) (by omega) (Nat.le_of_ble_eq_true rfl) (Nat.le_of_ble_eq_true rfl) dX6_init_47 ?_
  refine yx_putF (ci := 6) (j := 5) (ty := (tyX6 5)) C tyX6 tyX6_ok nmX6 lay_X6 rfl hin rfl (by omega) (zup_s _ _ _) (by decide) fl_X6_27 rfl (by decide +kernel) rfl rfl (Nat.le_of_ble_eq_true rfl) dX6_init_49 ?_
  refine yx_cc (cc' := (va_up c0 b (.inr (6, [.ref (o + (b + 1)), .ref (o + (b + 2)), .ref (o + (b + 3)), .ref (o + (b + 4)), .ref (o + (b + 5)), .ref (o + (b + 6)), .int 0, .int 0, .int 0, .int 0, .int 0])))) (by exact zup_up) ?_
  refine yx_cc (cc' := c0) (zup_id h.1) ?_
  exact yx_ret C hr dX6_init_52
set_option maxRecDepth 100000 in
set_option maxHeartbeats 4000000 in
theorem yi_X3 (l : Launch) (D : va_G) (cy : Nat → ClassId) (o b : Nat) (c0 : Nat → va_E) (h : yX3 cy o c0 b) : yM l yX3_init cX3_init 1 (yrm 1 64 2 2000) D cy o [.ref (o + b)] (b + 1) (b + 3) (va_up c0 b (.inr (3, [.null, .null]))) c0 2 2000 := by
  refine ym_of RX3 rfl (by decide +kernel) rfl (Nat.le_of_ble_eq_true rfl) ?_
  intro p e s m below meth c C hr hin
  refine yx_lv (lv' := [(0, .ref (o + b))]) [0] rfl ?_
  refine yx_aload_n C dX3_init_0 0 rfl ?_
  refine yx_obj C ml_X3_3 im_object cd_object dX3_init_1 (Nat.le_of_ble_eq_true rfl) (Nat.le_of_ble_eq_true rfl) ?_
  refine yx_aload_n C dX3_init_4 0 rfl ?_
  refine yx_sipush (v := (1000 : Int32)) C dX3_init_5 (by decide) ?_
  refine yx_newa (at0 := .int) (a0 := (1000, .inl (fun _ => 0))) (a := 0) C ac_int rfl (fun _ => ya_I _) (by decide) (by decide) (by decide) (by rw [zup_n _ _ _ (by omega)]; exact h.2.1) 1 1000 (by omega) (by omega) (Nat.le_of_ble_eq_true rfl) (Nat.le_of_ble_eq_true rfl) dX3_init_8 ?_
  refine yx_putF (ci := 3) (j := 0) (ty := (tyX3 0)) C tyX3 tyX3_ok nmX3 lay_X3 rfl hin rfl (by omega) (zup_s _ _ _) (by decide) fl_X3_9 rfl (by decide +kernel) rfl rfl (Nat.le_of_ble_eq_true rfl) dX3_init_10 ?_
  refine yx_cc (cc' := (va_up c0 b (.inr (3, [.ref (o + (b + 1)), .null])))) (by exact zup_up) ?_
  refine yx_aload_n C dX3_init_13 0 rfl ?_
  refine yx_sipush (v := (1000 : Int32)) C dX3_init_14 (by decide) ?_
  refine yx_newa (at0 := .int) (a0 := (1000, .inl (fun _ => 0))) (a := 0) C ac_int rfl (fun _ => ya_I _) (by decide) (by decide) (by decide) (by rw [zup_n _ _ _ (by omega)]; exact h.2.2) 2 2000 (by omega) (by omega) (Nat.le_of_ble_eq_true rfl) (Nat.le_of_ble_eq_true rfl) dX3_init_17 ?_
  refine yx_putF (ci := 3) (j := 1) (ty := (tyX3 1)) C tyX3 tyX3_ok nmX3 lay_X3 rfl hin rfl (by omega) (zup_s _ _ _) (by decide) fl_X3_15 rfl (by decide +kernel) rfl rfl (Nat.le_of_ble_eq_true rfl) dX3_init_19 ?_
  refine yx_cc (cc' := (va_up c0 b (.inr (3, [.ref (o + (b + 1)), .ref (o + (b + 2))])))) (by exact zup_up) ?_
  refine yx_cc (cc' := c0) (zup_id h.1) ?_
  exact yx_ret C hr dX3_init_22
set_option maxRecDepth 100000 in
set_option maxHeartbeats 4000000 in
theorem yi_X9 (l : Launch) (D : va_G) (cy : Nat → ClassId) (o b : Nat) (c0 : Nat → va_E) (h : yX9 cy o c0 b) : yM l yX9_init cX9_init 1 (yrm 3 104 222 8750) D cy o [.ref (o + b)] (b + 1) (b + 223) (va_up c0 b (.inr (9, [.null, .null, .null, .null, .null, .null, .null, .null, .null, .null, .null]))) c0 222 8750 := by
  refine ym_of RX9 rfl (by decide +kernel) rfl (Nat.le_of_ble_eq_true rfl) ?_
  intro p e s m below meth c C hr hin
  refine yx_lv (lv' := [(0, .ref (o + b))]) [0] rfl ?_
  refine yx_aload_n C dX9_init_0 0 rfl ?_
  refine yx_obj C ml_X9_3 im_object cd_object dX9_init_1 (Nat.le_of_ble_eq_true rfl) (Nat.le_of_ble_eq_true rfl) ?_
  refine yx_aload_n C dX9_init_4 0 rfl ?_
  refine yx_new (ci := 8) (fs := [.null, .null, .null, .null, .null, .int 0, .int 0, .int 0]) C tyX8 tyX8_ok lay_X8 cl_X9_9 ia_X8 ini_X8 rfl (by decide +kernel) 1 8 (by omega) (by omega) (Nat.le_of_ble_eq_true rfl) (Nat.le_of_ble_eq_true rfl) dX9_init_5 ?_
  refine yx_dup C dX9_init_8 rfl ?_
  refine yx_cN (n1 := b + 43) (c1 := (va_up c0 b (.inr (9, [.null, .null, .null, .null, .null, .null, .null, .null, .null, .null, .null])))) C (zU_in cd_X8_init) (by decide +kernel) ini_X8 im_X8_init rfl C.2.2.1.n_X9_11 (yi_X8 l D cy o (b + 1) (va_up c0 b (.inr (9, [.null, .null, .null, .null, .null, .null, .null, .null, .null, .null, .null]))) (yX8_up (h.2.1) (by omega))) ⟨Nat.le_of_ble_eq_true rfl, Nat.le_of_ble_eq_true rfl⟩ ⟨rfl, rfl⟩ 42 1025 (by omega) (by omega) ⟨Nat.le_of_ble_eq_true rfl, Nat.le_of_ble_eq_true rfl⟩ (Nat.le_of_ble_eq_true rfl) dX9_init_9 ?_
  refine yx_putF (ci := 9) (j := 0) (ty := (tyX9 0)) C tyX9 tyX9_ok nmX9 lay_X9 rfl hin rfl (by omega) (zup_s _ _ _) (by decide) fl_X9_12 rfl (by decide +kernel) rfl rfl (Nat.le_of_ble_eq_true rfl) dX9_init_12 ?_
  refine yx_cc (cc' := (va_up c0 b (.inr (9, [.ref (o + (b + 1)), .null, .null, .null, .null, .null, .null, .null, .null, .null, .null])))) (by exact zup_up) ?_
  refine yx_aload_n C dX9_init_15 0 rfl ?_
  refine yx_iconst (v := (3 : Int32)) C dX9_init_16 (by decide) ?_
  refine yx_newq (N' := 3) (a := 6) C cl_X9_9 C.2.2.1.a_X8 rfl (by decide) (by decide) (by decide) 43 1028 (by omega) (by omega) (Nat.le_of_ble_eq_true rfl) (Nat.le_of_ble_eq_true rfl) dX9_init_17 ?_
  refine yx_dup C dX9_init_20 rfl ?_
  refine yx_iconst (v := (0 : Int32)) C dX9_init_21 (by decide) ?_
  refine yx_new (ci := 8) (fs := [.null, .null, .null, .null, .null, .int 0, .int 0, .int 0]) C tyX8 tyX8_ok lay_X8 cl_X9_9 ia_X8 ini_X8 rfl (by decide +kernel) 44 1036 (by omega) (by omega) (Nat.le_of_ble_eq_true rfl) (Nat.le_of_ble_eq_true rfl) dX9_init_22 ?_
  refine yx_dup C dX9_init_25 rfl ?_
  refine yx_cN (n1 := b + 86) (c1 := (va_up (va_up c0 b (.inr (9, [.ref (o + (b + 1)), .null, .null, .null, .null, .null, .null, .null, .null, .null, .null]))) (b + 43) (.inl (cy 6, 3, .inr (.inr (.inr (.inr (fun _ => none)))))))) C (zU_in cd_X8_init) (by decide +kernel) ini_X8 im_X8_init rfl C.2.2.1.n_X9_11 (yi_X8 l D cy o (b + 44) (va_up (va_up c0 b (.inr (9, [.ref (o + (b + 1)), .null, .null, .null, .null, .null, .null, .null, .null, .null, .null]))) (b + 43) (.inl (cy 6, 3, .inr (.inr (.inr (.inr (fun _ => none))))))) (yX8_up (yX8_up (h.2.2.2.1) (by omega)) (by omega))) ⟨Nat.le_of_ble_eq_true rfl, Nat.le_of_ble_eq_true rfl⟩ ⟨rfl, rfl⟩ 85 2053 (by omega) (by omega) ⟨Nat.le_of_ble_eq_true rfl, Nat.le_of_ble_eq_true rfl⟩ (Nat.le_of_ble_eq_true rfl) dX9_init_26 ?_
  refine yx_aast (ci := 8) (a := 6) C 0 (by omega) (by omega) (zup_s _ _ _) (by rw [zup_n _ _ _ (by omega)]; rw [zup_n _ _ _ (by omega)]; exact (h.2.2.2.1).1) rfl rfl (by unfold vp_in; decide) (by decide) dX9_init_29 ?_
  refine yx_cc (cc' := (va_up (va_up c0 b (.inr (9, [.ref (o + (b + 1)), .null, .null, .null, .null, .null, .null, .null, .null, .null, .null]))) (b + 43) (.inl (cy 6, 3, .inr (.inr (.inr (.inr (va_up (fun _ => none) 0 (some (o + (b + 44))))))))))) zup_up ?_
  refine yx_dup C dX9_init_30 rfl ?_
  refine yx_iconst (v := (1 : Int32)) C dX9_init_31 (by decide) ?_
  refine yx_new (ci := 8) (fs := [.null, .null, .null, .null, .null, .int 0, .int 0, .int 0]) C tyX8 tyX8_ok lay_X8 cl_X9_9 ia_X8 ini_X8 rfl (by decide +kernel) 86 2061 (by omega) (by omega) (Nat.le_of_ble_eq_true rfl) (Nat.le_of_ble_eq_true rfl) dX9_init_32 ?_
  refine yx_dup C dX9_init_35 rfl ?_
  refine yx_cN (n1 := b + 128) (c1 := (va_up (va_up c0 b (.inr (9, [.ref (o + (b + 1)), .null, .null, .null, .null, .null, .null, .null, .null, .null, .null]))) (b + 43) (.inl (cy 6, 3, .inr (.inr (.inr (.inr (va_up (fun _ => none) 0 (some (o + (b + 44))))))))))) C (zU_in cd_X8_init) (by decide +kernel) ini_X8 im_X8_init rfl C.2.2.1.n_X9_11 (yi_X8 l D cy o (b + 86) (va_up (va_up c0 b (.inr (9, [.ref (o + (b + 1)), .null, .null, .null, .null, .null, .null, .null, .null, .null, .null]))) (b + 43) (.inl (cy 6, 3, .inr (.inr (.inr (.inr (va_up (fun _ => none) 0 (some (o + (b + 44)))))))))) (yX8_up (yX8_up (h.2.2.2.2.1) (by omega)) (by omega))) ⟨Nat.le_of_ble_eq_true rfl, Nat.le_of_ble_eq_true rfl⟩ ⟨rfl, rfl⟩ 127 3078 (by omega) (by omega) ⟨Nat.le_of_ble_eq_true rfl, Nat.le_of_ble_eq_true rfl⟩ (Nat.le_of_ble_eq_true rfl) dX9_init_36 ?_
  refine yx_aast (ci := 8) (a := 6) C 1 (by omega) (by omega) (zup_s _ _ _) (by rw [zup_n _ _ _ (by omega)]; rw [zup_n _ _ _ (by omega)]; exact (h.2.2.2.2.1).1) rfl rfl (by unfold vp_in; decide) (by decide) dX9_init_39 ?_
  refine yx_cc (cc' := (va_up (va_up c0 b (.inr (9, [.ref (o + (b + 1)), .null, .null, .null, .null, .null, .null, .null, .null, .null, .null]))) (b + 43) (.inl (cy 6, 3, .inr (.inr (.inr (.inr (va_up (va_up (fun _ => none) 0 (some (o + (b + 44)))) 1 (some (o + (b + 86))))))))))) zup_up ?_
  refine yx_dup C dX9_init_40 rfl ?_
  refine yx_iconst (v := (2 : Int32)) C dX9_init_41 (by decide) ?_
  refine yx_new (ci := 8) (fs := [.null, .null, .null, .null, .null, .int 0, .int 0, .int 0]) C tyX8 tyX8_ok lay_X8 cl_X9_9 ia_X8 ini_X8 rfl (by decide +kernel) 128 3086 (by omega) (by omega) (Nat.le_of_ble_eq_true rfl) (Nat.le_of_ble_eq_true rfl) dX9_init_42 ?_
  refine yx_dup C dX9_init_45 rfl ?_
  refine yx_cN (n1 := b + 170) (c1 := (va_up (va_up c0 b (.inr (9, [.ref (o + (b + 1)), .null, .null, .null, .null, .null, .null, .null, .null, .null, .null]))) (b + 43) (.inl (cy 6, 3, .inr (.inr (.inr (.inr (va_up (va_up (fun _ => none) 0 (some (o + (b + 44)))) 1 (some (o + (b + 86))))))))))) C (zU_in cd_X8_init) (by decide +kernel) ini_X8 im_X8_init rfl C.2.2.1.n_X9_11 (yi_X8 l D cy o (b + 128) (va_up (va_up c0 b (.inr (9, [.ref (o + (b + 1)), .null, .null, .null, .null, .null, .null, .null, .null, .null, .null]))) (b + 43) (.inl (cy 6, 3, .inr (.inr (.inr (.inr (va_up (va_up (fun _ => none) 0 (some (o + (b + 44)))) 1 (some (o + (b + 86)))))))))) (yX8_up (yX8_up (h.2.2.2.2.2.1) (by omega)) (by omega))) ⟨Nat.le_of_ble_eq_true rfl, Nat.le_of_ble_eq_true rfl⟩ ⟨rfl, rfl⟩ 169 4103 (by omega) (by omega) ⟨Nat.le_of_ble_eq_true rfl, Nat.le_of_ble_eq_true rfl⟩ (Nat.le_of_ble_eq_true rfl) dX9_init_46 ?_
  refine yx_aast (ci := 8) (a := 6) C 2 (by omega) (by omega) (zup_s _ _ _) (by rw [zup_n _ _ _ (by omega)]; rw [zup_n _ _ _ (by omega)]; exact (h.2.2.2.2.2.1).1) rfl rfl (by unfold vp_in; decide) (by decide) dX9_init_49 ?_
  refine yx_cc (cc' := (va_up (va_up c0 b (.inr (9, [.ref (o + (b + 1)), .null, .null, .null, .null, .null, .null, .null, .null, .null, .null]))) (b + 43) (.inl (cy 6, 3, .inr (.inr (.inr (.inr (va_up (va_up (va_up (fun _ => none) 0 (some (o + (b + 44)))) 1 (some (o + (b + 86)))) 2 (some (o + (b + 128))))))))))) zup_up ?_
  refine yx_cc (cc' := (va_up c0 b (.inr (9, [.ref (o + (b + 1)), .null, .null, .null, .null, .null, .null, .null, .null, .null, .null])))) (by rw [yarr3 (k := (b + 43)) (d1 := 1) (d2 := 43) (d3 := 85) rfl rfl rfl]; exact zup_id (by rw [zup_n _ _ _ (by omega)]; exact h.2.2.1)) ?_
  refine yx_putF (ci := 9) (j := 1) (ty := (tyX9 1)) C tyX9 tyX9_ok nmX9 lay_X9 rfl hin rfl (by omega) (zup_s _ _ _) (by decide) fl_X9_16 rfl (by decide +kernel) rfl rfl (Nat.le_of_ble_eq_true rfl) dX9_init_50 ?_
  refine yx_cc (cc' := (va_up c0 b (.inr (9, [.ref (o + (b + 1)), .ref (o + (b + 43)), .null, .null, .null, .null, .null, .null, .null, .null, .null])))) (by exact zup_up) ?_
  refine yx_aload_n C dX9_init_53 0 rfl ?_
  refine yx_iconst (v := (3 : Int32)) C dX9_init_54 (by decide) ?_
  refine yx_newa (at0 := .boolean) (a0 := (3, .inl (fun _ => 0))) (a := 2) C ac_boolean rfl (fun _ => ya_Z _) (by decide) (by decide) (by decide) (by rw [zup_n _ _ _ (by omega)]; exact h.2.2.2.2.2.2.1) 170 4106 (by omega) (by omega) (Nat.le_of_ble_eq_true rfl) (Nat.le_of_ble_eq_true rfl) dX9_init_55 ?_
  refine yx_putF (ci := 9) (j := 2) (ty := (tyX9 2)) C tyX9 tyX9_ok nmX9 lay_X9 rfl hin rfl (by omega) (zup_s _ _ _) (by decide) fl_X9_20 rfl (by decide +kernel) rfl rfl (Nat.le_of_ble_eq_true rfl) dX9_init_57 ?_
  refine yx_cc (cc' := (va_up c0 b (.inr (9, [.ref (o + (b + 1)), .ref (o + (b + 43)), .ref (o + (b + 170)), .null, .null, .null, .null, .null, .null, .null, .null])))) (by exact zup_up) ?_
  refine yx_aload_n C dX9_init_60 0 rfl ?_
  refine yx_new (ci := 4) (fs := [.null, .null, .null, .null, .null, .int 0, .int 0, .int 0, .int 0, .int 0, .int 0, .int 0, .int 0]) C tyX4 tyX4_ok lay_X4 cl_X9_24 ia_X4 ini_X4 rfl (by decide +kernel) 171 4119 (by omega) (by omega) (Nat.le_of_ble_eq_true rfl) (Nat.le_of_ble_eq_true rfl) dX9_init_61 ?_
  refine yx_dup C dX9_init_64 rfl ?_
  refine yx_cN (n1 := b + 190) (c1 := (va_up c0 b (.inr (9, [.ref (o + (b + 1)), .ref (o + (b + 43)), .ref (o + (b + 170)), .null, .null, .null, .null, .null, .null, .null, .null])))) C (zU_in cd_X4_init) (by decide +kernel) ini_X4 im_X4_init rfl C.2.2.1.n_X9_26 (yi_X4 l D cy o (b + 171) (va_up c0 b (.inr (9, [.ref (o + (b + 1)), .ref (o + (b + 43)), .ref (o + (b + 170)), .null, .null, .null, .null, .null, .null, .null, .null]))) (yX4_up (h.2.2.2.2.2.2.2.1) (by omega))) ⟨Nat.le_of_ble_eq_true rfl, Nat.le_of_ble_eq_true rfl⟩ ⟨rfl, rfl⟩ 189 4900 (by omega) (by omega) ⟨Nat.le_of_ble_eq_true rfl, Nat.le_of_ble_eq_true rfl⟩ (Nat.le_of_ble_eq_true rfl) dX9_init_65 ?_
  refine yx_putF (ci := 9) (j := 3) (ty := (tyX9 3)) C tyX9 tyX9_ok nmX9 lay_X9 rfl hin rfl (by omega) (zup_s _ _ _) (by decide) fl_X9_27 rfl (by decide +kernel) rfl rfl (Nat.le_of_ble_eq_true rfl) dX9_init_68 ?_
  refine yx_cc (cc' := (va_up c0 b (.inr (9, [.ref (o + (b + 1)), .ref (o + (b + 43)), .ref (o + (b + 170)), .ref (o + (b + 171)), .null, .null, .null, .null, .null, .null, .null])))) (by exact zup_up) ?_
  refine yx_aload_n C dX9_init_71 0 rfl ?_
  refine yx_new (ci := 5) (fs := [.null, .null, .null, .null, .int 0, .int 0, .int 0, .int 0, .int 0, .int 0, .int 0, .int 0]) C tyX5 tyX5_ok lay_X5 cl_X9_31 ia_X5 ini_X5 rfl (by decide +kernel) 190 4912 (by omega) (by omega) (Nat.le_of_ble_eq_true rfl) (Nat.le_of_ble_eq_true rfl) dX9_init_72 ?_
  refine yx_dup C dX9_init_75 rfl ?_
  refine yx_cN (n1 := b + 195) (c1 := (va_up c0 b (.inr (9, [.ref (o + (b + 1)), .ref (o + (b + 43)), .ref (o + (b + 170)), .ref (o + (b + 171)), .null, .null, .null, .null, .null, .null, .null])))) C (zU_in cd_X5_init) (by decide +kernel) ini_X5 im_X5_init rfl C.2.2.1.n_X9_33 (yi_X5 l D cy o (b + 190) (va_up c0 b (.inr (9, [.ref (o + (b + 1)), .ref (o + (b + 43)), .ref (o + (b + 170)), .ref (o + (b + 171)), .null, .null, .null, .null, .null, .null, .null]))) (yX5_up (h.2.2.2.2.2.2.2.2.1) (by omega))) ⟨Nat.le_of_ble_eq_true rfl, Nat.le_of_ble_eq_true rfl⟩ ⟨rfl, rfl⟩ 194 4956 (by omega) (by omega) ⟨Nat.le_of_ble_eq_true rfl, Nat.le_of_ble_eq_true rfl⟩ (Nat.le_of_ble_eq_true rfl) dX9_init_76 ?_
  refine yx_putF (ci := 9) (j := 4) (ty := (tyX9 4)) C tyX9 tyX9_ok nmX9 lay_X9 rfl hin rfl (by omega) (zup_s _ _ _) (by decide) fl_X9_34 rfl (by decide +kernel) rfl rfl (Nat.le_of_ble_eq_true rfl) dX9_init_79 ?_
  refine yx_cc (cc' := (va_up c0 b (.inr (9, [.ref (o + (b + 1)), .ref (o + (b + 43)), .ref (o + (b + 170)), .ref (o + (b + 171)), .ref (o + (b + 190)), .null, .null, .null, .null, .null, .null])))) (by exact zup_up) ?_
  refine yx_aload_n C dX9_init_82 0 rfl ?_
  refine yx_new (ci := 1) (fs := [.null, .null, .int 0, .int 0]) C tyX1 tyX1_ok lay_X1 cl_X9_38 ia_X1 ini_X1 rfl (by decide +kernel) 195 4960 (by omega) (by omega) (Nat.le_of_ble_eq_true rfl) (Nat.le_of_ble_eq_true rfl) dX9_init_83 ?_
  refine yx_dup C dX9_init_86 rfl ?_
  refine yx_cN (n1 := b + 198) (c1 := (va_up c0 b (.inr (9, [.ref (o + (b + 1)), .ref (o + (b + 43)), .ref (o + (b + 170)), .ref (o + (b + 171)), .ref (o + (b + 190)), .null, .null, .null, .null, .null, .null])))) C (zU_in cd_X1_init) (by decide +kernel) ini_X1 im_X1_init rfl C.2.2.1.n_X9_40 (yi_X1 l D cy o (b + 195) (va_up c0 b (.inr (9, [.ref (o + (b + 1)), .ref (o + (b + 43)), .ref (o + (b + 170)), .ref (o + (b + 171)), .ref (o + (b + 190)), .null, .null, .null, .null, .null, .null]))) (yX1_up (h.2.2.2.2.2.2.2.2.2.1) (by omega))) ⟨Nat.le_of_ble_eq_true rfl, Nat.le_of_ble_eq_true rfl⟩ ⟨rfl, rfl⟩ 197 4992 (by omega) (by omega) ⟨Nat.le_of_ble_eq_true rfl, Nat.le_of_ble_eq_true rfl⟩ (Nat.le_of_ble_eq_true rfl) dX9_init_87 ?_
  refine yx_putF (ci := 9) (j := 5) (ty := (tyX9 5)) C tyX9 tyX9_ok nmX9 lay_X9 rfl hin rfl (by omega) (zup_s _ _ _) (by decide) fl_X9_41 rfl (by decide +kernel) rfl rfl (Nat.le_of_ble_eq_true rfl) dX9_init_90 ?_
  refine yx_cc (cc' := (va_up c0 b (.inr (9, [.ref (o + (b + 1)), .ref (o + (b + 43)), .ref (o + (b + 170)), .ref (o + (b + 171)), .ref (o + (b + 190)), .ref (o + (b + 195)), .null, .null, .null, .null, .null])))) (by exact zup_up) ?_
  refine yx_aload_n C dX9_init_93 0 rfl ?_
  refine yx_new (ci := 7) (fs := [.null, .int 0, .long 0]) C tyX7 tyX7_ok lay_X7 cl_X9_45 ia_X7 ini_X7 rfl (by decide +kernel) 198 4995 (by omega) (by omega) (Nat.le_of_ble_eq_true rfl) (Nat.le_of_ble_eq_true rfl) dX9_init_94 ?_
  refine yx_dup C dX9_init_97 rfl ?_
  refine yx_cN (n1 := b + 200) (c1 := (va_up c0 b (.inr (9, [.ref (o + (b + 1)), .ref (o + (b + 43)), .ref (o + (b + 170)), .ref (o + (b + 171)), .ref (o + (b + 190)), .ref (o + (b + 195)), .null, .null, .null, .null, .null])))) C (zU_in cd_X7_init) (by decide +kernel) ini_X7 im_X7_init rfl C.2.2.1.n_X9_47 (yi_X7 l D cy o (b + 198) (va_up c0 b (.inr (9, [.ref (o + (b + 1)), .ref (o + (b + 43)), .ref (o + (b + 170)), .ref (o + (b + 171)), .ref (o + (b + 190)), .ref (o + (b + 195)), .null, .null, .null, .null, .null]))) (yX7_up (h.2.2.2.2.2.2.2.2.2.2.1) (by omega))) ⟨Nat.le_of_ble_eq_true rfl, Nat.le_of_ble_eq_true rfl⟩ ⟨rfl, rfl⟩ 199 6121 (by omega) (by omega) ⟨Nat.le_of_ble_eq_true rfl, Nat.le_of_ble_eq_true rfl⟩ (Nat.le_of_ble_eq_true rfl) dX9_init_98 ?_
  refine yx_putF (ci := 9) (j := 6) (ty := (tyX9 6)) C tyX9 tyX9_ok nmX9 lay_X9 rfl hin rfl (by omega) (zup_s _ _ _) (by decide) fl_X9_48 rfl (by decide +kernel) rfl rfl (Nat.le_of_ble_eq_true rfl) dX9_init_101 ?_
  refine yx_cc (cc' := (va_up c0 b (.inr (9, [.ref (o + (b + 1)), .ref (o + (b + 43)), .ref (o + (b + 170)), .ref (o + (b + 171)), .ref (o + (b + 190)), .ref (o + (b + 195)), .ref (o + (b + 198)), .null, .null, .null, .null])))) (by exact zup_up) ?_
  refine yx_aload_n C dX9_init_104 0 rfl ?_
  refine yx_new (ci := 6) (fs := [.null, .null, .null, .null, .null, .null, .int 0, .int 0, .int 0, .int 0, .int 0]) C tyX6 tyX6_ok lay_X6 cl_X9_52 ia_X6 ini_X6 rfl (by decide +kernel) 200 6132 (by omega) (by omega) (Nat.le_of_ble_eq_true rfl) (Nat.le_of_ble_eq_true rfl) dX9_init_105 ?_
  refine yx_dup C dX9_init_108 rfl ?_
  refine yx_cN (n1 := b + 207) (c1 := (va_up c0 b (.inr (9, [.ref (o + (b + 1)), .ref (o + (b + 43)), .ref (o + (b + 170)), .ref (o + (b + 171)), .ref (o + (b + 190)), .ref (o + (b + 195)), .ref (o + (b + 198)), .null, .null, .null, .null])))) C (zU_in cd_X6_init) (by decide +kernel) ini_X6 im_X6_init rfl C.2.2.1.n_X9_54 (yi_X6 l D cy o (b + 200) (va_up c0 b (.inr (9, [.ref (o + (b + 1)), .ref (o + (b + 43)), .ref (o + (b + 170)), .ref (o + (b + 171)), .ref (o + (b + 190)), .ref (o + (b + 195)), .ref (o + (b + 198)), .null, .null, .null, .null]))) (yX6_up (h.2.2.2.2.2.2.2.2.2.2.2.1) (by omega))) ⟨Nat.le_of_ble_eq_true rfl, Nat.le_of_ble_eq_true rfl⟩ ⟨rfl, rfl⟩ 206 6230 (by omega) (by omega) ⟨Nat.le_of_ble_eq_true rfl, Nat.le_of_ble_eq_true rfl⟩ (Nat.le_of_ble_eq_true rfl) dX9_init_109 ?_
  refine yx_putF (ci := 9) (j := 7) (ty := (tyX9 7)) C tyX9 tyX9_ok nmX9 lay_X9 rfl hin rfl (by omega) (zup_s _ _ _) (by decide) fl_X9_55 rfl (by decide +kernel) rfl rfl (Nat.le_of_ble_eq_true rfl) dX9_init_112 ?_
  refine yx_cc (cc' := (va_up c0 b (.inr (9, [.ref (o + (b + 1)), .ref (o + (b + 43)), .ref (o + (b + 170)), .ref (o + (b + 171)), .ref (o + (b + 190)), .ref (o + (b + 195)), .ref (o + (b + 198)), .ref (o + (b + 200)), .null, .null, .null])))) (by exact zup_up) ?_
  refine yx_aload_n C dX9_init_115 0 rfl ?_
  refine yx_new (ci := 3) (fs := [.null, .null]) C tyX3 tyX3_ok lay_X3 cl_X9_59 ia_X3 ini_X3 rfl (by decide +kernel) 207 6232 (by omega) (by omega) (Nat.le_of_ble_eq_true rfl) (Nat.le_of_ble_eq_true rfl) dX9_init_116 ?_
  refine yx_dup C dX9_init_119 rfl ?_
  refine yx_cN (n1 := b + 210) (c1 := (va_up c0 b (.inr (9, [.ref (o + (b + 1)), .ref (o + (b + 43)), .ref (o + (b + 170)), .ref (o + (b + 171)), .ref (o + (b + 190)), .ref (o + (b + 195)), .ref (o + (b + 198)), .ref (o + (b + 200)), .null, .null, .null])))) C (zU_in cd_X3_init) (by decide +kernel) ini_X3 im_X3_init rfl C.2.2.1.n_X9_61 (yi_X3 l D cy o (b + 207) (va_up c0 b (.inr (9, [.ref (o + (b + 1)), .ref (o + (b + 43)), .ref (o + (b + 170)), .ref (o + (b + 171)), .ref (o + (b + 190)), .ref (o + (b + 195)), .ref (o + (b + 198)), .ref (o + (b + 200)), .null, .null, .null]))) (yX3_up (h.2.2.2.2.2.2.2.2.2.2.2.2.1) (by omega))) ⟨Nat.le_of_ble_eq_true rfl, Nat.le_of_ble_eq_true rfl⟩ ⟨rfl, rfl⟩ 209 8232 (by omega) (by omega) ⟨Nat.le_of_ble_eq_true rfl, Nat.le_of_ble_eq_true rfl⟩ (Nat.le_of_ble_eq_true rfl) dX9_init_120 ?_
  refine yx_putF (ci := 9) (j := 8) (ty := (tyX9 8)) C tyX9 tyX9_ok nmX9 lay_X9 rfl hin rfl (by omega) (zup_s _ _ _) (by decide) fl_X9_62 rfl (by decide +kernel) rfl rfl (Nat.le_of_ble_eq_true rfl) dX9_init_123 ?_
  refine yx_cc (cc' := (va_up c0 b (.inr (9, [.ref (o + (b + 1)), .ref (o + (b + 43)), .ref (o + (b + 170)), .ref (o + (b + 171)), .ref (o + (b + 190)), .ref (o + (b + 195)), .ref (o + (b + 198)), .ref (o + (b + 200)), .ref (o + (b + 207)), .null, .null])))) (by exact zup_up) ?_
  refine yx_aload_n C dX9_init_126 0 rfl ?_
  refine yx_new (ci := 0) (fs := [.null, .null, .null, .null, .null, .null, .null, .null, .null, .null, .null, .int 0, .int 0, .int 0, .int 0, .int 0, .int 0, .int 0]) C tyX0 tyX0_ok lay_X0 cl_X9_66 ia_X0 ini_X0 rfl (by decide +kernel) 210 8250 (by omega) (by omega) (Nat.le_of_ble_eq_true rfl) (Nat.le_of_ble_eq_true rfl) dX9_init_127 ?_
  refine yx_dup C dX9_init_130 rfl ?_
  refine yx_cN (n1 := b + 222) (c1 := (va_up c0 b (.inr (9, [.ref (o + (b + 1)), .ref (o + (b + 43)), .ref (o + (b + 170)), .ref (o + (b + 171)), .ref (o + (b + 190)), .ref (o + (b + 195)), .ref (o + (b + 198)), .ref (o + (b + 200)), .ref (o + (b + 207)), .null, .null])))) C (zU_in cd_X0_init) (by decide +kernel) ini_X0 im_X0_init rfl C.2.2.1.n_X9_68 (yi_X0 l D cy o (b + 210) (va_up c0 b (.inr (9, [.ref (o + (b + 1)), .ref (o + (b + 43)), .ref (o + (b + 170)), .ref (o + (b + 171)), .ref (o + (b + 190)), .ref (o + (b + 195)), .ref (o + (b + 198)), .ref (o + (b + 200)), .ref (o + (b + 207)), .null, .null]))) (yX0_up (h.2.2.2.2.2.2.2.2.2.2.2.2.2.1) (by omega))) ⟨Nat.le_of_ble_eq_true rfl, Nat.le_of_ble_eq_true rfl⟩ ⟨rfl, rfl⟩ 221 8366 (by omega) (by omega) ⟨Nat.le_of_ble_eq_true rfl, Nat.le_of_ble_eq_true rfl⟩ (Nat.le_of_ble_eq_true rfl) dX9_init_131 ?_
  refine yx_putF (ci := 9) (j := 9) (ty := (tyX9 9)) C tyX9 tyX9_ok nmX9 lay_X9 rfl hin rfl (by omega) (zup_s _ _ _) (by decide) fl_X9_69 rfl (by decide +kernel) rfl rfl (Nat.le_of_ble_eq_true rfl) dX9_init_134 ?_
  refine yx_cc (cc' := (va_up c0 b (.inr (9, [.ref (o + (b + 1)), .ref (o + (b + 43)), .ref (o + (b + 170)), .ref (o + (b + 171)), .ref (o + (b + 190)), .ref (o + (b + 195)), .ref (o + (b + 198)), .ref (o + (b + 200)), .ref (o + (b + 207)), .ref (o + (b + 210)), .null])))) (by exact zup_up) ?_
  refine yx_aload_n C dX9_init_137 0 rfl ?_
  refine yx_sipush (v := (384 : Int32)) C dX9_init_138 (by decide) ?_
  refine yx_newa (at0 := .int) (a0 := (384, .inl (fun _ => 0))) (a := 0) C ac_int rfl (fun _ => ya_I _) (by decide) (by decide) (by decide) (by rw [zup_n _ _ _ (by omega)]; exact h.2.2.2.2.2.2.2.2.2.2.2.2.2.2) 222 8750 (by omega) (by omega) (Nat.le_of_ble_eq_true rfl) (Nat.le_of_ble_eq_true rfl) dX9_init_141 ?_
  refine yx_putF (ci := 9) (j := 10) (ty := (tyX9 10)) C tyX9 tyX9_ok nmX9 lay_X9 rfl hin rfl (by omega) (zup_s _ _ _) (by decide) fl_X9_73 rfl (by decide +kernel) rfl rfl (Nat.le_of_ble_eq_true rfl) dX9_init_143 ?_
  refine yx_cc (cc' := (va_up c0 b (.inr (9, [.ref (o + (b + 1)), .ref (o + (b + 43)), .ref (o + (b + 170)), .ref (o + (b + 171)), .ref (o + (b + 190)), .ref (o + (b + 195)), .ref (o + (b + 198)), .ref (o + (b + 200)), .ref (o + (b + 207)), .ref (o + (b + 210)), .ref (o + (b + 222))])))) (by exact zup_up) ?_
  refine yx_cc (cc' := c0) (zup_id h.1) ?_
  exact yx_ret C hr dX9_init_146
set_option maxRecDepth 100000 in
set_option maxHeartbeats 4000000 in
theorem yi_X10 (l : Launch) (D : va_G) (cy : Nat → ClassId) (o b : Nat) (c0 : Nat → va_E) (h : yX10 cy o c0 b) : yM l yX10_init cX10_init 1 (yrm 1 64 26 5354) D cy o [.ref (o + b)] (b + 1) (b + 27) (va_up c0 b (.inr (10, [.int 0, .null, .null, .null, .null, .null, .null, .null, .null, .int 0, .int 0, .int 0, .int 0, .int 0, .long 0, .int 0, .int 0, .int 0, .null, .null, .null, .null, .int 0, .int 0, .int 0, .int 0, .int 0, .null, .null, .null, .int 0, .int 0, .int 0, .int 0, .int 0, .null, .null, .null, .null, .null, .null, .null, .long 0, .int 0, .null, .null, .int 0, .int 0, .null, .null]))) c0 26 5354 := by
  refine ym_of RX10 rfl (by decide +kernel) rfl (Nat.le_of_ble_eq_true rfl) ?_
  intro p e s m below meth c C hr hin
  refine yx_lv (lv' := [(0, .ref (o + b))]) [0] rfl ?_
  refine yx_aload_n C dX10_init_0 0 rfl ?_
  refine yx_obj C ml_X10_1 im_object cd_object dX10_init_1 (Nat.le_of_ble_eq_true rfl) (Nat.le_of_ble_eq_true rfl) ?_
  refine yx_aload_n C dX10_init_4 0 rfl ?_
  refine yx_sipush (v := (2400 : Int32)) C dX10_init_5 (by decide) ?_
  refine yx_newa (at0 := .byte) (a0 := (2400, .inl (fun _ => 0))) (a := 1) C ac_byte rfl (fun _ => ya_B _) (by decide) (by decide) (by decide) (by rw [zup_n _ _ _ (by omega)]; exact h.2.1) 1 2400 (by omega) (by omega) (Nat.le_of_ble_eq_true rfl) (Nat.le_of_ble_eq_true rfl) dX10_init_8 ?_
  refine yx_putF (ci := 10) (j := 1) (ty := (tyX10 1)) C tyX10 tyX10_ok nmX10 lay_X10 rfl hin rfl (by omega) (zup_s _ _ _) (by decide) fl_X10_7 rfl (by decide +kernel) rfl rfl (Nat.le_of_ble_eq_true rfl) dX10_init_10 ?_
  refine yx_cc (cc' := (va_up c0 b (.inr (10, [.int 0, .ref (o + (b + 1)), .null, .null, .null, .null, .null, .null, .null, .int 0, .int 0, .int 0, .int 0, .int 0, .long 0, .int 0, .int 0, .int 0, .null, .null, .null, .null, .int 0, .int 0, .int 0, .int 0, .int 0, .null, .null, .null, .int 0, .int 0, .int 0, .int 0, .int 0, .null, .null, .null, .null, .null, .null, .null, .long 0, .int 0, .null, .null, .int 0, .int 0, .null, .null])))) (by exact zup_up) ?_
  refine yx_aload_n C dX10_init_13 0 rfl ?_
  refine yx_iconst (v := (4 : Int32)) C dX10_init_14 (by decide) ?_
  refine yx_newa (at0 := .int) (a0 := (4, .inl (fun _ => 0))) (a := 0) C ac_int rfl (fun _ => ya_I _) (by decide) (by decide) (by decide) (by rw [zup_n _ _ _ (by omega)]; exact h.2.2.1) 2 2404 (by omega) (by omega) (Nat.le_of_ble_eq_true rfl) (Nat.le_of_ble_eq_true rfl) dX10_init_15 ?_
  refine yx_putF (ci := 10) (j := 2) (ty := (tyX10 2)) C tyX10 tyX10_ok nmX10 lay_X10 rfl hin rfl (by omega) (zup_s _ _ _) (by decide) fl_X10_13 rfl (by decide +kernel) rfl rfl (Nat.le_of_ble_eq_true rfl) dX10_init_17 ?_
  refine yx_cc (cc' := (va_up c0 b (.inr (10, [.int 0, .ref (o + (b + 1)), .ref (o + (b + 2)), .null, .null, .null, .null, .null, .null, .int 0, .int 0, .int 0, .int 0, .int 0, .long 0, .int 0, .int 0, .int 0, .null, .null, .null, .null, .int 0, .int 0, .int 0, .int 0, .int 0, .null, .null, .null, .int 0, .int 0, .int 0, .int 0, .int 0, .null, .null, .null, .null, .null, .null, .null, .long 0, .int 0, .null, .null, .int 0, .int 0, .null, .null])))) (by exact zup_up) ?_
  refine yx_aload_n C dX10_init_20 0 rfl ?_
  refine yx_iconst (v := (4 : Int32)) C dX10_init_21 (by decide) ?_
  refine yx_newa (at0 := .int) (a0 := (4, .inl (fun _ => 0))) (a := 0) C ac_int rfl (fun _ => ya_I _) (by decide) (by decide) (by decide) (by rw [zup_n _ _ _ (by omega)]; exact h.2.2.2.1) 3 2408 (by omega) (by omega) (Nat.le_of_ble_eq_true rfl) (Nat.le_of_ble_eq_true rfl) dX10_init_22 ?_
  refine yx_putF (ci := 10) (j := 3) (ty := (tyX10 3)) C tyX10 tyX10_ok nmX10 lay_X10 rfl hin rfl (by omega) (zup_s _ _ _) (by decide) fl_X10_17 rfl (by decide +kernel) rfl rfl (Nat.le_of_ble_eq_true rfl) dX10_init_24 ?_
  refine yx_cc (cc' := (va_up c0 b (.inr (10, [.int 0, .ref (o + (b + 1)), .ref (o + (b + 2)), .ref (o + (b + 3)), .null, .null, .null, .null, .null, .int 0, .int 0, .int 0, .int 0, .int 0, .long 0, .int 0, .int 0, .int 0, .null, .null, .null, .null, .int 0, .int 0, .int 0, .int 0, .int 0, .null, .null, .null, .int 0, .int 0, .int 0, .int 0, .int 0, .null, .null, .null, .null, .null, .null, .null, .long 0, .int 0, .null, .null, .int 0, .int 0, .null, .null])))) (by exact zup_up) ?_
  refine yx_aload_n C dX10_init_27 0 rfl ?_
  refine yx_iconst (v := (4 : Int32)) C dX10_init_28 (by decide) ?_
  refine yx_newaV (at0 := .int) (a0 := (4, .inl (fun _ => 0))) (a := 0) C ac_int rfl (fun _ => ya_I _) (by decide) (by decide) (by decide) 4 2412 (by omega) (by omega) (Nat.le_of_ble_eq_true rfl) (Nat.le_of_ble_eq_true rfl) dX10_init_29 ?_
  refine yx_cc (cc' := (va_up (va_up c0 b (.inr (10, [.int 0, .ref (o + (b + 1)), .ref (o + (b + 2)), .ref (o + (b + 3)), .null, .null, .null, .null, .null, .int 0, .int 0, .int 0, .int 0, .int 0, .long 0, .int 0, .int 0, .int 0, .null, .null, .null, .null, .int 0, .int 0, .int 0, .int 0, .int 0, .null, .null, .null, .int 0, .int 0, .int 0, .int 0, .int 0, .null, .null, .null, .null, .null, .null, .null, .long 0, .int 0, .null, .null, .int 0, .int 0, .null, .null]))) (b + 4) (.inl (cy 0, 4, .inl (fun _ => 0))))) rfl ?_
  refine yx_putF (ci := 10) (j := 4) (ty := (tyX10 4)) C tyX10 tyX10_ok nmX10 lay_X10 rfl hin rfl (by omega) (by rw [zup_n _ _ _ (by omega)]; rw [zup_s]) (by decide) fl_X10_20 rfl (by decide +kernel) rfl rfl (Nat.le_of_ble_eq_true rfl) dX10_init_31 ?_
  refine yx_cc (cc' := (va_up (va_up c0 b (.inr (10, [.int 0, .ref (o + (b + 1)), .ref (o + (b + 2)), .ref (o + (b + 3)), .ref (o + (b + 4)), .null, .null, .null, .null, .int 0, .int 0, .int 0, .int 0, .int 0, .long 0, .int 0, .int 0, .int 0, .null, .null, .null, .null, .int 0, .int 0, .int 0, .int 0, .int 0, .null, .null, .null, .int 0, .int 0, .int 0, .int 0, .int 0, .null, .null, .null, .null, .null, .null, .null, .long 0, .int 0, .null, .null, .int 0, .int 0, .null, .null]))) (b + 4) (.inl (cy 0, 4, .inl (fun _ => 0))))) (by rw [zup_cm (by omega), zup_up]; rfl) ?_
  refine yx_aload_n C dX10_init_34 0 rfl ?_
  refine yx_bipush (v := (12 : Int32)) C dX10_init_35 (by decide) ?_
  refine yx_newa (at0 := .int) (a0 := (12, .inl (fun _ => 0))) (a := 0) C ac_int rfl (fun _ => ya_I _) (by decide) (by decide) (by decide) (by rw [zup_n _ _ _ (by omega)]; rw [zup_n _ _ _ (by omega)]; exact h.2.2.2.2.2.1) 5 2424 (by omega) (by omega) (Nat.le_of_ble_eq_true rfl) (Nat.le_of_ble_eq_true rfl) dX10_init_37 ?_
  refine yx_putF (ci := 10) (j := 5) (ty := (tyX10 5)) C tyX10 tyX10_ok nmX10 lay_X10 rfl hin rfl (by omega) (by rw [zup_n _ _ _ (by omega)]; rw [zup_s]) (by decide) fl_X10_23 rfl (by decide +kernel) rfl rfl (Nat.le_of_ble_eq_true rfl) dX10_init_39 ?_
  refine yx_cc (cc' := (va_up (va_up c0 b (.inr (10, [.int 0, .ref (o + (b + 1)), .ref (o + (b + 2)), .ref (o + (b + 3)), .ref (o + (b + 4)), .ref (o + (b + 5)), .null, .null, .null, .int 0, .int 0, .int 0, .int 0, .int 0, .long 0, .int 0, .int 0, .int 0, .null, .null, .null, .null, .int 0, .int 0, .int 0, .int 0, .int 0, .null, .null, .null, .int 0, .int 0, .int 0, .int 0, .int 0, .null, .null, .null, .null, .null, .null, .null, .long 0, .int 0, .null, .null, .int 0, .int 0, .null, .null]))) (b + 4) (.inl (cy 0, 4, .inl (fun _ => 0))))) (by rw [zup_cm (by omega), zup_up]; rfl) ?_
  refine yx_aload_n C dX10_init_42 0 rfl ?_
  refine yx_sipush (v := (984 : Int32)) C dX10_init_43 (by decide) ?_
  refine yx_newa (at0 := .int) (a0 := (984, .inl (fun _ => 0))) (a := 0) C ac_int rfl (fun _ => ya_I _) (by decide) (by decide) (by decide) (by rw [zup_n _ _ _ (by omega)]; rw [zup_n _ _ _ (by omega)]; exact h.2.2.2.2.2.2.1) 6 3408 (by omega) (by omega) (Nat.le_of_ble_eq_true rfl) (Nat.le_of_ble_eq_true rfl) dX10_init_46 ?_
  refine yx_putF (ci := 10) (j := 6) (ty := (tyX10 6)) C tyX10 tyX10_ok nmX10 lay_X10 rfl hin rfl (by omega) (by rw [zup_n _ _ _ (by omega)]; rw [zup_s]) (by decide) fl_X10_26 rfl (by decide +kernel) rfl rfl (Nat.le_of_ble_eq_true rfl) dX10_init_48 ?_
  refine yx_cc (cc' := (va_up (va_up c0 b (.inr (10, [.int 0, .ref (o + (b + 1)), .ref (o + (b + 2)), .ref (o + (b + 3)), .ref (o + (b + 4)), .ref (o + (b + 5)), .ref (o + (b + 6)), .null, .null, .int 0, .int 0, .int 0, .int 0, .int 0, .long 0, .int 0, .int 0, .int 0, .null, .null, .null, .null, .int 0, .int 0, .int 0, .int 0, .int 0, .null, .null, .null, .int 0, .int 0, .int 0, .int 0, .int 0, .null, .null, .null, .null, .null, .null, .null, .long 0, .int 0, .null, .null, .int 0, .int 0, .null, .null]))) (b + 4) (.inl (cy 0, 4, .inl (fun _ => 0))))) (by rw [zup_cm (by omega), zup_up]; rfl) ?_
  refine yx_aload_n C dX10_init_51 0 rfl ?_
  refine yx_sipush (v := (264 : Int32)) C dX10_init_52 (by decide) ?_
  refine yx_newa (at0 := .int) (a0 := (264, .inl (fun _ => 0))) (a := 0) C ac_int rfl (fun _ => ya_I _) (by decide) (by decide) (by decide) (by rw [zup_n _ _ _ (by omega)]; rw [zup_n _ _ _ (by omega)]; exact h.2.2.2.2.2.2.2.1) 7 3672 (by omega) (by omega) (Nat.le_of_ble_eq_true rfl) (Nat.le_of_ble_eq_true rfl) dX10_init_55 ?_
  refine yx_putF (ci := 10) (j := 7) (ty := (tyX10 7)) C tyX10 tyX10_ok nmX10 lay_X10 rfl hin rfl (by omega) (by rw [zup_n _ _ _ (by omega)]; rw [zup_s]) (by decide) fl_X10_29 rfl (by decide +kernel) rfl rfl (Nat.le_of_ble_eq_true rfl) dX10_init_57 ?_
  refine yx_cc (cc' := (va_up (va_up c0 b (.inr (10, [.int 0, .ref (o + (b + 1)), .ref (o + (b + 2)), .ref (o + (b + 3)), .ref (o + (b + 4)), .ref (o + (b + 5)), .ref (o + (b + 6)), .ref (o + (b + 7)), .null, .int 0, .int 0, .int 0, .int 0, .int 0, .long 0, .int 0, .int 0, .int 0, .null, .null, .null, .null, .int 0, .int 0, .int 0, .int 0, .int 0, .null, .null, .null, .int 0, .int 0, .int 0, .int 0, .int 0, .null, .null, .null, .null, .null, .null, .null, .long 0, .int 0, .null, .null, .int 0, .int 0, .null, .null]))) (b + 4) (.inl (cy 0, 4, .inl (fun _ => 0))))) (by rw [zup_cm (by omega), zup_up]; rfl) ?_
  refine yx_aload_n C dX10_init_60 0 rfl ?_
  refine yx_sipush (v := (168 : Int32)) C dX10_init_61 (by decide) ?_
  refine yx_newa (at0 := .int) (a0 := (168, .inl (fun _ => 0))) (a := 0) C ac_int rfl (fun _ => ya_I _) (by decide) (by decide) (by decide) (by rw [zup_n _ _ _ (by omega)]; rw [zup_n _ _ _ (by omega)]; exact h.2.2.2.2.2.2.2.2.1) 8 3840 (by omega) (by omega) (Nat.le_of_ble_eq_true rfl) (Nat.le_of_ble_eq_true rfl) dX10_init_64 ?_
  refine yx_putF (ci := 10) (j := 8) (ty := (tyX10 8)) C tyX10 tyX10_ok nmX10 lay_X10 rfl hin rfl (by omega) (by rw [zup_n _ _ _ (by omega)]; rw [zup_s]) (by decide) fl_X10_32 rfl (by decide +kernel) rfl rfl (Nat.le_of_ble_eq_true rfl) dX10_init_66 ?_
  refine yx_cc (cc' := (va_up (va_up c0 b (.inr (10, [.int 0, .ref (o + (b + 1)), .ref (o + (b + 2)), .ref (o + (b + 3)), .ref (o + (b + 4)), .ref (o + (b + 5)), .ref (o + (b + 6)), .ref (o + (b + 7)), .ref (o + (b + 8)), .int 0, .int 0, .int 0, .int 0, .int 0, .long 0, .int 0, .int 0, .int 0, .null, .null, .null, .null, .int 0, .int 0, .int 0, .int 0, .int 0, .null, .null, .null, .int 0, .int 0, .int 0, .int 0, .int 0, .null, .null, .null, .null, .null, .null, .null, .long 0, .int 0, .null, .null, .int 0, .int 0, .null, .null]))) (b + 4) (.inl (cy 0, 4, .inl (fun _ => 0))))) (by rw [zup_cm (by omega), zup_up]; rfl) ?_
  refine yx_aload_n C dX10_init_69 0 rfl ?_
  refine yx_bipush (v := (123 : Int32)) C dX10_init_70 (by decide) ?_
  refine yx_newa (at0 := .int) (a0 := (123, .inl (fun _ => 0))) (a := 0) C ac_int rfl (fun _ => ya_I _) (by decide) (by decide) (by decide) (by rw [zup_n _ _ _ (by omega)]; rw [zup_n _ _ _ (by omega)]; exact h.2.2.2.2.2.2.2.2.2.1) 9 3963 (by omega) (by omega) (Nat.le_of_ble_eq_true rfl) (Nat.le_of_ble_eq_true rfl) dX10_init_72 ?_
  refine yx_putF (ci := 10) (j := 18) (ty := (tyX10 18)) C tyX10 tyX10_ok nmX10 lay_X10 rfl hin rfl (by omega) (by rw [zup_n _ _ _ (by omega)]; rw [zup_s]) (by decide) fl_X10_35 rfl (by decide +kernel) rfl rfl (Nat.le_of_ble_eq_true rfl) dX10_init_74 ?_
  refine yx_cc (cc' := (va_up (va_up c0 b (.inr (10, [.int 0, .ref (o + (b + 1)), .ref (o + (b + 2)), .ref (o + (b + 3)), .ref (o + (b + 4)), .ref (o + (b + 5)), .ref (o + (b + 6)), .ref (o + (b + 7)), .ref (o + (b + 8)), .int 0, .int 0, .int 0, .int 0, .int 0, .long 0, .int 0, .int 0, .int 0, .ref (o + (b + 9)), .null, .null, .null, .int 0, .int 0, .int 0, .int 0, .int 0, .null, .null, .null, .int 0, .int 0, .int 0, .int 0, .int 0, .null, .null, .null, .null, .null, .null, .null, .long 0, .int 0, .null, .null, .int 0, .int 0, .null, .null]))) (b + 4) (.inl (cy 0, 4, .inl (fun _ => 0))))) (by rw [zup_cm (by omega), zup_up]; rfl) ?_
  refine yx_aload_n C dX10_init_77 0 rfl ?_
  refine yx_bipush (v := (6 : Int32)) C dX10_init_78 (by decide) ?_
  refine yx_newa (at0 := .int) (a0 := (6, .inl (fun _ => 0))) (a := 0) C ac_int rfl (fun _ => ya_I _) (by decide) (by decide) (by decide) (by rw [zup_n _ _ _ (by omega)]; rw [zup_n _ _ _ (by omega)]; exact h.2.2.2.2.2.2.2.2.2.2.1) 10 3969 (by omega) (by omega) (Nat.le_of_ble_eq_true rfl) (Nat.le_of_ble_eq_true rfl) dX10_init_80 ?_
  refine yx_putF (ci := 10) (j := 19) (ty := (tyX10 19)) C tyX10 tyX10_ok nmX10 lay_X10 rfl hin rfl (by omega) (by rw [zup_n _ _ _ (by omega)]; rw [zup_s]) (by decide) fl_X10_38 rfl (by decide +kernel) rfl rfl (Nat.le_of_ble_eq_true rfl) dX10_init_82 ?_
  refine yx_cc (cc' := (va_up (va_up c0 b (.inr (10, [.int 0, .ref (o + (b + 1)), .ref (o + (b + 2)), .ref (o + (b + 3)), .ref (o + (b + 4)), .ref (o + (b + 5)), .ref (o + (b + 6)), .ref (o + (b + 7)), .ref (o + (b + 8)), .int 0, .int 0, .int 0, .int 0, .int 0, .long 0, .int 0, .int 0, .int 0, .ref (o + (b + 9)), .ref (o + (b + 10)), .null, .null, .int 0, .int 0, .int 0, .int 0, .int 0, .null, .null, .null, .int 0, .int 0, .int 0, .int 0, .int 0, .null, .null, .null, .null, .null, .null, .null, .long 0, .int 0, .null, .null, .int 0, .int 0, .null, .null]))) (b + 4) (.inl (cy 0, 4, .inl (fun _ => 0))))) (by rw [zup_cm (by omega), zup_up]; rfl) ?_
  refine yx_aload_n C dX10_init_85 0 rfl ?_
  refine yx_bipush (v := (16 : Int32)) C dX10_init_86 (by decide) ?_
  refine yx_newa (at0 := .int) (a0 := (16, .inl (fun _ => 0))) (a := 0) C ac_int rfl (fun _ => ya_I _) (by decide) (by decide) (by decide) (by rw [zup_n _ _ _ (by omega)]; rw [zup_n _ _ _ (by omega)]; exact h.2.2.2.2.2.2.2.2.2.2.2.1) 11 3985 (by omega) (by omega) (Nat.le_of_ble_eq_true rfl) (Nat.le_of_ble_eq_true rfl) dX10_init_88 ?_
  refine yx_putF (ci := 10) (j := 20) (ty := (tyX10 20)) C tyX10 tyX10_ok nmX10 lay_X10 rfl hin rfl (by omega) (by rw [zup_n _ _ _ (by omega)]; rw [zup_s]) (by decide) fl_X10_41 rfl (by decide +kernel) rfl rfl (Nat.le_of_ble_eq_true rfl) dX10_init_90 ?_
  refine yx_cc (cc' := (va_up (va_up c0 b (.inr (10, [.int 0, .ref (o + (b + 1)), .ref (o + (b + 2)), .ref (o + (b + 3)), .ref (o + (b + 4)), .ref (o + (b + 5)), .ref (o + (b + 6)), .ref (o + (b + 7)), .ref (o + (b + 8)), .int 0, .int 0, .int 0, .int 0, .int 0, .long 0, .int 0, .int 0, .int 0, .ref (o + (b + 9)), .ref (o + (b + 10)), .ref (o + (b + 11)), .null, .int 0, .int 0, .int 0, .int 0, .int 0, .null, .null, .null, .int 0, .int 0, .int 0, .int 0, .int 0, .null, .null, .null, .null, .null, .null, .null, .long 0, .int 0, .null, .null, .int 0, .int 0, .null, .null]))) (b + 4) (.inl (cy 0, 4, .inl (fun _ => 0))))) (by rw [zup_cm (by omega), zup_up]; rfl) ?_
  refine yx_aload_n C dX10_init_93 0 rfl ?_
  refine yx_bipush (v := (16 : Int32)) C dX10_init_94 (by decide) ?_
  refine yx_newa (at0 := .int) (a0 := (16, .inl (fun _ => 0))) (a := 0) C ac_int rfl (fun _ => ya_I _) (by decide) (by decide) (by decide) (by rw [zup_n _ _ _ (by omega)]; rw [zup_n _ _ _ (by omega)]; exact h.2.2.2.2.2.2.2.2.2.2.2.2.1) 12 4001 (by omega) (by omega) (Nat.le_of_ble_eq_true rfl) (Nat.le_of_ble_eq_true rfl) dX10_init_96 ?_
  refine yx_putF (ci := 10) (j := 21) (ty := (tyX10 21)) C tyX10 tyX10_ok nmX10 lay_X10 rfl hin rfl (by omega) (by rw [zup_n _ _ _ (by omega)]; rw [zup_s]) (by decide) fl_X10_44 rfl (by decide +kernel) rfl rfl (Nat.le_of_ble_eq_true rfl) dX10_init_98 ?_
  refine yx_cc (cc' := (va_up (va_up c0 b (.inr (10, [.int 0, .ref (o + (b + 1)), .ref (o + (b + 2)), .ref (o + (b + 3)), .ref (o + (b + 4)), .ref (o + (b + 5)), .ref (o + (b + 6)), .ref (o + (b + 7)), .ref (o + (b + 8)), .int 0, .int 0, .int 0, .int 0, .int 0, .long 0, .int 0, .int 0, .int 0, .ref (o + (b + 9)), .ref (o + (b + 10)), .ref (o + (b + 11)), .ref (o + (b + 12)), .int 0, .int 0, .int 0, .int 0, .int 0, .null, .null, .null, .int 0, .int 0, .int 0, .int 0, .int 0, .null, .null, .null, .null, .null, .null, .null, .long 0, .int 0, .null, .null, .int 0, .int 0, .null, .null]))) (b + 4) (.inl (cy 0, 4, .inl (fun _ => 0))))) (by rw [zup_cm (by omega), zup_up]; rfl) ?_
  refine yx_aload_n C dX10_init_101 0 rfl ?_
  refine yx_bipush (v := (16 : Int32)) C dX10_init_102 (by decide) ?_
  refine yx_newa (at0 := .int) (a0 := (16, .inl (fun _ => 0))) (a := 0) C ac_int rfl (fun _ => ya_I _) (by decide) (by decide) (by decide) (by rw [zup_n _ _ _ (by omega)]; rw [zup_n _ _ _ (by omega)]; exact h.2.2.2.2.2.2.2.2.2.2.2.2.2.1) 13 4017 (by omega) (by omega) (Nat.le_of_ble_eq_true rfl) (Nat.le_of_ble_eq_true rfl) dX10_init_104 ?_
  refine yx_putF (ci := 10) (j := 27) (ty := (tyX10 27)) C tyX10 tyX10_ok nmX10 lay_X10 rfl hin rfl (by omega) (by rw [zup_n _ _ _ (by omega)]; rw [zup_s]) (by decide) fl_X10_47 rfl (by decide +kernel) rfl rfl (Nat.le_of_ble_eq_true rfl) dX10_init_106 ?_
  refine yx_cc (cc' := (va_up (va_up c0 b (.inr (10, [.int 0, .ref (o + (b + 1)), .ref (o + (b + 2)), .ref (o + (b + 3)), .ref (o + (b + 4)), .ref (o + (b + 5)), .ref (o + (b + 6)), .ref (o + (b + 7)), .ref (o + (b + 8)), .int 0, .int 0, .int 0, .int 0, .int 0, .long 0, .int 0, .int 0, .int 0, .ref (o + (b + 9)), .ref (o + (b + 10)), .ref (o + (b + 11)), .ref (o + (b + 12)), .int 0, .int 0, .int 0, .int 0, .int 0, .ref (o + (b + 13)), .null, .null, .int 0, .int 0, .int 0, .int 0, .int 0, .null, .null, .null, .null, .null, .null, .null, .long 0, .int 0, .null, .null, .int 0, .int 0, .null, .null]))) (b + 4) (.inl (cy 0, 4, .inl (fun _ => 0))))) (by rw [zup_cm (by omega), zup_up]; rfl) ?_
  refine yx_aload_n C dX10_init_109 0 rfl ?_
  refine yx_bipush (v := (16 : Int32)) C dX10_init_110 (by decide) ?_
  refine yx_newa (at0 := .int) (a0 := (16, .inl (fun _ => 0))) (a := 0) C ac_int rfl (fun _ => ya_I _) (by decide) (by decide) (by decide) (by rw [zup_n _ _ _ (by omega)]; rw [zup_n _ _ _ (by omega)]; exact h.2.2.2.2.2.2.2.2.2.2.2.2.2.2.1) 14 4033 (by omega) (by omega) (Nat.le_of_ble_eq_true rfl) (Nat.le_of_ble_eq_true rfl) dX10_init_112 ?_
  refine yx_putF (ci := 10) (j := 28) (ty := (tyX10 28)) C tyX10 tyX10_ok nmX10 lay_X10 rfl hin rfl (by omega) (by rw [zup_n _ _ _ (by omega)]; rw [zup_s]) (by decide) fl_X10_50 rfl (by decide +kernel) rfl rfl (Nat.le_of_ble_eq_true rfl) dX10_init_114 ?_
  refine yx_cc (cc' := (va_up (va_up c0 b (.inr (10, [.int 0, .ref (o + (b + 1)), .ref (o + (b + 2)), .ref (o + (b + 3)), .ref (o + (b + 4)), .ref (o + (b + 5)), .ref (o + (b + 6)), .ref (o + (b + 7)), .ref (o + (b + 8)), .int 0, .int 0, .int 0, .int 0, .int 0, .long 0, .int 0, .int 0, .int 0, .ref (o + (b + 9)), .ref (o + (b + 10)), .ref (o + (b + 11)), .ref (o + (b + 12)), .int 0, .int 0, .int 0, .int 0, .int 0, .ref (o + (b + 13)), .ref (o + (b + 14)), .null, .int 0, .int 0, .int 0, .int 0, .int 0, .null, .null, .null, .null, .null, .null, .null, .long 0, .int 0, .null, .null, .int 0, .int 0, .null, .null]))) (b + 4) (.inl (cy 0, 4, .inl (fun _ => 0))))) (by rw [zup_cm (by omega), zup_up]; rfl) ?_
  refine yx_aload_n C dX10_init_117 0 rfl ?_
  refine yx_bipush (v := (16 : Int32)) C dX10_init_118 (by decide) ?_
  refine yx_newa (at0 := .int) (a0 := (16, .inl (fun _ => 0))) (a := 0) C ac_int rfl (fun _ => ya_I _) (by decide) (by decide) (by decide) (by rw [zup_n _ _ _ (by omega)]; rw [zup_n _ _ _ (by omega)]; exact h.2.2.2.2.2.2.2.2.2.2.2.2.2.2.2.1) 15 4049 (by omega) (by omega) (Nat.le_of_ble_eq_true rfl) (Nat.le_of_ble_eq_true rfl) dX10_init_120 ?_
  refine yx_putF (ci := 10) (j := 29) (ty := (tyX10 29)) C tyX10 tyX10_ok nmX10 lay_X10 rfl hin rfl (by omega) (by rw [zup_n _ _ _ (by omega)]; rw [zup_s]) (by decide) fl_X10_53 rfl (by decide +kernel) rfl rfl (Nat.le_of_ble_eq_true rfl) dX10_init_122 ?_
  refine yx_cc (cc' := (va_up (va_up c0 b (.inr (10, [.int 0, .ref (o + (b + 1)), .ref (o + (b + 2)), .ref (o + (b + 3)), .ref (o + (b + 4)), .ref (o + (b + 5)), .ref (o + (b + 6)), .ref (o + (b + 7)), .ref (o + (b + 8)), .int 0, .int 0, .int 0, .int 0, .int 0, .long 0, .int 0, .int 0, .int 0, .ref (o + (b + 9)), .ref (o + (b + 10)), .ref (o + (b + 11)), .ref (o + (b + 12)), .int 0, .int 0, .int 0, .int 0, .int 0, .ref (o + (b + 13)), .ref (o + (b + 14)), .ref (o + (b + 15)), .int 0, .int 0, .int 0, .int 0, .int 0, .null, .null, .null, .null, .null, .null, .null, .long 0, .int 0, .null, .null, .int 0, .int 0, .null, .null]))) (b + 4) (.inl (cy 0, 4, .inl (fun _ => 0))))) (by rw [zup_cm (by omega), zup_up]; rfl) ?_
  refine yx_aload_n C dX10_init_125 0 rfl ?_
  refine yx_bipush (v := (16 : Int32)) C dX10_init_126 (by decide) ?_
  refine yx_newa (at0 := .int) (a0 := (16, .inl (fun _ => 0))) (a := 0) C ac_int rfl (fun _ => ya_I _) (by decide) (by decide) (by decide) (by rw [zup_n _ _ _ (by omega)]; rw [zup_n _ _ _ (by omega)]; exact h.2.2.2.2.2.2.2.2.2.2.2.2.2.2.2.2.1) 16 4065 (by omega) (by omega) (Nat.le_of_ble_eq_true rfl) (Nat.le_of_ble_eq_true rfl) dX10_init_128 ?_
  refine yx_putF (ci := 10) (j := 35) (ty := (tyX10 35)) C tyX10 tyX10_ok nmX10 lay_X10 rfl hin rfl (by omega) (by rw [zup_n _ _ _ (by omega)]; rw [zup_s]) (by decide) fl_X10_56 rfl (by decide +kernel) rfl rfl (Nat.le_of_ble_eq_true rfl) dX10_init_130 ?_
  refine yx_cc (cc' := (va_up (va_up c0 b (.inr (10, [.int 0, .ref (o + (b + 1)), .ref (o + (b + 2)), .ref (o + (b + 3)), .ref (o + (b + 4)), .ref (o + (b + 5)), .ref (o + (b + 6)), .ref (o + (b + 7)), .ref (o + (b + 8)), .int 0, .int 0, .int 0, .int 0, .int 0, .long 0, .int 0, .int 0, .int 0, .ref (o + (b + 9)), .ref (o + (b + 10)), .ref (o + (b + 11)), .ref (o + (b + 12)), .int 0, .int 0, .int 0, .int 0, .int 0, .ref (o + (b + 13)), .ref (o + (b + 14)), .ref (o + (b + 15)), .int 0, .int 0, .int 0, .int 0, .int 0, .ref (o + (b + 16)), .null, .null, .null, .null, .null, .null, .long 0, .int 0, .null, .null, .int 0, .int 0, .null, .null]))) (b + 4) (.inl (cy 0, 4, .inl (fun _ => 0))))) (by rw [zup_cm (by omega), zup_up]; rfl) ?_
  refine yx_aload_n C dX10_init_133 0 rfl ?_
  refine yx_bipush (v := (16 : Int32)) C dX10_init_134 (by decide) ?_
  refine yx_newa (at0 := .int) (a0 := (16, .inl (fun _ => 0))) (a := 0) C ac_int rfl (fun _ => ya_I _) (by decide) (by decide) (by decide) (by rw [zup_n _ _ _ (by omega)]; rw [zup_n _ _ _ (by omega)]; exact h.2.2.2.2.2.2.2.2.2.2.2.2.2.2.2.2.2.1) 17 4081 (by omega) (by omega) (Nat.le_of_ble_eq_true rfl) (Nat.le_of_ble_eq_true rfl) dX10_init_136 ?_
  refine yx_putF (ci := 10) (j := 36) (ty := (tyX10 36)) C tyX10 tyX10_ok nmX10 lay_X10 rfl hin rfl (by omega) (by rw [zup_n _ _ _ (by omega)]; rw [zup_s]) (by decide) fl_X10_59 rfl (by decide +kernel) rfl rfl (Nat.le_of_ble_eq_true rfl) dX10_init_138 ?_
  refine yx_cc (cc' := (va_up (va_up c0 b (.inr (10, [.int 0, .ref (o + (b + 1)), .ref (o + (b + 2)), .ref (o + (b + 3)), .ref (o + (b + 4)), .ref (o + (b + 5)), .ref (o + (b + 6)), .ref (o + (b + 7)), .ref (o + (b + 8)), .int 0, .int 0, .int 0, .int 0, .int 0, .long 0, .int 0, .int 0, .int 0, .ref (o + (b + 9)), .ref (o + (b + 10)), .ref (o + (b + 11)), .ref (o + (b + 12)), .int 0, .int 0, .int 0, .int 0, .int 0, .ref (o + (b + 13)), .ref (o + (b + 14)), .ref (o + (b + 15)), .int 0, .int 0, .int 0, .int 0, .int 0, .ref (o + (b + 16)), .ref (o + (b + 17)), .null, .null, .null, .null, .null, .long 0, .int 0, .null, .null, .int 0, .int 0, .null, .null]))) (b + 4) (.inl (cy 0, 4, .inl (fun _ => 0))))) (by rw [zup_cm (by omega), zup_up]; rfl) ?_
  refine yx_aload_n C dX10_init_141 0 rfl ?_
  refine yx_bipush (v := (6 : Int32)) C dX10_init_142 (by decide) ?_
  refine yx_newa (at0 := .int) (a0 := (6, .inl (fun _ => 0))) (a := 0) C ac_int rfl (fun _ => ya_I _) (by decide) (by decide) (by decide) (by rw [zup_n _ _ _ (by omega)]; rw [zup_n _ _ _ (by omega)]; exact h.2.2.2.2.2.2.2.2.2.2.2.2.2.2.2.2.2.2.1) 18 4087 (by omega) (by omega) (Nat.le_of_ble_eq_true rfl) (Nat.le_of_ble_eq_true rfl) dX10_init_144 ?_
  refine yx_putF (ci := 10) (j := 37) (ty := (tyX10 37)) C tyX10 tyX10_ok nmX10 lay_X10 rfl hin rfl (by omega) (by rw [zup_n _ _ _ (by omega)]; rw [zup_s]) (by decide) fl_X10_62 rfl (by decide +kernel) rfl rfl (Nat.le_of_ble_eq_true rfl) dX10_init_146 ?_
  refine yx_cc (cc' := (va_up (va_up c0 b (.inr (10, [.int 0, .ref (o + (b + 1)), .ref (o + (b + 2)), .ref (o + (b + 3)), .ref (o + (b + 4)), .ref (o + (b + 5)), .ref (o + (b + 6)), .ref (o + (b + 7)), .ref (o + (b + 8)), .int 0, .int 0, .int 0, .int 0, .int 0, .long 0, .int 0, .int 0, .int 0, .ref (o + (b + 9)), .ref (o + (b + 10)), .ref (o + (b + 11)), .ref (o + (b + 12)), .int 0, .int 0, .int 0, .int 0, .int 0, .ref (o + (b + 13)), .ref (o + (b + 14)), .ref (o + (b + 15)), .int 0, .int 0, .int 0, .int 0, .int 0, .ref (o + (b + 16)), .ref (o + (b + 17)), .ref (o + (b + 18)), .null, .null, .null, .null, .long 0, .int 0, .null, .null, .int 0, .int 0, .null, .null]))) (b + 4) (.inl (cy 0, 4, .inl (fun _ => 0))))) (by rw [zup_cm (by omega), zup_up]; rfl) ?_
  refine yx_aload_n C dX10_init_149 0 rfl ?_
  refine yx_bipush (v := (16 : Int32)) C dX10_init_150 (by decide) ?_
  refine yx_newa (at0 := .int) (a0 := (16, .inl (fun _ => 0))) (a := 0) C ac_int rfl (fun _ => ya_I _) (by decide) (by decide) (by decide) (by rw [zup_n _ _ _ (by omega)]; rw [zup_n _ _ _ (by omega)]; exact h.2.2.2.2.2.2.2.2.2.2.2.2.2.2.2.2.2.2.2.1) 19 4103 (by omega) (by omega) (Nat.le_of_ble_eq_true rfl) (Nat.le_of_ble_eq_true rfl) dX10_init_152 ?_
  refine yx_putF (ci := 10) (j := 38) (ty := (tyX10 38)) C tyX10 tyX10_ok nmX10 lay_X10 rfl hin rfl (by omega) (by rw [zup_n _ _ _ (by omega)]; rw [zup_s]) (by decide) fl_X10_65 rfl (by decide +kernel) rfl rfl (Nat.le_of_ble_eq_true rfl) dX10_init_154 ?_
  refine yx_cc (cc' := (va_up (va_up c0 b (.inr (10, [.int 0, .ref (o + (b + 1)), .ref (o + (b + 2)), .ref (o + (b + 3)), .ref (o + (b + 4)), .ref (o + (b + 5)), .ref (o + (b + 6)), .ref (o + (b + 7)), .ref (o + (b + 8)), .int 0, .int 0, .int 0, .int 0, .int 0, .long 0, .int 0, .int 0, .int 0, .ref (o + (b + 9)), .ref (o + (b + 10)), .ref (o + (b + 11)), .ref (o + (b + 12)), .int 0, .int 0, .int 0, .int 0, .int 0, .ref (o + (b + 13)), .ref (o + (b + 14)), .ref (o + (b + 15)), .int 0, .int 0, .int 0, .int 0, .int 0, .ref (o + (b + 16)), .ref (o + (b + 17)), .ref (o + (b + 18)), .ref (o + (b + 19)), .null, .null, .null, .long 0, .int 0, .null, .null, .int 0, .int 0, .null, .null]))) (b + 4) (.inl (cy 0, 4, .inl (fun _ => 0))))) (by rw [zup_cm (by omega), zup_up]; rfl) ?_
  refine yx_aload_n C dX10_init_157 0 rfl ?_
  refine yx_bipush (v := (6 : Int32)) C dX10_init_158 (by decide) ?_
  refine yx_newa (at0 := .int) (a0 := (6, .inl (fun _ => 0))) (a := 0) C ac_int rfl (fun _ => ya_I _) (by decide) (by decide) (by decide) (by rw [zup_n _ _ _ (by omega)]; rw [zup_n _ _ _ (by omega)]; exact h.2.2.2.2.2.2.2.2.2.2.2.2.2.2.2.2.2.2.2.2.1) 20 4109 (by omega) (by omega) (Nat.le_of_ble_eq_true rfl) (Nat.le_of_ble_eq_true rfl) dX10_init_160 ?_
  refine yx_putF (ci := 10) (j := 39) (ty := (tyX10 39)) C tyX10 tyX10_ok nmX10 lay_X10 rfl hin rfl (by omega) (by rw [zup_n _ _ _ (by omega)]; rw [zup_s]) (by decide) fl_X10_68 rfl (by decide +kernel) rfl rfl (Nat.le_of_ble_eq_true rfl) dX10_init_162 ?_
  refine yx_cc (cc' := (va_up (va_up c0 b (.inr (10, [.int 0, .ref (o + (b + 1)), .ref (o + (b + 2)), .ref (o + (b + 3)), .ref (o + (b + 4)), .ref (o + (b + 5)), .ref (o + (b + 6)), .ref (o + (b + 7)), .ref (o + (b + 8)), .int 0, .int 0, .int 0, .int 0, .int 0, .long 0, .int 0, .int 0, .int 0, .ref (o + (b + 9)), .ref (o + (b + 10)), .ref (o + (b + 11)), .ref (o + (b + 12)), .int 0, .int 0, .int 0, .int 0, .int 0, .ref (o + (b + 13)), .ref (o + (b + 14)), .ref (o + (b + 15)), .int 0, .int 0, .int 0, .int 0, .int 0, .ref (o + (b + 16)), .ref (o + (b + 17)), .ref (o + (b + 18)), .ref (o + (b + 19)), .ref (o + (b + 20)), .null, .null, .long 0, .int 0, .null, .null, .int 0, .int 0, .null, .null]))) (b + 4) (.inl (cy 0, 4, .inl (fun _ => 0))))) (by rw [zup_cm (by omega), zup_up]; rfl) ?_
  refine yx_aload_n C dX10_init_165 0 rfl ?_
  refine yx_bipush (v := (6 : Int32)) C dX10_init_166 (by decide) ?_
  refine yx_newa (at0 := .boolean) (a0 := (6, .inl (fun _ => 0))) (a := 2) C ac_boolean rfl (fun _ => ya_Z _) (by decide) (by decide) (by decide) (by rw [zup_n _ _ _ (by omega)]; rw [zup_n _ _ _ (by omega)]; exact h.2.2.2.2.2.2.2.2.2.2.2.2.2.2.2.2.2.2.2.2.2.1) 21 4115 (by omega) (by omega) (Nat.le_of_ble_eq_true rfl) (Nat.le_of_ble_eq_true rfl) dX10_init_168 ?_
  refine yx_putF (ci := 10) (j := 40) (ty := (tyX10 40)) C tyX10 tyX10_ok nmX10 lay_X10 rfl hin rfl (by omega) (by rw [zup_n _ _ _ (by omega)]; rw [zup_s]) (by decide) fl_X10_71 rfl (by decide +kernel) rfl rfl (Nat.le_of_ble_eq_true rfl) dX10_init_170 ?_
  refine yx_cc (cc' := (va_up (va_up c0 b (.inr (10, [.int 0, .ref (o + (b + 1)), .ref (o + (b + 2)), .ref (o + (b + 3)), .ref (o + (b + 4)), .ref (o + (b + 5)), .ref (o + (b + 6)), .ref (o + (b + 7)), .ref (o + (b + 8)), .int 0, .int 0, .int 0, .int 0, .int 0, .long 0, .int 0, .int 0, .int 0, .ref (o + (b + 9)), .ref (o + (b + 10)), .ref (o + (b + 11)), .ref (o + (b + 12)), .int 0, .int 0, .int 0, .int 0, .int 0, .ref (o + (b + 13)), .ref (o + (b + 14)), .ref (o + (b + 15)), .int 0, .int 0, .int 0, .int 0, .int 0, .ref (o + (b + 16)), .ref (o + (b + 17)), .ref (o + (b + 18)), .ref (o + (b + 19)), .ref (o + (b + 20)), .ref (o + (b + 21)), .null, .long 0, .int 0, .null, .null, .int 0, .int 0, .null, .null]))) (b + 4) (.inl (cy 0, 4, .inl (fun _ => 0))))) (by rw [zup_cm (by omega), zup_up]; rfl) ?_
  refine yx_aload_n C dX10_init_173 0 rfl ?_
  refine yx_sipush (v := (1200 : Int32)) C dX10_init_174 (by decide) ?_
  refine yx_newa (at0 := .long) (a0 := (1200, .inr (.inl (fun _ => 0)))) (a := 3) C ac_long rfl (fun _ => ya_J _) (by decide) (by decide) (by decide) (by rw [zup_n _ _ _ (by omega)]; rw [zup_n _ _ _ (by omega)]; exact h.2.2.2.2.2.2.2.2.2.2.2.2.2.2.2.2.2.2.2.2.2.2.1) 22 5315 (by omega) (by omega) (Nat.le_of_ble_eq_true rfl) (Nat.le_of_ble_eq_true rfl) dX10_init_177 ?_
  refine yx_putF (ci := 10) (j := 41) (ty := (tyX10 41)) C tyX10 tyX10_ok nmX10 lay_X10 rfl hin rfl (by omega) (by rw [zup_n _ _ _ (by omega)]; rw [zup_s]) (by decide) fl_X10_75 rfl (by decide +kernel) rfl rfl (Nat.le_of_ble_eq_true rfl) dX10_init_179 ?_
  refine yx_cc (cc' := (va_up (va_up c0 b (.inr (10, [.int 0, .ref (o + (b + 1)), .ref (o + (b + 2)), .ref (o + (b + 3)), .ref (o + (b + 4)), .ref (o + (b + 5)), .ref (o + (b + 6)), .ref (o + (b + 7)), .ref (o + (b + 8)), .int 0, .int 0, .int 0, .int 0, .int 0, .long 0, .int 0, .int 0, .int 0, .ref (o + (b + 9)), .ref (o + (b + 10)), .ref (o + (b + 11)), .ref (o + (b + 12)), .int 0, .int 0, .int 0, .int 0, .int 0, .ref (o + (b + 13)), .ref (o + (b + 14)), .ref (o + (b + 15)), .int 0, .int 0, .int 0, .int 0, .int 0, .ref (o + (b + 16)), .ref (o + (b + 17)), .ref (o + (b + 18)), .ref (o + (b + 19)), .ref (o + (b + 20)), .ref (o + (b + 21)), .ref (o + (b + 22)), .long 0, .int 0, .null, .null, .int 0, .int 0, .null, .null]))) (b + 4) (.inl (cy 0, 4, .inl (fun _ => 0))))) (by rw [zup_cm (by omega), zup_up]; rfl) ?_
  refine yx_aload_n C dX10_init_182 0 rfl ?_
  refine yx_bipush (v := (16 : Int32)) C dX10_init_183 (by decide) ?_
  refine yx_newa (at0 := .int) (a0 := (16, .inl (fun _ => 0))) (a := 0) C ac_int rfl (fun _ => ya_I _) (by decide) (by decide) (by decide) (by rw [zup_n _ _ _ (by omega)]; rw [zup_n _ _ _ (by omega)]; exact h.2.2.2.2.2.2.2.2.2.2.2.2.2.2.2.2.2.2.2.2.2.2.2.1) 23 5331 (by omega) (by omega) (Nat.le_of_ble_eq_true rfl) (Nat.le_of_ble_eq_true rfl) dX10_init_185 ?_
  refine yx_putF (ci := 10) (j := 44) (ty := (tyX10 44)) C tyX10 tyX10_ok nmX10 lay_X10 rfl hin rfl (by omega) (by rw [zup_n _ _ _ (by omega)]; rw [zup_s]) (by decide) fl_X10_79 rfl (by decide +kernel) rfl rfl (Nat.le_of_ble_eq_true rfl) dX10_init_187 ?_
  refine yx_cc (cc' := (va_up (va_up c0 b (.inr (10, [.int 0, .ref (o + (b + 1)), .ref (o + (b + 2)), .ref (o + (b + 3)), .ref (o + (b + 4)), .ref (o + (b + 5)), .ref (o + (b + 6)), .ref (o + (b + 7)), .ref (o + (b + 8)), .int 0, .int 0, .int 0, .int 0, .int 0, .long 0, .int 0, .int 0, .int 0, .ref (o + (b + 9)), .ref (o + (b + 10)), .ref (o + (b + 11)), .ref (o + (b + 12)), .int 0, .int 0, .int 0, .int 0, .int 0, .ref (o + (b + 13)), .ref (o + (b + 14)), .ref (o + (b + 15)), .int 0, .int 0, .int 0, .int 0, .int 0, .ref (o + (b + 16)), .ref (o + (b + 17)), .ref (o + (b + 18)), .ref (o + (b + 19)), .ref (o + (b + 20)), .ref (o + (b + 21)), .ref (o + (b + 22)), .long 0, .int 0, .ref (o + (b + 23)), .null, .int 0, .int 0, .null, .null]))) (b + 4) (.inl (cy 0, 4, .inl (fun _ => 0))))) (by rw [zup_cm (by omega), zup_up]; rfl) ?_
  refine yx_aload_n C dX10_init_190 0 rfl ?_
  refine yx_bipush (v := (16 : Int32)) C dX10_init_191 (by decide) ?_
  refine yx_newa (at0 := .int) (a0 := (16, .inl (fun _ => 0))) (a := 0) C ac_int rfl (fun _ => ya_I _) (by decide) (by decide) (by decide) (by rw [zup_n _ _ _ (by omega)]; rw [zup_n _ _ _ (by omega)]; exact h.2.2.2.2.2.2.2.2.2.2.2.2.2.2.2.2.2.2.2.2.2.2.2.2.1) 24 5347 (by omega) (by omega) (Nat.le_of_ble_eq_true rfl) (Nat.le_of_ble_eq_true rfl) dX10_init_193 ?_
  refine yx_putF (ci := 10) (j := 45) (ty := (tyX10 45)) C tyX10 tyX10_ok nmX10 lay_X10 rfl hin rfl (by omega) (by rw [zup_n _ _ _ (by omega)]; rw [zup_s]) (by decide) fl_X10_82 rfl (by decide +kernel) rfl rfl (Nat.le_of_ble_eq_true rfl) dX10_init_195 ?_
  refine yx_cc (cc' := (va_up (va_up c0 b (.inr (10, [.int 0, .ref (o + (b + 1)), .ref (o + (b + 2)), .ref (o + (b + 3)), .ref (o + (b + 4)), .ref (o + (b + 5)), .ref (o + (b + 6)), .ref (o + (b + 7)), .ref (o + (b + 8)), .int 0, .int 0, .int 0, .int 0, .int 0, .long 0, .int 0, .int 0, .int 0, .ref (o + (b + 9)), .ref (o + (b + 10)), .ref (o + (b + 11)), .ref (o + (b + 12)), .int 0, .int 0, .int 0, .int 0, .int 0, .ref (o + (b + 13)), .ref (o + (b + 14)), .ref (o + (b + 15)), .int 0, .int 0, .int 0, .int 0, .int 0, .ref (o + (b + 16)), .ref (o + (b + 17)), .ref (o + (b + 18)), .ref (o + (b + 19)), .ref (o + (b + 20)), .ref (o + (b + 21)), .ref (o + (b + 22)), .long 0, .int 0, .ref (o + (b + 23)), .ref (o + (b + 24)), .int 0, .int 0, .null, .null]))) (b + 4) (.inl (cy 0, 4, .inl (fun _ => 0))))) (by rw [zup_cm (by omega), zup_up]; rfl) ?_
  refine yx_aload_n C dX10_init_198 0 rfl ?_
  refine yx_iconst (v := (4 : Int32)) C dX10_init_199 (by decide) ?_
  refine yx_newa (at0 := .int) (a0 := (4, .inl (fun _ => 0))) (a := 0) C ac_int rfl (fun _ => ya_I _) (by decide) (by decide) (by decide) (by rw [zup_n _ _ _ (by omega)]; rw [zup_n _ _ _ (by omega)]; exact h.2.2.2.2.2.2.2.2.2.2.2.2.2.2.2.2.2.2.2.2.2.2.2.2.2.1) 25 5351 (by omega) (by omega) (Nat.le_of_ble_eq_true rfl) (Nat.le_of_ble_eq_true rfl) dX10_init_200 ?_
  refine yx_putF (ci := 10) (j := 48) (ty := (tyX10 48)) C tyX10 tyX10_ok nmX10 lay_X10 rfl hin rfl (by omega) (by rw [zup_n _ _ _ (by omega)]; rw [zup_s]) (by decide) fl_X10_85 rfl (by decide +kernel) rfl rfl (Nat.le_of_ble_eq_true rfl) dX10_init_202 ?_
  refine yx_cc (cc' := (va_up (va_up c0 b (.inr (10, [.int 0, .ref (o + (b + 1)), .ref (o + (b + 2)), .ref (o + (b + 3)), .ref (o + (b + 4)), .ref (o + (b + 5)), .ref (o + (b + 6)), .ref (o + (b + 7)), .ref (o + (b + 8)), .int 0, .int 0, .int 0, .int 0, .int 0, .long 0, .int 0, .int 0, .int 0, .ref (o + (b + 9)), .ref (o + (b + 10)), .ref (o + (b + 11)), .ref (o + (b + 12)), .int 0, .int 0, .int 0, .int 0, .int 0, .ref (o + (b + 13)), .ref (o + (b + 14)), .ref (o + (b + 15)), .int 0, .int 0, .int 0, .int 0, .int 0, .ref (o + (b + 16)), .ref (o + (b + 17)), .ref (o + (b + 18)), .ref (o + (b + 19)), .ref (o + (b + 20)), .ref (o + (b + 21)), .ref (o + (b + 22)), .long 0, .int 0, .ref (o + (b + 23)), .ref (o + (b + 24)), .int 0, .int 0, .ref (o + (b + 25)), .null]))) (b + 4) (.inl (cy 0, 4, .inl (fun _ => 0))))) (by rw [zup_cm (by omega), zup_up]; rfl) ?_
  refine yx_aload_n C dX10_init_205 0 rfl ?_
  refine yx_iconst (v := (3 : Int32)) C dX10_init_206 (by decide) ?_
  refine yx_newa (at0 := .boolean) (a0 := (3, .inl (fun _ => 0))) (a := 2) C ac_boolean rfl (fun _ => ya_Z _) (by decide) (by decide) (by decide) (by rw [zup_n _ _ _ (by omega)]; rw [zup_n _ _ _ (by omega)]; exact h.2.2.2.2.2.2.2.2.2.2.2.2.2.2.2.2.2.2.2.2.2.2.2.2.2.2) 26 5354 (by omega) (by omega) (Nat.le_of_ble_eq_true rfl) (Nat.le_of_ble_eq_true rfl) dX10_init_207 ?_
  refine yx_putF (ci := 10) (j := 49) (ty := (tyX10 49)) C tyX10 tyX10_ok nmX10 lay_X10 rfl hin rfl (by omega) (by rw [zup_n _ _ _ (by omega)]; rw [zup_s]) (by decide) fl_X10_88 rfl (by decide +kernel) rfl rfl (Nat.le_of_ble_eq_true rfl) dX10_init_209 ?_
  refine yx_cc (cc' := (va_up (va_up c0 b (.inr (10, [.int 0, .ref (o + (b + 1)), .ref (o + (b + 2)), .ref (o + (b + 3)), .ref (o + (b + 4)), .ref (o + (b + 5)), .ref (o + (b + 6)), .ref (o + (b + 7)), .ref (o + (b + 8)), .int 0, .int 0, .int 0, .int 0, .int 0, .long 0, .int 0, .int 0, .int 0, .ref (o + (b + 9)), .ref (o + (b + 10)), .ref (o + (b + 11)), .ref (o + (b + 12)), .int 0, .int 0, .int 0, .int 0, .int 0, .ref (o + (b + 13)), .ref (o + (b + 14)), .ref (o + (b + 15)), .int 0, .int 0, .int 0, .int 0, .int 0, .ref (o + (b + 16)), .ref (o + (b + 17)), .ref (o + (b + 18)), .ref (o + (b + 19)), .ref (o + (b + 20)), .ref (o + (b + 21)), .ref (o + (b + 22)), .long 0, .int 0, .ref (o + (b + 23)), .ref (o + (b + 24)), .int 0, .int 0, .ref (o + (b + 25)), .ref (o + (b + 26))]))) (b + 4) (.inl (cy 0, 4, .inl (fun _ => 0))))) (by rw [zup_cm (by omega), zup_up]; rfl) ?_
  refine yx_aload_n C dX10_init_212 0 rfl ?_
  refine yx_getR (j := 4) (v := .ref (o + (b + 4))) C (⟨RX10, TX10, 50, rfl, lay_X10, by decide, fl_X10_20⟩ : zFG RX10 20 10 4) (by omega) (by rw [zup_n _ _ _ (by omega)]; rw [zup_s]) rfl dX10_init_213 ?_
  refine yx_iconst (v := (0 : Int32)) C dX10_init_216 (by decide) ?_
  refine yx_iconst (v := (-1 : Int32)) C dX10_init_217 (by decide) ?_
  refine yx_iast C (by omega) (zup_s _ _ _) (by unfold vp_in; decide) dX10_init_218 ?_
  refine yx_cc (cc' := (va_up c0 b (.inr (10, [.int 0, .ref (o + (b + 1)), .ref (o + (b + 2)), .ref (o + (b + 3)), .ref (o + (b + 4)), .ref (o + (b + 5)), .ref (o + (b + 6)), .ref (o + (b + 7)), .ref (o + (b + 8)), .int 0, .int 0, .int 0, .int 0, .int 0, .long 0, .int 0, .int 0, .int 0, .ref (o + (b + 9)), .ref (o + (b + 10)), .ref (o + (b + 11)), .ref (o + (b + 12)), .int 0, .int 0, .int 0, .int 0, .int 0, .ref (o + (b + 13)), .ref (o + (b + 14)), .ref (o + (b + 15)), .int 0, .int 0, .int 0, .int 0, .int 0, .ref (o + (b + 16)), .ref (o + (b + 17)), .ref (o + (b + 18)), .ref (o + (b + 19)), .ref (o + (b + 20)), .ref (o + (b + 21)), .ref (o + (b + 22)), .long 0, .int 0, .ref (o + (b + 23)), .ref (o + (b + 24)), .int 0, .int 0, .ref (o + (b + 25)), .ref (o + (b + 26))])))) (by rw [zup_up]; exact zup_id (by rw [zup_n _ _ _ (by omega)]; exact h.2.2.2.2.1)) ?_
  refine yx_cc (cc' := c0) (zup_id h.1) ?_
  exact yx_ret C hr dX10_init_219
