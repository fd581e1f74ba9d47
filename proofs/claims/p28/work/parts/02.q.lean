/-! decode by the bytes at the place alone -/
def zqg : List Nat → Nat → Option Nat
  | [], _ => none
  | a :: _, 0 => some a
  | _ :: l, j + 1 => zqg l j
theorem zqg_eq : ∀ (l : List Nat) (j : Nat), zqg l j = l[j]?
  | [], _ => by simp [zqg]
  | _ :: _, 0 => by simp [zqg]
  | _ :: l, j + 1 => by simp [zqg, zqg_eq l j]
def zqc (c : ByteArray) (o : Nat) (l : List Nat) : Prop := ∀ j b, zqg l j = some b → ∃ h : o + j < c.size, (c[o + j]'h).toNat = b
theorem zq_of {c : ByteArray} {o : Nat} (n : Nat) {l : List Nat} (h : ((c.data.toList.drop o).take n).map UInt8.toNat = l) : zqc c o l := by
  intro j b e
  rw [zqg_eq, ← h, List.getElem?_map, Option.map_eq_some_iff] at e
  obtain ⟨x, e1, e2⟩ := e
  rw [List.getElem?_take] at e1
  by_cases q : j < n
  · rw [if_pos q, List.getElem?_drop] at e1
    obtain ⟨h1, h2⟩ := List.getElem?_eq_some_iff.mp e1
    subst h2
    exact ⟨h1, e2⟩
  · rw [if_neg q] at e1
    cases e1
theorem zq_u1 {c : ByteArray} {p b : Nat} (h : ∃ h : p < c.size, (c[p]'h).toNat = b) : (Jvm.ClassFile.Reader.u1 : Jvm.ClassFile.Decoder Nat) c p = .ok (b, p + 1) := by
  obtain ⟨h, e⟩ := h
  subst e
  have k : ∀ d : Decidable (p < c.size), (@dite (Jvm.ClassFile.Decoder Nat) (p < c.size) d (fun h => (do set (p + 1); pure (c[p]'h).toNat)) (fun _ => throw (Jvm.ClassFile.HasTruncated.truncated p))) c p = .ok ((c[p]'h).toNat, p + 1) := fun d => by
    cases d with
    | isTrue h2 => rfl
    | isFalse h2 => exact absurd h h2
  exact k _
theorem zq_bind {α β : Type} {x : Jvm.ClassFile.Decoder α} {k : α → Jvm.ClassFile.Decoder β} {c : ByteArray} {p p' : Nat} {a : α} (h : x c p = .ok (a, p')) : (x >>= k) c p = k a c p' := by
  show ((x c p) >>= fun y => k y.1 c y.2) = _
  rw [h]
  rfl
theorem zq_map {α β : Type} {x : Jvm.ClassFile.Decoder α} {f : α → β} {c : ByteArray} {p p' : Nat} {a : α} (h : x c p = .ok (a, p')) : (f <$> x) c p = .ok (f a, p') := by
  show ((x c p) >>= fun y => .ok (f y.1, y.2)) = _
  rw [h]
  rfl
theorem zq_dec {c : ByteArray} {p n : Nat} {i : Jvm.ClassFile.Instr} (h : Jvm.ClassFile.Decoder.instr p c p = .ok (i, p + n)) : decode c p = .ok (i, n) := by
  have e : (Jvm.ClassFile.Decoder.instr p).runAt c p = .ok (i, p + n) := h
  unfold decode
  rw [e]
  show Except.ok (i, p + n - p) = _
  rw [Nat.add_sub_cancel_left]
def zqO (op : Nat) (r : Jvm.ClassFile.Decoder Jvm.ClassFile.Instr) : Prop := ∃ f : Nat → Nat → Jvm.ClassFile.Decoder Jvm.ClassFile.Instr, (∀ pc, Jvm.ClassFile.Decoder.instr pc = Jvm.ClassFile.Reader.u1 >>= f pc) ∧ ∀ pc, f pc op = r
theorem zq_st {op : Nat} {r : Jvm.ClassFile.Decoder Jvm.ClassFile.Instr} (hb : zqO op r) {c : ByteArray} {o : Nat} {l : List Nat} (H : zqc c o l) {j p : Nat} (hp : o + j = p) (e : zqg l j = some op) : Jvm.ClassFile.Decoder.instr p c p = r c (p + 1) := by
  obtain ⟨f, h1, h2⟩ := hb
  subst hp
  rw [h1]
  exact (zq_bind (zq_u1 (H j op e))).trans (by rw [h2])
theorem zq_b {c : ByteArray} {o : Nat} {l : List Nat} (H : zqc c o l) {j p b : Nat} (hp : o + j = p) {m : Nat} (e : zqg l (j + m) = some b) : (Jvm.ClassFile.Reader.u1 : Jvm.ClassFile.Decoder Nat) c (p + m) = .ok (b, p + m + 1) := by
  have k : ∀ x, o + (j + m) = x → ∃ h : x < c.size, (c[x]'h).toNat = b := fun x hx => by
    subst hx
    exact H (j + m) b e
  exact zq_u1 (k (p + m) (by rw [← Nat.add_assoc, hp]))
theorem zq_u2 {c : ByteArray} {o : Nat} {l : List Nat} (H : zqc c o l) {j p a b : Nat} (hp : o + j = p) (ea : zqg l (j + 1) = some a) (eb : zqg l (j + 2) = some b) : (Jvm.ClassFile.Reader.u2 : Jvm.ClassFile.Decoder Nat) c (p + 1) = .ok (a * 256 + b, p + 3) :=
  (zq_bind (zq_b H hp ea)).trans ((zq_bind (zq_b H hp eb)).trans rfl)
/-- no operand; one byte; a signed byte; two bytes; a signed pair; a byte and a signed byte -/
theorem zq_0 {op : Nat} {i : Jvm.ClassFile.Instr} (hb : zqO op (pure i)) {c : ByteArray} {o : Nat} {l : List Nat} (H : zqc c o l) {p : Nat} (j : Nat) (hp : o + j = p) (e : zqg l j = some op) : decode c p = .ok (i, 1) :=
  zq_dec ((zq_st hb H hp e).trans rfl)
theorem zq_1 {op : Nat} {g : Nat → Jvm.ClassFile.Instr} (hb : zqO op (Jvm.ClassFile.Reader.u1 >>= fun x => pure (g x))) {c : ByteArray} {o : Nat} {l : List Nat} (H : zqc c o l) {p : Nat} (j : Nat) (hp : o + j = p) (e : zqg l j = some op) (n : Nat) (en : zqg l (j + 1) = some n) : decode c p = .ok (g n, 2) :=
  zq_dec ((zq_st hb H hp e).trans ((zq_bind (zq_b H hp en)).trans rfl))
theorem zq_1s {op : Nat} {g : Int → Jvm.ClassFile.Instr} (hb : zqO op (Jvm.ClassFile.Reader.s1 >>= fun x => pure (g x))) {c : ByteArray} {o : Nat} {l : List Nat} (H : zqc c o l) {p : Nat} (j : Nat) (hp : o + j = p) (e : zqg l j = some op) (n : Nat) (en : zqg l (j + 1) = some n) (t : Int) (ht : Jvm.ClassFile.Reader.signed 8 n = t) : decode c p = .ok (g t, 2) := by
  subst ht
  exact zq_dec ((zq_st hb H hp e).trans ((zq_bind (zq_map (zq_b H hp en))).trans rfl))
theorem zq_2 {op : Nat} {g : Nat → Jvm.ClassFile.Instr} (hb : zqO op (Jvm.ClassFile.Reader.u2 >>= fun x => pure (g x))) {c : ByteArray} {o : Nat} {l : List Nat} (H : zqc c o l) {p : Nat} (j : Nat) (hp : o + j = p) (e : zqg l j = some op) (a b : Nat) (ea : zqg l (j + 1) = some a) (eb : zqg l (j + 2) = some b) (n : Nat) (hn : a * 256 + b = n) : decode c p = .ok (g n, 3) := by
  subst hn
  exact zq_dec ((zq_st hb H hp e).trans ((zq_bind (zq_u2 H hp ea eb)).trans rfl))
theorem zq_2s {op : Nat} {g : Int → Jvm.ClassFile.Instr} (hb : zqO op (Jvm.ClassFile.Reader.s2 >>= fun x => pure (g x))) {c : ByteArray} {o : Nat} {l : List Nat} (H : zqc c o l) {p : Nat} (j : Nat) (hp : o + j = p) (e : zqg l j = some op) (a b : Nat) (ea : zqg l (j + 1) = some a) (eb : zqg l (j + 2) = some b) (t : Int) (ht : Jvm.ClassFile.Reader.signed 16 (a * 256 + b) = t) : decode c p = .ok (g t, 3) := by
  subst ht
  exact zq_dec ((zq_st hb H hp e).trans ((zq_bind (zq_map (zq_u2 H hp ea eb))).trans rfl))
theorem zq_ii {op : Nat} {g : Nat → Int → Jvm.ClassFile.Instr} (hb : zqO op (Jvm.ClassFile.Reader.u1 >>= fun x => Jvm.ClassFile.Reader.s1 >>= fun y => pure (g x y))) {c : ByteArray} {o : Nat} {l : List Nat} (H : zqc c o l) {p : Nat} (j : Nat) (hp : o + j = p) (e : zqg l j = some op) (a b : Nat) (ea : zqg l (j + 1) = some a) (eb : zqg l (j + 2) = some b) (t : Int) (ht : Jvm.ClassFile.Reader.signed 8 b = t) : decode c p = .ok (g a t, 3) := by
  subst ht
  exact zq_dec ((zq_st hb H hp e).trans ((zq_bind (zq_b H hp ea)).trans ((zq_bind (zq_map (zq_b H hp (m := 2) eb))).trans rfl)))

theorem zo_1 : zqO 1 (pure (.aconst_null)) := ⟨_, fun _ => rfl, fun _ => rfl⟩
theorem zo_2 : zqO 2 (pure (.iconst (-1))) := ⟨_, fun _ => rfl, fun _ => rfl⟩
theorem zo_3 : zqO 3 (pure (.iconst 0)) := ⟨_, fun _ => rfl, fun _ => rfl⟩
theorem zo_4 : zqO 4 (pure (.iconst 1)) := ⟨_, fun _ => rfl, fun _ => rfl⟩
theorem zo_5 : zqO 5 (pure (.iconst 2)) := ⟨_, fun _ => rfl, fun _ => rfl⟩
theorem zo_6 : zqO 6 (pure (.iconst 3)) := ⟨_, fun _ => rfl, fun _ => rfl⟩
theorem zo_7 : zqO 7 (pure (.iconst 4)) := ⟨_, fun _ => rfl, fun _ => rfl⟩
theorem zo_8 : zqO 8 (pure (.iconst 5)) := ⟨_, fun _ => rfl, fun _ => rfl⟩
theorem zo_9 : zqO 9 (pure (.lconst 0)) := ⟨_, fun _ => rfl, fun _ => rfl⟩
theorem zo_10 : zqO 10 (pure (.lconst 1)) := ⟨_, fun _ => rfl, fun _ => rfl⟩
theorem zo_16 : zqO 16 (Jvm.ClassFile.Reader.s1 >>= fun x => pure (.bipush x)) := ⟨_, fun _ => rfl, fun _ => rfl⟩
theorem zo_17 : zqO 17 (Jvm.ClassFile.Reader.s2 >>= fun x => pure (.sipush x)) := ⟨_, fun _ => rfl, fun _ => rfl⟩
theorem zo_18 : zqO 18 (Jvm.ClassFile.Reader.u1 >>= fun x => pure (.ldc x)) := ⟨_, fun _ => rfl, fun _ => rfl⟩
theorem zo_19 : zqO 19 (Jvm.ClassFile.Reader.u2 >>= fun x => pure (.ldc_w x)) := ⟨_, fun _ => rfl, fun _ => rfl⟩
theorem zo_20 : zqO 20 (Jvm.ClassFile.Reader.u2 >>= fun x => pure (.ldc2_w x)) := ⟨_, fun _ => rfl, fun _ => rfl⟩
theorem zo_21 : zqO 21 (Jvm.ClassFile.Reader.u1 >>= fun x => pure (.iload x)) := ⟨_, fun _ => rfl, fun _ => rfl⟩
theorem zo_22 : zqO 22 (Jvm.ClassFile.Reader.u1 >>= fun x => pure (.lload x)) := ⟨_, fun _ => rfl, fun _ => rfl⟩
theorem zo_25 : zqO 25 (Jvm.ClassFile.Reader.u1 >>= fun x => pure (.aload x)) := ⟨_, fun _ => rfl, fun _ => rfl⟩
theorem zo_26 : zqO 26 (pure (.iload_n 0)) := ⟨_, fun _ => rfl, fun _ => rfl⟩
theorem zo_27 : zqO 27 (pure (.iload_n 1)) := ⟨_, fun _ => rfl, fun _ => rfl⟩
theorem zo_28 : zqO 28 (pure (.iload_n 2)) := ⟨_, fun _ => rfl, fun _ => rfl⟩
theorem zo_29 : zqO 29 (pure (.iload_n 3)) := ⟨_, fun _ => rfl, fun _ => rfl⟩
theorem zo_30 : zqO 30 (pure (.lload_n 0)) := ⟨_, fun _ => rfl, fun _ => rfl⟩
theorem zo_31 : zqO 31 (pure (.lload_n 1)) := ⟨_, fun _ => rfl, fun _ => rfl⟩
theorem zo_32 : zqO 32 (pure (.lload_n 2)) := ⟨_, fun _ => rfl, fun _ => rfl⟩
theorem zo_42 : zqO 42 (pure (.aload_n 0)) := ⟨_, fun _ => rfl, fun _ => rfl⟩
theorem zo_43 : zqO 43 (pure (.aload_n 1)) := ⟨_, fun _ => rfl, fun _ => rfl⟩
theorem zo_44 : zqO 44 (pure (.aload_n 2)) := ⟨_, fun _ => rfl, fun _ => rfl⟩
theorem zo_45 : zqO 45 (pure (.aload_n 3)) := ⟨_, fun _ => rfl, fun _ => rfl⟩
theorem zo_46 : zqO 46 (pure (.iaload)) := ⟨_, fun _ => rfl, fun _ => rfl⟩
theorem zo_47 : zqO 47 (pure (.laload)) := ⟨_, fun _ => rfl, fun _ => rfl⟩
theorem zo_50 : zqO 50 (pure (.aaload)) := ⟨_, fun _ => rfl, fun _ => rfl⟩
theorem zo_51 : zqO 51 (pure (.baload)) := ⟨_, fun _ => rfl, fun _ => rfl⟩
theorem zo_54 : zqO 54 (Jvm.ClassFile.Reader.u1 >>= fun x => pure (.istore x)) := ⟨_, fun _ => rfl, fun _ => rfl⟩
theorem zo_55 : zqO 55 (Jvm.ClassFile.Reader.u1 >>= fun x => pure (.lstore x)) := ⟨_, fun _ => rfl, fun _ => rfl⟩
theorem zo_58 : zqO 58 (Jvm.ClassFile.Reader.u1 >>= fun x => pure (.astore x)) := ⟨_, fun _ => rfl, fun _ => rfl⟩
theorem zo_59 : zqO 59 (pure (.istore_n 0)) := ⟨_, fun _ => rfl, fun _ => rfl⟩
theorem zo_60 : zqO 60 (pure (.istore_n 1)) := ⟨_, fun _ => rfl, fun _ => rfl⟩
theorem zo_61 : zqO 61 (pure (.istore_n 2)) := ⟨_, fun _ => rfl, fun _ => rfl⟩
theorem zo_62 : zqO 62 (pure (.istore_n 3)) := ⟨_, fun _ => rfl, fun _ => rfl⟩
theorem zo_64 : zqO 64 (pure (.lstore_n 1)) := ⟨_, fun _ => rfl, fun _ => rfl⟩
theorem zo_65 : zqO 65 (pure (.lstore_n 2)) := ⟨_, fun _ => rfl, fun _ => rfl⟩
theorem zo_76 : zqO 76 (pure (.astore_n 1)) := ⟨_, fun _ => rfl, fun _ => rfl⟩
theorem zo_77 : zqO 77 (pure (.astore_n 2)) := ⟨_, fun _ => rfl, fun _ => rfl⟩
theorem zo_78 : zqO 78 (pure (.astore_n 3)) := ⟨_, fun _ => rfl, fun _ => rfl⟩
theorem zo_79 : zqO 79 (pure (.iastore)) := ⟨_, fun _ => rfl, fun _ => rfl⟩
theorem zo_80 : zqO 80 (pure (.lastore)) := ⟨_, fun _ => rfl, fun _ => rfl⟩
theorem zo_83 : zqO 83 (pure (.aastore)) := ⟨_, fun _ => rfl, fun _ => rfl⟩
theorem zo_84 : zqO 84 (pure (.bastore)) := ⟨_, fun _ => rfl, fun _ => rfl⟩
theorem zo_87 : zqO 87 (pure (.pop)) := ⟨_, fun _ => rfl, fun _ => rfl⟩
theorem zo_88 : zqO 88 (pure (.pop2)) := ⟨_, fun _ => rfl, fun _ => rfl⟩
theorem zo_89 : zqO 89 (pure (.dup)) := ⟨_, fun _ => rfl, fun _ => rfl⟩
theorem zo_92 : zqO 92 (pure (.dup2)) := ⟨_, fun _ => rfl, fun _ => rfl⟩
theorem zo_96 : zqO 96 (pure (.iadd)) := ⟨_, fun _ => rfl, fun _ => rfl⟩
theorem zo_97 : zqO 97 (pure (.ladd)) := ⟨_, fun _ => rfl, fun _ => rfl⟩
theorem zo_100 : zqO 100 (pure (.isub)) := ⟨_, fun _ => rfl, fun _ => rfl⟩
theorem zo_104 : zqO 104 (pure (.imul)) := ⟨_, fun _ => rfl, fun _ => rfl⟩
theorem zo_105 : zqO 105 (pure (.lmul)) := ⟨_, fun _ => rfl, fun _ => rfl⟩
theorem zo_108 : zqO 108 (pure (.idiv)) := ⟨_, fun _ => rfl, fun _ => rfl⟩
theorem zo_109 : zqO 109 (pure (.ldiv)) := ⟨_, fun _ => rfl, fun _ => rfl⟩
theorem zo_112 : zqO 112 (pure (.irem)) := ⟨_, fun _ => rfl, fun _ => rfl⟩
theorem zo_113 : zqO 113 (pure (.lrem)) := ⟨_, fun _ => rfl, fun _ => rfl⟩
theorem zo_116 : zqO 116 (pure (.ineg)) := ⟨_, fun _ => rfl, fun _ => rfl⟩
theorem zo_120 : zqO 120 (pure (.ishl)) := ⟨_, fun _ => rfl, fun _ => rfl⟩
theorem zo_121 : zqO 121 (pure (.lshl)) := ⟨_, fun _ => rfl, fun _ => rfl⟩
theorem zo_122 : zqO 122 (pure (.ishr)) := ⟨_, fun _ => rfl, fun _ => rfl⟩
theorem zo_124 : zqO 124 (pure (.iushr)) := ⟨_, fun _ => rfl, fun _ => rfl⟩
theorem zo_126 : zqO 126 (pure (.iand)) := ⟨_, fun _ => rfl, fun _ => rfl⟩
theorem zo_128 : zqO 128 (pure (.ior)) := ⟨_, fun _ => rfl, fun _ => rfl⟩
theorem zo_129 : zqO 129 (pure (.lor)) := ⟨_, fun _ => rfl, fun _ => rfl⟩
theorem zo_130 : zqO 130 (pure (.ixor)) := ⟨_, fun _ => rfl, fun _ => rfl⟩
theorem zo_132 : zqO 132 (Jvm.ClassFile.Reader.u1 >>= fun x => Jvm.ClassFile.Reader.s1 >>= fun y => pure (.iinc x y)) := ⟨_, fun _ => rfl, fun _ => rfl⟩
theorem zo_133 : zqO 133 (pure (.i2l)) := ⟨_, fun _ => rfl, fun _ => rfl⟩
theorem zo_145 : zqO 145 (pure (.i2b)) := ⟨_, fun _ => rfl, fun _ => rfl⟩
theorem zo_146 : zqO 146 (pure (.i2c)) := ⟨_, fun _ => rfl, fun _ => rfl⟩
theorem zo_148 : zqO 148 (pure (.lcmp)) := ⟨_, fun _ => rfl, fun _ => rfl⟩
theorem zo_153 : zqO 153 (Jvm.ClassFile.Reader.s2 >>= fun x => pure (.ifCond .eq x)) := ⟨_, fun _ => rfl, fun _ => rfl⟩
theorem zo_154 : zqO 154 (Jvm.ClassFile.Reader.s2 >>= fun x => pure (.ifCond .ne x)) := ⟨_, fun _ => rfl, fun _ => rfl⟩
theorem zo_155 : zqO 155 (Jvm.ClassFile.Reader.s2 >>= fun x => pure (.ifCond .lt x)) := ⟨_, fun _ => rfl, fun _ => rfl⟩
theorem zo_156 : zqO 156 (Jvm.ClassFile.Reader.s2 >>= fun x => pure (.ifCond .ge x)) := ⟨_, fun _ => rfl, fun _ => rfl⟩
theorem zo_157 : zqO 157 (Jvm.ClassFile.Reader.s2 >>= fun x => pure (.ifCond .gt x)) := ⟨_, fun _ => rfl, fun _ => rfl⟩
theorem zo_158 : zqO 158 (Jvm.ClassFile.Reader.s2 >>= fun x => pure (.ifCond .le x)) := ⟨_, fun _ => rfl, fun _ => rfl⟩
theorem zo_159 : zqO 159 (Jvm.ClassFile.Reader.s2 >>= fun x => pure (.if_icmp .eq x)) := ⟨_, fun _ => rfl, fun _ => rfl⟩
theorem zo_160 : zqO 160 (Jvm.ClassFile.Reader.s2 >>= fun x => pure (.if_icmp .ne x)) := ⟨_, fun _ => rfl, fun _ => rfl⟩
theorem zo_161 : zqO 161 (Jvm.ClassFile.Reader.s2 >>= fun x => pure (.if_icmp .lt x)) := ⟨_, fun _ => rfl, fun _ => rfl⟩
theorem zo_162 : zqO 162 (Jvm.ClassFile.Reader.s2 >>= fun x => pure (.if_icmp .ge x)) := ⟨_, fun _ => rfl, fun _ => rfl⟩
theorem zo_163 : zqO 163 (Jvm.ClassFile.Reader.s2 >>= fun x => pure (.if_icmp .gt x)) := ⟨_, fun _ => rfl, fun _ => rfl⟩
theorem zo_164 : zqO 164 (Jvm.ClassFile.Reader.s2 >>= fun x => pure (.if_icmp .le x)) := ⟨_, fun _ => rfl, fun _ => rfl⟩
theorem zo_167 : zqO 167 (Jvm.ClassFile.Reader.s2 >>= fun x => pure (.goto x)) := ⟨_, fun _ => rfl, fun _ => rfl⟩
theorem zo_172 : zqO 172 (pure (.ireturn)) := ⟨_, fun _ => rfl, fun _ => rfl⟩
theorem zo_173 : zqO 173 (pure (.lreturn)) := ⟨_, fun _ => rfl, fun _ => rfl⟩
theorem zo_176 : zqO 176 (pure (.areturn)) := ⟨_, fun _ => rfl, fun _ => rfl⟩
theorem zo_177 : zqO 177 (pure (.return_)) := ⟨_, fun _ => rfl, fun _ => rfl⟩
theorem zo_178 : zqO 178 (Jvm.ClassFile.Reader.u2 >>= fun x => pure (.getstatic x)) := ⟨_, fun _ => rfl, fun _ => rfl⟩
theorem zo_180 : zqO 180 (Jvm.ClassFile.Reader.u2 >>= fun x => pure (.getfield x)) := ⟨_, fun _ => rfl, fun _ => rfl⟩
theorem zo_181 : zqO 181 (Jvm.ClassFile.Reader.u2 >>= fun x => pure (.putfield x)) := ⟨_, fun _ => rfl, fun _ => rfl⟩
theorem zo_182 : zqO 182 (Jvm.ClassFile.Reader.u2 >>= fun x => pure (.invokevirtual x)) := ⟨_, fun _ => rfl, fun _ => rfl⟩
theorem zo_183 : zqO 183 (Jvm.ClassFile.Reader.u2 >>= fun x => pure (.invokespecial x)) := ⟨_, fun _ => rfl, fun _ => rfl⟩
theorem zo_184 : zqO 184 (Jvm.ClassFile.Reader.u2 >>= fun x => pure (.invokestatic x)) := ⟨_, fun _ => rfl, fun _ => rfl⟩
theorem zo_187 : zqO 187 (Jvm.ClassFile.Reader.u2 >>= fun x => pure (.new x)) := ⟨_, fun _ => rfl, fun _ => rfl⟩
theorem zo_189 : zqO 189 (Jvm.ClassFile.Reader.u2 >>= fun x => pure (.anewarray x)) := ⟨_, fun _ => rfl, fun _ => rfl⟩
theorem zo_190 : zqO 190 (pure (.arraylength)) := ⟨_, fun _ => rfl, fun _ => rfl⟩
theorem zo_191 : zqO 191 (pure (.athrow)) := ⟨_, fun _ => rfl, fun _ => rfl⟩
theorem zo_198 : zqO 198 (Jvm.ClassFile.Reader.s2 >>= fun x => pure (.ifnull x)) := ⟨_, fun _ => rfl, fun _ => rfl⟩
theorem zo_199 : zqO 199 (Jvm.ClassFile.Reader.s2 >>= fun x => pure (.ifnonnull x)) := ⟨_, fun _ => rfl, fun _ => rfl⟩
