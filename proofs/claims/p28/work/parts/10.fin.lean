theorem σ0_row {k : Nat} (h : k ≠ 1 ∧ k ≠ 44 ∧ k ≠ 86 ∧ k ≠ 128 ∧ k ≠ 227) : σ0.1 k = fun _ => 0 := by
  funext j
  obtain ⟨h1, h2, h3, h4, h5⟩ := h
  simp [σ0, h1, h2, h3, h4, h5]
theorem zf_a {cy : Nat → ClassId} {o k a n : Nat} (hs : zsh k = za a n) (h : k ≠ 1 ∧ k ≠ 44 ∧ k ≠ 86 ∧ k ≠ 128 ∧ k ≠ 227) : zfin cy o k = .inl (cy a, n, .inl (fun _ => 0)) := by
  unfold zfin
  rw [hs, zE_a, σ0_row h]
theorem zf_r {cy : Nat → ClassId} {o k a n : Nat} {fds : List (Nat × Nat)} (hs : zsh k = zr a n fds) : zfin cy o k = .inl (cy a, n, .inr (.inr (.inr (.inr (fun i => (fds[i]?).map (fun fd => o + (k + fd.2))))))) := by
  unfold zfin
  rw [hs, zE_r]
def zVs (g : Nat → Nat) (k : Nat) (r : Nat → Int32) (w : Nat → Int64) : Nat → List (Nat × Nat) → List Value
  | _, [] => []
  | j, fd :: t => zV g k r w j fd :: zVs g k r w (j + 1) t
theorem zVs_eq (g : Nat → Nat) (k : Nat) (r : Nat → Int32) (w : Nat → Int64) : ∀ (fds : List (Nat × Nat)) (j : Nat), fds.mapIdx (fun i => zV g k r w (i + j)) = zVs g k r w j fds := by
  intro fds
  induction fds with
  | nil => intro j; rfl
  | cons a t ih =>
    intro j
    rw [List.mapIdx_cons]
    show zV g k r w (0 + j) a :: List.mapIdx (fun i => zV g k r w (i + 1 + j)) t = _
    rw [show (fun i => zV g k r w (i + 1 + j)) = (fun i => zV g k r w (i + (j + 1))) from funext (fun i => by rw [show i + 1 + j = i + (j + 1) by omega]), ih (j + 1), Nat.zero_add]
    rfl
theorem zf_o {cy : Nat → ClassId} {o k ci : Nat} {fds : List (Nat × Nat)} {r : Nat → Int32} (hs : zsh k = zo ci fds) (h : σ0.1 k = r) : zfin cy o k = .inr (ci, zVs (fun k => o + k) k r (fun _ => 0) 0 fds) := by
  unfold zfin
  rw [hs, zE_o, h, ← zVs_eq]
  rfl
theorem σ0_st {k : Nat} (h : k = 1 ∨ k = 44 ∨ k = 86 ∨ k = 128) : σ0.1 k = fun j => if j = 7 then -1 else 0 := by
  funext j
  by_cases hj : j = 7
  · simp [σ0, h, hj]
  · rcases h with h | h | h | h <;> subst h <;> simp [σ0, hj]
theorem zfo_0 (cy : Nat → ClassId) (o : Nat) : zfin cy o 0 = .inr (9, [.ref (o + (0 + 1)), .ref (o + (0 + 43)), .ref (o + (0 + 170)), .ref (o + (0 + 171)), .ref (o + (0 + 190)), .ref (o + (0 + 195)), .ref (o + (0 + 198)), .ref (o + (0 + 200)), .ref (o + (0 + 207)), .ref (o + (0 + 210)), .ref (o + (0 + 222))]) := (zf_o (fds := [(0, 1), (0, 43), (0, 170), (0, 171), (0, 190), (0, 195), (0, 198), (0, 200), (0, 207), (0, 210), (0, 222)]) (by decide +kernel) (σ0_row (by decide))).trans rfl
theorem zfo_1 (cy : Nat → ClassId) (o : Nat) : zfin cy o 1 = .inr (8, [.ref (o + (1 + 1)), .ref (o + (1 + 2)), .ref (o + (1 + 27)), .ref (o + (1 + 34)), .ref (o + (1 + 41)), .int 0, .int 0, .int (-1)]) := (zf_o (fds := [(0, 1), (0, 2), (0, 27), (0, 34), (0, 41), (1, 0), (1, 0), (1, 0)]) (by decide +kernel) (σ0_st (by decide))).trans rfl
theorem zfr_2 (cy : Nat → ClassId) (o : Nat) : zfin cy o 2 = .inl (cy 1, 600, .inl (fun _ => 0)) := zf_a (by decide +kernel) (by decide)
theorem zfq_3 (cy : Nat → ClassId) (o : Nat) : zfin cy o 3 = .inl (cy 4, 2, .inr (.inr (.inr (.inr (fun i => (([(0, 1), (0, 13)] : List (Nat × Nat))[i]?).map (fun fd => o + (3 + fd.2))))))) := zf_r (by decide +kernel)
theorem zfo_4 (cy : Nat → ClassId) (o : Nat) : zfin cy o 4 = .inr (0, [.ref (o + (4 + 1)), .ref (o + (4 + 2)), .ref (o + (4 + 3)), .ref (o + (4 + 4)), .ref (o + (4 + 5)), .ref (o + (4 + 6)), .ref (o + (4 + 7)), .ref (o + (4 + 8)), .ref (o + (4 + 9)), .ref (o + (4 + 10)), .ref (o + (4 + 11)), .int 0, .int 0, .int 0, .int 0, .int 0, .int 0, .int 0]) := (zf_o (fds := [(0, 1), (0, 2), (0, 3), (0, 4), (0, 5), (0, 6), (0, 7), (0, 8), (0, 9), (0, 10), (0, 11), (1, 0), (1, 0), (1, 0), (1, 0), (1, 0), (1, 0), (1, 0)]) (by decide +kernel) (σ0_row (by decide))).trans rfl
theorem zfr_5 (cy : Nat → ClassId) (o : Nat) : zfin cy o 5 = .inl (cy 0, 16, .inl (fun _ => 0)) := zf_a (by decide +kernel) (by decide)
theorem zfr_6 (cy : Nat → ClassId) (o : Nat) : zfin cy o 6 = .inl (cy 0, 16, .inl (fun _ => 0)) := zf_a (by decide +kernel) (by decide)
theorem zfr_7 (cy : Nat → ClassId) (o : Nat) : zfin cy o 7 = .inl (cy 0, 16, .inl (fun _ => 0)) := zf_a (by decide +kernel) (by decide)
theorem zfr_8 (cy : Nat → ClassId) (o : Nat) : zfin cy o 8 = .inl (cy 0, 16, .inl (fun _ => 0)) := zf_a (by decide +kernel) (by decide)
theorem zfr_9 (cy : Nat → ClassId) (o : Nat) : zfin cy o 9 = .inl (cy 0, 16, .inl (fun _ => 0)) := zf_a (by decide +kernel) (by decide)
theorem zfr_10 (cy : Nat → ClassId) (o : Nat) : zfin cy o 10 = .inl (cy 0, 6, .inl (fun _ => 0)) := zf_a (by decide +kernel) (by decide)
theorem zfr_11 (cy : Nat → ClassId) (o : Nat) : zfin cy o 11 = .inl (cy 0, 6, .inl (fun _ => 0)) := zf_a (by decide +kernel) (by decide)
theorem zfr_12 (cy : Nat → ClassId) (o : Nat) : zfin cy o 12 = .inl (cy 0, 6, .inl (fun _ => 0)) := zf_a (by decide +kernel) (by decide)
theorem zfr_13 (cy : Nat → ClassId) (o : Nat) : zfin cy o 13 = .inl (cy 0, 6, .inl (fun _ => 0)) := zf_a (by decide +kernel) (by decide)
theorem zfr_14 (cy : Nat → ClassId) (o : Nat) : zfin cy o 14 = .inl (cy 0, 6, .inl (fun _ => 0)) := zf_a (by decide +kernel) (by decide)
theorem zfr_15 (cy : Nat → ClassId) (o : Nat) : zfin cy o 15 = .inl (cy 0, 6, .inl (fun _ => 0)) := zf_a (by decide +kernel) (by decide)
theorem zfo_16 (cy : Nat → ClassId) (o : Nat) : zfin cy o 16 = .inr (0, [.ref (o + (16 + 1)), .ref (o + (16 + 2)), .ref (o + (16 + 3)), .ref (o + (16 + 4)), .ref (o + (16 + 5)), .ref (o + (16 + 6)), .ref (o + (16 + 7)), .ref (o + (16 + 8)), .ref (o + (16 + 9)), .ref (o + (16 + 10)), .ref (o + (16 + 11)), .int 0, .int 0, .int 0, .int 0, .int 0, .int 0, .int 0]) := (zf_o (fds := [(0, 1), (0, 2), (0, 3), (0, 4), (0, 5), (0, 6), (0, 7), (0, 8), (0, 9), (0, 10), (0, 11), (1, 0), (1, 0), (1, 0), (1, 0), (1, 0), (1, 0), (1, 0)]) (by decide +kernel) (σ0_row (by decide))).trans rfl
theorem zfr_17 (cy : Nat → ClassId) (o : Nat) : zfin cy o 17 = .inl (cy 0, 16, .inl (fun _ => 0)) := zf_a (by decide +kernel) (by decide)
theorem zfr_18 (cy : Nat → ClassId) (o : Nat) : zfin cy o 18 = .inl (cy 0, 16, .inl (fun _ => 0)) := zf_a (by decide +kernel) (by decide)
theorem zfr_19 (cy : Nat → ClassId) (o : Nat) : zfin cy o 19 = .inl (cy 0, 16, .inl (fun _ => 0)) := zf_a (by decide +kernel) (by decide)
theorem zfr_20 (cy : Nat → ClassId) (o : Nat) : zfin cy o 20 = .inl (cy 0, 16, .inl (fun _ => 0)) := zf_a (by decide +kernel) (by decide)
theorem zfr_21 (cy : Nat → ClassId) (o : Nat) : zfin cy o 21 = .inl (cy 0, 16, .inl (fun _ => 0)) := zf_a (by decide +kernel) (by decide)
theorem zfr_22 (cy : Nat → ClassId) (o : Nat) : zfin cy o 22 = .inl (cy 0, 6, .inl (fun _ => 0)) := zf_a (by decide +kernel) (by decide)
theorem zfr_23 (cy : Nat → ClassId) (o : Nat) : zfin cy o 23 = .inl (cy 0, 6, .inl (fun _ => 0)) := zf_a (by decide +kernel) (by decide)
theorem zfr_24 (cy : Nat → ClassId) (o : Nat) : zfin cy o 24 = .inl (cy 0, 6, .inl (fun _ => 0)) := zf_a (by decide +kernel) (by decide)
theorem zfr_25 (cy : Nat → ClassId) (o : Nat) : zfin cy o 25 = .inl (cy 0, 6, .inl (fun _ => 0)) := zf_a (by decide +kernel) (by decide)
theorem zfr_26 (cy : Nat → ClassId) (o : Nat) : zfin cy o 26 = .inl (cy 0, 6, .inl (fun _ => 0)) := zf_a (by decide +kernel) (by decide)
theorem zfr_27 (cy : Nat → ClassId) (o : Nat) : zfin cy o 27 = .inl (cy 0, 6, .inl (fun _ => 0)) := zf_a (by decide +kernel) (by decide)
theorem zfq_28 (cy : Nat → ClassId) (o : Nat) : zfin cy o 28 = .inl (cy 5, 2, .inr (.inr (.inr (.inr (fun i => (([(0, 1), (0, 4)] : List (Nat × Nat))[i]?).map (fun fd => o + (28 + fd.2))))))) := zf_r (by decide +kernel)
theorem zfo_29 (cy : Nat → ClassId) (o : Nat) : zfin cy o 29 = .inr (2, [.ref (o + (29 + 1)), .ref (o + (29 + 2)), .int 0]) := (zf_o (fds := [(0, 1), (0, 2), (1, 0)]) (by decide +kernel) (σ0_row (by decide))).trans rfl
theorem zfr_30 (cy : Nat → ClassId) (o : Nat) : zfin cy o 30 = .inl (cy 0, 16, .inl (fun _ => 0)) := zf_a (by decide +kernel) (by decide)
theorem zfr_31 (cy : Nat → ClassId) (o : Nat) : zfin cy o 31 = .inl (cy 0, 16, .inl (fun _ => 0)) := zf_a (by decide +kernel) (by decide)
theorem zfo_32 (cy : Nat → ClassId) (o : Nat) : zfin cy o 32 = .inr (2, [.ref (o + (32 + 1)), .ref (o + (32 + 2)), .int 0]) := (zf_o (fds := [(0, 1), (0, 2), (1, 0)]) (by decide +kernel) (σ0_row (by decide))).trans rfl
theorem zfr_33 (cy : Nat → ClassId) (o : Nat) : zfin cy o 33 = .inl (cy 0, 16, .inl (fun _ => 0)) := zf_a (by decide +kernel) (by decide)
theorem zfr_34 (cy : Nat → ClassId) (o : Nat) : zfin cy o 34 = .inl (cy 0, 16, .inl (fun _ => 0)) := zf_a (by decide +kernel) (by decide)
theorem zfq_35 (cy : Nat → ClassId) (o : Nat) : zfin cy o 35 = .inl (cy 5, 2, .inr (.inr (.inr (.inr (fun i => (([(0, 1), (0, 4)] : List (Nat × Nat))[i]?).map (fun fd => o + (35 + fd.2))))))) := zf_r (by decide +kernel)
theorem zfo_36 (cy : Nat → ClassId) (o : Nat) : zfin cy o 36 = .inr (2, [.ref (o + (36 + 1)), .ref (o + (36 + 2)), .int 0]) := (zf_o (fds := [(0, 1), (0, 2), (1, 0)]) (by decide +kernel) (σ0_row (by decide))).trans rfl
theorem zfr_37 (cy : Nat → ClassId) (o : Nat) : zfin cy o 37 = .inl (cy 0, 16, .inl (fun _ => 0)) := zf_a (by decide +kernel) (by decide)
theorem zfr_38 (cy : Nat → ClassId) (o : Nat) : zfin cy o 38 = .inl (cy 0, 16, .inl (fun _ => 0)) := zf_a (by decide +kernel) (by decide)
theorem zfo_39 (cy : Nat → ClassId) (o : Nat) : zfin cy o 39 = .inr (2, [.ref (o + (39 + 1)), .ref (o + (39 + 2)), .int 0]) := (zf_o (fds := [(0, 1), (0, 2), (1, 0)]) (by decide +kernel) (σ0_row (by decide))).trans rfl
theorem zfr_40 (cy : Nat → ClassId) (o : Nat) : zfin cy o 40 = .inl (cy 0, 16, .inl (fun _ => 0)) := zf_a (by decide +kernel) (by decide)
theorem zfr_41 (cy : Nat → ClassId) (o : Nat) : zfin cy o 41 = .inl (cy 0, 16, .inl (fun _ => 0)) := zf_a (by decide +kernel) (by decide)
theorem zfr_42 (cy : Nat → ClassId) (o : Nat) : zfin cy o 42 = .inl (cy 0, 3, .inl (fun _ => 0)) := zf_a (by decide +kernel) (by decide)
theorem zfq_43 (cy : Nat → ClassId) (o : Nat) : zfin cy o 43 = .inl (cy 6, 3, .inr (.inr (.inr (.inr (fun i => (([(0, 1), (0, 43), (0, 85)] : List (Nat × Nat))[i]?).map (fun fd => o + (43 + fd.2))))))) := zf_r (by decide +kernel)
theorem zfo_44 (cy : Nat → ClassId) (o : Nat) : zfin cy o 44 = .inr (8, [.ref (o + (44 + 1)), .ref (o + (44 + 2)), .ref (o + (44 + 27)), .ref (o + (44 + 34)), .ref (o + (44 + 41)), .int 0, .int 0, .int (-1)]) := (zf_o (fds := [(0, 1), (0, 2), (0, 27), (0, 34), (0, 41), (1, 0), (1, 0), (1, 0)]) (by decide +kernel) (σ0_st (by decide))).trans rfl
theorem zfr_45 (cy : Nat → ClassId) (o : Nat) : zfin cy o 45 = .inl (cy 1, 600, .inl (fun _ => 0)) := zf_a (by decide +kernel) (by decide)
theorem zfq_46 (cy : Nat → ClassId) (o : Nat) : zfin cy o 46 = .inl (cy 4, 2, .inr (.inr (.inr (.inr (fun i => (([(0, 1), (0, 13)] : List (Nat × Nat))[i]?).map (fun fd => o + (46 + fd.2))))))) := zf_r (by decide +kernel)
theorem zfo_47 (cy : Nat → ClassId) (o : Nat) : zfin cy o 47 = .inr (0, [.ref (o + (47 + 1)), .ref (o + (47 + 2)), .ref (o + (47 + 3)), .ref (o + (47 + 4)), .ref (o + (47 + 5)), .ref (o + (47 + 6)), .ref (o + (47 + 7)), .ref (o + (47 + 8)), .ref (o + (47 + 9)), .ref (o + (47 + 10)), .ref (o + (47 + 11)), .int 0, .int 0, .int 0, .int 0, .int 0, .int 0, .int 0]) := (zf_o (fds := [(0, 1), (0, 2), (0, 3), (0, 4), (0, 5), (0, 6), (0, 7), (0, 8), (0, 9), (0, 10), (0, 11), (1, 0), (1, 0), (1, 0), (1, 0), (1, 0), (1, 0), (1, 0)]) (by decide +kernel) (σ0_row (by decide))).trans rfl
theorem zfr_48 (cy : Nat → ClassId) (o : Nat) : zfin cy o 48 = .inl (cy 0, 16, .inl (fun _ => 0)) := zf_a (by decide +kernel) (by decide)
theorem zfr_49 (cy : Nat → ClassId) (o : Nat) : zfin cy o 49 = .inl (cy 0, 16, .inl (fun _ => 0)) := zf_a (by decide +kernel) (by decide)
theorem zfr_50 (cy : Nat → ClassId) (o : Nat) : zfin cy o 50 = .inl (cy 0, 16, .inl (fun _ => 0)) := zf_a (by decide +kernel) (by decide)
theorem zfr_51 (cy : Nat → ClassId) (o : Nat) : zfin cy o 51 = .inl (cy 0, 16, .inl (fun _ => 0)) := zf_a (by decide +kernel) (by decide)
theorem zfr_52 (cy : Nat → ClassId) (o : Nat) : zfin cy o 52 = .inl (cy 0, 16, .inl (fun _ => 0)) := zf_a (by decide +kernel) (by decide)
theorem zfr_53 (cy : Nat → ClassId) (o : Nat) : zfin cy o 53 = .inl (cy 0, 6, .inl (fun _ => 0)) := zf_a (by decide +kernel) (by decide)
theorem zfr_54 (cy : Nat → ClassId) (o : Nat) : zfin cy o 54 = .inl (cy 0, 6, .inl (fun _ => 0)) := zf_a (by decide +kernel) (by decide)
theorem zfr_55 (cy : Nat → ClassId) (o : Nat) : zfin cy o 55 = .inl (cy 0, 6, .inl (fun _ => 0)) := zf_a (by decide +kernel) (by decide)
theorem zfr_56 (cy : Nat → ClassId) (o : Nat) : zfin cy o 56 = .inl (cy 0, 6, .inl (fun _ => 0)) := zf_a (by decide +kernel) (by decide)
theorem zfr_57 (cy : Nat → ClassId) (o : Nat) : zfin cy o 57 = .inl (cy 0, 6, .inl (fun _ => 0)) := zf_a (by decide +kernel) (by decide)
theorem zfr_58 (cy : Nat → ClassId) (o : Nat) : zfin cy o 58 = .inl (cy 0, 6, .inl (fun _ => 0)) := zf_a (by decide +kernel) (by decide)
theorem zfo_59 (cy : Nat → ClassId) (o : Nat) : zfin cy o 59 = .inr (0, [.ref (o + (59 + 1)), .ref (o + (59 + 2)), .ref (o + (59 + 3)), .ref (o + (59 + 4)), .ref (o + (59 + 5)), .ref (o + (59 + 6)), .ref (o + (59 + 7)), .ref (o + (59 + 8)), .ref (o + (59 + 9)), .ref (o + (59 + 10)), .ref (o + (59 + 11)), .int 0, .int 0, .int 0, .int 0, .int 0, .int 0, .int 0]) := (zf_o (fds := [(0, 1), (0, 2), (0, 3), (0, 4), (0, 5), (0, 6), (0, 7), (0, 8), (0, 9), (0, 10), (0, 11), (1, 0), (1, 0), (1, 0), (1, 0), (1, 0), (1, 0), (1, 0)]) (by decide +kernel) (σ0_row (by decide))).trans rfl
theorem zfr_60 (cy : Nat → ClassId) (o : Nat) : zfin cy o 60 = .inl (cy 0, 16, .inl (fun _ => 0)) := zf_a (by decide +kernel) (by decide)
theorem zfr_61 (cy : Nat → ClassId) (o : Nat) : zfin cy o 61 = .inl (cy 0, 16, .inl (fun _ => 0)) := zf_a (by decide +kernel) (by decide)
theorem zfr_62 (cy : Nat → ClassId) (o : Nat) : zfin cy o 62 = .inl (cy 0, 16, .inl (fun _ => 0)) := zf_a (by decide +kernel) (by decide)
theorem zfr_63 (cy : Nat → ClassId) (o : Nat) : zfin cy o 63 = .inl (cy 0, 16, .inl (fun _ => 0)) := zf_a (by decide +kernel) (by decide)
theorem zfr_64 (cy : Nat → ClassId) (o : Nat) : zfin cy o 64 = .inl (cy 0, 16, .inl (fun _ => 0)) := zf_a (by decide +kernel) (by decide)
theorem zfr_65 (cy : Nat → ClassId) (o : Nat) : zfin cy o 65 = .inl (cy 0, 6, .inl (fun _ => 0)) := zf_a (by decide +kernel) (by decide)
theorem zfr_66 (cy : Nat → ClassId) (o : Nat) : zfin cy o 66 = .inl (cy 0, 6, .inl (fun _ => 0)) := zf_a (by decide +kernel) (by decide)
theorem zfr_67 (cy : Nat → ClassId) (o : Nat) : zfin cy o 67 = .inl (cy 0, 6, .inl (fun _ => 0)) := zf_a (by decide +kernel) (by decide)
theorem zfr_68 (cy : Nat → ClassId) (o : Nat) : zfin cy o 68 = .inl (cy 0, 6, .inl (fun _ => 0)) := zf_a (by decide +kernel) (by decide)
theorem zfr_69 (cy : Nat → ClassId) (o : Nat) : zfin cy o 69 = .inl (cy 0, 6, .inl (fun _ => 0)) := zf_a (by decide +kernel) (by decide)
theorem zfr_70 (cy : Nat → ClassId) (o : Nat) : zfin cy o 70 = .inl (cy 0, 6, .inl (fun _ => 0)) := zf_a (by decide +kernel) (by decide)
theorem zfq_71 (cy : Nat → ClassId) (o : Nat) : zfin cy o 71 = .inl (cy 5, 2, .inr (.inr (.inr (.inr (fun i => (([(0, 1), (0, 4)] : List (Nat × Nat))[i]?).map (fun fd => o + (71 + fd.2))))))) := zf_r (by decide +kernel)
theorem zfo_72 (cy : Nat → ClassId) (o : Nat) : zfin cy o 72 = .inr (2, [.ref (o + (72 + 1)), .ref (o + (72 + 2)), .int 0]) := (zf_o (fds := [(0, 1), (0, 2), (1, 0)]) (by decide +kernel) (σ0_row (by decide))).trans rfl
theorem zfr_73 (cy : Nat → ClassId) (o : Nat) : zfin cy o 73 = .inl (cy 0, 16, .inl (fun _ => 0)) := zf_a (by decide +kernel) (by decide)
theorem zfr_74 (cy : Nat → ClassId) (o : Nat) : zfin cy o 74 = .inl (cy 0, 16, .inl (fun _ => 0)) := zf_a (by decide +kernel) (by decide)
theorem zfo_75 (cy : Nat → ClassId) (o : Nat) : zfin cy o 75 = .inr (2, [.ref (o + (75 + 1)), .ref (o + (75 + 2)), .int 0]) := (zf_o (fds := [(0, 1), (0, 2), (1, 0)]) (by decide +kernel) (σ0_row (by decide))).trans rfl
theorem zfr_76 (cy : Nat → ClassId) (o : Nat) : zfin cy o 76 = .inl (cy 0, 16, .inl (fun _ => 0)) := zf_a (by decide +kernel) (by decide)
theorem zfr_77 (cy : Nat → ClassId) (o : Nat) : zfin cy o 77 = .inl (cy 0, 16, .inl (fun _ => 0)) := zf_a (by decide +kernel) (by decide)
theorem zfq_78 (cy : Nat → ClassId) (o : Nat) : zfin cy o 78 = .inl (cy 5, 2, .inr (.inr (.inr (.inr (fun i => (([(0, 1), (0, 4)] : List (Nat × Nat))[i]?).map (fun fd => o + (78 + fd.2))))))) := zf_r (by decide +kernel)
theorem zfo_79 (cy : Nat → ClassId) (o : Nat) : zfin cy o 79 = .inr (2, [.ref (o + (79 + 1)), .ref (o + (79 + 2)), .int 0]) := (zf_o (fds := [(0, 1), (0, 2), (1, 0)]) (by decide +kernel) (σ0_row (by decide))).trans rfl
theorem zfr_80 (cy : Nat → ClassId) (o : Nat) : zfin cy o 80 = .inl (cy 0, 16, .inl (fun _ => 0)) := zf_a (by decide +kernel) (by decide)
theorem zfr_81 (cy : Nat → ClassId) (o : Nat) : zfin cy o 81 = .inl (cy 0, 16, .inl (fun _ => 0)) := zf_a (by decide +kernel) (by decide)
theorem zfo_82 (cy : Nat → ClassId) (o : Nat) : zfin cy o 82 = .inr (2, [.ref (o + (82 + 1)), .ref (o + (82 + 2)), .int 0]) := (zf_o (fds := [(0, 1), (0, 2), (1, 0)]) (by decide +kernel) (σ0_row (by decide))).trans rfl
theorem zfr_83 (cy : Nat → ClassId) (o : Nat) : zfin cy o 83 = .inl (cy 0, 16, .inl (fun _ => 0)) := zf_a (by decide +kernel) (by decide)
theorem zfr_84 (cy : Nat → ClassId) (o : Nat) : zfin cy o 84 = .inl (cy 0, 16, .inl (fun _ => 0)) := zf_a (by decide +kernel) (by decide)
theorem zfr_85 (cy : Nat → ClassId) (o : Nat) : zfin cy o 85 = .inl (cy 0, 3, .inl (fun _ => 0)) := zf_a (by decide +kernel) (by decide)
theorem zfo_86 (cy : Nat → ClassId) (o : Nat) : zfin cy o 86 = .inr (8, [.ref (o + (86 + 1)), .ref (o + (86 + 2)), .ref (o + (86 + 27)), .ref (o + (86 + 34)), .ref (o + (86 + 41)), .int 0, .int 0, .int (-1)]) := (zf_o (fds := [(0, 1), (0, 2), (0, 27), (0, 34), (0, 41), (1, 0), (1, 0), (1, 0)]) (by decide +kernel) (σ0_st (by decide))).trans rfl
theorem zfr_87 (cy : Nat → ClassId) (o : Nat) : zfin cy o 87 = .inl (cy 1, 600, .inl (fun _ => 0)) := zf_a (by decide +kernel) (by decide)
theorem zfq_88 (cy : Nat → ClassId) (o : Nat) : zfin cy o 88 = .inl (cy 4, 2, .inr (.inr (.inr (.inr (fun i => (([(0, 1), (0, 13)] : List (Nat × Nat))[i]?).map (fun fd => o + (88 + fd.2))))))) := zf_r (by decide +kernel)
theorem zfo_89 (cy : Nat → ClassId) (o : Nat) : zfin cy o 89 = .inr (0, [.ref (o + (89 + 1)), .ref (o + (89 + 2)), .ref (o + (89 + 3)), .ref (o + (89 + 4)), .ref (o + (89 + 5)), .ref (o + (89 + 6)), .ref (o + (89 + 7)), .ref (o + (89 + 8)), .ref (o + (89 + 9)), .ref (o + (89 + 10)), .ref (o + (89 + 11)), .int 0, .int 0, .int 0, .int 0, .int 0, .int 0, .int 0]) := (zf_o (fds := [(0, 1), (0, 2), (0, 3), (0, 4), (0, 5), (0, 6), (0, 7), (0, 8), (0, 9), (0, 10), (0, 11), (1, 0), (1, 0), (1, 0), (1, 0), (1, 0), (1, 0), (1, 0)]) (by decide +kernel) (σ0_row (by decide))).trans rfl
theorem zfr_90 (cy : Nat → ClassId) (o : Nat) : zfin cy o 90 = .inl (cy 0, 16, .inl (fun _ => 0)) := zf_a (by decide +kernel) (by decide)
theorem zfr_91 (cy : Nat → ClassId) (o : Nat) : zfin cy o 91 = .inl (cy 0, 16, .inl (fun _ => 0)) := zf_a (by decide +kernel) (by decide)
theorem zfr_92 (cy : Nat → ClassId) (o : Nat) : zfin cy o 92 = .inl (cy 0, 16, .inl (fun _ => 0)) := zf_a (by decide +kernel) (by decide)
theorem zfr_93 (cy : Nat → ClassId) (o : Nat) : zfin cy o 93 = .inl (cy 0, 16, .inl (fun _ => 0)) := zf_a (by decide +kernel) (by decide)
theorem zfr_94 (cy : Nat → ClassId) (o : Nat) : zfin cy o 94 = .inl (cy 0, 16, .inl (fun _ => 0)) := zf_a (by decide +kernel) (by decide)
theorem zfr_95 (cy : Nat → ClassId) (o : Nat) : zfin cy o 95 = .inl (cy 0, 6, .inl (fun _ => 0)) := zf_a (by decide +kernel) (by decide)
theorem zfr_96 (cy : Nat → ClassId) (o : Nat) : zfin cy o 96 = .inl (cy 0, 6, .inl (fun _ => 0)) := zf_a (by decide +kernel) (by decide)
theorem zfr_97 (cy : Nat → ClassId) (o : Nat) : zfin cy o 97 = .inl (cy 0, 6, .inl (fun _ => 0)) := zf_a (by decide +kernel) (by decide)
theorem zfr_98 (cy : Nat → ClassId) (o : Nat) : zfin cy o 98 = .inl (cy 0, 6, .inl (fun _ => 0)) := zf_a (by decide +kernel) (by decide)
theorem zfr_99 (cy : Nat → ClassId) (o : Nat) : zfin cy o 99 = .inl (cy 0, 6, .inl (fun _ => 0)) := zf_a (by decide +kernel) (by decide)
theorem zfr_100 (cy : Nat → ClassId) (o : Nat) : zfin cy o 100 = .inl (cy 0, 6, .inl (fun _ => 0)) := zf_a (by decide +kernel) (by decide)
theorem zfo_101 (cy : Nat → ClassId) (o : Nat) : zfin cy o 101 = .inr (0, [.ref (o + (101 + 1)), .ref (o + (101 + 2)), .ref (o + (101 + 3)), .ref (o + (101 + 4)), .ref (o + (101 + 5)), .ref (o + (101 + 6)), .ref (o + (101 + 7)), .ref (o + (101 + 8)), .ref (o + (101 + 9)), .ref (o + (101 + 10)), .ref (o + (101 + 11)), .int 0, .int 0, .int 0, .int 0, .int 0, .int 0, .int 0]) := (zf_o (fds := [(0, 1), (0, 2), (0, 3), (0, 4), (0, 5), (0, 6), (0, 7), (0, 8), (0, 9), (0, 10), (0, 11), (1, 0), (1, 0), (1, 0), (1, 0), (1, 0), (1, 0), (1, 0)]) (by decide +kernel) (σ0_row (by decide))).trans rfl
theorem zfr_102 (cy : Nat → ClassId) (o : Nat) : zfin cy o 102 = .inl (cy 0, 16, .inl (fun _ => 0)) := zf_a (by decide +kernel) (by decide)
theorem zfr_103 (cy : Nat → ClassId) (o : Nat) : zfin cy o 103 = .inl (cy 0, 16, .inl (fun _ => 0)) := zf_a (by decide +kernel) (by decide)
theorem zfr_104 (cy : Nat → ClassId) (o : Nat) : zfin cy o 104 = .inl (cy 0, 16, .inl (fun _ => 0)) := zf_a (by decide +kernel) (by decide)
theorem zfr_105 (cy : Nat → ClassId) (o : Nat) : zfin cy o 105 = .inl (cy 0, 16, .inl (fun _ => 0)) := zf_a (by decide +kernel) (by decide)
theorem zfr_106 (cy : Nat → ClassId) (o : Nat) : zfin cy o 106 = .inl (cy 0, 16, .inl (fun _ => 0)) := zf_a (by decide +kernel) (by decide)
theorem zfr_107 (cy : Nat → ClassId) (o : Nat) : zfin cy o 107 = .inl (cy 0, 6, .inl (fun _ => 0)) := zf_a (by decide +kernel) (by decide)
theorem zfr_108 (cy : Nat → ClassId) (o : Nat) : zfin cy o 108 = .inl (cy 0, 6, .inl (fun _ => 0)) := zf_a (by decide +kernel) (by decide)
theorem zfr_109 (cy : Nat → ClassId) (o : Nat) : zfin cy o 109 = .inl (cy 0, 6, .inl (fun _ => 0)) := zf_a (by decide +kernel) (by decide)
theorem zfr_110 (cy : Nat → ClassId) (o : Nat) : zfin cy o 110 = .inl (cy 0, 6, .inl (fun _ => 0)) := zf_a (by decide +kernel) (by decide)
theorem zfr_111 (cy : Nat → ClassId) (o : Nat) : zfin cy o 111 = .inl (cy 0, 6, .inl (fun _ => 0)) := zf_a (by decide +kernel) (by decide)
theorem zfr_112 (cy : Nat → ClassId) (o : Nat) : zfin cy o 112 = .inl (cy 0, 6, .inl (fun _ => 0)) := zf_a (by decide +kernel) (by decide)
theorem zfq_113 (cy : Nat → ClassId) (o : Nat) : zfin cy o 113 = .inl (cy 5, 2, .inr (.inr (.inr (.inr (fun i => (([(0, 1), (0, 4)] : List (Nat × Nat))[i]?).map (fun fd => o + (113 + fd.2))))))) := zf_r (by decide +kernel)
theorem zfo_114 (cy : Nat → ClassId) (o : Nat) : zfin cy o 114 = .inr (2, [.ref (o + (114 + 1)), .ref (o + (114 + 2)), .int 0]) := (zf_o (fds := [(0, 1), (0, 2), (1, 0)]) (by decide +kernel) (σ0_row (by decide))).trans rfl
theorem zfr_115 (cy : Nat → ClassId) (o : Nat) : zfin cy o 115 = .inl (cy 0, 16, .inl (fun _ => 0)) := zf_a (by decide +kernel) (by decide)
theorem zfr_116 (cy : Nat → ClassId) (o : Nat) : zfin cy o 116 = .inl (cy 0, 16, .inl (fun _ => 0)) := zf_a (by decide +kernel) (by decide)
theorem zfo_117 (cy : Nat → ClassId) (o : Nat) : zfin cy o 117 = .inr (2, [.ref (o + (117 + 1)), .ref (o + (117 + 2)), .int 0]) := (zf_o (fds := [(0, 1), (0, 2), (1, 0)]) (by decide +kernel) (σ0_row (by decide))).trans rfl
theorem zfr_118 (cy : Nat → ClassId) (o : Nat) : zfin cy o 118 = .inl (cy 0, 16, .inl (fun _ => 0)) := zf_a (by decide +kernel) (by decide)
theorem zfr_119 (cy : Nat → ClassId) (o : Nat) : zfin cy o 119 = .inl (cy 0, 16, .inl (fun _ => 0)) := zf_a (by decide +kernel) (by decide)
theorem zfq_120 (cy : Nat → ClassId) (o : Nat) : zfin cy o 120 = .inl (cy 5, 2, .inr (.inr (.inr (.inr (fun i => (([(0, 1), (0, 4)] : List (Nat × Nat))[i]?).map (fun fd => o + (120 + fd.2))))))) := zf_r (by decide +kernel)
theorem zfo_121 (cy : Nat → ClassId) (o : Nat) : zfin cy o 121 = .inr (2, [.ref (o + (121 + 1)), .ref (o + (121 + 2)), .int 0]) := (zf_o (fds := [(0, 1), (0, 2), (1, 0)]) (by decide +kernel) (σ0_row (by decide))).trans rfl
theorem zfr_122 (cy : Nat → ClassId) (o : Nat) : zfin cy o 122 = .inl (cy 0, 16, .inl (fun _ => 0)) := zf_a (by decide +kernel) (by decide)
theorem zfr_123 (cy : Nat → ClassId) (o : Nat) : zfin cy o 123 = .inl (cy 0, 16, .inl (fun _ => 0)) := zf_a (by decide +kernel) (by decide)
theorem zfo_124 (cy : Nat → ClassId) (o : Nat) : zfin cy o 124 = .inr (2, [.ref (o + (124 + 1)), .ref (o + (124 + 2)), .int 0]) := (zf_o (fds := [(0, 1), (0, 2), (1, 0)]) (by decide +kernel) (σ0_row (by decide))).trans rfl
theorem zfr_125 (cy : Nat → ClassId) (o : Nat) : zfin cy o 125 = .inl (cy 0, 16, .inl (fun _ => 0)) := zf_a (by decide +kernel) (by decide)
theorem zfr_126 (cy : Nat → ClassId) (o : Nat) : zfin cy o 126 = .inl (cy 0, 16, .inl (fun _ => 0)) := zf_a (by decide +kernel) (by decide)
theorem zfr_127 (cy : Nat → ClassId) (o : Nat) : zfin cy o 127 = .inl (cy 0, 3, .inl (fun _ => 0)) := zf_a (by decide +kernel) (by decide)
theorem zfo_128 (cy : Nat → ClassId) (o : Nat) : zfin cy o 128 = .inr (8, [.ref (o + (128 + 1)), .ref (o + (128 + 2)), .ref (o + (128 + 27)), .ref (o + (128 + 34)), .ref (o + (128 + 41)), .int 0, .int 0, .int (-1)]) := (zf_o (fds := [(0, 1), (0, 2), (0, 27), (0, 34), (0, 41), (1, 0), (1, 0), (1, 0)]) (by decide +kernel) (σ0_st (by decide))).trans rfl
theorem zfr_129 (cy : Nat → ClassId) (o : Nat) : zfin cy o 129 = .inl (cy 1, 600, .inl (fun _ => 0)) := zf_a (by decide +kernel) (by decide)
theorem zfq_130 (cy : Nat → ClassId) (o : Nat) : zfin cy o 130 = .inl (cy 4, 2, .inr (.inr (.inr (.inr (fun i => (([(0, 1), (0, 13)] : List (Nat × Nat))[i]?).map (fun fd => o + (130 + fd.2))))))) := zf_r (by decide +kernel)
theorem zfo_131 (cy : Nat → ClassId) (o : Nat) : zfin cy o 131 = .inr (0, [.ref (o + (131 + 1)), .ref (o + (131 + 2)), .ref (o + (131 + 3)), .ref (o + (131 + 4)), .ref (o + (131 + 5)), .ref (o + (131 + 6)), .ref (o + (131 + 7)), .ref (o + (131 + 8)), .ref (o + (131 + 9)), .ref (o + (131 + 10)), .ref (o + (131 + 11)), .int 0, .int 0, .int 0, .int 0, .int 0, .int 0, .int 0]) := (zf_o (fds := [(0, 1), (0, 2), (0, 3), (0, 4), (0, 5), (0, 6), (0, 7), (0, 8), (0, 9), (0, 10), (0, 11), (1, 0), (1, 0), (1, 0), (1, 0), (1, 0), (1, 0), (1, 0)]) (by decide +kernel) (σ0_row (by decide))).trans rfl
theorem zfr_132 (cy : Nat → ClassId) (o : Nat) : zfin cy o 132 = .inl (cy 0, 16, .inl (fun _ => 0)) := zf_a (by decide +kernel) (by decide)
theorem zfr_133 (cy : Nat → ClassId) (o : Nat) : zfin cy o 133 = .inl (cy 0, 16, .inl (fun _ => 0)) := zf_a (by decide +kernel) (by decide)
theorem zfr_134 (cy : Nat → ClassId) (o : Nat) : zfin cy o 134 = .inl (cy 0, 16, .inl (fun _ => 0)) := zf_a (by decide +kernel) (by decide)
theorem zfr_135 (cy : Nat → ClassId) (o : Nat) : zfin cy o 135 = .inl (cy 0, 16, .inl (fun _ => 0)) := zf_a (by decide +kernel) (by decide)
theorem zfr_136 (cy : Nat → ClassId) (o : Nat) : zfin cy o 136 = .inl (cy 0, 16, .inl (fun _ => 0)) := zf_a (by decide +kernel) (by decide)
theorem zfr_137 (cy : Nat → ClassId) (o : Nat) : zfin cy o 137 = .inl (cy 0, 6, .inl (fun _ => 0)) := zf_a (by decide +kernel) (by decide)
theorem zfr_138 (cy : Nat → ClassId) (o : Nat) : zfin cy o 138 = .inl (cy 0, 6, .inl (fun _ => 0)) := zf_a (by decide +kernel) (by decide)
theorem zfr_139 (cy : Nat → ClassId) (o : Nat) : zfin cy o 139 = .inl (cy 0, 6, .inl (fun _ => 0)) := zf_a (by decide +kernel) (by decide)
theorem zfr_140 (cy : Nat → ClassId) (o : Nat) : zfin cy o 140 = .inl (cy 0, 6, .inl (fun _ => 0)) := zf_a (by decide +kernel) (by decide)
theorem zfr_141 (cy : Nat → ClassId) (o : Nat) : zfin cy o 141 = .inl (cy 0, 6, .inl (fun _ => 0)) := zf_a (by decide +kernel) (by decide)
theorem zfr_142 (cy : Nat → ClassId) (o : Nat) : zfin cy o 142 = .inl (cy 0, 6, .inl (fun _ => 0)) := zf_a (by decide +kernel) (by decide)
theorem zfo_143 (cy : Nat → ClassId) (o : Nat) : zfin cy o 143 = .inr (0, [.ref (o + (143 + 1)), .ref (o + (143 + 2)), .ref (o + (143 + 3)), .ref (o + (143 + 4)), .ref (o + (143 + 5)), .ref (o + (143 + 6)), .ref (o + (143 + 7)), .ref (o + (143 + 8)), .ref (o + (143 + 9)), .ref (o + (143 + 10)), .ref (o + (143 + 11)), .int 0, .int 0, .int 0, .int 0, .int 0, .int 0, .int 0]) := (zf_o (fds := [(0, 1), (0, 2), (0, 3), (0, 4), (0, 5), (0, 6), (0, 7), (0, 8), (0, 9), (0, 10), (0, 11), (1, 0), (1, 0), (1, 0), (1, 0), (1, 0), (1, 0), (1, 0)]) (by decide +kernel) (σ0_row (by decide))).trans rfl
theorem zfr_144 (cy : Nat → ClassId) (o : Nat) : zfin cy o 144 = .inl (cy 0, 16, .inl (fun _ => 0)) := zf_a (by decide +kernel) (by decide)
theorem zfr_145 (cy : Nat → ClassId) (o : Nat) : zfin cy o 145 = .inl (cy 0, 16, .inl (fun _ => 0)) := zf_a (by decide +kernel) (by decide)
theorem zfr_146 (cy : Nat → ClassId) (o : Nat) : zfin cy o 146 = .inl (cy 0, 16, .inl (fun _ => 0)) := zf_a (by decide +kernel) (by decide)
theorem zfr_147 (cy : Nat → ClassId) (o : Nat) : zfin cy o 147 = .inl (cy 0, 16, .inl (fun _ => 0)) := zf_a (by decide +kernel) (by decide)
theorem zfr_148 (cy : Nat → ClassId) (o : Nat) : zfin cy o 148 = .inl (cy 0, 16, .inl (fun _ => 0)) := zf_a (by decide +kernel) (by decide)
theorem zfr_149 (cy : Nat → ClassId) (o : Nat) : zfin cy o 149 = .inl (cy 0, 6, .inl (fun _ => 0)) := zf_a (by decide +kernel) (by decide)
theorem zfr_150 (cy : Nat → ClassId) (o : Nat) : zfin cy o 150 = .inl (cy 0, 6, .inl (fun _ => 0)) := zf_a (by decide +kernel) (by decide)
theorem zfr_151 (cy : Nat → ClassId) (o : Nat) : zfin cy o 151 = .inl (cy 0, 6, .inl (fun _ => 0)) := zf_a (by decide +kernel) (by decide)
theorem zfr_152 (cy : Nat → ClassId) (o : Nat) : zfin cy o 152 = .inl (cy 0, 6, .inl (fun _ => 0)) := zf_a (by decide +kernel) (by decide)
theorem zfr_153 (cy : Nat → ClassId) (o : Nat) : zfin cy o 153 = .inl (cy 0, 6, .inl (fun _ => 0)) := zf_a (by decide +kernel) (by decide)
theorem zfr_154 (cy : Nat → ClassId) (o : Nat) : zfin cy o 154 = .inl (cy 0, 6, .inl (fun _ => 0)) := zf_a (by decide +kernel) (by decide)
theorem zfq_155 (cy : Nat → ClassId) (o : Nat) : zfin cy o 155 = .inl (cy 5, 2, .inr (.inr (.inr (.inr (fun i => (([(0, 1), (0, 4)] : List (Nat × Nat))[i]?).map (fun fd => o + (155 + fd.2))))))) := zf_r (by decide +kernel)
theorem zfo_156 (cy : Nat → ClassId) (o : Nat) : zfin cy o 156 = .inr (2, [.ref (o + (156 + 1)), .ref (o + (156 + 2)), .int 0]) := (zf_o (fds := [(0, 1), (0, 2), (1, 0)]) (by decide +kernel) (σ0_row (by decide))).trans rfl
theorem zfr_157 (cy : Nat → ClassId) (o : Nat) : zfin cy o 157 = .inl (cy 0, 16, .inl (fun _ => 0)) := zf_a (by decide +kernel) (by decide)
theorem zfr_158 (cy : Nat → ClassId) (o : Nat) : zfin cy o 158 = .inl (cy 0, 16, .inl (fun _ => 0)) := zf_a (by decide +kernel) (by decide)
theorem zfo_159 (cy : Nat → ClassId) (o : Nat) : zfin cy o 159 = .inr (2, [.ref (o + (159 + 1)), .ref (o + (159 + 2)), .int 0]) := (zf_o (fds := [(0, 1), (0, 2), (1, 0)]) (by decide +kernel) (σ0_row (by decide))).trans rfl
theorem zfr_160 (cy : Nat → ClassId) (o : Nat) : zfin cy o 160 = .inl (cy 0, 16, .inl (fun _ => 0)) := zf_a (by decide +kernel) (by decide)
theorem zfr_161 (cy : Nat → ClassId) (o : Nat) : zfin cy o 161 = .inl (cy 0, 16, .inl (fun _ => 0)) := zf_a (by decide +kernel) (by decide)
theorem zfq_162 (cy : Nat → ClassId) (o : Nat) : zfin cy o 162 = .inl (cy 5, 2, .inr (.inr (.inr (.inr (fun i => (([(0, 1), (0, 4)] : List (Nat × Nat))[i]?).map (fun fd => o + (162 + fd.2))))))) := zf_r (by decide +kernel)
theorem zfo_163 (cy : Nat → ClassId) (o : Nat) : zfin cy o 163 = .inr (2, [.ref (o + (163 + 1)), .ref (o + (163 + 2)), .int 0]) := (zf_o (fds := [(0, 1), (0, 2), (1, 0)]) (by decide +kernel) (σ0_row (by decide))).trans rfl
theorem zfr_164 (cy : Nat → ClassId) (o : Nat) : zfin cy o 164 = .inl (cy 0, 16, .inl (fun _ => 0)) := zf_a (by decide +kernel) (by decide)
theorem zfr_165 (cy : Nat → ClassId) (o : Nat) : zfin cy o 165 = .inl (cy 0, 16, .inl (fun _ => 0)) := zf_a (by decide +kernel) (by decide)
theorem zfo_166 (cy : Nat → ClassId) (o : Nat) : zfin cy o 166 = .inr (2, [.ref (o + (166 + 1)), .ref (o + (166 + 2)), .int 0]) := (zf_o (fds := [(0, 1), (0, 2), (1, 0)]) (by decide +kernel) (σ0_row (by decide))).trans rfl
theorem zfr_167 (cy : Nat → ClassId) (o : Nat) : zfin cy o 167 = .inl (cy 0, 16, .inl (fun _ => 0)) := zf_a (by decide +kernel) (by decide)
theorem zfr_168 (cy : Nat → ClassId) (o : Nat) : zfin cy o 168 = .inl (cy 0, 16, .inl (fun _ => 0)) := zf_a (by decide +kernel) (by decide)
theorem zfr_169 (cy : Nat → ClassId) (o : Nat) : zfin cy o 169 = .inl (cy 0, 3, .inl (fun _ => 0)) := zf_a (by decide +kernel) (by decide)
theorem zfr_170 (cy : Nat → ClassId) (o : Nat) : zfin cy o 170 = .inl (cy 2, 3, .inl (fun _ => 0)) := zf_a (by decide +kernel) (by decide)
theorem zfo_171 (cy : Nat → ClassId) (o : Nat) : zfin cy o 171 = .inr (4, [.ref (o + (171 + 1)), .ref (o + (171 + 13)), .ref (o + (171 + 16)), .ref (o + (171 + 17)), .ref (o + (171 + 18)), .int 0, .int 0, .int 0, .int 0, .int 0, .int 0, .int 0, .int 0]) := (zf_o (fds := [(0, 1), (0, 13), (0, 16), (0, 17), (0, 18), (1, 0), (1, 0), (1, 0), (1, 0), (1, 0), (1, 0), (1, 0), (1, 0)]) (by decide +kernel) (σ0_row (by decide))).trans rfl
theorem zfo_172 (cy : Nat → ClassId) (o : Nat) : zfin cy o 172 = .inr (0, [.ref (o + (172 + 1)), .ref (o + (172 + 2)), .ref (o + (172 + 3)), .ref (o + (172 + 4)), .ref (o + (172 + 5)), .ref (o + (172 + 6)), .ref (o + (172 + 7)), .ref (o + (172 + 8)), .ref (o + (172 + 9)), .ref (o + (172 + 10)), .ref (o + (172 + 11)), .int 0, .int 0, .int 0, .int 0, .int 0, .int 0, .int 0]) := (zf_o (fds := [(0, 1), (0, 2), (0, 3), (0, 4), (0, 5), (0, 6), (0, 7), (0, 8), (0, 9), (0, 10), (0, 11), (1, 0), (1, 0), (1, 0), (1, 0), (1, 0), (1, 0), (1, 0)]) (by decide +kernel) (σ0_row (by decide))).trans rfl
theorem zfr_173 (cy : Nat → ClassId) (o : Nat) : zfin cy o 173 = .inl (cy 0, 16, .inl (fun _ => 0)) := zf_a (by decide +kernel) (by decide)
theorem zfr_174 (cy : Nat → ClassId) (o : Nat) : zfin cy o 174 = .inl (cy 0, 16, .inl (fun _ => 0)) := zf_a (by decide +kernel) (by decide)
theorem zfr_175 (cy : Nat → ClassId) (o : Nat) : zfin cy o 175 = .inl (cy 0, 16, .inl (fun _ => 0)) := zf_a (by decide +kernel) (by decide)
theorem zfr_176 (cy : Nat → ClassId) (o : Nat) : zfin cy o 176 = .inl (cy 0, 16, .inl (fun _ => 0)) := zf_a (by decide +kernel) (by decide)
theorem zfr_177 (cy : Nat → ClassId) (o : Nat) : zfin cy o 177 = .inl (cy 0, 16, .inl (fun _ => 0)) := zf_a (by decide +kernel) (by decide)
theorem zfr_178 (cy : Nat → ClassId) (o : Nat) : zfin cy o 178 = .inl (cy 0, 6, .inl (fun _ => 0)) := zf_a (by decide +kernel) (by decide)
theorem zfr_179 (cy : Nat → ClassId) (o : Nat) : zfin cy o 179 = .inl (cy 0, 6, .inl (fun _ => 0)) := zf_a (by decide +kernel) (by decide)
theorem zfr_180 (cy : Nat → ClassId) (o : Nat) : zfin cy o 180 = .inl (cy 0, 6, .inl (fun _ => 0)) := zf_a (by decide +kernel) (by decide)
theorem zfr_181 (cy : Nat → ClassId) (o : Nat) : zfin cy o 181 = .inl (cy 0, 6, .inl (fun _ => 0)) := zf_a (by decide +kernel) (by decide)
theorem zfr_182 (cy : Nat → ClassId) (o : Nat) : zfin cy o 182 = .inl (cy 0, 6, .inl (fun _ => 0)) := zf_a (by decide +kernel) (by decide)
theorem zfr_183 (cy : Nat → ClassId) (o : Nat) : zfin cy o 183 = .inl (cy 0, 6, .inl (fun _ => 0)) := zf_a (by decide +kernel) (by decide)
theorem zfo_184 (cy : Nat → ClassId) (o : Nat) : zfin cy o 184 = .inr (2, [.ref (o + (184 + 1)), .ref (o + (184 + 2)), .int 0]) := (zf_o (fds := [(0, 1), (0, 2), (1, 0)]) (by decide +kernel) (σ0_row (by decide))).trans rfl
theorem zfr_185 (cy : Nat → ClassId) (o : Nat) : zfin cy o 185 = .inl (cy 0, 16, .inl (fun _ => 0)) := zf_a (by decide +kernel) (by decide)
theorem zfr_186 (cy : Nat → ClassId) (o : Nat) : zfin cy o 186 = .inl (cy 0, 16, .inl (fun _ => 0)) := zf_a (by decide +kernel) (by decide)
theorem zfr_187 (cy : Nat → ClassId) (o : Nat) : zfin cy o 187 = .inl (cy 0, 6, .inl (fun _ => 0)) := zf_a (by decide +kernel) (by decide)
theorem zfr_188 (cy : Nat → ClassId) (o : Nat) : zfin cy o 188 = .inl (cy 0, 6, .inl (fun _ => 0)) := zf_a (by decide +kernel) (by decide)
theorem zfr_189 (cy : Nat → ClassId) (o : Nat) : zfin cy o 189 = .inl (cy 1, 600, .inl (fun _ => 0)) := zf_a (by decide +kernel) (by decide)
theorem zfo_190 (cy : Nat → ClassId) (o : Nat) : zfin cy o 190 = .inr (5, [.ref (o + (190 + 1)), .ref (o + (190 + 2)), .ref (o + (190 + 3)), .ref (o + (190 + 4)), .int 0, .int 0, .int 0, .int 0, .int 0, .int 0, .int 0, .int 0]) := (zf_o (fds := [(0, 1), (0, 2), (0, 3), (0, 4), (1, 0), (1, 0), (1, 0), (1, 0), (1, 0), (1, 0), (1, 0), (1, 0)]) (by decide +kernel) (σ0_row (by decide))).trans rfl
theorem zfr_191 (cy : Nat → ClassId) (o : Nat) : zfin cy o 191 = .inl (cy 0, 16, .inl (fun _ => 0)) := zf_a (by decide +kernel) (by decide)
theorem zfr_192 (cy : Nat → ClassId) (o : Nat) : zfin cy o 192 = .inl (cy 0, 16, .inl (fun _ => 0)) := zf_a (by decide +kernel) (by decide)
theorem zfr_193 (cy : Nat → ClassId) (o : Nat) : zfin cy o 193 = .inl (cy 0, 6, .inl (fun _ => 0)) := zf_a (by decide +kernel) (by decide)
theorem zfr_194 (cy : Nat → ClassId) (o : Nat) : zfin cy o 194 = .inl (cy 0, 6, .inl (fun _ => 0)) := zf_a (by decide +kernel) (by decide)
theorem zfo_195 (cy : Nat → ClassId) (o : Nat) : zfin cy o 195 = .inr (1, [.ref (o + (195 + 1)), .ref (o + (195 + 2)), .int 0, .int 0]) := (zf_o (fds := [(0, 1), (0, 2), (1, 0), (1, 0)]) (by decide +kernel) (σ0_row (by decide))).trans rfl
theorem zfr_196 (cy : Nat → ClassId) (o : Nat) : zfin cy o 196 = .inl (cy 0, 16, .inl (fun _ => 0)) := zf_a (by decide +kernel) (by decide)
theorem zfr_197 (cy : Nat → ClassId) (o : Nat) : zfin cy o 197 = .inl (cy 0, 16, .inl (fun _ => 0)) := zf_a (by decide +kernel) (by decide)
theorem zfo_198 (cy : Nat → ClassId) (o : Nat) : zfin cy o 198 = .inr (7, [.ref (o + (198 + 1)), .int 0, .long 0]) := (zf_o (fds := [(0, 1), (1, 0), (2, 0)]) (by decide +kernel) (σ0_row (by decide))).trans rfl
theorem zfr_199 (cy : Nat → ClassId) (o : Nat) : zfin cy o 199 = .inl (cy 3, 1126, .inr (.inl (fun _ => 0))) := by
  unfold zfin
  rw [zs_199, zE_l]
  rfl
theorem zfo_200 (cy : Nat → ClassId) (o : Nat) : zfin cy o 200 = .inr (6, [.ref (o + (200 + 1)), .ref (o + (200 + 2)), .ref (o + (200 + 3)), .ref (o + (200 + 4)), .ref (o + (200 + 5)), .ref (o + (200 + 6)), .int 0, .int 0, .int 0, .int 0, .int 0]) := (zf_o (fds := [(0, 1), (0, 2), (0, 3), (0, 4), (0, 5), (0, 6), (1, 0), (1, 0), (1, 0), (1, 0), (1, 0)]) (by decide +kernel) (σ0_row (by decide))).trans rfl
theorem zfr_201 (cy : Nat → ClassId) (o : Nat) : zfin cy o 201 = .inl (cy 0, 16, .inl (fun _ => 0)) := zf_a (by decide +kernel) (by decide)
theorem zfr_202 (cy : Nat → ClassId) (o : Nat) : zfin cy o 202 = .inl (cy 0, 16, .inl (fun _ => 0)) := zf_a (by decide +kernel) (by decide)
theorem zfr_203 (cy : Nat → ClassId) (o : Nat) : zfin cy o 203 = .inl (cy 0, 16, .inl (fun _ => 0)) := zf_a (by decide +kernel) (by decide)
theorem zfr_204 (cy : Nat → ClassId) (o : Nat) : zfin cy o 204 = .inl (cy 0, 17, .inl (fun _ => 0)) := zf_a (by decide +kernel) (by decide)
theorem zfr_205 (cy : Nat → ClassId) (o : Nat) : zfin cy o 205 = .inl (cy 0, 17, .inl (fun _ => 0)) := zf_a (by decide +kernel) (by decide)
theorem zfr_206 (cy : Nat → ClassId) (o : Nat) : zfin cy o 206 = .inl (cy 0, 16, .inl (fun _ => 0)) := zf_a (by decide +kernel) (by decide)
theorem zfo_207 (cy : Nat → ClassId) (o : Nat) : zfin cy o 207 = .inr (3, [.ref (o + (207 + 1)), .ref (o + (207 + 2))]) := (zf_o (fds := [(0, 1), (0, 2)]) (by decide +kernel) (σ0_row (by decide))).trans rfl
theorem zfr_208 (cy : Nat → ClassId) (o : Nat) : zfin cy o 208 = .inl (cy 0, 1000, .inl (fun _ => 0)) := zf_a (by decide +kernel) (by decide)
theorem zfr_209 (cy : Nat → ClassId) (o : Nat) : zfin cy o 209 = .inl (cy 0, 1000, .inl (fun _ => 0)) := zf_a (by decide +kernel) (by decide)
theorem zfo_210 (cy : Nat → ClassId) (o : Nat) : zfin cy o 210 = .inr (0, [.ref (o + (210 + 1)), .ref (o + (210 + 2)), .ref (o + (210 + 3)), .ref (o + (210 + 4)), .ref (o + (210 + 5)), .ref (o + (210 + 6)), .ref (o + (210 + 7)), .ref (o + (210 + 8)), .ref (o + (210 + 9)), .ref (o + (210 + 10)), .ref (o + (210 + 11)), .int 0, .int 0, .int 0, .int 0, .int 0, .int 0, .int 0]) := (zf_o (fds := [(0, 1), (0, 2), (0, 3), (0, 4), (0, 5), (0, 6), (0, 7), (0, 8), (0, 9), (0, 10), (0, 11), (1, 0), (1, 0), (1, 0), (1, 0), (1, 0), (1, 0), (1, 0)]) (by decide +kernel) (σ0_row (by decide))).trans rfl
theorem zfr_211 (cy : Nat → ClassId) (o : Nat) : zfin cy o 211 = .inl (cy 0, 16, .inl (fun _ => 0)) := zf_a (by decide +kernel) (by decide)
theorem zfr_212 (cy : Nat → ClassId) (o : Nat) : zfin cy o 212 = .inl (cy 0, 16, .inl (fun _ => 0)) := zf_a (by decide +kernel) (by decide)
theorem zfr_213 (cy : Nat → ClassId) (o : Nat) : zfin cy o 213 = .inl (cy 0, 16, .inl (fun _ => 0)) := zf_a (by decide +kernel) (by decide)
theorem zfr_214 (cy : Nat → ClassId) (o : Nat) : zfin cy o 214 = .inl (cy 0, 16, .inl (fun _ => 0)) := zf_a (by decide +kernel) (by decide)
theorem zfr_215 (cy : Nat → ClassId) (o : Nat) : zfin cy o 215 = .inl (cy 0, 16, .inl (fun _ => 0)) := zf_a (by decide +kernel) (by decide)
theorem zfr_216 (cy : Nat → ClassId) (o : Nat) : zfin cy o 216 = .inl (cy 0, 6, .inl (fun _ => 0)) := zf_a (by decide +kernel) (by decide)
theorem zfr_217 (cy : Nat → ClassId) (o : Nat) : zfin cy o 217 = .inl (cy 0, 6, .inl (fun _ => 0)) := zf_a (by decide +kernel) (by decide)
theorem zfr_218 (cy : Nat → ClassId) (o : Nat) : zfin cy o 218 = .inl (cy 0, 6, .inl (fun _ => 0)) := zf_a (by decide +kernel) (by decide)
theorem zfr_219 (cy : Nat → ClassId) (o : Nat) : zfin cy o 219 = .inl (cy 0, 6, .inl (fun _ => 0)) := zf_a (by decide +kernel) (by decide)
theorem zfr_220 (cy : Nat → ClassId) (o : Nat) : zfin cy o 220 = .inl (cy 0, 6, .inl (fun _ => 0)) := zf_a (by decide +kernel) (by decide)
theorem zfr_221 (cy : Nat → ClassId) (o : Nat) : zfin cy o 221 = .inl (cy 0, 6, .inl (fun _ => 0)) := zf_a (by decide +kernel) (by decide)
theorem zfr_222 (cy : Nat → ClassId) (o : Nat) : zfin cy o 222 = .inl (cy 0, 384, .inl (fun _ => 0)) := zf_a (by decide +kernel) (by decide)
theorem zfo_223 (cy : Nat → ClassId) (o : Nat) : zfin cy o 223 = .inr (10, [.int 0, .ref (o + (223 + 1)), .ref (o + (223 + 2)), .ref (o + (223 + 3)), .ref (o + (223 + 4)), .ref (o + (223 + 5)), .ref (o + (223 + 6)), .ref (o + (223 + 7)), .ref (o + (223 + 8)), .int 0, .int 0, .int 0, .int 0, .int 0, .long 0, .int 0, .int 0, .int 0, .ref (o + (223 + 9)), .ref (o + (223 + 10)), .ref (o + (223 + 11)), .ref (o + (223 + 12)), .int 0, .int 0, .int 0, .int 0, .int 0, .ref (o + (223 + 13)), .ref (o + (223 + 14)), .ref (o + (223 + 15)), .int 0, .int 0, .int 0, .int 0, .int 0, .ref (o + (223 + 16)), .ref (o + (223 + 17)), .ref (o + (223 + 18)), .ref (o + (223 + 19)), .ref (o + (223 + 20)), .ref (o + (223 + 21)), .ref (o + (223 + 22)), .long 0, .int 0, .ref (o + (223 + 23)), .ref (o + (223 + 24)), .int 0, .int 0, .ref (o + (223 + 25)), .ref (o + (223 + 26))]) := (zf_o (fds := [(1, 0), (0, 1), (0, 2), (0, 3), (0, 4), (0, 5), (0, 6), (0, 7), (0, 8), (1, 0), (1, 0), (1, 0), (1, 0), (1, 0), (2, 0), (1, 0), (1, 0), (1, 0), (0, 9), (0, 10), (0, 11), (0, 12), (1, 0), (1, 0), (1, 0), (1, 0), (1, 0), (0, 13), (0, 14), (0, 15), (1, 0), (1, 0), (1, 0), (1, 0), (1, 0), (0, 16), (0, 17), (0, 18), (0, 19), (0, 20), (0, 21), (0, 22), (2, 0), (1, 0), (0, 23), (0, 24), (1, 0), (1, 0), (0, 25), (0, 26)]) (by decide +kernel) (σ0_row (by decide))).trans rfl
theorem zfr_224 (cy : Nat → ClassId) (o : Nat) : zfin cy o 224 = .inl (cy 1, 2400, .inl (fun _ => 0)) := zf_a (by decide +kernel) (by decide)
theorem zfr_225 (cy : Nat → ClassId) (o : Nat) : zfin cy o 225 = .inl (cy 0, 4, .inl (fun _ => 0)) := zf_a (by decide +kernel) (by decide)
theorem zfr_226 (cy : Nat → ClassId) (o : Nat) : zfin cy o 226 = .inl (cy 0, 4, .inl (fun _ => 0)) := zf_a (by decide +kernel) (by decide)
theorem zfr_227 (cy : Nat → ClassId) (o : Nat) : zfin cy o 227 = .inl (cy 0, 4, .inl (upd (fun _ => 0) 0 (-1))) := by
  have h0 : σ0.1 227 = upd (fun _ => 0) 0 (-1) := by
    funext j
    by_cases h : j = 0 <;> simp [σ0, upd, h]
  unfold zfin
  rw [h0, zs_227, zE_a]
theorem zfr_228 (cy : Nat → ClassId) (o : Nat) : zfin cy o 228 = .inl (cy 0, 12, .inl (fun _ => 0)) := zf_a (by decide +kernel) (by decide)
theorem zfr_229 (cy : Nat → ClassId) (o : Nat) : zfin cy o 229 = .inl (cy 0, 984, .inl (fun _ => 0)) := zf_a (by decide +kernel) (by decide)
theorem zfr_230 (cy : Nat → ClassId) (o : Nat) : zfin cy o 230 = .inl (cy 0, 264, .inl (fun _ => 0)) := zf_a (by decide +kernel) (by decide)
theorem zfr_231 (cy : Nat → ClassId) (o : Nat) : zfin cy o 231 = .inl (cy 0, 168, .inl (fun _ => 0)) := zf_a (by decide +kernel) (by decide)
theorem zfr_232 (cy : Nat → ClassId) (o : Nat) : zfin cy o 232 = .inl (cy 0, 123, .inl (fun _ => 0)) := zf_a (by decide +kernel) (by decide)
theorem zfr_233 (cy : Nat → ClassId) (o : Nat) : zfin cy o 233 = .inl (cy 0, 6, .inl (fun _ => 0)) := zf_a (by decide +kernel) (by decide)
theorem zfr_234 (cy : Nat → ClassId) (o : Nat) : zfin cy o 234 = .inl (cy 0, 16, .inl (fun _ => 0)) := zf_a (by decide +kernel) (by decide)
theorem zfr_235 (cy : Nat → ClassId) (o : Nat) : zfin cy o 235 = .inl (cy 0, 16, .inl (fun _ => 0)) := zf_a (by decide +kernel) (by decide)
theorem zfr_236 (cy : Nat → ClassId) (o : Nat) : zfin cy o 236 = .inl (cy 0, 16, .inl (fun _ => 0)) := zf_a (by decide +kernel) (by decide)
theorem zfr_237 (cy : Nat → ClassId) (o : Nat) : zfin cy o 237 = .inl (cy 0, 16, .inl (fun _ => 0)) := zf_a (by decide +kernel) (by decide)
theorem zfr_238 (cy : Nat → ClassId) (o : Nat) : zfin cy o 238 = .inl (cy 0, 16, .inl (fun _ => 0)) := zf_a (by decide +kernel) (by decide)
theorem zfr_239 (cy : Nat → ClassId) (o : Nat) : zfin cy o 239 = .inl (cy 0, 16, .inl (fun _ => 0)) := zf_a (by decide +kernel) (by decide)
theorem zfr_240 (cy : Nat → ClassId) (o : Nat) : zfin cy o 240 = .inl (cy 0, 16, .inl (fun _ => 0)) := zf_a (by decide +kernel) (by decide)
theorem zfr_241 (cy : Nat → ClassId) (o : Nat) : zfin cy o 241 = .inl (cy 0, 6, .inl (fun _ => 0)) := zf_a (by decide +kernel) (by decide)
theorem zfr_242 (cy : Nat → ClassId) (o : Nat) : zfin cy o 242 = .inl (cy 0, 16, .inl (fun _ => 0)) := zf_a (by decide +kernel) (by decide)
theorem zfr_243 (cy : Nat → ClassId) (o : Nat) : zfin cy o 243 = .inl (cy 0, 6, .inl (fun _ => 0)) := zf_a (by decide +kernel) (by decide)
theorem zfr_244 (cy : Nat → ClassId) (o : Nat) : zfin cy o 244 = .inl (cy 2, 6, .inl (fun _ => 0)) := zf_a (by decide +kernel) (by decide)
theorem zfr_245 (cy : Nat → ClassId) (o : Nat) : zfin cy o 245 = .inl (cy 3, 1200, .inr (.inl (fun _ => 0))) := by
  unfold zfin
  rw [zs_245, zE_l]
  rfl
theorem zfr_246 (cy : Nat → ClassId) (o : Nat) : zfin cy o 246 = .inl (cy 0, 16, .inl (fun _ => 0)) := zf_a (by decide +kernel) (by decide)
theorem zfr_247 (cy : Nat → ClassId) (o : Nat) : zfin cy o 247 = .inl (cy 0, 16, .inl (fun _ => 0)) := zf_a (by decide +kernel) (by decide)
theorem zfr_248 (cy : Nat → ClassId) (o : Nat) : zfin cy o 248 = .inl (cy 0, 4, .inl (fun _ => 0)) := zf_a (by decide +kernel) (by decide)
theorem zfr_249 (cy : Nat → ClassId) (o : Nat) : zfin cy o 249 = .inl (cy 2, 3, .inl (fun _ => 0)) := zf_a (by decide +kernel) (by decide)
theorem yfin_9 (cy : Nat → ClassId) (o : Nat) : yX9 cy o (zfin cy o) 0 := ⟨zfo_0 cy o, ⟨zfo_1 cy o, zfr_2 cy o, zfq_3 cy o, ⟨zfo_4 cy o, zfr_5 cy o, zfr_6 cy o, zfr_7 cy o, zfr_8 cy o, zfr_9 cy o, zfr_10 cy o, zfr_11 cy o, zfr_12 cy o, zfr_13 cy o, zfr_14 cy o, zfr_15 cy o⟩, ⟨zfo_16 cy o, zfr_17 cy o, zfr_18 cy o, zfr_19 cy o, zfr_20 cy o, zfr_21 cy o, zfr_22 cy o, zfr_23 cy o, zfr_24 cy o, zfr_25 cy o, zfr_26 cy o, zfr_27 cy o⟩, zfq_28 cy o, ⟨zfo_29 cy o, zfr_30 cy o, zfr_31 cy o⟩, ⟨zfo_32 cy o, zfr_33 cy o, zfr_34 cy o⟩, zfq_35 cy o, ⟨zfo_36 cy o, zfr_37 cy o, zfr_38 cy o⟩, ⟨zfo_39 cy o, zfr_40 cy o, zfr_41 cy o⟩, zfr_42 cy o⟩, zfq_43 cy o, ⟨zfo_44 cy o, zfr_45 cy o, zfq_46 cy o, ⟨zfo_47 cy o, zfr_48 cy o, zfr_49 cy o, zfr_50 cy o, zfr_51 cy o, zfr_52 cy o, zfr_53 cy o, zfr_54 cy o, zfr_55 cy o, zfr_56 cy o, zfr_57 cy o, zfr_58 cy o⟩, ⟨zfo_59 cy o, zfr_60 cy o, zfr_61 cy o, zfr_62 cy o, zfr_63 cy o, zfr_64 cy o, zfr_65 cy o, zfr_66 cy o, zfr_67 cy o, zfr_68 cy o, zfr_69 cy o, zfr_70 cy o⟩, zfq_71 cy o, ⟨zfo_72 cy o, zfr_73 cy o, zfr_74 cy o⟩, ⟨zfo_75 cy o, zfr_76 cy o, zfr_77 cy o⟩, zfq_78 cy o, ⟨zfo_79 cy o, zfr_80 cy o, zfr_81 cy o⟩, ⟨zfo_82 cy o, zfr_83 cy o, zfr_84 cy o⟩, zfr_85 cy o⟩, ⟨zfo_86 cy o, zfr_87 cy o, zfq_88 cy o, ⟨zfo_89 cy o, zfr_90 cy o, zfr_91 cy o, zfr_92 cy o, zfr_93 cy o, zfr_94 cy o, zfr_95 cy o, zfr_96 cy o, zfr_97 cy o, zfr_98 cy o, zfr_99 cy o, zfr_100 cy o⟩, ⟨zfo_101 cy o, zfr_102 cy o, zfr_103 cy o, zfr_104 cy o, zfr_105 cy o, zfr_106 cy o, zfr_107 cy o, zfr_108 cy o, zfr_109 cy o, zfr_110 cy o, zfr_111 cy o, zfr_112 cy o⟩, zfq_113 cy o, ⟨zfo_114 cy o, zfr_115 cy o, zfr_116 cy o⟩, ⟨zfo_117 cy o, zfr_118 cy o, zfr_119 cy o⟩, zfq_120 cy o, ⟨zfo_121 cy o, zfr_122 cy o, zfr_123 cy o⟩, ⟨zfo_124 cy o, zfr_125 cy o, zfr_126 cy o⟩, zfr_127 cy o⟩, ⟨zfo_128 cy o, zfr_129 cy o, zfq_130 cy o, ⟨zfo_131 cy o, zfr_132 cy o, zfr_133 cy o, zfr_134 cy o, zfr_135 cy o, zfr_136 cy o, zfr_137 cy o, zfr_138 cy o, zfr_139 cy o, zfr_140 cy o, zfr_141 cy o, zfr_142 cy o⟩, ⟨zfo_143 cy o, zfr_144 cy o, zfr_145 cy o, zfr_146 cy o, zfr_147 cy o, zfr_148 cy o, zfr_149 cy o, zfr_150 cy o, zfr_151 cy o, zfr_152 cy o, zfr_153 cy o, zfr_154 cy o⟩, zfq_155 cy o, ⟨zfo_156 cy o, zfr_157 cy o, zfr_158 cy o⟩, ⟨zfo_159 cy o, zfr_160 cy o, zfr_161 cy o⟩, zfq_162 cy o, ⟨zfo_163 cy o, zfr_164 cy o, zfr_165 cy o⟩, ⟨zfo_166 cy o, zfr_167 cy o, zfr_168 cy o⟩, zfr_169 cy o⟩, zfr_170 cy o, ⟨zfo_171 cy o, ⟨zfo_172 cy o, zfr_173 cy o, zfr_174 cy o, zfr_175 cy o, zfr_176 cy o, zfr_177 cy o, zfr_178 cy o, zfr_179 cy o, zfr_180 cy o, zfr_181 cy o, zfr_182 cy o, zfr_183 cy o⟩, ⟨zfo_184 cy o, zfr_185 cy o, zfr_186 cy o⟩, zfr_187 cy o, zfr_188 cy o, zfr_189 cy o⟩, ⟨zfo_190 cy o, zfr_191 cy o, zfr_192 cy o, zfr_193 cy o, zfr_194 cy o⟩, ⟨zfo_195 cy o, zfr_196 cy o, zfr_197 cy o⟩, ⟨zfo_198 cy o, zfr_199 cy o⟩, ⟨zfo_200 cy o, zfr_201 cy o, zfr_202 cy o, zfr_203 cy o, zfr_204 cy o, zfr_205 cy o, zfr_206 cy o⟩, ⟨zfo_207 cy o, zfr_208 cy o, zfr_209 cy o⟩, ⟨zfo_210 cy o, zfr_211 cy o, zfr_212 cy o, zfr_213 cy o, zfr_214 cy o, zfr_215 cy o, zfr_216 cy o, zfr_217 cy o, zfr_218 cy o, zfr_219 cy o, zfr_220 cy o, zfr_221 cy o⟩, zfr_222 cy o⟩
theorem yfin_10 (cy : Nat → ClassId) (o : Nat) : yX10 cy o (zfin cy o) 223 := ⟨zfo_223 cy o, zfr_224 cy o, zfr_225 cy o, zfr_226 cy o, zfr_227 cy o, zfr_228 cy o, zfr_229 cy o, zfr_230 cy o, zfr_231 cy o, zfr_232 cy o, zfr_233 cy o, zfr_234 cy o, zfr_235 cy o, zfr_236 cy o, zfr_237 cy o, zfr_238 cy o, zfr_239 cy o, zfr_240 cy o, zfr_241 cy o, zfr_242 cy o, zfr_243 cy o, zfr_244 cy o, zfr_245 cy o, zfr_246 cy o, zfr_247 cy o, zfr_248 cy o, zfr_249 cy o⟩
