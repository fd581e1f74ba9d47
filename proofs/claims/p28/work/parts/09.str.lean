theorem vk_S_congr {N : Nat} {len : List Nat} {byt : List (List Int32)} {k v k2 v2 : Nat → Nat} {A : Nat → Prop} {U : State} {H : Heap} (h : vk_S N len byt k v A U H) (hk : ∀ i, i < N → k2 i = k i) (hv : ∀ i, i < N → v2 i = v i) : vk_S N len byt k2 v2 A U H := by
  refine ⟨fun i hi => ?_, fun i j hi hj e => ?_⟩
  · rw [hk i hi, hv i hi]; exact h.1 i hi
  · rw [hk i hi, hk j hj] at e; exact h.2 i j hi hj e
def ztm (i : Nat) : Term := Term.string RX4 (zkx.getD i 0)
def zgv : List Cond := flatC (Jvm.Cond.and given_1 narrow_1)
def zp_ex : List Nat := [42, 50, 59, 69, 81, 96, 109, 123, 137, 154, 173]
set_option maxRecDepth 100000 in
theorem zgv_ex_ : ∀ i : Nat, i < 11 → zgv[zp_ex.getD i 0]? = some (Cond.exactly (ztm i) "java/lang/String") := by decide +kernel
theorem zgv_ex : ∀ i : Nat, i < 11 → Cond.exactly (ztm i) "java/lang/String" ∈ zgv := fun i h => List.mem_of_getElem? (zgv_ex_ i h)
def zp_co : List Nat := [43, 51, 60, 70, 82, 97, 110, 124, 138, 155, 174]
set_option maxRecDepth 100000 in
theorem zgv_co_ : ∀ i : Nat, i < 11 → zgv[zp_co.getD i 0]? = some (Cond.eq (.field (ztm i) "java/lang/String" "coder" "B") (.int 0)) := by decide +kernel
theorem zgv_co : ∀ i : Nat, i < 11 → Cond.eq (.field (ztm i) "java/lang/String" "coder" "B") (.int 0) ∈ zgv := fun i h => List.mem_of_getElem? (zgv_co_ i h)
def zp_ar : List Nat := [44, 52, 61, 71, 83, 98, 111, 125, 139, 156, 175]
set_option maxRecDepth 100000 in
theorem zgv_ar_ : ∀ i : Nat, i < 11 → zgv[zp_ar.getD i 0]? = some (Cond.arrayOf (.field (ztm i) "java/lang/String" "value" "[B") .byte) := by decide +kernel
theorem zgv_ar : ∀ i : Nat, i < 11 → Cond.arrayOf (.field (ztm i) "java/lang/String" "value" "[B") .byte ∈ zgv := fun i h => List.mem_of_getElem? (zgv_ar_ i h)
def zp_le : List Nat := [45, 53, 62, 72, 84, 99, 112, 126, 140, 157, 176]
set_option maxRecDepth 100000 in
theorem zgv_le_ : ∀ i : Nat, i < 11 → zgv[zp_le.getD i 0]? = some (Cond.eq (.length (.field (ztm i) "java/lang/String" "value" "[B")) (.int (Int32.ofNat (zlen.getD i 0)))) := by decide +kernel
theorem zgv_le : ∀ i : Nat, i < 11 → Cond.eq (.length (.field (ztm i) "java/lang/String" "value" "[B")) (.int (Int32.ofNat (zlen.getD i 0))) ∈ zgv := fun i h => List.mem_of_getElem? (zgv_le_ i h)
def zp_el : List (List Nat) := [[46, 47, 48, 49], [54, 55, 56, 57], [63, 64, 65, 66], [73, 74, 75, 76, 77], [85, 86, 87, 88, 89, 90, 91], [100, 101, 102, 103], [113, 114, 115, 116], [127, 128, 129], [141, 142, 143, 144, 145], [158, 159, 160, 161, 162, 163], [177, 178, 179, 180, 181]]
set_option maxRecDepth 100000 in
theorem zgv_el_ : ∀ i : Nat, i < 11 → ∀ j : Nat, j < zlen.getD i 0 → zgv[(zp_el.getD i []).getD j 0]? = some (Cond.eq (.elem (.field (ztm i) "java/lang/String" "value" "[B") (.int (Int32.ofNat j))) (.int ((zbyt.getD i []).getD j 0))) := by decide +kernel
theorem zgv_el : ∀ i : Nat, i < 11 → ∀ j : Nat, j < zlen.getD i 0 → Cond.eq (.elem (.field (ztm i) "java/lang/String" "value" "[B") (.int (Int32.ofNat j))) (.int ((zbyt.getD i []).getD j 0)) ∈ zgv := fun i h j h2 => List.mem_of_getElem? (zgv_el_ i h j h2)
def zp_ne : List (List Nat) := [[0, 58, 67, 78, 92, 104, 117, 130, 146, 164, 182], [0, 0, 68, 79, 93, 105, 118, 131, 147, 165, 183], [0, 0, 0, 80, 94, 106, 119, 132, 148, 166, 184], [0, 0, 0, 0, 95, 107, 120, 133, 149, 167, 185], [0, 0, 0, 0, 0, 108, 121, 134, 150, 168, 186], [0, 0, 0, 0, 0, 0, 122, 135, 151, 169, 187], [0, 0, 0, 0, 0, 0, 0, 136, 152, 170, 188], [0, 0, 0, 0, 0, 0, 0, 0, 153, 171, 189], [0, 0, 0, 0, 0, 0, 0, 0, 0, 172, 190], [0, 0, 0, 0, 0, 0, 0, 0, 0, 0, 191], [0, 0, 0, 0, 0, 0, 0, 0, 0, 0, 0]]
set_option maxRecDepth 100000 in
theorem zgv_ne_ : ∀ i : Nat, i < 11 → ∀ j : Nat, j < 11 → i < j → zgv[(zp_ne.getD i []).getD j 0]? = some (Cond.not (Cond.eq (ztm i) (ztm j))) := by decide +kernel
theorem zgv_ne : ∀ i : Nat, i < 11 → ∀ j : Nat, j < 11 → i ≠ j → (Cond.not (Cond.eq (ztm i) (ztm j)) ∈ zgv ∨ Cond.not (Cond.eq (ztm j) (ztm i)) ∈ zgv) := fun i hi j hj q => (Nat.lt_or_gt_of_ne q).elim (fun c => Or.inl (List.mem_of_getElem? (zgv_ne_ i hi j hj c))) (fun c => Or.inr (List.mem_of_getElem? (zgv_ne_ j hj i hi c)))
set_option maxRecDepth 100000 in
theorem zgv_cs : Cond.eq (.static "java/lang/String" "COMPACT_STRINGS" "Z") (.int 1) ∈ zgv := List.mem_of_getElem? (i := 4) (by decide +kernel)
set_option maxRecDepth 100000 in
theorem zgv_fm : Cond.isRef (.static "jdk/internal/util/Preconditions" "SIOOBE_FORMATTER" "Ljava/util/function/BiFunction;") ∈ zgv := List.mem_of_getElem? (i := 5) (by decide +kernel)
theorem str_refs {args : Array Value} {s : State} (hts : ∀ w ∈ lw_tbl, w.before args s = true) : ∀ i : Nat, i < 11 → (Cond.stringRef RX4 (zkx.getD i 0) (ztx.getD i "")).before args s = true := by
  intro i hi
  match i, hi with
  | 0, _ => exact hts (.stringRef "ChestnutLine$Reader" 116 "pull") (List.mem_append_right _ (show _ ∈ tables_1 from List.mem_append_right _ (List.mem_append_right _ (List.mem_append_left _ (List.mem_of_getElem? (i := 37) rfl)))))
  | 1, _ => exact hts (.stringRef "ChestnutLine$Reader" 122 "seen") (List.mem_append_right _ (show _ ∈ tables_1 from List.mem_append_right _ (List.mem_append_right _ (List.mem_append_left _ (List.mem_of_getElem? (i := 90) rfl)))))
  | 2, _ => exact hts (.stringRef "ChestnutLine$Reader" 128 "post") (List.mem_append_right _ (show _ ∈ tables_1 from List.mem_append_right _ (List.mem_append_right _ (List.mem_append_left _ (List.mem_of_getElem? (i := 95) rfl)))))
  | 3, _ => exact hts (.stringRef "ChestnutLine$Reader" 130 "rider") (List.mem_append_right _ (show _ ∈ tables_1 from List.mem_append_right _ (List.mem_append_right _ (List.mem_append_left _ (List.mem_of_getElem? (i := 96) rfl)))))
  | 4, _ => exact hts (.stringRef "ChestnutLine$Reader" 132 "station") (List.mem_append_right _ (show _ ∈ tables_1 from List.mem_append_right _ (List.mem_append_right _ (List.mem_append_left _ (List.mem_of_getElem? (i := 97) rfl)))))
  | 5, _ => exact hts (.stringRef "ChestnutLine$Reader" 134 "odds") (List.mem_append_right _ (show _ ∈ tables_1 from List.mem_append_right _ (List.mem_append_right _ (List.mem_append_left _ (List.mem_of_getElem? (i := 98) rfl)))))
  | 6, _ => exact hts (.stringRef "ChestnutLine$Reader" 136 "halt") (List.mem_append_right _ (show _ ∈ tables_1 from List.mem_append_right _ (List.mem_append_right _ (List.mem_append_left _ (List.mem_of_getElem? (i := 99) rfl)))))
  | 7, _ => exact hts (.stringRef "ChestnutLine$Reader" 138 "eat") (List.mem_append_right _ (show _ ∈ tables_1 from List.mem_append_right _ (List.mem_append_right _ (List.mem_append_left _ (List.mem_of_getElem? (i := 100) rfl)))))
  | 8, _ => exact hts (.stringRef "ChestnutLine$Reader" 140 "grace") (List.mem_append_right _ (show _ ∈ tables_1 from List.mem_append_right _ (List.mem_append_right _ (List.mem_append_left _ (List.mem_of_getElem? (i := 101) rfl)))))
  | 9, _ => exact hts (.stringRef "ChestnutLine$Reader" 142 "bishop") (List.mem_append_right _ (show _ ∈ tables_1 from List.mem_append_right _ (List.mem_append_right _ (List.mem_append_left _ (List.mem_of_getElem? (i := 102) rfl)))))
  | 10, _ => exact hts (.stringRef "ChestnutLine$Reader" 144 "other") (List.mem_append_right _ (show _ ∈ tables_1 from List.mem_append_right _ (List.mem_append_right _ (List.mem_append_left _ (List.mem_of_getElem? (i := 103) rfl)))))
  | i + 11, h => omega
theorem str_start {args : Array Value} {s : State} {A : Nat → Prop} (hgv : (Jvm.Cond.and given_1 narrow_1).before args s = true) (hts : ∀ w ∈ lw_tbl, w.before args s = true) (hA : ∀ a : Nat, a < s.heap.size → ¬ A a) : ∃ adK adV : Nat → Nat, vk_S 11 zlen zbyt adK adV A s s.heap ∧ va_Z "java/lang/String" "COMPACT_STRINGS" "Z" (.int 1) A s s.heap ∧ va_Zq "jdk/internal/util/Preconditions" "SIOOBE_FORMATTER" "Ljava/util/function/BiFunction;" A s s.heap ∧ ∀ i, i < 11 → vk_R RX4 (zkx.getD i 0) (ztx.getD i "") (adK i) s := by
  have hq : ∀ w ∈ zgv, w.before args s = true := flat_of_before _ hgv
  obtain ⟨adK, adV, h1, h2⟩ := vk_Sof (args := args) (s := s) (N := 11) (tm := ztm) (len := zlen) (byt := zbyt) (A := A) (by decide) (fun i hi => hq _ (zgv_ex i hi)) (fun i hi => hq _ (zgv_co i hi)) (fun i hi => hq _ (zgv_ar i hi)) (fun i hi => hq _ (zgv_le i hi)) (fun i hi j hj => hq _ (zgv_el i hi j hj)) (fun i j hi hj hij => (zgv_ne i hi j hj hij).imp (hq _) (hq _)) hA
  exact ⟨adK, adV, h1, va_Zof (args := args) (hts (.laysStatic "java/lang/String" "COMPACT_STRINGS" "Z") (List.mem_append_right _ (show _ ∈ tables_1 from List.mem_append_right _ (List.mem_append_right _ (List.mem_append_left _ (List.mem_of_getElem? (i := 51) rfl)))))) (hts (.initialized "java/lang/String") (List.mem_append_right _ (show _ ∈ tables_1 from List.mem_append_left _ (List.mem_of_getElem? (i := 14) rfl)))) (va_eqt (hq _ zgv_cs)) hA, va_Zqof (args := args) (hts (.laysStatic "jdk/internal/util/Preconditions" "SIOOBE_FORMATTER" "Ljava/util/function/BiFunction;") (List.mem_append_right _ (show _ ∈ tables_1 from List.mem_append_right _ (List.mem_append_right _ (List.mem_append_left _ (List.mem_of_getElem? (i := 67) rfl)))))) (hts (.initialized "jdk/internal/util/Preconditions") (List.mem_append_right _ (show _ ∈ tables_1 from List.mem_append_left _ (List.mem_of_getElem? (i := 16) rfl)))) (hq _ zgv_fm) hA, fun i hi => vk_R.of (str_refs hts i hi) (h2 i hi)⟩
