/-! sets as bits -/
def bt (x : Int32) (j : Nat) : Bool := x.toBitVec.getLsbD j
theorem bt_sm : ∀ j, j < 32 → ((Int32.ofNat j &&& 31).toBitVec.smod 32).toNat = j := by decide +kernel
theorem bt_and1 (x : Int32) {j : Nat} (h : j < 32) : ((x >>> (Int32.ofNat j &&& 31)) &&& (1 : Int32)) = if bt x j = true then 1 else 0 := by
  have e : ((x >>> (Int32.ofNat j &&& 31)) &&& (1 : Int32)).toBitVec = (x.toBitVec.sshiftRight j) &&& 1#32 := by
    show (x.toBitVec.sshiftRight ((Int32.ofNat j &&& 31).toBitVec.smod 32).toNat) &&& _ = _
    rw [bt_sm j h]
    rfl
  have g : ∀ i, ((x.toBitVec.sshiftRight j) &&& 1#32).getLsbD i = (decide (i = 0) && bt x j) := by
    intro i
    rw [BitVec.getLsbD_and, BitVec.getLsbD_sshiftRight]
    by_cases c : i = 0
    · subst c
      have h2 : j + 0 < 32 := by omega
      simp [bt, h]
    · simp [c]
  apply Int32.toBitVec_inj.mp
  rw [e]
  apply BitVec.eq_of_getLsbD_eq
  intro i hi
  rw [g i]
  by_cases b : bt x j = true
  · rw [if_pos b, b]
    show _ = (1#32).getLsbD i
    by_cases c : i = 0
    · subst c; rfl
    · simp [c]
  · rw [if_neg b]
    have b' : bt x j = false := by cases hb : bt x j; rfl; exact absurd hb b
    rw [b']
    show _ = (0#32).getLsbD i
    simp
theorem bt_0 {x y : Int32} {j : Nat} (h : j < 32) (e : y = Int32.ofNat j) : ((x >>> (y &&& 31)) &&& (1 : Int32)) = 0 ↔ bt x j = false := by
  rw [e, bt_and1 x h]
  cases bt x j <;> simp
theorem bt_1 {x y : Int32} {j : Nat} (h : j < 32) (e : y = Int32.ofNat j) : ((x >>> (y &&& 31)) &&& (1 : Int32)) = 1 ↔ bt x j = true := by
  rw [e, bt_and1 x h]
  cases bt x j <;> simp
theorem bt_or (x y : Int32) (j : Nat) : bt (x ||| y) j = (bt x j || bt y j) := by
  show (x.toBitVec ||| y.toBitVec).getLsbD j = _
  rw [BitVec.getLsbD_or]
  rfl
theorem bt_an (x y : Int32) (j : Nat) : bt (x &&& y) j = (bt x j && bt y j) := by
  show (x.toBitVec &&& y.toBitVec).getLsbD j = _
  rw [BitVec.getLsbD_and]
  rfl
theorem bt_sl : ∀ i, i < 32 → ∀ j, j < 32 → bt ((1 : Int32) <<< (Int32.ofNat i &&& 31)) j = decide (j = i) := by decide +kernel
theorem bt_z (j : Nat) : bt 0 j = false := by
  show (0#32).getLsbD j = false
  simp
theorem bt_no (x : Int32) {j : Nat} (h : j < 32) : bt (x ^^^ (-1 : Int32)) j = !(bt x j) := by
  show (x.toBitVec ^^^ (-1 : Int32).toBitVec).getLsbD j = _
  rw [BitVec.getLsbD_xor]
  have e : ((-1 : Int32).toBitVec).getLsbD j = true := by
    have : ∀ j, j < 32 → ((-1 : Int32).toBitVec).getLsbD j = true := by decide +kernel
    exact this j h
  rw [e]
  show (bt x j ^^ true) = _
  cases bt x j <;> rfl
theorem bt_m1 {j : Nat} (h : j < 32) : bt (-1) j = true := by
  have : ∀ j, j < 32 → bt (-1) j = true := by decide +kernel
  exact this j h
theorem bt_ex {x y : Int32} (h : ∀ j, j < 32 → bt x j = bt y j) : x = y := Int32.toBitVec_inj.mp (BitVec.eq_of_getLsbD_eq (fun i hi => h i hi))
/-- a set of RIDERS is one of 64 -/
theorem bt_64 {x : Int32} (h : ∀ j, 6 ≤ j → j < 32 → bt x j = false) : ∃ k, k < 64 ∧ x = Int32.ofNat k := by
  have key : ∀ b0 b1 b2 b3 b4 b5 : Bool, ∃ k, k < 64 ∧ (∀ j, j < 32 → bt (Int32.ofNat k) j = (if j = 0 then b0 else if j = 1 then b1 else if j = 2 then b2 else if j = 3 then b3 else if j = 4 then b4 else if j = 5 then b5 else false)) := by
    intro b0 b1 b2 b3 b4 b5
    refine ⟨(if b0 then 1 else 0) + (if b1 then 2 else 0) + (if b2 then 4 else 0) + (if b3 then 8 else 0) + (if b4 then 16 else 0) + (if b5 then 32 else 0), ?_, ?_⟩
    · cases b0 <;> cases b1 <;> cases b2 <;> cases b3 <;> cases b4 <;> cases b5 <;> decide
    · cases b0 <;> cases b1 <;> cases b2 <;> cases b3 <;> cases b4 <;> cases b5 <;> decide +kernel
  obtain ⟨k, hk, hb⟩ := key (bt x 0) (bt x 1) (bt x 2) (bt x 3) (bt x 4) (bt x 5)
  refine ⟨k, hk, bt_ex (fun j hj => ?_)⟩
  rw [hb j hj]
  by_cases c : j < 6
  · rcases (show j = 0 ∨ j = 1 ∨ j = 2 ∨ j = 3 ∨ j = 4 ∨ j = 5 by omega) with e | e | e | e | e | e <;> subst e <;> rfl
  · rw [if_neg (by omega), if_neg (by omega), if_neg (by omega), if_neg (by omega), if_neg (by omega), if_neg (by omega)]
    exact h j (by omega) hj
/-! who pulls, as a function of who wants to -/
def lstF (W : Nat → Bool) : Nat → Int32
  | 0 => -1
  | n + 1 => if lstF W n = -1 then (if W n = true then Int32.ofNat n else -1) else lstF W n
def drF (W : Nat → Bool) (f : Nat → Int32) : Nat → Int32
  | 0 => -1
  | n + 1 => if W n = true ∧ (drF W f n = -1 ∨ ¬ f n ≤ f (drF W f n).toNatClampNeg) then Int32.ofNat n else drF W f n
def cnF (W : Nat → Bool) : Nat → Nat
  | 0 => 0
  | n + 1 => cnF W n + (if W n = true then 1 else 0)
theorem lstF_cg {W W' : Nat → Bool} : ∀ n, (∀ r, r < n → W r = W' r) → lstF W n = lstF W' n := by
  intro n
  induction n with
  | zero => intro _; rfl
  | succ n ih =>
    intro h
    show (if lstF W n = -1 then (if W n = true then Int32.ofNat n else -1) else lstF W n) = (if lstF W' n = -1 then (if W' n = true then Int32.ofNat n else -1) else lstF W' n)
    rw [ih (fun r hr => h r (by omega)), h n (by omega)]
theorem drF_cg {W W' : Nat → Bool} {f : Nat → Int32} : ∀ n, (∀ r, r < n → W r = W' r) → drF W f n = drF W' f n := by
  intro n
  induction n with
  | zero => intro _; rfl
  | succ n ih =>
    intro h
    show (if W n = true ∧ (drF W f n = -1 ∨ ¬ f n ≤ f (drF W f n).toNatClampNeg) then Int32.ofNat n else drF W f n) = (if W' n = true ∧ (drF W' f n = -1 ∨ ¬ f n ≤ f (drF W' f n).toNatClampNeg) then Int32.ofNat n else drF W' f n)
    rw [ih (fun r hr => h r (by omega)), h n (by omega)]
theorem cnF_cg {W W' : Nat → Bool} : ∀ n, (∀ r, r < n → W r = W' r) → cnF W n = cnF W' n := by
  intro n
  induction n with
  | zero => intro _; rfl
  | succ n ih =>
    intro h
    show cnF W n + (if W n = true then 1 else 0) = cnF W' n + (if W' n = true then 1 else 0)
    rw [ih (fun r hr => h r (by omega)), h n (by omega)]
theorem cnF_le (W : Nat → Bool) : ∀ n, cnF W n ≤ n := by
  intro n
  induction n with
  | zero => exact Nat.le_refl 0
  | succ n ih =>
    show cnF W n + (if W n = true then 1 else 0) ≤ n + 1
    split <;> omega
theorem lstF_up {W : Nat → Bool} {R : Nat} : ∀ k, (∀ r, R ≤ r → r < R + k → W r = false) → lstF W (R + k) = lstF W R := by
  intro k
  induction k with
  | zero => intro _; rfl
  | succ k ih =>
    intro h
    show (if lstF W (R + k) = -1 then (if W (R + k) = true then Int32.ofNat (R + k) else -1) else lstF W (R + k)) = lstF W R
    rw [ih (fun r a b => h r a (by omega)), h (R + k) (by omega) (by omega)]
    by_cases c : lstF W R = -1
    · rw [if_pos c, if_neg (by decide), c]
    · rw [if_neg c]
theorem cnF_up {W : Nat → Bool} {R : Nat} : ∀ k, (∀ r, R ≤ r → r < R + k → W r = false) → cnF W (R + k) = cnF W R := by
  intro k
  induction k with
  | zero => intro _; rfl
  | succ k ih =>
    intro h
    show cnF W (R + k) + (if W (R + k) = true then 1 else 0) = cnF W R
    rw [ih (fun r a b => h r a (by omega)), h (R + k) (by omega) (by omega), if_neg (by decide)]
    rfl
theorem ofNat_ne {n : Nat} (h : n < 1000) : Int32.ofNat n ≠ -1 := fun e => by
  have a := eq_t e
  rw [show ti (Int32.ofNat n) = (n : Int) from nI_t (by omega), lit_m1] at a
  omega
theorem ofNat_c {n : Nat} (h : n < 1000) : (Int32.ofNat n).toNatClampNeg = n := by
  have a := tn_eq (Int32.ofNat n)
  rw [show ti (Int32.ofNat n) = (n : Int) from nI_t (by omega)] at a
  omega
/-- the first that it is, or none -/
theorem lstF_sp (W : Nat → Bool) : ∀ n, n < 1000 → (lstF W n = -1 ∧ ∀ r, r < n → W r = false) ∨ (∃ r, r < n ∧ lstF W n = Int32.ofNat r ∧ W r = true ∧ ∀ j, j < r → W j = false) := by
  intro n
  induction n with
  | zero => intro _; exact Or.inl ⟨rfl, fun r h => absurd h (Nat.not_lt_zero r)⟩
  | succ n ih =>
    intro hn
    rcases ih (by omega) with ⟨a, b⟩ | ⟨r, a, b, c, d⟩
    · have e : lstF W (n + 1) = if W n = true then Int32.ofNat n else -1 := by
        show (if lstF W n = -1 then (if W n = true then Int32.ofNat n else -1) else lstF W n) = _
        rw [if_pos a]
      by_cases w : W n = true
      · right
        exact ⟨n, by omega, by rw [e, if_pos w], w, b⟩
      · left
        refine ⟨by rw [e, if_neg w], fun r hr => ?_⟩
        by_cases c : r = n
        · subst c
          cases hw : W r
          · rfl
          · exact absurd hw w
        · exact b r (by omega)
    · right
      refine ⟨r, by omega, ?_, c, d⟩
      show (if lstF W n = -1 then (if W n = true then Int32.ofNat n else -1) else lstF W n) = _
      rw [if_neg (by rw [b]; exact ofNat_ne (by omega)), b]
