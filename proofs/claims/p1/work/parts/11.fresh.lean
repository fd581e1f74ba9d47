/-! NEW OBJECTS: what each call answers -/
def fC (σ : zSto) : Prop := ∀ j, σ.1 42 j = 0
def fM (σ : zSto) : Prop := ∀ j, σ.1 228 j = 0
theorem zI_ne {σ τ : zSto} {k j : Nat} {v : Int32} (e : τ = zI σ k j v) {k' : Nat} (h : k' ≠ k) : τ.1 k' = σ.1 k' := by
  subst e
  exact zup_n _ _ _ h
theorem zI_eq {σ τ : zSto} {k j : Nat} {v : Int32} (e : τ = zI σ k j v) : τ.1 k = upd (σ.1 k) j v := by
  subst e
  exact zup_s _ _ _
theorem fM_up {σ τ : zSto} {k j : Nat} {v : Int32} (e : τ = zI σ k j v) (h : (228 : Nat) ≠ k) (hf : fM σ) : fM τ := fun i => by rw [zI_ne e h]; exact hf i
theorem fC_0 : fC σ0 := fun j => by rw [σ0_row (by decide)]
theorem fM_0 : fM σ0 := fun j => by rw [σ0_row (by decide)]
theorem f_has {a1 a2 : Int32} {σ : zSto} {P : Int32 → zSto → Prop} (h : fC σ) (ha : vp_in a1 3) (hP : P 0 σ) : w_X8_has 1 a1 a2 σ P := by
  unfold w_X8_has
  refine ⟨fun _ => hP, fun h1 => ⟨ha, fun _ => hP, fun h2 => ?_⟩⟩
  have h3 : σ.1 (1 + 41) a1.toNatClampNeg = 0 := h _
  rw [h3] at h2
  exact absurd (Int32.not_lt.mp h1) h2
theorem f_lineAt {a : Int32} {σ : zSto} {P : Option Nat → zSto → Prop} (h : fC σ) (hP : P none σ) : w_X8_lineAt 1 a σ P := by
  unfold w_X8_lineAt
  exact f_has h (by unfold vp_in; decide) (fun _ => ⟨fun _ => hP, fun q => absurd rfl q⟩)
theorem f_planAt {a : Int32} {σ : zSto} {P : Option Nat → zSto → Prop} (h : fC σ) (hP : P none σ) : w_X8_planAt 1 a σ P := by
  unfold w_X8_planAt
  exact f_has h (by unfold vp_in; decide) (fun _ => ⟨fun _ => hP, fun q => absurd rfl q⟩)
theorem f_logAt {a : Int32} {σ : zSto} {P : Option Nat → zSto → Prop} (h : fC σ) (hP : P none σ) : w_X8_logAt 1 a σ P := by
  unfold w_X8_logAt
  exact f_has h (by unfold vp_in; decide) (fun _ => ⟨fun _ => hP, fun q => absurd rfl q⟩)
theorem f_ridden {a1 a2 a3 a4 : Int32} {σ : zSto} {P : Option Nat → zSto → Prop} (h : fC σ) (hP : P none σ) : w_X9_ridden a1 a2 a3 a4 σ P := by
  unfold w_X9_ridden
  exact f_lineAt h ⟨fun _ => hP, fun j hj => by cases hj⟩
theorem m1_lt {x : Int32} (h : ¬ x < 0) : ((0 : Int32) - (1 : Int32)) < x := by
  have h1 : (0 : Int32).toInt ≤ x.toInt := Int32.le_iff_toInt_le.mp (Int32.not_lt.mp h)
  have h2 : ((0 : Int32) - (1 : Int32)).toInt = -1 := by decide
  have h3 : (0 : Int32).toInt = 0 := by decide
  exact Int32.lt_iff_toInt_lt.mpr (by omega)
theorem fm_in {a b c : Int32} {σ : zSto} {P : Int32 → zSto → Prop} (hP : ∀ r, P r σ) : w_X10_in a b c σ P := by
  unfold w_X10_in
  exact ⟨fun _ => hP 0, fun _ => ⟨fun _ => hP 0, fun _ => hP 1⟩⟩
theorem fm_is {a1 a2 : Int32} {σ : zSto} {P : Int32 → zSto → Prop} (h : fM σ) (ha : vp_in a1 12) (hP : P 0 σ) : w_X10_is a1 a2 σ P := by
  unfold w_X10_is w_X10_in
  refine ⟨ha, fun _ _ => ⟨Or.inl rfl, hP⟩, fun h1 => ⟨fun _ _ => ⟨Or.inl rfl, hP⟩, fun h2 => ?_⟩⟩
  rw [h] at h2
  exact absurd (m1_lt h1) h2
theorem fm_hand {a1 a2 : Int32} {σ : zSto} {P : Int32 → zSto → Prop} (h : fM σ) (hP : P 0 σ) : w_X10_hand a1 a2 σ P := by
  unfold w_X10_hand
  exact fm_is h (by unfold vp_in; decide) (fun _ => ⟨fun _ => hP, fun q => absurd rfl q⟩)
theorem fm_layRun {a1 a2 a3 a4 : Int32} {σ : zSto} {P : Int32 → zSto → Prop} (h : fM σ) (hP : P 0 σ) : w_X10_layRun a1 a2 a3 a4 σ P := by
  unfold w_X10_layRun
  refine fm_in (fun r => ?_)
  intro _
  exact ⟨fun _ => hP, fun _ => fm_hand h (fun _ => ⟨fun q => absurd rfl q, fun _ => hP⟩)⟩
theorem fm_hasPlan {a : Int32} {σ : zSto} {P : Int32 → zSto → Prop} (h : fM σ) (hP : ∀ τ, fM τ → P 0 τ) : w_X10_hasPlan a σ P := by
  unfold w_X10_hasPlan
  intro σ1 e1
  have h1 := fM_up e1 (by decide) h
  exact fm_is h1 (by unfold vp_in; decide) (fun _ => ⟨Or.inl rfl, hP _ h1⟩)
theorem fm_hasLog {a : Int32} {σ : zSto} {P : Int32 → zSto → Prop} (h : fM σ) (hP : ∀ τ, fM τ → P 0 τ) : w_X10_hasLog a σ P := by
  unfold w_X10_hasLog
  intro σ1 e1
  have h1 := fM_up e1 (by decide) h
  exact fm_is h1 (by unfold vp_in; decide) (fun _ => ⟨Or.inl rfl, hP _ h1⟩)
theorem fx_line {a1 a2 : Int32} {σ : zSto} {P : Int32 → zSto → Prop} (h : fC σ) (hP : P (-2) σ) : w_X9_line a1 a2 σ P := by
  unfold w_X9_line
  exact f_lineAt h ⟨fun _ => hP, fun j hj => by cases hj⟩
theorem fy_line {a1 a2 : Int32} {σ : zSto} {P : Int32 → zSto → Prop} (h : fM σ) (hP : ∀ τ, P (-2) τ) : w_X10_line a1 a2 σ P := by
  unfold w_X10_line
  intro σ1 e1
  have h1 := fM_up e1 (by decide) h
  repeat' first
    | exact hP _
    | (intro q; exact absurd rfl q)
    | refine fm_hand h1 (fun _ => ?_)
    | refine fm_layRun h1 (fun _ => ?_)
    | refine fm_hasPlan h1 (fun _ _ => ?_)
    | refine fm_hasLog h1 (fun _ _ => ?_)
    | refine fm_is h1 (by unfold vp_in; decide) (fun _ => ?_)
    | refine fm_in (fun _ => ?_)
    | refine And.intro ?_ ?_
    | intro _
theorem fx_post {a1 a2 a3 : Int32} {σ : zSto} {P : Int32 → zSto → Prop} (h : fC σ) (hP : P (-2) σ) : w_X9_post a1 a2 a3 σ P := by
  unfold w_X9_post
  exact f_lineAt h ⟨fun _ => hP, fun j hj => by cases hj⟩
theorem fy_post {a1 a2 a3 : Int32} {σ : zSto} {P : Int32 → zSto → Prop} (h : fM σ) (hP : ∀ τ, P (-2) τ) : w_X10_post a1 a2 a3 σ P := by
  unfold w_X10_post
  intro σ1 e1
  have h1 := fM_up e1 (by decide) h
  repeat' first
    | exact hP _
    | (intro q; exact absurd rfl q)
    | refine fm_hand h1 (fun _ => ?_)
    | refine fm_layRun h1 (fun _ => ?_)
    | refine fm_hasPlan h1 (fun _ _ => ?_)
    | refine fm_hasLog h1 (fun _ _ => ?_)
    | refine fm_is h1 (by unfold vp_in; decide) (fun _ => ?_)
    | refine fm_in (fun _ => ?_)
    | refine And.intro ?_ ?_
    | intro _
theorem fx_rider {a1 a2 a3 : Int32} {σ : zSto} {P : Int32 → zSto → Prop} (h : fC σ) (hP : P (-1) σ) : w_X9_rider a1 a2 a3 σ P := by
  unfold w_X9_rider
  exact f_lineAt h ⟨fun _ => hP, fun j hj => by cases hj⟩
theorem fy_rider {a1 a2 a3 : Int32} {σ : zSto} {P : Int32 → zSto → Prop} (h : fM σ) (hP : ∀ τ, P (-1) τ) : w_X10_rider a1 a2 a3 σ P := by
  unfold w_X10_rider
  intro σ1 e1
  have h1 := fM_up e1 (by decide) h
  repeat' first
    | exact hP _
    | (intro q; exact absurd rfl q)
    | refine fm_hand h1 (fun _ => ?_)
    | refine fm_layRun h1 (fun _ => ?_)
    | refine fm_hasPlan h1 (fun _ _ => ?_)
    | refine fm_hasLog h1 (fun _ _ => ?_)
    | refine fm_is h1 (by unfold vp_in; decide) (fun _ => ?_)
    | refine fm_in (fun _ => ?_)
    | refine And.intro ?_ ?_
    | intro _
theorem fx_run {a1 a2 a3 a4 a5 : Int32} {σ : zSto} {P : Int32 → zSto → Prop} (h : fC σ) (hP : P (-2) σ) : w_X9_run a1 a2 a3 a4 a5 σ P := by
  unfold w_X9_run
  exact f_ridden h ⟨fun _ => hP, fun j hj => by cases hj⟩
theorem fy_run {a1 a2 a3 a4 a5 : Int32} {σ : zSto} {P : Int32 → zSto → Prop} (h : fM σ) (hP : ∀ τ, P (-2) τ) : w_X10_run a1 a2 a3 a4 a5 σ P := by
  unfold w_X10_run
  intro σ1 e1
  have h1 := fM_up e1 (by decide) h
  repeat' first
    | exact hP _
    | (intro q; exact absurd rfl q)
    | refine fm_hand h1 (fun _ => ?_)
    | refine fm_layRun h1 (fun _ => ?_)
    | refine fm_hasPlan h1 (fun _ _ => ?_)
    | refine fm_hasLog h1 (fun _ _ => ?_)
    | refine fm_is h1 (by unfold vp_in; decide) (fun _ => ?_)
    | refine fm_in (fun _ => ?_)
    | refine And.intro ?_ ?_
    | intro _
theorem fx_who {a1 a2 a3 a4 a5 : Int32} {σ : zSto} {P : Int32 → zSto → Prop} (h : fC σ) (hP : P (-2) σ) : w_X9_who a1 a2 a3 a4 a5 σ P := by
  unfold w_X9_who
  exact f_ridden h ⟨fun _ => hP, fun j hj => by cases hj⟩
theorem fy_who {a1 a2 a3 a4 a5 : Int32} {σ : zSto} {P : Int32 → zSto → Prop} (h : fM σ) (hP : ∀ τ, P (-2) τ) : w_X10_who a1 a2 a3 a4 a5 σ P := by
  unfold w_X10_who
  intro σ1 e1
  have h1 := fM_up e1 (by decide) h
  repeat' first
    | exact hP _
    | (intro q; exact absurd rfl q)
    | refine fm_hand h1 (fun _ => ?_)
    | refine fm_layRun h1 (fun _ => ?_)
    | refine fm_hasPlan h1 (fun _ _ => ?_)
    | refine fm_hasLog h1 (fun _ _ => ?_)
    | refine fm_is h1 (by unfold vp_in; decide) (fun _ => ?_)
    | refine fm_in (fun _ => ?_)
    | refine And.intro ?_ ?_
    | intro _
theorem fx_late {a1 a2 a3 a4 a5 : Int32} {σ : zSto} {P : Int32 → zSto → Prop} (h : fC σ) (hP : P (-1) σ) : w_X9_late a1 a2 a3 a4 a5 σ P := by
  unfold w_X9_late
  exact f_ridden h ⟨fun _ => hP, fun j hj => by cases hj⟩
theorem fy_late {a1 a2 a3 a4 a5 : Int32} {σ : zSto} {P : Int32 → zSto → Prop} (h : fM σ) (hP : ∀ τ, P (-1) τ) : w_X10_late a1 a2 a3 a4 a5 σ P := by
  unfold w_X10_late
  intro σ1 e1
  have h1 := fM_up e1 (by decide) h
  repeat' first
    | exact hP _
    | (intro q; exact absurd rfl q)
    | refine fm_hand h1 (fun _ => ?_)
    | refine fm_layRun h1 (fun _ => ?_)
    | refine fm_hasPlan h1 (fun _ _ => ?_)
    | refine fm_hasLog h1 (fun _ _ => ?_)
    | refine fm_is h1 (by unfold vp_in; decide) (fun _ => ?_)
    | refine fm_in (fun _ => ?_)
    | refine And.intro ?_ ?_
    | intro _
theorem fx_purse {a1 a2 a3 a4 : Int32} {σ : zSto} {P : Int32 → zSto → Prop} (h : fC σ) (hP : P (-1) σ) : w_X9_purse a1 a2 a3 a4 σ P := by
  unfold w_X9_purse
  exact f_lineAt h ⟨fun _ => hP, fun j hj => by cases hj⟩
theorem fy_purse {a1 a2 a3 a4 : Int32} {σ : zSto} {P : Int32 → zSto → Prop} (h : fM σ) (hP : ∀ τ, P (-1) τ) : w_X10_purse a1 a2 a3 a4 σ P := by
  unfold w_X10_purse
  intro σ1 e1
  have h1 := fM_up e1 (by decide) h
  repeat' first
    | exact hP _
    | (intro q; exact absurd rfl q)
    | refine fm_hand h1 (fun _ => ?_)
    | refine fm_layRun h1 (fun _ => ?_)
    | refine fm_hasPlan h1 (fun _ _ => ?_)
    | refine fm_hasLog h1 (fun _ _ => ?_)
    | refine fm_is h1 (by unfold vp_in; decide) (fun _ => ?_)
    | refine fm_in (fun _ => ?_)
    | refine And.intro ?_ ?_
    | intro _
theorem fx_rest {a1 a2 a3 : Int32} {σ : zSto} {P : Int32 → zSto → Prop} (h : fC σ) (hP : P (-2) σ) : w_X9_rest a1 a2 a3 σ P := by
  unfold w_X9_rest
  exact f_lineAt h ⟨fun _ => hP, fun j hj => by cases hj⟩
theorem fy_rest {a1 a2 a3 : Int32} {σ : zSto} {P : Int32 → zSto → Prop} (h : fM σ) (hP : ∀ τ, P (-2) τ) : w_X10_rest a1 a2 a3 σ P := by
  unfold w_X10_rest
  intro σ1 e1
  have h1 := fM_up e1 (by decide) h
  repeat' first
    | exact hP _
    | (intro q; exact absurd rfl q)
    | refine fm_hand h1 (fun _ => ?_)
    | refine fm_layRun h1 (fun _ => ?_)
    | refine fm_hasPlan h1 (fun _ _ => ?_)
    | refine fm_hasLog h1 (fun _ _ => ?_)
    | refine fm_is h1 (by unfold vp_in; decide) (fun _ => ?_)
    | refine fm_in (fun _ => ?_)
    | refine And.intro ?_ ?_
    | intro _
theorem fx_gain {a1 a2 a3 a4 : Int32} {σ : zSto} {P : Int32 → zSto → Prop} (h : fC σ) (hP : P (-1000000) σ) : w_X9_gain a1 a2 a3 a4 σ P := by
  unfold w_X9_gain
  exact f_lineAt h ⟨fun _ => hP, fun j hj => by cases hj⟩
theorem fy_gain {a1 a2 a3 a4 : Int32} {σ : zSto} {P : Int32 → zSto → Prop} (h : fM σ) (hP : ∀ τ, P (-1000000) τ) : w_X10_gain a1 a2 a3 a4 σ P := by
  unfold w_X10_gain
  intro σ1 e1
  have h1 := fM_up e1 (by decide) h
  repeat' first
    | exact hP _
    | (intro q; exact absurd rfl q)
    | refine fm_hand h1 (fun _ => ?_)
    | refine fm_layRun h1 (fun _ => ?_)
    | refine fm_hasPlan h1 (fun _ _ => ?_)
    | refine fm_hasLog h1 (fun _ _ => ?_)
    | refine fm_is h1 (by unfold vp_in; decide) (fun _ => ?_)
    | refine fm_in (fun _ => ?_)
    | refine And.intro ?_ ?_
    | intro _
theorem fx_chance {a1 a2 a3 : Int32} {σ : zSto} {P : Int64 → zSto → Prop} (h : fC σ) (hP : P (-1) σ) : w_X9_chance a1 a2 a3 σ P := by
  unfold w_X9_chance
  exact f_lineAt h ⟨fun _ => hP, fun j hj => by cases hj⟩
theorem fy_chance {a1 a2 a3 : Int32} {σ : zSto} {P : Int64 → zSto → Prop} (h : fM σ) (hP : ∀ τ, P (-1) τ) : w_X10_chance a1 a2 a3 σ P := by
  unfold w_X10_chance
  intro σ1 e1
  have h1 := fM_up e1 (by decide) h
  repeat' first
    | exact hP _
    | (intro q; exact absurd rfl q)
    | refine fm_hand h1 (fun _ => ?_)
    | refine fm_layRun h1 (fun _ => ?_)
    | refine fm_hasPlan h1 (fun _ _ => ?_)
    | refine fm_hasLog h1 (fun _ _ => ?_)
    | refine fm_is h1 (by unfold vp_in; decide) (fun _ => ?_)
    | refine fm_in (fun _ => ?_)
    | refine And.intro ?_ ?_
    | intro _
theorem fx_slack {a1 a2 : Int32} {σ : zSto} {P : Int32 → zSto → Prop} (h : fC σ) (hP : P (-1) σ) : w_X9_slack a1 a2 σ P := by
  unfold w_X9_slack
  exact f_lineAt h ⟨fun _ => hP, fun j hj => by cases hj⟩
theorem fy_slack {a1 a2 : Int32} {σ : zSto} {P : Int32 → zSto → Prop} (h : fM σ) (hP : ∀ τ, P (-1) τ) : w_X10_slack a1 a2 σ P := by
  unfold w_X10_slack
  intro σ1 e1
  have h1 := fM_up e1 (by decide) h
  repeat' first
    | exact hP _
    | (intro q; exact absurd rfl q)
    | refine fm_hand h1 (fun _ => ?_)
    | refine fm_layRun h1 (fun _ => ?_)
    | refine fm_hasPlan h1 (fun _ _ => ?_)
    | refine fm_hasLog h1 (fun _ _ => ?_)
    | refine fm_is h1 (by unfold vp_in; decide) (fun _ => ?_)
    | refine fm_in (fun _ => ?_)
    | refine And.intro ?_ ?_
    | intro _
theorem fx_shells {a1 a2 a3 a4 a5 : Int32} {σ : zSto} {P : Int32 → zSto → Prop} (h : fC σ) (hP : P (-1) σ) : w_X9_shells a1 a2 a3 a4 a5 σ P := by
  unfold w_X9_shells
  exact f_lineAt h ⟨fun _ => hP, fun j hj => by cases hj⟩
theorem fy_shells {a1 a2 a3 a4 a5 : Int32} {σ : zSto} {P : Int32 → zSto → Prop} (h : fM σ) (hP : ∀ τ, P (-1) τ) : w_X10_shells a1 a2 a3 a4 a5 σ P := by
  unfold w_X10_shells
  intro σ1 e1
  have h1 := fM_up e1 (by decide) h
  repeat' first
    | exact hP _
    | (intro q; exact absurd rfl q)
    | refine fm_hand h1 (fun _ => ?_)
    | refine fm_layRun h1 (fun _ => ?_)
    | refine fm_hasPlan h1 (fun _ _ => ?_)
    | refine fm_hasLog h1 (fun _ _ => ?_)
    | refine fm_is h1 (by unfold vp_in; decide) (fun _ => ?_)
    | refine fm_in (fun _ => ?_)
    | refine And.intro ?_ ?_
    | intro _
theorem fx_meet {a1 a2 a3 a4 a5 : Int32} {σ : zSto} {P : Int32 → zSto → Prop} (h : fC σ) (hP : P (-2) σ) : w_X9_meet a1 a2 a3 a4 a5 σ P := by
  unfold w_X9_meet
  exact f_ridden h ⟨fun _ => hP, fun j hj => by cases hj⟩
theorem fy_meet {a1 a2 a3 a4 a5 : Int32} {σ : zSto} {P : Int32 → zSto → Prop} (h : fM σ) (hP : ∀ τ, P (-2) τ) : w_X10_meet a1 a2 a3 a4 a5 σ P := by
  unfold w_X10_meet
  intro σ1 e1
  have h1 := fM_up e1 (by decide) h
  repeat' first
    | exact hP _
    | (intro q; exact absurd rfl q)
    | refine fm_hand h1 (fun _ => ?_)
    | refine fm_layRun h1 (fun _ => ?_)
    | refine fm_hasPlan h1 (fun _ _ => ?_)
    | refine fm_hasLog h1 (fun _ _ => ?_)
    | refine fm_is h1 (by unfold vp_in; decide) (fun _ => ?_)
    | refine fm_in (fun _ => ?_)
    | refine And.intro ?_ ?_
    | intro _
theorem fx_pull {a1 a2 a3 : Int32} {σ : zSto} {P : Int32 → zSto → Prop} (h : fC σ) (hP : P (-2) σ) : w_X9_pull a1 a2 a3 σ P := by
  unfold w_X9_pull
  refine f_planAt h ⟨fun _ => ?_, fun j hj => by cases hj⟩
  unfold w_X9_pairAnswer
  exact ⟨fun _ => hP, fun j hj => by cases hj⟩
theorem fy_pull {a1 a2 a3 : Int32} {σ : zSto} {P : Int32 → zSto → Prop} (h : fM σ) (hP : ∀ τ, P (-2) τ) : w_X10_pull a1 a2 a3 σ P := by
  unfold w_X10_pull
  intro σ1 e1
  have h1 := fM_up e1 (by decide) h
  repeat' first
    | exact hP _
    | (intro q; exact absurd rfl q)
    | refine fm_hand h1 (fun _ => ?_)
    | refine fm_layRun h1 (fun _ => ?_)
    | refine fm_hasPlan h1 (fun _ _ => ?_)
    | refine fm_hasLog h1 (fun _ _ => ?_)
    | refine fm_is h1 (by unfold vp_in; decide) (fun _ => ?_)
    | refine fm_in (fun _ => ?_)
    | refine And.intro ?_ ?_
    | intro _
theorem fx_played {a1 a2 a3 a4 : Int32} {σ : zSto} {P : Int32 → zSto → Prop} (h : fC σ) (hP : P (-2) σ) : w_X9_played a1 a2 a3 a4 σ P := by
  unfold w_X9_played
  exact f_lineAt h ⟨fun _ => f_planAt h ⟨fun _ => hP, fun j hj => by cases hj⟩, fun j hj => by cases hj⟩
theorem fy_played {a1 a2 a3 a4 : Int32} {σ : zSto} {P : Int32 → zSto → Prop} (h : fM σ) (hP : ∀ τ, P (-2) τ) : w_X10_played a1 a2 a3 a4 σ P := by
  unfold w_X10_played
  intro σ1 e1
  have h1 := fM_up e1 (by decide) h
  repeat' first
    | exact hP _
    | (intro q; exact absurd rfl q)
    | refine fm_hand h1 (fun _ => ?_)
    | refine fm_layRun h1 (fun _ => ?_)
    | refine fm_hasPlan h1 (fun _ _ => ?_)
    | refine fm_hasLog h1 (fun _ _ => ?_)
    | refine fm_is h1 (by unfold vp_in; decide) (fun _ => ?_)
    | refine fm_in (fun _ => ?_)
    | refine And.intro ?_ ?_
    | intro _
theorem fx_print {a1 a2 a3 : Int32} {σ : zSto} {P : Int32 → zSto → Prop} (h : fC σ) (hP : P (-1) σ) : w_X9_print a1 a2 a3 σ P := by
  unfold w_X9_print
  exact f_lineAt h ⟨fun _ => hP, fun j hj => by cases hj⟩
theorem fy_print {a1 a2 a3 : Int32} {σ : zSto} {P : Int32 → zSto → Prop} (h : fM σ) (hP : ∀ τ, P (-1) τ) : w_X10_print a1 a2 a3 σ P := by
  unfold w_X10_print
  intro σ1 e1
  have h1 := fM_up e1 (by decide) h
  repeat' first
    | exact hP _
    | (intro q; exact absurd rfl q)
    | refine fm_hand h1 (fun _ => ?_)
    | refine fm_layRun h1 (fun _ => ?_)
    | refine fm_hasPlan h1 (fun _ _ => ?_)
    | refine fm_hasLog h1 (fun _ _ => ?_)
    | refine fm_is h1 (by unfold vp_in; decide) (fun _ => ?_)
    | refine fm_in (fun _ => ?_)
    | refine And.intro ?_ ?_
    | intro _
theorem fx_most {a1 a2 a3 a4 : Int32} {σ : zSto} {P : Int32 → zSto → Prop} (h : fC σ) (hP : P (-1) σ) : w_X9_most a1 a2 a3 a4 σ P := by
  unfold w_X9_most
  exact f_lineAt h ⟨fun _ => hP, fun j hj => by cases hj⟩
theorem fy_most {a1 a2 a3 a4 : Int32} {σ : zSto} {P : Int32 → zSto → Prop} (h : fM σ) (hP : ∀ τ, P (-1) τ) : w_X10_most a1 a2 a3 a4 σ P := by
  unfold w_X10_most
  intro σ1 e1
  have h1 := fM_up e1 (by decide) h
  repeat' first
    | exact hP _
    | (intro q; exact absurd rfl q)
    | refine fm_hand h1 (fun _ => ?_)
    | refine fm_layRun h1 (fun _ => ?_)
    | refine fm_hasPlan h1 (fun _ _ => ?_)
    | refine fm_hasLog h1 (fun _ _ => ?_)
    | refine fm_is h1 (by unfold vp_in; decide) (fun _ => ?_)
    | refine fm_in (fun _ => ?_)
    | refine And.intro ?_ ?_
    | intro _
theorem fx_weeks {a1 a2 a3 a4 : Int32} {σ : zSto} {P : Int32 → zSto → Prop} (h : fC σ) (hP : P (-1) σ) : w_X9_weeks a1 a2 a3 a4 σ P := by
  unfold w_X9_weeks
  exact f_lineAt h ⟨fun _ => hP, fun j hj => by cases hj⟩
theorem fy_weeks {a1 a2 a3 a4 : Int32} {σ : zSto} {P : Int32 → zSto → Prop} (h : fM σ) (hP : ∀ τ, P (-1) τ) : w_X10_weeks a1 a2 a3 a4 σ P := by
  unfold w_X10_weeks
  intro σ1 e1
  have h1 := fM_up e1 (by decide) h
  repeat' first
    | exact hP _
    | (intro q; exact absurd rfl q)
    | refine fm_hand h1 (fun _ => ?_)
    | refine fm_layRun h1 (fun _ => ?_)
    | refine fm_hasPlan h1 (fun _ _ => ?_)
    | refine fm_hasLog h1 (fun _ _ => ?_)
    | refine fm_is h1 (by unfold vp_in; decide) (fun _ => ?_)
    | refine fm_in (fun _ => ?_)
    | refine And.intro ?_ ?_
    | intro _
theorem fx_calm {a1 a2 a3 : Int32} {σ : zSto} {P : Int32 → zSto → Prop} (h : fC σ) (hP : P (-1) σ) : w_X9_calm a1 a2 a3 σ P := by
  unfold w_X9_calm
  exact f_lineAt h ⟨fun _ => hP, fun j hj => by cases hj⟩
theorem fy_calm {a1 a2 a3 : Int32} {σ : zSto} {P : Int32 → zSto → Prop} (h : fM σ) (hP : ∀ τ, P (-1) τ) : w_X10_calm a1 a2 a3 σ P := by
  unfold w_X10_calm
  intro σ1 e1
  have h1 := fM_up e1 (by decide) h
  repeat' first
    | exact hP _
    | (intro q; exact absurd rfl q)
    | refine fm_hand h1 (fun _ => ?_)
    | refine fm_layRun h1 (fun _ => ?_)
    | refine fm_hasPlan h1 (fun _ _ => ?_)
    | refine fm_hasLog h1 (fun _ _ => ?_)
    | refine fm_is h1 (by unfold vp_in; decide) (fun _ => ?_)
    | refine fm_in (fun _ => ?_)
    | refine And.intro ?_ ?_
    | intro _
theorem fx_rich {a1 a2 a3 a4 a5 : Int32} {σ : zSto} {P : Int32 → zSto → Prop} (h : fC σ) (hP : P (-1) σ) : w_X9_rich a1 a2 a3 a4 a5 σ P := by
  unfold w_X9_rich
  exact f_ridden h ⟨fun _ => hP, fun j hj => by cases hj⟩
theorem fy_rich {a1 a2 a3 a4 a5 : Int32} {σ : zSto} {P : Int32 → zSto → Prop} (h : fM σ) (hP : ∀ τ, P (-1) τ) : w_X10_rich a1 a2 a3 a4 a5 σ P := by
  unfold w_X10_rich
  intro σ1 e1
  have h1 := fM_up e1 (by decide) h
  repeat' first
    | exact hP _
    | (intro q; exact absurd rfl q)
    | refine fm_hand h1 (fun _ => ?_)
    | refine fm_layRun h1 (fun _ => ?_)
    | refine fm_hasPlan h1 (fun _ _ => ?_)
    | refine fm_hasLog h1 (fun _ _ => ?_)
    | refine fm_is h1 (by unfold vp_in; decide) (fun _ => ?_)
    | refine fm_in (fun _ => ?_)
    | refine And.intro ?_ ?_
    | intro _
theorem fx_lots {a1 a2 a3 a4 a5 : Int32} {σ : zSto} {P : Int32 → zSto → Prop} (h : fC σ) (hP : P (-1) σ) : w_X9_lots a1 a2 a3 a4 a5 σ P := by
  unfold w_X9_lots
  exact f_lineAt h ⟨fun _ => hP, fun j hj => by cases hj⟩
theorem fy_lots {a1 a2 a3 a4 a5 : Int32} {σ : zSto} {P : Int32 → zSto → Prop} (h : fM σ) (hP : ∀ τ, P (-1) τ) : w_X10_lots a1 a2 a3 a4 a5 σ P := by
  unfold w_X10_lots
  intro σ1 e1
  have h1 := fM_up e1 (by decide) h
  repeat' first
    | exact hP _
    | (intro q; exact absurd rfl q)
    | refine fm_hand h1 (fun _ => ?_)
    | refine fm_layRun h1 (fun _ => ?_)
    | refine fm_hasPlan h1 (fun _ _ => ?_)
    | refine fm_hasLog h1 (fun _ _ => ?_)
    | refine fm_is h1 (by unfold vp_in; decide) (fun _ => ?_)
    | refine fm_in (fun _ => ?_)
    | refine And.intro ?_ ?_
    | intro _
theorem fx_seen {a1 a2 a3 : Int32} {σ : zSto} {P : Int32 → zSto → Prop} (h : fC σ) (hP : P (-2) σ) : w_X9_seen a1 a2 a3 σ P := by
  unfold w_X9_seen
  refine f_logAt h ⟨fun _ => ?_, fun j hj => by cases hj⟩
  unfold w_X9_pairAnswer
  exact ⟨fun _ => hP, fun j hj => by cases hj⟩
theorem fy_seen {a1 a2 a3 : Int32} {σ : zSto} {P : Int32 → zSto → Prop} (h : fM σ) (hP : ∀ τ, P (-2) τ) : w_X10_seen a1 a2 a3 σ P := by
  unfold w_X10_seen
  intro σ1 e1
  have h1 := fM_up e1 (by decide) h
  repeat' first
    | exact hP _
    | (intro q; exact absurd rfl q)
    | refine fm_hand h1 (fun _ => ?_)
    | refine fm_layRun h1 (fun _ => ?_)
    | refine fm_hasPlan h1 (fun _ _ => ?_)
    | refine fm_hasLog h1 (fun _ _ => ?_)
    | refine fm_is h1 (by unfold vp_in; decide) (fun _ => ?_)
    | refine fm_in (fun _ => ?_)
    | refine And.intro ?_ ?_
    | intro _
theorem fx_hold {a1 a2 a3 : Int32} {σ : zSto} {P : Int32 → zSto → Prop} (h : fC σ) (hP : P (-2) σ) : w_X9_hold a1 a2 a3 σ P := by
  unfold w_X9_hold
  exact f_lineAt h ⟨fun _ => f_logAt h ⟨fun _ => hP, fun j hj => by cases hj⟩, fun j hj => by cases hj⟩
theorem fy_hold {a1 a2 a3 : Int32} {σ : zSto} {P : Int32 → zSto → Prop} (h : fM σ) (hP : ∀ τ, P (-2) τ) : w_X10_hold a1 a2 a3 σ P := by
  unfold w_X10_hold
  intro σ1 e1
  have h1 := fM_up e1 (by decide) h
  repeat' first
    | exact hP _
    | (intro q; exact absurd rfl q)
    | refine fm_hand h1 (fun _ => ?_)
    | refine fm_layRun h1 (fun _ => ?_)
    | refine fm_hasPlan h1 (fun _ _ => ?_)
    | refine fm_hasLog h1 (fun _ _ => ?_)
    | refine fm_is h1 (by unfold vp_in; decide) (fun _ => ?_)
    | refine fm_in (fun _ => ?_)
    | refine And.intro ?_ ?_
    | intro _
theorem fx_risk {a1 a2 : Int32} {σ : zSto} {P : Int32 → zSto → Prop} (h : fC σ) (hP : P (-1) σ) : w_X9_risk a1 a2 σ P := by
  unfold w_X9_risk
  exact f_lineAt h ⟨fun _ => hP, fun j hj => by cases hj⟩
theorem fy_risk {a1 a2 : Int32} {σ : zSto} {P : Int32 → zSto → Prop} (h : fM σ) (hP : ∀ τ, P (-1) τ) : w_X10_risk a1 a2 σ P := by
  unfold w_X10_risk
  intro σ1 e1
  have h1 := fM_up e1 (by decide) h
  repeat' first
    | exact hP _
    | (intro q; exact absurd rfl q)
    | refine fm_hand h1 (fun _ => ?_)
    | refine fm_layRun h1 (fun _ => ?_)
    | refine fm_hasPlan h1 (fun _ _ => ?_)
    | refine fm_hasLog h1 (fun _ _ => ?_)
    | refine fm_is h1 (by unfold vp_in; decide) (fun _ => ?_)
    | refine fm_in (fun _ => ?_)
    | refine And.intro ?_ ?_
    | intro _
theorem fx_vote {a1 a2 a3 a4 : Int32} {σ : zSto} {P : Int32 → zSto → Prop} (h : fC σ) (hP : P (-1) σ) : w_X9_vote a1 a2 a3 a4 σ P := by
  unfold w_X9_vote
  exact f_lineAt h ⟨fun _ => hP, fun j hj => by cases hj⟩
theorem fy_vote {a1 a2 a3 a4 : Int32} {σ : zSto} {P : Int32 → zSto → Prop} (h : fM σ) (hP : ∀ τ, P (-1) τ) : w_X10_vote a1 a2 a3 a4 σ P := by
  unfold w_X10_vote
  intro σ1 e1
  have h1 := fM_up e1 (by decide) h
  repeat' first
    | exact hP _
    | (intro q; exact absurd rfl q)
    | refine fm_hand h1 (fun _ => ?_)
    | refine fm_layRun h1 (fun _ => ?_)
    | refine fm_hasPlan h1 (fun _ _ => ?_)
    | refine fm_hasLog h1 (fun _ _ => ?_)
    | refine fm_is h1 (by unfold vp_in; decide) (fun _ => ?_)
    | refine fm_in (fun _ => ?_)
    | refine And.intro ?_ ?_
    | intro _
theorem fx_left {a1 a2 a3 a4 a5 : Int32} {σ : zSto} {P : Int32 → zSto → Prop} (h : fC σ) (hP : P (-2) σ) : w_X9_left a1 a2 a3 a4 a5 σ P := by
  unfold w_X9_left
  exact f_ridden h ⟨fun _ => hP, fun j hj => by cases hj⟩
theorem fy_left {a1 a2 a3 a4 a5 : Int32} {σ : zSto} {P : Int32 → zSto → Prop} (h : fM σ) (hP : ∀ τ, P (-2) τ) : w_X10_left a1 a2 a3 a4 a5 σ P := by
  unfold w_X10_left
  intro σ1 e1
  have h1 := fM_up e1 (by decide) h
  repeat' first
    | exact hP _
    | (intro q; exact absurd rfl q)
    | refine fm_hand h1 (fun _ => ?_)
    | refine fm_layRun h1 (fun _ => ?_)
    | refine fm_hasPlan h1 (fun _ _ => ?_)
    | refine fm_hasLog h1 (fun _ _ => ?_)
    | refine fm_is h1 (by unfold vp_in; decide) (fun _ => ?_)
    | refine fm_in (fun _ => ?_)
    | refine And.intro ?_ ?_
    | intro _
theorem fx_bid {a1 a2 a3 a4 : Int32} {σ : zSto} {P : Int32 → zSto → Prop} (h : fC σ) (hP : P (-1) σ) : w_X9_bid a1 a2 a3 a4 σ P := by
  unfold w_X9_bid
  exact f_lineAt h ⟨fun _ => hP, fun j hj => by cases hj⟩
theorem fy_bid {a1 a2 a3 a4 : Int32} {σ : zSto} {P : Int32 → zSto → Prop} (h : fM σ) (hP : ∀ τ, P (-1) τ) : w_X10_bid a1 a2 a3 a4 σ P := by
  unfold w_X10_bid
  intro σ1 e1
  have h1 := fM_up e1 (by decide) h
  repeat' first
    | exact hP _
    | (intro q; exact absurd rfl q)
    | refine fm_hand h1 (fun _ => ?_)
    | refine fm_layRun h1 (fun _ => ?_)
    | refine fm_hasPlan h1 (fun _ _ => ?_)
    | refine fm_hasLog h1 (fun _ _ => ?_)
    | refine fm_is h1 (by unfold vp_in; decide) (fun _ => ?_)
    | refine fm_in (fun _ => ?_)
    | refine And.intro ?_ ?_
    | intro _
