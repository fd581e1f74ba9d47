set_option maxRecDepth 100000 in
set_option maxHeartbeats 4000000 in
theorem law6 (xs : Nat → Int32) : w_law_18 6 xs 2 0 σ0 := by
  have hend : ∀ (σ : zSto) (x : Int32), x = (0 : Int32) + 6 → w_law_18 6 xs 1 x σ := by
    intro σ x e
    subst e
    unfold w_law_18
    exact ⟨fun _ => trivial, fun q => absurd (by decide) q⟩
  have v1 : vp_in ((0 : Int32) + (1 : Int32)) 6 := by unfold vp_in; decide
  have v2 : vp_in ((0 : Int32) + (2 : Int32)) 6 := by unfold vp_in; decide
  have v3 : vp_in ((0 : Int32) + (3 : Int32)) 6 := by unfold vp_in; decide
  have v4 : vp_in ((0 : Int32) + (4 : Int32)) 6 := by unfold vp_in; decide
  have v5 : vp_in ((0 : Int32) + (5 : Int32)) 6 := by unfold vp_in; decide
  have gd : ∀ (v : Int32) (τ : zSto), (v = v → ∀ x : Int32, x = (0 : Int32) + 6 → w_law_18 6 xs 1 x τ) ∧ (¬ v = v → False) := fun v τ => ⟨fun _ x e => hend τ x e, fun q => q rfl⟩
  have s5 : σ0.1 1 5 = 0 := by rw [σ0_st (by decide)]; rfl
  have s6 : σ0.1 1 6 = 0 := by rw [σ0_st (by decide)]; rfl
  have s7 : σ0.1 1 7 = -1 := by rw [σ0_st (by decide)]; rfl
  have z : ∀ k j : Nat, (k ≠ 1 ∧ k ≠ 44 ∧ k ≠ 86 ∧ k ≠ 128 ∧ k ≠ 227) → σ0.1 k j = 0 := fun k j h => by rw [σ0_row h]
  have s227 : σ0.1 227 0 = -1 := by rfl
  unfold w_law_18
  refine ⟨fun _ => trivial, fun _ => ⟨by unfold vp_in; decide, ?_, ?_, ?_, ?_, ?_, ?_, ?_, ?_, ?_, ?_, ?_, ?_, ?_, ?_, ?_, ?_, ?_, ?_, ?_, ?_, ?_, ?_, ?_, ?_, ?_, ?_, ?_, ?_, ?_, ?_, ?_, ?_, ?_, ?_, ?_⟩⟩
  · exact fun _ => ⟨v1, v2, v3, v4, v5, fx_feed s5 (fun τ hf => ⟨v1, v2, v3, v4, v5, fy_feed (by rw [hf 225 (by decide)]; exact z 225 0 (by decide)) (gd _)⟩)⟩
  · exact fun _ => ⟨v1, fx_end s5 (fun q => ⟨v1, fy_end (z 225 0 (by decide)) (fun _ => gd _) (fun z1 z2 => (q.elim z1 z2).elim)⟩) (fun z1 z2 τ hf => ⟨v1, fy_end (by rw [hf 225 (by decide)]; exact z 225 0 (by decide)) (fun q => (q.elim z1 z2).elim) (fun _ _ => gd _)⟩)⟩
  · exact fun _ => ⟨v1, v2, fx_text fC_0 s5 (fun y τ hf => ⟨v1, v2, fy_text (fun j => by rw [hf 228 (by decide)]; exact fM_0 j) (by rw [hf 225 (by decide)]; exact z 225 0 (by decide)) (by rw [hf 232 (by decide)]; exact z 232 0 (by decide)) (fun _ => gd _) (fun a b c _ => absurd ⟨a, b, c⟩ y) (fun a b c _ => absurd ⟨a, b, c⟩ y)⟩) (fun a b c d τ hf => ⟨v1, v2, fy_text (fun j => by rw [hf 228 (by decide)]; exact fM_0 j) (by rw [hf 225 (by decide)]; exact z 225 0 (by decide)) (by rw [hf 232 (by decide)]; exact z 232 0 (by decide)) (fun y => absurd ⟨a, b, c⟩ y) (fun _ _ _ _ => gd _) (fun _ _ _ y => absurd d y)⟩) (fun a b c d τ hf => ⟨v1, v2, fy_text (fun j => by rw [hf 228 (by decide)]; exact fM_0 j) (by rw [hf 225 (by decide)]; exact z 225 0 (by decide)) (by rw [hf 232 (by decide)]; exact z 232 0 (by decide)) (fun y => absurd ⟨a, b, c⟩ y) (fun _ _ _ y => absurd y d) (fun _ _ _ _ => gd _)⟩)⟩
  · exact fun _ => ⟨v1, fx_fault s6 s7 (fun q => ⟨v1, fy_fault (z 226 0 (by decide)) s227 (fun _ => gd _) (fun y => absurd q y)⟩) (fun q => ⟨v1, fy_fault (z 226 0 (by decide)) s227 (fun y => absurd y q) (fun _ => gd _)⟩)⟩
  · exact fun _ => ⟨v1, v2, fx_line fC_0 ⟨v1, v2, fy_line fM_0 (gd _)⟩⟩
  · exact fun _ => ⟨v1, v2, v3, fx_post fC_0 ⟨v1, v2, v3, fy_post fM_0 (gd _)⟩⟩
  · exact fun _ => ⟨v1, v2, v3, fx_rider fC_0 ⟨v1, v2, v3, fy_rider fM_0 (gd _)⟩⟩
  · exact fun _ => ⟨v1, v2, v3, v4, v5, fx_run fC_0 ⟨v1, v2, v3, v4, v5, fy_run fM_0 (gd _)⟩⟩
  · exact fun _ => ⟨v1, v2, v3, v4, v5, fx_who fC_0 ⟨v1, v2, v3, v4, v5, fy_who fM_0 (gd _)⟩⟩
  · exact fun _ => ⟨v1, v2, v3, v4, v5, fx_late fC_0 ⟨v1, v2, v3, v4, v5, fy_late fM_0 (gd _)⟩⟩
  · exact fun _ => ⟨v1, v2, v3, v4, fx_purse fC_0 ⟨v1, v2, v3, v4, fy_purse fM_0 (gd _)⟩⟩
  · exact fun _ => ⟨v1, v2, v3, fx_rest fC_0 ⟨v1, v2, v3, fy_rest fM_0 (gd _)⟩⟩
  · exact fun _ => ⟨v1, v2, v3, v4, fx_gain fC_0 ⟨v1, v2, v3, v4, fy_gain fM_0 (gd _)⟩⟩
  · exact fun _ => ⟨v1, v2, v3, fun _ => fx_chance fC_0 ⟨v1, v2, v3, fun _ => fy_chance fM_0 (fun τ => ⟨fun _ x e => hend τ x e, fun q => absurd (by decide) q⟩), fun _ => fy_chance fM_0 (fun τ => ⟨fun _ x e => hend τ x e, fun q => absurd (by decide) q⟩)⟩, fun _ => fx_chance fC_0 ⟨v1, v2, v3, fun _ => fy_chance fM_0 (fun τ => ⟨fun _ x e => hend τ x e, fun q => absurd (by decide) q⟩), fun _ => fy_chance fM_0 (fun τ => ⟨fun _ x e => hend τ x e, fun q => absurd (by decide) q⟩)⟩⟩
  · exact fun _ => ⟨v1, v2, fx_slack fC_0 ⟨v1, v2, fy_slack fM_0 (gd _)⟩⟩
  · exact fun _ => ⟨v1, v2, v3, v4, v5, fx_shells fC_0 ⟨v1, v2, v3, v4, v5, fy_shells fM_0 (gd _)⟩⟩
  · exact fun _ => ⟨v1, v2, v3, v4, v5, fx_meet fC_0 ⟨v1, v2, v3, v4, v5, fy_meet fM_0 (gd _)⟩⟩
  · exact fun _ => ⟨v1, v2, v3, fx_pull fC_0 ⟨v1, v2, v3, fy_pull fM_0 (gd _)⟩⟩
  · exact fun _ => ⟨v1, v2, v3, v4, fx_played fC_0 ⟨v1, v2, v3, v4, fy_played fM_0 (gd _)⟩⟩
  · exact fun _ => ⟨v1, v2, v3, fx_print fC_0 ⟨v1, v2, v3, fy_print fM_0 (gd _)⟩⟩
  · exact fun _ => ⟨v1, v2, v3, v4, fun _ => fx_most fC_0 ⟨v1, v2, v3, v4, fun _ => fy_most fM_0 (gd _), fun _ => fy_most fM_0 (gd _)⟩, fun _ => fx_most fC_0 ⟨v1, v2, v3, v4, fun _ => fy_most fM_0 (gd _), fun _ => fy_most fM_0 (gd _)⟩⟩
  · exact fun _ => ⟨v1, v2, v3, v4, fun _ => fx_weeks fC_0 ⟨v1, v2, v3, v4, fun _ => fy_weeks fM_0 (gd _), fun _ => fy_weeks fM_0 (gd _)⟩, fun _ => fx_weeks fC_0 ⟨v1, v2, v3, v4, fun _ => fy_weeks fM_0 (gd _), fun _ => fy_weeks fM_0 (gd _)⟩⟩
  · exact fun _ => ⟨v1, v2, v3, fx_calm fC_0 ⟨v1, v2, v3, fy_calm fM_0 (gd _)⟩⟩
  · exact fun _ => ⟨v1, v2, v3, v4, v5, fun _ => fx_rich fC_0 ⟨v1, v2, v3, v4, v5, fun _ => fy_rich fM_0 (gd _), fun _ => fy_rich fM_0 (gd _)⟩, fun _ => fx_rich fC_0 ⟨v1, v2, v3, v4, v5, fun _ => fy_rich fM_0 (gd _), fun _ => fy_rich fM_0 (gd _)⟩⟩
  · exact fun _ => ⟨v1, v2, v3, v4, v5, fx_lots fC_0 ⟨v1, v2, v3, v4, v5, fy_lots fM_0 (gd _)⟩⟩
  · exact fun _ => ⟨v1, v2, v3, fx_seen fC_0 ⟨v1, v2, v3, fy_seen fM_0 (gd _)⟩⟩
  · exact fun _ => ⟨v1, v2, v3, fx_hold fC_0 ⟨v1, v2, v3, fy_hold fM_0 (gd _)⟩⟩
  · exact fun _ => ⟨v1, v2, fx_risk fC_0 ⟨v1, v2, fy_risk fM_0 (gd _)⟩⟩
  · exact fun _ => ⟨v1, v2, v3, v4, fun _ => fx_vote fC_0 ⟨v1, v2, v3, v4, fun _ => fy_vote fM_0 (gd _), fun _ => fy_vote fM_0 (gd _)⟩, fun _ => fx_vote fC_0 ⟨v1, v2, v3, v4, fun _ => fy_vote fM_0 (gd _), fun _ => fy_vote fM_0 (gd _)⟩⟩
  · exact fun _ => ⟨v1, v2, v3, v4, v5, fx_left fC_0 ⟨v1, v2, v3, v4, v5, fy_left fM_0 (gd _)⟩⟩
  · exact fun _ => ⟨v1, v2, v3, v4, fx_bid fC_0 ⟨v1, v2, v3, v4, fy_bid fM_0 (gd _)⟩⟩
  · exact fun _ => ⟨v1, fx_count fC_0 (fun q => ⟨v1, fy_count fM_0 (fun _ => gd _) (fun z1 z2 => (q.elim z1 z2).elim)⟩) (fun z1 z2 => ⟨v1, fy_count fM_0 (fun q => (q.elim z1 z2).elim) (fun _ _ => gd _)⟩)⟩
  · exact fun _ => ⟨v1, fx_image (fun j => z 2 j (by decide)) (fun q τ _ => ⟨v1, fy_image (fun _ τ2 _ => gd _ τ2) (fun z1 z2 => (q.elim z1 z2).elim)⟩) (fun z1 z2 τ _ => ⟨v1, fy_image (fun q => (q.elim z1 z2).elim) (fun _ _ τ2 _ => gd _ τ2)⟩)⟩
  · exact fun _ => ⟨v1, fx_again (fun j => z 170 j (by decide)) (fun _ => ⟨v1, fy_again (fun j => z 249 j (by decide)) (fun τ2 _ => gd _ τ2)⟩)⟩
  · exact fun _ x e => hend σ0 x e
theorem law_all {L : Nat} (hL : L ≤ 6) (xs : Nat → Int32) : ∃ n, w_law_18 L xs n 0 σ0 := by
  rcases (show L = 0 ∨ L = 1 ∨ L = 2 ∨ L = 3 ∨ L = 4 ∨ L = 5 ∨ L = 6 by omega) with r | r | r | r | r | r | r <;> subst r
  iterate 6
    · refine ⟨1, ?_⟩
      unfold w_law_18
      exact ⟨fun _ => trivial, fun q => absurd (by decide) q⟩
  exact ⟨2, law6 xs⟩
