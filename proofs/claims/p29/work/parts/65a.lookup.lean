theorem rg_X5lastL {Q : Int32 → VS → Prop} {p2 : Int32} {σ : VS} (hq : ∀ r : Int32, (r = 3 ∧ 64 ≤ p2.toInt) ∨ (r = 2 ∧ 24 ≤ p2.toInt ∧ p2.toInt < 64) ∨ (r = 1 ∧ 8 ≤ p2.toInt ∧ p2.toInt < 24) ∨ (r = 0 ∧ p2.toInt < 8) → Q r σ) : wp_X5lastNotAboveL Q p2 σ := by
  intro X5 H
  have e3 : (lm_load.getD (3 : Int32).toNatClampNeg 0).toInt = 64 := by decide
  have e2 : (lm_load.getD (2 : Int32).toNatClampNeg 0).toInt = 24 := by decide
  have e1 : (lm_load.getD (1 : Int32).toNatClampNeg 0).toInt = 8 := by decide
  have f3 : (3 : Int32) + (-1) = 2 := by decide
  have f2 : (2 : Int32) + (-1) = 1 := by decide
  have f1 : (1 : Int32) + (-1) = 0 := by decide
  apply H
  unfold b_X5lastNotAboveL_5
  refine ⟨fun h => absurd h (by decide), fun _ => ⟨⟨by decide, by decide⟩, fun h => ?_, fun h => ?_⟩⟩
  · rw [e3] at h
    rw [f3]
    apply H
    unfold b_X5lastNotAboveL_5
    refine ⟨fun h => absurd h (by decide), fun _ => ⟨⟨by decide, by decide⟩, fun h => ?_, fun h => ?_⟩⟩
    · rw [e2] at h
      rw [f2]
      apply H
      unfold b_X5lastNotAboveL_5
      refine ⟨fun h => absurd h (by decide), fun _ => ⟨⟨by decide, by decide⟩, fun h => ?_, fun h => ?_⟩⟩
      · rw [e1] at h
        rw [f1]
        apply H
        unfold b_X5lastNotAboveL_5
        refine ⟨fun _ => hq 0 (Or.inr (Or.inr (Or.inr ⟨rfl, h⟩))), fun h => absurd h (by decide)⟩
      · rw [e1] at h
        exact hq 1 (Or.inr (Or.inr (Or.inl ⟨rfl, h, by assumption⟩)))
    · rw [e2] at h
      exact hq 2 (Or.inr (Or.inl ⟨rfl, h, by assumption⟩))
  · rw [e3] at h
    exact hq 3 (Or.inl ⟨rfl, h⟩)
theorem rg_X5lastS {Q : Int32 → VS → Prop} {p2 : Int32} {σ : VS} (hq : ∀ r : Int32, (r = 2 ∧ 64 ≤ p2.toInt) ∨ (r = 1 ∧ 16 ≤ p2.toInt ∧ p2.toInt < 64) ∨ (r = 0 ∧ p2.toInt < 16) → Q r σ) : wp_X5lastNotAboveS Q p2 σ := by
  intro X5 H
  have e2 : (lm_slope.getD (2 : Int32).toNatClampNeg 0).toInt = 64 := by decide
  have e1 : (lm_slope.getD (1 : Int32).toNatClampNeg 0).toInt = 16 := by decide
  have f2 : (2 : Int32) + (-1) = 1 := by decide
  have f1 : (1 : Int32) + (-1) = 0 := by decide
  apply H
  unfold b_X5lastNotAboveS_5
  refine ⟨fun h => absurd h (by decide), fun _ => ⟨⟨by decide, by decide⟩, fun h => ?_, fun h => ?_⟩⟩
  · rw [e2] at h
    rw [f2]
    apply H
    unfold b_X5lastNotAboveS_5
    refine ⟨fun h => absurd h (by decide), fun _ => ⟨⟨by decide, by decide⟩, fun h => ?_, fun h => ?_⟩⟩
    · rw [e1] at h
      rw [f1]
      apply H
      unfold b_X5lastNotAboveS_5
      refine ⟨fun _ => hq 0 (Or.inr (Or.inr ⟨rfl, h⟩)), fun h => absurd h (by decide)⟩
    · rw [e1] at h
      exact hq 1 (Or.inr (Or.inl ⟨rfl, h, by assumption⟩))
  · rw [e2] at h
    exact hq 2 (Or.inl ⟨rfl, h⟩)
