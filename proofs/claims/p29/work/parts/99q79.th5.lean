/-! THE START, AND WHAT ONLY TELLS -/
theorem qu_takes {p1 p2 : Int32} {σ τ : VS} (J : Ju σ τ) : wp_X9takes (fun r σ' => wp_takes (fun r2 τ' => r = r2 ∧ Ju σ' τ') p1 p2 τ) p1 p2 σ :=
  am_X9takes (dp_takes J.1.1.1.1 J.1.1.1.2 J.1.2) (dp_takes J.1.1.1.1 J.1.1.1.2 J.1.2) (fun _ _ u _ => am_takes u u (fun _ _ x _ => ⟨x.1, by rw [x.2.1, x.2.2]; exact J⟩))
theorem qu_common {p1 p2 : Int32} {σ τ : VS} (J : Ju σ τ) : wp_X9common (fun r σ' => wp_common (fun r2 τ' => r = r2 ∧ Ju σ' τ') p1 p2 τ) p1 p2 σ :=
  am_X9common (dp_common J.1.1.1.1 J.1.1.1.2 J.1.1.2) (dp_common J.1.1.1.1 J.1.1.1.2 J.1.1.2) (fun _ _ u _ => am_common u u (fun _ _ x _ => ⟨x.1, by rw [x.2.1, x.2.2]; exact J⟩))
theorem qu_count {p1 : Int32} {σ τ : VS} (J : Ju σ τ) : wp_X9count (fun r σ' => wp_count (fun r2 τ' => r = r2 ∧ Ju σ' τ') p1 τ) p1 σ :=
  cs_count (fun _ a => rs_count (fun _ b => ⟨J.1.1.1.1.2.2.2.2.2.count a b, J⟩))
theorem zu : Ju zc zm := by
  have e2 : (zc.1 2).toInt = 0 := by decide
  have f1 : (zm.1 1).toInt = 0 := by decide
  have f21 : (zm.1 21).toInt = 0 := by decide
  have n1 : nC zm = 0 := by unfold nC; rw [f1]; rfl
  have n2 : nCl zc = 0 := by unfold nCl; rw [e2]; rfl
  have r0 : rC zc = 0 := by unfold rC; decide
  have z14 : ∀ j, zc.2.1 14 j = 0 := fun j => by show z2c 14 = 0; decide
  have z35 : ∀ j, vv zc 35 j = 0 := fun j => by show (z2c 35).toInt = 0; decide
  refine ⟨zt, ⟨fun c hc => by omega, fun j hj => by omega, fun w hw => by omega⟩, ⟨fun j hj => by omega, fun j _ => z14 j⟩, fun c hc => ?_, fun w => absurd (by decide) w, fun w => absurd (by decide) w, ?_⟩
  · rw [r0, z35]
    rfl
  · have s16 : (zc.1 16).toInt = 0 := by decide
    have s62 : (zm.1 62).toInt = 0 := by decide
    exact ⟨by rw [s16, s62], fun w => absurd s16 w, fun j hj => by omega⟩
