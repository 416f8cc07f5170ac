/-! ONE LIST OF PATHS FOR EACH START -/
theorem BB_ex {D : Nat → Nat → Int} {n : Nat} {ρ : Nat → Nat} (hR : Rk D n ρ) (O : Nat → Int) : ∃ BB : Nat → Nat → Nat → List (List Nat), ∀ s c e, c < n → BB s c e = BPs D O s (BB s) c e := Classical.axiomOfChoice (fun s => BP_ex hR O s)
theorem rx_judge {Q : VS → Prop} {σ : VS} {R : Nat} (hS : SI σ) (hM : MI σ) (hWr : WRm σ) (hN : NdR σ) (hR : (σ.1 25).toInt = (R : Int)) (hq : ∀ (θ τ : VS) (BB : Nat → Nat → Nat → List (List Nat)), MI θ → Eo [30, 32] [31, 33, 34, 35, 36, 37, 38, 39] σ θ → TD θ → (∀ c, c < nC θ → LE2 (dM θ) (vM θ) (vM θ) c) → (∀ s c e, c < nC θ → BB s c e = BPs (dM θ) (vM θ 1) s (BB s) c e) → MI τ → Eo [] [42, 43, 44, 45, 46, 47] θ τ → (∀ t, t < nC θ → isTM θ t → EnT (isSM θ) (cnM θ R BB) (cmM θ R BB) (nC θ) t (vv τ 45 t) (vv τ 46 t) (vv τ 47 t)) → (∀ t, t < nC θ → ¬ isTM θ t → vv τ 45 t = 0 ∧ vv τ 46 t = 1000000000 ∧ vv τ 47 t = 1000000000) → Q τ) : wp_judge Q σ := by
  unfold wp_judge
  intro X6 X47 X73 H6 H47 H73
  refine rx_time hS hM hWr (fun θ Mθ Eθ Dθ Lθ => ?_)
  have Sθ := hS.same Eθ (by decide)
  obtain ⟨ρ, hRk⟩ := SI.rk Mθ Sθ
  obtain ⟨BB, hBB⟩ := BB_ex hRk (vM θ 1)
  have Nθ : NdR θ := by
    unfold NdR
    rw [vv_eo Eθ (show 23 ∉ [31, 33, 34, 35, 36, 37, 38, 39] by decide), vv_eo Eθ (show 24 ∉ [31, 33, 34, 35, 36, 37, 38, 39] by decide), Eθ.1 21 (by decide)]
    exact hN
  exact rx_judge2 (R := R) (BB := BB) H6 H47 H73 Mθ Sθ Dθ Nθ (by rw [Eθ.1 25 (by decide)]; exact hR) Lθ hBB (fun τ q1 q2 q3 q4 => hq θ τ BB Mθ Eθ Dθ Lθ hBB q1 q2 q3 q4)
