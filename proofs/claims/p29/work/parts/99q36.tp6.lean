/-! THE REFERENCE'S RACE: ALL STARTS, ALL ENDS -/
def isSM (σ : VS) (s : Nat) : Prop := (vv σ 2 s = 0 ∨ vv σ 2 s = 4) ∧ vM σ 1 s = 0
def isTM (σ : VS) (t : Nat) : Prop := 3 < vv σ 2 t
def NM (σ : VS) (R s t : Nat) (p : List Nat) : Int := perK (vv σ 26) (hitR (vv σ 27) (vv σ 28) (vv σ 29) s t (mkP (bR (vv σ 28) R) s p ||| bR (vv σ 28) R t)) R
noncomputable def rmM (σ : VS) (s t : Nat) : Int := dM σ 14 t - vv σ 12 t + (shM σ s t).toInt
noncomputable def hrM (σ : VS) (s t : Nat) : Int := (shM σ s t).toInt - dM σ 13 t - vv σ 13 t
def fM (σ : VS) (t : Nat) : Nat := (dM σ 5 (4 * t)).toNat
noncomputable def cnM (σ : VS) (R : Nat) (BB : Nat → Nat → Nat → List (List Nat)) (s t : Nat) : Nat := if 0 ≤ dM σ 5 (4 * t) then nP (NM σ R s t) (BB s (fM σ t)) else 0
def cmM (σ : VS) (R : Nat) (BB : Nat → Nat → Nat → List (List Nat)) (s t : Nat) (x y : Int) : Prop := 0 ≤ dM σ 5 (4 * t) ∧ mP (NM σ R s t) (LaM σ s) (EaM σ s) (BB s (fM σ t)) (σ.1 20).toInt (rmM σ s t) (hrM σ s t) x y
theorem RsM.same {σ τ : VS} {R s : Nat} {B : Nat → Nat → List (List Nat)} (hM : MI σ) (h : RsM σ R s B) (hE : Eo [] [42, 43, 44, 45, 46, 47] σ τ) : RsM τ R s B ∧ LaM τ s = LaM σ s ∧ EaM τ s = EaM σ s ∧ dM τ = dM σ ∧ nC τ = nC σ ∧ vM τ 1 = vM σ 1 := by
  have dd : dM τ = dM σ := dM_same hE (by decide) (by decide)
  have nn : nC τ = nC σ := by unfold nC; rw [hE.1 1 (by decide)]
  have va : ∀ k, 34 + k ∉ [42, 43, 44, 45, 46, 47] → vM τ k = vM σ k := fun k hk => by
    funext j
    show vv τ (34 + k) j = vv σ (34 + k) j
    rw [vv_eo hE hk]
  have v1 := va 1 (by decide)
  have v2 := va 2 (by decide)
  have v3 := va 3 (by decide)
  have ec : ∀ c, Ec (vM σ) (vM τ) c := fun c => by
    refine ⟨?_, ?_, fun e he => ⟨?_, ?_, ?_, ?_⟩, fun i e hi he => ⟨?_, ?_⟩⟩
    · rw [va 0 (by decide)]
    · rw [v1]
    · rw [va 4 (by decide)]
    · rw [va 5 (by decide)]
    · rw [va 6 (by decide)]
    · rw [va 7 (by decide)]
    · rw [v2]
    · rw [v3]
  have sl : saL τ = saL σ := by
    funext j
    unfold saL
    rw [vv_eo hE (show 2 ∉ [42, 43, 44, 45, 46, 47] by decide), vv_eo hE (show 9 ∉ [42, 43, 44, 45, 46, 47] by decide), dd, v2]
  have se : saE τ = saE σ := by
    funext j
    unfold saE
    rw [vv_eo hE (show 2 ∉ [42, 43, 44, 45, 46, 47] by decide), vv_eo hE (show 8 ∉ [42, 43, 44, 45, 46, 47] by decide), dd, v3]
  obtain ⟨hR, hB, hL, ⟨hs, hk, ho⟩, hN⟩ := h
  refine ⟨⟨by rw [hE.1 25 (by decide)]; exact hR, by rw [nn, dd, v1]; exact hB, fun c hc => ?_, ⟨by rw [nn]; exact hs, by rw [vv_eo hE (by decide)]; exact hk, by rw [v1]; exact ho⟩, ?_⟩, ?_, ?_, dd, nn, v1⟩
  · rw [dd]
    exact LE2_c (ip_4m hM c) (fun i _ _ _ => ec _) (ec c) (hL c (by omega))
  · unfold NdR
    rw [vv_eo hE (show 23 ∉ [42, 43, 44, 45, 46, 47] by decide), vv_eo hE (show 24 ∉ [42, 43, 44, 45, 46, 47] by decide), hE.1 21 (by decide)]
    exact hN
  · funext p e
    unfold LaM
    rw [dd, sl, v2]
  · funext p e
    unfold EaM
    rw [dd, se, v3]
theorem shM_same {σ τ : VS} (hE : Eo [] [42, 43, 44, 45, 46, 47] σ τ) (s t : Nat) : shM τ s t = shM σ s t := by
  unfold shM
  rw [vv_eo hE (show 2 ∉ [42, 43, 44, 45, 46, 47] by decide), vv_eo hE (show 11 ∉ [42, 43, 44, 45, 46, 47] by decide), hE.2 22 (by decide), hE.2 23 (by decide), hE.2 24 (by decide), hE.1 21 (by decide)]
