/-! BOTH SIDES FIX ALIKE -/
/-- what both sides show of a path -/
def Sw (σ τ : VS) : Prop := (σ.1 16).toInt = (τ.1 62).toInt ∧ ((σ.1 16).toInt ≠ 0 → σ.1 17 = τ.1 67 ∧ σ.1 18 = τ.1 68) ∧ ∀ j : Nat, (j : Int) < (σ.1 16).toInt → σ.2.1 55 j = τ.2.1 63 j ∧ σ.2.1 56 j = τ.2.1 64 j ∧ σ.2.1 57 j = τ.2.1 65 j ∧ σ.2.1 58 j = τ.2.1 66 j
def Xu (σ τ : VS) : Prop := Dz τ ∧ Sz σ τ ∧ Bt σ ∧ CTm σ ∧ CRc σ τ ∧ Sw σ τ
def Ju (σ τ : VS) : Prop := Jt σ τ ∧ Xu σ τ
theorem Ju.cbt {σ τ : VS} (h : Ju σ τ) : CBt σ τ := ⟨h.1, h.2.1, h.2.2.2.1⟩
theorem Ju.rb {σ τ : VS} (h : Ju σ τ) : RB τ := ⟨h.1.1.1.1.2.2.1, h.1.1.1.1.2.2.2.1, h.1.wrm, h.2.1, h.1.1.1.1.2.2.2.2.1⟩
/-- the same world on both sides -/
theorem Ju.wd {σ τ : VS} (h : Ju σ τ) : dC σ = dM τ ∧ UC σ = UM τ ∧ nCl σ = nC τ ∧ rC σ = rM τ ∧ (σ.1 4).toInt = (τ.1 20).toInt := by
  have e6 : σ.1 6 = τ.1 25 := h.1.1.1.1.2.2.2.2.2.2.2.1
  have e4 : σ.1 4 = τ.1 20 := h.1.1.1.1.2.2.2.2.2.2.2.2
  exact ⟨dCM h.1 h.2.1 h.2.2.1, h.1.uu, h.1.nn, by unfold rC rM; rw [e6], by rw [e4]⟩
theorem CRc.sh {σ τ τ' : VS} (h : CRc σ τ) (e : shF τ' = shF τ) : CRc σ τ' := fun k => by
  have q := h k
  unfold JAc at q ⊢
  rw [e]
  exact q
theorem Jt.mq {σ τ τ' : VS} (J : Jt σ τ) (B : RB τ') {F A : List Nat} (e2 : Eo F A τ τ') (h1 : 1 ∉ F ∧ 20 ∉ F ∧ 21 ∉ F ∧ 25 ∉ F) (h2 : (∀ k ∈ [18, 19], k ∉ F) ∧ ∀ k ∈ usedM, k ∉ A) (h3 : ∀ k ∈ [22, 23, 24], k ∉ A) (h4 : 7 ∉ A) : Jt σ τ' := by
  obtain ⟨⟨⟨⟨hM, hC, hM2, hS, hL, hk⟩, D⟩, N⟩, W⟩ := J
  have e1 : Eo [] [] σ σ := Eo.rfl
  have Ag : Gc σ σ := ⟨rfl, rfl, rfl, rfl⟩
  have Bg : Gm τ τ' := ⟨e2.1 1 h1.1, e2.1 20 h1.2.1, e2.1 21 h1.2.2.1, e2.1 25 h1.2.2.2⟩
  exact ⟨⟨⟨⟨hM, hC, B.1, B.2.1, B.2.2.2.2, hk.quiet Ag Bg⟩, D.quiet e1 e2 (by decide) h2⟩, N.quiet e1 e2 (by decide) h3⟩, W.quiet e1 e2 (by decide) h4⟩
theorem Sw.same {F A F2 A2 : List Nat} {σ τ σ' τ' : VS} (h : Sw σ τ) (e : Eo F A σ σ') (e2 : Eo F2 A2 τ τ') (h1 : (16 ∉ F ∧ 17 ∉ F ∧ 18 ∉ F) ∧ 55 ∉ A ∧ 56 ∉ A ∧ 57 ∉ A ∧ 58 ∉ A) (h2 : (62 ∉ F2 ∧ 67 ∉ F2 ∧ 68 ∉ F2) ∧ 63 ∉ A2 ∧ 64 ∉ A2 ∧ 65 ∉ A2 ∧ 66 ∉ A2) : Sw σ' τ' := by
  obtain ⟨⟨a16, a17, a18⟩, b55, b56, b57, b58⟩ := h1
  obtain ⟨⟨c62, c67, c68⟩, d63, d64, d65, d66⟩ := h2
  unfold Sw
  rw [e.1 16 a16, e.1 17 a17, e.1 18 a18, e.2 55 b55, e.2 56 b56, e.2 57 b57, e.2 58 b58, e2.1 62 c62, e2.1 67 c67, e2.1 68 c68, e2.2 63 d63, e2.2 64 d64, e2.2 65 d65, e2.2 66 d66]
  exact h
theorem qu_fix {σ τ : VS} (J : Ju σ τ) : wp_X9fix (fun r σ' => wp_fix (fun r2 τ' => r = r2 ∧ Ju σ' τ') τ) σ := by
  obtain ⟨wd, wu, wn, wr, wl⟩ := J.wd
  obtain ⟨ρ, hW⟩ := J.1.wo
  refine cx_fix J.cbt J.2.2.2.2.1 J.2.2.2.2.2.1 (fun r x Bx Ex Tx Rx Hx fx => ?_)
  refine rx_fix J.rb (fun r2 y By Ey fy => ?_)
  rw [← wu, ← wn, ← wr, ← wl, ← wd] at fy
  obtain ⟨er, ed⟩ := FxR.un 100 (dC σ) r.toInt r2.toInt (dC x) (dM y) hW J.1.tg1 fx fy
  have Jx : Jt x y := Bx.1.mq By Ey (by decide) (by decide) (by decide) (by decide)
  have nx : nCl x = nCl σ := by unfold nCl; rw [Ex.1 2 (by decide)]
  have ny : nC y = nC τ := by unfold nC; rw [Ey.1 1 (by decide)]
  refine ⟨Int32.toInt_inj.mp er, Jx, By.2.2.2.1, ⟨fun j hj => ?_, fun j hj => ?_⟩, Bx.2.2, Tx, Rx.sh (shF_same Ey (by decide)), J.2.2.2.2.2.2.same Ex Ey (by decide) (by decide)⟩
  · have q : dC x 4 j = dM y 4 j := by rw [ed]
    rw [dC_4 hj, dM_4 (by omega)] at q
    exact Int32.toInt_inj.mp q
  · have q := Hx j (by omega)
    have z : vv σ 14 j = 0 := by
      have w := J.2.2.1.2 j (by omega)
      unfold vv
      rw [w]; rfl
    rw [z] at q
    exact Int32.toInt_inj.mp q
