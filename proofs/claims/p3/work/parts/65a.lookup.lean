theorem rg_X5lastL {Q : Int32 → VS → Prop} {p2 : Int32} {σ : VS} (hq : ∀ r : Int32, (r = 3 ∧ 64 ≤ p2.toInt) ∨ (r = 2 ∧ 24 ≤ p2.toInt ∧ p2.toInt < 64) ∨ (r = 1 ∧ 8 ≤ p2.toInt ∧ p2.toInt < 24) ∨ (r = 0 ∧ p2.toInt < 8) → Q r σ) : wp_X5lastNotAboveL Q p2 σ := by
  intro X5 H
  have e3 : (lm_load.getD (3 : Int32).toNatClampNeg 0).toInt = 64 := by decide
  have e2 : (lm_load.getD (2 : Int32).toNatClampNeg 0).toInt = 24 := by decide
  have e1 : (lm_load.getD (1 : Int32).toNatClampNeg 0).toInt = 8 := by decide
  have f3 : (3 : Int32) + (-1) = 2 := by decide
  have f2 : (2 : Int32) + (-1) = 1 := by decide
  have f1 : (1 : Int32) + (-1) = 0 := by decide
  apply H
  unfold b_X5lastNotAboveL_5
  refine ⟨fun h => absurd h (by decide), fun _ => ⟨⟨by decide, by decide⟩, fun h => ?_, fun h => ?_⟩⟩
  · rw [e3] at h
    rw [f3]
    apply H
    unfold b_X5lastNotAboveL_5
    refine ⟨fun h => absurd h (by decide), fun _ => ⟨⟨by decide, by decide⟩, fun h => ?_, fun h => ?_⟩⟩
    · rw [e2] at h
      rw [f2]
      apply H
      unfold b_X5lastNotAboveL_5
      refine ⟨fun h => absurd h (by decide), fun _ => ⟨⟨by decide, by decide⟩, fun h => ?_, fun h => ?_⟩⟩
      · rw [e1] at h
        rw [f1]
        apply H
        unfold b_X5lastNotAboveL_5
        refine ⟨fun _ => hq 0 (Or.inr (Or.inr (Or.inr ⟨rfl, h⟩))), fun h => absurd h (by decide)⟩
      · rw [e1] at h
        exact hq 1 (Or.inr (Or.inr (Or.inl ⟨rfl, h, by assumption⟩)))
    · rw [e2] at h
      exact hq 2 (Or.inr (Or.inl ⟨rfl, h, by assumption⟩))
  · rw [e3] at h
    exact hq 3 (Or.inl ⟨rfl, h⟩)
theorem rg_X5lastS {Q : Int32 → VS → Prop} {p2 : Int32} {σ : VS} (hq : ∀ r : Int32, (r = 2 ∧ 64 ≤ p2.toInt) ∨ (r = 1 ∧ 16 ≤ p2.toInt ∧ p2.toInt < 64) ∨ (r = 0 ∧ p2.toInt < 16) → Q r σ) : wp_X5lastNotAboveS Q p2 σ := by
  intro X5 H
  have e2 : (lm_slope.getD (2 : Int32).toNatClampNeg 0).toInt = 64 := by decide
  have e1 : (lm_slope.getD (1 : Int32).toNatClampNeg 0).toInt = 16 := by decide
  have f2 : (2 : Int32) + (-1) = 1 := by decide
  have f1 : (1 : Int32) + (-1) = 0 := by decide
  apply H
  unfold b_X5lastNotAboveS_5
  refine ⟨fun h => absurd h (by decide), fun _ => ⟨⟨by decide, by decide⟩, fun h => ?_, fun h => ?_⟩⟩
  · rw [e2] at h
    rw [f2]
    apply H
    unfold b_X5lastNotAboveS_5
    refine ⟨fun h => absurd h (by decide), fun _ => ⟨⟨by decide, by decide⟩, fun h => ?_, fun h => ?_⟩⟩
    · rw [e1] at h
      rw [f1]
      apply H
      unfold b_X5lastNotAboveS_5
      refine ⟨fun _ => hq 0 (Or.inr (Or.inr ⟨rfl, h⟩)), fun h => absurd h (by decide)⟩
    · rw [e1] at h
      exact hq 1 (Or.inr (Or.inl ⟨rfl, h, by assumption⟩))
  · rw [e2] at h
    exact hq 2 (Or.inl ⟨rfl, h⟩)
theorem mk_load {i : Int32} (h : 0 ≤ i.toInt ∧ i.toInt ≤ 2) : 1 ≤ ((lm_load.getD (i + 1).toNatClampNeg 0) - (lm_load.getD i.toNatClampNeg 0)).toInt ∧ ((lm_load.getD (i + 1).toNatClampNeg 0) - (lm_load.getD i.toNatClampNeg 0)).toInt ≤ 64 := by
  rcases (show i.toInt = 0 ∨ i.toInt = 1 ∨ i.toInt = 2 by omega) with q | q | q
  · have := i3_cs (c := 0) q (by decide); subst this; decide
  · have := i3_cs (c := 1) q (by decide); subst this; decide
  · have := i3_cs (c := 2) q (by decide); subst this; decide
theorem mk_slope {i : Int32} (h : 0 ≤ i.toInt ∧ i.toInt ≤ 1) : 1 ≤ ((lm_slope.getD (i + 1).toNatClampNeg 0) - (lm_slope.getD i.toNatClampNeg 0)).toInt ∧ ((lm_slope.getD (i + 1).toNatClampNeg 0) - (lm_slope.getD i.toNatClampNeg 0)).toInt ≤ 64 := by
  rcases (show i.toInt = 0 ∨ i.toInt = 1 by omega) with q | q
  · have := i3_cs (c := 0) q (by decide); subst this; decide
  · have := i3_cs (c := 1) q (by decide); subst this; decide
theorem lk_229 {Q : Int32 → VS → Prop} {l5 l15 l16 l17 : Int32} {σ : VS} (h15 : 1 ≤ l15.toInt ∧ l15.toInt ≤ 64) (h16 : 1 ≤ l16.toInt ∧ l16.toInt ≤ 64) (hq : ∀ r, Q r σ) : b_X5lookUp_229 Q l5 l15 l16 l17 σ := by
  intro x hx
  have hp : 1 * 1 ≤ l15.toInt * l16.toInt := Int.mul_le_mul h15.1 h16.1 (by decide) (by omega)
  have hp2 : l15.toInt * l16.toInt ≤ 64 * 64 := Int.mul_le_mul h15.2 h16.2 (by omega) (by decide)
  have ht := i3_mul hx (by omega)
  exact ⟨fun _ => ⟨i3_nz (by omega), hq _⟩, fun _ => ⟨i3_nz (by omega), hq _⟩⟩
theorem lk_180 {Q : Int32 → VS → Prop} {l5 l9 l10 l11 l12 l15 k0 : Int32} {σ : VS} (hM : CI σ) (h9 : 0 ≤ l9.toInt ∧ l9.toInt ≤ 2) (h12 : 0 ≤ l12.toInt ∧ l12.toInt ≤ 63) (h12b : 0 < l10.toInt → l12.toInt ≤ 62) (h11 : l11.toInt ≤ 0 ∨ l9.toInt ≤ 1) (h15 : 1 ≤ l15.toInt ∧ l15.toInt ≤ 64) (hk : 1 ≤ k0.toInt ∧ k0.toInt ≤ 64) (hq : ∀ r σ', CI σ' → Eo [] [] σ σ' → Q r σ') : b_X5lookUp_180 Q l5 l9 l10 l11 l12 l15 k0 σ := by
  unfold b_X5lookUp_180
  refine rg_X5weighRow h12 h9 h11 hM (fun r σ1 hM1 hE1 => ?_)
  intro x hx
  refine ⟨fun _ => lk_229 h15 hk (fun r => hq r σ1 hM1 hE1), fun h10 => ?_⟩
  have h3 := h12b h10
  have t : (l12 + 1).toInt = l12.toInt + 1 := i3_addc rfl rfl rfl (by omega)
  refine rg_X5weighRow (by omega) h9 h11 hM1 (fun r σ2 hM2 hE2 => ?_)
  intro x2 hx2
  exact lk_229 h15 hk (fun r => hq r σ2 hM2 (hE1.trans hE2))
theorem lk_154 {Q : Int32 → VS → Prop} {l5 l9 l10 l11 l12 k0 : Int32} {σ : VS} (hM : CI σ) (h9 : 0 ≤ l9.toInt ∧ l9.toInt ≤ 2) (h12 : 0 ≤ l12.toInt ∧ l12.toInt ≤ 63) (h12b : 0 < l10.toInt → l12.toInt ≤ 62) (h11 : 0 < l11.toInt → l9.toInt ≤ 1) (hk : 1 ≤ k0.toInt ∧ k0.toInt ≤ 64) (hq : ∀ r σ', CI σ' → Eo [] [] σ σ' → Q r σ') : b_X5lookUp_154 Q l5 l9 l10 l11 l12 k0 σ := by
  unfold b_X5lookUp_154
  refine ⟨fun h => lk_180 hM h9 h12 h12b (Or.inl h) hk ⟨by decide, by decide⟩ hq, fun h => ?_⟩
  have h1 := h11 h
  have t : (l9 + 1).toInt = l9.toInt + 1 := i3_addc rfl rfl rfl (by omega)
  exact ⟨⟨by omega, by omega⟩, ⟨by omega, by omega⟩, lk_180 hM h9 h12 h12b (Or.inr h1) hk (mk_slope ⟨h9.1, h1⟩) hq⟩
theorem lk_122 {Q : Int32 → VS → Prop} {l5 l8 l9 l10 l11 l12 l14 : Int32} {σ : VS} (hM : CI σ) (h8 : 0 ≤ l8.toInt ∧ l8.toInt ≤ 3) (h8b : 0 < l10.toInt → l8.toInt ≤ 2) (h9 : 0 ≤ l9.toInt ∧ l9.toInt ≤ 2) (h12 : 0 ≤ l12.toInt ∧ l12.toInt ≤ 63) (h12b : 0 < l10.toInt → l12.toInt ≤ 62) (h11 : 0 < l11.toInt → l9.toInt ≤ 1) (hq : ∀ r σ', CI σ' → Eo [] [] σ σ' → Q r σ') : b_X5lookUp_122 Q l5 l8 l9 l10 l11 l12 l14 σ := by
  unfold b_X5lookUp_122
  refine ⟨fun _ => ⟨fun h => lk_154 hM h9 h12 h12b h11 ⟨by decide, by decide⟩ hq, fun h => ?_⟩, fun _ => hq _ _ hM Eo.rfl⟩
  have h1 := h8b h
  have t : (l8 + 1).toInt = l8.toInt + 1 := i3_addc rfl rfl rfl (by omega)
  exact ⟨⟨by omega, by omega⟩, ⟨by omega, by omega⟩, lk_154 hM h9 h12 h12b h11 (mk_load ⟨h8.1, h1⟩) hq⟩
theorem lk_88 {Q : Int32 → VS → Prop} {l5 l8 l9 l10 l11 l12 k0 : Int32} {σ : VS} (hM : CI σ) (h8 : 0 ≤ l8.toInt ∧ l8.toInt ≤ 3) (h8b : 0 < l10.toInt → l8.toInt ≤ 2) (h9 : 0 ≤ l9.toInt ∧ l9.toInt ≤ 2) (h12 : 0 ≤ l12.toInt ∧ l12.toInt ≤ 63) (h12b : 0 < l10.toInt → l12.toInt ≤ 62) (h11 : 0 < l11.toInt → l9.toInt ≤ 1) (hq : ∀ r σ', CI σ' → Eo [] [] σ σ' → Q r σ') : b_X5lookUp_88 Q l5 l8 l9 l10 l11 l12 k0 σ := by
  unfold b_X5lookUp_88
  refine rg_X5whyAbsent h12 hM (fun r σ1 _ hM1 hE1 => ?_)
  have hq1 : ∀ r σ', CI σ' → Eo [] [] σ1 σ' → Q r σ' := fun r σ' a b => hq r σ' a (hE1.trans b)
  refine ⟨fun _ => lk_122 hM1 h8 h8b h9 h12 h12b h11 hq1, fun _ => ⟨fun _ => lk_122 hM1 h8 h8b h9 h12 h12b h11 hq1, fun h => ?_⟩⟩
  have h1 := h12b h
  have t : (l12 + 1).toInt = l12.toInt + 1 := i3_addc rfl rfl rfl (by omega)
  refine rg_X5whyAbsent (by omega) hM1 (fun r σ2 _ hM2 hE2 => ?_)
  exact lk_122 hM2 h8 h8b h9 h12 h12b h11 (fun r σ' a b => hq1 r σ' a (hE2.trans b))
theorem rg_X5lookUp {Q : Int32 → VS → Prop} {p1 p2 p3 p4 p5 : Int32} {σ : VS} (h1 : 0 ≤ p1.toInt ∧ p1.toInt ≤ 7) (h2 : 0 ≤ p2.toInt ∧ p2.toInt ≤ 1) (hM : CI σ) (hq : ∀ (r : Int32) (σ' : VS), CI σ' → Eo [] [] σ σ' → Q r σ') : wp_X5lookUp Q p1 p2 p3 p4 p5 σ := by
  intro x1 e1 x2 e2
  have m1 : (x1.toInt ≤ p3.toInt ∧ x1.toInt ≤ 64) ∧ (x1.toInt = p3.toInt ∨ x1.toInt = 64) := i3_min e1
  have m2 : (x2.toInt ≤ p4.toInt ∧ x2.toInt ≤ 64) ∧ (x2.toInt = p4.toInt ∨ x2.toInt = 64) := i3_min e2
  have b1 := i3_bd x1
  have b2 := i3_bd x2
  refine rg_X5lastL (fun r hr => ?_)
  refine rg_X5lastS (fun r2 hr2 => ?_)
  have hr3 : 0 ≤ r.toInt ∧ r.toInt ≤ 3 := by rcases hr with ⟨rfl, -⟩ | ⟨rfl, -⟩ | ⟨rfl, -⟩ | ⟨rfl, -⟩ <;> decide
  have hr4 : 0 ≤ r2.toInt ∧ r2.toInt ≤ 2 := by rcases hr2 with ⟨rfl, -⟩ | ⟨rfl, -⟩ | ⟨rfl, -⟩ <;> decide
  refine ⟨⟨by omega, by omega⟩, fun x7 e7 => ⟨⟨by omega, by omega⟩, fun x8 e8 => ?_⟩⟩
  have k7 : 0 < x7.toInt → r.toInt ≤ 2 := by
    rcases hr with ⟨rfl, h⟩ | ⟨rfl, -⟩ | ⟨rfl, -⟩ | ⟨rfl, -⟩
    · have h0 : x1.toInt = 64 := by omega
      have h9 : x1 = 64 := i3_cs h0 (by decide)
      subst h9; subst e7; intro h; exact absurd h (by decide)
    · intro; decide
    · intro; decide
    · intro; decide
  have k8 : 0 < x8.toInt → r2.toInt ≤ 1 := by
    rcases hr2 with ⟨rfl, h⟩ | ⟨rfl, -⟩ | ⟨rfl, -⟩
    · have h0 : x2.toInt = 64 := by omega
      have h9 : x2 = 64 := i3_cs h0 (by decide)
      subst h9; subst e8; intro h; exact absurd h (by decide)
    · intro; decide
    · intro; decide
  have t1 : (p1 * 2).toInt = p1.toInt * 2 := i3_mulc rfl rfl rfl (by omega)
  have t2 : ((p1 * 2) + p2).toInt = (p1 * 2).toInt + p2.toInt := i3_addc rfl rfl rfl (by omega)
  have t3 : (((p1 * 2) + p2) * 4).toInt = ((p1 * 2) + p2).toInt * 4 := i3_mulc rfl rfl rfl (by omega)
  have t4 : ((((p1 * 2) + p2) * 4) + r).toInt = (((p1 * 2) + p2) * 4).toInt + r.toInt := i3_addc rfl rfl rfl (by omega)
  show (_ ∧ _)
  have h12 : 0 ≤ ((((p1 * 2) + p2) * 4) + r).toInt ∧ ((((p1 * 2) + p2) * 4) + r).toInt ≤ 63 := by omega
  have h12b : 0 < x7.toInt → ((((p1 * 2) + p2) * 4) + r).toInt ≤ 62 := fun h => by have := k7 h; omega
  exact ⟨fun _ => lk_88 hM hr3 k7 hr4 h12 h12b k8 hq, fun _ => lk_88 hM hr3 k7 hr4 h12 h12b k8 hq⟩

