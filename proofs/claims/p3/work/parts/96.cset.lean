theorem CSrc.same {F A : List Nat} {σ τ : VS} (h : CSrc σ) (e : Eo F A σ τ) (hk : 2 ∉ F ∧ 16 ∉ A) : CSrc τ := by
  unfold CSrc
  rw [e.1 2 hk.1, e.2 16 hk.2]
  exact h
def fg (σ : VS) : VS := sf (sf σ 0 0) 1 0
theorem fg_ci {σ : VS} (h : CI σ) : CI (fg σ) := (h.sf 0 _ (show 0 ≤ (0 : Int32).toInt ∧ (0 : Int32).toInt ≤ 1 by decide)).sf 1 _ (show 0 ≤ (0 : Int32).toInt ∧ (0 : Int32).toInt ≤ 1 by decide)
theorem fg_eo (σ : VS) : Eo [0, 1] [] σ (fg σ) := (Eo.rfl.sf 0 _ (by decide)).sf 1 _ (by decide)
theorem xhas_x {Q : Int32 → VS → Prop} {p1 : Int32} {σ : VS} (h1 : 0 ≤ p1.toInt ∧ p1.toInt < (σ.1 2).toInt → Q 1 σ) (h0 : ¬ (0 ≤ p1.toInt ∧ p1.toInt < (σ.1 2).toInt) → Q 0 σ) : wp_X1has Q p1 σ := by
  unfold wp_X1has b_X1has_16 b_X1has_17
  exact ⟨fun h => ⟨⟨by decide, by decide⟩, h0 (by omega)⟩, fun h => ⟨fun k => ⟨⟨by decide, by decide⟩, h0 (by omega)⟩, fun k => ⟨⟨by decide, by decide⟩, h1 ⟨h, k⟩⟩⟩⟩
theorem xany_x {Q : Int32 → VS → Prop} {p1 : Int32} {σ : VS} (hc : 0 ≤ (σ.1 2).toInt) (h1 : mayB (σ.1 2).toInt p1 → Q 1 σ) (h0 : ¬ mayB (σ.1 2).toInt p1 → Q 0 σ) : wp_X9hasOrAny Q p1 σ := by
  unfold mayB at h1 h0
  unfold wp_X9hasOrAny b_X9hasOrAny_16 b_X9hasOrAny_21
  exact ⟨fun h => ⟨⟨by decide, by decide⟩, h1 (by omega)⟩, fun h => xhas_x (fun k => ⟨fun z => absurd z (by decide), fun _ => ⟨⟨by decide, by decide⟩, h1 (by omega)⟩⟩) (fun k => ⟨fun _ => ⟨⟨by decide, by decide⟩, h0 (by omega)⟩, fun z => absurd rfl z⟩)⟩
theorem xwithin_x {Q : Int32 → VS → Prop} {p1 p2 p3 : Int32} {σ : VS} (h1 : p2.toInt ≤ p1.toInt ∧ p1.toInt ≤ p3.toInt → Q 1 σ) (h0 : ¬ (p2.toInt ≤ p1.toInt ∧ p1.toInt ≤ p3.toInt) → Q 0 σ) : wp_X9within Q p1 p2 p3 σ := by
  unfold wp_X9within b_X9within_14 b_X9within_15
  exact ⟨fun h => ⟨⟨by decide, by decide⟩, h0 (by omega)⟩, fun h => ⟨fun k => ⟨⟨by decide, by decide⟩, h0 (by omega)⟩, fun k => ⟨⟨by decide, by decide⟩, h1 ⟨h, k⟩⟩⟩⟩
theorem xroot_x {Q : Int32 → VS → Prop} {p1 : Int32} {σ : VS} (h1 : -1 ≤ p1.toInt ∧ p1.toInt < (σ.1 5).toInt → Q 1 σ) (h0 : ¬ (-1 ≤ p1.toInt ∧ p1.toInt < (σ.1 5).toInt) → Q 0 σ) : wp_X0hasOrRoot Q p1 σ := by
  unfold wp_X0hasOrRoot b_X0hasOrRoot_17 b_X0hasOrRoot_18
  exact ⟨fun h => ⟨⟨by decide, by decide⟩, h0 (by omega)⟩, fun h => ⟨fun k => ⟨⟨by decide, by decide⟩, h0 (by omega)⟩, fun k => ⟨⟨by decide, by decide⟩, h1 ⟨h, k⟩⟩⟩⟩
theorem xtab_x {Q : Int32 → VS → Prop} {p1 : Int32} {σ : VS} (h1 : 0 ≤ p1.toInt ∧ p1.toInt ≤ 7 → Q 1 σ) (h0 : ¬ (0 ≤ p1.toInt ∧ p1.toInt ≤ 7) → Q 0 σ) : wp_X5has Q p1 σ := by
  unfold wp_X5has b_X5has_14 b_X5has_15
  exact ⟨fun h => ⟨⟨by decide, by decide⟩, h0 (by omega)⟩, fun h => ⟨fun k => ⟨⟨by decide, by decide⟩, h0 (by omega)⟩, fun k => ⟨⟨by decide, by decide⟩, h1 (by omega)⟩⟩⟩
theorem xgate_x {Q : Int32 → VS → Prop} {p1 : Int32} {σ : VS} (h1 : 0 < p1.toInt ∧ p1.toInt < 4 → Q 1 σ) (h0 : ¬ (0 < p1.toInt ∧ p1.toInt < 4) → Q 0 σ) : wp_X1isGateKind Q p1 σ := by
  unfold wp_X1isGateKind b_X1isGateKind_13 b_X1isGateKind_14
  exact ⟨fun h => ⟨⟨by decide, by decide⟩, h0 (by omega)⟩, fun h => ⟨fun k => ⟨⟨by decide, by decide⟩, h0 (by omega)⟩, fun k => ⟨⟨by decide, by decide⟩, h1 ⟨h, k⟩⟩⟩⟩
theorem cs_count {Q : Int32 → VS → Prop} {p1 : Int32} {σ : VS} (hq : ∀ (r : Int32), ((p1.toInt = 0 ∧ r = σ.1 2) ∨ (p1.toInt = 1 ∧ r = σ.1 5) ∨ (p1.toInt = 2 ∧ r = σ.1 6) ∨ (p1.toInt = 3 ∧ r = σ.1 4) ∨ (¬ (0 ≤ p1.toInt ∧ p1.toInt ≤ 3) ∧ r = -1)) → Q r σ) : wp_X9count Q p1 σ := by
  unfold wp_X9count
  exact ⟨fun a => hq _ (Or.inl ⟨a, rfl⟩), fun b => hq _ (Or.inr (Or.inl ⟨b, rfl⟩)), fun c => hq _ (Or.inr (Or.inr (Or.inl ⟨c, rfl⟩))), fun d => hq _ (Or.inr (Or.inr (Or.inr (Or.inl ⟨d, rfl⟩)))), fun e => hq _ (Or.inr (Or.inr (Or.inr (Or.inr ⟨by omega, rfl⟩))))⟩
theorem cs_period {Q : Int32 → VS → Prop} {p1 : Int32} {σ : VS} (hM : CI σ) (hC : CSrc σ) (hq : ∀ (r : Int32) (σ' : VS), CI σ' → CSrc σ' → Eo [0, 1, 4] [] σ σ' → (((1 ≤ p1.toInt ∧ p1.toInt ≤ 1000000) ∧ σ'.1 4 = p1) ∨ (¬ (1 ≤ p1.toInt ∧ p1.toInt ≤ 1000000) ∧ σ' = σ)) → Q r σ') : wp_X9period Q p1 σ := by
  have e1 : (1 : Int32).toInt = 1 := rfl
  have e2 : (1000000 : Int32).toInt = 1000000 := rfl
  unfold wp_X9period wp_X9forget
  refine xwithin_x (fun h => ⟨fun _ x _ => ?_, fun z => absurd z (by decide)⟩) (fun h => ⟨fun z => absurd rfl z, fun _ => hq _ _ hM hC Eo.rfl (Or.inr ⟨by omega, rfl⟩)⟩)
  have e : Eo [0, 1, 4] [] σ (fg (sf σ 4 p1)) := (Eo.rfl.sf 4 _ (by decide)).of (fg_eo _) (by decide) (by decide)
  exact hq x _ (fg_ci (hM.sf 4 _ (show 1 ≤ p1.toInt ∧ p1.toInt ≤ 1000000 by omega))) (hC.same e (by decide)) e (Or.inl ⟨by omega, ((fg_eo (sf σ 4 p1)).1 4 (by decide)).trans (sf_same _ _ _)⟩)
theorem cs_node {Q : Int32 → VS → Prop} {p1 p2 p3 : Int32} {σ : VS} (hM : CI σ) (hC : CSrc σ) (hq : ∀ (r : Int32) (σ' : VS), CI σ' → CSrc σ' → Eo [5] [28, 29, 30] σ σ' → ((okN (σ.1 5).toInt p1 p2 p3 ∧ (σ.1 5).toInt < 20 ∧ (σ'.1 5).toInt = (σ.1 5).toInt + 1) ∨ (¬ (okN (σ.1 5).toInt p1 p2 p3 ∧ (σ.1 5).toInt < 20) ∧ σ' = σ)) → Q r σ') : wp_X9node Q p1 p2 p3 σ := by
  have hb : 0 ≤ (σ.1 5).toInt ∧ (σ.1 5).toInt ≤ 20 := hM.1 5
  have hno : ¬ okN (σ.1 5).toInt p1 p2 p3 → b_X9node_26 Q σ := fun h => hq _ _ hM hC Eo.rfl (Or.inr ⟨fun k => h k.1, rfl⟩)
  unfold okN at hno hq
  unfold wp_X9node
  refine xroot_x (fun k => ⟨fun z => absurd z (by decide), fun _ => ?_⟩) (fun k => ⟨fun _ => hno (by omega), fun z => absurd rfl z⟩)
  refine ⟨fun h => hno (by omega), fun h3 => ⟨fun h => hno (by omega), fun h4 => ⟨fun h5 => ⟨fun h6 => ?_, fun h6 => hq _ _ hM hC Eo.rfl (Or.inr ⟨fun k => by omega, rfl⟩)⟩, fun h => hno (by omega)⟩⟩⟩
  have t : (σ.1 5 + 1).toInt = (σ.1 5).toInt + 1 := i3_addc rfl rfl rfl (by have e9 : (1 : Int32).toInt = 1 := rfl; omega)
  unfold wp_X0addNode
  intro x1 ex
  have hx : x1.toInt = (σ.1 5).toInt := by rw [ex]
  have hM1 : CI (sa (sf σ 5 (σ.1 5 + 1)) 28 x1 p1) := (hM.sf 5 _ (show 0 ≤ (σ.1 5 + 1).toInt ∧ (σ.1 5 + 1).toInt ≤ 20 by omega)).sa 28 _ _ (show -1 ≤ p1.toInt ∧ p1.toInt ≤ 19 by omega)
  have hE1 : Eo [5] [28, 29, 30] σ (sa (sf σ 5 (σ.1 5 + 1)) 28 x1 p1) := (Eo.rfl.sf 5 _ (by decide)).sa 28 _ _ (by decide)
  have h51 : (sa (sf σ 5 (σ.1 5 + 1)) 28 x1 p1).1 5 = σ.1 5 + 1 := by
    show (sf σ 5 (σ.1 5 + 1)).1 5 = _
    rw [sf_same]
  refine ⟨⟨by omega, by omega⟩, rg_X0earlyOf (by omega) hM1 (fun r2 σ3 hM3 hE3 => ⟨⟨by omega, by omega⟩, rg_X0lateOf (by omega) (hM3.sa 29 _ _ (i3_bd _)) (fun r4 σ5 hM5 hE5 => ⟨⟨by omega, by omega⟩, ?_⟩)⟩)⟩
  have hE : Eo [5] [28, 29, 30] σ (sa σ5 30 x1 (r4 + p3)) := (((hE1.of hE3 (by decide) (by decide)).sa 29 _ _ (by decide)).of hE5 (by decide) (by decide)).sa 30 _ _ (by decide)
  have h55 : (sa σ5 30 x1 (r4 + p3)).1 5 = σ.1 5 + 1 := by
    have a : σ5.1 5 = σ3.1 5 := hE5.1 5 (by decide)
    have b : σ3.1 5 = _ := hE3.1 5 (by decide)
    show σ5.1 5 = _
    rw [a, b, h51]
  exact hq _ _ (hM5.sa 30 _ _ (i3_bd _)) (hC.same hE (by decide)) hE (Or.inl ⟨by omega, by omega, by rw [h55]; exact t⟩)
theorem cs_unexcept {Q : Int32 → VS → Prop} {σ : VS} (hM : CI σ) (hC : CSrc σ) (hq : ∀ (r : Int32) (σ' : VS), CI σ' → CSrc σ' → Eo [0, 1, 6] [35] σ σ' → ((0 < (σ.1 6).toInt ∧ (σ'.1 6).toInt = (σ.1 6).toInt - 1) ∨ (¬ 0 < (σ.1 6).toInt ∧ σ' = σ)) → Q r σ') : wp_X9unexcept Q σ := by
  have hb : 0 ≤ (σ.1 6).toInt ∧ (σ.1 6).toInt ≤ 4 := hM.1 6
  unfold wp_X9unexcept wp_X9forget wp_X3dropLatest
  refine ⟨fun h => ?_, fun h => hq _ _ hM hC Eo.rfl (Or.inr ⟨by omega, rfl⟩)⟩
  have t : (σ.1 6 - 1).toInt = (σ.1 6).toInt - 1 := i3_subc rfl rfl rfl (by have e9 : (1 : Int32).toInt = 1 := rfl; omega)
  have h6 : (fg σ).1 6 = σ.1 6 := (fg_eo σ).1 6 (by decide)
  show wp_X3spreadBits _ (sf (fg σ) 6 ((fg σ).1 6 - 1))
  rw [h6]
  refine rg_X3spreadBits ((fg_ci hM).sf 6 _ (show 0 ≤ (σ.1 6 - 1).toInt ∧ (σ.1 6 - 1).toInt ≤ 4 by omega)) (fun τ hMt hEt => ?_)
  have e : Eo [0, 1, 6] [35] σ τ := (((fg_eo σ).mono (by decide) (by decide)).sf 6 _ (by decide)).of hEt (by decide) (by decide)
  exact hq _ _ hMt (hC.same e (by decide)) e (Or.inl ⟨by omega, by rw [hEt.1 6 (by decide), sf_same]; exact t⟩)
theorem cs_except {Q : Int32 → VS → Prop} {p1 p2 p3 p4 : Int32} {σ : VS} (hM : CI σ) (hC : CSrc σ) (hq : ∀ (r : Int32) (σ' : VS), CI σ' → CSrc σ' → Eo [0, 1, 6] [31, 32, 33, 34, 35] σ σ' → ((okE (σ.1 2).toInt p1 p2 p3 p4 ∧ (σ.1 6).toInt < 4 ∧ (σ'.1 6).toInt = (σ.1 6).toInt + 1) ∨ (¬ (okE (σ.1 2).toInt p1 p2 p3 p4 ∧ (σ.1 6).toInt < 4) ∧ σ' = σ)) → Q r σ') : wp_X9except Q p1 p2 p3 p4 σ := by
  have hc : 0 ≤ (σ.1 2).toInt ∧ (σ.1 2).toInt ≤ 50 := hM.1 2
  have hb : 0 ≤ (σ.1 6).toInt ∧ (σ.1 6).toInt ≤ 4 := hM.1 6
  have e2 : (2 : Int32).toInt = 2 := rfl
  have e4 : (4 : Int32).toInt = 4 := rfl
  have hno : ¬ okE (σ.1 2).toInt p1 p2 p3 p4 → b_X9except_38 Q σ := fun h => hq _ _ hM hC Eo.rfl (Or.inr ⟨fun k => h k.1, rfl⟩)
  have h58 : okE (σ.1 2).toInt p1 p2 p3 p4 → b_X9except_58 Q p1 p2 p3 p4 σ := by
    intro ok
    have ok' := ok
    unfold okE mayB at ok'
    unfold b_X9except_58 wp_X9forget wp_X3addRule
    refine ⟨fun h6 x1 ex => ?_, fun h6 => hq _ _ hM hC Eo.rfl (Or.inr ⟨fun k => by have := k.2; omega, rfl⟩)⟩
    have t : (σ.1 6 + 1).toInt = (σ.1 6).toInt + 1 := i3_addc rfl rfl rfl (by have e9 : (1 : Int32).toInt = 1 := rfl; omega)
    have hf6 : (fg σ).1 6 = σ.1 6 := (fg_eo σ).1 6 (by decide)
    have ex' : x1 = (fg σ).1 6 := ex
    have hx : x1.toInt = (σ.1 6).toInt := by rw [ex', hf6]
    refine ⟨⟨by omega, by omega⟩, ⟨by omega, by omega⟩, ⟨by omega, by omega⟩, ⟨by omega, by omega⟩, ?_⟩
    show wp_X3spreadBits _ (sa (sa (sa (sa (sf (fg σ) 6 ((fg σ).1 6 + 1)) 31 x1 p1) 32 x1 p2) 33 x1 p3) 34 x1 p4)
    rw [hf6]
    refine rg_X3spreadBits ((((((fg_ci hM).sf 6 _ (show 0 ≤ (σ.1 6 + 1).toInt ∧ (σ.1 6 + 1).toInt ≤ 4 by omega)).sa 31 _ _ (show 0 ≤ p1.toInt ∧ p1.toInt ≤ 4 by omega)).sa 32 _ _ (show -1 ≤ p2.toInt ∧ p2.toInt ≤ 49 by omega)).sa 33 _ _ (show -1 ≤ p3.toInt ∧ p3.toInt ≤ 49 by omega)).sa 34 _ _ (show -1 ≤ p4.toInt ∧ p4.toInt ≤ 49 by omega)) (fun τ hMt hEt => ?_)
    have e : Eo [0, 1, 6] [31, 32, 33, 34, 35] σ τ := ((((((((fg_eo σ).mono (by decide) (by decide)).sf 6 _ (by decide)).sa 31 _ _ (by decide)).sa 32 _ _ (by decide)).sa 33 _ _ (by decide)).sa 34 _ _ (by decide))).of hEt (by decide) (by decide)
    have k6 : τ.1 6 = σ.1 6 + 1 := by
      rw [hEt.1 6 (by decide)]
      show (sf (fg σ) 6 (σ.1 6 + 1)).1 6 = _
      rw [sf_same]
    exact hq _ _ hMt (hC.same e (by decide)) e (Or.inl ⟨ok, by omega, by rw [k6]; exact t⟩)
  have h13 : (p1.toInt = 0 ∨ (2 ≤ p1.toInt ∧ p1.toInt ≤ 4)) → b_X9except_13 Q p1 p2 p3 p4 σ := by
    intro h1
    unfold b_X9except_13
    refine xany_x hc.1 (fun a => ⟨fun z => absurd z (by decide), fun _ => ?_⟩) (fun a => ⟨fun _ => hno (fun h => a h.2.1), fun z => absurd rfl z⟩)
    refine xany_x hc.1 (fun b => ⟨fun z => absurd z (by decide), fun _ => ?_⟩) (fun a => ⟨fun _ => hno (fun h => a h.2.2.1), fun z => absurd rfl z⟩)
    refine xany_x hc.1 (fun c => ⟨fun _ => ?_, fun z => absurd z (by decide)⟩) (fun a => ⟨fun z => absurd rfl z, fun _ => hno (fun h => a h.2.2.2.1)⟩)
    exact ⟨fun d => h58 ⟨h1, a, b, c, by unfold mayB at a; omega⟩, fun d => ⟨fun d2 => h58 ⟨h1, a, b, c, by unfold mayB at b; omega⟩, fun d2 => ⟨fun d3 => h58 ⟨h1, a, b, c, by unfold mayB at c; omega⟩, fun d3 => hno (fun h => by have := h.2.2.2.2; omega)⟩⟩⟩
  unfold wp_X9except
  exact ⟨fun h => h13 (Or.inl h), fun h => xwithin_x (fun k => ⟨fun z => absurd z (by decide), fun _ => h13 (Or.inr (by omega))⟩) (fun k => ⟨fun _ => hno (fun o => by have := o.1; omega), fun z => absurd rfl z⟩)⟩
theorem cs_make {Q : Int32 → VS → Prop} {p1 p2 p3 : Int32} {σ : VS} (hM : CI σ) (hC : CSrc σ) (hq : ∀ (r : Int32) (σ' : VS), CI σ' → CSrc σ' → Eo [0, 1, 2, 3] [11, 12, 13, 17, 18, 19, 20] σ σ' → ((okM p1 p2 p3 ∧ (σ.1 2).toInt < 50 ∧ r.toInt = (σ.1 2).toInt ∧ (σ'.1 2).toInt = (σ.1 2).toInt + 1) ∨ (((¬ okM p1 p2 p3 ∧ r.toInt = -1) ∨ (okM p1 p2 p3 ∧ ¬ (σ.1 2).toInt < 50 ∧ r.toInt = -3)) ∧ σ' = σ)) → Q r σ') : wp_X9make Q p1 p2 p3 σ := by
  have hc : 0 ≤ (σ.1 2).toInt ∧ (σ.1 2).toInt ≤ 50 := hM.1 2
  have e1 : (1 : Int32).toInt = 1 := rfl
  have e4 : (4 : Int32).toInt = 4 := rfl
  have e0 : (0 : Int32).toInt = 0 := rfl
  have hno : ¬ okM p1 p2 p3 → Q (-1) σ := fun h => hq _ _ hM hC Eo.rfl (Or.inr ⟨Or.inl ⟨h, rfl⟩, rfl⟩)
  have h86 : ∀ kk : Int32, okM p1 p2 p3 → (σ.1 2).toInt < 50 → 0 ≤ kk.toInt ∧ kk.toInt ≤ 4 → b_X9make_86 Q p1 p3 kk σ := by
    intro kk ok hlt hk
    unfold b_X9make_86 wp_X9forget wp_X1addCell
    intro x1 ex
    have t : (σ.1 2 + 1).toInt = (σ.1 2).toInt + 1 := i3_addc rfl rfl rfl (by omega)
    have hf : (fg σ).1 2 = σ.1 2 := (fg_eo σ).1 2 (by decide)
    have ex' : x1 = (fg σ).1 2 := ex
    have hx : x1.toInt = (σ.1 2).toInt := by rw [ex', hf]
    refine ⟨⟨by omega, by omega⟩, ⟨by omega, by omega⟩, ⟨by omega, by omega⟩, ?_⟩
    show wp_X1arrange _ (sa (sa (sa (sf (fg σ) 2 ((fg σ).1 2 + 1)) 11 x1 p1) 12 x1 kk) 13 x1 p3)
    rw [hf]
    obtain ⟨y, hy⟩ : ∃ y : VS, y = sa (sa (sa (sf (fg σ) 2 (σ.1 2 + 1)) 11 x1 p1) 12 x1 kk) 13 x1 p3 := ⟨_, rfl⟩
    rw [← hy]
    have hMy : CI y := by
      rw [hy]
      exact ((((fg_ci hM).sf 2 _ (show 0 ≤ (σ.1 2 + 1).toInt ∧ (σ.1 2 + 1).toInt ≤ 50 by omega)).sa 11 _ _ (show 0 ≤ p1.toInt ∧ p1.toInt ≤ 5 from ok.1)).sa 12 _ _ (show 0 ≤ kk.toInt ∧ kk.toInt ≤ 4 from hk)).sa 13 _ _ (show 0 ≤ p3.toInt ∧ p3.toInt ≤ 7 from ok.2.1)
    have hEy : Eo [0, 1, 2, 3] [11, 12, 13, 17, 18, 19, 20] σ y := by
      rw [hy]
      exact (((((fg_eo σ).mono (by decide) (by decide)).sf 2 _ (by decide)).sa 11 _ _ (by decide)).sa 12 _ _ (by decide)).sa 13 _ _ (by decide)
    have y2 : y.1 2 = σ.1 2 + 1 := by
      rw [hy]
      show (sf (fg σ) 2 (σ.1 2 + 1)).1 2 = _
      rw [sf_same]
    have hCy : CSrc y := by
      intro w
      rw [hEy.2 16 (by decide), y2]
      have := hC w
      omega
    refine rg_X1arrange hMy hCy (fun τ hMt hEt => ?_)
    exact hq _ _ hMt (hCy.same hEt (by decide)) (hEy.of hEt (by decide) (by decide)) (Or.inl ⟨ok, hlt, hx, by rw [hEt.1 2 (by decide), y2]; exact t⟩)
  have h53 : ∀ l4 : Int32, okM p1 p2 p3 → (l4.toInt ≠ 0 → p1.toInt = 1 ∨ p1.toInt = 2) → b_X9make_53 Q p1 p2 p3 l4 σ := by
    intro l4 ok hl
    unfold b_X9make_53
    exact ⟨fun h => ⟨fun _ => ⟨fun _ => h86 1 ok h (by omega), fun _ => h86 0 ok h (by omega)⟩, fun k => h86 p2 ok h (by have := ok.2.2 (hl k); omega)⟩, fun h => hq _ _ hM hC Eo.rfl (Or.inr ⟨Or.inr ⟨ok, by omega, rfl⟩, rfl⟩)⟩
  have h34 : (0 ≤ p1.toInt ∧ p1.toInt ≤ 5) → (0 ≤ p3.toInt ∧ p3.toInt ≤ 7) → ¬ (p1.toInt = 1 ∨ p1.toInt = 2) → b_X9make_34 Q p1 p2 p3 σ := by
    intro a b c
    unfold b_X9make_34 b_X9make_35
    exact ⟨fun _ => h53 0 ⟨a, b, fun h => absurd h c⟩ (fun z => absurd rfl z), fun z => absurd rfl z⟩
  unfold wp_X9make b_X9make_16
  refine ⟨fun h => hno (fun o => by have := o.1; omega), fun h1 => ⟨fun h => hno (fun o => by have := o.1; omega), fun h2 => ?_⟩⟩
  refine xtab_x (fun b => ⟨fun _ => ?_, fun z => absurd z (by decide)⟩) (fun b => ⟨fun z => absurd rfl z, fun _ => hno (fun o => b o.2.1)⟩)
  refine xgate_x (fun g => ⟨fun z => absurd z (by decide), fun _ => ⟨fun h3 => h34 ⟨h1, h2⟩ b (by omega), fun h3 => ?_⟩⟩) (fun g => ⟨fun _ => h34 ⟨h1, h2⟩ b (by omega), fun z => absurd rfl z⟩)
  unfold b_X9make_35
  refine ⟨fun z => absurd z (by decide), fun _ => xwithin_x (fun k => ⟨fun _ => h53 1 ⟨⟨h1, h2⟩, b, fun _ => by omega⟩ (fun _ => by omega), fun z => absurd z (by decide)⟩) (fun k => ⟨fun z => absurd rfl z, fun _ => hno (fun o => by have := o.2.2 (by omega); omega)⟩)⟩
theorem cs_wire {Q : Int32 → VS → Prop} {p1 p2 p3 : Int32} {σ : VS} (hM : CI σ) (hC : CSrc σ) (hq : ∀ (r : Int32) (σ' : VS), CI σ' → CSrc σ' → Eo [0, 1, 3] [16, 17, 18, 19, 20, 21] σ σ' → Q r σ') : wp_X9wire Q p1 p2 p3 σ := by
  have hc : 0 ≤ (σ.1 2).toInt ∧ (σ.1 2).toInt ≤ 50 := hM.1 2
  have h90 : ∀ (kk : Int32) (τ : VS), (-5 ≤ kk.toInt ∧ kk.toInt < (σ.1 2).toInt) → (0 ≤ p2.toInt ∧ p2.toInt < (σ.1 2).toInt) → (0 ≤ p3.toInt ∧ p3.toInt ≤ 3) → CI τ → CSrc τ → Eo [0, 1, 3] [16, 17, 18, 19, 20, 21] σ τ → b_X9wire_90 Q p2 p3 kk τ := by
    intro kk τ hk h2 h3 hMt hCt hEt
    have t1 : (p2 * 4).toInt = p2.toInt * 4 := i3_mulc rfl rfl rfl (by have e9 : (4 : Int32).toInt = 4 := rfl; omega)
    have t2 : (p2 * 4 + p3).toInt = (p2 * 4).toInt + p3.toInt := i3_addc rfl rfl rfl (by omega)
    obtain ⟨w, hw⟩ : ∃ w : Nat, (p2 * 4 + p3).toInt = (w : Int) := ⟨(p2 * 4 + p3).toInt.toNat, by omega⟩
    have hτ2 : τ.1 2 = σ.1 2 := hEt.1 2 (by decide)
    unfold b_X9wire_90 wp_X1connect
    refine ⟨⟨by omega, by omega⟩, fun x1 _ => ⟨⟨by omega, by omega⟩, ?_⟩⟩
    have hCy : CSrc (sa τ 16 (p2 * 4 + p3) kk) := by
      intro j
      rw [sa_at τ 16 _ _ hw]
      show _ < (τ.1 2).toInt
      by_cases e : j = w
      · rw [if_pos e, hτ2]; exact hk.2
      · rw [if_neg e]; exact hCt j
    refine rg_X1arrange (hMt.sa 16 _ _ (show -5 ≤ kk.toInt ∧ kk.toInt ≤ 49 by omega)) hCy (fun z hMz hEz => ?_)
    exact hq _ _ hMz (hCy.same hEz (by decide)) ((hEt.sa 16 _ _ (by decide)).of hEz (by decide) (by decide))
  have h71 : ∀ τ : VS, (-1 ≤ p1.toInt ∧ p1.toInt < (σ.1 2).toInt) → (0 ≤ p2.toInt ∧ p2.toInt < (σ.1 2).toInt) → (0 ≤ p3.toInt ∧ p3.toInt ≤ 3) → CI τ → CSrc τ → Eo [0, 1, 3] [16, 17, 18, 19, 20, 21] σ τ → b_X9wire_71 Q p1 p2 p3 τ := by
    intro τ h1 h2 h3 hMt hCt hEt
    have e9 : (-5 : Int32).toInt = -5 := rfl
    unfold b_X9wire_71 wp_X9forget
    have k1 := fg_ci hMt
    have k2 := hCt.same (fg_eo τ) (by decide)
    have k3 := hEt.of (fg_eo τ) (by decide) (by decide)
    exact ⟨fun _ => h90 p1 _ (by omega) h2 h3 k1 k2 k3, fun _ => h90 (-5) _ (by omega) h2 h3 k1 k2 k3⟩
  have h16 : mayB (σ.1 2).toInt p1 → b_X9wire_16 Q p1 p2 p3 σ := by
    intro h1
    unfold mayB at h1
    unfold b_X9wire_16
    refine rg_X1hasInput hM (fun r3 τ _ hr hMt hEt => ?_)
    have hCt := hC.same hEt (by decide)
    have hE : Eo [0, 1, 3] [16, 17, 18, 19, 20, 21] σ τ := hEt.mono (by decide) (by decide)
    refine ⟨fun hne => ?_, fun _ => hq _ _ hMt hCt hE⟩
    have h2 := hr hne
    have h51 : b_X9wire_51 Q p1 p2 p3 τ := by
      unfold b_X9wire_51
      refine ⟨fun _ => h71 τ h1 (by omega) (by omega) hMt hCt hE, fun h => ?_⟩
      refine rg_X1wouldRing (by omega) (by omega) hMt (fun r5 z _ hMz hEz => ?_)
      have hCz := hCt.same hEz (by decide)
      have hEz' := hE.of hEz (by decide) (by decide)
      exact ⟨fun _ => h71 z h1 (by omega) (by omega) hMz hCz hEz', fun _ => hq _ _ hMz hCz hEz'⟩
    exact ⟨fun _ => h51, fun h => ⟨⟨by omega, by omega⟩, fun _ => h51, fun _ => hq _ _ hMt hCt hE⟩⟩
  unfold wp_X9wire
  exact ⟨fun h => h16 (by unfold mayB; omega), fun h => xhas_x (fun k => ⟨fun z => absurd z (by decide), fun _ => h16 (by unfold mayB; omega)⟩) (fun k => ⟨fun _ => hq _ _ hM hC Eo.rfl, fun z => absurd rfl z⟩)⟩

