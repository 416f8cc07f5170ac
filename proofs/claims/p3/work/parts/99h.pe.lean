theorem ra_period {Q : Int32 → VS → Prop} {p1 : Int32} {σ : VS} (hS : SI σ) (hM : MI σ) (hL : LI σ) (hq : ∀ (r : Int32) (σ' : VS), MI σ' → SI σ' → LI σ' → Eo [20] [] σ σ' → (((1 ≤ p1.toInt ∧ p1.toInt ≤ 1000000) ∧ r = σ.1 20 ∧ σ'.1 20 = p1) ∨ (¬ (1 ≤ p1.toInt ∧ p1.toInt ≤ 1000000) ∧ r = -1 ∧ σ' = σ)) → Q r σ') : wp_period Q p1 σ := by
  unfold wp_period b_period_11
  refine ⟨fun h => hq _ _ hM hS hL Eo.rfl (Or.inr ⟨by omega, rfl, rfl⟩), fun h => ⟨fun k x ex => ?_, fun h => hq _ _ hM hS hL Eo.rfl (Or.inr ⟨by omega, rfl, rfl⟩)⟩⟩
  have e : Eo [20] [] σ (sf σ 20 p1) := Eo.rfl.sf 20 _ (by decide)
  exact hq x _ (hM.sf 20 _ ⟨h, k⟩) (hS.same e (by decide)) (hL.same e (by decide)) e (Or.inl ⟨⟨h, k⟩, ex, sf_same _ _ _⟩)
theorem ca_period {Q : Int32 → VS → Prop} {p1 : Int32} {σ : VS} (hM : CI σ) (hC : CSrc σ) (hq : ∀ (r : Int32) (σ' : VS), CI σ' → CSrc σ' → Eo [0, 1, 4] [] σ σ' → (((1 ≤ p1.toInt ∧ p1.toInt ≤ 1000000) ∧ r = σ.1 4 ∧ σ'.1 4 = p1) ∨ (¬ (1 ≤ p1.toInt ∧ p1.toInt ≤ 1000000) ∧ r = -1 ∧ σ' = σ)) → Q r σ') : wp_X9period Q p1 σ := by
  have e1 : (1 : Int32).toInt = 1 := rfl
  have e2 : (1000000 : Int32).toInt = 1000000 := rfl
  unfold wp_X9period wp_X9forget
  refine xwithin_x (fun h => ⟨fun _ x ex => ?_, fun z => absurd z (by decide)⟩) (fun h => ⟨fun z => absurd rfl z, fun _ => hq _ _ hM hC Eo.rfl (Or.inr ⟨by omega, rfl, rfl⟩)⟩)
  have e : Eo [0, 1, 4] [] σ (fg (sf σ 4 p1)) := (Eo.rfl.sf 4 _ (by decide)).of (fg_eo _) (by decide) (by decide)
  exact hq x _ (fg_ci (hM.sf 4 _ (show 1 ≤ p1.toInt ∧ p1.toInt ≤ 1000000 by omega))) (hC.same e (by decide)) e (Or.inl ⟨by omega, ex, ((fg_eo (sf σ 4 p1)).1 4 (by decide)).trans (sf_same _ _ _)⟩)
theorem ra_unexcept {Q : Int32 → VS → Prop} {σ : VS} (hS : SI σ) (hM : MI σ) (hL : LI σ) (hq : ∀ (r : Int32) (σ' : VS), MI σ' → SI σ' → LI σ' → Eo [25] [] σ σ' → ((0 < (σ.1 25).toInt ∧ r = σ.1 25 - 1 ∧ (σ'.1 25).toInt = (σ.1 25).toInt - 1) ∨ (¬ 0 < (σ.1 25).toInt ∧ r = -1 ∧ σ' = σ)) → Q r σ') : wp_unexcept Q σ := by
  have hb : 0 ≤ (σ.1 25).toInt ∧ (σ.1 25).toInt ≤ 4 := hM.1 25
  unfold wp_unexcept
  refine ⟨fun h => ?_, fun h => hq _ _ hM hS hL Eo.rfl (Or.inr ⟨by omega, rfl, rfl⟩)⟩
  have t : (σ.1 25 - 1).toInt = (σ.1 25).toInt - 1 := i3_subc rfl rfl rfl (by have e9 : (1 : Int32).toInt = 1 := rfl; omega)
  have e : Eo [25] [] σ (sf σ 25 (σ.1 25 - 1)) := Eo.rfl.sf 25 _ (by decide)
  exact hq _ _ (hM.sf 25 _ (show 0 ≤ (σ.1 25 - 1).toInt ∧ (σ.1 25 - 1).toInt ≤ 4 by omega)) (hS.same e (by decide)) (hL.same e (by decide)) e (Or.inl ⟨by omega, sf_same _ _ _, by rw [sf_same]; exact t⟩)
theorem ca_unexcept {Q : Int32 → VS → Prop} {σ : VS} (hM : CI σ) (hC : CSrc σ) (hq : ∀ (r : Int32) (σ' : VS), CI σ' → CSrc σ' → Eo [0, 1, 6] [35] σ σ' → ((0 < (σ.1 6).toInt ∧ r = σ.1 6 - 1 ∧ (σ'.1 6).toInt = (σ.1 6).toInt - 1) ∨ (¬ 0 < (σ.1 6).toInt ∧ r = -1 ∧ σ' = σ)) → Q r σ') : wp_X9unexcept Q σ := by
  have hb : 0 ≤ (σ.1 6).toInt ∧ (σ.1 6).toInt ≤ 4 := hM.1 6
  unfold wp_X9unexcept wp_X9forget wp_X3dropLatest
  refine ⟨fun h => ?_, fun h => hq _ _ hM hC Eo.rfl (Or.inr ⟨by omega, rfl, rfl⟩)⟩
  have t : (σ.1 6 - 1).toInt = (σ.1 6).toInt - 1 := i3_subc rfl rfl rfl (by have e9 : (1 : Int32).toInt = 1 := rfl; omega)
  have h6 : (fg σ).1 6 = σ.1 6 := (fg_eo σ).1 6 (by decide)
  show wp_X3spreadBits _ (sf (fg σ) 6 ((fg σ).1 6 - 1))
  rw [h6]
  refine rg_X3spreadBits ((fg_ci hM).sf 6 _ (show 0 ≤ (σ.1 6 - 1).toInt ∧ (σ.1 6 - 1).toInt ≤ 4 by omega)) (fun τ hMt hEt => ?_)
  have e : Eo [0, 1, 6] [35] σ τ := (((fg_eo σ).mono (by decide) (by decide)).sf 6 _ (by decide)).of hEt (by decide) (by decide)
  exact hq _ _ hMt (hC.same e (by decide)) e (Or.inl ⟨by omega, by rw [hEt.1 6 (by decide), sf_same], by rw [hEt.1 6 (by decide), sf_same]; exact t⟩)
theorem ra_node {Q : Int32 → VS → Prop} {p1 p2 p3 : Int32} {σ : VS} (hS : SI σ) (hM : MI σ) (hL : LI σ) (hq : ∀ (r : Int32) (σ' : VS), MI σ' → SI σ' → LI σ' → Eo [21] [22, 23, 24] σ σ' → ((okN (σ.1 21).toInt p1 p2 p3 ∧ (σ.1 21).toInt < 20 ∧ r.toInt = (σ.1 21).toInt ∧ (σ'.1 21).toInt = (σ.1 21).toInt + 1) ∨ (((¬ okN (σ.1 21).toInt p1 p2 p3 ∧ r.toInt = -1) ∨ (okN (σ.1 21).toInt p1 p2 p3 ∧ ¬ (σ.1 21).toInt < 20 ∧ r.toInt = -3)) ∧ σ' = σ)) → Q r σ') : wp_node Q p1 p2 p3 σ := by
  have hb : 0 ≤ (σ.1 21).toInt ∧ (σ.1 21).toInt ≤ 20 := hM.1 21
  have hno : ¬ okN (σ.1 21).toInt p1 p2 p3 → b_node_28 Q σ := fun h => hq _ _ hM hS hL Eo.rfl (Or.inr ⟨Or.inl ⟨h, rfl⟩, rfl⟩)
  unfold okN at hno hq
  unfold wp_node
  refine ⟨fun h => hno (by omega), fun h1 => ⟨fun h => hno (by omega), fun h2 => ⟨fun h => hno (by omega), fun h3 => ⟨fun h => hno (by omega), fun h4 => ⟨fun h5 => ⟨fun h6 => ⟨⟨by omega, by omega⟩, ⟨hb.1, show (σ.1 21).toInt < 20 by omega⟩, ⟨hb.1, show (σ.1 21).toInt < 20 by omega⟩, ?_⟩, fun h6 => hq _ _ hM hS hL Eo.rfl (Or.inr ⟨Or.inr ⟨by omega, by omega, rfl⟩, rfl⟩)⟩, fun h => hno (by omega)⟩⟩⟩⟩⟩
  obtain ⟨n, hn⟩ : ∃ n : Nat, (σ.1 21).toInt = (n : Int) := ⟨(σ.1 21).toInt.toNat, by omega⟩
  have t : (σ.1 21 + 1).toInt = (σ.1 21).toInt + 1 := i3_addc rfl rfl rfl (by have e9 : (1 : Int32).toInt = 1 := rfl; omega)
  have hz : ∀ z : VS, z = sf (sa (sa (sa σ 22 (σ.1 21) p1) 23 (σ.1 21) p2) 24 (σ.1 21) p3) 21 (σ.1 21 + 1) → Q (z.1 21 - 1) z := by
    intro z hz
    have hMz : MI z := by
      rw [hz]
      exact (((hM.sa 22 _ _ (show -1 ≤ p1.toInt ∧ p1.toInt ≤ 19 by omega)).sa 23 _ p2 (i3_bd _)).sa 24 _ p3 (i3_bd _)).sf 21 _ (show 0 ≤ (σ.1 21 + 1).toInt ∧ (σ.1 21 + 1).toInt ≤ 20 by omega)
    have e : Eo [21] [22, 23, 24] σ z := by
      rw [hz]
      exact (((Eo.rfl.sa 22 _ _ (by decide)).sa 23 _ _ (by decide)).sa 24 _ _ (by decide)).sf 21 _ (by decide)
    have z21 : (z.1 21).toInt = (n : Int) + 1 := by rw [hz, sf_same]; omega
    have z22 : ∀ j, z.2.1 22 j = if j = n then p1 else σ.2.1 22 j := fun j => by
      rw [hz]
      show (sa (sa (sa σ 22 (σ.1 21) p1) 23 (σ.1 21) p2) 24 (σ.1 21) p3).2.1 22 j = _
      rw [sa_other (by decide), sa_other (by decide), sa_at σ 22 _ _ hn]
    have hSz : SI z := by
      obtain ⟨a, b, c, d, f⟩ := hS
      refine ⟨?_, fun j hj => ?_, fun q hq => ?_, ?_, ?_⟩
      · unfold Tk; rw [e.1 1 (by decide), e.2 7 (by decide)]; exact a
      · rw [z22]
        by_cases k : j = n
        · rw [if_pos k]; omega
        · rw [if_neg k]; exact b j (by omega)
      · rw [e.1 1 (by decide)] at hq
        rw [e.2 11 (by decide)]
        have := c q hq
        omega
      · unfold Kd Ip; rw [e.1 1 (by decide), e.2 2 (by decide), e.2 3 (by decide)]; exact d
      · unfold Acy gate Kd Ip Tk; rw [e.1 1 (by decide), e.2 2 (by decide), e.2 3 (by decide), e.2 7 (by decide)]; exact f
    exact hq _ _ hMz hSz (hL.same e (by decide)) e (Or.inl ⟨by omega, by omega, by rw [i3_subc (na := (n : Int) + 1) (nb := 1) z21 (by decide) rfl (by omega)]; omega, by omega⟩)
  exact hz _ rfl
theorem ca_node {Q : Int32 → VS → Prop} {p1 p2 p3 : Int32} {σ : VS} (hM : CI σ) (hC : CSrc σ) (hq : ∀ (r : Int32) (σ' : VS), CI σ' → CSrc σ' → Eo [5] [28, 29, 30] σ σ' → ((okN (σ.1 5).toInt p1 p2 p3 ∧ (σ.1 5).toInt < 20 ∧ r.toInt = (σ.1 5).toInt ∧ (σ'.1 5).toInt = (σ.1 5).toInt + 1) ∨ (((¬ okN (σ.1 5).toInt p1 p2 p3 ∧ r.toInt = -1) ∨ (okN (σ.1 5).toInt p1 p2 p3 ∧ ¬ (σ.1 5).toInt < 20 ∧ r.toInt = -3)) ∧ σ' = σ)) → Q r σ') : wp_X9node Q p1 p2 p3 σ := by
  have hb : 0 ≤ (σ.1 5).toInt ∧ (σ.1 5).toInt ≤ 20 := hM.1 5
  have hno : ¬ okN (σ.1 5).toInt p1 p2 p3 → b_X9node_26 Q σ := fun h => hq _ _ hM hC Eo.rfl (Or.inr ⟨Or.inl ⟨h, rfl⟩, rfl⟩)
  unfold okN at hno hq
  unfold wp_X9node
  refine xroot_x (fun k => ⟨fun z => absurd z (by decide), fun _ => ?_⟩) (fun k => ⟨fun _ => hno (by omega), fun z => absurd rfl z⟩)
  refine ⟨fun h => hno (by omega), fun h3 => ⟨fun h => hno (by omega), fun h4 => ⟨fun h5 => ⟨fun h6 => ?_, fun h6 => hq _ _ hM hC Eo.rfl (Or.inr ⟨Or.inr ⟨by omega, by omega, rfl⟩, rfl⟩)⟩, fun h => hno (by omega)⟩⟩⟩
  have t : (σ.1 5 + 1).toInt = (σ.1 5).toInt + 1 := i3_addc rfl rfl rfl (by have e9 : (1 : Int32).toInt = 1 := rfl; omega)
  unfold wp_X0addNode
  intro x1 ex
  have hx : x1.toInt = (σ.1 5).toInt := by rw [ex]
  have hM1 : CI (sa (sf σ 5 (σ.1 5 + 1)) 28 x1 p1) := (hM.sf 5 _ (show 0 ≤ (σ.1 5 + 1).toInt ∧ (σ.1 5 + 1).toInt ≤ 20 by omega)).sa 28 _ _ (show -1 ≤ p1.toInt ∧ p1.toInt ≤ 19 by omega)
  have hE1 : Eo [5] [28, 29, 30] σ (sa (sf σ 5 (σ.1 5 + 1)) 28 x1 p1) := (Eo.rfl.sf 5 _ (by decide)).sa 28 _ _ (by decide)
  have h51 : (sa (sf σ 5 (σ.1 5 + 1)) 28 x1 p1).1 5 = σ.1 5 + 1 := by
    show (sf σ 5 (σ.1 5 + 1)).1 5 = _
    rw [sf_same]
  refine ⟨⟨by omega, by omega⟩, rg_X0earlyOf (by omega) hM1 (fun r2 σ3 hM3 hE3 => ⟨⟨by omega, by omega⟩, rg_X0lateOf (by omega) (hM3.sa 29 _ _ (i3_bd _)) (fun r4 σ5 hM5 hE5 => ⟨⟨by omega, by omega⟩, ?_⟩)⟩)⟩
  have hE : Eo [5] [28, 29, 30] σ (sa σ5 30 x1 (r4 + p3)) := (((hE1.of hE3 (by decide) (by decide)).sa 29 _ _ (by decide)).of hE5 (by decide) (by decide)).sa 30 _ _ (by decide)
  have h55 : (sa σ5 30 x1 (r4 + p3)).1 5 = σ.1 5 + 1 := by
    have a : σ5.1 5 = σ3.1 5 := hE5.1 5 (by decide)
    have b : σ3.1 5 = _ := hE3.1 5 (by decide)
    show σ5.1 5 = _
    rw [a, b, h51]
  exact hq _ _ (hM5.sa 30 _ _ (i3_bd _)) (hC.same hE (by decide)) hE (Or.inl ⟨by omega, by omega, hx, by rw [h55]; exact t⟩)
theorem ra_except {Q : Int32 → VS → Prop} {p1 p2 p3 p4 : Int32} {σ : VS} (hS : SI σ) (hM : MI σ) (hL : LI σ) (hq : ∀ (r : Int32) (σ' : VS), MI σ' → SI σ' → LI σ' → Eo [25] [26, 27, 28, 29] σ σ' → ((okE (σ.1 1).toInt p1 p2 p3 p4 ∧ (σ.1 25).toInt < 4 ∧ r.toInt = (σ.1 25).toInt ∧ (σ'.1 25).toInt = (σ.1 25).toInt + 1) ∨ (((¬ okE (σ.1 1).toInt p1 p2 p3 p4 ∧ r.toInt = -1) ∨ (okE (σ.1 1).toInt p1 p2 p3 p4 ∧ ¬ (σ.1 25).toInt < 4 ∧ r.toInt = -3)) ∧ σ' = σ)) → Q r σ') : wp_except Q p1 p2 p3 p4 σ := by
  have hc : 0 ≤ (σ.1 1).toInt ∧ (σ.1 1).toInt ≤ 50 := hM.1 1
  have hb : 0 ≤ (σ.1 25).toInt ∧ (σ.1 25).toInt ≤ 4 := hM.1 25
  have hno : ¬ okE (σ.1 1).toInt p1 p2 p3 p4 → b_except_52 Q σ := fun h => hq _ _ hM hS hL Eo.rfl (Or.inr ⟨Or.inl ⟨h, rfl⟩, rfl⟩)
  have h54 : okE (σ.1 1).toInt p1 p2 p3 p4 → b_except_54 Q p1 p2 p3 p4 σ := by
    intro ok
    unfold b_except_54
    refine ⟨fun h6 => ⟨⟨by omega, by omega⟩, ⟨hb.1, show (σ.1 25).toInt < 4 by omega⟩, ⟨hb.1, show (σ.1 25).toInt < 4 by omega⟩, ⟨hb.1, show (σ.1 25).toInt < 4 by omega⟩, ?_⟩, fun h6 => hq _ _ hM hS hL Eo.rfl (Or.inr ⟨Or.inr ⟨ok, by omega, rfl⟩, rfl⟩)⟩
    have t : (σ.1 25 + 1).toInt = (σ.1 25).toInt + 1 := i3_addc rfl rfl rfl (by have e9 : (1 : Int32).toInt = 1 := rfl; omega)
    have hz : ∀ z : VS, z = sf (sa (sa (sa (sa σ 26 (σ.1 25) p1) 27 (σ.1 25) p2) 28 (σ.1 25) p3) 29 (σ.1 25) p4) 25 (σ.1 25 + 1) → Q (z.1 25 - 1) z := by
      intro z hz
      have ok' := ok
      unfold okE mayB at ok'
      have hMz : MI z := by
        rw [hz]
        exact ((((hM.sa 26 _ _ (show 0 ≤ p1.toInt ∧ p1.toInt ≤ 4 by omega)).sa 27 _ _ (show -1 ≤ p2.toInt ∧ p2.toInt ≤ 49 by omega)).sa 28 _ _ (show -1 ≤ p3.toInt ∧ p3.toInt ≤ 49 by omega)).sa 29 _ _ (show -1 ≤ p4.toInt ∧ p4.toInt ≤ 49 by omega)).sf 25 _ (show 0 ≤ (σ.1 25 + 1).toInt ∧ (σ.1 25 + 1).toInt ≤ 4 by omega)
      have e : Eo [25] [26, 27, 28, 29] σ z := by
        rw [hz]
        exact ((((Eo.rfl.sa 26 _ _ (by decide)).sa 27 _ _ (by decide)).sa 28 _ _ (by decide)).sa 29 _ _ (by decide)).sf 25 _ (by decide)
      exact hq _ _ hMz (hS.same e (by decide)) (hL.same e (by decide)) e (Or.inl ⟨ok, by omega, by rw [i3_subc (na := (σ.1 25).toInt + 1) (nb := 1) (by rw [hz, sf_same]; exact t) (by decide) rfl (by omega)]; omega, by rw [hz, sf_same]; exact t⟩)
    exact hz _ rfl
  have h14 : (p1.toInt = 0 ∨ (2 ≤ p1.toInt ∧ p1.toInt ≤ 4)) → b_except_14 Q p1 p2 p3 p4 σ := by
    intro h1
    unfold b_except_14
    refine mayBe_x hc.1 (fun a => ⟨fun z => absurd z (by decide), fun _ => ?_⟩) (fun a => ⟨fun _ => hno (fun h => a h.2.1), fun z => absurd rfl z⟩)
    refine mayBe_x hc.1 (fun b => ⟨fun z => absurd z (by decide), fun _ => ?_⟩) (fun a => ⟨fun _ => hno (fun h => a h.2.2.1), fun z => absurd rfl z⟩)
    refine mayBe_x hc.1 (fun c => ⟨fun z => absurd z (by decide), fun _ => ?_⟩) (fun a => ⟨fun _ => hno (fun h => a h.2.2.2.1), fun z => absurd rfl z⟩)
    exact ⟨fun d => h54 ⟨h1, a, b, c, Or.inl d⟩, fun d => ⟨fun d2 => h54 ⟨h1, a, b, c, Or.inr (Or.inl d2)⟩, fun d2 => ⟨fun d3 => h54 ⟨h1, a, b, c, Or.inr (Or.inr d3)⟩, fun d3 => hno (fun h => by have := h.2.2.2.2; omega)⟩⟩⟩
  unfold wp_except
  exact ⟨fun h => h14 (Or.inl h), fun h => ⟨fun k => hno (fun o => by have := o.1; omega), fun k => ⟨fun k2 => hno (fun o => by have := o.1; omega), fun k2 => h14 (Or.inr ⟨k, k2⟩)⟩⟩⟩
theorem ca_except {Q : Int32 → VS → Prop} {p1 p2 p3 p4 : Int32} {σ : VS} (hM : CI σ) (hC : CSrc σ) (hq : ∀ (r : Int32) (σ' : VS), CI σ' → CSrc σ' → Eo [0, 1, 6] [31, 32, 33, 34, 35] σ σ' → ((okE (σ.1 2).toInt p1 p2 p3 p4 ∧ (σ.1 6).toInt < 4 ∧ r.toInt = (σ.1 6).toInt ∧ (σ'.1 6).toInt = (σ.1 6).toInt + 1) ∨ (((¬ okE (σ.1 2).toInt p1 p2 p3 p4 ∧ r.toInt = -1) ∨ (okE (σ.1 2).toInt p1 p2 p3 p4 ∧ ¬ (σ.1 6).toInt < 4 ∧ r.toInt = -3)) ∧ σ' = σ)) → Q r σ') : wp_X9except Q p1 p2 p3 p4 σ := by
  have hc : 0 ≤ (σ.1 2).toInt ∧ (σ.1 2).toInt ≤ 50 := hM.1 2
  have hb : 0 ≤ (σ.1 6).toInt ∧ (σ.1 6).toInt ≤ 4 := hM.1 6
  have e2 : (2 : Int32).toInt = 2 := rfl
  have e4 : (4 : Int32).toInt = 4 := rfl
  have hno : ¬ okE (σ.1 2).toInt p1 p2 p3 p4 → b_X9except_38 Q σ := fun h => hq _ _ hM hC Eo.rfl (Or.inr ⟨Or.inl ⟨h, rfl⟩, rfl⟩)
  have h58 : okE (σ.1 2).toInt p1 p2 p3 p4 → b_X9except_58 Q p1 p2 p3 p4 σ := by
    intro ok
    have ok' := ok
    unfold okE mayB at ok'
    unfold b_X9except_58 wp_X9forget wp_X3addRule
    refine ⟨fun h6 x1 ex => ?_, fun h6 => hq _ _ hM hC Eo.rfl (Or.inr ⟨Or.inr ⟨ok, by omega, rfl⟩, rfl⟩)⟩
    have t : (σ.1 6 + 1).toInt = (σ.1 6).toInt + 1 := i3_addc rfl rfl rfl (by have e9 : (1 : Int32).toInt = 1 := rfl; omega)
    have hf6 : (fg σ).1 6 = σ.1 6 := (fg_eo σ).1 6 (by decide)
    have ex' : x1 = (fg σ).1 6 := ex
    have hx : x1.toInt = (σ.1 6).toInt := by rw [ex', hf6]
    refine ⟨⟨by omega, by omega⟩, ⟨by omega, by omega⟩, ⟨by omega, by omega⟩, ⟨by omega, by omega⟩, ?_⟩
    show wp_X3spreadBits _ (sa (sa (sa (sa (sf (fg σ) 6 ((fg σ).1 6 + 1)) 31 x1 p1) 32 x1 p2) 33 x1 p3) 34 x1 p4)
    rw [hf6]
    refine rg_X3spreadBits ((((((fg_ci hM).sf 6 _ (show 0 ≤ (σ.1 6 + 1).toInt ∧ (σ.1 6 + 1).toInt ≤ 4 by omega)).sa 31 _ _ (show 0 ≤ p1.toInt ∧ p1.toInt ≤ 4 by omega)).sa 32 _ _ (show -1 ≤ p2.toInt ∧ p2.toInt ≤ 49 by omega)).sa 33 _ _ (show -1 ≤ p3.toInt ∧ p3.toInt ≤ 49 by omega)).sa 34 _ _ (show -1 ≤ p4.toInt ∧ p4.toInt ≤ 49 by omega)) (fun τ hMt hEt => ?_)
    have e : Eo [0, 1, 6] [31, 32, 33, 34, 35] σ τ := ((((((((fg_eo σ).mono (by decide) (by decide)).sf 6 _ (by decide)).sa 31 _ _ (by decide)).sa 32 _ _ (by decide)).sa 33 _ _ (by decide)).sa 34 _ _ (by decide))).of hEt (by decide) (by decide)
    have k6 : τ.1 6 = σ.1 6 + 1 := by
      rw [hEt.1 6 (by decide)]
      show (sf (fg σ) 6 (σ.1 6 + 1)).1 6 = _
      rw [sf_same]
    exact hq _ _ hMt (hC.same e (by decide)) e (Or.inl ⟨ok, by omega, hx, by rw [k6]; exact t⟩)
  have h13 : (p1.toInt = 0 ∨ (2 ≤ p1.toInt ∧ p1.toInt ≤ 4)) → b_X9except_13 Q p1 p2 p3 p4 σ := by
    intro h1
    unfold b_X9except_13
    refine xany_x hc.1 (fun a => ⟨fun z => absurd z (by decide), fun _ => ?_⟩) (fun a => ⟨fun _ => hno (fun h => a h.2.1), fun z => absurd rfl z⟩)
    refine xany_x hc.1 (fun b => ⟨fun z => absurd z (by decide), fun _ => ?_⟩) (fun a => ⟨fun _ => hno (fun h => a h.2.2.1), fun z => absurd rfl z⟩)
    refine xany_x hc.1 (fun c => ⟨fun _ => ?_, fun z => absurd z (by decide)⟩) (fun a => ⟨fun z => absurd rfl z, fun _ => hno (fun h => a h.2.2.2.1)⟩)
    exact ⟨fun d => h58 ⟨h1, a, b, c, by unfold mayB at a; omega⟩, fun d => ⟨fun d2 => h58 ⟨h1, a, b, c, by unfold mayB at b; omega⟩, fun d2 => ⟨fun d3 => h58 ⟨h1, a, b, c, by unfold mayB at c; omega⟩, fun d3 => hno (fun h => by have := h.2.2.2.2; omega)⟩⟩⟩
  unfold wp_X9except
  exact ⟨fun h => h13 (Or.inl h), fun h => xwithin_x (fun k => ⟨fun z => absurd z (by decide), fun _ => h13 (Or.inr (by omega))⟩) (fun k => ⟨fun _ => hno (fun o => by have := o.1; omega), fun z => absurd rfl z⟩)⟩
theorem pe_period {p1 : Int32} {σ τ : VS} (J : Jn σ τ) : wp_X9period (fun r σ' => wp_period (fun r2 τ' => r = r2 ∧ Jn σ' τ') p1 τ) p1 σ := by
  obtain ⟨hM, hC, hM2, hS, hL, k1, k2, k3, k4⟩ := J
  refine ca_period hM hC (fun r σ' a1 a2 e a => ra_period hS hM2 hL (fun r2 τ' b1 b2 b3 f b => ?_))
  have L1 : σ'.1 2 = τ'.1 1 := by rw [e.1 2 (by decide), f.1 1 (by decide)]; exact k1
  have L2 : σ'.1 5 = τ'.1 21 := by rw [e.1 5 (by decide), f.1 21 (by decide)]; exact k2
  have L3 : σ'.1 6 = τ'.1 25 := by rw [e.1 6 (by decide), f.1 25 (by decide)]; exact k3
  rcases a with ⟨q1, q3, q2⟩ | ⟨q1, q3, q2⟩ <;> rcases b with ⟨w1, w3, w2⟩ | ⟨w1, w3, w2⟩
  · exact ⟨by rw [q3, w3]; exact k4, a1, a2, b1, b2, b3, L1, L2, L3, by rw [q2, w2]⟩
  · exact absurd q1 w1
  · exact absurd w1 q1
  · exact ⟨by rw [q3, w3], a1, a2, b1, b2, b3, L1, L2, L3, by rw [q2, w2]; exact k4⟩
theorem pe_unexcept {σ τ : VS} (J : Jn σ τ) : wp_X9unexcept (fun r σ' => wp_unexcept (fun r2 τ' => r = r2 ∧ Jn σ' τ') τ) σ := by
  obtain ⟨hM, hC, hM2, hS, hL, k1, k2, k3, k4⟩ := J
  refine ca_unexcept hM hC (fun r σ' a1 a2 e a => ra_unexcept hS hM2 hL (fun r2 τ' b1 b2 b3 f b => ?_))
  have L1 : σ'.1 2 = τ'.1 1 := by rw [e.1 2 (by decide), f.1 1 (by decide)]; exact k1
  have L2 : σ'.1 5 = τ'.1 21 := by rw [e.1 5 (by decide), f.1 21 (by decide)]; exact k2
  have L4 : σ'.1 4 = τ'.1 20 := by rw [e.1 4 (by decide), f.1 20 (by decide)]; exact k4
  rw [k3] at a
  rcases a with ⟨q1, q3, q2⟩ | ⟨q1, q3, q2⟩ <;> rcases b with ⟨w1, w3, w2⟩ | ⟨w1, w3, w2⟩
  · exact ⟨by rw [q3, w3], a1, a2, b1, b2, b3, L1, L2, ti_inj (by omega), L4⟩
  · exact absurd q1 w1
  · exact absurd w1 q1
  · exact ⟨by rw [q3, w3], a1, a2, b1, b2, b3, L1, L2, by rw [q2, w2]; exact k3, L4⟩
theorem pe_node {p1 p2 p3 : Int32} {σ τ : VS} (J : Jn σ τ) : wp_X9node (fun r σ' => wp_node (fun r2 τ' => r = r2 ∧ Jn σ' τ') p1 p2 p3 τ) p1 p2 p3 σ := by
  obtain ⟨hM, hC, hM2, hS, hL, k1, k2, k3, k4⟩ := J
  refine ca_node hM hC (fun r σ' a1 a2 e a => ra_node hS hM2 hL (fun r2 τ' b1 b2 b3 f b => ?_))
  have L1 : σ'.1 2 = τ'.1 1 := by rw [e.1 2 (by decide), f.1 1 (by decide)]; exact k1
  have L3 : σ'.1 6 = τ'.1 25 := by rw [e.1 6 (by decide), f.1 25 (by decide)]; exact k3
  have L4 : σ'.1 4 = τ'.1 20 := by rw [e.1 4 (by decide), f.1 20 (by decide)]; exact k4
  rw [k2] at a
  rcases a with ⟨q1, q2, q4, q3⟩ | ⟨q1, q2⟩ <;> rcases b with ⟨w1, w2, w4, w3⟩ | ⟨w1, w2⟩
  · exact ⟨ti_inj (by omega), a1, a2, b1, b2, b3, L1, ti_inj (by omega), L3, L4⟩
  · rcases w1 with w1 | w1
    · exact absurd q1 w1.1
    · exact absurd q2 w1.2.1
  · rcases q1 with q1 | q1
    · exact absurd w1 q1.1
    · exact absurd w2 q1.2.1
  · refine ⟨?_, a1, a2, b1, b2, b3, L1, by rw [q2, w2]; exact k2, L3, L4⟩
    rcases q1 with q1 | q1 <;> rcases w1 with w1 | w1
    · exact ti_inj (by omega)
    · exact absurd w1.1 q1.1
    · exact absurd q1.1 w1.1
    · exact ti_inj (by omega)
theorem pe_except {p1 p2 p3 p4 : Int32} {σ τ : VS} (J : Jn σ τ) : wp_X9except (fun r σ' => wp_except (fun r2 τ' => r = r2 ∧ Jn σ' τ') p1 p2 p3 p4 τ) p1 p2 p3 p4 σ := by
  obtain ⟨hM, hC, hM2, hS, hL, k1, k2, k3, k4⟩ := J
  refine ca_except hM hC (fun r σ' a1 a2 e a => ra_except hS hM2 hL (fun r2 τ' b1 b2 b3 f b => ?_))
  have L1 : σ'.1 2 = τ'.1 1 := by rw [e.1 2 (by decide), f.1 1 (by decide)]; exact k1
  have L2 : σ'.1 5 = τ'.1 21 := by rw [e.1 5 (by decide), f.1 21 (by decide)]; exact k2
  have L4 : σ'.1 4 = τ'.1 20 := by rw [e.1 4 (by decide), f.1 20 (by decide)]; exact k4
  rw [k1, k3] at a
  rcases a with ⟨q1, q2, q4, q3⟩ | ⟨q1, q2⟩ <;> rcases b with ⟨w1, w2, w4, w3⟩ | ⟨w1, w2⟩
  · exact ⟨ti_inj (by omega), a1, a2, b1, b2, b3, L1, L2, ti_inj (by omega), L4⟩
  · rcases w1 with w1 | w1
    · exact absurd q1 w1.1
    · exact absurd q2 w1.2.1
  · rcases q1 with q1 | q1
    · exact absurd w1 q1.1
    · exact absurd w2 q1.2.1
  · refine ⟨?_, a1, a2, b1, b2, b3, L1, L2, by rw [q2, w2]; exact k3, L4⟩
    rcases q1 with q1 | q1 <;> rcases w1 with w1 | w1
    · exact ti_inj (by omega)
    · exact absurd w1.1 q1.1
    · exact absurd q1.1 w1.1
    · exact ti_inj (by omega)
