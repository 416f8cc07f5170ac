theorem cell_x {Q : Int32 → VS → Prop} {p1 : Int32} {σ : VS} (h1 : 0 ≤ p1.toInt ∧ p1.toInt < (σ.1 1).toInt → Q 1 σ) (h0 : ¬ (0 ≤ p1.toInt ∧ p1.toInt < (σ.1 1).toInt) → Q 0 σ) : wp_isCell Q p1 σ := by
  unfold wp_isCell b_isCell_16 b_isCell_17
  exact ⟨fun h => ⟨⟨by decide, by decide⟩, h0 (by omega)⟩, fun h => ⟨fun k => ⟨⟨by decide, by decide⟩, h0 (by omega)⟩, fun k => ⟨⟨by decide, by decide⟩, h1 ⟨h, k⟩⟩⟩⟩
def mayB (n : Int) (p : Int32) : Prop := -1 ≤ p.toInt ∧ p.toInt < n
theorem mayBe_x {Q : Int32 → VS → Prop} {p1 : Int32} {σ : VS} (hc : 0 ≤ (σ.1 1).toInt) (h1 : mayB (σ.1 1).toInt p1 → Q 1 σ) (h0 : ¬ mayB (σ.1 1).toInt p1 → Q 0 σ) : wp_mayBe Q p1 σ := by
  unfold mayB at h1 h0
  unfold wp_mayBe b_mayBe_13 b_mayBe_18
  exact ⟨fun h => ⟨⟨by decide, by decide⟩, h1 (by omega)⟩, fun h => cell_x (fun k => ⟨fun z => absurd z (by decide), fun _ => ⟨⟨by decide, by decide⟩, h1 (by omega)⟩⟩) (fun k => ⟨fun _ => ⟨⟨by decide, by decide⟩, h0 (by omega)⟩, fun z => absurd rfl z⟩)⟩
theorem rs_count {Q : Int32 → VS → Prop} {p1 : Int32} {σ : VS} (hq : ∀ (r : Int32), ((p1.toInt = 0 ∧ r = σ.1 1) ∨ (p1.toInt = 1 ∧ r = σ.1 21) ∨ (p1.toInt = 2 ∧ r = σ.1 25) ∨ (p1.toInt = 3 ∧ r = σ.1 20) ∨ (¬ (0 ≤ p1.toInt ∧ p1.toInt ≤ 3) ∧ r = -1)) → Q r σ) : wp_count Q p1 σ := by
  unfold wp_count b_count_48
  exact ⟨fun a => ⟨fun b => ⟨fun c => ⟨fun d => hq _ (Or.inr (Or.inr (Or.inr (Or.inr ⟨by omega, rfl⟩)))), fun d => hq _ (Or.inr (Or.inr (Or.inr (Or.inl ⟨d, rfl⟩))))⟩, fun c => hq _ (Or.inr (Or.inr (Or.inl ⟨c, rfl⟩)))⟩, fun b => hq _ (Or.inr (Or.inl ⟨b, rfl⟩))⟩, fun a => hq _ (Or.inl ⟨a, rfl⟩)⟩
theorem rs_period {Q : Int32 → VS → Prop} {p1 : Int32} {σ : VS} (hS : SI σ) (hM : MI σ) (hL : LI σ) (hq : ∀ (r : Int32) (σ' : VS), MI σ' → SI σ' → LI σ' → Eo [20] [] σ σ' → (((1 ≤ p1.toInt ∧ p1.toInt ≤ 1000000) ∧ σ'.1 20 = p1) ∨ (¬ (1 ≤ p1.toInt ∧ p1.toInt ≤ 1000000) ∧ σ' = σ)) → Q r σ') : wp_period Q p1 σ := by
  unfold wp_period b_period_11
  refine ⟨fun h => hq _ _ hM hS hL Eo.rfl (Or.inr ⟨by omega, rfl⟩), fun h => ⟨fun k x _ => ?_, fun h => hq _ _ hM hS hL Eo.rfl (Or.inr ⟨by omega, rfl⟩)⟩⟩
  have e : Eo [20] [] σ (sf σ 20 p1) := Eo.rfl.sf 20 _ (by decide)
  exact hq x _ (hM.sf 20 _ ⟨h, k⟩) (hS.same e (by decide)) (hL.same e (by decide)) e (Or.inl ⟨⟨h, k⟩, sf_same _ _ _⟩)
theorem rs_unexcept {Q : Int32 → VS → Prop} {σ : VS} (hS : SI σ) (hM : MI σ) (hL : LI σ) (hq : ∀ (r : Int32) (σ' : VS), MI σ' → SI σ' → LI σ' → Eo [25] [] σ σ' → ((0 < (σ.1 25).toInt ∧ (σ'.1 25).toInt = (σ.1 25).toInt - 1) ∨ (¬ 0 < (σ.1 25).toInt ∧ σ' = σ)) → Q r σ') : wp_unexcept Q σ := by
  have hb : 0 ≤ (σ.1 25).toInt ∧ (σ.1 25).toInt ≤ 4 := hM.1 25
  unfold wp_unexcept
  refine ⟨fun h => ?_, fun h => hq _ _ hM hS hL Eo.rfl (Or.inr ⟨by omega, rfl⟩)⟩
  have t : (σ.1 25 - 1).toInt = (σ.1 25).toInt - 1 := i3_subc rfl rfl rfl (by have e9 : (1 : Int32).toInt = 1 := rfl; omega)
  have e : Eo [25] [] σ (sf σ 25 (σ.1 25 - 1)) := Eo.rfl.sf 25 _ (by decide)
  exact hq _ _ (hM.sf 25 _ (show 0 ≤ (σ.1 25 - 1).toInt ∧ (σ.1 25 - 1).toInt ≤ 4 by omega)) (hS.same e (by decide)) (hL.same e (by decide)) e (Or.inl ⟨by omega, by rw [sf_same]; exact t⟩)
def okN (n : Int) (p1 p2 p3 : Int32) : Prop := (-1 ≤ p1.toInt ∧ p1.toInt < n) ∧ 0 ≤ p2.toInt ∧ p2.toInt ≤ p3.toInt ∧ p3.toInt ≤ 100000
theorem rs_node {Q : Int32 → VS → Prop} {p1 p2 p3 : Int32} {σ : VS} (hS : SI σ) (hM : MI σ) (hL : LI σ) (hq : ∀ (r : Int32) (σ' : VS), MI σ' → SI σ' → LI σ' → Eo [21] [22, 23, 24] σ σ' → ((okN (σ.1 21).toInt p1 p2 p3 ∧ (σ.1 21).toInt < 20 ∧ (σ'.1 21).toInt = (σ.1 21).toInt + 1) ∨ (¬ (okN (σ.1 21).toInt p1 p2 p3 ∧ (σ.1 21).toInt < 20) ∧ σ' = σ)) → Q r σ') : wp_node Q p1 p2 p3 σ := by
  have hb : 0 ≤ (σ.1 21).toInt ∧ (σ.1 21).toInt ≤ 20 := hM.1 21
  have hno : ¬ okN (σ.1 21).toInt p1 p2 p3 → b_node_28 Q σ := fun h => hq _ _ hM hS hL Eo.rfl (Or.inr ⟨fun k => h k.1, rfl⟩)
  unfold okN at hno hq
  unfold wp_node
  refine ⟨fun h => hno (by omega), fun h1 => ⟨fun h => hno (by omega), fun h2 => ⟨fun h => hno (by omega), fun h3 => ⟨fun h => hno (by omega), fun h4 => ⟨fun h5 => ⟨fun h6 => ⟨⟨by omega, by omega⟩, ⟨hb.1, show (σ.1 21).toInt < 20 by omega⟩, ⟨hb.1, show (σ.1 21).toInt < 20 by omega⟩, ?_⟩, fun h6 => hq _ _ hM hS hL Eo.rfl (Or.inr ⟨fun k => by omega, rfl⟩)⟩, fun h => hno (by omega)⟩⟩⟩⟩⟩
  obtain ⟨n, hn⟩ : ∃ n : Nat, (σ.1 21).toInt = (n : Int) := ⟨(σ.1 21).toInt.toNat, by omega⟩
  have t : (σ.1 21 + 1).toInt = (σ.1 21).toInt + 1 := i3_addc rfl rfl rfl (by have e9 : (1 : Int32).toInt = 1 := rfl; omega)
  have hz : ∀ z : VS, z = sf (sa (sa (sa σ 22 (σ.1 21) p1) 23 (σ.1 21) p2) 24 (σ.1 21) p3) 21 (σ.1 21 + 1) → Q (z.1 21 - 1) z := by
    intro z hz
    have hMz : MI z := by
      rw [hz]
      exact (((hM.sa 22 _ _ (show -1 ≤ p1.toInt ∧ p1.toInt ≤ 19 by omega)).sa 23 _ p2 (i3_bd _)).sa 24 _ p3 (i3_bd _)).sf 21 _ (show 0 ≤ (σ.1 21 + 1).toInt ∧ (σ.1 21 + 1).toInt ≤ 20 by omega)
    have e : Eo [21] [22, 23, 24] σ z := by
      rw [hz]
      exact (((Eo.rfl.sa 22 _ _ (by decide)).sa 23 _ _ (by decide)).sa 24 _ _ (by decide)).sf 21 _ (by decide)
    have z21 : (z.1 21).toInt = (n : Int) + 1 := by rw [hz, sf_same]; omega
    have z22 : ∀ j, z.2.1 22 j = if j = n then p1 else σ.2.1 22 j := fun j => by
      rw [hz]
      show (sa (sa (sa σ 22 (σ.1 21) p1) 23 (σ.1 21) p2) 24 (σ.1 21) p3).2.1 22 j = _
      rw [sa_other (by decide), sa_other (by decide), sa_at σ 22 _ _ hn]
    have hSz : SI z := by
      obtain ⟨a, b, c, d, f⟩ := hS
      refine ⟨?_, fun j hj => ?_, fun q hq => ?_, ?_, ?_⟩
      · unfold Tk; rw [e.1 1 (by decide), e.2 7 (by decide)]; exact a
      · rw [z22]
        by_cases k : j = n
        · rw [if_pos k]; omega
        · rw [if_neg k]; exact b j (by omega)
      · rw [e.1 1 (by decide)] at hq
        rw [e.2 11 (by decide)]
        have := c q hq
        omega
      · unfold Kd Ip; rw [e.1 1 (by decide), e.2 2 (by decide), e.2 3 (by decide)]; exact d
      · unfold Acy gate Kd Ip Tk; rw [e.1 1 (by decide), e.2 2 (by decide), e.2 3 (by decide), e.2 7 (by decide)]; exact f
    exact hq _ _ hMz hSz (hL.same e (by decide)) e (Or.inl ⟨by omega, by omega, by omega⟩)
  exact hz _ rfl
theorem rs_target {Q : Int32 → VS → Prop} {p1 p2 p3 p4 : Int32} {σ : VS} (hS : SI σ) (hM : MI σ) (hL : LI σ) (hq : ∀ (r : Int32) (σ' : VS), MI σ' → SI σ' → LI σ' → Eo [] [11, 12, 13] σ σ' → Q r σ') : wp_target Q p1 p2 p3 p4 σ := by
  have hc : 0 ≤ (σ.1 1).toInt ∧ (σ.1 1).toInt ≤ 50 := hM.1 1
  have hb : 0 ≤ (σ.1 21).toInt ∧ (σ.1 21).toInt ≤ 20 := hM.1 21
  have hno : b_target_65 Q σ := hq _ _ hM hS hL Eo.rfl
  unfold wp_target
  refine cell_x (fun k => ⟨fun z => absurd z (by decide), fun _ => ?_⟩) (fun k => ⟨fun _ => hno, fun z => absurd rfl z⟩)
  obtain ⟨n, hn⟩ : ∃ n : Nat, p1.toInt = (n : Int) := ⟨p1.toInt.toNat, by omega⟩
  refine ⟨fun _ => hno, fun h1 => ⟨fun _ => hno, fun h2 => ⟨fun _ => hno, fun h3 => ⟨fun _ => hno, fun h4 => ⟨fun _ => hno, fun h5 => ⟨fun _ => hno, fun h6 => ⟨⟨by omega, by omega⟩, ?_⟩⟩⟩⟩⟩⟩⟩
  have h67 : b_target_67 Q p1 p2 p3 p4 σ := by
    unfold b_target_67
    refine isTarget_s hn (by omega) (fun _ => ⟨fun _ => ⟨⟨by omega, by omega⟩, ⟨by omega, by omega⟩, ⟨by omega, by omega⟩, ?_⟩, fun z => absurd z (by decide)⟩) (fun _ => ⟨fun z => absurd rfl z, fun _ => hq _ _ hM hS hL Eo.rfl⟩)
    obtain ⟨z, hz⟩ : ∃ z : VS, z = sa (sa (sa σ 11 p1 p2) 12 p1 p3) 13 p1 p4 := ⟨_, rfl⟩
    rw [← hz]
    have hMz : MI z := by
      rw [hz]
      exact ((hM.sa 11 _ _ (show -1 ≤ p2.toInt ∧ p2.toInt ≤ 19 by omega)).sa 12 _ _ (show -10000 ≤ p3.toInt ∧ p3.toInt ≤ 10000 by omega)).sa 13 _ _ (show -10000 ≤ p4.toInt ∧ p4.toInt ≤ 10000 by omega)
    have e : Eo [] [11, 12, 13] σ z := by
      rw [hz]
      exact ((Eo.rfl.sa 11 _ _ (by decide)).sa 12 _ _ (by decide)).sa 13 _ _ (by decide)
    have z11 : ∀ j, z.2.1 11 j = if j = n then p2 else σ.2.1 11 j := fun j => by
      rw [hz, sa_other (by decide), sa_other (by decide), sa_at σ 11 _ _ hn]
    have hSz : SI z := by
      obtain ⟨a, b, c, d, f⟩ := hS
      refine ⟨?_, ?_, fun q hq => ?_, ?_, ?_⟩
      · unfold Tk; rw [e.1 1 (by decide), e.2 7 (by decide)]; exact a
      · rw [e.1 21 (by decide), e.2 22 (by decide)]; exact b
      · rw [e.1 1 (by decide)] at hq
        rw [z11, e.1 21 (by decide)]
        by_cases k : q = n
        · rw [if_pos k]; exact h2
        · rw [if_neg k]; exact c q hq
      · unfold Kd Ip; rw [e.1 1 (by decide), e.2 2 (by decide), e.2 3 (by decide)]; exact d
      · unfold Acy gate Kd Ip Tk; rw [e.1 1 (by decide), e.2 2 (by decide), e.2 3 (by decide), e.2 7 (by decide)]; exact f
    exact hq _ _ hMz hSz (hL.same e (by decide)) e
  exact ⟨fun _ => h67, fun _ => ⟨fun _ => h67, fun _ => hno⟩⟩
def okE (n : Int) (p1 p2 p3 p4 : Int32) : Prop := (p1.toInt = 0 ∨ (2 ≤ p1.toInt ∧ p1.toInt ≤ 4)) ∧ mayB n p2 ∧ mayB n p3 ∧ mayB n p4 ∧ (0 ≤ p2.toInt ∨ 0 ≤ p3.toInt ∨ 0 ≤ p4.toInt)
theorem rs_except {Q : Int32 → VS → Prop} {p1 p2 p3 p4 : Int32} {σ : VS} (hS : SI σ) (hM : MI σ) (hL : LI σ) (hq : ∀ (r : Int32) (σ' : VS), MI σ' → SI σ' → LI σ' → Eo [25] [26, 27, 28, 29] σ σ' → ((okE (σ.1 1).toInt p1 p2 p3 p4 ∧ (σ.1 25).toInt < 4 ∧ (σ'.1 25).toInt = (σ.1 25).toInt + 1) ∨ (¬ (okE (σ.1 1).toInt p1 p2 p3 p4 ∧ (σ.1 25).toInt < 4) ∧ σ' = σ)) → Q r σ') : wp_except Q p1 p2 p3 p4 σ := by
  have hc : 0 ≤ (σ.1 1).toInt ∧ (σ.1 1).toInt ≤ 50 := hM.1 1
  have hb : 0 ≤ (σ.1 25).toInt ∧ (σ.1 25).toInt ≤ 4 := hM.1 25
  have hno : ¬ okE (σ.1 1).toInt p1 p2 p3 p4 → b_except_52 Q σ := fun h => hq _ _ hM hS hL Eo.rfl (Or.inr ⟨fun k => h k.1, rfl⟩)
  have h54 : okE (σ.1 1).toInt p1 p2 p3 p4 → b_except_54 Q p1 p2 p3 p4 σ := by
    intro ok
    unfold b_except_54
    refine ⟨fun h6 => ⟨⟨by omega, by omega⟩, ⟨hb.1, show (σ.1 25).toInt < 4 by omega⟩, ⟨hb.1, show (σ.1 25).toInt < 4 by omega⟩, ⟨hb.1, show (σ.1 25).toInt < 4 by omega⟩, ?_⟩, fun h6 => hq _ _ hM hS hL Eo.rfl (Or.inr ⟨fun k => by have := k.2; omega, rfl⟩)⟩
    have t : (σ.1 25 + 1).toInt = (σ.1 25).toInt + 1 := i3_addc rfl rfl rfl (by have e9 : (1 : Int32).toInt = 1 := rfl; omega)
    have hz : ∀ z : VS, z = sf (sa (sa (sa (sa σ 26 (σ.1 25) p1) 27 (σ.1 25) p2) 28 (σ.1 25) p3) 29 (σ.1 25) p4) 25 (σ.1 25 + 1) → Q (z.1 25 - 1) z := by
      intro z hz
      have ok' := ok
      unfold okE mayB at ok'
      have hMz : MI z := by
        rw [hz]
        exact ((((hM.sa 26 _ _ (show 0 ≤ p1.toInt ∧ p1.toInt ≤ 4 by omega)).sa 27 _ _ (show -1 ≤ p2.toInt ∧ p2.toInt ≤ 49 by omega)).sa 28 _ _ (show -1 ≤ p3.toInt ∧ p3.toInt ≤ 49 by omega)).sa 29 _ _ (show -1 ≤ p4.toInt ∧ p4.toInt ≤ 49 by omega)).sf 25 _ (show 0 ≤ (σ.1 25 + 1).toInt ∧ (σ.1 25 + 1).toInt ≤ 4 by omega)
      have e : Eo [25] [26, 27, 28, 29] σ z := by
        rw [hz]
        exact ((((Eo.rfl.sa 26 _ _ (by decide)).sa 27 _ _ (by decide)).sa 28 _ _ (by decide)).sa 29 _ _ (by decide)).sf 25 _ (by decide)
      exact hq _ _ hMz (hS.same e (by decide)) (hL.same e (by decide)) e (Or.inl ⟨ok, by omega, by rw [hz, sf_same]; exact t⟩)
    exact hz _ rfl
  have h14 : (p1.toInt = 0 ∨ (2 ≤ p1.toInt ∧ p1.toInt ≤ 4)) → b_except_14 Q p1 p2 p3 p4 σ := by
    intro h1
    unfold b_except_14
    refine mayBe_x hc.1 (fun a => ⟨fun z => absurd z (by decide), fun _ => ?_⟩) (fun a => ⟨fun _ => hno (fun h => a h.2.1), fun z => absurd rfl z⟩)
    refine mayBe_x hc.1 (fun b => ⟨fun z => absurd z (by decide), fun _ => ?_⟩) (fun a => ⟨fun _ => hno (fun h => a h.2.2.1), fun z => absurd rfl z⟩)
    refine mayBe_x hc.1 (fun c => ⟨fun z => absurd z (by decide), fun _ => ?_⟩) (fun a => ⟨fun _ => hno (fun h => a h.2.2.2.1), fun z => absurd rfl z⟩)
    exact ⟨fun d => h54 ⟨h1, a, b, c, Or.inl d⟩, fun d => ⟨fun d2 => h54 ⟨h1, a, b, c, Or.inr (Or.inl d2)⟩, fun d2 => ⟨fun d3 => h54 ⟨h1, a, b, c, Or.inr (Or.inr d3)⟩, fun d3 => hno (fun h => by have := h.2.2.2.2; omega)⟩⟩⟩
  unfold wp_except
  exact ⟨fun h => h14 (Or.inl h), fun h => ⟨fun k => hno (fun o => by have := o.1; omega), fun k => ⟨fun k2 => hno (fun o => by have := o.1; omega), fun k2 => h14 (Or.inr ⟨k, k2⟩)⟩⟩⟩

