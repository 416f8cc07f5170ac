theorem sa_get (σ : VS) (k : Nat) (i v : Int32) (k2 : Nat) : (sa σ k i v).2.1 k2 = if k2 = k then (fun j => if j = i.toNatClampNeg then v else σ.2.1 k j) else σ.2.1 k2 := by
  by_cases h : k2 = k
  · rw [if_pos h, h]; funext j; rw [sa_same]
  · rw [if_neg h, sa_other h]
theorem sf_get (σ : VS) (k : Nat) (v : Int32) (k2 : Nat) : (sf σ k v).2.1 k2 = σ.2.1 k2 := rfl
theorem fg_get (σ : VS) (k2 : Nat) : (fg σ).2.1 k2 = σ.2.1 k2 := rfl
theorem rx_except {Q : Int32 → VS → Prop} {p1 p2 p3 p4 : Int32} {σ : VS} (hS : SI σ) (hM : MI σ) (hL : LI σ) (hq : ∀ (r : Int32) (σ' : VS), MI σ' → SI σ' → LI σ' → Eo [25] [26, 27, 28, 29] σ σ' → ((okE (σ.1 1).toInt p1 p2 p3 p4 ∧ (σ.1 25).toInt < 4 ∧ (σ'.1 25).toInt = (σ.1 25).toInt + 1 ∧ σ'.2.1 26 = (sa σ 26 (σ.1 25) p1).2.1 26 ∧ σ'.2.1 27 = (sa σ 27 (σ.1 25) p2).2.1 27 ∧ σ'.2.1 28 = (sa σ 28 (σ.1 25) p3).2.1 28 ∧ σ'.2.1 29 = (sa σ 29 (σ.1 25) p4).2.1 29) ∨ (¬ (okE (σ.1 1).toInt p1 p2 p3 p4 ∧ (σ.1 25).toInt < 4) ∧ σ' = σ)) → Q r σ') : wp_except Q p1 p2 p3 p4 σ := by
  have hc : 0 ≤ (σ.1 1).toInt ∧ (σ.1 1).toInt ≤ 50 := hM.1 1
  have hb : 0 ≤ (σ.1 25).toInt ∧ (σ.1 25).toInt ≤ 4 := hM.1 25
  have hno : ¬ okE (σ.1 1).toInt p1 p2 p3 p4 → b_except_52 Q σ := fun h => hq _ _ hM hS hL Eo.rfl (Or.inr ⟨fun k => h k.1, rfl⟩)
  have h54 : okE (σ.1 1).toInt p1 p2 p3 p4 → b_except_54 Q p1 p2 p3 p4 σ := by
    intro ok
    unfold b_except_54
    refine ⟨fun h6 => ⟨⟨by omega, by omega⟩, ⟨hb.1, show (σ.1 25).toInt < 4 by omega⟩, ⟨hb.1, show (σ.1 25).toInt < 4 by omega⟩, ⟨hb.1, show (σ.1 25).toInt < 4 by omega⟩, ?_⟩, fun h6 => hq _ _ hM hS hL Eo.rfl (Or.inr ⟨fun k => by have := k.2; omega, rfl⟩)⟩
    have t : (σ.1 25 + 1).toInt = (σ.1 25).toInt + 1 := i3_addc rfl rfl rfl (by have e9 : (1 : Int32).toInt = 1 := rfl; omega)
    have hz : ∀ z : VS, z = sf (sa (sa (sa (sa σ 26 (σ.1 25) p1) 27 (σ.1 25) p2) 28 (σ.1 25) p3) 29 (σ.1 25) p4) 25 (σ.1 25 + 1) → Q (z.1 25 - 1) z := by
      intro z hz
      have ok' := ok
      unfold okE mayB at ok'
      have hMz : MI z := by
        rw [hz]
        exact ((((hM.sa 26 _ _ (show 0 ≤ p1.toInt ∧ p1.toInt ≤ 4 by omega)).sa 27 _ _ (show -1 ≤ p2.toInt ∧ p2.toInt ≤ 49 by omega)).sa 28 _ _ (show -1 ≤ p3.toInt ∧ p3.toInt ≤ 49 by omega)).sa 29 _ _ (show -1 ≤ p4.toInt ∧ p4.toInt ≤ 49 by omega)).sf 25 _ (show 0 ≤ (σ.1 25 + 1).toInt ∧ (σ.1 25 + 1).toInt ≤ 4 by omega)
      have e : Eo [25] [26, 27, 28, 29] σ z := by
        rw [hz]
        exact ((((Eo.rfl.sa 26 _ _ (by decide)).sa 27 _ _ (by decide)).sa 28 _ _ (by decide)).sa 29 _ _ (by decide)).sf 25 _ (by decide)
      exact hq _ _ hMz (hS.same e (by decide)) (hL.same e (by decide)) e (Or.inl ⟨ok, by omega, by rw [hz, sf_same]; exact t, by rw [hz]; simp [sa_get, sf_get], by rw [hz]; simp [sa_get, sf_get], by rw [hz]; simp [sa_get, sf_get], by rw [hz]; simp [sa_get, sf_get]⟩)
    exact hz _ rfl
  have h14 : (p1.toInt = 0 ∨ (2 ≤ p1.toInt ∧ p1.toInt ≤ 4)) → b_except_14 Q p1 p2 p3 p4 σ := by
    intro h1
    unfold b_except_14
    refine mayBe_x hc.1 (fun a => ⟨fun z => absurd z (by decide), fun _ => ?_⟩) (fun a => ⟨fun _ => hno (fun h => a h.2.1), fun z => absurd rfl z⟩)
    refine mayBe_x hc.1 (fun b => ⟨fun z => absurd z (by decide), fun _ => ?_⟩) (fun a => ⟨fun _ => hno (fun h => a h.2.2.1), fun z => absurd rfl z⟩)
    refine mayBe_x hc.1 (fun c => ⟨fun z => absurd z (by decide), fun _ => ?_⟩) (fun a => ⟨fun _ => hno (fun h => a h.2.2.2.1), fun z => absurd rfl z⟩)
    exact ⟨fun d => h54 ⟨h1, a, b, c, Or.inl d⟩, fun d => ⟨fun d2 => h54 ⟨h1, a, b, c, Or.inr (Or.inl d2)⟩, fun d2 => ⟨fun d3 => h54 ⟨h1, a, b, c, Or.inr (Or.inr d3)⟩, fun d3 => hno (fun h => by have := h.2.2.2.2; omega)⟩⟩⟩
  unfold wp_except
  exact ⟨fun h => h14 (Or.inl h), fun h => ⟨fun k => hno (fun o => by have := o.1; omega), fun k => ⟨fun k2 => hno (fun o => by have := o.1; omega), fun k2 => h14 (Or.inr ⟨k, k2⟩)⟩⟩⟩
theorem cx_except {Q : Int32 → VS → Prop} {p1 p2 p3 p4 : Int32} {σ : VS} (hM : CI σ) (hC : CSrc σ) (hq : ∀ (r : Int32) (σ' : VS), CI σ' → CSrc σ' → Eo [0, 1, 6] [31, 32, 33, 34, 35] σ σ' → ((okE (σ.1 2).toInt p1 p2 p3 p4 ∧ (σ.1 6).toInt < 4 ∧ (σ'.1 6).toInt = (σ.1 6).toInt + 1 ∧ σ'.2.1 31 = (sa σ 31 (σ.1 6) p1).2.1 31 ∧ σ'.2.1 32 = (sa σ 32 (σ.1 6) p2).2.1 32 ∧ σ'.2.1 33 = (sa σ 33 (σ.1 6) p3).2.1 33 ∧ σ'.2.1 34 = (sa σ 34 (σ.1 6) p4).2.1 34) ∨ (¬ (okE (σ.1 2).toInt p1 p2 p3 p4 ∧ (σ.1 6).toInt < 4) ∧ σ' = σ)) → Q r σ') : wp_X9except Q p1 p2 p3 p4 σ := by
  have hc : 0 ≤ (σ.1 2).toInt ∧ (σ.1 2).toInt ≤ 50 := hM.1 2
  have hb : 0 ≤ (σ.1 6).toInt ∧ (σ.1 6).toInt ≤ 4 := hM.1 6
  have e2 : (2 : Int32).toInt = 2 := rfl
  have e4 : (4 : Int32).toInt = 4 := rfl
  have hno : ¬ okE (σ.1 2).toInt p1 p2 p3 p4 → b_X9except_38 Q σ := fun h => hq _ _ hM hC Eo.rfl (Or.inr ⟨fun k => h k.1, rfl⟩)
  have h58 : okE (σ.1 2).toInt p1 p2 p3 p4 → b_X9except_58 Q p1 p2 p3 p4 σ := by
    intro ok
    have ok' := ok
    unfold okE mayB at ok'
    unfold b_X9except_58 wp_X9forget wp_X3addRule
    refine ⟨fun h6 x1 ex => ?_, fun h6 => hq _ _ hM hC Eo.rfl (Or.inr ⟨fun k => by have := k.2; omega, rfl⟩)⟩
    have t : (σ.1 6 + 1).toInt = (σ.1 6).toInt + 1 := i3_addc rfl rfl rfl (by have e9 : (1 : Int32).toInt = 1 := rfl; omega)
    have hf6 : (fg σ).1 6 = σ.1 6 := (fg_eo σ).1 6 (by decide)
    have ex' : x1 = (fg σ).1 6 := ex
    have hx : x1.toInt = (σ.1 6).toInt := by rw [ex', hf6]
    refine ⟨⟨by omega, by omega⟩, ⟨by omega, by omega⟩, ⟨by omega, by omega⟩, ⟨by omega, by omega⟩, ?_⟩
    show wp_X3spreadBits _ (sa (sa (sa (sa (sf (fg σ) 6 ((fg σ).1 6 + 1)) 31 x1 p1) 32 x1 p2) 33 x1 p3) 34 x1 p4)
    rw [hf6]
    refine rg_X3spreadBits ((((((fg_ci hM).sf 6 _ (show 0 ≤ (σ.1 6 + 1).toInt ∧ (σ.1 6 + 1).toInt ≤ 4 by omega)).sa 31 _ _ (show 0 ≤ p1.toInt ∧ p1.toInt ≤ 4 by omega)).sa 32 _ _ (show -1 ≤ p2.toInt ∧ p2.toInt ≤ 49 by omega)).sa 33 _ _ (show -1 ≤ p3.toInt ∧ p3.toInt ≤ 49 by omega)).sa 34 _ _ (show -1 ≤ p4.toInt ∧ p4.toInt ≤ 49 by omega)) (fun τ hMt hEt => ?_)
    have e : Eo [0, 1, 6] [31, 32, 33, 34, 35] σ τ := ((((((((fg_eo σ).mono (by decide) (by decide)).sf 6 _ (by decide)).sa 31 _ _ (by decide)).sa 32 _ _ (by decide)).sa 33 _ _ (by decide)).sa 34 _ _ (by decide))).of hEt (by decide) (by decide)
    have k6 : τ.1 6 = σ.1 6 + 1 := by
      rw [hEt.1 6 (by decide)]
      show (sf (fg σ) 6 (σ.1 6 + 1)).1 6 = _
      rw [sf_same]
    exact hq _ _ hMt (hC.same e (by decide)) e (Or.inl ⟨ok, by omega, by rw [k6]; exact t, by rw [hEt.2 31 (by decide), ex', hf6]; simp [sa_get, sf_get, fg_get], by rw [hEt.2 32 (by decide), ex', hf6]; simp [sa_get, sf_get, fg_get], by rw [hEt.2 33 (by decide), ex', hf6]; simp [sa_get, sf_get, fg_get], by rw [hEt.2 34 (by decide), ex', hf6]; simp [sa_get, sf_get, fg_get]⟩)
  have h13 : (p1.toInt = 0 ∨ (2 ≤ p1.toInt ∧ p1.toInt ≤ 4)) → b_X9except_13 Q p1 p2 p3 p4 σ := by
    intro h1
    unfold b_X9except_13
    refine xany_x hc.1 (fun a => ⟨fun z => absurd z (by decide), fun _ => ?_⟩) (fun a => ⟨fun _ => hno (fun h => a h.2.1), fun z => absurd rfl z⟩)
    refine xany_x hc.1 (fun b => ⟨fun z => absurd z (by decide), fun _ => ?_⟩) (fun a => ⟨fun _ => hno (fun h => a h.2.2.1), fun z => absurd rfl z⟩)
    refine xany_x hc.1 (fun c => ⟨fun _ => ?_, fun z => absurd z (by decide)⟩) (fun a => ⟨fun z => absurd rfl z, fun _ => hno (fun h => a h.2.2.2.1)⟩)
    exact ⟨fun d => h58 ⟨h1, a, b, c, by unfold mayB at a; omega⟩, fun d => ⟨fun d2 => h58 ⟨h1, a, b, c, by unfold mayB at b; omega⟩, fun d2 => ⟨fun d3 => h58 ⟨h1, a, b, c, by unfold mayB at c; omega⟩, fun d3 => hno (fun h => by have := h.2.2.2.2; omega)⟩⟩⟩
  unfold wp_X9except
  exact ⟨fun h => h13 (Or.inl h), fun h => xwithin_x (fun k => ⟨fun z => absurd z (by decide), fun _ => h13 (Or.inr (by omega))⟩) (fun k => ⟨fun _ => hno (fun o => by have := o.1; omega), fun z => absurd rfl z⟩)⟩
theorem dp_except {p1 p2 p3 p4 : Int32} {σ τ : VS} (J : Jn σ τ) (D : Dt σ τ) : wp_X9except (fun _ σ' => wp_except (fun _ τ' => Dt σ' τ') p1 p2 p3 p4 τ) p1 p2 p3 p4 σ := by
  obtain ⟨hM, hC, hM2, hS, hL, k1, k2, k3, k4⟩ := J
  refine cx_except hM hC (fun r σ' a1 a2 e a => rx_except hS hM2 hL (fun r2 τ' b1 b2 b3 f b => ?_))
  rw [k1, k3] at a
  rcases a with ⟨q1, q2, q3, q4⟩ | ⟨q1, q2⟩ <;> rcases b with ⟨w1, w2, w3, w4⟩ | ⟨w1, w2⟩
  · have hb : 0 ≤ (τ.1 25).toInt ∧ (τ.1 25).toInt ≤ 4 := hM2.1 25
    obtain ⟨n, hn⟩ : ∃ n : Nat, (τ.1 25).toInt = (n : Int) := ⟨(τ.1 25).toInt.toNat, by omega⟩
    obtain ⟨⟨d1, d2⟩, d3, d4, d5, d6⟩ := D
    have n1 : ∀ q ∈ cellsL, q.1 ∉ [31, 32, 33, 34, 35] ∧ q.2 ∉ [26, 27, 28, 29] := by decide
    have n2 : ∀ q ∈ freshL, q.1 ∉ [31, 32, 33, 34, 35] := by decide
    have n4 : ∀ q ∈ tabL, q.1 ∉ [31, 32, 33, 34, 35] ∧ q.2 ∉ [26, 27, 28, 29] := by decide
    have s2 : σ'.1 2 = σ.1 2 := e.1 2 (by decide)
    refine ⟨⟨by rw [e.1 7 (by decide), f.1 18 (by decide)]; exact d1, by rw [e.1 8 (by decide), f.1 19 (by decide)]; exact d2⟩, fun q hq j hj => ?_, fun q hq j hj => ?_, fun q hq j hj => ?_, fun q hq => ?_⟩
    · rw [e.2 _ (n1 q hq).1, f.2 _ (n1 q hq).2]; rw [s2] at hj; exact d3 q hq j hj
    · rw [e.2 _ (n2 q hq)]; rw [s2] at hj; exact d4 q hq j hj
    · have t6 : (σ.1 6).toInt = (n : Int) := by rw [k3]; exact hn
      have key : ∀ (k m : Nat) (v : Int32), (∀ i : Nat, (i : Int) < (σ.1 6).toInt → σ.2.1 k i = τ.2.1 m i) → (sa σ k (τ.1 25) v).2.1 k j = (sa τ m (τ.1 25) v).2.1 m j := by
        intro k m v h
        rw [sa_at σ k _ _ hn, sa_at τ m _ _ hn]
        by_cases c : j = n
        · rw [if_pos c, if_pos c]
        · rw [if_neg c, if_neg c]; exact h j (by omega)
      have hq' : q = (31, 26) ∨ q = (32, 27) ∨ q = (33, 28) ∨ q = (34, 29) := by simpa [rulesL] using hq
      rcases hq' with rfl | rfl | rfl | rfl
      · show σ'.2.1 31 j = τ'.2.1 26 j
        rw [q4.1, w4.1]; exact key 31 26 p1 (d5 (31, 26) (by decide))
      · show σ'.2.1 32 j = τ'.2.1 27 j
        rw [q4.2.1, w4.2.1]; exact key 32 27 p2 (d5 (32, 27) (by decide))
      · show σ'.2.1 33 j = τ'.2.1 28 j
        rw [q4.2.2.1, w4.2.2.1]; exact key 33 28 p3 (d5 (33, 28) (by decide))
      · show σ'.2.1 34 j = τ'.2.1 29 j
        rw [q4.2.2.2, w4.2.2.2]; exact key 34 29 p4 (d5 (34, 29) (by decide))
    · rw [e.2 _ (n4 q hq).1, f.2 _ (n4 q hq).2]; exact d6 q hq
  · exact absurd ⟨q1, q2⟩ w1
  · exact absurd ⟨w1, w2⟩ q1
  · rw [q2, w2]; exact D
def kkOk (p1 p2 kk : Int32) : Prop := ((p1.toInt = 1 ∨ p1.toInt = 2) → kk = p2) ∧ (2 < p1.toInt → kk = 1) ∧ (p1.toInt = 0 → kk = 0)
def mkM (n : Nat) (p1 kk p3 : Int32) (σ σ' : VS) : Prop := ∀ j : Nat, σ'.2.1 2 j = (if j = n then p1 else σ.2.1 2 j) ∧ σ'.2.1 3 j = (if j = n then kk else σ.2.1 3 j) ∧ σ'.2.1 4 j = (if j = n then p3 else σ.2.1 4 j) ∧ σ'.2.1 5 j = (if j = n then 0 else σ.2.1 5 j) ∧ σ'.2.1 6 j = (if j = n then 0 else σ.2.1 6 j) ∧ σ'.2.1 8 j = (if j = n then 0 else σ.2.1 8 j) ∧ σ'.2.1 9 j = (if j = n then 0 else σ.2.1 9 j) ∧ σ'.2.1 10 j = (if j = n then 0 else σ.2.1 10 j) ∧ σ'.2.1 11 j = (if j = n then -1 else σ.2.1 11 j) ∧ σ'.2.1 12 j = (if j = n then 0 else σ.2.1 12 j) ∧ σ'.2.1 13 j = (if j = n then 0 else σ.2.1 13 j) ∧ (4 * n ≤ j → j < 4 * n + 4 → σ'.2.1 7 j = -1) ∧ (j < 4 * n → σ'.2.1 7 j = σ.2.1 7 j)
def mkC (n : Nat) (p1 kk p3 : Int32) (σ σ' : VS) : Prop := ∀ j : Nat, σ'.2.1 11 j = (if j = n then p1 else σ.2.1 11 j) ∧ σ'.2.1 12 j = (if j = n then kk else σ.2.1 12 j) ∧ σ'.2.1 13 j = (if j = n then p3 else σ.2.1 13 j)
set_option maxHeartbeats 4000000 in
theorem rx_make {Q : Int32 → VS → Prop} {p1 p2 p3 : Int32} {σ : VS} (hS : SI σ) (hM : MI σ) (hLI : LI σ) (hq : ∀ (r : Int32) (σ' : VS), MI σ' → SI σ' → LI σ' → Eo [1] [2, 3, 4, 5, 6, 7, 8, 9, 10, 11, 12, 13] σ σ' → ((okM p1 p2 p3 ∧ (σ.1 1).toInt < 50 ∧ r.toInt = (σ.1 1).toInt ∧ (σ'.1 1).toInt = (σ.1 1).toInt + 1 ∧ ∃ (n : Nat) (kk : Int32), (σ.1 1).toInt = (n : Int) ∧ kkOk p1 p2 kk ∧ mkM n p1 kk p3 σ σ') ∨ (((¬ okM p1 p2 p3 ∧ r.toInt = -1) ∨ (okM p1 p2 p3 ∧ ¬ (σ.1 1).toInt < 50 ∧ r.toInt = -3)) ∧ σ' = σ)) → Q r σ') : wp_make Q p1 p2 p3 σ := by
  have hc : 0 ≤ (σ.1 1).toInt ∧ (σ.1 1).toInt ≤ 50 := hM.1 1
  unfold wp_make
  intro X119 H
  have h39 : ¬ okM p1 p2 p3 → b_make_39 X119 Q σ := fun h => hq _ _ hM hS hLI Eo.rfl (Or.inr ⟨Or.inl ⟨h, rfl⟩, rfl⟩)
  have h41 : okM p1 p2 p3 → b_make_41 X119 Q p1 p2 p3 σ := by
    intro hok
    unfold b_make_41
    refine ⟨fun hne x1 e1 => ?_, fun he => hq _ _ hM hS hLI Eo.rfl (Or.inr ⟨Or.inr ⟨hok, by omega, rfl⟩, rfl⟩)⟩
    have hx1 : x1.toInt = (σ.1 1).toInt := by rw [e1]
    obtain ⟨n, hn⟩ : ∃ n : Nat, (σ.1 1).toInt = (n : Int) := ⟨(σ.1 1).toInt.toNat, by omega⟩
    have hxn : x1.toInt = (n : Int) := by omega
    unfold okM at hok
    have h91 : ∀ kk : Int32, 0 ≤ kk.toInt ∧ kk.toInt ≤ 4 → (3 < p1.toInt → kk.toInt = 1) → kkOk p1 p2 kk → b_make_91 X119 Q p3 x1 kk x1 (sa σ 2 x1 p1) := by
      intro kk hk0 hk1 hkk
      have L : ∀ (m : Nat) (l5 : Int32) (x : VS), 4 - l5.toInt < (m : Int) → 0 ≤ l5.toInt ∧ l5.toInt ≤ 4 → MI x → Eo [] [2, 3, 4, 5, 6, 7] σ x → (∀ j, x.2.1 2 j = if j = n then p1 else σ.2.1 2 j) → (∀ j, x.2.1 3 j = if j = n then kk else σ.2.1 3 j) → (∀ j, x.2.1 4 j = if j = n then p3 else σ.2.1 4 j) → (∀ j, x.2.1 5 j = if j = n then 0 else σ.2.1 5 j) → (∀ j, x.2.1 6 j = if j = n then 0 else σ.2.1 6 j) → (∀ j, j < 4 * n → x.2.1 7 j = σ.2.1 7 j) → (∀ j : Nat, 4 * n ≤ j → (j : Int) < 4 * n + l5.toInt → (x.2.1 7 j).toInt = -1) → X119 x1 l5 x := by
        intro m
        induction m with
        | zero => intro l5 x k1 k2; omega
        | succ m ih =>
          intro l5 x k1 k2 hMx hEx f2 f3 f4 f5 f6 f7 f7b
          refine H _ _ _ ?_
          unfold b_make_119
          refine ⟨fun hge => ⟨⟨by omega, by omega⟩, ⟨by omega, by omega⟩, ⟨by omega, by omega⟩, ⟨by omega, by omega⟩, ⟨by omega, by omega⟩, ⟨by omega, by omega⟩, ?_⟩, fun hlt => ?_⟩
          · obtain ⟨y, hy⟩ : ∃ y : VS, y = sa (sa (sa (sa (sa (sa x 8 x1 0) 9 x1 0) 10 x1 0) 11 x1 (-1)) 12 x1 0) 13 x1 0 := ⟨_, rfl⟩
            rw [← hy]
            have hy1 : y.1 1 = σ.1 1 := by rw [hy]; exact hEx.1 1 (by decide)
            rw [hy1]
            have t1 : (σ.1 1 + 1).toInt = (σ.1 1).toInt + 1 := i3_addc rfl rfl rfl (by have e9 : (1 : Int32).toInt = 1 := rfl; omega)
            have hMy : MI y := by
              rw [hy]
              exact (((((hMx.sa 8 _ _ (show 0 ≤ (0 : Int32).toInt ∧ (0 : Int32).toInt ≤ 100000 by decide)).sa 9 _ _ (show 0 ≤ (0 : Int32).toInt ∧ (0 : Int32).toInt ≤ 100000 by decide)).sa 10 _ _ (show 0 ≤ (0 : Int32).toInt ∧ (0 : Int32).toInt ≤ 100000 by decide)).sa 11 _ _ (show -1 ≤ (-1 : Int32).toInt ∧ (-1 : Int32).toInt ≤ 19 by decide)).sa 12 _ _ (show -10000 ≤ (0 : Int32).toInt ∧ (0 : Int32).toInt ≤ 10000 by decide)).sa 13 _ _ (show -10000 ≤ (0 : Int32).toInt ∧ (0 : Int32).toInt ≤ 10000 by decide)
            have hEy : Eo [1] [2, 3, 4, 5, 6, 7, 8, 9, 10, 11, 12, 13] σ y := by
              rw [hy]
              exact ((((((hEx.mono (by decide) (by decide)).sa 8 _ _ (by decide)).sa 9 _ _ (by decide)).sa 10 _ _ (by decide)).sa 11 _ _ (by decide)).sa 12 _ _ (by decide)).sa 13 _ _ (by decide)
            have hE0 : Eo [] [8, 9, 10, 11, 12, 13] x y := by
              rw [hy]
              exact (((((Eo.rfl.sa 8 _ _ (by decide)).sa 9 _ _ (by decide)).sa 10 _ _ (by decide)).sa 11 _ _ (by decide)).sa 12 _ _ (by decide)).sa 13 _ _ (by decide)
            have y11 : ∀ j, y.2.1 11 j = if j = n then -1 else σ.2.1 11 j := fun j => by
              rw [hy, sa_other (by decide), sa_other (by decide), sa_at _ 11 x1 _ hxn, sa_other (by decide), sa_other (by decide), sa_other (by decide), hEx.2 11 (by decide)]
            have y8 : ∀ j, y.2.1 8 j = if j = n then 0 else σ.2.1 8 j := fun j => by
              rw [hy, sa_other (by decide), sa_other (by decide), sa_other (by decide), sa_other (by decide), sa_other (by decide), sa_at _ 8 x1 _ hxn, hEx.2 8 (by decide)]
            have y9 : ∀ j, y.2.1 9 j = if j = n then 0 else σ.2.1 9 j := fun j => by
              rw [hy, sa_other (by decide), sa_other (by decide), sa_other (by decide), sa_other (by decide), sa_at _ 9 x1 _ hxn, sa_other (by decide), hEx.2 9 (by decide)]
            have y10 : ∀ j, y.2.1 10 j = if j = n then 0 else σ.2.1 10 j := fun j => by
              rw [hy, sa_other (by decide), sa_other (by decide), sa_other (by decide), sa_at _ 10 x1 _ hxn, sa_other (by decide), sa_other (by decide), hEx.2 10 (by decide)]
            have y12 : ∀ j, y.2.1 12 j = if j = n then 0 else σ.2.1 12 j := fun j => by
              rw [hy, sa_other (by decide), sa_at _ 12 x1 _ hxn, sa_other (by decide), sa_other (by decide), sa_other (by decide), sa_other (by decide), hEx.2 12 (by decide)]
            have y13 : ∀ j, y.2.1 13 j = if j = n then 0 else σ.2.1 13 j := fun j => by
              rw [hy, sa_at _ 13 x1 _ hxn, sa_other (by decide), sa_other (by decide), sa_other (by decide), sa_other (by decide), sa_other (by decide), hEx.2 13 (by decide)]
            have hMz := hMy.sf 1 (σ.1 1 + 1) (show 0 ≤ (σ.1 1 + 1).toInt ∧ (σ.1 1 + 1).toInt ≤ 50 by omega)
            have hEz := hEy.sf 1 (σ.1 1 + 1) (by decide)
            have hSz : SI (sf y 1 (σ.1 1 + 1)) := make_si (p1 := p1) (kk := kk) hS hM hn (by rw [sf_same]; omega) (hEz.1 21 (by decide)) (fun j => by show y.2.1 2 j = _; rw [hE0.2 2 (by decide)]; exact f2 j) (fun j => by show y.2.1 3 j = _; rw [hE0.2 3 (by decide)]; exact f3 j) hk1 hk0.2 (fun j hj => by show y.2.1 7 j = _; rw [hE0.2 7 (by decide)]; exact f7 j hj) (fun j a b => by show (y.2.1 7 j).toInt = _; rw [hE0.2 7 (by decide)]; exact f7b j a (by omega)) y11 (hEz.2 22 (by decide))
            have hLz : LI (sf y 1 (σ.1 1 + 1)) := by
              have h50 : (sf y 1 (σ.1 1 + 1)).2.1 50 = σ.2.1 50 := hEz.2 50 (by decide)
              have h54 : (sf y 1 (σ.1 1 + 1)).2.1 54 = σ.2.1 54 := hEz.2 54 (by decide)
              unfold LI
              rw [h50, h54, sf_same]
              exact ⟨fun p => by have := hLI.1 p; omega, hLI.2⟩
            exact hq _ _ hMz hSz hLz hEz (Or.inl ⟨hok, by omega, hx1, by rw [sf_same]; exact t1, n, kk, hn, hkk, fun j => ⟨(congrFun (hE0.2 2 (by decide)) j).trans (f2 j), (congrFun (hE0.2 3 (by decide)) j).trans (f3 j), (congrFun (hE0.2 4 (by decide)) j).trans (f4 j), (congrFun (hE0.2 5 (by decide)) j).trans (f5 j), (congrFun (hE0.2 6 (by decide)) j).trans (f6 j), y8 j, y9 j, y10 j, y11 j, y12 j, y13 j, fun a b => (congrFun (hE0.2 7 (by decide)) j).trans (ti_inj (f7b j a (by omega))), fun a => (congrFun (hE0.2 7 (by decide)) j).trans (f7 j a)⟩⟩)
          · have v1 : (4 * x1).toInt = 4 * x1.toInt := i3_mulc rfl rfl rfl (by omega)
            have v2 : (4 * x1 + l5).toInt = (4 * x1).toInt + l5.toInt := i3_addc rfl rfl rfl (by omega)
            have v5 : (l5 + 1).toInt = l5.toInt + 1 := i3_addc rfl rfl rfl (by omega)
            obtain ⟨i, hi⟩ : ∃ i : Nat, l5.toInt = (i : Int) := ⟨l5.toInt.toNat, by omega⟩
            have hw : (4 * x1 + l5).toInt = ((4 * n + i : Nat) : Int) := by omega
            refine ⟨⟨by omega, by omega⟩, ih (l5 + 1) _ (by omega) (by omega) (hMx.sa 7 _ _ (show -1 ≤ (-1 : Int32).toInt ∧ (-1 : Int32).toInt ≤ 49 by decide)) (hEx.sa 7 _ _ (by decide)) (fun j => by rw [sa_other (by decide)]; exact f2 j) (fun j => by rw [sa_other (by decide)]; exact f3 j) (fun j => by rw [sa_other (by decide)]; exact f4 j) (fun j => by rw [sa_other (by decide)]; exact f5 j) (fun j => by rw [sa_other (by decide)]; exact f6 j) (fun j hj => by rw [sa_at x 7 _ _ hw, if_neg (by omega)]; exact f7 j hj) (fun j a b => ?_)⟩
            rw [sa_at x 7 _ _ hw]
            by_cases e : j = 4 * n + i
            · rw [if_pos e]; rfl
            · rw [if_neg e]; exact f7b j a (by omega)
      unfold b_make_91
      refine ⟨⟨by omega, by omega⟩, ⟨by omega, by omega⟩, ⟨by omega, by omega⟩, ⟨by omega, by omega⟩, ?_⟩
      refine L 5 0 _ (by decide) (by decide) (((((hM.sa 2 _ _ (show 0 ≤ p1.toInt ∧ p1.toInt ≤ 5 from hok.1)).sa 3 _ _ (show 0 ≤ kk.toInt ∧ kk.toInt ≤ 4 from hk0)).sa 4 _ _ (show 0 ≤ p3.toInt ∧ p3.toInt ≤ 7 from hok.2.1)).sa 5 _ _ (show 0 ≤ (0 : Int32).toInt ∧ (0 : Int32).toInt ≤ 2 by decide)).sa 6 _ _ (show 0 ≤ (0 : Int32).toInt ∧ (0 : Int32).toInt ≤ 1000 by decide)) (((((Eo.rfl.sa 2 _ _ (by decide)).sa 3 _ _ (by decide)).sa 4 _ _ (by decide)).sa 5 _ _ (by decide)).sa 6 _ _ (by decide)) (fun j => ?_) (fun j => ?_) (fun j => ?_) (fun j => ?_) (fun j => ?_) (fun j _ => ?_) (fun j a b => by have e : (0 : Int32).toInt = 0 := rfl; omega)
      · rw [sa_other (by decide), sa_other (by decide), sa_other (by decide), sa_other (by decide), sa_at σ 2 x1 p1 hxn]
      · rw [sa_other (by decide), sa_other (by decide), sa_other (by decide), sa_at _ 3 x1 kk hxn, sa_other (by decide)]
      · rw [sa_other (by decide), sa_other (by decide), sa_at _ 4 x1 p3 hxn, sa_other (by decide), sa_other (by decide)]
      · rw [sa_other (by decide), sa_at _ 5 x1 0 hxn, sa_other (by decide), sa_other (by decide), sa_other (by decide)]
      · rw [sa_at _ 6 x1 0 hxn, sa_other (by decide), sa_other (by decide), sa_other (by decide), sa_other (by decide)]
      · rw [sa_other (by decide), sa_other (by decide), sa_other (by decide), sa_other (by decide), sa_other (by decide)]
    refine ⟨⟨by omega, by omega⟩, fun hn0 => ⟨fun h2 => h91 p2 (by omega) (fun h => by omega) ⟨fun _ => rfl, fun h => by omega, fun h => by omega⟩, fun h2 => h91 1 ⟨by decide, by decide⟩ (fun _ => rfl) ⟨fun h => by omega, fun _ => rfl, fun h => by omega⟩⟩, fun h0 => h91 0 ⟨by decide, by decide⟩ (fun h => by omega) ⟨fun h => by omega, fun h => by omega, fun _ => rfl⟩⟩
  have h29 : (0 ≤ p1.toInt ∧ p1.toInt ≤ 5) → (0 ≤ p3.toInt ∧ p3.toInt ≤ 7) → (p1.toInt = 1 ∨ p1.toInt = 2) → b_make_29 X119 Q p1 p2 p3 σ := by
    intro a b c
    unfold b_make_29
    exact ⟨fun h => h39 (fun ho => by have := ho.2.2 c; omega), fun h => ⟨fun h2 => h41 ⟨a, b, fun _ => ⟨h, h2⟩⟩, fun h2 => h39 (fun ho => by have := ho.2.2 c; omega)⟩⟩
  refine ⟨fun h => h39 (fun ho => by have := ho.1; omega), fun h1 => ⟨fun h => h39 (fun ho => by have := ho.1; omega), fun h2 => ⟨fun h => h39 (fun ho => by have := ho.2.1; omega), fun h3 => ⟨fun h => h39 (fun ho => by have := ho.2.1; omega), fun h4 => ⟨fun h => h29 ⟨h1, h2⟩ ⟨h3, h4⟩ (Or.inl h), fun h5 => ⟨fun h6 => h41 ⟨⟨h1, h2⟩, ⟨h3, h4⟩, fun h => by omega⟩, fun h6 => h29 ⟨h1, h2⟩ ⟨h3, h4⟩ (Or.inr h6)⟩⟩⟩⟩⟩⟩
theorem cx_make {Q : Int32 → VS → Prop} {p1 p2 p3 : Int32} {σ : VS} (hM : CI σ) (hC : CSrc σ) (hq : ∀ (r : Int32) (σ' : VS), CI σ' → CSrc σ' → Eo [0, 1, 2, 3] [11, 12, 13, 17, 18, 19, 20] σ σ' → ((okM p1 p2 p3 ∧ (σ.1 2).toInt < 50 ∧ r.toInt = (σ.1 2).toInt ∧ (σ'.1 2).toInt = (σ.1 2).toInt + 1 ∧ ∃ (n : Nat) (kk : Int32), (σ.1 2).toInt = (n : Int) ∧ kkOk p1 p2 kk ∧ mkC n p1 kk p3 σ σ') ∨ (((¬ okM p1 p2 p3 ∧ r.toInt = -1) ∨ (okM p1 p2 p3 ∧ ¬ (σ.1 2).toInt < 50 ∧ r.toInt = -3)) ∧ σ' = σ)) → Q r σ') : wp_X9make Q p1 p2 p3 σ := by
  have hc : 0 ≤ (σ.1 2).toInt ∧ (σ.1 2).toInt ≤ 50 := hM.1 2
  have e1 : (1 : Int32).toInt = 1 := rfl
  have e4 : (4 : Int32).toInt = 4 := rfl
  have e0 : (0 : Int32).toInt = 0 := rfl
  have hno : ¬ okM p1 p2 p3 → Q (-1) σ := fun h => hq _ _ hM hC Eo.rfl (Or.inr ⟨Or.inl ⟨h, rfl⟩, rfl⟩)
  have h86 : ∀ kk : Int32, okM p1 p2 p3 → (σ.1 2).toInt < 50 → 0 ≤ kk.toInt ∧ kk.toInt ≤ 4 → kkOk p1 p2 kk → b_X9make_86 Q p1 p3 kk σ := by
    intro kk ok hlt hk hkk
    unfold b_X9make_86 wp_X9forget wp_X1addCell
    intro x1 ex
    have t : (σ.1 2 + 1).toInt = (σ.1 2).toInt + 1 := i3_addc rfl rfl rfl (by omega)
    have hf : (fg σ).1 2 = σ.1 2 := (fg_eo σ).1 2 (by decide)
    have ex' : x1 = (fg σ).1 2 := ex
    have hx : x1.toInt = (σ.1 2).toInt := by rw [ex', hf]
    obtain ⟨n, hn⟩ : ∃ n : Nat, (σ.1 2).toInt = (n : Int) := ⟨(σ.1 2).toInt.toNat, by omega⟩
    have hxn : x1.toInt = (n : Int) := by omega
    refine ⟨⟨by omega, by omega⟩, ⟨by omega, by omega⟩, ⟨by omega, by omega⟩, ?_⟩
    show wp_X1arrange _ (sa (sa (sa (sf (fg σ) 2 ((fg σ).1 2 + 1)) 11 x1 p1) 12 x1 kk) 13 x1 p3)
    rw [hf]
    obtain ⟨y, hy⟩ : ∃ y : VS, y = sa (sa (sa (sf (fg σ) 2 (σ.1 2 + 1)) 11 x1 p1) 12 x1 kk) 13 x1 p3 := ⟨_, rfl⟩
    rw [← hy]
    have hMy : CI y := by
      rw [hy]
      exact ((((fg_ci hM).sf 2 _ (show 0 ≤ (σ.1 2 + 1).toInt ∧ (σ.1 2 + 1).toInt ≤ 50 by omega)).sa 11 _ _ (show 0 ≤ p1.toInt ∧ p1.toInt ≤ 5 from ok.1)).sa 12 _ _ (show 0 ≤ kk.toInt ∧ kk.toInt ≤ 4 from hk)).sa 13 _ _ (show 0 ≤ p3.toInt ∧ p3.toInt ≤ 7 from ok.2.1)
    have hEy : Eo [0, 1, 2, 3] [11, 12, 13, 17, 18, 19, 20] σ y := by
      rw [hy]
      exact (((((fg_eo σ).mono (by decide) (by decide)).sf 2 _ (by decide)).sa 11 _ _ (by decide)).sa 12 _ _ (by decide)).sa 13 _ _ (by decide)
    have y2 : y.1 2 = σ.1 2 + 1 := by
      rw [hy]
      show (sf (fg σ) 2 (σ.1 2 + 1)).1 2 = _
      rw [sf_same]
    have hCy : CSrc y := by
      intro w
      rw [hEy.2 16 (by decide), y2]
      have := hC w
      omega
    refine rg_X1arrange hMy hCy (fun τ hMt hEt => ?_)
    exact hq _ _ hMt (hCy.same hEt (by decide)) (hEy.of hEt (by decide) (by decide)) (Or.inl ⟨ok, hlt, hx, by rw [hEt.1 2 (by decide), y2]; exact t, n, kk, hn, hkk, fun j => ⟨by rw [hEt.2 11 (by decide), hy, sa_other (by decide), sa_other (by decide), sa_at _ 11 x1 _ hxn]; rfl, by rw [hEt.2 12 (by decide), hy, sa_other (by decide), sa_at _ 12 x1 _ hxn, sa_other (by decide)]; rfl, by rw [hEt.2 13 (by decide), hy, sa_at _ 13 x1 _ hxn, sa_other (by decide), sa_other (by decide)]; rfl⟩⟩)
  have h53 : ∀ l4 : Int32, okM p1 p2 p3 → (l4.toInt ≠ 0 ↔ p1.toInt = 1 ∨ p1.toInt = 2) → b_X9make_53 Q p1 p2 p3 l4 σ := by
    intro l4 ok hl
    unfold b_X9make_53
    have o1 := ok.1
    exact ⟨fun h => ⟨fun z => ⟨fun w => h86 1 ok h (by omega) ⟨fun q => absurd z (hl.mpr q), fun _ => rfl, fun q => by omega⟩, fun w => h86 0 ok h (by omega) ⟨fun q => absurd z (hl.mpr q), fun q => by omega, fun _ => rfl⟩⟩, fun k => h86 p2 ok h (by have := ok.2.2 (hl.mp k); omega) ⟨fun _ => rfl, fun q => by have := hl.mp k; omega, fun q => by have := hl.mp k; omega⟩⟩, fun h => hq _ _ hM hC Eo.rfl (Or.inr ⟨Or.inr ⟨ok, by omega, rfl⟩, rfl⟩)⟩
  have h34 : (0 ≤ p1.toInt ∧ p1.toInt ≤ 5) → (0 ≤ p3.toInt ∧ p3.toInt ≤ 7) → ¬ (p1.toInt = 1 ∨ p1.toInt = 2) → b_X9make_34 Q p1 p2 p3 σ := by
    intro a b c
    unfold b_X9make_34 b_X9make_35
    exact ⟨fun _ => h53 0 ⟨a, b, fun h => absurd h c⟩ ⟨fun z => absurd rfl z, fun z => absurd z c⟩, fun z => absurd rfl z⟩
  unfold wp_X9make b_X9make_16
  refine ⟨fun h => hno (fun o => by have := o.1; omega), fun h1 => ⟨fun h => hno (fun o => by have := o.1; omega), fun h2 => ?_⟩⟩
  refine xtab_x (fun b => ⟨fun _ => ?_, fun z => absurd z (by decide)⟩) (fun b => ⟨fun z => absurd rfl z, fun _ => hno (fun o => b o.2.1)⟩)
  refine xgate_x (fun g => ⟨fun z => absurd z (by decide), fun _ => ⟨fun h3 => h34 ⟨h1, h2⟩ b (by omega), fun h3 => ?_⟩⟩) (fun g => ⟨fun _ => h34 ⟨h1, h2⟩ b (by omega), fun z => absurd rfl z⟩)
  unfold b_X9make_35
  refine ⟨fun z => absurd z (by decide), fun _ => xwithin_x (fun k => ⟨fun _ => h53 1 ⟨⟨h1, h2⟩, b, fun _ => by omega⟩ ⟨fun _ => by omega, fun _ => by decide⟩, fun z => absurd z (by decide)⟩) (fun k => ⟨fun z => absurd rfl z, fun _ => hno (fun o => by have := o.2.2 (by omega); omega)⟩)⟩
theorem dp_make {p1 p2 p3 : Int32} {σ τ : VS} (J : Jn σ τ) (D : Dt σ τ) : wp_X9make (fun _ σ' => wp_make (fun _ τ' => Dt σ' τ') p1 p2 p3 τ) p1 p2 p3 σ := by
  obtain ⟨hM, hC, hM2, hS, hL, k1, k2, k3, k4⟩ := J
  refine cx_make hM hC (fun r σ' a1 a2 e a => rx_make hS hM2 hL (fun r2 τ' b1 b2 b3 f b => ?_))
  have t1 : (σ.1 2).toInt = (τ.1 1).toInt := by rw [k1]
  rcases a with ⟨q1, q2, q3, q4, n, kk, hn, ho, hm⟩ | ⟨q1, q2⟩ <;> rcases b with ⟨w1, w2, w3, w4, n2, kk2, hn2, ho2, hm2⟩ | ⟨w1, w2⟩
  · have en : n2 = n := by omega
    subst en
    have ek : kk = kk2 := by
      have o1 := q1.1
      by_cases c1 : p1.toInt = 1 ∨ p1.toInt = 2
      · rw [ho.1 c1, ho2.1 c1]
      · by_cases c2 : p1.toInt = 0
        · rw [ho.2.2 c2, ho2.2.2 c2]
        · rw [ho.2.1 (by omega), ho2.2.1 (by omega)]
    subst ek
    obtain ⟨⟨d1, d2⟩, d3, d4, d5, d6⟩ := D
    have n2' : ∀ q ∈ freshL, q.1 ∉ [11, 12, 13, 17, 18, 19, 20] := by decide
    have n3 : ∀ q ∈ rulesL, q.1 ∉ [11, 12, 13, 17, 18, 19, 20] ∧ q.2 ∉ [2, 3, 4, 5, 6, 7, 8, 9, 10, 11, 12, 13] := by decide
    have n4 : ∀ q ∈ tabL, q.1 ∉ [11, 12, 13, 17, 18, 19, 20] ∧ q.2 ∉ [2, 3, 4, 5, 6, 7, 8, 9, 10, 11, 12, 13] := by decide
    refine ⟨⟨by rw [e.1 7 (by decide), f.1 18 (by decide)]; exact d1, by rw [e.1 8 (by decide), f.1 19 (by decide)]; exact d2⟩, fun q hq j hj => ?_, fun q hq j hj => ?_, fun q hq j hj => ?_, fun q hq => ?_⟩
    · obtain ⟨m2, m3, m4, m5, m6, m8, m9, m10, m11, m12, m13, -⟩ := hm2 j
      obtain ⟨c11, c12, c13⟩ := hm j
      have hj2 : j = n2 ∨ (j : Int) < (σ.1 2).toInt := by omega
      have fr : ∀ (k m : Nat) (v : Int32), (k, m) ∈ cellsL → (k, v) ∈ freshL → k ∉ [11, 12, 13, 17, 18, 19, 20] → τ'.2.1 m j = (if j = n2 then v else τ.2.1 m j) → σ'.2.1 k j = τ'.2.1 m j := by
        intro k m v g1 g2 g3 g4
        rw [g4, e.2 k g3]
        rcases hj2 with h | h
        · rw [if_pos h]; exact d4 (k, v) g2 j (by omega)
        · rw [if_neg (by omega)]; exact d3 (k, m) g1 j h
      have cs : ∀ (k m : Nat) (v : Int32), (k, m) ∈ cellsL → σ'.2.1 k j = (if j = n2 then v else σ.2.1 k j) → τ'.2.1 m j = (if j = n2 then v else τ.2.1 m j) → σ'.2.1 k j = τ'.2.1 m j := by
        intro k m v g1 g2 g4
        rw [g4, g2]
        rcases hj2 with h | h
        · rw [if_pos h, if_pos h]
        · rw [if_neg (by omega), if_neg (by omega)]; exact d3 (k, m) g1 j h
      have hq' : q = (11, 2) ∨ q = (12, 3) ∨ q = (13, 4) ∨ q = (15, 6) ∨ q = (22, 8) ∨ q = (23, 9) ∨ q = (24, 10) ∨ q = (25, 11) ∨ q = (26, 12) ∨ q = (27, 13) := by simpa [cellsL] using hq
      rcases hq' with rfl | rfl | rfl | rfl | rfl | rfl | rfl | rfl | rfl | rfl
      · exact cs 11 2 p1 (by decide) c11 m2
      · exact cs 12 3 kk (by decide) c12 m3
      · exact cs 13 4 p3 (by decide) c13 m4
      · exact fr 15 6 0 (by decide) (by decide) (by decide) m6
      · exact fr 22 8 0 (by decide) (by decide) (by decide) m8
      · exact fr 23 9 0 (by decide) (by decide) (by decide) m9
      · exact fr 24 10 0 (by decide) (by decide) (by decide) m10
      · exact fr 25 11 (-1) (by decide) (by decide) (by decide) m11
      · exact fr 26 12 0 (by decide) (by decide) (by decide) m12
      · exact fr 27 13 0 (by decide) (by decide) (by decide) m13
    · rw [e.2 _ (n2' q hq)]; exact d4 q hq j (by omega)
    · rw [e.2 _ (n3 q hq).1, f.2 _ (n3 q hq).2]; rw [e.1 6 (by decide)] at hj; exact d5 q hq j hj
    · rw [e.2 _ (n4 q hq).1, f.2 _ (n4 q hq).2]; exact d6 q hq
  · rcases w1 with w1 | w1
    · exact absurd q1 w1.1
    · exact absurd (by omega) w1.2.1
  · rcases q1 with q1 | q1
    · exact absurd w1 q1.1
    · exact absurd (by omega) q1.2.1
  · rw [q2, w2]; exact D
