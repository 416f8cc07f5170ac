def okM (p1 p2 p3 : Int32) : Prop := (0 ≤ p1.toInt ∧ p1.toInt ≤ 5) ∧ (0 ≤ p3.toInt ∧ p3.toInt ≤ 7) ∧ ((p1.toInt = 1 ∨ p1.toInt = 2) → 1 ≤ p2.toInt ∧ p2.toInt ≤ 4)
theorem make_si {σ z : VS} {n : Nat} {p1 kk : Int32} (hS : SI σ) (hM : MI σ) (hn : (σ.1 1).toInt = (n : Int)) (h1 : (z.1 1).toInt = (n : Int) + 1) (h21 : z.1 21 = σ.1 21) (h2 : ∀ j, z.2.1 2 j = if j = n then p1 else σ.2.1 2 j) (h3 : ∀ j, z.2.1 3 j = if j = n then kk else σ.2.1 3 j) (hk : 3 < p1.toInt → kk.toInt = 1) (hk4 : kk.toInt ≤ 4) (h7 : ∀ j, j < 4 * n → z.2.1 7 j = σ.2.1 7 j) (h7b : ∀ j, 4 * n ≤ j → j < 4 * n + 4 → (z.2.1 7 j).toInt = -1) (h11 : ∀ j, z.2.1 11 j = if j = n then -1 else σ.2.1 11 j) (h22 : z.2.1 22 = σ.2.1 22) : SI z := by
  obtain ⟨hS1, hS2, hS3, hS4, ρ, hρ⟩ := hS
  have hK : ∀ c, c ≠ n → Kd z c = Kd σ c := fun c hc => by unfold Kd; rw [h2, if_neg hc]
  have hI : ∀ c, c ≠ n → Ip z c = Ip σ c := fun c hc => by unfold Ip; rw [h3, if_neg hc]
  have hT : ∀ j, j < 4 * n → Tk z j = Tk σ j := fun j hj => by unfold Tk; rw [h7 j hj]
  have hg : ∀ c, c ≠ n → (gate z c ↔ gate σ c) := fun c hc => by unfold gate; rw [hK c hc]
  have hb21 : 0 ≤ (σ.1 21).toInt ∧ (σ.1 21).toInt ≤ 20 := hM.1 21
  refine ⟨fun j hj => ?_, fun j hj => ?_, fun c hc => ?_, fun c hc hkc => ?_, ρ, fun d i hd hi hgd h0 hgs => ?_⟩
  · by_cases e : j < 4 * n
    · rw [hT j e]
      have := hS1 j (by omega)
      omega
    · have := h7b j (by omega) (by omega)
      unfold Tk
      omega
  · rw [h22]; rw [h21] at hj; exact hS2 j hj
  · rw [h11, h21]
    by_cases e : c = n
    · rw [if_pos e]
      have e9 : (-1 : Int32).toInt = -1 := rfl
      omega
    · rw [if_neg e]; exact hS3 c (by omega)
  · by_cases e : c = n
    · unfold Kd at hkc
      unfold Ip
      rw [h2, if_pos e] at hkc
      rw [h3, if_pos e]
      exact hk hkc
    · rw [hK c e] at hkc
      rw [hI c e]
      exact hS4 c (by omega) hkc
  · by_cases e : d = n
    · have hI4 : Ip z d = kk.toInt := by unfold Ip; rw [h3, if_pos e]
      have := h7b (4 * d + i) (by omega) (by omega)
      unfold Tk at h0
      omega
    · have hI4 : Ip σ d ≤ 4 := (hM.2 3 d).2
      rw [hI d e] at hi
      rw [hT _ (by omega)] at h0 hgs ⊢
      have hlt := hS1 (4 * d + i) (by omega)
      exact hρ d i (by omega) hi ((hg d e).mp hgd) h0 ((hg _ (by omega)).mp hgs)
set_option maxHeartbeats 4000000 in
theorem rg_make {Q : Int32 → VS → Prop} {p1 p2 p3 : Int32} {σ : VS} (hS : SI σ) (hM : MI σ) (hLI : LI σ) (hq : ∀ (r : Int32) (σ' : VS), MI σ' → SI σ' → LI σ' → Eo [1] [2, 3, 4, 5, 6, 7, 8, 9, 10, 11, 12, 13] σ σ' → ((okM p1 p2 p3 ∧ (σ.1 1).toInt < 50 ∧ r.toInt = (σ.1 1).toInt ∧ (σ'.1 1).toInt = (σ.1 1).toInt + 1) ∨ (((¬ okM p1 p2 p3 ∧ r.toInt = -1) ∨ (okM p1 p2 p3 ∧ ¬ (σ.1 1).toInt < 50 ∧ r.toInt = -3)) ∧ σ' = σ)) → Q r σ') : wp_make Q p1 p2 p3 σ := by
  have hc : 0 ≤ (σ.1 1).toInt ∧ (σ.1 1).toInt ≤ 50 := hM.1 1
  unfold wp_make
  intro X119 H
  have h39 : ¬ okM p1 p2 p3 → b_make_39 X119 Q σ := fun h => hq _ _ hM hS hLI Eo.rfl (Or.inr ⟨Or.inl ⟨h, rfl⟩, rfl⟩)
  have h41 : okM p1 p2 p3 → b_make_41 X119 Q p1 p2 p3 σ := by
    intro hok
    unfold b_make_41
    refine ⟨fun hne x1 e1 => ?_, fun he => hq _ _ hM hS hLI Eo.rfl (Or.inr ⟨Or.inr ⟨hok, by omega, rfl⟩, rfl⟩)⟩
    have hx1 : x1.toInt = (σ.1 1).toInt := by rw [e1]
    obtain ⟨n, hn⟩ : ∃ n : Nat, (σ.1 1).toInt = (n : Int) := ⟨(σ.1 1).toInt.toNat, by omega⟩
    have hxn : x1.toInt = (n : Int) := by omega
    unfold okM at hok
    have h91 : ∀ kk : Int32, 0 ≤ kk.toInt ∧ kk.toInt ≤ 4 → (3 < p1.toInt → kk.toInt = 1) → b_make_91 X119 Q p3 x1 kk x1 (sa σ 2 x1 p1) := by
      intro kk hk0 hk1
      have L : ∀ (m : Nat) (l5 : Int32) (x : VS), 4 - l5.toInt < (m : Int) → 0 ≤ l5.toInt ∧ l5.toInt ≤ 4 → MI x → Eo [] [2, 3, 4, 5, 6, 7] σ x → (∀ j, x.2.1 2 j = if j = n then p1 else σ.2.1 2 j) → (∀ j, x.2.1 3 j = if j = n then kk else σ.2.1 3 j) → (∀ j, j < 4 * n → x.2.1 7 j = σ.2.1 7 j) → (∀ j : Nat, 4 * n ≤ j → (j : Int) < 4 * n + l5.toInt → (x.2.1 7 j).toInt = -1) → X119 x1 l5 x := by
        intro m
        induction m with
        | zero => intro l5 x k1 k2; omega
        | succ m ih =>
          intro l5 x k1 k2 hMx hEx f2 f3 f7 f7b
          refine H _ _ _ ?_
          unfold b_make_119
          refine ⟨fun hge => ⟨⟨by omega, by omega⟩, ⟨by omega, by omega⟩, ⟨by omega, by omega⟩, ⟨by omega, by omega⟩, ⟨by omega, by omega⟩, ⟨by omega, by omega⟩, ?_⟩, fun hlt => ?_⟩
          · obtain ⟨y, hy⟩ : ∃ y : VS, y = sa (sa (sa (sa (sa (sa x 8 x1 0) 9 x1 0) 10 x1 0) 11 x1 (-1)) 12 x1 0) 13 x1 0 := ⟨_, rfl⟩
            rw [← hy]
            have hy1 : y.1 1 = σ.1 1 := by rw [hy]; exact hEx.1 1 (by decide)
            rw [hy1]
            have t1 : (σ.1 1 + 1).toInt = (σ.1 1).toInt + 1 := i3_addc rfl rfl rfl (by have e9 : (1 : Int32).toInt = 1 := rfl; omega)
            have hMy : MI y := by
              rw [hy]
              exact (((((hMx.sa 8 _ _ (show 0 ≤ (0 : Int32).toInt ∧ (0 : Int32).toInt ≤ 100000 by decide)).sa 9 _ _ (show 0 ≤ (0 : Int32).toInt ∧ (0 : Int32).toInt ≤ 100000 by decide)).sa 10 _ _ (show 0 ≤ (0 : Int32).toInt ∧ (0 : Int32).toInt ≤ 100000 by decide)).sa 11 _ _ (show -1 ≤ (-1 : Int32).toInt ∧ (-1 : Int32).toInt ≤ 19 by decide)).sa 12 _ _ (show -10000 ≤ (0 : Int32).toInt ∧ (0 : Int32).toInt ≤ 10000 by decide)).sa 13 _ _ (show -10000 ≤ (0 : Int32).toInt ∧ (0 : Int32).toInt ≤ 10000 by decide)
            have hEy : Eo [1] [2, 3, 4, 5, 6, 7, 8, 9, 10, 11, 12, 13] σ y := by
              rw [hy]
              exact ((((((hEx.mono (by decide) (by decide)).sa 8 _ _ (by decide)).sa 9 _ _ (by decide)).sa 10 _ _ (by decide)).sa 11 _ _ (by decide)).sa 12 _ _ (by decide)).sa 13 _ _ (by decide)
            have hE0 : Eo [] [8, 9, 10, 11, 12, 13] x y := by
              rw [hy]
              exact (((((Eo.rfl.sa 8 _ _ (by decide)).sa 9 _ _ (by decide)).sa 10 _ _ (by decide)).sa 11 _ _ (by decide)).sa 12 _ _ (by decide)).sa 13 _ _ (by decide)
            have y11 : ∀ j, y.2.1 11 j = if j = n then -1 else σ.2.1 11 j := fun j => by
              rw [hy, sa_other (by decide), sa_other (by decide), sa_at _ 11 x1 _ hxn, sa_other (by decide), sa_other (by decide), sa_other (by decide), hEx.2 11 (by decide)]
            have hMz := hMy.sf 1 (σ.1 1 + 1) (show 0 ≤ (σ.1 1 + 1).toInt ∧ (σ.1 1 + 1).toInt ≤ 50 by omega)
            have hEz := hEy.sf 1 (σ.1 1 + 1) (by decide)
            have hSz : SI (sf y 1 (σ.1 1 + 1)) := make_si (p1 := p1) (kk := kk) hS hM hn (by rw [sf_same]; omega) (hEz.1 21 (by decide)) (fun j => by show y.2.1 2 j = _; rw [hE0.2 2 (by decide)]; exact f2 j) (fun j => by show y.2.1 3 j = _; rw [hE0.2 3 (by decide)]; exact f3 j) hk1 hk0.2 (fun j hj => by show y.2.1 7 j = _; rw [hE0.2 7 (by decide)]; exact f7 j hj) (fun j a b => by show (y.2.1 7 j).toInt = _; rw [hE0.2 7 (by decide)]; exact f7b j a (by omega)) y11 (hEz.2 22 (by decide))
            have hLz : LI (sf y 1 (σ.1 1 + 1)) := by
              have h50 : (sf y 1 (σ.1 1 + 1)).2.1 50 = σ.2.1 50 := hEz.2 50 (by decide)
              have h54 : (sf y 1 (σ.1 1 + 1)).2.1 54 = σ.2.1 54 := hEz.2 54 (by decide)
              unfold LI
              rw [h50, h54, sf_same]
              exact ⟨fun p => by have := hLI.1 p; omega, hLI.2⟩
            exact hq _ _ hMz hSz hLz hEz (Or.inl ⟨hok, by omega, hx1, by rw [sf_same]; exact t1⟩)
          · have v1 : (4 * x1).toInt = 4 * x1.toInt := i3_mulc rfl rfl rfl (by omega)
            have v2 : (4 * x1 + l5).toInt = (4 * x1).toInt + l5.toInt := i3_addc rfl rfl rfl (by omega)
            have v5 : (l5 + 1).toInt = l5.toInt + 1 := i3_addc rfl rfl rfl (by omega)
            obtain ⟨i, hi⟩ : ∃ i : Nat, l5.toInt = (i : Int) := ⟨l5.toInt.toNat, by omega⟩
            have hw : (4 * x1 + l5).toInt = ((4 * n + i : Nat) : Int) := by omega
            refine ⟨⟨by omega, by omega⟩, ih (l5 + 1) _ (by omega) (by omega) (hMx.sa 7 _ _ (show -1 ≤ (-1 : Int32).toInt ∧ (-1 : Int32).toInt ≤ 49 by decide)) (hEx.sa 7 _ _ (by decide)) (fun j => by rw [sa_other (by decide)]; exact f2 j) (fun j => by rw [sa_other (by decide)]; exact f3 j) (fun j hj => by rw [sa_at x 7 _ _ hw, if_neg (by omega)]; exact f7 j hj) (fun j a b => ?_)⟩
            rw [sa_at x 7 _ _ hw]
            by_cases e : j = 4 * n + i
            · rw [if_pos e]; rfl
            · rw [if_neg e]; exact f7b j a (by omega)
      unfold b_make_91
      refine ⟨⟨by omega, by omega⟩, ⟨by omega, by omega⟩, ⟨by omega, by omega⟩, ⟨by omega, by omega⟩, ?_⟩
      refine L 5 0 _ (by decide) (by decide) (((((hM.sa 2 _ _ (show 0 ≤ p1.toInt ∧ p1.toInt ≤ 5 from hok.1)).sa 3 _ _ (show 0 ≤ kk.toInt ∧ kk.toInt ≤ 4 from hk0)).sa 4 _ _ (show 0 ≤ p3.toInt ∧ p3.toInt ≤ 7 from hok.2.1)).sa 5 _ _ (show 0 ≤ (0 : Int32).toInt ∧ (0 : Int32).toInt ≤ 2 by decide)).sa 6 _ _ (show 0 ≤ (0 : Int32).toInt ∧ (0 : Int32).toInt ≤ 1000 by decide)) (((((Eo.rfl.sa 2 _ _ (by decide)).sa 3 _ _ (by decide)).sa 4 _ _ (by decide)).sa 5 _ _ (by decide)).sa 6 _ _ (by decide)) (fun j => ?_) (fun j => ?_) (fun j _ => ?_) (fun j a b => by have e : (0 : Int32).toInt = 0 := rfl; omega)
      · rw [sa_other (by decide), sa_other (by decide), sa_other (by decide), sa_other (by decide), sa_at σ 2 x1 p1 hxn]
      · rw [sa_other (by decide), sa_other (by decide), sa_other (by decide), sa_at _ 3 x1 kk hxn, sa_other (by decide)]
      · rw [sa_other (by decide), sa_other (by decide), sa_other (by decide), sa_other (by decide), sa_other (by decide)]
    refine ⟨⟨by omega, by omega⟩, fun hn0 => ⟨fun h2 => h91 p2 (by omega) (fun h => by omega), fun h2 => h91 1 ⟨by decide, by decide⟩ (fun _ => rfl)⟩, fun h0 => h91 0 ⟨by decide, by decide⟩ (fun h => by omega)⟩
  have h29 : (0 ≤ p1.toInt ∧ p1.toInt ≤ 5) → (0 ≤ p3.toInt ∧ p3.toInt ≤ 7) → (p1.toInt = 1 ∨ p1.toInt = 2) → b_make_29 X119 Q p1 p2 p3 σ := by
    intro a b c
    unfold b_make_29
    exact ⟨fun h => h39 (fun ho => by have := ho.2.2 c; omega), fun h => ⟨fun h2 => h41 ⟨a, b, fun _ => ⟨h, h2⟩⟩, fun h2 => h39 (fun ho => by have := ho.2.2 c; omega)⟩⟩
  refine ⟨fun h => h39 (fun ho => by have := ho.1; omega), fun h1 => ⟨fun h => h39 (fun ho => by have := ho.1; omega), fun h2 => ⟨fun h => h39 (fun ho => by have := ho.2.1; omega), fun h3 => ⟨fun h => h39 (fun ho => by have := ho.2.1; omega), fun h4 => ⟨fun h => h29 ⟨h1, h2⟩ ⟨h3, h4⟩ (Or.inl h), fun h5 => ⟨fun h6 => h41 ⟨⟨h1, h2⟩, ⟨h3, h4⟩, fun h => by omega⟩, fun h6 => h29 ⟨h1, h2⟩ ⟨h3, h4⟩ (Or.inr h6)⟩⟩⟩⟩⟩⟩

