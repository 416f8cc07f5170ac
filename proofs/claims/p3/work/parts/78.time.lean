/-- what time() leaves: every cell once in order, behind what it takes; the starts are reached -/
def TD (τ : VS) : Prop := (∀ c, c < nC τ → ∃ k, k < oL τ ∧ oN τ k = c) ∧ (∀ k, k < oL τ → oN τ k < nC τ) ∧ (∀ i j, i < oL τ → j < oL τ → oN τ i = oN τ j → i = j) ∧ (∀ k, k < oL τ → gate τ (oN τ k) → ∀ i : Nat, (i : Int) < Ip τ (oN τ k) → 0 ≤ Tk τ (4 * oN τ k + i) → ∃ k', k' < k ∧ oN τ k' = (Tk τ (4 * oN τ k + i)).toNat) ∧ ∀ a, a < nC τ → (Kd τ a = 0 ∨ Kd τ a = 4) → (τ.2.1 34 a).toInt ≠ 0
theorem TD.same {F A : List Nat} {σ τ : VS} (h : TD σ) (e : Eo F A σ τ) (hk : (1 ∉ F ∧ 32 ∉ F) ∧ 2 ∉ A ∧ 3 ∉ A ∧ 7 ∉ A ∧ 31 ∉ A ∧ 34 ∉ A) : TD τ := by
  unfold TD nC oL oN gate Kd Ip Tk
  rw [e.1 1 hk.1.1, e.1 32 hk.1.2, e.2 2 hk.2.1, e.2 3 hk.2.2.1, e.2 7 hk.2.2.2.1, e.2 31 hk.2.2.2.2.1, e.2 34 hk.2.2.2.2.2]
  exact h
set_option maxHeartbeats 2000000 in
theorem rg_time {Q : VS → Prop} {σ : VS} (hS : SI σ) (hM : MI σ) (hq : ∀ τ : VS, MI τ → Eo [30, 32] [31, 33, 34, 35, 36, 37, 38, 39] σ τ → TD τ → Q τ) : wp_time Q σ := by
  obtain ⟨ρ, hR⟩ : ∃ ρ, Rho ρ σ := hS.2.2.2.2
  have hc : 0 ≤ (σ.1 1).toInt ∧ (σ.1 1).toInt ≤ 50 := hM.1 1
  unfold wp_time
  intro X7 X30 H7 H30
  have hn : nC σ = (σ.1 1).toInt.toNat := rfl
  have L2 : ∀ (d : Nat) (l1 : Int32) (x : VS), (σ.1 1).toInt - l1.toInt < (d : Int) → 0 ≤ l1.toInt ∧ l1.toInt ≤ (σ.1 1).toInt → MI x → Eo [30, 32] [31, 33, 34, 35, 36, 37, 38, 39] σ x → TIv (fun _ => False) x → RIv (fun _ => False) x → (∀ c : Nat, (c : Int) < l1.toInt → ∃ k, k < oL x ∧ oN x k = c) → X30 l1 x := by
    intro d
    induction d with
    | zero => intro l1 x k1 k2; omega
    | succ d ih =>
      intro l1 x k1 k2 hMx hEx hTx hRx hall
      refine H30 _ _ ?_
      unfold b_time_30
      have hcx : (x.1 1).toInt = (σ.1 1).toInt := by rw [hEx.1 1 (by decide)]
      have hnx : nC x = (σ.1 1).toInt.toNat := by unfold nC; rw [hcx]
      refine ⟨fun hge => ?_, fun hlt => ?_⟩
      · refine hq x hMx hEx ⟨fun c h => hall c (by omega), fun k hk => (hTx.2.1 k hk).1, hTx.2.2.1, hTx.2.2.2, fun a ha hk => ?_⟩
        obtain ⟨k, h1, h2⟩ := hall a (by omega)
        have := (hTx.2.1 k h1).2.1
        rw [h2] at this
        exact hRx a ha this (fun h => h) hk
      · have u3 : (l1 + 1).toInt = l1.toInt + 1 := i3_addc rfl rfl rfl (by omega)
        have hu := und_le (x.2.1 33) (nC x)
        refine kn_ok ρ 52 _ l1 x (fun _ => False) (by omega) (by omega) hMx (hS.same hEx (by decide)) (hR.same hEx (by decide)) hTx hRx (fun a h => h.elim) (fun y hMy hEy hTy hRy hLy hky => ?_)
        refine ih (l1 + 1) y (by omega) (by omega) hMy (hEx.trans hEy) hTy hRy (fun c h => ?_)
        by_cases e : (c : Int) = l1.toInt
        · have e2 : l1.toInt.toNat = c := by omega
          rw [e2] at hky
          exact hky
        · obtain ⟨k, a, b⟩ := hall c (by omega)
          exact ⟨k, Nat.lt_of_lt_of_le a hLy.1, by rw [hLy.2.1 k a]; exact b⟩
  have L1 : ∀ (d : Nat) (l1 : Int32) (x : VS), (σ.1 1).toInt - l1.toInt < (d : Int) → 0 ≤ l1.toInt ∧ l1.toInt ≤ (σ.1 1).toInt → MI x → Eo [30, 32] [31, 33, 34, 35, 36, 37, 38, 39] σ x → oL x = 0 → (∀ c : Nat, (c : Int) < l1.toInt → (x.2.1 33 c).toInt = 0) → X7 l1 x := by
    intro d
    induction d with
    | zero => intro l1 x k1 k2; omega
    | succ d ih =>
      intro l1 x k1 k2 hMx hEx hox hall
      refine H7 _ _ ?_
      unfold b_time_7
      have hcx : (x.1 1).toInt = (σ.1 1).toInt := by rw [hEx.1 1 (by decide)]
      have hnx : nC x = (σ.1 1).toInt.toNat := by unfold nC; rw [hcx]
      refine ⟨fun hge => ?_, fun hlt => ⟨⟨by omega, by omega⟩, ?_⟩⟩
      · refine L2 51 0 x (by have e : (0 : Int32).toInt = 0 := rfl; omega) (by have e : (0 : Int32).toInt = 0 := rfl; omega) hMx hEx ⟨fun c h1 h2 => absurd (hall c (by omega)) h2, fun k hk => by omega, fun i j hi => by omega, fun k hk => by omega⟩ (fun a h1 h2 => absurd (hall a (by omega)) h2) (fun c h => by have e : (0 : Int32).toInt = 0 := rfl; omega)
      · have u3 : (l1 + 1).toInt = l1.toInt + 1 := i3_addc rfl rfl rfl (by omega)
        obtain ⟨i, hi⟩ : ∃ i : Nat, l1.toInt = (i : Int) := ⟨l1.toInt.toNat, by omega⟩
        refine ih (l1 + 1) _ (by omega) (by omega) (hMx.sa 33 _ _ (show 0 ≤ (0 : Int32).toInt ∧ (0 : Int32).toInt ≤ 1 by decide)) (hEx.sa 33 _ _ (by decide)) hox (fun c h => ?_)
        rw [sa_at x 33 l1 0 hi]
        by_cases e : c = i
        · rw [if_pos e]; rfl
        · rw [if_neg e]; exact hall c (by omega)
  exact L1 51 0 _ (by have e : (0 : Int32).toInt = 0 := rfl; omega) (by have e : (0 : Int32).toInt = 0 := rfl; omega) (hM.sf 32 0 (show 0 ≤ (0 : Int32).toInt ∧ (0 : Int32).toInt ≤ 50 by decide)) (Eo.rfl.sf 32 0 (by decide)) rfl (fun c h => by have e : (0 : Int32).toInt = 0 := rfl; omega)

