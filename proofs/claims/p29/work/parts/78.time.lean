/-- what time() leaves: every cell once in order, behind what it takes; the starts are reached -/
def TD (τ : VS) : Prop := (∀ c, c < nC τ → ∃ k, k < oL τ ∧ oN τ k = c) ∧ (∀ k, k < oL τ → oN τ k < nC τ) ∧ (∀ i j, i < oL τ → j < oL τ → oN τ i = oN τ j → i = j) ∧ (∀ k, k < oL τ → gate τ (oN τ k) → ∀ i : Nat, (i : Int) < Ip τ (oN τ k) → 0 ≤ Tk τ (4 * oN τ k + i) → ∃ k', k' < k ∧ oN τ k' = (Tk τ (4 * oN τ k + i)).toNat) ∧ ∀ a, a < nC τ → (Kd τ a = 0 ∨ Kd τ a = 4) → (τ.2.1 34 a).toInt ≠ 0
theorem TD.same {F A : List Nat} {σ τ : VS} (h : TD σ) (e : Eo F A σ τ) (hk : (1 ∉ F ∧ 32 ∉ F) ∧ 2 ∉ A ∧ 3 ∉ A ∧ 7 ∉ A ∧ 31 ∉ A ∧ 34 ∉ A) : TD τ := by
  unfold TD nC oL oN gate Kd Ip Tk
  rw [e.1 1 hk.1.1, e.1 32 hk.1.2, e.2 2 hk.2.1, e.2 3 hk.2.2.1, e.2 7 hk.2.2.2.1, e.2 31 hk.2.2.2.2.1, e.2 34 hk.2.2.2.2.2]
  exact h
