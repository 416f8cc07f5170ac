/-- the four counters of both sides agree -/
def Lk (σ τ : VS) : Prop := σ.1 2 = τ.1 1 ∧ σ.1 5 = τ.1 21 ∧ σ.1 6 = τ.1 25 ∧ σ.1 4 = τ.1 20
theorem Lk.quiet {σ τ σ' τ' : VS} (h : Lk σ τ) (a : Gc σ σ') (b : Gm τ τ') : Lk σ' τ' :=
  ⟨by rw [a.1, b.1]; exact h.1, by rw [a.2.2.1, b.2.2.1]; exact h.2.1, by rw [a.2.2.2, b.2.2.2]; exact h.2.2.1, by rw [a.2.1, b.2.1]; exact h.2.2.2⟩
theorem Lk.count {σ τ : VS} {p r r2 : Int32} (h : Lk σ τ) (a : (p.toInt = 0 ∧ r = σ.1 2) ∨ (p.toInt = 1 ∧ r = σ.1 5) ∨ (p.toInt = 2 ∧ r = σ.1 6) ∨ (p.toInt = 3 ∧ r = σ.1 4) ∨ (¬ (0 ≤ p.toInt ∧ p.toInt ≤ 3) ∧ r = -1)) (b : (p.toInt = 0 ∧ r2 = τ.1 1) ∨ (p.toInt = 1 ∧ r2 = τ.1 21) ∨ (p.toInt = 2 ∧ r2 = τ.1 25) ∨ (p.toInt = 3 ∧ r2 = τ.1 20) ∨ (¬ (0 ≤ p.toInt ∧ p.toInt ≤ 3) ∧ r2 = -1)) : r = r2 := by
  obtain ⟨h1, h2, h3, h4⟩ := h
  rcases a with ⟨a, e⟩ | ⟨a, e⟩ | ⟨a, e⟩ | ⟨a, e⟩ | ⟨a, e⟩ <;> rcases b with ⟨b, f⟩ | ⟨b, f⟩ | ⟨b, f⟩ | ⟨b, f⟩ | ⟨b, f⟩ <;> first | (exfalso; omega) | (exact e.trans f.symm) | (rw [e, f]; first | exact h1 | exact h2 | exact h3 | exact h4)
