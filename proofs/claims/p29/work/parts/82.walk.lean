theorem met_same {F A : List Nat} {σ τ : VS} (e : Eo F A σ τ) (hk : 25 ∉ F ∧ 28 ∉ A) (c : Int) : metV τ c = metV σ c := by
  have h : ∀ k, metL τ c k = metL σ c k := by
    intro k
    induction k with
    | zero => rfl
    | succ k ih =>
      show metL τ c k ||| _ = metL σ c k ||| _
      rw [ih, e.2 28 hk.2]
  unfold metV
  rw [e.1 25 hk.1, h]
theorem TD.pos {σ : VS} (h : TD σ) : ∃ pos : Nat → Nat, (∀ c, c < nC σ → pos c < oL σ ∧ oN σ (pos c) = c) ∧ (∀ k, k < oL σ → pos (oN σ k) = k) ∧ ∀ d i : Nat, d < nC σ → gate σ d → (i : Int) < Ip σ d → 0 ≤ Tk σ (4 * d + i) → (Tk σ (4 * d + i)).toNat < nC σ → pos (Tk σ (4 * d + i)).toNat < pos d := by
  have ⟨pos, hpos⟩ : ∃ pos : Nat → Nat, ∀ c, c < nC σ → pos c < oL σ ∧ oN σ (pos c) = c := by
    refine ⟨fun c => if hc : c < nC σ then Classical.choose (h.1 c hc) else 0, fun c hc => ?_⟩
    show (if hc : c < nC σ then Classical.choose (h.1 c hc) else 0) < oL σ ∧ oN σ (if hc : c < nC σ then Classical.choose (h.1 c hc) else 0) = c
    rw [dif_pos hc]
    exact Classical.choose_spec (h.1 c hc)
  have hinv : ∀ k, k < oL σ → pos (oN σ k) = k := fun k hk => by
    have h1 := hpos (oN σ k) (h.2.1 k hk)
    exact h.2.2.1 _ _ h1.1 hk h1.2
  refine ⟨pos, hpos, hinv, fun d i hd hg hi h0 hs => ?_⟩
  have h1 := hpos d hd
  obtain ⟨k', a, b⟩ := h.2.2.2.1 (pos d) h1.1 (by rw [h1.2]; exact hg) i (by rw [h1.2]; exact hi) (by rw [h1.2]; exact h0)
  rw [h1.2] at b
  have h2 := hinv k' (by omega)
  rw [b] at h2
  omega
