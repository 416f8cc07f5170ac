/-- what the list of paths holds, also from earlier: starts that are cells, inputs -/
def LI (σ : VS) : Prop := (∀ p : Nat, (σ.2.1 50 p).toInt < (σ.1 1).toInt ∨ (σ.2.1 50 p).toInt = 0) ∧ ∀ j : Nat, j % 52 ≠ 0 → 0 ≤ (σ.2.1 54 j).toInt
theorem LI.same {F A : List Nat} {σ τ : VS} (h : LI σ) (e : Eo F A σ τ) (hk : 1 ∉ F ∧ 50 ∉ A ∧ 54 ∉ A) : LI τ := by
  unfold LI
  rw [e.1 1 hk.1, e.2 50 hk.2.1, e.2 54 hk.2.2]
  exact h
theorem LI.s50 {σ : VS} (h : LI σ) (i v : Int32) (hv : v.toInt < (σ.1 1).toInt) : LI (sa σ 50 i v) := by
  refine ⟨fun p => ?_, fun j hj => ?_⟩
  · show ((sa σ 50 i v).2.1 50 p).toInt < (σ.1 1).toInt ∨ ((sa σ 50 i v).2.1 50 p).toInt = 0
    rw [sa_same]
    split
    · exact Or.inl hv
    · exact h.1 p
  · rw [sa_other (by decide)]; exact h.2 j hj
theorem LI.s54 {σ : VS} (h : LI σ) (i v : Int32) {n : Nat} (hn : i.toInt = (n : Int)) (hv : n % 52 ≠ 0 → 0 ≤ v.toInt) : LI (sa σ 54 i v) := by
  refine ⟨fun p => ?_, fun j hj => ?_⟩
  · show ((sa σ 54 i v).2.1 50 p).toInt < (σ.1 1).toInt ∨ ((sa σ 54 i v).2.1 50 p).toInt = 0
    rw [sa_other (by decide)]; exact h.1 p
  · rw [sa_at σ 54 i v hn]
    by_cases e : j = n
    · rw [if_pos e]; exact hv (by rw [← e]; exact hj)
    · rw [if_neg e]; exact h.2 j hj
/-- what is left of a sum over wires from p on -/
def swM (M : Nat) (a : Nat → Nat → Bool) (g : Nat → Nat → Nat) (B : Nat → Nat) (X p : Nat) : Nat := sm M (fun w => if p ≤ w ∧ a X w = true then B (g X w) else 0)
def sw (a : Nat → Nat → Bool) (g : Nat → Nat → Nat) (B : Nat → Nat) (X p : Nat) : Nat := swM 200 a g B X p
