def Kd (σ : VS) (c : Nat) : Int := (σ.2.1 2 c).toInt
def Ip (σ : VS) (c : Nat) : Int := (σ.2.1 3 c).toInt
def Tk (σ : VS) (w : Nat) : Int := (σ.2.1 7 w).toInt
def gate (σ : VS) (c : Nat) : Prop := 0 < Kd σ c ∧ Kd σ c < 4
/-- the gates have no ring -/
def Acy (σ : VS) : Prop := ∃ ρ : Nat → Nat, ∀ d i : Nat, (d : Int) < (σ.1 1).toInt → (i : Int) < Ip σ d → gate σ d → 0 ≤ Tk σ (4 * d + i) → gate σ (Tk σ (4 * d + i)).toNat → ρ (Tk σ (4 * d + i)).toNat < ρ d
def SI (σ : VS) : Prop := (∀ w : Nat, (w : Int) < 4 * (σ.1 1).toInt → Tk σ w < (σ.1 1).toInt) ∧ (∀ j : Nat, (j : Int) < (σ.1 21).toInt → (σ.2.1 22 j).toInt < (j : Int)) ∧ (∀ c : Nat, (c : Int) < (σ.1 1).toInt → (σ.2.1 11 c).toInt < (σ.1 21).toInt) ∧ (∀ c : Nat, (c : Int) < (σ.1 1).toInt → 3 < Kd σ c → Ip σ c = 1) ∧ Acy σ
theorem SI.same {F A : List Nat} {σ τ : VS} (h : SI σ) (e : Eo F A σ τ) (hk : (1 ∉ F ∧ 21 ∉ F) ∧ 2 ∉ A ∧ 3 ∉ A ∧ 7 ∉ A ∧ 11 ∉ A ∧ 22 ∉ A) : SI τ := by
  unfold SI Acy gate Kd Ip Tk
  rw [e.1 1 hk.1.1, e.1 21 hk.1.2, e.2 2 hk.2.1, e.2 3 hk.2.2.1, e.2 7 hk.2.2.2.1, e.2 11 hk.2.2.2.2.1, e.2 22 hk.2.2.2.2.2]
  exact h
theorem nd_ok {σ : VS} (hS : SI σ) (hM : MI σ) {p1 : Int32} (h : 0 ≤ p1.toInt ∧ p1.toInt < (σ.1 1).toInt) : -1 ≤ (rd σ 11 p1).toInt ∧ (rd σ 11 p1).toInt < (σ.1 21).toInt := by
  obtain ⟨j, hj⟩ : ∃ j : Nat, p1.toInt = (j : Int) := ⟨p1.toInt.toNat, by omega⟩
  have k2 : -1 ≤ (rd σ 11 p1).toInt ∧ (rd σ 11 p1).toInt ≤ 19 := hM.2 11 _
  have k1 := hS.2.2.1 j (by omega)
  rw [← rd_at σ 11 p1 hj] at k1
  exact ⟨k2.1, k1⟩
