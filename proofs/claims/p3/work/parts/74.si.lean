def Kd (σ : VS) (c : Nat) : Int := (σ.2.1 2 c).toInt
def Ip (σ : VS) (c : Nat) : Int := (σ.2.1 3 c).toInt
def Tk (σ : VS) (w : Nat) : Int := (σ.2.1 7 w).toInt
def gate (σ : VS) (c : Nat) : Prop := 0 < Kd σ c ∧ Kd σ c < 4
/-- the gates have no ring -/
def Acy (σ : VS) : Prop := ∃ ρ : Nat → Nat, ∀ d i : Nat, (d : Int) < (σ.1 1).toInt → (i : Int) < Ip σ d → gate σ d → 0 ≤ Tk σ (4 * d + i) → gate σ (Tk σ (4 * d + i)).toNat → ρ (Tk σ (4 * d + i)).toNat < ρ d
def SI (σ : VS) : Prop := (∀ w : Nat, (w : Int) < 4 * (σ.1 1).toInt → Tk σ w < (σ.1 1).toInt) ∧ (∀ j : Nat, (j : Int) < (σ.1 21).toInt → (σ.2.1 22 j).toInt < (j : Int)) ∧ (∀ c : Nat, (c : Int) < (σ.1 1).toInt → (σ.2.1 11 c).toInt < (σ.1 21).toInt) ∧ (∀ c : Nat, (c : Int) < (σ.1 1).toInt → 3 < Kd σ c → Ip σ c = 1) ∧ Acy σ
theorem SI.same {F A : List Nat} {σ τ : VS} (h : SI σ) (e : Eo F A σ τ) (hk : (1 ∉ F ∧ 21 ∉ F) ∧ 2 ∉ A ∧ 3 ∉ A ∧ 7 ∉ A ∧ 11 ∉ A ∧ 22 ∉ A) : SI τ := by
  unfold SI Acy gate Kd Ip Tk
  rw [e.1 1 hk.1.1, e.1 21 hk.1.2, e.2 2 hk.2.1, e.2 3 hk.2.2.1, e.2 7 hk.2.2.2.1, e.2 11 hk.2.2.2.2.1, e.2 22 hk.2.2.2.2.2]
  exact h
theorem rg_earlyOf {Q : Int32 → VS → Prop} {p1 : Int32} {σ : VS} (h1 : -1 ≤ p1.toInt ∧ p1.toInt < (σ.1 21).toInt) (hS : SI σ) (hM : MI σ) (hq : ∀ (r : Int32) (σ' : VS), MI σ' → Eo [] [] σ σ' → Q r σ') : wp_earlyOf Q p1 σ := by
  unfold wp_earlyOf
  intro X4 H
  have hn : 0 ≤ (σ.1 21).toInt ∧ (σ.1 21).toInt ≤ 20 := hM.1 21
  have L : ∀ (d : Nat) (l2 l3 : Int32), l3.toInt < (d : Int) → -1 ≤ l3.toInt ∧ l3.toInt < (σ.1 21).toInt → X4 l2 l3 σ := by
    intro d
    induction d with
    | zero =>
      intro l2 l3 h2 h3
      refine H l2 l3 σ ?_
      unfold b_earlyOf_4
      exact ⟨fun _ => hq l2 σ hM Eo.rfl, fun h => by omega⟩
    | succ d ih =>
      intro l2 l3 h2 h3
      refine H l2 l3 σ ?_
      unfold b_earlyOf_4
      refine ⟨fun _ => hq l2 σ hM Eo.rfl, fun h => ⟨⟨by omega, by omega⟩, fun x1 _ => ⟨⟨by omega, by omega⟩, fun x2 e2 => ?_⟩⟩⟩
      obtain ⟨j, hj⟩ : ∃ j : Nat, l3.toInt = (j : Int) := ⟨l3.toInt.toNat, by omega⟩
      have k1 := hS.2.1 j (by omega)
      have k2 : -1 ≤ x2.toInt ∧ x2.toInt ≤ 19 := by rw [e2]; exact hM.2 22 _
      rw [rd_at σ 22 l3 hj] at e2
      rw [← e2] at k1
      exact ih x1 x2 (by omega) (by omega)
  exact L 20 0 p1 (by omega) h1
theorem rg_lateOf {Q : Int32 → VS → Prop} {p1 : Int32} {σ : VS} (h1 : -1 ≤ p1.toInt ∧ p1.toInt < (σ.1 21).toInt) (hS : SI σ) (hM : MI σ) (hq : ∀ (r : Int32) (σ' : VS), MI σ' → Eo [] [] σ σ' → Q r σ') : wp_lateOf Q p1 σ := by
  unfold wp_lateOf
  intro X4 H
  have hn : 0 ≤ (σ.1 21).toInt ∧ (σ.1 21).toInt ≤ 20 := hM.1 21
  have L : ∀ (d : Nat) (l2 l3 : Int32), l3.toInt < (d : Int) → -1 ≤ l3.toInt ∧ l3.toInt < (σ.1 21).toInt → X4 l2 l3 σ := by
    intro d
    induction d with
    | zero =>
      intro l2 l3 h2 h3
      refine H l2 l3 σ ?_
      unfold b_lateOf_4
      exact ⟨fun _ => hq l2 σ hM Eo.rfl, fun h => by omega⟩
    | succ d ih =>
      intro l2 l3 h2 h3
      refine H l2 l3 σ ?_
      unfold b_lateOf_4
      refine ⟨fun _ => hq l2 σ hM Eo.rfl, fun h => ⟨⟨by omega, by omega⟩, fun x1 _ => ⟨⟨by omega, by omega⟩, fun x2 e2 => ?_⟩⟩⟩
      obtain ⟨j, hj⟩ : ∃ j : Nat, l3.toInt = (j : Int) := ⟨l3.toInt.toNat, by omega⟩
      have k1 := hS.2.1 j (by omega)
      have k2 : -1 ≤ x2.toInt ∧ x2.toInt ≤ 19 := by rw [e2]; exact hM.2 22 _
      rw [rd_at σ 22 l3 hj] at e2
      rw [← e2] at k1
      exact ih x1 x2 (by omega) (by omega)
  exact L 20 0 p1 (by omega) h1
theorem rg_isOnWay {Q : Int32 → VS → Prop} {p1 p2 : Int32} {σ : VS} (h1 : -1 ≤ p2.toInt ∧ p2.toInt < (σ.1 21).toInt) (hS : SI σ) (hM : MI σ) (hq : ∀ (r : Int32), Q r σ) : wp_isOnWay Q p1 p2 σ := by
  unfold wp_isOnWay
  intro X2 H
  have hn : 0 ≤ (σ.1 21).toInt ∧ (σ.1 21).toInt ≤ 20 := hM.1 21
  have L : ∀ (d : Nat) (l3 : Int32), l3.toInt < (d : Int) → -1 ≤ l3.toInt ∧ l3.toInt < (σ.1 21).toInt → X2 p1 l3 σ := by
    intro d
    induction d with
    | zero =>
      intro l3 h2 h3
      refine H p1 l3 σ ?_
      unfold b_isOnWay_2
      exact ⟨fun _ => hq 0, fun h => by omega⟩
    | succ d ih =>
      intro l3 h2 h3
      refine H p1 l3 σ ?_
      unfold b_isOnWay_2
      refine ⟨fun _ => hq 0, fun h => ⟨fun _ => ⟨⟨by omega, by omega⟩, fun x2 e2 => ?_⟩, fun _ => hq 1⟩⟩
      obtain ⟨j, hj⟩ : ∃ j : Nat, l3.toInt = (j : Int) := ⟨l3.toInt.toNat, by omega⟩
      have k1 := hS.2.1 j (by omega)
      have k2 : -1 ≤ x2.toInt ∧ x2.toInt ≤ 19 := by rw [e2]; exact hM.2 22 _
      rw [rd_at σ 22 l3 hj] at e2
      rw [← e2] at k1
      exact ih x2 (by omega) (by omega)
  exact L 20 p2 (by omega) h1
theorem nd_ok {σ : VS} (hS : SI σ) (hM : MI σ) {p1 : Int32} (h : 0 ≤ p1.toInt ∧ p1.toInt < (σ.1 1).toInt) : -1 ≤ (rd σ 11 p1).toInt ∧ (rd σ 11 p1).toInt < (σ.1 21).toInt := by
  obtain ⟨j, hj⟩ : ∃ j : Nat, p1.toInt = (j : Int) := ⟨p1.toInt.toNat, by omega⟩
  have k2 : -1 ≤ (rd σ 11 p1).toInt ∧ (rd σ 11 p1).toInt ≤ 19 := hM.2 11 _
  have k1 := hS.2.2.1 j (by omega)
  rw [← rd_at σ 11 p1 hj] at k1
  exact ⟨k2.1, k1⟩
theorem rg_shared {Q : Int32 → VS → Prop} {p1 p2 : Int32} {σ : VS} (h1 : 0 ≤ p1.toInt ∧ p1.toInt < (σ.1 1).toInt) (h2 : 0 ≤ p2.toInt ∧ p2.toInt < (σ.1 1).toInt) (hS : SI σ) (hM : MI σ) (hq : ∀ (r : Int32) (σ' : VS), MI σ' → Eo [] [] σ σ' → Q r σ') : wp_shared Q p1 p2 σ := by
  unfold wp_shared
  intro X27 H
  have hc : 0 ≤ (σ.1 1).toInt ∧ (σ.1 1).toInt ≤ 50 := hM.1 1
  have hn : 0 ≤ (σ.1 21).toInt ∧ (σ.1 21).toInt ≤ 20 := hM.1 21
  have L : ∀ (d : Nat) (l3 l4 : Int32), 20 - l4.toInt < (d : Int) → 0 ≤ l4.toInt ∧ l4.toInt ≤ 20 → X27 p1 p2 l3 l4 σ := by
    intro d
    induction d with
    | zero => intro l3 l4 k1 k2; omega
    | succ d ih =>
      intro l3 l4 k1 k2
      refine H p1 p2 l3 l4 σ ?_
      unfold b_shared_27
      refine ⟨fun _ => hq l3 σ hM Eo.rfl, fun hlt => ⟨⟨by omega, by omega⟩, ?_⟩⟩
      have t1 : (l4 + 1).toInt = l4.toInt + 1 := i3_addc rfl rfl rfl (by omega)
      refine rg_isOnWay (nd_ok hS hM h1) hS hM (fun r => ⟨fun _ => ?_, fun _ => ⟨⟨by omega, by omega⟩, ?_⟩⟩)
      · unfold b_shared_84; exact ih l3 (l4 + 1) (by omega) (by omega)
      · refine rg_isOnWay (nd_ok hS hM h2) hS hM (fun r2 => ⟨fun _ => ?_, fun _ => ⟨⟨by omega, by omega⟩, ⟨by omega, by omega⟩, fun x _ => ?_⟩⟩)
        · unfold b_shared_84; exact ih l3 (l4 + 1) (by omega) (by omega)
        · unfold b_shared_84; exact ih x (l4 + 1) (by omega) (by omega)
  refine ⟨⟨by omega, by omega⟩, fun _ => hq 0 σ hM Eo.rfl, fun _ => ⟨⟨by omega, by omega⟩, fun _ => L 21 0 0 (by decide) (by decide), fun _ => hq 0 σ hM Eo.rfl⟩⟩
theorem rg_startLate {Q : Int32 → VS → Prop} {p1 p2 : Int32} {σ : VS} (h1 : 0 ≤ p1.toInt ∧ p1.toInt < (σ.1 1).toInt) (h2 : 0 ≤ p2.toInt ∧ p2.toInt ≤ 1) (hS : SI σ) (hM : MI σ) (hq : ∀ (r : Int32) (σ' : VS), MI σ' → Eo [] [] σ σ' → Q r σ') : wp_startLate Q p1 p2 σ := by
  have hc : 0 ≤ (σ.1 1).toInt ∧ (σ.1 1).toInt ≤ 50 := hM.1 1
  have t1 : (8 * p1).toInt = 8 * p1.toInt := i3_mulc rfl rfl rfl (by omega)
  have t2 : (8 * p1 + p2).toInt = (8 * p1).toInt + p2.toInt := i3_addc rfl rfl rfl (by omega)
  unfold wp_startLate b_startLate_40
  exact ⟨⟨by omega, by omega⟩, fun _ => ⟨⟨by omega, by omega⟩, rg_lateOf (nd_ok hS hM h1) hS hM (fun r σ' hM' hE => ⟨⟨by omega, by omega⟩, hq _ σ' hM' hE⟩)⟩, fun _ => ⟨⟨by omega, by omega⟩, hq _ σ hM Eo.rfl⟩⟩
theorem rg_startEarly {Q : Int32 → VS → Prop} {p1 p2 : Int32} {σ : VS} (h1 : 0 ≤ p1.toInt ∧ p1.toInt < (σ.1 1).toInt) (h2 : 0 ≤ p2.toInt ∧ p2.toInt ≤ 1) (hS : SI σ) (hM : MI σ) (hq : ∀ (r : Int32) (σ' : VS), MI σ' → Eo [] [] σ σ' → Q r σ') : wp_startEarly Q p1 p2 σ := by
  have hc : 0 ≤ (σ.1 1).toInt ∧ (σ.1 1).toInt ≤ 50 := hM.1 1
  have t1 : (8 * p1).toInt = 8 * p1.toInt := i3_mulc rfl rfl rfl (by omega)
  have t2 : (8 * p1 + p2).toInt = (8 * p1).toInt + p2.toInt := i3_addc rfl rfl rfl (by omega)
  unfold wp_startEarly b_startEarly_40
  exact ⟨⟨by omega, by omega⟩, fun _ => ⟨⟨by omega, by omega⟩, rg_earlyOf (nd_ok hS hM h1) hS hM (fun r σ' hM' hE => ⟨⟨by omega, by omega⟩, hq _ σ' hM' hE⟩)⟩, fun _ => ⟨⟨by omega, by omega⟩, hq _ σ hM Eo.rfl⟩⟩

