/-- node delays are in range -/
def NdR (τ : VS) : Prop := ∀ j : Nat, (j : Int) < (τ.1 21).toInt → (0 ≤ vv τ 23 j ∧ vv τ 23 j ≤ 100000) ∧ (0 ≤ vv τ 24 j ∧ vv τ 24 j ≤ 100000)
theorem rx_lateOf {Q : Int32 → VS → Prop} {p1 : Int32} {σ : VS} (h1 : -1 ≤ p1.toInt ∧ p1.toInt < (σ.1 21).toInt) (hS : SI σ) (hM : MI σ) (hN : NdR σ) (hq : ∀ r : Int32, r.toInt = clS (vv σ 22) (vv σ 24) 20 p1.toInt → 0 ≤ r.toInt ∧ r.toInt ≤ 2000000 → Q r σ) : wp_lateOf Q p1 σ := by
  have hn : 0 ≤ (σ.1 21).toInt ∧ (σ.1 21).toInt ≤ 20 := hM.1 21
  obtain ⟨N, eN⟩ : ∃ N : Nat, (σ.1 21).toInt = (N : Int) := ⟨(σ.1 21).toInt.toNat, by omega⟩
  have hp : ∀ j, j < N → vv σ 22 j < (j : Int) := fun j hj => hS.2.1 j (by omega)
  have hw : ∀ j, j < N → 0 ≤ vv σ 24 j ∧ vv σ 24 j ≤ 100000 := fun j hj => (hN j (by omega)).2
  have bd := clS_b hp hw 20
  unfold wp_lateOf
  intro X4 H
  have L : ∀ (d : Nat) (l2 l3 : Int32), l3.toInt < (d : Int) → -1 ≤ l3.toInt ∧ l3.toInt < (σ.1 21).toInt → 0 ≤ l2.toInt → l2.toInt + clS (vv σ 22) (vv σ 24) 20 l3.toInt = clS (vv σ 22) (vv σ 24) 20 p1.toInt → X4 l2 l3 σ := by
    have bp := bd p1.toInt (by omega) (by omega)
    have fin : ∀ l2 l3 : Int32, l3.toInt < 0 → 0 ≤ l2.toInt → l2.toInt + clS (vv σ 22) (vv σ 24) 20 l3.toInt = clS (vv σ 22) (vv σ 24) 20 p1.toInt → Q l2 σ := fun l2 l3 h a e => by
      rw [clS_n h] at e
      exact hq l2 (by omega) (by omega)
    intro d
    induction d with
    | zero =>
      intro l2 l3 h2 h3 h4 e
      refine H l2 l3 σ ?_
      unfold b_lateOf_4
      exact ⟨fun h => fin l2 l3 h h4 e, fun h => by omega⟩
    | succ d ih =>
      intro l2 l3 h2 h3 h4 e
      refine H l2 l3 σ ?_
      unfold b_lateOf_4
      refine ⟨fun h => fin l2 l3 h h4 e, fun h => ⟨⟨by omega, by omega⟩, fun x1 e1 => ⟨⟨by omega, by omega⟩, fun x2 e2 => ?_⟩⟩⟩
      obtain ⟨j, hj⟩ : ∃ j : Nat, l3.toInt = (j : Int) := ⟨l3.toInt.toNat, by omega⟩
      have k1 := hp j (by omega)
      have kw := hw j (by omega)
      have k2 : -1 ≤ vv σ 22 j ∧ vv σ 22 j ≤ 19 := hM.2 22 j
      have bj := bd (vv σ 22 j) (by omega) (by omega)
      rw [hj, clS_t hp (by omega) (by omega)] at e
      have t2 : x2.toInt = vv σ 22 j := by rw [e2]; exact vv_rd hj
      have t1 : x1.toInt = l2.toInt + vv σ 24 j := i3_addc rfl (vv_rd hj) e1 (by omega)
      exact ih x1 x2 (by omega) (by omega) (by omega) (by rw [t1, t2]; omega)
  exact L 20 0 p1 (by omega) h1 (by decide) (by rw [show (0 : Int32).toInt = 0 from rfl, Int.zero_add])
theorem rx_earlyOf {Q : Int32 → VS → Prop} {p1 : Int32} {σ : VS} (h1 : -1 ≤ p1.toInt ∧ p1.toInt < (σ.1 21).toInt) (hS : SI σ) (hM : MI σ) (hN : NdR σ) (hq : ∀ r : Int32, r.toInt = clS (vv σ 22) (vv σ 23) 20 p1.toInt → 0 ≤ r.toInt ∧ r.toInt ≤ 2000000 → Q r σ) : wp_earlyOf Q p1 σ := by
  have hn : 0 ≤ (σ.1 21).toInt ∧ (σ.1 21).toInt ≤ 20 := hM.1 21
  obtain ⟨N, eN⟩ : ∃ N : Nat, (σ.1 21).toInt = (N : Int) := ⟨(σ.1 21).toInt.toNat, by omega⟩
  have hp : ∀ j, j < N → vv σ 22 j < (j : Int) := fun j hj => hS.2.1 j (by omega)
  have hw : ∀ j, j < N → 0 ≤ vv σ 23 j ∧ vv σ 23 j ≤ 100000 := fun j hj => (hN j (by omega)).1
  have bd := clS_b hp hw 20
  unfold wp_earlyOf
  intro X4 H
  have L : ∀ (d : Nat) (l2 l3 : Int32), l3.toInt < (d : Int) → -1 ≤ l3.toInt ∧ l3.toInt < (σ.1 21).toInt → 0 ≤ l2.toInt → l2.toInt + clS (vv σ 22) (vv σ 23) 20 l3.toInt = clS (vv σ 22) (vv σ 23) 20 p1.toInt → X4 l2 l3 σ := by
    have bp := bd p1.toInt (by omega) (by omega)
    have fin : ∀ l2 l3 : Int32, l3.toInt < 0 → 0 ≤ l2.toInt → l2.toInt + clS (vv σ 22) (vv σ 23) 20 l3.toInt = clS (vv σ 22) (vv σ 23) 20 p1.toInt → Q l2 σ := fun l2 l3 h a e => by
      rw [clS_n h] at e
      exact hq l2 (by omega) (by omega)
    intro d
    induction d with
    | zero =>
      intro l2 l3 h2 h3 h4 e
      refine H l2 l3 σ ?_
      unfold b_earlyOf_4
      exact ⟨fun h => fin l2 l3 h h4 e, fun h => by omega⟩
    | succ d ih =>
      intro l2 l3 h2 h3 h4 e
      refine H l2 l3 σ ?_
      unfold b_earlyOf_4
      refine ⟨fun h => fin l2 l3 h h4 e, fun h => ⟨⟨by omega, by omega⟩, fun x1 e1 => ⟨⟨by omega, by omega⟩, fun x2 e2 => ?_⟩⟩⟩
      obtain ⟨j, hj⟩ : ∃ j : Nat, l3.toInt = (j : Int) := ⟨l3.toInt.toNat, by omega⟩
      have k1 := hp j (by omega)
      have kw := hw j (by omega)
      have k2 : -1 ≤ vv σ 22 j ∧ vv σ 22 j ≤ 19 := hM.2 22 j
      have bj := bd (vv σ 22 j) (by omega) (by omega)
      rw [hj, clS_t hp (by omega) (by omega)] at e
      have t2 : x2.toInt = vv σ 22 j := by rw [e2]; exact vv_rd hj
      have t1 : x1.toInt = l2.toInt + vv σ 23 j := i3_addc rfl (vv_rd hj) e1 (by omega)
      exact ih x1 x2 (by omega) (by omega) (by omega) (by rw [t1, t2]; omega)
  exact L 20 0 p1 (by omega) h1 (by decide) (by rw [show (0 : Int32).toInt = 0 from rfl, Int.zero_add])
/-- both sides' sums are the same -/
theorem cl_eq {σ τ : VS} (hM : MI τ) (hS : SI τ) (hN : NdR τ) (hD : Dn σ τ) (hn : σ.1 5 = τ.1 21) : ∀ j : Nat, (j : Int) < (τ.1 21).toInt → vv σ 30 j = clS (vv τ 22) (vv τ 24) 20 (j : Int) ∧ vv σ 29 j = clS (vv τ 22) (vv τ 23) 20 (j : Int) := by
  have h20 : 0 ≤ (τ.1 21).toInt ∧ (τ.1 21).toInt ≤ 20 := hM.1 21
  obtain ⟨N, eN⟩ : ∃ N : Nat, (τ.1 21).toInt = (N : Int) := ⟨(τ.1 21).toInt.toNat, by omega⟩
  have hp : ∀ j, j < N → vv τ 22 j < (j : Int) := fun j hj => hS.2.1 j (by omega)
  have hw : ∀ j, j < N → 0 ≤ vv τ 24 j ∧ vv τ 24 j ≤ 100000 := fun j hj => (hN j (by omega)).2
  have hv : ∀ j, j < N → 0 ≤ vv τ 23 j ∧ vv τ 23 j ≤ 100000 := fun j hj => (hN j (by omega)).1
  have L : ∀ (d j : Nat), j < d → (j : Int) < (τ.1 21).toInt → vv σ 30 j = clS (vv τ 22) (vv τ 24) 20 (j : Int) ∧ vv σ 29 j = clS (vv τ 22) (vv τ 23) 20 (j : Int) := by
    intro d
    induction d with
    | zero => intro j h; omega
    | succ d ih =>
      intro j hj hjN
      have jN : j < N := by omega
      obtain ⟨q1, q2, q3⟩ := hD j (by rw [hn]; exact hjN)
      have k2 : -1 ≤ vv τ 22 j ∧ vv τ 22 j ≤ 19 := hM.2 22 j
      have kp := hp j jN
      have ep : (σ.2.1 28 j).toInt = vv τ 22 j := by rw [q1]; rfl
      have bL := clS_b hp hw 20 (vv τ 22 j) (by omega) (by omega)
      have bE := clS_b hp hv 20 (vv τ 22 j) (by omega) (by omega)
      have pe : (ex (σ.2.1 30) (σ.2.1 28 j)).toInt = clS (vv τ 22) (vv τ 24) 20 (vv τ 22 j) ∧ (ex (σ.2.1 29) (σ.2.1 28 j)).toInt = clS (vv τ 22) (vv τ 23) 20 (vv τ 22 j) := by
        unfold ex
        by_cases z : (σ.2.1 28 j).toInt < 0
        · rw [if_pos z, if_pos z, clS_n (by omega), clS_n (by omega)]; exact ⟨rfl, rfl⟩
        · rw [if_neg z, if_neg z]
          obtain ⟨k, hk⟩ : ∃ k : Nat, vv τ 22 j = (k : Int) := ⟨(vv τ 22 j).toNat, by omega⟩
          have kn : (σ.2.1 28 j).toNatClampNeg = k := by
            have q := i3_nat (i := σ.2.1 28 j) (by omega)
            omega
          rw [kn, hk]
          exact ih k (by omega) (by omega)
      have e30 : vv σ 30 j = clS (vv τ 22) (vv τ 24) 20 (vv τ 22 j) + vv τ 24 j := i3_addc pe.1 rfl q3 (by have := hw j jN; omega)
      have e29 : vv σ 29 j = clS (vv τ 22) (vv τ 23) 20 (vv τ 22 j) + vv τ 23 j := i3_addc pe.2 rfl q2 (by have := hv j jN; omega)
      rw [e30, e29, clS_t hp jN (by omega), clS_t hp jN (by omega)]
      omega
  exact fun j hj => L (j + 1) j (by omega) hj
