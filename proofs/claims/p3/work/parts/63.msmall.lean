set_option maxHeartbeats 2000000 in
theorem rg_isRow {Q : Int32 → VS → Prop} {p1 : Int32} {p2 : Int32} {p3 : Int32} {σ : VS} (hM : MI σ) (hq : ∀ (r : Int32) (σ' : VS), 0 ≤ r.toInt ∧ r.toInt ≤ 1 → (r.toInt ≠ 0 → 0 ≤ p1.toInt ∧ p1.toInt ≤ 7 ∧ 0 ≤ p2.toInt ∧ p2.toInt ≤ 1 ∧ 0 ≤ p3.toInt ∧ p3.toInt ≤ 3) → MI σ' → Eo [] [] σ σ' → Q r σ') : wp_isRow Q p1 p2 p3 σ := by
  unfold wp_isRow
  have hE : Eo [] [] σ σ := Eo.rfl
  refine ⟨fun c1 => ?_, fun c1 => ?_⟩
  · unfold b_isRow_32
    suffices hs : ∀ (q2 : Int32), q2.toInt = 0 → b_isRow_33 Q q2 σ from hs 0 rfl
    intro q2 hq2
    unfold b_isRow_33
    refine ⟨⟨by omega, by omega⟩, ?_⟩
    exact hq q2 σ ⟨by omega, by omega⟩ (by intro h9; omega) hM hE
  · refine ⟨fun c3 => ?_, fun c3 => ?_⟩
    · unfold b_isRow_32
      suffices hs : ∀ (q4 : Int32), q4.toInt = 0 → b_isRow_33 Q q4 σ from hs 0 rfl
      intro q4 hq4
      unfold b_isRow_33
      refine ⟨⟨by omega, by omega⟩, ?_⟩
      exact hq q4 σ ⟨by omega, by omega⟩ (by intro h9; omega) hM hE
    · refine ⟨fun c5 => ?_, fun c5 => ?_⟩
      · unfold b_isRow_32
        suffices hs : ∀ (q6 : Int32), q6.toInt = 0 → b_isRow_33 Q q6 σ from hs 0 rfl
        intro q6 hq6
        unfold b_isRow_33
        refine ⟨⟨by omega, by omega⟩, ?_⟩
        exact hq q6 σ ⟨by omega, by omega⟩ (by intro h9; omega) hM hE
      · refine ⟨fun c7 => ?_, fun c7 => ?_⟩
        · unfold b_isRow_32
          suffices hs : ∀ (q8 : Int32), q8.toInt = 0 → b_isRow_33 Q q8 σ from hs 0 rfl
          intro q8 hq8
          unfold b_isRow_33
          refine ⟨⟨by omega, by omega⟩, ?_⟩
          exact hq q8 σ ⟨by omega, by omega⟩ (by intro h9; omega) hM hE
        · refine ⟨fun c9 => ?_, fun c9 => ?_⟩
          · unfold b_isRow_32
            suffices hs : ∀ (q10 : Int32), q10.toInt = 0 → b_isRow_33 Q q10 σ from hs 0 rfl
            intro q10 hq10
            unfold b_isRow_33
            refine ⟨⟨by omega, by omega⟩, ?_⟩
            exact hq q10 σ ⟨by omega, by omega⟩ (by intro h9; omega) hM hE
          · refine ⟨fun c11 => ?_, fun c11 => ?_⟩
            · unfold b_isRow_32
              suffices hs : ∀ (q12 : Int32), q12.toInt = 0 → b_isRow_33 Q q12 σ from hs 0 rfl
              intro q12 hq12
              unfold b_isRow_33
              refine ⟨⟨by omega, by omega⟩, ?_⟩
              exact hq q12 σ ⟨by omega, by omega⟩ (by intro h9; omega) hM hE
            · suffices hs : ∀ (q13 : Int32), q13.toInt = 1 → b_isRow_33 Q q13 σ from hs 1 rfl
              intro q13 hq13
              unfold b_isRow_33
              refine ⟨⟨by omega, by omega⟩, ?_⟩
              exact hq q13 σ ⟨by omega, by omega⟩ (by intro h9; omega) hM hE
set_option maxHeartbeats 2000000 in
theorem rg_isCell {Q : Int32 → VS → Prop} {p1 : Int32} {σ : VS} (hM : MI σ) (hq : ∀ (r : Int32) (σ' : VS), 0 ≤ r.toInt ∧ r.toInt ≤ 1 → (r.toInt ≠ 0 → 0 ≤ p1.toInt ∧ p1.toInt < (σ.1 1).toInt) → MI σ' → Eo [] [] σ σ' → Q r σ') : wp_isCell Q p1 σ := by
  unfold wp_isCell
  have hE : Eo [] [] σ σ := Eo.rfl
  refine ⟨fun c1 => ?_, fun c1 => ?_⟩
  · unfold b_isCell_16
    suffices hs : ∀ (q2 : Int32), q2.toInt = 0 → b_isCell_17 Q q2 σ from hs 0 rfl
    intro q2 hq2
    unfold b_isCell_17
    refine ⟨⟨by omega, by omega⟩, ?_⟩
    exact hq q2 σ ⟨by omega, by omega⟩ (by intro h9; omega) hM hE
  · have f3 : 0 ≤ (σ.1 1).toInt ∧ (σ.1 1).toInt ≤ 50 := hM.1 1
    refine ⟨fun c4 => ?_, fun c4 => ?_⟩
    · unfold b_isCell_16
      suffices hs : ∀ (q5 : Int32), q5.toInt = 0 → b_isCell_17 Q q5 σ from hs 0 rfl
      intro q5 hq5
      unfold b_isCell_17
      refine ⟨⟨by omega, by omega⟩, ?_⟩
      exact hq q5 σ ⟨by omega, by omega⟩ (by intro h9; omega) hM hE
    · suffices hs : ∀ (q6 : Int32), q6.toInt = 1 → b_isCell_17 Q q6 σ from hs 1 rfl
      intro q6 hq6
      unfold b_isCell_17
      refine ⟨⟨by omega, by omega⟩, ?_⟩
      exact hq q6 σ ⟨by omega, by omega⟩ (by intro h9; omega) hM hE
set_option maxHeartbeats 2000000 in
theorem rg_isGate {Q : Int32 → VS → Prop} {p1 : Int32} {σ : VS} (h_p1 : 0 ≤ p1.toInt ∧ p1.toInt ≤ 49) (hM : MI σ) (hq : ∀ (r : Int32) (σ' : VS), 0 ≤ r.toInt ∧ r.toInt ≤ 1 → MI σ' → Eo [] [] σ σ' → Q r σ') : wp_isGate Q p1 σ := by
  unfold wp_isGate
  have hE : Eo [] [] σ σ := Eo.rfl
  refine ⟨⟨by omega, by omega⟩, ?_⟩
  have a1 : 0 ≤ (rd σ 2 p1).toInt ∧ (rd σ 2 p1).toInt ≤ 5 := hM.2 2 _
  refine ⟨fun c2 => ?_, fun c2 => ?_⟩
  · unfold b_isGate_23
    suffices hs : ∀ (q3 : Int32), q3.toInt = 0 → b_isGate_24 Q q3 σ from hs 0 rfl
    intro q3 hq3
    unfold b_isGate_24
    refine ⟨⟨by omega, by omega⟩, ?_⟩
    exact hq q3 σ ⟨by omega, by omega⟩ hM hE
  · refine ⟨⟨by omega, by omega⟩, ?_⟩
    refine ⟨fun c4 => ?_, fun c4 => ?_⟩
    · unfold b_isGate_23
      suffices hs : ∀ (q5 : Int32), q5.toInt = 0 → b_isGate_24 Q q5 σ from hs 0 rfl
      intro q5 hq5
      unfold b_isGate_24
      refine ⟨⟨by omega, by omega⟩, ?_⟩
      exact hq q5 σ ⟨by omega, by omega⟩ hM hE
    · suffices hs : ∀ (q6 : Int32), q6.toInt = 1 → b_isGate_24 Q q6 σ from hs 1 rfl
      intro q6 hq6
      unfold b_isGate_24
      refine ⟨⟨by omega, by omega⟩, ?_⟩
      exact hq q6 σ ⟨by omega, by omega⟩ hM hE
set_option maxHeartbeats 2000000 in
theorem rg_isTarget {Q : Int32 → VS → Prop} {p1 : Int32} {σ : VS} (h_p1 : 0 ≤ p1.toInt ∧ p1.toInt ≤ 49) (hM : MI σ) (hq : ∀ (r : Int32) (σ' : VS), 0 ≤ r.toInt ∧ r.toInt ≤ 1 → MI σ' → Eo [] [] σ σ' → Q r σ') : wp_isTarget Q p1 σ := by
  unfold wp_isTarget
  have hE : Eo [] [] σ σ := Eo.rfl
  refine ⟨⟨by omega, by omega⟩, ?_⟩
  have a1 : 0 ≤ (rd σ 2 p1).toInt ∧ (rd σ 2 p1).toInt ≤ 5 := hM.2 2 _
  refine ⟨fun c2 => ?_, fun c2 => ?_⟩
  · suffices hs : ∀ (q3 : Int32), q3.toInt = 0 → b_isTarget_15 Q q3 σ from hs 0 rfl
    intro q3 hq3
    unfold b_isTarget_15
    refine ⟨⟨by omega, by omega⟩, ?_⟩
    exact hq q3 σ ⟨by omega, by omega⟩ hM hE
  · suffices hs : ∀ (q4 : Int32), q4.toInt = 1 → b_isTarget_15 Q q4 σ from hs 1 rfl
    intro q4 hq4
    unfold b_isTarget_15
    refine ⟨⟨by omega, by omega⟩, ?_⟩
    exact hq q4 σ ⟨by omega, by omega⟩ hM hE
set_option maxHeartbeats 2000000 in
theorem rg_isStart {Q : Int32 → VS → Prop} {p1 : Int32} {σ : VS} (h_p1 : 0 ≤ p1.toInt ∧ p1.toInt ≤ 49) (hM : MI σ) (hq : ∀ (r : Int32) (σ' : VS), 0 ≤ r.toInt ∧ r.toInt ≤ 1 → MI σ' → Eo [] [] σ σ' → Q r σ') : wp_isStart Q p1 σ := by
  unfold wp_isStart
  have hE : Eo [] [] σ σ := Eo.rfl
  refine ⟨⟨by omega, by omega⟩, ?_⟩
  have a1 : 0 ≤ (rd σ 2 p1).toInt ∧ (rd σ 2 p1).toInt ≤ 5 := hM.2 2 _
  refine ⟨fun c2 => ?_, fun c2 => ?_⟩
  · unfold b_isStart_19
    refine ⟨⟨by omega, by omega⟩, ?_⟩
    refine ⟨fun c3 => ?_, fun c3 => ?_⟩
    · unfold b_isStart_32
      suffices hs : ∀ (q4 : Int32), q4.toInt = 0 → b_isStart_33 Q q4 σ from hs 0 rfl
      intro q4 hq4
      unfold b_isStart_33
      refine ⟨⟨by omega, by omega⟩, ?_⟩
      exact hq q4 σ ⟨by omega, by omega⟩ hM hE
    · suffices hs : ∀ (q5 : Int32), q5.toInt = 1 → b_isStart_33 Q q5 σ from hs 1 rfl
      intro q5 hq5
      unfold b_isStart_33
      refine ⟨⟨by omega, by omega⟩, ?_⟩
      exact hq q5 σ ⟨by omega, by omega⟩ hM hE
  · refine ⟨⟨by omega, by omega⟩, ?_⟩
    refine ⟨fun c6 => ?_, fun c6 => ?_⟩
    · unfold b_isStart_32
      suffices hs : ∀ (q7 : Int32), q7.toInt = 0 → b_isStart_33 Q q7 σ from hs 0 rfl
      intro q7 hq7
      unfold b_isStart_33
      refine ⟨⟨by omega, by omega⟩, ?_⟩
      exact hq q7 σ ⟨by omega, by omega⟩ hM hE
    · unfold b_isStart_19
      refine ⟨⟨by omega, by omega⟩, ?_⟩
      refine ⟨fun c8 => ?_, fun c8 => ?_⟩
      · unfold b_isStart_32
        suffices hs : ∀ (q9 : Int32), q9.toInt = 0 → b_isStart_33 Q q9 σ from hs 0 rfl
        intro q9 hq9
        unfold b_isStart_33
        refine ⟨⟨by omega, by omega⟩, ?_⟩
        exact hq q9 σ ⟨by omega, by omega⟩ hM hE
      · suffices hs : ∀ (q10 : Int32), q10.toInt = 1 → b_isStart_33 Q q10 σ from hs 1 rfl
        intro q10 hq10
        unfold b_isStart_33
        refine ⟨⟨by omega, by omega⟩, ?_⟩
        exact hq q10 σ ⟨by omega, by omega⟩ hM hE
set_option maxHeartbeats 2000000 in
theorem rg_isOpenTarget {Q : Int32 → VS → Prop} {p1 : Int32} {σ : VS} (h_p1 : 0 ≤ p1.toInt ∧ p1.toInt ≤ 49) (hM : MI σ) (hq : ∀ (r : Int32) (σ' : VS), 0 ≤ r.toInt ∧ r.toInt ≤ 1 → MI σ' → Eo [] [] σ σ' → Q r σ') : wp_isOpenTarget Q p1 σ := by
  unfold wp_isOpenTarget
  have hE : Eo [] [] σ σ := Eo.rfl
  generalize ey1 : (4 * p1) = y1
  replace ey1 := ey1.symm
  have ty1 : y1.toInt = 4 * p1.toInt := i3_mulc rfl rfl ey1 (by omega)
  clear ey1
  refine ⟨⟨by omega, by omega⟩, ?_⟩
  have a2 : (-1) ≤ (rd σ 7 y1).toInt ∧ (rd σ 7 y1).toInt ≤ 49 := hM.2 7 _
  refine ⟨fun c3 => ?_, fun c3 => ?_⟩
  · unfold b_isOpenTarget_31
    suffices hs : ∀ (q4 : Int32), q4.toInt = 0 → b_isOpenTarget_32 Q q4 σ from hs 0 rfl
    intro q4 hq4
    unfold b_isOpenTarget_32
    refine ⟨⟨by omega, by omega⟩, ?_⟩
    exact hq q4 σ ⟨by omega, by omega⟩ hM hE
  · refine ⟨⟨by omega, by omega⟩, ?_⟩
    refine ⟨⟨by omega, by omega⟩, ?_⟩
    refine ⟨fun c5 => ?_, fun c5 => ?_⟩
    · unfold b_isOpenTarget_31
      suffices hs : ∀ (q6 : Int32), q6.toInt = 0 → b_isOpenTarget_32 Q q6 σ from hs 0 rfl
      intro q6 hq6
      unfold b_isOpenTarget_32
      refine ⟨⟨by omega, by omega⟩, ?_⟩
      exact hq q6 σ ⟨by omega, by omega⟩ hM hE
    · suffices hs : ∀ (q7 : Int32), q7.toInt = 1 → b_isOpenTarget_32 Q q7 σ from hs 1 rfl
      intro q7 hq7
      unfold b_isOpenTarget_32
      refine ⟨⟨by omega, by omega⟩, ?_⟩
      exact hq q7 σ ⟨by omega, by omega⟩ hM hE
set_option maxHeartbeats 2000000 in
theorem rg_metBy {Q : Int32 → VS → Prop} {p1 : Int32} {σ : VS} (hM : MI σ) (hq : ∀ (r : Int32) (σ' : VS), 0 ≤ r.toInt ∧ r.toInt ≤ 15 → MI σ' → Eo [] [] σ σ' → Q r σ') : wp_metBy Q p1 σ := by
  unfold wp_metBy
  intro X4 H_4
  have hE : Eo [] [] σ σ := Eo.rfl
  obtain ⟨σ0, h0⟩ : ∃ z : VS, z = σ := ⟨_, rfl⟩
  rw [← h0] at hq
  replace hE : Eo [] [] σ0 σ := by rw [h0]; exact hE
  clear h0
  have L_4_n1 : ∀ (n1 : Nat) (l1 : Int32) (l2 : Int32) (l3 : Int32) (σ : VS), 4 - l3.toInt < (n1 : Int) → 0 ≤ l2.toInt ∧ l2.toInt ≤ 15 → 0 ≤ l3.toInt ∧ l3.toInt ≤ 4 → MI σ → Eo [] [] σ0 σ → X4 l1 l2 l3 σ := by
    intro n1
    induction n1 with
    | zero => intro l1 l2 l3 σ hm h_l2 h_l3 hM hE; exfalso; omega
    | succ n1 ih_n1 =>
      intro l1 l2 l3 σ hm h_l2 h_l3 hM hE
      have hm2_4 : 4 - l3.toInt < (n1 : Int) + 1 := by omega
      refine H_4 l1 l2 l3 σ ?_
      unfold b_metBy_4
      have f2 : 0 ≤ (σ.1 25).toInt ∧ (σ.1 25).toInt ≤ 4 := hM.1 25
      refine ⟨fun c3 => ?_, fun c3 => ?_⟩
      · exact hq l2 σ ⟨by omega, by omega⟩ hM hE
      · refine ⟨⟨by omega, by omega⟩, ?_⟩
        have a4 : (-1) ≤ (rd σ 28 l3).toInt ∧ (rd σ 28 l3).toInt ≤ 49 := hM.2 28 _
        refine ⟨fun c5 => ?_, fun c5 => ?_⟩
        · suffices hs : ∀ (q6 : Int32), q6.toInt = 0 → b_metBy_30 X4 Q l1 l3 q6 l2 σ from hs 0 rfl
          intro q6 hq6
          unfold b_metBy_30
          generalize ey7 : (l2 ||| q6) = y7
          replace ey7 := ey7.symm
          have ty7 := i3_or15 ey7 (by omega) (by omega)
          clear ey7
          intro x8 ex8
          have ix8 : x8.toInt = y7.toInt := by rw [ex8]
          generalize ey9 : (l3 + 1) = y9
          replace ey9 := ey9.symm
          have ty9 : y9.toInt = l3.toInt + 1 := i3_addc rfl rfl ey9 (by omega)
          clear ey9
          have bd10 := i3_bd l1
          exact ih_n1 l1 x8 y9 σ (by omega) (by first | omega | decide | (have e0 : (0 : Int32).toInt = 0 := rfl; omega)) (by first | omega | decide | (have e0 : (0 : Int32).toInt = 0 := rfl; omega)) hM hE
        · generalize ey11 : (1 <<< (l3 &&& 31)) = y11
          replace ey11 := ey11.symm
          have ty11 := i3_shl3 ey11 (by omega)
          clear ey11
          unfold b_metBy_30
          generalize ey12 : (l2 ||| y11) = y12
          replace ey12 := ey12.symm
          have ty12 := i3_or15 ey12 (by omega) (by omega)
          clear ey12
          intro x13 ex13
          have ix13 : x13.toInt = y12.toInt := by rw [ex13]
          generalize ey14 : (l3 + 1) = y14
          replace ey14 := ey14.symm
          have ty14 : y14.toInt = l3.toInt + 1 := i3_addc rfl rfl ey14 (by omega)
          clear ey14
          exact ih_n1 l1 x13 y14 σ (by omega) (by first | omega | decide | (have e0 : (0 : Int32).toInt = 0 := rfl; omega)) (by first | omega | decide | (have e0 : (0 : Int32).toInt = 0 := rfl; omega)) hM hE
  exact L_4_n1 ((4 - (0 : Int32).toInt).toNat + 1) p1 0 0 σ (by decide) (by first | omega | decide | (have e0 : (0 : Int32).toInt = 0 := rfl; omega)) (by first | omega | decide | (have e0 : (0 : Int32).toInt = 0 := rfl; omega)) hM hE
set_option maxHeartbeats 2000000 in
theorem rg_periodsOf {Q : Int32 → VS → Prop} {p1 : Int32} {p2 : Int32} {p3 : Int32} {σ : VS} (hM : MI σ) (hq : ∀ (r : Int32) (σ' : VS), 0 ≤ r.toInt ∧ r.toInt ≤ 4 → MI σ' → Eo [] [] σ σ' → Q r σ') : wp_periodsOf Q p1 p2 p3 σ := by
  unfold wp_periodsOf
  intro X6 H_6
  have hE : Eo [] [] σ σ := Eo.rfl
  obtain ⟨σ0, h0⟩ : ∃ z : VS, z = σ := ⟨_, rfl⟩
  rw [← h0] at hq
  replace hE : Eo [] [] σ0 σ := by rw [h0]; exact hE
  clear h0
  have L_6_n1 : ∀ (n1 : Nat) (l1 : Int32) (l2 : Int32) (l3 : Int32) (l4 : Int32) (l5 : Int32) (σ : VS), 4 - l5.toInt < (n1 : Int) → 0 ≤ l4.toInt ∧ l4.toInt ≤ 4 → 0 ≤ l5.toInt ∧ l5.toInt ≤ 4 → MI σ → Eo [] [] σ0 σ → X6 l1 l2 l3 l4 l5 σ := by
    intro n1
    induction n1 with
    | zero => intro l1 l2 l3 l4 l5 σ hm h_l4 h_l5 hM hE; exfalso; omega
    | succ n1 ih_n1 =>
      intro l1 l2 l3 l4 l5 σ hm h_l4 h_l5 hM hE
      have hm2_6 : 4 - l5.toInt < (n1 : Int) + 1 := by omega
      refine H_6 l1 l2 l3 l4 l5 σ ?_
      unfold b_periodsOf_6
      have f2 : 0 ≤ (σ.1 25).toInt ∧ (σ.1 25).toInt ≤ 4 := hM.1 25
      refine ⟨fun c3 => ?_, fun c3 => ?_⟩
      · exact hq l4 σ ⟨by omega, by omega⟩ hM hE
      · refine ⟨⟨by omega, by omega⟩, ?_⟩
        have a4 : (-1) ≤ (rd σ 27 l5).toInt ∧ (rd σ 27 l5).toInt ≤ 49 := hM.2 27 _
        refine ⟨fun c5 => ?_, fun c5 => ?_⟩
        · unfold b_periodsOf_36
          refine ⟨⟨by omega, by omega⟩, ?_⟩
          have a6 : (-1) ≤ (rd σ 28 l5).toInt ∧ (rd σ 28 l5).toInt ≤ 49 := hM.2 28 _
          refine ⟨fun c7 => ?_, fun c7 => ?_⟩
          · unfold b_periodsOf_56
            refine ⟨⟨by omega, by omega⟩, ?_⟩
            have a8 : (-1) ≤ (rd σ 29 l5).toInt ∧ (rd σ 29 l5).toInt ≤ 49 := hM.2 29 _
            refine ⟨fun c9 => ?_, fun c9 => ?_⟩
            · unfold b_periodsOf_77
              suffices hs : ∀ (q10 : Int32), q10.toInt = 1 → b_periodsOf_82 X6 Q l1 l2 l3 l4 l5 q10 σ from hs 1 rfl
              intro q10 hq10
              unfold b_periodsOf_82
              refine ⟨fun c11 => ?_, fun c11 => ?_⟩
              · exfalso; omega
              · refine ⟨⟨by omega, by omega⟩, ?_⟩
                have a12 : 0 ≤ (rd σ 26 l5).toInt ∧ (rd σ 26 l5).toInt ≤ 4 := hM.2 26 _
                suffices hs : ∀ (q13 : Int32), q13.toInt = (rd σ 26 l5).toInt → b_periodsOf_101 X6 Q l1 l2 l3 l5 q13 σ from hs (rd σ 26 l5) rfl
                intro q13 hq13
                unfold b_periodsOf_101
                generalize ey14 : (l5 + 1) = y14
                replace ey14 := ey14.symm
                have ty14 : y14.toInt = l5.toInt + 1 := i3_addc rfl rfl ey14 (by omega)
                clear ey14
                have bd15 := i3_bd l1
                have bd16 := i3_bd l2
                have bd17 := i3_bd l3
                exact ih_n1 l1 l2 l3 q13 y14 σ (by omega) (by first | omega | decide | (have e0 : (0 : Int32).toInt = 0 := rfl; omega)) (by first | omega | decide | (have e0 : (0 : Int32).toInt = 0 := rfl; omega)) hM hE
            · refine ⟨⟨by omega, by omega⟩, ?_⟩
              refine ⟨fun c18 => ?_, fun c18 => ?_⟩
              · unfold b_periodsOf_81
                suffices hs : ∀ (q19 : Int32), q19.toInt = 0 → b_periodsOf_82 X6 Q l1 l2 l3 l4 l5 q19 σ from hs 0 rfl
                intro q19 hq19
                unfold b_periodsOf_82
                refine ⟨fun c20 => ?_, fun c20 => ?_⟩
                · unfold b_periodsOf_101
                  generalize ey21 : (l5 + 1) = y21
                  replace ey21 := ey21.symm
                  have ty21 : y21.toInt = l5.toInt + 1 := i3_addc rfl rfl ey21 (by omega)
                  clear ey21
                  have bd22 := i3_bd l1
                  have bd23 := i3_bd l2
                  have bd24 := i3_bd l3
                  exact ih_n1 l1 l2 l3 l4 y21 σ (by omega) (by first | omega | decide | (have e0 : (0 : Int32).toInt = 0 := rfl; omega)) (by first | omega | decide | (have e0 : (0 : Int32).toInt = 0 := rfl; omega)) hM hE
                · exfalso; omega
              · unfold b_periodsOf_77
                suffices hs : ∀ (q25 : Int32), q25.toInt = 1 → b_periodsOf_82 X6 Q l1 l2 l3 l4 l5 q25 σ from hs 1 rfl
                intro q25 hq25
                unfold b_periodsOf_82
                refine ⟨fun c26 => ?_, fun c26 => ?_⟩
                · exfalso; omega
                · refine ⟨⟨by omega, by omega⟩, ?_⟩
                  have a27 : 0 ≤ (rd σ 26 l5).toInt ∧ (rd σ 26 l5).toInt ≤ 4 := hM.2 26 _
                  suffices hs : ∀ (q28 : Int32), q28.toInt = (rd σ 26 l5).toInt → b_periodsOf_101 X6 Q l1 l2 l3 l5 q28 σ from hs (rd σ 26 l5) rfl
                  intro q28 hq28
                  unfold b_periodsOf_101
                  generalize ey29 : (l5 + 1) = y29
                  replace ey29 := ey29.symm
                  have ty29 : y29.toInt = l5.toInt + 1 := i3_addc rfl rfl ey29 (by omega)
                  clear ey29
                  have bd30 := i3_bd l1
                  have bd31 := i3_bd l3
                  exact ih_n1 l1 l2 l3 q28 y29 σ (by omega) (by first | omega | decide | (have e0 : (0 : Int32).toInt = 0 := rfl; omega)) (by first | omega | decide | (have e0 : (0 : Int32).toInt = 0 := rfl; omega)) hM hE
          · have bd32 := i3_bd l3
            generalize ey33 : (l3 >>> (l5 &&& 31)) = y33
            replace ey33 := ey33.symm
            clear ey33
            have bd34 := i3_bd y33
            generalize ey35 : (y33 &&& 1) = y35
            replace ey35 := ey35.symm
            have ty35 := i3_and1 ey35
            clear ey35
            refine ⟨fun c36 => ?_, fun c36 => ?_⟩
            · unfold b_periodsOf_81
              suffices hs : ∀ (q37 : Int32), q37.toInt = 0 → b_periodsOf_82 X6 Q l1 l2 l3 l4 l5 q37 σ from hs 0 rfl
              intro q37 hq37
              unfold b_periodsOf_82
              refine ⟨fun c38 => ?_, fun c38 => ?_⟩
              · unfold b_periodsOf_101
                generalize ey39 : (l5 + 1) = y39
                replace ey39 := ey39.symm
                have ty39 : y39.toInt = l5.toInt + 1 := i3_addc rfl rfl ey39 (by omega)
                clear ey39
                have bd40 := i3_bd l1
                have bd41 := i3_bd l2
                exact ih_n1 l1 l2 l3 l4 y39 σ (by omega) (by first | omega | decide | (have e0 : (0 : Int32).toInt = 0 := rfl; omega)) (by first | omega | decide | (have e0 : (0 : Int32).toInt = 0 := rfl; omega)) hM hE
              · exfalso; omega
            · unfold b_periodsOf_56
              refine ⟨⟨by omega, by omega⟩, ?_⟩
              have a42 : (-1) ≤ (rd σ 29 l5).toInt ∧ (rd σ 29 l5).toInt ≤ 49 := hM.2 29 _
              refine ⟨fun c43 => ?_, fun c43 => ?_⟩
              · unfold b_periodsOf_77
                suffices hs : ∀ (q44 : Int32), q44.toInt = 1 → b_periodsOf_82 X6 Q l1 l2 l3 l4 l5 q44 σ from hs 1 rfl
                intro q44 hq44
                unfold b_periodsOf_82
                refine ⟨fun c45 => ?_, fun c45 => ?_⟩
                · exfalso; omega
                · refine ⟨⟨by omega, by omega⟩, ?_⟩
                  have a46 : 0 ≤ (rd σ 26 l5).toInt ∧ (rd σ 26 l5).toInt ≤ 4 := hM.2 26 _
                  suffices hs : ∀ (q47 : Int32), q47.toInt = (rd σ 26 l5).toInt → b_periodsOf_101 X6 Q l1 l2 l3 l5 q47 σ from hs (rd σ 26 l5) rfl
                  intro q47 hq47
                  unfold b_periodsOf_101
                  generalize ey48 : (l5 + 1) = y48
                  replace ey48 := ey48.symm
                  have ty48 : y48.toInt = l5.toInt + 1 := i3_addc rfl rfl ey48 (by omega)
                  clear ey48
                  have bd49 := i3_bd l1
                  have bd50 := i3_bd l2
                  exact ih_n1 l1 l2 l3 q47 y48 σ (by omega) (by first | omega | decide | (have e0 : (0 : Int32).toInt = 0 := rfl; omega)) (by first | omega | decide | (have e0 : (0 : Int32).toInt = 0 := rfl; omega)) hM hE
              · refine ⟨⟨by omega, by omega⟩, ?_⟩
                refine ⟨fun c51 => ?_, fun c51 => ?_⟩
                · unfold b_periodsOf_81
                  suffices hs : ∀ (q52 : Int32), q52.toInt = 0 → b_periodsOf_82 X6 Q l1 l2 l3 l4 l5 q52 σ from hs 0 rfl
                  intro q52 hq52
                  unfold b_periodsOf_82
                  refine ⟨fun c53 => ?_, fun c53 => ?_⟩
                  · unfold b_periodsOf_101
                    generalize ey54 : (l5 + 1) = y54
                    replace ey54 := ey54.symm
                    have ty54 : y54.toInt = l5.toInt + 1 := i3_addc rfl rfl ey54 (by omega)
                    clear ey54
                    have bd55 := i3_bd l1
                    have bd56 := i3_bd l2
                    exact ih_n1 l1 l2 l3 l4 y54 σ (by omega) (by first | omega | decide | (have e0 : (0 : Int32).toInt = 0 := rfl; omega)) (by first | omega | decide | (have e0 : (0 : Int32).toInt = 0 := rfl; omega)) hM hE
                  · exfalso; omega
                · unfold b_periodsOf_77
                  suffices hs : ∀ (q57 : Int32), q57.toInt = 1 → b_periodsOf_82 X6 Q l1 l2 l3 l4 l5 q57 σ from hs 1 rfl
                  intro q57 hq57
                  unfold b_periodsOf_82
                  refine ⟨fun c58 => ?_, fun c58 => ?_⟩
                  · exfalso; omega
                  · refine ⟨⟨by omega, by omega⟩, ?_⟩
                    have a59 : 0 ≤ (rd σ 26 l5).toInt ∧ (rd σ 26 l5).toInt ≤ 4 := hM.2 26 _
                    suffices hs : ∀ (q60 : Int32), q60.toInt = (rd σ 26 l5).toInt → b_periodsOf_101 X6 Q l1 l2 l3 l5 q60 σ from hs (rd σ 26 l5) rfl
                    intro q60 hq60
                    unfold b_periodsOf_101
                    generalize ey61 : (l5 + 1) = y61
                    replace ey61 := ey61.symm
                    have ty61 : y61.toInt = l5.toInt + 1 := i3_addc rfl rfl ey61 (by omega)
                    clear ey61
                    have bd62 := i3_bd l1
                    exact ih_n1 l1 l2 l3 q60 y61 σ (by omega) (by first | omega | decide | (have e0 : (0 : Int32).toInt = 0 := rfl; omega)) (by first | omega | decide | (have e0 : (0 : Int32).toInt = 0 := rfl; omega)) hM hE
        · refine ⟨⟨by omega, by omega⟩, ?_⟩
          refine ⟨fun c63 => ?_, fun c63 => ?_⟩
          · unfold b_periodsOf_81
            suffices hs : ∀ (q64 : Int32), q64.toInt = 0 → b_periodsOf_82 X6 Q l1 l2 l3 l4 l5 q64 σ from hs 0 rfl
            intro q64 hq64
            unfold b_periodsOf_82
            refine ⟨fun c65 => ?_, fun c65 => ?_⟩
            · unfold b_periodsOf_101
              generalize ey66 : (l5 + 1) = y66
              replace ey66 := ey66.symm
              have ty66 : y66.toInt = l5.toInt + 1 := i3_addc rfl rfl ey66 (by omega)
              clear ey66
              have bd67 := i3_bd l1
              have bd68 := i3_bd l2
              have bd69 := i3_bd l3
              exact ih_n1 l1 l2 l3 l4 y66 σ (by omega) (by first | omega | decide | (have e0 : (0 : Int32).toInt = 0 := rfl; omega)) (by first | omega | decide | (have e0 : (0 : Int32).toInt = 0 := rfl; omega)) hM hE
            · exfalso; omega
          · unfold b_periodsOf_36
            refine ⟨⟨by omega, by omega⟩, ?_⟩
            have a70 : (-1) ≤ (rd σ 28 l5).toInt ∧ (rd σ 28 l5).toInt ≤ 49 := hM.2 28 _
            refine ⟨fun c71 => ?_, fun c71 => ?_⟩
            · unfold b_periodsOf_56
              refine ⟨⟨by omega, by omega⟩, ?_⟩
              have a72 : (-1) ≤ (rd σ 29 l5).toInt ∧ (rd σ 29 l5).toInt ≤ 49 := hM.2 29 _
              refine ⟨fun c73 => ?_, fun c73 => ?_⟩
              · unfold b_periodsOf_77
                suffices hs : ∀ (q74 : Int32), q74.toInt = 1 → b_periodsOf_82 X6 Q l1 l2 l3 l4 l5 q74 σ from hs 1 rfl
                intro q74 hq74
                unfold b_periodsOf_82
                refine ⟨fun c75 => ?_, fun c75 => ?_⟩
                · exfalso; omega
                · refine ⟨⟨by omega, by omega⟩, ?_⟩
                  have a76 : 0 ≤ (rd σ 26 l5).toInt ∧ (rd σ 26 l5).toInt ≤ 4 := hM.2 26 _
                  suffices hs : ∀ (q77 : Int32), q77.toInt = (rd σ 26 l5).toInt → b_periodsOf_101 X6 Q l1 l2 l3 l5 q77 σ from hs (rd σ 26 l5) rfl
                  intro q77 hq77
                  unfold b_periodsOf_101
                  generalize ey78 : (l5 + 1) = y78
                  replace ey78 := ey78.symm
                  have ty78 : y78.toInt = l5.toInt + 1 := i3_addc rfl rfl ey78 (by omega)
                  clear ey78
                  have bd79 := i3_bd l2
                  have bd80 := i3_bd l3
                  exact ih_n1 l1 l2 l3 q77 y78 σ (by omega) (by first | omega | decide | (have e0 : (0 : Int32).toInt = 0 := rfl; omega)) (by first | omega | decide | (have e0 : (0 : Int32).toInt = 0 := rfl; omega)) hM hE
              · refine ⟨⟨by omega, by omega⟩, ?_⟩
                refine ⟨fun c81 => ?_, fun c81 => ?_⟩
                · unfold b_periodsOf_81
                  suffices hs : ∀ (q82 : Int32), q82.toInt = 0 → b_periodsOf_82 X6 Q l1 l2 l3 l4 l5 q82 σ from hs 0 rfl
                  intro q82 hq82
                  unfold b_periodsOf_82
                  refine ⟨fun c83 => ?_, fun c83 => ?_⟩
                  · unfold b_periodsOf_101
                    generalize ey84 : (l5 + 1) = y84
                    replace ey84 := ey84.symm
                    have ty84 : y84.toInt = l5.toInt + 1 := i3_addc rfl rfl ey84 (by omega)
                    clear ey84
                    have bd85 := i3_bd l2
                    have bd86 := i3_bd l3
                    exact ih_n1 l1 l2 l3 l4 y84 σ (by omega) (by first | omega | decide | (have e0 : (0 : Int32).toInt = 0 := rfl; omega)) (by first | omega | decide | (have e0 : (0 : Int32).toInt = 0 := rfl; omega)) hM hE
                  · exfalso; omega
                · unfold b_periodsOf_77
                  suffices hs : ∀ (q87 : Int32), q87.toInt = 1 → b_periodsOf_82 X6 Q l1 l2 l3 l4 l5 q87 σ from hs 1 rfl
                  intro q87 hq87
                  unfold b_periodsOf_82
                  refine ⟨fun c88 => ?_, fun c88 => ?_⟩
                  · exfalso; omega
                  · refine ⟨⟨by omega, by omega⟩, ?_⟩
                    have a89 : 0 ≤ (rd σ 26 l5).toInt ∧ (rd σ 26 l5).toInt ≤ 4 := hM.2 26 _
                    suffices hs : ∀ (q90 : Int32), q90.toInt = (rd σ 26 l5).toInt → b_periodsOf_101 X6 Q l1 l2 l3 l5 q90 σ from hs (rd σ 26 l5) rfl
                    intro q90 hq90
                    unfold b_periodsOf_101
                    generalize ey91 : (l5 + 1) = y91
                    replace ey91 := ey91.symm
                    have ty91 : y91.toInt = l5.toInt + 1 := i3_addc rfl rfl ey91 (by omega)
                    clear ey91
                    have bd92 := i3_bd l3
                    exact ih_n1 l1 l2 l3 q90 y91 σ (by omega) (by first | omega | decide | (have e0 : (0 : Int32).toInt = 0 := rfl; omega)) (by first | omega | decide | (have e0 : (0 : Int32).toInt = 0 := rfl; omega)) hM hE
            · have bd93 := i3_bd l3
              generalize ey94 : (l3 >>> (l5 &&& 31)) = y94
              replace ey94 := ey94.symm
              clear ey94
              have bd95 := i3_bd y94
              generalize ey96 : (y94 &&& 1) = y96
              replace ey96 := ey96.symm
              have ty96 := i3_and1 ey96
              clear ey96
              refine ⟨fun c97 => ?_, fun c97 => ?_⟩
              · unfold b_periodsOf_81
                suffices hs : ∀ (q98 : Int32), q98.toInt = 0 → b_periodsOf_82 X6 Q l1 l2 l3 l4 l5 q98 σ from hs 0 rfl
                intro q98 hq98
                unfold b_periodsOf_82
                refine ⟨fun c99 => ?_, fun c99 => ?_⟩
                · unfold b_periodsOf_101
                  generalize ey100 : (l5 + 1) = y100
                  replace ey100 := ey100.symm
                  have ty100 : y100.toInt = l5.toInt + 1 := i3_addc rfl rfl ey100 (by omega)
                  clear ey100
                  have bd101 := i3_bd l2
                  exact ih_n1 l1 l2 l3 l4 y100 σ (by omega) (by first | omega | decide | (have e0 : (0 : Int32).toInt = 0 := rfl; omega)) (by first | omega | decide | (have e0 : (0 : Int32).toInt = 0 := rfl; omega)) hM hE
                · exfalso; omega
              · unfold b_periodsOf_56
                refine ⟨⟨by omega, by omega⟩, ?_⟩
                have a102 : (-1) ≤ (rd σ 29 l5).toInt ∧ (rd σ 29 l5).toInt ≤ 49 := hM.2 29 _
                refine ⟨fun c103 => ?_, fun c103 => ?_⟩
                · unfold b_periodsOf_77
                  suffices hs : ∀ (q104 : Int32), q104.toInt = 1 → b_periodsOf_82 X6 Q l1 l2 l3 l4 l5 q104 σ from hs 1 rfl
                  intro q104 hq104
                  unfold b_periodsOf_82
                  refine ⟨fun c105 => ?_, fun c105 => ?_⟩
                  · exfalso; omega
                  · refine ⟨⟨by omega, by omega⟩, ?_⟩
                    have a106 : 0 ≤ (rd σ 26 l5).toInt ∧ (rd σ 26 l5).toInt ≤ 4 := hM.2 26 _
                    suffices hs : ∀ (q107 : Int32), q107.toInt = (rd σ 26 l5).toInt → b_periodsOf_101 X6 Q l1 l2 l3 l5 q107 σ from hs (rd σ 26 l5) rfl
                    intro q107 hq107
                    unfold b_periodsOf_101
                    generalize ey108 : (l5 + 1) = y108
                    replace ey108 := ey108.symm
                    have ty108 : y108.toInt = l5.toInt + 1 := i3_addc rfl rfl ey108 (by omega)
                    clear ey108
                    have bd109 := i3_bd l2
                    exact ih_n1 l1 l2 l3 q107 y108 σ (by omega) (by first | omega | decide | (have e0 : (0 : Int32).toInt = 0 := rfl; omega)) (by first | omega | decide | (have e0 : (0 : Int32).toInt = 0 := rfl; omega)) hM hE
                · refine ⟨⟨by omega, by omega⟩, ?_⟩
                  refine ⟨fun c110 => ?_, fun c110 => ?_⟩
                  · unfold b_periodsOf_81
                    suffices hs : ∀ (q111 : Int32), q111.toInt = 0 → b_periodsOf_82 X6 Q l1 l2 l3 l4 l5 q111 σ from hs 0 rfl
                    intro q111 hq111
                    unfold b_periodsOf_82
                    refine ⟨fun c112 => ?_, fun c112 => ?_⟩
                    · unfold b_periodsOf_101
                      generalize ey113 : (l5 + 1) = y113
                      replace ey113 := ey113.symm
                      have ty113 : y113.toInt = l5.toInt + 1 := i3_addc rfl rfl ey113 (by omega)
                      clear ey113
                      have bd114 := i3_bd l2
                      exact ih_n1 l1 l2 l3 l4 y113 σ (by omega) (by first | omega | decide | (have e0 : (0 : Int32).toInt = 0 := rfl; omega)) (by first | omega | decide | (have e0 : (0 : Int32).toInt = 0 := rfl; omega)) hM hE
                    · exfalso; omega
                  · unfold b_periodsOf_77
                    suffices hs : ∀ (q115 : Int32), q115.toInt = 1 → b_periodsOf_82 X6 Q l1 l2 l3 l4 l5 q115 σ from hs 1 rfl
                    intro q115 hq115
                    unfold b_periodsOf_82
                    refine ⟨fun c116 => ?_, fun c116 => ?_⟩
                    · exfalso; omega
                    · refine ⟨⟨by omega, by omega⟩, ?_⟩
                      have a117 : 0 ≤ (rd σ 26 l5).toInt ∧ (rd σ 26 l5).toInt ≤ 4 := hM.2 26 _
                      suffices hs : ∀ (q118 : Int32), q118.toInt = (rd σ 26 l5).toInt → b_periodsOf_101 X6 Q l1 l2 l3 l5 q118 σ from hs (rd σ 26 l5) rfl
                      intro q118 hq118
                      unfold b_periodsOf_101
                      generalize ey119 : (l5 + 1) = y119
                      replace ey119 := ey119.symm
                      have ty119 : y119.toInt = l5.toInt + 1 := i3_addc rfl rfl ey119 (by omega)
                      clear ey119
                      exact ih_n1 l1 l2 l3 q118 y119 σ (by omega) (by first | omega | decide | (have e0 : (0 : Int32).toInt = 0 := rfl; omega)) (by first | omega | decide | (have e0 : (0 : Int32).toInt = 0 := rfl; omega)) hM hE
  exact L_6_n1 ((4 - (0 : Int32).toInt).toNat + 1) p1 p2 p3 1 0 σ (by decide) (by first | omega | decide | (have e0 : (0 : Int32).toInt = 0 := rfl; omega)) (by first | omega | decide | (have e0 : (0 : Int32).toInt = 0 := rfl; omega)) hM hE
set_option maxHeartbeats 2000000 in
theorem rg_load {Q : Int32 → VS → Prop} {p1 : Int32} {σ : VS} (h_p1 : 0 ≤ p1.toInt ∧ p1.toInt ≤ 49) (hM : MI σ) (hq : ∀ (r : Int32) (σ' : VS), 0 ≤ r.toInt ∧ r.toInt ≤ 1600 → MI σ' → Eo [] [] σ σ' → Q r σ') : wp_load Q p1 σ := by
  unfold wp_load
  intro X23 X34 H_23 H_34
  have hE : Eo [] [] σ σ := Eo.rfl
  obtain ⟨σ0, h0⟩ : ∃ z : VS, z = σ := ⟨_, rfl⟩
  rw [← h0] at hq
  replace hE : Eo [] [] σ0 σ := by rw [h0]; exact hE
  clear h0
  refine ⟨⟨by omega, by omega⟩, ?_⟩
  have a1 : 0 ≤ (rd σ 2 p1).toInt ∧ (rd σ 2 p1).toInt ≤ 5 := hM.2 2 _
  refine ⟨fun c2 => ?_, fun c2 => ?_⟩
  · refine ⟨⟨by omega, by omega⟩, ?_⟩
    have a3 : 0 ≤ (rd σ 6 p1).toInt ∧ (rd σ 6 p1).toInt ≤ 1000 := hM.2 6 _
    suffices hs : ∀ (q4 : Int32), q4.toInt = (rd σ 6 p1).toInt → b_load_20 X23 X34 Q p1 q4 σ from hs (rd σ 6 p1) rfl
    intro q4 hq4
    unfold b_load_20
    have L_23_n5 : ∀ (n5 : Nat) (l1 : Int32) (l2 : Int32) (l3 : Int32) (σ : VS), 50 - l3.toInt < (n5 : Int) → 0 ≤ l1.toInt ∧ l1.toInt ≤ 49 → 0 ≤ l2.toInt ∧ l2.toInt ≤ 1600 → 0 ≤ l3.toInt ∧ l3.toInt ≤ 50 → l2.toInt ≤ 1000 + 12 * l3.toInt → MI σ → Eo [] [] σ0 σ → X23 l1 l2 l3 σ := by
      intro n5
      induction n5 with
      | zero => intro l1 l2 l3 σ hm h_l1 h_l2 h_l3 v_0 hM hE; exfalso; omega
      | succ n5 ih_n5 =>
        intro l1 l2 l3 σ hm h_l1 h_l2 h_l3 v_0 hM hE
        have hm2_23 : 50 - l3.toInt < (n5 : Int) + 1 := by omega
        refine H_23 l1 l2 l3 σ ?_
        unfold b_load_23
        have f6 : 0 ≤ (σ.1 1).toInt ∧ (σ.1 1).toInt ≤ 50 := hM.1 1
        refine ⟨fun c7 => ?_, fun c7 => ?_⟩
        · exact hq l2 σ ⟨by omega, by omega⟩ hM hE
        · have L_34_n8 : ∀ (n8 : Nat) (l1 : Int32) (l2 : Int32) (l3 : Int32) (l4 : Int32) (σ : VS), 4 - l4.toInt < (n8 : Int) → 0 ≤ l1.toInt ∧ l1.toInt ≤ 49 → 0 ≤ l2.toInt ∧ l2.toInt ≤ 1600 → 0 ≤ l3.toInt ∧ l3.toInt ≤ 49 → 0 ≤ l4.toInt ∧ l4.toInt ≤ 4 → l2.toInt ≤ 1000 + 12 * l3.toInt + 3 * l4.toInt → 50 - l3.toInt < (n5 : Int) + 1 → MI σ → Eo [] [] σ0 σ → X34 l1 l2 l3 l4 σ := by
            intro n8
            induction n8 with
            | zero => intro l1 l2 l3 l4 σ hm h_l1 h_l2 h_l3 h_l4 v_0 m_23 hM hE; exfalso; omega
            | succ n8 ih_n8 =>
              intro l1 l2 l3 l4 σ hm h_l1 h_l2 h_l3 h_l4 v_0 m_23 hM hE
              have hm2_34 : 4 - l4.toInt < (n8 : Int) + 1 := by omega
              refine H_34 l1 l2 l3 l4 σ ?_
              unfold b_load_34
              refine ⟨⟨by omega, by omega⟩, ?_⟩
              have a9 : 0 ≤ (rd σ 3 l3).toInt ∧ (rd σ 3 l3).toInt ≤ 4 := hM.2 3 _
              refine ⟨fun c10 => ?_, fun c10 => ?_⟩
              · generalize ey11 : (l3 + 1) = y11
                replace ey11 := ey11.symm
                have ty11 : y11.toInt = l3.toInt + 1 := i3_addc rfl rfl ey11 (by omega)
                clear ey11
                exact ih_n5 l1 l2 y11 σ (by omega) (by first | omega | decide | (have e0 : (0 : Int32).toInt = 0 := rfl; omega)) (by first | omega | decide | (have e0 : (0 : Int32).toInt = 0 := rfl; omega)) (by first | omega | decide | (have e0 : (0 : Int32).toInt = 0 := rfl; omega)) (by first | omega | decide | (have e0 : (0 : Int32).toInt = 0 := rfl; omega)) hM hE
              · generalize ey12 : (4 * l3) = y12
                replace ey12 := ey12.symm
                have ty12 : y12.toInt = 4 * l3.toInt := i3_mulc rfl rfl ey12 (by omega)
                clear ey12
                generalize ey13 : (y12 + l4) = y13
                replace ey13 := ey13.symm
                have ty13 : y13.toInt = y12.toInt + l4.toInt := i3_addc rfl rfl ey13 (by omega)
                clear ey13
                refine ⟨⟨by omega, by omega⟩, ?_⟩
                have a14 : (-1) ≤ (rd σ 7 y13).toInt ∧ (rd σ 7 y13).toInt ≤ 49 := hM.2 7 _
                refine ⟨fun c15 => ?_, fun c15 => ?_⟩
                · unfold b_load_85
                  generalize ey16 : (l4 + 1) = y16
                  replace ey16 := ey16.symm
                  have ty16 : y16.toInt = l4.toInt + 1 := i3_addc rfl rfl ey16 (by omega)
                  clear ey16
                  exact ih_n8 l1 l2 l3 y16 σ (by omega) (by first | omega | decide | (have e0 : (0 : Int32).toInt = 0 := rfl; omega)) (by first | omega | decide | (have e0 : (0 : Int32).toInt = 0 := rfl; omega)) (by first | omega | decide | (have e0 : (0 : Int32).toInt = 0 := rfl; omega)) (by first | omega | decide | (have e0 : (0 : Int32).toInt = 0 := rfl; omega)) (by first | omega | decide | (have e0 : (0 : Int32).toInt = 0 := rfl; omega)) (by first | omega | decide | (have e0 : (0 : Int32).toInt = 0 := rfl; omega)) hM hE
                · refine ⟨⟨by omega, by omega⟩, ?_⟩
                  have a17 : 0 ≤ (rd σ 2 l3).toInt ∧ (rd σ 2 l3).toInt ≤ 5 := hM.2 2 _
                  refine ⟨fun c18 => ?_, fun c18 => ?_⟩
                  · refine ⟨⟨by omega, by omega⟩, ?_⟩
                    have a19 : 0 ≤ (rd σ 5 l3).toInt ∧ (rd σ 5 l3).toInt ≤ 2 := hM.2 5 _
                    suffices hs : ∀ (q20 q21 : Int32), q20.toInt = (rd σ 5 l3).toInt → q21.toInt = 1 → b_load_82 X23 X34 Q l1 l3 l4 q20 q21 l2 σ from hs (rd σ 5 l3) 1 rfl rfl
                    intro q20 q21 hq20 hq21
                    unfold b_load_82
                    generalize ey22 : (q21 + q20) = y22
                    replace ey22 := ey22.symm
                    have ty22 : y22.toInt = q21.toInt + q20.toInt := i3_addc rfl rfl ey22 (by omega)
                    clear ey22
                    generalize ey23 : (l2 + y22) = y23
                    replace ey23 := ey23.symm
                    have ty23 : y23.toInt = l2.toInt + y22.toInt := i3_addc rfl rfl ey23 (by omega)
                    clear ey23
                    intro x24 ex24
                    have ix24 : x24.toInt = y23.toInt := by rw [ex24]
                    unfold b_load_85
                    generalize ey25 : (l4 + 1) = y25
                    replace ey25 := ey25.symm
                    have ty25 : y25.toInt = l4.toInt + 1 := i3_addc rfl rfl ey25 (by omega)
                    clear ey25
                    exact ih_n8 l1 x24 l3 y25 σ (by omega) (by first | omega | decide | (have e0 : (0 : Int32).toInt = 0 := rfl; omega)) (by first | omega | decide | (have e0 : (0 : Int32).toInt = 0 := rfl; omega)) (by first | omega | decide | (have e0 : (0 : Int32).toInt = 0 := rfl; omega)) (by first | omega | decide | (have e0 : (0 : Int32).toInt = 0 := rfl; omega)) (by first | omega | decide | (have e0 : (0 : Int32).toInt = 0 := rfl; omega)) (by first | omega | decide | (have e0 : (0 : Int32).toInt = 0 := rfl; omega)) hM hE
                  · suffices hs : ∀ (q26 q27 : Int32), q26.toInt = 0 → q27.toInt = 1 → b_load_82 X23 X34 Q l1 l3 l4 q26 q27 l2 σ from hs 0 1 rfl rfl
                    intro q26 q27 hq26 hq27
                    unfold b_load_82
                    generalize ey28 : (q27 + q26) = y28
                    replace ey28 := ey28.symm
                    have ty28 : y28.toInt = q27.toInt + q26.toInt := i3_addc rfl rfl ey28 (by omega)
                    clear ey28
                    generalize ey29 : (l2 + y28) = y29
                    replace ey29 := ey29.symm
                    have ty29 : y29.toInt = l2.toInt + y28.toInt := i3_addc rfl rfl ey29 (by omega)
                    clear ey29
                    intro x30 ex30
                    have ix30 : x30.toInt = y29.toInt := by rw [ex30]
                    unfold b_load_85
                    generalize ey31 : (l4 + 1) = y31
                    replace ey31 := ey31.symm
                    have ty31 : y31.toInt = l4.toInt + 1 := i3_addc rfl rfl ey31 (by omega)
                    clear ey31
                    exact ih_n8 l1 x30 l3 y31 σ (by omega) (by first | omega | decide | (have e0 : (0 : Int32).toInt = 0 := rfl; omega)) (by first | omega | decide | (have e0 : (0 : Int32).toInt = 0 := rfl; omega)) (by first | omega | decide | (have e0 : (0 : Int32).toInt = 0 := rfl; omega)) (by first | omega | decide | (have e0 : (0 : Int32).toInt = 0 := rfl; omega)) (by first | omega | decide | (have e0 : (0 : Int32).toInt = 0 := rfl; omega)) (by first | omega | decide | (have e0 : (0 : Int32).toInt = 0 := rfl; omega)) hM hE
          exact L_34_n8 ((4 - (0 : Int32).toInt).toNat + 1) l1 l2 l3 0 σ (by decide) (by first | omega | decide | (have e0 : (0 : Int32).toInt = 0 := rfl; omega)) (by first | omega | decide | (have e0 : (0 : Int32).toInt = 0 := rfl; omega)) (by first | omega | decide | (have e0 : (0 : Int32).toInt = 0 := rfl; omega)) (by first | omega | decide | (have e0 : (0 : Int32).toInt = 0 := rfl; omega)) (by first | omega | decide | (have e0 : (0 : Int32).toInt = 0 := rfl; omega)) (by first | omega | decide | (have e0 : (0 : Int32).toInt = 0 := rfl; omega)) hM hE
    exact L_23_n5 ((50 - (0 : Int32).toInt).toNat + 1) p1 q4 0 σ (by decide) (by first | omega | decide | (have e0 : (0 : Int32).toInt = 0 := rfl; omega)) (by first | omega | decide | (have e0 : (0 : Int32).toInt = 0 := rfl; omega)) (by first | omega | decide | (have e0 : (0 : Int32).toInt = 0 := rfl; omega)) (by first | omega | decide | (have e0 : (0 : Int32).toInt = 0 := rfl; omega)) hM hE
  · suffices hs : ∀ (q32 : Int32), q32.toInt = 0 → b_load_20 X23 X34 Q p1 q32 σ from hs 0 rfl
    intro q32 hq32
    unfold b_load_20
    have L_23_n33 : ∀ (n33 : Nat) (l1 : Int32) (l2 : Int32) (l3 : Int32) (σ : VS), 50 - l3.toInt < (n33 : Int) → 0 ≤ l1.toInt ∧ l1.toInt ≤ 49 → 0 ≤ l2.toInt ∧ l2.toInt ≤ 1600 → 0 ≤ l3.toInt ∧ l3.toInt ≤ 50 → l2.toInt ≤ 1000 + 12 * l3.toInt → MI σ → Eo [] [] σ0 σ → X23 l1 l2 l3 σ := by
      intro n33
      induction n33 with
      | zero => intro l1 l2 l3 σ hm h_l1 h_l2 h_l3 v_0 hM hE; exfalso; omega
      | succ n33 ih_n33 =>
        intro l1 l2 l3 σ hm h_l1 h_l2 h_l3 v_0 hM hE
        have hm2_23 : 50 - l3.toInt < (n33 : Int) + 1 := by omega
        refine H_23 l1 l2 l3 σ ?_
        unfold b_load_23
        have f34 : 0 ≤ (σ.1 1).toInt ∧ (σ.1 1).toInt ≤ 50 := hM.1 1
        refine ⟨fun c35 => ?_, fun c35 => ?_⟩
        · exact hq l2 σ ⟨by omega, by omega⟩ hM hE
        · have L_34_n36 : ∀ (n36 : Nat) (l1 : Int32) (l2 : Int32) (l3 : Int32) (l4 : Int32) (σ : VS), 4 - l4.toInt < (n36 : Int) → 0 ≤ l1.toInt ∧ l1.toInt ≤ 49 → 0 ≤ l2.toInt ∧ l2.toInt ≤ 1600 → 0 ≤ l3.toInt ∧ l3.toInt ≤ 49 → 0 ≤ l4.toInt ∧ l4.toInt ≤ 4 → l2.toInt ≤ 1000 + 12 * l3.toInt + 3 * l4.toInt → 50 - l3.toInt < (n33 : Int) + 1 → MI σ → Eo [] [] σ0 σ → X34 l1 l2 l3 l4 σ := by
            intro n36
            induction n36 with
            | zero => intro l1 l2 l3 l4 σ hm h_l1 h_l2 h_l3 h_l4 v_0 m_23 hM hE; exfalso; omega
            | succ n36 ih_n36 =>
              intro l1 l2 l3 l4 σ hm h_l1 h_l2 h_l3 h_l4 v_0 m_23 hM hE
              have hm2_34 : 4 - l4.toInt < (n36 : Int) + 1 := by omega
              refine H_34 l1 l2 l3 l4 σ ?_
              unfold b_load_34
              refine ⟨⟨by omega, by omega⟩, ?_⟩
              have a37 : 0 ≤ (rd σ 3 l3).toInt ∧ (rd σ 3 l3).toInt ≤ 4 := hM.2 3 _
              refine ⟨fun c38 => ?_, fun c38 => ?_⟩
              · generalize ey39 : (l3 + 1) = y39
                replace ey39 := ey39.symm
                have ty39 : y39.toInt = l3.toInt + 1 := i3_addc rfl rfl ey39 (by omega)
                clear ey39
                exact ih_n33 l1 l2 y39 σ (by omega) (by first | omega | decide | (have e0 : (0 : Int32).toInt = 0 := rfl; omega)) (by first | omega | decide | (have e0 : (0 : Int32).toInt = 0 := rfl; omega)) (by first | omega | decide | (have e0 : (0 : Int32).toInt = 0 := rfl; omega)) (by first | omega | decide | (have e0 : (0 : Int32).toInt = 0 := rfl; omega)) hM hE
              · generalize ey40 : (4 * l3) = y40
                replace ey40 := ey40.symm
                have ty40 : y40.toInt = 4 * l3.toInt := i3_mulc rfl rfl ey40 (by omega)
                clear ey40
                generalize ey41 : (y40 + l4) = y41
                replace ey41 := ey41.symm
                have ty41 : y41.toInt = y40.toInt + l4.toInt := i3_addc rfl rfl ey41 (by omega)
                clear ey41
                refine ⟨⟨by omega, by omega⟩, ?_⟩
                have a42 : (-1) ≤ (rd σ 7 y41).toInt ∧ (rd σ 7 y41).toInt ≤ 49 := hM.2 7 _
                refine ⟨fun c43 => ?_, fun c43 => ?_⟩
                · unfold b_load_85
                  generalize ey44 : (l4 + 1) = y44
                  replace ey44 := ey44.symm
                  have ty44 : y44.toInt = l4.toInt + 1 := i3_addc rfl rfl ey44 (by omega)
                  clear ey44
                  exact ih_n36 l1 l2 l3 y44 σ (by omega) (by first | omega | decide | (have e0 : (0 : Int32).toInt = 0 := rfl; omega)) (by first | omega | decide | (have e0 : (0 : Int32).toInt = 0 := rfl; omega)) (by first | omega | decide | (have e0 : (0 : Int32).toInt = 0 := rfl; omega)) (by first | omega | decide | (have e0 : (0 : Int32).toInt = 0 := rfl; omega)) (by first | omega | decide | (have e0 : (0 : Int32).toInt = 0 := rfl; omega)) (by first | omega | decide | (have e0 : (0 : Int32).toInt = 0 := rfl; omega)) hM hE
                · refine ⟨⟨by omega, by omega⟩, ?_⟩
                  have a45 : 0 ≤ (rd σ 2 l3).toInt ∧ (rd σ 2 l3).toInt ≤ 5 := hM.2 2 _
                  refine ⟨fun c46 => ?_, fun c46 => ?_⟩
                  · refine ⟨⟨by omega, by omega⟩, ?_⟩
                    have a47 : 0 ≤ (rd σ 5 l3).toInt ∧ (rd σ 5 l3).toInt ≤ 2 := hM.2 5 _
                    suffices hs : ∀ (q48 q49 : Int32), q48.toInt = (rd σ 5 l3).toInt → q49.toInt = 1 → b_load_82 X23 X34 Q l1 l3 l4 q48 q49 l2 σ from hs (rd σ 5 l3) 1 rfl rfl
                    intro q48 q49 hq48 hq49
                    unfold b_load_82
                    generalize ey50 : (q49 + q48) = y50
                    replace ey50 := ey50.symm
                    have ty50 : y50.toInt = q49.toInt + q48.toInt := i3_addc rfl rfl ey50 (by omega)
                    clear ey50
                    generalize ey51 : (l2 + y50) = y51
                    replace ey51 := ey51.symm
                    have ty51 : y51.toInt = l2.toInt + y50.toInt := i3_addc rfl rfl ey51 (by omega)
                    clear ey51
                    intro x52 ex52
                    have ix52 : x52.toInt = y51.toInt := by rw [ex52]
                    unfold b_load_85
                    generalize ey53 : (l4 + 1) = y53
                    replace ey53 := ey53.symm
                    have ty53 : y53.toInt = l4.toInt + 1 := i3_addc rfl rfl ey53 (by omega)
                    clear ey53
                    exact ih_n36 l1 x52 l3 y53 σ (by omega) (by first | omega | decide | (have e0 : (0 : Int32).toInt = 0 := rfl; omega)) (by first | omega | decide | (have e0 : (0 : Int32).toInt = 0 := rfl; omega)) (by first | omega | decide | (have e0 : (0 : Int32).toInt = 0 := rfl; omega)) (by first | omega | decide | (have e0 : (0 : Int32).toInt = 0 := rfl; omega)) (by first | omega | decide | (have e0 : (0 : Int32).toInt = 0 := rfl; omega)) (by first | omega | decide | (have e0 : (0 : Int32).toInt = 0 := rfl; omega)) hM hE
                  · suffices hs : ∀ (q54 q55 : Int32), q54.toInt = 0 → q55.toInt = 1 → b_load_82 X23 X34 Q l1 l3 l4 q54 q55 l2 σ from hs 0 1 rfl rfl
                    intro q54 q55 hq54 hq55
                    unfold b_load_82
                    generalize ey56 : (q55 + q54) = y56
                    replace ey56 := ey56.symm
                    have ty56 : y56.toInt = q55.toInt + q54.toInt := i3_addc rfl rfl ey56 (by omega)
                    clear ey56
                    generalize ey57 : (l2 + y56) = y57
                    replace ey57 := ey57.symm
                    have ty57 : y57.toInt = l2.toInt + y56.toInt := i3_addc rfl rfl ey57 (by omega)
                    clear ey57
                    intro x58 ex58
                    have ix58 : x58.toInt = y57.toInt := by rw [ex58]
                    unfold b_load_85
                    generalize ey59 : (l4 + 1) = y59
                    replace ey59 := ey59.symm
                    have ty59 : y59.toInt = l4.toInt + 1 := i3_addc rfl rfl ey59 (by omega)
                    clear ey59
                    exact ih_n36 l1 x58 l3 y59 σ (by omega) (by first | omega | decide | (have e0 : (0 : Int32).toInt = 0 := rfl; omega)) (by first | omega | decide | (have e0 : (0 : Int32).toInt = 0 := rfl; omega)) (by first | omega | decide | (have e0 : (0 : Int32).toInt = 0 := rfl; omega)) (by first | omega | decide | (have e0 : (0 : Int32).toInt = 0 := rfl; omega)) (by first | omega | decide | (have e0 : (0 : Int32).toInt = 0 := rfl; omega)) (by first | omega | decide | (have e0 : (0 : Int32).toInt = 0 := rfl; omega)) hM hE
          exact L_34_n36 ((4 - (0 : Int32).toInt).toNat + 1) l1 l2 l3 0 σ (by decide) (by first | omega | decide | (have e0 : (0 : Int32).toInt = 0 := rfl; omega)) (by first | omega | decide | (have e0 : (0 : Int32).toInt = 0 := rfl; omega)) (by first | omega | decide | (have e0 : (0 : Int32).toInt = 0 := rfl; omega)) (by first | omega | decide | (have e0 : (0 : Int32).toInt = 0 := rfl; omega)) (by first | omega | decide | (have e0 : (0 : Int32).toInt = 0 := rfl; omega)) (by first | omega | decide | (have e0 : (0 : Int32).toInt = 0 := rfl; omega)) hM hE
    exact L_23_n33 ((50 - (0 : Int32).toInt).toNat + 1) p1 q32 0 σ (by decide) (by first | omega | decide | (have e0 : (0 : Int32).toInt = 0 := rfl; omega)) (by first | omega | decide | (have e0 : (0 : Int32).toInt = 0 := rfl; omega)) (by first | omega | decide | (have e0 : (0 : Int32).toInt = 0 := rfl; omega)) (by first | omega | decide | (have e0 : (0 : Int32).toInt = 0 := rfl; omega)) hM hE
set_option maxHeartbeats 2000000 in
theorem rg_loadAt {Q : Int32 → VS → Prop} {p1 : Int32} {σ : VS} (hM : MI σ) (hq : ∀ (r : Int32) (σ' : VS), 0 ≤ r.toInt ∧ r.toInt ≤ 64 → MI σ' → Eo [] [] σ σ' → Q r σ') : wp_loadAt Q p1 σ := by
  unfold wp_loadAt
  have hE : Eo [] [] σ σ := Eo.rfl
  refine ⟨fun c1 => ?_, fun c1 => ?_⟩
  · refine ⟨fun c2 => ?_, fun c2 => ?_⟩
    · refine ⟨fun c3 => ?_, fun c3 => ?_⟩
      · suffices hs : ∀ (q4 : Int32), q4.toInt = 64 → b_loadAt_30 Q q4 σ from hs 64 rfl
        intro q4 hq4
        unfold b_loadAt_30
        exact hq q4 σ ⟨by omega, by omega⟩ hM hE
      · suffices hs : ∀ (q5 : Int32), q5.toInt = 24 → b_loadAt_30 Q q5 σ from hs 24 rfl
        intro q5 hq5
        unfold b_loadAt_30
        exact hq q5 σ ⟨by omega, by omega⟩ hM hE
    · suffices hs : ∀ (q6 : Int32), q6.toInt = 8 → b_loadAt_30 Q q6 σ from hs 8 rfl
      intro q6 hq6
      unfold b_loadAt_30
      exact hq q6 σ ⟨by omega, by omega⟩ hM hE
  · suffices hs : ∀ (q7 : Int32), q7.toInt = 0 → b_loadAt_30 Q q7 σ from hs 0 rfl
    intro q7 hq7
    unfold b_loadAt_30
    exact hq q7 σ ⟨by omega, by omega⟩ hM hE
set_option maxHeartbeats 2000000 in
theorem rg_slopeAt {Q : Int32 → VS → Prop} {p1 : Int32} {σ : VS} (hM : MI σ) (hq : ∀ (r : Int32) (σ' : VS), 0 ≤ r.toInt ∧ r.toInt ≤ 64 → MI σ' → Eo [] [] σ σ' → Q r σ') : wp_slopeAt Q p1 σ := by
  unfold wp_slopeAt
  have hE : Eo [] [] σ σ := Eo.rfl
  refine ⟨fun c1 => ?_, fun c1 => ?_⟩
  · refine ⟨fun c2 => ?_, fun c2 => ?_⟩
    · suffices hs : ∀ (q3 : Int32), q3.toInt = 64 → b_slopeAt_20 Q q3 σ from hs 64 rfl
      intro q3 hq3
      unfold b_slopeAt_20
      exact hq q3 σ ⟨by omega, by omega⟩ hM hE
    · suffices hs : ∀ (q4 : Int32), q4.toInt = 16 → b_slopeAt_20 Q q4 σ from hs 16 rfl
      intro q4 hq4
      unfold b_slopeAt_20
      exact hq q4 σ ⟨by omega, by omega⟩ hM hE
  · suffices hs : ∀ (q5 : Int32), q5.toInt = 0 → b_slopeAt_20 Q q5 σ from hs 0 rfl
    intro q5 hq5
    unfold b_slopeAt_20
    exact hq q5 σ ⟨by omega, by omega⟩ hM hE
