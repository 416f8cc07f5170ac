set_option maxHeartbeats 2000000 in
theorem rg_isRow {Q : Int32 → VS → Prop} {p1 : Int32} {p2 : Int32} {p3 : Int32} {σ : VS} (hM : MI σ) (hq : ∀ (r : Int32) (σ' : VS), 0 ≤ r.toInt ∧ r.toInt ≤ 1 → (r.toInt ≠ 0 → 0 ≤ p1.toInt ∧ p1.toInt ≤ 7 ∧ 0 ≤ p2.toInt ∧ p2.toInt ≤ 1 ∧ 0 ≤ p3.toInt ∧ p3.toInt ≤ 3) → MI σ' → Eo [] [] σ σ' → Q r σ') : wp_isRow Q p1 p2 p3 σ := by
  unfold wp_isRow
  have hE : Eo [] [] σ σ := Eo.rfl
  refine ⟨fun c1 => ?_, fun c1 => ?_⟩
  · unfold b_isRow_32
    suffices hs : ∀ (q2 : Int32), q2.toInt = 0 → b_isRow_33 Q q2 σ from hs 0 rfl
    intro q2 hq2
    unfold b_isRow_33
    refine ⟨⟨by omega, by omega⟩, ?_⟩
    exact hq q2 σ ⟨by omega, by omega⟩ (by intro h9; omega) hM hE
  · refine ⟨fun c3 => ?_, fun c3 => ?_⟩
    · unfold b_isRow_32
      suffices hs : ∀ (q4 : Int32), q4.toInt = 0 → b_isRow_33 Q q4 σ from hs 0 rfl
      intro q4 hq4
      unfold b_isRow_33
      refine ⟨⟨by omega, by omega⟩, ?_⟩
      exact hq q4 σ ⟨by omega, by omega⟩ (by intro h9; omega) hM hE
    · refine ⟨fun c5 => ?_, fun c5 => ?_⟩
      · unfold b_isRow_32
        suffices hs : ∀ (q6 : Int32), q6.toInt = 0 → b_isRow_33 Q q6 σ from hs 0 rfl
        intro q6 hq6
        unfold b_isRow_33
        refine ⟨⟨by omega, by omega⟩, ?_⟩
        exact hq q6 σ ⟨by omega, by omega⟩ (by intro h9; omega) hM hE
      · refine ⟨fun c7 => ?_, fun c7 => ?_⟩
        · unfold b_isRow_32
          suffices hs : ∀ (q8 : Int32), q8.toInt = 0 → b_isRow_33 Q q8 σ from hs 0 rfl
          intro q8 hq8
          unfold b_isRow_33
          refine ⟨⟨by omega, by omega⟩, ?_⟩
          exact hq q8 σ ⟨by omega, by omega⟩ (by intro h9; omega) hM hE
        · refine ⟨fun c9 => ?_, fun c9 => ?_⟩
          · unfold b_isRow_32
            suffices hs : ∀ (q10 : Int32), q10.toInt = 0 → b_isRow_33 Q q10 σ from hs 0 rfl
            intro q10 hq10
            unfold b_isRow_33
            refine ⟨⟨by omega, by omega⟩, ?_⟩
            exact hq q10 σ ⟨by omega, by omega⟩ (by intro h9; omega) hM hE
          · refine ⟨fun c11 => ?_, fun c11 => ?_⟩
            · unfold b_isRow_32
              suffices hs : ∀ (q12 : Int32), q12.toInt = 0 → b_isRow_33 Q q12 σ from hs 0 rfl
              intro q12 hq12
              unfold b_isRow_33
              refine ⟨⟨by omega, by omega⟩, ?_⟩
              exact hq q12 σ ⟨by omega, by omega⟩ (by intro h9; omega) hM hE
            · suffices hs : ∀ (q13 : Int32), q13.toInt = 1 → b_isRow_33 Q q13 σ from hs 1 rfl
              intro q13 hq13
              unfold b_isRow_33
              refine ⟨⟨by omega, by omega⟩, ?_⟩
              exact hq q13 σ ⟨by omega, by omega⟩ (by intro h9; omega) hM hE
set_option maxHeartbeats 2000000 in
theorem rg_isCell {Q : Int32 → VS → Prop} {p1 : Int32} {σ : VS} (hM : MI σ) (hq : ∀ (r : Int32) (σ' : VS), 0 ≤ r.toInt ∧ r.toInt ≤ 1 → (r.toInt ≠ 0 → 0 ≤ p1.toInt ∧ p1.toInt < (σ.1 1).toInt) → MI σ' → Eo [] [] σ σ' → Q r σ') : wp_isCell Q p1 σ := by
  unfold wp_isCell
  have hE : Eo [] [] σ σ := Eo.rfl
  refine ⟨fun c1 => ?_, fun c1 => ?_⟩
  · unfold b_isCell_16
    suffices hs : ∀ (q2 : Int32), q2.toInt = 0 → b_isCell_17 Q q2 σ from hs 0 rfl
    intro q2 hq2
    unfold b_isCell_17
    refine ⟨⟨by omega, by omega⟩, ?_⟩
    exact hq q2 σ ⟨by omega, by omega⟩ (by intro h9; omega) hM hE
  · have f3 : 0 ≤ (σ.1 1).toInt ∧ (σ.1 1).toInt ≤ 50 := hM.1 1
    refine ⟨fun c4 => ?_, fun c4 => ?_⟩
    · unfold b_isCell_16
      suffices hs : ∀ (q5 : Int32), q5.toInt = 0 → b_isCell_17 Q q5 σ from hs 0 rfl
      intro q5 hq5
      unfold b_isCell_17
      refine ⟨⟨by omega, by omega⟩, ?_⟩
      exact hq q5 σ ⟨by omega, by omega⟩ (by intro h9; omega) hM hE
    · suffices hs : ∀ (q6 : Int32), q6.toInt = 1 → b_isCell_17 Q q6 σ from hs 1 rfl
      intro q6 hq6
      unfold b_isCell_17
      refine ⟨⟨by omega, by omega⟩, ?_⟩
      exact hq q6 σ ⟨by omega, by omega⟩ (by intro h9; omega) hM hE
