set_option maxHeartbeats 2000000 in
theorem rg_isInput {Q : Int32 → VS → Prop} {p1 : Int32} {p2 : Int32} {σ : VS} (hM : MI σ) (hq : ∀ (r : Int32) (σ' : VS), 0 ≤ r.toInt ∧ r.toInt ≤ 1 → (r.toInt ≠ 0 → 0 ≤ p1.toInt ∧ p1.toInt < (σ.1 1).toInt ∧ 0 ≤ p2.toInt ∧ p2.toInt ≤ 3) → MI σ' → Eo [] [] σ σ' → Q r σ') : wp_isInput Q p1 p2 σ := by
  unfold wp_isInput
  have hE : Eo [] [] σ σ := Eo.rfl
  have bd1 := i3_bd p1
  refine rg_isCell hM (fun r2 σ3 br2 ir2 hM4 hE5o => ?_)
  have hE5 := hE.of hE5o (by decide) (by decide)
  have f6 : 0 ≤ (σ.1 1).toInt ∧ (σ.1 1).toInt ≤ 50 := hM.1 1
  have u7 : (σ3.1 1).toInt = (σ.1 1).toInt := by rw [hE5o.1 1 (by decide)]
  refine ⟨fun c8 => ?_, fun c8 => ?_⟩
  · unfold b_isInput_26
    suffices hs : ∀ (q9 : Int32), q9.toInt = 0 → b_isInput_27 Q q9 σ3 from hs 0 rfl
    intro q9 hq9
    unfold b_isInput_27
    refine ⟨⟨by omega, by omega⟩, ?_⟩
    exact hq q9 σ3 ⟨by omega, by omega⟩ (by intro h9; omega) hM4 hE5
  · have fc8 := ir2 c8
    refine ⟨fun c10 => ?_, fun c10 => ?_⟩
    · unfold b_isInput_26
      suffices hs : ∀ (q11 : Int32), q11.toInt = 0 → b_isInput_27 Q q11 σ3 from hs 0 rfl
      intro q11 hq11
      unfold b_isInput_27
      refine ⟨⟨by omega, by omega⟩, ?_⟩
      exact hq q11 σ3 ⟨by omega, by omega⟩ (by intro h9; omega) hM4 hE5
    · refine ⟨⟨by omega, by omega⟩, ?_⟩
      have a12 : 0 ≤ (rd σ3 3 p1).toInt ∧ (rd σ3 3 p1).toInt ≤ 4 := hM4.2 3 _
      refine ⟨fun c13 => ?_, fun c13 => ?_⟩
      · unfold b_isInput_26
        suffices hs : ∀ (q14 : Int32), q14.toInt = 0 → b_isInput_27 Q q14 σ3 from hs 0 rfl
        intro q14 hq14
        unfold b_isInput_27
        refine ⟨⟨by omega, by omega⟩, ?_⟩
        exact hq q14 σ3 ⟨by omega, by omega⟩ (by intro h9; omega) hM4 hE5
      · suffices hs : ∀ (q15 : Int32), q15.toInt = 1 → b_isInput_27 Q q15 σ3 from hs 1 rfl
        intro q15 hq15
        unfold b_isInput_27
        refine ⟨⟨by omega, by omega⟩, ?_⟩
        exact hq q15 σ3 ⟨by omega, by omega⟩ (by intro h9; omega) hM4 hE5
set_option maxHeartbeats 2000000 in
theorem rg_mayBe {Q : Int32 → VS → Prop} {p1 : Int32} {σ : VS} (hM : MI σ) (hq : ∀ (r : Int32) (σ' : VS), 0 ≤ r.toInt ∧ r.toInt ≤ 1 → (r.toInt ≠ 0 → (-1) ≤ p1.toInt ∧ p1.toInt ≤ 49) → MI σ' → Eo [] [] σ σ' → Q r σ') : wp_mayBe Q p1 σ := by
  unfold wp_mayBe
  have hE : Eo [] [] σ σ := Eo.rfl
  refine ⟨fun c1 => ?_, fun c1 => ?_⟩
  · unfold b_mayBe_13
    suffices hs : ∀ (q2 : Int32), q2.toInt = 1 → b_mayBe_18 Q q2 σ from hs 1 rfl
    intro q2 hq2
    unfold b_mayBe_18
    refine ⟨⟨by omega, by omega⟩, ?_⟩
    exact hq q2 σ ⟨by omega, by omega⟩ (by intro h9; omega) hM hE
  · have bd3 := i3_bd p1
    refine rg_isCell hM (fun r4 σ5 br4 ir4 hM6 hE7o => ?_)
    have hE7 := hE.of hE7o (by decide) (by decide)
    have f8 : 0 ≤ (σ.1 1).toInt ∧ (σ.1 1).toInt ≤ 50 := hM.1 1
    have u9 : (σ5.1 1).toInt = (σ.1 1).toInt := by rw [hE7o.1 1 (by decide)]
    refine ⟨fun c10 => ?_, fun c10 => ?_⟩
    · suffices hs : ∀ (q11 : Int32), q11.toInt = 0 → b_mayBe_18 Q q11 σ5 from hs 0 rfl
      intro q11 hq11
      unfold b_mayBe_18
      refine ⟨⟨by omega, by omega⟩, ?_⟩
      exact hq q11 σ5 ⟨by omega, by omega⟩ (by intro h9; omega) hM6 hE7
    · have fc10 := ir4 c10
      unfold b_mayBe_13
      suffices hs : ∀ (q12 : Int32), q12.toInt = 1 → b_mayBe_18 Q q12 σ5 from hs 1 rfl
      intro q12 hq12
      unfold b_mayBe_18
      refine ⟨⟨by omega, by omega⟩, ?_⟩
      exact hq q12 σ5 ⟨by omega, by omega⟩ (by intro h9; omega) hM6 hE7
set_option maxHeartbeats 2000000 in
theorem rg_extra {Q : Int32 → VS → Prop} {p1 : Int32} {p2 : Int32} {σ : VS} (hM : MI σ) (hq : ∀ (r : Int32) (σ' : VS), MI σ' → Eo [] [6] σ σ' → Q r σ') : wp_extra Q p1 p2 σ := by
  unfold wp_extra
  have hE : Eo [] [6] σ σ := Eo.rfl
  have bd1 := i3_bd p1
  refine rg_isCell hM (fun r2 σ3 br2 ir2 hM4 hE5o => ?_)
  have hE5 := hE.of hE5o (by decide) (by decide)
  have f6 : 0 ≤ (σ.1 1).toInt ∧ (σ.1 1).toInt ≤ 50 := hM.1 1
  have u7 : (σ3.1 1).toInt = (σ.1 1).toInt := by rw [hE5o.1 1 (by decide)]
  refine ⟨fun c8 => ?_, fun c8 => ?_⟩
  · unfold b_extra_19
    exact hq (-1) σ3 hM4 hE5
  · have fc8 := ir2 c8
    refine ⟨fun c9 => ?_, fun c9 => ?_⟩
    · unfold b_extra_19
      exact hq (-1) σ3 hM4 hE5
    · refine ⟨fun c10 => ?_, fun c10 => ?_⟩
      · refine ⟨⟨by omega, by omega⟩, ?_⟩
        have a11 : 0 ≤ (rd σ3 2 p1).toInt ∧ (rd σ3 2 p1).toInt ≤ 5 := hM4.2 2 _
        refine ⟨fun c12 => ?_, fun c12 => ?_⟩
        · refine ⟨⟨by omega, by omega⟩, ?_⟩
          have a13 : 0 ≤ (rd σ3 6 p1).toInt ∧ (rd σ3 6 p1).toInt ≤ 1000 := hM4.2 6 _
          intro x14 ex14
          have ix14 : x14.toInt = (rd σ3 6 p1).toInt := by rw [ex14]
          refine ⟨⟨by omega, by omega⟩, ?_⟩
          have hM15 := hM4.sa 6 p1 p2 (show 0 ≤ p2.toInt ∧ p2.toInt ≤ 1000 by omega)
          have hE16 := hE5.sa 6 p1 p2 (by decide)
          have u17 : ((sa σ3 6 p1 p2).1 1).toInt = (σ3.1 1).toInt := rfl
          have w18 : (rd (sa σ3 6 p1 p2) 6 p1).toInt = p2.toInt := by rw [rd_sa]
          exact hq x14 (sa σ3 6 p1 p2) hM15 hE16
        · exact hq (-2) σ3 hM4 hE5
      · unfold b_extra_19
        exact hq (-1) σ3 hM4 hE5
set_option maxHeartbeats 2000000 in
theorem rg_size {Q : Int32 → VS → Prop} {p1 : Int32} {p2 : Int32} {σ : VS} (hM : MI σ) (hq : ∀ (r : Int32) (σ' : VS), MI σ' → Eo [] [5] σ σ' → Q r σ') : wp_size Q p1 p2 σ := by
  unfold wp_size
  have hE : Eo [] [5] σ σ := Eo.rfl
  have bd1 := i3_bd p1
  refine rg_isCell hM (fun r2 σ3 br2 ir2 hM4 hE5o => ?_)
  have hE5 := hE.of hE5o (by decide) (by decide)
  have f6 : 0 ≤ (σ.1 1).toInt ∧ (σ.1 1).toInt ≤ 50 := hM.1 1
  have u7 : (σ3.1 1).toInt = (σ.1 1).toInt := by rw [hE5o.1 1 (by decide)]
  refine ⟨fun c8 => ?_, fun c8 => ?_⟩
  · unfold b_size_17
    exact hq (-1) σ3 hM4 hE5
  · have fc8 := ir2 c8
    refine ⟨fun c9 => ?_, fun c9 => ?_⟩
    · unfold b_size_17
      exact hq (-1) σ3 hM4 hE5
    · refine ⟨fun c10 => ?_, fun c10 => ?_⟩
      · refine ⟨⟨by omega, by omega⟩, ?_⟩
        have a11 : 0 ≤ (rd σ3 2 p1).toInt ∧ (rd σ3 2 p1).toInt ≤ 5 := hM4.2 2 _
        refine ⟨fun c12 => ?_, fun c12 => ?_⟩
        · unfold b_size_38
          exact hq (-2) σ3 hM4 hE5
        · refine ⟨⟨by omega, by omega⟩, ?_⟩
          refine ⟨fun c13 => ?_, fun c13 => ?_⟩
          · refine ⟨⟨by omega, by omega⟩, ?_⟩
            have a14 : 0 ≤ (rd σ3 5 p1).toInt ∧ (rd σ3 5 p1).toInt ≤ 2 := hM4.2 5 _
            intro x15 ex15
            have ix15 : x15.toInt = (rd σ3 5 p1).toInt := by rw [ex15]
            refine ⟨⟨by omega, by omega⟩, ?_⟩
            have hM16 := hM4.sa 5 p1 p2 (show 0 ≤ p2.toInt ∧ p2.toInt ≤ 2 by omega)
            have hE17 := hE5.sa 5 p1 p2 (by decide)
            have u18 : ((sa σ3 5 p1 p2).1 1).toInt = (σ3.1 1).toInt := rfl
            have w19 : (rd (sa σ3 5 p1 p2) 5 p1).toInt = p2.toInt := by rw [rd_sa]
            exact hq x15 (sa σ3 5 p1 p2) hM16 hE17
          · unfold b_size_38
            exact hq (-2) σ3 hM4 hE5
      · unfold b_size_17
        exact hq (-1) σ3 hM4 hE5
set_option maxHeartbeats 2000000 in
theorem rg_port {Q : Int32 → VS → Prop} {p1 : Int32} {p2 : Int32} {p3 : Int32} {p4 : Int32} {σ : VS} (hM : MI σ) (hq : ∀ (r : Int32) (σ' : VS), MI σ' → Eo [] [8, 9, 10] σ σ' → Q r σ') : wp_port Q p1 p2 p3 p4 σ := by
  unfold wp_port
  have hE : Eo [] [8, 9, 10] σ σ := Eo.rfl
  have bd1 := i3_bd p1
  refine rg_isCell hM (fun r2 σ3 br2 ir2 hM4 hE5o => ?_)
  have hE5 := hE.of hE5o (by decide) (by decide)
  have f6 : 0 ≤ (σ.1 1).toInt ∧ (σ.1 1).toInt ≤ 50 := hM.1 1
  have u7 : (σ3.1 1).toInt = (σ.1 1).toInt := by rw [hE5o.1 1 (by decide)]
  refine ⟨fun c8 => ?_, fun c8 => ?_⟩
  · unfold b_port_40
    exact hq (-1) σ3 hM4 hE5
  · have fc8 := ir2 c8
    refine ⟨fun c9 => ?_, fun c9 => ?_⟩
    · unfold b_port_40
      exact hq (-1) σ3 hM4 hE5
    · refine ⟨fun c10 => ?_, fun c10 => ?_⟩
      · unfold b_port_40
        exact hq (-1) σ3 hM4 hE5
      · refine ⟨fun c11 => ?_, fun c11 => ?_⟩
        · unfold b_port_40
          exact hq (-1) σ3 hM4 hE5
        · refine ⟨fun c12 => ?_, fun c12 => ?_⟩
          · unfold b_port_40
            exact hq (-1) σ3 hM4 hE5
          · refine ⟨fun c13 => ?_, fun c13 => ?_⟩
            · unfold b_port_40
              exact hq (-1) σ3 hM4 hE5
            · refine ⟨fun c14 => ?_, fun c14 => ?_⟩
              · refine ⟨⟨by omega, by omega⟩, ?_⟩
                have a15 : 0 ≤ (rd σ3 2 p1).toInt ∧ (rd σ3 2 p1).toInt ≤ 5 := hM4.2 2 _
                refine ⟨fun c16 => ?_, fun c16 => ?_⟩
                · refine ⟨⟨by omega, by omega⟩, ?_⟩
                  have hM17 := hM4.sa 8 p1 p2 (show 0 ≤ p2.toInt ∧ p2.toInt ≤ 100000 by omega)
                  have hE18 := hE5.sa 8 p1 p2 (by decide)
                  have u19 : ((sa σ3 8 p1 p2).1 1).toInt = (σ3.1 1).toInt := rfl
                  have w20 : (rd (sa σ3 8 p1 p2) 8 p1).toInt = p2.toInt := by rw [rd_sa]
                  refine ⟨⟨by omega, by omega⟩, ?_⟩
                  have hM21 := hM17.sa 9 p1 p3 (show 0 ≤ p3.toInt ∧ p3.toInt ≤ 100000 by omega)
                  have hE22 := hE18.sa 9 p1 p3 (by decide)
                  have u23 : ((sa (sa σ3 8 p1 p2) 9 p1 p3).1 1).toInt = ((sa σ3 8 p1 p2).1 1).toInt := rfl
                  have w24 : (rd (sa (sa σ3 8 p1 p2) 9 p1 p3) 9 p1).toInt = p3.toInt := by rw [rd_sa]
                  refine ⟨⟨by omega, by omega⟩, ?_⟩
                  have hM25 := hM21.sa 10 p1 p4 (show 0 ≤ p4.toInt ∧ p4.toInt ≤ 100000 by omega)
                  have hE26 := hE22.sa 10 p1 p4 (by decide)
                  have u27 : ((sa (sa (sa σ3 8 p1 p2) 9 p1 p3) 10 p1 p4).1 1).toInt = ((sa (sa σ3 8 p1 p2) 9 p1 p3).1 1).toInt := rfl
                  have w28 : (rd (sa (sa (sa σ3 8 p1 p2) 9 p1 p3) 10 p1 p4) 10 p1).toInt = p4.toInt := by rw [rd_sa]
                  exact hq 0 (sa (sa (sa σ3 8 p1 p2) 9 p1 p3) 10 p1 p4) hM25 hE26
                · exact hq (-2) σ3 hM4 hE5
              · unfold b_port_40
                exact hq (-1) σ3 hM4 hE5
set_option maxHeartbeats 2000000 in
theorem rg_target {Q : Int32 → VS → Prop} {p1 : Int32} {p2 : Int32} {p3 : Int32} {p4 : Int32} {σ : VS} (hM : MI σ) (hq : ∀ (r : Int32) (σ' : VS), MI σ' → Eo [] [11, 12, 13] σ σ' → Q r σ') : wp_target Q p1 p2 p3 p4 σ := by
  unfold wp_target
  have hE : Eo [] [11, 12, 13] σ σ := Eo.rfl
  have bd1 := i3_bd p1
  refine rg_isCell hM (fun r2 σ3 br2 ir2 hM4 hE5o => ?_)
  have hE5 := hE.of hE5o (by decide) (by decide)
  have f6 : 0 ≤ (σ.1 1).toInt ∧ (σ.1 1).toInt ≤ 50 := hM.1 1
  have u7 : (σ3.1 1).toInt = (σ.1 1).toInt := by rw [hE5o.1 1 (by decide)]
  refine ⟨fun c8 => ?_, fun c8 => ?_⟩
  · unfold b_target_65
    exact hq (-1) σ3 hM4 hE5
  · have fc8 := ir2 c8
    refine ⟨fun c9 => ?_, fun c9 => ?_⟩
    · unfold b_target_65
      exact hq (-1) σ3 hM4 hE5
    · have f10 : 0 ≤ (σ3.1 21).toInt ∧ (σ3.1 21).toInt ≤ 20 := hM4.1 21
      refine ⟨fun c11 => ?_, fun c11 => ?_⟩
      · unfold b_target_65
        exact hq (-1) σ3 hM4 hE5
      · refine ⟨fun c12 => ?_, fun c12 => ?_⟩
        · unfold b_target_65
          exact hq (-1) σ3 hM4 hE5
        · refine ⟨fun c13 => ?_, fun c13 => ?_⟩
          · unfold b_target_65
            exact hq (-1) σ3 hM4 hE5
          · refine ⟨fun c14 => ?_, fun c14 => ?_⟩
            · unfold b_target_65
              exact hq (-1) σ3 hM4 hE5
            · refine ⟨fun c15 => ?_, fun c15 => ?_⟩
              · unfold b_target_65
                exact hq (-1) σ3 hM4 hE5
              · refine ⟨⟨by omega, by omega⟩, ?_⟩
                have a16 : 0 ≤ (rd σ3 2 p1).toInt ∧ (rd σ3 2 p1).toInt ≤ 5 := hM4.2 2 _
                refine ⟨fun c17 => ?_, fun c17 => ?_⟩
                · unfold b_target_67
                  refine rg_isTarget ⟨by omega, by omega⟩ hM4 (fun r18 σ19 br18 hM20 hE21o => ?_)
                  have hE21 := hE5.of hE21o (by decide) (by decide)
                  have u22 : (σ19.1 1).toInt = (σ3.1 1).toInt := by rw [hE21o.1 1 (by decide)]
                  have u23 : (σ19.1 21).toInt = (σ3.1 21).toInt := by rw [hE21o.1 21 (by decide)]
                  have u24 : (rd σ19 2 p1).toInt = (rd σ3 2 p1).toInt := by unfold rd; rw [hE21o.2 2 (by decide)]
                  refine ⟨fun c25 => ?_, fun c25 => ?_⟩
                  · refine ⟨⟨by omega, by omega⟩, ?_⟩
                    have hM26 := hM20.sa 11 p1 p2 (show (-1) ≤ p2.toInt ∧ p2.toInt ≤ 19 by omega)
                    have hE27 := hE21.sa 11 p1 p2 (by decide)
                    have u28 : ((sa σ19 11 p1 p2).1 1).toInt = (σ19.1 1).toInt := rfl
                    have u29 : ((sa σ19 11 p1 p2).1 21).toInt = (σ19.1 21).toInt := rfl
                    have w30 : (rd (sa σ19 11 p1 p2) 11 p1).toInt = p2.toInt := by rw [rd_sa]
                    refine ⟨⟨by omega, by omega⟩, ?_⟩
                    have hM31 := hM26.sa 12 p1 p3 (show (-10000) ≤ p3.toInt ∧ p3.toInt ≤ 10000 by omega)
                    have hE32 := hE27.sa 12 p1 p3 (by decide)
                    have u33 : ((sa (sa σ19 11 p1 p2) 12 p1 p3).1 1).toInt = ((sa σ19 11 p1 p2).1 1).toInt := rfl
                    have u34 : ((sa (sa σ19 11 p1 p2) 12 p1 p3).1 21).toInt = ((sa σ19 11 p1 p2).1 21).toInt := rfl
                    have w35 : (rd (sa (sa σ19 11 p1 p2) 12 p1 p3) 12 p1).toInt = p3.toInt := by rw [rd_sa]
                    refine ⟨⟨by omega, by omega⟩, ?_⟩
                    have hM36 := hM31.sa 13 p1 p4 (show (-10000) ≤ p4.toInt ∧ p4.toInt ≤ 10000 by omega)
                    have hE37 := hE32.sa 13 p1 p4 (by decide)
                    have u38 : ((sa (sa (sa σ19 11 p1 p2) 12 p1 p3) 13 p1 p4).1 1).toInt = ((sa (sa σ19 11 p1 p2) 12 p1 p3).1 1).toInt := rfl
                    have u39 : ((sa (sa (sa σ19 11 p1 p2) 12 p1 p3) 13 p1 p4).1 21).toInt = ((sa (sa σ19 11 p1 p2) 12 p1 p3).1 21).toInt := rfl
                    have w40 : (rd (sa (sa (sa σ19 11 p1 p2) 12 p1 p3) 13 p1 p4) 13 p1).toInt = p4.toInt := by rw [rd_sa]
                    exact hq 0 (sa (sa (sa σ19 11 p1 p2) 12 p1 p3) 13 p1 p4) hM36 hE37
                  · exact hq (-2) σ19 hM20 hE21
                · refine ⟨fun c41 => ?_, fun c41 => ?_⟩
                  · unfold b_target_67
                    refine rg_isTarget ⟨by omega, by omega⟩ hM4 (fun r42 σ43 br42 hM44 hE45o => ?_)
                    have hE45 := hE5.of hE45o (by decide) (by decide)
                    have u46 : (σ43.1 1).toInt = (σ3.1 1).toInt := by rw [hE45o.1 1 (by decide)]
                    have u47 : (σ43.1 21).toInt = (σ3.1 21).toInt := by rw [hE45o.1 21 (by decide)]
                    have u48 : (rd σ43 2 p1).toInt = (rd σ3 2 p1).toInt := by unfold rd; rw [hE45o.2 2 (by decide)]
                    refine ⟨fun c49 => ?_, fun c49 => ?_⟩
                    · refine ⟨⟨by omega, by omega⟩, ?_⟩
                      have hM50 := hM44.sa 11 p1 p2 (show (-1) ≤ p2.toInt ∧ p2.toInt ≤ 19 by omega)
                      have hE51 := hE45.sa 11 p1 p2 (by decide)
                      have u52 : ((sa σ43 11 p1 p2).1 1).toInt = (σ43.1 1).toInt := rfl
                      have u53 : ((sa σ43 11 p1 p2).1 21).toInt = (σ43.1 21).toInt := rfl
                      have w54 : (rd (sa σ43 11 p1 p2) 11 p1).toInt = p2.toInt := by rw [rd_sa]
                      refine ⟨⟨by omega, by omega⟩, ?_⟩
                      have hM55 := hM50.sa 12 p1 p3 (show (-10000) ≤ p3.toInt ∧ p3.toInt ≤ 10000 by omega)
                      have hE56 := hE51.sa 12 p1 p3 (by decide)
                      have u57 : ((sa (sa σ43 11 p1 p2) 12 p1 p3).1 1).toInt = ((sa σ43 11 p1 p2).1 1).toInt := rfl
                      have u58 : ((sa (sa σ43 11 p1 p2) 12 p1 p3).1 21).toInt = ((sa σ43 11 p1 p2).1 21).toInt := rfl
                      have w59 : (rd (sa (sa σ43 11 p1 p2) 12 p1 p3) 12 p1).toInt = p3.toInt := by rw [rd_sa]
                      refine ⟨⟨by omega, by omega⟩, ?_⟩
                      have hM60 := hM55.sa 13 p1 p4 (show (-10000) ≤ p4.toInt ∧ p4.toInt ≤ 10000 by omega)
                      have hE61 := hE56.sa 13 p1 p4 (by decide)
                      have u62 : ((sa (sa (sa σ43 11 p1 p2) 12 p1 p3) 13 p1 p4).1 1).toInt = ((sa (sa σ43 11 p1 p2) 12 p1 p3).1 1).toInt := rfl
                      have u63 : ((sa (sa (sa σ43 11 p1 p2) 12 p1 p3) 13 p1 p4).1 21).toInt = ((sa (sa σ43 11 p1 p2) 12 p1 p3).1 21).toInt := rfl
                      have w64 : (rd (sa (sa (sa σ43 11 p1 p2) 12 p1 p3) 13 p1 p4) 13 p1).toInt = p4.toInt := by rw [rd_sa]
                      exact hq 0 (sa (sa (sa σ43 11 p1 p2) 12 p1 p3) 13 p1 p4) hM60 hE61
                    · exact hq (-2) σ43 hM44 hE45
                  · unfold b_target_65
                    exact hq (-1) σ3 hM4 hE5
set_option maxHeartbeats 2000000 in
theorem rg_entry {Q : Int32 → VS → Prop} {p1 : Int32} {p2 : Int32} {p3 : Int32} {p4 : Int32} {p5 : Int32} {σ : VS} (hM : MI σ) (hq : ∀ (r : Int32) (σ' : VS), MI σ' → Eo [] [15] σ σ' → Q r σ') : wp_entry Q p1 p2 p3 p4 p5 σ := by
  unfold wp_entry
  have hE : Eo [] [15] σ σ := Eo.rfl
  have bd1 := i3_bd p1
  have bd2 := i3_bd p2
  have bd3 := i3_bd p3
  refine rg_isRow hM (fun r4 σ5 br4 ir4 hM6 hE7o => ?_)
  have hE7 := hE.of hE7o (by decide) (by decide)
  refine ⟨fun c8 => ?_, fun c8 => ?_⟩
  · unfold b_entry_33
    exact hq (-1) σ5 hM6 hE7
  · have fc8 := ir4 c8
    refine ⟨fun c9 => ?_, fun c9 => ?_⟩
    · unfold b_entry_33
      exact hq (-1) σ5 hM6 hE7
    · refine ⟨fun c10 => ?_, fun c10 => ?_⟩
      · unfold b_entry_33
        exact hq (-1) σ5 hM6 hE7
      · refine ⟨fun c11 => ?_, fun c11 => ?_⟩
        · unfold b_entry_33
          exact hq (-1) σ5 hM6 hE7
        · refine ⟨fun c12 => ?_, fun c12 => ?_⟩
          · generalize ey13 : (8 * p1) = y13
            replace ey13 := ey13.symm
            have ty13 : y13.toInt = 8 * p1.toInt := i3_mulc rfl rfl ey13 (by omega)
            clear ey13
            generalize ey14 : (4 * p2) = y14
            replace ey14 := ey14.symm
            have ty14 : y14.toInt = 4 * p2.toInt := i3_mulc rfl rfl ey14 (by omega)
            clear ey14
            generalize ey15 : (y13 + y14) = y15
            replace ey15 := ey15.symm
            have ty15 : y15.toInt = y13.toInt + y14.toInt := i3_addc rfl rfl ey15 (by omega)
            clear ey15
            generalize ey16 : (y15 + p3) = y16
            replace ey16 := ey16.symm
            have ty16 : y16.toInt = y15.toInt + p3.toInt := i3_addc rfl rfl ey16 (by omega)
            clear ey16
            intro x17 ex17
            have ix17 : x17.toInt = y16.toInt := by rw [ex17]
            refine ⟨⟨by omega, by omega⟩, ?_⟩
            have a18 : 0 ≤ (rd σ5 16 x17).toInt ∧ (rd σ5 16 x17).toInt ≤ 3 := hM6.2 16 _
            refine ⟨fun c19 => ?_, fun c19 => ?_⟩
            · refine ⟨⟨by omega, by omega⟩, ?_⟩
              refine ⟨fun c20 => ?_, fun c20 => ?_⟩
              · generalize ey21 : (3 * x17) = y21
                replace ey21 := ey21.symm
                have ty21 : y21.toInt = 3 * x17.toInt := i3_mulc rfl rfl ey21 (by omega)
                clear ey21
                generalize ey22 : (y21 + p4) = y22
                replace ey22 := ey22.symm
                have ty22 : y22.toInt = y21.toInt + p4.toInt := i3_addc rfl rfl ey22 (by omega)
                clear ey22
                refine ⟨⟨by omega, by omega⟩, ?_⟩
                have a23 : 0 ≤ (rd σ5 15 y22).toInt ∧ (rd σ5 15 y22).toInt ≤ 3000 := hM6.2 15 _
                intro x24 ex24
                have ix24 : x24.toInt = (rd σ5 15 y22).toInt := by rw [ex24]
                refine ⟨⟨by omega, by omega⟩, ?_⟩
                have hM25 := hM6.sa 15 y22 p5 (show 0 ≤ p5.toInt ∧ p5.toInt ≤ 3000 by omega)
                have hE26 := hE7.sa 15 y22 p5 (by decide)
                have w27 : (rd (sa σ5 15 y22 p5) 15 y22).toInt = p5.toInt := by rw [rd_sa]
                exact hq x24 (sa σ5 15 y22 p5) hM25 hE26
              · exact hq (-12) σ5 hM6 hE7
            · exact hq (-11) σ5 hM6 hE7
          · unfold b_entry_33
            exact hq (-1) σ5 hM6 hE7
set_option maxHeartbeats 2000000 in
theorem rg_tear {Q : Int32 → VS → Prop} {p1 : Int32} {p2 : Int32} {p3 : Int32} {p4 : Int32} {σ : VS} (hM : MI σ) (hq : ∀ (r : Int32) (σ' : VS), MI σ' → Eo [] [15, 16] σ σ' → Q r σ') : wp_tear Q p1 p2 p3 p4 σ := by
  unfold wp_tear
  intro X47 H_47
  have hE : Eo [] [15, 16] σ σ := Eo.rfl
  obtain ⟨σ0, h0⟩ : ∃ z : VS, z = σ := ⟨_, rfl⟩
  rw [← h0] at hq
  replace hE : Eo [] [15, 16] σ0 σ := by rw [h0]; exact hE
  clear h0
  have bd1 := i3_bd p1
  have bd2 := i3_bd p2
  have bd3 := i3_bd p3
  refine rg_isRow hM (fun r4 σ5 br4 ir4 hM6 hE7o => ?_)
  have hE7 := hE.of hE7o (by decide) (by decide)
  refine ⟨fun c8 => ?_, fun c8 => ?_⟩
  · unfold b_tear_20
    exact hq (-1) σ5 hM6 hE7
  · have fc8 := ir4 c8
    refine ⟨fun c9 => ?_, fun c9 => ?_⟩
    · unfold b_tear_20
      exact hq (-1) σ5 hM6 hE7
    · refine ⟨fun c10 => ?_, fun c10 => ?_⟩
      · generalize ey11 : (8 * p1) = y11
        replace ey11 := ey11.symm
        have ty11 : y11.toInt = 8 * p1.toInt := i3_mulc rfl rfl ey11 (by omega)
        clear ey11
        generalize ey12 : (4 * p2) = y12
        replace ey12 := ey12.symm
        have ty12 : y12.toInt = 4 * p2.toInt := i3_mulc rfl rfl ey12 (by omega)
        clear ey12
        generalize ey13 : (y11 + y12) = y13
        replace ey13 := ey13.symm
        have ty13 : y13.toInt = y11.toInt + y12.toInt := i3_addc rfl rfl ey13 (by omega)
        clear ey13
        generalize ey14 : (y13 + p3) = y14
        replace ey14 := ey14.symm
        have ty14 : y14.toInt = y13.toInt + p3.toInt := i3_addc rfl rfl ey14 (by omega)
        clear ey14
        intro x15 ex15
        have ix15 : x15.toInt = y14.toInt := by rw [ex15]
        refine ⟨⟨by omega, by omega⟩, ?_⟩
        have a16 : 0 ≤ (rd σ5 16 x15).toInt ∧ (rd σ5 16 x15).toInt ≤ 3 := hM6.2 16 _
        intro x17 ex17
        have ix17 : x17.toInt = (rd σ5 16 x15).toInt := by rw [ex17]
        have L_47_n18 : ∀ (n18 : Nat) (l4 : Int32) (l5 : Int32) (l6 : Int32) (l7 : Int32) (σ : VS), 3 - l7.toInt < (n18 : Int) → 0 ≤ l4.toInt ∧ l4.toInt ≤ 3 → 0 ≤ l5.toInt ∧ l5.toInt ≤ 63 → 0 ≤ l6.toInt ∧ l6.toInt ≤ 3 → 0 ≤ l7.toInt ∧ l7.toInt ≤ 3 → MI σ → Eo [] [15, 16] σ0 σ → X47 l4 l5 l6 l7 σ := by
          intro n18
          induction n18 with
          | zero => intro l4 l5 l6 l7 σ hm h_l4 h_l5 h_l6 h_l7 hM hE; exfalso; omega
          | succ n18 ih_n18 =>
            intro l4 l5 l6 l7 σ hm h_l4 h_l5 h_l6 h_l7 hM hE
            have hm2_47 : 3 - l7.toInt < (n18 : Int) + 1 := by omega
            refine H_47 l4 l5 l6 l7 σ ?_
            unfold b_tear_47
            refine ⟨fun c19 => ?_, fun c19 => ?_⟩
            · refine ⟨⟨by omega, by omega⟩, ?_⟩
              have hM20 := hM.sa 16 l5 l4 (show 0 ≤ l4.toInt ∧ l4.toInt ≤ 3 by omega)
              have hE21 := hE.sa 16 l5 l4 (by decide)
              have w22 : (rd (sa σ 16 l5 l4) 16 l5).toInt = l4.toInt := by rw [rd_sa]
              exact hq l6 (sa σ 16 l5 l4) hM20 hE21
            · generalize ey23 : (3 * l5) = y23
              replace ey23 := ey23.symm
              have ty23 : y23.toInt = 3 * l5.toInt := i3_mulc rfl rfl ey23 (by omega)
              clear ey23
              generalize ey24 : (y23 + l7) = y24
              replace ey24 := ey24.symm
              have ty24 : y24.toInt = y23.toInt + l7.toInt := i3_addc rfl rfl ey24 (by omega)
              clear ey24
              refine ⟨⟨by omega, by omega⟩, ?_⟩
              have hM25 := hM.sa 15 y24 10 (show 0 ≤ (10 : Int32).toInt ∧ (10 : Int32).toInt ≤ 3000 by decide)
              have hE26 := hE.sa 15 y24 10 (by decide)
              have w27 : (rd (sa σ 15 y24 10) 15 y24).toInt = 10 := by rw [rd_sa]; rfl
              generalize ey28 : (l7 + 1) = y28
              replace ey28 := ey28.symm
              have ty28 : y28.toInt = l7.toInt + 1 := i3_addc rfl rfl ey28 (by omega)
              clear ey28
              exact ih_n18 l4 l5 l6 y28 (sa σ 15 y24 10) (by omega) (by first | omega | decide) (by first | omega | decide) (by first | omega | decide) (by first | omega | decide) hM25 hE26
        exact L_47_n18 ((3 - x17.toInt).toNat + 1) p4 x15 x17 x17 σ5 (by omega) (by first | omega | decide) (by first | omega | decide) (by first | omega | decide) (by first | omega | decide) hM6 hE7
      · unfold b_tear_20
        exact hq (-1) σ5 hM6 hE7
set_option maxHeartbeats 2000000 in
theorem rg_fall {Q : Int32 → VS → Prop} {p1 : Int32} {p2 : Int32} {σ : VS} (hM : MI σ) (hq : ∀ (r : Int32) (σ' : VS), MI σ' → Eo [] [17] σ σ' → Q r σ') : wp_fall Q p1 p2 σ := by
  unfold wp_fall
  have hE : Eo [] [17] σ σ := Eo.rfl
  refine ⟨fun c1 => ?_, fun c1 => ?_⟩
  · unfold b_fall_21
    exact hq (-1) σ hM hE
  · refine ⟨fun c2 => ?_, fun c2 => ?_⟩
    · unfold b_fall_21
      exact hq (-1) σ hM hE
    · refine ⟨fun c3 => ?_, fun c3 => ?_⟩
      · unfold b_fall_21
        exact hq (-1) σ hM hE
      · refine ⟨fun c4 => ?_, fun c4 => ?_⟩
        · refine ⟨⟨by omega, by omega⟩, ?_⟩
          have a5 : 0 ≤ (rd σ 17 p1).toInt ∧ (rd σ 17 p1).toInt ≤ 1000 := hM.2 17 _
          intro x6 ex6
          have ix6 : x6.toInt = (rd σ 17 p1).toInt := by rw [ex6]
          refine ⟨⟨by omega, by omega⟩, ?_⟩
          have hM7 := hM.sa 17 p1 p2 (show 0 ≤ p2.toInt ∧ p2.toInt ≤ 1000 by omega)
          have hE8 := hE.sa 17 p1 p2 (by decide)
          have w9 : (rd (sa σ 17 p1 p2) 17 p1).toInt = p2.toInt := by rw [rd_sa]
          exact hq x6 (sa σ 17 p1 p2) hM7 hE8
        · unfold b_fall_21
          exact hq (-1) σ hM hE
set_option maxHeartbeats 2000000 in
theorem rg_corner {Q : Int32 → VS → Prop} {p1 : Int32} {p2 : Int32} {σ : VS} (hM : MI σ) (hq : ∀ (r : Int32) (σ' : VS), MI σ' → Eo [18, 19] [] σ σ' → Q r σ') : wp_corner Q p1 p2 σ := by
  unfold wp_corner
  have hE : Eo [18, 19] [] σ σ := Eo.rfl
  refine ⟨fun c1 => ?_, fun c1 => ?_⟩
  · unfold b_corner_22
    exact hq (-1) σ hM hE
  · refine ⟨fun c2 => ?_, fun c2 => ?_⟩
    · unfold b_corner_22
      exact hq (-1) σ hM hE
    · refine ⟨fun c3 => ?_, fun c3 => ?_⟩
      · unfold b_corner_22
        exact hq (-1) σ hM hE
      · refine ⟨fun c4 => ?_, fun c4 => ?_⟩
        · have hM5 := hM.sf 18 p1 (show 0 ≤ p1.toInt ∧ p1.toInt ≤ 500 by omega)
          have hE6 := hE.sf 18 p1 (by decide)
          have hM7 := hM5.sf 19 p2 (show 0 ≤ p2.toInt ∧ p2.toInt ≤ 500 by omega)
          have hE8 := hE6.sf 19 p2 (by decide)
          exact hq 0 (sf (sf σ 18 p1) 19 p2) hM7 hE8
        · unfold b_corner_22
          exact hq (-1) σ hM hE
set_option maxHeartbeats 2000000 in
theorem rg_period {Q : Int32 → VS → Prop} {p1 : Int32} {σ : VS} (hM : MI σ) (hq : ∀ (r : Int32) (σ' : VS), MI σ' → Eo [20] [] σ σ' → Q r σ') : wp_period Q p1 σ := by
  unfold wp_period
  have hE : Eo [20] [] σ σ := Eo.rfl
  refine ⟨fun c1 => ?_, fun c1 => ?_⟩
  · unfold b_period_11
    exact hq (-1) σ hM hE
  · refine ⟨fun c2 => ?_, fun c2 => ?_⟩
    · have f3 : 1 ≤ (σ.1 20).toInt ∧ (σ.1 20).toInt ≤ 1000000 := hM.1 20
      intro x4 ex4
      have ix4 : x4.toInt = (σ.1 20).toInt := by rw [ex4]
      have hM5 := hM.sf 20 p1 (show 1 ≤ p1.toInt ∧ p1.toInt ≤ 1000000 by omega)
      have hE6 := hE.sf 20 p1 (by decide)
      have u7 : ((sf σ 20 p1).1 20).toInt = p1.toInt := rfl
      exact hq x4 (sf σ 20 p1) hM5 hE6
    · unfold b_period_11
      exact hq (-1) σ hM hE
set_option maxHeartbeats 2000000 in
theorem rg_node {Q : Int32 → VS → Prop} {p1 : Int32} {p2 : Int32} {p3 : Int32} {σ : VS} (hM : MI σ) (hq : ∀ (r : Int32) (σ' : VS), MI σ' → Eo [21] [22, 23, 24] σ σ' → Q r σ') : wp_node Q p1 p2 p3 σ := by
  unfold wp_node
  have hE : Eo [21] [22, 23, 24] σ σ := Eo.rfl
  refine ⟨fun c1 => ?_, fun c1 => ?_⟩
  · unfold b_node_28
    exact hq (-1) σ hM hE
  · have f2 : 0 ≤ (σ.1 21).toInt ∧ (σ.1 21).toInt ≤ 20 := hM.1 21
    refine ⟨fun c3 => ?_, fun c3 => ?_⟩
    · unfold b_node_28
      exact hq (-1) σ hM hE
    · refine ⟨fun c4 => ?_, fun c4 => ?_⟩
      · unfold b_node_28
        exact hq (-1) σ hM hE
      · refine ⟨fun c5 => ?_, fun c5 => ?_⟩
        · unfold b_node_28
          exact hq (-1) σ hM hE
        · refine ⟨fun c6 => ?_, fun c6 => ?_⟩
          · refine ⟨fun c7 => ?_, fun c7 => ?_⟩
            · refine ⟨⟨by omega, by omega⟩, ?_⟩
              have hM8 := hM.sa 22 (σ.1 21) p1 (show (-1) ≤ p1.toInt ∧ p1.toInt ≤ 19 by omega)
              have hE9 := hE.sa 22 (σ.1 21) p1 (by decide)
              have u10 : ((sa σ 22 (σ.1 21) p1).1 21).toInt = (σ.1 21).toInt := rfl
              have w11 : (rd (sa σ 22 (σ.1 21) p1) 22 (σ.1 21)).toInt = p1.toInt := by rw [rd_sa]
              refine ⟨⟨by omega, by omega⟩, ?_⟩
              have hM12 := hM8.sa 23 ((sa σ 22 (σ.1 21) p1).1 21) p2 (i3_bd _)
              have hE13 := hE9.sa 23 ((sa σ 22 (σ.1 21) p1).1 21) p2 (by decide)
              have u14 : ((sa (sa σ 22 (σ.1 21) p1) 23 ((sa σ 22 (σ.1 21) p1).1 21) p2).1 21).toInt = ((sa σ 22 (σ.1 21) p1).1 21).toInt := rfl
              have w15 : (rd (sa (sa σ 22 (σ.1 21) p1) 23 ((sa σ 22 (σ.1 21) p1).1 21) p2) 23 ((sa σ 22 (σ.1 21) p1).1 21)).toInt = p2.toInt := by rw [rd_sa]
              refine ⟨⟨by omega, by omega⟩, ?_⟩
              have hM16 := hM12.sa 24 ((sa (sa σ 22 (σ.1 21) p1) 23 ((sa σ 22 (σ.1 21) p1).1 21) p2).1 21) p3 (i3_bd _)
              have hE17 := hE13.sa 24 ((sa (sa σ 22 (σ.1 21) p1) 23 ((sa σ 22 (σ.1 21) p1).1 21) p2).1 21) p3 (by decide)
              have u18 : ((sa (sa (sa σ 22 (σ.1 21) p1) 23 ((sa σ 22 (σ.1 21) p1).1 21) p2) 24 ((sa (sa σ 22 (σ.1 21) p1) 23 ((sa σ 22 (σ.1 21) p1).1 21) p2).1 21) p3).1 21).toInt = ((sa (sa σ 22 (σ.1 21) p1) 23 ((sa σ 22 (σ.1 21) p1).1 21) p2).1 21).toInt := rfl
              have w19 : (rd (sa (sa (sa σ 22 (σ.1 21) p1) 23 ((sa σ 22 (σ.1 21) p1).1 21) p2) 24 ((sa (sa σ 22 (σ.1 21) p1) 23 ((sa σ 22 (σ.1 21) p1).1 21) p2).1 21) p3) 24 ((sa (sa σ 22 (σ.1 21) p1) 23 ((sa σ 22 (σ.1 21) p1).1 21) p2).1 21)).toInt = p3.toInt := by rw [rd_sa]
              generalize ey20 : (((sa (sa (sa σ 22 (σ.1 21) p1) 23 ((sa σ 22 (σ.1 21) p1).1 21) p2) 24 ((sa (sa σ 22 (σ.1 21) p1) 23 ((sa σ 22 (σ.1 21) p1).1 21) p2).1 21) p3).1 21) + 1) = y20
              replace ey20 := ey20.symm
              have ty20 : y20.toInt = ((sa (sa (sa σ 22 (σ.1 21) p1) 23 ((sa σ 22 (σ.1 21) p1).1 21) p2) 24 ((sa (sa σ 22 (σ.1 21) p1) 23 ((sa σ 22 (σ.1 21) p1).1 21) p2).1 21) p3).1 21).toInt + 1 := i3_addc rfl rfl ey20 (by omega)
              clear ey20
              have hM21 := hM16.sf 21 y20 (show 0 ≤ y20.toInt ∧ y20.toInt ≤ 20 by omega)
              have hE22 := hE17.sf 21 y20 (by decide)
              have u23 : ((sf (sa (sa (sa σ 22 (σ.1 21) p1) 23 ((sa σ 22 (σ.1 21) p1).1 21) p2) 24 ((sa (sa σ 22 (σ.1 21) p1) 23 ((sa σ 22 (σ.1 21) p1).1 21) p2).1 21) p3) 21 y20).1 21).toInt = y20.toInt := rfl
              generalize ey24 : (((sf (sa (sa (sa σ 22 (σ.1 21) p1) 23 ((sa σ 22 (σ.1 21) p1).1 21) p2) 24 ((sa (sa σ 22 (σ.1 21) p1) 23 ((sa σ 22 (σ.1 21) p1).1 21) p2).1 21) p3) 21 y20).1 21) - 1) = y24
              replace ey24 := ey24.symm
              have ty24 : y24.toInt = ((sf (sa (sa (sa σ 22 (σ.1 21) p1) 23 ((sa σ 22 (σ.1 21) p1).1 21) p2) 24 ((sa (sa σ 22 (σ.1 21) p1) 23 ((sa σ 22 (σ.1 21) p1).1 21) p2).1 21) p3) 21 y20).1 21).toInt - 1 := i3_subc rfl rfl ey24 (by omega)
              clear ey24
              exact hq y24 (sf (sa (sa (sa σ 22 (σ.1 21) p1) 23 ((sa σ 22 (σ.1 21) p1).1 21) p2) 24 ((sa (sa σ 22 (σ.1 21) p1) 23 ((sa σ 22 (σ.1 21) p1).1 21) p2).1 21) p3) 21 y20) hM21 hE22
            · exact hq (-3) σ hM hE
          · unfold b_node_28
            exact hq (-1) σ hM hE
set_option maxHeartbeats 2000000 in
theorem rg_except {Q : Int32 → VS → Prop} {p1 : Int32} {p2 : Int32} {p3 : Int32} {p4 : Int32} {σ : VS} (hM : MI σ) (hq : ∀ (r : Int32) (σ' : VS), MI σ' → Eo [25] [26, 27, 28, 29] σ σ' → Q r σ') : wp_except Q p1 p2 p3 p4 σ := by
  unfold wp_except
  have hE : Eo [25] [26, 27, 28, 29] σ σ := Eo.rfl
  refine ⟨fun c1 => ?_, fun c1 => ?_⟩
  · unfold b_except_14
    have bd2 := i3_bd p2
    refine rg_mayBe hM (fun r3 σ4 br3 ir3 hM5 hE6o => ?_)
    have hE6 := hE.of hE6o (by decide) (by decide)
    refine ⟨fun c7 => ?_, fun c7 => ?_⟩
    · unfold b_except_52
      exact hq (-1) σ4 hM5 hE6
    · have fc7 := ir3 c7
      have bd8 := i3_bd p3
      refine rg_mayBe hM5 (fun r9 σ10 br9 ir9 hM11 hE12o => ?_)
      have hE12 := hE6.of hE12o (by decide) (by decide)
      refine ⟨fun c13 => ?_, fun c13 => ?_⟩
      · unfold b_except_52
        exact hq (-1) σ10 hM11 hE12
      · have fc13 := ir9 c13
        have bd14 := i3_bd p4
        refine rg_mayBe hM11 (fun r15 σ16 br15 ir15 hM17 hE18o => ?_)
        have hE18 := hE12.of hE18o (by decide) (by decide)
        refine ⟨fun c19 => ?_, fun c19 => ?_⟩
        · unfold b_except_52
          exact hq (-1) σ16 hM17 hE18
        · have fc19 := ir15 c19
          refine ⟨fun c20 => ?_, fun c20 => ?_⟩
          · unfold b_except_54
            have f21 : 0 ≤ (σ16.1 25).toInt ∧ (σ16.1 25).toInt ≤ 4 := hM17.1 25
            refine ⟨fun c22 => ?_, fun c22 => ?_⟩
            · refine ⟨⟨by omega, by omega⟩, ?_⟩
              have hM23 := hM17.sa 26 (σ16.1 25) p1 (show 0 ≤ p1.toInt ∧ p1.toInt ≤ 4 by omega)
              have hE24 := hE18.sa 26 (σ16.1 25) p1 (by decide)
              have u25 : ((sa σ16 26 (σ16.1 25) p1).1 25).toInt = (σ16.1 25).toInt := rfl
              have w26 : (rd (sa σ16 26 (σ16.1 25) p1) 26 (σ16.1 25)).toInt = p1.toInt := by rw [rd_sa]
              refine ⟨⟨by omega, by omega⟩, ?_⟩
              have hM27 := hM23.sa 27 ((sa σ16 26 (σ16.1 25) p1).1 25) p2 (show (-1) ≤ p2.toInt ∧ p2.toInt ≤ 49 by omega)
              have hE28 := hE24.sa 27 ((sa σ16 26 (σ16.1 25) p1).1 25) p2 (by decide)
              have u29 : ((sa (sa σ16 26 (σ16.1 25) p1) 27 ((sa σ16 26 (σ16.1 25) p1).1 25) p2).1 25).toInt = ((sa σ16 26 (σ16.1 25) p1).1 25).toInt := rfl
              have w30 : (rd (sa (sa σ16 26 (σ16.1 25) p1) 27 ((sa σ16 26 (σ16.1 25) p1).1 25) p2) 27 ((sa σ16 26 (σ16.1 25) p1).1 25)).toInt = p2.toInt := by rw [rd_sa]
              refine ⟨⟨by omega, by omega⟩, ?_⟩
              have hM31 := hM27.sa 28 ((sa (sa σ16 26 (σ16.1 25) p1) 27 ((sa σ16 26 (σ16.1 25) p1).1 25) p2).1 25) p3 (show (-1) ≤ p3.toInt ∧ p3.toInt ≤ 49 by omega)
              have hE32 := hE28.sa 28 ((sa (sa σ16 26 (σ16.1 25) p1) 27 ((sa σ16 26 (σ16.1 25) p1).1 25) p2).1 25) p3 (by decide)
              have u33 : ((sa (sa (sa σ16 26 (σ16.1 25) p1) 27 ((sa σ16 26 (σ16.1 25) p1).1 25) p2) 28 ((sa (sa σ16 26 (σ16.1 25) p1) 27 ((sa σ16 26 (σ16.1 25) p1).1 25) p2).1 25) p3).1 25).toInt = ((sa (sa σ16 26 (σ16.1 25) p1) 27 ((sa σ16 26 (σ16.1 25) p1).1 25) p2).1 25).toInt := rfl
              have w34 : (rd (sa (sa (sa σ16 26 (σ16.1 25) p1) 27 ((sa σ16 26 (σ16.1 25) p1).1 25) p2) 28 ((sa (sa σ16 26 (σ16.1 25) p1) 27 ((sa σ16 26 (σ16.1 25) p1).1 25) p2).1 25) p3) 28 ((sa (sa σ16 26 (σ16.1 25) p1) 27 ((sa σ16 26 (σ16.1 25) p1).1 25) p2).1 25)).toInt = p3.toInt := by rw [rd_sa]
              refine ⟨⟨by omega, by omega⟩, ?_⟩
              have hM35 := hM31.sa 29 ((sa (sa (sa σ16 26 (σ16.1 25) p1) 27 ((sa σ16 26 (σ16.1 25) p1).1 25) p2) 28 ((sa (sa σ16 26 (σ16.1 25) p1) 27 ((sa σ16 26 (σ16.1 25) p1).1 25) p2).1 25) p3).1 25) p4 (show (-1) ≤ p4.toInt ∧ p4.toInt ≤ 49 by omega)
              have hE36 := hE32.sa 29 ((sa (sa (sa σ16 26 (σ16.1 25) p1) 27 ((sa σ16 26 (σ16.1 25) p1).1 25) p2) 28 ((sa (sa σ16 26 (σ16.1 25) p1) 27 ((sa σ16 26 (σ16.1 25) p1).1 25) p2).1 25) p3).1 25) p4 (by decide)
              have u37 : ((sa (sa (sa (sa σ16 26 (σ16.1 25) p1) 27 ((sa σ16 26 (σ16.1 25) p1).1 25) p2) 28 ((sa (sa σ16 26 (σ16.1 25) p1) 27 ((sa σ16 26 (σ16.1 25) p1).1 25) p2).1 25) p3) 29 ((sa (sa (sa σ16 26 (σ16.1 25) p1) 27 ((sa σ16 26 (σ16.1 25) p1).1 25) p2) 28 ((sa (sa σ16 26 (σ16.1 25) p1) 27 ((sa σ16 26 (σ16.1 25) p1).1 25) p2).1 25) p3).1 25) p4).1 25).toInt = ((sa (sa (sa σ16 26 (σ16.1 25) p1) 27 ((sa σ16 26 (σ16.1 25) p1).1 25) p2) 28 ((sa (sa σ16 26 (σ16.1 25) p1) 27 ((sa σ16 26 (σ16.1 25) p1).1 25) p2).1 25) p3).1 25).toInt := rfl
              have w38 : (rd (sa (sa (sa (sa σ16 26 (σ16.1 25) p1) 27 ((sa σ16 26 (σ16.1 25) p1).1 25) p2) 28 ((sa (sa σ16 26 (σ16.1 25) p1) 27 ((sa σ16 26 (σ16.1 25) p1).1 25) p2).1 25) p3) 29 ((sa (sa (sa σ16 26 (σ16.1 25) p1) 27 ((sa σ16 26 (σ16.1 25) p1).1 25) p2) 28 ((sa (sa σ16 26 (σ16.1 25) p1) 27 ((sa σ16 26 (σ16.1 25) p1).1 25) p2).1 25) p3).1 25) p4) 29 ((sa (sa (sa σ16 26 (σ16.1 25) p1) 27 ((sa σ16 26 (σ16.1 25) p1).1 25) p2) 28 ((sa (sa σ16 26 (σ16.1 25) p1) 27 ((sa σ16 26 (σ16.1 25) p1).1 25) p2).1 25) p3).1 25)).toInt = p4.toInt := by rw [rd_sa]
              generalize ey39 : (((sa (sa (sa (sa σ16 26 (σ16.1 25) p1) 27 ((sa σ16 26 (σ16.1 25) p1).1 25) p2) 28 ((sa (sa σ16 26 (σ16.1 25) p1) 27 ((sa σ16 26 (σ16.1 25) p1).1 25) p2).1 25) p3) 29 ((sa (sa (sa σ16 26 (σ16.1 25) p1) 27 ((sa σ16 26 (σ16.1 25) p1).1 25) p2) 28 ((sa (sa σ16 26 (σ16.1 25) p1) 27 ((sa σ16 26 (σ16.1 25) p1).1 25) p2).1 25) p3).1 25) p4).1 25) + 1) = y39
              replace ey39 := ey39.symm
              have ty39 : y39.toInt = ((sa (sa (sa (sa σ16 26 (σ16.1 25) p1) 27 ((sa σ16 26 (σ16.1 25) p1).1 25) p2) 28 ((sa (sa σ16 26 (σ16.1 25) p1) 27 ((sa σ16 26 (σ16.1 25) p1).1 25) p2).1 25) p3) 29 ((sa (sa (sa σ16 26 (σ16.1 25) p1) 27 ((sa σ16 26 (σ16.1 25) p1).1 25) p2) 28 ((sa (sa σ16 26 (σ16.1 25) p1) 27 ((sa σ16 26 (σ16.1 25) p1).1 25) p2).1 25) p3).1 25) p4).1 25).toInt + 1 := i3_addc rfl rfl ey39 (by omega)
              clear ey39
              have hM40 := hM35.sf 25 y39 (show 0 ≤ y39.toInt ∧ y39.toInt ≤ 4 by omega)
              have hE41 := hE36.sf 25 y39 (by decide)
              have u42 : ((sf (sa (sa (sa (sa σ16 26 (σ16.1 25) p1) 27 ((sa σ16 26 (σ16.1 25) p1).1 25) p2) 28 ((sa (sa σ16 26 (σ16.1 25) p1) 27 ((sa σ16 26 (σ16.1 25) p1).1 25) p2).1 25) p3) 29 ((sa (sa (sa σ16 26 (σ16.1 25) p1) 27 ((sa σ16 26 (σ16.1 25) p1).1 25) p2) 28 ((sa (sa σ16 26 (σ16.1 25) p1) 27 ((sa σ16 26 (σ16.1 25) p1).1 25) p2).1 25) p3).1 25) p4) 25 y39).1 25).toInt = y39.toInt := rfl
              generalize ey43 : (((sf (sa (sa (sa (sa σ16 26 (σ16.1 25) p1) 27 ((sa σ16 26 (σ16.1 25) p1).1 25) p2) 28 ((sa (sa σ16 26 (σ16.1 25) p1) 27 ((sa σ16 26 (σ16.1 25) p1).1 25) p2).1 25) p3) 29 ((sa (sa (sa σ16 26 (σ16.1 25) p1) 27 ((sa σ16 26 (σ16.1 25) p1).1 25) p2) 28 ((sa (sa σ16 26 (σ16.1 25) p1) 27 ((sa σ16 26 (σ16.1 25) p1).1 25) p2).1 25) p3).1 25) p4) 25 y39).1 25) - 1) = y43
              replace ey43 := ey43.symm
              have ty43 : y43.toInt = ((sf (sa (sa (sa (sa σ16 26 (σ16.1 25) p1) 27 ((sa σ16 26 (σ16.1 25) p1).1 25) p2) 28 ((sa (sa σ16 26 (σ16.1 25) p1) 27 ((sa σ16 26 (σ16.1 25) p1).1 25) p2).1 25) p3) 29 ((sa (sa (sa σ16 26 (σ16.1 25) p1) 27 ((sa σ16 26 (σ16.1 25) p1).1 25) p2) 28 ((sa (sa σ16 26 (σ16.1 25) p1) 27 ((sa σ16 26 (σ16.1 25) p1).1 25) p2).1 25) p3).1 25) p4) 25 y39).1 25).toInt - 1 := i3_subc rfl rfl ey43 (by omega)
              clear ey43
              exact hq y43 (sf (sa (sa (sa (sa σ16 26 (σ16.1 25) p1) 27 ((sa σ16 26 (σ16.1 25) p1).1 25) p2) 28 ((sa (sa σ16 26 (σ16.1 25) p1) 27 ((sa σ16 26 (σ16.1 25) p1).1 25) p2).1 25) p3) 29 ((sa (sa (sa σ16 26 (σ16.1 25) p1) 27 ((sa σ16 26 (σ16.1 25) p1).1 25) p2) 28 ((sa (sa σ16 26 (σ16.1 25) p1) 27 ((sa σ16 26 (σ16.1 25) p1).1 25) p2).1 25) p3).1 25) p4) 25 y39) hM40 hE41
            · exact hq (-3) σ16 hM17 hE18
          · refine ⟨fun c44 => ?_, fun c44 => ?_⟩
            · unfold b_except_54
              have f45 : 0 ≤ (σ16.1 25).toInt ∧ (σ16.1 25).toInt ≤ 4 := hM17.1 25
              refine ⟨fun c46 => ?_, fun c46 => ?_⟩
              · refine ⟨⟨by omega, by omega⟩, ?_⟩
                have hM47 := hM17.sa 26 (σ16.1 25) p1 (show 0 ≤ p1.toInt ∧ p1.toInt ≤ 4 by omega)
                have hE48 := hE18.sa 26 (σ16.1 25) p1 (by decide)
                have u49 : ((sa σ16 26 (σ16.1 25) p1).1 25).toInt = (σ16.1 25).toInt := rfl
                have w50 : (rd (sa σ16 26 (σ16.1 25) p1) 26 (σ16.1 25)).toInt = p1.toInt := by rw [rd_sa]
                refine ⟨⟨by omega, by omega⟩, ?_⟩
                have hM51 := hM47.sa 27 ((sa σ16 26 (σ16.1 25) p1).1 25) p2 (show (-1) ≤ p2.toInt ∧ p2.toInt ≤ 49 by omega)
                have hE52 := hE48.sa 27 ((sa σ16 26 (σ16.1 25) p1).1 25) p2 (by decide)
                have u53 : ((sa (sa σ16 26 (σ16.1 25) p1) 27 ((sa σ16 26 (σ16.1 25) p1).1 25) p2).1 25).toInt = ((sa σ16 26 (σ16.1 25) p1).1 25).toInt := rfl
                have w54 : (rd (sa (sa σ16 26 (σ16.1 25) p1) 27 ((sa σ16 26 (σ16.1 25) p1).1 25) p2) 27 ((sa σ16 26 (σ16.1 25) p1).1 25)).toInt = p2.toInt := by rw [rd_sa]
                refine ⟨⟨by omega, by omega⟩, ?_⟩
                have hM55 := hM51.sa 28 ((sa (sa σ16 26 (σ16.1 25) p1) 27 ((sa σ16 26 (σ16.1 25) p1).1 25) p2).1 25) p3 (show (-1) ≤ p3.toInt ∧ p3.toInt ≤ 49 by omega)
                have hE56 := hE52.sa 28 ((sa (sa σ16 26 (σ16.1 25) p1) 27 ((sa σ16 26 (σ16.1 25) p1).1 25) p2).1 25) p3 (by decide)
                have u57 : ((sa (sa (sa σ16 26 (σ16.1 25) p1) 27 ((sa σ16 26 (σ16.1 25) p1).1 25) p2) 28 ((sa (sa σ16 26 (σ16.1 25) p1) 27 ((sa σ16 26 (σ16.1 25) p1).1 25) p2).1 25) p3).1 25).toInt = ((sa (sa σ16 26 (σ16.1 25) p1) 27 ((sa σ16 26 (σ16.1 25) p1).1 25) p2).1 25).toInt := rfl
                have w58 : (rd (sa (sa (sa σ16 26 (σ16.1 25) p1) 27 ((sa σ16 26 (σ16.1 25) p1).1 25) p2) 28 ((sa (sa σ16 26 (σ16.1 25) p1) 27 ((sa σ16 26 (σ16.1 25) p1).1 25) p2).1 25) p3) 28 ((sa (sa σ16 26 (σ16.1 25) p1) 27 ((sa σ16 26 (σ16.1 25) p1).1 25) p2).1 25)).toInt = p3.toInt := by rw [rd_sa]
                refine ⟨⟨by omega, by omega⟩, ?_⟩
                have hM59 := hM55.sa 29 ((sa (sa (sa σ16 26 (σ16.1 25) p1) 27 ((sa σ16 26 (σ16.1 25) p1).1 25) p2) 28 ((sa (sa σ16 26 (σ16.1 25) p1) 27 ((sa σ16 26 (σ16.1 25) p1).1 25) p2).1 25) p3).1 25) p4 (show (-1) ≤ p4.toInt ∧ p4.toInt ≤ 49 by omega)
                have hE60 := hE56.sa 29 ((sa (sa (sa σ16 26 (σ16.1 25) p1) 27 ((sa σ16 26 (σ16.1 25) p1).1 25) p2) 28 ((sa (sa σ16 26 (σ16.1 25) p1) 27 ((sa σ16 26 (σ16.1 25) p1).1 25) p2).1 25) p3).1 25) p4 (by decide)
                have u61 : ((sa (sa (sa (sa σ16 26 (σ16.1 25) p1) 27 ((sa σ16 26 (σ16.1 25) p1).1 25) p2) 28 ((sa (sa σ16 26 (σ16.1 25) p1) 27 ((sa σ16 26 (σ16.1 25) p1).1 25) p2).1 25) p3) 29 ((sa (sa (sa σ16 26 (σ16.1 25) p1) 27 ((sa σ16 26 (σ16.1 25) p1).1 25) p2) 28 ((sa (sa σ16 26 (σ16.1 25) p1) 27 ((sa σ16 26 (σ16.1 25) p1).1 25) p2).1 25) p3).1 25) p4).1 25).toInt = ((sa (sa (sa σ16 26 (σ16.1 25) p1) 27 ((sa σ16 26 (σ16.1 25) p1).1 25) p2) 28 ((sa (sa σ16 26 (σ16.1 25) p1) 27 ((sa σ16 26 (σ16.1 25) p1).1 25) p2).1 25) p3).1 25).toInt := rfl
                have w62 : (rd (sa (sa (sa (sa σ16 26 (σ16.1 25) p1) 27 ((sa σ16 26 (σ16.1 25) p1).1 25) p2) 28 ((sa (sa σ16 26 (σ16.1 25) p1) 27 ((sa σ16 26 (σ16.1 25) p1).1 25) p2).1 25) p3) 29 ((sa (sa (sa σ16 26 (σ16.1 25) p1) 27 ((sa σ16 26 (σ16.1 25) p1).1 25) p2) 28 ((sa (sa σ16 26 (σ16.1 25) p1) 27 ((sa σ16 26 (σ16.1 25) p1).1 25) p2).1 25) p3).1 25) p4) 29 ((sa (sa (sa σ16 26 (σ16.1 25) p1) 27 ((sa σ16 26 (σ16.1 25) p1).1 25) p2) 28 ((sa (sa σ16 26 (σ16.1 25) p1) 27 ((sa σ16 26 (σ16.1 25) p1).1 25) p2).1 25) p3).1 25)).toInt = p4.toInt := by rw [rd_sa]
                generalize ey63 : (((sa (sa (sa (sa σ16 26 (σ16.1 25) p1) 27 ((sa σ16 26 (σ16.1 25) p1).1 25) p2) 28 ((sa (sa σ16 26 (σ16.1 25) p1) 27 ((sa σ16 26 (σ16.1 25) p1).1 25) p2).1 25) p3) 29 ((sa (sa (sa σ16 26 (σ16.1 25) p1) 27 ((sa σ16 26 (σ16.1 25) p1).1 25) p2) 28 ((sa (sa σ16 26 (σ16.1 25) p1) 27 ((sa σ16 26 (σ16.1 25) p1).1 25) p2).1 25) p3).1 25) p4).1 25) + 1) = y63
                replace ey63 := ey63.symm
                have ty63 : y63.toInt = ((sa (sa (sa (sa σ16 26 (σ16.1 25) p1) 27 ((sa σ16 26 (σ16.1 25) p1).1 25) p2) 28 ((sa (sa σ16 26 (σ16.1 25) p1) 27 ((sa σ16 26 (σ16.1 25) p1).1 25) p2).1 25) p3) 29 ((sa (sa (sa σ16 26 (σ16.1 25) p1) 27 ((sa σ16 26 (σ16.1 25) p1).1 25) p2) 28 ((sa (sa σ16 26 (σ16.1 25) p1) 27 ((sa σ16 26 (σ16.1 25) p1).1 25) p2).1 25) p3).1 25) p4).1 25).toInt + 1 := i3_addc rfl rfl ey63 (by omega)
                clear ey63
                have hM64 := hM59.sf 25 y63 (show 0 ≤ y63.toInt ∧ y63.toInt ≤ 4 by omega)
                have hE65 := hE60.sf 25 y63 (by decide)
                have u66 : ((sf (sa (sa (sa (sa σ16 26 (σ16.1 25) p1) 27 ((sa σ16 26 (σ16.1 25) p1).1 25) p2) 28 ((sa (sa σ16 26 (σ16.1 25) p1) 27 ((sa σ16 26 (σ16.1 25) p1).1 25) p2).1 25) p3) 29 ((sa (sa (sa σ16 26 (σ16.1 25) p1) 27 ((sa σ16 26 (σ16.1 25) p1).1 25) p2) 28 ((sa (sa σ16 26 (σ16.1 25) p1) 27 ((sa σ16 26 (σ16.1 25) p1).1 25) p2).1 25) p3).1 25) p4) 25 y63).1 25).toInt = y63.toInt := rfl
                generalize ey67 : (((sf (sa (sa (sa (sa σ16 26 (σ16.1 25) p1) 27 ((sa σ16 26 (σ16.1 25) p1).1 25) p2) 28 ((sa (sa σ16 26 (σ16.1 25) p1) 27 ((sa σ16 26 (σ16.1 25) p1).1 25) p2).1 25) p3) 29 ((sa (sa (sa σ16 26 (σ16.1 25) p1) 27 ((sa σ16 26 (σ16.1 25) p1).1 25) p2) 28 ((sa (sa σ16 26 (σ16.1 25) p1) 27 ((sa σ16 26 (σ16.1 25) p1).1 25) p2).1 25) p3).1 25) p4) 25 y63).1 25) - 1) = y67
                replace ey67 := ey67.symm
                have ty67 : y67.toInt = ((sf (sa (sa (sa (sa σ16 26 (σ16.1 25) p1) 27 ((sa σ16 26 (σ16.1 25) p1).1 25) p2) 28 ((sa (sa σ16 26 (σ16.1 25) p1) 27 ((sa σ16 26 (σ16.1 25) p1).1 25) p2).1 25) p3) 29 ((sa (sa (sa σ16 26 (σ16.1 25) p1) 27 ((sa σ16 26 (σ16.1 25) p1).1 25) p2) 28 ((sa (sa σ16 26 (σ16.1 25) p1) 27 ((sa σ16 26 (σ16.1 25) p1).1 25) p2).1 25) p3).1 25) p4) 25 y63).1 25).toInt - 1 := i3_subc rfl rfl ey67 (by omega)
                clear ey67
                exact hq y67 (sf (sa (sa (sa (sa σ16 26 (σ16.1 25) p1) 27 ((sa σ16 26 (σ16.1 25) p1).1 25) p2) 28 ((sa (sa σ16 26 (σ16.1 25) p1) 27 ((sa σ16 26 (σ16.1 25) p1).1 25) p2).1 25) p3) 29 ((sa (sa (sa σ16 26 (σ16.1 25) p1) 27 ((sa σ16 26 (σ16.1 25) p1).1 25) p2) 28 ((sa (sa σ16 26 (σ16.1 25) p1) 27 ((sa σ16 26 (σ16.1 25) p1).1 25) p2).1 25) p3).1 25) p4) 25 y63) hM64 hE65
              · exact hq (-3) σ16 hM17 hE18
            · refine ⟨fun c68 => ?_, fun c68 => ?_⟩
              · unfold b_except_54
                have f69 : 0 ≤ (σ16.1 25).toInt ∧ (σ16.1 25).toInt ≤ 4 := hM17.1 25
                refine ⟨fun c70 => ?_, fun c70 => ?_⟩
                · refine ⟨⟨by omega, by omega⟩, ?_⟩
                  have hM71 := hM17.sa 26 (σ16.1 25) p1 (show 0 ≤ p1.toInt ∧ p1.toInt ≤ 4 by omega)
                  have hE72 := hE18.sa 26 (σ16.1 25) p1 (by decide)
                  have u73 : ((sa σ16 26 (σ16.1 25) p1).1 25).toInt = (σ16.1 25).toInt := rfl
                  have w74 : (rd (sa σ16 26 (σ16.1 25) p1) 26 (σ16.1 25)).toInt = p1.toInt := by rw [rd_sa]
                  refine ⟨⟨by omega, by omega⟩, ?_⟩
                  have hM75 := hM71.sa 27 ((sa σ16 26 (σ16.1 25) p1).1 25) p2 (show (-1) ≤ p2.toInt ∧ p2.toInt ≤ 49 by omega)
                  have hE76 := hE72.sa 27 ((sa σ16 26 (σ16.1 25) p1).1 25) p2 (by decide)
                  have u77 : ((sa (sa σ16 26 (σ16.1 25) p1) 27 ((sa σ16 26 (σ16.1 25) p1).1 25) p2).1 25).toInt = ((sa σ16 26 (σ16.1 25) p1).1 25).toInt := rfl
                  have w78 : (rd (sa (sa σ16 26 (σ16.1 25) p1) 27 ((sa σ16 26 (σ16.1 25) p1).1 25) p2) 27 ((sa σ16 26 (σ16.1 25) p1).1 25)).toInt = p2.toInt := by rw [rd_sa]
                  refine ⟨⟨by omega, by omega⟩, ?_⟩
                  have hM79 := hM75.sa 28 ((sa (sa σ16 26 (σ16.1 25) p1) 27 ((sa σ16 26 (σ16.1 25) p1).1 25) p2).1 25) p3 (show (-1) ≤ p3.toInt ∧ p3.toInt ≤ 49 by omega)
                  have hE80 := hE76.sa 28 ((sa (sa σ16 26 (σ16.1 25) p1) 27 ((sa σ16 26 (σ16.1 25) p1).1 25) p2).1 25) p3 (by decide)
                  have u81 : ((sa (sa (sa σ16 26 (σ16.1 25) p1) 27 ((sa σ16 26 (σ16.1 25) p1).1 25) p2) 28 ((sa (sa σ16 26 (σ16.1 25) p1) 27 ((sa σ16 26 (σ16.1 25) p1).1 25) p2).1 25) p3).1 25).toInt = ((sa (sa σ16 26 (σ16.1 25) p1) 27 ((sa σ16 26 (σ16.1 25) p1).1 25) p2).1 25).toInt := rfl
                  have w82 : (rd (sa (sa (sa σ16 26 (σ16.1 25) p1) 27 ((sa σ16 26 (σ16.1 25) p1).1 25) p2) 28 ((sa (sa σ16 26 (σ16.1 25) p1) 27 ((sa σ16 26 (σ16.1 25) p1).1 25) p2).1 25) p3) 28 ((sa (sa σ16 26 (σ16.1 25) p1) 27 ((sa σ16 26 (σ16.1 25) p1).1 25) p2).1 25)).toInt = p3.toInt := by rw [rd_sa]
                  refine ⟨⟨by omega, by omega⟩, ?_⟩
                  have hM83 := hM79.sa 29 ((sa (sa (sa σ16 26 (σ16.1 25) p1) 27 ((sa σ16 26 (σ16.1 25) p1).1 25) p2) 28 ((sa (sa σ16 26 (σ16.1 25) p1) 27 ((sa σ16 26 (σ16.1 25) p1).1 25) p2).1 25) p3).1 25) p4 (show (-1) ≤ p4.toInt ∧ p4.toInt ≤ 49 by omega)
                  have hE84 := hE80.sa 29 ((sa (sa (sa σ16 26 (σ16.1 25) p1) 27 ((sa σ16 26 (σ16.1 25) p1).1 25) p2) 28 ((sa (sa σ16 26 (σ16.1 25) p1) 27 ((sa σ16 26 (σ16.1 25) p1).1 25) p2).1 25) p3).1 25) p4 (by decide)
                  have u85 : ((sa (sa (sa (sa σ16 26 (σ16.1 25) p1) 27 ((sa σ16 26 (σ16.1 25) p1).1 25) p2) 28 ((sa (sa σ16 26 (σ16.1 25) p1) 27 ((sa σ16 26 (σ16.1 25) p1).1 25) p2).1 25) p3) 29 ((sa (sa (sa σ16 26 (σ16.1 25) p1) 27 ((sa σ16 26 (σ16.1 25) p1).1 25) p2) 28 ((sa (sa σ16 26 (σ16.1 25) p1) 27 ((sa σ16 26 (σ16.1 25) p1).1 25) p2).1 25) p3).1 25) p4).1 25).toInt = ((sa (sa (sa σ16 26 (σ16.1 25) p1) 27 ((sa σ16 26 (σ16.1 25) p1).1 25) p2) 28 ((sa (sa σ16 26 (σ16.1 25) p1) 27 ((sa σ16 26 (σ16.1 25) p1).1 25) p2).1 25) p3).1 25).toInt := rfl
                  have w86 : (rd (sa (sa (sa (sa σ16 26 (σ16.1 25) p1) 27 ((sa σ16 26 (σ16.1 25) p1).1 25) p2) 28 ((sa (sa σ16 26 (σ16.1 25) p1) 27 ((sa σ16 26 (σ16.1 25) p1).1 25) p2).1 25) p3) 29 ((sa (sa (sa σ16 26 (σ16.1 25) p1) 27 ((sa σ16 26 (σ16.1 25) p1).1 25) p2) 28 ((sa (sa σ16 26 (σ16.1 25) p1) 27 ((sa σ16 26 (σ16.1 25) p1).1 25) p2).1 25) p3).1 25) p4) 29 ((sa (sa (sa σ16 26 (σ16.1 25) p1) 27 ((sa σ16 26 (σ16.1 25) p1).1 25) p2) 28 ((sa (sa σ16 26 (σ16.1 25) p1) 27 ((sa σ16 26 (σ16.1 25) p1).1 25) p2).1 25) p3).1 25)).toInt = p4.toInt := by rw [rd_sa]
                  generalize ey87 : (((sa (sa (sa (sa σ16 26 (σ16.1 25) p1) 27 ((sa σ16 26 (σ16.1 25) p1).1 25) p2) 28 ((sa (sa σ16 26 (σ16.1 25) p1) 27 ((sa σ16 26 (σ16.1 25) p1).1 25) p2).1 25) p3) 29 ((sa (sa (sa σ16 26 (σ16.1 25) p1) 27 ((sa σ16 26 (σ16.1 25) p1).1 25) p2) 28 ((sa (sa σ16 26 (σ16.1 25) p1) 27 ((sa σ16 26 (σ16.1 25) p1).1 25) p2).1 25) p3).1 25) p4).1 25) + 1) = y87
                  replace ey87 := ey87.symm
                  have ty87 : y87.toInt = ((sa (sa (sa (sa σ16 26 (σ16.1 25) p1) 27 ((sa σ16 26 (σ16.1 25) p1).1 25) p2) 28 ((sa (sa σ16 26 (σ16.1 25) p1) 27 ((sa σ16 26 (σ16.1 25) p1).1 25) p2).1 25) p3) 29 ((sa (sa (sa σ16 26 (σ16.1 25) p1) 27 ((sa σ16 26 (σ16.1 25) p1).1 25) p2) 28 ((sa (sa σ16 26 (σ16.1 25) p1) 27 ((sa σ16 26 (σ16.1 25) p1).1 25) p2).1 25) p3).1 25) p4).1 25).toInt + 1 := i3_addc rfl rfl ey87 (by omega)
                  clear ey87
                  have hM88 := hM83.sf 25 y87 (show 0 ≤ y87.toInt ∧ y87.toInt ≤ 4 by omega)
                  have hE89 := hE84.sf 25 y87 (by decide)
                  have u90 : ((sf (sa (sa (sa (sa σ16 26 (σ16.1 25) p1) 27 ((sa σ16 26 (σ16.1 25) p1).1 25) p2) 28 ((sa (sa σ16 26 (σ16.1 25) p1) 27 ((sa σ16 26 (σ16.1 25) p1).1 25) p2).1 25) p3) 29 ((sa (sa (sa σ16 26 (σ16.1 25) p1) 27 ((sa σ16 26 (σ16.1 25) p1).1 25) p2) 28 ((sa (sa σ16 26 (σ16.1 25) p1) 27 ((sa σ16 26 (σ16.1 25) p1).1 25) p2).1 25) p3).1 25) p4) 25 y87).1 25).toInt = y87.toInt := rfl
                  generalize ey91 : (((sf (sa (sa (sa (sa σ16 26 (σ16.1 25) p1) 27 ((sa σ16 26 (σ16.1 25) p1).1 25) p2) 28 ((sa (sa σ16 26 (σ16.1 25) p1) 27 ((sa σ16 26 (σ16.1 25) p1).1 25) p2).1 25) p3) 29 ((sa (sa (sa σ16 26 (σ16.1 25) p1) 27 ((sa σ16 26 (σ16.1 25) p1).1 25) p2) 28 ((sa (sa σ16 26 (σ16.1 25) p1) 27 ((sa σ16 26 (σ16.1 25) p1).1 25) p2).1 25) p3).1 25) p4) 25 y87).1 25) - 1) = y91
                  replace ey91 := ey91.symm
                  have ty91 : y91.toInt = ((sf (sa (sa (sa (sa σ16 26 (σ16.1 25) p1) 27 ((sa σ16 26 (σ16.1 25) p1).1 25) p2) 28 ((sa (sa σ16 26 (σ16.1 25) p1) 27 ((sa σ16 26 (σ16.1 25) p1).1 25) p2).1 25) p3) 29 ((sa (sa (sa σ16 26 (σ16.1 25) p1) 27 ((sa σ16 26 (σ16.1 25) p1).1 25) p2) 28 ((sa (sa σ16 26 (σ16.1 25) p1) 27 ((sa σ16 26 (σ16.1 25) p1).1 25) p2).1 25) p3).1 25) p4) 25 y87).1 25).toInt - 1 := i3_subc rfl rfl ey91 (by omega)
                  clear ey91
                  exact hq y91 (sf (sa (sa (sa (sa σ16 26 (σ16.1 25) p1) 27 ((sa σ16 26 (σ16.1 25) p1).1 25) p2) 28 ((sa (sa σ16 26 (σ16.1 25) p1) 27 ((sa σ16 26 (σ16.1 25) p1).1 25) p2).1 25) p3) 29 ((sa (sa (sa σ16 26 (σ16.1 25) p1) 27 ((sa σ16 26 (σ16.1 25) p1).1 25) p2) 28 ((sa (sa σ16 26 (σ16.1 25) p1) 27 ((sa σ16 26 (σ16.1 25) p1).1 25) p2).1 25) p3).1 25) p4) 25 y87) hM88 hE89
                · exact hq (-3) σ16 hM17 hE18
              · unfold b_except_52
                exact hq (-1) σ16 hM17 hE18
  · refine ⟨fun c92 => ?_, fun c92 => ?_⟩
    · unfold b_except_52
      exact hq (-1) σ hM hE
    · refine ⟨fun c93 => ?_, fun c93 => ?_⟩
      · unfold b_except_52
        exact hq (-1) σ hM hE
      · unfold b_except_14
        have bd94 := i3_bd p2
        refine rg_mayBe hM (fun r95 σ96 br95 ir95 hM97 hE98o => ?_)
        have hE98 := hE.of hE98o (by decide) (by decide)
        refine ⟨fun c99 => ?_, fun c99 => ?_⟩
        · unfold b_except_52
          exact hq (-1) σ96 hM97 hE98
        · have fc99 := ir95 c99
          have bd100 := i3_bd p3
          refine rg_mayBe hM97 (fun r101 σ102 br101 ir101 hM103 hE104o => ?_)
          have hE104 := hE98.of hE104o (by decide) (by decide)
          refine ⟨fun c105 => ?_, fun c105 => ?_⟩
          · unfold b_except_52
            exact hq (-1) σ102 hM103 hE104
          · have fc105 := ir101 c105
            have bd106 := i3_bd p4
            refine rg_mayBe hM103 (fun r107 σ108 br107 ir107 hM109 hE110o => ?_)
            have hE110 := hE104.of hE110o (by decide) (by decide)
            refine ⟨fun c111 => ?_, fun c111 => ?_⟩
            · unfold b_except_52
              exact hq (-1) σ108 hM109 hE110
            · have fc111 := ir107 c111
              refine ⟨fun c112 => ?_, fun c112 => ?_⟩
              · unfold b_except_54
                have f113 : 0 ≤ (σ108.1 25).toInt ∧ (σ108.1 25).toInt ≤ 4 := hM109.1 25
                refine ⟨fun c114 => ?_, fun c114 => ?_⟩
                · refine ⟨⟨by omega, by omega⟩, ?_⟩
                  have hM115 := hM109.sa 26 (σ108.1 25) p1 (show 0 ≤ p1.toInt ∧ p1.toInt ≤ 4 by omega)
                  have hE116 := hE110.sa 26 (σ108.1 25) p1 (by decide)
                  have u117 : ((sa σ108 26 (σ108.1 25) p1).1 25).toInt = (σ108.1 25).toInt := rfl
                  have w118 : (rd (sa σ108 26 (σ108.1 25) p1) 26 (σ108.1 25)).toInt = p1.toInt := by rw [rd_sa]
                  refine ⟨⟨by omega, by omega⟩, ?_⟩
                  have hM119 := hM115.sa 27 ((sa σ108 26 (σ108.1 25) p1).1 25) p2 (show (-1) ≤ p2.toInt ∧ p2.toInt ≤ 49 by omega)
                  have hE120 := hE116.sa 27 ((sa σ108 26 (σ108.1 25) p1).1 25) p2 (by decide)
                  have u121 : ((sa (sa σ108 26 (σ108.1 25) p1) 27 ((sa σ108 26 (σ108.1 25) p1).1 25) p2).1 25).toInt = ((sa σ108 26 (σ108.1 25) p1).1 25).toInt := rfl
                  have w122 : (rd (sa (sa σ108 26 (σ108.1 25) p1) 27 ((sa σ108 26 (σ108.1 25) p1).1 25) p2) 27 ((sa σ108 26 (σ108.1 25) p1).1 25)).toInt = p2.toInt := by rw [rd_sa]
                  refine ⟨⟨by omega, by omega⟩, ?_⟩
                  have hM123 := hM119.sa 28 ((sa (sa σ108 26 (σ108.1 25) p1) 27 ((sa σ108 26 (σ108.1 25) p1).1 25) p2).1 25) p3 (show (-1) ≤ p3.toInt ∧ p3.toInt ≤ 49 by omega)
                  have hE124 := hE120.sa 28 ((sa (sa σ108 26 (σ108.1 25) p1) 27 ((sa σ108 26 (σ108.1 25) p1).1 25) p2).1 25) p3 (by decide)
                  have u125 : ((sa (sa (sa σ108 26 (σ108.1 25) p1) 27 ((sa σ108 26 (σ108.1 25) p1).1 25) p2) 28 ((sa (sa σ108 26 (σ108.1 25) p1) 27 ((sa σ108 26 (σ108.1 25) p1).1 25) p2).1 25) p3).1 25).toInt = ((sa (sa σ108 26 (σ108.1 25) p1) 27 ((sa σ108 26 (σ108.1 25) p1).1 25) p2).1 25).toInt := rfl
                  have w126 : (rd (sa (sa (sa σ108 26 (σ108.1 25) p1) 27 ((sa σ108 26 (σ108.1 25) p1).1 25) p2) 28 ((sa (sa σ108 26 (σ108.1 25) p1) 27 ((sa σ108 26 (σ108.1 25) p1).1 25) p2).1 25) p3) 28 ((sa (sa σ108 26 (σ108.1 25) p1) 27 ((sa σ108 26 (σ108.1 25) p1).1 25) p2).1 25)).toInt = p3.toInt := by rw [rd_sa]
                  refine ⟨⟨by omega, by omega⟩, ?_⟩
                  have hM127 := hM123.sa 29 ((sa (sa (sa σ108 26 (σ108.1 25) p1) 27 ((sa σ108 26 (σ108.1 25) p1).1 25) p2) 28 ((sa (sa σ108 26 (σ108.1 25) p1) 27 ((sa σ108 26 (σ108.1 25) p1).1 25) p2).1 25) p3).1 25) p4 (show (-1) ≤ p4.toInt ∧ p4.toInt ≤ 49 by omega)
                  have hE128 := hE124.sa 29 ((sa (sa (sa σ108 26 (σ108.1 25) p1) 27 ((sa σ108 26 (σ108.1 25) p1).1 25) p2) 28 ((sa (sa σ108 26 (σ108.1 25) p1) 27 ((sa σ108 26 (σ108.1 25) p1).1 25) p2).1 25) p3).1 25) p4 (by decide)
                  have u129 : ((sa (sa (sa (sa σ108 26 (σ108.1 25) p1) 27 ((sa σ108 26 (σ108.1 25) p1).1 25) p2) 28 ((sa (sa σ108 26 (σ108.1 25) p1) 27 ((sa σ108 26 (σ108.1 25) p1).1 25) p2).1 25) p3) 29 ((sa (sa (sa σ108 26 (σ108.1 25) p1) 27 ((sa σ108 26 (σ108.1 25) p1).1 25) p2) 28 ((sa (sa σ108 26 (σ108.1 25) p1) 27 ((sa σ108 26 (σ108.1 25) p1).1 25) p2).1 25) p3).1 25) p4).1 25).toInt = ((sa (sa (sa σ108 26 (σ108.1 25) p1) 27 ((sa σ108 26 (σ108.1 25) p1).1 25) p2) 28 ((sa (sa σ108 26 (σ108.1 25) p1) 27 ((sa σ108 26 (σ108.1 25) p1).1 25) p2).1 25) p3).1 25).toInt := rfl
                  have w130 : (rd (sa (sa (sa (sa σ108 26 (σ108.1 25) p1) 27 ((sa σ108 26 (σ108.1 25) p1).1 25) p2) 28 ((sa (sa σ108 26 (σ108.1 25) p1) 27 ((sa σ108 26 (σ108.1 25) p1).1 25) p2).1 25) p3) 29 ((sa (sa (sa σ108 26 (σ108.1 25) p1) 27 ((sa σ108 26 (σ108.1 25) p1).1 25) p2) 28 ((sa (sa σ108 26 (σ108.1 25) p1) 27 ((sa σ108 26 (σ108.1 25) p1).1 25) p2).1 25) p3).1 25) p4) 29 ((sa (sa (sa σ108 26 (σ108.1 25) p1) 27 ((sa σ108 26 (σ108.1 25) p1).1 25) p2) 28 ((sa (sa σ108 26 (σ108.1 25) p1) 27 ((sa σ108 26 (σ108.1 25) p1).1 25) p2).1 25) p3).1 25)).toInt = p4.toInt := by rw [rd_sa]
                  generalize ey131 : (((sa (sa (sa (sa σ108 26 (σ108.1 25) p1) 27 ((sa σ108 26 (σ108.1 25) p1).1 25) p2) 28 ((sa (sa σ108 26 (σ108.1 25) p1) 27 ((sa σ108 26 (σ108.1 25) p1).1 25) p2).1 25) p3) 29 ((sa (sa (sa σ108 26 (σ108.1 25) p1) 27 ((sa σ108 26 (σ108.1 25) p1).1 25) p2) 28 ((sa (sa σ108 26 (σ108.1 25) p1) 27 ((sa σ108 26 (σ108.1 25) p1).1 25) p2).1 25) p3).1 25) p4).1 25) + 1) = y131
                  replace ey131 := ey131.symm
                  have ty131 : y131.toInt = ((sa (sa (sa (sa σ108 26 (σ108.1 25) p1) 27 ((sa σ108 26 (σ108.1 25) p1).1 25) p2) 28 ((sa (sa σ108 26 (σ108.1 25) p1) 27 ((sa σ108 26 (σ108.1 25) p1).1 25) p2).1 25) p3) 29 ((sa (sa (sa σ108 26 (σ108.1 25) p1) 27 ((sa σ108 26 (σ108.1 25) p1).1 25) p2) 28 ((sa (sa σ108 26 (σ108.1 25) p1) 27 ((sa σ108 26 (σ108.1 25) p1).1 25) p2).1 25) p3).1 25) p4).1 25).toInt + 1 := i3_addc rfl rfl ey131 (by omega)
                  clear ey131
                  have hM132 := hM127.sf 25 y131 (show 0 ≤ y131.toInt ∧ y131.toInt ≤ 4 by omega)
                  have hE133 := hE128.sf 25 y131 (by decide)
                  have u134 : ((sf (sa (sa (sa (sa σ108 26 (σ108.1 25) p1) 27 ((sa σ108 26 (σ108.1 25) p1).1 25) p2) 28 ((sa (sa σ108 26 (σ108.1 25) p1) 27 ((sa σ108 26 (σ108.1 25) p1).1 25) p2).1 25) p3) 29 ((sa (sa (sa σ108 26 (σ108.1 25) p1) 27 ((sa σ108 26 (σ108.1 25) p1).1 25) p2) 28 ((sa (sa σ108 26 (σ108.1 25) p1) 27 ((sa σ108 26 (σ108.1 25) p1).1 25) p2).1 25) p3).1 25) p4) 25 y131).1 25).toInt = y131.toInt := rfl
                  generalize ey135 : (((sf (sa (sa (sa (sa σ108 26 (σ108.1 25) p1) 27 ((sa σ108 26 (σ108.1 25) p1).1 25) p2) 28 ((sa (sa σ108 26 (σ108.1 25) p1) 27 ((sa σ108 26 (σ108.1 25) p1).1 25) p2).1 25) p3) 29 ((sa (sa (sa σ108 26 (σ108.1 25) p1) 27 ((sa σ108 26 (σ108.1 25) p1).1 25) p2) 28 ((sa (sa σ108 26 (σ108.1 25) p1) 27 ((sa σ108 26 (σ108.1 25) p1).1 25) p2).1 25) p3).1 25) p4) 25 y131).1 25) - 1) = y135
                  replace ey135 := ey135.symm
                  have ty135 : y135.toInt = ((sf (sa (sa (sa (sa σ108 26 (σ108.1 25) p1) 27 ((sa σ108 26 (σ108.1 25) p1).1 25) p2) 28 ((sa (sa σ108 26 (σ108.1 25) p1) 27 ((sa σ108 26 (σ108.1 25) p1).1 25) p2).1 25) p3) 29 ((sa (sa (sa σ108 26 (σ108.1 25) p1) 27 ((sa σ108 26 (σ108.1 25) p1).1 25) p2) 28 ((sa (sa σ108 26 (σ108.1 25) p1) 27 ((sa σ108 26 (σ108.1 25) p1).1 25) p2).1 25) p3).1 25) p4) 25 y131).1 25).toInt - 1 := i3_subc rfl rfl ey135 (by omega)
                  clear ey135
                  exact hq y135 (sf (sa (sa (sa (sa σ108 26 (σ108.1 25) p1) 27 ((sa σ108 26 (σ108.1 25) p1).1 25) p2) 28 ((sa (sa σ108 26 (σ108.1 25) p1) 27 ((sa σ108 26 (σ108.1 25) p1).1 25) p2).1 25) p3) 29 ((sa (sa (sa σ108 26 (σ108.1 25) p1) 27 ((sa σ108 26 (σ108.1 25) p1).1 25) p2) 28 ((sa (sa σ108 26 (σ108.1 25) p1) 27 ((sa σ108 26 (σ108.1 25) p1).1 25) p2).1 25) p3).1 25) p4) 25 y131) hM132 hE133
                · exact hq (-3) σ108 hM109 hE110
              · refine ⟨fun c136 => ?_, fun c136 => ?_⟩
                · unfold b_except_54
                  have f137 : 0 ≤ (σ108.1 25).toInt ∧ (σ108.1 25).toInt ≤ 4 := hM109.1 25
                  refine ⟨fun c138 => ?_, fun c138 => ?_⟩
                  · refine ⟨⟨by omega, by omega⟩, ?_⟩
                    have hM139 := hM109.sa 26 (σ108.1 25) p1 (show 0 ≤ p1.toInt ∧ p1.toInt ≤ 4 by omega)
                    have hE140 := hE110.sa 26 (σ108.1 25) p1 (by decide)
                    have u141 : ((sa σ108 26 (σ108.1 25) p1).1 25).toInt = (σ108.1 25).toInt := rfl
                    have w142 : (rd (sa σ108 26 (σ108.1 25) p1) 26 (σ108.1 25)).toInt = p1.toInt := by rw [rd_sa]
                    refine ⟨⟨by omega, by omega⟩, ?_⟩
                    have hM143 := hM139.sa 27 ((sa σ108 26 (σ108.1 25) p1).1 25) p2 (show (-1) ≤ p2.toInt ∧ p2.toInt ≤ 49 by omega)
                    have hE144 := hE140.sa 27 ((sa σ108 26 (σ108.1 25) p1).1 25) p2 (by decide)
                    have u145 : ((sa (sa σ108 26 (σ108.1 25) p1) 27 ((sa σ108 26 (σ108.1 25) p1).1 25) p2).1 25).toInt = ((sa σ108 26 (σ108.1 25) p1).1 25).toInt := rfl
                    have w146 : (rd (sa (sa σ108 26 (σ108.1 25) p1) 27 ((sa σ108 26 (σ108.1 25) p1).1 25) p2) 27 ((sa σ108 26 (σ108.1 25) p1).1 25)).toInt = p2.toInt := by rw [rd_sa]
                    refine ⟨⟨by omega, by omega⟩, ?_⟩
                    have hM147 := hM143.sa 28 ((sa (sa σ108 26 (σ108.1 25) p1) 27 ((sa σ108 26 (σ108.1 25) p1).1 25) p2).1 25) p3 (show (-1) ≤ p3.toInt ∧ p3.toInt ≤ 49 by omega)
                    have hE148 := hE144.sa 28 ((sa (sa σ108 26 (σ108.1 25) p1) 27 ((sa σ108 26 (σ108.1 25) p1).1 25) p2).1 25) p3 (by decide)
                    have u149 : ((sa (sa (sa σ108 26 (σ108.1 25) p1) 27 ((sa σ108 26 (σ108.1 25) p1).1 25) p2) 28 ((sa (sa σ108 26 (σ108.1 25) p1) 27 ((sa σ108 26 (σ108.1 25) p1).1 25) p2).1 25) p3).1 25).toInt = ((sa (sa σ108 26 (σ108.1 25) p1) 27 ((sa σ108 26 (σ108.1 25) p1).1 25) p2).1 25).toInt := rfl
                    have w150 : (rd (sa (sa (sa σ108 26 (σ108.1 25) p1) 27 ((sa σ108 26 (σ108.1 25) p1).1 25) p2) 28 ((sa (sa σ108 26 (σ108.1 25) p1) 27 ((sa σ108 26 (σ108.1 25) p1).1 25) p2).1 25) p3) 28 ((sa (sa σ108 26 (σ108.1 25) p1) 27 ((sa σ108 26 (σ108.1 25) p1).1 25) p2).1 25)).toInt = p3.toInt := by rw [rd_sa]
                    refine ⟨⟨by omega, by omega⟩, ?_⟩
                    have hM151 := hM147.sa 29 ((sa (sa (sa σ108 26 (σ108.1 25) p1) 27 ((sa σ108 26 (σ108.1 25) p1).1 25) p2) 28 ((sa (sa σ108 26 (σ108.1 25) p1) 27 ((sa σ108 26 (σ108.1 25) p1).1 25) p2).1 25) p3).1 25) p4 (show (-1) ≤ p4.toInt ∧ p4.toInt ≤ 49 by omega)
                    have hE152 := hE148.sa 29 ((sa (sa (sa σ108 26 (σ108.1 25) p1) 27 ((sa σ108 26 (σ108.1 25) p1).1 25) p2) 28 ((sa (sa σ108 26 (σ108.1 25) p1) 27 ((sa σ108 26 (σ108.1 25) p1).1 25) p2).1 25) p3).1 25) p4 (by decide)
                    have u153 : ((sa (sa (sa (sa σ108 26 (σ108.1 25) p1) 27 ((sa σ108 26 (σ108.1 25) p1).1 25) p2) 28 ((sa (sa σ108 26 (σ108.1 25) p1) 27 ((sa σ108 26 (σ108.1 25) p1).1 25) p2).1 25) p3) 29 ((sa (sa (sa σ108 26 (σ108.1 25) p1) 27 ((sa σ108 26 (σ108.1 25) p1).1 25) p2) 28 ((sa (sa σ108 26 (σ108.1 25) p1) 27 ((sa σ108 26 (σ108.1 25) p1).1 25) p2).1 25) p3).1 25) p4).1 25).toInt = ((sa (sa (sa σ108 26 (σ108.1 25) p1) 27 ((sa σ108 26 (σ108.1 25) p1).1 25) p2) 28 ((sa (sa σ108 26 (σ108.1 25) p1) 27 ((sa σ108 26 (σ108.1 25) p1).1 25) p2).1 25) p3).1 25).toInt := rfl
                    have w154 : (rd (sa (sa (sa (sa σ108 26 (σ108.1 25) p1) 27 ((sa σ108 26 (σ108.1 25) p1).1 25) p2) 28 ((sa (sa σ108 26 (σ108.1 25) p1) 27 ((sa σ108 26 (σ108.1 25) p1).1 25) p2).1 25) p3) 29 ((sa (sa (sa σ108 26 (σ108.1 25) p1) 27 ((sa σ108 26 (σ108.1 25) p1).1 25) p2) 28 ((sa (sa σ108 26 (σ108.1 25) p1) 27 ((sa σ108 26 (σ108.1 25) p1).1 25) p2).1 25) p3).1 25) p4) 29 ((sa (sa (sa σ108 26 (σ108.1 25) p1) 27 ((sa σ108 26 (σ108.1 25) p1).1 25) p2) 28 ((sa (sa σ108 26 (σ108.1 25) p1) 27 ((sa σ108 26 (σ108.1 25) p1).1 25) p2).1 25) p3).1 25)).toInt = p4.toInt := by rw [rd_sa]
                    generalize ey155 : (((sa (sa (sa (sa σ108 26 (σ108.1 25) p1) 27 ((sa σ108 26 (σ108.1 25) p1).1 25) p2) 28 ((sa (sa σ108 26 (σ108.1 25) p1) 27 ((sa σ108 26 (σ108.1 25) p1).1 25) p2).1 25) p3) 29 ((sa (sa (sa σ108 26 (σ108.1 25) p1) 27 ((sa σ108 26 (σ108.1 25) p1).1 25) p2) 28 ((sa (sa σ108 26 (σ108.1 25) p1) 27 ((sa σ108 26 (σ108.1 25) p1).1 25) p2).1 25) p3).1 25) p4).1 25) + 1) = y155
                    replace ey155 := ey155.symm
                    have ty155 : y155.toInt = ((sa (sa (sa (sa σ108 26 (σ108.1 25) p1) 27 ((sa σ108 26 (σ108.1 25) p1).1 25) p2) 28 ((sa (sa σ108 26 (σ108.1 25) p1) 27 ((sa σ108 26 (σ108.1 25) p1).1 25) p2).1 25) p3) 29 ((sa (sa (sa σ108 26 (σ108.1 25) p1) 27 ((sa σ108 26 (σ108.1 25) p1).1 25) p2) 28 ((sa (sa σ108 26 (σ108.1 25) p1) 27 ((sa σ108 26 (σ108.1 25) p1).1 25) p2).1 25) p3).1 25) p4).1 25).toInt + 1 := i3_addc rfl rfl ey155 (by omega)
                    clear ey155
                    have hM156 := hM151.sf 25 y155 (show 0 ≤ y155.toInt ∧ y155.toInt ≤ 4 by omega)
                    have hE157 := hE152.sf 25 y155 (by decide)
                    have u158 : ((sf (sa (sa (sa (sa σ108 26 (σ108.1 25) p1) 27 ((sa σ108 26 (σ108.1 25) p1).1 25) p2) 28 ((sa (sa σ108 26 (σ108.1 25) p1) 27 ((sa σ108 26 (σ108.1 25) p1).1 25) p2).1 25) p3) 29 ((sa (sa (sa σ108 26 (σ108.1 25) p1) 27 ((sa σ108 26 (σ108.1 25) p1).1 25) p2) 28 ((sa (sa σ108 26 (σ108.1 25) p1) 27 ((sa σ108 26 (σ108.1 25) p1).1 25) p2).1 25) p3).1 25) p4) 25 y155).1 25).toInt = y155.toInt := rfl
                    generalize ey159 : (((sf (sa (sa (sa (sa σ108 26 (σ108.1 25) p1) 27 ((sa σ108 26 (σ108.1 25) p1).1 25) p2) 28 ((sa (sa σ108 26 (σ108.1 25) p1) 27 ((sa σ108 26 (σ108.1 25) p1).1 25) p2).1 25) p3) 29 ((sa (sa (sa σ108 26 (σ108.1 25) p1) 27 ((sa σ108 26 (σ108.1 25) p1).1 25) p2) 28 ((sa (sa σ108 26 (σ108.1 25) p1) 27 ((sa σ108 26 (σ108.1 25) p1).1 25) p2).1 25) p3).1 25) p4) 25 y155).1 25) - 1) = y159
                    replace ey159 := ey159.symm
                    have ty159 : y159.toInt = ((sf (sa (sa (sa (sa σ108 26 (σ108.1 25) p1) 27 ((sa σ108 26 (σ108.1 25) p1).1 25) p2) 28 ((sa (sa σ108 26 (σ108.1 25) p1) 27 ((sa σ108 26 (σ108.1 25) p1).1 25) p2).1 25) p3) 29 ((sa (sa (sa σ108 26 (σ108.1 25) p1) 27 ((sa σ108 26 (σ108.1 25) p1).1 25) p2) 28 ((sa (sa σ108 26 (σ108.1 25) p1) 27 ((sa σ108 26 (σ108.1 25) p1).1 25) p2).1 25) p3).1 25) p4) 25 y155).1 25).toInt - 1 := i3_subc rfl rfl ey159 (by omega)
                    clear ey159
                    exact hq y159 (sf (sa (sa (sa (sa σ108 26 (σ108.1 25) p1) 27 ((sa σ108 26 (σ108.1 25) p1).1 25) p2) 28 ((sa (sa σ108 26 (σ108.1 25) p1) 27 ((sa σ108 26 (σ108.1 25) p1).1 25) p2).1 25) p3) 29 ((sa (sa (sa σ108 26 (σ108.1 25) p1) 27 ((sa σ108 26 (σ108.1 25) p1).1 25) p2) 28 ((sa (sa σ108 26 (σ108.1 25) p1) 27 ((sa σ108 26 (σ108.1 25) p1).1 25) p2).1 25) p3).1 25) p4) 25 y155) hM156 hE157
                  · exact hq (-3) σ108 hM109 hE110
                · refine ⟨fun c160 => ?_, fun c160 => ?_⟩
                  · unfold b_except_54
                    have f161 : 0 ≤ (σ108.1 25).toInt ∧ (σ108.1 25).toInt ≤ 4 := hM109.1 25
                    refine ⟨fun c162 => ?_, fun c162 => ?_⟩
                    · refine ⟨⟨by omega, by omega⟩, ?_⟩
                      have hM163 := hM109.sa 26 (σ108.1 25) p1 (show 0 ≤ p1.toInt ∧ p1.toInt ≤ 4 by omega)
                      have hE164 := hE110.sa 26 (σ108.1 25) p1 (by decide)
                      have u165 : ((sa σ108 26 (σ108.1 25) p1).1 25).toInt = (σ108.1 25).toInt := rfl
                      have w166 : (rd (sa σ108 26 (σ108.1 25) p1) 26 (σ108.1 25)).toInt = p1.toInt := by rw [rd_sa]
                      refine ⟨⟨by omega, by omega⟩, ?_⟩
                      have hM167 := hM163.sa 27 ((sa σ108 26 (σ108.1 25) p1).1 25) p2 (show (-1) ≤ p2.toInt ∧ p2.toInt ≤ 49 by omega)
                      have hE168 := hE164.sa 27 ((sa σ108 26 (σ108.1 25) p1).1 25) p2 (by decide)
                      have u169 : ((sa (sa σ108 26 (σ108.1 25) p1) 27 ((sa σ108 26 (σ108.1 25) p1).1 25) p2).1 25).toInt = ((sa σ108 26 (σ108.1 25) p1).1 25).toInt := rfl
                      have w170 : (rd (sa (sa σ108 26 (σ108.1 25) p1) 27 ((sa σ108 26 (σ108.1 25) p1).1 25) p2) 27 ((sa σ108 26 (σ108.1 25) p1).1 25)).toInt = p2.toInt := by rw [rd_sa]
                      refine ⟨⟨by omega, by omega⟩, ?_⟩
                      have hM171 := hM167.sa 28 ((sa (sa σ108 26 (σ108.1 25) p1) 27 ((sa σ108 26 (σ108.1 25) p1).1 25) p2).1 25) p3 (show (-1) ≤ p3.toInt ∧ p3.toInt ≤ 49 by omega)
                      have hE172 := hE168.sa 28 ((sa (sa σ108 26 (σ108.1 25) p1) 27 ((sa σ108 26 (σ108.1 25) p1).1 25) p2).1 25) p3 (by decide)
                      have u173 : ((sa (sa (sa σ108 26 (σ108.1 25) p1) 27 ((sa σ108 26 (σ108.1 25) p1).1 25) p2) 28 ((sa (sa σ108 26 (σ108.1 25) p1) 27 ((sa σ108 26 (σ108.1 25) p1).1 25) p2).1 25) p3).1 25).toInt = ((sa (sa σ108 26 (σ108.1 25) p1) 27 ((sa σ108 26 (σ108.1 25) p1).1 25) p2).1 25).toInt := rfl
                      have w174 : (rd (sa (sa (sa σ108 26 (σ108.1 25) p1) 27 ((sa σ108 26 (σ108.1 25) p1).1 25) p2) 28 ((sa (sa σ108 26 (σ108.1 25) p1) 27 ((sa σ108 26 (σ108.1 25) p1).1 25) p2).1 25) p3) 28 ((sa (sa σ108 26 (σ108.1 25) p1) 27 ((sa σ108 26 (σ108.1 25) p1).1 25) p2).1 25)).toInt = p3.toInt := by rw [rd_sa]
                      refine ⟨⟨by omega, by omega⟩, ?_⟩
                      have hM175 := hM171.sa 29 ((sa (sa (sa σ108 26 (σ108.1 25) p1) 27 ((sa σ108 26 (σ108.1 25) p1).1 25) p2) 28 ((sa (sa σ108 26 (σ108.1 25) p1) 27 ((sa σ108 26 (σ108.1 25) p1).1 25) p2).1 25) p3).1 25) p4 (show (-1) ≤ p4.toInt ∧ p4.toInt ≤ 49 by omega)
                      have hE176 := hE172.sa 29 ((sa (sa (sa σ108 26 (σ108.1 25) p1) 27 ((sa σ108 26 (σ108.1 25) p1).1 25) p2) 28 ((sa (sa σ108 26 (σ108.1 25) p1) 27 ((sa σ108 26 (σ108.1 25) p1).1 25) p2).1 25) p3).1 25) p4 (by decide)
                      have u177 : ((sa (sa (sa (sa σ108 26 (σ108.1 25) p1) 27 ((sa σ108 26 (σ108.1 25) p1).1 25) p2) 28 ((sa (sa σ108 26 (σ108.1 25) p1) 27 ((sa σ108 26 (σ108.1 25) p1).1 25) p2).1 25) p3) 29 ((sa (sa (sa σ108 26 (σ108.1 25) p1) 27 ((sa σ108 26 (σ108.1 25) p1).1 25) p2) 28 ((sa (sa σ108 26 (σ108.1 25) p1) 27 ((sa σ108 26 (σ108.1 25) p1).1 25) p2).1 25) p3).1 25) p4).1 25).toInt = ((sa (sa (sa σ108 26 (σ108.1 25) p1) 27 ((sa σ108 26 (σ108.1 25) p1).1 25) p2) 28 ((sa (sa σ108 26 (σ108.1 25) p1) 27 ((sa σ108 26 (σ108.1 25) p1).1 25) p2).1 25) p3).1 25).toInt := rfl
                      have w178 : (rd (sa (sa (sa (sa σ108 26 (σ108.1 25) p1) 27 ((sa σ108 26 (σ108.1 25) p1).1 25) p2) 28 ((sa (sa σ108 26 (σ108.1 25) p1) 27 ((sa σ108 26 (σ108.1 25) p1).1 25) p2).1 25) p3) 29 ((sa (sa (sa σ108 26 (σ108.1 25) p1) 27 ((sa σ108 26 (σ108.1 25) p1).1 25) p2) 28 ((sa (sa σ108 26 (σ108.1 25) p1) 27 ((sa σ108 26 (σ108.1 25) p1).1 25) p2).1 25) p3).1 25) p4) 29 ((sa (sa (sa σ108 26 (σ108.1 25) p1) 27 ((sa σ108 26 (σ108.1 25) p1).1 25) p2) 28 ((sa (sa σ108 26 (σ108.1 25) p1) 27 ((sa σ108 26 (σ108.1 25) p1).1 25) p2).1 25) p3).1 25)).toInt = p4.toInt := by rw [rd_sa]
                      generalize ey179 : (((sa (sa (sa (sa σ108 26 (σ108.1 25) p1) 27 ((sa σ108 26 (σ108.1 25) p1).1 25) p2) 28 ((sa (sa σ108 26 (σ108.1 25) p1) 27 ((sa σ108 26 (σ108.1 25) p1).1 25) p2).1 25) p3) 29 ((sa (sa (sa σ108 26 (σ108.1 25) p1) 27 ((sa σ108 26 (σ108.1 25) p1).1 25) p2) 28 ((sa (sa σ108 26 (σ108.1 25) p1) 27 ((sa σ108 26 (σ108.1 25) p1).1 25) p2).1 25) p3).1 25) p4).1 25) + 1) = y179
                      replace ey179 := ey179.symm
                      have ty179 : y179.toInt = ((sa (sa (sa (sa σ108 26 (σ108.1 25) p1) 27 ((sa σ108 26 (σ108.1 25) p1).1 25) p2) 28 ((sa (sa σ108 26 (σ108.1 25) p1) 27 ((sa σ108 26 (σ108.1 25) p1).1 25) p2).1 25) p3) 29 ((sa (sa (sa σ108 26 (σ108.1 25) p1) 27 ((sa σ108 26 (σ108.1 25) p1).1 25) p2) 28 ((sa (sa σ108 26 (σ108.1 25) p1) 27 ((sa σ108 26 (σ108.1 25) p1).1 25) p2).1 25) p3).1 25) p4).1 25).toInt + 1 := i3_addc rfl rfl ey179 (by omega)
                      clear ey179
                      have hM180 := hM175.sf 25 y179 (show 0 ≤ y179.toInt ∧ y179.toInt ≤ 4 by omega)
                      have hE181 := hE176.sf 25 y179 (by decide)
                      have u182 : ((sf (sa (sa (sa (sa σ108 26 (σ108.1 25) p1) 27 ((sa σ108 26 (σ108.1 25) p1).1 25) p2) 28 ((sa (sa σ108 26 (σ108.1 25) p1) 27 ((sa σ108 26 (σ108.1 25) p1).1 25) p2).1 25) p3) 29 ((sa (sa (sa σ108 26 (σ108.1 25) p1) 27 ((sa σ108 26 (σ108.1 25) p1).1 25) p2) 28 ((sa (sa σ108 26 (σ108.1 25) p1) 27 ((sa σ108 26 (σ108.1 25) p1).1 25) p2).1 25) p3).1 25) p4) 25 y179).1 25).toInt = y179.toInt := rfl
                      generalize ey183 : (((sf (sa (sa (sa (sa σ108 26 (σ108.1 25) p1) 27 ((sa σ108 26 (σ108.1 25) p1).1 25) p2) 28 ((sa (sa σ108 26 (σ108.1 25) p1) 27 ((sa σ108 26 (σ108.1 25) p1).1 25) p2).1 25) p3) 29 ((sa (sa (sa σ108 26 (σ108.1 25) p1) 27 ((sa σ108 26 (σ108.1 25) p1).1 25) p2) 28 ((sa (sa σ108 26 (σ108.1 25) p1) 27 ((sa σ108 26 (σ108.1 25) p1).1 25) p2).1 25) p3).1 25) p4) 25 y179).1 25) - 1) = y183
                      replace ey183 := ey183.symm
                      have ty183 : y183.toInt = ((sf (sa (sa (sa (sa σ108 26 (σ108.1 25) p1) 27 ((sa σ108 26 (σ108.1 25) p1).1 25) p2) 28 ((sa (sa σ108 26 (σ108.1 25) p1) 27 ((sa σ108 26 (σ108.1 25) p1).1 25) p2).1 25) p3) 29 ((sa (sa (sa σ108 26 (σ108.1 25) p1) 27 ((sa σ108 26 (σ108.1 25) p1).1 25) p2) 28 ((sa (sa σ108 26 (σ108.1 25) p1) 27 ((sa σ108 26 (σ108.1 25) p1).1 25) p2).1 25) p3).1 25) p4) 25 y179).1 25).toInt - 1 := i3_subc rfl rfl ey183 (by omega)
                      clear ey183
                      exact hq y183 (sf (sa (sa (sa (sa σ108 26 (σ108.1 25) p1) 27 ((sa σ108 26 (σ108.1 25) p1).1 25) p2) 28 ((sa (sa σ108 26 (σ108.1 25) p1) 27 ((sa σ108 26 (σ108.1 25) p1).1 25) p2).1 25) p3) 29 ((sa (sa (sa σ108 26 (σ108.1 25) p1) 27 ((sa σ108 26 (σ108.1 25) p1).1 25) p2) 28 ((sa (sa σ108 26 (σ108.1 25) p1) 27 ((sa σ108 26 (σ108.1 25) p1).1 25) p2).1 25) p3).1 25) p4) 25 y179) hM180 hE181
                    · exact hq (-3) σ108 hM109 hE110
                  · unfold b_except_52
                    exact hq (-1) σ108 hM109 hE110
set_option maxHeartbeats 2000000 in
theorem rg_unexcept {Q : Int32 → VS → Prop} {σ : VS} (hM : MI σ) (hq : ∀ (r : Int32) (σ' : VS), MI σ' → Eo [25] [] σ σ' → Q r σ') : wp_unexcept Q σ := by
  unfold wp_unexcept
  have hE : Eo [25] [] σ σ := Eo.rfl
  have f1 : 0 ≤ (σ.1 25).toInt ∧ (σ.1 25).toInt ≤ 4 := hM.1 25
  refine ⟨fun c2 => ?_, fun c2 => ?_⟩
  · generalize ey3 : ((σ.1 25) - 1) = y3
    replace ey3 := ey3.symm
    have ty3 : y3.toInt = (σ.1 25).toInt - 1 := i3_subc rfl rfl ey3 (by omega)
    clear ey3
    have hM4 := hM.sf 25 y3 (show 0 ≤ y3.toInt ∧ y3.toInt ≤ 4 by omega)
    have hE5 := hE.sf 25 y3 (by decide)
    have u6 : ((sf σ 25 y3).1 25).toInt = y3.toInt := rfl
    exact hq ((sf σ 25 y3).1 25) (sf σ 25 y3) hM4 hE5
  · exact hq (-1) σ hM hE
set_option maxHeartbeats 2000000 in
theorem rg_takes {Q : Int32 → VS → Prop} {p1 : Int32} {p2 : Int32} {σ : VS} (hM : MI σ) (hq : ∀ (r : Int32) (σ' : VS), MI σ' → Eo [] [] σ σ' → Q r σ') : wp_takes Q p1 p2 σ := by
  unfold wp_takes
  have hE : Eo [] [] σ σ := Eo.rfl
  have bd1 := i3_bd p1
  have bd2 := i3_bd p2
  refine rg_isInput hM (fun r3 σ4 br3 ir3 hM5 hE6o => ?_)
  have hE6 := hE.of hE6o (by decide) (by decide)
  have f7 : 0 ≤ (σ.1 1).toInt ∧ (σ.1 1).toInt ≤ 50 := hM.1 1
  have u8 : (σ4.1 1).toInt = (σ.1 1).toInt := by rw [hE6o.1 1 (by decide)]
  refine ⟨fun c9 => ?_, fun c9 => ?_⟩
  · have fc9 := ir3 c9
    generalize ey10 : (4 * p1) = y10
    replace ey10 := ey10.symm
    have ty10 : y10.toInt = 4 * p1.toInt := i3_mulc rfl rfl ey10 (by omega)
    clear ey10
    generalize ey11 : (y10 + p2) = y11
    replace ey11 := ey11.symm
    have ty11 : y11.toInt = y10.toInt + p2.toInt := i3_addc rfl rfl ey11 (by omega)
    clear ey11
    refine ⟨⟨by omega, by omega⟩, ?_⟩
    have a12 : (-1) ≤ (rd σ4 7 y11).toInt ∧ (rd σ4 7 y11).toInt ≤ 49 := hM5.2 7 _
    refine ⟨fun c13 => ?_, fun c13 => ?_⟩
    · refine ⟨⟨by omega, by omega⟩, ?_⟩
      suffices hs : ∀ (q14 : Int32), q14.toInt = (rd σ4 7 y11).toInt → b_takes_41 Q q14 σ4 from hs (rd σ4 7 y11) rfl
      intro q14 hq14
      unfold b_takes_41
      exact hq q14 σ4 hM5 hE6
    · suffices hs : ∀ (q15 : Int32), q15.toInt = (-5) → b_takes_41 Q q15 σ4 from hs (-5) rfl
      intro q15 hq15
      unfold b_takes_41
      exact hq q15 σ4 hM5 hE6
  · suffices hs : ∀ (q16 : Int32), q16.toInt = (-1) → b_takes_41 Q q16 σ4 from hs (-1) rfl
    intro q16 hq16
    unfold b_takes_41
    exact hq q16 σ4 hM5 hE6
set_option maxHeartbeats 2000000 in
theorem rg_step {Q : Int32 → VS → Prop} {p1 : Int32} {p2 : Int32} {σ : VS} (hM : MI σ) (hq : ∀ (r : Int32) (σ' : VS), MI σ' → Eo [] [] σ σ' → Q r σ') : wp_step Q p1 p2 σ := by
  unfold wp_step
  have hE : Eo [] [] σ σ := Eo.rfl
  have f1 : 0 ≤ (σ.1 62).toInt ∧ (σ.1 62).toInt ≤ 52 := hM.1 62
  refine ⟨fun c2 => ?_, fun c2 => ?_⟩
  · unfold b_step_17
    refine ⟨fun c3 => ?_, fun c3 => ?_⟩
    · unfold b_step_34
      refine ⟨fun c4 => ?_, fun c4 => ?_⟩
      · unfold b_step_55
        exact hq 1000000000 σ hM hE
      · refine ⟨fun c5 => ?_, fun c5 => ?_⟩
        · unfold b_step_55
          exact hq 1000000000 σ hM hE
        · exfalso; omega
    · exfalso; omega
  · refine ⟨fun c6 => ?_, fun c6 => ?_⟩
    · unfold b_step_17
      refine ⟨fun c7 => ?_, fun c7 => ?_⟩
      · exfalso; omega
      · refine ⟨fun c8 => ?_, fun c8 => ?_⟩
        · unfold b_step_34
          refine ⟨fun c9 => ?_, fun c9 => ?_⟩
          · unfold b_step_55
            exact hq 1000000000 σ hM hE
          · refine ⟨fun c10 => ?_, fun c10 => ?_⟩
            · unfold b_step_55
              exact hq 1000000000 σ hM hE
            · refine ⟨fun c11 => ?_, fun c11 => ?_⟩
              · unfold b_step_55
                exact hq 1000000000 σ hM hE
              · refine ⟨fun c12 => ?_, fun c12 => ?_⟩
                · refine ⟨fun c13 => ?_, fun c13 => ?_⟩
                  · refine ⟨fun c14 => ?_, fun c14 => ?_⟩
                    · refine ⟨fun c15 => ?_, fun c15 => ?_⟩
                      · refine ⟨⟨by omega, by omega⟩, ?_⟩
                        suffices hs : ∀ (q16 : Int32), q16.toInt = (rd σ 66 p1).toInt → b_step_106 Q q16 σ from hs (rd σ 66 p1) rfl
                        intro q16 hq16
                        have bd17 := i3_bd (rd σ 66 p1)
                        unfold b_step_106
                        have bd18 := i3_bd q16
                        exact hq q16 σ hM hE
                      · refine ⟨⟨by omega, by omega⟩, ?_⟩
                        have a19 : 0 ≤ (rd σ 65 p1).toInt ∧ (rd σ 65 p1).toInt ≤ 1 := hM.2 65 _
                        suffices hs : ∀ (q20 : Int32), q20.toInt = (rd σ 65 p1).toInt → b_step_106 Q q20 σ from hs (rd σ 65 p1) rfl
                        intro q20 hq20
                        unfold b_step_106
                        exact hq q20 σ hM hE
                    · refine ⟨⟨by omega, by omega⟩, ?_⟩
                      have a21 : (-1) ≤ (rd σ 64 p1).toInt ∧ (rd σ 64 p1).toInt ≤ 3 := hM.2 64 _
                      suffices hs : ∀ (q22 : Int32), q22.toInt = (rd σ 64 p1).toInt → b_step_106 Q q22 σ from hs (rd σ 64 p1) rfl
                      intro q22 hq22
                      unfold b_step_106
                      exact hq q22 σ hM hE
                  · refine ⟨⟨by omega, by omega⟩, ?_⟩
                    have a23 : 0 ≤ (rd σ 63 p1).toInt ∧ (rd σ 63 p1).toInt ≤ 49 := hM.2 63 _
                    suffices hs : ∀ (q24 : Int32), q24.toInt = (rd σ 63 p1).toInt → b_step_106 Q q24 σ from hs (rd σ 63 p1) rfl
                    intro q24 hq24
                    unfold b_step_106
                    exact hq q24 σ hM hE
                · unfold b_step_55
                  exact hq 1000000000 σ hM hE
        · have bd25 := i3_bd (σ.1 68)
          exact hq (σ.1 68) σ hM hE
    · have bd26 := i3_bd (σ.1 67)
      exact hq (σ.1 67) σ hM hE
set_option maxHeartbeats 2000000 in
theorem rg_area {Q : Int32 → VS → Prop} {σ : VS} (hM : MI σ) (hq : ∀ (r : Int32) (σ' : VS), MI σ' → Eo [] [] σ σ' → Q r σ') : wp_area Q σ := by
  unfold wp_area
  intro X4 H_4
  have hE : Eo [] [] σ σ := Eo.rfl
  obtain ⟨σ0, h0⟩ : ∃ z : VS, z = σ := ⟨_, rfl⟩
  rw [← h0] at hq
  replace hE : Eo [] [] σ0 σ := by rw [h0]; exact hE
  clear h0
  have L_4_n1 : ∀ (n1 : Nat) (l1 : Int32) (l2 : Int32) (σ : VS), 50 - l2.toInt < (n1 : Int) → 0 ≤ l2.toInt ∧ l2.toInt ≤ 50 → MI σ → Eo [] [] σ0 σ → X4 l1 l2 σ := by
    intro n1
    induction n1 with
    | zero => intro l1 l2 σ hm h_l2 hM hE; exfalso; omega
    | succ n1 ih_n1 =>
      intro l1 l2 σ hm h_l2 hM hE
      have hm2_4 : 50 - l2.toInt < (n1 : Int) + 1 := by omega
      refine H_4 l1 l2 σ ?_
      unfold b_area_4
      have f2 : 0 ≤ (σ.1 1).toInt ∧ (σ.1 1).toInt ≤ 50 := hM.1 1
      refine ⟨fun c3 => ?_, fun c3 => ?_⟩
      · have bd4 := i3_bd l1
        exact hq l1 σ hM hE
      · refine ⟨⟨by omega, by omega⟩, ?_⟩
        have a5 : 0 ≤ (rd σ 2 l2).toInt ∧ (rd σ 2 l2).toInt ≤ 5 := hM.2 2 _
        refine ⟨fun c6 => ?_, fun c6 => ?_⟩
        · unfold b_area_49
          generalize ey7 : (l2 + 1) = y7
          replace ey7 := ey7.symm
          have ty7 : y7.toInt = l2.toInt + 1 := i3_addc rfl rfl ey7 (by omega)
          clear ey7
          have bd8 := i3_bd l1
          exact ih_n1 l1 y7 σ (by omega) (by first | omega | decide) hM hE
        · refine ⟨⟨by omega, by omega⟩, ?_⟩
          refine ⟨fun c9 => ?_, fun c9 => ?_⟩
          · unfold b_area_49
            generalize ey10 : (l2 + 1) = y10
            replace ey10 := ey10.symm
            have ty10 : y10.toInt = l2.toInt + 1 := i3_addc rfl rfl ey10 (by omega)
            clear ey10
            have bd11 := i3_bd l1
            exact ih_n1 l1 y10 σ (by omega) (by first | omega | decide) hM hE
          · refine ⟨⟨by omega, by omega⟩, ?_⟩
            have a12 : 0 ≤ (rd σ 5 l2).toInt ∧ (rd σ 5 l2).toInt ≤ 2 := hM.2 5 _
            generalize ey13 : (1 + (rd σ 5 l2)) = y13
            replace ey13 := ey13.symm
            have ty13 : y13.toInt = 1 + (rd σ 5 l2).toInt := i3_addc rfl rfl ey13 (by omega)
            clear ey13
            refine ⟨⟨by omega, by omega⟩, ?_⟩
            have a14 : 0 ≤ (rd σ 3 l2).toInt ∧ (rd σ 3 l2).toInt ≤ 4 := hM.2 3 _
            generalize ey15 : (y13 * (rd σ 3 l2)) = y15
            replace ey15 := ey15.symm
            have ty15 : 0 ≤ y15.toInt ∧ y15.toInt ≤ 12 := i3_mulb (A := 3) (B := 4) ey15 (by omega) (by omega) (by decide)
            clear ey15
            have bd16 := i3_bd l1
            generalize ey17 : (l1 + y15) = y17
            replace ey17 := ey17.symm
            clear ey17
            intro x18 ex18
            have ix18 : x18.toInt = y17.toInt := by rw [ex18]
            have bd19 := i3_bd y17
            unfold b_area_49
            generalize ey20 : (l2 + 1) = y20
            replace ey20 := ey20.symm
            have ty20 : y20.toInt = l2.toInt + 1 := i3_addc rfl rfl ey20 (by omega)
            clear ey20
            have bd21 := i3_bd x18
            exact ih_n1 x18 y20 σ (by omega) (by first | omega | decide) hM hE
  exact L_4_n1 ((50 - (0 : Int32).toInt).toNat + 1) 0 0 σ (by decide) (by first | omega | decide) hM hE
set_option maxHeartbeats 2000000 in
theorem rg_count {Q : Int32 → VS → Prop} {p1 : Int32} {σ : VS} (hM : MI σ) (hq : ∀ (r : Int32) (σ' : VS), MI σ' → Eo [] [] σ σ' → Q r σ') : wp_count Q p1 σ := by
  unfold wp_count
  have hE : Eo [] [] σ σ := Eo.rfl
  refine ⟨fun c1 => ?_, fun c1 => ?_⟩
  · refine ⟨fun c2 => ?_, fun c2 => ?_⟩
    · refine ⟨fun c3 => ?_, fun c3 => ?_⟩
      · refine ⟨fun c4 => ?_, fun c4 => ?_⟩
        · suffices hs : ∀ (q5 : Int32), q5.toInt = (-1) → b_count_48 Q q5 σ from hs (-1) rfl
          intro q5 hq5
          unfold b_count_48
          exact hq q5 σ hM hE
        · have f6 : 1 ≤ (σ.1 20).toInt ∧ (σ.1 20).toInt ≤ 1000000 := hM.1 20
          suffices hs : ∀ (q7 : Int32), q7.toInt = (σ.1 20).toInt → b_count_48 Q q7 σ from hs (σ.1 20) rfl
          intro q7 hq7
          unfold b_count_48
          exact hq q7 σ hM hE
      · have f8 : 0 ≤ (σ.1 25).toInt ∧ (σ.1 25).toInt ≤ 4 := hM.1 25
        suffices hs : ∀ (q9 : Int32), q9.toInt = (σ.1 25).toInt → b_count_48 Q q9 σ from hs (σ.1 25) rfl
        intro q9 hq9
        unfold b_count_48
        exact hq q9 σ hM hE
    · have f10 : 0 ≤ (σ.1 21).toInt ∧ (σ.1 21).toInt ≤ 20 := hM.1 21
      suffices hs : ∀ (q11 : Int32), q11.toInt = (σ.1 21).toInt → b_count_48 Q q11 σ from hs (σ.1 21) rfl
      intro q11 hq11
      unfold b_count_48
      exact hq q11 σ hM hE
  · have f12 : 0 ≤ (σ.1 1).toInt ∧ (σ.1 1).toInt ≤ 50 := hM.1 1
    suffices hs : ∀ (q13 : Int32), q13.toInt = (σ.1 1).toInt → b_count_48 Q q13 σ from hs (σ.1 1) rfl
    intro q13 hq13
    unfold b_count_48
    exact hq q13 σ hM hE
