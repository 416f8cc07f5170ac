set_option maxHeartbeats 2000000 in
theorem rg_isInput {Q : Int32 → VS → Prop} {p1 : Int32} {p2 : Int32} {σ : VS} (hM : MI σ) (hq : ∀ (r : Int32) (σ' : VS), 0 ≤ r.toInt ∧ r.toInt ≤ 1 → (r.toInt ≠ 0 → 0 ≤ p1.toInt ∧ p1.toInt < (σ.1 1).toInt ∧ 0 ≤ p2.toInt ∧ p2.toInt ≤ 3) → MI σ' → Eo [] [] σ σ' → Q r σ') : wp_isInput Q p1 p2 σ := by
  unfold wp_isInput
  have hE : Eo [] [] σ σ := Eo.rfl
  have bd1 := i3_bd p1
  refine rg_isCell hM (fun r2 σ3 br2 ir2 hM4 hE5o => ?_)
  have hE5 := hE.of hE5o (by decide) (by decide)
  have f6 : 0 ≤ (σ.1 1).toInt ∧ (σ.1 1).toInt ≤ 50 := hM.1 1
  have u7 : (σ3.1 1).toInt = (σ.1 1).toInt := by rw [hE5o.1 1 (by decide)]
  refine ⟨fun c8 => ?_, fun c8 => ?_⟩
  · unfold b_isInput_26
    suffices hs : ∀ (q9 : Int32), q9.toInt = 0 → b_isInput_27 Q q9 σ3 from hs 0 rfl
    intro q9 hq9
    unfold b_isInput_27
    refine ⟨⟨by omega, by omega⟩, ?_⟩
    exact hq q9 σ3 ⟨by omega, by omega⟩ (by intro h9; omega) hM4 hE5
  · have fc8 := ir2 c8
    refine ⟨fun c10 => ?_, fun c10 => ?_⟩
    · unfold b_isInput_26
      suffices hs : ∀ (q11 : Int32), q11.toInt = 0 → b_isInput_27 Q q11 σ3 from hs 0 rfl
      intro q11 hq11
      unfold b_isInput_27
      refine ⟨⟨by omega, by omega⟩, ?_⟩
      exact hq q11 σ3 ⟨by omega, by omega⟩ (by intro h9; omega) hM4 hE5
    · refine ⟨⟨by omega, by omega⟩, ?_⟩
      have a12 : 0 ≤ (rd σ3 3 p1).toInt ∧ (rd σ3 3 p1).toInt ≤ 4 := hM4.2 3 _
      refine ⟨fun c13 => ?_, fun c13 => ?_⟩
      · unfold b_isInput_26
        suffices hs : ∀ (q14 : Int32), q14.toInt = 0 → b_isInput_27 Q q14 σ3 from hs 0 rfl
        intro q14 hq14
        unfold b_isInput_27
        refine ⟨⟨by omega, by omega⟩, ?_⟩
        exact hq q14 σ3 ⟨by omega, by omega⟩ (by intro h9; omega) hM4 hE5
      · suffices hs : ∀ (q15 : Int32), q15.toInt = 1 → b_isInput_27 Q q15 σ3 from hs 1 rfl
        intro q15 hq15
        unfold b_isInput_27
        refine ⟨⟨by omega, by omega⟩, ?_⟩
        exact hq q15 σ3 ⟨by omega, by omega⟩ (by intro h9; omega) hM4 hE5
set_option maxHeartbeats 2000000 in
theorem rg_extra {Q : Int32 → VS → Prop} {p1 : Int32} {p2 : Int32} {σ : VS} (hM : MI σ) (hq : ∀ (r : Int32) (σ' : VS), MI σ' → Eo [] [6] σ σ' → Q r σ') : wp_extra Q p1 p2 σ := by
  unfold wp_extra
  have hE : Eo [] [6] σ σ := Eo.rfl
  have bd1 := i3_bd p1
  refine rg_isCell hM (fun r2 σ3 br2 ir2 hM4 hE5o => ?_)
  have hE5 := hE.of hE5o (by decide) (by decide)
  have f6 : 0 ≤ (σ.1 1).toInt ∧ (σ.1 1).toInt ≤ 50 := hM.1 1
  have u7 : (σ3.1 1).toInt = (σ.1 1).toInt := by rw [hE5o.1 1 (by decide)]
  refine ⟨fun c8 => ?_, fun c8 => ?_⟩
  · unfold b_extra_19
    exact hq (-1) σ3 hM4 hE5
  · have fc8 := ir2 c8
    refine ⟨fun c9 => ?_, fun c9 => ?_⟩
    · unfold b_extra_19
      exact hq (-1) σ3 hM4 hE5
    · refine ⟨fun c10 => ?_, fun c10 => ?_⟩
      · refine ⟨⟨by omega, by omega⟩, ?_⟩
        have a11 : 0 ≤ (rd σ3 2 p1).toInt ∧ (rd σ3 2 p1).toInt ≤ 5 := hM4.2 2 _
        refine ⟨fun c12 => ?_, fun c12 => ?_⟩
        · refine ⟨⟨by omega, by omega⟩, ?_⟩
          have a13 : 0 ≤ (rd σ3 6 p1).toInt ∧ (rd σ3 6 p1).toInt ≤ 1000 := hM4.2 6 _
          intro x14 ex14
          have ix14 : x14.toInt = (rd σ3 6 p1).toInt := by rw [ex14]
          refine ⟨⟨by omega, by omega⟩, ?_⟩
          have hM15 := hM4.sa 6 p1 p2 (show 0 ≤ p2.toInt ∧ p2.toInt ≤ 1000 by omega)
          have hE16 := hE5.sa 6 p1 p2 (by decide)
          have u17 : ((sa σ3 6 p1 p2).1 1).toInt = (σ3.1 1).toInt := rfl
          have w18 : (rd (sa σ3 6 p1 p2) 6 p1).toInt = p2.toInt := by rw [rd_sa]
          exact hq x14 (sa σ3 6 p1 p2) hM15 hE16
        · exact hq (-2) σ3 hM4 hE5
      · unfold b_extra_19
        exact hq (-1) σ3 hM4 hE5
set_option maxHeartbeats 2000000 in
theorem rg_port {Q : Int32 → VS → Prop} {p1 : Int32} {p2 : Int32} {p3 : Int32} {p4 : Int32} {σ : VS} (hM : MI σ) (hq : ∀ (r : Int32) (σ' : VS), MI σ' → Eo [] [8, 9, 10] σ σ' → Q r σ') : wp_port Q p1 p2 p3 p4 σ := by
  unfold wp_port
  have hE : Eo [] [8, 9, 10] σ σ := Eo.rfl
  have bd1 := i3_bd p1
  refine rg_isCell hM (fun r2 σ3 br2 ir2 hM4 hE5o => ?_)
  have hE5 := hE.of hE5o (by decide) (by decide)
  have f6 : 0 ≤ (σ.1 1).toInt ∧ (σ.1 1).toInt ≤ 50 := hM.1 1
  have u7 : (σ3.1 1).toInt = (σ.1 1).toInt := by rw [hE5o.1 1 (by decide)]
  refine ⟨fun c8 => ?_, fun c8 => ?_⟩
  · unfold b_port_40
    exact hq (-1) σ3 hM4 hE5
  · have fc8 := ir2 c8
    refine ⟨fun c9 => ?_, fun c9 => ?_⟩
    · unfold b_port_40
      exact hq (-1) σ3 hM4 hE5
    · refine ⟨fun c10 => ?_, fun c10 => ?_⟩
      · unfold b_port_40
        exact hq (-1) σ3 hM4 hE5
      · refine ⟨fun c11 => ?_, fun c11 => ?_⟩
        · unfold b_port_40
          exact hq (-1) σ3 hM4 hE5
        · refine ⟨fun c12 => ?_, fun c12 => ?_⟩
          · unfold b_port_40
            exact hq (-1) σ3 hM4 hE5
          · refine ⟨fun c13 => ?_, fun c13 => ?_⟩
            · unfold b_port_40
              exact hq (-1) σ3 hM4 hE5
            · refine ⟨fun c14 => ?_, fun c14 => ?_⟩
              · refine ⟨⟨by omega, by omega⟩, ?_⟩
                have a15 : 0 ≤ (rd σ3 2 p1).toInt ∧ (rd σ3 2 p1).toInt ≤ 5 := hM4.2 2 _
                refine ⟨fun c16 => ?_, fun c16 => ?_⟩
                · refine ⟨⟨by omega, by omega⟩, ?_⟩
                  have hM17 := hM4.sa 8 p1 p2 (show 0 ≤ p2.toInt ∧ p2.toInt ≤ 100000 by omega)
                  have hE18 := hE5.sa 8 p1 p2 (by decide)
                  have u19 : ((sa σ3 8 p1 p2).1 1).toInt = (σ3.1 1).toInt := rfl
                  have w20 : (rd (sa σ3 8 p1 p2) 8 p1).toInt = p2.toInt := by rw [rd_sa]
                  refine ⟨⟨by omega, by omega⟩, ?_⟩
                  have hM21 := hM17.sa 9 p1 p3 (show 0 ≤ p3.toInt ∧ p3.toInt ≤ 100000 by omega)
                  have hE22 := hE18.sa 9 p1 p3 (by decide)
                  have u23 : ((sa (sa σ3 8 p1 p2) 9 p1 p3).1 1).toInt = ((sa σ3 8 p1 p2).1 1).toInt := rfl
                  have w24 : (rd (sa (sa σ3 8 p1 p2) 9 p1 p3) 9 p1).toInt = p3.toInt := by rw [rd_sa]
                  refine ⟨⟨by omega, by omega⟩, ?_⟩
                  have hM25 := hM21.sa 10 p1 p4 (show 0 ≤ p4.toInt ∧ p4.toInt ≤ 100000 by omega)
                  have hE26 := hE22.sa 10 p1 p4 (by decide)
                  have u27 : ((sa (sa (sa σ3 8 p1 p2) 9 p1 p3) 10 p1 p4).1 1).toInt = ((sa (sa σ3 8 p1 p2) 9 p1 p3).1 1).toInt := rfl
                  have w28 : (rd (sa (sa (sa σ3 8 p1 p2) 9 p1 p3) 10 p1 p4) 10 p1).toInt = p4.toInt := by rw [rd_sa]
                  exact hq 0 (sa (sa (sa σ3 8 p1 p2) 9 p1 p3) 10 p1 p4) hM25 hE26
                · exact hq (-2) σ3 hM4 hE5
              · unfold b_port_40
                exact hq (-1) σ3 hM4 hE5
set_option maxHeartbeats 2000000 in
theorem rg_entry {Q : Int32 → VS → Prop} {p1 : Int32} {p2 : Int32} {p3 : Int32} {p4 : Int32} {p5 : Int32} {σ : VS} (hM : MI σ) (hq : ∀ (r : Int32) (σ' : VS), MI σ' → Eo [] [15] σ σ' → Q r σ') : wp_entry Q p1 p2 p3 p4 p5 σ := by
  unfold wp_entry
  have hE : Eo [] [15] σ σ := Eo.rfl
  have bd1 := i3_bd p1
  have bd2 := i3_bd p2
  have bd3 := i3_bd p3
  refine rg_isRow hM (fun r4 σ5 br4 ir4 hM6 hE7o => ?_)
  have hE7 := hE.of hE7o (by decide) (by decide)
  refine ⟨fun c8 => ?_, fun c8 => ?_⟩
  · unfold b_entry_33
    exact hq (-1) σ5 hM6 hE7
  · have fc8 := ir4 c8
    refine ⟨fun c9 => ?_, fun c9 => ?_⟩
    · unfold b_entry_33
      exact hq (-1) σ5 hM6 hE7
    · refine ⟨fun c10 => ?_, fun c10 => ?_⟩
      · unfold b_entry_33
        exact hq (-1) σ5 hM6 hE7
      · refine ⟨fun c11 => ?_, fun c11 => ?_⟩
        · unfold b_entry_33
          exact hq (-1) σ5 hM6 hE7
        · refine ⟨fun c12 => ?_, fun c12 => ?_⟩
          · generalize ey13 : (8 * p1) = y13
            replace ey13 := ey13.symm
            have ty13 : y13.toInt = 8 * p1.toInt := i3_mulc rfl rfl ey13 (by omega)
            clear ey13
            generalize ey14 : (4 * p2) = y14
            replace ey14 := ey14.symm
            have ty14 : y14.toInt = 4 * p2.toInt := i3_mulc rfl rfl ey14 (by omega)
            clear ey14
            generalize ey15 : (y13 + y14) = y15
            replace ey15 := ey15.symm
            have ty15 : y15.toInt = y13.toInt + y14.toInt := i3_addc rfl rfl ey15 (by omega)
            clear ey15
            generalize ey16 : (y15 + p3) = y16
            replace ey16 := ey16.symm
            have ty16 : y16.toInt = y15.toInt + p3.toInt := i3_addc rfl rfl ey16 (by omega)
            clear ey16
            intro x17 ex17
            have ix17 : x17.toInt = y16.toInt := by rw [ex17]
            refine ⟨⟨by omega, by omega⟩, ?_⟩
            have a18 : 0 ≤ (rd σ5 16 x17).toInt ∧ (rd σ5 16 x17).toInt ≤ 3 := hM6.2 16 _
            refine ⟨fun c19 => ?_, fun c19 => ?_⟩
            · refine ⟨⟨by omega, by omega⟩, ?_⟩
              refine ⟨fun c20 => ?_, fun c20 => ?_⟩
              · generalize ey21 : (3 * x17) = y21
                replace ey21 := ey21.symm
                have ty21 : y21.toInt = 3 * x17.toInt := i3_mulc rfl rfl ey21 (by omega)
                clear ey21
                generalize ey22 : (y21 + p4) = y22
                replace ey22 := ey22.symm
                have ty22 : y22.toInt = y21.toInt + p4.toInt := i3_addc rfl rfl ey22 (by omega)
                clear ey22
                refine ⟨⟨by omega, by omega⟩, ?_⟩
                have a23 : 0 ≤ (rd σ5 15 y22).toInt ∧ (rd σ5 15 y22).toInt ≤ 3000 := hM6.2 15 _
                intro x24 ex24
                have ix24 : x24.toInt = (rd σ5 15 y22).toInt := by rw [ex24]
                refine ⟨⟨by omega, by omega⟩, ?_⟩
                have hM25 := hM6.sa 15 y22 p5 (show 0 ≤ p5.toInt ∧ p5.toInt ≤ 3000 by omega)
                have hE26 := hE7.sa 15 y22 p5 (by decide)
                have w27 : (rd (sa σ5 15 y22 p5) 15 y22).toInt = p5.toInt := by rw [rd_sa]
                exact hq x24 (sa σ5 15 y22 p5) hM25 hE26
              · exact hq (-12) σ5 hM6 hE7
            · exact hq (-11) σ5 hM6 hE7
          · unfold b_entry_33
            exact hq (-1) σ5 hM6 hE7
set_option maxHeartbeats 2000000 in
theorem rg_tear {Q : Int32 → VS → Prop} {p1 : Int32} {p2 : Int32} {p3 : Int32} {p4 : Int32} {σ : VS} (hM : MI σ) (hq : ∀ (r : Int32) (σ' : VS), MI σ' → Eo [] [15, 16] σ σ' → Q r σ') : wp_tear Q p1 p2 p3 p4 σ := by
  unfold wp_tear
  intro X47 H_47
  have hE : Eo [] [15, 16] σ σ := Eo.rfl
  obtain ⟨σ0, h0⟩ : ∃ z : VS, z = σ := ⟨_, rfl⟩
  rw [← h0] at hq
  replace hE : Eo [] [15, 16] σ0 σ := by rw [h0]; exact hE
  clear h0
  have bd1 := i3_bd p1
  have bd2 := i3_bd p2
  have bd3 := i3_bd p3
  refine rg_isRow hM (fun r4 σ5 br4 ir4 hM6 hE7o => ?_)
  have hE7 := hE.of hE7o (by decide) (by decide)
  refine ⟨fun c8 => ?_, fun c8 => ?_⟩
  · unfold b_tear_20
    exact hq (-1) σ5 hM6 hE7
  · have fc8 := ir4 c8
    refine ⟨fun c9 => ?_, fun c9 => ?_⟩
    · unfold b_tear_20
      exact hq (-1) σ5 hM6 hE7
    · refine ⟨fun c10 => ?_, fun c10 => ?_⟩
      · generalize ey11 : (8 * p1) = y11
        replace ey11 := ey11.symm
        have ty11 : y11.toInt = 8 * p1.toInt := i3_mulc rfl rfl ey11 (by omega)
        clear ey11
        generalize ey12 : (4 * p2) = y12
        replace ey12 := ey12.symm
        have ty12 : y12.toInt = 4 * p2.toInt := i3_mulc rfl rfl ey12 (by omega)
        clear ey12
        generalize ey13 : (y11 + y12) = y13
        replace ey13 := ey13.symm
        have ty13 : y13.toInt = y11.toInt + y12.toInt := i3_addc rfl rfl ey13 (by omega)
        clear ey13
        generalize ey14 : (y13 + p3) = y14
        replace ey14 := ey14.symm
        have ty14 : y14.toInt = y13.toInt + p3.toInt := i3_addc rfl rfl ey14 (by omega)
        clear ey14
        intro x15 ex15
        have ix15 : x15.toInt = y14.toInt := by rw [ex15]
        refine ⟨⟨by omega, by omega⟩, ?_⟩
        have a16 : 0 ≤ (rd σ5 16 x15).toInt ∧ (rd σ5 16 x15).toInt ≤ 3 := hM6.2 16 _
        intro x17 ex17
        have ix17 : x17.toInt = (rd σ5 16 x15).toInt := by rw [ex17]
        have L_47_n18 : ∀ (n18 : Nat) (l4 : Int32) (l5 : Int32) (l6 : Int32) (l7 : Int32) (σ : VS), 3 - l7.toInt < (n18 : Int) → 0 ≤ l4.toInt ∧ l4.toInt ≤ 3 → 0 ≤ l5.toInt ∧ l5.toInt ≤ 63 → 0 ≤ l6.toInt ∧ l6.toInt ≤ 3 → 0 ≤ l7.toInt ∧ l7.toInt ≤ 3 → MI σ → Eo [] [15, 16] σ0 σ → X47 l4 l5 l6 l7 σ := by
          intro n18
          induction n18 with
          | zero => intro l4 l5 l6 l7 σ hm h_l4 h_l5 h_l6 h_l7 hM hE; exfalso; omega
          | succ n18 ih_n18 =>
            intro l4 l5 l6 l7 σ hm h_l4 h_l5 h_l6 h_l7 hM hE
            have hm2_47 : 3 - l7.toInt < (n18 : Int) + 1 := by omega
            refine H_47 l4 l5 l6 l7 σ ?_
            unfold b_tear_47
            refine ⟨fun c19 => ?_, fun c19 => ?_⟩
            · refine ⟨⟨by omega, by omega⟩, ?_⟩
              have hM20 := hM.sa 16 l5 l4 (show 0 ≤ l4.toInt ∧ l4.toInt ≤ 3 by omega)
              have hE21 := hE.sa 16 l5 l4 (by decide)
              have w22 : (rd (sa σ 16 l5 l4) 16 l5).toInt = l4.toInt := by rw [rd_sa]
              exact hq l6 (sa σ 16 l5 l4) hM20 hE21
            · generalize ey23 : (3 * l5) = y23
              replace ey23 := ey23.symm
              have ty23 : y23.toInt = 3 * l5.toInt := i3_mulc rfl rfl ey23 (by omega)
              clear ey23
              generalize ey24 : (y23 + l7) = y24
              replace ey24 := ey24.symm
              have ty24 : y24.toInt = y23.toInt + l7.toInt := i3_addc rfl rfl ey24 (by omega)
              clear ey24
              refine ⟨⟨by omega, by omega⟩, ?_⟩
              have hM25 := hM.sa 15 y24 10 (show 0 ≤ (10 : Int32).toInt ∧ (10 : Int32).toInt ≤ 3000 by decide)
              have hE26 := hE.sa 15 y24 10 (by decide)
              have w27 : (rd (sa σ 15 y24 10) 15 y24).toInt = 10 := by rw [rd_sa]; rfl
              generalize ey28 : (l7 + 1) = y28
              replace ey28 := ey28.symm
              have ty28 : y28.toInt = l7.toInt + 1 := i3_addc rfl rfl ey28 (by omega)
              clear ey28
              exact ih_n18 l4 l5 l6 y28 (sa σ 15 y24 10) (by omega) (by first | omega | decide) (by first | omega | decide) (by first | omega | decide) (by first | omega | decide) hM25 hE26
        exact L_47_n18 ((3 - x17.toInt).toNat + 1) p4 x15 x17 x17 σ5 (by omega) (by first | omega | decide) (by first | omega | decide) (by first | omega | decide) (by first | omega | decide) hM6 hE7
      · unfold b_tear_20
        exact hq (-1) σ5 hM6 hE7
set_option maxHeartbeats 2000000 in
theorem rg_fall {Q : Int32 → VS → Prop} {p1 : Int32} {p2 : Int32} {σ : VS} (hM : MI σ) (hq : ∀ (r : Int32) (σ' : VS), MI σ' → Eo [] [17] σ σ' → Q r σ') : wp_fall Q p1 p2 σ := by
  unfold wp_fall
  have hE : Eo [] [17] σ σ := Eo.rfl
  refine ⟨fun c1 => ?_, fun c1 => ?_⟩
  · unfold b_fall_21
    exact hq (-1) σ hM hE
  · refine ⟨fun c2 => ?_, fun c2 => ?_⟩
    · unfold b_fall_21
      exact hq (-1) σ hM hE
    · refine ⟨fun c3 => ?_, fun c3 => ?_⟩
      · unfold b_fall_21
        exact hq (-1) σ hM hE
      · refine ⟨fun c4 => ?_, fun c4 => ?_⟩
        · refine ⟨⟨by omega, by omega⟩, ?_⟩
          have a5 : 0 ≤ (rd σ 17 p1).toInt ∧ (rd σ 17 p1).toInt ≤ 1000 := hM.2 17 _
          intro x6 ex6
          have ix6 : x6.toInt = (rd σ 17 p1).toInt := by rw [ex6]
          refine ⟨⟨by omega, by omega⟩, ?_⟩
          have hM7 := hM.sa 17 p1 p2 (show 0 ≤ p2.toInt ∧ p2.toInt ≤ 1000 by omega)
          have hE8 := hE.sa 17 p1 p2 (by decide)
          have w9 : (rd (sa σ 17 p1 p2) 17 p1).toInt = p2.toInt := by rw [rd_sa]
          exact hq x6 (sa σ 17 p1 p2) hM7 hE8
        · unfold b_fall_21
          exact hq (-1) σ hM hE
set_option maxHeartbeats 2000000 in
theorem rg_corner {Q : Int32 → VS → Prop} {p1 : Int32} {p2 : Int32} {σ : VS} (hM : MI σ) (hq : ∀ (r : Int32) (σ' : VS), MI σ' → Eo [18, 19] [] σ σ' → Q r σ') : wp_corner Q p1 p2 σ := by
  unfold wp_corner
  have hE : Eo [18, 19] [] σ σ := Eo.rfl
  refine ⟨fun c1 => ?_, fun c1 => ?_⟩
  · unfold b_corner_22
    exact hq (-1) σ hM hE
  · refine ⟨fun c2 => ?_, fun c2 => ?_⟩
    · unfold b_corner_22
      exact hq (-1) σ hM hE
    · refine ⟨fun c3 => ?_, fun c3 => ?_⟩
      · unfold b_corner_22
        exact hq (-1) σ hM hE
      · refine ⟨fun c4 => ?_, fun c4 => ?_⟩
        · have hM5 := hM.sf 18 p1 (show 0 ≤ p1.toInt ∧ p1.toInt ≤ 500 by omega)
          have hE6 := hE.sf 18 p1 (by decide)
          have hM7 := hM5.sf 19 p2 (show 0 ≤ p2.toInt ∧ p2.toInt ≤ 500 by omega)
          have hE8 := hE6.sf 19 p2 (by decide)
          exact hq 0 (sf (sf σ 18 p1) 19 p2) hM7 hE8
        · unfold b_corner_22
          exact hq (-1) σ hM hE
