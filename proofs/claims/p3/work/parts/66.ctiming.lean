set_option maxHeartbeats 2000000 in
theorem rg_X6isInputReached {Q : Int32 → VS → Prop} {p1 : Int32} {σ : VS} (h_p1 : 0 ≤ p1.toInt ∧ p1.toInt ≤ 199) (hM : CI σ) (hq : ∀ (r : Int32) (σ' : VS), 0 ≤ r.toInt ∧ r.toInt ≤ 1 → (r.toInt ≠ 0 → 0 ≤ (rd σ 16 p1).toInt) → CI σ' → Eo [] [] σ σ' → Q r σ') : wp_X6isInputReached Q p1 σ := by
  unfold wp_X6isInputReached
  have hE : Eo [] [] σ σ := Eo.rfl
  refine ⟨⟨by omega, by omega⟩, ?_⟩
  have a1 : (-5) ≤ (rd σ 16 p1).toInt ∧ (rd σ 16 p1).toInt ≤ 49 := hM.2 16 _
  intro x2 ex2
  have ix2 : x2.toInt = (rd σ 16 p1).toInt := by rw [ex2]
  refine ⟨fun c3 => ?_, fun c3 => ?_⟩
  · unfold b_X6isInputReached_27
    suffices hs : ∀ (q4 : Int32), q4.toInt = 0 → b_X6isInputReached_28 Q q4 σ from hs 0 rfl
    intro q4 hq4
    unfold b_X6isInputReached_28
    refine ⟨⟨by omega, by omega⟩, ?_⟩
    exact hq q4 σ ⟨by omega, by omega⟩ (by intro h9; omega) hM hE
  · refine ⟨⟨by omega, by omega⟩, ?_⟩
    have a5 : 0 ≤ (rd σ 39 x2).toInt ∧ (rd σ 39 x2).toInt ≤ 1 := hM.2 39 _
    refine ⟨fun c6 => ?_, fun c6 => ?_⟩
    · unfold b_X6isInputReached_27
      suffices hs : ∀ (q7 : Int32), q7.toInt = 0 → b_X6isInputReached_28 Q q7 σ from hs 0 rfl
      intro q7 hq7
      unfold b_X6isInputReached_28
      refine ⟨⟨by omega, by omega⟩, ?_⟩
      exact hq q7 σ ⟨by omega, by omega⟩ (by intro h9; omega) hM hE
    · suffices hs : ∀ (q8 : Int32), q8.toInt = 1 → b_X6isInputReached_28 Q q8 σ from hs 1 rfl
      intro q8 hq8
      unfold b_X6isInputReached_28
      refine ⟨⟨by omega, by omega⟩, ?_⟩
      exact hq q8 σ ⟨by omega, by omega⟩ (by intro h9; omega) hM hE
set_option maxHeartbeats 2000000 in
theorem rg_X6isInputOpen {Q : Int32 → VS → Prop} {p1 : Int32} {σ : VS} (h_p1 : 0 ≤ p1.toInt ∧ p1.toInt ≤ 199) (hM : CI σ) (hq : ∀ (r : Int32) (σ' : VS), 0 ≤ r.toInt ∧ r.toInt ≤ 1 → (r.toInt ≠ 0 → 0 ≤ (rd σ 16 p1).toInt) → CI σ' → Eo [] [] σ σ' → Q r σ') : wp_X6isInputOpen Q p1 σ := by
  unfold wp_X6isInputOpen
  have hE : Eo [] [] σ σ := Eo.rfl
  refine ⟨⟨by omega, by omega⟩, ?_⟩
  have a1 : (-5) ≤ (rd σ 16 p1).toInt ∧ (rd σ 16 p1).toInt ≤ 49 := hM.2 16 _
  intro x2 ex2
  have ix2 : x2.toInt = (rd σ 16 p1).toInt := by rw [ex2]
  refine ⟨fun c3 => ?_, fun c3 => ?_⟩
  · unfold b_X6isInputOpen_27
    suffices hs : ∀ (q4 : Int32), q4.toInt = 0 → b_X6isInputOpen_28 Q q4 σ from hs 0 rfl
    intro q4 hq4
    unfold b_X6isInputOpen_28
    refine ⟨⟨by omega, by omega⟩, ?_⟩
    exact hq q4 σ ⟨by omega, by omega⟩ (by intro h9; omega) hM hE
  · refine ⟨⟨by omega, by omega⟩, ?_⟩
    refine ⟨fun c5 => ?_, fun c5 => ?_⟩
    · unfold b_X6isInputOpen_27
      suffices hs : ∀ (q6 : Int32), q6.toInt = 0 → b_X6isInputOpen_28 Q q6 σ from hs 0 rfl
      intro q6 hq6
      unfold b_X6isInputOpen_28
      refine ⟨⟨by omega, by omega⟩, ?_⟩
      exact hq q6 σ ⟨by omega, by omega⟩ (by intro h9; omega) hM hE
    · suffices hs : ∀ (q7 : Int32), q7.toInt = 1 → b_X6isInputOpen_28 Q q7 σ from hs 1 rfl
      intro q7 hq7
      unfold b_X6isInputOpen_28
      refine ⟨⟨by omega, by omega⟩, ?_⟩
      exact hq q7 σ ⟨by omega, by omega⟩ (by intro h9; omega) hM hE
set_option maxHeartbeats 2000000 in
theorem rg_X6isReached {Q : Int32 → VS → Prop} {p1 : Int32} {σ : VS} (h_p1 : 0 ≤ p1.toInt ∧ p1.toInt ≤ 49) (hM : CI σ) (hq : ∀ (r : Int32) (σ' : VS), 0 ≤ r.toInt ∧ r.toInt ≤ 1 → CI σ' → Eo [] [] σ σ' → Q r σ') : wp_X6isReached Q p1 σ := by
  unfold wp_X6isReached
  have hE : Eo [] [] σ σ := Eo.rfl
  refine ⟨⟨by omega, by omega⟩, ?_⟩
  have a1 : 0 ≤ (rd σ 11 p1).toInt ∧ (rd σ 11 p1).toInt ≤ 5 := hM.2 11 _
  refine ⟨fun c2 => ?_, fun c2 => ?_⟩
  · refine ⟨⟨by omega, by omega⟩, ?_⟩
    have a3 : 0 ≤ (rd σ 39 p1).toInt ∧ (rd σ 39 p1).toInt ≤ 1 := hM.2 39 _
    suffices hs : ∀ (q4 : Int32), q4.toInt = (rd σ 39 p1).toInt → b_X6isReached_29 Q q4 σ from hs (rd σ 39 p1) rfl
    intro q4 hq4
    unfold b_X6isReached_29
    refine ⟨⟨by omega, by omega⟩, ?_⟩
    exact hq q4 σ ⟨by omega, by omega⟩ hM hE
  · generalize ey5 : (p1 * 4) = y5
    replace ey5 := ey5.symm
    have ty5 : y5.toInt = p1.toInt * 4 := i3_mulc rfl rfl ey5 (by omega)
    clear ey5
    refine rg_X6isInputReached ⟨by omega, by omega⟩ hM (fun r6 σ7 br6 ir6 hM8 hE9o => ?_)
    have hE9 := hE.of hE9o (by decide) (by decide)
    have a10 : (-5) ≤ (rd σ 16 y5).toInt ∧ (rd σ 16 y5).toInt ≤ 49 := hM.2 16 _
    have u11 : (rd σ7 11 p1).toInt = (rd σ 11 p1).toInt := by unfold rd; rw [hE9o.2 11 (by decide)]
    have u12 : (rd σ7 16 y5).toInt = (rd σ 16 y5).toInt := by unfold rd; rw [hE9o.2 16 (by decide)]
    unfold b_X6isReached_29
    refine ⟨⟨by omega, by omega⟩, ?_⟩
    exact hq r6 σ7 ⟨by omega, by omega⟩ hM8 hE9
set_option maxHeartbeats 2000000 in
theorem rg_X6whyOpen {Q : Int32 → VS → Prop} {p1 : Int32} {σ : VS} (h_p1 : 0 ≤ p1.toInt ∧ p1.toInt ≤ 49) (hM : CI σ) (hq : ∀ (r : Int32) (σ' : VS), CI σ' → Eo [] [] σ σ' → Q r σ') : wp_X6whyOpen Q p1 σ := by
  unfold wp_X6whyOpen
  have hE : Eo [] [] σ σ := Eo.rfl
  refine ⟨⟨by omega, by omega⟩, ?_⟩
  have a1 : 0 ≤ (rd σ 11 p1).toInt ∧ (rd σ 11 p1).toInt ≤ 5 := hM.2 11 _
  refine ⟨fun c2 => ?_, fun c2 => ?_⟩
  · refine ⟨⟨by omega, by omega⟩, ?_⟩
    have bd3 := i3_bd (rd σ 40 p1)
    exact hq (rd σ 40 p1) σ hM hE
  · generalize ey4 : (p1 * 4) = y4
    replace ey4 := ey4.symm
    have ty4 : y4.toInt = p1.toInt * 4 := i3_mulc rfl rfl ey4 (by omega)
    clear ey4
    refine rg_X6isInputOpen ⟨by omega, by omega⟩ hM (fun r5 σ6 br5 ir5 hM7 hE8o => ?_)
    have hE8 := hE.of hE8o (by decide) (by decide)
    have a9 : (-5) ≤ (rd σ 16 y4).toInt ∧ (rd σ 16 y4).toInt ≤ 49 := hM.2 16 _
    have u10 : (rd σ6 11 p1).toInt = (rd σ 11 p1).toInt := by unfold rd; rw [hE8o.2 11 (by decide)]
    have u11 : (rd σ6 16 y4).toInt = (rd σ 16 y4).toInt := by unfold rd; rw [hE8o.2 16 (by decide)]
    refine ⟨fun c12 => ?_, fun c12 => ?_⟩
    · suffices hs : ∀ (q13 : Int32), q13.toInt = 0 → b_X6whyOpen_28 Q q13 σ6 from hs 0 rfl
      intro q13 hq13
      unfold b_X6whyOpen_28
      exact hq q13 σ6 hM7 hE8
    · have fc12 := ir5 c12
      suffices hs : ∀ (q14 : Int32), q14.toInt = 1 → b_X6whyOpen_28 Q q14 σ6 from hs 1 rfl
      intro q14 hq14
      unfold b_X6whyOpen_28
      exact hq q14 σ6 hM7 hE8
set_option maxHeartbeats 2000000 in
theorem rg_X6timePort {Q : VS → Prop} {p1 : Int32} {σ : VS} (h_p1 : 0 ≤ p1.toInt ∧ p1.toInt ≤ 49) (hM : CI σ) (hq : ∀ (σ' : VS), CI σ' → Eo [] [43, 44, 45, 46] σ σ' → Q σ') : wp_X6timePort Q p1 σ := by
  unfold wp_X6timePort
  intro X4 H_4
  have hE : Eo [] [43, 44, 45, 46] σ σ := Eo.rfl
  obtain ⟨σ0, h0⟩ : ∃ z : VS, z = σ := ⟨_, rfl⟩
  rw [← h0] at hq
  replace hE : Eo [] [43, 44, 45, 46] σ0 σ := by rw [h0]; exact hE
  clear h0
  generalize ey1 : (p1 * 2) = y1
  replace ey1 := ey1.symm
  have ty1 : y1.toInt = p1.toInt * 2 := i3_mulc rfl rfl ey1 (by omega)
  clear ey1
  intro x2 ex2
  have ix2 : x2.toInt = y1.toInt := by rw [ex2]
  have L_4_n3 : ∀ (n3 : Nat) (l1 : Int32) (l2 : Int32) (σ : VS), 100 - l2.toInt < (n3 : Int) → 0 ≤ l1.toInt ∧ l1.toInt ≤ 49 → 0 ≤ l2.toInt ∧ l2.toInt ≤ 100 → CI σ → Eo [] [43, 44, 45, 46] σ0 σ → X4 l1 l2 σ := by
    intro n3
    induction n3 with
    | zero => intro l1 l2 σ hm h_l1 h_l2 hM hE; exfalso; omega
    | succ n3 ih_n3 =>
      intro l1 l2 σ hm h_l1 h_l2 hM hE
      have hm2_4 : 100 - l2.toInt < (n3 : Int) + 1 := by omega
      refine H_4 l1 l2 σ ?_
      unfold b_X6timePort_4
      generalize ey4 : (l1 * 2) = y4
      replace ey4 := ey4.symm
      have ty4 : y4.toInt = l1.toInt * 2 := i3_mulc rfl rfl ey4 (by omega)
      clear ey4
      generalize ey5 : (y4 + 2) = y5
      replace ey5 := ey5.symm
      have ty5 : y5.toInt = y4.toInt + 2 := i3_addc rfl rfl ey5 (by omega)
      clear ey5
      refine ⟨fun c6 => ?_, fun c6 => ?_⟩
      · exact hq σ hM hE
      · refine ⟨⟨by omega, by omega⟩, ?_⟩
        have a7 : 0 ≤ (rd σ 24 l1).toInt ∧ (rd σ 24 l1).toInt ≤ 100000 := hM.2 24 _
        refine ⟨⟨by omega, by omega⟩, ?_⟩
        have hM8 := hM.sa 43 l2 (rd σ 24 l1) (i3_bd _)
        have hE9 := hE.sa 43 l2 (rd σ 24 l1) (by decide)
        have w10 : (rd (sa σ 43 l2 (rd σ 24 l1)) 43 l2).toInt = (rd σ 24 l1).toInt := by rw [rd_sa]
        refine ⟨⟨by omega, by omega⟩, ?_⟩
        have a11 : 0 ≤ (rd (sa σ 43 l2 (rd σ 24 l1)) 24 l1).toInt ∧ (rd (sa σ 43 l2 (rd σ 24 l1)) 24 l1).toInt ≤ 100000 := hM8.2 24 _
        refine ⟨⟨by omega, by omega⟩, ?_⟩
        have hM12 := hM8.sa 44 l2 (rd (sa σ 43 l2 (rd σ 24 l1)) 24 l1) (i3_bd _)
        have hE13 := hE9.sa 44 l2 (rd (sa σ 43 l2 (rd σ 24 l1)) 24 l1) (by decide)
        have w14 : (rd (sa (sa σ 43 l2 (rd σ 24 l1)) 44 l2 (rd (sa σ 43 l2 (rd σ 24 l1)) 24 l1)) 44 l2).toInt = (rd (sa σ 43 l2 (rd σ 24 l1)) 24 l1).toInt := by rw [rd_sa]
        refine ⟨⟨by omega, by omega⟩, ?_⟩
        have a15 : 0 ≤ (rd (sa (sa σ 43 l2 (rd σ 24 l1)) 44 l2 (rd (sa σ 43 l2 (rd σ 24 l1)) 24 l1)) 23 l1).toInt ∧ (rd (sa (sa σ 43 l2 (rd σ 24 l1)) 44 l2 (rd (sa σ 43 l2 (rd σ 24 l1)) 24 l1)) 23 l1).toInt ≤ 100000 := hM12.2 23 _
        refine ⟨⟨by omega, by omega⟩, ?_⟩
        have hM16 := hM12.sa 45 l2 (rd (sa (sa σ 43 l2 (rd σ 24 l1)) 44 l2 (rd (sa σ 43 l2 (rd σ 24 l1)) 24 l1)) 23 l1) (i3_bd _)
        have hE17 := hE13.sa 45 l2 (rd (sa (sa σ 43 l2 (rd σ 24 l1)) 44 l2 (rd (sa σ 43 l2 (rd σ 24 l1)) 24 l1)) 23 l1) (by decide)
        have w18 : (rd (sa (sa (sa σ 43 l2 (rd σ 24 l1)) 44 l2 (rd (sa σ 43 l2 (rd σ 24 l1)) 24 l1)) 45 l2 (rd (sa (sa σ 43 l2 (rd σ 24 l1)) 44 l2 (rd (sa σ 43 l2 (rd σ 24 l1)) 24 l1)) 23 l1)) 45 l2).toInt = (rd (sa (sa σ 43 l2 (rd σ 24 l1)) 44 l2 (rd (sa σ 43 l2 (rd σ 24 l1)) 24 l1)) 23 l1).toInt := by rw [rd_sa]
        refine ⟨⟨by omega, by omega⟩, ?_⟩
        have a19 : 0 ≤ (rd (sa (sa (sa σ 43 l2 (rd σ 24 l1)) 44 l2 (rd (sa σ 43 l2 (rd σ 24 l1)) 24 l1)) 45 l2 (rd (sa (sa σ 43 l2 (rd σ 24 l1)) 44 l2 (rd (sa σ 43 l2 (rd σ 24 l1)) 24 l1)) 23 l1)) 22 l1).toInt ∧ (rd (sa (sa (sa σ 43 l2 (rd σ 24 l1)) 44 l2 (rd (sa σ 43 l2 (rd σ 24 l1)) 24 l1)) 45 l2 (rd (sa (sa σ 43 l2 (rd σ 24 l1)) 44 l2 (rd (sa σ 43 l2 (rd σ 24 l1)) 24 l1)) 23 l1)) 22 l1).toInt ≤ 100000 := hM16.2 22 _
        refine ⟨⟨by omega, by omega⟩, ?_⟩
        have hM20 := hM16.sa 46 l2 (rd (sa (sa (sa σ 43 l2 (rd σ 24 l1)) 44 l2 (rd (sa σ 43 l2 (rd σ 24 l1)) 24 l1)) 45 l2 (rd (sa (sa σ 43 l2 (rd σ 24 l1)) 44 l2 (rd (sa σ 43 l2 (rd σ 24 l1)) 24 l1)) 23 l1)) 22 l1) (i3_bd _)
        have hE21 := hE17.sa 46 l2 (rd (sa (sa (sa σ 43 l2 (rd σ 24 l1)) 44 l2 (rd (sa σ 43 l2 (rd σ 24 l1)) 24 l1)) 45 l2 (rd (sa (sa σ 43 l2 (rd σ 24 l1)) 44 l2 (rd (sa σ 43 l2 (rd σ 24 l1)) 24 l1)) 23 l1)) 22 l1) (by decide)
        have w22 : (rd (sa (sa (sa (sa σ 43 l2 (rd σ 24 l1)) 44 l2 (rd (sa σ 43 l2 (rd σ 24 l1)) 24 l1)) 45 l2 (rd (sa (sa σ 43 l2 (rd σ 24 l1)) 44 l2 (rd (sa σ 43 l2 (rd σ 24 l1)) 24 l1)) 23 l1)) 46 l2 (rd (sa (sa (sa σ 43 l2 (rd σ 24 l1)) 44 l2 (rd (sa σ 43 l2 (rd σ 24 l1)) 24 l1)) 45 l2 (rd (sa (sa σ 43 l2 (rd σ 24 l1)) 44 l2 (rd (sa σ 43 l2 (rd σ 24 l1)) 24 l1)) 23 l1)) 22 l1)) 46 l2).toInt = (rd (sa (sa (sa σ 43 l2 (rd σ 24 l1)) 44 l2 (rd (sa σ 43 l2 (rd σ 24 l1)) 24 l1)) 45 l2 (rd (sa (sa σ 43 l2 (rd σ 24 l1)) 44 l2 (rd (sa σ 43 l2 (rd σ 24 l1)) 24 l1)) 23 l1)) 22 l1).toInt := by rw [rd_sa]
        generalize ey23 : (l2 + 1) = y23
        replace ey23 := ey23.symm
        have ty23 : y23.toInt = l2.toInt + 1 := i3_addc rfl rfl ey23 (by omega)
        clear ey23
        exact ih_n3 l1 y23 (sa (sa (sa (sa σ 43 l2 (rd σ 24 l1)) 44 l2 (rd (sa σ 43 l2 (rd σ 24 l1)) 24 l1)) 45 l2 (rd (sa (sa σ 43 l2 (rd σ 24 l1)) 44 l2 (rd (sa σ 43 l2 (rd σ 24 l1)) 24 l1)) 23 l1)) 46 l2 (rd (sa (sa (sa σ 43 l2 (rd σ 24 l1)) 44 l2 (rd (sa σ 43 l2 (rd σ 24 l1)) 24 l1)) 45 l2 (rd (sa (sa σ 43 l2 (rd σ 24 l1)) 44 l2 (rd (sa σ 43 l2 (rd σ 24 l1)) 24 l1)) 23 l1)) 22 l1)) (by omega) (by first | omega | decide) (by first | omega | decide) hM20 hE21
  exact L_4_n3 ((100 - x2.toInt).toNat + 1) p1 x2 σ (by omega) (by first | omega | decide) (by first | omega | decide) hM hE
set_option maxHeartbeats 2000000 in
theorem rg_X6clearPlace {Q : VS → Prop} {p1 : Int32} {σ : VS} (h_p1 : 0 ≤ p1.toInt ∧ p1.toInt ≤ 99) (hM : CI σ) (hq : ∀ (σ' : VS), CI σ' → Eo [] [43, 44, 45, 46] σ σ' → Q σ') : wp_X6clearPlace Q p1 σ := by
  unfold wp_X6clearPlace
  have hE : Eo [] [43, 44, 45, 46] σ σ := Eo.rfl
  refine ⟨⟨by omega, by omega⟩, ?_⟩
  have hM1 := hM.sa 43 p1 0 (i3_bd _)
  have hE2 := hE.sa 43 p1 0 (by decide)
  have w3 : (rd (sa σ 43 p1 0) 43 p1).toInt = 0 := by rw [rd_sa]; rfl
  refine ⟨⟨by omega, by omega⟩, ?_⟩
  have hM4 := hM1.sa 44 p1 1000000000 (i3_bd _)
  have hE5 := hE2.sa 44 p1 1000000000 (by decide)
  have w6 : (rd (sa (sa σ 43 p1 0) 44 p1 1000000000) 44 p1).toInt = 1000000000 := by rw [rd_sa]; rfl
  refine ⟨⟨by omega, by omega⟩, ?_⟩
  have hM7 := hM4.sa 45 p1 0 (i3_bd _)
  have hE8 := hE5.sa 45 p1 0 (by decide)
  have w9 : (rd (sa (sa (sa σ 43 p1 0) 44 p1 1000000000) 45 p1 0) 45 p1).toInt = 0 := by rw [rd_sa]; rfl
  refine ⟨⟨by omega, by omega⟩, ?_⟩
  have hM10 := hM7.sa 46 p1 1000000000 (i3_bd _)
  have hE11 := hE8.sa 46 p1 1000000000 (by decide)
  have w12 : (rd (sa (sa (sa (sa σ 43 p1 0) 44 p1 1000000000) 45 p1 0) 46 p1 1000000000) 46 p1).toInt = 1000000000 := by rw [rd_sa]; rfl
  exact hq (sa (sa (sa (sa σ 43 p1 0) 44 p1 1000000000) 45 p1 0) 46 p1 1000000000) hM10 hE11
set_option maxHeartbeats 2000000 in
theorem rg_X6timeArc {Q : Int32 → VS → Prop} {p1 : Int32} {p2 : Int32} {p3 : Int32} {p4 : Int32} {p5 : Int32} {σ : VS} (h_p1 : 0 ≤ p1.toInt ∧ p1.toInt ≤ 199) (h_p2 : 0 ≤ p2.toInt ∧ p2.toInt ≤ 1) (hM : CI σ) (hq : ∀ (r : Int32) (σ' : VS), CI σ' → Eo [] [41, 42, 43, 44] σ σ' → Q r σ') : wp_X6timeArc Q p1 p2 p3 p4 p5 σ := by
  unfold wp_X6timeArc
  have hE : Eo [] [41, 42, 43, 44] σ σ := Eo.rfl
  generalize ey1 : (p1 / 4) = y1
  replace ey1 := ey1.symm
  have ty1 : y1.toInt = p1.toInt / 4 := i3_divc rfl rfl ey1 (by omega) (by decide)
  clear ey1
  intro x2 ex2
  have ix2 : x2.toInt = y1.toInt := by rw [ex2]
  refine ⟨⟨by omega, by omega⟩, ?_⟩
  have a3 : 0 ≤ (rd σ 13 x2).toInt ∧ (rd σ 13 x2).toInt ≤ 7 := hM.2 13 _
  intro x4 ex4
  have ix4 : x4.toInt = (rd σ 13 x2).toInt := by rw [ex4]
  refine ⟨⟨by omega, by omega⟩, ?_⟩
  have a5 : 0 ≤ (rd σ 14 x2).toInt ∧ (rd σ 14 x2).toInt ≤ 2 := hM.2 14 _
  generalize ey6 : (1 + (rd σ 14 x2)) = y6
  replace ey6 := ey6.symm
  have ty6 : y6.toInt = 1 + (rd σ 14 x2).toInt := i3_addc rfl rfl ey6 (by omega)
  clear ey6
  intro x7 ex7
  have ix7 : x7.toInt = y6.toInt := by rw [ex7]
  have bd8 := i3_bd p3
  generalize ey9 : (p3 + x7) = y9
  replace ey9 := ey9.symm
  clear ey9
  have bd10 := i3_bd y9
  generalize ey11 : (y9 - 1) = y11
  replace ey11 := ey11.symm
  clear ey11
  have bd12 := i3_bd y11
  refine ⟨i3_nz (by omega), ?_⟩
  generalize ey13 : (y11 / x7) = y13
  replace ey13 := ey13.symm
  clear ey13
  intro x14 ex14
  have ix14 : x14.toInt = y13.toInt := by rw [ex14]
  have bd15 := i3_bd y13
  refine ⟨i3_nz (by omega), ?_⟩
  generalize ey16 : (p3 / x7) = y16
  replace ey16 := ey16.symm
  clear ey16
  intro x17 ex17
  have ix17 : x17.toInt = y16.toInt := by rw [ex17]
  have bd18 := i3_bd y16
  have bd19 := i3_bd x14
  have bd20 := i3_bd p4
  refine rg_X5lookUp ⟨by omega, by omega⟩ ⟨by decide, by decide⟩ hM (fun r21 σ22 hM23 hE24o => ?_)
  have hE24 := hE.of hE24o (by decide) (by decide)
  have bd25 := i3_bd r21
  have u26 : (rd σ22 13 x2).toInt = (rd σ 13 x2).toInt := by unfold rd; rw [hE24o.2 13 (by decide)]
  have u27 : (rd σ22 14 x2).toInt = (rd σ 14 x2).toInt := by unfold rd; rw [hE24o.2 14 (by decide)]
  refine ⟨fun c28 => ?_, fun c28 => ?_⟩
  · refine rg_X5lookUp ⟨by omega, by omega⟩ ⟨by decide, by decide⟩ hM23 (fun r29 σ30 hM31 hE32o => ?_)
    have hE32 := hE24.of hE32o (by decide) (by decide)
    have bd33 := i3_bd r29
    have u34 : (rd σ30 13 x2).toInt = (rd σ22 13 x2).toInt := by unfold rd; rw [hE32o.2 13 (by decide)]
    have u35 : (rd σ30 14 x2).toInt = (rd σ22 14 x2).toInt := by unfold rd; rw [hE32o.2 14 (by decide)]
    refine ⟨fun c36 => ?_, fun c36 => ?_⟩
    · have bd37 := i3_bd x17
      have bd38 := i3_bd p5
      refine rg_X5lookUp ⟨by omega, by omega⟩ ⟨by decide, by decide⟩ hM31 (fun r39 σ40 hM41 hE42o => ?_)
      have hE42 := hE32.of hE42o (by decide) (by decide)
      have bd43 := i3_bd r39
      have u44 : (rd σ40 13 x2).toInt = (rd σ30 13 x2).toInt := by unfold rd; rw [hE42o.2 13 (by decide)]
      have u45 : (rd σ40 14 x2).toInt = (rd σ30 14 x2).toInt := by unfold rd; rw [hE42o.2 14 (by decide)]
      refine ⟨fun c46 => ?_, fun c46 => ?_⟩
      · refine rg_X5lookUp ⟨by omega, by omega⟩ ⟨by decide, by decide⟩ hM41 (fun r47 σ48 hM49 hE50o => ?_)
        have hE50 := hE42.of hE50o (by decide) (by decide)
        have bd51 := i3_bd r47
        have u52 : (rd σ48 13 x2).toInt = (rd σ40 13 x2).toInt := by unfold rd; rw [hE50o.2 13 (by decide)]
        have u53 : (rd σ48 14 x2).toInt = (rd σ40 14 x2).toInt := by unfold rd; rw [hE50o.2 14 (by decide)]
        refine ⟨fun c54 => ?_, fun c54 => ?_⟩
        · refine ⟨fun c55 => ?_, fun c55 => ?_⟩
          · suffices hs : ∀ (q56 : Int32), q56.toInt = 0 → b_X6timeArc_167 Q p1 p2 x2 r21 r29 r39 r47 q56 σ48 from hs 0 rfl
            intro q56 hq56
            unfold b_X6timeArc_167
            generalize ey57 : (p1 * 2) = y57
            replace ey57 := ey57.symm
            have ty57 : y57.toInt = p1.toInt * 2 := i3_mulc rfl rfl ey57 (by omega)
            clear ey57
            generalize ey58 : (y57 + p2) = y58
            replace ey58 := ey58.symm
            have ty58 : y58.toInt = y57.toInt + p2.toInt := i3_addc rfl rfl ey58 (by omega)
            clear ey58
            have f59 : 0 ≤ (σ48.1 7).toInt ∧ (σ48.1 7).toInt ≤ 500 := hM49.1 7
            generalize ey60 : (1000 + (σ48.1 7)) = y60
            replace ey60 := ey60.symm
            have ty60 : y60.toInt = 1000 + (σ48.1 7).toInt := i3_addc rfl rfl ey60 (by omega)
            clear ey60
            generalize ey61 : (r21 * y60) = y61
            replace ey61 := ey61.symm
            clear ey61
            have bd62 := i3_bd y61
            generalize ey63 : (y61 + 999) = y63
            replace ey63 := ey63.symm
            clear ey63
            have bd64 := i3_bd y63
            generalize ey65 : (y63 / 1000) = y65
            replace ey65 := ey65.symm
            clear ey65
            have bd66 := i3_bd y65
            generalize ey67 : (y65 + q56) = y67
            replace ey67 := ey67.symm
            have ty67 : y67.toInt = y65.toInt + q56.toInt := i3_addc rfl rfl ey67 (by omega)
            clear ey67
            refine ⟨⟨by omega, by omega⟩, ?_⟩
            have hM68 := hM49.sa 41 y58 y67 (i3_bd _)
            have hE69 := hE50.sa 41 y58 y67 (by decide)
            have u70 : ((sa σ48 41 y58 y67).1 7).toInt = (σ48.1 7).toInt := rfl
            have w71 : (rd (sa σ48 41 y58 y67) 41 y58).toInt = y67.toInt := by rw [rd_sa]
            have f72 : 0 ≤ ((sa σ48 41 y58 y67).1 8).toInt ∧ ((sa σ48 41 y58 y67).1 8).toInt ≤ 500 := hM68.1 8
            generalize ey73 : (1000 - ((sa σ48 41 y58 y67).1 8)) = y73
            replace ey73 := ey73.symm
            have ty73 : y73.toInt = 1000 - ((sa σ48 41 y58 y67).1 8).toInt := i3_subc rfl rfl ey73 (by omega)
            clear ey73
            generalize ey74 : (r39 * y73) = y74
            replace ey74 := ey74.symm
            clear ey74
            have bd75 := i3_bd y74
            generalize ey76 : (y74 / 1000) = y76
            replace ey76 := ey76.symm
            clear ey76
            have bd77 := i3_bd y76
            generalize ey78 : (y76 + q56) = y78
            replace ey78 := ey78.symm
            have ty78 : y78.toInt = y76.toInt + q56.toInt := i3_addc rfl rfl ey78 (by omega)
            clear ey78
            refine ⟨⟨by omega, by omega⟩, ?_⟩
            have hM79 := hM68.sa 42 y58 y78 (i3_bd _)
            have hE80 := hE69.sa 42 y58 y78 (by decide)
            have u81 : ((sa (sa σ48 41 y58 y67) 42 y58 y78).1 7).toInt = ((sa σ48 41 y58 y67).1 7).toInt := rfl
            have u82 : ((sa (sa σ48 41 y58 y67) 42 y58 y78).1 8).toInt = ((sa σ48 41 y58 y67).1 8).toInt := rfl
            have w83 : (rd (sa (sa σ48 41 y58 y67) 42 y58 y78) 42 y58).toInt = y78.toInt := by rw [rd_sa]
            generalize ey84 : (x2 * 2) = y84
            replace ey84 := ey84.symm
            have ty84 : y84.toInt = x2.toInt * 2 := i3_mulc rfl rfl ey84 (by omega)
            clear ey84
            generalize ey85 : (y84 + p2) = y85
            replace ey85 := ey85.symm
            have ty85 : y85.toInt = y84.toInt + p2.toInt := i3_addc rfl rfl ey85 (by omega)
            clear ey85
            intro x86 ex86
            have ix86 : x86.toInt = y85.toInt := by rw [ex86]
            refine ⟨⟨by omega, by omega⟩, ?_⟩
            have bd87 := i3_bd (rd (sa (sa σ48 41 y58 y67) 42 y58 y78) 43 x86)
            have m88 : ((imax (rd (sa (sa σ48 41 y58 y67) 42 y58 y78) 43 x86) r29).toInt ≥ (rd (sa (sa σ48 41 y58 y67) 42 y58 y78) 43 x86).toInt ∧ (imax (rd (sa (sa σ48 41 y58 y67) 42 y58 y78) 43 x86) r29).toInt ≥ r29.toInt) ∧ ((imax (rd (sa (sa σ48 41 y58 y67) 42 y58 y78) 43 x86) r29).toInt = (rd (sa (sa σ48 41 y58 y67) 42 y58 y78) 43 x86).toInt ∨ (imax (rd (sa (sa σ48 41 y58 y67) 42 y58 y78) 43 x86) r29).toInt = r29.toInt) := i3_max rfl
            refine ⟨⟨by omega, by omega⟩, ?_⟩
            have hM89 := hM79.sa 43 x86 (imax (rd (sa (sa σ48 41 y58 y67) 42 y58 y78) 43 x86) r29) (i3_bd _)
            have hE90 := hE80.sa 43 x86 (imax (rd (sa (sa σ48 41 y58 y67) 42 y58 y78) 43 x86) r29) (by decide)
            have u91 : ((sa (sa (sa σ48 41 y58 y67) 42 y58 y78) 43 x86 (imax (rd (sa (sa σ48 41 y58 y67) 42 y58 y78) 43 x86) r29)).1 7).toInt = ((sa (sa σ48 41 y58 y67) 42 y58 y78).1 7).toInt := rfl
            have u92 : ((sa (sa (sa σ48 41 y58 y67) 42 y58 y78) 43 x86 (imax (rd (sa (sa σ48 41 y58 y67) 42 y58 y78) 43 x86) r29)).1 8).toInt = ((sa (sa σ48 41 y58 y67) 42 y58 y78).1 8).toInt := rfl
            have w93 : (rd (sa (sa (sa σ48 41 y58 y67) 42 y58 y78) 43 x86 (imax (rd (sa (sa σ48 41 y58 y67) 42 y58 y78) 43 x86) r29)) 43 x86).toInt = (imax (rd (sa (sa σ48 41 y58 y67) 42 y58 y78) 43 x86) r29).toInt := by rw [rd_sa]
            refine ⟨⟨by omega, by omega⟩, ?_⟩
            have bd94 := i3_bd (rd (sa (sa (sa σ48 41 y58 y67) 42 y58 y78) 43 x86 (imax (rd (sa (sa σ48 41 y58 y67) 42 y58 y78) 43 x86) r29)) 44 x86)
            have m95 : ((imin (rd (sa (sa (sa σ48 41 y58 y67) 42 y58 y78) 43 x86 (imax (rd (sa (sa σ48 41 y58 y67) 42 y58 y78) 43 x86) r29)) 44 x86) r47).toInt ≤ (rd (sa (sa (sa σ48 41 y58 y67) 42 y58 y78) 43 x86 (imax (rd (sa (sa σ48 41 y58 y67) 42 y58 y78) 43 x86) r29)) 44 x86).toInt ∧ (imin (rd (sa (sa (sa σ48 41 y58 y67) 42 y58 y78) 43 x86 (imax (rd (sa (sa σ48 41 y58 y67) 42 y58 y78) 43 x86) r29)) 44 x86) r47).toInt ≤ r47.toInt) ∧ ((imin (rd (sa (sa (sa σ48 41 y58 y67) 42 y58 y78) 43 x86 (imax (rd (sa (sa σ48 41 y58 y67) 42 y58 y78) 43 x86) r29)) 44 x86) r47).toInt = (rd (sa (sa (sa σ48 41 y58 y67) 42 y58 y78) 43 x86 (imax (rd (sa (sa σ48 41 y58 y67) 42 y58 y78) 43 x86) r29)) 44 x86).toInt ∨ (imin (rd (sa (sa (sa σ48 41 y58 y67) 42 y58 y78) 43 x86 (imax (rd (sa (sa σ48 41 y58 y67) 42 y58 y78) 43 x86) r29)) 44 x86) r47).toInt = r47.toInt) := i3_min rfl
            refine ⟨⟨by omega, by omega⟩, ?_⟩
            have hM96 := hM89.sa 44 x86 (imin (rd (sa (sa (sa σ48 41 y58 y67) 42 y58 y78) 43 x86 (imax (rd (sa (sa σ48 41 y58 y67) 42 y58 y78) 43 x86) r29)) 44 x86) r47) (i3_bd _)
            have hE97 := hE90.sa 44 x86 (imin (rd (sa (sa (sa σ48 41 y58 y67) 42 y58 y78) 43 x86 (imax (rd (sa (sa σ48 41 y58 y67) 42 y58 y78) 43 x86) r29)) 44 x86) r47) (by decide)
            have u98 : ((sa (sa (sa (sa σ48 41 y58 y67) 42 y58 y78) 43 x86 (imax (rd (sa (sa σ48 41 y58 y67) 42 y58 y78) 43 x86) r29)) 44 x86 (imin (rd (sa (sa (sa σ48 41 y58 y67) 42 y58 y78) 43 x86 (imax (rd (sa (sa σ48 41 y58 y67) 42 y58 y78) 43 x86) r29)) 44 x86) r47)).1 7).toInt = ((sa (sa (sa σ48 41 y58 y67) 42 y58 y78) 43 x86 (imax (rd (sa (sa σ48 41 y58 y67) 42 y58 y78) 43 x86) r29)).1 7).toInt := rfl
            have u99 : ((sa (sa (sa (sa σ48 41 y58 y67) 42 y58 y78) 43 x86 (imax (rd (sa (sa σ48 41 y58 y67) 42 y58 y78) 43 x86) r29)) 44 x86 (imin (rd (sa (sa (sa σ48 41 y58 y67) 42 y58 y78) 43 x86 (imax (rd (sa (sa σ48 41 y58 y67) 42 y58 y78) 43 x86) r29)) 44 x86) r47)).1 8).toInt = ((sa (sa (sa σ48 41 y58 y67) 42 y58 y78) 43 x86 (imax (rd (sa (sa σ48 41 y58 y67) 42 y58 y78) 43 x86) r29)).1 8).toInt := rfl
            have w100 : (rd (sa (sa (sa (sa σ48 41 y58 y67) 42 y58 y78) 43 x86 (imax (rd (sa (sa σ48 41 y58 y67) 42 y58 y78) 43 x86) r29)) 44 x86 (imin (rd (sa (sa (sa σ48 41 y58 y67) 42 y58 y78) 43 x86 (imax (rd (sa (sa σ48 41 y58 y67) 42 y58 y78) 43 x86) r29)) 44 x86) r47)) 44 x86).toInt = (imin (rd (sa (sa (sa σ48 41 y58 y67) 42 y58 y78) 43 x86 (imax (rd (sa (sa σ48 41 y58 y67) 42 y58 y78) 43 x86) r29)) 44 x86) r47).toInt := by rw [rd_sa]
            exact hq 0 (sa (sa (sa (sa σ48 41 y58 y67) 42 y58 y78) 43 x86 (imax (rd (sa (sa σ48 41 y58 y67) 42 y58 y78) 43 x86) r29)) 44 x86 (imin (rd (sa (sa (sa σ48 41 y58 y67) 42 y58 y78) 43 x86 (imax (rd (sa (sa σ48 41 y58 y67) 42 y58 y78) 43 x86) r29)) 44 x86) r47)) hM96 hE97
          · refine ⟨⟨by omega, by omega⟩, ?_⟩
            have a101 : 0 ≤ (rd σ48 38 x4).toInt ∧ (rd σ48 38 x4).toInt ≤ 1000 := hM49.2 38 _
            suffices hs : ∀ (q102 : Int32), q102.toInt = (rd σ48 38 x4).toInt → b_X6timeArc_167 Q p1 p2 x2 r21 r29 r39 r47 q102 σ48 from hs (rd σ48 38 x4) rfl
            intro q102 hq102
            unfold b_X6timeArc_167
            generalize ey103 : (p1 * 2) = y103
            replace ey103 := ey103.symm
            have ty103 : y103.toInt = p1.toInt * 2 := i3_mulc rfl rfl ey103 (by omega)
            clear ey103
            generalize ey104 : (y103 + p2) = y104
            replace ey104 := ey104.symm
            have ty104 : y104.toInt = y103.toInt + p2.toInt := i3_addc rfl rfl ey104 (by omega)
            clear ey104
            have f105 : 0 ≤ (σ48.1 7).toInt ∧ (σ48.1 7).toInt ≤ 500 := hM49.1 7
            generalize ey106 : (1000 + (σ48.1 7)) = y106
            replace ey106 := ey106.symm
            have ty106 : y106.toInt = 1000 + (σ48.1 7).toInt := i3_addc rfl rfl ey106 (by omega)
            clear ey106
            generalize ey107 : (r21 * y106) = y107
            replace ey107 := ey107.symm
            clear ey107
            have bd108 := i3_bd y107
            generalize ey109 : (y107 + 999) = y109
            replace ey109 := ey109.symm
            clear ey109
            have bd110 := i3_bd y109
            generalize ey111 : (y109 / 1000) = y111
            replace ey111 := ey111.symm
            clear ey111
            have bd112 := i3_bd y111
            generalize ey113 : (y111 + q102) = y113
            replace ey113 := ey113.symm
            clear ey113
            refine ⟨⟨by omega, by omega⟩, ?_⟩
            have hM114 := hM49.sa 41 y104 y113 (i3_bd _)
            have hE115 := hE50.sa 41 y104 y113 (by decide)
            have u116 : ((sa σ48 41 y104 y113).1 7).toInt = (σ48.1 7).toInt := rfl
            have w117 : (rd (sa σ48 41 y104 y113) 41 y104).toInt = y113.toInt := by rw [rd_sa]
            have f118 : 0 ≤ ((sa σ48 41 y104 y113).1 8).toInt ∧ ((sa σ48 41 y104 y113).1 8).toInt ≤ 500 := hM114.1 8
            generalize ey119 : (1000 - ((sa σ48 41 y104 y113).1 8)) = y119
            replace ey119 := ey119.symm
            have ty119 : y119.toInt = 1000 - ((sa σ48 41 y104 y113).1 8).toInt := i3_subc rfl rfl ey119 (by omega)
            clear ey119
            generalize ey120 : (r39 * y119) = y120
            replace ey120 := ey120.symm
            clear ey120
            have bd121 := i3_bd y120
            generalize ey122 : (y120 / 1000) = y122
            replace ey122 := ey122.symm
            clear ey122
            have bd123 := i3_bd y122
            generalize ey124 : (y122 + q102) = y124
            replace ey124 := ey124.symm
            clear ey124
            refine ⟨⟨by omega, by omega⟩, ?_⟩
            have hM125 := hM114.sa 42 y104 y124 (i3_bd _)
            have hE126 := hE115.sa 42 y104 y124 (by decide)
            have u127 : ((sa (sa σ48 41 y104 y113) 42 y104 y124).1 7).toInt = ((sa σ48 41 y104 y113).1 7).toInt := rfl
            have u128 : ((sa (sa σ48 41 y104 y113) 42 y104 y124).1 8).toInt = ((sa σ48 41 y104 y113).1 8).toInt := rfl
            have w129 : (rd (sa (sa σ48 41 y104 y113) 42 y104 y124) 42 y104).toInt = y124.toInt := by rw [rd_sa]
            generalize ey130 : (x2 * 2) = y130
            replace ey130 := ey130.symm
            have ty130 : y130.toInt = x2.toInt * 2 := i3_mulc rfl rfl ey130 (by omega)
            clear ey130
            generalize ey131 : (y130 + p2) = y131
            replace ey131 := ey131.symm
            have ty131 : y131.toInt = y130.toInt + p2.toInt := i3_addc rfl rfl ey131 (by omega)
            clear ey131
            intro x132 ex132
            have ix132 : x132.toInt = y131.toInt := by rw [ex132]
            refine ⟨⟨by omega, by omega⟩, ?_⟩
            have bd133 := i3_bd (rd (sa (sa σ48 41 y104 y113) 42 y104 y124) 43 x132)
            have m134 : ((imax (rd (sa (sa σ48 41 y104 y113) 42 y104 y124) 43 x132) r29).toInt ≥ (rd (sa (sa σ48 41 y104 y113) 42 y104 y124) 43 x132).toInt ∧ (imax (rd (sa (sa σ48 41 y104 y113) 42 y104 y124) 43 x132) r29).toInt ≥ r29.toInt) ∧ ((imax (rd (sa (sa σ48 41 y104 y113) 42 y104 y124) 43 x132) r29).toInt = (rd (sa (sa σ48 41 y104 y113) 42 y104 y124) 43 x132).toInt ∨ (imax (rd (sa (sa σ48 41 y104 y113) 42 y104 y124) 43 x132) r29).toInt = r29.toInt) := i3_max rfl
            refine ⟨⟨by omega, by omega⟩, ?_⟩
            have hM135 := hM125.sa 43 x132 (imax (rd (sa (sa σ48 41 y104 y113) 42 y104 y124) 43 x132) r29) (i3_bd _)
            have hE136 := hE126.sa 43 x132 (imax (rd (sa (sa σ48 41 y104 y113) 42 y104 y124) 43 x132) r29) (by decide)
            have u137 : ((sa (sa (sa σ48 41 y104 y113) 42 y104 y124) 43 x132 (imax (rd (sa (sa σ48 41 y104 y113) 42 y104 y124) 43 x132) r29)).1 7).toInt = ((sa (sa σ48 41 y104 y113) 42 y104 y124).1 7).toInt := rfl
            have u138 : ((sa (sa (sa σ48 41 y104 y113) 42 y104 y124) 43 x132 (imax (rd (sa (sa σ48 41 y104 y113) 42 y104 y124) 43 x132) r29)).1 8).toInt = ((sa (sa σ48 41 y104 y113) 42 y104 y124).1 8).toInt := rfl
            have w139 : (rd (sa (sa (sa σ48 41 y104 y113) 42 y104 y124) 43 x132 (imax (rd (sa (sa σ48 41 y104 y113) 42 y104 y124) 43 x132) r29)) 43 x132).toInt = (imax (rd (sa (sa σ48 41 y104 y113) 42 y104 y124) 43 x132) r29).toInt := by rw [rd_sa]
            refine ⟨⟨by omega, by omega⟩, ?_⟩
            have bd140 := i3_bd (rd (sa (sa (sa σ48 41 y104 y113) 42 y104 y124) 43 x132 (imax (rd (sa (sa σ48 41 y104 y113) 42 y104 y124) 43 x132) r29)) 44 x132)
            have m141 : ((imin (rd (sa (sa (sa σ48 41 y104 y113) 42 y104 y124) 43 x132 (imax (rd (sa (sa σ48 41 y104 y113) 42 y104 y124) 43 x132) r29)) 44 x132) r47).toInt ≤ (rd (sa (sa (sa σ48 41 y104 y113) 42 y104 y124) 43 x132 (imax (rd (sa (sa σ48 41 y104 y113) 42 y104 y124) 43 x132) r29)) 44 x132).toInt ∧ (imin (rd (sa (sa (sa σ48 41 y104 y113) 42 y104 y124) 43 x132 (imax (rd (sa (sa σ48 41 y104 y113) 42 y104 y124) 43 x132) r29)) 44 x132) r47).toInt ≤ r47.toInt) ∧ ((imin (rd (sa (sa (sa σ48 41 y104 y113) 42 y104 y124) 43 x132 (imax (rd (sa (sa σ48 41 y104 y113) 42 y104 y124) 43 x132) r29)) 44 x132) r47).toInt = (rd (sa (sa (sa σ48 41 y104 y113) 42 y104 y124) 43 x132 (imax (rd (sa (sa σ48 41 y104 y113) 42 y104 y124) 43 x132) r29)) 44 x132).toInt ∨ (imin (rd (sa (sa (sa σ48 41 y104 y113) 42 y104 y124) 43 x132 (imax (rd (sa (sa σ48 41 y104 y113) 42 y104 y124) 43 x132) r29)) 44 x132) r47).toInt = r47.toInt) := i3_min rfl
            refine ⟨⟨by omega, by omega⟩, ?_⟩
            have hM142 := hM135.sa 44 x132 (imin (rd (sa (sa (sa σ48 41 y104 y113) 42 y104 y124) 43 x132 (imax (rd (sa (sa σ48 41 y104 y113) 42 y104 y124) 43 x132) r29)) 44 x132) r47) (i3_bd _)
            have hE143 := hE136.sa 44 x132 (imin (rd (sa (sa (sa σ48 41 y104 y113) 42 y104 y124) 43 x132 (imax (rd (sa (sa σ48 41 y104 y113) 42 y104 y124) 43 x132) r29)) 44 x132) r47) (by decide)
            have u144 : ((sa (sa (sa (sa σ48 41 y104 y113) 42 y104 y124) 43 x132 (imax (rd (sa (sa σ48 41 y104 y113) 42 y104 y124) 43 x132) r29)) 44 x132 (imin (rd (sa (sa (sa σ48 41 y104 y113) 42 y104 y124) 43 x132 (imax (rd (sa (sa σ48 41 y104 y113) 42 y104 y124) 43 x132) r29)) 44 x132) r47)).1 7).toInt = ((sa (sa (sa σ48 41 y104 y113) 42 y104 y124) 43 x132 (imax (rd (sa (sa σ48 41 y104 y113) 42 y104 y124) 43 x132) r29)).1 7).toInt := rfl
            have u145 : ((sa (sa (sa (sa σ48 41 y104 y113) 42 y104 y124) 43 x132 (imax (rd (sa (sa σ48 41 y104 y113) 42 y104 y124) 43 x132) r29)) 44 x132 (imin (rd (sa (sa (sa σ48 41 y104 y113) 42 y104 y124) 43 x132 (imax (rd (sa (sa σ48 41 y104 y113) 42 y104 y124) 43 x132) r29)) 44 x132) r47)).1 8).toInt = ((sa (sa (sa σ48 41 y104 y113) 42 y104 y124) 43 x132 (imax (rd (sa (sa σ48 41 y104 y113) 42 y104 y124) 43 x132) r29)).1 8).toInt := rfl
            have w146 : (rd (sa (sa (sa (sa σ48 41 y104 y113) 42 y104 y124) 43 x132 (imax (rd (sa (sa σ48 41 y104 y113) 42 y104 y124) 43 x132) r29)) 44 x132 (imin (rd (sa (sa (sa σ48 41 y104 y113) 42 y104 y124) 43 x132 (imax (rd (sa (sa σ48 41 y104 y113) 42 y104 y124) 43 x132) r29)) 44 x132) r47)) 44 x132).toInt = (imin (rd (sa (sa (sa σ48 41 y104 y113) 42 y104 y124) 43 x132 (imax (rd (sa (sa σ48 41 y104 y113) 42 y104 y124) 43 x132) r29)) 44 x132) r47).toInt := by rw [rd_sa]
            exact hq 0 (sa (sa (sa (sa σ48 41 y104 y113) 42 y104 y124) 43 x132 (imax (rd (sa (sa σ48 41 y104 y113) 42 y104 y124) 43 x132) r29)) 44 x132 (imin (rd (sa (sa (sa σ48 41 y104 y113) 42 y104 y124) 43 x132 (imax (rd (sa (sa σ48 41 y104 y113) 42 y104 y124) 43 x132) r29)) 44 x132) r47)) hM142 hE143
        · exact hq r47 σ48 hM49 hE50
      · exact hq r39 σ40 hM41 hE42
    · exact hq r29 σ30 hM31 hE32
  · exact hq r21 σ22 hM23 hE24
set_option maxHeartbeats 2000000 in
theorem rg_X6arrive {Q : VS → Prop} {p1 : Int32} {p2 : Int32} {p3 : Int32} {p4 : Int32} {σ : VS} (h_p1 : 0 ≤ p1.toInt ∧ p1.toInt ≤ 199) (h_p2 : 0 ≤ p2.toInt ∧ p2.toInt ≤ 1) (hM : CI σ) (hq : ∀ (σ' : VS), CI σ' → Eo [] [45, 46] σ σ' → Q σ') : wp_X6arrive Q p1 p2 p3 p4 σ := by
  unfold wp_X6arrive
  have hE : Eo [] [45, 46] σ σ := Eo.rfl
  generalize ey1 : (p1 / 4) = y1
  replace ey1 := ey1.symm
  have ty1 : y1.toInt = p1.toInt / 4 := i3_divc rfl rfl ey1 (by omega) (by decide)
  clear ey1
  generalize ey2 : (y1 * 2) = y2
  replace ey2 := ey2.symm
  have ty2 : y2.toInt = y1.toInt * 2 := i3_mulc rfl rfl ey2 (by omega)
  clear ey2
  generalize ey3 : (y2 + p2) = y3
  replace ey3 := ey3.symm
  have ty3 : y3.toInt = y2.toInt + p2.toInt := i3_addc rfl rfl ey3 (by omega)
  clear ey3
  intro x4 ex4
  have ix4 : x4.toInt = y3.toInt := by rw [ex4]
  refine ⟨⟨by omega, by omega⟩, ?_⟩
  generalize ey5 : (p1 * 2) = y5
  replace ey5 := ey5.symm
  have ty5 : y5.toInt = p1.toInt * 2 := i3_mulc rfl rfl ey5 (by omega)
  clear ey5
  generalize ey6 : (y5 + p2) = y6
  replace ey6 := ey6.symm
  have ty6 : y6.toInt = y5.toInt + p2.toInt := i3_addc rfl rfl ey6 (by omega)
  clear ey6
  refine ⟨⟨by omega, by omega⟩, ?_⟩
  have bd7 := i3_bd p3
  have bd8 := i3_bd (rd σ 41 y6)
  generalize ey9 : (p3 + (rd σ 41 y6)) = y9
  replace ey9 := ey9.symm
  clear ey9
  have bd10 := i3_bd (rd σ 45 x4)
  have bd11 := i3_bd y9
  have m12 : ((imax (rd σ 45 x4) y9).toInt ≥ (rd σ 45 x4).toInt ∧ (imax (rd σ 45 x4) y9).toInt ≥ y9.toInt) ∧ ((imax (rd σ 45 x4) y9).toInt = (rd σ 45 x4).toInt ∨ (imax (rd σ 45 x4) y9).toInt = y9.toInt) := i3_max rfl
  refine ⟨⟨by omega, by omega⟩, ?_⟩
  have hM13 := hM.sa 45 x4 (imax (rd σ 45 x4) y9) (i3_bd _)
  have hE14 := hE.sa 45 x4 (imax (rd σ 45 x4) y9) (by decide)
  have w15 : (rd (sa σ 45 x4 (imax (rd σ 45 x4) y9)) 45 x4).toInt = (imax (rd σ 45 x4) y9).toInt := by rw [rd_sa]
  refine ⟨⟨by omega, by omega⟩, ?_⟩
  refine ⟨⟨by omega, by omega⟩, ?_⟩
  have bd16 := i3_bd p4
  have bd17 := i3_bd (rd (sa σ 45 x4 (imax (rd σ 45 x4) y9)) 42 y6)
  generalize ey18 : (p4 + (rd (sa σ 45 x4 (imax (rd σ 45 x4) y9)) 42 y6)) = y18
  replace ey18 := ey18.symm
  clear ey18
  have bd19 := i3_bd (rd (sa σ 45 x4 (imax (rd σ 45 x4) y9)) 46 x4)
  have bd20 := i3_bd y18
  have m21 : ((imin (rd (sa σ 45 x4 (imax (rd σ 45 x4) y9)) 46 x4) y18).toInt ≤ (rd (sa σ 45 x4 (imax (rd σ 45 x4) y9)) 46 x4).toInt ∧ (imin (rd (sa σ 45 x4 (imax (rd σ 45 x4) y9)) 46 x4) y18).toInt ≤ y18.toInt) ∧ ((imin (rd (sa σ 45 x4 (imax (rd σ 45 x4) y9)) 46 x4) y18).toInt = (rd (sa σ 45 x4 (imax (rd σ 45 x4) y9)) 46 x4).toInt ∨ (imin (rd (sa σ 45 x4 (imax (rd σ 45 x4) y9)) 46 x4) y18).toInt = y18.toInt) := i3_min rfl
  refine ⟨⟨by omega, by omega⟩, ?_⟩
  have hM22 := hM13.sa 46 x4 (imin (rd (sa σ 45 x4 (imax (rd σ 45 x4) y9)) 46 x4) y18) (i3_bd _)
  have hE23 := hE14.sa 46 x4 (imin (rd (sa σ 45 x4 (imax (rd σ 45 x4) y9)) 46 x4) y18) (by decide)
  have w24 : (rd (sa (sa σ 45 x4 (imax (rd σ 45 x4) y9)) 46 x4 (imin (rd (sa σ 45 x4 (imax (rd σ 45 x4) y9)) 46 x4) y18)) 46 x4).toInt = (imin (rd (sa σ 45 x4 (imax (rd σ 45 x4) y9)) 46 x4) y18).toInt := by rw [rd_sa]
  exact hq (sa (sa σ 45 x4 (imax (rd σ 45 x4) y9)) 46 x4 (imin (rd (sa σ 45 x4 (imax (rd σ 45 x4) y9)) 46 x4) y18)) hM22 hE23
set_option maxHeartbeats 2000000 in
theorem rg_X6timeFlop {Q : VS → Prop} {p1 : Int32} {σ : VS} (h_p1 : 0 ≤ p1.toInt ∧ p1.toInt ≤ 49) (hM : CI σ) (hq : ∀ (σ' : VS), CI σ' → Eo [] [40, 41, 42, 43, 44, 45, 46] σ σ' → Q σ') : wp_X6timeFlop Q p1 σ := by
  unfold wp_X6timeFlop
  intro X27 H_27
  have hE : Eo [] [40, 41, 42, 43, 44, 45, 46] σ σ := Eo.rfl
  obtain ⟨σ0, h0⟩ : ∃ z : VS, z = σ := ⟨_, rfl⟩
  rw [← h0] at hq
  replace hE : Eo [] [40, 41, 42, 43, 44, 45, 46] σ0 σ := by rw [h0]; exact hE
  clear h0
  generalize ey1 : (p1 * 4) = y1
  replace ey1 := ey1.symm
  have ty1 : y1.toInt = p1.toInt * 4 := i3_mulc rfl rfl ey1 (by omega)
  clear ey1
  intro x2 ex2
  have ix2 : x2.toInt = y1.toInt := by rw [ex2]
  refine rg_X1loadOf ⟨by omega, by omega⟩ hM (fun r3 σ4 hM5 hE6o => ?_)
  have hE6 := hE.of hE6o (by decide) (by decide)
  have bd7 := i3_bd r3
  refine ⟨⟨by omega, by omega⟩, ?_⟩
  have a8 : (-1) ≤ (rd σ4 25 p1).toInt ∧ (rd σ4 25 p1).toInt ≤ 19 := hM5.2 25 _
  intro x9 ex9
  have ix9 : x9.toInt = (rd σ4 25 p1).toInt := by rw [ex9]
  have L_27_n10 : ∀ (n10 : Nat) (l1 : Int32) (l2 : Int32) (l3 : Int32) (l4 : Int32) (l5 : Int32) (σ : VS), 2 - l5.toInt < (n10 : Int) → 0 ≤ l1.toInt ∧ l1.toInt ≤ 49 → 0 ≤ l2.toInt ∧ l2.toInt ≤ 196 → (-1) ≤ l4.toInt ∧ l4.toInt ≤ 19 → 0 ≤ l5.toInt ∧ l5.toInt ≤ 2 → CI σ → Eo [] [40, 41, 42, 43, 44, 45, 46] σ0 σ → X27 l1 l2 l3 l4 l5 σ := by
    intro n10
    induction n10 with
    | zero => intro l1 l2 l3 l4 l5 σ hm h_l1 h_l2 h_l4 h_l5 hM hE; exfalso; omega
    | succ n10 ih_n10 =>
      intro l1 l2 l3 l4 l5 σ hm h_l1 h_l2 h_l4 h_l5 hM hE
      have hm2_27 : 2 - l5.toInt < (n10 : Int) + 1 := by omega
      refine H_27 l1 l2 l3 l4 l5 σ ?_
      unfold b_X6timeFlop_27
      refine ⟨fun c11 => ?_, fun c11 => ?_⟩
      · unfold b_X6timeFlop_108
        exact hq σ hM hE
      · refine ⟨⟨by omega, by omega⟩, ?_⟩
        refine ⟨fun c12 => ?_, fun c12 => ?_⟩
        · unfold b_X6timeFlop_108
          exact hq σ hM hE
        · generalize ey13 : (l1 * 2) = y13
          replace ey13 := ey13.symm
          have ty13 : y13.toInt = l1.toInt * 2 := i3_mulc rfl rfl ey13 (by omega)
          clear ey13
          generalize ey14 : (y13 + l5) = y14
          replace ey14 := ey14.symm
          have ty14 : y14.toInt = y13.toInt + l5.toInt := i3_addc rfl rfl ey14 (by omega)
          clear ey14
          refine rg_X6clearPlace ⟨by omega, by omega⟩ hM (fun σ16 hM17 hE18o => ?_)
          have hE18 := hE.of hE18o (by decide) (by decide)
          have u19 : (rd σ16 40 l1).toInt = (rd σ 40 l1).toInt := by unfold rd; rw [hE18o.2 40 (by decide)]
          have bd20 := i3_bd l3
          refine rg_X6timeArc ⟨by omega, by omega⟩ ⟨by omega, by omega⟩ hM17 (fun r21 σ22 hM23 hE24o => ?_)
          have hE24 := hE18.of hE24o (by decide) (by decide)
          have bd25 := i3_bd r21
          have u26 : (rd σ22 40 l1).toInt = (rd σ16 40 l1).toInt := by unfold rd; rw [hE24o.2 40 (by decide)]
          refine ⟨⟨by omega, by omega⟩, ?_⟩
          have hM27 := hM23.sa 40 l1 r21 (i3_bd _)
          have hE28 := hE24.sa 40 l1 r21 (by decide)
          have w29 : (rd (sa σ22 40 l1 r21) 40 l1).toInt = r21.toInt := by rw [rd_sa]
          refine ⟨⟨by omega, by omega⟩, ?_⟩
          refine ⟨fun c30 => ?_, fun c30 => ?_⟩
          · unfold b_X6timeFlop_102
            generalize ey31 : (l5 + 1) = y31
            replace ey31 := ey31.symm
            have ty31 : y31.toInt = l5.toInt + 1 := i3_addc rfl rfl ey31 (by omega)
            clear ey31
            exact ih_n10 l1 l2 l3 l4 y31 (sa σ22 40 l1 r21) (by omega) (by first | omega | decide) (by first | omega | decide) (by first | omega | decide) (by first | omega | decide) hM27 hE28
          · refine rg_X0lateOf ⟨by omega, by omega⟩ hM27 (fun r32 σ33 hM34 hE35o => ?_)
            have hE35 := hE28.of hE35o (by decide) (by decide)
            have bd36 := i3_bd r32
            have u37 : (rd σ33 40 l1).toInt = (rd (sa σ22 40 l1 r21) 40 l1).toInt := by unfold rd; rw [hE35o.2 40 (by decide)]
            refine rg_X0earlyOf ⟨by omega, by omega⟩ hM34 (fun r38 σ39 hM40 hE41o => ?_)
            have hE41 := hE35.of hE41o (by decide) (by decide)
            have bd42 := i3_bd r38
            have u43 : (rd σ39 40 l1).toInt = (rd σ33 40 l1).toInt := by unfold rd; rw [hE41o.2 40 (by decide)]
            refine rg_X6arrive ⟨by omega, by omega⟩ ⟨by omega, by omega⟩ hM40 (fun σ45 hM46 hE47o => ?_)
            have hE47 := hE41.of hE47o (by decide) (by decide)
            have u48 : (rd σ45 40 l1).toInt = (rd σ39 40 l1).toInt := by unfold rd; rw [hE47o.2 40 (by decide)]
            unfold b_X6timeFlop_102
            generalize ey49 : (l5 + 1) = y49
            replace ey49 := ey49.symm
            have ty49 : y49.toInt = l5.toInt + 1 := i3_addc rfl rfl ey49 (by omega)
            clear ey49
            exact ih_n10 l1 l2 l3 l4 y49 σ45 (by omega) (by first | omega | decide) (by first | omega | decide) (by first | omega | decide) (by first | omega | decide) hM46 hE47
  exact L_27_n10 ((2 - (0 : Int32).toInt).toNat + 1) p1 x2 r3 x9 0 σ4 (by decide) (by first | omega | decide) (by first | omega | decide) (by first | omega | decide) (by first | omega | decide) hM5 hE6
set_option maxHeartbeats 2000000 in
theorem rg_X6takeInputs {Q : VS → Prop} {p1 : Int32} {σ : VS} (h_p1 : 0 ≤ p1.toInt ∧ p1.toInt ≤ 49) (hM : CI σ) (hq : ∀ (σ' : VS), CI σ' → Eo [] [39, 40] σ σ' → Q σ') : wp_X6takeInputs Q p1 σ := by
  unfold wp_X6takeInputs
  intro X4 H_4
  have hE : Eo [] [39, 40] σ σ := Eo.rfl
  obtain ⟨σ0, h0⟩ : ∃ z : VS, z = σ := ⟨_, rfl⟩
  rw [← h0] at hq
  replace hE : Eo [] [39, 40] σ0 σ := by rw [h0]; exact hE
  clear h0
  generalize ey1 : (p1 * 4) = y1
  replace ey1 := ey1.symm
  have ty1 : y1.toInt = p1.toInt * 4 := i3_mulc rfl rfl ey1 (by omega)
  clear ey1
  intro x2 ex2
  have ix2 : x2.toInt = y1.toInt := by rw [ex2]
  have L_4_n3 : ∀ (n3 : Nat) (l1 : Int32) (l2 : Int32) (σ : VS), 200 - l2.toInt < (n3 : Int) → 0 ≤ l1.toInt ∧ l1.toInt ≤ 49 → 0 ≤ l2.toInt ∧ l2.toInt ≤ 200 → CI σ → Eo [] [39, 40] σ0 σ → X4 l1 l2 σ := by
    intro n3
    induction n3 with
    | zero => intro l1 l2 σ hm h_l1 h_l2 hM hE; exfalso; omega
    | succ n3 ih_n3 =>
      intro l1 l2 σ hm h_l1 h_l2 hM hE
      have hm2_4 : 200 - l2.toInt < (n3 : Int) + 1 := by omega
      refine H_4 l1 l2 σ ?_
      unfold b_X6takeInputs_4
      generalize ey4 : (l1 * 4) = y4
      replace ey4 := ey4.symm
      have ty4 : y4.toInt = l1.toInt * 4 := i3_mulc rfl rfl ey4 (by omega)
      clear ey4
      refine ⟨⟨by omega, by omega⟩, ?_⟩
      have a5 : 0 ≤ (rd σ 12 l1).toInt ∧ (rd σ 12 l1).toInt ≤ 4 := hM.2 12 _
      generalize ey6 : (y4 + (rd σ 12 l1)) = y6
      replace ey6 := ey6.symm
      have ty6 : y6.toInt = y4.toInt + (rd σ 12 l1).toInt := i3_addc rfl rfl ey6 (by omega)
      clear ey6
      refine ⟨fun c7 => ?_, fun c7 => ?_⟩
      · exact hq σ hM hE
      · refine rg_X6isInputReached ⟨by omega, by omega⟩ hM (fun r8 σ9 br8 ir8 hM10 hE11o => ?_)
        have hE11 := hE.of hE11o (by decide) (by decide)
        have a12 : (-5) ≤ (rd σ 16 l2).toInt ∧ (rd σ 16 l2).toInt ≤ 49 := hM.2 16 _
        have u13 : (rd σ9 12 l1).toInt = (rd σ 12 l1).toInt := by unfold rd; rw [hE11o.2 12 (by decide)]
        have u14 : (rd σ9 16 l2).toInt = (rd σ 16 l2).toInt := by unfold rd; rw [hE11o.2 16 (by decide)]
        refine ⟨fun c15 => ?_, fun c15 => ?_⟩
        · unfold b_X6takeInputs_36
          refine rg_X6isInputOpen ⟨by omega, by omega⟩ hM10 (fun r16 σ17 br16 ir16 hM18 hE19o => ?_)
          have hE19 := hE11.of hE19o (by decide) (by decide)
          have u20 : (rd σ17 12 l1).toInt = (rd σ9 12 l1).toInt := by unfold rd; rw [hE19o.2 12 (by decide)]
          have u21 : (rd σ17 16 l2).toInt = (rd σ9 16 l2).toInt := by unfold rd; rw [hE19o.2 16 (by decide)]
          refine ⟨fun c22 => ?_, fun c22 => ?_⟩
          · unfold b_X6takeInputs_51
            generalize ey23 : (l2 + 1) = y23
            replace ey23 := ey23.symm
            have ty23 : y23.toInt = l2.toInt + 1 := i3_addc rfl rfl ey23 (by omega)
            clear ey23
            exact ih_n3 l1 y23 σ17 (by omega) (by first | omega | decide) (by first | omega | decide) hM18 hE19
          · have fc22 := ir16 c22
            refine ⟨⟨by omega, by omega⟩, ?_⟩
            have hM24 := hM18.sa 40 l1 1 (i3_bd _)
            have hE25 := hE19.sa 40 l1 1 (by decide)
            have w26 : (rd (sa σ17 40 l1 1) 40 l1).toInt = 1 := by rw [rd_sa]; rfl
            unfold b_X6takeInputs_51
            generalize ey27 : (l2 + 1) = y27
            replace ey27 := ey27.symm
            have ty27 : y27.toInt = l2.toInt + 1 := i3_addc rfl rfl ey27 (by omega)
            clear ey27
            exact ih_n3 l1 y27 (sa σ17 40 l1 1) (by omega) (by first | omega | decide) (by first | omega | decide) hM24 hE25
        · have fc15 := ir8 c15
          refine ⟨⟨by omega, by omega⟩, ?_⟩
          have hM28 := hM10.sa 39 l1 1 (show 0 ≤ (1 : Int32).toInt ∧ (1 : Int32).toInt ≤ 1 by decide)
          have hE29 := hE11.sa 39 l1 1 (by decide)
          have w30 : (rd (sa σ9 39 l1 1) 39 l1).toInt = 1 := by rw [rd_sa]; rfl
          unfold b_X6takeInputs_36
          refine rg_X6isInputOpen ⟨by omega, by omega⟩ hM28 (fun r31 σ32 br31 ir31 hM33 hE34o => ?_)
          have hE34 := hE29.of hE34o (by decide) (by decide)
          have a35 : (-5) ≤ (rd (sa σ9 39 l1 1) 16 l2).toInt ∧ (rd (sa σ9 39 l1 1) 16 l2).toInt ≤ 49 := hM28.2 16 _
          have u36 : (rd σ32 39 l1).toInt = (rd (sa σ9 39 l1 1) 39 l1).toInt := by unfold rd; rw [hE34o.2 39 (by decide)]
          have u37 : (rd σ32 16 l2).toInt = (rd (sa σ9 39 l1 1) 16 l2).toInt := by unfold rd; rw [hE34o.2 16 (by decide)]
          refine ⟨fun c38 => ?_, fun c38 => ?_⟩
          · unfold b_X6takeInputs_51
            generalize ey39 : (l2 + 1) = y39
            replace ey39 := ey39.symm
            have ty39 : y39.toInt = l2.toInt + 1 := i3_addc rfl rfl ey39 (by omega)
            clear ey39
            exact ih_n3 l1 y39 σ32 (by omega) (by first | omega | decide) (by first | omega | decide) hM33 hE34
          · have fc38 := ir31 c38
            refine ⟨⟨by omega, by omega⟩, ?_⟩
            have hM40 := hM33.sa 40 l1 1 (i3_bd _)
            have hE41 := hE34.sa 40 l1 1 (by decide)
            have w42 : (rd (sa σ32 40 l1 1) 40 l1).toInt = 1 := by rw [rd_sa]; rfl
            unfold b_X6takeInputs_51
            generalize ey43 : (l2 + 1) = y43
            replace ey43 := ey43.symm
            have ty43 : y43.toInt = l2.toInt + 1 := i3_addc rfl rfl ey43 (by omega)
            clear ey43
            exact ih_n3 l1 y43 (sa σ32 40 l1 1) (by omega) (by first | omega | decide) (by first | omega | decide) hM40 hE41
  exact L_4_n3 ((200 - x2.toInt).toNat + 1) p1 x2 σ (by omega) (by first | omega | decide) (by first | omega | decide) hM hE
set_option maxHeartbeats 2000000 in
theorem rg_X6timeGate {Q : VS → Prop} {p1 : Int32} {σ : VS} (h_p1 : 0 ≤ p1.toInt ∧ p1.toInt ≤ 49) (hM : CI σ) (hq : ∀ (σ' : VS), CI σ' → Eo [] [39, 40, 41, 42, 43, 44, 45, 46] σ σ' → Q σ') : wp_X6timeGate Q p1 σ := by
  unfold wp_X6timeGate
  intro X21 X64 H_21 H_64
  have hE : Eo [] [39, 40, 41, 42, 43, 44, 45, 46] σ σ := Eo.rfl
  obtain ⟨σ0, h0⟩ : ∃ z : VS, z = σ := ⟨_, rfl⟩
  rw [← h0] at hq
  replace hE : Eo [] [39, 40, 41, 42, 43, 44, 45, 46] σ0 σ := by rw [h0]; exact hE
  clear h0
  generalize ey1 : (p1 * 4) = y1
  replace ey1 := ey1.symm
  have ty1 : y1.toInt = p1.toInt * 4 := i3_mulc rfl rfl ey1 (by omega)
  clear ey1
  intro x2 ex2
  have ix2 : x2.toInt = y1.toInt := by rw [ex2]
  refine rg_X1loadOf ⟨by omega, by omega⟩ hM (fun r3 σ4 hM5 hE6o => ?_)
  have hE6 := hE.of hE6o (by decide) (by decide)
  have bd7 := i3_bd r3
  refine rg_X6takeInputs ⟨by omega, by omega⟩ hM5 (fun σ9 hM10 hE11o => ?_)
  have hE11 := hE6.of hE11o (by decide) (by decide)
  have L_21_n12 : ∀ (n12 : Nat) (l1 : Int32) (l2 : Int32) (l3 : Int32) (l4 : Int32) (σ : VS), 2 - l4.toInt < (n12 : Int) → 0 ≤ l1.toInt ∧ l1.toInt ≤ 49 → 0 ≤ l2.toInt ∧ l2.toInt ≤ 196 → 0 ≤ l4.toInt ∧ l4.toInt ≤ 2 → CI σ → Eo [] [39, 40, 41, 42, 43, 44, 45, 46] σ0 σ → X21 l1 l2 l3 l4 σ := by
    intro n12
    induction n12 with
    | zero => intro l1 l2 l3 l4 σ hm h_l1 h_l2 h_l4 hM hE; exfalso; omega
    | succ n12 ih_n12 =>
      intro l1 l2 l3 l4 σ hm h_l1 h_l2 h_l4 hM hE
      have hm2_21 : 2 - l4.toInt < (n12 : Int) + 1 := by omega
      refine H_21 l1 l2 l3 l4 σ ?_
      unfold b_X6timeGate_21
      refine ⟨fun c13 => ?_, fun c13 => ?_⟩
      · exact hq σ hM hE
      · refine ⟨⟨by omega, by omega⟩, ?_⟩
        have a14 : 0 ≤ (rd σ 11 l1).toInt ∧ (rd σ 11 l1).toInt ≤ 5 := hM.2 11 _
        refine ⟨fun c15 => ?_, fun c15 => ?_⟩
        · unfold b_X6timeGate_49
          generalize ey16 : (l1 * 2) = y16
          replace ey16 := ey16.symm
          have ty16 : y16.toInt = l1.toInt * 2 := i3_mulc rfl rfl ey16 (by omega)
          clear ey16
          generalize ey17 : (y16 + l4) = y17
          replace ey17 := ey17.symm
          have ty17 : y17.toInt = y16.toInt + l4.toInt := i3_addc rfl rfl ey17 (by omega)
          clear ey17
          refine rg_X6clearPlace ⟨by omega, by omega⟩ hM (fun σ19 hM20 hE21o => ?_)
          have hE21 := hE.of hE21o (by decide) (by decide)
          have u22 : (rd σ19 11 l1).toInt = (rd σ 11 l1).toInt := by unfold rd; rw [hE21o.2 11 (by decide)]
          have L_64_n23 : ∀ (n23 : Nat) (l1 : Int32) (l2 : Int32) (l3 : Int32) (l4 : Int32) (l5 : Int32) (l6 : Int32) (σ : VS), 200 - l6.toInt < (n23 : Int) → 0 ≤ l1.toInt ∧ l1.toInt ≤ 49 → 0 ≤ l2.toInt ∧ l2.toInt ≤ 196 → 0 ≤ l4.toInt ∧ l4.toInt ≤ 1 → 0 ≤ l5.toInt ∧ l5.toInt ≤ 1 → 0 ≤ l6.toInt ∧ l6.toInt ≤ 200 → 2 - l4.toInt < (n12 : Int) + 1 → CI σ → Eo [] [39, 40, 41, 42, 43, 44, 45, 46] σ0 σ → X64 l1 l2 l3 l4 l5 l6 σ := by
            intro n23
            induction n23 with
            | zero => intro l1 l2 l3 l4 l5 l6 σ hm h_l1 h_l2 h_l4 h_l5 h_l6 m_21 hM hE; exfalso; omega
            | succ n23 ih_n23 =>
              intro l1 l2 l3 l4 l5 l6 σ hm h_l1 h_l2 h_l4 h_l5 h_l6 m_21 hM hE
              have hm2_64 : 200 - l6.toInt < (n23 : Int) + 1 := by omega
              refine H_64 l1 l2 l3 l4 l5 l6 σ ?_
              unfold b_X6timeGate_64
              refine ⟨⟨by omega, by omega⟩, ?_⟩
              have a24 : 0 ≤ (rd σ 12 l1).toInt ∧ (rd σ 12 l1).toInt ≤ 4 := hM.2 12 _
              generalize ey25 : (l2 + (rd σ 12 l1)) = y25
              replace ey25 := ey25.symm
              have ty25 : y25.toInt = l2.toInt + (rd σ 12 l1).toInt := i3_addc rfl rfl ey25 (by omega)
              clear ey25
              refine ⟨fun c26 => ?_, fun c26 => ?_⟩
              · unfold b_X6timeGate_181
                generalize ey27 : (l4 + 1) = y27
                replace ey27 := ey27.symm
                have ty27 : y27.toInt = l4.toInt + 1 := i3_addc rfl rfl ey27 (by omega)
                clear ey27
                have bd28 := i3_bd l3
                exact ih_n12 l1 l2 l3 y27 σ (by omega) (by first | omega | decide) (by first | omega | decide) (by first | omega | decide) hM hE
              · refine ⟨⟨by omega, by omega⟩, ?_⟩
                refine ⟨fun c29 => ?_, fun c29 => ?_⟩
                · unfold b_X6timeGate_181
                  generalize ey30 : (l4 + 1) = y30
                  replace ey30 := ey30.symm
                  have ty30 : y30.toInt = l4.toInt + 1 := i3_addc rfl rfl ey30 (by omega)
                  clear ey30
                  have bd31 := i3_bd l3
                  exact ih_n12 l1 l2 l3 y30 σ (by omega) (by first | omega | decide) (by first | omega | decide) (by first | omega | decide) hM hE
                · refine rg_X6isInputReached ⟨by omega, by omega⟩ hM (fun r32 σ33 br32 ir32 hM34 hE35o => ?_)
                  have hE35 := hE.of hE35o (by decide) (by decide)
                  have a36 : (-5) ≤ (rd σ 16 l6).toInt ∧ (rd σ 16 l6).toInt ≤ 49 := hM.2 16 _
                  have u37 : (rd σ33 12 l1).toInt = (rd σ 12 l1).toInt := by unfold rd; rw [hE35o.2 12 (by decide)]
                  have u38 : (rd σ33 40 l1).toInt = (rd σ 40 l1).toInt := by unfold rd; rw [hE35o.2 40 (by decide)]
                  have u39 : (rd σ33 16 l6).toInt = (rd σ 16 l6).toInt := by unfold rd; rw [hE35o.2 16 (by decide)]
                  refine ⟨fun c40 => ?_, fun c40 => ?_⟩
                  · unfold b_X6timeGate_175
                    generalize ey41 : (l6 + 1) = y41
                    replace ey41 := ey41.symm
                    have ty41 : y41.toInt = l6.toInt + 1 := i3_addc rfl rfl ey41 (by omega)
                    clear ey41
                    have bd42 := i3_bd l3
                    exact ih_n23 l1 l2 l3 l4 l5 y41 σ33 (by omega) (by first | omega | decide) (by first | omega | decide) (by first | omega | decide) (by first | omega | decide) (by first | omega | decide) (by first | omega | decide) hM34 hE35
                  · have fc40 := ir32 c40
                    refine ⟨⟨by omega, by omega⟩, ?_⟩
                    generalize ey43 : ((rd σ33 16 l6) * 2) = y43
                    replace ey43 := ey43.symm
                    have ty43 : y43.toInt = (rd σ33 16 l6).toInt * 2 := i3_mulc rfl rfl ey43 (by omega)
                    clear ey43
                    generalize ey44 : (y43 + l5) = y44
                    replace ey44 := ey44.symm
                    have ty44 : y44.toInt = y43.toInt + l5.toInt := i3_addc rfl rfl ey44 (by omega)
                    clear ey44
                    intro x45 ex45
                    have ix45 : x45.toInt = y44.toInt := by rw [ex45]
                    refine ⟨⟨by omega, by omega⟩, ?_⟩
                    refine ⟨⟨by omega, by omega⟩, ?_⟩
                    have bd46 := i3_bd l3
                    have bd47 := i3_bd (rd σ33 43 x45)
                    have bd48 := i3_bd (rd σ33 44 x45)
                    refine rg_X6timeArc ⟨by omega, by omega⟩ ⟨by omega, by omega⟩ hM34 (fun r49 σ50 hM51 hE52o => ?_)
                    have hE52 := hE35.of hE52o (by decide) (by decide)
                    have bd53 := i3_bd r49
                    have u54 : (rd σ50 12 l1).toInt = (rd σ33 12 l1).toInt := by unfold rd; rw [hE52o.2 12 (by decide)]
                    have u55 : (rd σ50 40 l1).toInt = (rd σ33 40 l1).toInt := by unfold rd; rw [hE52o.2 40 (by decide)]
                    have u56 : (rd σ50 16 l6).toInt = (rd σ33 16 l6).toInt := by unfold rd; rw [hE52o.2 16 (by decide)]
                    refine ⟨⟨by omega, by omega⟩, ?_⟩
                    have hM57 := hM51.sa 40 l1 r49 (i3_bd _)
                    have hE58 := hE52.sa 40 l1 r49 (by decide)
                    have w59 : (rd (sa σ50 40 l1 r49) 40 l1).toInt = r49.toInt := by rw [rd_sa]
                    refine ⟨⟨by omega, by omega⟩, ?_⟩
                    refine ⟨fun c60 => ?_, fun c60 => ?_⟩
                    · unfold b_X6timeGate_175
                      generalize ey61 : (l6 + 1) = y61
                      replace ey61 := ey61.symm
                      have ty61 : y61.toInt = l6.toInt + 1 := i3_addc rfl rfl ey61 (by omega)
                      clear ey61
                      exact ih_n23 l1 l2 l3 l4 l5 y61 (sa σ50 40 l1 r49) (by omega) (by first | omega | decide) (by first | omega | decide) (by first | omega | decide) (by first | omega | decide) (by first | omega | decide) (by first | omega | decide) hM57 hE58
                    · refine ⟨⟨by omega, by omega⟩, ?_⟩
                      refine ⟨⟨by omega, by omega⟩, ?_⟩
                      have bd62 := i3_bd (rd (sa σ50 40 l1 r49) 45 x45)
                      have bd63 := i3_bd (rd (sa σ50 40 l1 r49) 46 x45)
                      refine rg_X6arrive ⟨by omega, by omega⟩ ⟨by omega, by omega⟩ hM57 (fun σ65 hM66 hE67o => ?_)
                      have hE67 := hE58.of hE67o (by decide) (by decide)
                      have u68 : (rd σ65 40 l1).toInt = (rd (sa σ50 40 l1 r49) 40 l1).toInt := by unfold rd; rw [hE67o.2 40 (by decide)]
                      unfold b_X6timeGate_175
                      generalize ey69 : (l6 + 1) = y69
                      replace ey69 := ey69.symm
                      have ty69 : y69.toInt = l6.toInt + 1 := i3_addc rfl rfl ey69 (by omega)
                      clear ey69
                      exact ih_n23 l1 l2 l3 l4 l5 y69 σ65 (by omega) (by first | omega | decide) (by first | omega | decide) (by first | omega | decide) (by first | omega | decide) (by first | omega | decide) (by first | omega | decide) hM66 hE67
          exact L_64_n23 ((200 - l2.toInt).toNat + 1) l1 l2 l3 l4 l4 l2 σ19 (by omega) (by first | omega | decide) (by first | omega | decide) (by first | omega | decide) (by first | omega | decide) (by first | omega | decide) (by first | omega | decide) hM20 hE21
        · generalize ey70 : (1 - l4) = y70
          replace ey70 := ey70.symm
          have ty70 : y70.toInt = 1 - l4.toInt := i3_subc rfl rfl ey70 (by omega)
          clear ey70
          unfold b_X6timeGate_49
          generalize ey71 : (l1 * 2) = y71
          replace ey71 := ey71.symm
          have ty71 : y71.toInt = l1.toInt * 2 := i3_mulc rfl rfl ey71 (by omega)
          clear ey71
          generalize ey72 : (y71 + l4) = y72
          replace ey72 := ey72.symm
          have ty72 : y72.toInt = y71.toInt + l4.toInt := i3_addc rfl rfl ey72 (by omega)
          clear ey72
          refine rg_X6clearPlace ⟨by omega, by omega⟩ hM (fun σ74 hM75 hE76o => ?_)
          have hE76 := hE.of hE76o (by decide) (by decide)
          have u77 : (rd σ74 11 l1).toInt = (rd σ 11 l1).toInt := by unfold rd; rw [hE76o.2 11 (by decide)]
          have L_64_n78 : ∀ (n78 : Nat) (l1 : Int32) (l2 : Int32) (l3 : Int32) (l4 : Int32) (l5 : Int32) (l6 : Int32) (σ : VS), 200 - l6.toInt < (n78 : Int) → 0 ≤ l1.toInt ∧ l1.toInt ≤ 49 → 0 ≤ l2.toInt ∧ l2.toInt ≤ 196 → 0 ≤ l4.toInt ∧ l4.toInt ≤ 1 → 0 ≤ l5.toInt ∧ l5.toInt ≤ 1 → 0 ≤ l6.toInt ∧ l6.toInt ≤ 200 → 2 - l4.toInt < (n12 : Int) + 1 → CI σ → Eo [] [39, 40, 41, 42, 43, 44, 45, 46] σ0 σ → X64 l1 l2 l3 l4 l5 l6 σ := by
            intro n78
            induction n78 with
            | zero => intro l1 l2 l3 l4 l5 l6 σ hm h_l1 h_l2 h_l4 h_l5 h_l6 m_21 hM hE; exfalso; omega
            | succ n78 ih_n78 =>
              intro l1 l2 l3 l4 l5 l6 σ hm h_l1 h_l2 h_l4 h_l5 h_l6 m_21 hM hE
              have hm2_64 : 200 - l6.toInt < (n78 : Int) + 1 := by omega
              refine H_64 l1 l2 l3 l4 l5 l6 σ ?_
              unfold b_X6timeGate_64
              refine ⟨⟨by omega, by omega⟩, ?_⟩
              have a79 : 0 ≤ (rd σ 12 l1).toInt ∧ (rd σ 12 l1).toInt ≤ 4 := hM.2 12 _
              generalize ey80 : (l2 + (rd σ 12 l1)) = y80
              replace ey80 := ey80.symm
              have ty80 : y80.toInt = l2.toInt + (rd σ 12 l1).toInt := i3_addc rfl rfl ey80 (by omega)
              clear ey80
              refine ⟨fun c81 => ?_, fun c81 => ?_⟩
              · unfold b_X6timeGate_181
                generalize ey82 : (l4 + 1) = y82
                replace ey82 := ey82.symm
                have ty82 : y82.toInt = l4.toInt + 1 := i3_addc rfl rfl ey82 (by omega)
                clear ey82
                have bd83 := i3_bd l3
                exact ih_n12 l1 l2 l3 y82 σ (by omega) (by first | omega | decide) (by first | omega | decide) (by first | omega | decide) hM hE
              · refine ⟨⟨by omega, by omega⟩, ?_⟩
                refine ⟨fun c84 => ?_, fun c84 => ?_⟩
                · unfold b_X6timeGate_181
                  generalize ey85 : (l4 + 1) = y85
                  replace ey85 := ey85.symm
                  have ty85 : y85.toInt = l4.toInt + 1 := i3_addc rfl rfl ey85 (by omega)
                  clear ey85
                  have bd86 := i3_bd l3
                  exact ih_n12 l1 l2 l3 y85 σ (by omega) (by first | omega | decide) (by first | omega | decide) (by first | omega | decide) hM hE
                · refine rg_X6isInputReached ⟨by omega, by omega⟩ hM (fun r87 σ88 br87 ir87 hM89 hE90o => ?_)
                  have hE90 := hE.of hE90o (by decide) (by decide)
                  have a91 : (-5) ≤ (rd σ 16 l6).toInt ∧ (rd σ 16 l6).toInt ≤ 49 := hM.2 16 _
                  have u92 : (rd σ88 12 l1).toInt = (rd σ 12 l1).toInt := by unfold rd; rw [hE90o.2 12 (by decide)]
                  have u93 : (rd σ88 40 l1).toInt = (rd σ 40 l1).toInt := by unfold rd; rw [hE90o.2 40 (by decide)]
                  have u94 : (rd σ88 16 l6).toInt = (rd σ 16 l6).toInt := by unfold rd; rw [hE90o.2 16 (by decide)]
                  refine ⟨fun c95 => ?_, fun c95 => ?_⟩
                  · unfold b_X6timeGate_175
                    generalize ey96 : (l6 + 1) = y96
                    replace ey96 := ey96.symm
                    have ty96 : y96.toInt = l6.toInt + 1 := i3_addc rfl rfl ey96 (by omega)
                    clear ey96
                    have bd97 := i3_bd l3
                    exact ih_n78 l1 l2 l3 l4 l5 y96 σ88 (by omega) (by first | omega | decide) (by first | omega | decide) (by first | omega | decide) (by first | omega | decide) (by first | omega | decide) (by first | omega | decide) hM89 hE90
                  · have fc95 := ir87 c95
                    refine ⟨⟨by omega, by omega⟩, ?_⟩
                    generalize ey98 : ((rd σ88 16 l6) * 2) = y98
                    replace ey98 := ey98.symm
                    have ty98 : y98.toInt = (rd σ88 16 l6).toInt * 2 := i3_mulc rfl rfl ey98 (by omega)
                    clear ey98
                    generalize ey99 : (y98 + l5) = y99
                    replace ey99 := ey99.symm
                    have ty99 : y99.toInt = y98.toInt + l5.toInt := i3_addc rfl rfl ey99 (by omega)
                    clear ey99
                    intro x100 ex100
                    have ix100 : x100.toInt = y99.toInt := by rw [ex100]
                    refine ⟨⟨by omega, by omega⟩, ?_⟩
                    refine ⟨⟨by omega, by omega⟩, ?_⟩
                    have bd101 := i3_bd l3
                    have bd102 := i3_bd (rd σ88 43 x100)
                    have bd103 := i3_bd (rd σ88 44 x100)
                    refine rg_X6timeArc ⟨by omega, by omega⟩ ⟨by omega, by omega⟩ hM89 (fun r104 σ105 hM106 hE107o => ?_)
                    have hE107 := hE90.of hE107o (by decide) (by decide)
                    have bd108 := i3_bd r104
                    have u109 : (rd σ105 12 l1).toInt = (rd σ88 12 l1).toInt := by unfold rd; rw [hE107o.2 12 (by decide)]
                    have u110 : (rd σ105 40 l1).toInt = (rd σ88 40 l1).toInt := by unfold rd; rw [hE107o.2 40 (by decide)]
                    have u111 : (rd σ105 16 l6).toInt = (rd σ88 16 l6).toInt := by unfold rd; rw [hE107o.2 16 (by decide)]
                    refine ⟨⟨by omega, by omega⟩, ?_⟩
                    have hM112 := hM106.sa 40 l1 r104 (i3_bd _)
                    have hE113 := hE107.sa 40 l1 r104 (by decide)
                    have w114 : (rd (sa σ105 40 l1 r104) 40 l1).toInt = r104.toInt := by rw [rd_sa]
                    refine ⟨⟨by omega, by omega⟩, ?_⟩
                    refine ⟨fun c115 => ?_, fun c115 => ?_⟩
                    · unfold b_X6timeGate_175
                      generalize ey116 : (l6 + 1) = y116
                      replace ey116 := ey116.symm
                      have ty116 : y116.toInt = l6.toInt + 1 := i3_addc rfl rfl ey116 (by omega)
                      clear ey116
                      exact ih_n78 l1 l2 l3 l4 l5 y116 (sa σ105 40 l1 r104) (by omega) (by first | omega | decide) (by first | omega | decide) (by first | omega | decide) (by first | omega | decide) (by first | omega | decide) (by first | omega | decide) hM112 hE113
                    · refine ⟨⟨by omega, by omega⟩, ?_⟩
                      refine ⟨⟨by omega, by omega⟩, ?_⟩
                      have bd117 := i3_bd (rd (sa σ105 40 l1 r104) 45 x100)
                      have bd118 := i3_bd (rd (sa σ105 40 l1 r104) 46 x100)
                      refine rg_X6arrive ⟨by omega, by omega⟩ ⟨by omega, by omega⟩ hM112 (fun σ120 hM121 hE122o => ?_)
                      have hE122 := hE113.of hE122o (by decide) (by decide)
                      have u123 : (rd σ120 40 l1).toInt = (rd (sa σ105 40 l1 r104) 40 l1).toInt := by unfold rd; rw [hE122o.2 40 (by decide)]
                      unfold b_X6timeGate_175
                      generalize ey124 : (l6 + 1) = y124
                      replace ey124 := ey124.symm
                      have ty124 : y124.toInt = l6.toInt + 1 := i3_addc rfl rfl ey124 (by omega)
                      clear ey124
                      exact ih_n78 l1 l2 l3 l4 l5 y124 σ120 (by omega) (by first | omega | decide) (by first | omega | decide) (by first | omega | decide) (by first | omega | decide) (by first | omega | decide) (by first | omega | decide) hM121 hE122
          exact L_64_n78 ((200 - l2.toInt).toNat + 1) l1 l2 l3 l4 y70 l2 σ74 (by omega) (by first | omega | decide) (by first | omega | decide) (by first | omega | decide) (by first | omega | decide) (by first | omega | decide) (by first | omega | decide) hM75 hE76
  exact L_21_n12 ((2 - (0 : Int32).toInt).toNat + 1) p1 x2 r3 0 σ9 (by decide) (by first | omega | decide) (by first | omega | decide) (by first | omega | decide) hM10 hE11
set_option maxHeartbeats 2000000 in
theorem rg_X6run {Q : VS → Prop} {σ : VS} (hM : CI σ) (hq : ∀ (σ' : VS), CI σ' → Eo [] [39, 40, 41, 42, 43, 44, 45, 46] σ σ' → Q σ') : wp_X6run Q σ := by
  unfold wp_X6run
  intro X2 X80 H_2 H_80
  have hE : Eo [] [39, 40, 41, 42, 43, 44, 45, 46] σ σ := Eo.rfl
  obtain ⟨σ0, h0⟩ : ∃ z : VS, z = σ := ⟨_, rfl⟩
  rw [← h0] at hq
  replace hE : Eo [] [39, 40, 41, 42, 43, 44, 45, 46] σ0 σ := by rw [h0]; exact hE
  clear h0
  have L_2_n1 : ∀ (n1 : Nat) (l1 : Int32) (σ : VS), 50 - l1.toInt < (n1 : Int) → 0 ≤ l1.toInt ∧ l1.toInt ≤ 50 → CI σ → Eo [] [39, 40, 41, 42, 43, 44, 45, 46] σ0 σ → X2 l1 σ := by
    intro n1
    induction n1 with
    | zero => intro l1 σ hm h_l1 hM hE; exfalso; omega
    | succ n1 ih_n1 =>
      intro l1 σ hm h_l1 hM hE
      have hm2_2 : 50 - l1.toInt < (n1 : Int) + 1 := by omega
      refine H_2 l1 σ ?_
      unfold b_X6run_2
      have f2 : 0 ≤ (σ.1 2).toInt ∧ (σ.1 2).toInt ≤ 50 := hM.1 2
      refine ⟨fun c3 => ?_, fun c3 => ?_⟩
      · have L_80_n4 : ∀ (n4 : Nat) (l1 : Int32) (σ : VS), 50 - l1.toInt < (n4 : Int) → 0 ≤ l1.toInt ∧ l1.toInt ≤ 50 → CI σ → Eo [] [39, 40, 41, 42, 43, 44, 45, 46] σ0 σ → X80 l1 σ := by
          intro n4
          induction n4 with
          | zero => intro l1 σ hm h_l1 hM hE; exfalso; omega
          | succ n4 ih_n4 =>
            intro l1 σ hm h_l1 hM hE
            have hm2_80 : 50 - l1.toInt < (n4 : Int) + 1 := by omega
            refine H_80 l1 σ ?_
            unfold b_X6run_80
            have f5 : 0 ≤ (σ.1 3).toInt ∧ (σ.1 3).toInt ≤ 50 := hM.1 3
            refine ⟨fun c6 => ?_, fun c6 => ?_⟩
            · exact hq σ hM hE
            · refine ⟨⟨by omega, by omega⟩, ?_⟩
              have a7 : 0 ≤ (rd σ 19 l1).toInt ∧ (rd σ 19 l1).toInt ≤ 49 := hM.2 19 _
              refine rg_X6timeGate ⟨by omega, by omega⟩ hM (fun σ9 hM10 hE11o => ?_)
              have hE11 := hE.of hE11o (by decide) (by decide)
              have u12 : (σ9.1 3).toInt = (σ.1 3).toInt := by rw [hE11o.1 3 (by decide)]
              have u13 : (rd σ9 19 l1).toInt = (rd σ 19 l1).toInt := by unfold rd; rw [hE11o.2 19 (by decide)]
              generalize ey14 : (l1 + 1) = y14
              replace ey14 := ey14.symm
              have ty14 : y14.toInt = l1.toInt + 1 := i3_addc rfl rfl ey14 (by omega)
              clear ey14
              exact ih_n4 y14 σ9 (by omega) (by first | omega | decide) hM10 hE11
        exact L_80_n4 ((50 - (0 : Int32).toInt).toNat + 1) 0 σ (by decide) (by first | omega | decide) hM hE
      · refine rg_X1isStart ⟨by omega, by omega⟩ hM (fun r15 σ16 br15 hM17 hE18o => ?_)
        have hE18 := hE.of hE18o (by decide) (by decide)
        have u19 : (σ16.1 2).toInt = (σ.1 2).toInt := by rw [hE18o.1 2 (by decide)]
        refine ⟨⟨by omega, by omega⟩, ?_⟩
        refine ⟨⟨by omega, by omega⟩, ?_⟩
        have hM20 := hM17.sa 39 l1 r15 (show 0 ≤ r15.toInt ∧ r15.toInt ≤ 1 by omega)
        have hE21 := hE18.sa 39 l1 r15 (by decide)
        have u22 : ((sa σ16 39 l1 r15).1 2).toInt = (σ16.1 2).toInt := rfl
        have w23 : (rd (sa σ16 39 l1 r15) 39 l1).toInt = r15.toInt := by rw [rd_sa]
        refine ⟨⟨by omega, by omega⟩, ?_⟩
        have hM24 := hM20.sa 40 l1 0 (i3_bd _)
        have hE25 := hE21.sa 40 l1 0 (by decide)
        have u26 : ((sa (sa σ16 39 l1 r15) 40 l1 0).1 2).toInt = ((sa σ16 39 l1 r15).1 2).toInt := rfl
        have w27 : (rd (sa (sa σ16 39 l1 r15) 40 l1 0) 40 l1).toInt = 0 := by rw [rd_sa]; rfl
        refine ⟨⟨by omega, by omega⟩, ?_⟩
        have a28 : 0 ≤ (rd (sa (sa σ16 39 l1 r15) 40 l1 0) 11 l1).toInt ∧ (rd (sa (sa σ16 39 l1 r15) 40 l1 0) 11 l1).toInt ≤ 5 := hM24.2 11 _
        refine ⟨fun c29 => ?_, fun c29 => ?_⟩
        · refine ⟨⟨by omega, by omega⟩, ?_⟩
          refine ⟨fun c30 => ?_, fun c30 => ?_⟩
          · unfold b_X6run_72
            generalize ey31 : (l1 + 1) = y31
            replace ey31 := ey31.symm
            have ty31 : y31.toInt = l1.toInt + 1 := i3_addc rfl rfl ey31 (by omega)
            clear ey31
            exact ih_n1 y31 (sa (sa σ16 39 l1 r15) 40 l1 0) (by omega) (by first | omega | decide) hM24 hE25
          · refine rg_X6timeFlop ⟨by omega, by omega⟩ hM24 (fun σ33 hM34 hE35o => ?_)
            have hE35 := hE25.of hE35o (by decide) (by decide)
            have u36 : (σ33.1 2).toInt = ((sa (sa σ16 39 l1 r15) 40 l1 0).1 2).toInt := by rw [hE35o.1 2 (by decide)]
            unfold b_X6run_72
            generalize ey37 : (l1 + 1) = y37
            replace ey37 := ey37.symm
            have ty37 : y37.toInt = l1.toInt + 1 := i3_addc rfl rfl ey37 (by omega)
            clear ey37
            exact ih_n1 y37 σ33 (by omega) (by first | omega | decide) hM34 hE35
        · refine rg_X6timePort ⟨by omega, by omega⟩ hM24 (fun σ39 hM40 hE41o => ?_)
          have hE41 := hE25.of hE41o (by decide) (by decide)
          have u42 : (σ39.1 2).toInt = ((sa (sa σ16 39 l1 r15) 40 l1 0).1 2).toInt := by rw [hE41o.1 2 (by decide)]
          unfold b_X6run_72
          generalize ey43 : (l1 + 1) = y43
          replace ey43 := ey43.symm
          have ty43 : y43.toInt = l1.toInt + 1 := i3_addc rfl rfl ey43 (by omega)
          clear ey43
          exact ih_n1 y43 σ39 (by omega) (by first | omega | decide) hM40 hE41
  exact L_2_n1 ((50 - (0 : Int32).toInt).toNat + 1) 0 σ (by decide) (by first | omega | decide) hM hE
