set_option maxHeartbeats 2000000 in
theorem rg_X9within {Q : Int32 → VS → Prop} {p1 : Int32} {p2 : Int32} {p3 : Int32} {σ : VS} (hM : CI σ) (hq : ∀ (r : Int32) (σ' : VS), 0 ≤ r.toInt ∧ r.toInt ≤ 1 → (r.toInt ≠ 0 → p2.toInt ≤ p1.toInt ∧ p1.toInt ≤ p3.toInt) → CI σ' → Eo [] [] σ σ' → Q r σ') : wp_X9within Q p1 p2 p3 σ := by
  unfold wp_X9within
  have hE : Eo [] [] σ σ := Eo.rfl
  refine ⟨fun c1 => ?_, fun c1 => ?_⟩
  · unfold b_X9within_14
    suffices hs : ∀ (q2 : Int32), q2.toInt = 0 → b_X9within_15 Q q2 σ from hs 0 rfl
    intro q2 hq2
    unfold b_X9within_15
    refine ⟨⟨by omega, by omega⟩, ?_⟩
    exact hq q2 σ ⟨by omega, by omega⟩ (by intro h9; omega) hM hE
  · refine ⟨fun c3 => ?_, fun c3 => ?_⟩
    · unfold b_X9within_14
      suffices hs : ∀ (q4 : Int32), q4.toInt = 0 → b_X9within_15 Q q4 σ from hs 0 rfl
      intro q4 hq4
      unfold b_X9within_15
      refine ⟨⟨by omega, by omega⟩, ?_⟩
      exact hq q4 σ ⟨by omega, by omega⟩ (by intro h9; omega) hM hE
    · suffices hs : ∀ (q5 : Int32), q5.toInt = 1 → b_X9within_15 Q q5 σ from hs 1 rfl
      intro q5 hq5
      unfold b_X9within_15
      refine ⟨⟨by omega, by omega⟩, ?_⟩
      exact hq q5 σ ⟨by omega, by omega⟩ (by intro h9; omega) hM hE
set_option maxHeartbeats 2000000 in
theorem rg_X9hasOrAny {Q : Int32 → VS → Prop} {p1 : Int32} {σ : VS} (hM : CI σ) (hq : ∀ (r : Int32) (σ' : VS), 0 ≤ r.toInt ∧ r.toInt ≤ 1 → (r.toInt ≠ 0 → (-1) ≤ p1.toInt ∧ p1.toInt ≤ 49) → CI σ' → Eo [] [] σ σ' → Q r σ') : wp_X9hasOrAny Q p1 σ := by
  unfold wp_X9hasOrAny
  have hE : Eo [] [] σ σ := Eo.rfl
  refine ⟨fun c1 => ?_, fun c1 => ?_⟩
  · unfold b_X9hasOrAny_16
    suffices hs : ∀ (q2 : Int32), q2.toInt = 1 → b_X9hasOrAny_21 Q q2 σ from hs 1 rfl
    intro q2 hq2
    unfold b_X9hasOrAny_21
    refine ⟨⟨by omega, by omega⟩, ?_⟩
    exact hq q2 σ ⟨by omega, by omega⟩ (by intro h9; omega) hM hE
  · have bd3 := i3_bd p1
    refine rg_X1has hM (fun r4 σ5 br4 ir4 hM6 hE7o => ?_)
    have hE7 := hE.of hE7o (by decide) (by decide)
    have f8 : 0 ≤ (σ.1 2).toInt ∧ (σ.1 2).toInt ≤ 50 := hM.1 2
    have u9 : (σ5.1 2).toInt = (σ.1 2).toInt := by rw [hE7o.1 2 (by decide)]
    refine ⟨fun c10 => ?_, fun c10 => ?_⟩
    · suffices hs : ∀ (q11 : Int32), q11.toInt = 0 → b_X9hasOrAny_21 Q q11 σ5 from hs 0 rfl
      intro q11 hq11
      unfold b_X9hasOrAny_21
      refine ⟨⟨by omega, by omega⟩, ?_⟩
      exact hq q11 σ5 ⟨by omega, by omega⟩ (by intro h9; omega) hM6 hE7
    · have fc10 : 0 ≤ p1.toInt ∧ p1.toInt < (σ.1 2).toInt := ir4 c10
      unfold b_X9hasOrAny_16
      suffices hs : ∀ (q12 : Int32), q12.toInt = 1 → b_X9hasOrAny_21 Q q12 σ5 from hs 1 rfl
      intro q12 hq12
      unfold b_X9hasOrAny_21
      refine ⟨⟨by omega, by omega⟩, ?_⟩
      exact hq q12 σ5 ⟨by omega, by omega⟩ (by intro h9; omega) hM6 hE7
set_option maxHeartbeats 2000000 in
theorem rg_X9forget {Q : VS → Prop} {σ : VS} (hM : CI σ) (hq : ∀ (σ' : VS), CI σ' → Eo [0, 1] [] σ σ' → Q σ') : wp_X9forget Q σ := by
  unfold wp_X9forget
  have hE : Eo [0, 1] [] σ σ := Eo.rfl
  have hM1 := hM.sf 0 0 (show 0 ≤ (0 : Int32).toInt ∧ (0 : Int32).toInt ≤ 1 by decide)
  have hE2 := hE.sf 0 0 (by decide)
  have hM3 := hM1.sf 1 0 (show 0 ≤ (0 : Int32).toInt ∧ (0 : Int32).toInt ≤ 1 by decide)
  have hE4 := hE2.sf 1 0 (by decide)
  exact hq (sf (sf σ 0 0) 1 0) hM3 hE4
set_option maxHeartbeats 2000000 in
theorem rg_X9refreshTiming {Q : VS → Prop} {σ : VS} (hM : CI σ) (hq : ∀ (σ' : VS), CI σ' → Eo [0] [39, 40, 41, 42, 43, 44, 45, 46] σ σ' → Q σ') : wp_X9refreshTiming Q σ := by
  unfold wp_X9refreshTiming
  have hE : Eo [0] [39, 40, 41, 42, 43, 44, 45, 46] σ σ := Eo.rfl
  have f1 : 0 ≤ (σ.1 0).toInt ∧ (σ.1 0).toInt ≤ 1 := hM.1 0
  refine ⟨fun c2 => ?_, fun c2 => ?_⟩
  · unfold b_X9refreshTiming_19
    exact hq σ hM hE
  · refine rg_X6run hM (fun σ4 hM5 hE6o => ?_)
    have hE6 := hE.of hE6o (by decide) (by decide)
    have u7 : (σ4.1 0).toInt = (σ.1 0).toInt := by rw [hE6o.1 0 (by decide)]
    have hM8 := hM5.sf 0 1 (show 0 ≤ (1 : Int32).toInt ∧ (1 : Int32).toInt ≤ 1 by decide)
    have hE9 := hE6.sf 0 1 (by decide)
    have u10 : ((sf σ4 0 1).1 0).toInt = 1 := rfl
    unfold b_X9refreshTiming_19
    exact hq (sf σ4 0 1) hM8 hE9
set_option maxHeartbeats 2000000 in
theorem rg_X9refreshRace {Q : VS → Prop} {σ : VS} (hM : CI σ) (hq : ∀ (σ' : VS), CI σ' → Eo [0, 1, 9, 10] [39, 40, 41, 42, 43, 44, 45, 46, 47, 48, 49, 50, 51, 52] σ σ' → Q σ') : wp_X9refreshRace Q σ := by
  unfold wp_X9refreshRace
  have hE : Eo [0, 1, 9, 10] [39, 40, 41, 42, 43, 44, 45, 46, 47, 48, 49, 50, 51, 52] σ σ := Eo.rfl
  have f1 : 0 ≤ (σ.1 1).toInt ∧ (σ.1 1).toInt ≤ 1 := hM.1 1
  refine ⟨fun c2 => ?_, fun c2 => ?_⟩
  · have f3 : 0 ≤ (σ.1 0).toInt ∧ (σ.1 0).toInt ≤ 1 := hM.1 0
    refine ⟨fun c4 => ?_, fun c4 => ?_⟩
    · unfold b_X9refreshRace_22
      refine rg_X2run hM (fun σ6 hM7 hE8o => ?_)
      have hE8 := hE.of hE8o (by decide) (by decide)
      have u9 : (σ6.1 1).toInt = (σ.1 1).toInt := by rw [hE8o.1 1 (by decide)]
      have u10 : (σ6.1 0).toInt = (σ.1 0).toInt := by rw [hE8o.1 0 (by decide)]
      have hM11 := hM7.sf 0 1 (show 0 ≤ (1 : Int32).toInt ∧ (1 : Int32).toInt ≤ 1 by decide)
      have hE12 := hE8.sf 0 1 (by decide)
      have u13 : ((sf σ6 0 1).1 1).toInt = (σ6.1 1).toInt := rfl
      have u14 : ((sf σ6 0 1).1 0).toInt = 1 := rfl
      have hM15 := hM11.sf 1 1 (show 0 ≤ (1 : Int32).toInt ∧ (1 : Int32).toInt ≤ 1 by decide)
      have hE16 := hE12.sf 1 1 (by decide)
      have u17 : ((sf (sf σ6 0 1) 1 1).1 1).toInt = 1 := rfl
      have u18 : ((sf (sf σ6 0 1) 1 1).1 0).toInt = ((sf σ6 0 1).1 0).toInt := rfl
      exact hq (sf (sf σ6 0 1) 1 1) hM15 hE16
    · refine rg_X6run hM (fun σ20 hM21 hE22o => ?_)
      have hE22 := hE.of hE22o (by decide) (by decide)
      have u23 : (σ20.1 1).toInt = (σ.1 1).toInt := by rw [hE22o.1 1 (by decide)]
      have u24 : (σ20.1 0).toInt = (σ.1 0).toInt := by rw [hE22o.1 0 (by decide)]
      unfold b_X9refreshRace_22
      refine rg_X2run hM21 (fun σ26 hM27 hE28o => ?_)
      have hE28 := hE22.of hE28o (by decide) (by decide)
      have u29 : (σ26.1 1).toInt = (σ20.1 1).toInt := by rw [hE28o.1 1 (by decide)]
      have u30 : (σ26.1 0).toInt = (σ20.1 0).toInt := by rw [hE28o.1 0 (by decide)]
      have hM31 := hM27.sf 0 1 (show 0 ≤ (1 : Int32).toInt ∧ (1 : Int32).toInt ≤ 1 by decide)
      have hE32 := hE28.sf 0 1 (by decide)
      have u33 : ((sf σ26 0 1).1 1).toInt = (σ26.1 1).toInt := rfl
      have u34 : ((sf σ26 0 1).1 0).toInt = 1 := rfl
      have hM35 := hM31.sf 1 1 (show 0 ≤ (1 : Int32).toInt ∧ (1 : Int32).toInt ≤ 1 by decide)
      have hE36 := hE32.sf 1 1 (by decide)
      have u37 : ((sf (sf σ26 0 1) 1 1).1 1).toInt = 1 := rfl
      have u38 : ((sf (sf σ26 0 1) 1 1).1 0).toInt = ((sf σ26 0 1).1 0).toInt := rfl
      exact hq (sf (sf σ26 0 1) 1 1) hM35 hE36
  · exact hq σ hM hE
set_option maxHeartbeats 2000000 in
theorem rg_X9isTold {Q : Int32 → VS → Prop} {p1 : Int32} {σ : VS} (hM : CI σ) (hq : ∀ (r : Int32) (σ' : VS), 0 ≤ r.toInt ∧ r.toInt ≤ 1 → (r.toInt ≠ 0 → 0 ≤ p1.toInt ∧ p1.toInt ≤ 49) → CI σ' → Eo [0, 1, 9, 10] [39, 40, 41, 42, 43, 44, 45, 46, 47, 48, 49, 50, 51, 52] σ σ' → Q r σ') : wp_X9isTold Q p1 σ := by
  unfold wp_X9isTold
  have hE : Eo [0, 1, 9, 10] [39, 40, 41, 42, 43, 44, 45, 46, 47, 48, 49, 50, 51, 52] σ σ := Eo.rfl
  have bd1 := i3_bd p1
  refine rg_X1has hM (fun r2 σ3 br2 ir2 hM4 hE5o => ?_)
  have hE5 := hE.of hE5o (by decide) (by decide)
  have f6 : 0 ≤ (σ.1 2).toInt ∧ (σ.1 2).toInt ≤ 50 := hM.1 2
  have u7 : (σ3.1 2).toInt = (σ.1 2).toInt := by rw [hE5o.1 2 (by decide)]
  refine ⟨fun c8 => ?_, fun c8 => ?_⟩
  · unfold b_X9isTold_22
    exact hq 0 σ3 ⟨by decide, by decide⟩ (by intro h9; exact absurd h9 (by decide)) hM4 hE5
  · have fc8 : 0 ≤ p1.toInt ∧ p1.toInt < (σ.1 2).toInt := ir2 c8
    refine rg_X1isTarget ⟨by omega, by omega⟩ hM4 (fun r9 σ10 br9 hM11 hE12o => ?_)
    have hE12 := hE5.of hE12o (by decide) (by decide)
    have u13 : (σ10.1 2).toInt = (σ3.1 2).toInt := by rw [hE12o.1 2 (by decide)]
    refine ⟨fun c14 => ?_, fun c14 => ?_⟩
    · refine rg_X9refreshRace hM11 (fun σ16 hM17 hE18o => ?_)
      have hE18 := hE12.of hE18o (by decide) (by decide)
      have u19 : (σ16.1 2).toInt = (σ10.1 2).toInt := by rw [hE18o.1 2 (by decide)]
      refine ⟨⟨by omega, by omega⟩, ?_⟩
      refine ⟨fun c20 => ?_, fun c20 => ?_⟩
      · suffices hs : ∀ (q21 : Int32), q21.toInt = 0 → b_X9isTold_45 Q q21 σ16 from hs 0 rfl
        intro q21 hq21
        unfold b_X9isTold_45
        refine ⟨⟨by omega, by omega⟩, ?_⟩
        exact hq q21 σ16 ⟨by omega, by omega⟩ (by intro h9; omega) hM17 hE18
      · suffices hs : ∀ (q22 : Int32), q22.toInt = 1 → b_X9isTold_45 Q q22 σ16 from hs 1 rfl
        intro q22 hq22
        unfold b_X9isTold_45
        refine ⟨⟨by omega, by omega⟩, ?_⟩
        exact hq q22 σ16 ⟨by omega, by omega⟩ (by intro h9; omega) hM17 hE18
    · unfold b_X9isTold_22
      exact hq 0 σ10 ⟨by decide, by decide⟩ (by intro h9; exact absurd h9 (by decide)) hM11 hE12
set_option maxHeartbeats 2000000 in
theorem rg_X9growOneOfTrial {Q : Int32 → VS → Prop} {σ : VS} (hM : CI σ) (hq : ∀ (r : Int32) (σ' : VS), 0 ≤ r.toInt ∧ r.toInt ≤ 1 → CI σ' → Eo [0, 1, 9, 10] [14, 39, 40, 41, 42, 43, 44, 45, 46, 47, 48, 49, 50, 51, 52] σ σ' → Q r σ') : wp_X9growOneOfTrial Q σ := by
  unfold wp_X9growOneOfTrial
  intro X18 H_18
  have hE : Eo [0, 1, 9, 10] [14, 39, 40, 41, 42, 43, 44, 45, 46, 47, 48, 49, 50, 51, 52] σ σ := Eo.rfl
  obtain ⟨σ0, h0⟩ : ∃ z : VS, z = σ := ⟨_, rfl⟩
  rw [← h0] at hq
  replace hE : Eo [0, 1, 9, 10] [14, 39, 40, 41, 42, 43, 44, 45, 46, 47, 48, 49, 50, 51, 52] σ0 σ := by rw [h0]; exact hE
  clear h0
  refine rg_X2leastSlack hM (fun r1 σ2 hM3 hE4o => ?_)
  have hE4 := hE.of hE4o (by decide) (by decide)
  have bd5 := i3_bd r1
  refine rg_X2leastHold hM3 (fun r6 σ7 hM8 hE9o => ?_)
  have hE9 := hE4.of hE9o (by decide) (by decide)
  have bd10 := i3_bd r6
  have L_18_n11 : ∀ (n11 : Nat) (l1 : Int32) (l2 : Int32) (l3 : Int32) (σ : VS), 50 - l3.toInt < (n11 : Int) → 0 ≤ l3.toInt ∧ l3.toInt ≤ 50 → CI σ → Eo [0, 1, 9, 10] [14, 39, 40, 41, 42, 43, 44, 45, 46, 47, 48, 49, 50, 51, 52] σ0 σ → X18 l1 l2 l3 σ := by
    intro n11
    induction n11 with
    | zero => intro l1 l2 l3 σ hm h_l3 hM hE; exfalso; omega
    | succ n11 ih_n11 =>
      intro l1 l2 l3 σ hm h_l3 hM hE
      have hm2_18 : 50 - l3.toInt < (n11 : Int) + 1 := by omega
      refine H_18 l1 l2 l3 σ ?_
      unfold b_X9growOneOfTrial_18
      have f12 : 0 ≤ (σ.1 19).toInt ∧ (σ.1 19).toInt ≤ 51 := hM.1 19
      generalize ey13 : ((σ.1 19) - 1) = y13
      replace ey13 := ey13.symm
      have ty13 : y13.toInt = (σ.1 19).toInt - 1 := i3_subc rfl rfl ey13 (by omega)
      clear ey13
      refine ⟨fun c14 => ?_, fun c14 => ?_⟩
      · exact hq 0 σ ⟨by decide, by decide⟩ hM hE
      · refine ⟨⟨by omega, by omega⟩, ?_⟩
        have a15 : 0 ≤ (rd σ 59 l3).toInt ∧ (rd σ 59 l3).toInt ≤ 49 := hM.2 59 _
        intro x16 ex16
        have ix16 : x16.toInt = (rd σ 59 l3).toInt := by rw [ex16]
        refine rg_X1hasSize ⟨by omega, by omega⟩ hM (fun r17 σ18 br17 hM19 hE20o => ?_)
        have hE20 := hE.of hE20o (by decide) (by decide)
        have u21 : (σ18.1 19).toInt = (σ.1 19).toInt := by rw [hE20o.1 19 (by decide)]
        have u22 : (rd σ18 59 l3).toInt = (rd σ 59 l3).toInt := by unfold rd; rw [hE20o.2 59 (by decide)]
        refine ⟨fun c23 => ?_, fun c23 => ?_⟩
        · unfold b_X9growOneOfTrial_142
          generalize ey24 : (l3 + 1) = y24
          replace ey24 := ey24.symm
          have ty24 : y24.toInt = l3.toInt + 1 := i3_addc rfl rfl ey24 (by omega)
          clear ey24
          have bd25 := i3_bd l1
          have bd26 := i3_bd l2
          exact ih_n11 l1 l2 y24 σ18 (by omega) (by first | omega | decide) hM19 hE20
        · refine ⟨⟨by omega, by omega⟩, ?_⟩
          have a27 : 0 ≤ (rd σ18 14 x16).toInt ∧ (rd σ18 14 x16).toInt ≤ 2 := hM19.2 14 _
          refine ⟨fun c28 => ?_, fun c28 => ?_⟩
          · unfold b_X9growOneOfTrial_142
            generalize ey29 : (l3 + 1) = y29
            replace ey29 := ey29.symm
            have ty29 : y29.toInt = l3.toInt + 1 := i3_addc rfl rfl ey29 (by omega)
            clear ey29
            have bd30 := i3_bd l1
            have bd31 := i3_bd l2
            exact ih_n11 l1 l2 y29 σ18 (by omega) (by first | omega | decide) hM19 hE20
          · refine ⟨⟨by omega, by omega⟩, ?_⟩
            generalize ey32 : ((rd σ18 14 x16) + 1) = y32
            replace ey32 := ey32.symm
            have ty32 : y32.toInt = (rd σ18 14 x16).toInt + 1 := i3_addc rfl rfl ey32 (by omega)
            clear ey32
            refine ⟨⟨by omega, by omega⟩, ?_⟩
            have hM33 := hM19.sa 14 x16 y32 (show 0 ≤ y32.toInt ∧ y32.toInt ≤ 2 by omega)
            have hE34 := hE20.sa 14 x16 y32 (by decide)
            have u35 : ((sa σ18 14 x16 y32).1 19).toInt = (σ18.1 19).toInt := rfl
            have w36 : (rd (sa σ18 14 x16 y32) 14 x16).toInt = y32.toInt := by rw [rd_sa]
            refine rg_X9forget hM33 (fun σ38 hM39 hE40o => ?_)
            have hE40 := hE34.of hE40o (by decide) (by decide)
            have u41 : (σ38.1 19).toInt = ((sa σ18 14 x16 y32).1 19).toInt := by rw [hE40o.1 19 (by decide)]
            have u42 : (rd σ38 14 x16).toInt = (rd (sa σ18 14 x16 y32) 14 x16).toInt := by unfold rd; rw [hE40o.2 14 (by decide)]
            refine rg_X9refreshRace hM39 (fun σ44 hM45 hE46o => ?_)
            have hE46 := hE40.of hE46o (by decide) (by decide)
            have u47 : (σ44.1 19).toInt = (σ38.1 19).toInt := by rw [hE46o.1 19 (by decide)]
            have u48 : (rd σ44 14 x16).toInt = (rd σ38 14 x16).toInt := by unfold rd; rw [hE46o.2 14 (by decide)]
            refine rg_X2isAnyTold hM45 (fun r49 σ50 br49 hM51 hE52o => ?_)
            have hE52 := hE46.of hE52o (by decide) (by decide)
            have u53 : (σ50.1 19).toInt = (σ44.1 19).toInt := by rw [hE52o.1 19 (by decide)]
            have u54 : (rd σ50 14 x16).toInt = (rd σ44 14 x16).toInt := by unfold rd; rw [hE52o.2 14 (by decide)]
            refine ⟨fun c55 => ?_, fun c55 => ?_⟩
            · unfold b_X9growOneOfTrial_124
              refine ⟨⟨by omega, by omega⟩, ?_⟩
              generalize ey56 : ((rd σ50 14 x16) - 1) = y56
              replace ey56 := ey56.symm
              have ty56 : y56.toInt = (rd σ50 14 x16).toInt - 1 := i3_subc rfl rfl ey56 (by omega)
              clear ey56
              refine ⟨⟨by omega, by omega⟩, ?_⟩
              have hM57 := hM51.sa 14 x16 y56 (show 0 ≤ y56.toInt ∧ y56.toInt ≤ 2 by omega)
              have hE58 := hE52.sa 14 x16 y56 (by decide)
              have u59 : ((sa σ50 14 x16 y56).1 19).toInt = (σ50.1 19).toInt := rfl
              have w60 : (rd (sa σ50 14 x16 y56) 14 x16).toInt = y56.toInt := by rw [rd_sa]
              refine rg_X9forget hM57 (fun σ62 hM63 hE64o => ?_)
              have hE64 := hE58.of hE64o (by decide) (by decide)
              have u65 : (σ62.1 19).toInt = ((sa σ50 14 x16 y56).1 19).toInt := by rw [hE64o.1 19 (by decide)]
              have u66 : (rd σ62 14 x16).toInt = (rd (sa σ50 14 x16 y56) 14 x16).toInt := by unfold rd; rw [hE64o.2 14 (by decide)]
              unfold b_X9growOneOfTrial_142
              generalize ey67 : (l3 + 1) = y67
              replace ey67 := ey67.symm
              have ty67 : y67.toInt = l3.toInt + 1 := i3_addc rfl rfl ey67 (by omega)
              clear ey67
              have bd68 := i3_bd l1
              have bd69 := i3_bd l2
              exact ih_n11 l1 l2 y67 σ62 (by omega) (by first | omega | decide) hM63 hE64
            · refine rg_X2leastSlack hM51 (fun r70 σ71 hM72 hE73o => ?_)
              have hE73 := hE52.of hE73o (by decide) (by decide)
              have bd74 := i3_bd r70
              have u75 : (σ71.1 19).toInt = (σ50.1 19).toInt := by rw [hE73o.1 19 (by decide)]
              have u76 : (rd σ71 14 x16).toInt = (rd σ50 14 x16).toInt := by unfold rd; rw [hE73o.2 14 (by decide)]
              refine ⟨fun c77 => ?_, fun c77 => ?_⟩
              · unfold b_X9growOneOfTrial_124
                refine ⟨⟨by omega, by omega⟩, ?_⟩
                generalize ey78 : ((rd σ71 14 x16) - 1) = y78
                replace ey78 := ey78.symm
                have ty78 : y78.toInt = (rd σ71 14 x16).toInt - 1 := i3_subc rfl rfl ey78 (by omega)
                clear ey78
                refine ⟨⟨by omega, by omega⟩, ?_⟩
                have hM79 := hM72.sa 14 x16 y78 (show 0 ≤ y78.toInt ∧ y78.toInt ≤ 2 by omega)
                have hE80 := hE73.sa 14 x16 y78 (by decide)
                have u81 : ((sa σ71 14 x16 y78).1 19).toInt = (σ71.1 19).toInt := rfl
                have w82 : (rd (sa σ71 14 x16 y78) 14 x16).toInt = y78.toInt := by rw [rd_sa]
                refine rg_X9forget hM79 (fun σ84 hM85 hE86o => ?_)
                have hE86 := hE80.of hE86o (by decide) (by decide)
                have u87 : (σ84.1 19).toInt = ((sa σ71 14 x16 y78).1 19).toInt := by rw [hE86o.1 19 (by decide)]
                have u88 : (rd σ84 14 x16).toInt = (rd (sa σ71 14 x16 y78) 14 x16).toInt := by unfold rd; rw [hE86o.2 14 (by decide)]
                unfold b_X9growOneOfTrial_142
                generalize ey89 : (l3 + 1) = y89
                replace ey89 := ey89.symm
                have ty89 : y89.toInt = l3.toInt + 1 := i3_addc rfl rfl ey89 (by omega)
                clear ey89
                have bd90 := i3_bd l1
                have bd91 := i3_bd l2
                exact ih_n11 l1 l2 y89 σ84 (by omega) (by first | omega | decide) hM85 hE86
              · refine rg_X2leastHold hM72 (fun r92 σ93 hM94 hE95o => ?_)
                have hE95 := hE73.of hE95o (by decide) (by decide)
                have bd96 := i3_bd r92
                have u97 : (σ93.1 19).toInt = (σ71.1 19).toInt := by rw [hE95o.1 19 (by decide)]
                have u98 : (rd σ93 14 x16).toInt = (rd σ71 14 x16).toInt := by unfold rd; rw [hE95o.2 14 (by decide)]
                refine ⟨fun c99 => ?_, fun c99 => ?_⟩
                · unfold b_X9growOneOfTrial_124
                  refine ⟨⟨by omega, by omega⟩, ?_⟩
                  generalize ey100 : ((rd σ93 14 x16) - 1) = y100
                  replace ey100 := ey100.symm
                  have ty100 : y100.toInt = (rd σ93 14 x16).toInt - 1 := i3_subc rfl rfl ey100 (by omega)
                  clear ey100
                  refine ⟨⟨by omega, by omega⟩, ?_⟩
                  have hM101 := hM94.sa 14 x16 y100 (show 0 ≤ y100.toInt ∧ y100.toInt ≤ 2 by omega)
                  have hE102 := hE95.sa 14 x16 y100 (by decide)
                  have u103 : ((sa σ93 14 x16 y100).1 19).toInt = (σ93.1 19).toInt := rfl
                  have w104 : (rd (sa σ93 14 x16 y100) 14 x16).toInt = y100.toInt := by rw [rd_sa]
                  refine rg_X9forget hM101 (fun σ106 hM107 hE108o => ?_)
                  have hE108 := hE102.of hE108o (by decide) (by decide)
                  have u109 : (σ106.1 19).toInt = ((sa σ93 14 x16 y100).1 19).toInt := by rw [hE108o.1 19 (by decide)]
                  have u110 : (rd σ106 14 x16).toInt = (rd (sa σ93 14 x16 y100) 14 x16).toInt := by unfold rd; rw [hE108o.2 14 (by decide)]
                  unfold b_X9growOneOfTrial_142
                  generalize ey111 : (l3 + 1) = y111
                  replace ey111 := ey111.symm
                  have ty111 : y111.toInt = l3.toInt + 1 := i3_addc rfl rfl ey111 (by omega)
                  clear ey111
                  have bd112 := i3_bd l1
                  have bd113 := i3_bd l2
                  exact ih_n11 l1 l2 y111 σ106 (by omega) (by first | omega | decide) hM107 hE108
                · exact hq 1 σ93 ⟨by decide, by decide⟩ hM94 hE95
  exact L_18_n11 ((50 - (0 : Int32).toInt).toNat + 1) r1 r6 0 σ7 (by decide) (by first | omega | decide) hM8 hE9
set_option maxHeartbeats 2000000 in
theorem rg_X9extra {Q : Int32 → VS → Prop} {p1 : Int32} {p2 : Int32} {σ : VS} (hM : CI σ) (hq : ∀ (r : Int32) (σ' : VS), CI σ' → Eo [0, 1] [15] σ σ' → Q r σ') : wp_X9extra Q p1 p2 σ := by
  unfold wp_X9extra
  have hE : Eo [0, 1] [15] σ σ := Eo.rfl
  have bd1 := i3_bd p1
  refine rg_X1has hM (fun r2 σ3 br2 ir2 hM4 hE5o => ?_)
  have hE5 := hE.of hE5o (by decide) (by decide)
  have f6 : 0 ≤ (σ.1 2).toInt ∧ (σ.1 2).toInt ≤ 50 := hM.1 2
  have u7 : (σ3.1 2).toInt = (σ.1 2).toInt := by rw [hE5o.1 2 (by decide)]
  refine ⟨fun c8 => ?_, fun c8 => ?_⟩
  · unfold b_X9extra_22
    exact hq (-1) σ3 hM4 hE5
  · have fc8 : 0 ≤ p1.toInt ∧ p1.toInt < (σ.1 2).toInt := ir2 c8
    have bd9 := i3_bd p2
    refine rg_X9within hM4 (fun r10 σ11 br10 ir10 hM12 hE13o => ?_)
    have hE13 := hE5.of hE13o (by decide) (by decide)
    have u14 : (σ11.1 2).toInt = (σ3.1 2).toInt := by rw [hE13o.1 2 (by decide)]
    refine ⟨fun c15 => ?_, fun c15 => ?_⟩
    · have fc15 : 0 ≤ p2.toInt ∧ p2.toInt ≤ 1000 := ir10 c15
      refine ⟨⟨by omega, by omega⟩, ?_⟩
      have a16 : 0 ≤ (rd σ11 11 p1).toInt ∧ (rd σ11 11 p1).toInt ≤ 5 := hM12.2 11 _
      refine ⟨fun c17 => ?_, fun c17 => ?_⟩
      · refine ⟨⟨by omega, by omega⟩, ?_⟩
        have a18 : 0 ≤ (rd σ11 15 p1).toInt ∧ (rd σ11 15 p1).toInt ≤ 1000 := hM12.2 15 _
        intro x19 ex19
        have ix19 : x19.toInt = (rd σ11 15 p1).toInt := by rw [ex19]
        refine ⟨⟨by omega, by omega⟩, ?_⟩
        have hM20 := hM12.sa 15 p1 p2 (show 0 ≤ p2.toInt ∧ p2.toInt ≤ 1000 by omega)
        have hE21 := hE13.sa 15 p1 p2 (by decide)
        have u22 : ((sa σ11 15 p1 p2).1 2).toInt = (σ11.1 2).toInt := rfl
        have w23 : (rd (sa σ11 15 p1 p2) 15 p1).toInt = p2.toInt := by rw [rd_sa]
        refine rg_X9forget hM20 (fun σ25 hM26 hE27o => ?_)
        have hE27 := hE21.of hE27o (by decide) (by decide)
        have u28 : (σ25.1 2).toInt = ((sa σ11 15 p1 p2).1 2).toInt := by rw [hE27o.1 2 (by decide)]
        have u29 : (rd σ25 15 p1).toInt = (rd (sa σ11 15 p1 p2) 15 p1).toInt := by unfold rd; rw [hE27o.2 15 (by decide)]
        exact hq x19 σ25 hM26 hE27
      · exact hq (-2) σ11 hM12 hE13
    · unfold b_X9extra_22
      exact hq (-1) σ11 hM12 hE13
set_option maxHeartbeats 2000000 in
theorem rg_X9size {Q : Int32 → VS → Prop} {p1 : Int32} {p2 : Int32} {σ : VS} (hM : CI σ) (hq : ∀ (r : Int32) (σ' : VS), CI σ' → Eo [0, 1] [14] σ σ' → Q r σ') : wp_X9size Q p1 p2 σ := by
  unfold wp_X9size
  have hE : Eo [0, 1] [14] σ σ := Eo.rfl
  have bd1 := i3_bd p1
  refine rg_X1has hM (fun r2 σ3 br2 ir2 hM4 hE5o => ?_)
  have hE5 := hE.of hE5o (by decide) (by decide)
  have f6 : 0 ≤ (σ.1 2).toInt ∧ (σ.1 2).toInt ≤ 50 := hM.1 2
  have u7 : (σ3.1 2).toInt = (σ.1 2).toInt := by rw [hE5o.1 2 (by decide)]
  refine ⟨fun c8 => ?_, fun c8 => ?_⟩
  · unfold b_X9size_20
    exact hq (-1) σ3 hM4 hE5
  · have fc8 : 0 ≤ p1.toInt ∧ p1.toInt < (σ.1 2).toInt := ir2 c8
    have bd9 := i3_bd p2
    refine rg_X9within hM4 (fun r10 σ11 br10 ir10 hM12 hE13o => ?_)
    have hE13 := hE5.of hE13o (by decide) (by decide)
    have u14 : (σ11.1 2).toInt = (σ3.1 2).toInt := by rw [hE13o.1 2 (by decide)]
    refine ⟨fun c15 => ?_, fun c15 => ?_⟩
    · have fc15 : 0 ≤ p2.toInt ∧ p2.toInt ≤ 2 := ir10 c15
      refine rg_X1hasSize ⟨by omega, by omega⟩ hM12 (fun r16 σ17 br16 hM18 hE19o => ?_)
      have hE19 := hE13.of hE19o (by decide) (by decide)
      have u20 : (σ17.1 2).toInt = (σ11.1 2).toInt := by rw [hE19o.1 2 (by decide)]
      refine ⟨fun c21 => ?_, fun c21 => ?_⟩
      · refine ⟨⟨by omega, by omega⟩, ?_⟩
        have a22 : 0 ≤ (rd σ17 14 p1).toInt ∧ (rd σ17 14 p1).toInt ≤ 2 := hM18.2 14 _
        intro x23 ex23
        have ix23 : x23.toInt = (rd σ17 14 p1).toInt := by rw [ex23]
        refine ⟨⟨by omega, by omega⟩, ?_⟩
        have hM24 := hM18.sa 14 p1 p2 (show 0 ≤ p2.toInt ∧ p2.toInt ≤ 2 by omega)
        have hE25 := hE19.sa 14 p1 p2 (by decide)
        have u26 : ((sa σ17 14 p1 p2).1 2).toInt = (σ17.1 2).toInt := rfl
        have w27 : (rd (sa σ17 14 p1 p2) 14 p1).toInt = p2.toInt := by rw [rd_sa]
        refine rg_X9forget hM24 (fun σ29 hM30 hE31o => ?_)
        have hE31 := hE25.of hE31o (by decide) (by decide)
        have u32 : (σ29.1 2).toInt = ((sa σ17 14 p1 p2).1 2).toInt := by rw [hE31o.1 2 (by decide)]
        have u33 : (rd σ29 14 p1).toInt = (rd (sa σ17 14 p1 p2) 14 p1).toInt := by unfold rd; rw [hE31o.2 14 (by decide)]
        exact hq x23 σ29 hM30 hE31
      · exact hq (-2) σ17 hM18 hE19
    · unfold b_X9size_20
      exact hq (-1) σ11 hM12 hE13
set_option maxHeartbeats 2000000 in
theorem rg_X9port {Q : Int32 → VS → Prop} {p1 : Int32} {p2 : Int32} {p3 : Int32} {p4 : Int32} {σ : VS} (hM : CI σ) (hq : ∀ (r : Int32) (σ' : VS), CI σ' → Eo [0, 1] [22, 23, 24] σ σ' → Q r σ') : wp_X9port Q p1 p2 p3 p4 σ := by
  unfold wp_X9port
  have hE : Eo [0, 1] [22, 23, 24] σ σ := Eo.rfl
  have bd1 := i3_bd p1
  refine rg_X1has hM (fun r2 σ3 br2 ir2 hM4 hE5o => ?_)
  have hE5 := hE.of hE5o (by decide) (by decide)
  have f6 : 0 ≤ (σ.1 2).toInt ∧ (σ.1 2).toInt ≤ 50 := hM.1 2
  have u7 : (σ3.1 2).toInt = (σ.1 2).toInt := by rw [hE5o.1 2 (by decide)]
  refine ⟨fun c8 => ?_, fun c8 => ?_⟩
  · unfold b_X9port_42
    exact hq (-1) σ3 hM4 hE5
  · have fc8 : 0 ≤ p1.toInt ∧ p1.toInt < (σ.1 2).toInt := ir2 c8
    have bd9 := i3_bd p2
    refine rg_X9within hM4 (fun r10 σ11 br10 ir10 hM12 hE13o => ?_)
    have hE13 := hE5.of hE13o (by decide) (by decide)
    have u14 : (σ11.1 2).toInt = (σ3.1 2).toInt := by rw [hE13o.1 2 (by decide)]
    refine ⟨fun c15 => ?_, fun c15 => ?_⟩
    · unfold b_X9port_42
      exact hq (-1) σ11 hM12 hE13
    · have fc15 : 0 ≤ p2.toInt ∧ p2.toInt ≤ 100000 := ir10 c15
      have bd16 := i3_bd p3
      refine rg_X9within hM12 (fun r17 σ18 br17 ir17 hM19 hE20o => ?_)
      have hE20 := hE13.of hE20o (by decide) (by decide)
      have u21 : (σ18.1 2).toInt = (σ11.1 2).toInt := by rw [hE20o.1 2 (by decide)]
      refine ⟨fun c22 => ?_, fun c22 => ?_⟩
      · unfold b_X9port_42
        exact hq (-1) σ18 hM19 hE20
      · have fc22 : 0 ≤ p3.toInt ∧ p3.toInt ≤ 100000 := ir17 c22
        have bd23 := i3_bd p4
        refine rg_X9within hM19 (fun r24 σ25 br24 ir24 hM26 hE27o => ?_)
        have hE27 := hE20.of hE27o (by decide) (by decide)
        have u28 : (σ25.1 2).toInt = (σ18.1 2).toInt := by rw [hE27o.1 2 (by decide)]
        refine ⟨fun c29 => ?_, fun c29 => ?_⟩
        · have fc29 : 0 ≤ p4.toInt ∧ p4.toInt ≤ 100000 := ir24 c29
          refine ⟨⟨by omega, by omega⟩, ?_⟩
          have a30 : 0 ≤ (rd σ25 11 p1).toInt ∧ (rd σ25 11 p1).toInt ≤ 5 := hM26.2 11 _
          refine ⟨fun c31 => ?_, fun c31 => ?_⟩
          · refine ⟨⟨by omega, by omega⟩, ?_⟩
            have hM32 := hM26.sa 22 p1 p2 (show 0 ≤ p2.toInt ∧ p2.toInt ≤ 100000 by omega)
            have hE33 := hE27.sa 22 p1 p2 (by decide)
            have u34 : ((sa σ25 22 p1 p2).1 2).toInt = (σ25.1 2).toInt := rfl
            have w35 : (rd (sa σ25 22 p1 p2) 22 p1).toInt = p2.toInt := by rw [rd_sa]
            refine ⟨⟨by omega, by omega⟩, ?_⟩
            have hM36 := hM32.sa 23 p1 p3 (show 0 ≤ p3.toInt ∧ p3.toInt ≤ 100000 by omega)
            have hE37 := hE33.sa 23 p1 p3 (by decide)
            have u38 : ((sa (sa σ25 22 p1 p2) 23 p1 p3).1 2).toInt = ((sa σ25 22 p1 p2).1 2).toInt := rfl
            have w39 : (rd (sa (sa σ25 22 p1 p2) 23 p1 p3) 23 p1).toInt = p3.toInt := by rw [rd_sa]
            refine ⟨⟨by omega, by omega⟩, ?_⟩
            have hM40 := hM36.sa 24 p1 p4 (show 0 ≤ p4.toInt ∧ p4.toInt ≤ 100000 by omega)
            have hE41 := hE37.sa 24 p1 p4 (by decide)
            have u42 : ((sa (sa (sa σ25 22 p1 p2) 23 p1 p3) 24 p1 p4).1 2).toInt = ((sa (sa σ25 22 p1 p2) 23 p1 p3).1 2).toInt := rfl
            have w43 : (rd (sa (sa (sa σ25 22 p1 p2) 23 p1 p3) 24 p1 p4) 24 p1).toInt = p4.toInt := by rw [rd_sa]
            refine rg_X9forget hM40 (fun σ45 hM46 hE47o => ?_)
            have hE47 := hE41.of hE47o (by decide) (by decide)
            have u48 : (σ45.1 2).toInt = ((sa (sa (sa σ25 22 p1 p2) 23 p1 p3) 24 p1 p4).1 2).toInt := by rw [hE47o.1 2 (by decide)]
            exact hq 0 σ45 hM46 hE47
          · exact hq (-2) σ25 hM26 hE27
        · unfold b_X9port_42
          exact hq (-1) σ25 hM26 hE27
set_option maxHeartbeats 2000000 in
theorem rg_X9target {Q : Int32 → VS → Prop} {p1 : Int32} {p2 : Int32} {p3 : Int32} {p4 : Int32} {σ : VS} (hM : CI σ) (hq : ∀ (r : Int32) (σ' : VS), CI σ' → Eo [0, 1] [25, 26, 27] σ σ' → Q r σ') : wp_X9target Q p1 p2 p3 p4 σ := by
  unfold wp_X9target
  have hE : Eo [0, 1] [25, 26, 27] σ σ := Eo.rfl
  have bd1 := i3_bd p1
  refine rg_X1has hM (fun r2 σ3 br2 ir2 hM4 hE5o => ?_)
  have hE5 := hE.of hE5o (by decide) (by decide)
  have f6 : 0 ≤ (σ.1 2).toInt ∧ (σ.1 2).toInt ≤ 50 := hM.1 2
  have u7 : (σ3.1 2).toInt = (σ.1 2).toInt := by rw [hE5o.1 2 (by decide)]
  refine ⟨fun c8 => ?_, fun c8 => ?_⟩
  · unfold b_X9target_49
    exact hq (-1) σ3 hM4 hE5
  · have fc8 : 0 ≤ p1.toInt ∧ p1.toInt < (σ.1 2).toInt := ir2 c8
    have bd9 := i3_bd p2
    refine rg_X0hasOrRoot hM4 (fun r10 σ11 br10 ir10 hM12 hE13o => ?_)
    have hE13 := hE5.of hE13o (by decide) (by decide)
    have f14 : 0 ≤ (σ3.1 5).toInt ∧ (σ3.1 5).toInt ≤ 20 := hM4.1 5
    have u15 : (σ11.1 2).toInt = (σ3.1 2).toInt := by rw [hE13o.1 2 (by decide)]
    have u16 : (σ11.1 5).toInt = (σ3.1 5).toInt := by rw [hE13o.1 5 (by decide)]
    refine ⟨fun c17 => ?_, fun c17 => ?_⟩
    · unfold b_X9target_49
      exact hq (-1) σ11 hM12 hE13
    · have fc17 : (-1) ≤ p2.toInt ∧ p2.toInt < (σ3.1 5).toInt := ir10 c17
      have bd18 := i3_bd p3
      refine rg_X9within hM12 (fun r19 σ20 br19 ir19 hM21 hE22o => ?_)
      have hE22 := hE13.of hE22o (by decide) (by decide)
      have u23 : (σ20.1 2).toInt = (σ11.1 2).toInt := by rw [hE22o.1 2 (by decide)]
      have u24 : (σ20.1 5).toInt = (σ11.1 5).toInt := by rw [hE22o.1 5 (by decide)]
      refine ⟨fun c25 => ?_, fun c25 => ?_⟩
      · unfold b_X9target_49
        exact hq (-1) σ20 hM21 hE22
      · have fc25 : (-10000) ≤ p3.toInt ∧ p3.toInt ≤ 10000 := ir19 c25
        have bd26 := i3_bd p4
        refine rg_X9within hM21 (fun r27 σ28 br27 ir27 hM29 hE30o => ?_)
        have hE30 := hE22.of hE30o (by decide) (by decide)
        have u31 : (σ28.1 2).toInt = (σ20.1 2).toInt := by rw [hE30o.1 2 (by decide)]
        have u32 : (σ28.1 5).toInt = (σ20.1 5).toInt := by rw [hE30o.1 5 (by decide)]
        refine ⟨fun c33 => ?_, fun c33 => ?_⟩
        · have fc33 : (-10000) ≤ p4.toInt ∧ p4.toInt ≤ 10000 := ir27 c33
          refine ⟨⟨by omega, by omega⟩, ?_⟩
          have a34 : 0 ≤ (rd σ28 11 p1).toInt ∧ (rd σ28 11 p1).toInt ≤ 5 := hM29.2 11 _
          refine ⟨fun c35 => ?_, fun c35 => ?_⟩
          · unfold b_X9target_71
            refine rg_X1isTarget ⟨by omega, by omega⟩ hM29 (fun r36 σ37 br36 hM38 hE39o => ?_)
            have hE39 := hE30.of hE39o (by decide) (by decide)
            have u40 : (σ37.1 2).toInt = (σ28.1 2).toInt := by rw [hE39o.1 2 (by decide)]
            have u41 : (σ37.1 5).toInt = (σ28.1 5).toInt := by rw [hE39o.1 5 (by decide)]
            have u42 : (rd σ37 11 p1).toInt = (rd σ28 11 p1).toInt := by unfold rd; rw [hE39o.2 11 (by decide)]
            refine ⟨fun c43 => ?_, fun c43 => ?_⟩
            · refine ⟨⟨by omega, by omega⟩, ?_⟩
              have hM44 := hM38.sa 25 p1 p2 (show (-1) ≤ p2.toInt ∧ p2.toInt ≤ 19 by omega)
              have hE45 := hE39.sa 25 p1 p2 (by decide)
              have u46 : ((sa σ37 25 p1 p2).1 2).toInt = (σ37.1 2).toInt := rfl
              have u47 : ((sa σ37 25 p1 p2).1 5).toInt = (σ37.1 5).toInt := rfl
              have w48 : (rd (sa σ37 25 p1 p2) 25 p1).toInt = p2.toInt := by rw [rd_sa]
              refine ⟨⟨by omega, by omega⟩, ?_⟩
              have hM49 := hM44.sa 26 p1 p3 (show (-10000) ≤ p3.toInt ∧ p3.toInt ≤ 10000 by omega)
              have hE50 := hE45.sa 26 p1 p3 (by decide)
              have u51 : ((sa (sa σ37 25 p1 p2) 26 p1 p3).1 2).toInt = ((sa σ37 25 p1 p2).1 2).toInt := rfl
              have u52 : ((sa (sa σ37 25 p1 p2) 26 p1 p3).1 5).toInt = ((sa σ37 25 p1 p2).1 5).toInt := rfl
              have w53 : (rd (sa (sa σ37 25 p1 p2) 26 p1 p3) 26 p1).toInt = p3.toInt := by rw [rd_sa]
              refine ⟨⟨by omega, by omega⟩, ?_⟩
              have hM54 := hM49.sa 27 p1 p4 (show (-10000) ≤ p4.toInt ∧ p4.toInt ≤ 10000 by omega)
              have hE55 := hE50.sa 27 p1 p4 (by decide)
              have u56 : ((sa (sa (sa σ37 25 p1 p2) 26 p1 p3) 27 p1 p4).1 2).toInt = ((sa (sa σ37 25 p1 p2) 26 p1 p3).1 2).toInt := rfl
              have u57 : ((sa (sa (sa σ37 25 p1 p2) 26 p1 p3) 27 p1 p4).1 5).toInt = ((sa (sa σ37 25 p1 p2) 26 p1 p3).1 5).toInt := rfl
              have w58 : (rd (sa (sa (sa σ37 25 p1 p2) 26 p1 p3) 27 p1 p4) 27 p1).toInt = p4.toInt := by rw [rd_sa]
              refine rg_X9forget hM54 (fun σ60 hM61 hE62o => ?_)
              have hE62 := hE55.of hE62o (by decide) (by decide)
              have u63 : (σ60.1 2).toInt = ((sa (sa (sa σ37 25 p1 p2) 26 p1 p3) 27 p1 p4).1 2).toInt := by rw [hE62o.1 2 (by decide)]
              have u64 : (σ60.1 5).toInt = ((sa (sa (sa σ37 25 p1 p2) 26 p1 p3) 27 p1 p4).1 5).toInt := by rw [hE62o.1 5 (by decide)]
              exact hq 0 σ60 hM61 hE62
            · exact hq (-2) σ37 hM38 hE39
          · refine ⟨fun c65 => ?_, fun c65 => ?_⟩
            · unfold b_X9target_71
              refine rg_X1isTarget ⟨by omega, by omega⟩ hM29 (fun r66 σ67 br66 hM68 hE69o => ?_)
              have hE69 := hE30.of hE69o (by decide) (by decide)
              have u70 : (σ67.1 2).toInt = (σ28.1 2).toInt := by rw [hE69o.1 2 (by decide)]
              have u71 : (σ67.1 5).toInt = (σ28.1 5).toInt := by rw [hE69o.1 5 (by decide)]
              have u72 : (rd σ67 11 p1).toInt = (rd σ28 11 p1).toInt := by unfold rd; rw [hE69o.2 11 (by decide)]
              refine ⟨fun c73 => ?_, fun c73 => ?_⟩
              · refine ⟨⟨by omega, by omega⟩, ?_⟩
                have hM74 := hM68.sa 25 p1 p2 (show (-1) ≤ p2.toInt ∧ p2.toInt ≤ 19 by omega)
                have hE75 := hE69.sa 25 p1 p2 (by decide)
                have u76 : ((sa σ67 25 p1 p2).1 2).toInt = (σ67.1 2).toInt := rfl
                have u77 : ((sa σ67 25 p1 p2).1 5).toInt = (σ67.1 5).toInt := rfl
                have w78 : (rd (sa σ67 25 p1 p2) 25 p1).toInt = p2.toInt := by rw [rd_sa]
                refine ⟨⟨by omega, by omega⟩, ?_⟩
                have hM79 := hM74.sa 26 p1 p3 (show (-10000) ≤ p3.toInt ∧ p3.toInt ≤ 10000 by omega)
                have hE80 := hE75.sa 26 p1 p3 (by decide)
                have u81 : ((sa (sa σ67 25 p1 p2) 26 p1 p3).1 2).toInt = ((sa σ67 25 p1 p2).1 2).toInt := rfl
                have u82 : ((sa (sa σ67 25 p1 p2) 26 p1 p3).1 5).toInt = ((sa σ67 25 p1 p2).1 5).toInt := rfl
                have w83 : (rd (sa (sa σ67 25 p1 p2) 26 p1 p3) 26 p1).toInt = p3.toInt := by rw [rd_sa]
                refine ⟨⟨by omega, by omega⟩, ?_⟩
                have hM84 := hM79.sa 27 p1 p4 (show (-10000) ≤ p4.toInt ∧ p4.toInt ≤ 10000 by omega)
                have hE85 := hE80.sa 27 p1 p4 (by decide)
                have u86 : ((sa (sa (sa σ67 25 p1 p2) 26 p1 p3) 27 p1 p4).1 2).toInt = ((sa (sa σ67 25 p1 p2) 26 p1 p3).1 2).toInt := rfl
                have u87 : ((sa (sa (sa σ67 25 p1 p2) 26 p1 p3) 27 p1 p4).1 5).toInt = ((sa (sa σ67 25 p1 p2) 26 p1 p3).1 5).toInt := rfl
                have w88 : (rd (sa (sa (sa σ67 25 p1 p2) 26 p1 p3) 27 p1 p4) 27 p1).toInt = p4.toInt := by rw [rd_sa]
                refine rg_X9forget hM84 (fun σ90 hM91 hE92o => ?_)
                have hE92 := hE85.of hE92o (by decide) (by decide)
                have u93 : (σ90.1 2).toInt = ((sa (sa (sa σ67 25 p1 p2) 26 p1 p3) 27 p1 p4).1 2).toInt := by rw [hE92o.1 2 (by decide)]
                have u94 : (σ90.1 5).toInt = ((sa (sa (sa σ67 25 p1 p2) 26 p1 p3) 27 p1 p4).1 5).toInt := by rw [hE92o.1 5 (by decide)]
                exact hq 0 σ90 hM91 hE92
              · exact hq (-2) σ67 hM68 hE69
            · exact hq (-1) σ28 hM29 hE30
        · unfold b_X9target_49
          exact hq (-1) σ28 hM29 hE30
set_option maxHeartbeats 2000000 in
theorem rg_X9entry {Q : Int32 → VS → Prop} {p1 : Int32} {p2 : Int32} {p3 : Int32} {p4 : Int32} {p5 : Int32} {σ : VS} (hM : CI σ) (hq : ∀ (r : Int32) (σ' : VS), CI σ' → Eo [0, 1] [36] σ σ' → Q r σ') : wp_X9entry Q p1 p2 p3 p4 p5 σ := by
  unfold wp_X9entry
  have hE : Eo [0, 1] [36] σ σ := Eo.rfl
  have bd1 := i3_bd p1
  have bd2 := i3_bd p2
  have bd3 := i3_bd p3
  refine rg_X5hasRow hM (fun r4 σ5 br4 ir4 hM6 hE7o => ?_)
  have hE7 := hE.of hE7o (by decide) (by decide)
  refine ⟨fun c8 => ?_, fun c8 => ?_⟩
  · unfold b_X9entry_31
    exact hq (-1) σ5 hM6 hE7
  · have fc8 : 0 ≤ p1.toInt ∧ p1.toInt ≤ 7 ∧ 0 ≤ p2.toInt ∧ p2.toInt ≤ 1 ∧ 0 ≤ p3.toInt ∧ p3.toInt ≤ 3 := ir4 c8
    have bd9 := i3_bd p4
    refine rg_X9within hM6 (fun r10 σ11 br10 ir10 hM12 hE13o => ?_)
    have hE13 := hE7.of hE13o (by decide) (by decide)
    refine ⟨fun c14 => ?_, fun c14 => ?_⟩
    · unfold b_X9entry_31
      exact hq (-1) σ11 hM12 hE13
    · have fc14 : 0 ≤ p4.toInt ∧ p4.toInt ≤ 2 := ir10 c14
      have bd15 := i3_bd p5
      refine rg_X9within hM12 (fun r16 σ17 br16 ir16 hM18 hE19o => ?_)
      have hE19 := hE13.of hE19o (by decide) (by decide)
      refine ⟨fun c20 => ?_, fun c20 => ?_⟩
      · have fc20 : 0 ≤ p5.toInt ∧ p5.toInt ≤ 3000 := ir16 c20
        refine rg_X5rowPlace ⟨by omega, by omega⟩ ⟨by omega, by omega⟩ ⟨by omega, by omega⟩ hM18 (fun r21 σ22 br21 hM23 hE24o => ?_)
        have hE24 := hE19.of hE24o (by decide) (by decide)
        refine rg_X5whyAbsent ⟨by omega, by omega⟩ hM23 (fun r25 σ26 br25 hM27 hE28o => ?_)
        have hE28 := hE24.of hE28o (by decide) (by decide)
        refine ⟨fun c29 => ?_, fun c29 => ?_⟩
        · generalize ey30 : (r21 * 3) = y30
          replace ey30 := ey30.symm
          have ty30 : y30.toInt = r21.toInt * 3 := i3_mulc rfl rfl ey30 (by omega)
          clear ey30
          generalize ey31 : (y30 + p4) = y31
          replace ey31 := ey31.symm
          have ty31 : y31.toInt = y30.toInt + p4.toInt := i3_addc rfl rfl ey31 (by omega)
          clear ey31
          refine ⟨⟨by omega, by omega⟩, ?_⟩
          have a32 : 0 ≤ (rd σ26 36 y31).toInt ∧ (rd σ26 36 y31).toInt ≤ 3000 := hM27.2 36 _
          intro x33 ex33
          have ix33 : x33.toInt = (rd σ26 36 y31).toInt := by rw [ex33]
          refine ⟨⟨by omega, by omega⟩, ?_⟩
          have hM34 := hM27.sa 36 y31 p5 (show 0 ≤ p5.toInt ∧ p5.toInt ≤ 3000 by omega)
          have hE35 := hE28.sa 36 y31 p5 (by decide)
          have w36 : (rd (sa σ26 36 y31 p5) 36 y31).toInt = p5.toInt := by rw [rd_sa]
          refine rg_X9forget hM34 (fun σ38 hM39 hE40o => ?_)
          have hE40 := hE35.of hE40o (by decide) (by decide)
          have u41 : (rd σ38 36 y31).toInt = (rd (sa σ26 36 y31 p5) 36 y31).toInt := by unfold rd; rw [hE40o.2 36 (by decide)]
          exact hq x33 σ38 hM39 hE40
        · exact hq r25 σ26 hM27 hE28
      · unfold b_X9entry_31
        exact hq (-1) σ17 hM18 hE19
set_option maxHeartbeats 2000000 in
theorem rg_X9tear {Q : Int32 → VS → Prop} {p1 : Int32} {p2 : Int32} {p3 : Int32} {p4 : Int32} {σ : VS} (hM : CI σ) (hq : ∀ (r : Int32) (σ' : VS), CI σ' → Eo [0, 1] [36, 37] σ σ' → Q r σ') : wp_X9tear Q p1 p2 p3 p4 σ := by
  unfold wp_X9tear
  have hE : Eo [0, 1] [36, 37] σ σ := Eo.rfl
  have bd1 := i3_bd p1
  have bd2 := i3_bd p2
  have bd3 := i3_bd p3
  refine rg_X5hasRow hM (fun r4 σ5 br4 ir4 hM6 hE7o => ?_)
  have hE7 := hE.of hE7o (by decide) (by decide)
  refine ⟨fun c8 => ?_, fun c8 => ?_⟩
  · unfold b_X9tear_19
    exact hq (-1) σ5 hM6 hE7
  · have fc8 : 0 ≤ p1.toInt ∧ p1.toInt ≤ 7 ∧ 0 ≤ p2.toInt ∧ p2.toInt ≤ 1 ∧ 0 ≤ p3.toInt ∧ p3.toInt ≤ 3 := ir4 c8
    have bd9 := i3_bd p4
    refine rg_X9within hM6 (fun r10 σ11 br10 ir10 hM12 hE13o => ?_)
    have hE13 := hE7.of hE13o (by decide) (by decide)
    refine ⟨fun c14 => ?_, fun c14 => ?_⟩
    · have fc14 : 0 ≤ p4.toInt ∧ p4.toInt ≤ 3 := ir10 c14
      refine rg_X9forget hM12 (fun σ16 hM17 hE18o => ?_)
      have hE18 := hE13.of hE18o (by decide) (by decide)
      refine rg_X5rowPlace ⟨by omega, by omega⟩ ⟨by omega, by omega⟩ ⟨by omega, by omega⟩ hM17 (fun r19 σ20 br19 hM21 hE22o => ?_)
      have hE22 := hE18.of hE22o (by decide) (by decide)
      refine rg_X5cutRow ⟨by omega, by omega⟩ ⟨by omega, by omega⟩ hM21 (fun r23 σ24 br23 hM25 hE26o => ?_)
      have hE26 := hE22.of hE26o (by decide) (by decide)
      exact hq r23 σ24 hM25 hE26
    · unfold b_X9tear_19
      exact hq (-1) σ11 hM12 hE13
set_option maxHeartbeats 2000000 in
theorem rg_X9fall {Q : Int32 → VS → Prop} {p1 : Int32} {p2 : Int32} {σ : VS} (hM : CI σ) (hq : ∀ (r : Int32) (σ' : VS), CI σ' → Eo [0, 1] [38] σ σ' → Q r σ') : wp_X9fall Q p1 p2 σ := by
  unfold wp_X9fall
  have hE : Eo [0, 1] [38] σ σ := Eo.rfl
  have bd1 := i3_bd p1
  refine rg_X5has hM (fun r2 σ3 br2 ir2 hM4 hE5o => ?_)
  have hE5 := hE.of hE5o (by decide) (by decide)
  refine ⟨fun c6 => ?_, fun c6 => ?_⟩
  · unfold b_X9fall_18
    exact hq (-1) σ3 hM4 hE5
  · have fc6 : 0 ≤ p1.toInt ∧ p1.toInt ≤ 7 := ir2 c6
    have bd7 := i3_bd p2
    refine rg_X9within hM4 (fun r8 σ9 br8 ir8 hM10 hE11o => ?_)
    have hE11 := hE5.of hE11o (by decide) (by decide)
    refine ⟨fun c12 => ?_, fun c12 => ?_⟩
    · have fc12 : 0 ≤ p2.toInt ∧ p2.toInt ≤ 1000 := ir8 c12
      refine ⟨⟨by omega, by omega⟩, ?_⟩
      have a13 : 0 ≤ (rd σ9 38 p1).toInt ∧ (rd σ9 38 p1).toInt ≤ 1000 := hM10.2 38 _
      intro x14 ex14
      have ix14 : x14.toInt = (rd σ9 38 p1).toInt := by rw [ex14]
      refine ⟨⟨by omega, by omega⟩, ?_⟩
      have hM15 := hM10.sa 38 p1 p2 (show 0 ≤ p2.toInt ∧ p2.toInt ≤ 1000 by omega)
      have hE16 := hE11.sa 38 p1 p2 (by decide)
      have w17 : (rd (sa σ9 38 p1 p2) 38 p1).toInt = p2.toInt := by rw [rd_sa]
      refine rg_X9forget hM15 (fun σ19 hM20 hE21o => ?_)
      have hE21 := hE16.of hE21o (by decide) (by decide)
      have u22 : (rd σ19 38 p1).toInt = (rd (sa σ9 38 p1 p2) 38 p1).toInt := by unfold rd; rw [hE21o.2 38 (by decide)]
      exact hq x14 σ19 hM20 hE21
    · unfold b_X9fall_18
      exact hq (-1) σ9 hM10 hE11
set_option maxHeartbeats 2000000 in
theorem rg_X9corner {Q : Int32 → VS → Prop} {p1 : Int32} {p2 : Int32} {σ : VS} (hM : CI σ) (hq : ∀ (r : Int32) (σ' : VS), CI σ' → Eo [0, 1, 7, 8] [] σ σ' → Q r σ') : wp_X9corner Q p1 p2 σ := by
  unfold wp_X9corner
  have hE : Eo [0, 1, 7, 8] [] σ σ := Eo.rfl
  have bd1 := i3_bd p1
  refine rg_X9within hM (fun r2 σ3 br2 ir2 hM4 hE5o => ?_)
  have hE5 := hE.of hE5o (by decide) (by decide)
  refine ⟨fun c6 => ?_, fun c6 => ?_⟩
  · unfold b_X9corner_22
    exact hq (-1) σ3 hM4 hE5
  · have fc6 : 0 ≤ p1.toInt ∧ p1.toInt ≤ 500 := ir2 c6
    have bd7 := i3_bd p2
    refine rg_X9within hM4 (fun r8 σ9 br8 ir8 hM10 hE11o => ?_)
    have hE11 := hE5.of hE11o (by decide) (by decide)
    refine ⟨fun c12 => ?_, fun c12 => ?_⟩
    · have fc12 : 0 ≤ p2.toInt ∧ p2.toInt ≤ 500 := ir8 c12
      have hM13 := hM10.sf 7 p1 (show 0 ≤ p1.toInt ∧ p1.toInt ≤ 500 by omega)
      have hE14 := hE11.sf 7 p1 (by decide)
      have hM15 := hM13.sf 8 p2 (show 0 ≤ p2.toInt ∧ p2.toInt ≤ 500 by omega)
      have hE16 := hE14.sf 8 p2 (by decide)
      refine rg_X9forget hM15 (fun σ18 hM19 hE20o => ?_)
      have hE20 := hE16.of hE20o (by decide) (by decide)
      exact hq 0 σ18 hM19 hE20
    · unfold b_X9corner_22
      exact hq (-1) σ9 hM10 hE11
set_option maxHeartbeats 2000000 in
theorem rg_X9period {Q : Int32 → VS → Prop} {p1 : Int32} {σ : VS} (hM : CI σ) (hq : ∀ (r : Int32) (σ' : VS), CI σ' → Eo [0, 1, 4] [] σ σ' → Q r σ') : wp_X9period Q p1 σ := by
  unfold wp_X9period
  have hE : Eo [0, 1, 4] [] σ σ := Eo.rfl
  have bd1 := i3_bd p1
  refine rg_X9within hM (fun r2 σ3 br2 ir2 hM4 hE5o => ?_)
  have hE5 := hE.of hE5o (by decide) (by decide)
  refine ⟨fun c6 => ?_, fun c6 => ?_⟩
  · have fc6 : 1 ≤ p1.toInt ∧ p1.toInt ≤ 1000000 := ir2 c6
    have f7 : 1 ≤ (σ3.1 4).toInt ∧ (σ3.1 4).toInt ≤ 1000000 := hM4.1 4
    intro x8 ex8
    have ix8 : x8.toInt = (σ3.1 4).toInt := by rw [ex8]
    have hM9 := hM4.sf 4 p1 (show 1 ≤ p1.toInt ∧ p1.toInt ≤ 1000000 by omega)
    have hE10 := hE5.sf 4 p1 (by decide)
    have u11 : ((sf σ3 4 p1).1 4).toInt = p1.toInt := rfl
    refine rg_X9forget hM9 (fun σ13 hM14 hE15o => ?_)
    have hE15 := hE10.of hE15o (by decide) (by decide)
    have u16 : (σ13.1 4).toInt = ((sf σ3 4 p1).1 4).toInt := by rw [hE15o.1 4 (by decide)]
    exact hq x8 σ13 hM14 hE15
  · exact hq (-1) σ3 hM4 hE5
set_option maxHeartbeats 2000000 in
theorem rg_X9node {Q : Int32 → VS → Prop} {p1 : Int32} {p2 : Int32} {p3 : Int32} {σ : VS} (hM : CI σ) (hq : ∀ (r : Int32) (σ' : VS), CI σ' → Eo [5] [28, 29, 30] σ σ' → Q r σ') : wp_X9node Q p1 p2 p3 σ := by
  unfold wp_X9node
  have hE : Eo [5] [28, 29, 30] σ σ := Eo.rfl
  have bd1 := i3_bd p1
  refine rg_X0hasOrRoot hM (fun r2 σ3 br2 ir2 hM4 hE5o => ?_)
  have hE5 := hE.of hE5o (by decide) (by decide)
  have f6 : 0 ≤ (σ.1 5).toInt ∧ (σ.1 5).toInt ≤ 20 := hM.1 5
  have u7 : (σ3.1 5).toInt = (σ.1 5).toInt := by rw [hE5o.1 5 (by decide)]
  refine ⟨fun c8 => ?_, fun c8 => ?_⟩
  · unfold b_X9node_26
    exact hq (-1) σ3 hM4 hE5
  · have fc8 : (-1) ≤ p1.toInt ∧ p1.toInt < (σ.1 5).toInt := ir2 c8
    refine ⟨fun c9 => ?_, fun c9 => ?_⟩
    · unfold b_X9node_26
      exact hq (-1) σ3 hM4 hE5
    · refine ⟨fun c10 => ?_, fun c10 => ?_⟩
      · unfold b_X9node_26
        exact hq (-1) σ3 hM4 hE5
      · refine ⟨fun c11 => ?_, fun c11 => ?_⟩
        · refine ⟨fun c12 => ?_, fun c12 => ?_⟩
          · have bd13 := i3_bd p2
            refine rg_X0addNode ⟨by omega, by omega⟩ ⟨by omega, by omega⟩ hM4 (fun r14 σ15 hM16 hE17o => ?_)
            have hE17 := hE5.of hE17o (by decide) (by decide)
            have bd18 := i3_bd r14
            exact hq r14 σ15 hM16 hE17
          · exact hq (-3) σ3 hM4 hE5
        · unfold b_X9node_26
          exact hq (-1) σ3 hM4 hE5
set_option maxHeartbeats 2000000 in
theorem rg_X9except {Q : Int32 → VS → Prop} {p1 : Int32} {p2 : Int32} {p3 : Int32} {p4 : Int32} {σ : VS} (hM : CI σ) (hq : ∀ (r : Int32) (σ' : VS), CI σ' → Eo [0, 1, 6] [31, 32, 33, 34, 35] σ σ' → Q r σ') : wp_X9except Q p1 p2 p3 p4 σ := by
  unfold wp_X9except
  have hE : Eo [0, 1, 6] [31, 32, 33, 34, 35] σ σ := Eo.rfl
  refine ⟨fun c1 => ?_, fun c1 => ?_⟩
  · unfold b_X9except_13
    have bd2 := i3_bd p2
    refine rg_X9hasOrAny hM (fun r3 σ4 br3 ir3 hM5 hE6o => ?_)
    have hE6 := hE.of hE6o (by decide) (by decide)
    refine ⟨fun c7 => ?_, fun c7 => ?_⟩
    · unfold b_X9except_38
      exact hq (-1) σ4 hM5 hE6
    · have fc7 : (-1) ≤ p2.toInt ∧ p2.toInt ≤ 49 := ir3 c7
      have bd8 := i3_bd p3
      refine rg_X9hasOrAny hM5 (fun r9 σ10 br9 ir9 hM11 hE12o => ?_)
      have hE12 := hE6.of hE12o (by decide) (by decide)
      refine ⟨fun c13 => ?_, fun c13 => ?_⟩
      · unfold b_X9except_38
        exact hq (-1) σ10 hM11 hE12
      · have fc13 : (-1) ≤ p3.toInt ∧ p3.toInt ≤ 49 := ir9 c13
        have bd14 := i3_bd p4
        refine rg_X9hasOrAny hM11 (fun r15 σ16 br15 ir15 hM17 hE18o => ?_)
        have hE18 := hE12.of hE18o (by decide) (by decide)
        refine ⟨fun c19 => ?_, fun c19 => ?_⟩
        · have fc19 : (-1) ≤ p4.toInt ∧ p4.toInt ≤ 49 := ir15 c19
          refine ⟨fun c20 => ?_, fun c20 => ?_⟩
          · unfold b_X9except_58
            have f21 : 0 ≤ (σ16.1 6).toInt ∧ (σ16.1 6).toInt ≤ 4 := hM17.1 6
            refine ⟨fun c22 => ?_, fun c22 => ?_⟩
            · refine rg_X9forget hM17 (fun σ24 hM25 hE26o => ?_)
              have hE26 := hE18.of hE26o (by decide) (by decide)
              have u27 : (σ24.1 6).toInt = (σ16.1 6).toInt := by rw [hE26o.1 6 (by decide)]
              refine rg_X3addRule ⟨by omega, by omega⟩ ⟨by omega, by omega⟩ ⟨by omega, by omega⟩ ⟨by omega, by omega⟩ ⟨by omega, by omega⟩ hM25 (fun r28 σ29 hM30 hE31o => ?_)
              have hE31 := hE26.of hE31o (by decide) (by decide)
              have bd32 := i3_bd r28
              exact hq r28 σ29 hM30 hE31
            · exact hq (-3) σ16 hM17 hE18
          · refine ⟨fun c33 => ?_, fun c33 => ?_⟩
            · unfold b_X9except_58
              have f34 : 0 ≤ (σ16.1 6).toInt ∧ (σ16.1 6).toInt ≤ 4 := hM17.1 6
              refine ⟨fun c35 => ?_, fun c35 => ?_⟩
              · refine rg_X9forget hM17 (fun σ37 hM38 hE39o => ?_)
                have hE39 := hE18.of hE39o (by decide) (by decide)
                have u40 : (σ37.1 6).toInt = (σ16.1 6).toInt := by rw [hE39o.1 6 (by decide)]
                refine rg_X3addRule ⟨by omega, by omega⟩ ⟨by omega, by omega⟩ ⟨by omega, by omega⟩ ⟨by omega, by omega⟩ ⟨by omega, by omega⟩ hM38 (fun r41 σ42 hM43 hE44o => ?_)
                have hE44 := hE39.of hE44o (by decide) (by decide)
                have bd45 := i3_bd r41
                exact hq r41 σ42 hM43 hE44
              · exact hq (-3) σ16 hM17 hE18
            · refine ⟨fun c46 => ?_, fun c46 => ?_⟩
              · unfold b_X9except_58
                have f47 : 0 ≤ (σ16.1 6).toInt ∧ (σ16.1 6).toInt ≤ 4 := hM17.1 6
                refine ⟨fun c48 => ?_, fun c48 => ?_⟩
                · refine rg_X9forget hM17 (fun σ50 hM51 hE52o => ?_)
                  have hE52 := hE18.of hE52o (by decide) (by decide)
                  have u53 : (σ50.1 6).toInt = (σ16.1 6).toInt := by rw [hE52o.1 6 (by decide)]
                  refine rg_X3addRule ⟨by omega, by omega⟩ ⟨by omega, by omega⟩ ⟨by omega, by omega⟩ ⟨by omega, by omega⟩ ⟨by omega, by omega⟩ hM51 (fun r54 σ55 hM56 hE57o => ?_)
                  have hE57 := hE52.of hE57o (by decide) (by decide)
                  have bd58 := i3_bd r54
                  exact hq r54 σ55 hM56 hE57
                · exact hq (-3) σ16 hM17 hE18
              · exact hq (-1) σ16 hM17 hE18
        · unfold b_X9except_38
          exact hq (-1) σ16 hM17 hE18
  · have bd59 := i3_bd p1
    refine rg_X9within hM (fun r60 σ61 br60 ir60 hM62 hE63o => ?_)
    have hE63 := hE.of hE63o (by decide) (by decide)
    refine ⟨fun c64 => ?_, fun c64 => ?_⟩
    · unfold b_X9except_38
      exact hq (-1) σ61 hM62 hE63
    · have fc64 : 2 ≤ p1.toInt ∧ p1.toInt ≤ 4 := ir60 c64
      unfold b_X9except_13
      have bd65 := i3_bd p2
      refine rg_X9hasOrAny hM62 (fun r66 σ67 br66 ir66 hM68 hE69o => ?_)
      have hE69 := hE63.of hE69o (by decide) (by decide)
      refine ⟨fun c70 => ?_, fun c70 => ?_⟩
      · unfold b_X9except_38
        exact hq (-1) σ67 hM68 hE69
      · have fc70 : (-1) ≤ p2.toInt ∧ p2.toInt ≤ 49 := ir66 c70
        have bd71 := i3_bd p3
        refine rg_X9hasOrAny hM68 (fun r72 σ73 br72 ir72 hM74 hE75o => ?_)
        have hE75 := hE69.of hE75o (by decide) (by decide)
        refine ⟨fun c76 => ?_, fun c76 => ?_⟩
        · unfold b_X9except_38
          exact hq (-1) σ73 hM74 hE75
        · have fc76 : (-1) ≤ p3.toInt ∧ p3.toInt ≤ 49 := ir72 c76
          have bd77 := i3_bd p4
          refine rg_X9hasOrAny hM74 (fun r78 σ79 br78 ir78 hM80 hE81o => ?_)
          have hE81 := hE75.of hE81o (by decide) (by decide)
          refine ⟨fun c82 => ?_, fun c82 => ?_⟩
          · have fc82 : (-1) ≤ p4.toInt ∧ p4.toInt ≤ 49 := ir78 c82
            refine ⟨fun c83 => ?_, fun c83 => ?_⟩
            · unfold b_X9except_58
              have f84 : 0 ≤ (σ79.1 6).toInt ∧ (σ79.1 6).toInt ≤ 4 := hM80.1 6
              refine ⟨fun c85 => ?_, fun c85 => ?_⟩
              · refine rg_X9forget hM80 (fun σ87 hM88 hE89o => ?_)
                have hE89 := hE81.of hE89o (by decide) (by decide)
                have u90 : (σ87.1 6).toInt = (σ79.1 6).toInt := by rw [hE89o.1 6 (by decide)]
                refine rg_X3addRule ⟨by omega, by omega⟩ ⟨by omega, by omega⟩ ⟨by omega, by omega⟩ ⟨by omega, by omega⟩ ⟨by omega, by omega⟩ hM88 (fun r91 σ92 hM93 hE94o => ?_)
                have hE94 := hE89.of hE94o (by decide) (by decide)
                have bd95 := i3_bd r91
                exact hq r91 σ92 hM93 hE94
              · exact hq (-3) σ79 hM80 hE81
            · refine ⟨fun c96 => ?_, fun c96 => ?_⟩
              · unfold b_X9except_58
                have f97 : 0 ≤ (σ79.1 6).toInt ∧ (σ79.1 6).toInt ≤ 4 := hM80.1 6
                refine ⟨fun c98 => ?_, fun c98 => ?_⟩
                · refine rg_X9forget hM80 (fun σ100 hM101 hE102o => ?_)
                  have hE102 := hE81.of hE102o (by decide) (by decide)
                  have u103 : (σ100.1 6).toInt = (σ79.1 6).toInt := by rw [hE102o.1 6 (by decide)]
                  refine rg_X3addRule ⟨by omega, by omega⟩ ⟨by omega, by omega⟩ ⟨by omega, by omega⟩ ⟨by omega, by omega⟩ ⟨by omega, by omega⟩ hM101 (fun r104 σ105 hM106 hE107o => ?_)
                  have hE107 := hE102.of hE107o (by decide) (by decide)
                  have bd108 := i3_bd r104
                  exact hq r104 σ105 hM106 hE107
                · exact hq (-3) σ79 hM80 hE81
              · refine ⟨fun c109 => ?_, fun c109 => ?_⟩
                · unfold b_X9except_58
                  have f110 : 0 ≤ (σ79.1 6).toInt ∧ (σ79.1 6).toInt ≤ 4 := hM80.1 6
                  refine ⟨fun c111 => ?_, fun c111 => ?_⟩
                  · refine rg_X9forget hM80 (fun σ113 hM114 hE115o => ?_)
                    have hE115 := hE81.of hE115o (by decide) (by decide)
                    have u116 : (σ113.1 6).toInt = (σ79.1 6).toInt := by rw [hE115o.1 6 (by decide)]
                    refine rg_X3addRule ⟨by omega, by omega⟩ ⟨by omega, by omega⟩ ⟨by omega, by omega⟩ ⟨by omega, by omega⟩ ⟨by omega, by omega⟩ hM114 (fun r117 σ118 hM119 hE120o => ?_)
                    have hE120 := hE115.of hE120o (by decide) (by decide)
                    have bd121 := i3_bd r117
                    exact hq r117 σ118 hM119 hE120
                  · exact hq (-3) σ79 hM80 hE81
                · exact hq (-1) σ79 hM80 hE81
          · unfold b_X9except_38
            exact hq (-1) σ79 hM80 hE81
set_option maxHeartbeats 2000000 in
theorem rg_X9unexcept {Q : Int32 → VS → Prop} {σ : VS} (hM : CI σ) (hq : ∀ (r : Int32) (σ' : VS), CI σ' → Eo [0, 1, 6] [35] σ σ' → Q r σ') : wp_X9unexcept Q σ := by
  unfold wp_X9unexcept
  have hE : Eo [0, 1, 6] [35] σ σ := Eo.rfl
  have f1 : 0 ≤ (σ.1 6).toInt ∧ (σ.1 6).toInt ≤ 4 := hM.1 6
  refine ⟨fun c2 => ?_, fun c2 => ?_⟩
  · refine rg_X9forget hM (fun σ4 hM5 hE6o => ?_)
    have hE6 := hE.of hE6o (by decide) (by decide)
    have u7 : (σ4.1 6).toInt = (σ.1 6).toInt := by rw [hE6o.1 6 (by decide)]
    refine rg_X3dropLatest ⟨by omega, by omega⟩ hM5 (fun r8 σ9 hM10 hE11o => ?_)
    have hE11 := hE6.of hE11o (by decide) (by decide)
    have bd12 := i3_bd r8
    exact hq r8 σ9 hM10 hE11
  · exact hq (-1) σ hM hE
set_option maxHeartbeats 2000000 in
theorem rg_X9about {Q : Int32 → VS → Prop} {p1 : Int32} {p2 : Int32} {σ : VS} (hM : CI σ) (hq : ∀ (r : Int32) (σ' : VS), CI σ' → Eo [0] [39, 40, 41, 42, 43, 44, 45, 46] σ σ' → Q r σ') : wp_X9about Q p1 p2 σ := by
  unfold wp_X9about
  have hE : Eo [0] [39, 40, 41, 42, 43, 44, 45, 46] σ σ := Eo.rfl
  have bd1 := i3_bd p1
  refine rg_X1has hM (fun r2 σ3 br2 ir2 hM4 hE5o => ?_)
  have hE5 := hE.of hE5o (by decide) (by decide)
  have f6 : 0 ≤ (σ.1 2).toInt ∧ (σ.1 2).toInt ≤ 50 := hM.1 2
  have u7 : (σ3.1 2).toInt = (σ.1 2).toInt := by rw [hE5o.1 2 (by decide)]
  refine ⟨fun c8 => ?_, fun c8 => ?_⟩
  · have fc8 : 0 ≤ p1.toInt ∧ p1.toInt < (σ.1 2).toInt := ir2 c8
    refine ⟨fun hc => ?_, fun hc => ?_, fun hc => ?_, fun hc => ?_, fun hc => ?_, fun hc => ?_, fun hc => ?_⟩
    · refine ⟨⟨by omega, by omega⟩, ?_⟩
      have a9 : 0 ≤ (rd σ3 11 p1).toInt ∧ (rd σ3 11 p1).toInt ≤ 5 := hM4.2 11 _
      exact hq (rd σ3 11 p1) σ3 hM4 hE5
    · refine ⟨⟨by omega, by omega⟩, ?_⟩
      have a10 : 0 ≤ (rd σ3 12 p1).toInt ∧ (rd σ3 12 p1).toInt ≤ 4 := hM4.2 12 _
      exact hq (rd σ3 12 p1) σ3 hM4 hE5
    · refine ⟨⟨by omega, by omega⟩, ?_⟩
      have a11 : 0 ≤ (rd σ3 14 p1).toInt ∧ (rd σ3 14 p1).toInt ≤ 2 := hM4.2 14 _
      exact hq (rd σ3 14 p1) σ3 hM4 hE5
    · refine rg_X1loadOf ⟨by omega, by omega⟩ hM4 (fun r12 σ13 hM14 hE15o => ?_)
      have hE15 := hE5.of hE15o (by decide) (by decide)
      have bd16 := i3_bd r12
      have u17 : (σ13.1 2).toInt = (σ3.1 2).toInt := by rw [hE15o.1 2 (by decide)]
      exact hq r12 σ13 hM14 hE15
    · refine rg_X9refreshTiming hM4 (fun σ19 hM20 hE21o => ?_)
      have hE21 := hE5.of hE21o (by decide) (by decide)
      have u22 : (σ19.1 2).toInt = (σ3.1 2).toInt := by rw [hE21o.1 2 (by decide)]
      refine rg_X6isReached ⟨by omega, by omega⟩ hM20 (fun r23 σ24 br23 hM25 hE26o => ?_)
      have hE26 := hE21.of hE26o (by decide) (by decide)
      have u27 : (σ24.1 2).toInt = (σ19.1 2).toInt := by rw [hE26o.1 2 (by decide)]
      refine ⟨fun c28 => ?_, fun c28 => ?_⟩
      · suffices hs : ∀ (q29 : Int32), q29.toInt = 0 → b_X9about_111 Q q29 σ24 from hs 0 rfl
        intro q29 hq29
        unfold b_X9about_111
        exact hq q29 σ24 hM25 hE26
      · suffices hs : ∀ (q30 : Int32), q30.toInt = 1 → b_X9about_111 Q q30 σ24 from hs 1 rfl
        intro q30 hq30
        unfold b_X9about_111
        exact hq q30 σ24 hM25 hE26
    · refine rg_X9refreshTiming hM4 (fun σ32 hM33 hE34o => ?_)
      have hE34 := hE5.of hE34o (by decide) (by decide)
      have u35 : (σ32.1 2).toInt = (σ3.1 2).toInt := by rw [hE34o.1 2 (by decide)]
      refine rg_X6whyOpen ⟨by omega, by omega⟩ hM33 (fun r36 σ37 hM38 hE39o => ?_)
      have hE39 := hE34.of hE39o (by decide) (by decide)
      have bd40 := i3_bd r36
      have u41 : (σ37.1 2).toInt = (σ32.1 2).toInt := by rw [hE39o.1 2 (by decide)]
      exact hq r36 σ37 hM38 hE39
    · exact hq (-1) σ3 hM4 hE5
  · exact hq (-1) σ3 hM4 hE5
set_option maxHeartbeats 2000000 in
theorem rg_X9takes {Q : Int32 → VS → Prop} {p1 : Int32} {p2 : Int32} {σ : VS} (hM : CI σ) (hq : ∀ (r : Int32) (σ' : VS), CI σ' → Eo [] [] σ σ' → Q r σ') : wp_X9takes Q p1 p2 σ := by
  unfold wp_X9takes
  have hE : Eo [] [] σ σ := Eo.rfl
  have bd1 := i3_bd p1
  have bd2 := i3_bd p2
  refine rg_X1hasInput hM (fun r3 σ4 br3 ir3 hM5 hE6o => ?_)
  have hE6 := hE.of hE6o (by decide) (by decide)
  have f7 : 0 ≤ (σ.1 2).toInt ∧ (σ.1 2).toInt ≤ 50 := hM.1 2
  have u8 : (σ4.1 2).toInt = (σ.1 2).toInt := by rw [hE6o.1 2 (by decide)]
  refine ⟨fun c9 => ?_, fun c9 => ?_⟩
  · suffices hs : ∀ (q10 : Int32), q10.toInt = (-1) → b_X9takes_29 Q q10 σ4 from hs (-1) rfl
    intro q10 hq10
    unfold b_X9takes_29
    exact hq q10 σ4 hM5 hE6
  · have fc9 : 0 ≤ p1.toInt ∧ p1.toInt < (σ.1 2).toInt ∧ 0 ≤ p2.toInt ∧ p2.toInt ≤ 3 := ir3 c9
    generalize ey11 : (p1 * 4) = y11
    replace ey11 := ey11.symm
    have ty11 : y11.toInt = p1.toInt * 4 := i3_mulc rfl rfl ey11 (by omega)
    clear ey11
    generalize ey12 : (y11 + p2) = y12
    replace ey12 := ey12.symm
    have ty12 : y12.toInt = y11.toInt + p2.toInt := i3_addc rfl rfl ey12 (by omega)
    clear ey12
    refine ⟨⟨by omega, by omega⟩, ?_⟩
    have a13 : (-5) ≤ (rd σ4 16 y12).toInt ∧ (rd σ4 16 y12).toInt ≤ 49 := hM5.2 16 _
    suffices hs : ∀ (q14 : Int32), q14.toInt = (rd σ4 16 y12).toInt → b_X9takes_29 Q q14 σ4 from hs (rd σ4 16 y12) rfl
    intro q14 hq14
    unfold b_X9takes_29
    exact hq q14 σ4 hM5 hE6
set_option maxHeartbeats 2000000 in
theorem rg_X9arrival {Q : Int32 → VS → Prop} {p1 : Int32} {p2 : Int32} {p3 : Int32} {σ : VS} (hM : CI σ) (hq : ∀ (r : Int32) (σ' : VS), CI σ' → Eo [0] [39, 40, 41, 42, 43, 44, 45, 46] σ σ' → Q r σ') : wp_X9arrival Q p1 p2 p3 σ := by
  unfold wp_X9arrival
  have hE : Eo [0] [39, 40, 41, 42, 43, 44, 45, 46] σ σ := Eo.rfl
  have bd1 := i3_bd p1
  refine rg_X1has hM (fun r2 σ3 br2 ir2 hM4 hE5o => ?_)
  have hE5 := hE.of hE5o (by decide) (by decide)
  have f6 : 0 ≤ (σ.1 2).toInt ∧ (σ.1 2).toInt ≤ 50 := hM.1 2
  have u7 : (σ3.1 2).toInt = (σ.1 2).toInt := by rw [hE5o.1 2 (by decide)]
  refine ⟨fun c8 => ?_, fun c8 => ?_⟩
  · unfold b_X9arrival_33
    exact hq (-1000000) σ3 hM4 hE5
  · have fc8 : 0 ≤ p1.toInt ∧ p1.toInt < (σ.1 2).toInt := ir2 c8
    refine ⟨⟨by omega, by omega⟩, ?_⟩
    have a9 : 0 ≤ (rd σ3 11 p1).toInt ∧ (rd σ3 11 p1).toInt ≤ 5 := hM4.2 11 _
    refine ⟨fun c10 => ?_, fun c10 => ?_⟩
    · unfold b_X9arrival_33
      exact hq (-1000000) σ3 hM4 hE5
    · have bd11 := i3_bd p2
      refine rg_X9within hM4 (fun r12 σ13 br12 ir12 hM14 hE15o => ?_)
      have hE15 := hE5.of hE15o (by decide) (by decide)
      have u16 : (σ13.1 2).toInt = (σ3.1 2).toInt := by rw [hE15o.1 2 (by decide)]
      have u17 : (rd σ13 11 p1).toInt = (rd σ3 11 p1).toInt := by unfold rd; rw [hE15o.2 11 (by decide)]
      refine ⟨fun c18 => ?_, fun c18 => ?_⟩
      · have fc18 : 0 ≤ p2.toInt ∧ p2.toInt ≤ 1 := ir12 c18
        refine rg_X9refreshTiming hM14 (fun σ20 hM21 hE22o => ?_)
        have hE22 := hE15.of hE22o (by decide) (by decide)
        have u23 : (σ20.1 2).toInt = (σ13.1 2).toInt := by rw [hE22o.1 2 (by decide)]
        have u24 : (rd σ20 11 p1).toInt = (rd σ13 11 p1).toInt := by unfold rd; rw [hE22o.2 11 (by decide)]
        refine ⟨⟨by omega, by omega⟩, ?_⟩
        have a25 : 0 ≤ (rd σ20 39 p1).toInt ∧ (rd σ20 39 p1).toInt ≤ 1 := hM21.2 39 _
        refine ⟨fun c26 => ?_, fun c26 => ?_⟩
        · unfold b_X9arrival_64
          exact hq (-1000000) σ20 hM21 hE22
        · refine ⟨⟨by omega, by omega⟩, ?_⟩
          refine ⟨fun c27 => ?_, fun c27 => ?_⟩
          · generalize ey28 : (p1 * 2) = y28
            replace ey28 := ey28.symm
            have ty28 : y28.toInt = p1.toInt * 2 := i3_mulc rfl rfl ey28 (by omega)
            clear ey28
            generalize ey29 : (y28 + p2) = y29
            replace ey29 := ey29.symm
            have ty29 : y29.toInt = y28.toInt + p2.toInt := i3_addc rfl rfl ey29 (by omega)
            clear ey29
            intro x30 ex30
            have ix30 : x30.toInt = y29.toInt := by rw [ex30]
            refine ⟨fun hc => ?_, fun hc => ?_, fun hc => ?_, fun hc => ?_, fun hc => ?_⟩
            · refine ⟨⟨by omega, by omega⟩, ?_⟩
              have bd31 := i3_bd (rd σ20 45 x30)
              exact hq (rd σ20 45 x30) σ20 hM21 hE22
            · refine ⟨⟨by omega, by omega⟩, ?_⟩
              have bd32 := i3_bd (rd σ20 46 x30)
              exact hq (rd σ20 46 x30) σ20 hM21 hE22
            · refine ⟨⟨by omega, by omega⟩, ?_⟩
              have bd33 := i3_bd (rd σ20 43 x30)
              exact hq (rd σ20 43 x30) σ20 hM21 hE22
            · refine ⟨⟨by omega, by omega⟩, ?_⟩
              have bd34 := i3_bd (rd σ20 44 x30)
              exact hq (rd σ20 44 x30) σ20 hM21 hE22
            · exact hq (-1000000) σ20 hM21 hE22
          · unfold b_X9arrival_64
            exact hq (-1000000) σ20 hM21 hE22
      · unfold b_X9arrival_33
        exact hq (-1000000) σ13 hM14 hE15
set_option maxHeartbeats 2000000 in
theorem rg_X9told {Q : Int32 → VS → Prop} {p1 : Int32} {σ : VS} (hM : CI σ) (hq : ∀ (r : Int32) (σ' : VS), CI σ' → Eo [0, 1, 9, 10] [39, 40, 41, 42, 43, 44, 45, 46, 47, 48, 49, 50, 51, 52] σ σ' → Q r σ') : wp_X9told Q p1 σ := by
  unfold wp_X9told
  have hE : Eo [0, 1, 9, 10] [39, 40, 41, 42, 43, 44, 45, 46, 47, 48, 49, 50, 51, 52] σ σ := Eo.rfl
  have bd1 := i3_bd p1
  refine rg_X1has hM (fun r2 σ3 br2 ir2 hM4 hE5o => ?_)
  have hE5 := hE.of hE5o (by decide) (by decide)
  have f6 : 0 ≤ (σ.1 2).toInt ∧ (σ.1 2).toInt ≤ 50 := hM.1 2
  have u7 : (σ3.1 2).toInt = (σ.1 2).toInt := by rw [hE5o.1 2 (by decide)]
  refine ⟨fun c8 => ?_, fun c8 => ?_⟩
  · have fc8 : 0 ≤ p1.toInt ∧ p1.toInt < (σ.1 2).toInt := ir2 c8
    refine rg_X1isTarget ⟨by omega, by omega⟩ hM4 (fun r9 σ10 br9 hM11 hE12o => ?_)
    have hE12 := hE5.of hE12o (by decide) (by decide)
    have u13 : (σ10.1 2).toInt = (σ3.1 2).toInt := by rw [hE12o.1 2 (by decide)]
    refine ⟨fun c14 => ?_, fun c14 => ?_⟩
    · refine rg_X9refreshRace hM11 (fun σ16 hM17 hE18o => ?_)
      have hE18 := hE12.of hE18o (by decide) (by decide)
      have u19 : (σ16.1 2).toInt = (σ10.1 2).toInt := by rw [hE18o.1 2 (by decide)]
      generalize ey20 : (p1 * 4) = y20
      replace ey20 := ey20.symm
      have ty20 : y20.toInt = p1.toInt * 4 := i3_mulc rfl rfl ey20 (by omega)
      clear ey20
      refine rg_X6isInputOpen ⟨by omega, by omega⟩ hM17 (fun r21 σ22 br21 ir21 hM23 hE24o => ?_)
      have hE24 := hE18.of hE24o (by decide) (by decide)
      have a25 : (-5) ≤ (rd σ16 16 y20).toInt ∧ (rd σ16 16 y20).toInt ≤ 49 := hM17.2 16 _
      have u26 : (σ22.1 2).toInt = (σ16.1 2).toInt := by rw [hE24o.1 2 (by decide)]
      have u27 : (rd σ22 16 y20).toInt = (rd σ16 16 y20).toInt := by unfold rd; rw [hE24o.2 16 (by decide)]
      refine ⟨fun c28 => ?_, fun c28 => ?_⟩
      · refine ⟨⟨by omega, by omega⟩, ?_⟩
        refine ⟨fun c29 => ?_, fun c29 => ?_⟩
        · suffices hs : ∀ (q30 : Int32), q30.toInt = 0 → b_X9told_63 Q q30 σ22 from hs 0 rfl
          intro q30 hq30
          unfold b_X9told_63
          exact hq q30 σ22 hM23 hE24
        · suffices hs : ∀ (q31 : Int32), q31.toInt = 1 → b_X9told_63 Q q31 σ22 from hs 1 rfl
          intro q31 hq31
          unfold b_X9told_63
          exact hq q31 σ22 hM23 hE24
      · have fc28 : 0 ≤ (rd σ16 16 y20).toInt := ir21 c28
        exact hq 2 σ22 hM23 hE24
    · exact hq (-2) σ10 hM11 hE12
  · exact hq (-1) σ3 hM4 hE5
set_option maxHeartbeats 2000000 in
theorem rg_X9slack {Q : Int32 → VS → Prop} {p1 : Int32} {σ : VS} (hM : CI σ) (hq : ∀ (r : Int32) (σ' : VS), CI σ' → Eo [0, 1, 9, 10] [39, 40, 41, 42, 43, 44, 45, 46, 47, 48, 49, 50, 51, 52] σ σ' → Q r σ') : wp_X9slack Q p1 σ := by
  unfold wp_X9slack
  have hE : Eo [0, 1, 9, 10] [39, 40, 41, 42, 43, 44, 45, 46, 47, 48, 49, 50, 51, 52] σ σ := Eo.rfl
  have bd1 := i3_bd p1
  refine rg_X9isTold hM (fun r2 σ3 br2 ir2 hM4 hE5o => ?_)
  have hE5 := hE.of hE5o (by decide) (by decide)
  refine ⟨fun c6 => ?_, fun c6 => ?_⟩
  · suffices hs : ∀ (q7 : Int32), q7.toInt = 1000000000 → b_X9slack_22 Q q7 σ3 from hs 1000000000 rfl
    intro q7 hq7
    unfold b_X9slack_22
    exact hq q7 σ3 hM4 hE5
  · have fc6 : 0 ≤ p1.toInt ∧ p1.toInt ≤ 49 := ir2 c6
    refine ⟨⟨by omega, by omega⟩, ?_⟩
    suffices hs : ∀ (q8 : Int32), q8.toInt = (rd σ3 51 p1).toInt → b_X9slack_22 Q q8 σ3 from hs (rd σ3 51 p1) rfl
    intro q8 hq8
    have bd9 := i3_bd (rd σ3 51 p1)
    unfold b_X9slack_22
    have bd10 := i3_bd q8
    exact hq q8 σ3 hM4 hE5
set_option maxHeartbeats 2000000 in
theorem rg_X9hold {Q : Int32 → VS → Prop} {p1 : Int32} {σ : VS} (hM : CI σ) (hq : ∀ (r : Int32) (σ' : VS), CI σ' → Eo [0, 1, 9, 10] [39, 40, 41, 42, 43, 44, 45, 46, 47, 48, 49, 50, 51, 52] σ σ' → Q r σ') : wp_X9hold Q p1 σ := by
  unfold wp_X9hold
  have hE : Eo [0, 1, 9, 10] [39, 40, 41, 42, 43, 44, 45, 46, 47, 48, 49, 50, 51, 52] σ σ := Eo.rfl
  have bd1 := i3_bd p1
  refine rg_X9isTold hM (fun r2 σ3 br2 ir2 hM4 hE5o => ?_)
  have hE5 := hE.of hE5o (by decide) (by decide)
  refine ⟨fun c6 => ?_, fun c6 => ?_⟩
  · suffices hs : ∀ (q7 : Int32), q7.toInt = 1000000000 → b_X9hold_22 Q q7 σ3 from hs 1000000000 rfl
    intro q7 hq7
    unfold b_X9hold_22
    exact hq q7 σ3 hM4 hE5
  · have fc6 : 0 ≤ p1.toInt ∧ p1.toInt ≤ 49 := ir2 c6
    refine ⟨⟨by omega, by omega⟩, ?_⟩
    suffices hs : ∀ (q8 : Int32), q8.toInt = (rd σ3 52 p1).toInt → b_X9hold_22 Q q8 σ3 from hs (rd σ3 52 p1) rfl
    intro q8 hq8
    have bd9 := i3_bd (rd σ3 52 p1)
    unfold b_X9hold_22
    have bd10 := i3_bd q8
    exact hq q8 σ3 hM4 hE5
set_option maxHeartbeats 2000000 in
theorem rg_X9worst {Q : Int32 → VS → Prop} {p1 : Int32} {σ : VS} (hM : CI σ) (hq : ∀ (r : Int32) (σ' : VS), CI σ' → Eo [0, 1, 9, 10] [39, 40, 41, 42, 43, 44, 45, 46, 47, 48, 49, 50, 51, 52] σ σ' → Q r σ') : wp_X9worst Q p1 σ := by
  unfold wp_X9worst
  have hE : Eo [0, 1, 9, 10] [39, 40, 41, 42, 43, 44, 45, 46, 47, 48, 49, 50, 51, 52] σ σ := Eo.rfl
  have bd1 := i3_bd p1
  refine rg_X9within hM (fun r2 σ3 br2 ir2 hM4 hE5o => ?_)
  have hE5 := hE.of hE5o (by decide) (by decide)
  refine ⟨fun c6 => ?_, fun c6 => ?_⟩
  · have fc6 : 0 ≤ p1.toInt ∧ p1.toInt ≤ 1 := ir2 c6
    refine rg_X9refreshRace hM4 (fun σ8 hM9 hE10o => ?_)
    have hE10 := hE5.of hE10o (by decide) (by decide)
    refine ⟨fun c11 => ?_, fun c11 => ?_⟩
    · refine rg_X2leastOfH hM9 (fun r12 σ13 br12 hM14 hE15o => ?_)
      have hE15 := hE10.of hE15o (by decide) (by decide)
      exact hq r12 σ13 hM14 hE15
    · refine rg_X2leastOfS hM9 (fun r16 σ17 br16 hM18 hE19o => ?_)
      have hE19 := hE10.of hE19o (by decide) (by decide)
      exact hq r16 σ17 hM18 hE19
  · exact hq (-1) σ3 hM4 hE5
set_option maxHeartbeats 2000000 in
theorem rg_X9paths {Q : Int32 → VS → Prop} {p1 : Int32} {σ : VS} (hM : CI σ) (hq : ∀ (r : Int32) (σ' : VS), CI σ' → Eo [0, 1, 9, 10] [39, 40, 41, 42, 43, 44, 45, 46, 47, 48, 49, 50, 51, 52] σ σ' → Q r σ') : wp_X9paths Q p1 σ := by
  unfold wp_X9paths
  have hE : Eo [0, 1, 9, 10] [39, 40, 41, 42, 43, 44, 45, 46, 47, 48, 49, 50, 51, 52] σ σ := Eo.rfl
  have bd1 := i3_bd p1
  refine rg_X1has hM (fun r2 σ3 br2 ir2 hM4 hE5o => ?_)
  have hE5 := hE.of hE5o (by decide) (by decide)
  have f6 : 0 ≤ (σ.1 2).toInt ∧ (σ.1 2).toInt ≤ 50 := hM.1 2
  have u7 : (σ3.1 2).toInt = (σ.1 2).toInt := by rw [hE5o.1 2 (by decide)]
  refine ⟨fun c8 => ?_, fun c8 => ?_⟩
  · have fc8 : 0 ≤ p1.toInt ∧ p1.toInt < (σ.1 2).toInt := ir2 c8
    refine rg_X1isTarget ⟨by omega, by omega⟩ hM4 (fun r9 σ10 br9 hM11 hE12o => ?_)
    have hE12 := hE5.of hE12o (by decide) (by decide)
    have u13 : (σ10.1 2).toInt = (σ3.1 2).toInt := by rw [hE12o.1 2 (by decide)]
    refine ⟨fun c14 => ?_, fun c14 => ?_⟩
    · refine rg_X9refreshRace hM11 (fun σ16 hM17 hE18o => ?_)
      have hE18 := hE12.of hE18o (by decide) (by decide)
      have u19 : (σ16.1 2).toInt = (σ10.1 2).toInt := by rw [hE18o.1 2 (by decide)]
      refine ⟨⟨by omega, by omega⟩, ?_⟩
      have bd20 := i3_bd (rd σ16 50 p1)
      exact hq (rd σ16 50 p1) σ16 hM17 hE18
    · exact hq (-2) σ10 hM11 hE12
  · exact hq (-1) σ3 hM4 hE5
set_option maxHeartbeats 2000000 in
theorem rg_X9path {Q : Int32 → VS → Prop} {p1 : Int32} {p2 : Int32} {σ : VS} (hM : CI σ) (hq : ∀ (r : Int32) (σ' : VS), CI σ' → Eo [0, 1, 9, 10, 11, 12, 13, 14, 15, 16, 17, 18] [39, 40, 41, 42, 43, 44, 45, 46, 47, 48, 49, 50, 51, 52, 53, 55, 56, 57, 58] σ σ' → Q r σ') : wp_X9path Q p1 p2 σ := by
  unfold wp_X9path
  have hE : Eo [0, 1, 9, 10, 11, 12, 13, 14, 15, 16, 17, 18] [39, 40, 41, 42, 43, 44, 45, 46, 47, 48, 49, 50, 51, 52, 53, 55, 56, 57, 58] σ σ := Eo.rfl
  have bd1 := i3_bd p1
  refine rg_X1has hM (fun r2 σ3 br2 ir2 hM4 hE5o => ?_)
  have hE5 := hE.of hE5o (by decide) (by decide)
  have f6 : 0 ≤ (σ.1 2).toInt ∧ (σ.1 2).toInt ≤ 50 := hM.1 2
  have u7 : (σ3.1 2).toInt = (σ.1 2).toInt := by rw [hE5o.1 2 (by decide)]
  refine ⟨fun c8 => ?_, fun c8 => ?_⟩
  · unfold b_X9path_15
    exact hq (-1) σ3 hM4 hE5
  · have fc8 : 0 ≤ p1.toInt ∧ p1.toInt < (σ.1 2).toInt := ir2 c8
    refine ⟨fun c9 => ?_, fun c9 => ?_⟩
    · refine rg_X1isTarget ⟨by omega, by omega⟩ hM4 (fun r10 σ11 br10 hM12 hE13o => ?_)
      have hE13 := hE5.of hE13o (by decide) (by decide)
      have u14 : (σ11.1 2).toInt = (σ3.1 2).toInt := by rw [hE13o.1 2 (by decide)]
      refine ⟨fun c15 => ?_, fun c15 => ?_⟩
      · refine rg_X9refreshRace hM12 (fun σ17 hM18 hE19o => ?_)
        have hE19 := hE13.of hE19o (by decide) (by decide)
        have u20 : (σ17.1 2).toInt = (σ11.1 2).toInt := by rw [hE19o.1 2 (by decide)]
        refine ⟨⟨by omega, by omega⟩, ?_⟩
        refine ⟨fun c21 => ?_, fun c21 => ?_⟩
        · unfold b_X9path_63
          exact hq (-1) σ17 hM18 hE19
        · refine ⟨⟨by omega, by omega⟩, ?_⟩
          refine ⟨fun c22 => ?_, fun c22 => ?_⟩
          · refine rg_X7traceS ⟨by omega, by omega⟩ hM18 (fun σ24 hM25 hE26o => ?_)
            have hE26 := hE19.of hE26o (by decide) (by decide)
            have u27 : (σ24.1 2).toInt = (σ17.1 2).toInt := by rw [hE26o.1 2 (by decide)]
            have u28 : (rd σ24 50 p1).toInt = (rd σ17 50 p1).toInt := by unfold rd; rw [hE26o.2 50 (by decide)]
            have f29 : 0 ≤ (σ24.1 16).toInt ∧ (σ24.1 16).toInt ≤ 51 := hM25.1 16
            exact hq (σ24.1 16) σ24 hM25 hE26
          · unfold b_X9path_63
            exact hq (-1) σ17 hM18 hE19
      · exact hq (-2) σ11 hM12 hE13
    · unfold b_X9path_15
      exact hq (-1) σ3 hM4 hE5
set_option maxHeartbeats 2000000 in
theorem rg_X9step {Q : Int32 → VS → Prop} {p1 : Int32} {p2 : Int32} {σ : VS} (hM : CI σ) (hq : ∀ (r : Int32) (σ' : VS), CI σ' → Eo [] [] σ σ' → Q r σ') : wp_X9step Q p1 p2 σ := by
  unfold wp_X9step
  have hE : Eo [] [] σ σ := Eo.rfl
  have f1 : 0 ≤ (σ.1 16).toInt ∧ (σ.1 16).toInt ≤ 51 := hM.1 16
  refine ⟨fun c2 => ?_, fun c2 => ?_⟩
  · refine ⟨fun c3 => ?_, fun c3 => ?_⟩
    · refine ⟨fun c4 => ?_, fun c4 => ?_⟩
      · generalize ey5 : ((σ.1 16) - 1) = y5
        replace ey5 := ey5.symm
        have ty5 : y5.toInt = (σ.1 16).toInt - 1 := i3_subc rfl rfl ey5 (by omega)
        clear ey5
        have bd6 := i3_bd p1
        refine rg_X9within hM (fun r7 σ8 br7 ir7 hM9 hE10o => ?_)
        have hE10 := hE.of hE10o (by decide) (by decide)
        have u11 : (σ8.1 16).toInt = (σ.1 16).toInt := by rw [hE10o.1 16 (by decide)]
        refine ⟨fun c12 => ?_, fun c12 => ?_⟩
        · have fc12 : 0 ≤ p1.toInt ∧ p1.toInt ≤ y5.toInt := ir7 c12
          refine ⟨fun hc => ?_, fun hc => ?_, fun hc => ?_, fun hc => ?_, fun hc => ?_⟩
          · refine ⟨⟨by omega, by omega⟩, ?_⟩
            have a13 : 0 ≤ (rd σ8 55 p1).toInt ∧ (rd σ8 55 p1).toInt ≤ 49 := hM9.2 55 _
            exact hq (rd σ8 55 p1) σ8 hM9 hE10
          · refine ⟨⟨by omega, by omega⟩, ?_⟩
            have bd14 := i3_bd (rd σ8 56 p1)
            exact hq (rd σ8 56 p1) σ8 hM9 hE10
          · refine ⟨⟨by omega, by omega⟩, ?_⟩
            have bd15 := i3_bd (rd σ8 57 p1)
            exact hq (rd σ8 57 p1) σ8 hM9 hE10
          · refine ⟨⟨by omega, by omega⟩, ?_⟩
            have bd16 := i3_bd (rd σ8 58 p1)
            exact hq (rd σ8 58 p1) σ8 hM9 hE10
          · exact hq 1000000000 σ8 hM9 hE10
        · exact hq 1000000000 σ8 hM9 hE10
      · have bd17 := i3_bd (σ.1 18)
        exact hq (σ.1 18) σ hM hE
    · have bd18 := i3_bd (σ.1 17)
      exact hq (σ.1 17) σ hM hE
  · exact hq 1000000000 σ hM hE
set_option maxHeartbeats 2000000 in
theorem rg_X9common {Q : Int32 → VS → Prop} {p1 : Int32} {p2 : Int32} {σ : VS} (hM : CI σ) (hq : ∀ (r : Int32) (σ' : VS), CI σ' → Eo [] [] σ σ' → Q r σ') : wp_X9common Q p1 p2 σ := by
  unfold wp_X9common
  have hE : Eo [] [] σ σ := Eo.rfl
  have bd1 := i3_bd p1
  refine rg_X1has hM (fun r2 σ3 br2 ir2 hM4 hE5o => ?_)
  have hE5 := hE.of hE5o (by decide) (by decide)
  have f6 : 0 ≤ (σ.1 2).toInt ∧ (σ.1 2).toInt ≤ 50 := hM.1 2
  have u7 : (σ3.1 2).toInt = (σ.1 2).toInt := by rw [hE5o.1 2 (by decide)]
  refine ⟨fun c8 => ?_, fun c8 => ?_⟩
  · unfold b_X9common_34
    suffices hs : ∀ (q9 : Int32), q9.toInt = (-1) → b_X9common_35 Q q9 σ3 from hs (-1) rfl
    intro q9 hq9
    unfold b_X9common_35
    exact hq q9 σ3 hM4 hE5
  · have fc8 : 0 ≤ p1.toInt ∧ p1.toInt < (σ.1 2).toInt := ir2 c8
    have bd10 := i3_bd p2
    refine rg_X1has hM4 (fun r11 σ12 br11 ir11 hM13 hE14o => ?_)
    have hE14 := hE5.of hE14o (by decide) (by decide)
    have u15 : (σ12.1 2).toInt = (σ3.1 2).toInt := by rw [hE14o.1 2 (by decide)]
    refine ⟨fun c16 => ?_, fun c16 => ?_⟩
    · unfold b_X9common_34
      suffices hs : ∀ (q17 : Int32), q17.toInt = (-1) → b_X9common_35 Q q17 σ12 from hs (-1) rfl
      intro q17 hq17
      unfold b_X9common_35
      exact hq q17 σ12 hM13 hE14
    · have fc16 : 0 ≤ p2.toInt ∧ p2.toInt < (σ3.1 2).toInt := ir11 c16
      refine rg_X2sharedOf ⟨by omega, by omega⟩ ⟨by omega, by omega⟩ hM13 (fun r18 σ19 hM20 hE21o => ?_)
      have hE21 := hE14.of hE21o (by decide) (by decide)
      have bd22 := i3_bd r18
      have u23 : (σ19.1 2).toInt = (σ12.1 2).toInt := by rw [hE21o.1 2 (by decide)]
      unfold b_X9common_35
      exact hq r18 σ19 hM20 hE21
set_option maxHeartbeats 2000000 in
theorem rg_X9least {Q : Int32 → VS → Prop} {p1 : Int32} {σ : VS} (hM : CI σ) (hq : ∀ (r : Int32) (σ' : VS), CI σ' → Eo [0, 1, 9, 10] [39, 40, 41, 42, 43, 44, 45, 46, 47, 48, 49, 50, 51, 52] σ σ' → Q r σ') : wp_X9least Q p1 σ := by
  unfold wp_X9least
  have hE : Eo [0, 1, 9, 10] [39, 40, 41, 42, 43, 44, 45, 46, 47, 48, 49, 50, 51, 52] σ σ := Eo.rfl
  have bd1 := i3_bd p1
  refine rg_X9within hM (fun r2 σ3 br2 ir2 hM4 hE5o => ?_)
  have hE5 := hE.of hE5o (by decide) (by decide)
  refine ⟨fun c6 => ?_, fun c6 => ?_⟩
  · have fc6 : 1 ≤ p1.toInt ∧ p1.toInt ≤ 1000000 := ir2 c6
    refine rg_X9refreshRace hM4 (fun σ8 hM9 hE10o => ?_)
    have hE10 := hE5.of hE10o (by decide) (by decide)
    refine ⟨fun c11 => ?_, fun c11 => ?_⟩
    · suffices hs : ∀ (q12 : Int32), q12.toInt = 0 → b_X9least_38 Q q12 σ8 from hs 0 rfl
      intro q12 hq12
      unfold b_X9least_38
      exact hq q12 σ8 hM9 hE10
    · suffices hs : ∀ (q13 : Int32), q13.toInt = (σ8.1 10).toInt → b_X9least_38 Q q13 σ8 from hs (σ8.1 10) rfl
      intro q13 hq13
      have bd14 := i3_bd (σ8.1 10)
      unfold b_X9least_38
      have bd15 := i3_bd q13
      exact hq q13 σ8 hM9 hE10
  · exact hq (-1) σ3 hM4 hE5
set_option maxHeartbeats 2000000 in
theorem rg_X9fix {Q : Int32 → VS → Prop} {σ : VS} (hM : CI σ) (hq : ∀ (r : Int32) (σ' : VS), CI σ' → Eo [0, 1, 9, 10, 11, 12, 13, 14, 15, 19, 20, 21] [14, 39, 40, 41, 42, 43, 44, 45, 46, 47, 48, 49, 50, 51, 52, 53, 59, 60, 61, 62] σ σ' → Q r σ') : wp_X9fix Q σ := by
  unfold wp_X9fix
  intro X2 H_2
  have hE : Eo [0, 1, 9, 10, 11, 12, 13, 14, 15, 19, 20, 21] [14, 39, 40, 41, 42, 43, 44, 45, 46, 47, 48, 49, 50, 51, 52, 53, 59, 60, 61, 62] σ σ := Eo.rfl
  obtain ⟨σ0, h0⟩ : ∃ z : VS, z = σ := ⟨_, rfl⟩
  rw [← h0] at hq
  replace hE : Eo [0, 1, 9, 10, 11, 12, 13, 14, 15, 19, 20, 21] [14, 39, 40, 41, 42, 43, 44, 45, 46, 47, 48, 49, 50, 51, 52, 53, 59, 60, 61, 62] σ0 σ := by rw [h0]; exact hE
  clear h0
  have L_2_n1 : ∀ (n1 : Nat) (l1 : Int32) (σ : VS), 100 - l1.toInt < (n1 : Int) → 0 ≤ l1.toInt ∧ l1.toInt ≤ 100 → CI σ → Eo [0, 1, 9, 10, 11, 12, 13, 14, 15, 19, 20, 21] [14, 39, 40, 41, 42, 43, 44, 45, 46, 47, 48, 49, 50, 51, 52, 53, 59, 60, 61, 62] σ0 σ → X2 l1 σ := by
    intro n1
    induction n1 with
    | zero => intro l1 σ hm h_l1 hM hE; exfalso; omega
    | succ n1 ih_n1 =>
      intro l1 σ hm h_l1 hM hE
      have hm2_2 : 100 - l1.toInt < (n1 : Int) + 1 := by omega
      refine H_2 l1 σ ?_
      unfold b_X9fix_2
      refine ⟨fun c2 => ?_, fun c2 => ?_⟩
      · exact hq 100 σ hM hE
      · refine rg_X9refreshRace hM (fun σ4 hM5 hE6o => ?_)
        have hE6 := hE.of hE6o (by decide) (by decide)
        refine rg_X2leastOfS hM5 (fun r7 σ8 br7 hM9 hE10o => ?_)
        have hE10 := hE6.of hE10o (by decide) (by decide)
        refine ⟨fun c11 => ?_, fun c11 => ?_⟩
        · unfold b_X9fix_58
          exact hq l1 σ8 hM9 hE10
        · refine ⟨⟨by omega, by omega⟩, ?_⟩
          refine ⟨fun c12 => ?_, fun c12 => ?_⟩
          · unfold b_X9fix_58
            exact hq l1 σ8 hM9 hE10
          · refine ⟨⟨by omega, by omega⟩, ?_⟩
            refine ⟨fun c13 => ?_, fun c13 => ?_⟩
            · refine rg_X7traceT ⟨by omega, by omega⟩ hM9 (fun σ15 hM16 hE17o => ?_)
              have hE17 := hE10.of hE17o (by decide) (by decide)
              have u18 : (rd σ15 51 r7).toInt = (rd σ8 51 r7).toInt := by unfold rd; rw [hE17o.2 51 (by decide)]
              have u19 : (rd σ15 50 r7).toInt = (rd σ8 50 r7).toInt := by unfold rd; rw [hE17o.2 50 (by decide)]
              refine rg_X9growOneOfTrial hM16 (fun r20 σ21 br20 hM22 hE23o => ?_)
              have hE23 := hE17.of hE23o (by decide) (by decide)
              refine ⟨fun c24 => ?_, fun c24 => ?_⟩
              · generalize ey25 : (l1 + 1) = y25
                replace ey25 := ey25.symm
                have ty25 : y25.toInt = l1.toInt + 1 := i3_addc rfl rfl ey25 (by omega)
                clear ey25
                exact ih_n1 y25 σ21 (by omega) (by first | omega | decide) hM22 hE23
              · exact hq l1 σ21 hM22 hE23
            · unfold b_X9fix_58
              exact hq l1 σ8 hM9 hE10
  exact L_2_n1 ((100 - (0 : Int32).toInt).toNat + 1) 0 σ (by decide) (by first | omega | decide) hM hE
set_option maxHeartbeats 2000000 in
theorem rg_X9area {Q : Int32 → VS → Prop} {σ : VS} (hM : CI σ) (hq : ∀ (r : Int32) (σ' : VS), CI σ' → Eo [] [] σ σ' → Q r σ') : wp_X9area Q σ := by
  unfold wp_X9area
  intro X4 H_4
  have hE : Eo [] [] σ σ := Eo.rfl
  obtain ⟨σ0, h0⟩ : ∃ z : VS, z = σ := ⟨_, rfl⟩
  rw [← h0] at hq
  replace hE : Eo [] [] σ0 σ := by rw [h0]; exact hE
  clear h0
  have L_4_n1 : ∀ (n1 : Nat) (l1 : Int32) (l2 : Int32) (σ : VS), 50 - l2.toInt < (n1 : Int) → 0 ≤ l2.toInt ∧ l2.toInt ≤ 50 → CI σ → Eo [] [] σ0 σ → X4 l1 l2 σ := by
    intro n1
    induction n1 with
    | zero => intro l1 l2 σ hm h_l2 hM hE; exfalso; omega
    | succ n1 ih_n1 =>
      intro l1 l2 σ hm h_l2 hM hE
      have hm2_4 : 50 - l2.toInt < (n1 : Int) + 1 := by omega
      refine H_4 l1 l2 σ ?_
      unfold b_X9area_4
      have f2 : 0 ≤ (σ.1 2).toInt ∧ (σ.1 2).toInt ≤ 50 := hM.1 2
      refine ⟨fun c3 => ?_, fun c3 => ?_⟩
      · have bd4 := i3_bd l1
        exact hq l1 σ hM hE
      · refine rg_X1hasSize ⟨by omega, by omega⟩ hM (fun r5 σ6 br5 hM7 hE8o => ?_)
        have hE8 := hE.of hE8o (by decide) (by decide)
        have u9 : (σ6.1 2).toInt = (σ.1 2).toInt := by rw [hE8o.1 2 (by decide)]
        refine ⟨fun c10 => ?_, fun c10 => ?_⟩
        · unfold b_X9area_50
          generalize ey11 : (l2 + 1) = y11
          replace ey11 := ey11.symm
          have ty11 : y11.toInt = l2.toInt + 1 := i3_addc rfl rfl ey11 (by omega)
          clear ey11
          have bd12 := i3_bd l1
          exact ih_n1 l1 y11 σ6 (by omega) (by first | omega | decide) hM7 hE8
        · refine ⟨⟨by omega, by omega⟩, ?_⟩
          have a13 : 0 ≤ (rd σ6 14 l2).toInt ∧ (rd σ6 14 l2).toInt ≤ 2 := hM7.2 14 _
          generalize ey14 : (1 + (rd σ6 14 l2)) = y14
          replace ey14 := ey14.symm
          have ty14 : y14.toInt = 1 + (rd σ6 14 l2).toInt := i3_addc rfl rfl ey14 (by omega)
          clear ey14
          refine ⟨⟨by omega, by omega⟩, ?_⟩
          have a15 : 0 ≤ (rd σ6 12 l2).toInt ∧ (rd σ6 12 l2).toInt ≤ 4 := hM7.2 12 _
          generalize ey16 : (y14 * (rd σ6 12 l2)) = y16
          replace ey16 := ey16.symm
          have ty16 : 0 ≤ y16.toInt ∧ y16.toInt ≤ 12 := i3_mulb (A := 3) (B := 4) ey16 (by omega) (by omega) (by decide)
          clear ey16
          have bd17 := i3_bd l1
          generalize ey18 : (l1 + y16) = y18
          replace ey18 := ey18.symm
          clear ey18
          intro x19 ex19
          have ix19 : x19.toInt = y18.toInt := by rw [ex19]
          have bd20 := i3_bd y18
          unfold b_X9area_50
          generalize ey21 : (l2 + 1) = y21
          replace ey21 := ey21.symm
          have ty21 : y21.toInt = l2.toInt + 1 := i3_addc rfl rfl ey21 (by omega)
          clear ey21
          have bd22 := i3_bd x19
          exact ih_n1 x19 y21 σ6 (by omega) (by first | omega | decide) hM7 hE8
  exact L_4_n1 ((50 - (0 : Int32).toInt).toNat + 1) 0 0 σ (by decide) (by first | omega | decide) hM hE
set_option maxHeartbeats 2000000 in
theorem rg_X9count {Q : Int32 → VS → Prop} {p1 : Int32} {σ : VS} (hM : CI σ) (hq : ∀ (r : Int32) (σ' : VS), CI σ' → Eo [] [] σ σ' → Q r σ') : wp_X9count Q p1 σ := by
  unfold wp_X9count
  have hE : Eo [] [] σ σ := Eo.rfl
  refine ⟨fun hc => ?_, fun hc => ?_, fun hc => ?_, fun hc => ?_, fun hc => ?_⟩
  · have f1 : 0 ≤ (σ.1 2).toInt ∧ (σ.1 2).toInt ≤ 50 := hM.1 2
    exact hq (σ.1 2) σ hM hE
  · have f2 : 0 ≤ (σ.1 5).toInt ∧ (σ.1 5).toInt ≤ 20 := hM.1 5
    exact hq (σ.1 5) σ hM hE
  · have f3 : 0 ≤ (σ.1 6).toInt ∧ (σ.1 6).toInt ≤ 4 := hM.1 6
    exact hq (σ.1 6) σ hM hE
  · have f4 : 1 ≤ (σ.1 4).toInt ∧ (σ.1 4).toInt ≤ 1000000 := hM.1 4
    exact hq (σ.1 4) σ hM hE
  · exact hq (-1) σ hM hE
