set_option maxHeartbeats 2000000 in
theorem rg_X2leastOfS {Q : Int32 → VS → Prop} {σ : VS} (hM : CI σ) (hq : ∀ (r : Int32) (σ' : VS), (-5) ≤ r.toInt ∧ r.toInt ≤ 49 → CI σ' → Eo [] [] σ σ' → Q r σ') : wp_X2leastOfS Q σ := by
  unfold wp_X2leastOfS
  intro X5 H_5
  have hE : Eo [] [] σ σ := Eo.rfl
  obtain ⟨σ0, h0⟩ : ∃ z : VS, z = σ := ⟨_, rfl⟩
  rw [← h0] at hq
  replace hE : Eo [] [] σ0 σ := by rw [h0]; exact hE
  clear h0
  have L_5_n1 : ∀ (n1 : Nat) (l2 : Int32) (l3 : Int32) (σ : VS), 50 - l3.toInt < (n1 : Int) → (-5) ≤ l2.toInt ∧ l2.toInt ≤ 49 → 0 ≤ l3.toInt ∧ l3.toInt ≤ 50 → CI σ → Eo [] [] σ0 σ → X5 l2 l3 σ := by
    intro n1
    induction n1 with
    | zero => intro l2 l3 σ hm h_l2 h_l3 hM hE; exfalso; omega
    | succ n1 ih_n1 =>
      intro l2 l3 σ hm h_l2 h_l3 hM hE
      have hm2_5 : 50 - l3.toInt < (n1 : Int) + 1 := by omega
      refine H_5 l2 l3 σ ?_
      unfold b_X2leastOfS_5
      have f2 : 0 ≤ (σ.1 2).toInt ∧ (σ.1 2).toInt ≤ 50 := hM.1 2
      refine ⟨fun c3 => ?_, fun c3 => ?_⟩
      · exact hq l2 σ ⟨by omega, by omega⟩ hM hE
      · refine ⟨⟨by omega, by omega⟩, ?_⟩
        refine ⟨fun c4 => ?_, fun c4 => ?_⟩
        · unfold b_X2leastOfS_40
          generalize ey5 : (l3 + 1) = y5
          replace ey5 := ey5.symm
          have ty5 : y5.toInt = l3.toInt + 1 := i3_addc rfl rfl ey5 (by omega)
          clear ey5
          exact ih_n1 l2 y5 σ (by omega) (by first | omega | decide) (by first | omega | decide) hM hE
        · refine ⟨fun c6 => ?_, fun c6 => ?_⟩
          · unfold b_X2leastOfS_38
            unfold b_X2leastOfS_40
            generalize ey7 : (l3 + 1) = y7
            replace ey7 := ey7.symm
            have ty7 : y7.toInt = l3.toInt + 1 := i3_addc rfl rfl ey7 (by omega)
            clear ey7
            exact ih_n1 l3 y7 σ (by omega) (by first | omega | decide) (by first | omega | decide) hM hE
          · refine ⟨⟨by omega, by omega⟩, ?_⟩
            refine ⟨⟨by omega, by omega⟩, ?_⟩
            refine ⟨fun c8 => ?_, fun c8 => ?_⟩
            · unfold b_X2leastOfS_40
              generalize ey9 : (l3 + 1) = y9
              replace ey9 := ey9.symm
              have ty9 : y9.toInt = l3.toInt + 1 := i3_addc rfl rfl ey9 (by omega)
              clear ey9
              exact ih_n1 l2 y9 σ (by omega) (by first | omega | decide) (by first | omega | decide) hM hE
            · unfold b_X2leastOfS_38
              unfold b_X2leastOfS_40
              generalize ey10 : (l3 + 1) = y10
              replace ey10 := ey10.symm
              have ty10 : y10.toInt = l3.toInt + 1 := i3_addc rfl rfl ey10 (by omega)
              clear ey10
              exact ih_n1 l3 y10 σ (by omega) (by first | omega | decide) (by first | omega | decide) hM hE
  exact L_5_n1 ((50 - (0 : Int32).toInt).toNat + 1) (-5) 0 σ (by decide) (by first | omega | decide) (by first | omega | decide) hM hE
set_option maxHeartbeats 2000000 in
theorem rg_X2leastOfH {Q : Int32 → VS → Prop} {σ : VS} (hM : CI σ) (hq : ∀ (r : Int32) (σ' : VS), (-5) ≤ r.toInt ∧ r.toInt ≤ 49 → CI σ' → Eo [] [] σ σ' → Q r σ') : wp_X2leastOfH Q σ := by
  unfold wp_X2leastOfH
  intro X5 H_5
  have hE : Eo [] [] σ σ := Eo.rfl
  obtain ⟨σ0, h0⟩ : ∃ z : VS, z = σ := ⟨_, rfl⟩
  rw [← h0] at hq
  replace hE : Eo [] [] σ0 σ := by rw [h0]; exact hE
  clear h0
  have L_5_n1 : ∀ (n1 : Nat) (l2 : Int32) (l3 : Int32) (σ : VS), 50 - l3.toInt < (n1 : Int) → (-5) ≤ l2.toInt ∧ l2.toInt ≤ 49 → 0 ≤ l3.toInt ∧ l3.toInt ≤ 50 → CI σ → Eo [] [] σ0 σ → X5 l2 l3 σ := by
    intro n1
    induction n1 with
    | zero => intro l2 l3 σ hm h_l2 h_l3 hM hE; exfalso; omega
    | succ n1 ih_n1 =>
      intro l2 l3 σ hm h_l2 h_l3 hM hE
      have hm2_5 : 50 - l3.toInt < (n1 : Int) + 1 := by omega
      refine H_5 l2 l3 σ ?_
      unfold b_X2leastOfH_5
      have f2 : 0 ≤ (σ.1 2).toInt ∧ (σ.1 2).toInt ≤ 50 := hM.1 2
      refine ⟨fun c3 => ?_, fun c3 => ?_⟩
      · exact hq l2 σ ⟨by omega, by omega⟩ hM hE
      · refine ⟨⟨by omega, by omega⟩, ?_⟩
        refine ⟨fun c4 => ?_, fun c4 => ?_⟩
        · unfold b_X2leastOfH_40
          generalize ey5 : (l3 + 1) = y5
          replace ey5 := ey5.symm
          have ty5 : y5.toInt = l3.toInt + 1 := i3_addc rfl rfl ey5 (by omega)
          clear ey5
          exact ih_n1 l2 y5 σ (by omega) (by first | omega | decide) (by first | omega | decide) hM hE
        · refine ⟨fun c6 => ?_, fun c6 => ?_⟩
          · unfold b_X2leastOfH_38
            unfold b_X2leastOfH_40
            generalize ey7 : (l3 + 1) = y7
            replace ey7 := ey7.symm
            have ty7 : y7.toInt = l3.toInt + 1 := i3_addc rfl rfl ey7 (by omega)
            clear ey7
            exact ih_n1 l3 y7 σ (by omega) (by first | omega | decide) (by first | omega | decide) hM hE
          · refine ⟨⟨by omega, by omega⟩, ?_⟩
            refine ⟨⟨by omega, by omega⟩, ?_⟩
            refine ⟨fun c8 => ?_, fun c8 => ?_⟩
            · unfold b_X2leastOfH_40
              generalize ey9 : (l3 + 1) = y9
              replace ey9 := ey9.symm
              have ty9 : y9.toInt = l3.toInt + 1 := i3_addc rfl rfl ey9 (by omega)
              clear ey9
              exact ih_n1 l2 y9 σ (by omega) (by first | omega | decide) (by first | omega | decide) hM hE
            · unfold b_X2leastOfH_38
              unfold b_X2leastOfH_40
              generalize ey10 : (l3 + 1) = y10
              replace ey10 := ey10.symm
              have ty10 : y10.toInt = l3.toInt + 1 := i3_addc rfl rfl ey10 (by omega)
              clear ey10
              exact ih_n1 l3 y10 σ (by omega) (by first | omega | decide) (by first | omega | decide) hM hE
  exact L_5_n1 ((50 - (0 : Int32).toInt).toNat + 1) (-5) 0 σ (by decide) (by first | omega | decide) (by first | omega | decide) hM hE
set_option maxHeartbeats 2000000 in
theorem rg_X2isAnyTold {Q : Int32 → VS → Prop} {σ : VS} (hM : CI σ) (hq : ∀ (r : Int32) (σ' : VS), 0 ≤ r.toInt ∧ r.toInt ≤ 1 → CI σ' → Eo [] [] σ σ' → Q r σ') : wp_X2isAnyTold Q σ := by
  unfold wp_X2isAnyTold
  have hE : Eo [] [] σ σ := Eo.rfl
  refine rg_X2leastOfS hM (fun r1 σ2 br1 hM3 hE4o => ?_)
  have hE4 := hE.of hE4o (by decide) (by decide)
  refine ⟨fun c5 => ?_, fun c5 => ?_⟩
  · suffices hs : ∀ (q6 : Int32), q6.toInt = 0 → b_X2isAnyTold_16 Q q6 σ2 from hs 0 rfl
    intro q6 hq6
    unfold b_X2isAnyTold_16
    refine ⟨⟨by omega, by omega⟩, ?_⟩
    exact hq q6 σ2 ⟨by omega, by omega⟩ hM3 hE4
  · suffices hs : ∀ (q7 : Int32), q7.toInt = 1 → b_X2isAnyTold_16 Q q7 σ2 from hs 1 rfl
    intro q7 hq7
    unfold b_X2isAnyTold_16
    refine ⟨⟨by omega, by omega⟩, ?_⟩
    exact hq q7 σ2 ⟨by omega, by omega⟩ hM3 hE4
set_option maxHeartbeats 2000000 in
theorem rg_X2leastSlack {Q : Int32 → VS → Prop} {σ : VS} (hM : CI σ) (hq : ∀ (r : Int32) (σ' : VS), CI σ' → Eo [] [] σ σ' → Q r σ') : wp_X2leastSlack Q σ := by
  unfold wp_X2leastSlack
  have hE : Eo [] [] σ σ := Eo.rfl
  refine rg_X2leastOfS hM (fun r1 σ2 br1 hM3 hE4o => ?_)
  have hE4 := hE.of hE4o (by decide) (by decide)
  refine ⟨fun c5 => ?_, fun c5 => ?_⟩
  · refine ⟨⟨by omega, by omega⟩, ?_⟩
    suffices hs : ∀ (q6 : Int32), q6.toInt = (rd σ2 51 r1).toInt → b_X2leastSlack_24 Q q6 σ2 from hs (rd σ2 51 r1) rfl
    intro q6 hq6
    have bd7 := i3_bd (rd σ2 51 r1)
    unfold b_X2leastSlack_24
    have bd8 := i3_bd q6
    exact hq q6 σ2 hM3 hE4
  · suffices hs : ∀ (q9 : Int32), q9.toInt = 1000000000 → b_X2leastSlack_24 Q q9 σ2 from hs 1000000000 rfl
    intro q9 hq9
    unfold b_X2leastSlack_24
    exact hq q9 σ2 hM3 hE4
set_option maxHeartbeats 2000000 in
theorem rg_X2leastHold {Q : Int32 → VS → Prop} {σ : VS} (hM : CI σ) (hq : ∀ (r : Int32) (σ' : VS), CI σ' → Eo [] [] σ σ' → Q r σ') : wp_X2leastHold Q σ := by
  unfold wp_X2leastHold
  have hE : Eo [] [] σ σ := Eo.rfl
  refine rg_X2leastOfH hM (fun r1 σ2 br1 hM3 hE4o => ?_)
  have hE4 := hE.of hE4o (by decide) (by decide)
  refine ⟨fun c5 => ?_, fun c5 => ?_⟩
  · refine ⟨⟨by omega, by omega⟩, ?_⟩
    suffices hs : ∀ (q6 : Int32), q6.toInt = (rd σ2 52 r1).toInt → b_X2leastHold_24 Q q6 σ2 from hs (rd σ2 52 r1) rfl
    intro q6 hq6
    have bd7 := i3_bd (rd σ2 52 r1)
    unfold b_X2leastHold_24
    have bd8 := i3_bd q6
    exact hq q6 σ2 hM3 hE4
  · suffices hs : ∀ (q9 : Int32), q9.toInt = 1000000000 → b_X2leastHold_24 Q q9 σ2 from hs 1000000000 rfl
    intro q9 hq9
    unfold b_X2leastHold_24
    exact hq q9 σ2 hM3 hE4
set_option maxHeartbeats 2000000 in
theorem rg_X2sharedOf {Q : Int32 → VS → Prop} {p1 : Int32} {p2 : Int32} {σ : VS} (h_p1 : 0 ≤ p1.toInt ∧ p1.toInt ≤ 49) (h_p2 : 0 ≤ p2.toInt ∧ p2.toInt ≤ 49) (hM : CI σ) (hq : ∀ (r : Int32) (σ' : VS), CI σ' → Eo [] [] σ σ' → Q r σ') : wp_X2sharedOf Q p1 p2 σ := by
  unfold wp_X2sharedOf
  have hE : Eo [] [] σ σ := Eo.rfl
  refine ⟨⟨by omega, by omega⟩, ?_⟩
  have a1 : 0 ≤ (rd σ 11 p1).toInt ∧ (rd σ 11 p1).toInt ≤ 5 := hM.2 11 _
  refine ⟨fun c2 => ?_, fun c2 => ?_⟩
  · unfold b_X2sharedOf_26
    exact hq 0 σ hM hE
  · refine ⟨⟨by omega, by omega⟩, ?_⟩
    have a3 : 0 ≤ (rd σ 11 p2).toInt ∧ (rd σ 11 p2).toInt ≤ 5 := hM.2 11 _
    refine ⟨fun c4 => ?_, fun c4 => ?_⟩
    · refine ⟨⟨by omega, by omega⟩, ?_⟩
      have a5 : (-1) ≤ (rd σ 25 p1).toInt ∧ (rd σ 25 p1).toInt ≤ 19 := hM.2 25 _
      refine ⟨⟨by omega, by omega⟩, ?_⟩
      have a6 : (-1) ≤ (rd σ 25 p2).toInt ∧ (rd σ 25 p2).toInt ≤ 19 := hM.2 25 _
      refine rg_X0sharedOf ⟨by omega, by omega⟩ ⟨by omega, by omega⟩ hM (fun r7 σ8 hM9 hE10o => ?_)
      have hE10 := hE.of hE10o (by decide) (by decide)
      have bd11 := i3_bd r7
      have u12 : (rd σ8 11 p1).toInt = (rd σ 11 p1).toInt := by unfold rd; rw [hE10o.2 11 (by decide)]
      have u13 : (rd σ8 11 p2).toInt = (rd σ 11 p2).toInt := by unfold rd; rw [hE10o.2 11 (by decide)]
      have u14 : (rd σ8 25 p1).toInt = (rd σ 25 p1).toInt := by unfold rd; rw [hE10o.2 25 (by decide)]
      have u15 : (rd σ8 25 p2).toInt = (rd σ 25 p2).toInt := by unfold rd; rw [hE10o.2 25 (by decide)]
      exact hq r7 σ8 hM9 hE10
    · unfold b_X2sharedOf_26
      exact hq 0 σ hM hE
set_option maxHeartbeats 2000000 in
theorem rg_X2slackRoom {Q : Int32 → VS → Prop} {p1 : Int32} {p2 : Int32} {σ : VS} (h_p1 : 0 ≤ p1.toInt ∧ p1.toInt ≤ 49) (h_p2 : 0 ≤ p2.toInt ∧ p2.toInt ≤ 49) (hM : CI σ) (hq : ∀ (r : Int32) (σ' : VS), CI σ' → Eo [] [] σ σ' → Q r σ') : wp_X2slackRoom Q p1 p2 σ := by
  unfold wp_X2slackRoom
  have hE : Eo [] [] σ σ := Eo.rfl
  refine ⟨⟨by omega, by omega⟩, ?_⟩
  have a1 : (-1) ≤ (rd σ 25 p2).toInt ∧ (rd σ 25 p2).toInt ≤ 19 := hM.2 25 _
  refine rg_X0earlyOf ⟨by omega, by omega⟩ hM (fun r2 σ3 hM4 hE5o => ?_)
  have hE5 := hE.of hE5o (by decide) (by decide)
  have bd6 := i3_bd r2
  have u7 : (rd σ3 25 p2).toInt = (rd σ 25 p2).toInt := by unfold rd; rw [hE5o.2 25 (by decide)]
  refine ⟨⟨by omega, by omega⟩, ?_⟩
  have a8 : (-10000) ≤ (rd σ3 26 p2).toInt ∧ (rd σ3 26 p2).toInt ≤ 10000 := hM4.2 26 _
  generalize ey9 : (r2 - (rd σ3 26 p2)) = y9
  replace ey9 := ey9.symm
  clear ey9
  refine rg_X2sharedOf ⟨by omega, by omega⟩ ⟨by omega, by omega⟩ hM4 (fun r10 σ11 hM12 hE13o => ?_)
  have hE13 := hE5.of hE13o (by decide) (by decide)
  have bd14 := i3_bd r10
  have u15 : (rd σ11 25 p2).toInt = (rd σ3 25 p2).toInt := by unfold rd; rw [hE13o.2 25 (by decide)]
  have u16 : (rd σ11 26 p2).toInt = (rd σ3 26 p2).toInt := by unfold rd; rw [hE13o.2 26 (by decide)]
  have bd17 := i3_bd y9
  generalize ey18 : (y9 + r10) = y18
  replace ey18 := ey18.symm
  clear ey18
  have bd19 := i3_bd y18
  exact hq y18 σ11 hM12 hE13
set_option maxHeartbeats 2000000 in
theorem rg_X2holdRoom {Q : Int32 → VS → Prop} {p1 : Int32} {p2 : Int32} {σ : VS} (h_p1 : 0 ≤ p1.toInt ∧ p1.toInt ≤ 49) (h_p2 : 0 ≤ p2.toInt ∧ p2.toInt ≤ 49) (hM : CI σ) (hq : ∀ (r : Int32) (σ' : VS), CI σ' → Eo [] [] σ σ' → Q r σ') : wp_X2holdRoom Q p1 p2 σ := by
  unfold wp_X2holdRoom
  have hE : Eo [] [] σ σ := Eo.rfl
  refine rg_X2sharedOf ⟨by omega, by omega⟩ ⟨by omega, by omega⟩ hM (fun r1 σ2 hM3 hE4o => ?_)
  have hE4 := hE.of hE4o (by decide) (by decide)
  have bd5 := i3_bd r1
  refine ⟨⟨by omega, by omega⟩, ?_⟩
  have a6 : (-1) ≤ (rd σ2 25 p2).toInt ∧ (rd σ2 25 p2).toInt ≤ 19 := hM3.2 25 _
  refine rg_X0lateOf ⟨by omega, by omega⟩ hM3 (fun r7 σ8 hM9 hE10o => ?_)
  have hE10 := hE4.of hE10o (by decide) (by decide)
  have bd11 := i3_bd r7
  have u12 : (rd σ8 25 p2).toInt = (rd σ2 25 p2).toInt := by unfold rd; rw [hE10o.2 25 (by decide)]
  generalize ey13 : (r1 - r7) = y13
  replace ey13 := ey13.symm
  clear ey13
  refine ⟨⟨by omega, by omega⟩, ?_⟩
  have a14 : (-10000) ≤ (rd σ8 27 p2).toInt ∧ (rd σ8 27 p2).toInt ≤ 10000 := hM9.2 27 _
  have bd15 := i3_bd y13
  generalize ey16 : (y13 - (rd σ8 27 p2)) = y16
  replace ey16 := ey16.symm
  clear ey16
  have bd17 := i3_bd y16
  exact hq y16 σ8 hM9 hE10
set_option maxHeartbeats 2000000 in
theorem rg_X2merge {Q : VS → Prop} {p1 : Int32} {p2 : Int32} {p3 : Int32} {p4 : Int32} {σ : VS} (h_p1 : 0 ≤ p1.toInt ∧ p1.toInt ≤ 1599) (hM : CI σ) (hq : ∀ (σ' : VS), CI σ' → Eo [] [47, 48, 49] σ σ' → Q σ') : wp_X2merge Q p1 p2 p3 p4 σ := by
  unfold wp_X2merge
  have hE : Eo [] [47, 48, 49] σ σ := Eo.rfl
  refine ⟨⟨by omega, by omega⟩, ?_⟩
  refine ⟨fun c1 => ?_, fun c1 => ?_⟩
  · refine ⟨⟨by omega, by omega⟩, ?_⟩
    have bd2 := i3_bd (rd σ 48 p1)
    have bd3 := i3_bd p3
    have m4 : ((imax (rd σ 48 p1) p3).toInt ≥ (rd σ 48 p1).toInt ∧ (imax (rd σ 48 p1) p3).toInt ≥ p3.toInt) ∧ ((imax (rd σ 48 p1) p3).toInt = (rd σ 48 p1).toInt ∨ (imax (rd σ 48 p1) p3).toInt = p3.toInt) := i3_max rfl
    suffices hs : ∀ (q5 : Int32), q5.toInt = (imax (rd σ 48 p1) p3).toInt → b_X2merge_28 Q p1 p2 p4 q5 p1 σ from hs (imax (rd σ 48 p1) p3) rfl
    intro q5 hq5
    have bd6 := i3_bd (imax (rd σ 48 p1) p3)
    unfold b_X2merge_28
    refine ⟨⟨by omega, by omega⟩, ?_⟩
    have hM7 := hM.sa 48 p1 q5 (i3_bd _)
    have hE8 := hE.sa 48 p1 q5 (by decide)
    have w9 : (rd (sa σ 48 p1 q5) 48 p1).toInt = q5.toInt := by rw [rd_sa]
    refine ⟨⟨by omega, by omega⟩, ?_⟩
    refine ⟨fun c10 => ?_, fun c10 => ?_⟩
    · refine ⟨⟨by omega, by omega⟩, ?_⟩
      have bd11 := i3_bd (rd (sa σ 48 p1 q5) 49 p1)
      have bd12 := i3_bd p4
      have m13 : ((imin (rd (sa σ 48 p1 q5) 49 p1) p4).toInt ≤ (rd (sa σ 48 p1 q5) 49 p1).toInt ∧ (imin (rd (sa σ 48 p1 q5) 49 p1) p4).toInt ≤ p4.toInt) ∧ ((imin (rd (sa σ 48 p1 q5) 49 p1) p4).toInt = (rd (sa σ 48 p1 q5) 49 p1).toInt ∨ (imin (rd (sa σ 48 p1 q5) 49 p1) p4).toInt = p4.toInt) := i3_min rfl
      suffices hs : ∀ (q14 : Int32), q14.toInt = (imin (rd (sa σ 48 p1 q5) 49 p1) p4).toInt → b_X2merge_59 Q p1 p2 q14 p1 (sa σ 48 p1 q5) from hs (imin (rd (sa σ 48 p1 q5) 49 p1) p4) rfl
      intro q14 hq14
      have bd15 := i3_bd (imin (rd (sa σ 48 p1 q5) 49 p1) p4)
      unfold b_X2merge_59
      refine ⟨⟨by omega, by omega⟩, ?_⟩
      have hM16 := hM7.sa 49 p1 q14 (i3_bd _)
      have hE17 := hE8.sa 49 p1 q14 (by decide)
      have w18 : (rd (sa (sa σ 48 p1 q5) 49 p1 q14) 49 p1).toInt = q14.toInt := by rw [rd_sa]
      refine ⟨⟨by omega, by omega⟩, ?_⟩
      have bd19 := i3_bd (rd (sa (sa σ 48 p1 q5) 49 p1 q14) 47 p1)
      have bd20 := i3_bd p2
      generalize ey21 : ((rd (sa (sa σ 48 p1 q5) 49 p1 q14) 47 p1) + p2) = y21
      replace ey21 := ey21.symm
      clear ey21
      have bd22 := i3_bd y21
      have m23 : ((imin 1000 y21).toInt ≤ 1000 ∧ (imin 1000 y21).toInt ≤ y21.toInt) ∧ ((imin 1000 y21).toInt = 1000 ∨ (imin 1000 y21).toInt = y21.toInt) := i3_min rfl
      refine ⟨⟨by omega, by omega⟩, ?_⟩
      have hM24 := hM16.sa 47 p1 (imin 1000 y21) (i3_bd _)
      have hE25 := hE17.sa 47 p1 (imin 1000 y21) (by decide)
      have w26 : (rd (sa (sa (sa σ 48 p1 q5) 49 p1 q14) 47 p1 (imin 1000 y21)) 47 p1).toInt = (imin 1000 y21).toInt := by rw [rd_sa]
      exact hq (sa (sa (sa σ 48 p1 q5) 49 p1 q14) 47 p1 (imin 1000 y21)) hM24 hE25
    · unfold b_X2merge_59
      refine ⟨⟨by omega, by omega⟩, ?_⟩
      have hM27 := hM7.sa 49 p1 p4 (i3_bd _)
      have hE28 := hE8.sa 49 p1 p4 (by decide)
      have w29 : (rd (sa (sa σ 48 p1 q5) 49 p1 p4) 49 p1).toInt = p4.toInt := by rw [rd_sa]
      refine ⟨⟨by omega, by omega⟩, ?_⟩
      have bd30 := i3_bd (rd (sa (sa σ 48 p1 q5) 49 p1 p4) 47 p1)
      have bd31 := i3_bd p2
      generalize ey32 : ((rd (sa (sa σ 48 p1 q5) 49 p1 p4) 47 p1) + p2) = y32
      replace ey32 := ey32.symm
      clear ey32
      have bd33 := i3_bd y32
      have m34 : ((imin 1000 y32).toInt ≤ 1000 ∧ (imin 1000 y32).toInt ≤ y32.toInt) ∧ ((imin 1000 y32).toInt = 1000 ∨ (imin 1000 y32).toInt = y32.toInt) := i3_min rfl
      refine ⟨⟨by omega, by omega⟩, ?_⟩
      have hM35 := hM27.sa 47 p1 (imin 1000 y32) (i3_bd _)
      have hE36 := hE28.sa 47 p1 (imin 1000 y32) (by decide)
      have w37 : (rd (sa (sa (sa σ 48 p1 q5) 49 p1 p4) 47 p1 (imin 1000 y32)) 47 p1).toInt = (imin 1000 y32).toInt := by rw [rd_sa]
      exact hq (sa (sa (sa σ 48 p1 q5) 49 p1 p4) 47 p1 (imin 1000 y32)) hM35 hE36
  · unfold b_X2merge_28
    refine ⟨⟨by omega, by omega⟩, ?_⟩
    have hM38 := hM.sa 48 p1 p3 (i3_bd _)
    have hE39 := hE.sa 48 p1 p3 (by decide)
    have w40 : (rd (sa σ 48 p1 p3) 48 p1).toInt = p3.toInt := by rw [rd_sa]
    refine ⟨⟨by omega, by omega⟩, ?_⟩
    refine ⟨fun c41 => ?_, fun c41 => ?_⟩
    · refine ⟨⟨by omega, by omega⟩, ?_⟩
      have bd42 := i3_bd (rd (sa σ 48 p1 p3) 49 p1)
      have bd43 := i3_bd p4
      have m44 : ((imin (rd (sa σ 48 p1 p3) 49 p1) p4).toInt ≤ (rd (sa σ 48 p1 p3) 49 p1).toInt ∧ (imin (rd (sa σ 48 p1 p3) 49 p1) p4).toInt ≤ p4.toInt) ∧ ((imin (rd (sa σ 48 p1 p3) 49 p1) p4).toInt = (rd (sa σ 48 p1 p3) 49 p1).toInt ∨ (imin (rd (sa σ 48 p1 p3) 49 p1) p4).toInt = p4.toInt) := i3_min rfl
      suffices hs : ∀ (q45 : Int32), q45.toInt = (imin (rd (sa σ 48 p1 p3) 49 p1) p4).toInt → b_X2merge_59 Q p1 p2 q45 p1 (sa σ 48 p1 p3) from hs (imin (rd (sa σ 48 p1 p3) 49 p1) p4) rfl
      intro q45 hq45
      have bd46 := i3_bd (imin (rd (sa σ 48 p1 p3) 49 p1) p4)
      unfold b_X2merge_59
      refine ⟨⟨by omega, by omega⟩, ?_⟩
      have hM47 := hM38.sa 49 p1 q45 (i3_bd _)
      have hE48 := hE39.sa 49 p1 q45 (by decide)
      have w49 : (rd (sa (sa σ 48 p1 p3) 49 p1 q45) 49 p1).toInt = q45.toInt := by rw [rd_sa]
      refine ⟨⟨by omega, by omega⟩, ?_⟩
      have bd50 := i3_bd (rd (sa (sa σ 48 p1 p3) 49 p1 q45) 47 p1)
      have bd51 := i3_bd p2
      generalize ey52 : ((rd (sa (sa σ 48 p1 p3) 49 p1 q45) 47 p1) + p2) = y52
      replace ey52 := ey52.symm
      clear ey52
      have bd53 := i3_bd y52
      have m54 : ((imin 1000 y52).toInt ≤ 1000 ∧ (imin 1000 y52).toInt ≤ y52.toInt) ∧ ((imin 1000 y52).toInt = 1000 ∨ (imin 1000 y52).toInt = y52.toInt) := i3_min rfl
      refine ⟨⟨by omega, by omega⟩, ?_⟩
      have hM55 := hM47.sa 47 p1 (imin 1000 y52) (i3_bd _)
      have hE56 := hE48.sa 47 p1 (imin 1000 y52) (by decide)
      have w57 : (rd (sa (sa (sa σ 48 p1 p3) 49 p1 q45) 47 p1 (imin 1000 y52)) 47 p1).toInt = (imin 1000 y52).toInt := by rw [rd_sa]
      exact hq (sa (sa (sa σ 48 p1 p3) 49 p1 q45) 47 p1 (imin 1000 y52)) hM55 hE56
    · unfold b_X2merge_59
      refine ⟨⟨by omega, by omega⟩, ?_⟩
      have hM58 := hM38.sa 49 p1 p4 (i3_bd _)
      have hE59 := hE39.sa 49 p1 p4 (by decide)
      have w60 : (rd (sa (sa σ 48 p1 p3) 49 p1 p4) 49 p1).toInt = p4.toInt := by rw [rd_sa]
      refine ⟨⟨by omega, by omega⟩, ?_⟩
      have bd61 := i3_bd (rd (sa (sa σ 48 p1 p3) 49 p1 p4) 47 p1)
      have bd62 := i3_bd p2
      generalize ey63 : ((rd (sa (sa σ 48 p1 p3) 49 p1 p4) 47 p1) + p2) = y63
      replace ey63 := ey63.symm
      clear ey63
      have bd64 := i3_bd y63
      have m65 : ((imin 1000 y63).toInt ≤ 1000 ∧ (imin 1000 y63).toInt ≤ y63.toInt) ∧ ((imin 1000 y63).toInt = 1000 ∨ (imin 1000 y63).toInt = y63.toInt) := i3_min rfl
      refine ⟨⟨by omega, by omega⟩, ?_⟩
      have hM66 := hM58.sa 47 p1 (imin 1000 y63) (i3_bd _)
      have hE67 := hE59.sa 47 p1 (imin 1000 y63) (by decide)
      have w68 : (rd (sa (sa (sa σ 48 p1 p3) 49 p1 p4) 47 p1 (imin 1000 y63)) 47 p1).toInt = (imin 1000 y63).toInt := by rw [rd_sa]
      exact hq (sa (sa (sa σ 48 p1 p3) 49 p1 p4) 47 p1 (imin 1000 y63)) hM66 hE67
set_option maxHeartbeats 2000000 in
theorem rg_X2isSpreadTo {Q : Int32 → VS → Prop} {p1 : Int32} {σ : VS} (h_p1 : (-5) ≤ p1.toInt ∧ p1.toInt ≤ 49) (hM : CI σ) (hq : ∀ (r : Int32) (σ' : VS), 0 ≤ r.toInt ∧ r.toInt ≤ 1 → (r.toInt ≠ 0 → 0 ≤ p1.toInt) → CI σ' → Eo [] [] σ σ' → Q r σ') : wp_X2isSpreadTo Q p1 σ := by
  unfold wp_X2isSpreadTo
  intro X8 H_8
  have hE : Eo [] [] σ σ := Eo.rfl
  obtain ⟨σ0, h0⟩ : ∃ z : VS, z = σ := ⟨_, rfl⟩
  rw [← h0] at hq
  replace hE : Eo [] [] σ0 σ := by rw [h0]; exact hE
  clear h0
  refine ⟨fun c1 => ?_, fun c1 => ?_⟩
  · have L_8_n2 : ∀ (n2 : Nat) (l1 : Int32) (l2 : Int32) (σ : VS), 16 - l2.toInt < (n2 : Int) → 0 ≤ l1.toInt ∧ l1.toInt ≤ 49 → 0 ≤ l2.toInt ∧ l2.toInt ≤ 16 → CI σ → Eo [] [] σ0 σ → X8 l1 l2 σ := by
      intro n2
      induction n2 with
      | zero => intro l1 l2 σ hm h_l1 h_l2 hM hE; exfalso; omega
      | succ n2 ih_n2 =>
        intro l1 l2 σ hm h_l1 h_l2 hM hE
        have hm2_8 : 16 - l2.toInt < (n2 : Int) + 1 := by omega
        refine H_8 l1 l2 σ ?_
        unfold b_X2isSpreadTo_8
        have f3 : 1 ≤ (σ.1 9).toInt ∧ (σ.1 9).toInt ≤ 16 := hM.1 9
        refine ⟨fun c4 => ?_, fun c4 => ?_⟩
        · exact hq 0 σ ⟨by decide, by decide⟩ (by intro h9; exact absurd h9 (by decide)) hM hE
        · generalize ey5 : (l1 * 2) = y5
          replace ey5 := ey5.symm
          have ty5 : y5.toInt = l1.toInt * 2 := i3_mulc rfl rfl ey5 (by omega)
          clear ey5
          generalize ey6 : (y5 * (σ.1 9)) = y6
          replace ey6 := ey6.symm
          have ty6 : 0 ≤ y6.toInt ∧ y6.toInt ≤ 1568 := i3_mulb (A := 98) (B := 16) ey6 (by omega) (by omega) (by decide)
          clear ey6
          generalize ey7 : (y6 + l2) = y7
          replace ey7 := ey7.symm
          have ty7 : y7.toInt = y6.toInt + l2.toInt := i3_addc rfl rfl ey7 (by omega)
          clear ey7
          refine ⟨⟨by omega, by omega⟩, ?_⟩
          refine ⟨fun c8 => ?_, fun c8 => ?_⟩
          · generalize ey9 : (l2 + 1) = y9
            replace ey9 := ey9.symm
            have ty9 : y9.toInt = l2.toInt + 1 := i3_addc rfl rfl ey9 (by omega)
            clear ey9
            exact ih_n2 l1 y9 σ (by omega) (by first | omega | decide) (by first | omega | decide) hM hE
          · exact hq 1 σ ⟨by decide, by decide⟩ (by intro h9; omega) hM hE
    exact L_8_n2 ((16 - (0 : Int32).toInt).toNat + 1) p1 0 σ (by decide) (by first | omega | decide) (by first | omega | decide) hM hE
  · exact hq 0 σ ⟨by decide, by decide⟩ (by intro h9; exact absurd h9 (by decide)) hM hE
set_option maxHeartbeats 2000000 in
theorem rg_X2passArc {Q : VS → Prop} {p1 : Int32} {p2 : Int32} {σ : VS} (h_p1 : 0 ≤ p1.toInt ∧ p1.toInt ≤ 199) (h_p2 : 0 ≤ p2.toInt ∧ p2.toInt ≤ 1) (hx_0 : 0 ≤ (rd σ 16 p1).toInt ∧ (rd σ 16 p1).toInt ≤ 49) (hM : CI σ) (hq : ∀ (σ' : VS), CI σ' → Eo [] [47, 48, 49] σ σ' → Q σ') : wp_X2passArc Q p1 p2 σ := by
  unfold wp_X2passArc
  intro X88 H_88
  have hE : Eo [] [47, 48, 49] σ σ := Eo.rfl
  obtain ⟨σ0, h0⟩ : ∃ z : VS, z = σ := ⟨_, rfl⟩
  rw [← h0] at hq
  replace hE : Eo [] [47, 48, 49] σ0 σ := by rw [h0]; exact hE
  clear h0
  generalize ey1 : (p1 / 4) = y1
  replace ey1 := ey1.symm
  have ty1 : y1.toInt = p1.toInt / 4 := i3_divc rfl rfl ey1 (by omega) (by decide)
  clear ey1
  intro x2 ex2
  have ix2 : x2.toInt = y1.toInt := by rw [ex2]
  refine ⟨⟨by omega, by omega⟩, ?_⟩
  generalize ey3 : ((rd σ 16 p1) * 2) = y3
  replace ey3 := ey3.symm
  have ty3 : y3.toInt = (rd σ 16 p1).toInt * 2 := i3_mulc rfl rfl ey3 (by omega)
  clear ey3
  refine ⟨⟨by omega, by omega⟩, ?_⟩
  have a4 : 0 ≤ (rd σ 11 x2).toInt ∧ (rd σ 11 x2).toInt ≤ 5 := hM.2 11 _
  refine ⟨fun c5 => ?_, fun c5 => ?_⟩
  · unfold b_X2passArc_35
    generalize ey6 : (y3 + p2) = y6
    replace ey6 := ey6.symm
    have ty6 : y6.toInt = y3.toInt + p2.toInt := i3_addc rfl rfl ey6 (by omega)
    clear ey6
    have f7 : 1 ≤ (σ.1 9).toInt ∧ (σ.1 9).toInt ≤ 16 := hM.1 9
    generalize ey8 : (y6 * (σ.1 9)) = y8
    replace ey8 := ey8.symm
    have ty8 : 0 ≤ y8.toInt ∧ y8.toInt ≤ 1584 := i3_mulb (A := 99) (B := 16) ey8 (by omega) (by omega) (by decide)
    clear ey8
    intro x9 ex9
    have ix9 : x9.toInt = y8.toInt := by rw [ex9]
    generalize ey10 : (x2 * 2) = y10
    replace ey10 := ey10.symm
    have ty10 : y10.toInt = x2.toInt * 2 := i3_mulc rfl rfl ey10 (by omega)
    clear ey10
    generalize ey11 : (y10 + p2) = y11
    replace ey11 := ey11.symm
    have ty11 : y11.toInt = y10.toInt + p2.toInt := i3_addc rfl rfl ey11 (by omega)
    clear ey11
    generalize ey12 : (y11 * (σ.1 9)) = y12
    replace ey12 := ey12.symm
    have ty12 : 0 ≤ y12.toInt ∧ y12.toInt ≤ 1584 := i3_mulb (A := 99) (B := 16) ey12 (by omega) (by omega) (by decide)
    clear ey12
    intro x13 ex13
    have ix13 : x13.toInt = y12.toInt := by rw [ex13]
    generalize ey14 : (p1 * 2) = y14
    replace ey14 := ey14.symm
    have ty14 : y14.toInt = p1.toInt * 2 := i3_mulc rfl rfl ey14 (by omega)
    clear ey14
    generalize ey15 : (y14 + p2) = y15
    replace ey15 := ey15.symm
    have ty15 : y15.toInt = y14.toInt + p2.toInt := i3_addc rfl rfl ey15 (by omega)
    clear ey15
    refine ⟨⟨by omega, by omega⟩, ?_⟩
    intro x16 ex16
    have ix16 : x16.toInt = (rd σ 41 y15).toInt := by rw [ex16]
    have bd17 := i3_bd (rd σ 41 y15)
    refine ⟨⟨by omega, by omega⟩, ?_⟩
    intro x18 ex18
    have ix18 : x18.toInt = (rd σ 42 y15).toInt := by rw [ex18]
    have bd19 := i3_bd (rd σ 42 y15)
    have L_88_n20 : ∀ (n20 : Nat) (l3 : Int32) (l4 : Int32) (l5 : Int32) (l6 : Int32) (l7 : Int32) (l8 : Int32) (σ : VS), 16 - l8.toInt < (n20 : Int) → 0 ≤ l3.toInt ∧ l3.toInt ≤ 49 → 0 ≤ l4.toInt ∧ l4.toInt ≤ 1584 → 0 ≤ l5.toInt ∧ l5.toInt ≤ 1584 → 0 ≤ l8.toInt ∧ l8.toInt ≤ 16 → CI σ → Eo [] [47, 48, 49] σ0 σ → X88 l3 l4 l5 l6 l7 l8 σ := by
      intro n20
      induction n20 with
      | zero => intro l3 l4 l5 l6 l7 l8 σ hm h_l3 h_l4 h_l5 h_l8 hM hE; exfalso; omega
      | succ n20 ih_n20 =>
        intro l3 l4 l5 l6 l7 l8 σ hm h_l3 h_l4 h_l5 h_l8 hM hE
        have hm2_88 : 16 - l8.toInt < (n20 : Int) + 1 := by omega
        refine H_88 l3 l4 l5 l6 l7 l8 σ ?_
        unfold b_X2passArc_88
        have f21 : 1 ≤ (σ.1 9).toInt ∧ (σ.1 9).toInt ≤ 16 := hM.1 9
        refine ⟨fun c22 => ?_, fun c22 => ?_⟩
        · exact hq σ hM hE
        · generalize ey23 : (l4 + l8) = y23
          replace ey23 := ey23.symm
          have ty23 : y23.toInt = l4.toInt + l8.toInt := i3_addc rfl rfl ey23 (by omega)
          clear ey23
          intro x24 ex24
          have ix24 : x24.toInt = y23.toInt := by rw [ex24]
          refine ⟨⟨by omega, by omega⟩, ?_⟩
          refine ⟨fun c25 => ?_, fun c25 => ?_⟩
          · unfold b_X2passArc_160
            generalize ey26 : (l8 + 1) = y26
            replace ey26 := ey26.symm
            have ty26 : y26.toInt = l8.toInt + 1 := i3_addc rfl rfl ey26 (by omega)
            clear ey26
            have bd27 := i3_bd l6
            have bd28 := i3_bd l7
            exact ih_n20 l3 l4 l5 l6 l7 y26 σ (by omega) (by first | omega | decide) (by first | omega | decide) (by first | omega | decide) (by first | omega | decide) hM hE
          · refine ⟨⟨by omega, by omega⟩, ?_⟩
            have a29 : 0 ≤ (rd σ 35 l3).toInt ∧ (rd σ 35 l3).toInt ≤ 15 := hM.2 35 _
            generalize ey30 : (l8 ||| (rd σ 35 l3)) = y30
            replace ey30 := ey30.symm
            have ty30 := i3_or15 ey30 (by omega) (by omega)
            clear ey30
            generalize ey31 : (l5 + y30) = y31
            replace ey31 := ey31.symm
            have ty31 : y31.toInt = l5.toInt + y30.toInt := i3_addc rfl rfl ey31 (by omega)
            clear ey31
            refine ⟨⟨by omega, by omega⟩, ?_⟩
            refine ⟨⟨by omega, by omega⟩, ?_⟩
            have bd32 := i3_bd (rd σ 48 x24)
            have bd33 := i3_bd l6
            generalize ey34 : ((rd σ 48 x24) + l6) = y34
            replace ey34 := ey34.symm
            clear ey34
            refine ⟨⟨by omega, by omega⟩, ?_⟩
            have bd35 := i3_bd (rd σ 49 x24)
            have bd36 := i3_bd l7
            generalize ey37 : ((rd σ 49 x24) + l7) = y37
            replace ey37 := ey37.symm
            clear ey37
            have bd38 := i3_bd (rd σ 47 x24)
            have bd39 := i3_bd y34
            have bd40 := i3_bd y37
            refine rg_X2merge ⟨by omega, by omega⟩ hM (fun σ42 hM43 hE44o => ?_)
            have hE44 := hE.of hE44o (by decide) (by decide)
            have u45 : (σ42.1 9).toInt = (σ.1 9).toInt := by rw [hE44o.1 9 (by decide)]
            have u46 : (rd σ42 35 l3).toInt = (rd σ 35 l3).toInt := by unfold rd; rw [hE44o.2 35 (by decide)]
            unfold b_X2passArc_160
            generalize ey47 : (l8 + 1) = y47
            replace ey47 := ey47.symm
            have ty47 : y47.toInt = l8.toInt + 1 := i3_addc rfl rfl ey47 (by omega)
            clear ey47
            exact ih_n20 l3 l4 l5 l6 l7 y47 σ42 (by omega) (by first | omega | decide) (by first | omega | decide) (by first | omega | decide) (by first | omega | decide) hM43 hE44
    exact L_88_n20 ((16 - (0 : Int32).toInt).toNat + 1) x2 x9 x13 x16 x18 0 σ (by decide) (by first | omega | decide) (by first | omega | decide) (by first | omega | decide) (by first | omega | decide) hM hE
  · generalize ey48 : (1 - p2) = y48
    replace ey48 := ey48.symm
    have ty48 : y48.toInt = 1 - p2.toInt := i3_subc rfl rfl ey48 (by omega)
    clear ey48
    unfold b_X2passArc_35
    generalize ey49 : (y3 + y48) = y49
    replace ey49 := ey49.symm
    have ty49 : y49.toInt = y3.toInt + y48.toInt := i3_addc rfl rfl ey49 (by omega)
    clear ey49
    have f50 : 1 ≤ (σ.1 9).toInt ∧ (σ.1 9).toInt ≤ 16 := hM.1 9
    generalize ey51 : (y49 * (σ.1 9)) = y51
    replace ey51 := ey51.symm
    have ty51 : 0 ≤ y51.toInt ∧ y51.toInt ≤ 1584 := i3_mulb (A := 99) (B := 16) ey51 (by omega) (by omega) (by decide)
    clear ey51
    intro x52 ex52
    have ix52 : x52.toInt = y51.toInt := by rw [ex52]
    generalize ey53 : (x2 * 2) = y53
    replace ey53 := ey53.symm
    have ty53 : y53.toInt = x2.toInt * 2 := i3_mulc rfl rfl ey53 (by omega)
    clear ey53
    generalize ey54 : (y53 + p2) = y54
    replace ey54 := ey54.symm
    have ty54 : y54.toInt = y53.toInt + p2.toInt := i3_addc rfl rfl ey54 (by omega)
    clear ey54
    generalize ey55 : (y54 * (σ.1 9)) = y55
    replace ey55 := ey55.symm
    have ty55 : 0 ≤ y55.toInt ∧ y55.toInt ≤ 1584 := i3_mulb (A := 99) (B := 16) ey55 (by omega) (by omega) (by decide)
    clear ey55
    intro x56 ex56
    have ix56 : x56.toInt = y55.toInt := by rw [ex56]
    generalize ey57 : (p1 * 2) = y57
    replace ey57 := ey57.symm
    have ty57 : y57.toInt = p1.toInt * 2 := i3_mulc rfl rfl ey57 (by omega)
    clear ey57
    generalize ey58 : (y57 + p2) = y58
    replace ey58 := ey58.symm
    have ty58 : y58.toInt = y57.toInt + p2.toInt := i3_addc rfl rfl ey58 (by omega)
    clear ey58
    refine ⟨⟨by omega, by omega⟩, ?_⟩
    intro x59 ex59
    have ix59 : x59.toInt = (rd σ 41 y58).toInt := by rw [ex59]
    have bd60 := i3_bd (rd σ 41 y58)
    refine ⟨⟨by omega, by omega⟩, ?_⟩
    intro x61 ex61
    have ix61 : x61.toInt = (rd σ 42 y58).toInt := by rw [ex61]
    have bd62 := i3_bd (rd σ 42 y58)
    have L_88_n63 : ∀ (n63 : Nat) (l3 : Int32) (l4 : Int32) (l5 : Int32) (l6 : Int32) (l7 : Int32) (l8 : Int32) (σ : VS), 16 - l8.toInt < (n63 : Int) → 0 ≤ l3.toInt ∧ l3.toInt ≤ 49 → 0 ≤ l4.toInt ∧ l4.toInt ≤ 1584 → 0 ≤ l5.toInt ∧ l5.toInt ≤ 1584 → 0 ≤ l8.toInt ∧ l8.toInt ≤ 16 → CI σ → Eo [] [47, 48, 49] σ0 σ → X88 l3 l4 l5 l6 l7 l8 σ := by
      intro n63
      induction n63 with
      | zero => intro l3 l4 l5 l6 l7 l8 σ hm h_l3 h_l4 h_l5 h_l8 hM hE; exfalso; omega
      | succ n63 ih_n63 =>
        intro l3 l4 l5 l6 l7 l8 σ hm h_l3 h_l4 h_l5 h_l8 hM hE
        have hm2_88 : 16 - l8.toInt < (n63 : Int) + 1 := by omega
        refine H_88 l3 l4 l5 l6 l7 l8 σ ?_
        unfold b_X2passArc_88
        have f64 : 1 ≤ (σ.1 9).toInt ∧ (σ.1 9).toInt ≤ 16 := hM.1 9
        refine ⟨fun c65 => ?_, fun c65 => ?_⟩
        · exact hq σ hM hE
        · generalize ey66 : (l4 + l8) = y66
          replace ey66 := ey66.symm
          have ty66 : y66.toInt = l4.toInt + l8.toInt := i3_addc rfl rfl ey66 (by omega)
          clear ey66
          intro x67 ex67
          have ix67 : x67.toInt = y66.toInt := by rw [ex67]
          refine ⟨⟨by omega, by omega⟩, ?_⟩
          refine ⟨fun c68 => ?_, fun c68 => ?_⟩
          · unfold b_X2passArc_160
            generalize ey69 : (l8 + 1) = y69
            replace ey69 := ey69.symm
            have ty69 : y69.toInt = l8.toInt + 1 := i3_addc rfl rfl ey69 (by omega)
            clear ey69
            have bd70 := i3_bd l6
            have bd71 := i3_bd l7
            exact ih_n63 l3 l4 l5 l6 l7 y69 σ (by omega) (by first | omega | decide) (by first | omega | decide) (by first | omega | decide) (by first | omega | decide) hM hE
          · refine ⟨⟨by omega, by omega⟩, ?_⟩
            have a72 : 0 ≤ (rd σ 35 l3).toInt ∧ (rd σ 35 l3).toInt ≤ 15 := hM.2 35 _
            generalize ey73 : (l8 ||| (rd σ 35 l3)) = y73
            replace ey73 := ey73.symm
            have ty73 := i3_or15 ey73 (by omega) (by omega)
            clear ey73
            generalize ey74 : (l5 + y73) = y74
            replace ey74 := ey74.symm
            have ty74 : y74.toInt = l5.toInt + y73.toInt := i3_addc rfl rfl ey74 (by omega)
            clear ey74
            refine ⟨⟨by omega, by omega⟩, ?_⟩
            refine ⟨⟨by omega, by omega⟩, ?_⟩
            have bd75 := i3_bd (rd σ 48 x67)
            have bd76 := i3_bd l6
            generalize ey77 : ((rd σ 48 x67) + l6) = y77
            replace ey77 := ey77.symm
            clear ey77
            refine ⟨⟨by omega, by omega⟩, ?_⟩
            have bd78 := i3_bd (rd σ 49 x67)
            have bd79 := i3_bd l7
            generalize ey80 : ((rd σ 49 x67) + l7) = y80
            replace ey80 := ey80.symm
            clear ey80
            have bd81 := i3_bd (rd σ 47 x67)
            have bd82 := i3_bd y77
            have bd83 := i3_bd y80
            refine rg_X2merge ⟨by omega, by omega⟩ hM (fun σ85 hM86 hE87o => ?_)
            have hE87 := hE.of hE87o (by decide) (by decide)
            have u88 : (σ85.1 9).toInt = (σ.1 9).toInt := by rw [hE87o.1 9 (by decide)]
            have u89 : (rd σ85 35 l3).toInt = (rd σ 35 l3).toInt := by unfold rd; rw [hE87o.2 35 (by decide)]
            unfold b_X2passArc_160
            generalize ey90 : (l8 + 1) = y90
            replace ey90 := ey90.symm
            have ty90 : y90.toInt = l8.toInt + 1 := i3_addc rfl rfl ey90 (by omega)
            clear ey90
            exact ih_n63 l3 l4 l5 l6 l7 y90 σ85 (by omega) (by first | omega | decide) (by first | omega | decide) (by first | omega | decide) (by first | omega | decide) hM86 hE87
    exact L_88_n63 ((16 - (0 : Int32).toInt).toNat + 1) x2 x52 x56 x59 x61 0 σ (by decide) (by first | omega | decide) (by first | omega | decide) (by first | omega | decide) (by first | omega | decide) hM hE
set_option maxHeartbeats 2000000 in
theorem rg_X2spreadFrom {Q : VS → Prop} {p1 : Int32} {σ : VS} (h_p1 : 0 ≤ p1.toInt ∧ p1.toInt ≤ 49) (hM : CI σ) (hq : ∀ (σ' : VS), CI σ' → Eo [] [47, 48, 49] σ σ' → Q σ') : wp_X2spreadFrom Q p1 σ := by
  unfold wp_X2spreadFrom
  intro X2 X37 X93 X119 H_2 H_37 H_93 H_119
  have hE : Eo [] [47, 48, 49] σ σ := Eo.rfl
  obtain ⟨σ0, h0⟩ : ∃ z : VS, z = σ := ⟨_, rfl⟩
  rw [← h0] at hq
  replace hE : Eo [] [47, 48, 49] σ0 σ := by rw [h0]; exact hE
  clear h0
  have L_2_n1 : ∀ (n1 : Nat) (l1 : Int32) (l2 : Int32) (σ : VS), 1600 - l2.toInt < (n1 : Int) → 0 ≤ l1.toInt ∧ l1.toInt ≤ 49 → 0 ≤ l2.toInt ∧ l2.toInt ≤ 1600 → CI σ → Eo [] [47, 48, 49] σ0 σ → X2 l1 l2 σ := by
    intro n1
    induction n1 with
    | zero => intro l1 l2 σ hm h_l1 h_l2 hM hE; exfalso; omega
    | succ n1 ih_n1 =>
      intro l1 l2 σ hm h_l1 h_l2 hM hE
      have hm2_2 : 1600 - l2.toInt < (n1 : Int) + 1 := by omega
      refine H_2 l1 l2 σ ?_
      unfold b_X2spreadFrom_2
      have f2 : 0 ≤ (σ.1 2).toInt ∧ (σ.1 2).toInt ≤ 50 := hM.1 2
      generalize ey3 : ((σ.1 2) * 2) = y3
      replace ey3 := ey3.symm
      have ty3 : y3.toInt = (σ.1 2).toInt * 2 := i3_mulc rfl rfl ey3 (by omega)
      clear ey3
      have f4 : 1 ≤ (σ.1 9).toInt ∧ (σ.1 9).toInt ≤ 16 := hM.1 9
      generalize ey5 : (y3 * (σ.1 9)) = y5
      replace ey5 := ey5.symm
      have ty5 : 0 ≤ y5.toInt ∧ y5.toInt ≤ 1600 := i3_mulb (A := 100) (B := 16) ey5 (by omega) (by omega) (by decide)
      clear ey5
      refine ⟨fun c6 => ?_, fun c6 => ?_⟩
      · generalize ey7 : (l1 * 2) = y7
        replace ey7 := ey7.symm
        have ty7 : y7.toInt = l1.toInt * 2 := i3_mulc rfl rfl ey7 (by omega)
        clear ey7
        intro x8 ex8
        have ix8 : x8.toInt = y7.toInt := by rw [ex8]
        have L_37_n9 : ∀ (n9 : Nat) (l1 : Int32) (l2 : Int32) (σ : VS), 100 - l2.toInt < (n9 : Int) → 0 ≤ l1.toInt ∧ l1.toInt ≤ 49 → 0 ≤ l2.toInt ∧ l2.toInt ≤ 100 → CI σ → Eo [] [47, 48, 49] σ0 σ → X37 l1 l2 σ := by
          intro n9
          induction n9 with
          | zero => intro l1 l2 σ hm h_l1 h_l2 hM hE; exfalso; omega
          | succ n9 ih_n9 =>
            intro l1 l2 σ hm h_l1 h_l2 hM hE
            have hm2_37 : 100 - l2.toInt < (n9 : Int) + 1 := by omega
            refine H_37 l1 l2 σ ?_
            unfold b_X2spreadFrom_37
            generalize ey10 : (l1 * 2) = y10
            replace ey10 := ey10.symm
            have ty10 : y10.toInt = l1.toInt * 2 := i3_mulc rfl rfl ey10 (by omega)
            clear ey10
            generalize ey11 : (y10 + 2) = y11
            replace ey11 := ey11.symm
            have ty11 : y11.toInt = y10.toInt + 2 := i3_addc rfl rfl ey11 (by omega)
            clear ey11
            refine ⟨fun c12 => ?_, fun c12 => ?_⟩
            · have L_93_n13 : ∀ (n13 : Nat) (l2 : Int32) (σ : VS), 50 - l2.toInt < (n13 : Int) → 0 ≤ l2.toInt ∧ l2.toInt ≤ 50 → CI σ → Eo [] [47, 48, 49] σ0 σ → X93 l2 σ := by
                intro n13
                induction n13 with
                | zero => intro l2 σ hm h_l2 hM hE; exfalso; omega
                | succ n13 ih_n13 =>
                  intro l2 σ hm h_l2 hM hE
                  have hm2_93 : 50 - l2.toInt < (n13 : Int) + 1 := by omega
                  refine H_93 l2 σ ?_
                  unfold b_X2spreadFrom_93
                  have f14 : 0 ≤ (σ.1 3).toInt ∧ (σ.1 3).toInt ≤ 50 := hM.1 3
                  refine ⟨fun c15 => ?_, fun c15 => ?_⟩
                  · exact hq σ hM hE
                  · refine ⟨⟨by omega, by omega⟩, ?_⟩
                    have a16 : 0 ≤ (rd σ 19 l2).toInt ∧ (rd σ 19 l2).toInt ≤ 49 := hM.2 19 _
                    intro x17 ex17
                    have ix17 : x17.toInt = (rd σ 19 l2).toInt := by rw [ex17]
                    generalize ey18 : (x17 * 4) = y18
                    replace ey18 := ey18.symm
                    have ty18 : y18.toInt = x17.toInt * 4 := i3_mulc rfl rfl ey18 (by omega)
                    clear ey18
                    intro x19 ex19
                    have ix19 : x19.toInt = y18.toInt := by rw [ex19]
                    have L_119_n20 : ∀ (n20 : Nat) (l2 : Int32) (l3 : Int32) (l4 : Int32) (σ : VS), 200 - l4.toInt < (n20 : Int) → 0 ≤ l2.toInt ∧ l2.toInt ≤ 49 → 0 ≤ l3.toInt ∧ l3.toInt ≤ 49 → 0 ≤ l4.toInt ∧ l4.toInt ≤ 200 → 50 - l2.toInt < (n13 : Int) + 1 → CI σ → Eo [] [47, 48, 49] σ0 σ → X119 l2 l3 l4 σ := by
                      intro n20
                      induction n20 with
                      | zero => intro l2 l3 l4 σ hm h_l2 h_l3 h_l4 m_93 hM hE; exfalso; omega
                      | succ n20 ih_n20 =>
                        intro l2 l3 l4 σ hm h_l2 h_l3 h_l4 m_93 hM hE
                        have hm2_119 : 200 - l4.toInt < (n20 : Int) + 1 := by omega
                        refine H_119 l2 l3 l4 σ ?_
                        unfold b_X2spreadFrom_119
                        generalize ey21 : (l3 * 4) = y21
                        replace ey21 := ey21.symm
                        have ty21 : y21.toInt = l3.toInt * 4 := i3_mulc rfl rfl ey21 (by omega)
                        clear ey21
                        refine ⟨⟨by omega, by omega⟩, ?_⟩
                        have a22 : 0 ≤ (rd σ 12 l3).toInt ∧ (rd σ 12 l3).toInt ≤ 4 := hM.2 12 _
                        generalize ey23 : (y21 + (rd σ 12 l3)) = y23
                        replace ey23 := ey23.symm
                        have ty23 : y23.toInt = y21.toInt + (rd σ 12 l3).toInt := i3_addc rfl rfl ey23 (by omega)
                        clear ey23
                        refine ⟨fun c24 => ?_, fun c24 => ?_⟩
                        · generalize ey25 : (l2 + 1) = y25
                          replace ey25 := ey25.symm
                          have ty25 : y25.toInt = l2.toInt + 1 := i3_addc rfl rfl ey25 (by omega)
                          clear ey25
                          exact ih_n13 y25 σ (by omega) (by first | omega | decide) hM hE
                        · refine ⟨⟨by omega, by omega⟩, ?_⟩
                          refine ⟨fun c26 => ?_, fun c26 => ?_⟩
                          · unfold b_X2spreadFrom_180
                            generalize ey27 : (l4 + 1) = y27
                            replace ey27 := ey27.symm
                            have ty27 : y27.toInt = l4.toInt + 1 := i3_addc rfl rfl ey27 (by omega)
                            clear ey27
                            exact ih_n20 l2 l3 y27 σ (by omega) (by first | omega | decide) (by first | omega | decide) (by first | omega | decide) (by first | omega | decide) hM hE
                          · refine ⟨⟨by omega, by omega⟩, ?_⟩
                            have a28 : (-5) ≤ (rd σ 16 l4).toInt ∧ (rd σ 16 l4).toInt ≤ 49 := hM.2 16 _
                            refine rg_X2isSpreadTo ⟨by omega, by omega⟩ hM (fun r29 σ30 br29 ir29 hM31 hE32o => ?_)
                            have hE32 := hE.of hE32o (by decide) (by decide)
                            have u33 : (rd σ30 12 l3).toInt = (rd σ 12 l3).toInt := by unfold rd; rw [hE32o.2 12 (by decide)]
                            have u34 : (rd σ30 40 l3).toInt = (rd σ 40 l3).toInt := by unfold rd; rw [hE32o.2 40 (by decide)]
                            have u35 : (rd σ30 16 l4).toInt = (rd σ 16 l4).toInt := by unfold rd; rw [hE32o.2 16 (by decide)]
                            refine ⟨fun c36 => ?_, fun c36 => ?_⟩
                            · unfold b_X2spreadFrom_180
                              generalize ey37 : (l4 + 1) = y37
                              replace ey37 := ey37.symm
                              have ty37 : y37.toInt = l4.toInt + 1 := i3_addc rfl rfl ey37 (by omega)
                              clear ey37
                              exact ih_n20 l2 l3 y37 σ30 (by omega) (by first | omega | decide) (by first | omega | decide) (by first | omega | decide) (by first | omega | decide) hM31 hE32
                            · have fc36 := ir29 c36
                              refine rg_X2passArc ⟨by omega, by omega⟩ ⟨by decide, by decide⟩ (by first | omega | decide) hM31 (fun σ39 hM40 hE41o => ?_)
                              have hE41 := hE32.of hE41o (by decide) (by decide)
                              have u42 : (rd σ39 12 l3).toInt = (rd σ30 12 l3).toInt := by unfold rd; rw [hE41o.2 12 (by decide)]
                              have u43 : (rd σ39 40 l3).toInt = (rd σ30 40 l3).toInt := by unfold rd; rw [hE41o.2 40 (by decide)]
                              have u44 : (rd σ39 16 l4).toInt = (rd σ30 16 l4).toInt := by unfold rd; rw [hE41o.2 16 (by decide)]
                              refine rg_X2passArc ⟨by omega, by omega⟩ ⟨by decide, by decide⟩ (by first | omega | decide) hM40 (fun σ46 hM47 hE48o => ?_)
                              have hE48 := hE41.of hE48o (by decide) (by decide)
                              have u49 : (rd σ46 12 l3).toInt = (rd σ39 12 l3).toInt := by unfold rd; rw [hE48o.2 12 (by decide)]
                              have u50 : (rd σ46 40 l3).toInt = (rd σ39 40 l3).toInt := by unfold rd; rw [hE48o.2 40 (by decide)]
                              have u51 : (rd σ46 16 l4).toInt = (rd σ39 16 l4).toInt := by unfold rd; rw [hE48o.2 16 (by decide)]
                              unfold b_X2spreadFrom_180
                              generalize ey52 : (l4 + 1) = y52
                              replace ey52 := ey52.symm
                              have ty52 : y52.toInt = l4.toInt + 1 := i3_addc rfl rfl ey52 (by omega)
                              clear ey52
                              exact ih_n20 l2 l3 y52 σ46 (by omega) (by first | omega | decide) (by first | omega | decide) (by first | omega | decide) (by first | omega | decide) hM47 hE48
                    exact L_119_n20 ((200 - x19.toInt).toNat + 1) l2 x17 x19 σ (by omega) (by first | omega | decide) (by first | omega | decide) (by first | omega | decide) (by first | omega | decide) hM hE
              exact L_93_n13 ((50 - (0 : Int32).toInt).toNat + 1) 0 σ (by decide) (by first | omega | decide) hM hE
            · have f53 : 1 ≤ (σ.1 9).toInt ∧ (σ.1 9).toInt ≤ 16 := hM.1 9
              generalize ey54 : (l2 * (σ.1 9)) = y54
              replace ey54 := ey54.symm
              have ty54 : 0 ≤ y54.toInt ∧ y54.toInt ≤ 1584 := i3_mulb (A := 99) (B := 16) ey54 (by omega) (by omega) (by decide)
              clear ey54
              refine ⟨⟨by omega, by omega⟩, ?_⟩
              have a55 : 0 ≤ (rd σ 35 l1).toInt ∧ (rd σ 35 l1).toInt ≤ 15 := hM.2 35 _
              generalize ey56 : (y54 + (rd σ 35 l1)) = y56
              replace ey56 := ey56.symm
              have ty56 : y56.toInt = y54.toInt + (rd σ 35 l1).toInt := i3_addc rfl rfl ey56 (by omega)
              clear ey56
              refine ⟨⟨by omega, by omega⟩, ?_⟩
              refine ⟨⟨by omega, by omega⟩, ?_⟩
              have bd57 := i3_bd (rd σ 45 l2)
              have bd58 := i3_bd (rd σ 46 l2)
              refine rg_X2merge ⟨by omega, by omega⟩ hM (fun σ60 hM61 hE62o => ?_)
              have hE62 := hE.of hE62o (by decide) (by decide)
              have u63 : (σ60.1 9).toInt = (σ.1 9).toInt := by rw [hE62o.1 9 (by decide)]
              have u64 : (rd σ60 35 l1).toInt = (rd σ 35 l1).toInt := by unfold rd; rw [hE62o.2 35 (by decide)]
              generalize ey65 : (l2 + 1) = y65
              replace ey65 := ey65.symm
              have ty65 : y65.toInt = l2.toInt + 1 := i3_addc rfl rfl ey65 (by omega)
              clear ey65
              exact ih_n9 l1 y65 σ60 (by omega) (by first | omega | decide) (by first | omega | decide) hM61 hE62
        exact L_37_n9 ((100 - x8.toInt).toNat + 1) l1 x8 σ (by omega) (by first | omega | decide) (by first | omega | decide) hM hE
      · refine ⟨⟨by omega, by omega⟩, ?_⟩
        have hM66 := hM.sa 47 l2 0 (i3_bd _)
        have hE67 := hE.sa 47 l2 0 (by decide)
        have u68 : ((sa σ 47 l2 0).1 2).toInt = (σ.1 2).toInt := rfl
        have u69 : ((sa σ 47 l2 0).1 9).toInt = (σ.1 9).toInt := rfl
        have w70 : (rd (sa σ 47 l2 0) 47 l2).toInt = 0 := by rw [rd_sa]; rfl
        generalize ey71 : (l2 + 1) = y71
        replace ey71 := ey71.symm
        have ty71 : y71.toInt = l2.toInt + 1 := i3_addc rfl rfl ey71 (by omega)
        clear ey71
        exact ih_n1 l1 y71 (sa σ 47 l2 0) (by omega) (by first | omega | decide) (by first | omega | decide) hM66 hE67
  exact L_2_n1 ((1600 - (0 : Int32).toInt).toNat + 1) p1 0 σ (by decide) (by first | omega | decide) (by first | omega | decide) hM hE
set_option maxHeartbeats 2000000 in
theorem rg_X2finish {Q : VS → Prop} {p1 : Int32} {p2 : Int32} {σ : VS} (h_p1 : 0 ≤ p1.toInt ∧ p1.toInt ≤ 49) (h_p2 : 0 ≤ p2.toInt ∧ p2.toInt ≤ 49) (hx_0 : ∀ y : Int32, y.toInt = p2.toInt * 4 → 0 ≤ (rd σ 16 y).toInt ∧ (rd σ 16 y).toInt ≤ 49) (hM : CI σ) (hq : ∀ (σ' : VS), CI σ' → Eo [10] [50, 51, 52] σ σ' → Q σ') : wp_X2finish Q p1 p2 σ := by
  unfold wp_X2finish
  intro X38 H_38
  have hE : Eo [10] [50, 51, 52] σ σ := Eo.rfl
  obtain ⟨σ0, h0⟩ : ∃ z : VS, z = σ := ⟨_, rfl⟩
  rw [← h0] at hq
  replace hE : Eo [10] [50, 51, 52] σ0 σ := by rw [h0]; exact hE
  clear h0
  generalize ey1 : (p2 * 4) = y1
  replace ey1 := ey1.symm
  have ty1 : y1.toInt = p2.toInt * 4 := i3_mulc rfl rfl ey1 (by omega)
  have hx9 := hx_0 y1 (by omega)
  clear ey1
  refine ⟨⟨by omega, by omega⟩, ?_⟩
  generalize ey2 : ((rd σ 16 y1) * 2) = y2
  replace ey2 := ey2.symm
  have ty2 : y2.toInt = (rd σ 16 y1).toInt * 2 := i3_mulc rfl rfl ey2 (by omega)
  clear ey2
  have f3 : 1 ≤ (σ.1 9).toInt ∧ (σ.1 9).toInt ≤ 16 := hM.1 9
  generalize ey4 : (y2 * (σ.1 9)) = y4
  replace ey4 := ey4.symm
  have ty4 : 0 ≤ y4.toInt ∧ y4.toInt ≤ 1568 := i3_mulb (A := 98) (B := 16) ey4 (by omega) (by omega) (by decide)
  clear ey4
  intro x5 ex5
  have ix5 : x5.toInt = y4.toInt := by rw [ex5]
  refine rg_X2slackRoom ⟨by omega, by omega⟩ ⟨by omega, by omega⟩ hM (fun r6 σ7 hM8 hE9o => ?_)
  have hE9 := hE.of hE9o (by decide) (by decide)
  have bd10 := i3_bd r6
  have u11 : (rd σ7 16 y1).toInt = (rd σ 16 y1).toInt := by unfold rd; rw [hE9o.2 16 (by decide)]
  have u12 : (σ7.1 9).toInt = (σ.1 9).toInt := by rw [hE9o.1 9 (by decide)]
  refine rg_X2holdRoom ⟨by omega, by omega⟩ ⟨by omega, by omega⟩ hM8 (fun r13 σ14 hM15 hE16o => ?_)
  have hE16 := hE9.of hE16o (by decide) (by decide)
  have bd17 := i3_bd r13
  have u18 : (rd σ14 16 y1).toInt = (rd σ7 16 y1).toInt := by unfold rd; rw [hE16o.2 16 (by decide)]
  have u19 : (σ14.1 9).toInt = (σ7.1 9).toInt := by rw [hE16o.1 9 (by decide)]
  have L_38_n20 : ∀ (n20 : Nat) (l1 : Int32) (l2 : Int32) (l3 : Int32) (l4 : Int32) (l5 : Int32) (l6 : Int32) (σ : VS), 32 - l6.toInt < (n20 : Int) → 0 ≤ l1.toInt ∧ l1.toInt ≤ 49 → 0 ≤ l2.toInt ∧ l2.toInt ≤ 49 → 0 ≤ l3.toInt ∧ l3.toInt ≤ 1568 → 0 ≤ l6.toInt ∧ l6.toInt ≤ 32 → CI σ → Eo [10] [50, 51, 52] σ0 σ → X38 l1 l2 l3 l4 l5 l6 σ := by
    intro n20
    induction n20 with
    | zero => intro l1 l2 l3 l4 l5 l6 σ hm h_l1 h_l2 h_l3 h_l6 hM hE; exfalso; omega
    | succ n20 ih_n20 =>
      intro l1 l2 l3 l4 l5 l6 σ hm h_l1 h_l2 h_l3 h_l6 hM hE
      have hm2_38 : 32 - l6.toInt < (n20 : Int) + 1 := by omega
      refine H_38 l1 l2 l3 l4 l5 l6 σ ?_
      unfold b_X2finish_38
      have f21 : 1 ≤ (σ.1 9).toInt ∧ (σ.1 9).toInt ≤ 16 := hM.1 9
      generalize ey22 : (2 * (σ.1 9)) = y22
      replace ey22 := ey22.symm
      have ty22 : y22.toInt = 2 * (σ.1 9).toInt := i3_mulc rfl rfl ey22 (by omega)
      clear ey22
      refine ⟨fun c23 => ?_, fun c23 => ?_⟩
      · exact hq σ hM hE
      · generalize ey24 : (l3 + l6) = y24
        replace ey24 := ey24.symm
        have ty24 : y24.toInt = l3.toInt + l6.toInt := i3_addc rfl rfl ey24 (by omega)
        clear ey24
        intro x25 ex25
        have ix25 : x25.toInt = y24.toInt := by rw [ex25]
        refine ⟨i3_nz (by omega), ?_⟩
        generalize ey26 : (l6 - l6 / (σ.1 9) * (σ.1 9)) = y26
        replace ey26 := ey26.symm
        have ty26 := i3_remb ey26 (by omega) (by omega)
        clear ey26
        refine ⟨⟨by omega, by omega⟩, ?_⟩
        have a27 : 0 ≤ (rd σ 35 l2).toInt ∧ (rd σ 35 l2).toInt ≤ 15 := hM.2 35 _
        generalize ey28 : (y26 ||| (rd σ 35 l2)) = y28
        replace ey28 := ey28.symm
        have ty28 := i3_or15 ey28 (by omega) (by omega)
        clear ey28
        refine rg_X3periodsOf hM (fun r29 σ30 br29 hM31 hE32o => ?_)
        have hE32 := hE.of hE32o (by decide) (by decide)
        have u33 : (σ30.1 9).toInt = (σ.1 9).toInt := by rw [hE32o.1 9 (by decide)]
        have u34 : (rd σ30 35 l2).toInt = (rd σ 35 l2).toInt := by unfold rd; rw [hE32o.2 35 (by decide)]
        refine ⟨⟨by omega, by omega⟩, ?_⟩
        refine ⟨fun c35 => ?_, fun c35 => ?_⟩
        · unfold b_X2finish_219
          generalize ey36 : (l6 + 1) = y36
          replace ey36 := ey36.symm
          have ty36 : y36.toInt = l6.toInt + 1 := i3_addc rfl rfl ey36 (by omega)
          clear ey36
          have bd37 := i3_bd l4
          have bd38 := i3_bd l5
          exact ih_n20 l1 l2 l3 l4 l5 y36 σ30 (by omega) (by first | omega | decide) (by first | omega | decide) (by first | omega | decide) (by first | omega | decide) hM31 hE32
        · refine ⟨fun c39 => ?_, fun c39 => ?_⟩
          · unfold b_X2finish_219
            generalize ey40 : (l6 + 1) = y40
            replace ey40 := ey40.symm
            have ty40 : y40.toInt = l6.toInt + 1 := i3_addc rfl rfl ey40 (by omega)
            clear ey40
            have bd41 := i3_bd l4
            have bd42 := i3_bd l5
            exact ih_n20 l1 l2 l3 l4 l5 y40 σ30 (by omega) (by first | omega | decide) (by first | omega | decide) (by first | omega | decide) (by first | omega | decide) hM31 hE32
          · refine ⟨⟨by omega, by omega⟩, ?_⟩
            have bd43 := i3_bd l4
            have bd44 := i3_bd (rd σ30 48 x25)
            generalize ey45 : (l4 - (rd σ30 48 x25)) = y45
            replace ey45 := ey45.symm
            clear ey45
            intro x46 ex46
            have ix46 : x46.toInt = y45.toInt := by rw [ex46]
            have bd47 := i3_bd y45
            refine ⟨⟨by omega, by omega⟩, ?_⟩
            refine ⟨⟨by omega, by omega⟩, ?_⟩
            have bd48 := i3_bd (rd σ30 50 l2)
            have bd49 := i3_bd (rd σ30 47 x25)
            generalize ey50 : ((rd σ30 50 l2) + (rd σ30 47 x25)) = y50
            replace ey50 := ey50.symm
            clear ey50
            have bd51 := i3_bd y50
            have m52 : ((imin 1000 y50).toInt ≤ 1000 ∧ (imin 1000 y50).toInt ≤ y50.toInt) ∧ ((imin 1000 y50).toInt = 1000 ∨ (imin 1000 y50).toInt = y50.toInt) := i3_min rfl
            refine ⟨⟨by omega, by omega⟩, ?_⟩
            have hM53 := hM31.sa 50 l2 (imin 1000 y50) (i3_bd _)
            have hE54 := hE32.sa 50 l2 (imin 1000 y50) (by decide)
            have u55 : ((sa σ30 50 l2 (imin 1000 y50)).1 9).toInt = (σ30.1 9).toInt := rfl
            have w56 : (rd (sa σ30 50 l2 (imin 1000 y50)) 50 l2).toInt = (imin 1000 y50).toInt := by rw [rd_sa]
            refine ⟨⟨by omega, by omega⟩, ?_⟩
            have f57 : 1 ≤ ((sa σ30 50 l2 (imin 1000 y50)).1 4).toInt ∧ ((sa σ30 50 l2 (imin 1000 y50)).1 4).toInt ≤ 1000000 := hM53.1 4
            generalize ey58 : (r29 * ((sa σ30 50 l2 (imin 1000 y50)).1 4)) = y58
            replace ey58 := ey58.symm
            have ty58 : 0 ≤ y58.toInt ∧ y58.toInt ≤ 4000000 := i3_mulb (A := 4) (B := 1000000) ey58 (by omega) (by omega) (by decide)
            clear ey58
            have bd59 := i3_bd x46
            generalize ey60 : (y58 + x46) = y60
            replace ey60 := ey60.symm
            clear ey60
            have bd61 := i3_bd (rd (sa σ30 50 l2 (imin 1000 y50)) 51 l2)
            have bd62 := i3_bd y60
            have m63 : ((imin (rd (sa σ30 50 l2 (imin 1000 y50)) 51 l2) y60).toInt ≤ (rd (sa σ30 50 l2 (imin 1000 y50)) 51 l2).toInt ∧ (imin (rd (sa σ30 50 l2 (imin 1000 y50)) 51 l2) y60).toInt ≤ y60.toInt) ∧ ((imin (rd (sa σ30 50 l2 (imin 1000 y50)) 51 l2) y60).toInt = (rd (sa σ30 50 l2 (imin 1000 y50)) 51 l2).toInt ∨ (imin (rd (sa σ30 50 l2 (imin 1000 y50)) 51 l2) y60).toInt = y60.toInt) := i3_min rfl
            refine ⟨⟨by omega, by omega⟩, ?_⟩
            have hM64 := hM53.sa 51 l2 (imin (rd (sa σ30 50 l2 (imin 1000 y50)) 51 l2) y60) (i3_bd _)
            have hE65 := hE54.sa 51 l2 (imin (rd (sa σ30 50 l2 (imin 1000 y50)) 51 l2) y60) (by decide)
            have u66 : ((sa (sa σ30 50 l2 (imin 1000 y50)) 51 l2 (imin (rd (sa σ30 50 l2 (imin 1000 y50)) 51 l2) y60)).1 9).toInt = ((sa σ30 50 l2 (imin 1000 y50)).1 9).toInt := rfl
            have u67 : ((sa (sa σ30 50 l2 (imin 1000 y50)) 51 l2 (imin (rd (sa σ30 50 l2 (imin 1000 y50)) 51 l2) y60)).1 4).toInt = ((sa σ30 50 l2 (imin 1000 y50)).1 4).toInt := rfl
            have w68 : (rd (sa (sa σ30 50 l2 (imin 1000 y50)) 51 l2 (imin (rd (sa σ30 50 l2 (imin 1000 y50)) 51 l2) y60)) 51 l2).toInt = (imin (rd (sa σ30 50 l2 (imin 1000 y50)) 51 l2) y60).toInt := by rw [rd_sa]
            refine ⟨⟨by omega, by omega⟩, ?_⟩
            refine ⟨⟨by omega, by omega⟩, ?_⟩
            have bd69 := i3_bd (rd (sa (sa σ30 50 l2 (imin 1000 y50)) 51 l2 (imin (rd (sa σ30 50 l2 (imin 1000 y50)) 51 l2) y60)) 49 x25)
            have bd70 := i3_bd l5
            generalize ey71 : ((rd (sa (sa σ30 50 l2 (imin 1000 y50)) 51 l2 (imin (rd (sa σ30 50 l2 (imin 1000 y50)) 51 l2) y60)) 49 x25) + l5) = y71
            replace ey71 := ey71.symm
            clear ey71
            have bd72 := i3_bd (rd (sa (sa σ30 50 l2 (imin 1000 y50)) 51 l2 (imin (rd (sa σ30 50 l2 (imin 1000 y50)) 51 l2) y60)) 52 l2)
            have bd73 := i3_bd y71
            have m74 : ((imin (rd (sa (sa σ30 50 l2 (imin 1000 y50)) 51 l2 (imin (rd (sa σ30 50 l2 (imin 1000 y50)) 51 l2) y60)) 52 l2) y71).toInt ≤ (rd (sa (sa σ30 50 l2 (imin 1000 y50)) 51 l2 (imin (rd (sa σ30 50 l2 (imin 1000 y50)) 51 l2) y60)) 52 l2).toInt ∧ (imin (rd (sa (sa σ30 50 l2 (imin 1000 y50)) 51 l2 (imin (rd (sa σ30 50 l2 (imin 1000 y50)) 51 l2) y60)) 52 l2) y71).toInt ≤ y71.toInt) ∧ ((imin (rd (sa (sa σ30 50 l2 (imin 1000 y50)) 51 l2 (imin (rd (sa σ30 50 l2 (imin 1000 y50)) 51 l2) y60)) 52 l2) y71).toInt = (rd (sa (sa σ30 50 l2 (imin 1000 y50)) 51 l2 (imin (rd (sa σ30 50 l2 (imin 1000 y50)) 51 l2) y60)) 52 l2).toInt ∨ (imin (rd (sa (sa σ30 50 l2 (imin 1000 y50)) 51 l2 (imin (rd (sa σ30 50 l2 (imin 1000 y50)) 51 l2) y60)) 52 l2) y71).toInt = y71.toInt) := i3_min rfl
            refine ⟨⟨by omega, by omega⟩, ?_⟩
            have hM75 := hM64.sa 52 l2 (imin (rd (sa (sa σ30 50 l2 (imin 1000 y50)) 51 l2 (imin (rd (sa σ30 50 l2 (imin 1000 y50)) 51 l2) y60)) 52 l2) y71) (i3_bd _)
            have hE76 := hE65.sa 52 l2 (imin (rd (sa (sa σ30 50 l2 (imin 1000 y50)) 51 l2 (imin (rd (sa σ30 50 l2 (imin 1000 y50)) 51 l2) y60)) 52 l2) y71) (by decide)
            have u77 : ((sa (sa (sa σ30 50 l2 (imin 1000 y50)) 51 l2 (imin (rd (sa σ30 50 l2 (imin 1000 y50)) 51 l2) y60)) 52 l2 (imin (rd (sa (sa σ30 50 l2 (imin 1000 y50)) 51 l2 (imin (rd (sa σ30 50 l2 (imin 1000 y50)) 51 l2) y60)) 52 l2) y71)).1 9).toInt = ((sa (sa σ30 50 l2 (imin 1000 y50)) 51 l2 (imin (rd (sa σ30 50 l2 (imin 1000 y50)) 51 l2) y60)).1 9).toInt := rfl
            have u78 : ((sa (sa (sa σ30 50 l2 (imin 1000 y50)) 51 l2 (imin (rd (sa σ30 50 l2 (imin 1000 y50)) 51 l2) y60)) 52 l2 (imin (rd (sa (sa σ30 50 l2 (imin 1000 y50)) 51 l2 (imin (rd (sa σ30 50 l2 (imin 1000 y50)) 51 l2) y60)) 52 l2) y71)).1 4).toInt = ((sa (sa σ30 50 l2 (imin 1000 y50)) 51 l2 (imin (rd (sa σ30 50 l2 (imin 1000 y50)) 51 l2) y60)).1 4).toInt := rfl
            have w79 : (rd (sa (sa (sa σ30 50 l2 (imin 1000 y50)) 51 l2 (imin (rd (sa σ30 50 l2 (imin 1000 y50)) 51 l2) y60)) 52 l2 (imin (rd (sa (sa σ30 50 l2 (imin 1000 y50)) 51 l2 (imin (rd (sa σ30 50 l2 (imin 1000 y50)) 51 l2) y60)) 52 l2) y71)) 52 l2).toInt = (imin (rd (sa (sa σ30 50 l2 (imin 1000 y50)) 51 l2 (imin (rd (sa σ30 50 l2 (imin 1000 y50)) 51 l2) y60)) 52 l2) y71).toInt := by rw [rd_sa]
            refine ⟨fun c80 => ?_, fun c80 => ?_⟩
            · suffices hs : ∀ (q81 q82 : Int32), q81.toInt = 1 → q82.toInt = ((sa (sa (sa σ30 50 l2 (imin 1000 y50)) 51 l2 (imin (rd (sa σ30 50 l2 (imin 1000 y50)) 51 l2) y60)) 52 l2 (imin (rd (sa (sa σ30 50 l2 (imin 1000 y50)) 51 l2 (imin (rd (sa σ30 50 l2 (imin 1000 y50)) 51 l2) y60)) 52 l2) y71)).1 10).toInt → b_X2finish_213 X38 Q l1 l2 l3 l4 l5 l6 q81 q82 (sa (sa (sa σ30 50 l2 (imin 1000 y50)) 51 l2 (imin (rd (sa σ30 50 l2 (imin 1000 y50)) 51 l2) y60)) 52 l2 (imin (rd (sa (sa σ30 50 l2 (imin 1000 y50)) 51 l2 (imin (rd (sa σ30 50 l2 (imin 1000 y50)) 51 l2) y60)) 52 l2) y71)) from hs 1 ((sa (sa (sa σ30 50 l2 (imin 1000 y50)) 51 l2 (imin (rd (sa σ30 50 l2 (imin 1000 y50)) 51 l2) y60)) 52 l2 (imin (rd (sa (sa σ30 50 l2 (imin 1000 y50)) 51 l2 (imin (rd (sa σ30 50 l2 (imin 1000 y50)) 51 l2) y60)) 52 l2) y71)).1 10) rfl rfl
              intro q81 q82 hq81 hq82
              have bd83 := i3_bd ((sa (sa (sa σ30 50 l2 (imin 1000 y50)) 51 l2 (imin (rd (sa σ30 50 l2 (imin 1000 y50)) 51 l2) y60)) 52 l2 (imin (rd (sa (sa σ30 50 l2 (imin 1000 y50)) 51 l2 (imin (rd (sa σ30 50 l2 (imin 1000 y50)) 51 l2) y60)) 52 l2) y71)).1 10)
              unfold b_X2finish_213
              have bd84 := i3_bd q82
              have m85 : ((imax q82 q81).toInt ≥ q82.toInt ∧ (imax q82 q81).toInt ≥ q81.toInt) ∧ ((imax q82 q81).toInt = q82.toInt ∨ (imax q82 q81).toInt = q81.toInt) := i3_max rfl
              have hM86 := hM75.sf 10 (imax q82 q81) (i3_bd _)
              have hE87 := hE76.sf 10 (imax q82 q81) (by decide)
              have u88 : ((sf (sa (sa (sa σ30 50 l2 (imin 1000 y50)) 51 l2 (imin (rd (sa σ30 50 l2 (imin 1000 y50)) 51 l2) y60)) 52 l2 (imin (rd (sa (sa σ30 50 l2 (imin 1000 y50)) 51 l2 (imin (rd (sa σ30 50 l2 (imin 1000 y50)) 51 l2) y60)) 52 l2) y71)) 10 (imax q82 q81)).1 9).toInt = ((sa (sa (sa σ30 50 l2 (imin 1000 y50)) 51 l2 (imin (rd (sa σ30 50 l2 (imin 1000 y50)) 51 l2) y60)) 52 l2 (imin (rd (sa (sa σ30 50 l2 (imin 1000 y50)) 51 l2 (imin (rd (sa σ30 50 l2 (imin 1000 y50)) 51 l2) y60)) 52 l2) y71)).1 9).toInt := rfl
              have u89 : ((sf (sa (sa (sa σ30 50 l2 (imin 1000 y50)) 51 l2 (imin (rd (sa σ30 50 l2 (imin 1000 y50)) 51 l2) y60)) 52 l2 (imin (rd (sa (sa σ30 50 l2 (imin 1000 y50)) 51 l2 (imin (rd (sa σ30 50 l2 (imin 1000 y50)) 51 l2) y60)) 52 l2) y71)) 10 (imax q82 q81)).1 4).toInt = ((sa (sa (sa σ30 50 l2 (imin 1000 y50)) 51 l2 (imin (rd (sa σ30 50 l2 (imin 1000 y50)) 51 l2) y60)) 52 l2 (imin (rd (sa (sa σ30 50 l2 (imin 1000 y50)) 51 l2 (imin (rd (sa σ30 50 l2 (imin 1000 y50)) 51 l2) y60)) 52 l2) y71)).1 4).toInt := rfl
              unfold b_X2finish_219
              generalize ey90 : (l6 + 1) = y90
              replace ey90 := ey90.symm
              have ty90 : y90.toInt = l6.toInt + 1 := i3_addc rfl rfl ey90 (by omega)
              clear ey90
              exact ih_n20 l1 l2 l3 l4 l5 y90 (sf (sa (sa (sa σ30 50 l2 (imin 1000 y50)) 51 l2 (imin (rd (sa σ30 50 l2 (imin 1000 y50)) 51 l2) y60)) 52 l2 (imin (rd (sa (sa σ30 50 l2 (imin 1000 y50)) 51 l2 (imin (rd (sa σ30 50 l2 (imin 1000 y50)) 51 l2) y60)) 52 l2) y71)) 10 (imax q82 q81)) (by omega) (by first | omega | decide) (by first | omega | decide) (by first | omega | decide) (by first | omega | decide) hM86 hE87
            · generalize ey91 : (r29 - 1) = y91
              replace ey91 := ey91.symm
              have ty91 : y91.toInt = r29.toInt - 1 := i3_subc rfl rfl ey91 (by omega)
              clear ey91
              generalize ey92 : (y91 - x46) = y92
              replace ey92 := ey92.symm
              clear ey92
              have bd93 := i3_bd y92
              refine ⟨i3_nz (by omega), ?_⟩
              generalize ey94 : (y92 / r29) = y94
              replace ey94 := ey94.symm
              clear ey94
              suffices hs : ∀ (q95 : Int32), q95.toInt = ((sa (sa (sa σ30 50 l2 (imin 1000 y50)) 51 l2 (imin (rd (sa σ30 50 l2 (imin 1000 y50)) 51 l2) y60)) 52 l2 (imin (rd (sa (sa σ30 50 l2 (imin 1000 y50)) 51 l2 (imin (rd (sa σ30 50 l2 (imin 1000 y50)) 51 l2) y60)) 52 l2) y71)).1 10).toInt → b_X2finish_213 X38 Q l1 l2 l3 l4 l5 l6 y94 q95 (sa (sa (sa σ30 50 l2 (imin 1000 y50)) 51 l2 (imin (rd (sa σ30 50 l2 (imin 1000 y50)) 51 l2) y60)) 52 l2 (imin (rd (sa (sa σ30 50 l2 (imin 1000 y50)) 51 l2 (imin (rd (sa σ30 50 l2 (imin 1000 y50)) 51 l2) y60)) 52 l2) y71)) from hs ((sa (sa (sa σ30 50 l2 (imin 1000 y50)) 51 l2 (imin (rd (sa σ30 50 l2 (imin 1000 y50)) 51 l2) y60)) 52 l2 (imin (rd (sa (sa σ30 50 l2 (imin 1000 y50)) 51 l2 (imin (rd (sa σ30 50 l2 (imin 1000 y50)) 51 l2) y60)) 52 l2) y71)).1 10) rfl
              intro q95 hq95
              have bd96 := i3_bd ((sa (sa (sa σ30 50 l2 (imin 1000 y50)) 51 l2 (imin (rd (sa σ30 50 l2 (imin 1000 y50)) 51 l2) y60)) 52 l2 (imin (rd (sa (sa σ30 50 l2 (imin 1000 y50)) 51 l2 (imin (rd (sa σ30 50 l2 (imin 1000 y50)) 51 l2) y60)) 52 l2) y71)).1 10)
              unfold b_X2finish_213
              have bd97 := i3_bd q95
              have bd98 := i3_bd y94
              have m99 : ((imax q95 y94).toInt ≥ q95.toInt ∧ (imax q95 y94).toInt ≥ y94.toInt) ∧ ((imax q95 y94).toInt = q95.toInt ∨ (imax q95 y94).toInt = y94.toInt) := i3_max rfl
              have hM100 := hM75.sf 10 (imax q95 y94) (i3_bd _)
              have hE101 := hE76.sf 10 (imax q95 y94) (by decide)
              have u102 : ((sf (sa (sa (sa σ30 50 l2 (imin 1000 y50)) 51 l2 (imin (rd (sa σ30 50 l2 (imin 1000 y50)) 51 l2) y60)) 52 l2 (imin (rd (sa (sa σ30 50 l2 (imin 1000 y50)) 51 l2 (imin (rd (sa σ30 50 l2 (imin 1000 y50)) 51 l2) y60)) 52 l2) y71)) 10 (imax q95 y94)).1 9).toInt = ((sa (sa (sa σ30 50 l2 (imin 1000 y50)) 51 l2 (imin (rd (sa σ30 50 l2 (imin 1000 y50)) 51 l2) y60)) 52 l2 (imin (rd (sa (sa σ30 50 l2 (imin 1000 y50)) 51 l2 (imin (rd (sa σ30 50 l2 (imin 1000 y50)) 51 l2) y60)) 52 l2) y71)).1 9).toInt := rfl
              have u103 : ((sf (sa (sa (sa σ30 50 l2 (imin 1000 y50)) 51 l2 (imin (rd (sa σ30 50 l2 (imin 1000 y50)) 51 l2) y60)) 52 l2 (imin (rd (sa (sa σ30 50 l2 (imin 1000 y50)) 51 l2 (imin (rd (sa σ30 50 l2 (imin 1000 y50)) 51 l2) y60)) 52 l2) y71)) 10 (imax q95 y94)).1 4).toInt = ((sa (sa (sa σ30 50 l2 (imin 1000 y50)) 51 l2 (imin (rd (sa σ30 50 l2 (imin 1000 y50)) 51 l2) y60)) 52 l2 (imin (rd (sa (sa σ30 50 l2 (imin 1000 y50)) 51 l2 (imin (rd (sa σ30 50 l2 (imin 1000 y50)) 51 l2) y60)) 52 l2) y71)).1 4).toInt := rfl
              unfold b_X2finish_219
              generalize ey104 : (l6 + 1) = y104
              replace ey104 := ey104.symm
              have ty104 : y104.toInt = l6.toInt + 1 := i3_addc rfl rfl ey104 (by omega)
              clear ey104
              exact ih_n20 l1 l2 l3 l4 l5 y104 (sf (sa (sa (sa σ30 50 l2 (imin 1000 y50)) 51 l2 (imin (rd (sa σ30 50 l2 (imin 1000 y50)) 51 l2) y60)) 52 l2 (imin (rd (sa (sa σ30 50 l2 (imin 1000 y50)) 51 l2 (imin (rd (sa σ30 50 l2 (imin 1000 y50)) 51 l2) y60)) 52 l2) y71)) 10 (imax q95 y94)) (by omega) (by first | omega | decide) (by first | omega | decide) (by first | omega | decide) (by first | omega | decide) hM100 hE101
  exact L_38_n20 ((32 - (0 : Int32).toInt).toNat + 1) p1 p2 x5 r6 r13 0 σ14 (by decide) (by first | omega | decide) (by first | omega | decide) (by first | omega | decide) (by first | omega | decide) hM15 hE16
set_option maxHeartbeats 2000000 in
theorem rg_X2run {Q : VS → Prop} {σ : VS} (hM : CI σ) (hq : ∀ (σ' : VS), CI σ' → Eo [9, 10] [47, 48, 49, 50, 51, 52] σ σ' → Q σ') : wp_X2run Q σ := by
  unfold wp_X2run
  intro X44 X85 H_44 H_85
  have hE : Eo [9, 10] [47, 48, 49, 50, 51, 52] σ σ := Eo.rfl
  obtain ⟨σ0, h0⟩ : ∃ z : VS, z = σ := ⟨_, rfl⟩
  rw [← h0] at hq
  replace hE : Eo [9, 10] [47, 48, 49, 50, 51, 52] σ0 σ := by rw [h0]; exact hE
  clear h0
  refine rg_X3masks hM (fun r1 σ2 br1 hM3 hE4o => ?_)
  have hE4 := hE.of hE4o (by decide) (by decide)
  have hM5 := hM3.sf 9 r1 (show 1 ≤ r1.toInt ∧ r1.toInt ≤ 16 by omega)
  have hE6 := hE4.sf 9 r1 (by decide)
  have hM7 := hM5.sf 10 1 (i3_bd _)
  have hE8 := hE6.sf 10 1 (by decide)
  have hM9 := hM7.sfl 50 0 (i3_bd _)
  have hE10 := hE8.sfl 50 0 (by decide)
  have hM11 := hM9.sfl 51 1000000000 (i3_bd _)
  have hE12 := hE10.sfl 51 1000000000 (by decide)
  have hM13 := hM11.sfl 52 1000000000 (i3_bd _)
  have hE14 := hE12.sfl 52 1000000000 (by decide)
  have L_44_n15 : ∀ (n15 : Nat) (l1 : Int32) (σ : VS), 50 - l1.toInt < (n15 : Int) → 0 ≤ l1.toInt ∧ l1.toInt ≤ 50 → CI σ → Eo [9, 10] [47, 48, 49, 50, 51, 52] σ0 σ → X44 l1 σ := by
    intro n15
    induction n15 with
    | zero => intro l1 σ hm h_l1 hM hE; exfalso; omega
    | succ n15 ih_n15 =>
      intro l1 σ hm h_l1 hM hE
      have hm2_44 : 50 - l1.toInt < (n15 : Int) + 1 := by omega
      refine H_44 l1 σ ?_
      unfold b_X2run_44
      have f16 : 0 ≤ (σ.1 2).toInt ∧ (σ.1 2).toInt ≤ 50 := hM.1 2
      refine ⟨fun c17 => ?_, fun c17 => ?_⟩
      · exact hq σ hM hE
      · refine rg_X1isStart ⟨by omega, by omega⟩ hM (fun r18 σ19 br18 hM20 hE21o => ?_)
        have hE21 := hE.of hE21o (by decide) (by decide)
        have u22 : (σ19.1 2).toInt = (σ.1 2).toInt := by rw [hE21o.1 2 (by decide)]
        refine ⟨fun c23 => ?_, fun c23 => ?_⟩
        · unfold b_X2run_137
          generalize ey24 : (l1 + 1) = y24
          replace ey24 := ey24.symm
          have ty24 : y24.toInt = l1.toInt + 1 := i3_addc rfl rfl ey24 (by omega)
          clear ey24
          exact ih_n15 y24 σ19 (by omega) (by first | omega | decide) hM20 hE21
        · refine ⟨⟨by omega, by omega⟩, ?_⟩
          refine ⟨fun c25 => ?_, fun c25 => ?_⟩
          · unfold b_X2run_137
            generalize ey26 : (l1 + 1) = y26
            replace ey26 := ey26.symm
            have ty26 : y26.toInt = l1.toInt + 1 := i3_addc rfl rfl ey26 (by omega)
            clear ey26
            exact ih_n15 y26 σ19 (by omega) (by first | omega | decide) hM20 hE21
          · refine rg_X2spreadFrom ⟨by omega, by omega⟩ hM20 (fun σ28 hM29 hE30o => ?_)
            have hE30 := hE21.of hE30o (by decide) (by decide)
            have u31 : (σ28.1 2).toInt = (σ19.1 2).toInt := by rw [hE30o.1 2 (by decide)]
            have u32 : (rd σ28 40 l1).toInt = (rd σ19 40 l1).toInt := by unfold rd; rw [hE30o.2 40 (by decide)]
            have L_85_n33 : ∀ (n33 : Nat) (l1 : Int32) (l2 : Int32) (σ : VS), 50 - l2.toInt < (n33 : Int) → 0 ≤ l1.toInt ∧ l1.toInt ≤ 49 → 0 ≤ l2.toInt ∧ l2.toInt ≤ 50 → 50 - l1.toInt < (n15 : Int) + 1 → CI σ → Eo [9, 10] [47, 48, 49, 50, 51, 52] σ0 σ → X85 l1 l2 σ := by
              intro n33
              induction n33 with
              | zero => intro l1 l2 σ hm h_l1 h_l2 m_44 hM hE; exfalso; omega
              | succ n33 ih_n33 =>
                intro l1 l2 σ hm h_l1 h_l2 m_44 hM hE
                have hm2_85 : 50 - l2.toInt < (n33 : Int) + 1 := by omega
                refine H_85 l1 l2 σ ?_
                unfold b_X2run_85
                have f34 : 0 ≤ (σ.1 2).toInt ∧ (σ.1 2).toInt ≤ 50 := hM.1 2
                refine ⟨fun c35 => ?_, fun c35 => ?_⟩
                · unfold b_X2run_137
                  generalize ey36 : (l1 + 1) = y36
                  replace ey36 := ey36.symm
                  have ty36 : y36.toInt = l1.toInt + 1 := i3_addc rfl rfl ey36 (by omega)
                  clear ey36
                  exact ih_n15 y36 σ (by omega) (by first | omega | decide) hM hE
                · refine rg_X1isTarget ⟨by omega, by omega⟩ hM (fun r37 σ38 br37 hM39 hE40o => ?_)
                  have hE40 := hE.of hE40o (by decide) (by decide)
                  have u41 : (σ38.1 2).toInt = (σ.1 2).toInt := by rw [hE40o.1 2 (by decide)]
                  refine ⟨fun c42 => ?_, fun c42 => ?_⟩
                  · unfold b_X2run_131
                    generalize ey43 : (l2 + 1) = y43
                    replace ey43 := ey43.symm
                    have ty43 : y43.toInt = l2.toInt + 1 := i3_addc rfl rfl ey43 (by omega)
                    clear ey43
                    exact ih_n33 l1 y43 σ38 (by omega) (by first | omega | decide) (by first | omega | decide) (by first | omega | decide) hM39 hE40
                  · generalize ey44 : (l2 * 4) = y44
                    replace ey44 := ey44.symm
                    have ty44 : y44.toInt = l2.toInt * 4 := i3_mulc rfl rfl ey44 (by omega)
                    clear ey44
                    refine ⟨⟨by omega, by omega⟩, ?_⟩
                    have a45 : (-5) ≤ (rd σ38 16 y44).toInt ∧ (rd σ38 16 y44).toInt ≤ 49 := hM39.2 16 _
                    refine rg_X2isSpreadTo ⟨by omega, by omega⟩ hM39 (fun r46 σ47 br46 ir46 hM48 hE49o => ?_)
                    have hE49 := hE40.of hE49o (by decide) (by decide)
                    have u50 : (σ47.1 2).toInt = (σ38.1 2).toInt := by rw [hE49o.1 2 (by decide)]
                    have u51 : (rd σ47 16 y44).toInt = (rd σ38 16 y44).toInt := by unfold rd; rw [hE49o.2 16 (by decide)]
                    refine ⟨fun c52 => ?_, fun c52 => ?_⟩
                    · unfold b_X2run_131
                      generalize ey53 : (l2 + 1) = y53
                      replace ey53 := ey53.symm
                      have ty53 : y53.toInt = l2.toInt + 1 := i3_addc rfl rfl ey53 (by omega)
                      clear ey53
                      exact ih_n33 l1 y53 σ47 (by omega) (by first | omega | decide) (by first | omega | decide) (by first | omega | decide) hM48 hE49
                    · have fc52 := ir46 c52
                      refine rg_X2finish ⟨by omega, by omega⟩ ⟨by omega, by omega⟩ (fun y hy => by (have h9 : y = y44 := Int32.toInt_inj.mp (by omega)); subst h9; exact ⟨by omega, by omega⟩) hM48 (fun σ55 hM56 hE57o => ?_)
                      have hE57 := hE49.of hE57o (by decide) (by decide)
                      have u58 : (σ55.1 2).toInt = (σ47.1 2).toInt := by rw [hE57o.1 2 (by decide)]
                      have u59 : (rd σ55 16 y44).toInt = (rd σ47 16 y44).toInt := by unfold rd; rw [hE57o.2 16 (by decide)]
                      unfold b_X2run_131
                      generalize ey60 : (l2 + 1) = y60
                      replace ey60 := ey60.symm
                      have ty60 : y60.toInt = l2.toInt + 1 := i3_addc rfl rfl ey60 (by omega)
                      clear ey60
                      exact ih_n33 l1 y60 σ55 (by omega) (by first | omega | decide) (by first | omega | decide) (by first | omega | decide) hM56 hE57
            exact L_85_n33 ((50 - (0 : Int32).toInt).toNat + 1) l1 0 σ28 (by decide) (by first | omega | decide) (by first | omega | decide) (by first | omega | decide) hM29 hE30
  exact L_44_n15 ((50 - (0 : Int32).toInt).toNat + 1) 0 (sfl (sfl (sfl (sf (sf σ2 9 r1) 10 1) 50 0) 51 1000000000) 52 1000000000) (by decide) (by first | omega | decide) hM13 hE14
