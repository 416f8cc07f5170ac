set_option maxHeartbeats 2000000 in
theorem rg_X0hasOrRoot {Q : Int32 → VS → Prop} {p1 : Int32} {σ : VS} (hM : CI σ) (hq : ∀ (r : Int32) (σ' : VS), 0 ≤ r.toInt ∧ r.toInt ≤ 1 → (r.toInt ≠ 0 → (-1) ≤ p1.toInt ∧ p1.toInt < (σ.1 5).toInt) → CI σ' → Eo [] [] σ σ' → Q r σ') : wp_X0hasOrRoot Q p1 σ := by
  unfold wp_X0hasOrRoot
  have hE : Eo [] [] σ σ := Eo.rfl
  refine ⟨fun c1 => ?_, fun c1 => ?_⟩
  · unfold b_X0hasOrRoot_17
    suffices hs : ∀ (q2 : Int32), q2.toInt = 0 → b_X0hasOrRoot_18 Q q2 σ from hs 0 rfl
    intro q2 hq2
    unfold b_X0hasOrRoot_18
    refine ⟨⟨by omega, by omega⟩, ?_⟩
    exact hq q2 σ ⟨by omega, by omega⟩ (by intro h9; omega) hM hE
  · have f3 : 0 ≤ (σ.1 5).toInt ∧ (σ.1 5).toInt ≤ 20 := hM.1 5
    refine ⟨fun c4 => ?_, fun c4 => ?_⟩
    · unfold b_X0hasOrRoot_17
      suffices hs : ∀ (q5 : Int32), q5.toInt = 0 → b_X0hasOrRoot_18 Q q5 σ from hs 0 rfl
      intro q5 hq5
      unfold b_X0hasOrRoot_18
      refine ⟨⟨by omega, by omega⟩, ?_⟩
      exact hq q5 σ ⟨by omega, by omega⟩ (by intro h9; omega) hM hE
    · suffices hs : ∀ (q6 : Int32), q6.toInt = 1 → b_X0hasOrRoot_18 Q q6 σ from hs 1 rfl
      intro q6 hq6
      unfold b_X0hasOrRoot_18
      refine ⟨⟨by omega, by omega⟩, ?_⟩
      exact hq q6 σ ⟨by omega, by omega⟩ (by intro h9; omega) hM hE
set_option maxHeartbeats 2000000 in
theorem rg_X0earlyOf {Q : Int32 → VS → Prop} {p1 : Int32} {σ : VS} (h_p1 : (-1) ≤ p1.toInt ∧ p1.toInt ≤ 19) (hM : CI σ) (hq : ∀ (r : Int32) (σ' : VS), CI σ' → Eo [] [] σ σ' → Q r σ') : wp_X0earlyOf Q p1 σ := by
  unfold wp_X0earlyOf
  have hE : Eo [] [] σ σ := Eo.rfl
  refine ⟨fun c1 => ?_, fun c1 => ?_⟩
  · refine ⟨⟨by omega, by omega⟩, ?_⟩
    suffices hs : ∀ (q2 : Int32), q2.toInt = (rd σ 29 p1).toInt → b_X0earlyOf_14 Q q2 σ from hs (rd σ 29 p1) rfl
    intro q2 hq2
    have bd3 := i3_bd (rd σ 29 p1)
    unfold b_X0earlyOf_14
    have bd4 := i3_bd q2
    exact hq q2 σ hM hE
  · suffices hs : ∀ (q5 : Int32), q5.toInt = 0 → b_X0earlyOf_14 Q q5 σ from hs 0 rfl
    intro q5 hq5
    unfold b_X0earlyOf_14
    exact hq q5 σ hM hE
set_option maxHeartbeats 2000000 in
theorem rg_X0lateOf {Q : Int32 → VS → Prop} {p1 : Int32} {σ : VS} (h_p1 : (-1) ≤ p1.toInt ∧ p1.toInt ≤ 19) (hM : CI σ) (hq : ∀ (r : Int32) (σ' : VS), CI σ' → Eo [] [] σ σ' → Q r σ') : wp_X0lateOf Q p1 σ := by
  unfold wp_X0lateOf
  have hE : Eo [] [] σ σ := Eo.rfl
  refine ⟨fun c1 => ?_, fun c1 => ?_⟩
  · refine ⟨⟨by omega, by omega⟩, ?_⟩
    suffices hs : ∀ (q2 : Int32), q2.toInt = (rd σ 30 p1).toInt → b_X0lateOf_14 Q q2 σ from hs (rd σ 30 p1) rfl
    intro q2 hq2
    have bd3 := i3_bd (rd σ 30 p1)
    unfold b_X0lateOf_14
    have bd4 := i3_bd q2
    exact hq q2 σ hM hE
  · suffices hs : ∀ (q5 : Int32), q5.toInt = 0 → b_X0lateOf_14 Q q5 σ from hs 0 rfl
    intro q5 hq5
    unfold b_X0lateOf_14
    exact hq q5 σ hM hE
set_option maxHeartbeats 2000000 in
theorem rg_X0sharedOf {Q : Int32 → VS → Prop} {p1 : Int32} {p2 : Int32} {σ : VS} (h_p1 : (-1) ≤ p1.toInt ∧ p1.toInt ≤ 19) (h_p2 : (-1) ≤ p2.toInt ∧ p2.toInt ≤ 19) (hM : CI σ) (hq : ∀ (r : Int32) (σ' : VS), CI σ' → Eo [] [] σ σ' → Q r σ') : wp_X0sharedOf Q p1 p2 σ := by
  unfold wp_X0sharedOf
  intro X8 H_8
  have hE : Eo [] [] σ σ := Eo.rfl
  obtain ⟨σ0, h0⟩ : ∃ z : VS, z = σ := ⟨_, rfl⟩
  rw [← h0] at hq
  replace hE : Eo [] [] σ0 σ := by rw [h0]; exact hE
  clear h0
  have L_8_n1 : ∀ (n1 : Nat) (l3 : Int32) (l4 : Int32) (l5 : Int32) (σ : VS), 40 - l5.toInt < (n1 : Int) → (-1) ≤ l3.toInt ∧ l3.toInt ≤ 19 → (-1) ≤ l4.toInt ∧ l4.toInt ≤ 19 → 0 ≤ l5.toInt ∧ l5.toInt ≤ 40 → CI σ → Eo [] [] σ0 σ → X8 l3 l4 l5 σ := by
    intro n1
    induction n1 with
    | zero => intro l3 l4 l5 σ hm h_l3 h_l4 h_l5 hM hE; exfalso; omega
    | succ n1 ih_n1 =>
      intro l3 l4 l5 σ hm h_l3 h_l4 h_l5 hM hE
      have hm2_8 : 40 - l5.toInt < (n1 : Int) + 1 := by omega
      refine H_8 l3 l4 l5 σ ?_
      unfold b_X0sharedOf_8
      refine ⟨fun c2 => ?_, fun c2 => ?_⟩
      · unfold b_X0sharedOf_52
        refine ⟨fun c3 => ?_, fun c3 => ?_⟩
        · refine ⟨⟨by omega, by omega⟩, ?_⟩
          refine ⟨⟨by omega, by omega⟩, ?_⟩
          have bd4 := i3_bd (rd σ 30 l3)
          have bd5 := i3_bd (rd σ 29 l3)
          generalize ey6 : ((rd σ 30 l3) - (rd σ 29 l3)) = y6
          replace ey6 := ey6.symm
          clear ey6
          unfold b_X0sharedOf_73
          have bd7 := i3_bd y6
          exact hq y6 σ hM hE
        · suffices hs : ∀ (q8 : Int32), q8.toInt = 0 → b_X0sharedOf_73 X8 Q q8 σ from hs 0 rfl
          intro q8 hq8
          unfold b_X0sharedOf_73
          exact hq q8 σ hM hE
      · refine ⟨fun c9 => ?_, fun c9 => ?_⟩
        · unfold b_X0sharedOf_52
          refine ⟨fun c10 => ?_, fun c10 => ?_⟩
          · refine ⟨⟨by omega, by omega⟩, ?_⟩
            refine ⟨⟨by omega, by omega⟩, ?_⟩
            have bd11 := i3_bd (rd σ 30 l3)
            have bd12 := i3_bd (rd σ 29 l3)
            generalize ey13 : ((rd σ 30 l3) - (rd σ 29 l3)) = y13
            replace ey13 := ey13.symm
            clear ey13
            unfold b_X0sharedOf_73
            have bd14 := i3_bd y13
            exact hq y13 σ hM hE
          · suffices hs : ∀ (q15 : Int32), q15.toInt = 0 → b_X0sharedOf_73 X8 Q q15 σ from hs 0 rfl
            intro q15 hq15
            unfold b_X0sharedOf_73
            exact hq q15 σ hM hE
        · refine ⟨fun c16 => ?_, fun c16 => ?_⟩
          · refine ⟨⟨by omega, by omega⟩, ?_⟩
            have a17 : (-1) ≤ (rd σ 28 l4).toInt ∧ (rd σ 28 l4).toInt ≤ 19 := hM.2 28 _
            intro x18 ex18
            have ix18 : x18.toInt = (rd σ 28 l4).toInt := by rw [ex18]
            unfold b_X0sharedOf_46
            generalize ey19 : (l5 + 1) = y19
            replace ey19 := ey19.symm
            have ty19 : y19.toInt = l5.toInt + 1 := i3_addc rfl rfl ey19 (by omega)
            clear ey19
            exact ih_n1 l3 x18 y19 σ (by omega) (by first | omega | decide) (by first | omega | decide) (by first | omega | decide) hM hE
          · refine ⟨⟨by omega, by omega⟩, ?_⟩
            have a20 : (-1) ≤ (rd σ 28 l3).toInt ∧ (rd σ 28 l3).toInt ≤ 19 := hM.2 28 _
            intro x21 ex21
            have ix21 : x21.toInt = (rd σ 28 l3).toInt := by rw [ex21]
            unfold b_X0sharedOf_46
            generalize ey22 : (l5 + 1) = y22
            replace ey22 := ey22.symm
            have ty22 : y22.toInt = l5.toInt + 1 := i3_addc rfl rfl ey22 (by omega)
            clear ey22
            exact ih_n1 x21 l4 y22 σ (by omega) (by first | omega | decide) (by first | omega | decide) (by first | omega | decide) hM hE
  exact L_8_n1 ((40 - (0 : Int32).toInt).toNat + 1) p1 p2 0 σ (by decide) (by first | omega | decide) (by first | omega | decide) (by first | omega | decide) hM hE
set_option maxHeartbeats 2000000 in
theorem rg_X0addNode {Q : Int32 → VS → Prop} {p1 : Int32} {p2 : Int32} {p3 : Int32} {σ : VS} (h_p1 : (-1) ≤ p1.toInt ∧ p1.toInt ≤ 19) (hf_5 : 0 ≤ (σ.1 5).toInt ∧ (σ.1 5).toInt ≤ 19) (hM : CI σ) (hq : ∀ (r : Int32) (σ' : VS), CI σ' → Eo [5] [28, 29, 30] σ σ' → Q r σ') : wp_X0addNode Q p1 p2 p3 σ := by
  unfold wp_X0addNode
  have hE : Eo [5] [28, 29, 30] σ σ := Eo.rfl
  intro x1 ex1
  have ix1 : x1.toInt = (σ.1 5).toInt := by rw [ex1]
  generalize ey2 : ((σ.1 5) + 1) = y2
  replace ey2 := ey2.symm
  have ty2 : y2.toInt = (σ.1 5).toInt + 1 := i3_addc rfl rfl ey2 (by omega)
  clear ey2
  have hM3 := hM.sf 5 y2 (show 0 ≤ y2.toInt ∧ y2.toInt ≤ 20 by omega)
  have hE4 := hE.sf 5 y2 (by decide)
  have u5 : ((sf σ 5 y2).1 5).toInt = y2.toInt := rfl
  refine ⟨⟨by omega, by omega⟩, ?_⟩
  have hM6 := hM3.sa 28 x1 p1 (show (-1) ≤ p1.toInt ∧ p1.toInt ≤ 19 by omega)
  have hE7 := hE4.sa 28 x1 p1 (by decide)
  have u8 : ((sa (sf σ 5 y2) 28 x1 p1).1 5).toInt = ((sf σ 5 y2).1 5).toInt := rfl
  have w9 : (rd (sa (sf σ 5 y2) 28 x1 p1) 28 x1).toInt = p1.toInt := by rw [rd_sa]
  refine rg_X0earlyOf ⟨by omega, by omega⟩ hM6 (fun r10 σ11 hM12 hE13o => ?_)
  have hE13 := hE7.of hE13o (by decide) (by decide)
  have bd14 := i3_bd r10
  have u15 : (σ11.1 5).toInt = ((sa (sf σ 5 y2) 28 x1 p1).1 5).toInt := by rw [hE13o.1 5 (by decide)]
  have bd16 := i3_bd p2
  generalize ey17 : (r10 + p2) = y17
  replace ey17 := ey17.symm
  clear ey17
  refine ⟨⟨by omega, by omega⟩, ?_⟩
  have hM18 := hM12.sa 29 x1 y17 (i3_bd _)
  have hE19 := hE13.sa 29 x1 y17 (by decide)
  have u20 : ((sa σ11 29 x1 y17).1 5).toInt = (σ11.1 5).toInt := rfl
  have w21 : (rd (sa σ11 29 x1 y17) 29 x1).toInt = y17.toInt := by rw [rd_sa]
  refine rg_X0lateOf ⟨by omega, by omega⟩ hM18 (fun r22 σ23 hM24 hE25o => ?_)
  have hE25 := hE19.of hE25o (by decide) (by decide)
  have bd26 := i3_bd r22
  have u27 : (σ23.1 5).toInt = ((sa σ11 29 x1 y17).1 5).toInt := by rw [hE25o.1 5 (by decide)]
  have u28 : (rd σ23 29 x1).toInt = (rd (sa σ11 29 x1 y17) 29 x1).toInt := by unfold rd; rw [hE25o.2 29 (by decide)]
  have bd29 := i3_bd p3
  generalize ey30 : (r22 + p3) = y30
  replace ey30 := ey30.symm
  clear ey30
  refine ⟨⟨by omega, by omega⟩, ?_⟩
  have hM31 := hM24.sa 30 x1 y30 (i3_bd _)
  have hE32 := hE25.sa 30 x1 y30 (by decide)
  have u33 : ((sa σ23 30 x1 y30).1 5).toInt = (σ23.1 5).toInt := rfl
  have w34 : (rd (sa σ23 30 x1 y30) 30 x1).toInt = y30.toInt := by rw [rd_sa]
  exact hq x1 (sa σ23 30 x1 y30) hM31 hE32
set_option maxHeartbeats 2000000 in
theorem rg_X1isGateKind {Q : Int32 → VS → Prop} {p1 : Int32} {σ : VS} (hM : CI σ) (hq : ∀ (r : Int32) (σ' : VS), 0 ≤ r.toInt ∧ r.toInt ≤ 1 → CI σ' → Eo [] [] σ σ' → Q r σ') : wp_X1isGateKind Q p1 σ := by
  unfold wp_X1isGateKind
  have hE : Eo [] [] σ σ := Eo.rfl
  refine ⟨fun c1 => ?_, fun c1 => ?_⟩
  · unfold b_X1isGateKind_13
    suffices hs : ∀ (q2 : Int32), q2.toInt = 0 → b_X1isGateKind_14 Q q2 σ from hs 0 rfl
    intro q2 hq2
    unfold b_X1isGateKind_14
    refine ⟨⟨by omega, by omega⟩, ?_⟩
    exact hq q2 σ ⟨by omega, by omega⟩ hM hE
  · refine ⟨fun c3 => ?_, fun c3 => ?_⟩
    · unfold b_X1isGateKind_13
      suffices hs : ∀ (q4 : Int32), q4.toInt = 0 → b_X1isGateKind_14 Q q4 σ from hs 0 rfl
      intro q4 hq4
      unfold b_X1isGateKind_14
      refine ⟨⟨by omega, by omega⟩, ?_⟩
      exact hq q4 σ ⟨by omega, by omega⟩ hM hE
    · suffices hs : ∀ (q5 : Int32), q5.toInt = 1 → b_X1isGateKind_14 Q q5 σ from hs 1 rfl
      intro q5 hq5
      unfold b_X1isGateKind_14
      refine ⟨⟨by omega, by omega⟩, ?_⟩
      exact hq q5 σ ⟨by omega, by omega⟩ hM hE
set_option maxHeartbeats 2000000 in
theorem rg_X1has {Q : Int32 → VS → Prop} {p1 : Int32} {σ : VS} (hM : CI σ) (hq : ∀ (r : Int32) (σ' : VS), 0 ≤ r.toInt ∧ r.toInt ≤ 1 → (r.toInt ≠ 0 → 0 ≤ p1.toInt ∧ p1.toInt < (σ.1 2).toInt) → CI σ' → Eo [] [] σ σ' → Q r σ') : wp_X1has Q p1 σ := by
  unfold wp_X1has
  have hE : Eo [] [] σ σ := Eo.rfl
  refine ⟨fun c1 => ?_, fun c1 => ?_⟩
  · unfold b_X1has_16
    suffices hs : ∀ (q2 : Int32), q2.toInt = 0 → b_X1has_17 Q q2 σ from hs 0 rfl
    intro q2 hq2
    unfold b_X1has_17
    refine ⟨⟨by omega, by omega⟩, ?_⟩
    exact hq q2 σ ⟨by omega, by omega⟩ (by intro h9; omega) hM hE
  · have f3 : 0 ≤ (σ.1 2).toInt ∧ (σ.1 2).toInt ≤ 50 := hM.1 2
    refine ⟨fun c4 => ?_, fun c4 => ?_⟩
    · unfold b_X1has_16
      suffices hs : ∀ (q5 : Int32), q5.toInt = 0 → b_X1has_17 Q q5 σ from hs 0 rfl
      intro q5 hq5
      unfold b_X1has_17
      refine ⟨⟨by omega, by omega⟩, ?_⟩
      exact hq q5 σ ⟨by omega, by omega⟩ (by intro h9; omega) hM hE
    · suffices hs : ∀ (q6 : Int32), q6.toInt = 1 → b_X1has_17 Q q6 σ from hs 1 rfl
      intro q6 hq6
      unfold b_X1has_17
      refine ⟨⟨by omega, by omega⟩, ?_⟩
      exact hq q6 σ ⟨by omega, by omega⟩ (by intro h9; omega) hM hE
set_option maxHeartbeats 2000000 in
theorem rg_X1hasInput {Q : Int32 → VS → Prop} {p1 : Int32} {p2 : Int32} {σ : VS} (hM : CI σ) (hq : ∀ (r : Int32) (σ' : VS), 0 ≤ r.toInt ∧ r.toInt ≤ 1 → (r.toInt ≠ 0 → 0 ≤ p1.toInt ∧ p1.toInt < (σ.1 2).toInt ∧ 0 ≤ p2.toInt ∧ p2.toInt ≤ 3) → CI σ' → Eo [] [] σ σ' → Q r σ') : wp_X1hasInput Q p1 p2 σ := by
  unfold wp_X1hasInput
  have hE : Eo [] [] σ σ := Eo.rfl
  have bd1 := i3_bd p1
  refine rg_X1has hM (fun r2 σ3 br2 ir2 hM4 hE5o => ?_)
  have hE5 := hE.of hE5o (by decide) (by decide)
  have f6 : 0 ≤ (σ.1 2).toInt ∧ (σ.1 2).toInt ≤ 50 := hM.1 2
  have u7 : (σ3.1 2).toInt = (σ.1 2).toInt := by rw [hE5o.1 2 (by decide)]
  refine ⟨fun c8 => ?_, fun c8 => ?_⟩
  · unfold b_X1hasInput_26
    suffices hs : ∀ (q9 : Int32), q9.toInt = 0 → b_X1hasInput_27 Q q9 σ3 from hs 0 rfl
    intro q9 hq9
    unfold b_X1hasInput_27
    refine ⟨⟨by omega, by omega⟩, ?_⟩
    exact hq q9 σ3 ⟨by omega, by omega⟩ (by intro h9; omega) hM4 hE5
  · have fc8 := ir2 c8
    refine ⟨fun c10 => ?_, fun c10 => ?_⟩
    · unfold b_X1hasInput_26
      suffices hs : ∀ (q11 : Int32), q11.toInt = 0 → b_X1hasInput_27 Q q11 σ3 from hs 0 rfl
      intro q11 hq11
      unfold b_X1hasInput_27
      refine ⟨⟨by omega, by omega⟩, ?_⟩
      exact hq q11 σ3 ⟨by omega, by omega⟩ (by intro h9; omega) hM4 hE5
    · refine ⟨⟨by omega, by omega⟩, ?_⟩
      have a12 : 0 ≤ (rd σ3 12 p1).toInt ∧ (rd σ3 12 p1).toInt ≤ 4 := hM4.2 12 _
      refine ⟨fun c13 => ?_, fun c13 => ?_⟩
      · unfold b_X1hasInput_26
        suffices hs : ∀ (q14 : Int32), q14.toInt = 0 → b_X1hasInput_27 Q q14 σ3 from hs 0 rfl
        intro q14 hq14
        unfold b_X1hasInput_27
        refine ⟨⟨by omega, by omega⟩, ?_⟩
        exact hq q14 σ3 ⟨by omega, by omega⟩ (by intro h9; omega) hM4 hE5
      · suffices hs : ∀ (q15 : Int32), q15.toInt = 1 → b_X1hasInput_27 Q q15 σ3 from hs 1 rfl
        intro q15 hq15
        unfold b_X1hasInput_27
        refine ⟨⟨by omega, by omega⟩, ?_⟩
        exact hq q15 σ3 ⟨by omega, by omega⟩ (by intro h9; omega) hM4 hE5
set_option maxHeartbeats 2000000 in
theorem rg_X1hasSize {Q : Int32 → VS → Prop} {p1 : Int32} {σ : VS} (h_p1 : 0 ≤ p1.toInt ∧ p1.toInt ≤ 49) (hM : CI σ) (hq : ∀ (r : Int32) (σ' : VS), 0 ≤ r.toInt ∧ r.toInt ≤ 1 → CI σ' → Eo [] [] σ σ' → Q r σ') : wp_X1hasSize Q p1 σ := by
  unfold wp_X1hasSize
  have hE : Eo [] [] σ σ := Eo.rfl
  refine ⟨⟨by omega, by omega⟩, ?_⟩
  have a1 : 0 ≤ (rd σ 11 p1).toInt ∧ (rd σ 11 p1).toInt ≤ 5 := hM.2 11 _
  refine ⟨fun c2 => ?_, fun c2 => ?_⟩
  · unfold b_X1hasSize_23
    suffices hs : ∀ (q3 : Int32), q3.toInt = 0 → b_X1hasSize_24 Q q3 σ from hs 0 rfl
    intro q3 hq3
    unfold b_X1hasSize_24
    refine ⟨⟨by omega, by omega⟩, ?_⟩
    exact hq q3 σ ⟨by omega, by omega⟩ hM hE
  · refine ⟨⟨by omega, by omega⟩, ?_⟩
    refine ⟨fun c4 => ?_, fun c4 => ?_⟩
    · unfold b_X1hasSize_23
      suffices hs : ∀ (q5 : Int32), q5.toInt = 0 → b_X1hasSize_24 Q q5 σ from hs 0 rfl
      intro q5 hq5
      unfold b_X1hasSize_24
      refine ⟨⟨by omega, by omega⟩, ?_⟩
      exact hq q5 σ ⟨by omega, by omega⟩ hM hE
    · suffices hs : ∀ (q6 : Int32), q6.toInt = 1 → b_X1hasSize_24 Q q6 σ from hs 1 rfl
      intro q6 hq6
      unfold b_X1hasSize_24
      refine ⟨⟨by omega, by omega⟩, ?_⟩
      exact hq q6 σ ⟨by omega, by omega⟩ hM hE
set_option maxHeartbeats 2000000 in
theorem rg_X1isGate {Q : Int32 → VS → Prop} {p1 : Int32} {σ : VS} (h_p1 : 0 ≤ p1.toInt ∧ p1.toInt ≤ 49) (hM : CI σ) (hq : ∀ (r : Int32) (σ' : VS), 0 ≤ r.toInt ∧ r.toInt ≤ 1 → CI σ' → Eo [] [] σ σ' → Q r σ') : wp_X1isGate Q p1 σ := by
  unfold wp_X1isGate
  have hE : Eo [] [] σ σ := Eo.rfl
  refine ⟨⟨by omega, by omega⟩, ?_⟩
  have a1 : 0 ≤ (rd σ 11 p1).toInt ∧ (rd σ 11 p1).toInt ≤ 5 := hM.2 11 _
  refine rg_X1isGateKind hM (fun r2 σ3 br2 hM4 hE5o => ?_)
  have hE5 := hE.of hE5o (by decide) (by decide)
  have u6 : (rd σ3 11 p1).toInt = (rd σ 11 p1).toInt := by unfold rd; rw [hE5o.2 11 (by decide)]
  refine ⟨⟨by omega, by omega⟩, ?_⟩
  exact hq r2 σ3 ⟨by omega, by omega⟩ hM4 hE5
set_option maxHeartbeats 2000000 in
theorem rg_X1isStart {Q : Int32 → VS → Prop} {p1 : Int32} {σ : VS} (h_p1 : 0 ≤ p1.toInt ∧ p1.toInt ≤ 49) (hM : CI σ) (hq : ∀ (r : Int32) (σ' : VS), 0 ≤ r.toInt ∧ r.toInt ≤ 1 → CI σ' → Eo [] [] σ σ' → Q r σ') : wp_X1isStart Q p1 σ := by
  unfold wp_X1isStart
  have hE : Eo [] [] σ σ := Eo.rfl
  refine ⟨⟨by omega, by omega⟩, ?_⟩
  have a1 : 0 ≤ (rd σ 11 p1).toInt ∧ (rd σ 11 p1).toInt ≤ 5 := hM.2 11 _
  refine ⟨fun c2 => ?_, fun c2 => ?_⟩
  · unfold b_X1isStart_19
    suffices hs : ∀ (q3 : Int32), q3.toInt = 1 → b_X1isStart_24 Q q3 σ from hs 1 rfl
    intro q3 hq3
    unfold b_X1isStart_24
    refine ⟨⟨by omega, by omega⟩, ?_⟩
    exact hq q3 σ ⟨by omega, by omega⟩ hM hE
  · refine ⟨⟨by omega, by omega⟩, ?_⟩
    refine ⟨fun c4 => ?_, fun c4 => ?_⟩
    · suffices hs : ∀ (q5 : Int32), q5.toInt = 0 → b_X1isStart_24 Q q5 σ from hs 0 rfl
      intro q5 hq5
      unfold b_X1isStart_24
      refine ⟨⟨by omega, by omega⟩, ?_⟩
      exact hq q5 σ ⟨by omega, by omega⟩ hM hE
    · unfold b_X1isStart_19
      suffices hs : ∀ (q6 : Int32), q6.toInt = 1 → b_X1isStart_24 Q q6 σ from hs 1 rfl
      intro q6 hq6
      unfold b_X1isStart_24
      refine ⟨⟨by omega, by omega⟩, ?_⟩
      exact hq q6 σ ⟨by omega, by omega⟩ hM hE
set_option maxHeartbeats 2000000 in
theorem rg_X1isTarget {Q : Int32 → VS → Prop} {p1 : Int32} {σ : VS} (h_p1 : 0 ≤ p1.toInt ∧ p1.toInt ≤ 49) (hM : CI σ) (hq : ∀ (r : Int32) (σ' : VS), 0 ≤ r.toInt ∧ r.toInt ≤ 1 → CI σ' → Eo [] [] σ σ' → Q r σ') : wp_X1isTarget Q p1 σ := by
  unfold wp_X1isTarget
  have hE : Eo [] [] σ σ := Eo.rfl
  refine ⟨⟨by omega, by omega⟩, ?_⟩
  have a1 : 0 ≤ (rd σ 11 p1).toInt ∧ (rd σ 11 p1).toInt ≤ 5 := hM.2 11 _
  refine ⟨fun c2 => ?_, fun c2 => ?_⟩
  · unfold b_X1isTarget_20
    suffices hs : ∀ (q3 : Int32), q3.toInt = 1 → b_X1isTarget_25 Q q3 σ from hs 1 rfl
    intro q3 hq3
    unfold b_X1isTarget_25
    refine ⟨⟨by omega, by omega⟩, ?_⟩
    exact hq q3 σ ⟨by omega, by omega⟩ hM hE
  · refine ⟨⟨by omega, by omega⟩, ?_⟩
    refine ⟨fun c4 => ?_, fun c4 => ?_⟩
    · suffices hs : ∀ (q5 : Int32), q5.toInt = 0 → b_X1isTarget_25 Q q5 σ from hs 0 rfl
      intro q5 hq5
      unfold b_X1isTarget_25
      refine ⟨⟨by omega, by omega⟩, ?_⟩
      exact hq q5 σ ⟨by omega, by omega⟩ hM hE
    · unfold b_X1isTarget_20
      suffices hs : ∀ (q6 : Int32), q6.toInt = 1 → b_X1isTarget_25 Q q6 σ from hs 1 rfl
      intro q6 hq6
      unfold b_X1isTarget_25
      refine ⟨⟨by omega, by omega⟩, ?_⟩
      exact hq q6 σ ⟨by omega, by omega⟩ hM hE
set_option maxHeartbeats 2000000 in
theorem rg_X1loadOf {Q : Int32 → VS → Prop} {p1 : Int32} {σ : VS} (h_p1 : 0 ≤ p1.toInt ∧ p1.toInt ≤ 49) (hM : CI σ) (hq : ∀ (r : Int32) (σ' : VS), CI σ' → Eo [] [] σ σ' → Q r σ') : wp_X1loadOf Q p1 σ := by
  unfold wp_X1loadOf
  intro X14 H_14
  have hE : Eo [] [] σ σ := Eo.rfl
  obtain ⟨σ0, h0⟩ : ∃ z : VS, z = σ := ⟨_, rfl⟩
  rw [← h0] at hq
  replace hE : Eo [] [] σ0 σ := by rw [h0]; exact hE
  clear h0
  refine ⟨⟨by omega, by omega⟩, ?_⟩
  have a1 : 0 ≤ (rd σ 15 p1).toInt ∧ (rd σ 15 p1).toInt ≤ 1000 := hM.2 15 _
  intro x2 ex2
  have ix2 : x2.toInt = (rd σ 15 p1).toInt := by rw [ex2]
  refine ⟨⟨by omega, by omega⟩, ?_⟩
  have a3 : 0 ≤ (rd σ 18 p1).toInt ∧ (rd σ 18 p1).toInt ≤ 200 := hM.2 18 _
  intro x4 ex4
  have ix4 : x4.toInt = (rd σ 18 p1).toInt := by rw [ex4]
  have L_14_n5 : ∀ (n5 : Nat) (l1 : Int32) (l2 : Int32) (l3 : Int32) (σ : VS), 200 - l3.toInt < (n5 : Int) → 0 ≤ l1.toInt ∧ l1.toInt ≤ 49 → 0 ≤ l3.toInt ∧ l3.toInt ≤ 200 → CI σ → Eo [] [] σ0 σ → X14 l1 l2 l3 σ := by
    intro n5
    induction n5 with
    | zero => intro l1 l2 l3 σ hm h_l1 h_l3 hM hE; exfalso; omega
    | succ n5 ih_n5 =>
      intro l1 l2 l3 σ hm h_l1 h_l3 hM hE
      have hm2_14 : 200 - l3.toInt < (n5 : Int) + 1 := by omega
      refine H_14 l1 l2 l3 σ ?_
      unfold b_X1loadOf_14
      generalize ey6 : (l1 + 1) = y6
      replace ey6 := ey6.symm
      have ty6 : y6.toInt = l1.toInt + 1 := i3_addc rfl rfl ey6 (by omega)
      clear ey6
      refine ⟨⟨by omega, by omega⟩, ?_⟩
      have a7 : 0 ≤ (rd σ 18 y6).toInt ∧ (rd σ 18 y6).toInt ≤ 200 := hM.2 18 _
      refine ⟨fun c8 => ?_, fun c8 => ?_⟩
      · have bd9 := i3_bd l2
        exact hq l2 σ hM hE
      · refine ⟨⟨by omega, by omega⟩, ?_⟩
        have a10 : 0 ≤ (rd σ 17 l3).toInt ∧ (rd σ 17 l3).toInt ≤ 199 := hM.2 17 _
        generalize ey11 : ((rd σ 17 l3) / 4) = y11
        replace ey11 := ey11.symm
        have ty11 : y11.toInt = (rd σ 17 l3).toInt / 4 := i3_divc rfl rfl ey11 (by omega) (by decide)
        clear ey11
        refine ⟨⟨by omega, by omega⟩, ?_⟩
        have a12 : 0 ≤ (rd σ 14 y11).toInt ∧ (rd σ 14 y11).toInt ≤ 2 := hM.2 14 _
        generalize ey13 : (1 + (rd σ 14 y11)) = y13
        replace ey13 := ey13.symm
        have ty13 : y13.toInt = 1 + (rd σ 14 y11).toInt := i3_addc rfl rfl ey13 (by omega)
        clear ey13
        have bd14 := i3_bd l2
        generalize ey15 : (l2 + y13) = y15
        replace ey15 := ey15.symm
        clear ey15
        intro x16 ex16
        have ix16 : x16.toInt = y15.toInt := by rw [ex16]
        have bd17 := i3_bd y15
        generalize ey18 : (l3 + 1) = y18
        replace ey18 := ey18.symm
        have ty18 : y18.toInt = l3.toInt + 1 := i3_addc rfl rfl ey18 (by omega)
        clear ey18
        have bd19 := i3_bd x16
        exact ih_n5 l1 x16 y18 σ (by omega) (by first | omega | decide) (by first | omega | decide) hM hE
  exact L_14_n5 ((200 - x4.toInt).toNat + 1) p1 x2 x4 σ (by omega) (by first | omega | decide) (by first | omega | decide) hM hE
set_option maxHeartbeats 2000000 in
theorem rg_X1wouldRing {Q : Int32 → VS → Prop} {p1 : Int32} {p2 : Int32} {σ : VS} (h_p1 : 0 ≤ p1.toInt ∧ p1.toInt ≤ 49) (h_p2 : 0 ≤ p2.toInt ∧ p2.toInt ≤ 49) (hM : CI σ) (hq : ∀ (r : Int32) (σ' : VS), 0 ≤ r.toInt ∧ r.toInt ≤ 1 → CI σ' → Eo [] [21] σ σ' → Q r σ') : wp_X1wouldRing Q p1 p2 σ := by
  unfold wp_X1wouldRing
  intro X20 X52 X74 H_20 H_52 H_74
  have hE : Eo [] [21] σ σ := Eo.rfl
  obtain ⟨σ0, h0⟩ : ∃ z : VS, z = σ := ⟨_, rfl⟩
  rw [← h0] at hq
  replace hE : Eo [] [21] σ0 σ := by rw [h0]; exact hE
  clear h0
  refine rg_X1isGate ⟨by omega, by omega⟩ hM (fun r1 σ2 br1 hM3 hE4o => ?_)
  have hE4 := hE.of hE4o (by decide) (by decide)
  refine ⟨fun c5 => ?_, fun c5 => ?_⟩
  · unfold b_X1wouldRing_16
    exact hq 0 σ2 ⟨by decide, by decide⟩ hM3 hE4
  · refine rg_X1isGate ⟨by omega, by omega⟩ hM3 (fun r6 σ7 br6 hM8 hE9o => ?_)
    have hE9 := hE4.of hE9o (by decide) (by decide)
    refine ⟨fun c10 => ?_, fun c10 => ?_⟩
    · have L_20_n11 : ∀ (n11 : Nat) (l1 : Int32) (l2 : Int32) (l3 : Int32) (σ : VS), 50 - l3.toInt < (n11 : Int) → 0 ≤ l1.toInt ∧ l1.toInt ≤ 49 → 0 ≤ l2.toInt ∧ l2.toInt ≤ 49 → 0 ≤ l3.toInt ∧ l3.toInt ≤ 50 → CI σ → Eo [] [21] σ0 σ → X20 l1 l2 l3 σ := by
        intro n11
        induction n11 with
        | zero => intro l1 l2 l3 σ hm h_l1 h_l2 h_l3 hM hE; exfalso; omega
        | succ n11 ih_n11 =>
          intro l1 l2 l3 σ hm h_l1 h_l2 h_l3 hM hE
          have hm2_20 : 50 - l3.toInt < (n11 : Int) + 1 := by omega
          refine H_20 l1 l2 l3 σ ?_
          unfold b_X1wouldRing_20
          have f12 : 0 ≤ (σ.1 2).toInt ∧ (σ.1 2).toInt ≤ 50 := hM.1 2
          refine ⟨fun c13 => ?_, fun c13 => ?_⟩
          · have L_52_n14 : ∀ (n14 : Nat) (l1 : Int32) (l3 : Int32) (σ : VS), 50 - l3.toInt < (n14 : Int) → 0 ≤ l1.toInt ∧ l1.toInt ≤ 49 → 0 ≤ l3.toInt ∧ l3.toInt ≤ 50 → CI σ → Eo [] [21] σ0 σ → X52 l1 l3 σ := by
              intro n14
              induction n14 with
              | zero => intro l1 l3 σ hm h_l1 h_l3 hM hE; exfalso; omega
              | succ n14 ih_n14 =>
                intro l1 l3 σ hm h_l1 h_l3 hM hE
                have hm2_52 : 50 - l3.toInt < (n14 : Int) + 1 := by omega
                refine H_52 l1 l3 σ ?_
                unfold b_X1wouldRing_52
                have f15 : 0 ≤ (σ.1 3).toInt ∧ (σ.1 3).toInt ≤ 50 := hM.1 3
                refine ⟨fun c16 => ?_, fun c16 => ?_⟩
                · refine ⟨⟨by omega, by omega⟩, ?_⟩
                  have a17 : 0 ≤ (rd σ 21 l1).toInt ∧ (rd σ 21 l1).toInt ≤ 1 := hM.2 21 _
                  refine ⟨⟨by omega, by omega⟩, ?_⟩
                  exact hq (rd σ 21 l1) σ ⟨by omega, by omega⟩ hM hE
                · refine ⟨⟨by omega, by omega⟩, ?_⟩
                  have a18 : 0 ≤ (rd σ 19 l3).toInt ∧ (rd σ 19 l3).toInt ≤ 49 := hM.2 19 _
                  intro x19 ex19
                  have ix19 : x19.toInt = (rd σ 19 l3).toInt := by rw [ex19]
                  generalize ey20 : (x19 * 4) = y20
                  replace ey20 := ey20.symm
                  have ty20 : y20.toInt = x19.toInt * 4 := i3_mulc rfl rfl ey20 (by omega)
                  clear ey20
                  intro x21 ex21
                  have ix21 : x21.toInt = y20.toInt := by rw [ex21]
                  have L_74_n22 : ∀ (n22 : Nat) (l1 : Int32) (l3 : Int32) (l4 : Int32) (l5 : Int32) (σ : VS), 200 - l5.toInt < (n22 : Int) → 0 ≤ l1.toInt ∧ l1.toInt ≤ 49 → 0 ≤ l3.toInt ∧ l3.toInt ≤ 49 → 0 ≤ l4.toInt ∧ l4.toInt ≤ 49 → 0 ≤ l5.toInt ∧ l5.toInt ≤ 200 → 50 - l3.toInt < (n14 : Int) + 1 → CI σ → Eo [] [21] σ0 σ → X74 l1 l3 l4 l5 σ := by
                    intro n22
                    induction n22 with
                    | zero => intro l1 l3 l4 l5 σ hm h_l1 h_l3 h_l4 h_l5 m_52 hM hE; exfalso; omega
                    | succ n22 ih_n22 =>
                      intro l1 l3 l4 l5 σ hm h_l1 h_l3 h_l4 h_l5 m_52 hM hE
                      have hm2_74 : 200 - l5.toInt < (n22 : Int) + 1 := by omega
                      refine H_74 l1 l3 l4 l5 σ ?_
                      unfold b_X1wouldRing_74
                      generalize ey23 : (l4 * 4) = y23
                      replace ey23 := ey23.symm
                      have ty23 : y23.toInt = l4.toInt * 4 := i3_mulc rfl rfl ey23 (by omega)
                      clear ey23
                      refine ⟨⟨by omega, by omega⟩, ?_⟩
                      have a24 : 0 ≤ (rd σ 12 l4).toInt ∧ (rd σ 12 l4).toInt ≤ 4 := hM.2 12 _
                      generalize ey25 : (y23 + (rd σ 12 l4)) = y25
                      replace ey25 := ey25.symm
                      have ty25 : y25.toInt = y23.toInt + (rd σ 12 l4).toInt := i3_addc rfl rfl ey25 (by omega)
                      clear ey25
                      refine ⟨fun c26 => ?_, fun c26 => ?_⟩
                      · generalize ey27 : (l3 + 1) = y27
                        replace ey27 := ey27.symm
                        have ty27 : y27.toInt = l3.toInt + 1 := i3_addc rfl rfl ey27 (by omega)
                        clear ey27
                        exact ih_n14 l1 y27 σ (by omega) (by first | omega | decide) (by first | omega | decide) hM hE
                      · refine ⟨⟨by omega, by omega⟩, ?_⟩
                        have a28 : (-5) ≤ (rd σ 16 l5).toInt ∧ (rd σ 16 l5).toInt ≤ 49 := hM.2 16 _
                        refine ⟨fun c29 => ?_, fun c29 => ?_⟩
                        · unfold b_X1wouldRing_124
                          generalize ey30 : (l5 + 1) = y30
                          replace ey30 := ey30.symm
                          have ty30 : y30.toInt = l5.toInt + 1 := i3_addc rfl rfl ey30 (by omega)
                          clear ey30
                          exact ih_n22 l1 l3 l4 y30 σ (by omega) (by first | omega | decide) (by first | omega | decide) (by first | omega | decide) (by first | omega | decide) (by first | omega | decide) hM hE
                        · refine ⟨⟨by omega, by omega⟩, ?_⟩
                          refine ⟨⟨by omega, by omega⟩, ?_⟩
                          have a31 : 0 ≤ (rd σ 21 (rd σ 16 l5)).toInt ∧ (rd σ 21 (rd σ 16 l5)).toInt ≤ 1 := hM.2 21 _
                          refine ⟨fun c32 => ?_, fun c32 => ?_⟩
                          · unfold b_X1wouldRing_124
                            generalize ey33 : (l5 + 1) = y33
                            replace ey33 := ey33.symm
                            have ty33 : y33.toInt = l5.toInt + 1 := i3_addc rfl rfl ey33 (by omega)
                            clear ey33
                            exact ih_n22 l1 l3 l4 y33 σ (by omega) (by first | omega | decide) (by first | omega | decide) (by first | omega | decide) (by first | omega | decide) (by first | omega | decide) hM hE
                          · refine ⟨⟨by omega, by omega⟩, ?_⟩
                            have hM34 := hM.sa 21 l4 1 (show 0 ≤ (1 : Int32).toInt ∧ (1 : Int32).toInt ≤ 1 by decide)
                            have hE35 := hE.sa 21 l4 1 (by decide)
                            have w36 : (rd (sa σ 21 l4 1) 21 l4).toInt = 1 := by rw [rd_sa]; rfl
                            unfold b_X1wouldRing_124
                            generalize ey37 : (l5 + 1) = y37
                            replace ey37 := ey37.symm
                            have ty37 : y37.toInt = l5.toInt + 1 := i3_addc rfl rfl ey37 (by omega)
                            clear ey37
                            exact ih_n22 l1 l3 l4 y37 (sa σ 21 l4 1) (by omega) (by first | omega | decide) (by first | omega | decide) (by first | omega | decide) (by first | omega | decide) (by first | omega | decide) hM34 hE35
                  exact L_74_n22 ((200 - x21.toInt).toNat + 1) l1 l3 x19 x21 σ (by omega) (by first | omega | decide) (by first | omega | decide) (by first | omega | decide) (by first | omega | decide) (by first | omega | decide) hM hE
            exact L_52_n14 ((50 - (0 : Int32).toInt).toNat + 1) l1 0 σ (by decide) (by first | omega | decide) (by first | omega | decide) hM hE
          · refine ⟨fun c38 => ?_, fun c38 => ?_⟩
            · suffices hs : ∀ (q39 : Int32), q39.toInt = 0 → b_X1wouldRing_43 X20 X52 X74 Q l1 l2 l3 q39 l3 σ from hs 0 rfl
              intro q39 hq39
              unfold b_X1wouldRing_43
              refine ⟨⟨by omega, by omega⟩, ?_⟩
              refine ⟨⟨by omega, by omega⟩, ?_⟩
              have hM40 := hM.sa 21 l3 q39 (show 0 ≤ q39.toInt ∧ q39.toInt ≤ 1 by omega)
              have hE41 := hE.sa 21 l3 q39 (by decide)
              have u42 : ((sa σ 21 l3 q39).1 2).toInt = (σ.1 2).toInt := rfl
              have w43 : (rd (sa σ 21 l3 q39) 21 l3).toInt = q39.toInt := by rw [rd_sa]
              generalize ey44 : (l3 + 1) = y44
              replace ey44 := ey44.symm
              have ty44 : y44.toInt = l3.toInt + 1 := i3_addc rfl rfl ey44 (by omega)
              clear ey44
              exact ih_n11 l1 l2 y44 (sa σ 21 l3 q39) (by omega) (by first | omega | decide) (by first | omega | decide) (by first | omega | decide) hM40 hE41
            · suffices hs : ∀ (q45 : Int32), q45.toInt = 1 → b_X1wouldRing_43 X20 X52 X74 Q l1 l2 l3 q45 l3 σ from hs 1 rfl
              intro q45 hq45
              unfold b_X1wouldRing_43
              refine ⟨⟨by omega, by omega⟩, ?_⟩
              refine ⟨⟨by omega, by omega⟩, ?_⟩
              have hM46 := hM.sa 21 l3 q45 (show 0 ≤ q45.toInt ∧ q45.toInt ≤ 1 by omega)
              have hE47 := hE.sa 21 l3 q45 (by decide)
              have u48 : ((sa σ 21 l3 q45).1 2).toInt = (σ.1 2).toInt := rfl
              have w49 : (rd (sa σ 21 l3 q45) 21 l3).toInt = q45.toInt := by rw [rd_sa]
              generalize ey50 : (l3 + 1) = y50
              replace ey50 := ey50.symm
              have ty50 : y50.toInt = l3.toInt + 1 := i3_addc rfl rfl ey50 (by omega)
              clear ey50
              exact ih_n11 l1 l2 y50 (sa σ 21 l3 q45) (by omega) (by first | omega | decide) (by first | omega | decide) (by first | omega | decide) hM46 hE47
      exact L_20_n11 ((50 - (0 : Int32).toInt).toNat + 1) p1 p2 0 σ7 (by decide) (by first | omega | decide) (by first | omega | decide) (by first | omega | decide) hM8 hE9
    · unfold b_X1wouldRing_16
      exact hq 0 σ7 ⟨by decide, by decide⟩ hM8 hE9
set_option maxHeartbeats 2000000 in
theorem rg_X1gatesTakenBy {Q : Int32 → VS → Prop} {p1 : Int32} {σ : VS} (h_p1 : 0 ≤ p1.toInt ∧ p1.toInt ≤ 49) (hM : CI σ) (hq : ∀ (r : Int32) (σ' : VS), CI σ' → Eo [] [] σ σ' → Q r σ') : wp_X1gatesTakenBy Q p1 σ := by
  unfold wp_X1gatesTakenBy
  intro X6 H_6
  have hE : Eo [] [] σ σ := Eo.rfl
  obtain ⟨σ0, h0⟩ : ∃ z : VS, z = σ := ⟨_, rfl⟩
  rw [← h0] at hq
  replace hE : Eo [] [] σ0 σ := by rw [h0]; exact hE
  clear h0
  generalize ey1 : (p1 * 4) = y1
  replace ey1 := ey1.symm
  have ty1 : y1.toInt = p1.toInt * 4 := i3_mulc rfl rfl ey1 (by omega)
  clear ey1
  intro x2 ex2
  have ix2 : x2.toInt = y1.toInt := by rw [ex2]
  have L_6_n3 : ∀ (n3 : Nat) (l1 : Int32) (l2 : Int32) (l3 : Int32) (σ : VS), 200 - l3.toInt < (n3 : Int) → 0 ≤ l1.toInt ∧ l1.toInt ≤ 49 → 0 ≤ l3.toInt ∧ l3.toInt ≤ 200 → CI σ → Eo [] [] σ0 σ → X6 l1 l2 l3 σ := by
    intro n3
    induction n3 with
    | zero => intro l1 l2 l3 σ hm h_l1 h_l3 hM hE; exfalso; omega
    | succ n3 ih_n3 =>
      intro l1 l2 l3 σ hm h_l1 h_l3 hM hE
      have hm2_6 : 200 - l3.toInt < (n3 : Int) + 1 := by omega
      refine H_6 l1 l2 l3 σ ?_
      unfold b_X1gatesTakenBy_6
      generalize ey4 : (l1 * 4) = y4
      replace ey4 := ey4.symm
      have ty4 : y4.toInt = l1.toInt * 4 := i3_mulc rfl rfl ey4 (by omega)
      clear ey4
      refine ⟨⟨by omega, by omega⟩, ?_⟩
      have a5 : 0 ≤ (rd σ 12 l1).toInt ∧ (rd σ 12 l1).toInt ≤ 4 := hM.2 12 _
      generalize ey6 : (y4 + (rd σ 12 l1)) = y6
      replace ey6 := ey6.symm
      have ty6 : y6.toInt = y4.toInt + (rd σ 12 l1).toInt := i3_addc rfl rfl ey6 (by omega)
      clear ey6
      refine ⟨fun c7 => ?_, fun c7 => ?_⟩
      · have bd8 := i3_bd l2
        exact hq l2 σ hM hE
      · refine ⟨⟨by omega, by omega⟩, ?_⟩
        have a9 : (-5) ≤ (rd σ 16 l3).toInt ∧ (rd σ 16 l3).toInt ≤ 49 := hM.2 16 _
        refine ⟨fun c10 => ?_, fun c10 => ?_⟩
        · unfold b_X1gatesTakenBy_45
          generalize ey11 : (l3 + 1) = y11
          replace ey11 := ey11.symm
          have ty11 : y11.toInt = l3.toInt + 1 := i3_addc rfl rfl ey11 (by omega)
          clear ey11
          have bd12 := i3_bd l2
          exact ih_n3 l1 l2 y11 σ (by omega) (by first | omega | decide) (by first | omega | decide) hM hE
        · refine ⟨⟨by omega, by omega⟩, ?_⟩
          refine rg_X1isGate ⟨by omega, by omega⟩ hM (fun r13 σ14 br13 hM15 hE16o => ?_)
          have hE16 := hE.of hE16o (by decide) (by decide)
          have u17 : (rd σ14 12 l1).toInt = (rd σ 12 l1).toInt := by unfold rd; rw [hE16o.2 12 (by decide)]
          have u18 : (rd σ14 16 l3).toInt = (rd σ 16 l3).toInt := by unfold rd; rw [hE16o.2 16 (by decide)]
          refine ⟨fun c19 => ?_, fun c19 => ?_⟩
          · unfold b_X1gatesTakenBy_45
            generalize ey20 : (l3 + 1) = y20
            replace ey20 := ey20.symm
            have ty20 : y20.toInt = l3.toInt + 1 := i3_addc rfl rfl ey20 (by omega)
            clear ey20
            have bd21 := i3_bd l2
            exact ih_n3 l1 l2 y20 σ14 (by omega) (by first | omega | decide) (by first | omega | decide) hM15 hE16
          · have bd22 := i3_bd l2
            generalize ey23 : (l2 + 1) = y23
            replace ey23 := ey23.symm
            clear ey23
            unfold b_X1gatesTakenBy_45
            generalize ey24 : (l3 + 1) = y24
            replace ey24 := ey24.symm
            have ty24 : y24.toInt = l3.toInt + 1 := i3_addc rfl rfl ey24 (by omega)
            clear ey24
            have bd25 := i3_bd y23
            exact ih_n3 l1 y23 y24 σ14 (by omega) (by first | omega | decide) (by first | omega | decide) hM15 hE16
  exact L_6_n3 ((200 - x2.toInt).toNat + 1) p1 0 x2 σ (by omega) (by first | omega | decide) (by first | omega | decide) hM hE
set_option maxHeartbeats 2000000 in
theorem rg_X3masks {Q : Int32 → VS → Prop} {σ : VS} (hM : CI σ) (hq : ∀ (r : Int32) (σ' : VS), 1 ≤ r.toInt ∧ r.toInt ≤ 16 → CI σ' → Eo [] [] σ σ' → Q r σ') : wp_X3masks Q σ := by
  unfold wp_X3masks
  have hE : Eo [] [] σ σ := Eo.rfl
  have f1 : 0 ≤ (σ.1 6).toInt ∧ (σ.1 6).toInt ≤ 4 := hM.1 6
  generalize ey2 : (1 <<< ((σ.1 6) &&& 31)) = y2
  replace ey2 := ey2.symm
  have ty2 := i3_shl1 ey2 (by omega)
  clear ey2
  exact hq y2 σ ⟨by omega, by omega⟩ hM hE
set_option maxHeartbeats 2000000 in
theorem rg_X3periodsOf {Q : Int32 → VS → Prop} {p1 : Int32} {p2 : Int32} {p3 : Int32} {σ : VS} (hM : CI σ) (hq : ∀ (r : Int32) (σ' : VS), 0 ≤ r.toInt ∧ r.toInt ≤ 4 → CI σ' → Eo [] [] σ σ' → Q r σ') : wp_X3periodsOf Q p1 p2 p3 σ := by
  unfold wp_X3periodsOf
  intro X8 H_8
  have hE : Eo [] [] σ σ := Eo.rfl
  obtain ⟨σ0, h0⟩ : ∃ z : VS, z = σ := ⟨_, rfl⟩
  rw [← h0] at hq
  replace hE : Eo [] [] σ0 σ := by rw [h0]; exact hE
  clear h0
  have f1 : 0 ≤ (σ.1 6).toInt ∧ (σ.1 6).toInt ≤ 4 := hM.1 6
  generalize ey2 : ((σ.1 6) - 1) = y2
  replace ey2 := ey2.symm
  have ty2 : y2.toInt = (σ.1 6).toInt - 1 := i3_subc rfl rfl ey2 (by omega)
  clear ey2
  intro x3 ex3
  have ix3 : x3.toInt = y2.toInt := by rw [ex3]
  have L_8_n4 : ∀ (n4 : Nat) (l1 : Int32) (l2 : Int32) (l3 : Int32) (l4 : Int32) (σ : VS), l4.toInt - (-1) < (n4 : Int) → (-1) ≤ l4.toInt ∧ l4.toInt ≤ 3 → CI σ → Eo [] [] σ0 σ → X8 l1 l2 l3 l4 σ := by
    intro n4
    induction n4 with
    | zero => intro l1 l2 l3 l4 σ hm h_l4 hM hE; exfalso; omega
    | succ n4 ih_n4 =>
      intro l1 l2 l3 l4 σ hm h_l4 hM hE
      have hm2_8 : l4.toInt - (-1) < (n4 : Int) + 1 := by omega
      refine H_8 l1 l2 l3 l4 σ ?_
      unfold b_X3periodsOf_8
      refine ⟨fun c5 => ?_, fun c5 => ?_⟩
      · exact hq 1 σ ⟨by decide, by decide⟩ hM hE
      · have bd6 := i3_bd l3
        generalize ey7 : (l3 >>> (l4 &&& 31)) = y7
        replace ey7 := ey7.symm
        clear ey7
        have bd8 := i3_bd y7
        generalize ey9 : (y7 &&& 1) = y9
        replace ey9 := ey9.symm
        have ty9 := i3_and1 ey9
        clear ey9
        refine ⟨fun c10 => ?_, fun c10 => ?_⟩
        · unfold b_X3periodsOf_71
          suffices hs : ∀ (q11 : Int32), q11.toInt = 0 → b_X3periodsOf_72 X8 Q l1 l2 l3 l4 q11 σ from hs 0 rfl
          intro q11 hq11
          unfold b_X3periodsOf_72
          refine ⟨fun c12 => ?_, fun c12 => ?_⟩
          · generalize ey13 : (l4 + (-1)) = y13
            replace ey13 := ey13.symm
            have ty13 : y13.toInt = l4.toInt + (-1) := i3_addc rfl rfl ey13 (by omega)
            clear ey13
            have bd14 := i3_bd l1
            have bd15 := i3_bd l2
            exact ih_n4 l1 l2 l3 y13 σ (by omega) (by first | omega | decide) hM hE
          · exfalso; omega
        · refine ⟨⟨by omega, by omega⟩, ?_⟩
          have a16 : (-1) ≤ (rd σ 32 l4).toInt ∧ (rd σ 32 l4).toInt ≤ 49 := hM.2 32 _
          refine ⟨fun c17 => ?_, fun c17 => ?_⟩
          · unfold b_X3periodsOf_45
            refine ⟨⟨by omega, by omega⟩, ?_⟩
            have a18 : (-1) ≤ (rd σ 34 l4).toInt ∧ (rd σ 34 l4).toInt ≤ 49 := hM.2 34 _
            refine ⟨fun c19 => ?_, fun c19 => ?_⟩
            · unfold b_X3periodsOf_67
              suffices hs : ∀ (q20 : Int32), q20.toInt = 1 → b_X3periodsOf_72 X8 Q l1 l2 l3 l4 q20 σ from hs 1 rfl
              intro q20 hq20
              unfold b_X3periodsOf_72
              refine ⟨fun c21 => ?_, fun c21 => ?_⟩
              · exfalso; omega
              · refine ⟨⟨by omega, by omega⟩, ?_⟩
                have a22 : 0 ≤ (rd σ 31 l4).toInt ∧ (rd σ 31 l4).toInt ≤ 4 := hM.2 31 _
                exact hq (rd σ 31 l4) σ ⟨by omega, by omega⟩ hM hE
            · refine ⟨⟨by omega, by omega⟩, ?_⟩
              refine ⟨fun c23 => ?_, fun c23 => ?_⟩
              · unfold b_X3periodsOf_71
                suffices hs : ∀ (q24 : Int32), q24.toInt = 0 → b_X3periodsOf_72 X8 Q l1 l2 l3 l4 q24 σ from hs 0 rfl
                intro q24 hq24
                unfold b_X3periodsOf_72
                refine ⟨fun c25 => ?_, fun c25 => ?_⟩
                · generalize ey26 : (l4 + (-1)) = y26
                  replace ey26 := ey26.symm
                  have ty26 : y26.toInt = l4.toInt + (-1) := i3_addc rfl rfl ey26 (by omega)
                  clear ey26
                  have bd27 := i3_bd l1
                  have bd28 := i3_bd l2
                  exact ih_n4 l1 l2 l3 y26 σ (by omega) (by first | omega | decide) hM hE
                · exfalso; omega
              · unfold b_X3periodsOf_67
                suffices hs : ∀ (q29 : Int32), q29.toInt = 1 → b_X3periodsOf_72 X8 Q l1 l2 l3 l4 q29 σ from hs 1 rfl
                intro q29 hq29
                unfold b_X3periodsOf_72
                refine ⟨fun c30 => ?_, fun c30 => ?_⟩
                · exfalso; omega
                · refine ⟨⟨by omega, by omega⟩, ?_⟩
                  have a31 : 0 ≤ (rd σ 31 l4).toInt ∧ (rd σ 31 l4).toInt ≤ 4 := hM.2 31 _
                  exact hq (rd σ 31 l4) σ ⟨by omega, by omega⟩ hM hE
          · refine ⟨⟨by omega, by omega⟩, ?_⟩
            refine ⟨fun c32 => ?_, fun c32 => ?_⟩
            · unfold b_X3periodsOf_71
              suffices hs : ∀ (q33 : Int32), q33.toInt = 0 → b_X3periodsOf_72 X8 Q l1 l2 l3 l4 q33 σ from hs 0 rfl
              intro q33 hq33
              unfold b_X3periodsOf_72
              refine ⟨fun c34 => ?_, fun c34 => ?_⟩
              · generalize ey35 : (l4 + (-1)) = y35
                replace ey35 := ey35.symm
                have ty35 : y35.toInt = l4.toInt + (-1) := i3_addc rfl rfl ey35 (by omega)
                clear ey35
                have bd36 := i3_bd l1
                have bd37 := i3_bd l2
                exact ih_n4 l1 l2 l3 y35 σ (by omega) (by first | omega | decide) hM hE
              · exfalso; omega
            · unfold b_X3periodsOf_45
              refine ⟨⟨by omega, by omega⟩, ?_⟩
              have a38 : (-1) ≤ (rd σ 34 l4).toInt ∧ (rd σ 34 l4).toInt ≤ 49 := hM.2 34 _
              refine ⟨fun c39 => ?_, fun c39 => ?_⟩
              · unfold b_X3periodsOf_67
                suffices hs : ∀ (q40 : Int32), q40.toInt = 1 → b_X3periodsOf_72 X8 Q l1 l2 l3 l4 q40 σ from hs 1 rfl
                intro q40 hq40
                unfold b_X3periodsOf_72
                refine ⟨fun c41 => ?_, fun c41 => ?_⟩
                · exfalso; omega
                · refine ⟨⟨by omega, by omega⟩, ?_⟩
                  have a42 : 0 ≤ (rd σ 31 l4).toInt ∧ (rd σ 31 l4).toInt ≤ 4 := hM.2 31 _
                  exact hq (rd σ 31 l4) σ ⟨by omega, by omega⟩ hM hE
              · refine ⟨⟨by omega, by omega⟩, ?_⟩
                refine ⟨fun c43 => ?_, fun c43 => ?_⟩
                · unfold b_X3periodsOf_71
                  suffices hs : ∀ (q44 : Int32), q44.toInt = 0 → b_X3periodsOf_72 X8 Q l1 l2 l3 l4 q44 σ from hs 0 rfl
                  intro q44 hq44
                  unfold b_X3periodsOf_72
                  refine ⟨fun c45 => ?_, fun c45 => ?_⟩
                  · generalize ey46 : (l4 + (-1)) = y46
                    replace ey46 := ey46.symm
                    have ty46 : y46.toInt = l4.toInt + (-1) := i3_addc rfl rfl ey46 (by omega)
                    clear ey46
                    have bd47 := i3_bd l2
                    exact ih_n4 l1 l2 l3 y46 σ (by omega) (by first | omega | decide) hM hE
                  · exfalso; omega
                · unfold b_X3periodsOf_67
                  suffices hs : ∀ (q48 : Int32), q48.toInt = 1 → b_X3periodsOf_72 X8 Q l1 l2 l3 l4 q48 σ from hs 1 rfl
                  intro q48 hq48
                  unfold b_X3periodsOf_72
                  refine ⟨fun c49 => ?_, fun c49 => ?_⟩
                  · exfalso; omega
                  · refine ⟨⟨by omega, by omega⟩, ?_⟩
                    have a50 : 0 ≤ (rd σ 31 l4).toInt ∧ (rd σ 31 l4).toInt ≤ 4 := hM.2 31 _
                    exact hq (rd σ 31 l4) σ ⟨by omega, by omega⟩ hM hE
  exact L_8_n4 ((x3.toInt - (-1)).toNat + 1) p1 p2 p3 x3 σ (by omega) (by first | omega | decide) hM hE
set_option maxHeartbeats 2000000 in
theorem rg_X3spreadBits {Q : VS → Prop} {σ : VS} (hM : CI σ) (hq : ∀ (σ' : VS), CI σ' → Eo [] [35] σ σ' → Q σ') : wp_X3spreadBits Q σ := by
  unfold wp_X3spreadBits
  intro X2 X17 H_2 H_17
  have hE : Eo [] [35] σ σ := Eo.rfl
  obtain ⟨σ0, h0⟩ : ∃ z : VS, z = σ := ⟨_, rfl⟩
  rw [← h0] at hq
  replace hE : Eo [] [35] σ0 σ := by rw [h0]; exact hE
  clear h0
  have L_2_n1 : ∀ (n1 : Nat) (l1 : Int32) (σ : VS), 50 - l1.toInt < (n1 : Int) → 0 ≤ l1.toInt ∧ l1.toInt ≤ 50 → CI σ → Eo [] [35] σ0 σ → X2 l1 σ := by
    intro n1
    induction n1 with
    | zero => intro l1 σ hm h_l1 hM hE; exfalso; omega
    | succ n1 ih_n1 =>
      intro l1 σ hm h_l1 hM hE
      have hm2_2 : 50 - l1.toInt < (n1 : Int) + 1 := by omega
      refine H_2 l1 σ ?_
      unfold b_X3spreadBits_2
      refine ⟨fun c2 => ?_, fun c2 => ?_⟩
      · exact hq σ hM hE
      · refine ⟨⟨by omega, by omega⟩, ?_⟩
        have hM3 := hM.sa 35 l1 0 (show 0 ≤ (0 : Int32).toInt ∧ (0 : Int32).toInt ≤ 15 by decide)
        have hE4 := hE.sa 35 l1 0 (by decide)
        have w5 : (rd (sa σ 35 l1 0) 35 l1).toInt = 0 := by rw [rd_sa]; rfl
        have L_17_n6 : ∀ (n6 : Nat) (l1 : Int32) (l2 : Int32) (σ : VS), 4 - l2.toInt < (n6 : Int) → 0 ≤ l1.toInt ∧ l1.toInt ≤ 49 → 0 ≤ l2.toInt ∧ l2.toInt ≤ 4 → 50 - l1.toInt < (n1 : Int) + 1 → CI σ → Eo [] [35] σ0 σ → X17 l1 l2 σ := by
          intro n6
          induction n6 with
          | zero => intro l1 l2 σ hm h_l1 h_l2 m_2 hM hE; exfalso; omega
          | succ n6 ih_n6 =>
            intro l1 l2 σ hm h_l1 h_l2 m_2 hM hE
            have hm2_17 : 4 - l2.toInt < (n6 : Int) + 1 := by omega
            refine H_17 l1 l2 σ ?_
            unfold b_X3spreadBits_17
            have f7 : 0 ≤ (σ.1 6).toInt ∧ (σ.1 6).toInt ≤ 4 := hM.1 6
            refine ⟨fun c8 => ?_, fun c8 => ?_⟩
            · generalize ey9 : (l1 + 1) = y9
              replace ey9 := ey9.symm
              have ty9 : y9.toInt = l1.toInt + 1 := i3_addc rfl rfl ey9 (by omega)
              clear ey9
              exact ih_n1 y9 σ (by omega) (by first | omega | decide) hM hE
            · refine ⟨⟨by omega, by omega⟩, ?_⟩
              have a10 : (-1) ≤ (rd σ 33 l2).toInt ∧ (rd σ 33 l2).toInt ≤ 49 := hM.2 33 _
              refine ⟨fun c11 => ?_, fun c11 => ?_⟩
              · unfold b_X3spreadBits_45
                refine ⟨⟨by omega, by omega⟩, ?_⟩
                have a12 : 0 ≤ (rd σ 35 l1).toInt ∧ (rd σ 35 l1).toInt ≤ 15 := hM.2 35 _
                generalize ey13 : (1 <<< (l2 &&& 31)) = y13
                replace ey13 := ey13.symm
                have ty13 := i3_shl3 ey13 (by omega)
                clear ey13
                generalize ey14 : ((rd σ 35 l1) ||| y13) = y14
                replace ey14 := ey14.symm
                have ty14 := i3_or15 ey14 (by omega) (by omega)
                clear ey14
                refine ⟨⟨by omega, by omega⟩, ?_⟩
                have hM15 := hM.sa 35 l1 y14 (show 0 ≤ y14.toInt ∧ y14.toInt ≤ 15 by omega)
                have hE16 := hE.sa 35 l1 y14 (by decide)
                have u17 : ((sa σ 35 l1 y14).1 6).toInt = (σ.1 6).toInt := rfl
                have w18 : (rd (sa σ 35 l1 y14) 35 l1).toInt = y14.toInt := by rw [rd_sa]
                unfold b_X3spreadBits_57
                generalize ey19 : (l2 + 1) = y19
                replace ey19 := ey19.symm
                have ty19 : y19.toInt = l2.toInt + 1 := i3_addc rfl rfl ey19 (by omega)
                clear ey19
                exact ih_n6 l1 y19 (sa σ 35 l1 y14) (by omega) (by first | omega | decide) (by first | omega | decide) (by first | omega | decide) hM15 hE16
              · refine ⟨⟨by omega, by omega⟩, ?_⟩
                refine ⟨fun c20 => ?_, fun c20 => ?_⟩
                · unfold b_X3spreadBits_57
                  generalize ey21 : (l2 + 1) = y21
                  replace ey21 := ey21.symm
                  have ty21 : y21.toInt = l2.toInt + 1 := i3_addc rfl rfl ey21 (by omega)
                  clear ey21
                  exact ih_n6 l1 y21 σ (by omega) (by first | omega | decide) (by first | omega | decide) (by first | omega | decide) hM hE
                · unfold b_X3spreadBits_45
                  refine ⟨⟨by omega, by omega⟩, ?_⟩
                  have a22 : 0 ≤ (rd σ 35 l1).toInt ∧ (rd σ 35 l1).toInt ≤ 15 := hM.2 35 _
                  generalize ey23 : (1 <<< (l2 &&& 31)) = y23
                  replace ey23 := ey23.symm
                  have ty23 := i3_shl3 ey23 (by omega)
                  clear ey23
                  generalize ey24 : ((rd σ 35 l1) ||| y23) = y24
                  replace ey24 := ey24.symm
                  have ty24 := i3_or15 ey24 (by omega) (by omega)
                  clear ey24
                  refine ⟨⟨by omega, by omega⟩, ?_⟩
                  have hM25 := hM.sa 35 l1 y24 (show 0 ≤ y24.toInt ∧ y24.toInt ≤ 15 by omega)
                  have hE26 := hE.sa 35 l1 y24 (by decide)
                  have u27 : ((sa σ 35 l1 y24).1 6).toInt = (σ.1 6).toInt := rfl
                  have w28 : (rd (sa σ 35 l1 y24) 35 l1).toInt = y24.toInt := by rw [rd_sa]
                  unfold b_X3spreadBits_57
                  generalize ey29 : (l2 + 1) = y29
                  replace ey29 := ey29.symm
                  have ty29 : y29.toInt = l2.toInt + 1 := i3_addc rfl rfl ey29 (by omega)
                  clear ey29
                  exact ih_n6 l1 y29 (sa σ 35 l1 y24) (by omega) (by first | omega | decide) (by first | omega | decide) (by first | omega | decide) hM25 hE26
        exact L_17_n6 ((4 - (0 : Int32).toInt).toNat + 1) l1 0 (sa σ 35 l1 0) (by decide) (by first | omega | decide) (by first | omega | decide) (by first | omega | decide) hM3 hE4
  exact L_2_n1 ((50 - (0 : Int32).toInt).toNat + 1) 0 σ (by decide) (by first | omega | decide) hM hE
set_option maxHeartbeats 2000000 in
theorem rg_X3addRule {Q : Int32 → VS → Prop} {p1 : Int32} {p2 : Int32} {p3 : Int32} {p4 : Int32} {σ : VS} (h_p1 : 0 ≤ p1.toInt ∧ p1.toInt ≤ 4) (h_p2 : (-1) ≤ p2.toInt ∧ p2.toInt ≤ 49) (h_p3 : (-1) ≤ p3.toInt ∧ p3.toInt ≤ 49) (h_p4 : (-1) ≤ p4.toInt ∧ p4.toInt ≤ 49) (hf_6 : 0 ≤ (σ.1 6).toInt ∧ (σ.1 6).toInt ≤ 3) (hM : CI σ) (hq : ∀ (r : Int32) (σ' : VS), CI σ' → Eo [6] [31, 32, 33, 34, 35] σ σ' → Q r σ') : wp_X3addRule Q p1 p2 p3 p4 σ := by
  unfold wp_X3addRule
  have hE : Eo [6] [31, 32, 33, 34, 35] σ σ := Eo.rfl
  intro x1 ex1
  have ix1 : x1.toInt = (σ.1 6).toInt := by rw [ex1]
  generalize ey2 : ((σ.1 6) + 1) = y2
  replace ey2 := ey2.symm
  have ty2 : y2.toInt = (σ.1 6).toInt + 1 := i3_addc rfl rfl ey2 (by omega)
  clear ey2
  have hM3 := hM.sf 6 y2 (show 0 ≤ y2.toInt ∧ y2.toInt ≤ 4 by omega)
  have hE4 := hE.sf 6 y2 (by decide)
  have u5 : ((sf σ 6 y2).1 6).toInt = y2.toInt := rfl
  refine ⟨⟨by omega, by omega⟩, ?_⟩
  have hM6 := hM3.sa 31 x1 p1 (show 0 ≤ p1.toInt ∧ p1.toInt ≤ 4 by omega)
  have hE7 := hE4.sa 31 x1 p1 (by decide)
  have u8 : ((sa (sf σ 6 y2) 31 x1 p1).1 6).toInt = ((sf σ 6 y2).1 6).toInt := rfl
  have w9 : (rd (sa (sf σ 6 y2) 31 x1 p1) 31 x1).toInt = p1.toInt := by rw [rd_sa]
  refine ⟨⟨by omega, by omega⟩, ?_⟩
  have hM10 := hM6.sa 32 x1 p2 (show (-1) ≤ p2.toInt ∧ p2.toInt ≤ 49 by omega)
  have hE11 := hE7.sa 32 x1 p2 (by decide)
  have u12 : ((sa (sa (sf σ 6 y2) 31 x1 p1) 32 x1 p2).1 6).toInt = ((sa (sf σ 6 y2) 31 x1 p1).1 6).toInt := rfl
  have w13 : (rd (sa (sa (sf σ 6 y2) 31 x1 p1) 32 x1 p2) 32 x1).toInt = p2.toInt := by rw [rd_sa]
  refine ⟨⟨by omega, by omega⟩, ?_⟩
  have hM14 := hM10.sa 33 x1 p3 (show (-1) ≤ p3.toInt ∧ p3.toInt ≤ 49 by omega)
  have hE15 := hE11.sa 33 x1 p3 (by decide)
  have u16 : ((sa (sa (sa (sf σ 6 y2) 31 x1 p1) 32 x1 p2) 33 x1 p3).1 6).toInt = ((sa (sa (sf σ 6 y2) 31 x1 p1) 32 x1 p2).1 6).toInt := rfl
  have w17 : (rd (sa (sa (sa (sf σ 6 y2) 31 x1 p1) 32 x1 p2) 33 x1 p3) 33 x1).toInt = p3.toInt := by rw [rd_sa]
  refine ⟨⟨by omega, by omega⟩, ?_⟩
  have hM18 := hM14.sa 34 x1 p4 (show (-1) ≤ p4.toInt ∧ p4.toInt ≤ 49 by omega)
  have hE19 := hE15.sa 34 x1 p4 (by decide)
  have u20 : ((sa (sa (sa (sa (sf σ 6 y2) 31 x1 p1) 32 x1 p2) 33 x1 p3) 34 x1 p4).1 6).toInt = ((sa (sa (sa (sf σ 6 y2) 31 x1 p1) 32 x1 p2) 33 x1 p3).1 6).toInt := rfl
  have w21 : (rd (sa (sa (sa (sa (sf σ 6 y2) 31 x1 p1) 32 x1 p2) 33 x1 p3) 34 x1 p4) 34 x1).toInt = p4.toInt := by rw [rd_sa]
  refine rg_X3spreadBits hM18 (fun σ23 hM24 hE25o => ?_)
  have hE25 := hE19.of hE25o (by decide) (by decide)
  have u26 : (σ23.1 6).toInt = ((sa (sa (sa (sa (sf σ 6 y2) 31 x1 p1) 32 x1 p2) 33 x1 p3) 34 x1 p4).1 6).toInt := by rw [hE25o.1 6 (by decide)]
  exact hq x1 σ23 hM24 hE25
set_option maxHeartbeats 2000000 in
theorem rg_X3dropLatest {Q : Int32 → VS → Prop} {σ : VS} (hf_6 : 1 ≤ (σ.1 6).toInt ∧ (σ.1 6).toInt ≤ 4) (hM : CI σ) (hq : ∀ (r : Int32) (σ' : VS), CI σ' → Eo [6] [35] σ σ' → Q r σ') : wp_X3dropLatest Q σ := by
  unfold wp_X3dropLatest
  have hE : Eo [6] [35] σ σ := Eo.rfl
  generalize ey1 : ((σ.1 6) - 1) = y1
  replace ey1 := ey1.symm
  have ty1 : y1.toInt = (σ.1 6).toInt - 1 := i3_subc rfl rfl ey1 (by omega)
  clear ey1
  have hM2 := hM.sf 6 y1 (show 0 ≤ y1.toInt ∧ y1.toInt ≤ 4 by omega)
  have hE3 := hE.sf 6 y1 (by decide)
  have u4 : ((sf σ 6 y1).1 6).toInt = y1.toInt := rfl
  refine rg_X3spreadBits hM2 (fun σ6 hM7 hE8o => ?_)
  have hE8 := hE3.of hE8o (by decide) (by decide)
  have u9 : (σ6.1 6).toInt = ((sf σ 6 y1).1 6).toInt := by rw [hE8o.1 6 (by decide)]
  exact hq (σ6.1 6) σ6 hM7 hE8
set_option maxHeartbeats 2000000 in
theorem rg_X5has {Q : Int32 → VS → Prop} {p1 : Int32} {σ : VS} (hM : CI σ) (hq : ∀ (r : Int32) (σ' : VS), 0 ≤ r.toInt ∧ r.toInt ≤ 1 → (r.toInt ≠ 0 → 0 ≤ p1.toInt ∧ p1.toInt ≤ 7) → CI σ' → Eo [] [] σ σ' → Q r σ') : wp_X5has Q p1 σ := by
  unfold wp_X5has
  have hE : Eo [] [] σ σ := Eo.rfl
  refine ⟨fun c1 => ?_, fun c1 => ?_⟩
  · unfold b_X5has_14
    suffices hs : ∀ (q2 : Int32), q2.toInt = 0 → b_X5has_15 Q q2 σ from hs 0 rfl
    intro q2 hq2
    unfold b_X5has_15
    refine ⟨⟨by omega, by omega⟩, ?_⟩
    exact hq q2 σ ⟨by omega, by omega⟩ (by intro h9; omega) hM hE
  · refine ⟨fun c3 => ?_, fun c3 => ?_⟩
    · unfold b_X5has_14
      suffices hs : ∀ (q4 : Int32), q4.toInt = 0 → b_X5has_15 Q q4 σ from hs 0 rfl
      intro q4 hq4
      unfold b_X5has_15
      refine ⟨⟨by omega, by omega⟩, ?_⟩
      exact hq q4 σ ⟨by omega, by omega⟩ (by intro h9; omega) hM hE
    · suffices hs : ∀ (q5 : Int32), q5.toInt = 1 → b_X5has_15 Q q5 σ from hs 1 rfl
      intro q5 hq5
      unfold b_X5has_15
      refine ⟨⟨by omega, by omega⟩, ?_⟩
      exact hq q5 σ ⟨by omega, by omega⟩ (by intro h9; omega) hM hE
set_option maxHeartbeats 2000000 in
theorem rg_X5hasRow {Q : Int32 → VS → Prop} {p1 : Int32} {p2 : Int32} {p3 : Int32} {σ : VS} (hM : CI σ) (hq : ∀ (r : Int32) (σ' : VS), 0 ≤ r.toInt ∧ r.toInt ≤ 1 → (r.toInt ≠ 0 → 0 ≤ p1.toInt ∧ p1.toInt ≤ 7 ∧ 0 ≤ p2.toInt ∧ p2.toInt ≤ 1 ∧ 0 ≤ p3.toInt ∧ p3.toInt ≤ 3) → CI σ' → Eo [] [] σ σ' → Q r σ') : wp_X5hasRow Q p1 p2 p3 σ := by
  unfold wp_X5hasRow
  have hE : Eo [] [] σ σ := Eo.rfl
  have bd1 := i3_bd p1
  refine rg_X5has hM (fun r2 σ3 br2 ir2 hM4 hE5o => ?_)
  have hE5 := hE.of hE5o (by decide) (by decide)
  refine ⟨fun c6 => ?_, fun c6 => ?_⟩
  · unfold b_X5hasRow_29
    suffices hs : ∀ (q7 : Int32), q7.toInt = 0 → b_X5hasRow_30 Q q7 σ3 from hs 0 rfl
    intro q7 hq7
    unfold b_X5hasRow_30
    refine ⟨⟨by omega, by omega⟩, ?_⟩
    exact hq q7 σ3 ⟨by omega, by omega⟩ (by intro h9; omega) hM4 hE5
  · have fc6 := ir2 c6
    refine ⟨fun c8 => ?_, fun c8 => ?_⟩
    · unfold b_X5hasRow_29
      suffices hs : ∀ (q9 : Int32), q9.toInt = 0 → b_X5hasRow_30 Q q9 σ3 from hs 0 rfl
      intro q9 hq9
      unfold b_X5hasRow_30
      refine ⟨⟨by omega, by omega⟩, ?_⟩
      exact hq q9 σ3 ⟨by omega, by omega⟩ (by intro h9; omega) hM4 hE5
    · refine ⟨fun c10 => ?_, fun c10 => ?_⟩
      · unfold b_X5hasRow_29
        suffices hs : ∀ (q11 : Int32), q11.toInt = 0 → b_X5hasRow_30 Q q11 σ3 from hs 0 rfl
        intro q11 hq11
        unfold b_X5hasRow_30
        refine ⟨⟨by omega, by omega⟩, ?_⟩
        exact hq q11 σ3 ⟨by omega, by omega⟩ (by intro h9; omega) hM4 hE5
      · refine ⟨fun c12 => ?_, fun c12 => ?_⟩
        · unfold b_X5hasRow_29
          suffices hs : ∀ (q13 : Int32), q13.toInt = 0 → b_X5hasRow_30 Q q13 σ3 from hs 0 rfl
          intro q13 hq13
          unfold b_X5hasRow_30
          refine ⟨⟨by omega, by omega⟩, ?_⟩
          exact hq q13 σ3 ⟨by omega, by omega⟩ (by intro h9; omega) hM4 hE5
        · refine ⟨fun c14 => ?_, fun c14 => ?_⟩
          · unfold b_X5hasRow_29
            suffices hs : ∀ (q15 : Int32), q15.toInt = 0 → b_X5hasRow_30 Q q15 σ3 from hs 0 rfl
            intro q15 hq15
            unfold b_X5hasRow_30
            refine ⟨⟨by omega, by omega⟩, ?_⟩
            exact hq q15 σ3 ⟨by omega, by omega⟩ (by intro h9; omega) hM4 hE5
          · suffices hs : ∀ (q16 : Int32), q16.toInt = 1 → b_X5hasRow_30 Q q16 σ3 from hs 1 rfl
            intro q16 hq16
            unfold b_X5hasRow_30
            refine ⟨⟨by omega, by omega⟩, ?_⟩
            exact hq q16 σ3 ⟨by omega, by omega⟩ (by intro h9; omega) hM4 hE5
set_option maxHeartbeats 2000000 in
theorem rg_X5rowPlace {Q : Int32 → VS → Prop} {p1 : Int32} {p2 : Int32} {p3 : Int32} {σ : VS} (h_p1 : 0 ≤ p1.toInt ∧ p1.toInt ≤ 7) (h_p2 : 0 ≤ p2.toInt ∧ p2.toInt ≤ 1) (h_p3 : 0 ≤ p3.toInt ∧ p3.toInt ≤ 3) (hM : CI σ) (hq : ∀ (r : Int32) (σ' : VS), 0 ≤ r.toInt ∧ r.toInt ≤ 63 → CI σ' → Eo [] [] σ σ' → Q r σ') : wp_X5rowPlace Q p1 p2 p3 σ := by
  unfold wp_X5rowPlace
  have hE : Eo [] [] σ σ := Eo.rfl
  generalize ey1 : (p1 * 2) = y1
  replace ey1 := ey1.symm
  have ty1 : y1.toInt = p1.toInt * 2 := i3_mulc rfl rfl ey1 (by omega)
  clear ey1
  generalize ey2 : (y1 + p2) = y2
  replace ey2 := ey2.symm
  have ty2 : y2.toInt = y1.toInt + p2.toInt := i3_addc rfl rfl ey2 (by omega)
  clear ey2
  generalize ey3 : (y2 * 4) = y3
  replace ey3 := ey3.symm
  have ty3 : y3.toInt = y2.toInt * 4 := i3_mulc rfl rfl ey3 (by omega)
  clear ey3
  generalize ey4 : (y3 + p3) = y4
  replace ey4 := ey4.symm
  have ty4 : y4.toInt = y3.toInt + p3.toInt := i3_addc rfl rfl ey4 (by omega)
  clear ey4
  exact hq y4 σ ⟨by omega, by omega⟩ hM hE
set_option maxHeartbeats 2000000 in
theorem rg_X5lastNotAboveL {Q : Int32 → VS → Prop} {p2 : Int32} {σ : VS} (hM : CI σ) (hq : ∀ (r : Int32) (σ' : VS), 0 ≤ r.toInt ∧ r.toInt ≤ 3 → CI σ' → Eo [] [] σ σ' → Q r σ') : wp_X5lastNotAboveL Q p2 σ := by
  unfold wp_X5lastNotAboveL
  intro X5 H_5
  have hE : Eo [] [] σ σ := Eo.rfl
  obtain ⟨σ0, h0⟩ : ∃ z : VS, z = σ := ⟨_, rfl⟩
  rw [← h0] at hq
  replace hE : Eo [] [] σ0 σ := by rw [h0]; exact hE
  clear h0
  have L_5_n1 : ∀ (n1 : Nat) (l1 : Int32) (l2 : Int32) (σ : VS), l2.toInt - 0 < (n1 : Int) → 0 ≤ l2.toInt ∧ l2.toInt ≤ 3 → CI σ → Eo [] [] σ0 σ → X5 l1 l2 σ := by
    intro n1
    induction n1 with
    | zero => intro l1 l2 σ hm h_l2 hM hE; exfalso; omega
    | succ n1 ih_n1 =>
      intro l1 l2 σ hm h_l2 hM hE
      have hm2_5 : l2.toInt - 0 < (n1 : Int) + 1 := by omega
      refine H_5 l1 l2 σ ?_
      unfold b_X5lastNotAboveL_5
      refine ⟨fun c2 => ?_, fun c2 => ?_⟩
      · exact hq 0 σ ⟨by decide, by decide⟩ hM hE
      · refine ⟨⟨by omega, by omega⟩, ?_⟩
        have l3 := AR.rd ar_lm_load (x := (lm_load.getD l2.toNatClampNeg 0)) rfl (by omega)
        refine ⟨fun c4 => ?_, fun c4 => ?_⟩
        · generalize ey5 : (l2 + (-1)) = y5
          replace ey5 := ey5.symm
          have ty5 : y5.toInt = l2.toInt + (-1) := i3_addc rfl rfl ey5 (by omega)
          clear ey5
          have bd6 := i3_bd l1
          exact ih_n1 l1 y5 σ (by omega) (by first | omega | decide) hM hE
        · exact hq l2 σ ⟨by omega, by omega⟩ hM hE
  exact L_5_n1 (((3 : Int32).toInt - 0).toNat + 1) p2 3 σ (by decide) (by first | omega | decide) hM hE
set_option maxHeartbeats 2000000 in
theorem rg_X5lastNotAboveS {Q : Int32 → VS → Prop} {p2 : Int32} {σ : VS} (hM : CI σ) (hq : ∀ (r : Int32) (σ' : VS), 0 ≤ r.toInt ∧ r.toInt ≤ 2 → CI σ' → Eo [] [] σ σ' → Q r σ') : wp_X5lastNotAboveS Q p2 σ := by
  unfold wp_X5lastNotAboveS
  intro X5 H_5
  have hE : Eo [] [] σ σ := Eo.rfl
  obtain ⟨σ0, h0⟩ : ∃ z : VS, z = σ := ⟨_, rfl⟩
  rw [← h0] at hq
  replace hE : Eo [] [] σ0 σ := by rw [h0]; exact hE
  clear h0
  have L_5_n1 : ∀ (n1 : Nat) (l1 : Int32) (l2 : Int32) (σ : VS), l2.toInt - 0 < (n1 : Int) → 0 ≤ l2.toInt ∧ l2.toInt ≤ 2 → CI σ → Eo [] [] σ0 σ → X5 l1 l2 σ := by
    intro n1
    induction n1 with
    | zero => intro l1 l2 σ hm h_l2 hM hE; exfalso; omega
    | succ n1 ih_n1 =>
      intro l1 l2 σ hm h_l2 hM hE
      have hm2_5 : l2.toInt - 0 < (n1 : Int) + 1 := by omega
      refine H_5 l1 l2 σ ?_
      unfold b_X5lastNotAboveS_5
      refine ⟨fun c2 => ?_, fun c2 => ?_⟩
      · exact hq 0 σ ⟨by decide, by decide⟩ hM hE
      · refine ⟨⟨by omega, by omega⟩, ?_⟩
        have l3 := AR.rd ar_lm_slope (x := (lm_slope.getD l2.toNatClampNeg 0)) rfl (by omega)
        refine ⟨fun c4 => ?_, fun c4 => ?_⟩
        · generalize ey5 : (l2 + (-1)) = y5
          replace ey5 := ey5.symm
          have ty5 : y5.toInt = l2.toInt + (-1) := i3_addc rfl rfl ey5 (by omega)
          clear ey5
          have bd6 := i3_bd l1
          exact ih_n1 l1 y5 σ (by omega) (by first | omega | decide) hM hE
        · exact hq l2 σ ⟨by omega, by omega⟩ hM hE
  exact L_5_n1 (((2 : Int32).toInt - 0).toNat + 1) p2 2 σ (by decide) (by first | omega | decide) hM hE
set_option maxHeartbeats 2000000 in
theorem rg_X5whyAbsent {Q : Int32 → VS → Prop} {p1 : Int32} {p2 : Int32} {σ : VS} (h_p1 : 0 ≤ p1.toInt ∧ p1.toInt ≤ 63) (hM : CI σ) (hq : ∀ (r : Int32) (σ' : VS), (-12) ≤ r.toInt ∧ r.toInt ≤ 0 → CI σ' → Eo [] [] σ σ' → Q r σ') : wp_X5whyAbsent Q p1 p2 σ := by
  unfold wp_X5whyAbsent
  have hE : Eo [] [] σ σ := Eo.rfl
  refine ⟨⟨by omega, by omega⟩, ?_⟩
  have a1 : 0 ≤ (rd σ 37 p1).toInt ∧ (rd σ 37 p1).toInt ≤ 3 := hM.2 37 _
  refine ⟨fun c2 => ?_, fun c2 => ?_⟩
  · refine ⟨⟨by omega, by omega⟩, ?_⟩
    refine ⟨fun c3 => ?_, fun c3 => ?_⟩
    · suffices hs : ∀ (q4 : Int32), q4.toInt = (-12) → b_X5whyAbsent_28 Q q4 σ from hs (-12) rfl
      intro q4 hq4
      unfold b_X5whyAbsent_28
      exact hq q4 σ ⟨by omega, by omega⟩ hM hE
    · suffices hs : ∀ (q5 : Int32), q5.toInt = 0 → b_X5whyAbsent_28 Q q5 σ from hs 0 rfl
      intro q5 hq5
      unfold b_X5whyAbsent_28
      exact hq q5 σ ⟨by omega, by omega⟩ hM hE
  · exact hq (-11) σ ⟨by decide, by decide⟩ hM hE
set_option maxHeartbeats 2000000 in
theorem rg_X5cutRow {Q : Int32 → VS → Prop} {p1 : Int32} {p2 : Int32} {σ : VS} (h_p1 : 0 ≤ p1.toInt ∧ p1.toInt ≤ 63) (h_p2 : 0 ≤ p2.toInt ∧ p2.toInt ≤ 3) (hM : CI σ) (hq : ∀ (r : Int32) (σ' : VS), 0 ≤ r.toInt ∧ r.toInt ≤ 3 → CI σ' → Eo [] [36, 37] σ σ' → Q r σ') : wp_X5cutRow Q p1 p2 σ := by
  unfold wp_X5cutRow
  intro X10 H_10
  have hE : Eo [] [36, 37] σ σ := Eo.rfl
  obtain ⟨σ0, h0⟩ : ∃ z : VS, z = σ := ⟨_, rfl⟩
  rw [← h0] at hq
  replace hE : Eo [] [36, 37] σ0 σ := by rw [h0]; exact hE
  clear h0
  refine ⟨⟨by omega, by omega⟩, ?_⟩
  have a1 : 0 ≤ (rd σ 37 p1).toInt ∧ (rd σ 37 p1).toInt ≤ 3 := hM.2 37 _
  intro x2 ex2
  have ix2 : x2.toInt = (rd σ 37 p1).toInt := by rw [ex2]
  have L_10_n3 : ∀ (n3 : Nat) (l1 : Int32) (l2 : Int32) (l3 : Int32) (l4 : Int32) (σ : VS), 3 - l4.toInt < (n3 : Int) → 0 ≤ l1.toInt ∧ l1.toInt ≤ 63 → 0 ≤ l2.toInt ∧ l2.toInt ≤ 3 → 0 ≤ l3.toInt ∧ l3.toInt ≤ 3 → 0 ≤ l4.toInt ∧ l4.toInt ≤ 3 → CI σ → Eo [] [36, 37] σ0 σ → X10 l1 l2 l3 l4 σ := by
    intro n3
    induction n3 with
    | zero => intro l1 l2 l3 l4 σ hm h_l1 h_l2 h_l3 h_l4 hM hE; exfalso; omega
    | succ n3 ih_n3 =>
      intro l1 l2 l3 l4 σ hm h_l1 h_l2 h_l3 h_l4 hM hE
      have hm2_10 : 3 - l4.toInt < (n3 : Int) + 1 := by omega
      refine H_10 l1 l2 l3 l4 σ ?_
      unfold b_X5cutRow_10
      refine ⟨fun c4 => ?_, fun c4 => ?_⟩
      · refine ⟨⟨by omega, by omega⟩, ?_⟩
        have hM5 := hM.sa 37 l1 l2 (show 0 ≤ l2.toInt ∧ l2.toInt ≤ 3 by omega)
        have hE6 := hE.sa 37 l1 l2 (by decide)
        have w7 : (rd (sa σ 37 l1 l2) 37 l1).toInt = l2.toInt := by rw [rd_sa]
        exact hq l3 (sa σ 37 l1 l2) ⟨by omega, by omega⟩ hM5 hE6
      · generalize ey8 : (l1 * 3) = y8
        replace ey8 := ey8.symm
        have ty8 : y8.toInt = l1.toInt * 3 := i3_mulc rfl rfl ey8 (by omega)
        clear ey8
        generalize ey9 : (y8 + l4) = y9
        replace ey9 := ey9.symm
        have ty9 : y9.toInt = y8.toInt + l4.toInt := i3_addc rfl rfl ey9 (by omega)
        clear ey9
        refine ⟨⟨by omega, by omega⟩, ?_⟩
        have hM10 := hM.sa 36 y9 10 (show 0 ≤ (10 : Int32).toInt ∧ (10 : Int32).toInt ≤ 3000 by decide)
        have hE11 := hE.sa 36 y9 10 (by decide)
        have w12 : (rd (sa σ 36 y9 10) 36 y9).toInt = 10 := by rw [rd_sa]; rfl
        generalize ey13 : (l4 + 1) = y13
        replace ey13 := ey13.symm
        have ty13 : y13.toInt = l4.toInt + 1 := i3_addc rfl rfl ey13 (by omega)
        clear ey13
        exact ih_n3 l1 l2 l3 y13 (sa σ 36 y9 10) (by omega) (by first | omega | decide) (by first | omega | decide) (by first | omega | decide) (by first | omega | decide) hM10 hE11
  exact L_10_n3 ((3 - x2.toInt).toNat + 1) p1 p2 x2 x2 σ (by omega) (by first | omega | decide) (by first | omega | decide) (by first | omega | decide) (by first | omega | decide) hM hE
set_option maxHeartbeats 2000000 in
theorem rg_X5weighRow {Q : Int32 → VS → Prop} {p1 : Int32} {p2 : Int32} {p3 : Int32} {p4 : Int32} {σ : VS} (h_p1 : 0 ≤ p1.toInt ∧ p1.toInt ≤ 63) (h_p2 : 0 ≤ p2.toInt ∧ p2.toInt ≤ 2) (hx_0 : p3.toInt ≤ 0 ∨ p2.toInt ≤ 1) (hM : CI σ) (hq : ∀ (r : Int32) (σ' : VS), CI σ' → Eo [] [] σ σ' → Q r σ') : wp_X5weighRow Q p1 p2 p3 p4 σ := by
  unfold wp_X5weighRow
  have hE : Eo [] [] σ σ := Eo.rfl
  generalize ey1 : (p1 * 3) = y1
  replace ey1 := ey1.symm
  have ty1 : y1.toInt = p1.toInt * 3 := i3_mulc rfl rfl ey1 (by omega)
  clear ey1
  generalize ey2 : (y1 + p2) = y2
  replace ey2 := ey2.symm
  have ty2 : y2.toInt = y1.toInt + p2.toInt := i3_addc rfl rfl ey2 (by omega)
  clear ey2
  intro x3 ex3
  have ix3 : x3.toInt = y2.toInt := by rw [ex3]
  refine ⟨⟨by omega, by omega⟩, ?_⟩
  have a4 : 0 ≤ (rd σ 36 x3).toInt ∧ (rd σ 36 x3).toInt ≤ 3000 := hM.2 36 _
  have bd5 := i3_bd p4
  have bd6 := i3_bd p3
  generalize ey7 : (p4 - p3) = y7
  replace ey7 := ey7.symm
  clear ey7
  have bd8 := i3_bd y7
  generalize ey9 : ((rd σ 36 x3) * y7) = y9
  replace ey9 := ey9.symm
  clear ey9
  intro x10 ex10
  have ix10 : x10.toInt = y9.toInt := by rw [ex10]
  have bd11 := i3_bd y9
  refine ⟨fun c12 => ?_, fun c12 => ?_⟩
  · unfold b_X5weighRow_44
    have bd13 := i3_bd x10
    exact hq x10 σ hM hE
  · generalize ey14 : (x3 + 1) = y14
    replace ey14 := ey14.symm
    have ty14 : y14.toInt = x3.toInt + 1 := i3_addc rfl rfl ey14 (by omega)
    clear ey14
    refine ⟨⟨by omega, by omega⟩, ?_⟩
    have a15 : 0 ≤ (rd σ 36 y14).toInt ∧ (rd σ 36 y14).toInt ≤ 3000 := hM.2 36 _
    generalize ey16 : ((rd σ 36 y14) * p3) = y16
    replace ey16 := ey16.symm
    clear ey16
    have bd17 := i3_bd x10
    have bd18 := i3_bd y16
    generalize ey19 : (x10 + y16) = y19
    replace ey19 := ey19.symm
    clear ey19
    unfold b_X5weighRow_44
    have bd20 := i3_bd y19
    exact hq y19 σ hM hE
