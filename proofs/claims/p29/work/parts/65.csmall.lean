set_option maxHeartbeats 2000000 in
theorem rg_X0hasOrRoot {Q : Int32 → VS → Prop} {p1 : Int32} {σ : VS} (hM : CI σ) (hq : ∀ (r : Int32) (σ' : VS), 0 ≤ r.toInt ∧ r.toInt ≤ 1 → (r.toInt ≠ 0 → (-1) ≤ p1.toInt ∧ p1.toInt < (σ.1 5).toInt) → CI σ' → Eo [] [] σ σ' → Q r σ') : wp_X0hasOrRoot Q p1 σ := by
  unfold wp_X0hasOrRoot
  have hE : Eo [] [] σ σ := Eo.rfl
  refine ⟨fun c1 => ?_, fun c1 => ?_⟩
  · unfold b_X0hasOrRoot_17
    suffices hs : ∀ (q2 : Int32), q2.toInt = 0 → b_X0hasOrRoot_18 Q q2 σ from hs 0 rfl
    intro q2 hq2
    unfold b_X0hasOrRoot_18
    refine ⟨⟨by omega, by omega⟩, ?_⟩
    exact hq q2 σ ⟨by omega, by omega⟩ (by intro h9; omega) hM hE
  · have f3 : 0 ≤ (σ.1 5).toInt ∧ (σ.1 5).toInt ≤ 20 := hM.1 5
    refine ⟨fun c4 => ?_, fun c4 => ?_⟩
    · unfold b_X0hasOrRoot_17
      suffices hs : ∀ (q5 : Int32), q5.toInt = 0 → b_X0hasOrRoot_18 Q q5 σ from hs 0 rfl
      intro q5 hq5
      unfold b_X0hasOrRoot_18
      refine ⟨⟨by omega, by omega⟩, ?_⟩
      exact hq q5 σ ⟨by omega, by omega⟩ (by intro h9; omega) hM hE
    · suffices hs : ∀ (q6 : Int32), q6.toInt = 1 → b_X0hasOrRoot_18 Q q6 σ from hs 1 rfl
      intro q6 hq6
      unfold b_X0hasOrRoot_18
      refine ⟨⟨by omega, by omega⟩, ?_⟩
      exact hq q6 σ ⟨by omega, by omega⟩ (by intro h9; omega) hM hE
set_option maxHeartbeats 2000000 in
theorem rg_X0earlyOf {Q : Int32 → VS → Prop} {p1 : Int32} {σ : VS} (h_p1 : (-1) ≤ p1.toInt ∧ p1.toInt ≤ 19) (hM : CI σ) (hq : ∀ (r : Int32) (σ' : VS), CI σ' → Eo [] [] σ σ' → Q r σ') : wp_X0earlyOf Q p1 σ := by
  unfold wp_X0earlyOf
  have hE : Eo [] [] σ σ := Eo.rfl
  refine ⟨fun c1 => ?_, fun c1 => ?_⟩
  · refine ⟨⟨by omega, by omega⟩, ?_⟩
    suffices hs : ∀ (q2 : Int32), q2.toInt = (rd σ 29 p1).toInt → b_X0earlyOf_14 Q q2 σ from hs (rd σ 29 p1) rfl
    intro q2 hq2
    have bd3 := i3_bd (rd σ 29 p1)
    unfold b_X0earlyOf_14
    have bd4 := i3_bd q2
    exact hq q2 σ hM hE
  · suffices hs : ∀ (q5 : Int32), q5.toInt = 0 → b_X0earlyOf_14 Q q5 σ from hs 0 rfl
    intro q5 hq5
    unfold b_X0earlyOf_14
    exact hq q5 σ hM hE
set_option maxHeartbeats 2000000 in
theorem rg_X0lateOf {Q : Int32 → VS → Prop} {p1 : Int32} {σ : VS} (h_p1 : (-1) ≤ p1.toInt ∧ p1.toInt ≤ 19) (hM : CI σ) (hq : ∀ (r : Int32) (σ' : VS), CI σ' → Eo [] [] σ σ' → Q r σ') : wp_X0lateOf Q p1 σ := by
  unfold wp_X0lateOf
  have hE : Eo [] [] σ σ := Eo.rfl
  refine ⟨fun c1 => ?_, fun c1 => ?_⟩
  · refine ⟨⟨by omega, by omega⟩, ?_⟩
    suffices hs : ∀ (q2 : Int32), q2.toInt = (rd σ 30 p1).toInt → b_X0lateOf_14 Q q2 σ from hs (rd σ 30 p1) rfl
    intro q2 hq2
    have bd3 := i3_bd (rd σ 30 p1)
    unfold b_X0lateOf_14
    have bd4 := i3_bd q2
    exact hq q2 σ hM hE
  · suffices hs : ∀ (q5 : Int32), q5.toInt = 0 → b_X0lateOf_14 Q q5 σ from hs 0 rfl
    intro q5 hq5
    unfold b_X0lateOf_14
    exact hq q5 σ hM hE
set_option maxHeartbeats 2000000 in
theorem rg_X1isGateKind {Q : Int32 → VS → Prop} {p1 : Int32} {σ : VS} (hM : CI σ) (hq : ∀ (r : Int32) (σ' : VS), 0 ≤ r.toInt ∧ r.toInt ≤ 1 → CI σ' → Eo [] [] σ σ' → Q r σ') : wp_X1isGateKind Q p1 σ := by
  unfold wp_X1isGateKind
  have hE : Eo [] [] σ σ := Eo.rfl
  refine ⟨fun c1 => ?_, fun c1 => ?_⟩
  · unfold b_X1isGateKind_13
    suffices hs : ∀ (q2 : Int32), q2.toInt = 0 → b_X1isGateKind_14 Q q2 σ from hs 0 rfl
    intro q2 hq2
    unfold b_X1isGateKind_14
    refine ⟨⟨by omega, by omega⟩, ?_⟩
    exact hq q2 σ ⟨by omega, by omega⟩ hM hE
  · refine ⟨fun c3 => ?_, fun c3 => ?_⟩
    · unfold b_X1isGateKind_13
      suffices hs : ∀ (q4 : Int32), q4.toInt = 0 → b_X1isGateKind_14 Q q4 σ from hs 0 rfl
      intro q4 hq4
      unfold b_X1isGateKind_14
      refine ⟨⟨by omega, by omega⟩, ?_⟩
      exact hq q4 σ ⟨by omega, by omega⟩ hM hE
    · suffices hs : ∀ (q5 : Int32), q5.toInt = 1 → b_X1isGateKind_14 Q q5 σ from hs 1 rfl
      intro q5 hq5
      unfold b_X1isGateKind_14
      refine ⟨⟨by omega, by omega⟩, ?_⟩
      exact hq q5 σ ⟨by omega, by omega⟩ hM hE
set_option maxHeartbeats 2000000 in
theorem rg_X1has {Q : Int32 → VS → Prop} {p1 : Int32} {σ : VS} (hM : CI σ) (hq : ∀ (r : Int32) (σ' : VS), 0 ≤ r.toInt ∧ r.toInt ≤ 1 → (r.toInt ≠ 0 → 0 ≤ p1.toInt ∧ p1.toInt < (σ.1 2).toInt) → CI σ' → Eo [] [] σ σ' → Q r σ') : wp_X1has Q p1 σ := by
  unfold wp_X1has
  have hE : Eo [] [] σ σ := Eo.rfl
  refine ⟨fun c1 => ?_, fun c1 => ?_⟩
  · unfold b_X1has_16
    suffices hs : ∀ (q2 : Int32), q2.toInt = 0 → b_X1has_17 Q q2 σ from hs 0 rfl
    intro q2 hq2
    unfold b_X1has_17
    refine ⟨⟨by omega, by omega⟩, ?_⟩
    exact hq q2 σ ⟨by omega, by omega⟩ (by intro h9; omega) hM hE
  · have f3 : 0 ≤ (σ.1 2).toInt ∧ (σ.1 2).toInt ≤ 50 := hM.1 2
    refine ⟨fun c4 => ?_, fun c4 => ?_⟩
    · unfold b_X1has_16
      suffices hs : ∀ (q5 : Int32), q5.toInt = 0 → b_X1has_17 Q q5 σ from hs 0 rfl
      intro q5 hq5
      unfold b_X1has_17
      refine ⟨⟨by omega, by omega⟩, ?_⟩
      exact hq q5 σ ⟨by omega, by omega⟩ (by intro h9; omega) hM hE
    · suffices hs : ∀ (q6 : Int32), q6.toInt = 1 → b_X1has_17 Q q6 σ from hs 1 rfl
      intro q6 hq6
      unfold b_X1has_17
      refine ⟨⟨by omega, by omega⟩, ?_⟩
      exact hq q6 σ ⟨by omega, by omega⟩ (by intro h9; omega) hM hE
set_option maxHeartbeats 2000000 in
theorem rg_X1hasInput {Q : Int32 → VS → Prop} {p1 : Int32} {p2 : Int32} {σ : VS} (hM : CI σ) (hq : ∀ (r : Int32) (σ' : VS), 0 ≤ r.toInt ∧ r.toInt ≤ 1 → (r.toInt ≠ 0 → 0 ≤ p1.toInt ∧ p1.toInt < (σ.1 2).toInt ∧ 0 ≤ p2.toInt ∧ p2.toInt ≤ 3) → CI σ' → Eo [] [] σ σ' → Q r σ') : wp_X1hasInput Q p1 p2 σ := by
  unfold wp_X1hasInput
  have hE : Eo [] [] σ σ := Eo.rfl
  have bd1 := i3_bd p1
  refine rg_X1has hM (fun r2 σ3 br2 ir2 hM4 hE5o => ?_)
  have hE5 := hE.of hE5o (by decide) (by decide)
  have f6 : 0 ≤ (σ.1 2).toInt ∧ (σ.1 2).toInt ≤ 50 := hM.1 2
  have u7 : (σ3.1 2).toInt = (σ.1 2).toInt := by rw [hE5o.1 2 (by decide)]
  refine ⟨fun c8 => ?_, fun c8 => ?_⟩
  · unfold b_X1hasInput_26
    suffices hs : ∀ (q9 : Int32), q9.toInt = 0 → b_X1hasInput_27 Q q9 σ3 from hs 0 rfl
    intro q9 hq9
    unfold b_X1hasInput_27
    refine ⟨⟨by omega, by omega⟩, ?_⟩
    exact hq q9 σ3 ⟨by omega, by omega⟩ (by intro h9; omega) hM4 hE5
  · have fc8 := ir2 c8
    refine ⟨fun c10 => ?_, fun c10 => ?_⟩
    · unfold b_X1hasInput_26
      suffices hs : ∀ (q11 : Int32), q11.toInt = 0 → b_X1hasInput_27 Q q11 σ3 from hs 0 rfl
      intro q11 hq11
      unfold b_X1hasInput_27
      refine ⟨⟨by omega, by omega⟩, ?_⟩
      exact hq q11 σ3 ⟨by omega, by omega⟩ (by intro h9; omega) hM4 hE5
    · refine ⟨⟨by omega, by omega⟩, ?_⟩
      have a12 : 0 ≤ (rd σ3 12 p1).toInt ∧ (rd σ3 12 p1).toInt ≤ 4 := hM4.2 12 _
      refine ⟨fun c13 => ?_, fun c13 => ?_⟩
      · unfold b_X1hasInput_26
        suffices hs : ∀ (q14 : Int32), q14.toInt = 0 → b_X1hasInput_27 Q q14 σ3 from hs 0 rfl
        intro q14 hq14
        unfold b_X1hasInput_27
        refine ⟨⟨by omega, by omega⟩, ?_⟩
        exact hq q14 σ3 ⟨by omega, by omega⟩ (by intro h9; omega) hM4 hE5
      · suffices hs : ∀ (q15 : Int32), q15.toInt = 1 → b_X1hasInput_27 Q q15 σ3 from hs 1 rfl
        intro q15 hq15
        unfold b_X1hasInput_27
        refine ⟨⟨by omega, by omega⟩, ?_⟩
        exact hq q15 σ3 ⟨by omega, by omega⟩ (by intro h9; omega) hM4 hE5
set_option maxHeartbeats 2000000 in
theorem rg_X1isGate {Q : Int32 → VS → Prop} {p1 : Int32} {σ : VS} (h_p1 : 0 ≤ p1.toInt ∧ p1.toInt ≤ 49) (hM : CI σ) (hq : ∀ (r : Int32) (σ' : VS), 0 ≤ r.toInt ∧ r.toInt ≤ 1 → CI σ' → Eo [] [] σ σ' → Q r σ') : wp_X1isGate Q p1 σ := by
  unfold wp_X1isGate
  have hE : Eo [] [] σ σ := Eo.rfl
  refine ⟨⟨by omega, by omega⟩, ?_⟩
  have a1 : 0 ≤ (rd σ 11 p1).toInt ∧ (rd σ 11 p1).toInt ≤ 5 := hM.2 11 _
  refine rg_X1isGateKind hM (fun r2 σ3 br2 hM4 hE5o => ?_)
  have hE5 := hE.of hE5o (by decide) (by decide)
  have u6 : (rd σ3 11 p1).toInt = (rd σ 11 p1).toInt := by unfold rd; rw [hE5o.2 11 (by decide)]
  refine ⟨⟨by omega, by omega⟩, ?_⟩
  exact hq r2 σ3 ⟨by omega, by omega⟩ hM4 hE5
set_option maxHeartbeats 2000000 in
theorem rg_X1isTarget {Q : Int32 → VS → Prop} {p1 : Int32} {σ : VS} (h_p1 : 0 ≤ p1.toInt ∧ p1.toInt ≤ 49) (hM : CI σ) (hq : ∀ (r : Int32) (σ' : VS), 0 ≤ r.toInt ∧ r.toInt ≤ 1 → CI σ' → Eo [] [] σ σ' → Q r σ') : wp_X1isTarget Q p1 σ := by
  unfold wp_X1isTarget
  have hE : Eo [] [] σ σ := Eo.rfl
  refine ⟨⟨by omega, by omega⟩, ?_⟩
  have a1 : 0 ≤ (rd σ 11 p1).toInt ∧ (rd σ 11 p1).toInt ≤ 5 := hM.2 11 _
  refine ⟨fun c2 => ?_, fun c2 => ?_⟩
  · unfold b_X1isTarget_20
    suffices hs : ∀ (q3 : Int32), q3.toInt = 1 → b_X1isTarget_25 Q q3 σ from hs 1 rfl
    intro q3 hq3
    unfold b_X1isTarget_25
    refine ⟨⟨by omega, by omega⟩, ?_⟩
    exact hq q3 σ ⟨by omega, by omega⟩ hM hE
  · refine ⟨⟨by omega, by omega⟩, ?_⟩
    refine ⟨fun c4 => ?_, fun c4 => ?_⟩
    · suffices hs : ∀ (q5 : Int32), q5.toInt = 0 → b_X1isTarget_25 Q q5 σ from hs 0 rfl
      intro q5 hq5
      unfold b_X1isTarget_25
      refine ⟨⟨by omega, by omega⟩, ?_⟩
      exact hq q5 σ ⟨by omega, by omega⟩ hM hE
    · unfold b_X1isTarget_20
      suffices hs : ∀ (q6 : Int32), q6.toInt = 1 → b_X1isTarget_25 Q q6 σ from hs 1 rfl
      intro q6 hq6
      unfold b_X1isTarget_25
      refine ⟨⟨by omega, by omega⟩, ?_⟩
      exact hq q6 σ ⟨by omega, by omega⟩ hM hE
set_option maxHeartbeats 2000000 in
theorem rg_X1wouldRing {Q : Int32 → VS → Prop} {p1 : Int32} {p2 : Int32} {σ : VS} (h_p1 : 0 ≤ p1.toInt ∧ p1.toInt ≤ 49) (h_p2 : 0 ≤ p2.toInt ∧ p2.toInt ≤ 49) (hM : CI σ) (hq : ∀ (r : Int32) (σ' : VS), 0 ≤ r.toInt ∧ r.toInt ≤ 1 → CI σ' → Eo [] [21] σ σ' → Q r σ') : wp_X1wouldRing Q p1 p2 σ := by
  unfold wp_X1wouldRing
  intro X20 X52 X74 H_20 H_52 H_74
  have hE : Eo [] [21] σ σ := Eo.rfl
  obtain ⟨σ0, h0⟩ : ∃ z : VS, z = σ := ⟨_, rfl⟩
  rw [← h0] at hq
  replace hE : Eo [] [21] σ0 σ := by rw [h0]; exact hE
  clear h0
  refine rg_X1isGate ⟨by omega, by omega⟩ hM (fun r1 σ2 br1 hM3 hE4o => ?_)
  have hE4 := hE.of hE4o (by decide) (by decide)
  refine ⟨fun c5 => ?_, fun c5 => ?_⟩
  · unfold b_X1wouldRing_16
    exact hq 0 σ2 ⟨by decide, by decide⟩ hM3 hE4
  · refine rg_X1isGate ⟨by omega, by omega⟩ hM3 (fun r6 σ7 br6 hM8 hE9o => ?_)
    have hE9 := hE4.of hE9o (by decide) (by decide)
    refine ⟨fun c10 => ?_, fun c10 => ?_⟩
    · have L_20_n11 : ∀ (n11 : Nat) (l1 : Int32) (l2 : Int32) (l3 : Int32) (σ : VS), 50 - l3.toInt < (n11 : Int) → 0 ≤ l1.toInt ∧ l1.toInt ≤ 49 → 0 ≤ l2.toInt ∧ l2.toInt ≤ 49 → 0 ≤ l3.toInt ∧ l3.toInt ≤ 50 → CI σ → Eo [] [21] σ0 σ → X20 l1 l2 l3 σ := by
        intro n11
        induction n11 with
        | zero => intro l1 l2 l3 σ hm h_l1 h_l2 h_l3 hM hE; exfalso; omega
        | succ n11 ih_n11 =>
          intro l1 l2 l3 σ hm h_l1 h_l2 h_l3 hM hE
          have hm2_20 : 50 - l3.toInt < (n11 : Int) + 1 := by omega
          refine H_20 l1 l2 l3 σ ?_
          unfold b_X1wouldRing_20
          have f12 : 0 ≤ (σ.1 2).toInt ∧ (σ.1 2).toInt ≤ 50 := hM.1 2
          refine ⟨fun c13 => ?_, fun c13 => ?_⟩
          · have L_52_n14 : ∀ (n14 : Nat) (l1 : Int32) (l3 : Int32) (σ : VS), 50 - l3.toInt < (n14 : Int) → 0 ≤ l1.toInt ∧ l1.toInt ≤ 49 → 0 ≤ l3.toInt ∧ l3.toInt ≤ 50 → CI σ → Eo [] [21] σ0 σ → X52 l1 l3 σ := by
              intro n14
              induction n14 with
              | zero => intro l1 l3 σ hm h_l1 h_l3 hM hE; exfalso; omega
              | succ n14 ih_n14 =>
                intro l1 l3 σ hm h_l1 h_l3 hM hE
                have hm2_52 : 50 - l3.toInt < (n14 : Int) + 1 := by omega
                refine H_52 l1 l3 σ ?_
                unfold b_X1wouldRing_52
                have f15 : 0 ≤ (σ.1 3).toInt ∧ (σ.1 3).toInt ≤ 50 := hM.1 3
                refine ⟨fun c16 => ?_, fun c16 => ?_⟩
                · refine ⟨⟨by omega, by omega⟩, ?_⟩
                  have a17 : 0 ≤ (rd σ 21 l1).toInt ∧ (rd σ 21 l1).toInt ≤ 1 := hM.2 21 _
                  refine ⟨⟨by omega, by omega⟩, ?_⟩
                  exact hq (rd σ 21 l1) σ ⟨by omega, by omega⟩ hM hE
                · refine ⟨⟨by omega, by omega⟩, ?_⟩
                  have a18 : 0 ≤ (rd σ 19 l3).toInt ∧ (rd σ 19 l3).toInt ≤ 49 := hM.2 19 _
                  intro x19 ex19
                  have ix19 : x19.toInt = (rd σ 19 l3).toInt := by rw [ex19]
                  generalize ey20 : (x19 * 4) = y20
                  replace ey20 := ey20.symm
                  have ty20 : y20.toInt = x19.toInt * 4 := i3_mulc rfl rfl ey20 (by omega)
                  clear ey20
                  intro x21 ex21
                  have ix21 : x21.toInt = y20.toInt := by rw [ex21]
                  have L_74_n22 : ∀ (n22 : Nat) (l1 : Int32) (l3 : Int32) (l4 : Int32) (l5 : Int32) (σ : VS), 200 - l5.toInt < (n22 : Int) → 0 ≤ l1.toInt ∧ l1.toInt ≤ 49 → 0 ≤ l3.toInt ∧ l3.toInt ≤ 49 → 0 ≤ l4.toInt ∧ l4.toInt ≤ 49 → 0 ≤ l5.toInt ∧ l5.toInt ≤ 200 → 50 - l3.toInt < (n14 : Int) + 1 → CI σ → Eo [] [21] σ0 σ → X74 l1 l3 l4 l5 σ := by
                    intro n22
                    induction n22 with
                    | zero => intro l1 l3 l4 l5 σ hm h_l1 h_l3 h_l4 h_l5 m_52 hM hE; exfalso; omega
                    | succ n22 ih_n22 =>
                      intro l1 l3 l4 l5 σ hm h_l1 h_l3 h_l4 h_l5 m_52 hM hE
                      have hm2_74 : 200 - l5.toInt < (n22 : Int) + 1 := by omega
                      refine H_74 l1 l3 l4 l5 σ ?_
                      unfold b_X1wouldRing_74
                      generalize ey23 : (l4 * 4) = y23
                      replace ey23 := ey23.symm
                      have ty23 : y23.toInt = l4.toInt * 4 := i3_mulc rfl rfl ey23 (by omega)
                      clear ey23
                      refine ⟨⟨by omega, by omega⟩, ?_⟩
                      have a24 : 0 ≤ (rd σ 12 l4).toInt ∧ (rd σ 12 l4).toInt ≤ 4 := hM.2 12 _
                      generalize ey25 : (y23 + (rd σ 12 l4)) = y25
                      replace ey25 := ey25.symm
                      have ty25 : y25.toInt = y23.toInt + (rd σ 12 l4).toInt := i3_addc rfl rfl ey25 (by omega)
                      clear ey25
                      refine ⟨fun c26 => ?_, fun c26 => ?_⟩
                      · generalize ey27 : (l3 + 1) = y27
                        replace ey27 := ey27.symm
                        have ty27 : y27.toInt = l3.toInt + 1 := i3_addc rfl rfl ey27 (by omega)
                        clear ey27
                        exact ih_n14 l1 y27 σ (by omega) (by first | omega | decide) (by first | omega | decide) hM hE
                      · refine ⟨⟨by omega, by omega⟩, ?_⟩
                        have a28 : (-5) ≤ (rd σ 16 l5).toInt ∧ (rd σ 16 l5).toInt ≤ 49 := hM.2 16 _
                        refine ⟨fun c29 => ?_, fun c29 => ?_⟩
                        · unfold b_X1wouldRing_124
                          generalize ey30 : (l5 + 1) = y30
                          replace ey30 := ey30.symm
                          have ty30 : y30.toInt = l5.toInt + 1 := i3_addc rfl rfl ey30 (by omega)
                          clear ey30
                          exact ih_n22 l1 l3 l4 y30 σ (by omega) (by first | omega | decide) (by first | omega | decide) (by first | omega | decide) (by first | omega | decide) (by first | omega | decide) hM hE
                        · refine ⟨⟨by omega, by omega⟩, ?_⟩
                          refine ⟨⟨by omega, by omega⟩, ?_⟩
                          have a31 : 0 ≤ (rd σ 21 (rd σ 16 l5)).toInt ∧ (rd σ 21 (rd σ 16 l5)).toInt ≤ 1 := hM.2 21 _
                          refine ⟨fun c32 => ?_, fun c32 => ?_⟩
                          · unfold b_X1wouldRing_124
                            generalize ey33 : (l5 + 1) = y33
                            replace ey33 := ey33.symm
                            have ty33 : y33.toInt = l5.toInt + 1 := i3_addc rfl rfl ey33 (by omega)
                            clear ey33
                            exact ih_n22 l1 l3 l4 y33 σ (by omega) (by first | omega | decide) (by first | omega | decide) (by first | omega | decide) (by first | omega | decide) (by first | omega | decide) hM hE
                          · refine ⟨⟨by omega, by omega⟩, ?_⟩
                            have hM34 := hM.sa 21 l4 1 (show 0 ≤ (1 : Int32).toInt ∧ (1 : Int32).toInt ≤ 1 by decide)
                            have hE35 := hE.sa 21 l4 1 (by decide)
                            have w36 : (rd (sa σ 21 l4 1) 21 l4).toInt = 1 := by rw [rd_sa]; rfl
                            unfold b_X1wouldRing_124
                            generalize ey37 : (l5 + 1) = y37
                            replace ey37 := ey37.symm
                            have ty37 : y37.toInt = l5.toInt + 1 := i3_addc rfl rfl ey37 (by omega)
                            clear ey37
                            exact ih_n22 l1 l3 l4 y37 (sa σ 21 l4 1) (by omega) (by first | omega | decide) (by first | omega | decide) (by first | omega | decide) (by first | omega | decide) (by first | omega | decide) hM34 hE35
                  exact L_74_n22 ((200 - x21.toInt).toNat + 1) l1 l3 x19 x21 σ (by omega) (by first | omega | decide) (by first | omega | decide) (by first | omega | decide) (by first | omega | decide) (by first | omega | decide) hM hE
            exact L_52_n14 ((50 - (0 : Int32).toInt).toNat + 1) l1 0 σ (by decide) (by first | omega | decide) (by first | omega | decide) hM hE
          · refine ⟨fun c38 => ?_, fun c38 => ?_⟩
            · suffices hs : ∀ (q39 : Int32), q39.toInt = 0 → b_X1wouldRing_43 X20 X52 X74 Q l1 l2 l3 q39 l3 σ from hs 0 rfl
              intro q39 hq39
              unfold b_X1wouldRing_43
              refine ⟨⟨by omega, by omega⟩, ?_⟩
              refine ⟨⟨by omega, by omega⟩, ?_⟩
              have hM40 := hM.sa 21 l3 q39 (show 0 ≤ q39.toInt ∧ q39.toInt ≤ 1 by omega)
              have hE41 := hE.sa 21 l3 q39 (by decide)
              have u42 : ((sa σ 21 l3 q39).1 2).toInt = (σ.1 2).toInt := rfl
              have w43 : (rd (sa σ 21 l3 q39) 21 l3).toInt = q39.toInt := by rw [rd_sa]
              generalize ey44 : (l3 + 1) = y44
              replace ey44 := ey44.symm
              have ty44 : y44.toInt = l3.toInt + 1 := i3_addc rfl rfl ey44 (by omega)
              clear ey44
              exact ih_n11 l1 l2 y44 (sa σ 21 l3 q39) (by omega) (by first | omega | decide) (by first | omega | decide) (by first | omega | decide) hM40 hE41
            · suffices hs : ∀ (q45 : Int32), q45.toInt = 1 → b_X1wouldRing_43 X20 X52 X74 Q l1 l2 l3 q45 l3 σ from hs 1 rfl
              intro q45 hq45
              unfold b_X1wouldRing_43
              refine ⟨⟨by omega, by omega⟩, ?_⟩
              refine ⟨⟨by omega, by omega⟩, ?_⟩
              have hM46 := hM.sa 21 l3 q45 (show 0 ≤ q45.toInt ∧ q45.toInt ≤ 1 by omega)
              have hE47 := hE.sa 21 l3 q45 (by decide)
              have u48 : ((sa σ 21 l3 q45).1 2).toInt = (σ.1 2).toInt := rfl
              have w49 : (rd (sa σ 21 l3 q45) 21 l3).toInt = q45.toInt := by rw [rd_sa]
              generalize ey50 : (l3 + 1) = y50
              replace ey50 := ey50.symm
              have ty50 : y50.toInt = l3.toInt + 1 := i3_addc rfl rfl ey50 (by omega)
              clear ey50
              exact ih_n11 l1 l2 y50 (sa σ 21 l3 q45) (by omega) (by first | omega | decide) (by first | omega | decide) (by first | omega | decide) hM46 hE47
      exact L_20_n11 ((50 - (0 : Int32).toInt).toNat + 1) p1 p2 0 σ7 (by decide) (by first | omega | decide) (by first | omega | decide) (by first | omega | decide) hM8 hE9
    · unfold b_X1wouldRing_16
      exact hq 0 σ7 ⟨by decide, by decide⟩ hM8 hE9
set_option maxHeartbeats 2000000 in
theorem rg_X3spreadBits {Q : VS → Prop} {σ : VS} (hM : CI σ) (hq : ∀ (σ' : VS), CI σ' → Eo [] [35] σ σ' → Q σ') : wp_X3spreadBits Q σ := by
  unfold wp_X3spreadBits
  intro X2 X17 H_2 H_17
  have hE : Eo [] [35] σ σ := Eo.rfl
  obtain ⟨σ0, h0⟩ : ∃ z : VS, z = σ := ⟨_, rfl⟩
  rw [← h0] at hq
  replace hE : Eo [] [35] σ0 σ := by rw [h0]; exact hE
  clear h0
  have L_2_n1 : ∀ (n1 : Nat) (l1 : Int32) (σ : VS), 50 - l1.toInt < (n1 : Int) → 0 ≤ l1.toInt ∧ l1.toInt ≤ 50 → CI σ → Eo [] [35] σ0 σ → X2 l1 σ := by
    intro n1
    induction n1 with
    | zero => intro l1 σ hm h_l1 hM hE; exfalso; omega
    | succ n1 ih_n1 =>
      intro l1 σ hm h_l1 hM hE
      have hm2_2 : 50 - l1.toInt < (n1 : Int) + 1 := by omega
      refine H_2 l1 σ ?_
      unfold b_X3spreadBits_2
      refine ⟨fun c2 => ?_, fun c2 => ?_⟩
      · exact hq σ hM hE
      · refine ⟨⟨by omega, by omega⟩, ?_⟩
        have hM3 := hM.sa 35 l1 0 (show 0 ≤ (0 : Int32).toInt ∧ (0 : Int32).toInt ≤ 15 by decide)
        have hE4 := hE.sa 35 l1 0 (by decide)
        have w5 : (rd (sa σ 35 l1 0) 35 l1).toInt = 0 := by rw [rd_sa]; rfl
        have L_17_n6 : ∀ (n6 : Nat) (l1 : Int32) (l2 : Int32) (σ : VS), 4 - l2.toInt < (n6 : Int) → 0 ≤ l1.toInt ∧ l1.toInt ≤ 49 → 0 ≤ l2.toInt ∧ l2.toInt ≤ 4 → 50 - l1.toInt < (n1 : Int) + 1 → CI σ → Eo [] [35] σ0 σ → X17 l1 l2 σ := by
          intro n6
          induction n6 with
          | zero => intro l1 l2 σ hm h_l1 h_l2 m_2 hM hE; exfalso; omega
          | succ n6 ih_n6 =>
            intro l1 l2 σ hm h_l1 h_l2 m_2 hM hE
            have hm2_17 : 4 - l2.toInt < (n6 : Int) + 1 := by omega
            refine H_17 l1 l2 σ ?_
            unfold b_X3spreadBits_17
            have f7 : 0 ≤ (σ.1 6).toInt ∧ (σ.1 6).toInt ≤ 4 := hM.1 6
            refine ⟨fun c8 => ?_, fun c8 => ?_⟩
            · generalize ey9 : (l1 + 1) = y9
              replace ey9 := ey9.symm
              have ty9 : y9.toInt = l1.toInt + 1 := i3_addc rfl rfl ey9 (by omega)
              clear ey9
              exact ih_n1 y9 σ (by omega) (by first | omega | decide) hM hE
            · refine ⟨⟨by omega, by omega⟩, ?_⟩
              have a10 : (-1) ≤ (rd σ 33 l2).toInt ∧ (rd σ 33 l2).toInt ≤ 49 := hM.2 33 _
              refine ⟨fun c11 => ?_, fun c11 => ?_⟩
              · unfold b_X3spreadBits_45
                refine ⟨⟨by omega, by omega⟩, ?_⟩
                have a12 : 0 ≤ (rd σ 35 l1).toInt ∧ (rd σ 35 l1).toInt ≤ 15 := hM.2 35 _
                generalize ey13 : (1 <<< (l2 &&& 31)) = y13
                replace ey13 := ey13.symm
                have ty13 := i3_shl3 ey13 (by omega)
                clear ey13
                generalize ey14 : ((rd σ 35 l1) ||| y13) = y14
                replace ey14 := ey14.symm
                have ty14 := i3_or15 ey14 (by omega) (by omega)
                clear ey14
                refine ⟨⟨by omega, by omega⟩, ?_⟩
                have hM15 := hM.sa 35 l1 y14 (show 0 ≤ y14.toInt ∧ y14.toInt ≤ 15 by omega)
                have hE16 := hE.sa 35 l1 y14 (by decide)
                have u17 : ((sa σ 35 l1 y14).1 6).toInt = (σ.1 6).toInt := rfl
                have w18 : (rd (sa σ 35 l1 y14) 35 l1).toInt = y14.toInt := by rw [rd_sa]
                unfold b_X3spreadBits_57
                generalize ey19 : (l2 + 1) = y19
                replace ey19 := ey19.symm
                have ty19 : y19.toInt = l2.toInt + 1 := i3_addc rfl rfl ey19 (by omega)
                clear ey19
                exact ih_n6 l1 y19 (sa σ 35 l1 y14) (by omega) (by first | omega | decide) (by first | omega | decide) (by first | omega | decide) hM15 hE16
              · refine ⟨⟨by omega, by omega⟩, ?_⟩
                refine ⟨fun c20 => ?_, fun c20 => ?_⟩
                · unfold b_X3spreadBits_57
                  generalize ey21 : (l2 + 1) = y21
                  replace ey21 := ey21.symm
                  have ty21 : y21.toInt = l2.toInt + 1 := i3_addc rfl rfl ey21 (by omega)
                  clear ey21
                  exact ih_n6 l1 y21 σ (by omega) (by first | omega | decide) (by first | omega | decide) (by first | omega | decide) hM hE
                · unfold b_X3spreadBits_45
                  refine ⟨⟨by omega, by omega⟩, ?_⟩
                  have a22 : 0 ≤ (rd σ 35 l1).toInt ∧ (rd σ 35 l1).toInt ≤ 15 := hM.2 35 _
                  generalize ey23 : (1 <<< (l2 &&& 31)) = y23
                  replace ey23 := ey23.symm
                  have ty23 := i3_shl3 ey23 (by omega)
                  clear ey23
                  generalize ey24 : ((rd σ 35 l1) ||| y23) = y24
                  replace ey24 := ey24.symm
                  have ty24 := i3_or15 ey24 (by omega) (by omega)
                  clear ey24
                  refine ⟨⟨by omega, by omega⟩, ?_⟩
                  have hM25 := hM.sa 35 l1 y24 (show 0 ≤ y24.toInt ∧ y24.toInt ≤ 15 by omega)
                  have hE26 := hE.sa 35 l1 y24 (by decide)
                  have u27 : ((sa σ 35 l1 y24).1 6).toInt = (σ.1 6).toInt := rfl
                  have w28 : (rd (sa σ 35 l1 y24) 35 l1).toInt = y24.toInt := by rw [rd_sa]
                  unfold b_X3spreadBits_57
                  generalize ey29 : (l2 + 1) = y29
                  replace ey29 := ey29.symm
                  have ty29 : y29.toInt = l2.toInt + 1 := i3_addc rfl rfl ey29 (by omega)
                  clear ey29
                  exact ih_n6 l1 y29 (sa σ 35 l1 y24) (by omega) (by first | omega | decide) (by first | omega | decide) (by first | omega | decide) hM25 hE26
        exact L_17_n6 ((4 - (0 : Int32).toInt).toNat + 1) l1 0 (sa σ 35 l1 0) (by decide) (by first | omega | decide) (by first | omega | decide) (by first | omega | decide) hM3 hE4
  exact L_2_n1 ((50 - (0 : Int32).toInt).toNat + 1) 0 σ (by decide) (by first | omega | decide) hM hE
set_option maxHeartbeats 2000000 in
theorem rg_X5has {Q : Int32 → VS → Prop} {p1 : Int32} {σ : VS} (hM : CI σ) (hq : ∀ (r : Int32) (σ' : VS), 0 ≤ r.toInt ∧ r.toInt ≤ 1 → (r.toInt ≠ 0 → 0 ≤ p1.toInt ∧ p1.toInt ≤ 7) → CI σ' → Eo [] [] σ σ' → Q r σ') : wp_X5has Q p1 σ := by
  unfold wp_X5has
  have hE : Eo [] [] σ σ := Eo.rfl
  refine ⟨fun c1 => ?_, fun c1 => ?_⟩
  · unfold b_X5has_14
    suffices hs : ∀ (q2 : Int32), q2.toInt = 0 → b_X5has_15 Q q2 σ from hs 0 rfl
    intro q2 hq2
    unfold b_X5has_15
    refine ⟨⟨by omega, by omega⟩, ?_⟩
    exact hq q2 σ ⟨by omega, by omega⟩ (by intro h9; omega) hM hE
  · refine ⟨fun c3 => ?_, fun c3 => ?_⟩
    · unfold b_X5has_14
      suffices hs : ∀ (q4 : Int32), q4.toInt = 0 → b_X5has_15 Q q4 σ from hs 0 rfl
      intro q4 hq4
      unfold b_X5has_15
      refine ⟨⟨by omega, by omega⟩, ?_⟩
      exact hq q4 σ ⟨by omega, by omega⟩ (by intro h9; omega) hM hE
    · suffices hs : ∀ (q5 : Int32), q5.toInt = 1 → b_X5has_15 Q q5 σ from hs 1 rfl
      intro q5 hq5
      unfold b_X5has_15
      refine ⟨⟨by omega, by omega⟩, ?_⟩
      exact hq q5 σ ⟨by omega, by omega⟩ (by intro h9; omega) hM hE
set_option maxHeartbeats 2000000 in
theorem rg_X5hasRow {Q : Int32 → VS → Prop} {p1 : Int32} {p2 : Int32} {p3 : Int32} {σ : VS} (hM : CI σ) (hq : ∀ (r : Int32) (σ' : VS), 0 ≤ r.toInt ∧ r.toInt ≤ 1 → (r.toInt ≠ 0 → 0 ≤ p1.toInt ∧ p1.toInt ≤ 7 ∧ 0 ≤ p2.toInt ∧ p2.toInt ≤ 1 ∧ 0 ≤ p3.toInt ∧ p3.toInt ≤ 3) → CI σ' → Eo [] [] σ σ' → Q r σ') : wp_X5hasRow Q p1 p2 p3 σ := by
  unfold wp_X5hasRow
  have hE : Eo [] [] σ σ := Eo.rfl
  have bd1 := i3_bd p1
  refine rg_X5has hM (fun r2 σ3 br2 ir2 hM4 hE5o => ?_)
  have hE5 := hE.of hE5o (by decide) (by decide)
  refine ⟨fun c6 => ?_, fun c6 => ?_⟩
  · unfold b_X5hasRow_29
    suffices hs : ∀ (q7 : Int32), q7.toInt = 0 → b_X5hasRow_30 Q q7 σ3 from hs 0 rfl
    intro q7 hq7
    unfold b_X5hasRow_30
    refine ⟨⟨by omega, by omega⟩, ?_⟩
    exact hq q7 σ3 ⟨by omega, by omega⟩ (by intro h9; omega) hM4 hE5
  · have fc6 := ir2 c6
    refine ⟨fun c8 => ?_, fun c8 => ?_⟩
    · unfold b_X5hasRow_29
      suffices hs : ∀ (q9 : Int32), q9.toInt = 0 → b_X5hasRow_30 Q q9 σ3 from hs 0 rfl
      intro q9 hq9
      unfold b_X5hasRow_30
      refine ⟨⟨by omega, by omega⟩, ?_⟩
      exact hq q9 σ3 ⟨by omega, by omega⟩ (by intro h9; omega) hM4 hE5
    · refine ⟨fun c10 => ?_, fun c10 => ?_⟩
      · unfold b_X5hasRow_29
        suffices hs : ∀ (q11 : Int32), q11.toInt = 0 → b_X5hasRow_30 Q q11 σ3 from hs 0 rfl
        intro q11 hq11
        unfold b_X5hasRow_30
        refine ⟨⟨by omega, by omega⟩, ?_⟩
        exact hq q11 σ3 ⟨by omega, by omega⟩ (by intro h9; omega) hM4 hE5
      · refine ⟨fun c12 => ?_, fun c12 => ?_⟩
        · unfold b_X5hasRow_29
          suffices hs : ∀ (q13 : Int32), q13.toInt = 0 → b_X5hasRow_30 Q q13 σ3 from hs 0 rfl
          intro q13 hq13
          unfold b_X5hasRow_30
          refine ⟨⟨by omega, by omega⟩, ?_⟩
          exact hq q13 σ3 ⟨by omega, by omega⟩ (by intro h9; omega) hM4 hE5
        · refine ⟨fun c14 => ?_, fun c14 => ?_⟩
          · unfold b_X5hasRow_29
            suffices hs : ∀ (q15 : Int32), q15.toInt = 0 → b_X5hasRow_30 Q q15 σ3 from hs 0 rfl
            intro q15 hq15
            unfold b_X5hasRow_30
            refine ⟨⟨by omega, by omega⟩, ?_⟩
            exact hq q15 σ3 ⟨by omega, by omega⟩ (by intro h9; omega) hM4 hE5
          · suffices hs : ∀ (q16 : Int32), q16.toInt = 1 → b_X5hasRow_30 Q q16 σ3 from hs 1 rfl
            intro q16 hq16
            unfold b_X5hasRow_30
            refine ⟨⟨by omega, by omega⟩, ?_⟩
            exact hq q16 σ3 ⟨by omega, by omega⟩ (by intro h9; omega) hM4 hE5
set_option maxHeartbeats 2000000 in
theorem rg_X5rowPlace {Q : Int32 → VS → Prop} {p1 : Int32} {p2 : Int32} {p3 : Int32} {σ : VS} (h_p1 : 0 ≤ p1.toInt ∧ p1.toInt ≤ 7) (h_p2 : 0 ≤ p2.toInt ∧ p2.toInt ≤ 1) (h_p3 : 0 ≤ p3.toInt ∧ p3.toInt ≤ 3) (hM : CI σ) (hq : ∀ (r : Int32) (σ' : VS), 0 ≤ r.toInt ∧ r.toInt ≤ 63 → CI σ' → Eo [] [] σ σ' → Q r σ') : wp_X5rowPlace Q p1 p2 p3 σ := by
  unfold wp_X5rowPlace
  have hE : Eo [] [] σ σ := Eo.rfl
  generalize ey1 : (p1 * 2) = y1
  replace ey1 := ey1.symm
  have ty1 : y1.toInt = p1.toInt * 2 := i3_mulc rfl rfl ey1 (by omega)
  clear ey1
  generalize ey2 : (y1 + p2) = y2
  replace ey2 := ey2.symm
  have ty2 : y2.toInt = y1.toInt + p2.toInt := i3_addc rfl rfl ey2 (by omega)
  clear ey2
  generalize ey3 : (y2 * 4) = y3
  replace ey3 := ey3.symm
  have ty3 : y3.toInt = y2.toInt * 4 := i3_mulc rfl rfl ey3 (by omega)
  clear ey3
  generalize ey4 : (y3 + p3) = y4
  replace ey4 := ey4.symm
  have ty4 : y4.toInt = y3.toInt + p3.toInt := i3_addc rfl rfl ey4 (by omega)
  clear ey4
  exact hq y4 σ ⟨by omega, by omega⟩ hM hE
set_option maxHeartbeats 2000000 in
theorem rg_X5whyAbsent {Q : Int32 → VS → Prop} {p1 : Int32} {p2 : Int32} {σ : VS} (h_p1 : 0 ≤ p1.toInt ∧ p1.toInt ≤ 63) (hM : CI σ) (hq : ∀ (r : Int32) (σ' : VS), (-12) ≤ r.toInt ∧ r.toInt ≤ 0 → CI σ' → Eo [] [] σ σ' → Q r σ') : wp_X5whyAbsent Q p1 p2 σ := by
  unfold wp_X5whyAbsent
  have hE : Eo [] [] σ σ := Eo.rfl
  refine ⟨⟨by omega, by omega⟩, ?_⟩
  have a1 : 0 ≤ (rd σ 37 p1).toInt ∧ (rd σ 37 p1).toInt ≤ 3 := hM.2 37 _
  refine ⟨fun c2 => ?_, fun c2 => ?_⟩
  · refine ⟨⟨by omega, by omega⟩, ?_⟩
    refine ⟨fun c3 => ?_, fun c3 => ?_⟩
    · suffices hs : ∀ (q4 : Int32), q4.toInt = (-12) → b_X5whyAbsent_28 Q q4 σ from hs (-12) rfl
      intro q4 hq4
      unfold b_X5whyAbsent_28
      exact hq q4 σ ⟨by omega, by omega⟩ hM hE
    · suffices hs : ∀ (q5 : Int32), q5.toInt = 0 → b_X5whyAbsent_28 Q q5 σ from hs 0 rfl
      intro q5 hq5
      unfold b_X5whyAbsent_28
      exact hq q5 σ ⟨by omega, by omega⟩ hM hE
  · exact hq (-11) σ ⟨by decide, by decide⟩ hM hE
set_option maxHeartbeats 2000000 in
theorem rg_X5cutRow {Q : Int32 → VS → Prop} {p1 : Int32} {p2 : Int32} {σ : VS} (h_p1 : 0 ≤ p1.toInt ∧ p1.toInt ≤ 63) (h_p2 : 0 ≤ p2.toInt ∧ p2.toInt ≤ 3) (hM : CI σ) (hq : ∀ (r : Int32) (σ' : VS), 0 ≤ r.toInt ∧ r.toInt ≤ 3 → CI σ' → Eo [] [36, 37] σ σ' → Q r σ') : wp_X5cutRow Q p1 p2 σ := by
  unfold wp_X5cutRow
  intro X10 H_10
  have hE : Eo [] [36, 37] σ σ := Eo.rfl
  obtain ⟨σ0, h0⟩ : ∃ z : VS, z = σ := ⟨_, rfl⟩
  rw [← h0] at hq
  replace hE : Eo [] [36, 37] σ0 σ := by rw [h0]; exact hE
  clear h0
  refine ⟨⟨by omega, by omega⟩, ?_⟩
  have a1 : 0 ≤ (rd σ 37 p1).toInt ∧ (rd σ 37 p1).toInt ≤ 3 := hM.2 37 _
  intro x2 ex2
  have ix2 : x2.toInt = (rd σ 37 p1).toInt := by rw [ex2]
  have L_10_n3 : ∀ (n3 : Nat) (l1 : Int32) (l2 : Int32) (l3 : Int32) (l4 : Int32) (σ : VS), 3 - l4.toInt < (n3 : Int) → 0 ≤ l1.toInt ∧ l1.toInt ≤ 63 → 0 ≤ l2.toInt ∧ l2.toInt ≤ 3 → 0 ≤ l3.toInt ∧ l3.toInt ≤ 3 → 0 ≤ l4.toInt ∧ l4.toInt ≤ 3 → CI σ → Eo [] [36, 37] σ0 σ → X10 l1 l2 l3 l4 σ := by
    intro n3
    induction n3 with
    | zero => intro l1 l2 l3 l4 σ hm h_l1 h_l2 h_l3 h_l4 hM hE; exfalso; omega
    | succ n3 ih_n3 =>
      intro l1 l2 l3 l4 σ hm h_l1 h_l2 h_l3 h_l4 hM hE
      have hm2_10 : 3 - l4.toInt < (n3 : Int) + 1 := by omega
      refine H_10 l1 l2 l3 l4 σ ?_
      unfold b_X5cutRow_10
      refine ⟨fun c4 => ?_, fun c4 => ?_⟩
      · refine ⟨⟨by omega, by omega⟩, ?_⟩
        have hM5 := hM.sa 37 l1 l2 (show 0 ≤ l2.toInt ∧ l2.toInt ≤ 3 by omega)
        have hE6 := hE.sa 37 l1 l2 (by decide)
        have w7 : (rd (sa σ 37 l1 l2) 37 l1).toInt = l2.toInt := by rw [rd_sa]
        exact hq l3 (sa σ 37 l1 l2) ⟨by omega, by omega⟩ hM5 hE6
      · generalize ey8 : (l1 * 3) = y8
        replace ey8 := ey8.symm
        have ty8 : y8.toInt = l1.toInt * 3 := i3_mulc rfl rfl ey8 (by omega)
        clear ey8
        generalize ey9 : (y8 + l4) = y9
        replace ey9 := ey9.symm
        have ty9 : y9.toInt = y8.toInt + l4.toInt := i3_addc rfl rfl ey9 (by omega)
        clear ey9
        refine ⟨⟨by omega, by omega⟩, ?_⟩
        have hM10 := hM.sa 36 y9 10 (show 0 ≤ (10 : Int32).toInt ∧ (10 : Int32).toInt ≤ 3000 by decide)
        have hE11 := hE.sa 36 y9 10 (by decide)
        have w12 : (rd (sa σ 36 y9 10) 36 y9).toInt = 10 := by rw [rd_sa]; rfl
        generalize ey13 : (l4 + 1) = y13
        replace ey13 := ey13.symm
        have ty13 : y13.toInt = l4.toInt + 1 := i3_addc rfl rfl ey13 (by omega)
        clear ey13
        exact ih_n3 l1 l2 l3 y13 (sa σ 36 y9 10) (by omega) (by first | omega | decide) (by first | omega | decide) (by first | omega | decide) (by first | omega | decide) hM10 hE11
  exact L_10_n3 ((3 - x2.toInt).toNat + 1) p1 p2 x2 x2 σ (by omega) (by first | omega | decide) (by first | omega | decide) (by first | omega | decide) (by first | omega | decide) hM hE
