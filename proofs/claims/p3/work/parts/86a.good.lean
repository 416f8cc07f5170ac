set_option maxHeartbeats 2000000 in
theorem rg_isGood {Q : Int32 → VS → Prop} {p1 : Int32} {p2 : Int32} {p3 : Int32} {p4 : Int32} {p5 : Int32} {σ : VS} (h_p1 : 0 ≤ p1.toInt ∧ p1.toInt ≤ 49) (h_p2 : 0 ≤ p2.toInt ∧ p2.toInt ≤ 49) (h_p3 : 0 ≤ p3.toInt ∧ p3.toInt ≤ 49) (h_p4 : 0 ≤ p4.toInt ∧ p4.toInt ≤ 1) (h_p5 : 0 ≤ p5.toInt ∧ p5.toInt ≤ 15) (hM : MI σ) (hq : ∀ (r : Int32) (σ' : VS), 0 ≤ r.toInt ∧ r.toInt ≤ 1 → MI σ' → Eo [] [] σ σ' → Q r σ') : wp_isGood Q p1 p2 p3 p4 p5 σ := by
  unfold wp_isGood
  intro X34 X100 H_34 H_100
  have hE : Eo [] [] σ σ := Eo.rfl
  obtain ⟨σ0, h0⟩ : ∃ z : VS, z = σ := ⟨_, rfl⟩
  rw [← h0] at hq
  replace hE : Eo [] [] σ0 σ := by rw [h0]; exact hE
  skip
  clear h0
  generalize ey1 : (4 * p2) = y1
  replace ey1 := ey1.symm
  have ty1 : y1.toInt = 4 * p2.toInt := i3_mulc rfl rfl ey1 (by omega)
  clear ey1
  refine ⟨⟨by omega, by omega⟩, ?_⟩
  have a2 : (-1) ≤ (rd σ 7 y1).toInt ∧ (rd σ 7 y1).toInt ≤ 49 := hM.2 7 _
  refine ⟨fun c3 => ?_, fun c3 => ?_⟩
  · unfold b_isGood_31
    have L_34_n4 : ∀ (n4 : Nat) (l3 : Int32) (l4 : Int32) (l5 : Int32) (l6 : Int32) (σ : VS), 50 - l6.toInt < (n4 : Int) → 0 ≤ l3.toInt ∧ l3.toInt ≤ 49 → 0 ≤ l4.toInt ∧ l4.toInt ≤ 1 → 0 ≤ l5.toInt ∧ l5.toInt ≤ 15 → 0 ≤ l6.toInt ∧ l6.toInt ≤ 50 → MI σ → Eo [] [] σ0 σ → X34 l3 l4 l5 l6 σ := by
      intro n4
      induction n4 with
      | zero => intro l3 l4 l5 l6 σ hm h_l3 h_l4 h_l5 h_l6 hM hE; exfalso; omega
      | succ n4 ih_n4 =>
        intro l3 l4 l5 l6 σ hm h_l3 h_l4 h_l5 h_l6 hM hE
        have hm2_34 : 50 - l6.toInt < (n4 : Int) + 1 := by omega
        refine H_34 l3 l4 l5 l6 σ ?_
        unfold b_isGood_34
        have f5 : 0 ≤ (σ.1 1).toInt ∧ (σ.1 1).toInt ≤ 50 := hM.1 1
        refine ⟨fun c6 => ?_, fun c6 => ?_⟩
        · exact hq 0 σ ⟨by decide, by decide⟩ hM hE
        · refine rg_isGate ⟨by omega, by omega⟩ hM (fun r7 σ8 br7 hM9 hE10o => ?_)
          have hE10 := hE.of hE10o (by decide) (by decide)
          have u11 : (σ8.1 1).toInt = (σ.1 1).toInt := by rw [hE10o.1 1 (by decide)]
          refine ⟨fun c12 => ?_, fun c12 => ?_⟩
          · unfold b_isGood_164
            generalize ey13 : (l6 + 1) = y13
            replace ey13 := ey13.symm
            have ty13 : y13.toInt = l6.toInt + 1 := i3_addc rfl rfl ey13 (by omega)
            clear ey13
            exact ih_n4 l3 l4 l5 y13 σ8 (by omega) (by first | omega | decide | (have e0 : (0 : Int32).toInt = 0 := rfl; omega)) (by first | omega | decide | (have e0 : (0 : Int32).toInt = 0 := rfl; omega)) (by first | omega | decide | (have e0 : (0 : Int32).toInt = 0 := rfl; omega)) (by first | omega | decide | (have e0 : (0 : Int32).toInt = 0 := rfl; omega)) hM9 hE10
          · refine ⟨⟨by omega, by omega⟩, ?_⟩
            have a14 : 0 ≤ (rd σ8 34 l6).toInt ∧ (rd σ8 34 l6).toInt ≤ 1 := hM9.2 34 _
            refine ⟨fun c15 => ?_, fun c15 => ?_⟩
            · unfold b_isGood_164
              generalize ey16 : (l6 + 1) = y16
              replace ey16 := ey16.symm
              have ty16 : y16.toInt = l6.toInt + 1 := i3_addc rfl rfl ey16 (by omega)
              clear ey16
              exact ih_n4 l3 l4 l5 y16 σ8 (by omega) (by first | omega | decide | (have e0 : (0 : Int32).toInt = 0 := rfl; omega)) (by first | omega | decide | (have e0 : (0 : Int32).toInt = 0 := rfl; omega)) (by first | omega | decide | (have e0 : (0 : Int32).toInt = 0 := rfl; omega)) (by first | omega | decide | (have e0 : (0 : Int32).toInt = 0 := rfl; omega)) hM9 hE10
            · refine ⟨⟨by omega, by omega⟩, ?_⟩
              refine ⟨fun c17 => ?_, fun c17 => ?_⟩
              · refine ⟨⟨by omega, by omega⟩, ?_⟩
                have a18 : 0 ≤ (rd σ8 2 l6).toInt ∧ (rd σ8 2 l6).toInt ≤ 5 := hM9.2 2 _
                refine ⟨fun c19 => ?_, fun c19 => ?_⟩
                · unfold b_isGood_95
                  have L_100_n20 : ∀ (n20 : Nat) (l3 : Int32) (l4 : Int32) (l5 : Int32) (l6 : Int32) (l7 : Int32) (l8 : Int32) (σ : VS), 4 - l8.toInt < (n20 : Int) → 0 ≤ l3.toInt ∧ l3.toInt ≤ 49 → 0 ≤ l4.toInt ∧ l4.toInt ≤ 1 → 0 ≤ l5.toInt ∧ l5.toInt ≤ 15 → 0 ≤ l6.toInt ∧ l6.toInt ≤ 49 → 0 ≤ l7.toInt ∧ l7.toInt ≤ 1 → 0 ≤ l8.toInt ∧ l8.toInt ≤ 4 → 50 - l6.toInt < (n4 : Int) + 1 → MI σ → Eo [] [] σ0 σ → X100 l3 l4 l5 l6 l7 l8 σ := by
                    intro n20
                    induction n20 with
                    | zero => intro l3 l4 l5 l6 l7 l8 σ hm h_l3 h_l4 h_l5 h_l6 h_l7 h_l8 m_34 hM hE; exfalso; omega
                    | succ n20 ih_n20 =>
                      intro l3 l4 l5 l6 l7 l8 σ hm h_l3 h_l4 h_l5 h_l6 h_l7 h_l8 m_34 hM hE
                      have hm2_100 : 4 - l8.toInt < (n20 : Int) + 1 := by omega
                      refine H_100 l3 l4 l5 l6 l7 l8 σ ?_
                      unfold b_isGood_100
                      refine ⟨⟨by omega, by omega⟩, ?_⟩
                      have a21 : 0 ≤ (rd σ 3 l6).toInt ∧ (rd σ 3 l6).toInt ≤ 4 := hM.2 3 _
                      refine ⟨fun c22 => ?_, fun c22 => ?_⟩
                      · unfold b_isGood_164
                        generalize ey23 : (l6 + 1) = y23
                        replace ey23 := ey23.symm
                        have ty23 : y23.toInt = l6.toInt + 1 := i3_addc rfl rfl ey23 (by omega)
                        clear ey23
                        exact ih_n4 l3 l4 l5 y23 σ (by omega) (by first | omega | decide | (have e0 : (0 : Int32).toInt = 0 := rfl; omega)) (by first | omega | decide | (have e0 : (0 : Int32).toInt = 0 := rfl; omega)) (by first | omega | decide | (have e0 : (0 : Int32).toInt = 0 := rfl; omega)) (by first | omega | decide | (have e0 : (0 : Int32).toInt = 0 := rfl; omega)) hM hE
                      · generalize ey24 : (4 * l6) = y24
                        replace ey24 := ey24.symm
                        have ty24 : y24.toInt = 4 * l6.toInt := i3_mulc rfl rfl ey24 (by omega)
                        clear ey24
                        generalize ey25 : (y24 + l8) = y25
                        replace ey25 := ey25.symm
                        have ty25 : y25.toInt = y24.toInt + l8.toInt := i3_addc rfl rfl ey25 (by omega)
                        clear ey25
                        refine ⟨⟨by omega, by omega⟩, ?_⟩
                        have a26 : (-1) ≤ (rd σ 7 y25).toInt ∧ (rd σ 7 y25).toInt ≤ 49 := hM.2 7 _
                        refine ⟨fun c27 => ?_, fun c27 => ?_⟩
                        · unfold b_isGood_158
                          generalize ey28 : (l8 + 1) = y28
                          replace ey28 := ey28.symm
                          have ty28 : y28.toInt = l8.toInt + 1 := i3_addc rfl rfl ey28 (by omega)
                          clear ey28
                          exact ih_n20 l3 l4 l5 l6 l7 y28 σ (by omega) (by first | omega | decide | (have e0 : (0 : Int32).toInt = 0 := rfl; omega)) (by first | omega | decide | (have e0 : (0 : Int32).toInt = 0 := rfl; omega)) (by first | omega | decide | (have e0 : (0 : Int32).toInt = 0 := rfl; omega)) (by first | omega | decide | (have e0 : (0 : Int32).toInt = 0 := rfl; omega)) (by first | omega | decide | (have e0 : (0 : Int32).toInt = 0 := rfl; omega)) (by first | omega | decide | (have e0 : (0 : Int32).toInt = 0 := rfl; omega)) (by first | omega | decide | (have e0 : (0 : Int32).toInt = 0 := rfl; omega)) hM hE
                        · generalize ey29 : (2 * l6) = y29
                          replace ey29 := ey29.symm
                          have ty29 : y29.toInt = 2 * l6.toInt := i3_mulc rfl rfl ey29 (by omega)
                          clear ey29
                          generalize ey30 : (y29 + l7) = y30
                          replace ey30 := ey30.symm
                          have ty30 : y30.toInt = y29.toInt + l7.toInt := i3_addc rfl rfl ey30 (by omega)
                          clear ey30
                          generalize ey31 : (16 * y30) = y31
                          replace ey31 := ey31.symm
                          have ty31 : y31.toInt = 16 * y30.toInt := i3_mulc rfl rfl ey31 (by omega)
                          clear ey31
                          refine rg_metBy hM (fun r32 σ33 br32 hM34 hE35o => ?_)
                          have hE35 := hE.of hE35o (by decide) (by decide)
                          have u36 : (rd σ33 3 l6).toInt = (rd σ 3 l6).toInt := by unfold rd; rw [hE35o.2 3 (by decide)]
                          have u37 : (rd σ33 7 y25).toInt = (rd σ 7 y25).toInt := by unfold rd; rw [hE35o.2 7 (by decide)]
                          generalize ey38 : (l5 ||| r32) = y38
                          replace ey38 := ey38.symm
                          have ty38 := i3_or15 ey38 (by omega) (by omega)
                          clear ey38
                          generalize ey39 : (y31 + y38) = y39
                          replace ey39 := ey39.symm
                          have ty39 : y39.toInt = y31.toInt + y38.toInt := i3_addc rfl rfl ey39 (by omega)
                          clear ey39
                          refine ⟨⟨by omega, by omega⟩, ?_⟩
                          have a40 : 0 ≤ (rd σ33 56 y39).toInt ∧ (rd σ33 56 y39).toInt ≤ 1 := hM34.2 56 _
                          refine ⟨fun c41 => ?_, fun c41 => ?_⟩
                          · unfold b_isGood_158
                            generalize ey42 : (l8 + 1) = y42
                            replace ey42 := ey42.symm
                            have ty42 : y42.toInt = l8.toInt + 1 := i3_addc rfl rfl ey42 (by omega)
                            clear ey42
                            exact ih_n20 l3 l4 l5 l6 l7 y42 σ33 (by omega) (by first | omega | decide | (have e0 : (0 : Int32).toInt = 0 := rfl; omega)) (by first | omega | decide | (have e0 : (0 : Int32).toInt = 0 := rfl; omega)) (by first | omega | decide | (have e0 : (0 : Int32).toInt = 0 := rfl; omega)) (by first | omega | decide | (have e0 : (0 : Int32).toInt = 0 := rfl; omega)) (by first | omega | decide | (have e0 : (0 : Int32).toInt = 0 := rfl; omega)) (by first | omega | decide | (have e0 : (0 : Int32).toInt = 0 := rfl; omega)) (by first | omega | decide | (have e0 : (0 : Int32).toInt = 0 := rfl; omega)) hM34 hE35
                          · exact hq 1 σ33 ⟨by decide, by decide⟩ hM34 hE35
                  exact L_100_n20 ((4 - (0 : Int32).toInt).toNat + 1) l3 l4 l5 l6 l4 0 σ8 (by decide) (by first | omega | decide | (have e0 : (0 : Int32).toInt = 0 := rfl; omega)) (by first | omega | decide | (have e0 : (0 : Int32).toInt = 0 := rfl; omega)) (by first | omega | decide | (have e0 : (0 : Int32).toInt = 0 := rfl; omega)) (by first | omega | decide | (have e0 : (0 : Int32).toInt = 0 := rfl; omega)) (by first | omega | decide | (have e0 : (0 : Int32).toInt = 0 := rfl; omega)) (by first | omega | decide | (have e0 : (0 : Int32).toInt = 0 := rfl; omega)) (by first | omega | decide | (have e0 : (0 : Int32).toInt = 0 := rfl; omega)) hM9 hE10
                · generalize ey43 : (1 - l4) = y43
                  replace ey43 := ey43.symm
                  have ty43 : y43.toInt = 1 - l4.toInt := i3_subc rfl rfl ey43 (by omega)
                  clear ey43
                  unfold b_isGood_95
                  have L_100_n44 : ∀ (n44 : Nat) (l3 : Int32) (l4 : Int32) (l5 : Int32) (l6 : Int32) (l7 : Int32) (l8 : Int32) (σ : VS), 4 - l8.toInt < (n44 : Int) → 0 ≤ l3.toInt ∧ l3.toInt ≤ 49 → 0 ≤ l4.toInt ∧ l4.toInt ≤ 1 → 0 ≤ l5.toInt ∧ l5.toInt ≤ 15 → 0 ≤ l6.toInt ∧ l6.toInt ≤ 49 → 0 ≤ l7.toInt ∧ l7.toInt ≤ 1 → 0 ≤ l8.toInt ∧ l8.toInt ≤ 4 → 50 - l6.toInt < (n4 : Int) + 1 → MI σ → Eo [] [] σ0 σ → X100 l3 l4 l5 l6 l7 l8 σ := by
                    intro n44
                    induction n44 with
                    | zero => intro l3 l4 l5 l6 l7 l8 σ hm h_l3 h_l4 h_l5 h_l6 h_l7 h_l8 m_34 hM hE; exfalso; omega
                    | succ n44 ih_n44 =>
                      intro l3 l4 l5 l6 l7 l8 σ hm h_l3 h_l4 h_l5 h_l6 h_l7 h_l8 m_34 hM hE
                      have hm2_100 : 4 - l8.toInt < (n44 : Int) + 1 := by omega
                      refine H_100 l3 l4 l5 l6 l7 l8 σ ?_
                      unfold b_isGood_100
                      refine ⟨⟨by omega, by omega⟩, ?_⟩
                      have a45 : 0 ≤ (rd σ 3 l6).toInt ∧ (rd σ 3 l6).toInt ≤ 4 := hM.2 3 _
                      refine ⟨fun c46 => ?_, fun c46 => ?_⟩
                      · unfold b_isGood_164
                        generalize ey47 : (l6 + 1) = y47
                        replace ey47 := ey47.symm
                        have ty47 : y47.toInt = l6.toInt + 1 := i3_addc rfl rfl ey47 (by omega)
                        clear ey47
                        exact ih_n4 l3 l4 l5 y47 σ (by omega) (by first | omega | decide | (have e0 : (0 : Int32).toInt = 0 := rfl; omega)) (by first | omega | decide | (have e0 : (0 : Int32).toInt = 0 := rfl; omega)) (by first | omega | decide | (have e0 : (0 : Int32).toInt = 0 := rfl; omega)) (by first | omega | decide | (have e0 : (0 : Int32).toInt = 0 := rfl; omega)) hM hE
                      · generalize ey48 : (4 * l6) = y48
                        replace ey48 := ey48.symm
                        have ty48 : y48.toInt = 4 * l6.toInt := i3_mulc rfl rfl ey48 (by omega)
                        clear ey48
                        generalize ey49 : (y48 + l8) = y49
                        replace ey49 := ey49.symm
                        have ty49 : y49.toInt = y48.toInt + l8.toInt := i3_addc rfl rfl ey49 (by omega)
                        clear ey49
                        refine ⟨⟨by omega, by omega⟩, ?_⟩
                        have a50 : (-1) ≤ (rd σ 7 y49).toInt ∧ (rd σ 7 y49).toInt ≤ 49 := hM.2 7 _
                        refine ⟨fun c51 => ?_, fun c51 => ?_⟩
                        · unfold b_isGood_158
                          generalize ey52 : (l8 + 1) = y52
                          replace ey52 := ey52.symm
                          have ty52 : y52.toInt = l8.toInt + 1 := i3_addc rfl rfl ey52 (by omega)
                          clear ey52
                          exact ih_n44 l3 l4 l5 l6 l7 y52 σ (by omega) (by first | omega | decide | (have e0 : (0 : Int32).toInt = 0 := rfl; omega)) (by first | omega | decide | (have e0 : (0 : Int32).toInt = 0 := rfl; omega)) (by first | omega | decide | (have e0 : (0 : Int32).toInt = 0 := rfl; omega)) (by first | omega | decide | (have e0 : (0 : Int32).toInt = 0 := rfl; omega)) (by first | omega | decide | (have e0 : (0 : Int32).toInt = 0 := rfl; omega)) (by first | omega | decide | (have e0 : (0 : Int32).toInt = 0 := rfl; omega)) (by first | omega | decide | (have e0 : (0 : Int32).toInt = 0 := rfl; omega)) hM hE
                        · generalize ey53 : (2 * l6) = y53
                          replace ey53 := ey53.symm
                          have ty53 : y53.toInt = 2 * l6.toInt := i3_mulc rfl rfl ey53 (by omega)
                          clear ey53
                          generalize ey54 : (y53 + l7) = y54
                          replace ey54 := ey54.symm
                          have ty54 : y54.toInt = y53.toInt + l7.toInt := i3_addc rfl rfl ey54 (by omega)
                          clear ey54
                          generalize ey55 : (16 * y54) = y55
                          replace ey55 := ey55.symm
                          have ty55 : y55.toInt = 16 * y54.toInt := i3_mulc rfl rfl ey55 (by omega)
                          clear ey55
                          refine rg_metBy hM (fun r56 σ57 br56 hM58 hE59o => ?_)
                          have hE59 := hE.of hE59o (by decide) (by decide)
                          have u60 : (rd σ57 3 l6).toInt = (rd σ 3 l6).toInt := by unfold rd; rw [hE59o.2 3 (by decide)]
                          have u61 : (rd σ57 7 y49).toInt = (rd σ 7 y49).toInt := by unfold rd; rw [hE59o.2 7 (by decide)]
                          generalize ey62 : (l5 ||| r56) = y62
                          replace ey62 := ey62.symm
                          have ty62 := i3_or15 ey62 (by omega) (by omega)
                          clear ey62
                          generalize ey63 : (y55 + y62) = y63
                          replace ey63 := ey63.symm
                          have ty63 : y63.toInt = y55.toInt + y62.toInt := i3_addc rfl rfl ey63 (by omega)
                          clear ey63
                          refine ⟨⟨by omega, by omega⟩, ?_⟩
                          have a64 : 0 ≤ (rd σ57 56 y63).toInt ∧ (rd σ57 56 y63).toInt ≤ 1 := hM58.2 56 _
                          refine ⟨fun c65 => ?_, fun c65 => ?_⟩
                          · unfold b_isGood_158
                            generalize ey66 : (l8 + 1) = y66
                            replace ey66 := ey66.symm
                            have ty66 : y66.toInt = l8.toInt + 1 := i3_addc rfl rfl ey66 (by omega)
                            clear ey66
                            exact ih_n44 l3 l4 l5 l6 l7 y66 σ57 (by omega) (by first | omega | decide | (have e0 : (0 : Int32).toInt = 0 := rfl; omega)) (by first | omega | decide | (have e0 : (0 : Int32).toInt = 0 := rfl; omega)) (by first | omega | decide | (have e0 : (0 : Int32).toInt = 0 := rfl; omega)) (by first | omega | decide | (have e0 : (0 : Int32).toInt = 0 := rfl; omega)) (by first | omega | decide | (have e0 : (0 : Int32).toInt = 0 := rfl; omega)) (by first | omega | decide | (have e0 : (0 : Int32).toInt = 0 := rfl; omega)) (by first | omega | decide | (have e0 : (0 : Int32).toInt = 0 := rfl; omega)) hM58 hE59
                          · exact hq 1 σ57 ⟨by decide, by decide⟩ hM58 hE59
                  exact L_100_n44 ((4 - (0 : Int32).toInt).toNat + 1) l3 l4 l5 l6 y43 0 σ8 (by decide) (by first | omega | decide | (have e0 : (0 : Int32).toInt = 0 := rfl; omega)) (by first | omega | decide | (have e0 : (0 : Int32).toInt = 0 := rfl; omega)) (by first | omega | decide | (have e0 : (0 : Int32).toInt = 0 := rfl; omega)) (by first | omega | decide | (have e0 : (0 : Int32).toInt = 0 := rfl; omega)) (by first | omega | decide | (have e0 : (0 : Int32).toInt = 0 := rfl; omega)) (by first | omega | decide | (have e0 : (0 : Int32).toInt = 0 := rfl; omega)) (by first | omega | decide | (have e0 : (0 : Int32).toInt = 0 := rfl; omega)) hM9 hE10
              · unfold b_isGood_164
                generalize ey67 : (l6 + 1) = y67
                replace ey67 := ey67.symm
                have ty67 : y67.toInt = l6.toInt + 1 := i3_addc rfl rfl ey67 (by omega)
                clear ey67
                exact ih_n4 l3 l4 l5 y67 σ8 (by omega) (by first | omega | decide | (have e0 : (0 : Int32).toInt = 0 := rfl; omega)) (by first | omega | decide | (have e0 : (0 : Int32).toInt = 0 := rfl; omega)) (by first | omega | decide | (have e0 : (0 : Int32).toInt = 0 := rfl; omega)) (by first | omega | decide | (have e0 : (0 : Int32).toInt = 0 := rfl; omega)) hM9 hE10
    exact L_34_n4 ((50 - (0 : Int32).toInt).toNat + 1) p3 p4 p5 0 σ (by decide) (by first | omega | decide | (have e0 : (0 : Int32).toInt = 0 := rfl; omega)) (by first | omega | decide | (have e0 : (0 : Int32).toInt = 0 := rfl; omega)) (by first | omega | decide | (have e0 : (0 : Int32).toInt = 0 := rfl; omega)) (by first | omega | decide | (have e0 : (0 : Int32).toInt = 0 := rfl; omega)) hM hE
  · refine rg_metBy hM (fun r68 σ69 br68 hM70 hE71o => ?_)
    have hE71 := hE.of hE71o (by decide) (by decide)
    have u72 : (rd σ69 7 y1).toInt = (rd σ 7 y1).toInt := by unfold rd; rw [hE71o.2 7 (by decide)]
    generalize ey73 : (p5 ||| r68) = y73
    replace ey73 := ey73.symm
    have ty73 := i3_or15 ey73 (by omega) (by omega)
    clear ey73
    refine rg_periodsOf hM70 (fun r74 σ75 br74 hM76 hE77o => ?_)
    have hE77 := hE71.of hE77o (by decide) (by decide)
    have u78 : (rd σ75 7 y1).toInt = (rd σ69 7 y1).toInt := by unfold rd; rw [hE77o.2 7 (by decide)]
    refine ⟨fun c79 => ?_, fun c79 => ?_⟩
    · unfold b_isGood_31
      have L_34_n80 : ∀ (n80 : Nat) (l3 : Int32) (l4 : Int32) (l5 : Int32) (l6 : Int32) (σ : VS), 50 - l6.toInt < (n80 : Int) → 0 ≤ l3.toInt ∧ l3.toInt ≤ 49 → 0 ≤ l4.toInt ∧ l4.toInt ≤ 1 → 0 ≤ l5.toInt ∧ l5.toInt ≤ 15 → 0 ≤ l6.toInt ∧ l6.toInt ≤ 50 → MI σ → Eo [] [] σ0 σ → X34 l3 l4 l5 l6 σ := by
        intro n80
        induction n80 with
        | zero => intro l3 l4 l5 l6 σ hm h_l3 h_l4 h_l5 h_l6 hM hE; exfalso; omega
        | succ n80 ih_n80 =>
          intro l3 l4 l5 l6 σ hm h_l3 h_l4 h_l5 h_l6 hM hE
          have hm2_34 : 50 - l6.toInt < (n80 : Int) + 1 := by omega
          refine H_34 l3 l4 l5 l6 σ ?_
          unfold b_isGood_34
          have f81 : 0 ≤ (σ.1 1).toInt ∧ (σ.1 1).toInt ≤ 50 := hM.1 1
          refine ⟨fun c82 => ?_, fun c82 => ?_⟩
          · exact hq 0 σ ⟨by decide, by decide⟩ hM hE
          · refine rg_isGate ⟨by omega, by omega⟩ hM (fun r83 σ84 br83 hM85 hE86o => ?_)
            have hE86 := hE.of hE86o (by decide) (by decide)
            have u87 : (σ84.1 1).toInt = (σ.1 1).toInt := by rw [hE86o.1 1 (by decide)]
            refine ⟨fun c88 => ?_, fun c88 => ?_⟩
            · unfold b_isGood_164
              generalize ey89 : (l6 + 1) = y89
              replace ey89 := ey89.symm
              have ty89 : y89.toInt = l6.toInt + 1 := i3_addc rfl rfl ey89 (by omega)
              clear ey89
              exact ih_n80 l3 l4 l5 y89 σ84 (by omega) (by first | omega | decide | (have e0 : (0 : Int32).toInt = 0 := rfl; omega)) (by first | omega | decide | (have e0 : (0 : Int32).toInt = 0 := rfl; omega)) (by first | omega | decide | (have e0 : (0 : Int32).toInt = 0 := rfl; omega)) (by first | omega | decide | (have e0 : (0 : Int32).toInt = 0 := rfl; omega)) hM85 hE86
            · refine ⟨⟨by omega, by omega⟩, ?_⟩
              have a90 : 0 ≤ (rd σ84 34 l6).toInt ∧ (rd σ84 34 l6).toInt ≤ 1 := hM85.2 34 _
              refine ⟨fun c91 => ?_, fun c91 => ?_⟩
              · unfold b_isGood_164
                generalize ey92 : (l6 + 1) = y92
                replace ey92 := ey92.symm
                have ty92 : y92.toInt = l6.toInt + 1 := i3_addc rfl rfl ey92 (by omega)
                clear ey92
                exact ih_n80 l3 l4 l5 y92 σ84 (by omega) (by first | omega | decide | (have e0 : (0 : Int32).toInt = 0 := rfl; omega)) (by first | omega | decide | (have e0 : (0 : Int32).toInt = 0 := rfl; omega)) (by first | omega | decide | (have e0 : (0 : Int32).toInt = 0 := rfl; omega)) (by first | omega | decide | (have e0 : (0 : Int32).toInt = 0 := rfl; omega)) hM85 hE86
              · refine ⟨⟨by omega, by omega⟩, ?_⟩
                refine ⟨fun c93 => ?_, fun c93 => ?_⟩
                · refine ⟨⟨by omega, by omega⟩, ?_⟩
                  have a94 : 0 ≤ (rd σ84 2 l6).toInt ∧ (rd σ84 2 l6).toInt ≤ 5 := hM85.2 2 _
                  refine ⟨fun c95 => ?_, fun c95 => ?_⟩
                  · unfold b_isGood_95
                    have L_100_n96 : ∀ (n96 : Nat) (l3 : Int32) (l4 : Int32) (l5 : Int32) (l6 : Int32) (l7 : Int32) (l8 : Int32) (σ : VS), 4 - l8.toInt < (n96 : Int) → 0 ≤ l3.toInt ∧ l3.toInt ≤ 49 → 0 ≤ l4.toInt ∧ l4.toInt ≤ 1 → 0 ≤ l5.toInt ∧ l5.toInt ≤ 15 → 0 ≤ l6.toInt ∧ l6.toInt ≤ 49 → 0 ≤ l7.toInt ∧ l7.toInt ≤ 1 → 0 ≤ l8.toInt ∧ l8.toInt ≤ 4 → 50 - l6.toInt < (n80 : Int) + 1 → MI σ → Eo [] [] σ0 σ → X100 l3 l4 l5 l6 l7 l8 σ := by
                      intro n96
                      induction n96 with
                      | zero => intro l3 l4 l5 l6 l7 l8 σ hm h_l3 h_l4 h_l5 h_l6 h_l7 h_l8 m_34 hM hE; exfalso; omega
                      | succ n96 ih_n96 =>
                        intro l3 l4 l5 l6 l7 l8 σ hm h_l3 h_l4 h_l5 h_l6 h_l7 h_l8 m_34 hM hE
                        have hm2_100 : 4 - l8.toInt < (n96 : Int) + 1 := by omega
                        refine H_100 l3 l4 l5 l6 l7 l8 σ ?_
                        unfold b_isGood_100
                        refine ⟨⟨by omega, by omega⟩, ?_⟩
                        have a97 : 0 ≤ (rd σ 3 l6).toInt ∧ (rd σ 3 l6).toInt ≤ 4 := hM.2 3 _
                        refine ⟨fun c98 => ?_, fun c98 => ?_⟩
                        · unfold b_isGood_164
                          generalize ey99 : (l6 + 1) = y99
                          replace ey99 := ey99.symm
                          have ty99 : y99.toInt = l6.toInt + 1 := i3_addc rfl rfl ey99 (by omega)
                          clear ey99
                          exact ih_n80 l3 l4 l5 y99 σ (by omega) (by first | omega | decide | (have e0 : (0 : Int32).toInt = 0 := rfl; omega)) (by first | omega | decide | (have e0 : (0 : Int32).toInt = 0 := rfl; omega)) (by first | omega | decide | (have e0 : (0 : Int32).toInt = 0 := rfl; omega)) (by first | omega | decide | (have e0 : (0 : Int32).toInt = 0 := rfl; omega)) hM hE
                        · generalize ey100 : (4 * l6) = y100
                          replace ey100 := ey100.symm
                          have ty100 : y100.toInt = 4 * l6.toInt := i3_mulc rfl rfl ey100 (by omega)
                          clear ey100
                          generalize ey101 : (y100 + l8) = y101
                          replace ey101 := ey101.symm
                          have ty101 : y101.toInt = y100.toInt + l8.toInt := i3_addc rfl rfl ey101 (by omega)
                          clear ey101
                          refine ⟨⟨by omega, by omega⟩, ?_⟩
                          have a102 : (-1) ≤ (rd σ 7 y101).toInt ∧ (rd σ 7 y101).toInt ≤ 49 := hM.2 7 _
                          refine ⟨fun c103 => ?_, fun c103 => ?_⟩
                          · unfold b_isGood_158
                            generalize ey104 : (l8 + 1) = y104
                            replace ey104 := ey104.symm
                            have ty104 : y104.toInt = l8.toInt + 1 := i3_addc rfl rfl ey104 (by omega)
                            clear ey104
                            exact ih_n96 l3 l4 l5 l6 l7 y104 σ (by omega) (by first | omega | decide | (have e0 : (0 : Int32).toInt = 0 := rfl; omega)) (by first | omega | decide | (have e0 : (0 : Int32).toInt = 0 := rfl; omega)) (by first | omega | decide | (have e0 : (0 : Int32).toInt = 0 := rfl; omega)) (by first | omega | decide | (have e0 : (0 : Int32).toInt = 0 := rfl; omega)) (by first | omega | decide | (have e0 : (0 : Int32).toInt = 0 := rfl; omega)) (by first | omega | decide | (have e0 : (0 : Int32).toInt = 0 := rfl; omega)) (by first | omega | decide | (have e0 : (0 : Int32).toInt = 0 := rfl; omega)) hM hE
                          · generalize ey105 : (2 * l6) = y105
                            replace ey105 := ey105.symm
                            have ty105 : y105.toInt = 2 * l6.toInt := i3_mulc rfl rfl ey105 (by omega)
                            clear ey105
                            generalize ey106 : (y105 + l7) = y106
                            replace ey106 := ey106.symm
                            have ty106 : y106.toInt = y105.toInt + l7.toInt := i3_addc rfl rfl ey106 (by omega)
                            clear ey106
                            generalize ey107 : (16 * y106) = y107
                            replace ey107 := ey107.symm
                            have ty107 : y107.toInt = 16 * y106.toInt := i3_mulc rfl rfl ey107 (by omega)
                            clear ey107
                            refine rg_metBy hM (fun r108 σ109 br108 hM110 hE111o => ?_)
                            have hE111 := hE.of hE111o (by decide) (by decide)
                            have u112 : (rd σ109 3 l6).toInt = (rd σ 3 l6).toInt := by unfold rd; rw [hE111o.2 3 (by decide)]
                            have u113 : (rd σ109 7 y101).toInt = (rd σ 7 y101).toInt := by unfold rd; rw [hE111o.2 7 (by decide)]
                            generalize ey114 : (l5 ||| r108) = y114
                            replace ey114 := ey114.symm
                            have ty114 := i3_or15 ey114 (by omega) (by omega)
                            clear ey114
                            generalize ey115 : (y107 + y114) = y115
                            replace ey115 := ey115.symm
                            have ty115 : y115.toInt = y107.toInt + y114.toInt := i3_addc rfl rfl ey115 (by omega)
                            clear ey115
                            refine ⟨⟨by omega, by omega⟩, ?_⟩
                            have a116 : 0 ≤ (rd σ109 56 y115).toInt ∧ (rd σ109 56 y115).toInt ≤ 1 := hM110.2 56 _
                            refine ⟨fun c117 => ?_, fun c117 => ?_⟩
                            · unfold b_isGood_158
                              generalize ey118 : (l8 + 1) = y118
                              replace ey118 := ey118.symm
                              have ty118 : y118.toInt = l8.toInt + 1 := i3_addc rfl rfl ey118 (by omega)
                              clear ey118
                              exact ih_n96 l3 l4 l5 l6 l7 y118 σ109 (by omega) (by first | omega | decide | (have e0 : (0 : Int32).toInt = 0 := rfl; omega)) (by first | omega | decide | (have e0 : (0 : Int32).toInt = 0 := rfl; omega)) (by first | omega | decide | (have e0 : (0 : Int32).toInt = 0 := rfl; omega)) (by first | omega | decide | (have e0 : (0 : Int32).toInt = 0 := rfl; omega)) (by first | omega | decide | (have e0 : (0 : Int32).toInt = 0 := rfl; omega)) (by first | omega | decide | (have e0 : (0 : Int32).toInt = 0 := rfl; omega)) (by first | omega | decide | (have e0 : (0 : Int32).toInt = 0 := rfl; omega)) hM110 hE111
                            · exact hq 1 σ109 ⟨by decide, by decide⟩ hM110 hE111
                    exact L_100_n96 ((4 - (0 : Int32).toInt).toNat + 1) l3 l4 l5 l6 l4 0 σ84 (by decide) (by first | omega | decide | (have e0 : (0 : Int32).toInt = 0 := rfl; omega)) (by first | omega | decide | (have e0 : (0 : Int32).toInt = 0 := rfl; omega)) (by first | omega | decide | (have e0 : (0 : Int32).toInt = 0 := rfl; omega)) (by first | omega | decide | (have e0 : (0 : Int32).toInt = 0 := rfl; omega)) (by first | omega | decide | (have e0 : (0 : Int32).toInt = 0 := rfl; omega)) (by first | omega | decide | (have e0 : (0 : Int32).toInt = 0 := rfl; omega)) (by first | omega | decide | (have e0 : (0 : Int32).toInt = 0 := rfl; omega)) hM85 hE86
                  · generalize ey119 : (1 - l4) = y119
                    replace ey119 := ey119.symm
                    have ty119 : y119.toInt = 1 - l4.toInt := i3_subc rfl rfl ey119 (by omega)
                    clear ey119
                    unfold b_isGood_95
                    have L_100_n120 : ∀ (n120 : Nat) (l3 : Int32) (l4 : Int32) (l5 : Int32) (l6 : Int32) (l7 : Int32) (l8 : Int32) (σ : VS), 4 - l8.toInt < (n120 : Int) → 0 ≤ l3.toInt ∧ l3.toInt ≤ 49 → 0 ≤ l4.toInt ∧ l4.toInt ≤ 1 → 0 ≤ l5.toInt ∧ l5.toInt ≤ 15 → 0 ≤ l6.toInt ∧ l6.toInt ≤ 49 → 0 ≤ l7.toInt ∧ l7.toInt ≤ 1 → 0 ≤ l8.toInt ∧ l8.toInt ≤ 4 → 50 - l6.toInt < (n80 : Int) + 1 → MI σ → Eo [] [] σ0 σ → X100 l3 l4 l5 l6 l7 l8 σ := by
                      intro n120
                      induction n120 with
                      | zero => intro l3 l4 l5 l6 l7 l8 σ hm h_l3 h_l4 h_l5 h_l6 h_l7 h_l8 m_34 hM hE; exfalso; omega
                      | succ n120 ih_n120 =>
                        intro l3 l4 l5 l6 l7 l8 σ hm h_l3 h_l4 h_l5 h_l6 h_l7 h_l8 m_34 hM hE
                        have hm2_100 : 4 - l8.toInt < (n120 : Int) + 1 := by omega
                        refine H_100 l3 l4 l5 l6 l7 l8 σ ?_
                        unfold b_isGood_100
                        refine ⟨⟨by omega, by omega⟩, ?_⟩
                        have a121 : 0 ≤ (rd σ 3 l6).toInt ∧ (rd σ 3 l6).toInt ≤ 4 := hM.2 3 _
                        refine ⟨fun c122 => ?_, fun c122 => ?_⟩
                        · unfold b_isGood_164
                          generalize ey123 : (l6 + 1) = y123
                          replace ey123 := ey123.symm
                          have ty123 : y123.toInt = l6.toInt + 1 := i3_addc rfl rfl ey123 (by omega)
                          clear ey123
                          exact ih_n80 l3 l4 l5 y123 σ (by omega) (by first | omega | decide | (have e0 : (0 : Int32).toInt = 0 := rfl; omega)) (by first | omega | decide | (have e0 : (0 : Int32).toInt = 0 := rfl; omega)) (by first | omega | decide | (have e0 : (0 : Int32).toInt = 0 := rfl; omega)) (by first | omega | decide | (have e0 : (0 : Int32).toInt = 0 := rfl; omega)) hM hE
                        · generalize ey124 : (4 * l6) = y124
                          replace ey124 := ey124.symm
                          have ty124 : y124.toInt = 4 * l6.toInt := i3_mulc rfl rfl ey124 (by omega)
                          clear ey124
                          generalize ey125 : (y124 + l8) = y125
                          replace ey125 := ey125.symm
                          have ty125 : y125.toInt = y124.toInt + l8.toInt := i3_addc rfl rfl ey125 (by omega)
                          clear ey125
                          refine ⟨⟨by omega, by omega⟩, ?_⟩
                          have a126 : (-1) ≤ (rd σ 7 y125).toInt ∧ (rd σ 7 y125).toInt ≤ 49 := hM.2 7 _
                          refine ⟨fun c127 => ?_, fun c127 => ?_⟩
                          · unfold b_isGood_158
                            generalize ey128 : (l8 + 1) = y128
                            replace ey128 := ey128.symm
                            have ty128 : y128.toInt = l8.toInt + 1 := i3_addc rfl rfl ey128 (by omega)
                            clear ey128
                            exact ih_n120 l3 l4 l5 l6 l7 y128 σ (by omega) (by first | omega | decide | (have e0 : (0 : Int32).toInt = 0 := rfl; omega)) (by first | omega | decide | (have e0 : (0 : Int32).toInt = 0 := rfl; omega)) (by first | omega | decide | (have e0 : (0 : Int32).toInt = 0 := rfl; omega)) (by first | omega | decide | (have e0 : (0 : Int32).toInt = 0 := rfl; omega)) (by first | omega | decide | (have e0 : (0 : Int32).toInt = 0 := rfl; omega)) (by first | omega | decide | (have e0 : (0 : Int32).toInt = 0 := rfl; omega)) (by first | omega | decide | (have e0 : (0 : Int32).toInt = 0 := rfl; omega)) hM hE
                          · generalize ey129 : (2 * l6) = y129
                            replace ey129 := ey129.symm
                            have ty129 : y129.toInt = 2 * l6.toInt := i3_mulc rfl rfl ey129 (by omega)
                            clear ey129
                            generalize ey130 : (y129 + l7) = y130
                            replace ey130 := ey130.symm
                            have ty130 : y130.toInt = y129.toInt + l7.toInt := i3_addc rfl rfl ey130 (by omega)
                            clear ey130
                            generalize ey131 : (16 * y130) = y131
                            replace ey131 := ey131.symm
                            have ty131 : y131.toInt = 16 * y130.toInt := i3_mulc rfl rfl ey131 (by omega)
                            clear ey131
                            refine rg_metBy hM (fun r132 σ133 br132 hM134 hE135o => ?_)
                            have hE135 := hE.of hE135o (by decide) (by decide)
                            have u136 : (rd σ133 3 l6).toInt = (rd σ 3 l6).toInt := by unfold rd; rw [hE135o.2 3 (by decide)]
                            have u137 : (rd σ133 7 y125).toInt = (rd σ 7 y125).toInt := by unfold rd; rw [hE135o.2 7 (by decide)]
                            generalize ey138 : (l5 ||| r132) = y138
                            replace ey138 := ey138.symm
                            have ty138 := i3_or15 ey138 (by omega) (by omega)
                            clear ey138
                            generalize ey139 : (y131 + y138) = y139
                            replace ey139 := ey139.symm
                            have ty139 : y139.toInt = y131.toInt + y138.toInt := i3_addc rfl rfl ey139 (by omega)
                            clear ey139
                            refine ⟨⟨by omega, by omega⟩, ?_⟩
                            have a140 : 0 ≤ (rd σ133 56 y139).toInt ∧ (rd σ133 56 y139).toInt ≤ 1 := hM134.2 56 _
                            refine ⟨fun c141 => ?_, fun c141 => ?_⟩
                            · unfold b_isGood_158
                              generalize ey142 : (l8 + 1) = y142
                              replace ey142 := ey142.symm
                              have ty142 : y142.toInt = l8.toInt + 1 := i3_addc rfl rfl ey142 (by omega)
                              clear ey142
                              exact ih_n120 l3 l4 l5 l6 l7 y142 σ133 (by omega) (by first | omega | decide | (have e0 : (0 : Int32).toInt = 0 := rfl; omega)) (by first | omega | decide | (have e0 : (0 : Int32).toInt = 0 := rfl; omega)) (by first | omega | decide | (have e0 : (0 : Int32).toInt = 0 := rfl; omega)) (by first | omega | decide | (have e0 : (0 : Int32).toInt = 0 := rfl; omega)) (by first | omega | decide | (have e0 : (0 : Int32).toInt = 0 := rfl; omega)) (by first | omega | decide | (have e0 : (0 : Int32).toInt = 0 := rfl; omega)) (by first | omega | decide | (have e0 : (0 : Int32).toInt = 0 := rfl; omega)) hM134 hE135
                            · exact hq 1 σ133 ⟨by decide, by decide⟩ hM134 hE135
                    exact L_100_n120 ((4 - (0 : Int32).toInt).toNat + 1) l3 l4 l5 l6 y119 0 σ84 (by decide) (by first | omega | decide | (have e0 : (0 : Int32).toInt = 0 := rfl; omega)) (by first | omega | decide | (have e0 : (0 : Int32).toInt = 0 := rfl; omega)) (by first | omega | decide | (have e0 : (0 : Int32).toInt = 0 := rfl; omega)) (by first | omega | decide | (have e0 : (0 : Int32).toInt = 0 := rfl; omega)) (by first | omega | decide | (have e0 : (0 : Int32).toInt = 0 := rfl; omega)) (by first | omega | decide | (have e0 : (0 : Int32).toInt = 0 := rfl; omega)) (by first | omega | decide | (have e0 : (0 : Int32).toInt = 0 := rfl; omega)) hM85 hE86
                · unfold b_isGood_164
                  generalize ey143 : (l6 + 1) = y143
                  replace ey143 := ey143.symm
                  have ty143 : y143.toInt = l6.toInt + 1 := i3_addc rfl rfl ey143 (by omega)
                  clear ey143
                  exact ih_n80 l3 l4 l5 y143 σ84 (by omega) (by first | omega | decide | (have e0 : (0 : Int32).toInt = 0 := rfl; omega)) (by first | omega | decide | (have e0 : (0 : Int32).toInt = 0 := rfl; omega)) (by first | omega | decide | (have e0 : (0 : Int32).toInt = 0 := rfl; omega)) (by first | omega | decide | (have e0 : (0 : Int32).toInt = 0 := rfl; omega)) hM85 hE86
      exact L_34_n80 ((50 - (0 : Int32).toInt).toNat + 1) p3 p4 p5 0 σ75 (by decide) (by first | omega | decide | (have e0 : (0 : Int32).toInt = 0 := rfl; omega)) (by first | omega | decide | (have e0 : (0 : Int32).toInt = 0 := rfl; omega)) (by first | omega | decide | (have e0 : (0 : Int32).toInt = 0 := rfl; omega)) (by first | omega | decide | (have e0 : (0 : Int32).toInt = 0 := rfl; omega)) hM76 hE77
    · exact hq 1 σ75 ⟨by decide, by decide⟩ hM76 hE77
set_option maxHeartbeats 2000000 in
theorem rg_markGood {Q : VS → Prop} {p1 : Int32} {p2 : Int32} {σ : VS} (h_p1 : 0 ≤ p1.toInt ∧ p1.toInt ≤ 49) (h_p2 : 0 ≤ p2.toInt ∧ p2.toInt ≤ 49) (hM : MI σ) (hq : ∀ (σ' : VS), MI σ' → Eo [] [56] σ σ' → Q σ') : wp_markGood Q p1 p2 σ := by
  unfold wp_markGood
  intro X2 X33 X82 X91 H_2 H_33 H_82 H_91
  have hE : Eo [] [56] σ σ := Eo.rfl
  obtain ⟨σ0, h0⟩ : ∃ z : VS, z = σ := ⟨_, rfl⟩
  rw [← h0] at hq
  replace hE : Eo [] [56] σ0 σ := by rw [h0]; exact hE
  skip
  clear h0
  have L_2_n1 : ∀ (n1 : Nat) (l1 : Int32) (l2 : Int32) (l3 : Int32) (σ : VS), 1600 - l3.toInt < (n1 : Int) → 0 ≤ l1.toInt ∧ l1.toInt ≤ 49 → 0 ≤ l2.toInt ∧ l2.toInt ≤ 49 → 0 ≤ l3.toInt ∧ l3.toInt ≤ 1600 → MI σ → Eo [] [56] σ0 σ → X2 l1 l2 l3 σ := by
    intro n1
    induction n1 with
    | zero => intro l1 l2 l3 σ hm h_l1 h_l2 h_l3 hM hE; exfalso; omega
    | succ n1 ih_n1 =>
      intro l1 l2 l3 σ hm h_l1 h_l2 h_l3 hM hE
      have hm2_2 : 1600 - l3.toInt < (n1 : Int) + 1 := by omega
      refine H_2 l1 l2 l3 σ ?_
      unfold b_markGood_2
      have f2 : 0 ≤ (σ.1 1).toInt ∧ (σ.1 1).toInt ≤ 50 := hM.1 1
      generalize ey3 : (32 * (σ.1 1)) = y3
      replace ey3 := ey3.symm
      have ty3 : y3.toInt = 32 * (σ.1 1).toInt := i3_mulc rfl rfl ey3 (by omega)
      clear ey3
      refine ⟨fun c4 => ?_, fun c4 => ?_⟩
      · have f5 : 0 ≤ (σ.1 32).toInt ∧ (σ.1 32).toInt ≤ 50 := hM.1 32
        generalize ey6 : ((σ.1 32) - 1) = y6
        replace ey6 := ey6.symm
        have ty6 : y6.toInt = (σ.1 32).toInt - 1 := i3_subc rfl rfl ey6 (by omega)
        clear ey6
        intro x7 ex7
        have ix7 : x7.toInt = y6.toInt := by rw [ex7]
        have L_33_n8 : ∀ (n8 : Nat) (l1 : Int32) (l2 : Int32) (l3 : Int32) (σ : VS), l3.toInt - (-1) < (n8 : Int) → 0 ≤ l1.toInt ∧ l1.toInt ≤ 49 → 0 ≤ l2.toInt ∧ l2.toInt ≤ 49 → (-1) ≤ l3.toInt ∧ l3.toInt ≤ 49 → MI σ → Eo [] [56] σ0 σ → X33 l1 l2 l3 σ := by
          intro n8
          induction n8 with
          | zero => intro l1 l2 l3 σ hm h_l1 h_l2 h_l3 hM hE; exfalso; omega
          | succ n8 ih_n8 =>
            intro l1 l2 l3 σ hm h_l1 h_l2 h_l3 hM hE
            have hm2_33 : l3.toInt - (-1) < (n8 : Int) + 1 := by omega
            refine H_33 l1 l2 l3 σ ?_
            unfold b_markGood_33
            refine ⟨fun c9 => ?_, fun c9 => ?_⟩
            · exact hq σ hM hE
            · refine ⟨⟨by omega, by omega⟩, ?_⟩
              have a10 : 0 ≤ (rd σ 31 l3).toInt ∧ (rd σ 31 l3).toInt ≤ 49 := hM.2 31 _
              intro x11 ex11
              have ix11 : x11.toInt = (rd σ 31 l3).toInt := by rw [ex11]
              refine ⟨⟨by omega, by omega⟩, ?_⟩
              have a12 : 0 ≤ (rd σ 2 x11).toInt ∧ (rd σ 2 x11).toInt ≤ 5 := hM.2 2 _
              refine ⟨fun c13 => ?_, fun c13 => ?_⟩
              · unfold b_markGood_140
                generalize ey14 : (l3 + (-1)) = y14
                replace ey14 := ey14.symm
                have ty14 : y14.toInt = l3.toInt + (-1) := i3_addc rfl rfl ey14 (by omega)
                clear ey14
                exact ih_n8 l1 l2 y14 σ (by omega) (by first | omega | decide | (have e0 : (0 : Int32).toInt = 0 := rfl; omega)) (by first | omega | decide | (have e0 : (0 : Int32).toInt = 0 := rfl; omega)) (by first | omega | decide | (have e0 : (0 : Int32).toInt = 0 := rfl; omega)) hM hE
              · refine ⟨⟨by omega, by omega⟩, ?_⟩
                have a15 : 0 ≤ (rd σ 34 x11).toInt ∧ (rd σ 34 x11).toInt ≤ 1 := hM.2 34 _
                refine ⟨fun c16 => ?_, fun c16 => ?_⟩
                · unfold b_markGood_140
                  generalize ey17 : (l3 + (-1)) = y17
                  replace ey17 := ey17.symm
                  have ty17 : y17.toInt = l3.toInt + (-1) := i3_addc rfl rfl ey17 (by omega)
                  clear ey17
                  exact ih_n8 l1 l2 y17 σ (by omega) (by first | omega | decide | (have e0 : (0 : Int32).toInt = 0 := rfl; omega)) (by first | omega | decide | (have e0 : (0 : Int32).toInt = 0 := rfl; omega)) (by first | omega | decide | (have e0 : (0 : Int32).toInt = 0 := rfl; omega)) hM hE
                · refine ⟨⟨by omega, by omega⟩, ?_⟩
                  refine ⟨fun c18 => ?_, fun c18 => ?_⟩
                  · have L_82_n19 : ∀ (n19 : Nat) (l1 : Int32) (l2 : Int32) (l3 : Int32) (l4 : Int32) (l5 : Int32) (σ : VS), 2 - l5.toInt < (n19 : Int) → 0 ≤ l1.toInt ∧ l1.toInt ≤ 49 → 0 ≤ l2.toInt ∧ l2.toInt ≤ 49 → 0 ≤ l3.toInt ∧ l3.toInt ≤ 49 → 0 ≤ l4.toInt ∧ l4.toInt ≤ 49 → 0 ≤ l5.toInt ∧ l5.toInt ≤ 2 → l3.toInt - (-1) < (n8 : Int) + 1 → MI σ → Eo [] [56] σ0 σ → X82 l1 l2 l3 l4 l5 σ := by
                      intro n19
                      induction n19 with
                      | zero => intro l1 l2 l3 l4 l5 σ hm h_l1 h_l2 h_l3 h_l4 h_l5 m_33 hM hE; exfalso; omega
                      | succ n19 ih_n19 =>
                        intro l1 l2 l3 l4 l5 σ hm h_l1 h_l2 h_l3 h_l4 h_l5 m_33 hM hE
                        have hm2_82 : 2 - l5.toInt < (n19 : Int) + 1 := by omega
                        refine H_82 l1 l2 l3 l4 l5 σ ?_
                        unfold b_markGood_82
                        refine ⟨fun c20 => ?_, fun c20 => ?_⟩
                        · unfold b_markGood_140
                          generalize ey21 : (l3 + (-1)) = y21
                          replace ey21 := ey21.symm
                          have ty21 : y21.toInt = l3.toInt + (-1) := i3_addc rfl rfl ey21 (by omega)
                          clear ey21
                          exact ih_n8 l1 l2 y21 σ (by omega) (by first | omega | decide | (have e0 : (0 : Int32).toInt = 0 := rfl; omega)) (by first | omega | decide | (have e0 : (0 : Int32).toInt = 0 := rfl; omega)) (by first | omega | decide | (have e0 : (0 : Int32).toInt = 0 := rfl; omega)) hM hE
                        · have L_91_n22 : ∀ (n22 : Nat) (l1 : Int32) (l2 : Int32) (l3 : Int32) (l4 : Int32) (l5 : Int32) (l6 : Int32) (σ : VS), 16 - l6.toInt < (n22 : Int) → 0 ≤ l1.toInt ∧ l1.toInt ≤ 49 → 0 ≤ l2.toInt ∧ l2.toInt ≤ 49 → 0 ≤ l3.toInt ∧ l3.toInt ≤ 49 → 0 ≤ l4.toInt ∧ l4.toInt ≤ 49 → 0 ≤ l5.toInt ∧ l5.toInt ≤ 1 → 0 ≤ l6.toInt ∧ l6.toInt ≤ 16 → l3.toInt - (-1) < (n8 : Int) + 1 → 2 - l5.toInt < (n19 : Int) + 1 → MI σ → Eo [] [56] σ0 σ → X91 l1 l2 l3 l4 l5 l6 σ := by
                            intro n22
                            induction n22 with
                            | zero => intro l1 l2 l3 l4 l5 l6 σ hm h_l1 h_l2 h_l3 h_l4 h_l5 h_l6 m_33 m_82 hM hE; exfalso; omega
                            | succ n22 ih_n22 =>
                              intro l1 l2 l3 l4 l5 l6 σ hm h_l1 h_l2 h_l3 h_l4 h_l5 h_l6 m_33 m_82 hM hE
                              have hm2_91 : 16 - l6.toInt < (n22 : Int) + 1 := by omega
                              refine H_91 l1 l2 l3 l4 l5 l6 σ ?_
                              unfold b_markGood_91
                              refine ⟨fun c23 => ?_, fun c23 => ?_⟩
                              · generalize ey24 : (l5 + 1) = y24
                                replace ey24 := ey24.symm
                                have ty24 : y24.toInt = l5.toInt + 1 := i3_addc rfl rfl ey24 (by omega)
                                clear ey24
                                exact ih_n19 l1 l2 l3 l4 y24 σ (by omega) (by first | omega | decide | (have e0 : (0 : Int32).toInt = 0 := rfl; omega)) (by first | omega | decide | (have e0 : (0 : Int32).toInt = 0 := rfl; omega)) (by first | omega | decide | (have e0 : (0 : Int32).toInt = 0 := rfl; omega)) (by first | omega | decide | (have e0 : (0 : Int32).toInt = 0 := rfl; omega)) (by first | omega | decide | (have e0 : (0 : Int32).toInt = 0 := rfl; omega)) (by first | omega | decide | (have e0 : (0 : Int32).toInt = 0 := rfl; omega)) hM hE
                              · generalize ey25 : (2 * l4) = y25
                                replace ey25 := ey25.symm
                                have ty25 : y25.toInt = 2 * l4.toInt := i3_mulc rfl rfl ey25 (by omega)
                                clear ey25
                                generalize ey26 : (y25 + l5) = y26
                                replace ey26 := ey26.symm
                                have ty26 : y26.toInt = y25.toInt + l5.toInt := i3_addc rfl rfl ey26 (by omega)
                                clear ey26
                                generalize ey27 : (16 * y26) = y27
                                replace ey27 := ey27.symm
                                have ty27 : y27.toInt = 16 * y26.toInt := i3_mulc rfl rfl ey27 (by omega)
                                clear ey27
                                generalize ey28 : (y27 + l6) = y28
                                replace ey28 := ey28.symm
                                have ty28 : y28.toInt = y27.toInt + l6.toInt := i3_addc rfl rfl ey28 (by omega)
                                clear ey28
                                refine rg_isGood ⟨by omega, by omega⟩ ⟨by omega, by omega⟩ ⟨by omega, by omega⟩ ⟨by omega, by omega⟩ ⟨by omega, by omega⟩ hM (fun r29 σ30 br29 hM31 hE32o => ?_)
                                have hE32 := hE.of hE32o (by decide) (by decide)
                                refine ⟨⟨by omega, by omega⟩, ?_⟩
                                refine ⟨⟨by omega, by omega⟩, ?_⟩
                                have hM33 := hM31.sa 56 y28 r29 (show 0 ≤ r29.toInt ∧ r29.toInt ≤ 1 by omega)
                                have hE34 := hE32.sa 56 y28 r29 (by decide)
                                have w35 : (rd (sa σ30 56 y28 r29) 56 y28).toInt = r29.toInt := by rw [rd_sa]
                                generalize ey36 : (l6 + 1) = y36
                                replace ey36 := ey36.symm
                                have ty36 : y36.toInt = l6.toInt + 1 := i3_addc rfl rfl ey36 (by omega)
                                clear ey36
                                exact ih_n22 l1 l2 l3 l4 l5 y36 (sa σ30 56 y28 r29) (by omega) (by first | omega | decide | (have e0 : (0 : Int32).toInt = 0 := rfl; omega)) (by first | omega | decide | (have e0 : (0 : Int32).toInt = 0 := rfl; omega)) (by first | omega | decide | (have e0 : (0 : Int32).toInt = 0 := rfl; omega)) (by first | omega | decide | (have e0 : (0 : Int32).toInt = 0 := rfl; omega)) (by first | omega | decide | (have e0 : (0 : Int32).toInt = 0 := rfl; omega)) (by first | omega | decide | (have e0 : (0 : Int32).toInt = 0 := rfl; omega)) (by first | omega | decide | (have e0 : (0 : Int32).toInt = 0 := rfl; omega)) (by first | omega | decide | (have e0 : (0 : Int32).toInt = 0 := rfl; omega)) hM33 hE34
                          exact L_91_n22 ((16 - (0 : Int32).toInt).toNat + 1) l1 l2 l3 l4 l5 0 σ (by decide) (by first | omega | decide | (have e0 : (0 : Int32).toInt = 0 := rfl; omega)) (by first | omega | decide | (have e0 : (0 : Int32).toInt = 0 := rfl; omega)) (by first | omega | decide | (have e0 : (0 : Int32).toInt = 0 := rfl; omega)) (by first | omega | decide | (have e0 : (0 : Int32).toInt = 0 := rfl; omega)) (by first | omega | decide | (have e0 : (0 : Int32).toInt = 0 := rfl; omega)) (by first | omega | decide | (have e0 : (0 : Int32).toInt = 0 := rfl; omega)) (by first | omega | decide | (have e0 : (0 : Int32).toInt = 0 := rfl; omega)) (by first | omega | decide | (have e0 : (0 : Int32).toInt = 0 := rfl; omega)) hM hE
                    exact L_82_n19 ((2 - (0 : Int32).toInt).toNat + 1) l1 l2 l3 x11 0 σ (by decide) (by first | omega | decide | (have e0 : (0 : Int32).toInt = 0 := rfl; omega)) (by first | omega | decide | (have e0 : (0 : Int32).toInt = 0 := rfl; omega)) (by first | omega | decide | (have e0 : (0 : Int32).toInt = 0 := rfl; omega)) (by first | omega | decide | (have e0 : (0 : Int32).toInt = 0 := rfl; omega)) (by first | omega | decide | (have e0 : (0 : Int32).toInt = 0 := rfl; omega)) (by first | omega | decide | (have e0 : (0 : Int32).toInt = 0 := rfl; omega)) hM hE
                  · unfold b_markGood_140
                    generalize ey37 : (l3 + (-1)) = y37
                    replace ey37 := ey37.symm
                    have ty37 : y37.toInt = l3.toInt + (-1) := i3_addc rfl rfl ey37 (by omega)
                    clear ey37
                    exact ih_n8 l1 l2 y37 σ (by omega) (by first | omega | decide | (have e0 : (0 : Int32).toInt = 0 := rfl; omega)) (by first | omega | decide | (have e0 : (0 : Int32).toInt = 0 := rfl; omega)) (by first | omega | decide | (have e0 : (0 : Int32).toInt = 0 := rfl; omega)) hM hE
        exact L_33_n8 ((x7.toInt - (-1)).toNat + 1) l1 l2 x7 σ (by omega) (by first | omega | decide | (have e0 : (0 : Int32).toInt = 0 := rfl; omega)) (by first | omega | decide | (have e0 : (0 : Int32).toInt = 0 := rfl; omega)) (by first | omega | decide | (have e0 : (0 : Int32).toInt = 0 := rfl; omega)) hM hE
      · refine ⟨⟨by omega, by omega⟩, ?_⟩
        have hM38 := hM.sa 56 l3 0 (show 0 ≤ (0 : Int32).toInt ∧ (0 : Int32).toInt ≤ 1 by decide)
        have hE39 := hE.sa 56 l3 0 (by decide)
        have u40 : ((sa σ 56 l3 0).1 1).toInt = (σ.1 1).toInt := rfl
        have w41 : (rd (sa σ 56 l3 0) 56 l3).toInt = 0 := by rw [rd_sa]; rfl
        generalize ey42 : (l3 + 1) = y42
        replace ey42 := ey42.symm
        have ty42 : y42.toInt = l3.toInt + 1 := i3_addc rfl rfl ey42 (by omega)
        clear ey42
        exact ih_n1 l1 l2 y42 (sa σ 56 l3 0) (by omega) (by first | omega | decide | (have e0 : (0 : Int32).toInt = 0 := rfl; omega)) (by first | omega | decide | (have e0 : (0 : Int32).toInt = 0 := rfl; omega)) (by first | omega | decide | (have e0 : (0 : Int32).toInt = 0 := rfl; omega)) hM38 hE39
  exact L_2_n1 ((1600 - (0 : Int32).toInt).toNat + 1) p1 p2 0 σ (by decide) (by first | omega | decide | (have e0 : (0 : Int32).toInt = 0 := rfl; omega)) (by first | omega | decide | (have e0 : (0 : Int32).toInt = 0 := rfl; omega)) (by first | omega | decide | (have e0 : (0 : Int32).toInt = 0 := rfl; omega)) hM hE
