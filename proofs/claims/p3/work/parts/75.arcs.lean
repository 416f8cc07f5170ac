set_option maxHeartbeats 2000000 in
theorem rg_arcs {Q : VS → Prop} {p1 : Int32} {σ : VS} (h_p1 : 0 ≤ p1.toInt ∧ p1.toInt ≤ 49) (hM : MI σ) (hq : ∀ (σ' : VS), MI σ' → Eo [30] [35, 36, 37, 38, 39] σ σ' → Q σ') : wp_arcs Q p1 σ := by
  unfold wp_arcs
  intro X32 X44 H_32 H_44
  have hE : Eo [30] [35, 36, 37, 38, 39] σ σ := Eo.rfl
  obtain ⟨σ0, h0⟩ : ∃ z : VS, z = σ := ⟨_, rfl⟩
  rw [← h0] at hq
  replace hE : Eo [30] [35, 36, 37, 38, 39] σ0 σ := by rw [h0]; exact hE
  clear h0
  refine rg_load ⟨by omega, by omega⟩ hM (fun r1 σ2 br1 hM3 hE4o => ?_)
  have hE4 := hE.of hE4o (by decide) (by decide)
  refine ⟨⟨by omega, by omega⟩, ?_⟩
  have a5 : 0 ≤ (rd σ2 5 p1).toInt ∧ (rd σ2 5 p1).toInt ≤ 2 := hM3.2 5 _
  generalize ey6 : (1 + (rd σ2 5 p1)) = y6
  replace ey6 := ey6.symm
  have ty6 : y6.toInt = 1 + (rd σ2 5 p1).toInt := i3_addc rfl rfl ey6 (by omega)
  clear ey6
  intro x7 ex7
  have ix7 : x7.toInt = y6.toInt := by rw [ex7]
  generalize ey8 : (r1 + x7) = y8
  replace ey8 := ey8.symm
  have ty8 : y8.toInt = r1.toInt + x7.toInt := i3_addc rfl rfl ey8 (by omega)
  clear ey8
  generalize ey9 : (y8 - 1) = y9
  replace ey9 := ey9.symm
  have ty9 : y9.toInt = y8.toInt - 1 := i3_subc rfl rfl ey9 (by omega)
  clear ey9
  refine ⟨i3_nz (by omega), ?_⟩
  generalize ey10 : (y9 / x7) = y10
  replace ey10 := ey10.symm
  have ty10 := i3_divb ey10 (by omega) (by omega)
  clear ey10
  intro x11 ex11
  have ix11 : x11.toInt = y10.toInt := by rw [ex11]
  refine ⟨i3_nz (by omega), ?_⟩
  generalize ey12 : (r1 / x7) = y12
  replace ey12 := ey12.symm
  have ty12 := i3_divb ey12 (by omega) (by omega)
  clear ey12
  intro x13 ex13
  have ix13 : x13.toInt = y12.toInt := by rw [ex13]
  have L_32_n14 : ∀ (n14 : Nat) (l1 : Int32) (l4 : Int32) (l5 : Int32) (l6 : Int32) (σ : VS), 2 - l6.toInt < (n14 : Int) → 0 ≤ l1.toInt ∧ l1.toInt ≤ 49 → 0 ≤ l4.toInt ∧ l4.toInt ≤ 1602 → 0 ≤ l5.toInt ∧ l5.toInt ≤ 1600 → 0 ≤ l6.toInt ∧ l6.toInt ≤ 2 → MI σ → Eo [30] [35, 36, 37, 38, 39] σ0 σ → X32 l1 l4 l5 l6 σ := by
    intro n14
    induction n14 with
    | zero => intro l1 l4 l5 l6 σ hm h_l1 h_l4 h_l5 h_l6 hM hE; exfalso; omega
    | succ n14 ih_n14 =>
      intro l1 l4 l5 l6 σ hm h_l1 h_l4 h_l5 h_l6 hM hE
      have hm2_32 : 2 - l6.toInt < (n14 : Int) + 1 := by omega
      refine H_32 l1 l4 l5 l6 σ ?_
      unfold b_arcs_32
      refine ⟨fun c15 => ?_, fun c15 => ?_⟩
      · exact hq σ hM hE
      · have L_44_n16 : ∀ (n16 : Nat) (l1 : Int32) (l4 : Int32) (l5 : Int32) (l6 : Int32) (l7 : Int32) (l8 : Int32) (σ : VS), 4 - l8.toInt < (n16 : Int) → 0 ≤ l1.toInt ∧ l1.toInt ≤ 49 → 0 ≤ l4.toInt ∧ l4.toInt ≤ 1602 → 0 ≤ l5.toInt ∧ l5.toInt ≤ 1600 → 0 ≤ l6.toInt ∧ l6.toInt ≤ 1 → 0 ≤ l7.toInt ∧ l7.toInt ≤ 1 → 0 ≤ l8.toInt ∧ l8.toInt ≤ 4 → 2 - l6.toInt < (n14 : Int) + 1 → MI σ → Eo [30] [35, 36, 37, 38, 39] σ0 σ → X44 l1 l4 l5 l6 l7 l8 σ := by
          intro n16
          induction n16 with
          | zero => intro l1 l4 l5 l6 l7 l8 σ hm h_l1 h_l4 h_l5 h_l6 h_l7 h_l8 m_32 hM hE; exfalso; omega
          | succ n16 ih_n16 =>
            intro l1 l4 l5 l6 l7 l8 σ hm h_l1 h_l4 h_l5 h_l6 h_l7 h_l8 m_32 hM hE
            have hm2_44 : 4 - l8.toInt < (n16 : Int) + 1 := by omega
            refine H_44 l1 l4 l5 l6 l7 l8 σ ?_
            unfold b_arcs_44
            refine ⟨⟨by omega, by omega⟩, ?_⟩
            have a17 : 0 ≤ (rd σ 3 l1).toInt ∧ (rd σ 3 l1).toInt ≤ 4 := hM.2 3 _
            refine ⟨fun c18 => ?_, fun c18 => ?_⟩
            · generalize ey19 : (l6 + 1) = y19
              replace ey19 := ey19.symm
              have ty19 : y19.toInt = l6.toInt + 1 := i3_addc rfl rfl ey19 (by omega)
              clear ey19
              exact ih_n14 l1 l4 l5 y19 σ (by omega) (by first | omega | decide | (have e0 : (0 : Int32).toInt = 0 := rfl; omega)) (by first | omega | decide | (have e0 : (0 : Int32).toInt = 0 := rfl; omega)) (by first | omega | decide | (have e0 : (0 : Int32).toInt = 0 := rfl; omega)) (by first | omega | decide | (have e0 : (0 : Int32).toInt = 0 := rfl; omega)) hM hE
            · refine ⟨⟨by omega, by omega⟩, ?_⟩
              have a20 : 0 ≤ (rd σ 2 l1).toInt ∧ (rd σ 2 l1).toInt ≤ 5 := hM.2 2 _
              refine ⟨fun c21 => ?_, fun c21 => ?_⟩
              · generalize ey22 : (4 * l1) = y22
                replace ey22 := ey22.symm
                have ty22 : y22.toInt = 4 * l1.toInt := i3_mulc rfl rfl ey22 (by omega)
                clear ey22
                generalize ey23 : (y22 + l8) = y23
                replace ey23 := ey23.symm
                have ty23 : y23.toInt = y22.toInt + l8.toInt := i3_addc rfl rfl ey23 (by omega)
                clear ey23
                refine ⟨⟨by omega, by omega⟩, ?_⟩
                have a24 : (-1) ≤ (rd σ 7 y23).toInt ∧ (rd σ 7 y23).toInt ≤ 49 := hM.2 7 _
                suffices hs : ∀ (q25 : Int32), q25.toInt = (rd σ 7 y23).toInt → b_arcs_80 X32 X44 Q l1 l4 l5 l6 l7 l8 q25 σ from hs (rd σ 7 y23) rfl
                intro q25 hq25
                unfold b_arcs_80
                refine ⟨⟨by omega, by omega⟩, ?_⟩
                refine ⟨fun c26 => ?_, fun c26 => ?_⟩
                · exfalso; omega
                · refine ⟨fun c27 => ?_, fun c27 => ?_⟩
                  · unfold b_arcs_462
                    generalize ey28 : (l8 + 1) = y28
                    replace ey28 := ey28.symm
                    have ty28 : y28.toInt = l8.toInt + 1 := i3_addc rfl rfl ey28 (by omega)
                    clear ey28
                    exact ih_n16 l1 l4 l5 l6 l7 y28 σ (by omega) (by first | omega | decide | (have e0 : (0 : Int32).toInt = 0 := rfl; omega)) (by first | omega | decide | (have e0 : (0 : Int32).toInt = 0 := rfl; omega)) (by first | omega | decide | (have e0 : (0 : Int32).toInt = 0 := rfl; omega)) (by first | omega | decide | (have e0 : (0 : Int32).toInt = 0 := rfl; omega)) (by first | omega | decide | (have e0 : (0 : Int32).toInt = 0 := rfl; omega)) (by first | omega | decide | (have e0 : (0 : Int32).toInt = 0 := rfl; omega)) (by first | omega | decide | (have e0 : (0 : Int32).toInt = 0 := rfl; omega)) hM hE
                  · refine ⟨⟨by omega, by omega⟩, ?_⟩
                    have a29 : 0 ≤ (rd σ 34 q25).toInt ∧ (rd σ 34 q25).toInt ≤ 1 := hM.2 34 _
                    refine ⟨fun c30 => ?_, fun c30 => ?_⟩
                    · unfold b_arcs_110
                      refine ⟨⟨by omega, by omega⟩, ?_⟩
                      refine ⟨fun c31 => ?_, fun c31 => ?_⟩
                      · unfold b_arcs_129
                        refine ⟨fun c32 => ?_, fun c32 => ?_⟩
                        · generalize ey33 : (2 * q25) = y33
                          replace ey33 := ey33.symm
                          have ty33 : y33.toInt = 2 * q25.toInt := i3_mulc rfl rfl ey33 (by omega)
                          clear ey33
                          generalize ey34 : (y33 + l6) = y34
                          replace ey34 := ey34.symm
                          have ty34 : y34.toInt = y33.toInt + l6.toInt := i3_addc rfl rfl ey34 (by omega)
                          clear ey34
                          refine ⟨⟨by omega, by omega⟩, ?_⟩
                          have a35 : 0 ≤ (rd σ 38 y34).toInt ∧ (rd σ 38 y34).toInt ≤ 100000 := hM.2 38 _
                          suffices hs : ∀ (q36 : Int32), q36.toInt = (rd σ 38 y34).toInt → b_arcs_152 X32 X44 Q l1 l4 l5 l6 l7 l8 q25 l6 q36 σ from hs (rd σ 38 y34) rfl
                          intro q36 hq36
                          unfold b_arcs_152
                          refine ⟨fun c37 => ?_, fun c37 => ?_⟩
                          · generalize ey38 : (2 * q25) = y38
                            replace ey38 := ey38.symm
                            have ty38 : y38.toInt = 2 * q25.toInt := i3_mulc rfl rfl ey38 (by omega)
                            clear ey38
                            generalize ey39 : (y38 + l6) = y39
                            replace ey39 := ey39.symm
                            have ty39 : y39.toInt = y38.toInt + l6.toInt := i3_addc rfl rfl ey39 (by omega)
                            clear ey39
                            refine ⟨⟨by omega, by omega⟩, ?_⟩
                            have a40 : 0 ≤ (rd σ 39 y39).toInt ∧ (rd σ 39 y39).toInt ≤ 100000 := hM.2 39 _
                            suffices hs : ∀ (q41 : Int32), q41.toInt = (rd σ 39 y39).toInt → b_arcs_175 X32 X44 Q l1 l4 l5 l6 l7 l8 q36 q41 σ from hs (rd σ 39 y39) rfl
                            intro q41 hq41
                            unfold b_arcs_175
                            generalize ey42 : (8 * l1) = y42
                            replace ey42 := ey42.symm
                            have ty42 : y42.toInt = 8 * l1.toInt := i3_mulc rfl rfl ey42 (by omega)
                            clear ey42
                            generalize ey43 : (2 * l8) = y43
                            replace ey43 := ey43.symm
                            have ty43 : y43.toInt = 2 * l8.toInt := i3_mulc rfl rfl ey43 (by omega)
                            clear ey43
                            generalize ey44 : (y42 + y43) = y44
                            replace ey44 := ey44.symm
                            have ty44 : y44.toInt = y42.toInt + y43.toInt := i3_addc rfl rfl ey44 (by omega)
                            clear ey44
                            generalize ey45 : (y44 + l6) = y45
                            replace ey45 := ey45.symm
                            have ty45 : y45.toInt = y44.toInt + l6.toInt := i3_addc rfl rfl ey45 (by omega)
                            clear ey45
                            intro x46 ex46
                            have ix46 : x46.toInt = y45.toInt := by rw [ex46]
                            refine ⟨⟨by omega, by omega⟩, ?_⟩
                            have a47 : 0 ≤ (rd σ 4 l1).toInt ∧ (rd σ 4 l1).toInt ≤ 7 := hM.2 4 _
                            intro x48 ex48
                            have ix48 : x48.toInt = (rd σ 4 l1).toInt := by rw [ex48]
                            refine rg_lookUp ⟨by omega, by omega⟩ ⟨by decide, by decide⟩ ⟨by omega, by omega⟩ ⟨by omega, by omega⟩ hM (fun r49 σ50 br49 hM51 hE52o => ?_)
                            have hE52 := hE.of hE52o (by decide) (by decide)
                            have u53 : (rd σ50 3 l1).toInt = (rd σ 3 l1).toInt := by unfold rd; rw [hE52o.2 3 (by decide)]
                            have u54 : (rd σ50 2 l1).toInt = (rd σ 2 l1).toInt := by unfold rd; rw [hE52o.2 2 (by decide)]
                            have u55 : (rd σ50 7 y23).toInt = (rd σ 7 y23).toInt := by unfold rd; rw [hE52o.2 7 (by decide)]
                            have u56 : (rd σ50 34 q25).toInt = (rd σ 34 q25).toInt := by unfold rd; rw [hE52o.2 34 (by decide)]
                            have u57 : (rd σ50 38 y34).toInt = (rd σ 38 y34).toInt := by unfold rd; rw [hE52o.2 38 (by decide)]
                            have u58 : (rd σ50 39 y39).toInt = (rd σ 39 y39).toInt := by unfold rd; rw [hE52o.2 39 (by decide)]
                            have u59 : (rd σ50 4 l1).toInt = (rd σ 4 l1).toInt := by unfold rd; rw [hE52o.2 4 (by decide)]
                            refine ⟨fun c60 => ?_, fun c60 => ?_⟩
                            · suffices hs : ∀ (q61 : Int32), q61.toInt = 0 → b_arcs_236 X32 X44 Q l1 l4 l5 l6 l7 l8 q41 x46 x48 r49 q61 σ50 from hs 0 rfl
                              intro q61 hq61
                              unfold b_arcs_236
                              refine ⟨fun c62 => ?_, fun c62 => ?_⟩
                              · suffices hs : ∀ (q63 : Int32), q63.toInt = 0 → b_arcs_261 X32 X44 Q l1 l4 l5 l6 l7 l8 q41 x46 x48 r49 q61 q63 σ50 from hs 0 rfl
                                intro q63 hq63
                                unfold b_arcs_261
                                refine ⟨fun c64 => ?_, fun c64 => ?_⟩
                                · suffices hs : ∀ (q65 : Int32), q65.toInt = 0 → b_arcs_286 X32 X44 Q l1 l4 l5 l6 l7 l8 x46 x48 r49 q61 q63 q65 σ50 from hs 0 rfl
                                  intro q65 hq65
                                  unfold b_arcs_286
                                  refine ⟨fun c66 => ?_, fun c66 => ?_⟩
                                  · exfalso; omega
                                  · refine ⟨⟨by omega, by omega⟩, ?_⟩
                                    have hM67 := hM51.sa 35 l1 (σ50.1 30) (i3_bd _)
                                    have hE68 := hE52.sa 35 l1 (σ50.1 30) (by decide)
                                    have u69 : ((sa σ50 35 l1 (σ50.1 30)).1 30).toInt = (σ50.1 30).toInt := rfl
                                    have w70 : (rd (sa σ50 35 l1 (σ50.1 30)) 35 l1).toInt = (σ50.1 30).toInt := by rw [rd_sa]
                                    exact hq (sa σ50 35 l1 (σ50.1 30)) hM67 hE68
                                · exfalso; omega
                              · exfalso; omega
                            · refine rg_lookUp ⟨by omega, by omega⟩ ⟨by decide, by decide⟩ ⟨by omega, by omega⟩ ⟨by omega, by omega⟩ hM51 (fun r71 σ72 br71 hM73 hE74o => ?_)
                              have hE74 := hE52.of hE74o (by decide) (by decide)
                              have u75 : (rd σ72 3 l1).toInt = (rd σ50 3 l1).toInt := by unfold rd; rw [hE74o.2 3 (by decide)]
                              have u76 : (rd σ72 2 l1).toInt = (rd σ50 2 l1).toInt := by unfold rd; rw [hE74o.2 2 (by decide)]
                              have u77 : (rd σ72 7 y23).toInt = (rd σ50 7 y23).toInt := by unfold rd; rw [hE74o.2 7 (by decide)]
                              have u78 : (rd σ72 34 q25).toInt = (rd σ50 34 q25).toInt := by unfold rd; rw [hE74o.2 34 (by decide)]
                              have u79 : (rd σ72 38 y34).toInt = (rd σ50 38 y34).toInt := by unfold rd; rw [hE74o.2 38 (by decide)]
                              have u80 : (rd σ72 39 y39).toInt = (rd σ50 39 y39).toInt := by unfold rd; rw [hE74o.2 39 (by decide)]
                              have u81 : (rd σ72 4 l1).toInt = (rd σ50 4 l1).toInt := by unfold rd; rw [hE74o.2 4 (by decide)]
                              unfold b_arcs_236
                              refine ⟨fun c82 => ?_, fun c82 => ?_⟩
                              · suffices hs : ∀ (q83 : Int32), q83.toInt = 0 → b_arcs_261 X32 X44 Q l1 l4 l5 l6 l7 l8 q41 x46 x48 r49 r71 q83 σ72 from hs 0 rfl
                                intro q83 hq83
                                unfold b_arcs_261
                                refine ⟨fun c84 => ?_, fun c84 => ?_⟩
                                · suffices hs : ∀ (q85 : Int32), q85.toInt = 0 → b_arcs_286 X32 X44 Q l1 l4 l5 l6 l7 l8 x46 x48 r49 r71 q83 q85 σ72 from hs 0 rfl
                                  intro q85 hq85
                                  unfold b_arcs_286
                                  refine ⟨fun c86 => ?_, fun c86 => ?_⟩
                                  · exfalso; omega
                                  · refine ⟨⟨by omega, by omega⟩, ?_⟩
                                    have hM87 := hM73.sa 35 l1 (σ72.1 30) (i3_bd _)
                                    have hE88 := hE74.sa 35 l1 (σ72.1 30) (by decide)
                                    have u89 : ((sa σ72 35 l1 (σ72.1 30)).1 30).toInt = (σ72.1 30).toInt := rfl
                                    have w90 : (rd (sa σ72 35 l1 (σ72.1 30)) 35 l1).toInt = (σ72.1 30).toInt := by rw [rd_sa]
                                    exact hq (sa σ72 35 l1 (σ72.1 30)) hM87 hE88
                                · exfalso; omega
                              · refine rg_lookUp ⟨by omega, by omega⟩ ⟨by decide, by decide⟩ ⟨by omega, by omega⟩ ⟨by omega, by omega⟩ hM73 (fun r91 σ92 br91 hM93 hE94o => ?_)
                                have hE94 := hE74.of hE94o (by decide) (by decide)
                                have u95 : (rd σ92 3 l1).toInt = (rd σ72 3 l1).toInt := by unfold rd; rw [hE94o.2 3 (by decide)]
                                have u96 : (rd σ92 2 l1).toInt = (rd σ72 2 l1).toInt := by unfold rd; rw [hE94o.2 2 (by decide)]
                                have u97 : (rd σ92 7 y23).toInt = (rd σ72 7 y23).toInt := by unfold rd; rw [hE94o.2 7 (by decide)]
                                have u98 : (rd σ92 34 q25).toInt = (rd σ72 34 q25).toInt := by unfold rd; rw [hE94o.2 34 (by decide)]
                                have u99 : (rd σ92 38 y34).toInt = (rd σ72 38 y34).toInt := by unfold rd; rw [hE94o.2 38 (by decide)]
                                have u100 : (rd σ92 39 y39).toInt = (rd σ72 39 y39).toInt := by unfold rd; rw [hE94o.2 39 (by decide)]
                                have u101 : (rd σ92 4 l1).toInt = (rd σ72 4 l1).toInt := by unfold rd; rw [hE94o.2 4 (by decide)]
                                unfold b_arcs_261
                                refine ⟨fun c102 => ?_, fun c102 => ?_⟩
                                · suffices hs : ∀ (q103 : Int32), q103.toInt = 0 → b_arcs_286 X32 X44 Q l1 l4 l5 l6 l7 l8 x46 x48 r49 r71 r91 q103 σ92 from hs 0 rfl
                                  intro q103 hq103
                                  unfold b_arcs_286
                                  refine ⟨fun c104 => ?_, fun c104 => ?_⟩
                                  · exfalso; omega
                                  · refine ⟨⟨by omega, by omega⟩, ?_⟩
                                    have hM105 := hM93.sa 35 l1 (σ92.1 30) (i3_bd _)
                                    have hE106 := hE94.sa 35 l1 (σ92.1 30) (by decide)
                                    have u107 : ((sa σ92 35 l1 (σ92.1 30)).1 30).toInt = (σ92.1 30).toInt := rfl
                                    have w108 : (rd (sa σ92 35 l1 (σ92.1 30)) 35 l1).toInt = (σ92.1 30).toInt := by rw [rd_sa]
                                    exact hq (sa σ92 35 l1 (σ92.1 30)) hM105 hE106
                                · refine rg_lookUp ⟨by omega, by omega⟩ ⟨by decide, by decide⟩ ⟨by omega, by omega⟩ ⟨by omega, by omega⟩ hM93 (fun r109 σ110 br109 hM111 hE112o => ?_)
                                  have hE112 := hE94.of hE112o (by decide) (by decide)
                                  have u113 : (rd σ110 3 l1).toInt = (rd σ92 3 l1).toInt := by unfold rd; rw [hE112o.2 3 (by decide)]
                                  have u114 : (rd σ110 2 l1).toInt = (rd σ92 2 l1).toInt := by unfold rd; rw [hE112o.2 2 (by decide)]
                                  have u115 : (rd σ110 7 y23).toInt = (rd σ92 7 y23).toInt := by unfold rd; rw [hE112o.2 7 (by decide)]
                                  have u116 : (rd σ110 34 q25).toInt = (rd σ92 34 q25).toInt := by unfold rd; rw [hE112o.2 34 (by decide)]
                                  have u117 : (rd σ110 38 y34).toInt = (rd σ92 38 y34).toInt := by unfold rd; rw [hE112o.2 38 (by decide)]
                                  have u118 : (rd σ110 39 y39).toInt = (rd σ92 39 y39).toInt := by unfold rd; rw [hE112o.2 39 (by decide)]
                                  have u119 : (rd σ110 4 l1).toInt = (rd σ92 4 l1).toInt := by unfold rd; rw [hE112o.2 4 (by decide)]
                                  unfold b_arcs_286
                                  refine ⟨fun c120 => ?_, fun c120 => ?_⟩
                                  · refine ⟨fun c121 => ?_, fun c121 => ?_⟩
                                    · suffices hs : ∀ (q122 : Int32), q122.toInt = 0 → b_arcs_323 X32 X44 Q l1 l4 l5 l6 l7 l8 x46 r49 r71 r91 r109 q122 σ110 from hs 0 rfl
                                      intro q122 hq122
                                      unfold b_arcs_323
                                      have f123 : 0 ≤ (σ110.1 18).toInt ∧ (σ110.1 18).toInt ≤ 500 := hM111.1 18
                                      generalize ey124 : (1000 + (σ110.1 18)) = y124
                                      replace ey124 := ey124.symm
                                      have ty124 : y124.toInt = 1000 + (σ110.1 18).toInt := i3_addc rfl rfl ey124 (by omega)
                                      clear ey124
                                      have bd125 := i3_bd (((((((r49).toInt64) * ((y124).toInt64)) + (999 : Int64)) / (1000 : Int64))).toInt32)
                                      generalize ey126 : ((((((((r49).toInt64) * ((y124).toInt64)) + (999 : Int64)) / (1000 : Int64))).toInt32) + q122) = y126
                                      replace ey126 := ey126.symm
                                      have ty126 : y126.toInt = ((((((r49).toInt64) * ((y124).toInt64)) + (999 : Int64)) / (1000 : Int64))).toInt32.toInt + q122.toInt := i3_addc rfl rfl ey126 (by omega)
                                      clear ey126
                                      refine ⟨⟨by omega, by omega⟩, ?_⟩
                                      have hM127 := hM111.sa 36 x46 y126 (i3_bd _)
                                      have hE128 := hE112.sa 36 x46 y126 (by decide)
                                      have u129 : ((sa σ110 36 x46 y126).1 30).toInt = (σ110.1 30).toInt := rfl
                                      have u130 : ((sa σ110 36 x46 y126).1 18).toInt = (σ110.1 18).toInt := rfl
                                      have w131 : (rd (sa σ110 36 x46 y126) 36 x46).toInt = y126.toInt := by rw [rd_sa]
                                      have f132 : 0 ≤ ((sa σ110 36 x46 y126).1 19).toInt ∧ ((sa σ110 36 x46 y126).1 19).toInt ≤ 500 := hM127.1 19
                                      generalize ey133 : (1000 - ((sa σ110 36 x46 y126).1 19)) = y133
                                      replace ey133 := ey133.symm
                                      have ty133 : y133.toInt = 1000 - ((sa σ110 36 x46 y126).1 19).toInt := i3_subc rfl rfl ey133 (by omega)
                                      clear ey133
                                      have bd134 := i3_bd ((((((r91).toInt64) * ((y133).toInt64)) / (1000 : Int64))).toInt32)
                                      generalize ey135 : (((((((r91).toInt64) * ((y133).toInt64)) / (1000 : Int64))).toInt32) + q122) = y135
                                      replace ey135 := ey135.symm
                                      have ty135 : y135.toInt = (((((r91).toInt64) * ((y133).toInt64)) / (1000 : Int64))).toInt32.toInt + q122.toInt := i3_addc rfl rfl ey135 (by omega)
                                      clear ey135
                                      refine ⟨⟨by omega, by omega⟩, ?_⟩
                                      have hM136 := hM127.sa 37 x46 y135 (i3_bd _)
                                      have hE137 := hE128.sa 37 x46 y135 (by decide)
                                      have u138 : ((sa (sa σ110 36 x46 y126) 37 x46 y135).1 30).toInt = ((sa σ110 36 x46 y126).1 30).toInt := rfl
                                      have u139 : ((sa (sa σ110 36 x46 y126) 37 x46 y135).1 18).toInt = ((sa σ110 36 x46 y126).1 18).toInt := rfl
                                      have u140 : ((sa (sa σ110 36 x46 y126) 37 x46 y135).1 19).toInt = ((sa σ110 36 x46 y126).1 19).toInt := rfl
                                      have w141 : (rd (sa (sa σ110 36 x46 y126) 37 x46 y135) 37 x46).toInt = y135.toInt := by rw [rd_sa]
                                      generalize ey142 : (2 * l1) = y142
                                      replace ey142 := ey142.symm
                                      have ty142 : y142.toInt = 2 * l1.toInt := i3_mulc rfl rfl ey142 (by omega)
                                      clear ey142
                                      generalize ey143 : (y142 + l6) = y143
                                      replace ey143 := ey143.symm
                                      have ty143 : y143.toInt = y142.toInt + l6.toInt := i3_addc rfl rfl ey143 (by omega)
                                      clear ey143
                                      refine ⟨fun c144 => ?_, fun c144 => ?_⟩
                                      · unfold b_arcs_421
                                        refine ⟨⟨by omega, by omega⟩, ?_⟩
                                        have hM145 := hM136.sa 38 y143 r71 (show 0 ≤ r71.toInt ∧ r71.toInt ≤ 100000 by omega)
                                        have hE146 := hE137.sa 38 y143 r71 (by decide)
                                        have u147 : ((sa (sa (sa σ110 36 x46 y126) 37 x46 y135) 38 y143 r71).1 30).toInt = ((sa (sa σ110 36 x46 y126) 37 x46 y135).1 30).toInt := rfl
                                        have u148 : ((sa (sa (sa σ110 36 x46 y126) 37 x46 y135) 38 y143 r71).1 18).toInt = ((sa (sa σ110 36 x46 y126) 37 x46 y135).1 18).toInt := rfl
                                        have u149 : ((sa (sa (sa σ110 36 x46 y126) 37 x46 y135) 38 y143 r71).1 19).toInt = ((sa (sa σ110 36 x46 y126) 37 x46 y135).1 19).toInt := rfl
                                        have w150 : (rd (sa (sa (sa σ110 36 x46 y126) 37 x46 y135) 38 y143 r71) 38 y143).toInt = r71.toInt := by rw [rd_sa]
                                        generalize ey151 : (2 * l1) = y151
                                        replace ey151 := ey151.symm
                                        have ty151 : y151.toInt = 2 * l1.toInt := i3_mulc rfl rfl ey151 (by omega)
                                        clear ey151
                                        generalize ey152 : (y151 + l6) = y152
                                        replace ey152 := ey152.symm
                                        have ty152 : y152.toInt = y151.toInt + l6.toInt := i3_addc rfl rfl ey152 (by omega)
                                        clear ey152
                                        refine ⟨fun c153 => ?_, fun c153 => ?_⟩
                                        · unfold b_arcs_458
                                          refine ⟨⟨by omega, by omega⟩, ?_⟩
                                          have hM154 := hM145.sa 39 y152 r109 (show 0 ≤ r109.toInt ∧ r109.toInt ≤ 100000 by omega)
                                          have hE155 := hE146.sa 39 y152 r109 (by decide)
                                          have u156 : ((sa (sa (sa (sa σ110 36 x46 y126) 37 x46 y135) 38 y143 r71) 39 y152 r109).1 30).toInt = ((sa (sa (sa σ110 36 x46 y126) 37 x46 y135) 38 y143 r71).1 30).toInt := rfl
                                          have u157 : ((sa (sa (sa (sa σ110 36 x46 y126) 37 x46 y135) 38 y143 r71) 39 y152 r109).1 18).toInt = ((sa (sa (sa σ110 36 x46 y126) 37 x46 y135) 38 y143 r71).1 18).toInt := rfl
                                          have u158 : ((sa (sa (sa (sa σ110 36 x46 y126) 37 x46 y135) 38 y143 r71) 39 y152 r109).1 19).toInt = ((sa (sa (sa σ110 36 x46 y126) 37 x46 y135) 38 y143 r71).1 19).toInt := rfl
                                          have w159 : (rd (sa (sa (sa (sa σ110 36 x46 y126) 37 x46 y135) 38 y143 r71) 39 y152 r109) 39 y152).toInt = r109.toInt := by rw [rd_sa]
                                          suffices hs : ∀ (q160 : Int32), q160.toInt = 1 → b_arcs_462 X32 X44 Q l1 l4 l5 l6 q160 l8 (sa (sa (sa (sa σ110 36 x46 y126) 37 x46 y135) 38 y143 r71) 39 y152 r109) from hs 1 rfl
                                          intro q160 hq160
                                          unfold b_arcs_462
                                          generalize ey161 : (l8 + 1) = y161
                                          replace ey161 := ey161.symm
                                          have ty161 : y161.toInt = l8.toInt + 1 := i3_addc rfl rfl ey161 (by omega)
                                          clear ey161
                                          exact ih_n16 l1 l4 l5 l6 q160 y161 (sa (sa (sa (sa σ110 36 x46 y126) 37 x46 y135) 38 y143 r71) 39 y152 r109) (by omega) (by first | omega | decide | (have e0 : (0 : Int32).toInt = 0 := rfl; omega)) (by first | omega | decide | (have e0 : (0 : Int32).toInt = 0 := rfl; omega)) (by first | omega | decide | (have e0 : (0 : Int32).toInt = 0 := rfl; omega)) (by first | omega | decide | (have e0 : (0 : Int32).toInt = 0 := rfl; omega)) (by first | omega | decide | (have e0 : (0 : Int32).toInt = 0 := rfl; omega)) (by first | omega | decide | (have e0 : (0 : Int32).toInt = 0 := rfl; omega)) (by first | omega | decide | (have e0 : (0 : Int32).toInt = 0 := rfl; omega)) hM154 hE155
                                        · exfalso; omega
                                      · refine ⟨⟨by omega, by omega⟩, ?_⟩
                                        have a162 : 0 ≤ (rd (sa (sa σ110 36 x46 y126) 37 x46 y135) 38 y143).toInt ∧ (rd (sa (sa σ110 36 x46 y126) 37 x46 y135) 38 y143).toInt ≤ 100000 := hM136.2 38 _
                                        have m163 : ((imax (rd (sa (sa σ110 36 x46 y126) 37 x46 y135) 38 y143) r71).toInt ≥ (rd (sa (sa σ110 36 x46 y126) 37 x46 y135) 38 y143).toInt ∧ (imax (rd (sa (sa σ110 36 x46 y126) 37 x46 y135) 38 y143) r71).toInt ≥ r71.toInt) ∧ ((imax (rd (sa (sa σ110 36 x46 y126) 37 x46 y135) 38 y143) r71).toInt = (rd (sa (sa σ110 36 x46 y126) 37 x46 y135) 38 y143).toInt ∨ (imax (rd (sa (sa σ110 36 x46 y126) 37 x46 y135) 38 y143) r71).toInt = r71.toInt) := i3_max rfl
                                        suffices hs : ∀ (q164 : Int32), q164.toInt = (imax (rd (sa (sa σ110 36 x46 y126) 37 x46 y135) 38 y143) r71).toInt → b_arcs_421 X32 X44 Q l1 l4 l5 l6 l7 l8 r109 q164 y143 (sa (sa σ110 36 x46 y126) 37 x46 y135) from hs (imax (rd (sa (sa σ110 36 x46 y126) 37 x46 y135) 38 y143) r71) rfl
                                        intro q164 hq164
                                        unfold b_arcs_421
                                        refine ⟨⟨by omega, by omega⟩, ?_⟩
                                        have hM165 := hM136.sa 38 y143 q164 (show 0 ≤ q164.toInt ∧ q164.toInt ≤ 100000 by omega)
                                        have hE166 := hE137.sa 38 y143 q164 (by decide)
                                        have u167 : ((sa (sa (sa σ110 36 x46 y126) 37 x46 y135) 38 y143 q164).1 30).toInt = ((sa (sa σ110 36 x46 y126) 37 x46 y135).1 30).toInt := rfl
                                        have u168 : ((sa (sa (sa σ110 36 x46 y126) 37 x46 y135) 38 y143 q164).1 18).toInt = ((sa (sa σ110 36 x46 y126) 37 x46 y135).1 18).toInt := rfl
                                        have u169 : ((sa (sa (sa σ110 36 x46 y126) 37 x46 y135) 38 y143 q164).1 19).toInt = ((sa (sa σ110 36 x46 y126) 37 x46 y135).1 19).toInt := rfl
                                        have w170 : (rd (sa (sa (sa σ110 36 x46 y126) 37 x46 y135) 38 y143 q164) 38 y143).toInt = q164.toInt := by rw [rd_sa]
                                        generalize ey171 : (2 * l1) = y171
                                        replace ey171 := ey171.symm
                                        have ty171 : y171.toInt = 2 * l1.toInt := i3_mulc rfl rfl ey171 (by omega)
                                        clear ey171
                                        generalize ey172 : (y171 + l6) = y172
                                        replace ey172 := ey172.symm
                                        have ty172 : y172.toInt = y171.toInt + l6.toInt := i3_addc rfl rfl ey172 (by omega)
                                        clear ey172
                                        refine ⟨fun c173 => ?_, fun c173 => ?_⟩
                                        · exfalso; omega
                                        · refine ⟨⟨by omega, by omega⟩, ?_⟩
                                          have a174 : 0 ≤ (rd (sa (sa (sa σ110 36 x46 y126) 37 x46 y135) 38 y143 q164) 39 y172).toInt ∧ (rd (sa (sa (sa σ110 36 x46 y126) 37 x46 y135) 38 y143 q164) 39 y172).toInt ≤ 100000 := hM165.2 39 _
                                          have m175 : ((imin (rd (sa (sa (sa σ110 36 x46 y126) 37 x46 y135) 38 y143 q164) 39 y172) r109).toInt ≤ (rd (sa (sa (sa σ110 36 x46 y126) 37 x46 y135) 38 y143 q164) 39 y172).toInt ∧ (imin (rd (sa (sa (sa σ110 36 x46 y126) 37 x46 y135) 38 y143 q164) 39 y172) r109).toInt ≤ r109.toInt) ∧ ((imin (rd (sa (sa (sa σ110 36 x46 y126) 37 x46 y135) 38 y143 q164) 39 y172) r109).toInt = (rd (sa (sa (sa σ110 36 x46 y126) 37 x46 y135) 38 y143 q164) 39 y172).toInt ∨ (imin (rd (sa (sa (sa σ110 36 x46 y126) 37 x46 y135) 38 y143 q164) 39 y172) r109).toInt = r109.toInt) := i3_min rfl
                                          suffices hs : ∀ (q176 : Int32), q176.toInt = (imin (rd (sa (sa (sa σ110 36 x46 y126) 37 x46 y135) 38 y143 q164) 39 y172) r109).toInt → b_arcs_458 X32 X44 Q l1 l4 l5 l6 l8 q176 y172 (sa (sa (sa σ110 36 x46 y126) 37 x46 y135) 38 y143 q164) from hs (imin (rd (sa (sa (sa σ110 36 x46 y126) 37 x46 y135) 38 y143 q164) 39 y172) r109) rfl
                                          intro q176 hq176
                                          unfold b_arcs_458
                                          refine ⟨⟨by omega, by omega⟩, ?_⟩
                                          have hM177 := hM165.sa 39 y172 q176 (show 0 ≤ q176.toInt ∧ q176.toInt ≤ 100000 by omega)
                                          have hE178 := hE166.sa 39 y172 q176 (by decide)
                                          have u179 : ((sa (sa (sa (sa σ110 36 x46 y126) 37 x46 y135) 38 y143 q164) 39 y172 q176).1 30).toInt = ((sa (sa (sa σ110 36 x46 y126) 37 x46 y135) 38 y143 q164).1 30).toInt := rfl
                                          have u180 : ((sa (sa (sa (sa σ110 36 x46 y126) 37 x46 y135) 38 y143 q164) 39 y172 q176).1 18).toInt = ((sa (sa (sa σ110 36 x46 y126) 37 x46 y135) 38 y143 q164).1 18).toInt := rfl
                                          have u181 : ((sa (sa (sa (sa σ110 36 x46 y126) 37 x46 y135) 38 y143 q164) 39 y172 q176).1 19).toInt = ((sa (sa (sa σ110 36 x46 y126) 37 x46 y135) 38 y143 q164).1 19).toInt := rfl
                                          have w182 : (rd (sa (sa (sa (sa σ110 36 x46 y126) 37 x46 y135) 38 y143 q164) 39 y172 q176) 39 y172).toInt = q176.toInt := by rw [rd_sa]
                                          suffices hs : ∀ (q183 : Int32), q183.toInt = 1 → b_arcs_462 X32 X44 Q l1 l4 l5 l6 q183 l8 (sa (sa (sa (sa σ110 36 x46 y126) 37 x46 y135) 38 y143 q164) 39 y172 q176) from hs 1 rfl
                                          intro q183 hq183
                                          unfold b_arcs_462
                                          generalize ey184 : (l8 + 1) = y184
                                          replace ey184 := ey184.symm
                                          have ty184 : y184.toInt = l8.toInt + 1 := i3_addc rfl rfl ey184 (by omega)
                                          clear ey184
                                          exact ih_n16 l1 l4 l5 l6 q183 y184 (sa (sa (sa (sa σ110 36 x46 y126) 37 x46 y135) 38 y143 q164) 39 y172 q176) (by omega) (by first | omega | decide | (have e0 : (0 : Int32).toInt = 0 := rfl; omega)) (by first | omega | decide | (have e0 : (0 : Int32).toInt = 0 := rfl; omega)) (by first | omega | decide | (have e0 : (0 : Int32).toInt = 0 := rfl; omega)) (by first | omega | decide | (have e0 : (0 : Int32).toInt = 0 := rfl; omega)) (by first | omega | decide | (have e0 : (0 : Int32).toInt = 0 := rfl; omega)) (by first | omega | decide | (have e0 : (0 : Int32).toInt = 0 := rfl; omega)) (by first | omega | decide | (have e0 : (0 : Int32).toInt = 0 := rfl; omega)) hM177 hE178
                                    · refine ⟨⟨by omega, by omega⟩, ?_⟩
                                      have a185 : 0 ≤ (rd σ110 17 x48).toInt ∧ (rd σ110 17 x48).toInt ≤ 1000 := hM111.2 17 _
                                      suffices hs : ∀ (q186 : Int32), q186.toInt = (rd σ110 17 x48).toInt → b_arcs_323 X32 X44 Q l1 l4 l5 l6 l7 l8 x46 r49 r71 r91 r109 q186 σ110 from hs (rd σ110 17 x48) rfl
                                      intro q186 hq186
                                      unfold b_arcs_323
                                      have f187 : 0 ≤ (σ110.1 18).toInt ∧ (σ110.1 18).toInt ≤ 500 := hM111.1 18
                                      generalize ey188 : (1000 + (σ110.1 18)) = y188
                                      replace ey188 := ey188.symm
                                      have ty188 : y188.toInt = 1000 + (σ110.1 18).toInt := i3_addc rfl rfl ey188 (by omega)
                                      clear ey188
                                      have bd189 := i3_bd (((((((r49).toInt64) * ((y188).toInt64)) + (999 : Int64)) / (1000 : Int64))).toInt32)
                                      generalize ey190 : ((((((((r49).toInt64) * ((y188).toInt64)) + (999 : Int64)) / (1000 : Int64))).toInt32) + q186) = y190
                                      replace ey190 := ey190.symm
                                      clear ey190
                                      refine ⟨⟨by omega, by omega⟩, ?_⟩
                                      have hM191 := hM111.sa 36 x46 y190 (i3_bd _)
                                      have hE192 := hE112.sa 36 x46 y190 (by decide)
                                      have u193 : ((sa σ110 36 x46 y190).1 30).toInt = (σ110.1 30).toInt := rfl
                                      have u194 : ((sa σ110 36 x46 y190).1 18).toInt = (σ110.1 18).toInt := rfl
                                      have w195 : (rd (sa σ110 36 x46 y190) 36 x46).toInt = y190.toInt := by rw [rd_sa]
                                      have f196 : 0 ≤ ((sa σ110 36 x46 y190).1 19).toInt ∧ ((sa σ110 36 x46 y190).1 19).toInt ≤ 500 := hM191.1 19
                                      generalize ey197 : (1000 - ((sa σ110 36 x46 y190).1 19)) = y197
                                      replace ey197 := ey197.symm
                                      have ty197 : y197.toInt = 1000 - ((sa σ110 36 x46 y190).1 19).toInt := i3_subc rfl rfl ey197 (by omega)
                                      clear ey197
                                      have bd198 := i3_bd ((((((r91).toInt64) * ((y197).toInt64)) / (1000 : Int64))).toInt32)
                                      generalize ey199 : (((((((r91).toInt64) * ((y197).toInt64)) / (1000 : Int64))).toInt32) + q186) = y199
                                      replace ey199 := ey199.symm
                                      clear ey199
                                      refine ⟨⟨by omega, by omega⟩, ?_⟩
                                      have hM200 := hM191.sa 37 x46 y199 (i3_bd _)
                                      have hE201 := hE192.sa 37 x46 y199 (by decide)
                                      have u202 : ((sa (sa σ110 36 x46 y190) 37 x46 y199).1 30).toInt = ((sa σ110 36 x46 y190).1 30).toInt := rfl
                                      have u203 : ((sa (sa σ110 36 x46 y190) 37 x46 y199).1 18).toInt = ((sa σ110 36 x46 y190).1 18).toInt := rfl
                                      have u204 : ((sa (sa σ110 36 x46 y190) 37 x46 y199).1 19).toInt = ((sa σ110 36 x46 y190).1 19).toInt := rfl
                                      have w205 : (rd (sa (sa σ110 36 x46 y190) 37 x46 y199) 37 x46).toInt = y199.toInt := by rw [rd_sa]
                                      generalize ey206 : (2 * l1) = y206
                                      replace ey206 := ey206.symm
                                      have ty206 : y206.toInt = 2 * l1.toInt := i3_mulc rfl rfl ey206 (by omega)
                                      clear ey206
                                      generalize ey207 : (y206 + l6) = y207
                                      replace ey207 := ey207.symm
                                      have ty207 : y207.toInt = y206.toInt + l6.toInt := i3_addc rfl rfl ey207 (by omega)
                                      clear ey207
                                      refine ⟨fun c208 => ?_, fun c208 => ?_⟩
                                      · unfold b_arcs_421
                                        refine ⟨⟨by omega, by omega⟩, ?_⟩
                                        have hM209 := hM200.sa 38 y207 r71 (show 0 ≤ r71.toInt ∧ r71.toInt ≤ 100000 by omega)
                                        have hE210 := hE201.sa 38 y207 r71 (by decide)
                                        have u211 : ((sa (sa (sa σ110 36 x46 y190) 37 x46 y199) 38 y207 r71).1 30).toInt = ((sa (sa σ110 36 x46 y190) 37 x46 y199).1 30).toInt := rfl
                                        have u212 : ((sa (sa (sa σ110 36 x46 y190) 37 x46 y199) 38 y207 r71).1 18).toInt = ((sa (sa σ110 36 x46 y190) 37 x46 y199).1 18).toInt := rfl
                                        have u213 : ((sa (sa (sa σ110 36 x46 y190) 37 x46 y199) 38 y207 r71).1 19).toInt = ((sa (sa σ110 36 x46 y190) 37 x46 y199).1 19).toInt := rfl
                                        have w214 : (rd (sa (sa (sa σ110 36 x46 y190) 37 x46 y199) 38 y207 r71) 38 y207).toInt = r71.toInt := by rw [rd_sa]
                                        generalize ey215 : (2 * l1) = y215
                                        replace ey215 := ey215.symm
                                        have ty215 : y215.toInt = 2 * l1.toInt := i3_mulc rfl rfl ey215 (by omega)
                                        clear ey215
                                        generalize ey216 : (y215 + l6) = y216
                                        replace ey216 := ey216.symm
                                        have ty216 : y216.toInt = y215.toInt + l6.toInt := i3_addc rfl rfl ey216 (by omega)
                                        clear ey216
                                        refine ⟨fun c217 => ?_, fun c217 => ?_⟩
                                        · unfold b_arcs_458
                                          refine ⟨⟨by omega, by omega⟩, ?_⟩
                                          have hM218 := hM209.sa 39 y216 r109 (show 0 ≤ r109.toInt ∧ r109.toInt ≤ 100000 by omega)
                                          have hE219 := hE210.sa 39 y216 r109 (by decide)
                                          have u220 : ((sa (sa (sa (sa σ110 36 x46 y190) 37 x46 y199) 38 y207 r71) 39 y216 r109).1 30).toInt = ((sa (sa (sa σ110 36 x46 y190) 37 x46 y199) 38 y207 r71).1 30).toInt := rfl
                                          have u221 : ((sa (sa (sa (sa σ110 36 x46 y190) 37 x46 y199) 38 y207 r71) 39 y216 r109).1 18).toInt = ((sa (sa (sa σ110 36 x46 y190) 37 x46 y199) 38 y207 r71).1 18).toInt := rfl
                                          have u222 : ((sa (sa (sa (sa σ110 36 x46 y190) 37 x46 y199) 38 y207 r71) 39 y216 r109).1 19).toInt = ((sa (sa (sa σ110 36 x46 y190) 37 x46 y199) 38 y207 r71).1 19).toInt := rfl
                                          have w223 : (rd (sa (sa (sa (sa σ110 36 x46 y190) 37 x46 y199) 38 y207 r71) 39 y216 r109) 39 y216).toInt = r109.toInt := by rw [rd_sa]
                                          suffices hs : ∀ (q224 : Int32), q224.toInt = 1 → b_arcs_462 X32 X44 Q l1 l4 l5 l6 q224 l8 (sa (sa (sa (sa σ110 36 x46 y190) 37 x46 y199) 38 y207 r71) 39 y216 r109) from hs 1 rfl
                                          intro q224 hq224
                                          unfold b_arcs_462
                                          generalize ey225 : (l8 + 1) = y225
                                          replace ey225 := ey225.symm
                                          have ty225 : y225.toInt = l8.toInt + 1 := i3_addc rfl rfl ey225 (by omega)
                                          clear ey225
                                          exact ih_n16 l1 l4 l5 l6 q224 y225 (sa (sa (sa (sa σ110 36 x46 y190) 37 x46 y199) 38 y207 r71) 39 y216 r109) (by omega) (by first | omega | decide | (have e0 : (0 : Int32).toInt = 0 := rfl; omega)) (by first | omega | decide | (have e0 : (0 : Int32).toInt = 0 := rfl; omega)) (by first | omega | decide | (have e0 : (0 : Int32).toInt = 0 := rfl; omega)) (by first | omega | decide | (have e0 : (0 : Int32).toInt = 0 := rfl; omega)) (by first | omega | decide | (have e0 : (0 : Int32).toInt = 0 := rfl; omega)) (by first | omega | decide | (have e0 : (0 : Int32).toInt = 0 := rfl; omega)) (by first | omega | decide | (have e0 : (0 : Int32).toInt = 0 := rfl; omega)) hM218 hE219
                                        · exfalso; omega
                                      · refine ⟨⟨by omega, by omega⟩, ?_⟩
                                        have a226 : 0 ≤ (rd (sa (sa σ110 36 x46 y190) 37 x46 y199) 38 y207).toInt ∧ (rd (sa (sa σ110 36 x46 y190) 37 x46 y199) 38 y207).toInt ≤ 100000 := hM200.2 38 _
                                        have m227 : ((imax (rd (sa (sa σ110 36 x46 y190) 37 x46 y199) 38 y207) r71).toInt ≥ (rd (sa (sa σ110 36 x46 y190) 37 x46 y199) 38 y207).toInt ∧ (imax (rd (sa (sa σ110 36 x46 y190) 37 x46 y199) 38 y207) r71).toInt ≥ r71.toInt) ∧ ((imax (rd (sa (sa σ110 36 x46 y190) 37 x46 y199) 38 y207) r71).toInt = (rd (sa (sa σ110 36 x46 y190) 37 x46 y199) 38 y207).toInt ∨ (imax (rd (sa (sa σ110 36 x46 y190) 37 x46 y199) 38 y207) r71).toInt = r71.toInt) := i3_max rfl
                                        suffices hs : ∀ (q228 : Int32), q228.toInt = (imax (rd (sa (sa σ110 36 x46 y190) 37 x46 y199) 38 y207) r71).toInt → b_arcs_421 X32 X44 Q l1 l4 l5 l6 l7 l8 r109 q228 y207 (sa (sa σ110 36 x46 y190) 37 x46 y199) from hs (imax (rd (sa (sa σ110 36 x46 y190) 37 x46 y199) 38 y207) r71) rfl
                                        intro q228 hq228
                                        unfold b_arcs_421
                                        refine ⟨⟨by omega, by omega⟩, ?_⟩
                                        have hM229 := hM200.sa 38 y207 q228 (show 0 ≤ q228.toInt ∧ q228.toInt ≤ 100000 by omega)
                                        have hE230 := hE201.sa 38 y207 q228 (by decide)
                                        have u231 : ((sa (sa (sa σ110 36 x46 y190) 37 x46 y199) 38 y207 q228).1 30).toInt = ((sa (sa σ110 36 x46 y190) 37 x46 y199).1 30).toInt := rfl
                                        have u232 : ((sa (sa (sa σ110 36 x46 y190) 37 x46 y199) 38 y207 q228).1 18).toInt = ((sa (sa σ110 36 x46 y190) 37 x46 y199).1 18).toInt := rfl
                                        have u233 : ((sa (sa (sa σ110 36 x46 y190) 37 x46 y199) 38 y207 q228).1 19).toInt = ((sa (sa σ110 36 x46 y190) 37 x46 y199).1 19).toInt := rfl
                                        have w234 : (rd (sa (sa (sa σ110 36 x46 y190) 37 x46 y199) 38 y207 q228) 38 y207).toInt = q228.toInt := by rw [rd_sa]
                                        generalize ey235 : (2 * l1) = y235
                                        replace ey235 := ey235.symm
                                        have ty235 : y235.toInt = 2 * l1.toInt := i3_mulc rfl rfl ey235 (by omega)
                                        clear ey235
                                        generalize ey236 : (y235 + l6) = y236
                                        replace ey236 := ey236.symm
                                        have ty236 : y236.toInt = y235.toInt + l6.toInt := i3_addc rfl rfl ey236 (by omega)
                                        clear ey236
                                        refine ⟨fun c237 => ?_, fun c237 => ?_⟩
                                        · exfalso; omega
                                        · refine ⟨⟨by omega, by omega⟩, ?_⟩
                                          have a238 : 0 ≤ (rd (sa (sa (sa σ110 36 x46 y190) 37 x46 y199) 38 y207 q228) 39 y236).toInt ∧ (rd (sa (sa (sa σ110 36 x46 y190) 37 x46 y199) 38 y207 q228) 39 y236).toInt ≤ 100000 := hM229.2 39 _
                                          have m239 : ((imin (rd (sa (sa (sa σ110 36 x46 y190) 37 x46 y199) 38 y207 q228) 39 y236) r109).toInt ≤ (rd (sa (sa (sa σ110 36 x46 y190) 37 x46 y199) 38 y207 q228) 39 y236).toInt ∧ (imin (rd (sa (sa (sa σ110 36 x46 y190) 37 x46 y199) 38 y207 q228) 39 y236) r109).toInt ≤ r109.toInt) ∧ ((imin (rd (sa (sa (sa σ110 36 x46 y190) 37 x46 y199) 38 y207 q228) 39 y236) r109).toInt = (rd (sa (sa (sa σ110 36 x46 y190) 37 x46 y199) 38 y207 q228) 39 y236).toInt ∨ (imin (rd (sa (sa (sa σ110 36 x46 y190) 37 x46 y199) 38 y207 q228) 39 y236) r109).toInt = r109.toInt) := i3_min rfl
                                          suffices hs : ∀ (q240 : Int32), q240.toInt = (imin (rd (sa (sa (sa σ110 36 x46 y190) 37 x46 y199) 38 y207 q228) 39 y236) r109).toInt → b_arcs_458 X32 X44 Q l1 l4 l5 l6 l8 q240 y236 (sa (sa (sa σ110 36 x46 y190) 37 x46 y199) 38 y207 q228) from hs (imin (rd (sa (sa (sa σ110 36 x46 y190) 37 x46 y199) 38 y207 q228) 39 y236) r109) rfl
                                          intro q240 hq240
                                          unfold b_arcs_458
                                          refine ⟨⟨by omega, by omega⟩, ?_⟩
                                          have hM241 := hM229.sa 39 y236 q240 (show 0 ≤ q240.toInt ∧ q240.toInt ≤ 100000 by omega)
                                          have hE242 := hE230.sa 39 y236 q240 (by decide)
                                          have u243 : ((sa (sa (sa (sa σ110 36 x46 y190) 37 x46 y199) 38 y207 q228) 39 y236 q240).1 30).toInt = ((sa (sa (sa σ110 36 x46 y190) 37 x46 y199) 38 y207 q228).1 30).toInt := rfl
                                          have u244 : ((sa (sa (sa (sa σ110 36 x46 y190) 37 x46 y199) 38 y207 q228) 39 y236 q240).1 18).toInt = ((sa (sa (sa σ110 36 x46 y190) 37 x46 y199) 38 y207 q228).1 18).toInt := rfl
                                          have u245 : ((sa (sa (sa (sa σ110 36 x46 y190) 37 x46 y199) 38 y207 q228) 39 y236 q240).1 19).toInt = ((sa (sa (sa σ110 36 x46 y190) 37 x46 y199) 38 y207 q228).1 19).toInt := rfl
                                          have w246 : (rd (sa (sa (sa (sa σ110 36 x46 y190) 37 x46 y199) 38 y207 q228) 39 y236 q240) 39 y236).toInt = q240.toInt := by rw [rd_sa]
                                          suffices hs : ∀ (q247 : Int32), q247.toInt = 1 → b_arcs_462 X32 X44 Q l1 l4 l5 l6 q247 l8 (sa (sa (sa (sa σ110 36 x46 y190) 37 x46 y199) 38 y207 q228) 39 y236 q240) from hs 1 rfl
                                          intro q247 hq247
                                          unfold b_arcs_462
                                          generalize ey248 : (l8 + 1) = y248
                                          replace ey248 := ey248.symm
                                          have ty248 : y248.toInt = l8.toInt + 1 := i3_addc rfl rfl ey248 (by omega)
                                          clear ey248
                                          exact ih_n16 l1 l4 l5 l6 q247 y248 (sa (sa (sa (sa σ110 36 x46 y190) 37 x46 y199) 38 y207 q228) 39 y236 q240) (by omega) (by first | omega | decide | (have e0 : (0 : Int32).toInt = 0 := rfl; omega)) (by first | omega | decide | (have e0 : (0 : Int32).toInt = 0 := rfl; omega)) (by first | omega | decide | (have e0 : (0 : Int32).toInt = 0 := rfl; omega)) (by first | omega | decide | (have e0 : (0 : Int32).toInt = 0 := rfl; omega)) (by first | omega | decide | (have e0 : (0 : Int32).toInt = 0 := rfl; omega)) (by first | omega | decide | (have e0 : (0 : Int32).toInt = 0 := rfl; omega)) (by first | omega | decide | (have e0 : (0 : Int32).toInt = 0 := rfl; omega)) hM241 hE242
                                  · refine ⟨⟨by omega, by omega⟩, ?_⟩
                                    have hM249 := hM111.sa 35 l1 (σ110.1 30) (i3_bd _)
                                    have hE250 := hE112.sa 35 l1 (σ110.1 30) (by decide)
                                    have u251 : ((sa σ110 35 l1 (σ110.1 30)).1 30).toInt = (σ110.1 30).toInt := rfl
                                    have w252 : (rd (sa σ110 35 l1 (σ110.1 30)) 35 l1).toInt = (σ110.1 30).toInt := by rw [rd_sa]
                                    exact hq (sa σ110 35 l1 (σ110.1 30)) hM249 hE250
                          · exfalso; omega
                        · exfalso; omega
                      · generalize ey253 : (1 - l6) = y253
                        replace ey253 := ey253.symm
                        have ty253 : y253.toInt = 1 - l6.toInt := i3_subc rfl rfl ey253 (by omega)
                        clear ey253
                        unfold b_arcs_129
                        refine ⟨fun c254 => ?_, fun c254 => ?_⟩
                        · generalize ey255 : (2 * q25) = y255
                          replace ey255 := ey255.symm
                          have ty255 : y255.toInt = 2 * q25.toInt := i3_mulc rfl rfl ey255 (by omega)
                          clear ey255
                          generalize ey256 : (y255 + y253) = y256
                          replace ey256 := ey256.symm
                          have ty256 : y256.toInt = y255.toInt + y253.toInt := i3_addc rfl rfl ey256 (by omega)
                          clear ey256
                          refine ⟨⟨by omega, by omega⟩, ?_⟩
                          have a257 : 0 ≤ (rd σ 38 y256).toInt ∧ (rd σ 38 y256).toInt ≤ 100000 := hM.2 38 _
                          suffices hs : ∀ (q258 : Int32), q258.toInt = (rd σ 38 y256).toInt → b_arcs_152 X32 X44 Q l1 l4 l5 l6 l7 l8 q25 y253 q258 σ from hs (rd σ 38 y256) rfl
                          intro q258 hq258
                          unfold b_arcs_152
                          refine ⟨fun c259 => ?_, fun c259 => ?_⟩
                          · generalize ey260 : (2 * q25) = y260
                            replace ey260 := ey260.symm
                            have ty260 : y260.toInt = 2 * q25.toInt := i3_mulc rfl rfl ey260 (by omega)
                            clear ey260
                            generalize ey261 : (y260 + y253) = y261
                            replace ey261 := ey261.symm
                            have ty261 : y261.toInt = y260.toInt + y253.toInt := i3_addc rfl rfl ey261 (by omega)
                            clear ey261
                            refine ⟨⟨by omega, by omega⟩, ?_⟩
                            have a262 : 0 ≤ (rd σ 39 y261).toInt ∧ (rd σ 39 y261).toInt ≤ 100000 := hM.2 39 _
                            suffices hs : ∀ (q263 : Int32), q263.toInt = (rd σ 39 y261).toInt → b_arcs_175 X32 X44 Q l1 l4 l5 l6 l7 l8 q258 q263 σ from hs (rd σ 39 y261) rfl
                            intro q263 hq263
                            unfold b_arcs_175
                            generalize ey264 : (8 * l1) = y264
                            replace ey264 := ey264.symm
                            have ty264 : y264.toInt = 8 * l1.toInt := i3_mulc rfl rfl ey264 (by omega)
                            clear ey264
                            generalize ey265 : (2 * l8) = y265
                            replace ey265 := ey265.symm
                            have ty265 : y265.toInt = 2 * l8.toInt := i3_mulc rfl rfl ey265 (by omega)
                            clear ey265
                            generalize ey266 : (y264 + y265) = y266
                            replace ey266 := ey266.symm
                            have ty266 : y266.toInt = y264.toInt + y265.toInt := i3_addc rfl rfl ey266 (by omega)
                            clear ey266
                            generalize ey267 : (y266 + l6) = y267
                            replace ey267 := ey267.symm
                            have ty267 : y267.toInt = y266.toInt + l6.toInt := i3_addc rfl rfl ey267 (by omega)
                            clear ey267
                            intro x268 ex268
                            have ix268 : x268.toInt = y267.toInt := by rw [ex268]
                            refine ⟨⟨by omega, by omega⟩, ?_⟩
                            have a269 : 0 ≤ (rd σ 4 l1).toInt ∧ (rd σ 4 l1).toInt ≤ 7 := hM.2 4 _
                            intro x270 ex270
                            have ix270 : x270.toInt = (rd σ 4 l1).toInt := by rw [ex270]
                            refine rg_lookUp ⟨by omega, by omega⟩ ⟨by decide, by decide⟩ ⟨by omega, by omega⟩ ⟨by omega, by omega⟩ hM (fun r271 σ272 br271 hM273 hE274o => ?_)
                            have hE274 := hE.of hE274o (by decide) (by decide)
                            have u275 : (rd σ272 3 l1).toInt = (rd σ 3 l1).toInt := by unfold rd; rw [hE274o.2 3 (by decide)]
                            have u276 : (rd σ272 2 l1).toInt = (rd σ 2 l1).toInt := by unfold rd; rw [hE274o.2 2 (by decide)]
                            have u277 : (rd σ272 7 y23).toInt = (rd σ 7 y23).toInt := by unfold rd; rw [hE274o.2 7 (by decide)]
                            have u278 : (rd σ272 34 q25).toInt = (rd σ 34 q25).toInt := by unfold rd; rw [hE274o.2 34 (by decide)]
                            have u279 : (rd σ272 38 y256).toInt = (rd σ 38 y256).toInt := by unfold rd; rw [hE274o.2 38 (by decide)]
                            have u280 : (rd σ272 39 y261).toInt = (rd σ 39 y261).toInt := by unfold rd; rw [hE274o.2 39 (by decide)]
                            have u281 : (rd σ272 4 l1).toInt = (rd σ 4 l1).toInt := by unfold rd; rw [hE274o.2 4 (by decide)]
                            refine ⟨fun c282 => ?_, fun c282 => ?_⟩
                            · suffices hs : ∀ (q283 : Int32), q283.toInt = 0 → b_arcs_236 X32 X44 Q l1 l4 l5 l6 l7 l8 q263 x268 x270 r271 q283 σ272 from hs 0 rfl
                              intro q283 hq283
                              unfold b_arcs_236
                              refine ⟨fun c284 => ?_, fun c284 => ?_⟩
                              · suffices hs : ∀ (q285 : Int32), q285.toInt = 0 → b_arcs_261 X32 X44 Q l1 l4 l5 l6 l7 l8 q263 x268 x270 r271 q283 q285 σ272 from hs 0 rfl
                                intro q285 hq285
                                unfold b_arcs_261
                                refine ⟨fun c286 => ?_, fun c286 => ?_⟩
                                · suffices hs : ∀ (q287 : Int32), q287.toInt = 0 → b_arcs_286 X32 X44 Q l1 l4 l5 l6 l7 l8 x268 x270 r271 q283 q285 q287 σ272 from hs 0 rfl
                                  intro q287 hq287
                                  unfold b_arcs_286
                                  refine ⟨fun c288 => ?_, fun c288 => ?_⟩
                                  · exfalso; omega
                                  · refine ⟨⟨by omega, by omega⟩, ?_⟩
                                    have hM289 := hM273.sa 35 l1 (σ272.1 30) (i3_bd _)
                                    have hE290 := hE274.sa 35 l1 (σ272.1 30) (by decide)
                                    have u291 : ((sa σ272 35 l1 (σ272.1 30)).1 30).toInt = (σ272.1 30).toInt := rfl
                                    have w292 : (rd (sa σ272 35 l1 (σ272.1 30)) 35 l1).toInt = (σ272.1 30).toInt := by rw [rd_sa]
                                    exact hq (sa σ272 35 l1 (σ272.1 30)) hM289 hE290
                                · exfalso; omega
                              · exfalso; omega
                            · refine rg_lookUp ⟨by omega, by omega⟩ ⟨by decide, by decide⟩ ⟨by omega, by omega⟩ ⟨by omega, by omega⟩ hM273 (fun r293 σ294 br293 hM295 hE296o => ?_)
                              have hE296 := hE274.of hE296o (by decide) (by decide)
                              have u297 : (rd σ294 3 l1).toInt = (rd σ272 3 l1).toInt := by unfold rd; rw [hE296o.2 3 (by decide)]
                              have u298 : (rd σ294 2 l1).toInt = (rd σ272 2 l1).toInt := by unfold rd; rw [hE296o.2 2 (by decide)]
                              have u299 : (rd σ294 7 y23).toInt = (rd σ272 7 y23).toInt := by unfold rd; rw [hE296o.2 7 (by decide)]
                              have u300 : (rd σ294 34 q25).toInt = (rd σ272 34 q25).toInt := by unfold rd; rw [hE296o.2 34 (by decide)]
                              have u301 : (rd σ294 38 y256).toInt = (rd σ272 38 y256).toInt := by unfold rd; rw [hE296o.2 38 (by decide)]
                              have u302 : (rd σ294 39 y261).toInt = (rd σ272 39 y261).toInt := by unfold rd; rw [hE296o.2 39 (by decide)]
                              have u303 : (rd σ294 4 l1).toInt = (rd σ272 4 l1).toInt := by unfold rd; rw [hE296o.2 4 (by decide)]
                              unfold b_arcs_236
                              refine ⟨fun c304 => ?_, fun c304 => ?_⟩
                              · suffices hs : ∀ (q305 : Int32), q305.toInt = 0 → b_arcs_261 X32 X44 Q l1 l4 l5 l6 l7 l8 q263 x268 x270 r271 r293 q305 σ294 from hs 0 rfl
                                intro q305 hq305
                                unfold b_arcs_261
                                refine ⟨fun c306 => ?_, fun c306 => ?_⟩
                                · suffices hs : ∀ (q307 : Int32), q307.toInt = 0 → b_arcs_286 X32 X44 Q l1 l4 l5 l6 l7 l8 x268 x270 r271 r293 q305 q307 σ294 from hs 0 rfl
                                  intro q307 hq307
                                  unfold b_arcs_286
                                  refine ⟨fun c308 => ?_, fun c308 => ?_⟩
                                  · exfalso; omega
                                  · refine ⟨⟨by omega, by omega⟩, ?_⟩
                                    have hM309 := hM295.sa 35 l1 (σ294.1 30) (i3_bd _)
                                    have hE310 := hE296.sa 35 l1 (σ294.1 30) (by decide)
                                    have u311 : ((sa σ294 35 l1 (σ294.1 30)).1 30).toInt = (σ294.1 30).toInt := rfl
                                    have w312 : (rd (sa σ294 35 l1 (σ294.1 30)) 35 l1).toInt = (σ294.1 30).toInt := by rw [rd_sa]
                                    exact hq (sa σ294 35 l1 (σ294.1 30)) hM309 hE310
                                · exfalso; omega
                              · refine rg_lookUp ⟨by omega, by omega⟩ ⟨by decide, by decide⟩ ⟨by omega, by omega⟩ ⟨by omega, by omega⟩ hM295 (fun r313 σ314 br313 hM315 hE316o => ?_)
                                have hE316 := hE296.of hE316o (by decide) (by decide)
                                have u317 : (rd σ314 3 l1).toInt = (rd σ294 3 l1).toInt := by unfold rd; rw [hE316o.2 3 (by decide)]
                                have u318 : (rd σ314 2 l1).toInt = (rd σ294 2 l1).toInt := by unfold rd; rw [hE316o.2 2 (by decide)]
                                have u319 : (rd σ314 7 y23).toInt = (rd σ294 7 y23).toInt := by unfold rd; rw [hE316o.2 7 (by decide)]
                                have u320 : (rd σ314 34 q25).toInt = (rd σ294 34 q25).toInt := by unfold rd; rw [hE316o.2 34 (by decide)]
                                have u321 : (rd σ314 38 y256).toInt = (rd σ294 38 y256).toInt := by unfold rd; rw [hE316o.2 38 (by decide)]
                                have u322 : (rd σ314 39 y261).toInt = (rd σ294 39 y261).toInt := by unfold rd; rw [hE316o.2 39 (by decide)]
                                have u323 : (rd σ314 4 l1).toInt = (rd σ294 4 l1).toInt := by unfold rd; rw [hE316o.2 4 (by decide)]
                                unfold b_arcs_261
                                refine ⟨fun c324 => ?_, fun c324 => ?_⟩
                                · suffices hs : ∀ (q325 : Int32), q325.toInt = 0 → b_arcs_286 X32 X44 Q l1 l4 l5 l6 l7 l8 x268 x270 r271 r293 r313 q325 σ314 from hs 0 rfl
                                  intro q325 hq325
                                  unfold b_arcs_286
                                  refine ⟨fun c326 => ?_, fun c326 => ?_⟩
                                  · exfalso; omega
                                  · refine ⟨⟨by omega, by omega⟩, ?_⟩
                                    have hM327 := hM315.sa 35 l1 (σ314.1 30) (i3_bd _)
                                    have hE328 := hE316.sa 35 l1 (σ314.1 30) (by decide)
                                    have u329 : ((sa σ314 35 l1 (σ314.1 30)).1 30).toInt = (σ314.1 30).toInt := rfl
                                    have w330 : (rd (sa σ314 35 l1 (σ314.1 30)) 35 l1).toInt = (σ314.1 30).toInt := by rw [rd_sa]
                                    exact hq (sa σ314 35 l1 (σ314.1 30)) hM327 hE328
                                · refine rg_lookUp ⟨by omega, by omega⟩ ⟨by decide, by decide⟩ ⟨by omega, by omega⟩ ⟨by omega, by omega⟩ hM315 (fun r331 σ332 br331 hM333 hE334o => ?_)
                                  have hE334 := hE316.of hE334o (by decide) (by decide)
                                  have u335 : (rd σ332 3 l1).toInt = (rd σ314 3 l1).toInt := by unfold rd; rw [hE334o.2 3 (by decide)]
                                  have u336 : (rd σ332 2 l1).toInt = (rd σ314 2 l1).toInt := by unfold rd; rw [hE334o.2 2 (by decide)]
                                  have u337 : (rd σ332 7 y23).toInt = (rd σ314 7 y23).toInt := by unfold rd; rw [hE334o.2 7 (by decide)]
                                  have u338 : (rd σ332 34 q25).toInt = (rd σ314 34 q25).toInt := by unfold rd; rw [hE334o.2 34 (by decide)]
                                  have u339 : (rd σ332 38 y256).toInt = (rd σ314 38 y256).toInt := by unfold rd; rw [hE334o.2 38 (by decide)]
                                  have u340 : (rd σ332 39 y261).toInt = (rd σ314 39 y261).toInt := by unfold rd; rw [hE334o.2 39 (by decide)]
                                  have u341 : (rd σ332 4 l1).toInt = (rd σ314 4 l1).toInt := by unfold rd; rw [hE334o.2 4 (by decide)]
                                  unfold b_arcs_286
                                  refine ⟨fun c342 => ?_, fun c342 => ?_⟩
                                  · refine ⟨fun c343 => ?_, fun c343 => ?_⟩
                                    · suffices hs : ∀ (q344 : Int32), q344.toInt = 0 → b_arcs_323 X32 X44 Q l1 l4 l5 l6 l7 l8 x268 r271 r293 r313 r331 q344 σ332 from hs 0 rfl
                                      intro q344 hq344
                                      unfold b_arcs_323
                                      have f345 : 0 ≤ (σ332.1 18).toInt ∧ (σ332.1 18).toInt ≤ 500 := hM333.1 18
                                      generalize ey346 : (1000 + (σ332.1 18)) = y346
                                      replace ey346 := ey346.symm
                                      have ty346 : y346.toInt = 1000 + (σ332.1 18).toInt := i3_addc rfl rfl ey346 (by omega)
                                      clear ey346
                                      have bd347 := i3_bd (((((((r271).toInt64) * ((y346).toInt64)) + (999 : Int64)) / (1000 : Int64))).toInt32)
                                      generalize ey348 : ((((((((r271).toInt64) * ((y346).toInt64)) + (999 : Int64)) / (1000 : Int64))).toInt32) + q344) = y348
                                      replace ey348 := ey348.symm
                                      have ty348 : y348.toInt = ((((((r271).toInt64) * ((y346).toInt64)) + (999 : Int64)) / (1000 : Int64))).toInt32.toInt + q344.toInt := i3_addc rfl rfl ey348 (by omega)
                                      clear ey348
                                      refine ⟨⟨by omega, by omega⟩, ?_⟩
                                      have hM349 := hM333.sa 36 x268 y348 (i3_bd _)
                                      have hE350 := hE334.sa 36 x268 y348 (by decide)
                                      have u351 : ((sa σ332 36 x268 y348).1 30).toInt = (σ332.1 30).toInt := rfl
                                      have u352 : ((sa σ332 36 x268 y348).1 18).toInt = (σ332.1 18).toInt := rfl
                                      have w353 : (rd (sa σ332 36 x268 y348) 36 x268).toInt = y348.toInt := by rw [rd_sa]
                                      have f354 : 0 ≤ ((sa σ332 36 x268 y348).1 19).toInt ∧ ((sa σ332 36 x268 y348).1 19).toInt ≤ 500 := hM349.1 19
                                      generalize ey355 : (1000 - ((sa σ332 36 x268 y348).1 19)) = y355
                                      replace ey355 := ey355.symm
                                      have ty355 : y355.toInt = 1000 - ((sa σ332 36 x268 y348).1 19).toInt := i3_subc rfl rfl ey355 (by omega)
                                      clear ey355
                                      have bd356 := i3_bd ((((((r313).toInt64) * ((y355).toInt64)) / (1000 : Int64))).toInt32)
                                      generalize ey357 : (((((((r313).toInt64) * ((y355).toInt64)) / (1000 : Int64))).toInt32) + q344) = y357
                                      replace ey357 := ey357.symm
                                      have ty357 : y357.toInt = (((((r313).toInt64) * ((y355).toInt64)) / (1000 : Int64))).toInt32.toInt + q344.toInt := i3_addc rfl rfl ey357 (by omega)
                                      clear ey357
                                      refine ⟨⟨by omega, by omega⟩, ?_⟩
                                      have hM358 := hM349.sa 37 x268 y357 (i3_bd _)
                                      have hE359 := hE350.sa 37 x268 y357 (by decide)
                                      have u360 : ((sa (sa σ332 36 x268 y348) 37 x268 y357).1 30).toInt = ((sa σ332 36 x268 y348).1 30).toInt := rfl
                                      have u361 : ((sa (sa σ332 36 x268 y348) 37 x268 y357).1 18).toInt = ((sa σ332 36 x268 y348).1 18).toInt := rfl
                                      have u362 : ((sa (sa σ332 36 x268 y348) 37 x268 y357).1 19).toInt = ((sa σ332 36 x268 y348).1 19).toInt := rfl
                                      have w363 : (rd (sa (sa σ332 36 x268 y348) 37 x268 y357) 37 x268).toInt = y357.toInt := by rw [rd_sa]
                                      generalize ey364 : (2 * l1) = y364
                                      replace ey364 := ey364.symm
                                      have ty364 : y364.toInt = 2 * l1.toInt := i3_mulc rfl rfl ey364 (by omega)
                                      clear ey364
                                      generalize ey365 : (y364 + l6) = y365
                                      replace ey365 := ey365.symm
                                      have ty365 : y365.toInt = y364.toInt + l6.toInt := i3_addc rfl rfl ey365 (by omega)
                                      clear ey365
                                      refine ⟨fun c366 => ?_, fun c366 => ?_⟩
                                      · unfold b_arcs_421
                                        refine ⟨⟨by omega, by omega⟩, ?_⟩
                                        have hM367 := hM358.sa 38 y365 r293 (show 0 ≤ r293.toInt ∧ r293.toInt ≤ 100000 by omega)
                                        have hE368 := hE359.sa 38 y365 r293 (by decide)
                                        have u369 : ((sa (sa (sa σ332 36 x268 y348) 37 x268 y357) 38 y365 r293).1 30).toInt = ((sa (sa σ332 36 x268 y348) 37 x268 y357).1 30).toInt := rfl
                                        have u370 : ((sa (sa (sa σ332 36 x268 y348) 37 x268 y357) 38 y365 r293).1 18).toInt = ((sa (sa σ332 36 x268 y348) 37 x268 y357).1 18).toInt := rfl
                                        have u371 : ((sa (sa (sa σ332 36 x268 y348) 37 x268 y357) 38 y365 r293).1 19).toInt = ((sa (sa σ332 36 x268 y348) 37 x268 y357).1 19).toInt := rfl
                                        have w372 : (rd (sa (sa (sa σ332 36 x268 y348) 37 x268 y357) 38 y365 r293) 38 y365).toInt = r293.toInt := by rw [rd_sa]
                                        generalize ey373 : (2 * l1) = y373
                                        replace ey373 := ey373.symm
                                        have ty373 : y373.toInt = 2 * l1.toInt := i3_mulc rfl rfl ey373 (by omega)
                                        clear ey373
                                        generalize ey374 : (y373 + l6) = y374
                                        replace ey374 := ey374.symm
                                        have ty374 : y374.toInt = y373.toInt + l6.toInt := i3_addc rfl rfl ey374 (by omega)
                                        clear ey374
                                        refine ⟨fun c375 => ?_, fun c375 => ?_⟩
                                        · unfold b_arcs_458
                                          refine ⟨⟨by omega, by omega⟩, ?_⟩
                                          have hM376 := hM367.sa 39 y374 r331 (show 0 ≤ r331.toInt ∧ r331.toInt ≤ 100000 by omega)
                                          have hE377 := hE368.sa 39 y374 r331 (by decide)
                                          have u378 : ((sa (sa (sa (sa σ332 36 x268 y348) 37 x268 y357) 38 y365 r293) 39 y374 r331).1 30).toInt = ((sa (sa (sa σ332 36 x268 y348) 37 x268 y357) 38 y365 r293).1 30).toInt := rfl
                                          have u379 : ((sa (sa (sa (sa σ332 36 x268 y348) 37 x268 y357) 38 y365 r293) 39 y374 r331).1 18).toInt = ((sa (sa (sa σ332 36 x268 y348) 37 x268 y357) 38 y365 r293).1 18).toInt := rfl
                                          have u380 : ((sa (sa (sa (sa σ332 36 x268 y348) 37 x268 y357) 38 y365 r293) 39 y374 r331).1 19).toInt = ((sa (sa (sa σ332 36 x268 y348) 37 x268 y357) 38 y365 r293).1 19).toInt := rfl
                                          have w381 : (rd (sa (sa (sa (sa σ332 36 x268 y348) 37 x268 y357) 38 y365 r293) 39 y374 r331) 39 y374).toInt = r331.toInt := by rw [rd_sa]
                                          suffices hs : ∀ (q382 : Int32), q382.toInt = 1 → b_arcs_462 X32 X44 Q l1 l4 l5 l6 q382 l8 (sa (sa (sa (sa σ332 36 x268 y348) 37 x268 y357) 38 y365 r293) 39 y374 r331) from hs 1 rfl
                                          intro q382 hq382
                                          unfold b_arcs_462
                                          generalize ey383 : (l8 + 1) = y383
                                          replace ey383 := ey383.symm
                                          have ty383 : y383.toInt = l8.toInt + 1 := i3_addc rfl rfl ey383 (by omega)
                                          clear ey383
                                          exact ih_n16 l1 l4 l5 l6 q382 y383 (sa (sa (sa (sa σ332 36 x268 y348) 37 x268 y357) 38 y365 r293) 39 y374 r331) (by omega) (by first | omega | decide | (have e0 : (0 : Int32).toInt = 0 := rfl; omega)) (by first | omega | decide | (have e0 : (0 : Int32).toInt = 0 := rfl; omega)) (by first | omega | decide | (have e0 : (0 : Int32).toInt = 0 := rfl; omega)) (by first | omega | decide | (have e0 : (0 : Int32).toInt = 0 := rfl; omega)) (by first | omega | decide | (have e0 : (0 : Int32).toInt = 0 := rfl; omega)) (by first | omega | decide | (have e0 : (0 : Int32).toInt = 0 := rfl; omega)) (by first | omega | decide | (have e0 : (0 : Int32).toInt = 0 := rfl; omega)) hM376 hE377
                                        · exfalso; omega
                                      · refine ⟨⟨by omega, by omega⟩, ?_⟩
                                        have a384 : 0 ≤ (rd (sa (sa σ332 36 x268 y348) 37 x268 y357) 38 y365).toInt ∧ (rd (sa (sa σ332 36 x268 y348) 37 x268 y357) 38 y365).toInt ≤ 100000 := hM358.2 38 _
                                        have m385 : ((imax (rd (sa (sa σ332 36 x268 y348) 37 x268 y357) 38 y365) r293).toInt ≥ (rd (sa (sa σ332 36 x268 y348) 37 x268 y357) 38 y365).toInt ∧ (imax (rd (sa (sa σ332 36 x268 y348) 37 x268 y357) 38 y365) r293).toInt ≥ r293.toInt) ∧ ((imax (rd (sa (sa σ332 36 x268 y348) 37 x268 y357) 38 y365) r293).toInt = (rd (sa (sa σ332 36 x268 y348) 37 x268 y357) 38 y365).toInt ∨ (imax (rd (sa (sa σ332 36 x268 y348) 37 x268 y357) 38 y365) r293).toInt = r293.toInt) := i3_max rfl
                                        suffices hs : ∀ (q386 : Int32), q386.toInt = (imax (rd (sa (sa σ332 36 x268 y348) 37 x268 y357) 38 y365) r293).toInt → b_arcs_421 X32 X44 Q l1 l4 l5 l6 l7 l8 r331 q386 y365 (sa (sa σ332 36 x268 y348) 37 x268 y357) from hs (imax (rd (sa (sa σ332 36 x268 y348) 37 x268 y357) 38 y365) r293) rfl
                                        intro q386 hq386
                                        unfold b_arcs_421
                                        refine ⟨⟨by omega, by omega⟩, ?_⟩
                                        have hM387 := hM358.sa 38 y365 q386 (show 0 ≤ q386.toInt ∧ q386.toInt ≤ 100000 by omega)
                                        have hE388 := hE359.sa 38 y365 q386 (by decide)
                                        have u389 : ((sa (sa (sa σ332 36 x268 y348) 37 x268 y357) 38 y365 q386).1 30).toInt = ((sa (sa σ332 36 x268 y348) 37 x268 y357).1 30).toInt := rfl
                                        have u390 : ((sa (sa (sa σ332 36 x268 y348) 37 x268 y357) 38 y365 q386).1 18).toInt = ((sa (sa σ332 36 x268 y348) 37 x268 y357).1 18).toInt := rfl
                                        have u391 : ((sa (sa (sa σ332 36 x268 y348) 37 x268 y357) 38 y365 q386).1 19).toInt = ((sa (sa σ332 36 x268 y348) 37 x268 y357).1 19).toInt := rfl
                                        have w392 : (rd (sa (sa (sa σ332 36 x268 y348) 37 x268 y357) 38 y365 q386) 38 y365).toInt = q386.toInt := by rw [rd_sa]
                                        generalize ey393 : (2 * l1) = y393
                                        replace ey393 := ey393.symm
                                        have ty393 : y393.toInt = 2 * l1.toInt := i3_mulc rfl rfl ey393 (by omega)
                                        clear ey393
                                        generalize ey394 : (y393 + l6) = y394
                                        replace ey394 := ey394.symm
                                        have ty394 : y394.toInt = y393.toInt + l6.toInt := i3_addc rfl rfl ey394 (by omega)
                                        clear ey394
                                        refine ⟨fun c395 => ?_, fun c395 => ?_⟩
                                        · exfalso; omega
                                        · refine ⟨⟨by omega, by omega⟩, ?_⟩
                                          have a396 : 0 ≤ (rd (sa (sa (sa σ332 36 x268 y348) 37 x268 y357) 38 y365 q386) 39 y394).toInt ∧ (rd (sa (sa (sa σ332 36 x268 y348) 37 x268 y357) 38 y365 q386) 39 y394).toInt ≤ 100000 := hM387.2 39 _
                                          have m397 : ((imin (rd (sa (sa (sa σ332 36 x268 y348) 37 x268 y357) 38 y365 q386) 39 y394) r331).toInt ≤ (rd (sa (sa (sa σ332 36 x268 y348) 37 x268 y357) 38 y365 q386) 39 y394).toInt ∧ (imin (rd (sa (sa (sa σ332 36 x268 y348) 37 x268 y357) 38 y365 q386) 39 y394) r331).toInt ≤ r331.toInt) ∧ ((imin (rd (sa (sa (sa σ332 36 x268 y348) 37 x268 y357) 38 y365 q386) 39 y394) r331).toInt = (rd (sa (sa (sa σ332 36 x268 y348) 37 x268 y357) 38 y365 q386) 39 y394).toInt ∨ (imin (rd (sa (sa (sa σ332 36 x268 y348) 37 x268 y357) 38 y365 q386) 39 y394) r331).toInt = r331.toInt) := i3_min rfl
                                          suffices hs : ∀ (q398 : Int32), q398.toInt = (imin (rd (sa (sa (sa σ332 36 x268 y348) 37 x268 y357) 38 y365 q386) 39 y394) r331).toInt → b_arcs_458 X32 X44 Q l1 l4 l5 l6 l8 q398 y394 (sa (sa (sa σ332 36 x268 y348) 37 x268 y357) 38 y365 q386) from hs (imin (rd (sa (sa (sa σ332 36 x268 y348) 37 x268 y357) 38 y365 q386) 39 y394) r331) rfl
                                          intro q398 hq398
                                          unfold b_arcs_458
                                          refine ⟨⟨by omega, by omega⟩, ?_⟩
                                          have hM399 := hM387.sa 39 y394 q398 (show 0 ≤ q398.toInt ∧ q398.toInt ≤ 100000 by omega)
                                          have hE400 := hE388.sa 39 y394 q398 (by decide)
                                          have u401 : ((sa (sa (sa (sa σ332 36 x268 y348) 37 x268 y357) 38 y365 q386) 39 y394 q398).1 30).toInt = ((sa (sa (sa σ332 36 x268 y348) 37 x268 y357) 38 y365 q386).1 30).toInt := rfl
                                          have u402 : ((sa (sa (sa (sa σ332 36 x268 y348) 37 x268 y357) 38 y365 q386) 39 y394 q398).1 18).toInt = ((sa (sa (sa σ332 36 x268 y348) 37 x268 y357) 38 y365 q386).1 18).toInt := rfl
                                          have u403 : ((sa (sa (sa (sa σ332 36 x268 y348) 37 x268 y357) 38 y365 q386) 39 y394 q398).1 19).toInt = ((sa (sa (sa σ332 36 x268 y348) 37 x268 y357) 38 y365 q386).1 19).toInt := rfl
                                          have w404 : (rd (sa (sa (sa (sa σ332 36 x268 y348) 37 x268 y357) 38 y365 q386) 39 y394 q398) 39 y394).toInt = q398.toInt := by rw [rd_sa]
                                          suffices hs : ∀ (q405 : Int32), q405.toInt = 1 → b_arcs_462 X32 X44 Q l1 l4 l5 l6 q405 l8 (sa (sa (sa (sa σ332 36 x268 y348) 37 x268 y357) 38 y365 q386) 39 y394 q398) from hs 1 rfl
                                          intro q405 hq405
                                          unfold b_arcs_462
                                          generalize ey406 : (l8 + 1) = y406
                                          replace ey406 := ey406.symm
                                          have ty406 : y406.toInt = l8.toInt + 1 := i3_addc rfl rfl ey406 (by omega)
                                          clear ey406
                                          exact ih_n16 l1 l4 l5 l6 q405 y406 (sa (sa (sa (sa σ332 36 x268 y348) 37 x268 y357) 38 y365 q386) 39 y394 q398) (by omega) (by first | omega | decide | (have e0 : (0 : Int32).toInt = 0 := rfl; omega)) (by first | omega | decide | (have e0 : (0 : Int32).toInt = 0 := rfl; omega)) (by first | omega | decide | (have e0 : (0 : Int32).toInt = 0 := rfl; omega)) (by first | omega | decide | (have e0 : (0 : Int32).toInt = 0 := rfl; omega)) (by first | omega | decide | (have e0 : (0 : Int32).toInt = 0 := rfl; omega)) (by first | omega | decide | (have e0 : (0 : Int32).toInt = 0 := rfl; omega)) (by first | omega | decide | (have e0 : (0 : Int32).toInt = 0 := rfl; omega)) hM399 hE400
                                    · refine ⟨⟨by omega, by omega⟩, ?_⟩
                                      have a407 : 0 ≤ (rd σ332 17 x270).toInt ∧ (rd σ332 17 x270).toInt ≤ 1000 := hM333.2 17 _
                                      suffices hs : ∀ (q408 : Int32), q408.toInt = (rd σ332 17 x270).toInt → b_arcs_323 X32 X44 Q l1 l4 l5 l6 l7 l8 x268 r271 r293 r313 r331 q408 σ332 from hs (rd σ332 17 x270) rfl
                                      intro q408 hq408
                                      unfold b_arcs_323
                                      have f409 : 0 ≤ (σ332.1 18).toInt ∧ (σ332.1 18).toInt ≤ 500 := hM333.1 18
                                      generalize ey410 : (1000 + (σ332.1 18)) = y410
                                      replace ey410 := ey410.symm
                                      have ty410 : y410.toInt = 1000 + (σ332.1 18).toInt := i3_addc rfl rfl ey410 (by omega)
                                      clear ey410
                                      have bd411 := i3_bd (((((((r271).toInt64) * ((y410).toInt64)) + (999 : Int64)) / (1000 : Int64))).toInt32)
                                      generalize ey412 : ((((((((r271).toInt64) * ((y410).toInt64)) + (999 : Int64)) / (1000 : Int64))).toInt32) + q408) = y412
                                      replace ey412 := ey412.symm
                                      clear ey412
                                      refine ⟨⟨by omega, by omega⟩, ?_⟩
                                      have hM413 := hM333.sa 36 x268 y412 (i3_bd _)
                                      have hE414 := hE334.sa 36 x268 y412 (by decide)
                                      have u415 : ((sa σ332 36 x268 y412).1 30).toInt = (σ332.1 30).toInt := rfl
                                      have u416 : ((sa σ332 36 x268 y412).1 18).toInt = (σ332.1 18).toInt := rfl
                                      have w417 : (rd (sa σ332 36 x268 y412) 36 x268).toInt = y412.toInt := by rw [rd_sa]
                                      have f418 : 0 ≤ ((sa σ332 36 x268 y412).1 19).toInt ∧ ((sa σ332 36 x268 y412).1 19).toInt ≤ 500 := hM413.1 19
                                      generalize ey419 : (1000 - ((sa σ332 36 x268 y412).1 19)) = y419
                                      replace ey419 := ey419.symm
                                      have ty419 : y419.toInt = 1000 - ((sa σ332 36 x268 y412).1 19).toInt := i3_subc rfl rfl ey419 (by omega)
                                      clear ey419
                                      have bd420 := i3_bd ((((((r313).toInt64) * ((y419).toInt64)) / (1000 : Int64))).toInt32)
                                      generalize ey421 : (((((((r313).toInt64) * ((y419).toInt64)) / (1000 : Int64))).toInt32) + q408) = y421
                                      replace ey421 := ey421.symm
                                      clear ey421
                                      refine ⟨⟨by omega, by omega⟩, ?_⟩
                                      have hM422 := hM413.sa 37 x268 y421 (i3_bd _)
                                      have hE423 := hE414.sa 37 x268 y421 (by decide)
                                      have u424 : ((sa (sa σ332 36 x268 y412) 37 x268 y421).1 30).toInt = ((sa σ332 36 x268 y412).1 30).toInt := rfl
                                      have u425 : ((sa (sa σ332 36 x268 y412) 37 x268 y421).1 18).toInt = ((sa σ332 36 x268 y412).1 18).toInt := rfl
                                      have u426 : ((sa (sa σ332 36 x268 y412) 37 x268 y421).1 19).toInt = ((sa σ332 36 x268 y412).1 19).toInt := rfl
                                      have w427 : (rd (sa (sa σ332 36 x268 y412) 37 x268 y421) 37 x268).toInt = y421.toInt := by rw [rd_sa]
                                      generalize ey428 : (2 * l1) = y428
                                      replace ey428 := ey428.symm
                                      have ty428 : y428.toInt = 2 * l1.toInt := i3_mulc rfl rfl ey428 (by omega)
                                      clear ey428
                                      generalize ey429 : (y428 + l6) = y429
                                      replace ey429 := ey429.symm
                                      have ty429 : y429.toInt = y428.toInt + l6.toInt := i3_addc rfl rfl ey429 (by omega)
                                      clear ey429
                                      refine ⟨fun c430 => ?_, fun c430 => ?_⟩
                                      · unfold b_arcs_421
                                        refine ⟨⟨by omega, by omega⟩, ?_⟩
                                        have hM431 := hM422.sa 38 y429 r293 (show 0 ≤ r293.toInt ∧ r293.toInt ≤ 100000 by omega)
                                        have hE432 := hE423.sa 38 y429 r293 (by decide)
                                        have u433 : ((sa (sa (sa σ332 36 x268 y412) 37 x268 y421) 38 y429 r293).1 30).toInt = ((sa (sa σ332 36 x268 y412) 37 x268 y421).1 30).toInt := rfl
                                        have u434 : ((sa (sa (sa σ332 36 x268 y412) 37 x268 y421) 38 y429 r293).1 18).toInt = ((sa (sa σ332 36 x268 y412) 37 x268 y421).1 18).toInt := rfl
                                        have u435 : ((sa (sa (sa σ332 36 x268 y412) 37 x268 y421) 38 y429 r293).1 19).toInt = ((sa (sa σ332 36 x268 y412) 37 x268 y421).1 19).toInt := rfl
                                        have w436 : (rd (sa (sa (sa σ332 36 x268 y412) 37 x268 y421) 38 y429 r293) 38 y429).toInt = r293.toInt := by rw [rd_sa]
                                        generalize ey437 : (2 * l1) = y437
                                        replace ey437 := ey437.symm
                                        have ty437 : y437.toInt = 2 * l1.toInt := i3_mulc rfl rfl ey437 (by omega)
                                        clear ey437
                                        generalize ey438 : (y437 + l6) = y438
                                        replace ey438 := ey438.symm
                                        have ty438 : y438.toInt = y437.toInt + l6.toInt := i3_addc rfl rfl ey438 (by omega)
                                        clear ey438
                                        refine ⟨fun c439 => ?_, fun c439 => ?_⟩
                                        · unfold b_arcs_458
                                          refine ⟨⟨by omega, by omega⟩, ?_⟩
                                          have hM440 := hM431.sa 39 y438 r331 (show 0 ≤ r331.toInt ∧ r331.toInt ≤ 100000 by omega)
                                          have hE441 := hE432.sa 39 y438 r331 (by decide)
                                          have u442 : ((sa (sa (sa (sa σ332 36 x268 y412) 37 x268 y421) 38 y429 r293) 39 y438 r331).1 30).toInt = ((sa (sa (sa σ332 36 x268 y412) 37 x268 y421) 38 y429 r293).1 30).toInt := rfl
                                          have u443 : ((sa (sa (sa (sa σ332 36 x268 y412) 37 x268 y421) 38 y429 r293) 39 y438 r331).1 18).toInt = ((sa (sa (sa σ332 36 x268 y412) 37 x268 y421) 38 y429 r293).1 18).toInt := rfl
                                          have u444 : ((sa (sa (sa (sa σ332 36 x268 y412) 37 x268 y421) 38 y429 r293) 39 y438 r331).1 19).toInt = ((sa (sa (sa σ332 36 x268 y412) 37 x268 y421) 38 y429 r293).1 19).toInt := rfl
                                          have w445 : (rd (sa (sa (sa (sa σ332 36 x268 y412) 37 x268 y421) 38 y429 r293) 39 y438 r331) 39 y438).toInt = r331.toInt := by rw [rd_sa]
                                          suffices hs : ∀ (q446 : Int32), q446.toInt = 1 → b_arcs_462 X32 X44 Q l1 l4 l5 l6 q446 l8 (sa (sa (sa (sa σ332 36 x268 y412) 37 x268 y421) 38 y429 r293) 39 y438 r331) from hs 1 rfl
                                          intro q446 hq446
                                          unfold b_arcs_462
                                          generalize ey447 : (l8 + 1) = y447
                                          replace ey447 := ey447.symm
                                          have ty447 : y447.toInt = l8.toInt + 1 := i3_addc rfl rfl ey447 (by omega)
                                          clear ey447
                                          exact ih_n16 l1 l4 l5 l6 q446 y447 (sa (sa (sa (sa σ332 36 x268 y412) 37 x268 y421) 38 y429 r293) 39 y438 r331) (by omega) (by first | omega | decide | (have e0 : (0 : Int32).toInt = 0 := rfl; omega)) (by first | omega | decide | (have e0 : (0 : Int32).toInt = 0 := rfl; omega)) (by first | omega | decide | (have e0 : (0 : Int32).toInt = 0 := rfl; omega)) (by first | omega | decide | (have e0 : (0 : Int32).toInt = 0 := rfl; omega)) (by first | omega | decide | (have e0 : (0 : Int32).toInt = 0 := rfl; omega)) (by first | omega | decide | (have e0 : (0 : Int32).toInt = 0 := rfl; omega)) (by first | omega | decide | (have e0 : (0 : Int32).toInt = 0 := rfl; omega)) hM440 hE441
                                        · exfalso; omega
                                      · refine ⟨⟨by omega, by omega⟩, ?_⟩
                                        have a448 : 0 ≤ (rd (sa (sa σ332 36 x268 y412) 37 x268 y421) 38 y429).toInt ∧ (rd (sa (sa σ332 36 x268 y412) 37 x268 y421) 38 y429).toInt ≤ 100000 := hM422.2 38 _
                                        have m449 : ((imax (rd (sa (sa σ332 36 x268 y412) 37 x268 y421) 38 y429) r293).toInt ≥ (rd (sa (sa σ332 36 x268 y412) 37 x268 y421) 38 y429).toInt ∧ (imax (rd (sa (sa σ332 36 x268 y412) 37 x268 y421) 38 y429) r293).toInt ≥ r293.toInt) ∧ ((imax (rd (sa (sa σ332 36 x268 y412) 37 x268 y421) 38 y429) r293).toInt = (rd (sa (sa σ332 36 x268 y412) 37 x268 y421) 38 y429).toInt ∨ (imax (rd (sa (sa σ332 36 x268 y412) 37 x268 y421) 38 y429) r293).toInt = r293.toInt) := i3_max rfl
                                        suffices hs : ∀ (q450 : Int32), q450.toInt = (imax (rd (sa (sa σ332 36 x268 y412) 37 x268 y421) 38 y429) r293).toInt → b_arcs_421 X32 X44 Q l1 l4 l5 l6 l7 l8 r331 q450 y429 (sa (sa σ332 36 x268 y412) 37 x268 y421) from hs (imax (rd (sa (sa σ332 36 x268 y412) 37 x268 y421) 38 y429) r293) rfl
                                        intro q450 hq450
                                        unfold b_arcs_421
                                        refine ⟨⟨by omega, by omega⟩, ?_⟩
                                        have hM451 := hM422.sa 38 y429 q450 (show 0 ≤ q450.toInt ∧ q450.toInt ≤ 100000 by omega)
                                        have hE452 := hE423.sa 38 y429 q450 (by decide)
                                        have u453 : ((sa (sa (sa σ332 36 x268 y412) 37 x268 y421) 38 y429 q450).1 30).toInt = ((sa (sa σ332 36 x268 y412) 37 x268 y421).1 30).toInt := rfl
                                        have u454 : ((sa (sa (sa σ332 36 x268 y412) 37 x268 y421) 38 y429 q450).1 18).toInt = ((sa (sa σ332 36 x268 y412) 37 x268 y421).1 18).toInt := rfl
                                        have u455 : ((sa (sa (sa σ332 36 x268 y412) 37 x268 y421) 38 y429 q450).1 19).toInt = ((sa (sa σ332 36 x268 y412) 37 x268 y421).1 19).toInt := rfl
                                        have w456 : (rd (sa (sa (sa σ332 36 x268 y412) 37 x268 y421) 38 y429 q450) 38 y429).toInt = q450.toInt := by rw [rd_sa]
                                        generalize ey457 : (2 * l1) = y457
                                        replace ey457 := ey457.symm
                                        have ty457 : y457.toInt = 2 * l1.toInt := i3_mulc rfl rfl ey457 (by omega)
                                        clear ey457
                                        generalize ey458 : (y457 + l6) = y458
                                        replace ey458 := ey458.symm
                                        have ty458 : y458.toInt = y457.toInt + l6.toInt := i3_addc rfl rfl ey458 (by omega)
                                        clear ey458
                                        refine ⟨fun c459 => ?_, fun c459 => ?_⟩
                                        · exfalso; omega
                                        · refine ⟨⟨by omega, by omega⟩, ?_⟩
                                          have a460 : 0 ≤ (rd (sa (sa (sa σ332 36 x268 y412) 37 x268 y421) 38 y429 q450) 39 y458).toInt ∧ (rd (sa (sa (sa σ332 36 x268 y412) 37 x268 y421) 38 y429 q450) 39 y458).toInt ≤ 100000 := hM451.2 39 _
                                          have m461 : ((imin (rd (sa (sa (sa σ332 36 x268 y412) 37 x268 y421) 38 y429 q450) 39 y458) r331).toInt ≤ (rd (sa (sa (sa σ332 36 x268 y412) 37 x268 y421) 38 y429 q450) 39 y458).toInt ∧ (imin (rd (sa (sa (sa σ332 36 x268 y412) 37 x268 y421) 38 y429 q450) 39 y458) r331).toInt ≤ r331.toInt) ∧ ((imin (rd (sa (sa (sa σ332 36 x268 y412) 37 x268 y421) 38 y429 q450) 39 y458) r331).toInt = (rd (sa (sa (sa σ332 36 x268 y412) 37 x268 y421) 38 y429 q450) 39 y458).toInt ∨ (imin (rd (sa (sa (sa σ332 36 x268 y412) 37 x268 y421) 38 y429 q450) 39 y458) r331).toInt = r331.toInt) := i3_min rfl
                                          suffices hs : ∀ (q462 : Int32), q462.toInt = (imin (rd (sa (sa (sa σ332 36 x268 y412) 37 x268 y421) 38 y429 q450) 39 y458) r331).toInt → b_arcs_458 X32 X44 Q l1 l4 l5 l6 l8 q462 y458 (sa (sa (sa σ332 36 x268 y412) 37 x268 y421) 38 y429 q450) from hs (imin (rd (sa (sa (sa σ332 36 x268 y412) 37 x268 y421) 38 y429 q450) 39 y458) r331) rfl
                                          intro q462 hq462
                                          unfold b_arcs_458
                                          refine ⟨⟨by omega, by omega⟩, ?_⟩
                                          have hM463 := hM451.sa 39 y458 q462 (show 0 ≤ q462.toInt ∧ q462.toInt ≤ 100000 by omega)
                                          have hE464 := hE452.sa 39 y458 q462 (by decide)
                                          have u465 : ((sa (sa (sa (sa σ332 36 x268 y412) 37 x268 y421) 38 y429 q450) 39 y458 q462).1 30).toInt = ((sa (sa (sa σ332 36 x268 y412) 37 x268 y421) 38 y429 q450).1 30).toInt := rfl
                                          have u466 : ((sa (sa (sa (sa σ332 36 x268 y412) 37 x268 y421) 38 y429 q450) 39 y458 q462).1 18).toInt = ((sa (sa (sa σ332 36 x268 y412) 37 x268 y421) 38 y429 q450).1 18).toInt := rfl
                                          have u467 : ((sa (sa (sa (sa σ332 36 x268 y412) 37 x268 y421) 38 y429 q450) 39 y458 q462).1 19).toInt = ((sa (sa (sa σ332 36 x268 y412) 37 x268 y421) 38 y429 q450).1 19).toInt := rfl
                                          have w468 : (rd (sa (sa (sa (sa σ332 36 x268 y412) 37 x268 y421) 38 y429 q450) 39 y458 q462) 39 y458).toInt = q462.toInt := by rw [rd_sa]
                                          suffices hs : ∀ (q469 : Int32), q469.toInt = 1 → b_arcs_462 X32 X44 Q l1 l4 l5 l6 q469 l8 (sa (sa (sa (sa σ332 36 x268 y412) 37 x268 y421) 38 y429 q450) 39 y458 q462) from hs 1 rfl
                                          intro q469 hq469
                                          unfold b_arcs_462
                                          generalize ey470 : (l8 + 1) = y470
                                          replace ey470 := ey470.symm
                                          have ty470 : y470.toInt = l8.toInt + 1 := i3_addc rfl rfl ey470 (by omega)
                                          clear ey470
                                          exact ih_n16 l1 l4 l5 l6 q469 y470 (sa (sa (sa (sa σ332 36 x268 y412) 37 x268 y421) 38 y429 q450) 39 y458 q462) (by omega) (by first | omega | decide | (have e0 : (0 : Int32).toInt = 0 := rfl; omega)) (by first | omega | decide | (have e0 : (0 : Int32).toInt = 0 := rfl; omega)) (by first | omega | decide | (have e0 : (0 : Int32).toInt = 0 := rfl; omega)) (by first | omega | decide | (have e0 : (0 : Int32).toInt = 0 := rfl; omega)) (by first | omega | decide | (have e0 : (0 : Int32).toInt = 0 := rfl; omega)) (by first | omega | decide | (have e0 : (0 : Int32).toInt = 0 := rfl; omega)) (by first | omega | decide | (have e0 : (0 : Int32).toInt = 0 := rfl; omega)) hM463 hE464
                                  · refine ⟨⟨by omega, by omega⟩, ?_⟩
                                    have hM471 := hM333.sa 35 l1 (σ332.1 30) (i3_bd _)
                                    have hE472 := hE334.sa 35 l1 (σ332.1 30) (by decide)
                                    have u473 : ((sa σ332 35 l1 (σ332.1 30)).1 30).toInt = (σ332.1 30).toInt := rfl
                                    have w474 : (rd (sa σ332 35 l1 (σ332.1 30)) 35 l1).toInt = (σ332.1 30).toInt := by rw [rd_sa]
                                    exact hq (sa σ332 35 l1 (σ332.1 30)) hM471 hE472
                          · exfalso; omega
                        · exfalso; omega
                    · unfold b_arcs_462
                      generalize ey475 : (l8 + 1) = y475
                      replace ey475 := ey475.symm
                      have ty475 : y475.toInt = l8.toInt + 1 := i3_addc rfl rfl ey475 (by omega)
                      clear ey475
                      exact ih_n16 l1 l4 l5 l6 l7 y475 σ (by omega) (by first | omega | decide | (have e0 : (0 : Int32).toInt = 0 := rfl; omega)) (by first | omega | decide | (have e0 : (0 : Int32).toInt = 0 := rfl; omega)) (by first | omega | decide | (have e0 : (0 : Int32).toInt = 0 := rfl; omega)) (by first | omega | decide | (have e0 : (0 : Int32).toInt = 0 := rfl; omega)) (by first | omega | decide | (have e0 : (0 : Int32).toInt = 0 := rfl; omega)) (by first | omega | decide | (have e0 : (0 : Int32).toInt = 0 := rfl; omega)) (by first | omega | decide | (have e0 : (0 : Int32).toInt = 0 := rfl; omega)) hM hE
              · suffices hs : ∀ (q476 : Int32), q476.toInt = (-1) → b_arcs_80 X32 X44 Q l1 l4 l5 l6 l7 l8 q476 σ from hs (-1) rfl
                intro q476 hq476
                unfold b_arcs_80
                refine ⟨⟨by omega, by omega⟩, ?_⟩
                refine ⟨fun c477 => ?_, fun c477 => ?_⟩
                · unfold b_arcs_110
                  refine ⟨⟨by omega, by omega⟩, ?_⟩
                  refine ⟨fun c478 => ?_, fun c478 => ?_⟩
                  · unfold b_arcs_129
                    refine ⟨fun c479 => ?_, fun c479 => ?_⟩
                    · exfalso; omega
                    · suffices hs : ∀ (q480 : Int32), q480.toInt = 0 → b_arcs_152 X32 X44 Q l1 l4 l5 l6 l7 l8 q476 l6 q480 σ from hs 0 rfl
                      intro q480 hq480
                      unfold b_arcs_152
                      refine ⟨fun c481 => ?_, fun c481 => ?_⟩
                      · exfalso; omega
                      · suffices hs : ∀ (q482 : Int32), q482.toInt = 0 → b_arcs_175 X32 X44 Q l1 l4 l5 l6 l7 l8 q480 q482 σ from hs 0 rfl
                        intro q482 hq482
                        unfold b_arcs_175
                        generalize ey483 : (8 * l1) = y483
                        replace ey483 := ey483.symm
                        have ty483 : y483.toInt = 8 * l1.toInt := i3_mulc rfl rfl ey483 (by omega)
                        clear ey483
                        generalize ey484 : (2 * l8) = y484
                        replace ey484 := ey484.symm
                        have ty484 : y484.toInt = 2 * l8.toInt := i3_mulc rfl rfl ey484 (by omega)
                        clear ey484
                        generalize ey485 : (y483 + y484) = y485
                        replace ey485 := ey485.symm
                        have ty485 : y485.toInt = y483.toInt + y484.toInt := i3_addc rfl rfl ey485 (by omega)
                        clear ey485
                        generalize ey486 : (y485 + l6) = y486
                        replace ey486 := ey486.symm
                        have ty486 : y486.toInt = y485.toInt + l6.toInt := i3_addc rfl rfl ey486 (by omega)
                        clear ey486
                        intro x487 ex487
                        have ix487 : x487.toInt = y486.toInt := by rw [ex487]
                        refine ⟨⟨by omega, by omega⟩, ?_⟩
                        have a488 : 0 ≤ (rd σ 4 l1).toInt ∧ (rd σ 4 l1).toInt ≤ 7 := hM.2 4 _
                        intro x489 ex489
                        have ix489 : x489.toInt = (rd σ 4 l1).toInt := by rw [ex489]
                        refine rg_lookUp ⟨by omega, by omega⟩ ⟨by decide, by decide⟩ ⟨by omega, by omega⟩ ⟨by omega, by omega⟩ hM (fun r490 σ491 br490 hM492 hE493o => ?_)
                        have hE493 := hE.of hE493o (by decide) (by decide)
                        have u494 : (rd σ491 3 l1).toInt = (rd σ 3 l1).toInt := by unfold rd; rw [hE493o.2 3 (by decide)]
                        have u495 : (rd σ491 2 l1).toInt = (rd σ 2 l1).toInt := by unfold rd; rw [hE493o.2 2 (by decide)]
                        have u496 : (rd σ491 4 l1).toInt = (rd σ 4 l1).toInt := by unfold rd; rw [hE493o.2 4 (by decide)]
                        refine ⟨fun c497 => ?_, fun c497 => ?_⟩
                        · suffices hs : ∀ (q498 : Int32), q498.toInt = 0 → b_arcs_236 X32 X44 Q l1 l4 l5 l6 l7 l8 q482 x487 x489 r490 q498 σ491 from hs 0 rfl
                          intro q498 hq498
                          unfold b_arcs_236
                          refine ⟨fun c499 => ?_, fun c499 => ?_⟩
                          · suffices hs : ∀ (q500 : Int32), q500.toInt = 0 → b_arcs_261 X32 X44 Q l1 l4 l5 l6 l7 l8 q482 x487 x489 r490 q498 q500 σ491 from hs 0 rfl
                            intro q500 hq500
                            unfold b_arcs_261
                            refine ⟨fun c501 => ?_, fun c501 => ?_⟩
                            · suffices hs : ∀ (q502 : Int32), q502.toInt = 0 → b_arcs_286 X32 X44 Q l1 l4 l5 l6 l7 l8 x487 x489 r490 q498 q500 q502 σ491 from hs 0 rfl
                              intro q502 hq502
                              unfold b_arcs_286
                              refine ⟨fun c503 => ?_, fun c503 => ?_⟩
                              · exfalso; omega
                              · refine ⟨⟨by omega, by omega⟩, ?_⟩
                                have hM504 := hM492.sa 35 l1 (σ491.1 30) (i3_bd _)
                                have hE505 := hE493.sa 35 l1 (σ491.1 30) (by decide)
                                have u506 : ((sa σ491 35 l1 (σ491.1 30)).1 30).toInt = (σ491.1 30).toInt := rfl
                                have w507 : (rd (sa σ491 35 l1 (σ491.1 30)) 35 l1).toInt = (σ491.1 30).toInt := by rw [rd_sa]
                                exact hq (sa σ491 35 l1 (σ491.1 30)) hM504 hE505
                            · exfalso; omega
                          · exfalso; omega
                        · refine rg_lookUp ⟨by omega, by omega⟩ ⟨by decide, by decide⟩ ⟨by omega, by omega⟩ ⟨by omega, by omega⟩ hM492 (fun r508 σ509 br508 hM510 hE511o => ?_)
                          have hE511 := hE493.of hE511o (by decide) (by decide)
                          have u512 : (rd σ509 3 l1).toInt = (rd σ491 3 l1).toInt := by unfold rd; rw [hE511o.2 3 (by decide)]
                          have u513 : (rd σ509 2 l1).toInt = (rd σ491 2 l1).toInt := by unfold rd; rw [hE511o.2 2 (by decide)]
                          have u514 : (rd σ509 4 l1).toInt = (rd σ491 4 l1).toInt := by unfold rd; rw [hE511o.2 4 (by decide)]
                          unfold b_arcs_236
                          refine ⟨fun c515 => ?_, fun c515 => ?_⟩
                          · suffices hs : ∀ (q516 : Int32), q516.toInt = 0 → b_arcs_261 X32 X44 Q l1 l4 l5 l6 l7 l8 q482 x487 x489 r490 r508 q516 σ509 from hs 0 rfl
                            intro q516 hq516
                            unfold b_arcs_261
                            refine ⟨fun c517 => ?_, fun c517 => ?_⟩
                            · suffices hs : ∀ (q518 : Int32), q518.toInt = 0 → b_arcs_286 X32 X44 Q l1 l4 l5 l6 l7 l8 x487 x489 r490 r508 q516 q518 σ509 from hs 0 rfl
                              intro q518 hq518
                              unfold b_arcs_286
                              refine ⟨fun c519 => ?_, fun c519 => ?_⟩
                              · exfalso; omega
                              · refine ⟨⟨by omega, by omega⟩, ?_⟩
                                have hM520 := hM510.sa 35 l1 (σ509.1 30) (i3_bd _)
                                have hE521 := hE511.sa 35 l1 (σ509.1 30) (by decide)
                                have u522 : ((sa σ509 35 l1 (σ509.1 30)).1 30).toInt = (σ509.1 30).toInt := rfl
                                have w523 : (rd (sa σ509 35 l1 (σ509.1 30)) 35 l1).toInt = (σ509.1 30).toInt := by rw [rd_sa]
                                exact hq (sa σ509 35 l1 (σ509.1 30)) hM520 hE521
                            · exfalso; omega
                          · refine rg_lookUp ⟨by omega, by omega⟩ ⟨by decide, by decide⟩ ⟨by omega, by omega⟩ ⟨by omega, by omega⟩ hM510 (fun r524 σ525 br524 hM526 hE527o => ?_)
                            have hE527 := hE511.of hE527o (by decide) (by decide)
                            have u528 : (rd σ525 3 l1).toInt = (rd σ509 3 l1).toInt := by unfold rd; rw [hE527o.2 3 (by decide)]
                            have u529 : (rd σ525 2 l1).toInt = (rd σ509 2 l1).toInt := by unfold rd; rw [hE527o.2 2 (by decide)]
                            have u530 : (rd σ525 4 l1).toInt = (rd σ509 4 l1).toInt := by unfold rd; rw [hE527o.2 4 (by decide)]
                            unfold b_arcs_261
                            refine ⟨fun c531 => ?_, fun c531 => ?_⟩
                            · suffices hs : ∀ (q532 : Int32), q532.toInt = 0 → b_arcs_286 X32 X44 Q l1 l4 l5 l6 l7 l8 x487 x489 r490 r508 r524 q532 σ525 from hs 0 rfl
                              intro q532 hq532
                              unfold b_arcs_286
                              refine ⟨fun c533 => ?_, fun c533 => ?_⟩
                              · exfalso; omega
                              · refine ⟨⟨by omega, by omega⟩, ?_⟩
                                have hM534 := hM526.sa 35 l1 (σ525.1 30) (i3_bd _)
                                have hE535 := hE527.sa 35 l1 (σ525.1 30) (by decide)
                                have u536 : ((sa σ525 35 l1 (σ525.1 30)).1 30).toInt = (σ525.1 30).toInt := rfl
                                have w537 : (rd (sa σ525 35 l1 (σ525.1 30)) 35 l1).toInt = (σ525.1 30).toInt := by rw [rd_sa]
                                exact hq (sa σ525 35 l1 (σ525.1 30)) hM534 hE535
                            · refine rg_lookUp ⟨by omega, by omega⟩ ⟨by decide, by decide⟩ ⟨by omega, by omega⟩ ⟨by omega, by omega⟩ hM526 (fun r538 σ539 br538 hM540 hE541o => ?_)
                              have hE541 := hE527.of hE541o (by decide) (by decide)
                              have u542 : (rd σ539 3 l1).toInt = (rd σ525 3 l1).toInt := by unfold rd; rw [hE541o.2 3 (by decide)]
                              have u543 : (rd σ539 2 l1).toInt = (rd σ525 2 l1).toInt := by unfold rd; rw [hE541o.2 2 (by decide)]
                              have u544 : (rd σ539 4 l1).toInt = (rd σ525 4 l1).toInt := by unfold rd; rw [hE541o.2 4 (by decide)]
                              unfold b_arcs_286
                              refine ⟨fun c545 => ?_, fun c545 => ?_⟩
                              · refine ⟨fun c546 => ?_, fun c546 => ?_⟩
                                · suffices hs : ∀ (q547 : Int32), q547.toInt = 0 → b_arcs_323 X32 X44 Q l1 l4 l5 l6 l7 l8 x487 r490 r508 r524 r538 q547 σ539 from hs 0 rfl
                                  intro q547 hq547
                                  unfold b_arcs_323
                                  have f548 : 0 ≤ (σ539.1 18).toInt ∧ (σ539.1 18).toInt ≤ 500 := hM540.1 18
                                  generalize ey549 : (1000 + (σ539.1 18)) = y549
                                  replace ey549 := ey549.symm
                                  have ty549 : y549.toInt = 1000 + (σ539.1 18).toInt := i3_addc rfl rfl ey549 (by omega)
                                  clear ey549
                                  have bd550 := i3_bd (((((((r490).toInt64) * ((y549).toInt64)) + (999 : Int64)) / (1000 : Int64))).toInt32)
                                  generalize ey551 : ((((((((r490).toInt64) * ((y549).toInt64)) + (999 : Int64)) / (1000 : Int64))).toInt32) + q547) = y551
                                  replace ey551 := ey551.symm
                                  have ty551 : y551.toInt = ((((((r490).toInt64) * ((y549).toInt64)) + (999 : Int64)) / (1000 : Int64))).toInt32.toInt + q547.toInt := i3_addc rfl rfl ey551 (by omega)
                                  clear ey551
                                  refine ⟨⟨by omega, by omega⟩, ?_⟩
                                  have hM552 := hM540.sa 36 x487 y551 (i3_bd _)
                                  have hE553 := hE541.sa 36 x487 y551 (by decide)
                                  have u554 : ((sa σ539 36 x487 y551).1 30).toInt = (σ539.1 30).toInt := rfl
                                  have u555 : ((sa σ539 36 x487 y551).1 18).toInt = (σ539.1 18).toInt := rfl
                                  have w556 : (rd (sa σ539 36 x487 y551) 36 x487).toInt = y551.toInt := by rw [rd_sa]
                                  have f557 : 0 ≤ ((sa σ539 36 x487 y551).1 19).toInt ∧ ((sa σ539 36 x487 y551).1 19).toInt ≤ 500 := hM552.1 19
                                  generalize ey558 : (1000 - ((sa σ539 36 x487 y551).1 19)) = y558
                                  replace ey558 := ey558.symm
                                  have ty558 : y558.toInt = 1000 - ((sa σ539 36 x487 y551).1 19).toInt := i3_subc rfl rfl ey558 (by omega)
                                  clear ey558
                                  have bd559 := i3_bd ((((((r524).toInt64) * ((y558).toInt64)) / (1000 : Int64))).toInt32)
                                  generalize ey560 : (((((((r524).toInt64) * ((y558).toInt64)) / (1000 : Int64))).toInt32) + q547) = y560
                                  replace ey560 := ey560.symm
                                  have ty560 : y560.toInt = (((((r524).toInt64) * ((y558).toInt64)) / (1000 : Int64))).toInt32.toInt + q547.toInt := i3_addc rfl rfl ey560 (by omega)
                                  clear ey560
                                  refine ⟨⟨by omega, by omega⟩, ?_⟩
                                  have hM561 := hM552.sa 37 x487 y560 (i3_bd _)
                                  have hE562 := hE553.sa 37 x487 y560 (by decide)
                                  have u563 : ((sa (sa σ539 36 x487 y551) 37 x487 y560).1 30).toInt = ((sa σ539 36 x487 y551).1 30).toInt := rfl
                                  have u564 : ((sa (sa σ539 36 x487 y551) 37 x487 y560).1 18).toInt = ((sa σ539 36 x487 y551).1 18).toInt := rfl
                                  have u565 : ((sa (sa σ539 36 x487 y551) 37 x487 y560).1 19).toInt = ((sa σ539 36 x487 y551).1 19).toInt := rfl
                                  have w566 : (rd (sa (sa σ539 36 x487 y551) 37 x487 y560) 37 x487).toInt = y560.toInt := by rw [rd_sa]
                                  generalize ey567 : (2 * l1) = y567
                                  replace ey567 := ey567.symm
                                  have ty567 : y567.toInt = 2 * l1.toInt := i3_mulc rfl rfl ey567 (by omega)
                                  clear ey567
                                  generalize ey568 : (y567 + l6) = y568
                                  replace ey568 := ey568.symm
                                  have ty568 : y568.toInt = y567.toInt + l6.toInt := i3_addc rfl rfl ey568 (by omega)
                                  clear ey568
                                  refine ⟨fun c569 => ?_, fun c569 => ?_⟩
                                  · unfold b_arcs_421
                                    refine ⟨⟨by omega, by omega⟩, ?_⟩
                                    have hM570 := hM561.sa 38 y568 r508 (show 0 ≤ r508.toInt ∧ r508.toInt ≤ 100000 by omega)
                                    have hE571 := hE562.sa 38 y568 r508 (by decide)
                                    have u572 : ((sa (sa (sa σ539 36 x487 y551) 37 x487 y560) 38 y568 r508).1 30).toInt = ((sa (sa σ539 36 x487 y551) 37 x487 y560).1 30).toInt := rfl
                                    have u573 : ((sa (sa (sa σ539 36 x487 y551) 37 x487 y560) 38 y568 r508).1 18).toInt = ((sa (sa σ539 36 x487 y551) 37 x487 y560).1 18).toInt := rfl
                                    have u574 : ((sa (sa (sa σ539 36 x487 y551) 37 x487 y560) 38 y568 r508).1 19).toInt = ((sa (sa σ539 36 x487 y551) 37 x487 y560).1 19).toInt := rfl
                                    have w575 : (rd (sa (sa (sa σ539 36 x487 y551) 37 x487 y560) 38 y568 r508) 38 y568).toInt = r508.toInt := by rw [rd_sa]
                                    generalize ey576 : (2 * l1) = y576
                                    replace ey576 := ey576.symm
                                    have ty576 : y576.toInt = 2 * l1.toInt := i3_mulc rfl rfl ey576 (by omega)
                                    clear ey576
                                    generalize ey577 : (y576 + l6) = y577
                                    replace ey577 := ey577.symm
                                    have ty577 : y577.toInt = y576.toInt + l6.toInt := i3_addc rfl rfl ey577 (by omega)
                                    clear ey577
                                    refine ⟨fun c578 => ?_, fun c578 => ?_⟩
                                    · unfold b_arcs_458
                                      refine ⟨⟨by omega, by omega⟩, ?_⟩
                                      have hM579 := hM570.sa 39 y577 r538 (show 0 ≤ r538.toInt ∧ r538.toInt ≤ 100000 by omega)
                                      have hE580 := hE571.sa 39 y577 r538 (by decide)
                                      have u581 : ((sa (sa (sa (sa σ539 36 x487 y551) 37 x487 y560) 38 y568 r508) 39 y577 r538).1 30).toInt = ((sa (sa (sa σ539 36 x487 y551) 37 x487 y560) 38 y568 r508).1 30).toInt := rfl
                                      have u582 : ((sa (sa (sa (sa σ539 36 x487 y551) 37 x487 y560) 38 y568 r508) 39 y577 r538).1 18).toInt = ((sa (sa (sa σ539 36 x487 y551) 37 x487 y560) 38 y568 r508).1 18).toInt := rfl
                                      have u583 : ((sa (sa (sa (sa σ539 36 x487 y551) 37 x487 y560) 38 y568 r508) 39 y577 r538).1 19).toInt = ((sa (sa (sa σ539 36 x487 y551) 37 x487 y560) 38 y568 r508).1 19).toInt := rfl
                                      have w584 : (rd (sa (sa (sa (sa σ539 36 x487 y551) 37 x487 y560) 38 y568 r508) 39 y577 r538) 39 y577).toInt = r538.toInt := by rw [rd_sa]
                                      suffices hs : ∀ (q585 : Int32), q585.toInt = 1 → b_arcs_462 X32 X44 Q l1 l4 l5 l6 q585 l8 (sa (sa (sa (sa σ539 36 x487 y551) 37 x487 y560) 38 y568 r508) 39 y577 r538) from hs 1 rfl
                                      intro q585 hq585
                                      unfold b_arcs_462
                                      generalize ey586 : (l8 + 1) = y586
                                      replace ey586 := ey586.symm
                                      have ty586 : y586.toInt = l8.toInt + 1 := i3_addc rfl rfl ey586 (by omega)
                                      clear ey586
                                      exact ih_n16 l1 l4 l5 l6 q585 y586 (sa (sa (sa (sa σ539 36 x487 y551) 37 x487 y560) 38 y568 r508) 39 y577 r538) (by omega) (by first | omega | decide | (have e0 : (0 : Int32).toInt = 0 := rfl; omega)) (by first | omega | decide | (have e0 : (0 : Int32).toInt = 0 := rfl; omega)) (by first | omega | decide | (have e0 : (0 : Int32).toInt = 0 := rfl; omega)) (by first | omega | decide | (have e0 : (0 : Int32).toInt = 0 := rfl; omega)) (by first | omega | decide | (have e0 : (0 : Int32).toInt = 0 := rfl; omega)) (by first | omega | decide | (have e0 : (0 : Int32).toInt = 0 := rfl; omega)) (by first | omega | decide | (have e0 : (0 : Int32).toInt = 0 := rfl; omega)) hM579 hE580
                                    · exfalso; omega
                                  · refine ⟨⟨by omega, by omega⟩, ?_⟩
                                    have a587 : 0 ≤ (rd (sa (sa σ539 36 x487 y551) 37 x487 y560) 38 y568).toInt ∧ (rd (sa (sa σ539 36 x487 y551) 37 x487 y560) 38 y568).toInt ≤ 100000 := hM561.2 38 _
                                    have m588 : ((imax (rd (sa (sa σ539 36 x487 y551) 37 x487 y560) 38 y568) r508).toInt ≥ (rd (sa (sa σ539 36 x487 y551) 37 x487 y560) 38 y568).toInt ∧ (imax (rd (sa (sa σ539 36 x487 y551) 37 x487 y560) 38 y568) r508).toInt ≥ r508.toInt) ∧ ((imax (rd (sa (sa σ539 36 x487 y551) 37 x487 y560) 38 y568) r508).toInt = (rd (sa (sa σ539 36 x487 y551) 37 x487 y560) 38 y568).toInt ∨ (imax (rd (sa (sa σ539 36 x487 y551) 37 x487 y560) 38 y568) r508).toInt = r508.toInt) := i3_max rfl
                                    suffices hs : ∀ (q589 : Int32), q589.toInt = (imax (rd (sa (sa σ539 36 x487 y551) 37 x487 y560) 38 y568) r508).toInt → b_arcs_421 X32 X44 Q l1 l4 l5 l6 l7 l8 r538 q589 y568 (sa (sa σ539 36 x487 y551) 37 x487 y560) from hs (imax (rd (sa (sa σ539 36 x487 y551) 37 x487 y560) 38 y568) r508) rfl
                                    intro q589 hq589
                                    unfold b_arcs_421
                                    refine ⟨⟨by omega, by omega⟩, ?_⟩
                                    have hM590 := hM561.sa 38 y568 q589 (show 0 ≤ q589.toInt ∧ q589.toInt ≤ 100000 by omega)
                                    have hE591 := hE562.sa 38 y568 q589 (by decide)
                                    have u592 : ((sa (sa (sa σ539 36 x487 y551) 37 x487 y560) 38 y568 q589).1 30).toInt = ((sa (sa σ539 36 x487 y551) 37 x487 y560).1 30).toInt := rfl
                                    have u593 : ((sa (sa (sa σ539 36 x487 y551) 37 x487 y560) 38 y568 q589).1 18).toInt = ((sa (sa σ539 36 x487 y551) 37 x487 y560).1 18).toInt := rfl
                                    have u594 : ((sa (sa (sa σ539 36 x487 y551) 37 x487 y560) 38 y568 q589).1 19).toInt = ((sa (sa σ539 36 x487 y551) 37 x487 y560).1 19).toInt := rfl
                                    have w595 : (rd (sa (sa (sa σ539 36 x487 y551) 37 x487 y560) 38 y568 q589) 38 y568).toInt = q589.toInt := by rw [rd_sa]
                                    generalize ey596 : (2 * l1) = y596
                                    replace ey596 := ey596.symm
                                    have ty596 : y596.toInt = 2 * l1.toInt := i3_mulc rfl rfl ey596 (by omega)
                                    clear ey596
                                    generalize ey597 : (y596 + l6) = y597
                                    replace ey597 := ey597.symm
                                    have ty597 : y597.toInt = y596.toInt + l6.toInt := i3_addc rfl rfl ey597 (by omega)
                                    clear ey597
                                    refine ⟨fun c598 => ?_, fun c598 => ?_⟩
                                    · exfalso; omega
                                    · refine ⟨⟨by omega, by omega⟩, ?_⟩
                                      have a599 : 0 ≤ (rd (sa (sa (sa σ539 36 x487 y551) 37 x487 y560) 38 y568 q589) 39 y597).toInt ∧ (rd (sa (sa (sa σ539 36 x487 y551) 37 x487 y560) 38 y568 q589) 39 y597).toInt ≤ 100000 := hM590.2 39 _
                                      have m600 : ((imin (rd (sa (sa (sa σ539 36 x487 y551) 37 x487 y560) 38 y568 q589) 39 y597) r538).toInt ≤ (rd (sa (sa (sa σ539 36 x487 y551) 37 x487 y560) 38 y568 q589) 39 y597).toInt ∧ (imin (rd (sa (sa (sa σ539 36 x487 y551) 37 x487 y560) 38 y568 q589) 39 y597) r538).toInt ≤ r538.toInt) ∧ ((imin (rd (sa (sa (sa σ539 36 x487 y551) 37 x487 y560) 38 y568 q589) 39 y597) r538).toInt = (rd (sa (sa (sa σ539 36 x487 y551) 37 x487 y560) 38 y568 q589) 39 y597).toInt ∨ (imin (rd (sa (sa (sa σ539 36 x487 y551) 37 x487 y560) 38 y568 q589) 39 y597) r538).toInt = r538.toInt) := i3_min rfl
                                      suffices hs : ∀ (q601 : Int32), q601.toInt = (imin (rd (sa (sa (sa σ539 36 x487 y551) 37 x487 y560) 38 y568 q589) 39 y597) r538).toInt → b_arcs_458 X32 X44 Q l1 l4 l5 l6 l8 q601 y597 (sa (sa (sa σ539 36 x487 y551) 37 x487 y560) 38 y568 q589) from hs (imin (rd (sa (sa (sa σ539 36 x487 y551) 37 x487 y560) 38 y568 q589) 39 y597) r538) rfl
                                      intro q601 hq601
                                      unfold b_arcs_458
                                      refine ⟨⟨by omega, by omega⟩, ?_⟩
                                      have hM602 := hM590.sa 39 y597 q601 (show 0 ≤ q601.toInt ∧ q601.toInt ≤ 100000 by omega)
                                      have hE603 := hE591.sa 39 y597 q601 (by decide)
                                      have u604 : ((sa (sa (sa (sa σ539 36 x487 y551) 37 x487 y560) 38 y568 q589) 39 y597 q601).1 30).toInt = ((sa (sa (sa σ539 36 x487 y551) 37 x487 y560) 38 y568 q589).1 30).toInt := rfl
                                      have u605 : ((sa (sa (sa (sa σ539 36 x487 y551) 37 x487 y560) 38 y568 q589) 39 y597 q601).1 18).toInt = ((sa (sa (sa σ539 36 x487 y551) 37 x487 y560) 38 y568 q589).1 18).toInt := rfl
                                      have u606 : ((sa (sa (sa (sa σ539 36 x487 y551) 37 x487 y560) 38 y568 q589) 39 y597 q601).1 19).toInt = ((sa (sa (sa σ539 36 x487 y551) 37 x487 y560) 38 y568 q589).1 19).toInt := rfl
                                      have w607 : (rd (sa (sa (sa (sa σ539 36 x487 y551) 37 x487 y560) 38 y568 q589) 39 y597 q601) 39 y597).toInt = q601.toInt := by rw [rd_sa]
                                      suffices hs : ∀ (q608 : Int32), q608.toInt = 1 → b_arcs_462 X32 X44 Q l1 l4 l5 l6 q608 l8 (sa (sa (sa (sa σ539 36 x487 y551) 37 x487 y560) 38 y568 q589) 39 y597 q601) from hs 1 rfl
                                      intro q608 hq608
                                      unfold b_arcs_462
                                      generalize ey609 : (l8 + 1) = y609
                                      replace ey609 := ey609.symm
                                      have ty609 : y609.toInt = l8.toInt + 1 := i3_addc rfl rfl ey609 (by omega)
                                      clear ey609
                                      exact ih_n16 l1 l4 l5 l6 q608 y609 (sa (sa (sa (sa σ539 36 x487 y551) 37 x487 y560) 38 y568 q589) 39 y597 q601) (by omega) (by first | omega | decide | (have e0 : (0 : Int32).toInt = 0 := rfl; omega)) (by first | omega | decide | (have e0 : (0 : Int32).toInt = 0 := rfl; omega)) (by first | omega | decide | (have e0 : (0 : Int32).toInt = 0 := rfl; omega)) (by first | omega | decide | (have e0 : (0 : Int32).toInt = 0 := rfl; omega)) (by first | omega | decide | (have e0 : (0 : Int32).toInt = 0 := rfl; omega)) (by first | omega | decide | (have e0 : (0 : Int32).toInt = 0 := rfl; omega)) (by first | omega | decide | (have e0 : (0 : Int32).toInt = 0 := rfl; omega)) hM602 hE603
                                · refine ⟨⟨by omega, by omega⟩, ?_⟩
                                  have a610 : 0 ≤ (rd σ539 17 x489).toInt ∧ (rd σ539 17 x489).toInt ≤ 1000 := hM540.2 17 _
                                  suffices hs : ∀ (q611 : Int32), q611.toInt = (rd σ539 17 x489).toInt → b_arcs_323 X32 X44 Q l1 l4 l5 l6 l7 l8 x487 r490 r508 r524 r538 q611 σ539 from hs (rd σ539 17 x489) rfl
                                  intro q611 hq611
                                  unfold b_arcs_323
                                  have f612 : 0 ≤ (σ539.1 18).toInt ∧ (σ539.1 18).toInt ≤ 500 := hM540.1 18
                                  generalize ey613 : (1000 + (σ539.1 18)) = y613
                                  replace ey613 := ey613.symm
                                  have ty613 : y613.toInt = 1000 + (σ539.1 18).toInt := i3_addc rfl rfl ey613 (by omega)
                                  clear ey613
                                  have bd614 := i3_bd (((((((r490).toInt64) * ((y613).toInt64)) + (999 : Int64)) / (1000 : Int64))).toInt32)
                                  generalize ey615 : ((((((((r490).toInt64) * ((y613).toInt64)) + (999 : Int64)) / (1000 : Int64))).toInt32) + q611) = y615
                                  replace ey615 := ey615.symm
                                  clear ey615
                                  refine ⟨⟨by omega, by omega⟩, ?_⟩
                                  have hM616 := hM540.sa 36 x487 y615 (i3_bd _)
                                  have hE617 := hE541.sa 36 x487 y615 (by decide)
                                  have u618 : ((sa σ539 36 x487 y615).1 30).toInt = (σ539.1 30).toInt := rfl
                                  have u619 : ((sa σ539 36 x487 y615).1 18).toInt = (σ539.1 18).toInt := rfl
                                  have w620 : (rd (sa σ539 36 x487 y615) 36 x487).toInt = y615.toInt := by rw [rd_sa]
                                  have f621 : 0 ≤ ((sa σ539 36 x487 y615).1 19).toInt ∧ ((sa σ539 36 x487 y615).1 19).toInt ≤ 500 := hM616.1 19
                                  generalize ey622 : (1000 - ((sa σ539 36 x487 y615).1 19)) = y622
                                  replace ey622 := ey622.symm
                                  have ty622 : y622.toInt = 1000 - ((sa σ539 36 x487 y615).1 19).toInt := i3_subc rfl rfl ey622 (by omega)
                                  clear ey622
                                  have bd623 := i3_bd ((((((r524).toInt64) * ((y622).toInt64)) / (1000 : Int64))).toInt32)
                                  generalize ey624 : (((((((r524).toInt64) * ((y622).toInt64)) / (1000 : Int64))).toInt32) + q611) = y624
                                  replace ey624 := ey624.symm
                                  clear ey624
                                  refine ⟨⟨by omega, by omega⟩, ?_⟩
                                  have hM625 := hM616.sa 37 x487 y624 (i3_bd _)
                                  have hE626 := hE617.sa 37 x487 y624 (by decide)
                                  have u627 : ((sa (sa σ539 36 x487 y615) 37 x487 y624).1 30).toInt = ((sa σ539 36 x487 y615).1 30).toInt := rfl
                                  have u628 : ((sa (sa σ539 36 x487 y615) 37 x487 y624).1 18).toInt = ((sa σ539 36 x487 y615).1 18).toInt := rfl
                                  have u629 : ((sa (sa σ539 36 x487 y615) 37 x487 y624).1 19).toInt = ((sa σ539 36 x487 y615).1 19).toInt := rfl
                                  have w630 : (rd (sa (sa σ539 36 x487 y615) 37 x487 y624) 37 x487).toInt = y624.toInt := by rw [rd_sa]
                                  generalize ey631 : (2 * l1) = y631
                                  replace ey631 := ey631.symm
                                  have ty631 : y631.toInt = 2 * l1.toInt := i3_mulc rfl rfl ey631 (by omega)
                                  clear ey631
                                  generalize ey632 : (y631 + l6) = y632
                                  replace ey632 := ey632.symm
                                  have ty632 : y632.toInt = y631.toInt + l6.toInt := i3_addc rfl rfl ey632 (by omega)
                                  clear ey632
                                  refine ⟨fun c633 => ?_, fun c633 => ?_⟩
                                  · unfold b_arcs_421
                                    refine ⟨⟨by omega, by omega⟩, ?_⟩
                                    have hM634 := hM625.sa 38 y632 r508 (show 0 ≤ r508.toInt ∧ r508.toInt ≤ 100000 by omega)
                                    have hE635 := hE626.sa 38 y632 r508 (by decide)
                                    have u636 : ((sa (sa (sa σ539 36 x487 y615) 37 x487 y624) 38 y632 r508).1 30).toInt = ((sa (sa σ539 36 x487 y615) 37 x487 y624).1 30).toInt := rfl
                                    have u637 : ((sa (sa (sa σ539 36 x487 y615) 37 x487 y624) 38 y632 r508).1 18).toInt = ((sa (sa σ539 36 x487 y615) 37 x487 y624).1 18).toInt := rfl
                                    have u638 : ((sa (sa (sa σ539 36 x487 y615) 37 x487 y624) 38 y632 r508).1 19).toInt = ((sa (sa σ539 36 x487 y615) 37 x487 y624).1 19).toInt := rfl
                                    have w639 : (rd (sa (sa (sa σ539 36 x487 y615) 37 x487 y624) 38 y632 r508) 38 y632).toInt = r508.toInt := by rw [rd_sa]
                                    generalize ey640 : (2 * l1) = y640
                                    replace ey640 := ey640.symm
                                    have ty640 : y640.toInt = 2 * l1.toInt := i3_mulc rfl rfl ey640 (by omega)
                                    clear ey640
                                    generalize ey641 : (y640 + l6) = y641
                                    replace ey641 := ey641.symm
                                    have ty641 : y641.toInt = y640.toInt + l6.toInt := i3_addc rfl rfl ey641 (by omega)
                                    clear ey641
                                    refine ⟨fun c642 => ?_, fun c642 => ?_⟩
                                    · unfold b_arcs_458
                                      refine ⟨⟨by omega, by omega⟩, ?_⟩
                                      have hM643 := hM634.sa 39 y641 r538 (show 0 ≤ r538.toInt ∧ r538.toInt ≤ 100000 by omega)
                                      have hE644 := hE635.sa 39 y641 r538 (by decide)
                                      have u645 : ((sa (sa (sa (sa σ539 36 x487 y615) 37 x487 y624) 38 y632 r508) 39 y641 r538).1 30).toInt = ((sa (sa (sa σ539 36 x487 y615) 37 x487 y624) 38 y632 r508).1 30).toInt := rfl
                                      have u646 : ((sa (sa (sa (sa σ539 36 x487 y615) 37 x487 y624) 38 y632 r508) 39 y641 r538).1 18).toInt = ((sa (sa (sa σ539 36 x487 y615) 37 x487 y624) 38 y632 r508).1 18).toInt := rfl
                                      have u647 : ((sa (sa (sa (sa σ539 36 x487 y615) 37 x487 y624) 38 y632 r508) 39 y641 r538).1 19).toInt = ((sa (sa (sa σ539 36 x487 y615) 37 x487 y624) 38 y632 r508).1 19).toInt := rfl
                                      have w648 : (rd (sa (sa (sa (sa σ539 36 x487 y615) 37 x487 y624) 38 y632 r508) 39 y641 r538) 39 y641).toInt = r538.toInt := by rw [rd_sa]
                                      suffices hs : ∀ (q649 : Int32), q649.toInt = 1 → b_arcs_462 X32 X44 Q l1 l4 l5 l6 q649 l8 (sa (sa (sa (sa σ539 36 x487 y615) 37 x487 y624) 38 y632 r508) 39 y641 r538) from hs 1 rfl
                                      intro q649 hq649
                                      unfold b_arcs_462
                                      generalize ey650 : (l8 + 1) = y650
                                      replace ey650 := ey650.symm
                                      have ty650 : y650.toInt = l8.toInt + 1 := i3_addc rfl rfl ey650 (by omega)
                                      clear ey650
                                      exact ih_n16 l1 l4 l5 l6 q649 y650 (sa (sa (sa (sa σ539 36 x487 y615) 37 x487 y624) 38 y632 r508) 39 y641 r538) (by omega) (by first | omega | decide | (have e0 : (0 : Int32).toInt = 0 := rfl; omega)) (by first | omega | decide | (have e0 : (0 : Int32).toInt = 0 := rfl; omega)) (by first | omega | decide | (have e0 : (0 : Int32).toInt = 0 := rfl; omega)) (by first | omega | decide | (have e0 : (0 : Int32).toInt = 0 := rfl; omega)) (by first | omega | decide | (have e0 : (0 : Int32).toInt = 0 := rfl; omega)) (by first | omega | decide | (have e0 : (0 : Int32).toInt = 0 := rfl; omega)) (by first | omega | decide | (have e0 : (0 : Int32).toInt = 0 := rfl; omega)) hM643 hE644
                                    · exfalso; omega
                                  · refine ⟨⟨by omega, by omega⟩, ?_⟩
                                    have a651 : 0 ≤ (rd (sa (sa σ539 36 x487 y615) 37 x487 y624) 38 y632).toInt ∧ (rd (sa (sa σ539 36 x487 y615) 37 x487 y624) 38 y632).toInt ≤ 100000 := hM625.2 38 _
                                    have m652 : ((imax (rd (sa (sa σ539 36 x487 y615) 37 x487 y624) 38 y632) r508).toInt ≥ (rd (sa (sa σ539 36 x487 y615) 37 x487 y624) 38 y632).toInt ∧ (imax (rd (sa (sa σ539 36 x487 y615) 37 x487 y624) 38 y632) r508).toInt ≥ r508.toInt) ∧ ((imax (rd (sa (sa σ539 36 x487 y615) 37 x487 y624) 38 y632) r508).toInt = (rd (sa (sa σ539 36 x487 y615) 37 x487 y624) 38 y632).toInt ∨ (imax (rd (sa (sa σ539 36 x487 y615) 37 x487 y624) 38 y632) r508).toInt = r508.toInt) := i3_max rfl
                                    suffices hs : ∀ (q653 : Int32), q653.toInt = (imax (rd (sa (sa σ539 36 x487 y615) 37 x487 y624) 38 y632) r508).toInt → b_arcs_421 X32 X44 Q l1 l4 l5 l6 l7 l8 r538 q653 y632 (sa (sa σ539 36 x487 y615) 37 x487 y624) from hs (imax (rd (sa (sa σ539 36 x487 y615) 37 x487 y624) 38 y632) r508) rfl
                                    intro q653 hq653
                                    unfold b_arcs_421
                                    refine ⟨⟨by omega, by omega⟩, ?_⟩
                                    have hM654 := hM625.sa 38 y632 q653 (show 0 ≤ q653.toInt ∧ q653.toInt ≤ 100000 by omega)
                                    have hE655 := hE626.sa 38 y632 q653 (by decide)
                                    have u656 : ((sa (sa (sa σ539 36 x487 y615) 37 x487 y624) 38 y632 q653).1 30).toInt = ((sa (sa σ539 36 x487 y615) 37 x487 y624).1 30).toInt := rfl
                                    have u657 : ((sa (sa (sa σ539 36 x487 y615) 37 x487 y624) 38 y632 q653).1 18).toInt = ((sa (sa σ539 36 x487 y615) 37 x487 y624).1 18).toInt := rfl
                                    have u658 : ((sa (sa (sa σ539 36 x487 y615) 37 x487 y624) 38 y632 q653).1 19).toInt = ((sa (sa σ539 36 x487 y615) 37 x487 y624).1 19).toInt := rfl
                                    have w659 : (rd (sa (sa (sa σ539 36 x487 y615) 37 x487 y624) 38 y632 q653) 38 y632).toInt = q653.toInt := by rw [rd_sa]
                                    generalize ey660 : (2 * l1) = y660
                                    replace ey660 := ey660.symm
                                    have ty660 : y660.toInt = 2 * l1.toInt := i3_mulc rfl rfl ey660 (by omega)
                                    clear ey660
                                    generalize ey661 : (y660 + l6) = y661
                                    replace ey661 := ey661.symm
                                    have ty661 : y661.toInt = y660.toInt + l6.toInt := i3_addc rfl rfl ey661 (by omega)
                                    clear ey661
                                    refine ⟨fun c662 => ?_, fun c662 => ?_⟩
                                    · exfalso; omega
                                    · refine ⟨⟨by omega, by omega⟩, ?_⟩
                                      have a663 : 0 ≤ (rd (sa (sa (sa σ539 36 x487 y615) 37 x487 y624) 38 y632 q653) 39 y661).toInt ∧ (rd (sa (sa (sa σ539 36 x487 y615) 37 x487 y624) 38 y632 q653) 39 y661).toInt ≤ 100000 := hM654.2 39 _
                                      have m664 : ((imin (rd (sa (sa (sa σ539 36 x487 y615) 37 x487 y624) 38 y632 q653) 39 y661) r538).toInt ≤ (rd (sa (sa (sa σ539 36 x487 y615) 37 x487 y624) 38 y632 q653) 39 y661).toInt ∧ (imin (rd (sa (sa (sa σ539 36 x487 y615) 37 x487 y624) 38 y632 q653) 39 y661) r538).toInt ≤ r538.toInt) ∧ ((imin (rd (sa (sa (sa σ539 36 x487 y615) 37 x487 y624) 38 y632 q653) 39 y661) r538).toInt = (rd (sa (sa (sa σ539 36 x487 y615) 37 x487 y624) 38 y632 q653) 39 y661).toInt ∨ (imin (rd (sa (sa (sa σ539 36 x487 y615) 37 x487 y624) 38 y632 q653) 39 y661) r538).toInt = r538.toInt) := i3_min rfl
                                      suffices hs : ∀ (q665 : Int32), q665.toInt = (imin (rd (sa (sa (sa σ539 36 x487 y615) 37 x487 y624) 38 y632 q653) 39 y661) r538).toInt → b_arcs_458 X32 X44 Q l1 l4 l5 l6 l8 q665 y661 (sa (sa (sa σ539 36 x487 y615) 37 x487 y624) 38 y632 q653) from hs (imin (rd (sa (sa (sa σ539 36 x487 y615) 37 x487 y624) 38 y632 q653) 39 y661) r538) rfl
                                      intro q665 hq665
                                      unfold b_arcs_458
                                      refine ⟨⟨by omega, by omega⟩, ?_⟩
                                      have hM666 := hM654.sa 39 y661 q665 (show 0 ≤ q665.toInt ∧ q665.toInt ≤ 100000 by omega)
                                      have hE667 := hE655.sa 39 y661 q665 (by decide)
                                      have u668 : ((sa (sa (sa (sa σ539 36 x487 y615) 37 x487 y624) 38 y632 q653) 39 y661 q665).1 30).toInt = ((sa (sa (sa σ539 36 x487 y615) 37 x487 y624) 38 y632 q653).1 30).toInt := rfl
                                      have u669 : ((sa (sa (sa (sa σ539 36 x487 y615) 37 x487 y624) 38 y632 q653) 39 y661 q665).1 18).toInt = ((sa (sa (sa σ539 36 x487 y615) 37 x487 y624) 38 y632 q653).1 18).toInt := rfl
                                      have u670 : ((sa (sa (sa (sa σ539 36 x487 y615) 37 x487 y624) 38 y632 q653) 39 y661 q665).1 19).toInt = ((sa (sa (sa σ539 36 x487 y615) 37 x487 y624) 38 y632 q653).1 19).toInt := rfl
                                      have w671 : (rd (sa (sa (sa (sa σ539 36 x487 y615) 37 x487 y624) 38 y632 q653) 39 y661 q665) 39 y661).toInt = q665.toInt := by rw [rd_sa]
                                      suffices hs : ∀ (q672 : Int32), q672.toInt = 1 → b_arcs_462 X32 X44 Q l1 l4 l5 l6 q672 l8 (sa (sa (sa (sa σ539 36 x487 y615) 37 x487 y624) 38 y632 q653) 39 y661 q665) from hs 1 rfl
                                      intro q672 hq672
                                      unfold b_arcs_462
                                      generalize ey673 : (l8 + 1) = y673
                                      replace ey673 := ey673.symm
                                      have ty673 : y673.toInt = l8.toInt + 1 := i3_addc rfl rfl ey673 (by omega)
                                      clear ey673
                                      exact ih_n16 l1 l4 l5 l6 q672 y673 (sa (sa (sa (sa σ539 36 x487 y615) 37 x487 y624) 38 y632 q653) 39 y661 q665) (by omega) (by first | omega | decide | (have e0 : (0 : Int32).toInt = 0 := rfl; omega)) (by first | omega | decide | (have e0 : (0 : Int32).toInt = 0 := rfl; omega)) (by first | omega | decide | (have e0 : (0 : Int32).toInt = 0 := rfl; omega)) (by first | omega | decide | (have e0 : (0 : Int32).toInt = 0 := rfl; omega)) (by first | omega | decide | (have e0 : (0 : Int32).toInt = 0 := rfl; omega)) (by first | omega | decide | (have e0 : (0 : Int32).toInt = 0 := rfl; omega)) (by first | omega | decide | (have e0 : (0 : Int32).toInt = 0 := rfl; omega)) hM666 hE667
                              · refine ⟨⟨by omega, by omega⟩, ?_⟩
                                have hM674 := hM540.sa 35 l1 (σ539.1 30) (i3_bd _)
                                have hE675 := hE541.sa 35 l1 (σ539.1 30) (by decide)
                                have u676 : ((sa σ539 35 l1 (σ539.1 30)).1 30).toInt = (σ539.1 30).toInt := rfl
                                have w677 : (rd (sa σ539 35 l1 (σ539.1 30)) 35 l1).toInt = (σ539.1 30).toInt := by rw [rd_sa]
                                exact hq (sa σ539 35 l1 (σ539.1 30)) hM674 hE675
                  · exfalso; omega
                · exfalso; omega
        exact L_44_n16 ((4 - (0 : Int32).toInt).toNat + 1) l1 l4 l5 l6 0 0 σ (by decide) (by first | omega | decide | (have e0 : (0 : Int32).toInt = 0 := rfl; omega)) (by first | omega | decide | (have e0 : (0 : Int32).toInt = 0 := rfl; omega)) (by first | omega | decide | (have e0 : (0 : Int32).toInt = 0 := rfl; omega)) (by first | omega | decide | (have e0 : (0 : Int32).toInt = 0 := rfl; omega)) (by first | omega | decide | (have e0 : (0 : Int32).toInt = 0 := rfl; omega)) (by first | omega | decide | (have e0 : (0 : Int32).toInt = 0 := rfl; omega)) (by first | omega | decide | (have e0 : (0 : Int32).toInt = 0 := rfl; omega)) hM hE
  exact L_32_n14 ((2 - (0 : Int32).toInt).toNat + 1) p1 x11 x13 0 σ2 (by decide) (by first | omega | decide | (have e0 : (0 : Int32).toInt = 0 := rfl; omega)) (by first | omega | decide | (have e0 : (0 : Int32).toInt = 0 := rfl; omega)) (by first | omega | decide | (have e0 : (0 : Int32).toInt = 0 := rfl; omega)) (by first | omega | decide | (have e0 : (0 : Int32).toInt = 0 := rfl; omega)) hM3 hE4
