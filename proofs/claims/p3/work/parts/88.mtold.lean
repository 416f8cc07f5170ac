set_option maxHeartbeats 2000000 in
theorem rg_common {Q : Int32 → VS → Prop} {p1 : Int32} {p2 : Int32} {σ : VS} (hS : SI σ) (hM : MI σ) (hq : ∀ (r : Int32) (σ' : VS), MI σ' → Eo [] [] σ σ' → Q r σ') : wp_common Q p1 p2 σ := by
  unfold wp_common
  have hE : Eo [] [] σ σ := Eo.rfl
  have bd1 := i3_bd p1
  refine rg_isCell hM (fun r2 σ3 br2 ir2 hM4 hE5o => ?_)
  have hE5 := hE.of hE5o (by decide) (by decide)
  have f6 : 0 ≤ (σ.1 1).toInt ∧ (σ.1 1).toInt ≤ 50 := hM.1 1
  have u7 : (σ3.1 1).toInt = (σ.1 1).toInt := by rw [hE5o.1 1 (by decide)]
  refine ⟨fun c8 => ?_, fun c8 => ?_⟩
  · unfold b_common_25
    suffices hs : ∀ (q9 : Int32), q9.toInt = (-1) → b_common_26 Q q9 σ3 from hs (-1) rfl
    intro q9 hq9
    unfold b_common_26
    exact hq q9 σ3 hM4 hE5
  · have fc8 : 0 ≤ p1.toInt ∧ p1.toInt < (σ.1 1).toInt := ir2 c8
    have bd10 := i3_bd p2
    refine rg_isCell hM4 (fun r11 σ12 br11 ir11 hM13 hE14o => ?_)
    have hE14 := hE5.of hE14o (by decide) (by decide)
    have u15 : (σ12.1 1).toInt = (σ3.1 1).toInt := by rw [hE14o.1 1 (by decide)]
    refine ⟨fun c16 => ?_, fun c16 => ?_⟩
    · unfold b_common_25
      suffices hs : ∀ (q17 : Int32), q17.toInt = (-1) → b_common_26 Q q17 σ12 from hs (-1) rfl
      intro q17 hq17
      unfold b_common_26
      exact hq q17 σ12 hM13 hE14
    · have fc16 : 0 ≤ p2.toInt ∧ p2.toInt < (σ3.1 1).toInt := ir11 c16
      refine rg_shared ⟨by omega, by omega⟩ ⟨by omega, by omega⟩ (hS.same hE14 (by decide)) hM13 (fun r18 σ19 hM20 hE21o => ?_)
      have hE21 := hE14.of hE21o (by decide) (by decide)
      have bd22 := i3_bd r18
      have u23 : (σ19.1 1).toInt = (σ12.1 1).toInt := by rw [hE21o.1 1 (by decide)]
      unfold b_common_26
      exact hq r18 σ19 hM20 hE21
set_option maxHeartbeats 2000000 in
theorem rg_arrive {Q : VS → Prop} {p1 : Int32} {p2 : Int32} {σ : VS} (h_p1 : 0 ≤ p1.toInt ∧ p1.toInt ≤ 49) (h_p2 : 0 ≤ p2.toInt ∧ p2.toInt ≤ 1) (hf_1 : 0 ≤ (σ.1 1).toInt ∧ (σ.1 1).toInt ≤ 50) (hx_0 : p1.toInt < (σ.1 1).toInt) (hS : SI σ) (hM : MI σ) (hq : ∀ (σ' : VS), MI σ' → Eo [] [40, 41] σ σ' → Q σ') : wp_arrive Q p1 p2 σ := by
  unfold wp_arrive
  intro X46 H_46
  have hE : Eo [] [40, 41] σ σ := Eo.rfl
  obtain ⟨σ0, h0⟩ : ∃ z : VS, z = σ := ⟨_, rfl⟩
  rw [← h0] at hq
  replace hE : Eo [] [40, 41] σ0 σ := by rw [h0]; exact hE
  have hS0 : SI σ0 := by rw [h0]; exact hS
  clear h0
  refine rg_isGate ⟨by omega, by omega⟩ hM (fun r1 σ2 br1 hM3 hE4o => ?_)
  have hE4 := hE.of hE4o (by decide) (by decide)
  have u5 : (σ2.1 1).toInt = (σ.1 1).toInt := by rw [hE4o.1 1 (by decide)]
  refine ⟨fun c6 => ?_, fun c6 => ?_⟩
  · have L_46_n7 : ∀ (n7 : Nat) (l1 : Int32) (l2 : Int32) (l3 : Int32) (l4 : Int32) (σ : VS), 4 - l4.toInt < (n7 : Int) → 0 ≤ l1.toInt ∧ l1.toInt ≤ 49 → 0 ≤ l2.toInt ∧ l2.toInt ≤ 1 → 0 ≤ l3.toInt ∧ l3.toInt ≤ 1 → 0 ≤ l4.toInt ∧ l4.toInt ≤ 4 → MI σ → Eo [] [40, 41] σ0 σ → X46 l1 l2 l3 l4 σ := by
      intro n7
      induction n7 with
      | zero => intro l1 l2 l3 l4 σ hm h_l1 h_l2 h_l3 h_l4 hM hE; exfalso; omega
      | succ n7 ih_n7 =>
        intro l1 l2 l3 l4 σ hm h_l1 h_l2 h_l3 h_l4 hM hE
        have hm2_46 : 4 - l4.toInt < (n7 : Int) + 1 := by omega
        refine H_46 l1 l2 l3 l4 σ ?_
        unfold b_arrive_46
        refine ⟨⟨by omega, by omega⟩, ?_⟩
        have a8 : 0 ≤ (rd σ 3 l1).toInt ∧ (rd σ 3 l1).toInt ≤ 4 := hM.2 3 _
        refine ⟨fun c9 => ?_, fun c9 => ?_⟩
        · exact hq σ hM hE
        · generalize ey10 : (4 * l1) = y10
          replace ey10 := ey10.symm
          have ty10 : y10.toInt = 4 * l1.toInt := i3_mulc rfl rfl ey10 (by omega)
          clear ey10
          generalize ey11 : (y10 + l4) = y11
          replace ey11 := ey11.symm
          have ty11 : y11.toInt = y10.toInt + l4.toInt := i3_addc rfl rfl ey11 (by omega)
          clear ey11
          refine ⟨⟨by omega, by omega⟩, ?_⟩
          have a12 : (-1) ≤ (rd σ 7 y11).toInt ∧ (rd σ 7 y11).toInt ≤ 49 := hM.2 7 _
          intro x13 ex13
          have ix13 : x13.toInt = (rd σ 7 y11).toInt := by rw [ex13]
          refine ⟨fun c14 => ?_, fun c14 => ?_⟩
          · unfold b_arrive_239
            generalize ey15 : (l4 + 1) = y15
            replace ey15 := ey15.symm
            have ty15 : y15.toInt = l4.toInt + 1 := i3_addc rfl rfl ey15 (by omega)
            clear ey15
            exact ih_n7 l1 l2 l3 y15 σ (by omega) (by first | omega | decide | (have e0 : (0 : Int32).toInt = 0 := rfl; omega)) (by first | omega | decide | (have e0 : (0 : Int32).toInt = 0 := rfl; omega)) (by first | omega | decide | (have e0 : (0 : Int32).toInt = 0 := rfl; omega)) (by first | omega | decide | (have e0 : (0 : Int32).toInt = 0 := rfl; omega)) hM hE
          · refine ⟨⟨by omega, by omega⟩, ?_⟩
            have a16 : 0 ≤ (rd σ 34 x13).toInt ∧ (rd σ 34 x13).toInt ≤ 1 := hM.2 34 _
            refine ⟨fun c17 => ?_, fun c17 => ?_⟩
            · refine ⟨⟨by omega, by omega⟩, ?_⟩
              have a18 : 0 ≤ (rd σ 2 l1).toInt ∧ (rd σ 2 l1).toInt ≤ 5 := hM.2 2 _
              refine ⟨fun c19 => ?_, fun c19 => ?_⟩
              · unfold b_arrive_105
                generalize ey20 : (2 * x13) = y20
                replace ey20 := ey20.symm
                have ty20 : y20.toInt = 2 * x13.toInt := i3_mulc rfl rfl ey20 (by omega)
                clear ey20
                generalize ey21 : (y20 + l2) = y21
                replace ey21 := ey21.symm
                have ty21 : y21.toInt = y20.toInt + l2.toInt := i3_addc rfl rfl ey21 (by omega)
                clear ey21
                refine ⟨⟨by omega, by omega⟩, ?_⟩
                generalize ey22 : (8 * l1) = y22
                replace ey22 := ey22.symm
                have ty22 : y22.toInt = 8 * l1.toInt := i3_mulc rfl rfl ey22 (by omega)
                clear ey22
                generalize ey23 : (2 * l4) = y23
                replace ey23 := ey23.symm
                have ty23 : y23.toInt = 2 * l4.toInt := i3_mulc rfl rfl ey23 (by omega)
                clear ey23
                generalize ey24 : (y22 + y23) = y24
                replace ey24 := ey24.symm
                have ty24 : y24.toInt = y22.toInt + y23.toInt := i3_addc rfl rfl ey24 (by omega)
                clear ey24
                generalize ey25 : (y24 + l2) = y25
                replace ey25 := ey25.symm
                have ty25 : y25.toInt = y24.toInt + l2.toInt := i3_addc rfl rfl ey25 (by omega)
                clear ey25
                refine ⟨⟨by omega, by omega⟩, ?_⟩
                have bd26 := i3_bd (rd σ 40 y21)
                have bd27 := i3_bd (rd σ 36 y25)
                generalize ey28 : ((rd σ 40 y21) + (rd σ 36 y25)) = y28
                replace ey28 := ey28.symm
                clear ey28
                intro x29 ex29
                have ix29 : x29.toInt = y28.toInt := by rw [ex29]
                have bd30 := i3_bd y28
                refine ⟨⟨by omega, by omega⟩, ?_⟩
                refine ⟨⟨by omega, by omega⟩, ?_⟩
                have bd31 := i3_bd (rd σ 41 y21)
                have bd32 := i3_bd (rd σ 37 y25)
                generalize ey33 : ((rd σ 41 y21) + (rd σ 37 y25)) = y33
                replace ey33 := ey33.symm
                clear ey33
                intro x34 ex34
                have ix34 : x34.toInt = y33.toInt := by rw [ex34]
                have bd35 := i3_bd y33
                generalize ey36 : (2 * l1) = y36
                replace ey36 := ey36.symm
                have ty36 : y36.toInt = 2 * l1.toInt := i3_mulc rfl rfl ey36 (by omega)
                clear ey36
                generalize ey37 : (y36 + l2) = y37
                replace ey37 := ey37.symm
                have ty37 : y37.toInt = y36.toInt + l2.toInt := i3_addc rfl rfl ey37 (by omega)
                clear ey37
                refine ⟨fun c38 => ?_, fun c38 => ?_⟩
                · unfold b_arrive_202
                  refine ⟨⟨by omega, by omega⟩, ?_⟩
                  have hM39 := hM.sa 40 y37 x29 (i3_bd _)
                  have hE40 := hE.sa 40 y37 x29 (by decide)
                  have w41 : (rd (sa σ 40 y37 x29) 40 y37).toInt = x29.toInt := by rw [rd_sa]
                  generalize ey42 : (2 * l1) = y42
                  replace ey42 := ey42.symm
                  have ty42 : y42.toInt = 2 * l1.toInt := i3_mulc rfl rfl ey42 (by omega)
                  clear ey42
                  generalize ey43 : (y42 + l2) = y43
                  replace ey43 := ey43.symm
                  have ty43 : y43.toInt = y42.toInt + l2.toInt := i3_addc rfl rfl ey43 (by omega)
                  clear ey43
                  refine ⟨fun c44 => ?_, fun c44 => ?_⟩
                  · unfold b_arrive_236
                    refine ⟨⟨by omega, by omega⟩, ?_⟩
                    have hM45 := hM39.sa 41 y43 x34 (i3_bd _)
                    have hE46 := hE40.sa 41 y43 x34 (by decide)
                    have w47 : (rd (sa (sa σ 40 y37 x29) 41 y43 x34) 41 y43).toInt = x34.toInt := by rw [rd_sa]
                    suffices hs : ∀ (q48 : Int32), q48.toInt = 1 → b_arrive_239 X46 Q l1 l2 q48 l4 (sa (sa σ 40 y37 x29) 41 y43 x34) from hs 1 rfl
                    intro q48 hq48
                    unfold b_arrive_239
                    generalize ey49 : (l4 + 1) = y49
                    replace ey49 := ey49.symm
                    have ty49 : y49.toInt = l4.toInt + 1 := i3_addc rfl rfl ey49 (by omega)
                    clear ey49
                    exact ih_n7 l1 l2 q48 y49 (sa (sa σ 40 y37 x29) 41 y43 x34) (by omega) (by first | omega | decide | (have e0 : (0 : Int32).toInt = 0 := rfl; omega)) (by first | omega | decide | (have e0 : (0 : Int32).toInt = 0 := rfl; omega)) (by first | omega | decide | (have e0 : (0 : Int32).toInt = 0 := rfl; omega)) (by first | omega | decide | (have e0 : (0 : Int32).toInt = 0 := rfl; omega)) hM45 hE46
                  · exfalso; omega
                · refine ⟨⟨by omega, by omega⟩, ?_⟩
                  have bd50 := i3_bd (rd σ 40 y37)
                  have bd51 := i3_bd x29
                  have m52 : ((imax (rd σ 40 y37) x29).toInt ≥ (rd σ 40 y37).toInt ∧ (imax (rd σ 40 y37) x29).toInt ≥ x29.toInt) ∧ ((imax (rd σ 40 y37) x29).toInt = (rd σ 40 y37).toInt ∨ (imax (rd σ 40 y37) x29).toInt = x29.toInt) := i3_max rfl
                  suffices hs : ∀ (q53 : Int32), q53.toInt = (imax (rd σ 40 y37) x29).toInt → b_arrive_202 X46 Q l1 l2 l3 l4 x34 q53 y37 σ from hs (imax (rd σ 40 y37) x29) rfl
                  intro q53 hq53
                  have bd54 := i3_bd (imax (rd σ 40 y37) x29)
                  unfold b_arrive_202
                  refine ⟨⟨by omega, by omega⟩, ?_⟩
                  have hM55 := hM.sa 40 y37 q53 (i3_bd _)
                  have hE56 := hE.sa 40 y37 q53 (by decide)
                  have w57 : (rd (sa σ 40 y37 q53) 40 y37).toInt = q53.toInt := by rw [rd_sa]
                  generalize ey58 : (2 * l1) = y58
                  replace ey58 := ey58.symm
                  have ty58 : y58.toInt = 2 * l1.toInt := i3_mulc rfl rfl ey58 (by omega)
                  clear ey58
                  generalize ey59 : (y58 + l2) = y59
                  replace ey59 := ey59.symm
                  have ty59 : y59.toInt = y58.toInt + l2.toInt := i3_addc rfl rfl ey59 (by omega)
                  clear ey59
                  refine ⟨fun c60 => ?_, fun c60 => ?_⟩
                  · exfalso; omega
                  · refine ⟨⟨by omega, by omega⟩, ?_⟩
                    have bd61 := i3_bd (rd (sa σ 40 y37 q53) 41 y59)
                    have bd62 := i3_bd x34
                    have m63 : ((imin (rd (sa σ 40 y37 q53) 41 y59) x34).toInt ≤ (rd (sa σ 40 y37 q53) 41 y59).toInt ∧ (imin (rd (sa σ 40 y37 q53) 41 y59) x34).toInt ≤ x34.toInt) ∧ ((imin (rd (sa σ 40 y37 q53) 41 y59) x34).toInt = (rd (sa σ 40 y37 q53) 41 y59).toInt ∨ (imin (rd (sa σ 40 y37 q53) 41 y59) x34).toInt = x34.toInt) := i3_min rfl
                    suffices hs : ∀ (q64 : Int32), q64.toInt = (imin (rd (sa σ 40 y37 q53) 41 y59) x34).toInt → b_arrive_236 X46 Q l1 l2 l4 q64 y59 (sa σ 40 y37 q53) from hs (imin (rd (sa σ 40 y37 q53) 41 y59) x34) rfl
                    intro q64 hq64
                    have bd65 := i3_bd (imin (rd (sa σ 40 y37 q53) 41 y59) x34)
                    unfold b_arrive_236
                    refine ⟨⟨by omega, by omega⟩, ?_⟩
                    have hM66 := hM55.sa 41 y59 q64 (i3_bd _)
                    have hE67 := hE56.sa 41 y59 q64 (by decide)
                    have w68 : (rd (sa (sa σ 40 y37 q53) 41 y59 q64) 41 y59).toInt = q64.toInt := by rw [rd_sa]
                    suffices hs : ∀ (q69 : Int32), q69.toInt = 1 → b_arrive_239 X46 Q l1 l2 q69 l4 (sa (sa σ 40 y37 q53) 41 y59 q64) from hs 1 rfl
                    intro q69 hq69
                    unfold b_arrive_239
                    generalize ey70 : (l4 + 1) = y70
                    replace ey70 := ey70.symm
                    have ty70 : y70.toInt = l4.toInt + 1 := i3_addc rfl rfl ey70 (by omega)
                    clear ey70
                    exact ih_n7 l1 l2 q69 y70 (sa (sa σ 40 y37 q53) 41 y59 q64) (by omega) (by first | omega | decide | (have e0 : (0 : Int32).toInt = 0 := rfl; omega)) (by first | omega | decide | (have e0 : (0 : Int32).toInt = 0 := rfl; omega)) (by first | omega | decide | (have e0 : (0 : Int32).toInt = 0 := rfl; omega)) (by first | omega | decide | (have e0 : (0 : Int32).toInt = 0 := rfl; omega)) hM66 hE67
              · generalize ey71 : (1 - l2) = y71
                replace ey71 := ey71.symm
                have ty71 : y71.toInt = 1 - l2.toInt := i3_subc rfl rfl ey71 (by omega)
                clear ey71
                unfold b_arrive_105
                generalize ey72 : (2 * x13) = y72
                replace ey72 := ey72.symm
                have ty72 : y72.toInt = 2 * x13.toInt := i3_mulc rfl rfl ey72 (by omega)
                clear ey72
                generalize ey73 : (y72 + y71) = y73
                replace ey73 := ey73.symm
                have ty73 : y73.toInt = y72.toInt + y71.toInt := i3_addc rfl rfl ey73 (by omega)
                clear ey73
                refine ⟨⟨by omega, by omega⟩, ?_⟩
                generalize ey74 : (8 * l1) = y74
                replace ey74 := ey74.symm
                have ty74 : y74.toInt = 8 * l1.toInt := i3_mulc rfl rfl ey74 (by omega)
                clear ey74
                generalize ey75 : (2 * l4) = y75
                replace ey75 := ey75.symm
                have ty75 : y75.toInt = 2 * l4.toInt := i3_mulc rfl rfl ey75 (by omega)
                clear ey75
                generalize ey76 : (y74 + y75) = y76
                replace ey76 := ey76.symm
                have ty76 : y76.toInt = y74.toInt + y75.toInt := i3_addc rfl rfl ey76 (by omega)
                clear ey76
                generalize ey77 : (y76 + l2) = y77
                replace ey77 := ey77.symm
                have ty77 : y77.toInt = y76.toInt + l2.toInt := i3_addc rfl rfl ey77 (by omega)
                clear ey77
                refine ⟨⟨by omega, by omega⟩, ?_⟩
                have bd78 := i3_bd (rd σ 40 y73)
                have bd79 := i3_bd (rd σ 36 y77)
                generalize ey80 : ((rd σ 40 y73) + (rd σ 36 y77)) = y80
                replace ey80 := ey80.symm
                clear ey80
                intro x81 ex81
                have ix81 : x81.toInt = y80.toInt := by rw [ex81]
                have bd82 := i3_bd y80
                refine ⟨⟨by omega, by omega⟩, ?_⟩
                refine ⟨⟨by omega, by omega⟩, ?_⟩
                have bd83 := i3_bd (rd σ 41 y73)
                have bd84 := i3_bd (rd σ 37 y77)
                generalize ey85 : ((rd σ 41 y73) + (rd σ 37 y77)) = y85
                replace ey85 := ey85.symm
                clear ey85
                intro x86 ex86
                have ix86 : x86.toInt = y85.toInt := by rw [ex86]
                have bd87 := i3_bd y85
                generalize ey88 : (2 * l1) = y88
                replace ey88 := ey88.symm
                have ty88 : y88.toInt = 2 * l1.toInt := i3_mulc rfl rfl ey88 (by omega)
                clear ey88
                generalize ey89 : (y88 + l2) = y89
                replace ey89 := ey89.symm
                have ty89 : y89.toInt = y88.toInt + l2.toInt := i3_addc rfl rfl ey89 (by omega)
                clear ey89
                refine ⟨fun c90 => ?_, fun c90 => ?_⟩
                · unfold b_arrive_202
                  refine ⟨⟨by omega, by omega⟩, ?_⟩
                  have hM91 := hM.sa 40 y89 x81 (i3_bd _)
                  have hE92 := hE.sa 40 y89 x81 (by decide)
                  have w93 : (rd (sa σ 40 y89 x81) 40 y89).toInt = x81.toInt := by rw [rd_sa]
                  generalize ey94 : (2 * l1) = y94
                  replace ey94 := ey94.symm
                  have ty94 : y94.toInt = 2 * l1.toInt := i3_mulc rfl rfl ey94 (by omega)
                  clear ey94
                  generalize ey95 : (y94 + l2) = y95
                  replace ey95 := ey95.symm
                  have ty95 : y95.toInt = y94.toInt + l2.toInt := i3_addc rfl rfl ey95 (by omega)
                  clear ey95
                  refine ⟨fun c96 => ?_, fun c96 => ?_⟩
                  · unfold b_arrive_236
                    refine ⟨⟨by omega, by omega⟩, ?_⟩
                    have hM97 := hM91.sa 41 y95 x86 (i3_bd _)
                    have hE98 := hE92.sa 41 y95 x86 (by decide)
                    have w99 : (rd (sa (sa σ 40 y89 x81) 41 y95 x86) 41 y95).toInt = x86.toInt := by rw [rd_sa]
                    suffices hs : ∀ (q100 : Int32), q100.toInt = 1 → b_arrive_239 X46 Q l1 l2 q100 l4 (sa (sa σ 40 y89 x81) 41 y95 x86) from hs 1 rfl
                    intro q100 hq100
                    unfold b_arrive_239
                    generalize ey101 : (l4 + 1) = y101
                    replace ey101 := ey101.symm
                    have ty101 : y101.toInt = l4.toInt + 1 := i3_addc rfl rfl ey101 (by omega)
                    clear ey101
                    exact ih_n7 l1 l2 q100 y101 (sa (sa σ 40 y89 x81) 41 y95 x86) (by omega) (by first | omega | decide | (have e0 : (0 : Int32).toInt = 0 := rfl; omega)) (by first | omega | decide | (have e0 : (0 : Int32).toInt = 0 := rfl; omega)) (by first | omega | decide | (have e0 : (0 : Int32).toInt = 0 := rfl; omega)) (by first | omega | decide | (have e0 : (0 : Int32).toInt = 0 := rfl; omega)) hM97 hE98
                  · exfalso; omega
                · refine ⟨⟨by omega, by omega⟩, ?_⟩
                  have bd102 := i3_bd (rd σ 40 y89)
                  have bd103 := i3_bd x81
                  have m104 : ((imax (rd σ 40 y89) x81).toInt ≥ (rd σ 40 y89).toInt ∧ (imax (rd σ 40 y89) x81).toInt ≥ x81.toInt) ∧ ((imax (rd σ 40 y89) x81).toInt = (rd σ 40 y89).toInt ∨ (imax (rd σ 40 y89) x81).toInt = x81.toInt) := i3_max rfl
                  suffices hs : ∀ (q105 : Int32), q105.toInt = (imax (rd σ 40 y89) x81).toInt → b_arrive_202 X46 Q l1 l2 l3 l4 x86 q105 y89 σ from hs (imax (rd σ 40 y89) x81) rfl
                  intro q105 hq105
                  have bd106 := i3_bd (imax (rd σ 40 y89) x81)
                  unfold b_arrive_202
                  refine ⟨⟨by omega, by omega⟩, ?_⟩
                  have hM107 := hM.sa 40 y89 q105 (i3_bd _)
                  have hE108 := hE.sa 40 y89 q105 (by decide)
                  have w109 : (rd (sa σ 40 y89 q105) 40 y89).toInt = q105.toInt := by rw [rd_sa]
                  generalize ey110 : (2 * l1) = y110
                  replace ey110 := ey110.symm
                  have ty110 : y110.toInt = 2 * l1.toInt := i3_mulc rfl rfl ey110 (by omega)
                  clear ey110
                  generalize ey111 : (y110 + l2) = y111
                  replace ey111 := ey111.symm
                  have ty111 : y111.toInt = y110.toInt + l2.toInt := i3_addc rfl rfl ey111 (by omega)
                  clear ey111
                  refine ⟨fun c112 => ?_, fun c112 => ?_⟩
                  · exfalso; omega
                  · refine ⟨⟨by omega, by omega⟩, ?_⟩
                    have bd113 := i3_bd (rd (sa σ 40 y89 q105) 41 y111)
                    have bd114 := i3_bd x86
                    have m115 : ((imin (rd (sa σ 40 y89 q105) 41 y111) x86).toInt ≤ (rd (sa σ 40 y89 q105) 41 y111).toInt ∧ (imin (rd (sa σ 40 y89 q105) 41 y111) x86).toInt ≤ x86.toInt) ∧ ((imin (rd (sa σ 40 y89 q105) 41 y111) x86).toInt = (rd (sa σ 40 y89 q105) 41 y111).toInt ∨ (imin (rd (sa σ 40 y89 q105) 41 y111) x86).toInt = x86.toInt) := i3_min rfl
                    suffices hs : ∀ (q116 : Int32), q116.toInt = (imin (rd (sa σ 40 y89 q105) 41 y111) x86).toInt → b_arrive_236 X46 Q l1 l2 l4 q116 y111 (sa σ 40 y89 q105) from hs (imin (rd (sa σ 40 y89 q105) 41 y111) x86) rfl
                    intro q116 hq116
                    have bd117 := i3_bd (imin (rd (sa σ 40 y89 q105) 41 y111) x86)
                    unfold b_arrive_236
                    refine ⟨⟨by omega, by omega⟩, ?_⟩
                    have hM118 := hM107.sa 41 y111 q116 (i3_bd _)
                    have hE119 := hE108.sa 41 y111 q116 (by decide)
                    have w120 : (rd (sa (sa σ 40 y89 q105) 41 y111 q116) 41 y111).toInt = q116.toInt := by rw [rd_sa]
                    suffices hs : ∀ (q121 : Int32), q121.toInt = 1 → b_arrive_239 X46 Q l1 l2 q121 l4 (sa (sa σ 40 y89 q105) 41 y111 q116) from hs 1 rfl
                    intro q121 hq121
                    unfold b_arrive_239
                    generalize ey122 : (l4 + 1) = y122
                    replace ey122 := ey122.symm
                    have ty122 : y122.toInt = l4.toInt + 1 := i3_addc rfl rfl ey122 (by omega)
                    clear ey122
                    exact ih_n7 l1 l2 q121 y122 (sa (sa σ 40 y89 q105) 41 y111 q116) (by omega) (by first | omega | decide | (have e0 : (0 : Int32).toInt = 0 := rfl; omega)) (by first | omega | decide | (have e0 : (0 : Int32).toInt = 0 := rfl; omega)) (by first | omega | decide | (have e0 : (0 : Int32).toInt = 0 := rfl; omega)) (by first | omega | decide | (have e0 : (0 : Int32).toInt = 0 := rfl; omega)) hM118 hE119
            · unfold b_arrive_239
              generalize ey123 : (l4 + 1) = y123
              replace ey123 := ey123.symm
              have ty123 : y123.toInt = l4.toInt + 1 := i3_addc rfl rfl ey123 (by omega)
              clear ey123
              exact ih_n7 l1 l2 l3 y123 σ (by omega) (by first | omega | decide | (have e0 : (0 : Int32).toInt = 0 := rfl; omega)) (by first | omega | decide | (have e0 : (0 : Int32).toInt = 0 := rfl; omega)) (by first | omega | decide | (have e0 : (0 : Int32).toInt = 0 := rfl; omega)) (by first | omega | decide | (have e0 : (0 : Int32).toInt = 0 := rfl; omega)) hM hE
    exact L_46_n7 ((4 - (0 : Int32).toInt).toNat + 1) p1 p2 0 0 σ2 (by decide) (by first | omega | decide | (have e0 : (0 : Int32).toInt = 0 := rfl; omega)) (by first | omega | decide | (have e0 : (0 : Int32).toInt = 0 := rfl; omega)) (by first | omega | decide | (have e0 : (0 : Int32).toInt = 0 := rfl; omega)) (by first | omega | decide | (have e0 : (0 : Int32).toInt = 0 := rfl; omega)) hM3 hE4
  · generalize ey124 : (2 * p1) = y124
    replace ey124 := ey124.symm
    have ty124 : y124.toInt = 2 * p1.toInt := i3_mulc rfl rfl ey124 (by omega)
    clear ey124
    generalize ey125 : (y124 + p2) = y125
    replace ey125 := ey125.symm
    have ty125 : y125.toInt = y124.toInt + p2.toInt := i3_addc rfl rfl ey125 (by omega)
    clear ey125
    refine rg_startLate ⟨by omega, by omega⟩ ⟨by omega, by omega⟩ (hS0.same hE4 (by decide)) hM3 (fun r126 σ127 hM128 hE129o => ?_)
    have hE129 := hE4.of hE129o (by decide) (by decide)
    have bd130 := i3_bd r126
    have u131 : (σ127.1 1).toInt = (σ2.1 1).toInt := by rw [hE129o.1 1 (by decide)]
    refine ⟨⟨by omega, by omega⟩, ?_⟩
    have hM132 := hM128.sa 40 y125 r126 (i3_bd _)
    have hE133 := hE129.sa 40 y125 r126 (by decide)
    have u134 : ((sa σ127 40 y125 r126).1 1).toInt = (σ127.1 1).toInt := rfl
    have w135 : (rd (sa σ127 40 y125 r126) 40 y125).toInt = r126.toInt := by rw [rd_sa]
    refine rg_startEarly ⟨by omega, by omega⟩ ⟨by omega, by omega⟩ (hS0.same hE133 (by decide)) hM132 (fun r136 σ137 hM138 hE139o => ?_)
    have hE139 := hE133.of hE139o (by decide) (by decide)
    have bd140 := i3_bd r136
    have u141 : (σ137.1 1).toInt = ((sa σ127 40 y125 r126).1 1).toInt := by rw [hE139o.1 1 (by decide)]
    have u142 : (rd σ137 40 y125).toInt = (rd (sa σ127 40 y125 r126) 40 y125).toInt := by unfold rd; rw [hE139o.2 40 (by decide)]
    refine ⟨⟨by omega, by omega⟩, ?_⟩
    have hM143 := hM138.sa 41 y125 r136 (i3_bd _)
    have hE144 := hE139.sa 41 y125 r136 (by decide)
    have u145 : ((sa σ137 41 y125 r136).1 1).toInt = (σ137.1 1).toInt := rfl
    have w146 : (rd (sa σ137 41 y125 r136) 41 y125).toInt = r136.toInt := by rw [rd_sa]
    exact hq (sa σ137 41 y125 r136) hM143 hE144
set_option maxHeartbeats 2000000 in
theorem rg_worstOf {Q : Int32 → VS → Prop} {p1 : Int32} {σ : VS} (h_p1 : 0 ≤ p1.toInt ∧ p1.toInt ≤ 1) (hM : MI σ) (hq : ∀ (r : Int32) (σ' : VS), (-5) ≤ r.toInt ∧ r.toInt ≤ 49 → MI σ' → Eo [] [] σ σ' → Q r σ') : wp_worstOf Q p1 σ := by
  unfold wp_worstOf
  intro X10 H_10
  have hE : Eo [] [] σ σ := Eo.rfl
  obtain ⟨σ0, h0⟩ : ∃ z : VS, z = σ := ⟨_, rfl⟩
  rw [← h0] at hq
  replace hE : Eo [] [] σ0 σ := by rw [h0]; exact hE
  skip
  clear h0
  have f1 : 0 ≤ (σ.1 1).toInt ∧ (σ.1 1).toInt ≤ 50 := hM.1 1
  generalize ey2 : ((σ.1 1) - 1) = y2
  replace ey2 := ey2.symm
  have ty2 : y2.toInt = (σ.1 1).toInt - 1 := i3_subc rfl rfl ey2 (by omega)
  clear ey2
  intro x3 ex3
  have ix3 : x3.toInt = y2.toInt := by rw [ex3]
  have L_10_n4 : ∀ (n4 : Nat) (l1 : Int32) (l2 : Int32) (l3 : Int32) (σ : VS), l3.toInt - (-1) < (n4 : Int) → 0 ≤ l1.toInt ∧ l1.toInt ≤ 1 → (-5) ≤ l2.toInt ∧ l2.toInt ≤ 49 → (-1) ≤ l3.toInt ∧ l3.toInt ≤ 49 → l2.toInt = -5 ∨ 0 ≤ l2.toInt → MI σ → Eo [] [] σ0 σ → X10 l1 l2 l3 σ := by
    intro n4
    induction n4 with
    | zero => intro l1 l2 l3 σ hm h_l1 h_l2 h_l3 v_0 hM hE; exfalso; omega
    | succ n4 ih_n4 =>
      intro l1 l2 l3 σ hm h_l1 h_l2 h_l3 v_0 hM hE
      have hm2_10 : l3.toInt - (-1) < (n4 : Int) + 1 := by omega
      refine H_10 l1 l2 l3 σ ?_
      unfold b_worstOf_10
      refine ⟨fun c5 => ?_, fun c5 => ?_⟩
      · exact hq l2 σ ⟨by omega, by omega⟩ hM hE
      · refine ⟨⟨by omega, by omega⟩, ?_⟩
        have a6 : 0 ≤ (rd σ 45 l3).toInt ∧ (rd σ 45 l3).toInt ≤ 1000 := hM.2 45 _
        refine ⟨fun c7 => ?_, fun c7 => ?_⟩
        · refine ⟨fun c8 => ?_, fun c8 => ?_⟩
          · refine ⟨⟨by omega, by omega⟩, ?_⟩
            suffices hs : ∀ (q9 : Int32), q9.toInt = (rd σ 46 l3).toInt → b_worstOf_45 X10 Q l1 l2 l3 q9 σ from hs (rd σ 46 l3) rfl
            intro q9 hq9
            have bd10 := i3_bd (rd σ 46 l3)
            unfold b_worstOf_45
            refine ⟨fun c11 => ?_, fun c11 => ?_⟩
            · unfold b_worstOf_77
              unfold b_worstOf_79
              generalize ey12 : (l3 + (-1)) = y12
              replace ey12 := ey12.symm
              have ty12 : y12.toInt = l3.toInt + (-1) := i3_addc rfl rfl ey12 (by omega)
              clear ey12
              exact ih_n4 l1 l3 y12 σ (by omega) (by first | omega | decide | (have e0 : (0 : Int32).toInt = 0 := rfl; omega)) (by first | omega | decide | (have e0 : (0 : Int32).toInt = 0 := rfl; omega)) (by first | omega | decide | (have e0 : (0 : Int32).toInt = 0 := rfl; omega)) (by first | omega | decide | (have e0 : (0 : Int32).toInt = 0 := rfl; omega)) hM hE
            · refine ⟨fun c13 => ?_, fun c13 => ?_⟩
              · refine ⟨⟨by omega, by omega⟩, ?_⟩
                suffices hs : ∀ (q14 : Int32), q14.toInt = (rd σ 46 l2).toInt → b_worstOf_74 X10 Q l1 l2 l3 q14 q9 σ from hs (rd σ 46 l2) rfl
                intro q14 hq14
                have bd15 := i3_bd (rd σ 46 l2)
                unfold b_worstOf_74
                refine ⟨fun c16 => ?_, fun c16 => ?_⟩
                · unfold b_worstOf_79
                  generalize ey17 : (l3 + (-1)) = y17
                  replace ey17 := ey17.symm
                  have ty17 : y17.toInt = l3.toInt + (-1) := i3_addc rfl rfl ey17 (by omega)
                  clear ey17
                  exact ih_n4 l1 l2 y17 σ (by omega) (by first | omega | decide | (have e0 : (0 : Int32).toInt = 0 := rfl; omega)) (by first | omega | decide | (have e0 : (0 : Int32).toInt = 0 := rfl; omega)) (by first | omega | decide | (have e0 : (0 : Int32).toInt = 0 := rfl; omega)) (by first | omega | decide | (have e0 : (0 : Int32).toInt = 0 := rfl; omega)) hM hE
                · unfold b_worstOf_77
                  unfold b_worstOf_79
                  generalize ey18 : (l3 + (-1)) = y18
                  replace ey18 := ey18.symm
                  have ty18 : y18.toInt = l3.toInt + (-1) := i3_addc rfl rfl ey18 (by omega)
                  clear ey18
                  exact ih_n4 l1 l3 y18 σ (by omega) (by first | omega | decide | (have e0 : (0 : Int32).toInt = 0 := rfl; omega)) (by first | omega | decide | (have e0 : (0 : Int32).toInt = 0 := rfl; omega)) (by first | omega | decide | (have e0 : (0 : Int32).toInt = 0 := rfl; omega)) (by first | omega | decide | (have e0 : (0 : Int32).toInt = 0 := rfl; omega)) hM hE
              · exfalso; omega
          · refine ⟨⟨by omega, by omega⟩, ?_⟩
            suffices hs : ∀ (q19 : Int32), q19.toInt = (rd σ 47 l3).toInt → b_worstOf_45 X10 Q l1 l2 l3 q19 σ from hs (rd σ 47 l3) rfl
            intro q19 hq19
            have bd20 := i3_bd (rd σ 47 l3)
            unfold b_worstOf_45
            refine ⟨fun c21 => ?_, fun c21 => ?_⟩
            · unfold b_worstOf_77
              unfold b_worstOf_79
              generalize ey22 : (l3 + (-1)) = y22
              replace ey22 := ey22.symm
              have ty22 : y22.toInt = l3.toInt + (-1) := i3_addc rfl rfl ey22 (by omega)
              clear ey22
              exact ih_n4 l1 l3 y22 σ (by omega) (by first | omega | decide | (have e0 : (0 : Int32).toInt = 0 := rfl; omega)) (by first | omega | decide | (have e0 : (0 : Int32).toInt = 0 := rfl; omega)) (by first | omega | decide | (have e0 : (0 : Int32).toInt = 0 := rfl; omega)) (by first | omega | decide | (have e0 : (0 : Int32).toInt = 0 := rfl; omega)) hM hE
            · refine ⟨fun c23 => ?_, fun c23 => ?_⟩
              · exfalso; omega
              · refine ⟨⟨by omega, by omega⟩, ?_⟩
                suffices hs : ∀ (q24 : Int32), q24.toInt = (rd σ 47 l2).toInt → b_worstOf_74 X10 Q l1 l2 l3 q24 q19 σ from hs (rd σ 47 l2) rfl
                intro q24 hq24
                have bd25 := i3_bd (rd σ 47 l2)
                unfold b_worstOf_74
                refine ⟨fun c26 => ?_, fun c26 => ?_⟩
                · unfold b_worstOf_79
                  generalize ey27 : (l3 + (-1)) = y27
                  replace ey27 := ey27.symm
                  have ty27 : y27.toInt = l3.toInt + (-1) := i3_addc rfl rfl ey27 (by omega)
                  clear ey27
                  exact ih_n4 l1 l2 y27 σ (by omega) (by first | omega | decide | (have e0 : (0 : Int32).toInt = 0 := rfl; omega)) (by first | omega | decide | (have e0 : (0 : Int32).toInt = 0 := rfl; omega)) (by first | omega | decide | (have e0 : (0 : Int32).toInt = 0 := rfl; omega)) (by first | omega | decide | (have e0 : (0 : Int32).toInt = 0 := rfl; omega)) hM hE
                · unfold b_worstOf_77
                  unfold b_worstOf_79
                  generalize ey28 : (l3 + (-1)) = y28
                  replace ey28 := ey28.symm
                  have ty28 : y28.toInt = l3.toInt + (-1) := i3_addc rfl rfl ey28 (by omega)
                  clear ey28
                  exact ih_n4 l1 l3 y28 σ (by omega) (by first | omega | decide | (have e0 : (0 : Int32).toInt = 0 := rfl; omega)) (by first | omega | decide | (have e0 : (0 : Int32).toInt = 0 := rfl; omega)) (by first | omega | decide | (have e0 : (0 : Int32).toInt = 0 := rfl; omega)) (by first | omega | decide | (have e0 : (0 : Int32).toInt = 0 := rfl; omega)) hM hE
        · unfold b_worstOf_79
          generalize ey29 : (l3 + (-1)) = y29
          replace ey29 := ey29.symm
          have ty29 : y29.toInt = l3.toInt + (-1) := i3_addc rfl rfl ey29 (by omega)
          clear ey29
          exact ih_n4 l1 l2 y29 σ (by omega) (by first | omega | decide | (have e0 : (0 : Int32).toInt = 0 := rfl; omega)) (by first | omega | decide | (have e0 : (0 : Int32).toInt = 0 := rfl; omega)) (by first | omega | decide | (have e0 : (0 : Int32).toInt = 0 := rfl; omega)) (by first | omega | decide | (have e0 : (0 : Int32).toInt = 0 := rfl; omega)) hM hE
  exact L_10_n4 ((x3.toInt - (-1)).toNat + 1) p1 (-5) x3 σ (by omega) (by first | omega | decide | (have e0 : (0 : Int32).toInt = 0 := rfl; omega)) (by first | omega | decide | (have e0 : (0 : Int32).toInt = 0 := rfl; omega)) (by first | omega | decide | (have e0 : (0 : Int32).toInt = 0 := rfl; omega)) (by first | omega | decide | (have e0 : (0 : Int32).toInt = 0 := rfl; omega)) hM hE
set_option maxHeartbeats 2000000 in
theorem rg_about {Q : Int32 → VS → Prop} {p1 : Int32} {p2 : Int32} {σ : VS} (hS : SI σ) (hM : MI σ) (hq : ∀ (r : Int32) (σ' : VS), MI σ' → Eo [30, 32] [31, 33, 34, 35, 36, 37, 38, 39] σ σ' → Q r σ') : wp_about Q p1 p2 σ := by
  unfold wp_about
  have hE : Eo [30, 32] [31, 33, 34, 35, 36, 37, 38, 39] σ σ := Eo.rfl
  have bd1 := i3_bd p1
  refine rg_isCell hM (fun r2 σ3 br2 ir2 hM4 hE5o => ?_)
  have hE5 := hE.of hE5o (by decide) (by decide)
  have f6 : 0 ≤ (σ.1 1).toInt ∧ (σ.1 1).toInt ≤ 50 := hM.1 1
  have u7 : (σ3.1 1).toInt = (σ.1 1).toInt := by rw [hE5o.1 1 (by decide)]
  refine ⟨fun c8 => ?_, fun c8 => ?_⟩
  · unfold b_about_17
    exact hq (-1) σ3 hM4 hE5
  · have fc8 : 0 ≤ p1.toInt ∧ p1.toInt < (σ.1 1).toInt := ir2 c8
    refine ⟨fun c9 => ?_, fun c9 => ?_⟩
    · unfold b_about_17
      exact hq (-1) σ3 hM4 hE5
    · refine ⟨fun c10 => ?_, fun c10 => ?_⟩
      · refine rg_time (hS.same hE5 (by decide)) hM4 (fun σ12 hM13 hE14o _ => ?_)
        have hE14 := hE5.of hE14o (by decide) (by decide)
        have u15 : (σ12.1 1).toInt = (σ3.1 1).toInt := by rw [hE14o.1 1 (by decide)]
        refine ⟨⟨by omega, by omega⟩, ?_⟩
        have a16 : 0 ≤ (rd σ12 2 p1).toInt ∧ (rd σ12 2 p1).toInt ≤ 5 := hM13.2 2 _
        refine ⟨fun c17 => ?_, fun c17 => ?_⟩
        · unfold b_about_45
          refine ⟨fun hc => ?_, fun hc => ?_, fun hc => ?_, fun hc => ?_, fun hc => ?_, fun hc => ?_⟩
          · refine ⟨⟨by omega, by omega⟩, ?_⟩
            exact hq (rd σ12 2 p1) σ12 hM13 hE14
          · refine ⟨⟨by omega, by omega⟩, ?_⟩
            have a18 : 0 ≤ (rd σ12 3 p1).toInt ∧ (rd σ12 3 p1).toInt ≤ 4 := hM13.2 3 _
            exact hq (rd σ12 3 p1) σ12 hM13 hE14
          · refine ⟨⟨by omega, by omega⟩, ?_⟩
            have a19 : 0 ≤ (rd σ12 5 p1).toInt ∧ (rd σ12 5 p1).toInt ≤ 2 := hM13.2 5 _
            exact hq (rd σ12 5 p1) σ12 hM13 hE14
          · refine ⟨⟨by omega, by omega⟩, ?_⟩
            refine ⟨fun c20 => ?_, fun c20 => ?_⟩
            · refine rg_load ⟨by omega, by omega⟩ hM13 (fun r21 σ22 br21 hM23 hE24o => ?_)
              have hE24 := hE14.of hE24o (by decide) (by decide)
              have u25 : (σ22.1 1).toInt = (σ12.1 1).toInt := by rw [hE24o.1 1 (by decide)]
              have u26 : (rd σ22 2 p1).toInt = (rd σ12 2 p1).toInt := by unfold rd; rw [hE24o.2 2 (by decide)]
              unfold b_about_120
              exact hq r21 σ22 hM23 hE24
            · exfalso; omega
          · refine ⟨fun c27 => ?_, fun c27 => ?_⟩
            · exfalso; omega
            · refine ⟨⟨by omega, by omega⟩, ?_⟩
              have a28 : 0 ≤ (rd σ12 34 p1).toInt ∧ (rd σ12 34 p1).toInt ≤ 1 := hM13.2 34 _
              refine ⟨fun c29 => ?_, fun c29 => ?_⟩
              · unfold b_about_138
                suffices hs : ∀ (q30 : Int32), q30.toInt = 0 → b_about_139 Q q30 σ12 from hs 0 rfl
                intro q30 hq30
                unfold b_about_139
                exact hq q30 σ12 hM13 hE14
              · suffices hs : ∀ (q31 : Int32), q31.toInt = 1 → b_about_139 Q q31 σ12 from hs 1 rfl
                intro q31 hq31
                unfold b_about_139
                exact hq q31 σ12 hM13 hE14
          · refine ⟨fun c32 => ?_, fun c32 => ?_⟩
            · exfalso; omega
            · refine ⟨⟨by omega, by omega⟩, ?_⟩
              refine ⟨fun c33 => ?_, fun c33 => ?_⟩
              · refine ⟨⟨by omega, by omega⟩, ?_⟩
                refine ⟨fun c34 => ?_, fun c34 => ?_⟩
                · refine ⟨⟨by omega, by omega⟩, ?_⟩
                  suffices hs : ∀ (q35 : Int32), q35.toInt = (rd σ12 35 p1).toInt → b_about_177 Q q35 σ12 from hs (rd σ12 35 p1) rfl
                  intro q35 hq35
                  have bd36 := i3_bd (rd σ12 35 p1)
                  unfold b_about_177
                  have bd37 := i3_bd q35
                  exact hq q35 σ12 hM13 hE14
                · exfalso; omega
              · unfold b_about_153
                suffices hs : ∀ (q38 : Int32), q38.toInt = 0 → b_about_177 Q q38 σ12 from hs 0 rfl
                intro q38 hq38
                unfold b_about_177
                exact hq q38 σ12 hM13 hE14
        · generalize ey39 : (4 * p1) = y39
          replace ey39 := ey39.symm
          have ty39 : y39.toInt = 4 * p1.toInt := i3_mulc rfl rfl ey39 (by omega)
          clear ey39
          refine ⟨⟨by omega, by omega⟩, ?_⟩
          have a40 : (-1) ≤ (rd σ12 7 y39).toInt ∧ (rd σ12 7 y39).toInt ≤ 49 := hM13.2 7 _
          suffices hs : ∀ (q41 : Int32), q41.toInt = (rd σ12 7 y39).toInt → b_about_45 Q p1 p2 q41 σ12 from hs (rd σ12 7 y39) rfl
          intro q41 hq41
          unfold b_about_45
          refine ⟨fun hc => ?_, fun hc => ?_, fun hc => ?_, fun hc => ?_, fun hc => ?_, fun hc => ?_⟩
          · refine ⟨⟨by omega, by omega⟩, ?_⟩
            exact hq (rd σ12 2 p1) σ12 hM13 hE14
          · refine ⟨⟨by omega, by omega⟩, ?_⟩
            have a42 : 0 ≤ (rd σ12 3 p1).toInt ∧ (rd σ12 3 p1).toInt ≤ 4 := hM13.2 3 _
            exact hq (rd σ12 3 p1) σ12 hM13 hE14
          · refine ⟨⟨by omega, by omega⟩, ?_⟩
            have a43 : 0 ≤ (rd σ12 5 p1).toInt ∧ (rd σ12 5 p1).toInt ≤ 2 := hM13.2 5 _
            exact hq (rd σ12 5 p1) σ12 hM13 hE14
          · refine ⟨⟨by omega, by omega⟩, ?_⟩
            refine ⟨fun c44 => ?_, fun c44 => ?_⟩
            · exfalso; omega
            · suffices hs : ∀ (q45 : Int32), q45.toInt = 0 → b_about_120 Q q45 σ12 from hs 0 rfl
              intro q45 hq45
              unfold b_about_120
              exact hq q45 σ12 hM13 hE14
          · refine ⟨fun c46 => ?_, fun c46 => ?_⟩
            · unfold b_about_138
              suffices hs : ∀ (q47 : Int32), q47.toInt = 0 → b_about_139 Q q47 σ12 from hs 0 rfl
              intro q47 hq47
              unfold b_about_139
              exact hq q47 σ12 hM13 hE14
            · refine ⟨⟨by omega, by omega⟩, ?_⟩
              have a48 : 0 ≤ (rd σ12 34 q41).toInt ∧ (rd σ12 34 q41).toInt ≤ 1 := hM13.2 34 _
              refine ⟨fun c49 => ?_, fun c49 => ?_⟩
              · unfold b_about_138
                suffices hs : ∀ (q50 : Int32), q50.toInt = 0 → b_about_139 Q q50 σ12 from hs 0 rfl
                intro q50 hq50
                unfold b_about_139
                exact hq q50 σ12 hM13 hE14
              · suffices hs : ∀ (q51 : Int32), q51.toInt = 1 → b_about_139 Q q51 σ12 from hs 1 rfl
                intro q51 hq51
                unfold b_about_139
                exact hq q51 σ12 hM13 hE14
          · refine ⟨fun c52 => ?_, fun c52 => ?_⟩
            · unfold b_about_153
              suffices hs : ∀ (q53 : Int32), q53.toInt = 0 → b_about_177 Q q53 σ12 from hs 0 rfl
              intro q53 hq53
              unfold b_about_177
              exact hq q53 σ12 hM13 hE14
            · refine ⟨⟨by omega, by omega⟩, ?_⟩
              refine ⟨fun c54 => ?_, fun c54 => ?_⟩
              · refine ⟨⟨by omega, by omega⟩, ?_⟩
                refine ⟨fun c55 => ?_, fun c55 => ?_⟩
                · exfalso; omega
                · suffices hs : ∀ (q56 : Int32), q56.toInt = 1 → b_about_177 Q q56 σ12 from hs 1 rfl
                  intro q56 hq56
                  unfold b_about_177
                  exact hq q56 σ12 hM13 hE14
              · unfold b_about_153
                suffices hs : ∀ (q57 : Int32), q57.toInt = 0 → b_about_177 Q q57 σ12 from hs 0 rfl
                intro q57 hq57
                unfold b_about_177
                exact hq q57 σ12 hM13 hE14
      · unfold b_about_17
        exact hq (-1) σ3 hM4 hE5
set_option maxHeartbeats 2000000 in
theorem rg_told {Q : Int32 → VS → Prop} {p1 : Int32} {σ : VS} (hS : SI σ) (hM : MI σ) (hq : ∀ (r : Int32) (σ' : VS), MI σ' → Eo [30, 32] [31, 33, 34, 35, 36, 37, 38, 39, 42, 43, 44, 45, 46, 47] σ σ' → Q r σ') : wp_told Q p1 σ := by
  unfold wp_told
  have hE : Eo [30, 32] [31, 33, 34, 35, 36, 37, 38, 39, 42, 43, 44, 45, 46, 47] σ σ := Eo.rfl
  have bd1 := i3_bd p1
  refine rg_isCell hM (fun r2 σ3 br2 ir2 hM4 hE5o => ?_)
  have hE5 := hE.of hE5o (by decide) (by decide)
  have f6 : 0 ≤ (σ.1 1).toInt ∧ (σ.1 1).toInt ≤ 50 := hM.1 1
  have u7 : (σ3.1 1).toInt = (σ.1 1).toInt := by rw [hE5o.1 1 (by decide)]
  refine ⟨fun c8 => ?_, fun c8 => ?_⟩
  · have fc8 : 0 ≤ p1.toInt ∧ p1.toInt < (σ.1 1).toInt := ir2 c8
    refine rg_isTarget ⟨by omega, by omega⟩ hM4 (fun r9 σ10 br9 hM11 hE12o => ?_)
    have hE12 := hE5.of hE12o (by decide) (by decide)
    have u13 : (σ10.1 1).toInt = (σ3.1 1).toInt := by rw [hE12o.1 1 (by decide)]
    refine ⟨fun c14 => ?_, fun c14 => ?_⟩
    · refine rg_judge (hS.same hE12 (by decide)) hM11 (fun σ16 hM17 hE18o _ _ => ?_)
      have hE18 := hE12.of hE18o (by decide) (by decide)
      have u19 : (σ16.1 1).toInt = (σ10.1 1).toInt := by rw [hE18o.1 1 (by decide)]
      refine rg_isOpenTarget ⟨by omega, by omega⟩ hM17 (fun r20 σ21 br20 hM22 hE23o => ?_)
      have hE23 := hE18.of hE23o (by decide) (by decide)
      have u24 : (σ21.1 1).toInt = (σ16.1 1).toInt := by rw [hE23o.1 1 (by decide)]
      refine ⟨fun c25 => ?_, fun c25 => ?_⟩
      · refine ⟨⟨by omega, by omega⟩, ?_⟩
        have a26 : 0 ≤ (rd σ21 45 p1).toInt ∧ (rd σ21 45 p1).toInt ≤ 1000 := hM22.2 45 _
        refine ⟨fun c27 => ?_, fun c27 => ?_⟩
        · suffices hs : ∀ (q28 : Int32), q28.toInt = 0 → b_told_51 Q q28 σ21 from hs 0 rfl
          intro q28 hq28
          unfold b_told_51
          exact hq q28 σ21 hM22 hE23
        · suffices hs : ∀ (q29 : Int32), q29.toInt = 1 → b_told_51 Q q29 σ21 from hs 1 rfl
          intro q29 hq29
          unfold b_told_51
          exact hq q29 σ21 hM22 hE23
      · suffices hs : ∀ (q30 : Int32), q30.toInt = 2 → b_told_51 Q q30 σ21 from hs 2 rfl
        intro q30 hq30
        unfold b_told_51
        exact hq q30 σ21 hM22 hE23
    · exact hq (-2) σ10 hM11 hE12
  · exact hq (-1) σ3 hM4 hE5
set_option maxHeartbeats 2000000 in
theorem rg_slack {Q : Int32 → VS → Prop} {p1 : Int32} {σ : VS} (hS : SI σ) (hM : MI σ) (hq : ∀ (r : Int32) (σ' : VS), MI σ' → Eo [30, 32] [31, 33, 34, 35, 36, 37, 38, 39, 42, 43, 44, 45, 46, 47] σ σ' → Q r σ') : wp_slack Q p1 σ := by
  unfold wp_slack
  have hE : Eo [30, 32] [31, 33, 34, 35, 36, 37, 38, 39, 42, 43, 44, 45, 46, 47] σ σ := Eo.rfl
  have bd1 := i3_bd p1
  refine rg_isCell hM (fun r2 σ3 br2 ir2 hM4 hE5o => ?_)
  have hE5 := hE.of hE5o (by decide) (by decide)
  have f6 : 0 ≤ (σ.1 1).toInt ∧ (σ.1 1).toInt ≤ 50 := hM.1 1
  have u7 : (σ3.1 1).toInt = (σ.1 1).toInt := by rw [hE5o.1 1 (by decide)]
  refine ⟨fun c8 => ?_, fun c8 => ?_⟩
  · unfold b_slack_16
    exact hq 1000000000 σ3 hM4 hE5
  · have fc8 : 0 ≤ p1.toInt ∧ p1.toInt < (σ.1 1).toInt := ir2 c8
    refine rg_isTarget ⟨by omega, by omega⟩ hM4 (fun r9 σ10 br9 hM11 hE12o => ?_)
    have hE12 := hE5.of hE12o (by decide) (by decide)
    have u13 : (σ10.1 1).toInt = (σ3.1 1).toInt := by rw [hE12o.1 1 (by decide)]
    refine ⟨fun c14 => ?_, fun c14 => ?_⟩
    · refine rg_judge (hS.same hE12 (by decide)) hM11 (fun σ16 hM17 hE18o _ _ => ?_)
      have hE18 := hE12.of hE18o (by decide) (by decide)
      have u19 : (σ16.1 1).toInt = (σ10.1 1).toInt := by rw [hE18o.1 1 (by decide)]
      refine ⟨⟨by omega, by omega⟩, ?_⟩
      have bd20 := i3_bd (rd σ16 46 p1)
      exact hq (rd σ16 46 p1) σ16 hM17 hE18
    · unfold b_slack_16
      exact hq 1000000000 σ10 hM11 hE12
set_option maxHeartbeats 2000000 in
theorem rg_hold {Q : Int32 → VS → Prop} {p1 : Int32} {σ : VS} (hS : SI σ) (hM : MI σ) (hq : ∀ (r : Int32) (σ' : VS), MI σ' → Eo [30, 32] [31, 33, 34, 35, 36, 37, 38, 39, 42, 43, 44, 45, 46, 47] σ σ' → Q r σ') : wp_hold Q p1 σ := by
  unfold wp_hold
  have hE : Eo [30, 32] [31, 33, 34, 35, 36, 37, 38, 39, 42, 43, 44, 45, 46, 47] σ σ := Eo.rfl
  have bd1 := i3_bd p1
  refine rg_isCell hM (fun r2 σ3 br2 ir2 hM4 hE5o => ?_)
  have hE5 := hE.of hE5o (by decide) (by decide)
  have f6 : 0 ≤ (σ.1 1).toInt ∧ (σ.1 1).toInt ≤ 50 := hM.1 1
  have u7 : (σ3.1 1).toInt = (σ.1 1).toInt := by rw [hE5o.1 1 (by decide)]
  refine ⟨fun c8 => ?_, fun c8 => ?_⟩
  · unfold b_hold_16
    exact hq 1000000000 σ3 hM4 hE5
  · have fc8 : 0 ≤ p1.toInt ∧ p1.toInt < (σ.1 1).toInt := ir2 c8
    refine rg_isTarget ⟨by omega, by omega⟩ hM4 (fun r9 σ10 br9 hM11 hE12o => ?_)
    have hE12 := hE5.of hE12o (by decide) (by decide)
    have u13 : (σ10.1 1).toInt = (σ3.1 1).toInt := by rw [hE12o.1 1 (by decide)]
    refine ⟨fun c14 => ?_, fun c14 => ?_⟩
    · refine rg_judge (hS.same hE12 (by decide)) hM11 (fun σ16 hM17 hE18o _ _ => ?_)
      have hE18 := hE12.of hE18o (by decide) (by decide)
      have u19 : (σ16.1 1).toInt = (σ10.1 1).toInt := by rw [hE18o.1 1 (by decide)]
      refine ⟨⟨by omega, by omega⟩, ?_⟩
      have bd20 := i3_bd (rd σ16 47 p1)
      exact hq (rd σ16 47 p1) σ16 hM17 hE18
    · unfold b_hold_16
      exact hq 1000000000 σ10 hM11 hE12
set_option maxHeartbeats 2000000 in
theorem rg_worst {Q : Int32 → VS → Prop} {p1 : Int32} {σ : VS} (hS : SI σ) (hM : MI σ) (hq : ∀ (r : Int32) (σ' : VS), MI σ' → Eo [30, 32] [31, 33, 34, 35, 36, 37, 38, 39, 42, 43, 44, 45, 46, 47] σ σ' → Q r σ') : wp_worst Q p1 σ := by
  unfold wp_worst
  have hE : Eo [30, 32] [31, 33, 34, 35, 36, 37, 38, 39, 42, 43, 44, 45, 46, 47] σ σ := Eo.rfl
  refine ⟨fun c1 => ?_, fun c1 => ?_⟩
  · unfold b_worst_9
    exact hq (-1) σ hM hE
  · refine ⟨fun c2 => ?_, fun c2 => ?_⟩
    · refine rg_judge (hS.same hE (by decide)) hM (fun σ4 hM5 hE6o _ _ => ?_)
      have hE6 := hE.of hE6o (by decide) (by decide)
      refine ⟨fun c7 => ?_, fun c7 => ?_⟩
      · suffices hs : ∀ (q8 : Int32), q8.toInt = 0 → b_worst_26 Q q8 σ4 from hs 0 rfl
        intro q8 hq8
        unfold b_worst_26
        refine rg_worstOf ⟨by omega, by omega⟩ hM5 (fun r9 σ10 br9 hM11 hE12o => ?_)
        have hE12 := hE6.of hE12o (by decide) (by decide)
        exact hq r9 σ10 hM11 hE12
      · suffices hs : ∀ (q13 : Int32), q13.toInt = 1 → b_worst_26 Q q13 σ4 from hs 1 rfl
        intro q13 hq13
        unfold b_worst_26
        refine rg_worstOf ⟨by omega, by omega⟩ hM5 (fun r14 σ15 br14 hM16 hE17o => ?_)
        have hE17 := hE6.of hE17o (by decide) (by decide)
        exact hq r14 σ15 hM16 hE17
    · unfold b_worst_9
      exact hq (-1) σ hM hE
set_option maxHeartbeats 2000000 in
theorem rg_paths {Q : Int32 → VS → Prop} {p1 : Int32} {σ : VS} (hS : SI σ) (hM : MI σ) (hq : ∀ (r : Int32) (σ' : VS), MI σ' → Eo [30, 32] [31, 33, 34, 35, 36, 37, 38, 39, 42, 43, 44, 45, 46, 47] σ σ' → Q r σ') : wp_paths Q p1 σ := by
  unfold wp_paths
  have hE : Eo [30, 32] [31, 33, 34, 35, 36, 37, 38, 39, 42, 43, 44, 45, 46, 47] σ σ := Eo.rfl
  have bd1 := i3_bd p1
  refine rg_isCell hM (fun r2 σ3 br2 ir2 hM4 hE5o => ?_)
  have hE5 := hE.of hE5o (by decide) (by decide)
  have f6 : 0 ≤ (σ.1 1).toInt ∧ (σ.1 1).toInt ≤ 50 := hM.1 1
  have u7 : (σ3.1 1).toInt = (σ.1 1).toInt := by rw [hE5o.1 1 (by decide)]
  refine ⟨fun c8 => ?_, fun c8 => ?_⟩
  · have fc8 : 0 ≤ p1.toInt ∧ p1.toInt < (σ.1 1).toInt := ir2 c8
    refine rg_isTarget ⟨by omega, by omega⟩ hM4 (fun r9 σ10 br9 hM11 hE12o => ?_)
    have hE12 := hE5.of hE12o (by decide) (by decide)
    have u13 : (σ10.1 1).toInt = (σ3.1 1).toInt := by rw [hE12o.1 1 (by decide)]
    refine ⟨fun c14 => ?_, fun c14 => ?_⟩
    · refine rg_judge (hS.same hE12 (by decide)) hM11 (fun σ16 hM17 hE18o _ _ => ?_)
      have hE18 := hE12.of hE18o (by decide) (by decide)
      have u19 : (σ16.1 1).toInt = (σ10.1 1).toInt := by rw [hE18o.1 1 (by decide)]
      refine ⟨⟨by omega, by omega⟩, ?_⟩
      have a20 : 0 ≤ (rd σ16 45 p1).toInt ∧ (rd σ16 45 p1).toInt ≤ 1000 := hM17.2 45 _
      exact hq (rd σ16 45 p1) σ16 hM17 hE18
    · exact hq (-2) σ10 hM11 hE12
  · exact hq (-1) σ3 hM4 hE5
