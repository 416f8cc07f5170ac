set_option maxHeartbeats 2000000 in
theorem rg_X8putStepS {Q : VS → Prop} {p1 : Int32} {p2 : Int32} {p3 : Int32} {p4 : Int32} {σ : VS} (h_p1 : 0 ≤ p1.toInt ∧ p1.toInt ≤ 49) (hM : CI σ) (hq : ∀ (σ' : VS), CI σ' → Eo [16] [55, 56, 57, 58] σ σ' → Q σ') : wp_X8putStepS Q p1 p2 p3 p4 σ := by
  unfold wp_X8putStepS
  have hE : Eo [16] [55, 56, 57, 58] σ σ := Eo.rfl
  have f1 : 0 ≤ (σ.1 16).toInt ∧ (σ.1 16).toInt ≤ 51 := hM.1 16
  refine ⟨fun c2 => ?_, fun c2 => ?_⟩
  · unfold b_X8putStepS_60
    exact hq σ hM hE
  · refine ⟨⟨by omega, by omega⟩, ?_⟩
    have hM3 := hM.sa 55 (σ.1 16) p1 (show 0 ≤ p1.toInt ∧ p1.toInt ≤ 49 by omega)
    have hE4 := hE.sa 55 (σ.1 16) p1 (by decide)
    have u5 : ((sa σ 55 (σ.1 16) p1).1 16).toInt = (σ.1 16).toInt := rfl
    have w6 : (rd (sa σ 55 (σ.1 16) p1) 55 (σ.1 16)).toInt = p1.toInt := by rw [rd_sa]
    refine ⟨⟨by omega, by omega⟩, ?_⟩
    have hM7 := hM3.sa 56 ((sa σ 55 (σ.1 16) p1).1 16) p2 (i3_bd _)
    have hE8 := hE4.sa 56 ((sa σ 55 (σ.1 16) p1).1 16) p2 (by decide)
    have u9 : ((sa (sa σ 55 (σ.1 16) p1) 56 ((sa σ 55 (σ.1 16) p1).1 16) p2).1 16).toInt = ((sa σ 55 (σ.1 16) p1).1 16).toInt := rfl
    have w10 : (rd (sa (sa σ 55 (σ.1 16) p1) 56 ((sa σ 55 (σ.1 16) p1).1 16) p2) 56 ((sa σ 55 (σ.1 16) p1).1 16)).toInt = p2.toInt := by rw [rd_sa]
    refine ⟨⟨by omega, by omega⟩, ?_⟩
    have hM11 := hM7.sa 57 ((sa (sa σ 55 (σ.1 16) p1) 56 ((sa σ 55 (σ.1 16) p1).1 16) p2).1 16) p3 (i3_bd _)
    have hE12 := hE8.sa 57 ((sa (sa σ 55 (σ.1 16) p1) 56 ((sa σ 55 (σ.1 16) p1).1 16) p2).1 16) p3 (by decide)
    have u13 : ((sa (sa (sa σ 55 (σ.1 16) p1) 56 ((sa σ 55 (σ.1 16) p1).1 16) p2) 57 ((sa (sa σ 55 (σ.1 16) p1) 56 ((sa σ 55 (σ.1 16) p1).1 16) p2).1 16) p3).1 16).toInt = ((sa (sa σ 55 (σ.1 16) p1) 56 ((sa σ 55 (σ.1 16) p1).1 16) p2).1 16).toInt := rfl
    have w14 : (rd (sa (sa (sa σ 55 (σ.1 16) p1) 56 ((sa σ 55 (σ.1 16) p1).1 16) p2) 57 ((sa (sa σ 55 (σ.1 16) p1) 56 ((sa σ 55 (σ.1 16) p1).1 16) p2).1 16) p3) 57 ((sa (sa σ 55 (σ.1 16) p1) 56 ((sa σ 55 (σ.1 16) p1).1 16) p2).1 16)).toInt = p3.toInt := by rw [rd_sa]
    refine ⟨⟨by omega, by omega⟩, ?_⟩
    have hM15 := hM11.sa 58 ((sa (sa (sa σ 55 (σ.1 16) p1) 56 ((sa σ 55 (σ.1 16) p1).1 16) p2) 57 ((sa (sa σ 55 (σ.1 16) p1) 56 ((sa σ 55 (σ.1 16) p1).1 16) p2).1 16) p3).1 16) p4 (i3_bd _)
    have hE16 := hE12.sa 58 ((sa (sa (sa σ 55 (σ.1 16) p1) 56 ((sa σ 55 (σ.1 16) p1).1 16) p2) 57 ((sa (sa σ 55 (σ.1 16) p1) 56 ((sa σ 55 (σ.1 16) p1).1 16) p2).1 16) p3).1 16) p4 (by decide)
    have u17 : ((sa (sa (sa (sa σ 55 (σ.1 16) p1) 56 ((sa σ 55 (σ.1 16) p1).1 16) p2) 57 ((sa (sa σ 55 (σ.1 16) p1) 56 ((sa σ 55 (σ.1 16) p1).1 16) p2).1 16) p3) 58 ((sa (sa (sa σ 55 (σ.1 16) p1) 56 ((sa σ 55 (σ.1 16) p1).1 16) p2) 57 ((sa (sa σ 55 (σ.1 16) p1) 56 ((sa σ 55 (σ.1 16) p1).1 16) p2).1 16) p3).1 16) p4).1 16).toInt = ((sa (sa (sa σ 55 (σ.1 16) p1) 56 ((sa σ 55 (σ.1 16) p1).1 16) p2) 57 ((sa (sa σ 55 (σ.1 16) p1) 56 ((sa σ 55 (σ.1 16) p1).1 16) p2).1 16) p3).1 16).toInt := rfl
    have w18 : (rd (sa (sa (sa (sa σ 55 (σ.1 16) p1) 56 ((sa σ 55 (σ.1 16) p1).1 16) p2) 57 ((sa (sa σ 55 (σ.1 16) p1) 56 ((sa σ 55 (σ.1 16) p1).1 16) p2).1 16) p3) 58 ((sa (sa (sa σ 55 (σ.1 16) p1) 56 ((sa σ 55 (σ.1 16) p1).1 16) p2) 57 ((sa (sa σ 55 (σ.1 16) p1) 56 ((sa σ 55 (σ.1 16) p1).1 16) p2).1 16) p3).1 16) p4) 58 ((sa (sa (sa σ 55 (σ.1 16) p1) 56 ((sa σ 55 (σ.1 16) p1).1 16) p2) 57 ((sa (sa σ 55 (σ.1 16) p1) 56 ((sa σ 55 (σ.1 16) p1).1 16) p2).1 16) p3).1 16)).toInt = p4.toInt := by rw [rd_sa]
    generalize ey19 : (((sa (sa (sa (sa σ 55 (σ.1 16) p1) 56 ((sa σ 55 (σ.1 16) p1).1 16) p2) 57 ((sa (sa σ 55 (σ.1 16) p1) 56 ((sa σ 55 (σ.1 16) p1).1 16) p2).1 16) p3) 58 ((sa (sa (sa σ 55 (σ.1 16) p1) 56 ((sa σ 55 (σ.1 16) p1).1 16) p2) 57 ((sa (sa σ 55 (σ.1 16) p1) 56 ((sa σ 55 (σ.1 16) p1).1 16) p2).1 16) p3).1 16) p4).1 16) + 1) = y19
    replace ey19 := ey19.symm
    have ty19 : y19.toInt = ((sa (sa (sa (sa σ 55 (σ.1 16) p1) 56 ((sa σ 55 (σ.1 16) p1).1 16) p2) 57 ((sa (sa σ 55 (σ.1 16) p1) 56 ((sa σ 55 (σ.1 16) p1).1 16) p2).1 16) p3) 58 ((sa (sa (sa σ 55 (σ.1 16) p1) 56 ((sa σ 55 (σ.1 16) p1).1 16) p2) 57 ((sa (sa σ 55 (σ.1 16) p1) 56 ((sa σ 55 (σ.1 16) p1).1 16) p2).1 16) p3).1 16) p4).1 16).toInt + 1 := i3_addc rfl rfl ey19 (by omega)
    clear ey19
    have hM20 := hM15.sf 16 y19 (show 0 ≤ y19.toInt ∧ y19.toInt ≤ 51 by omega)
    have hE21 := hE16.sf 16 y19 (by decide)
    have u22 : ((sf (sa (sa (sa (sa σ 55 (σ.1 16) p1) 56 ((sa σ 55 (σ.1 16) p1).1 16) p2) 57 ((sa (sa σ 55 (σ.1 16) p1) 56 ((sa σ 55 (σ.1 16) p1).1 16) p2).1 16) p3) 58 ((sa (sa (sa σ 55 (σ.1 16) p1) 56 ((sa σ 55 (σ.1 16) p1).1 16) p2) 57 ((sa (sa σ 55 (σ.1 16) p1) 56 ((sa σ 55 (σ.1 16) p1).1 16) p2).1 16) p3).1 16) p4) 16 y19).1 16).toInt = y19.toInt := rfl
    unfold b_X8putStepS_60
    exact hq (sf (sa (sa (sa (sa σ 55 (σ.1 16) p1) 56 ((sa σ 55 (σ.1 16) p1).1 16) p2) 57 ((sa (sa σ 55 (σ.1 16) p1) 56 ((sa σ 55 (σ.1 16) p1).1 16) p2).1 16) p3) 58 ((sa (sa (sa σ 55 (σ.1 16) p1) 56 ((sa σ 55 (σ.1 16) p1).1 16) p2) 57 ((sa (sa σ 55 (σ.1 16) p1) 56 ((sa σ 55 (σ.1 16) p1).1 16) p2).1 16) p3).1 16) p4) 16 y19) hM20 hE21
set_option maxHeartbeats 2000000 in
theorem rg_X8putStepT {Q : VS → Prop} {p1 : Int32} {p2 : Int32} {p3 : Int32} {p4 : Int32} {σ : VS} (h_p1 : 0 ≤ p1.toInt ∧ p1.toInt ≤ 49) (hM : CI σ) (hq : ∀ (σ' : VS), CI σ' → Eo [19] [59, 60, 61, 62] σ σ' → Q σ') : wp_X8putStepT Q p1 p2 p3 p4 σ := by
  unfold wp_X8putStepT
  have hE : Eo [19] [59, 60, 61, 62] σ σ := Eo.rfl
  have f1 : 0 ≤ (σ.1 19).toInt ∧ (σ.1 19).toInt ≤ 51 := hM.1 19
  refine ⟨fun c2 => ?_, fun c2 => ?_⟩
  · unfold b_X8putStepT_60
    exact hq σ hM hE
  · refine ⟨⟨by omega, by omega⟩, ?_⟩
    have hM3 := hM.sa 59 (σ.1 19) p1 (show 0 ≤ p1.toInt ∧ p1.toInt ≤ 49 by omega)
    have hE4 := hE.sa 59 (σ.1 19) p1 (by decide)
    have u5 : ((sa σ 59 (σ.1 19) p1).1 19).toInt = (σ.1 19).toInt := rfl
    have w6 : (rd (sa σ 59 (σ.1 19) p1) 59 (σ.1 19)).toInt = p1.toInt := by rw [rd_sa]
    refine ⟨⟨by omega, by omega⟩, ?_⟩
    have hM7 := hM3.sa 60 ((sa σ 59 (σ.1 19) p1).1 19) p2 (i3_bd _)
    have hE8 := hE4.sa 60 ((sa σ 59 (σ.1 19) p1).1 19) p2 (by decide)
    have u9 : ((sa (sa σ 59 (σ.1 19) p1) 60 ((sa σ 59 (σ.1 19) p1).1 19) p2).1 19).toInt = ((sa σ 59 (σ.1 19) p1).1 19).toInt := rfl
    have w10 : (rd (sa (sa σ 59 (σ.1 19) p1) 60 ((sa σ 59 (σ.1 19) p1).1 19) p2) 60 ((sa σ 59 (σ.1 19) p1).1 19)).toInt = p2.toInt := by rw [rd_sa]
    refine ⟨⟨by omega, by omega⟩, ?_⟩
    have hM11 := hM7.sa 61 ((sa (sa σ 59 (σ.1 19) p1) 60 ((sa σ 59 (σ.1 19) p1).1 19) p2).1 19) p3 (i3_bd _)
    have hE12 := hE8.sa 61 ((sa (sa σ 59 (σ.1 19) p1) 60 ((sa σ 59 (σ.1 19) p1).1 19) p2).1 19) p3 (by decide)
    have u13 : ((sa (sa (sa σ 59 (σ.1 19) p1) 60 ((sa σ 59 (σ.1 19) p1).1 19) p2) 61 ((sa (sa σ 59 (σ.1 19) p1) 60 ((sa σ 59 (σ.1 19) p1).1 19) p2).1 19) p3).1 19).toInt = ((sa (sa σ 59 (σ.1 19) p1) 60 ((sa σ 59 (σ.1 19) p1).1 19) p2).1 19).toInt := rfl
    have w14 : (rd (sa (sa (sa σ 59 (σ.1 19) p1) 60 ((sa σ 59 (σ.1 19) p1).1 19) p2) 61 ((sa (sa σ 59 (σ.1 19) p1) 60 ((sa σ 59 (σ.1 19) p1).1 19) p2).1 19) p3) 61 ((sa (sa σ 59 (σ.1 19) p1) 60 ((sa σ 59 (σ.1 19) p1).1 19) p2).1 19)).toInt = p3.toInt := by rw [rd_sa]
    refine ⟨⟨by omega, by omega⟩, ?_⟩
    have hM15 := hM11.sa 62 ((sa (sa (sa σ 59 (σ.1 19) p1) 60 ((sa σ 59 (σ.1 19) p1).1 19) p2) 61 ((sa (sa σ 59 (σ.1 19) p1) 60 ((sa σ 59 (σ.1 19) p1).1 19) p2).1 19) p3).1 19) p4 (i3_bd _)
    have hE16 := hE12.sa 62 ((sa (sa (sa σ 59 (σ.1 19) p1) 60 ((sa σ 59 (σ.1 19) p1).1 19) p2) 61 ((sa (sa σ 59 (σ.1 19) p1) 60 ((sa σ 59 (σ.1 19) p1).1 19) p2).1 19) p3).1 19) p4 (by decide)
    have u17 : ((sa (sa (sa (sa σ 59 (σ.1 19) p1) 60 ((sa σ 59 (σ.1 19) p1).1 19) p2) 61 ((sa (sa σ 59 (σ.1 19) p1) 60 ((sa σ 59 (σ.1 19) p1).1 19) p2).1 19) p3) 62 ((sa (sa (sa σ 59 (σ.1 19) p1) 60 ((sa σ 59 (σ.1 19) p1).1 19) p2) 61 ((sa (sa σ 59 (σ.1 19) p1) 60 ((sa σ 59 (σ.1 19) p1).1 19) p2).1 19) p3).1 19) p4).1 19).toInt = ((sa (sa (sa σ 59 (σ.1 19) p1) 60 ((sa σ 59 (σ.1 19) p1).1 19) p2) 61 ((sa (sa σ 59 (σ.1 19) p1) 60 ((sa σ 59 (σ.1 19) p1).1 19) p2).1 19) p3).1 19).toInt := rfl
    have w18 : (rd (sa (sa (sa (sa σ 59 (σ.1 19) p1) 60 ((sa σ 59 (σ.1 19) p1).1 19) p2) 61 ((sa (sa σ 59 (σ.1 19) p1) 60 ((sa σ 59 (σ.1 19) p1).1 19) p2).1 19) p3) 62 ((sa (sa (sa σ 59 (σ.1 19) p1) 60 ((sa σ 59 (σ.1 19) p1).1 19) p2) 61 ((sa (sa σ 59 (σ.1 19) p1) 60 ((sa σ 59 (σ.1 19) p1).1 19) p2).1 19) p3).1 19) p4) 62 ((sa (sa (sa σ 59 (σ.1 19) p1) 60 ((sa σ 59 (σ.1 19) p1).1 19) p2) 61 ((sa (sa σ 59 (σ.1 19) p1) 60 ((sa σ 59 (σ.1 19) p1).1 19) p2).1 19) p3).1 19)).toInt = p4.toInt := by rw [rd_sa]
    generalize ey19 : (((sa (sa (sa (sa σ 59 (σ.1 19) p1) 60 ((sa σ 59 (σ.1 19) p1).1 19) p2) 61 ((sa (sa σ 59 (σ.1 19) p1) 60 ((sa σ 59 (σ.1 19) p1).1 19) p2).1 19) p3) 62 ((sa (sa (sa σ 59 (σ.1 19) p1) 60 ((sa σ 59 (σ.1 19) p1).1 19) p2) 61 ((sa (sa σ 59 (σ.1 19) p1) 60 ((sa σ 59 (σ.1 19) p1).1 19) p2).1 19) p3).1 19) p4).1 19) + 1) = y19
    replace ey19 := ey19.symm
    have ty19 : y19.toInt = ((sa (sa (sa (sa σ 59 (σ.1 19) p1) 60 ((sa σ 59 (σ.1 19) p1).1 19) p2) 61 ((sa (sa σ 59 (σ.1 19) p1) 60 ((sa σ 59 (σ.1 19) p1).1 19) p2).1 19) p3) 62 ((sa (sa (sa σ 59 (σ.1 19) p1) 60 ((sa σ 59 (σ.1 19) p1).1 19) p2) 61 ((sa (sa σ 59 (σ.1 19) p1) 60 ((sa σ 59 (σ.1 19) p1).1 19) p2).1 19) p3).1 19) p4).1 19).toInt + 1 := i3_addc rfl rfl ey19 (by omega)
    clear ey19
    have hM20 := hM15.sf 19 y19 (show 0 ≤ y19.toInt ∧ y19.toInt ≤ 51 by omega)
    have hE21 := hE16.sf 19 y19 (by decide)
    have u22 : ((sf (sa (sa (sa (sa σ 59 (σ.1 19) p1) 60 ((sa σ 59 (σ.1 19) p1).1 19) p2) 61 ((sa (sa σ 59 (σ.1 19) p1) 60 ((sa σ 59 (σ.1 19) p1).1 19) p2).1 19) p3) 62 ((sa (sa (sa σ 59 (σ.1 19) p1) 60 ((sa σ 59 (σ.1 19) p1).1 19) p2) 61 ((sa (sa σ 59 (σ.1 19) p1) 60 ((sa σ 59 (σ.1 19) p1).1 19) p2).1 19) p3).1 19) p4) 19 y19).1 19).toInt = y19.toInt := rfl
    unfold b_X8putStepT_60
    exact hq (sf (sa (sa (sa (sa σ 59 (σ.1 19) p1) 60 ((sa σ 59 (σ.1 19) p1).1 19) p2) 61 ((sa (sa σ 59 (σ.1 19) p1) 60 ((sa σ 59 (σ.1 19) p1).1 19) p2).1 19) p3) 62 ((sa (sa (sa σ 59 (σ.1 19) p1) 60 ((sa σ 59 (σ.1 19) p1).1 19) p2) 61 ((sa (sa σ 59 (σ.1 19) p1) 60 ((sa σ 59 (σ.1 19) p1).1 19) p2).1 19) p3).1 19) p4) 19 y19) hM20 hE21
set_option maxHeartbeats 2000000 in
theorem rg_X7onwardBy {Q : Int32 → VS → Prop} {p1 : Int32} {p2 : Int32} {σ : VS} (h_p1 : 0 ≤ p1.toInt ∧ p1.toInt ≤ 199) (h_p2 : 0 ≤ p2.toInt ∧ p2.toInt ≤ 15) (hM : CI σ) (hq : ∀ (r : Int32) (σ' : VS), 0 ≤ r.toInt ∧ r.toInt ≤ 1000 → CI σ' → Eo [] [] σ σ' → Q r σ') : wp_X7onwardBy Q p1 p2 σ := by
  unfold wp_X7onwardBy
  have hE : Eo [] [] σ σ := Eo.rfl
  generalize ey1 : (p1 / 4) = y1
  replace ey1 := ey1.symm
  have ty1 : y1.toInt = p1.toInt / 4 := i3_divc rfl rfl ey1 (by omega) (by decide)
  clear ey1
  intro x2 ex2
  have ix2 : x2.toInt = y1.toInt := by rw [ex2]
  refine ⟨⟨by omega, by omega⟩, ?_⟩
  have a3 : 0 ≤ (rd σ 35 x2).toInt ∧ (rd σ 35 x2).toInt ≤ 15 := hM.2 35 _
  generalize ey4 : (p2 ||| (rd σ 35 x2)) = y4
  replace ey4 := ey4.symm
  have ty4 := i3_or15 ey4 (by omega) (by omega)
  clear ey4
  intro x5 ex5
  have ix5 : x5.toInt = y4.toInt := by rw [ex5]
  have f6 : 0 ≤ (σ.1 13).toInt ∧ (σ.1 13).toInt ≤ 49 := hM.1 13
  refine ⟨fun c7 => ?_, fun c7 => ?_⟩
  · refine rg_X1isGate ⟨by omega, by omega⟩ hM (fun r8 σ9 br8 hM10 hE11o => ?_)
    have hE11 := hE.of hE11o (by decide) (by decide)
    have u12 : (rd σ9 35 x2).toInt = (rd σ 35 x2).toInt := by unfold rd; rw [hE11o.2 35 (by decide)]
    have u13 : (σ9.1 13).toInt = (σ.1 13).toInt := by rw [hE11o.1 13 (by decide)]
    refine ⟨fun c14 => ?_, fun c14 => ?_⟩
    · suffices hs : ∀ (q15 : Int32), q15.toInt = 0 → b_X7onwardBy_80 Q q15 σ9 from hs 0 rfl
      intro q15 hq15
      unfold b_X7onwardBy_80
      exact hq q15 σ9 ⟨by omega, by omega⟩ hM10 hE11
    · have f16 : 1 ≤ (σ9.1 11).toInt ∧ (σ9.1 11).toInt ≤ 16 := hM10.1 11
      generalize ey17 : (x2 * (σ9.1 11)) = y17
      replace ey17 := ey17.symm
      have ty17 : 0 ≤ y17.toInt ∧ y17.toInt ≤ 784 := i3_mulb (A := 49) (B := 16) ey17 (by omega) (by omega) (by decide)
      clear ey17
      generalize ey18 : (y17 + x5) = y18
      replace ey18 := ey18.symm
      have ty18 : y18.toInt = y17.toInt + x5.toInt := i3_addc rfl rfl ey18 (by omega)
      clear ey18
      refine ⟨⟨by omega, by omega⟩, ?_⟩
      have a19 : 0 ≤ (rd σ9 53 y18).toInt ∧ (rd σ9 53 y18).toInt ≤ 1000 := hM10.2 53 _
      suffices hs : ∀ (q20 : Int32), q20.toInt = (rd σ9 53 y18).toInt → b_X7onwardBy_80 Q q20 σ9 from hs (rd σ9 53 y18) rfl
      intro q20 hq20
      unfold b_X7onwardBy_80
      exact hq q20 σ9 ⟨by omega, by omega⟩ hM10 hE11
  · have f21 : 0 ≤ (σ.1 12).toInt ∧ (σ.1 12).toInt ≤ 49 := hM.1 12
    refine rg_X3periodsOf hM (fun r22 σ23 br22 hM24 hE25o => ?_)
    have hE25 := hE.of hE25o (by decide) (by decide)
    have u26 : (rd σ23 35 x2).toInt = (rd σ 35 x2).toInt := by unfold rd; rw [hE25o.2 35 (by decide)]
    have u27 : (σ23.1 13).toInt = (σ.1 13).toInt := by rw [hE25o.1 13 (by decide)]
    have u28 : (σ23.1 12).toInt = (σ.1 12).toInt := by rw [hE25o.1 12 (by decide)]
    refine ⟨fun c29 => ?_, fun c29 => ?_⟩
    · suffices hs : ∀ (q30 : Int32), q30.toInt = 0 → b_X7onwardBy_50 Q q30 σ23 from hs 0 rfl
      intro q30 hq30
      unfold b_X7onwardBy_50
      exact hq q30 σ23 ⟨by omega, by omega⟩ hM24 hE25
    · suffices hs : ∀ (q31 : Int32), q31.toInt = 1 → b_X7onwardBy_50 Q q31 σ23 from hs 1 rfl
      intro q31 hq31
      unfold b_X7onwardBy_50
      exact hq q31 σ23 ⟨by omega, by omega⟩ hM24 hE25
set_option maxHeartbeats 2000000 in
theorem rg_X7sumOnward {Q : Int32 → VS → Prop} {p1 : Int32} {p2 : Int32} {σ : VS} (h_p1 : 0 ≤ p1.toInt ∧ p1.toInt ≤ 49) (h_p2 : 0 ≤ p2.toInt ∧ p2.toInt ≤ 15) (hM : CI σ) (hq : ∀ (r : Int32) (σ' : VS), 0 ≤ r.toInt ∧ r.toInt ≤ 1000 → CI σ' → Eo [] [] σ σ' → Q r σ') : wp_X7sumOnward Q p1 p2 σ := by
  unfold wp_X7sumOnward
  intro X13 H_13
  have hE : Eo [] [] σ σ := Eo.rfl
  obtain ⟨σ0, h0⟩ : ∃ z : VS, z = σ := ⟨_, rfl⟩
  rw [← h0] at hq
  replace hE : Eo [] [] σ0 σ := by rw [h0]; exact hE
  clear h0
  refine ⟨⟨by omega, by omega⟩, ?_⟩
  have a1 : 0 ≤ (rd σ 18 p1).toInt ∧ (rd σ 18 p1).toInt ≤ 200 := hM.2 18 _
  intro x2 ex2
  have ix2 : x2.toInt = (rd σ 18 p1).toInt := by rw [ex2]
  have L_13_n3 : ∀ (n3 : Nat) (l1 : Int32) (l2 : Int32) (l3 : Int32) (l4 : Int32) (σ : VS), 200 - l4.toInt < (n3 : Int) → 0 ≤ l1.toInt ∧ l1.toInt ≤ 49 → 0 ≤ l2.toInt ∧ l2.toInt ≤ 15 → 0 ≤ l3.toInt ∧ l3.toInt ≤ 1000 → 0 ≤ l4.toInt ∧ l4.toInt ≤ 200 → CI σ → Eo [] [] σ0 σ → X13 l1 l2 l3 l4 σ := by
    intro n3
    induction n3 with
    | zero => intro l1 l2 l3 l4 σ hm h_l1 h_l2 h_l3 h_l4 hM hE; exfalso; omega
    | succ n3 ih_n3 =>
      intro l1 l2 l3 l4 σ hm h_l1 h_l2 h_l3 h_l4 hM hE
      have hm2_13 : 200 - l4.toInt < (n3 : Int) + 1 := by omega
      refine H_13 l1 l2 l3 l4 σ ?_
      unfold b_X7sumOnward_13
      generalize ey4 : (l1 + 1) = y4
      replace ey4 := ey4.symm
      have ty4 : y4.toInt = l1.toInt + 1 := i3_addc rfl rfl ey4 (by omega)
      clear ey4
      refine ⟨⟨by omega, by omega⟩, ?_⟩
      have a5 : 0 ≤ (rd σ 18 y4).toInt ∧ (rd σ 18 y4).toInt ≤ 200 := hM.2 18 _
      refine ⟨fun c6 => ?_, fun c6 => ?_⟩
      · exact hq l3 σ ⟨by omega, by omega⟩ hM hE
      · refine ⟨⟨by omega, by omega⟩, ?_⟩
        have a7 : 0 ≤ (rd σ 17 l4).toInt ∧ (rd σ 17 l4).toInt ≤ 199 := hM.2 17 _
        refine rg_X7onwardBy ⟨by omega, by omega⟩ ⟨by omega, by omega⟩ hM (fun r8 σ9 br8 hM10 hE11o => ?_)
        have hE11 := hE.of hE11o (by decide) (by decide)
        have u12 : (rd σ9 18 y4).toInt = (rd σ 18 y4).toInt := by unfold rd; rw [hE11o.2 18 (by decide)]
        have u13 : (rd σ9 17 l4).toInt = (rd σ 17 l4).toInt := by unfold rd; rw [hE11o.2 17 (by decide)]
        generalize ey14 : (l3 + r8) = y14
        replace ey14 := ey14.symm
        have ty14 : y14.toInt = l3.toInt + r8.toInt := i3_addc rfl rfl ey14 (by omega)
        clear ey14
        have m15 : ((imin 1000 y14).toInt ≤ 1000 ∧ (imin 1000 y14).toInt ≤ y14.toInt) ∧ ((imin 1000 y14).toInt = 1000 ∨ (imin 1000 y14).toInt = y14.toInt) := i3_min rfl
        intro x16 ex16
        have ix16 : x16.toInt = (imin 1000 y14).toInt := by rw [ex16]
        generalize ey17 : (l4 + 1) = y17
        replace ey17 := ey17.symm
        have ty17 : y17.toInt = l4.toInt + 1 := i3_addc rfl rfl ey17 (by omega)
        clear ey17
        exact ih_n3 l1 l2 x16 y17 σ9 (by omega) (by first | omega | decide) (by first | omega | decide) (by first | omega | decide) (by first | omega | decide) hM10 hE11
  exact L_13_n3 ((200 - x2.toInt).toNat + 1) p1 p2 0 x2 σ (by omega) (by first | omega | decide) (by first | omega | decide) (by first | omega | decide) (by first | omega | decide) hM hE
set_option maxHeartbeats 2000000 in
theorem rg_X7aimFrom {Q : Int32 → VS → Prop} {p1 : Int32} {σ : VS} (h_p1 : 0 ≤ p1.toInt ∧ p1.toInt ≤ 49) (hM : CI σ) (hq : ∀ (r : Int32) (σ' : VS), 0 ≤ r.toInt ∧ r.toInt ≤ 1000 → CI σ' → Eo [12] [53] σ σ' → Q r σ') : wp_X7aimFrom Q p1 σ := by
  unfold wp_X7aimFrom
  intro X15 X21 H_15 H_21
  have hE : Eo [12] [53] σ σ := Eo.rfl
  obtain ⟨σ0, h0⟩ : ∃ z : VS, z = σ := ⟨_, rfl⟩
  rw [← h0] at hq
  replace hE : Eo [12] [53] σ0 σ := by rw [h0]; exact hE
  clear h0
  have hM1 := hM.sf 12 p1 (show 0 ≤ p1.toInt ∧ p1.toInt ≤ 49 by omega)
  have hE2 := hE.sf 12 p1 (by decide)
  have f3 : 0 ≤ ((sf σ 12 p1).1 3).toInt ∧ ((sf σ 12 p1).1 3).toInt ≤ 50 := hM1.1 3
  generalize ey4 : (((sf σ 12 p1).1 3) - 1) = y4
  replace ey4 := ey4.symm
  have ty4 : y4.toInt = ((sf σ 12 p1).1 3).toInt - 1 := i3_subc rfl rfl ey4 (by omega)
  clear ey4
  intro x5 ex5
  have ix5 : x5.toInt = y4.toInt := by rw [ex5]
  have L_15_n6 : ∀ (n6 : Nat) (l2 : Int32) (σ : VS), l2.toInt - (-1) < (n6 : Int) → (-1) ≤ l2.toInt ∧ l2.toInt ≤ 49 → CI σ → Eo [12] [53] σ0 σ → X15 l2 σ := by
    intro n6
    induction n6 with
    | zero => intro l2 σ hm h_l2 hM hE; exfalso; omega
    | succ n6 ih_n6 =>
      intro l2 σ hm h_l2 hM hE
      have hm2_15 : l2.toInt - (-1) < (n6 : Int) + 1 := by omega
      refine H_15 l2 σ ?_
      unfold b_X7aimFrom_15
      refine ⟨fun c7 => ?_, fun c7 => ?_⟩
      · have f8 : 0 ≤ (σ.1 12).toInt ∧ (σ.1 12).toInt ≤ 49 := hM.1 12
        refine ⟨⟨by omega, by omega⟩, ?_⟩
        have a9 : 0 ≤ (rd σ 35 (σ.1 12)).toInt ∧ (rd σ 35 (σ.1 12)).toInt ≤ 15 := hM.2 35 _
        refine rg_X7sumOnward ⟨by omega, by omega⟩ ⟨by omega, by omega⟩ hM (fun r10 σ11 br10 hM12 hE13o => ?_)
        have hE13 := hE.of hE13o (by decide) (by decide)
        have u14 : (σ11.1 12).toInt = (σ.1 12).toInt := by rw [hE13o.1 12 (by decide)]
        have u15 : (rd σ11 35 (σ.1 12)).toInt = (rd σ 35 (σ.1 12)).toInt := by unfold rd; rw [hE13o.2 35 (by decide)]
        exact hq r10 σ11 ⟨by omega, by omega⟩ hM12 hE13
      · have L_21_n16 : ∀ (n16 : Nat) (l2 : Int32) (l3 : Int32) (σ : VS), 16 - l3.toInt < (n16 : Int) → 0 ≤ l2.toInt ∧ l2.toInt ≤ 49 → 0 ≤ l3.toInt ∧ l3.toInt ≤ 16 → l2.toInt - (-1) < (n6 : Int) + 1 → CI σ → Eo [12] [53] σ0 σ → X21 l2 l3 σ := by
          intro n16
          induction n16 with
          | zero => intro l2 l3 σ hm h_l2 h_l3 m_15 hM hE; exfalso; omega
          | succ n16 ih_n16 =>
            intro l2 l3 σ hm h_l2 h_l3 m_15 hM hE
            have hm2_21 : 16 - l3.toInt < (n16 : Int) + 1 := by omega
            refine H_21 l2 l3 σ ?_
            unfold b_X7aimFrom_21
            have f17 : 1 ≤ (σ.1 11).toInt ∧ (σ.1 11).toInt ≤ 16 := hM.1 11
            refine ⟨fun c18 => ?_, fun c18 => ?_⟩
            · generalize ey19 : (l2 + (-1)) = y19
              replace ey19 := ey19.symm
              have ty19 : y19.toInt = l2.toInt + (-1) := i3_addc rfl rfl ey19 (by omega)
              clear ey19
              exact ih_n6 y19 σ (by omega) (by first | omega | decide) hM hE
            · refine ⟨⟨by omega, by omega⟩, ?_⟩
              have a20 : 0 ≤ (rd σ 19 l2).toInt ∧ (rd σ 19 l2).toInt ≤ 49 := hM.2 19 _
              generalize ey21 : ((rd σ 19 l2) * (σ.1 11)) = y21
              replace ey21 := ey21.symm
              have ty21 : 0 ≤ y21.toInt ∧ y21.toInt ≤ 784 := i3_mulb (A := 49) (B := 16) ey21 (by omega) (by omega) (by decide)
              clear ey21
              generalize ey22 : (y21 + l3) = y22
              replace ey22 := ey22.symm
              have ty22 : y22.toInt = y21.toInt + l3.toInt := i3_addc rfl rfl ey22 (by omega)
              clear ey22
              refine ⟨⟨by omega, by omega⟩, ?_⟩
              refine rg_X7sumOnward ⟨by omega, by omega⟩ ⟨by omega, by omega⟩ hM (fun r23 σ24 br23 hM25 hE26o => ?_)
              have hE26 := hE.of hE26o (by decide) (by decide)
              have u27 : (σ24.1 11).toInt = (σ.1 11).toInt := by rw [hE26o.1 11 (by decide)]
              have u28 : (rd σ24 19 l2).toInt = (rd σ 19 l2).toInt := by unfold rd; rw [hE26o.2 19 (by decide)]
              refine ⟨⟨by omega, by omega⟩, ?_⟩
              have hM29 := hM25.sa 53 y22 r23 (show 0 ≤ r23.toInt ∧ r23.toInt ≤ 1000 by omega)
              have hE30 := hE26.sa 53 y22 r23 (by decide)
              have u31 : ((sa σ24 53 y22 r23).1 11).toInt = (σ24.1 11).toInt := rfl
              have w32 : (rd (sa σ24 53 y22 r23) 53 y22).toInt = r23.toInt := by rw [rd_sa]
              generalize ey33 : (l3 + 1) = y33
              replace ey33 := ey33.symm
              have ty33 : y33.toInt = l3.toInt + 1 := i3_addc rfl rfl ey33 (by omega)
              clear ey33
              exact ih_n16 l2 y33 (sa σ24 53 y22 r23) (by omega) (by first | omega | decide) (by first | omega | decide) (by first | omega | decide) hM29 hE30
        exact L_21_n16 ((16 - (0 : Int32).toInt).toNat + 1) l2 0 σ (by decide) (by first | omega | decide) (by first | omega | decide) (by first | omega | decide) hM hE
  exact L_15_n6 ((x5.toInt - (-1)).toNat + 1) x5 (sf σ 12 p1) (by omega) (by first | omega | decide) hM1 hE2
set_option maxHeartbeats 2000000 in
theorem rg_X7chooseWire {Q : Int32 → VS → Prop} {p1 : Int32} {p2 : Int32} {σ : VS} (h_p1 : 0 ≤ p1.toInt ∧ p1.toInt ≤ 49) (h_p2 : 0 ≤ p2.toInt ∧ p2.toInt ≤ 15) (hM : CI σ) (hq : ∀ (r : Int32) (σ' : VS), (-5) ≤ r.toInt ∧ r.toInt ≤ 199 → CI σ' → Eo [14] [] σ σ' → Q r σ') : wp_X7chooseWire Q p1 p2 σ := by
  unfold wp_X7chooseWire
  intro X10 H_10
  have hE : Eo [14] [] σ σ := Eo.rfl
  obtain ⟨σ0, h0⟩ : ∃ z : VS, z = σ := ⟨_, rfl⟩
  rw [← h0] at hq
  replace hE : Eo [14] [] σ0 σ := by rw [h0]; exact hE
  clear h0
  refine ⟨⟨by omega, by omega⟩, ?_⟩
  have a1 : 0 ≤ (rd σ 18 p1).toInt ∧ (rd σ 18 p1).toInt ≤ 200 := hM.2 18 _
  intro x2 ex2
  have ix2 : x2.toInt = (rd σ 18 p1).toInt := by rw [ex2]
  have L_10_n3 : ∀ (n3 : Nat) (l1 : Int32) (l2 : Int32) (l3 : Int32) (σ : VS), 200 - l3.toInt < (n3 : Int) → 0 ≤ l1.toInt ∧ l1.toInt ≤ 49 → 0 ≤ l2.toInt ∧ l2.toInt ≤ 15 → 0 ≤ l3.toInt ∧ l3.toInt ≤ 200 → CI σ → Eo [14] [] σ0 σ → X10 l1 l2 l3 σ := by
    intro n3
    induction n3 with
    | zero => intro l1 l2 l3 σ hm h_l1 h_l2 h_l3 hM hE; exfalso; omega
    | succ n3 ih_n3 =>
      intro l1 l2 l3 σ hm h_l1 h_l2 h_l3 hM hE
      have hm2_10 : 200 - l3.toInt < (n3 : Int) + 1 := by omega
      refine H_10 l1 l2 l3 σ ?_
      unfold b_X7chooseWire_10
      generalize ey4 : (l1 + 1) = y4
      replace ey4 := ey4.symm
      have ty4 : y4.toInt = l1.toInt + 1 := i3_addc rfl rfl ey4 (by omega)
      clear ey4
      refine ⟨⟨by omega, by omega⟩, ?_⟩
      have a5 : 0 ≤ (rd σ 18 y4).toInt ∧ (rd σ 18 y4).toInt ≤ 200 := hM.2 18 _
      refine ⟨fun c6 => ?_, fun c6 => ?_⟩
      · exact hq (-5) σ ⟨by decide, by decide⟩ hM hE
      · refine ⟨⟨by omega, by omega⟩, ?_⟩
        have a7 : 0 ≤ (rd σ 17 l3).toInt ∧ (rd σ 17 l3).toInt ≤ 199 := hM.2 17 _
        refine rg_X7onwardBy ⟨by omega, by omega⟩ ⟨by omega, by omega⟩ hM (fun r8 σ9 br8 hM10 hE11o => ?_)
        have hE11 := hE.of hE11o (by decide) (by decide)
        have u12 : (rd σ9 18 y4).toInt = (rd σ 18 y4).toInt := by unfold rd; rw [hE11o.2 18 (by decide)]
        have u13 : (rd σ9 17 l3).toInt = (rd σ 17 l3).toInt := by unfold rd; rw [hE11o.2 17 (by decide)]
        refine ⟨fun c14 => ?_, fun c14 => ?_⟩
        · have bd15 := i3_bd (σ9.1 14)
          generalize ey16 : ((σ9.1 14) - r8) = y16
          replace ey16 := ey16.symm
          have ty16 : y16.toInt = (σ9.1 14).toInt - r8.toInt := i3_subc rfl rfl ey16 (by omega)
          clear ey16
          have hM17 := hM10.sf 14 y16 (i3_bd _)
          have hE18 := hE11.sf 14 y16 (by decide)
          have u19 : (rd (sf σ9 14 y16) 18 y4).toInt = (rd σ9 18 y4).toInt := rfl
          have u20 : (rd (sf σ9 14 y16) 17 l3).toInt = (rd σ9 17 l3).toInt := rfl
          have u21 : ((sf σ9 14 y16).1 14).toInt = y16.toInt := rfl
          generalize ey22 : (l3 + 1) = y22
          replace ey22 := ey22.symm
          have ty22 : y22.toInt = l3.toInt + 1 := i3_addc rfl rfl ey22 (by omega)
          clear ey22
          exact ih_n3 l1 l2 y22 (sf σ9 14 y16) (by omega) (by first | omega | decide) (by first | omega | decide) (by first | omega | decide) hM17 hE18
        · refine ⟨⟨by omega, by omega⟩, ?_⟩
          exact hq (rd σ9 17 l3) σ9 ⟨by omega, by omega⟩ hM10 hE11
  exact L_10_n3 ((200 - x2.toInt).toNat + 1) p1 p2 x2 σ (by omega) (by first | omega | decide) (by first | omega | decide) (by first | omega | decide) hM hE
set_option maxHeartbeats 2000000 in
theorem rg_X7sortKeys {Q : VS → Prop} {σ : VS} (hM : CI σ) (hq : ∀ (σ' : VS), CI σ' → Eo [] [] σ σ' → Q σ') : wp_X7sortKeys Q σ := by
  unfold wp_X7sortKeys
  intro X9 X23 X45 H_9 H_23 H_45
  have hE : Eo [] [] σ σ := Eo.rfl
  obtain ⟨σ0, h0⟩ : ∃ z : VS, z = σ := ⟨_, rfl⟩
  rw [← h0] at hq
  replace hE : Eo [] [] σ0 σ := by rw [h0]; exact hE
  clear h0
  have L_9_n1 : ∀ (n1 : Nat) (l2 : Int32) (l3 : Int32) (σ : VS), 8 - l3.toInt < (n1 : Int) → 8 ≤ l2.toInt ∧ l2.toInt ≤ 8 → 0 ≤ l3.toInt ∧ l3.toInt ≤ 8 → CI σ → Eo [] [] σ0 σ → X9 l2 l3 σ := by
    intro n1
    induction n1 with
    | zero => intro l2 l3 σ hm h_l2 h_l3 hM hE; exfalso; omega
    | succ n1 ih_n1 =>
      intro l2 l3 σ hm h_l2 h_l3 hM hE
      have hm2_9 : 8 - l3.toInt < (n1 : Int) + 1 := by omega
      refine H_9 l2 l3 σ ?_
      unfold b_X7sortKeys_9
      refine ⟨fun c2 => ?_, fun c2 => ?_⟩
      · exact hq σ hM hE
      · refine ⟨⟨by omega, by omega⟩, ?_⟩
        have gl3 := AR.rd ar_lm_gaps (x := (lm_gaps.getD l3.toNatClampNeg 0)) rfl (by omega)
        intro x4 ex4
        have ix4 : x4.toInt = (lm_gaps.getD l3.toNatClampNeg 0).toInt := by rw [ex4]
        have L_23_n5 : ∀ (n5 : Nat) (l2 : Int32) (l3 : Int32) (l4 : Int32) (l5 : Int32) (σ : VS), 1000 - l5.toInt < (n5 : Int) → 8 ≤ l2.toInt ∧ l2.toInt ≤ 8 → 0 ≤ l3.toInt ∧ l3.toInt ≤ 7 → 1 ≤ l4.toInt ∧ l4.toInt ≤ 701 → 1 ≤ l5.toInt ∧ l5.toInt ≤ 1000 → 8 - l3.toInt < (n1 : Int) + 1 → CI σ → Eo [] [] σ0 σ → X23 l2 l3 l4 l5 σ := by
          intro n5
          induction n5 with
          | zero => intro l2 l3 l4 l5 σ hm h_l2 h_l3 h_l4 h_l5 m_9 hM hE; exfalso; omega
          | succ n5 ih_n5 =>
            intro l2 l3 l4 l5 σ hm h_l2 h_l3 h_l4 h_l5 m_9 hM hE
            have hm2_23 : 1000 - l5.toInt < (n5 : Int) + 1 := by omega
            refine H_23 l2 l3 l4 l5 σ ?_
            unfold b_X7sortKeys_23
            have f6 : 0 ≤ (σ.1 15).toInt ∧ (σ.1 15).toInt ≤ 1000 := hM.1 15
            refine ⟨fun c7 => ?_, fun c7 => ?_⟩
            · generalize ey8 : (l3 + 1) = y8
              replace ey8 := ey8.symm
              have ty8 : y8.toInt = l3.toInt + 1 := i3_addc rfl rfl ey8 (by omega)
              clear ey8
              exact ih_n1 l2 y8 σ (by omega) (by first | omega | decide) (by first | omega | decide) hM hE
            · refine ⟨⟨by omega, by omega⟩, ?_⟩
              intro x9 ex9
              clear ex9
              have L_45_n10 : ∀ (n10 : Nat) (l2 : Int32) (l3 : Int32) (l4 : Int32) (l5 : Int32) (l6 : Int64) (l8 : Int32) (σ : VS), l8.toInt - 0 < (n10 : Int) → 8 ≤ l2.toInt ∧ l2.toInt ≤ 8 → 0 ≤ l3.toInt ∧ l3.toInt ≤ 7 → 1 ≤ l4.toInt ∧ l4.toInt ≤ 701 → 1 ≤ l5.toInt ∧ l5.toInt ≤ 999 → 0 ≤ l8.toInt ∧ l8.toInt ≤ 999 → 8 - l3.toInt < (n1 : Int) + 1 → 1000 - l5.toInt < (n5 : Int) + 1 → CI σ → Eo [] [] σ0 σ → X45 l2 l3 l4 l5 l6 l8 σ := by
                intro n10
                induction n10 with
                | zero => intro l2 l3 l4 l5 l6 l8 σ hm h_l2 h_l3 h_l4 h_l5 h_l8 m_9 m_23 hM hE; exfalso; omega
                | succ n10 ih_n10 =>
                  intro l2 l3 l4 l5 l6 l8 σ hm h_l2 h_l3 h_l4 h_l5 h_l8 m_9 m_23 hM hE
                  have hm2_45 : l8.toInt - 0 < (n10 : Int) + 1 := by omega
                  refine H_45 l2 l3 l4 l5 l6 l8 σ ?_
                  unfold b_X7sortKeys_45
                  refine ⟨fun c11 => ?_, fun c11 => ?_⟩
                  · unfold b_X7sortKeys_95
                    refine ⟨⟨by omega, by omega⟩, ?_⟩
                    have hM12 := hM.slj 54 l8 l6
                    have hE13 := hE.slj 54 l8 l6
                    generalize ey14 : (l5 + 1) = y14
                    replace ey14 := ey14.symm
                    have ty14 : y14.toInt = l5.toInt + 1 := i3_addc rfl rfl ey14 (by omega)
                    clear ey14
                    exact ih_n5 l2 l3 l4 y14 (slj σ 54 l8 l6) (by omega) (by first | omega | decide) (by first | omega | decide) (by first | omega | decide) (by first | omega | decide) (by first | omega | decide) hM12 hE13
                  · generalize ey15 : (l8 - l4) = y15
                    replace ey15 := ey15.symm
                    have ty15 : y15.toInt = l8.toInt - l4.toInt := i3_subc rfl rfl ey15 (by omega)
                    clear ey15
                    refine ⟨⟨by omega, by omega⟩, ?_⟩
                    refine ⟨fun c16 => ?_, fun c16 => ?_⟩
                    · unfold b_X7sortKeys_95
                      refine ⟨⟨by omega, by omega⟩, ?_⟩
                      have hM17 := hM.slj 54 l8 l6
                      have hE18 := hE.slj 54 l8 l6
                      generalize ey19 : (l5 + 1) = y19
                      replace ey19 := ey19.symm
                      have ty19 : y19.toInt = l5.toInt + 1 := i3_addc rfl rfl ey19 (by omega)
                      clear ey19
                      exact ih_n5 l2 l3 l4 y19 (slj σ 54 l8 l6) (by omega) (by first | omega | decide) (by first | omega | decide) (by first | omega | decide) (by first | omega | decide) (by first | omega | decide) hM17 hE18
                    · refine ⟨⟨by omega, by omega⟩, ?_⟩
                      refine ⟨⟨by omega, by omega⟩, ?_⟩
                      have hM20 := hM.slj 54 l8 (rdj σ 54 y15)
                      have hE21 := hE.slj 54 l8 (rdj σ 54 y15)
                      intro x22 ex22
                      have ix22 : x22.toInt = y15.toInt := by rw [ex22]
                      exact ih_n10 l2 l3 l4 l5 l6 x22 (slj σ 54 l8 (rdj σ 54 y15)) (by omega) (by first | omega | decide) (by first | omega | decide) (by first | omega | decide) (by first | omega | decide) (by first | omega | decide) (by first | omega | decide) (by first | omega | decide) hM20 hE21
              exact L_45_n10 ((l5.toInt - 0).toNat + 1) l2 l3 l4 l5 x9 l5 σ (by omega) (by first | omega | decide) (by first | omega | decide) (by first | omega | decide) (by first | omega | decide) (by first | omega | decide) (by first | omega | decide) (by first | omega | decide) hM hE
        exact L_23_n5 ((1000 - x4.toInt).toNat + 1) l2 l3 x4 x4 σ (by omega) (by first | omega | decide) (by first | omega | decide) (by first | omega | decide) (by first | omega | decide) (by first | omega | decide) hM hE
  exact L_9_n1 ((8 - (0 : Int32).toInt).toNat + 1) 8 0 σ (by decide) (by first | omega | decide) (by first | omega | decide) hM hE
set_option maxHeartbeats 2000000 in
theorem rg_X7layS {Q : VS → Prop} {p1 : Int32} {p2 : Int32} {σ : VS} (h_p1 : 0 ≤ p1.toInt ∧ p1.toInt ≤ 1) (hM : CI σ) (hq : ∀ (σ' : VS), CI σ' → Eo [14, 16, 17, 18] [55, 56, 57, 58] σ σ' → Q σ') : wp_X7layS Q p1 p2 σ := by
  unfold wp_X7layS
  intro X85 H_85
  have hE : Eo [14, 16, 17, 18] [55, 56, 57, 58] σ σ := Eo.rfl
  obtain ⟨σ0, h0⟩ : ∃ z : VS, z = σ := ⟨_, rfl⟩
  rw [← h0] at hq
  replace hE : Eo [14, 16, 17, 18] [55, 56, 57, 58] σ0 σ := by rw [h0]; exact hE
  clear h0
  have f1 : 0 ≤ (σ.1 12).toInt ∧ (σ.1 12).toInt ≤ 49 := hM.1 12
  generalize ey2 : ((σ.1 12) * 2) = y2
  replace ey2 := ey2.symm
  have ty2 : y2.toInt = (σ.1 12).toInt * 2 := i3_mulc rfl rfl ey2 (by omega)
  clear ey2
  generalize ey3 : (y2 + p1) = y3
  replace ey3 := ey3.symm
  have ty3 : y3.toInt = y2.toInt + p1.toInt := i3_addc rfl rfl ey3 (by omega)
  clear ey3
  refine ⟨⟨by omega, by omega⟩, ?_⟩
  intro x4 ex4
  have ix4 : x4.toInt = (rd σ 45 y3).toInt := by rw [ex4]
  have bd5 := i3_bd (rd σ 45 y3)
  refine ⟨⟨by omega, by omega⟩, ?_⟩
  intro x6 ex6
  have ix6 : x6.toInt = (rd σ 46 y3).toInt := by rw [ex6]
  have bd7 := i3_bd (rd σ 46 y3)
  refine ⟨⟨by omega, by omega⟩, ?_⟩
  have a8 : 0 ≤ (rd σ 35 (σ.1 12)).toInt ∧ (rd σ 35 (σ.1 12)).toInt ≤ 15 := hM.2 35 _
  intro x9 ex9
  have ix9 : x9.toInt = (rd σ 35 (σ.1 12)).toInt := by rw [ex9]
  have hM10 := hM.sf 14 p2 (i3_bd _)
  have hE11 := hE.sf 14 p2 (by decide)
  have u12 : ((sf σ 14 p2).1 12).toInt = (σ.1 12).toInt := rfl
  have u13 : (rd (sf σ 14 p2) 35 (σ.1 12)).toInt = (rd σ 35 (σ.1 12)).toInt := rfl
  have hM14 := hM10.sf 16 0 (show 0 ≤ (0 : Int32).toInt ∧ (0 : Int32).toInt ≤ 51 by decide)
  have hE15 := hE11.sf 16 0 (by decide)
  have u16 : ((sf (sf σ 14 p2) 16 0).1 12).toInt = ((sf σ 14 p2).1 12).toInt := rfl
  have u17 : (rd (sf (sf σ 14 p2) 16 0) 35 (σ.1 12)).toInt = (rd (sf σ 14 p2) 35 (σ.1 12)).toInt := rfl
  have bd18 := i3_bd x4
  refine rg_X8putStepS ⟨by omega, by omega⟩ hM14 (fun σ20 hM21 hE22o => ?_)
  have hE22 := hE15.of hE22o (by decide) (by decide)
  have u23 : (σ20.1 12).toInt = ((sf (sf σ 14 p2) 16 0).1 12).toInt := by rw [hE22o.1 12 (by decide)]
  have L_85_n24 : ∀ (n24 : Nat) (l4 : Int32) (l5 : Int32) (l6 : Int32) (l7 : Int32) (l8 : Int32) (l9 : Int32) (σ : VS), 51 - l9.toInt < (n24 : Int) → 0 ≤ l4.toInt ∧ l4.toInt ≤ 1 → 0 ≤ l7.toInt ∧ l7.toInt ≤ 15 → (-5) ≤ l8.toInt ∧ l8.toInt ≤ 199 → 0 ≤ l9.toInt ∧ l9.toInt ≤ 51 → CI σ → Eo [14, 16, 17, 18] [55, 56, 57, 58] σ0 σ → X85 l4 l5 l6 l7 l8 l9 σ := by
    intro n24
    induction n24 with
    | zero => intro l4 l5 l6 l7 l8 l9 σ hm h_l4 h_l7 h_l8 h_l9 hM hE; exfalso; omega
    | succ n24 ih_n24 =>
      intro l4 l5 l6 l7 l8 l9 σ hm h_l4 h_l7 h_l8 h_l9 hM hE
      have hm2_85 : 51 - l9.toInt < (n24 : Int) + 1 := by omega
      refine H_85 l4 l5 l6 l7 l8 l9 σ ?_
      unfold b_X7layS_85
      refine ⟨fun c25 => ?_, fun c25 => ?_⟩
      · unfold b_X7layS_240
        have f26 : 0 ≤ (σ.1 13).toInt ∧ (σ.1 13).toInt ≤ 49 := hM.1 13
        have bd27 := i3_bd l5
        refine rg_X8putStepS ⟨by omega, by omega⟩ hM (fun σ29 hM30 hE31o => ?_)
        have hE31 := hE.of hE31o (by decide) (by decide)
        have u32 : (σ29.1 13).toInt = (σ.1 13).toInt := by rw [hE31o.1 13 (by decide)]
        have f33 : 0 ≤ (σ29.1 12).toInt ∧ (σ29.1 12).toInt ≤ 49 := hM30.1 12
        refine rg_X3periodsOf hM30 (fun r34 σ35 br34 hM36 hE37o => ?_)
        have hE37 := hE31.of hE37o (by decide) (by decide)
        have u38 : (σ35.1 13).toInt = (σ29.1 13).toInt := by rw [hE37o.1 13 (by decide)]
        have u39 : (σ35.1 12).toInt = (σ29.1 12).toInt := by rw [hE37o.1 12 (by decide)]
        have f40 : 1 ≤ (σ35.1 4).toInt ∧ (σ35.1 4).toInt ≤ 1000000 := hM36.1 4
        generalize ey41 : (r34 * (σ35.1 4)) = y41
        replace ey41 := ey41.symm
        have ty41 : 0 ≤ y41.toInt ∧ y41.toInt ≤ 4000000 := i3_mulb (A := 4) (B := 1000000) ey41 (by omega) (by omega) (by decide)
        clear ey41
        refine rg_X2slackRoom ⟨by omega, by omega⟩ ⟨by omega, by omega⟩ hM36 (fun r42 σ43 hM44 hE45o => ?_)
        have hE45 := hE37.of hE45o (by decide) (by decide)
        have bd46 := i3_bd r42
        have u47 : (σ43.1 13).toInt = (σ35.1 13).toInt := by rw [hE45o.1 13 (by decide)]
        have u48 : (σ43.1 12).toInt = (σ35.1 12).toInt := by rw [hE45o.1 12 (by decide)]
        have u49 : (σ43.1 4).toInt = (σ35.1 4).toInt := by rw [hE45o.1 4 (by decide)]
        generalize ey50 : (y41 + r42) = y50
        replace ey50 := ey50.symm
        clear ey50
        have bd51 := i3_bd y50
        generalize ey52 : (y50 - l5) = y52
        replace ey52 := ey52.symm
        clear ey52
        have hM53 := hM44.sf 17 y52 (i3_bd _)
        have hE54 := hE45.sf 17 y52 (by decide)
        have u55 : ((sf σ43 17 y52).1 13).toInt = (σ43.1 13).toInt := rfl
        have u56 : ((sf σ43 17 y52).1 12).toInt = (σ43.1 12).toInt := rfl
        have u57 : ((sf σ43 17 y52).1 4).toInt = (σ43.1 4).toInt := rfl
        refine rg_X2holdRoom ⟨by omega, by omega⟩ ⟨by omega, by omega⟩ hM53 (fun r58 σ59 hM60 hE61o => ?_)
        have hE61 := hE54.of hE61o (by decide) (by decide)
        have bd62 := i3_bd r58
        have u63 : (σ59.1 13).toInt = ((sf σ43 17 y52).1 13).toInt := by rw [hE61o.1 13 (by decide)]
        have u64 : (σ59.1 12).toInt = ((sf σ43 17 y52).1 12).toInt := by rw [hE61o.1 12 (by decide)]
        have u65 : (σ59.1 4).toInt = ((sf σ43 17 y52).1 4).toInt := by rw [hE61o.1 4 (by decide)]
        have bd66 := i3_bd l6
        generalize ey67 : (l6 + r58) = y67
        replace ey67 := ey67.symm
        clear ey67
        have hM68 := hM60.sf 18 y67 (i3_bd _)
        have hE69 := hE61.sf 18 y67 (by decide)
        have u70 : ((sf σ59 18 y67).1 13).toInt = (σ59.1 13).toInt := rfl
        have u71 : ((sf σ59 18 y67).1 12).toInt = (σ59.1 12).toInt := rfl
        have u72 : ((sf σ59 18 y67).1 4).toInt = (σ59.1 4).toInt := rfl
        exact hq (sf σ59 18 y67) hM68 hE69
      · refine ⟨fun c73 => ?_, fun c73 => ?_⟩
        · generalize ey74 : (l8 / 4) = y74
          replace ey74 := ey74.symm
          have ty74 : y74.toInt = l8.toInt / 4 := i3_divc rfl rfl ey74 (by omega) (by decide)
          clear ey74
          unfold b_X7layS_109
          refine rg_X7chooseWire ⟨by omega, by omega⟩ ⟨by omega, by omega⟩ hM (fun r75 σ76 br75 hM77 hE78o => ?_)
          have hE78 := hE.of hE78o (by decide) (by decide)
          refine ⟨fun c79 => ?_, fun c79 => ?_⟩
          · generalize ey80 : (r75 / 4) = y80
            replace ey80 := ey80.symm
            have ty80 : y80.toInt = r75.toInt / 4 := i3_divc rfl rfl ey80 (by omega) (by decide)
            clear ey80
            intro x81 ex81
            have ix81 : x81.toInt = y80.toInt := by rw [ex81]
            refine ⟨⟨by omega, by omega⟩, ?_⟩
            have a82 : 0 ≤ (rd σ76 35 x81).toInt ∧ (rd σ76 35 x81).toInt ≤ 15 := hM77.2 35 _
            generalize ey83 : (l7 ||| (rd σ76 35 x81)) = y83
            replace ey83 := ey83.symm
            have ty83 := i3_or15 ey83 (by omega) (by omega)
            clear ey83
            intro x84 ex84
            have ix84 : x84.toInt = y83.toInt := by rw [ex84]
            have f85 : 0 ≤ (σ76.1 13).toInt ∧ (σ76.1 13).toInt ≤ 49 := hM77.1 13
            refine ⟨fun c86 => ?_, fun c86 => ?_⟩
            · refine ⟨⟨by omega, by omega⟩, ?_⟩
              have a87 : 0 ≤ (rd σ76 11 x81).toInt ∧ (rd σ76 11 x81).toInt ≤ 5 := hM77.2 11 _
              refine ⟨fun c88 => ?_, fun c88 => ?_⟩
              · unfold b_X7layS_178
                generalize ey89 : (r75 * 2) = y89
                replace ey89 := ey89.symm
                have ty89 : y89.toInt = r75.toInt * 2 := i3_mulc rfl rfl ey89 (by omega)
                clear ey89
                generalize ey90 : (y89 + l4) = y90
                replace ey90 := ey90.symm
                have ty90 : y90.toInt = y89.toInt + l4.toInt := i3_addc rfl rfl ey90 (by omega)
                clear ey90
                refine ⟨⟨by omega, by omega⟩, ?_⟩
                have bd91 := i3_bd l5
                have bd92 := i3_bd (rd σ76 41 y90)
                generalize ey93 : (l5 + (rd σ76 41 y90)) = y93
                replace ey93 := ey93.symm
                clear ey93
                intro x94 ex94
                have ix94 : x94.toInt = y93.toInt := by rw [ex94]
                have bd95 := i3_bd y93
                refine ⟨⟨by omega, by omega⟩, ?_⟩
                have bd96 := i3_bd l6
                have bd97 := i3_bd (rd σ76 42 y90)
                generalize ey98 : (l6 + (rd σ76 42 y90)) = y98
                replace ey98 := ey98.symm
                clear ey98
                intro x99 ex99
                have ix99 : x99.toInt = y98.toInt := by rw [ex99]
                have bd100 := i3_bd y98
                generalize ey101 : (r75 - r75 / 4 * 4) = y101
                replace ey101 := ey101.symm
                have ty101 := i3_remb ey101 (by omega) (by decide)
                clear ey101
                have bd102 := i3_bd x94
                refine rg_X8putStepS ⟨by omega, by omega⟩ hM77 (fun σ104 hM105 hE106o => ?_)
                have hE106 := hE78.of hE106o (by decide) (by decide)
                have u107 : (rd σ104 35 x81).toInt = (rd σ76 35 x81).toInt := by unfold rd; rw [hE106o.2 35 (by decide)]
                have u108 : (σ104.1 13).toInt = (σ76.1 13).toInt := by rw [hE106o.1 13 (by decide)]
                have u109 : (rd σ104 11 x81).toInt = (rd σ76 11 x81).toInt := by unfold rd; rw [hE106o.2 11 (by decide)]
                generalize ey110 : (l9 + 1) = y110
                replace ey110 := ey110.symm
                have ty110 : y110.toInt = l9.toInt + 1 := i3_addc rfl rfl ey110 (by omega)
                clear ey110
                have bd111 := i3_bd x99
                exact ih_n24 l4 x94 x99 x84 r75 y110 σ104 (by omega) (by first | omega | decide) (by first | omega | decide) (by first | omega | decide) (by first | omega | decide) hM105 hE106
              · generalize ey112 : (1 - l4) = y112
                replace ey112 := ey112.symm
                have ty112 : y112.toInt = 1 - l4.toInt := i3_subc rfl rfl ey112 (by omega)
                clear ey112
                unfold b_X7layS_178
                generalize ey113 : (r75 * 2) = y113
                replace ey113 := ey113.symm
                have ty113 : y113.toInt = r75.toInt * 2 := i3_mulc rfl rfl ey113 (by omega)
                clear ey113
                generalize ey114 : (y113 + y112) = y114
                replace ey114 := ey114.symm
                have ty114 : y114.toInt = y113.toInt + y112.toInt := i3_addc rfl rfl ey114 (by omega)
                clear ey114
                refine ⟨⟨by omega, by omega⟩, ?_⟩
                have bd115 := i3_bd l5
                have bd116 := i3_bd (rd σ76 41 y114)
                generalize ey117 : (l5 + (rd σ76 41 y114)) = y117
                replace ey117 := ey117.symm
                clear ey117
                intro x118 ex118
                have ix118 : x118.toInt = y117.toInt := by rw [ex118]
                have bd119 := i3_bd y117
                refine ⟨⟨by omega, by omega⟩, ?_⟩
                have bd120 := i3_bd l6
                have bd121 := i3_bd (rd σ76 42 y114)
                generalize ey122 : (l6 + (rd σ76 42 y114)) = y122
                replace ey122 := ey122.symm
                clear ey122
                intro x123 ex123
                have ix123 : x123.toInt = y122.toInt := by rw [ex123]
                have bd124 := i3_bd y122
                generalize ey125 : (r75 - r75 / 4 * 4) = y125
                replace ey125 := ey125.symm
                have ty125 := i3_remb ey125 (by omega) (by decide)
                clear ey125
                have bd126 := i3_bd x118
                refine rg_X8putStepS ⟨by omega, by omega⟩ hM77 (fun σ128 hM129 hE130o => ?_)
                have hE130 := hE78.of hE130o (by decide) (by decide)
                have u131 : (rd σ128 35 x81).toInt = (rd σ76 35 x81).toInt := by unfold rd; rw [hE130o.2 35 (by decide)]
                have u132 : (σ128.1 13).toInt = (σ76.1 13).toInt := by rw [hE130o.1 13 (by decide)]
                have u133 : (rd σ128 11 x81).toInt = (rd σ76 11 x81).toInt := by unfold rd; rw [hE130o.2 11 (by decide)]
                generalize ey134 : (l9 + 1) = y134
                replace ey134 := ey134.symm
                have ty134 : y134.toInt = l9.toInt + 1 := i3_addc rfl rfl ey134 (by omega)
                clear ey134
                have bd135 := i3_bd x123
                exact ih_n24 y112 x118 x123 x84 r75 y134 σ128 (by omega) (by first | omega | decide) (by first | omega | decide) (by first | omega | decide) (by first | omega | decide) hM129 hE130
            · unfold b_X7layS_240
              have bd136 := i3_bd l5
              refine rg_X8putStepS ⟨by omega, by omega⟩ hM77 (fun σ138 hM139 hE140o => ?_)
              have hE140 := hE78.of hE140o (by decide) (by decide)
              have u141 : (rd σ138 35 x81).toInt = (rd σ76 35 x81).toInt := by unfold rd; rw [hE140o.2 35 (by decide)]
              have u142 : (σ138.1 13).toInt = (σ76.1 13).toInt := by rw [hE140o.1 13 (by decide)]
              have f143 : 0 ≤ (σ138.1 12).toInt ∧ (σ138.1 12).toInt ≤ 49 := hM139.1 12
              refine rg_X3periodsOf hM139 (fun r144 σ145 br144 hM146 hE147o => ?_)
              have hE147 := hE140.of hE147o (by decide) (by decide)
              have u148 : (rd σ145 35 x81).toInt = (rd σ138 35 x81).toInt := by unfold rd; rw [hE147o.2 35 (by decide)]
              have u149 : (σ145.1 13).toInt = (σ138.1 13).toInt := by rw [hE147o.1 13 (by decide)]
              have u150 : (σ145.1 12).toInt = (σ138.1 12).toInt := by rw [hE147o.1 12 (by decide)]
              have f151 : 1 ≤ (σ145.1 4).toInt ∧ (σ145.1 4).toInt ≤ 1000000 := hM146.1 4
              generalize ey152 : (r144 * (σ145.1 4)) = y152
              replace ey152 := ey152.symm
              have ty152 : 0 ≤ y152.toInt ∧ y152.toInt ≤ 4000000 := i3_mulb (A := 4) (B := 1000000) ey152 (by omega) (by omega) (by decide)
              clear ey152
              refine rg_X2slackRoom ⟨by omega, by omega⟩ ⟨by omega, by omega⟩ hM146 (fun r153 σ154 hM155 hE156o => ?_)
              have hE156 := hE147.of hE156o (by decide) (by decide)
              have bd157 := i3_bd r153
              have u158 : (rd σ154 35 x81).toInt = (rd σ145 35 x81).toInt := by unfold rd; rw [hE156o.2 35 (by decide)]
              have u159 : (σ154.1 13).toInt = (σ145.1 13).toInt := by rw [hE156o.1 13 (by decide)]
              have u160 : (σ154.1 12).toInt = (σ145.1 12).toInt := by rw [hE156o.1 12 (by decide)]
              have u161 : (σ154.1 4).toInt = (σ145.1 4).toInt := by rw [hE156o.1 4 (by decide)]
              generalize ey162 : (y152 + r153) = y162
              replace ey162 := ey162.symm
              clear ey162
              have bd163 := i3_bd y162
              generalize ey164 : (y162 - l5) = y164
              replace ey164 := ey164.symm
              clear ey164
              have hM165 := hM155.sf 17 y164 (i3_bd _)
              have hE166 := hE156.sf 17 y164 (by decide)
              have u167 : (rd (sf σ154 17 y164) 35 x81).toInt = (rd σ154 35 x81).toInt := rfl
              have u168 : ((sf σ154 17 y164).1 13).toInt = (σ154.1 13).toInt := rfl
              have u169 : ((sf σ154 17 y164).1 12).toInt = (σ154.1 12).toInt := rfl
              have u170 : ((sf σ154 17 y164).1 4).toInt = (σ154.1 4).toInt := rfl
              refine rg_X2holdRoom ⟨by omega, by omega⟩ ⟨by omega, by omega⟩ hM165 (fun r171 σ172 hM173 hE174o => ?_)
              have hE174 := hE166.of hE174o (by decide) (by decide)
              have bd175 := i3_bd r171
              have u176 : (rd σ172 35 x81).toInt = (rd (sf σ154 17 y164) 35 x81).toInt := by unfold rd; rw [hE174o.2 35 (by decide)]
              have u177 : (σ172.1 13).toInt = ((sf σ154 17 y164).1 13).toInt := by rw [hE174o.1 13 (by decide)]
              have u178 : (σ172.1 12).toInt = ((sf σ154 17 y164).1 12).toInt := by rw [hE174o.1 12 (by decide)]
              have u179 : (σ172.1 4).toInt = ((sf σ154 17 y164).1 4).toInt := by rw [hE174o.1 4 (by decide)]
              have bd180 := i3_bd l6
              generalize ey181 : (l6 + r171) = y181
              replace ey181 := ey181.symm
              clear ey181
              have hM182 := hM173.sf 18 y181 (i3_bd _)
              have hE183 := hE174.sf 18 y181 (by decide)
              have u184 : (rd (sf σ172 18 y181) 35 x81).toInt = (rd σ172 35 x81).toInt := rfl
              have u185 : ((sf σ172 18 y181).1 13).toInt = (σ172.1 13).toInt := rfl
              have u186 : ((sf σ172 18 y181).1 12).toInt = (σ172.1 12).toInt := rfl
              have u187 : ((sf σ172 18 y181).1 4).toInt = (σ172.1 4).toInt := rfl
              exact hq (sf σ172 18 y181) hM182 hE183
          · exact hq σ76 hM77 hE78
        · have f188 : 0 ≤ (σ.1 12).toInt ∧ (σ.1 12).toInt ≤ 49 := hM.1 12
          suffices hs : ∀ (q189 : Int32), q189.toInt = (σ.1 12).toInt → b_X7layS_109 X85 Q l4 l5 l6 l7 l9 q189 σ from hs (σ.1 12) rfl
          intro q189 hq189
          unfold b_X7layS_109
          refine rg_X7chooseWire ⟨by omega, by omega⟩ ⟨by omega, by omega⟩ hM (fun r190 σ191 br190 hM192 hE193o => ?_)
          have hE193 := hE.of hE193o (by decide) (by decide)
          have u194 : (σ191.1 12).toInt = (σ.1 12).toInt := by rw [hE193o.1 12 (by decide)]
          refine ⟨fun c195 => ?_, fun c195 => ?_⟩
          · generalize ey196 : (r190 / 4) = y196
            replace ey196 := ey196.symm
            have ty196 : y196.toInt = r190.toInt / 4 := i3_divc rfl rfl ey196 (by omega) (by decide)
            clear ey196
            intro x197 ex197
            have ix197 : x197.toInt = y196.toInt := by rw [ex197]
            refine ⟨⟨by omega, by omega⟩, ?_⟩
            have a198 : 0 ≤ (rd σ191 35 x197).toInt ∧ (rd σ191 35 x197).toInt ≤ 15 := hM192.2 35 _
            generalize ey199 : (l7 ||| (rd σ191 35 x197)) = y199
            replace ey199 := ey199.symm
            have ty199 := i3_or15 ey199 (by omega) (by omega)
            clear ey199
            intro x200 ex200
            have ix200 : x200.toInt = y199.toInt := by rw [ex200]
            have f201 : 0 ≤ (σ191.1 13).toInt ∧ (σ191.1 13).toInt ≤ 49 := hM192.1 13
            refine ⟨fun c202 => ?_, fun c202 => ?_⟩
            · refine ⟨⟨by omega, by omega⟩, ?_⟩
              have a203 : 0 ≤ (rd σ191 11 x197).toInt ∧ (rd σ191 11 x197).toInt ≤ 5 := hM192.2 11 _
              refine ⟨fun c204 => ?_, fun c204 => ?_⟩
              · unfold b_X7layS_178
                generalize ey205 : (r190 * 2) = y205
                replace ey205 := ey205.symm
                have ty205 : y205.toInt = r190.toInt * 2 := i3_mulc rfl rfl ey205 (by omega)
                clear ey205
                generalize ey206 : (y205 + l4) = y206
                replace ey206 := ey206.symm
                have ty206 : y206.toInt = y205.toInt + l4.toInt := i3_addc rfl rfl ey206 (by omega)
                clear ey206
                refine ⟨⟨by omega, by omega⟩, ?_⟩
                have bd207 := i3_bd l5
                have bd208 := i3_bd (rd σ191 41 y206)
                generalize ey209 : (l5 + (rd σ191 41 y206)) = y209
                replace ey209 := ey209.symm
                clear ey209
                intro x210 ex210
                have ix210 : x210.toInt = y209.toInt := by rw [ex210]
                have bd211 := i3_bd y209
                refine ⟨⟨by omega, by omega⟩, ?_⟩
                have bd212 := i3_bd l6
                have bd213 := i3_bd (rd σ191 42 y206)
                generalize ey214 : (l6 + (rd σ191 42 y206)) = y214
                replace ey214 := ey214.symm
                clear ey214
                intro x215 ex215
                have ix215 : x215.toInt = y214.toInt := by rw [ex215]
                have bd216 := i3_bd y214
                generalize ey217 : (r190 - r190 / 4 * 4) = y217
                replace ey217 := ey217.symm
                have ty217 := i3_remb ey217 (by omega) (by decide)
                clear ey217
                have bd218 := i3_bd x210
                refine rg_X8putStepS ⟨by omega, by omega⟩ hM192 (fun σ220 hM221 hE222o => ?_)
                have hE222 := hE193.of hE222o (by decide) (by decide)
                have u223 : (σ220.1 12).toInt = (σ191.1 12).toInt := by rw [hE222o.1 12 (by decide)]
                have u224 : (rd σ220 35 x197).toInt = (rd σ191 35 x197).toInt := by unfold rd; rw [hE222o.2 35 (by decide)]
                have u225 : (σ220.1 13).toInt = (σ191.1 13).toInt := by rw [hE222o.1 13 (by decide)]
                have u226 : (rd σ220 11 x197).toInt = (rd σ191 11 x197).toInt := by unfold rd; rw [hE222o.2 11 (by decide)]
                generalize ey227 : (l9 + 1) = y227
                replace ey227 := ey227.symm
                have ty227 : y227.toInt = l9.toInt + 1 := i3_addc rfl rfl ey227 (by omega)
                clear ey227
                have bd228 := i3_bd x215
                exact ih_n24 l4 x210 x215 x200 r190 y227 σ220 (by omega) (by first | omega | decide) (by first | omega | decide) (by first | omega | decide) (by first | omega | decide) hM221 hE222
              · generalize ey229 : (1 - l4) = y229
                replace ey229 := ey229.symm
                have ty229 : y229.toInt = 1 - l4.toInt := i3_subc rfl rfl ey229 (by omega)
                clear ey229
                unfold b_X7layS_178
                generalize ey230 : (r190 * 2) = y230
                replace ey230 := ey230.symm
                have ty230 : y230.toInt = r190.toInt * 2 := i3_mulc rfl rfl ey230 (by omega)
                clear ey230
                generalize ey231 : (y230 + y229) = y231
                replace ey231 := ey231.symm
                have ty231 : y231.toInt = y230.toInt + y229.toInt := i3_addc rfl rfl ey231 (by omega)
                clear ey231
                refine ⟨⟨by omega, by omega⟩, ?_⟩
                have bd232 := i3_bd l5
                have bd233 := i3_bd (rd σ191 41 y231)
                generalize ey234 : (l5 + (rd σ191 41 y231)) = y234
                replace ey234 := ey234.symm
                clear ey234
                intro x235 ex235
                have ix235 : x235.toInt = y234.toInt := by rw [ex235]
                have bd236 := i3_bd y234
                refine ⟨⟨by omega, by omega⟩, ?_⟩
                have bd237 := i3_bd l6
                have bd238 := i3_bd (rd σ191 42 y231)
                generalize ey239 : (l6 + (rd σ191 42 y231)) = y239
                replace ey239 := ey239.symm
                clear ey239
                intro x240 ex240
                have ix240 : x240.toInt = y239.toInt := by rw [ex240]
                have bd241 := i3_bd y239
                generalize ey242 : (r190 - r190 / 4 * 4) = y242
                replace ey242 := ey242.symm
                have ty242 := i3_remb ey242 (by omega) (by decide)
                clear ey242
                have bd243 := i3_bd x235
                refine rg_X8putStepS ⟨by omega, by omega⟩ hM192 (fun σ245 hM246 hE247o => ?_)
                have hE247 := hE193.of hE247o (by decide) (by decide)
                have u248 : (σ245.1 12).toInt = (σ191.1 12).toInt := by rw [hE247o.1 12 (by decide)]
                have u249 : (rd σ245 35 x197).toInt = (rd σ191 35 x197).toInt := by unfold rd; rw [hE247o.2 35 (by decide)]
                have u250 : (σ245.1 13).toInt = (σ191.1 13).toInt := by rw [hE247o.1 13 (by decide)]
                have u251 : (rd σ245 11 x197).toInt = (rd σ191 11 x197).toInt := by unfold rd; rw [hE247o.2 11 (by decide)]
                generalize ey252 : (l9 + 1) = y252
                replace ey252 := ey252.symm
                have ty252 : y252.toInt = l9.toInt + 1 := i3_addc rfl rfl ey252 (by omega)
                clear ey252
                have bd253 := i3_bd x240
                exact ih_n24 y229 x235 x240 x200 r190 y252 σ245 (by omega) (by first | omega | decide) (by first | omega | decide) (by first | omega | decide) (by first | omega | decide) hM246 hE247
            · unfold b_X7layS_240
              have bd254 := i3_bd l5
              refine rg_X8putStepS ⟨by omega, by omega⟩ hM192 (fun σ256 hM257 hE258o => ?_)
              have hE258 := hE193.of hE258o (by decide) (by decide)
              have u259 : (σ256.1 12).toInt = (σ191.1 12).toInt := by rw [hE258o.1 12 (by decide)]
              have u260 : (rd σ256 35 x197).toInt = (rd σ191 35 x197).toInt := by unfold rd; rw [hE258o.2 35 (by decide)]
              have u261 : (σ256.1 13).toInt = (σ191.1 13).toInt := by rw [hE258o.1 13 (by decide)]
              refine rg_X3periodsOf hM257 (fun r262 σ263 br262 hM264 hE265o => ?_)
              have hE265 := hE258.of hE265o (by decide) (by decide)
              have u266 : (σ263.1 12).toInt = (σ256.1 12).toInt := by rw [hE265o.1 12 (by decide)]
              have u267 : (rd σ263 35 x197).toInt = (rd σ256 35 x197).toInt := by unfold rd; rw [hE265o.2 35 (by decide)]
              have u268 : (σ263.1 13).toInt = (σ256.1 13).toInt := by rw [hE265o.1 13 (by decide)]
              have f269 : 1 ≤ (σ263.1 4).toInt ∧ (σ263.1 4).toInt ≤ 1000000 := hM264.1 4
              generalize ey270 : (r262 * (σ263.1 4)) = y270
              replace ey270 := ey270.symm
              have ty270 : 0 ≤ y270.toInt ∧ y270.toInt ≤ 4000000 := i3_mulb (A := 4) (B := 1000000) ey270 (by omega) (by omega) (by decide)
              clear ey270
              refine rg_X2slackRoom ⟨by omega, by omega⟩ ⟨by omega, by omega⟩ hM264 (fun r271 σ272 hM273 hE274o => ?_)
              have hE274 := hE265.of hE274o (by decide) (by decide)
              have bd275 := i3_bd r271
              have u276 : (σ272.1 12).toInt = (σ263.1 12).toInt := by rw [hE274o.1 12 (by decide)]
              have u277 : (rd σ272 35 x197).toInt = (rd σ263 35 x197).toInt := by unfold rd; rw [hE274o.2 35 (by decide)]
              have u278 : (σ272.1 13).toInt = (σ263.1 13).toInt := by rw [hE274o.1 13 (by decide)]
              have u279 : (σ272.1 4).toInt = (σ263.1 4).toInt := by rw [hE274o.1 4 (by decide)]
              generalize ey280 : (y270 + r271) = y280
              replace ey280 := ey280.symm
              clear ey280
              have bd281 := i3_bd y280
              generalize ey282 : (y280 - l5) = y282
              replace ey282 := ey282.symm
              clear ey282
              have hM283 := hM273.sf 17 y282 (i3_bd _)
              have hE284 := hE274.sf 17 y282 (by decide)
              have u285 : ((sf σ272 17 y282).1 12).toInt = (σ272.1 12).toInt := rfl
              have u286 : (rd (sf σ272 17 y282) 35 x197).toInt = (rd σ272 35 x197).toInt := rfl
              have u287 : ((sf σ272 17 y282).1 13).toInt = (σ272.1 13).toInt := rfl
              have u288 : ((sf σ272 17 y282).1 4).toInt = (σ272.1 4).toInt := rfl
              refine rg_X2holdRoom ⟨by omega, by omega⟩ ⟨by omega, by omega⟩ hM283 (fun r289 σ290 hM291 hE292o => ?_)
              have hE292 := hE284.of hE292o (by decide) (by decide)
              have bd293 := i3_bd r289
              have u294 : (σ290.1 12).toInt = ((sf σ272 17 y282).1 12).toInt := by rw [hE292o.1 12 (by decide)]
              have u295 : (rd σ290 35 x197).toInt = (rd (sf σ272 17 y282) 35 x197).toInt := by unfold rd; rw [hE292o.2 35 (by decide)]
              have u296 : (σ290.1 13).toInt = ((sf σ272 17 y282).1 13).toInt := by rw [hE292o.1 13 (by decide)]
              have u297 : (σ290.1 4).toInt = ((sf σ272 17 y282).1 4).toInt := by rw [hE292o.1 4 (by decide)]
              have bd298 := i3_bd l6
              generalize ey299 : (l6 + r289) = y299
              replace ey299 := ey299.symm
              clear ey299
              have hM300 := hM291.sf 18 y299 (i3_bd _)
              have hE301 := hE292.sf 18 y299 (by decide)
              have u302 : ((sf σ290 18 y299).1 12).toInt = (σ290.1 12).toInt := rfl
              have u303 : (rd (sf σ290 18 y299) 35 x197).toInt = (rd σ290 35 x197).toInt := rfl
              have u304 : ((sf σ290 18 y299).1 13).toInt = (σ290.1 13).toInt := rfl
              have u305 : ((sf σ290 18 y299).1 4).toInt = (σ290.1 4).toInt := rfl
              exact hq (sf σ290 18 y299) hM300 hE301
          · exact hq σ191 hM192 hE193
  exact L_85_n24 ((51 - (0 : Int32).toInt).toNat + 1) p1 x4 x6 x9 (-5) 0 σ20 (by decide) (by first | omega | decide) (by first | omega | decide) (by first | omega | decide) (by first | omega | decide) hM21 hE22
set_option maxHeartbeats 2000000 in
theorem rg_X7keyAllS {Q : VS → Prop} {σ : VS} (hM : CI σ) (hq : ∀ (σ' : VS), CI σ' → Eo [12, 14, 15, 16, 17, 18] [53, 55, 56, 57, 58] σ σ' → Q σ') : wp_X7keyAllS Q σ := by
  unfold wp_X7keyAllS
  intro X7 X42 H_7 H_42
  have hE : Eo [12, 14, 15, 16, 17, 18] [53, 55, 56, 57, 58] σ σ := Eo.rfl
  obtain ⟨σ0, h0⟩ : ∃ z : VS, z = σ := ⟨_, rfl⟩
  rw [← h0] at hq
  replace hE : Eo [12, 14, 15, 16, 17, 18] [53, 55, 56, 57, 58] σ0 σ := by rw [h0]; exact hE
  clear h0
  have hM1 := hM.sf 15 0 (show 0 ≤ (0 : Int32).toInt ∧ (0 : Int32).toInt ≤ 1000 by decide)
  have hE2 := hE.sf 15 0 (by decide)
  have L_7_n3 : ∀ (n3 : Nat) (l2 : Int32) (σ : VS), 50 - l2.toInt < (n3 : Int) → 0 ≤ l2.toInt ∧ l2.toInt ≤ 50 → CI σ → Eo [12, 14, 15, 16, 17, 18] [53, 55, 56, 57, 58] σ0 σ → X7 l2 σ := by
    intro n3
    induction n3 with
    | zero => intro l2 σ hm h_l2 hM hE; exfalso; omega
    | succ n3 ih_n3 =>
      intro l2 σ hm h_l2 hM hE
      have hm2_7 : 50 - l2.toInt < (n3 : Int) + 1 := by omega
      refine H_7 l2 σ ?_
      unfold b_X7keyAllS_7
      have f4 : 0 ≤ (σ.1 2).toInt ∧ (σ.1 2).toInt ≤ 50 := hM.1 2
      refine ⟨fun c5 => ?_, fun c5 => ?_⟩
      · exact hq σ hM hE
      · refine rg_X1isStart ⟨by omega, by omega⟩ hM (fun r6 σ7 br6 hM8 hE9o => ?_)
        have hE9 := hE.of hE9o (by decide) (by decide)
        have u10 : (σ7.1 2).toInt = (σ.1 2).toInt := by rw [hE9o.1 2 (by decide)]
        refine ⟨fun c11 => ?_, fun c11 => ?_⟩
        · suffices hs : ∀ (q12 : Int32), q12.toInt = 0 → b_X7keyAllS_38 X7 X42 Q l2 q12 σ7 from hs 0 rfl
          intro q12 hq12
          unfold b_X7keyAllS_38
          have L_42_n13 : ∀ (n13 : Nat) (l2 : Int32) (l3 : Int32) (l4 : Int32) (σ : VS), 2000 - l4.toInt < (n13 : Int) → 0 ≤ l2.toInt ∧ l2.toInt ≤ 49 → 0 ≤ l3.toInt ∧ l3.toInt ≤ 1000 → 0 ≤ l4.toInt ∧ l4.toInt ≤ 2000 → 50 - l2.toInt < (n3 : Int) + 1 → CI σ → Eo [12, 14, 15, 16, 17, 18] [53, 55, 56, 57, 58] σ0 σ → X42 l2 l3 l4 σ := by
            intro n13
            induction n13 with
            | zero => intro l2 l3 l4 σ hm h_l2 h_l3 h_l4 m_7 hM hE; exfalso; omega
            | succ n13 ih_n13 =>
              intro l2 l3 l4 σ hm h_l2 h_l3 h_l4 m_7 hM hE
              have hm2_42 : 2000 - l4.toInt < (n13 : Int) + 1 := by omega
              refine H_42 l2 l3 l4 σ ?_
              unfold b_X7keyAllS_42
              generalize ey14 : (2 * l3) = y14
              replace ey14 := ey14.symm
              have ty14 : y14.toInt = 2 * l3.toInt := i3_mulc rfl rfl ey14 (by omega)
              clear ey14
              refine ⟨fun c15 => ?_, fun c15 => ?_⟩
              · unfold b_X7keyAllS_112
                generalize ey16 : (l2 + 1) = y16
                replace ey16 := ey16.symm
                have ty16 : y16.toInt = l2.toInt + 1 := i3_addc rfl rfl ey16 (by omega)
                clear ey16
                exact ih_n3 y16 σ (by omega) (by first | omega | decide) hM hE
              · have f17 : 0 ≤ (σ.1 15).toInt ∧ (σ.1 15).toInt ≤ 1000 := hM.1 15
                refine ⟨fun c18 => ?_, fun c18 => ?_⟩
                · unfold b_X7keyAllS_112
                  generalize ey19 : (l2 + 1) = y19
                  replace ey19 := ey19.symm
                  have ty19 : y19.toInt = l2.toInt + 1 := i3_addc rfl rfl ey19 (by omega)
                  clear ey19
                  exact ih_n3 y19 σ (by omega) (by first | omega | decide) hM hE
                · refine ⟨i3_nz (by omega), ?_⟩
                  generalize ey20 : (l4 / l3) = y20
                  replace ey20 := ey20.symm
                  have ty20 := i3_div2 ey20 (by omega) (by omega) (by omega)
                  clear ey20
                  refine ⟨i3_nz (by omega), ?_⟩
                  generalize ey21 : (l4 - l4 / l3 * l3) = y21
                  replace ey21 := ey21.symm
                  have ty21 := i3_remb ey21 (by omega) (by omega)
                  clear ey21
                  refine rg_X7layS ⟨by omega, by omega⟩ hM (fun σ23 hM24 hE25o => ?_)
                  have hE25 := hE.of hE25o (by decide) (by decide)
                  have u26 : (σ23.1 15).toInt = (σ.1 15).toInt := by rw [hE25o.1 15 (by decide)]
                  refine ⟨⟨by omega, by omega⟩, ?_⟩
                  have hM27 := hM24.slj 54 (σ23.1 15) (((((σ23.1 17)).toInt64) <<< ((10 : Int32).toInt64 &&& 63)) + (((σ23.1 15)).toInt64))
                  have hE28 := hE25.slj 54 (σ23.1 15) (((((σ23.1 17)).toInt64) <<< ((10 : Int32).toInt64 &&& 63)) + (((σ23.1 15)).toInt64))
                  have u29 : ((slj σ23 54 (σ23.1 15) (((((σ23.1 17)).toInt64) <<< ((10 : Int32).toInt64 &&& 63)) + (((σ23.1 15)).toInt64))).1 15).toInt = (σ23.1 15).toInt := rfl
                  generalize ey30 : (((slj σ23 54 (σ23.1 15) (((((σ23.1 17)).toInt64) <<< ((10 : Int32).toInt64 &&& 63)) + (((σ23.1 15)).toInt64))).1 15) + 1) = y30
                  replace ey30 := ey30.symm
                  have ty30 : y30.toInt = ((slj σ23 54 (σ23.1 15) (((((σ23.1 17)).toInt64) <<< ((10 : Int32).toInt64 &&& 63)) + (((σ23.1 15)).toInt64))).1 15).toInt + 1 := i3_addc rfl rfl ey30 (by omega)
                  clear ey30
                  have hM31 := hM27.sf 15 y30 (show 0 ≤ y30.toInt ∧ y30.toInt ≤ 1000 by omega)
                  have hE32 := hE28.sf 15 y30 (by decide)
                  have u33 : ((sf (slj σ23 54 (σ23.1 15) (((((σ23.1 17)).toInt64) <<< ((10 : Int32).toInt64 &&& 63)) + (((σ23.1 15)).toInt64))) 15 y30).1 15).toInt = y30.toInt := rfl
                  generalize ey34 : (l4 + 1) = y34
                  replace ey34 := ey34.symm
                  have ty34 : y34.toInt = l4.toInt + 1 := i3_addc rfl rfl ey34 (by omega)
                  clear ey34
                  exact ih_n13 l2 l3 y34 (sf (slj σ23 54 (σ23.1 15) (((((σ23.1 17)).toInt64) <<< ((10 : Int32).toInt64 &&& 63)) + (((σ23.1 15)).toInt64))) 15 y30) (by omega) (by first | omega | decide) (by first | omega | decide) (by first | omega | decide) (by first | omega | decide) hM31 hE32
          exact L_42_n13 ((2000 - (0 : Int32).toInt).toNat + 1) l2 q12 0 σ7 (by decide) (by first | omega | decide) (by first | omega | decide) (by first | omega | decide) (by first | omega | decide) hM8 hE9
        · refine rg_X7aimFrom ⟨by omega, by omega⟩ hM8 (fun r35 σ36 br35 hM37 hE38o => ?_)
          have hE38 := hE9.of hE38o (by decide) (by decide)
          have u39 : (σ36.1 2).toInt = (σ7.1 2).toInt := by rw [hE38o.1 2 (by decide)]
          unfold b_X7keyAllS_38
          have L_42_n40 : ∀ (n40 : Nat) (l2 : Int32) (l3 : Int32) (l4 : Int32) (σ : VS), 2000 - l4.toInt < (n40 : Int) → 0 ≤ l2.toInt ∧ l2.toInt ≤ 49 → 0 ≤ l3.toInt ∧ l3.toInt ≤ 1000 → 0 ≤ l4.toInt ∧ l4.toInt ≤ 2000 → 50 - l2.toInt < (n3 : Int) + 1 → CI σ → Eo [12, 14, 15, 16, 17, 18] [53, 55, 56, 57, 58] σ0 σ → X42 l2 l3 l4 σ := by
            intro n40
            induction n40 with
            | zero => intro l2 l3 l4 σ hm h_l2 h_l3 h_l4 m_7 hM hE; exfalso; omega
            | succ n40 ih_n40 =>
              intro l2 l3 l4 σ hm h_l2 h_l3 h_l4 m_7 hM hE
              have hm2_42 : 2000 - l4.toInt < (n40 : Int) + 1 := by omega
              refine H_42 l2 l3 l4 σ ?_
              unfold b_X7keyAllS_42
              generalize ey41 : (2 * l3) = y41
              replace ey41 := ey41.symm
              have ty41 : y41.toInt = 2 * l3.toInt := i3_mulc rfl rfl ey41 (by omega)
              clear ey41
              refine ⟨fun c42 => ?_, fun c42 => ?_⟩
              · unfold b_X7keyAllS_112
                generalize ey43 : (l2 + 1) = y43
                replace ey43 := ey43.symm
                have ty43 : y43.toInt = l2.toInt + 1 := i3_addc rfl rfl ey43 (by omega)
                clear ey43
                exact ih_n3 y43 σ (by omega) (by first | omega | decide) hM hE
              · have f44 : 0 ≤ (σ.1 15).toInt ∧ (σ.1 15).toInt ≤ 1000 := hM.1 15
                refine ⟨fun c45 => ?_, fun c45 => ?_⟩
                · unfold b_X7keyAllS_112
                  generalize ey46 : (l2 + 1) = y46
                  replace ey46 := ey46.symm
                  have ty46 : y46.toInt = l2.toInt + 1 := i3_addc rfl rfl ey46 (by omega)
                  clear ey46
                  exact ih_n3 y46 σ (by omega) (by first | omega | decide) hM hE
                · refine ⟨i3_nz (by omega), ?_⟩
                  generalize ey47 : (l4 / l3) = y47
                  replace ey47 := ey47.symm
                  have ty47 := i3_div2 ey47 (by omega) (by omega) (by omega)
                  clear ey47
                  refine ⟨i3_nz (by omega), ?_⟩
                  generalize ey48 : (l4 - l4 / l3 * l3) = y48
                  replace ey48 := ey48.symm
                  have ty48 := i3_remb ey48 (by omega) (by omega)
                  clear ey48
                  refine rg_X7layS ⟨by omega, by omega⟩ hM (fun σ50 hM51 hE52o => ?_)
                  have hE52 := hE.of hE52o (by decide) (by decide)
                  have u53 : (σ50.1 15).toInt = (σ.1 15).toInt := by rw [hE52o.1 15 (by decide)]
                  refine ⟨⟨by omega, by omega⟩, ?_⟩
                  have hM54 := hM51.slj 54 (σ50.1 15) (((((σ50.1 17)).toInt64) <<< ((10 : Int32).toInt64 &&& 63)) + (((σ50.1 15)).toInt64))
                  have hE55 := hE52.slj 54 (σ50.1 15) (((((σ50.1 17)).toInt64) <<< ((10 : Int32).toInt64 &&& 63)) + (((σ50.1 15)).toInt64))
                  have u56 : ((slj σ50 54 (σ50.1 15) (((((σ50.1 17)).toInt64) <<< ((10 : Int32).toInt64 &&& 63)) + (((σ50.1 15)).toInt64))).1 15).toInt = (σ50.1 15).toInt := rfl
                  generalize ey57 : (((slj σ50 54 (σ50.1 15) (((((σ50.1 17)).toInt64) <<< ((10 : Int32).toInt64 &&& 63)) + (((σ50.1 15)).toInt64))).1 15) + 1) = y57
                  replace ey57 := ey57.symm
                  have ty57 : y57.toInt = ((slj σ50 54 (σ50.1 15) (((((σ50.1 17)).toInt64) <<< ((10 : Int32).toInt64 &&& 63)) + (((σ50.1 15)).toInt64))).1 15).toInt + 1 := i3_addc rfl rfl ey57 (by omega)
                  clear ey57
                  have hM58 := hM54.sf 15 y57 (show 0 ≤ y57.toInt ∧ y57.toInt ≤ 1000 by omega)
                  have hE59 := hE55.sf 15 y57 (by decide)
                  have u60 : ((sf (slj σ50 54 (σ50.1 15) (((((σ50.1 17)).toInt64) <<< ((10 : Int32).toInt64 &&& 63)) + (((σ50.1 15)).toInt64))) 15 y57).1 15).toInt = y57.toInt := rfl
                  generalize ey61 : (l4 + 1) = y61
                  replace ey61 := ey61.symm
                  have ty61 : y61.toInt = l4.toInt + 1 := i3_addc rfl rfl ey61 (by omega)
                  clear ey61
                  exact ih_n40 l2 l3 y61 (sf (slj σ50 54 (σ50.1 15) (((((σ50.1 17)).toInt64) <<< ((10 : Int32).toInt64 &&& 63)) + (((σ50.1 15)).toInt64))) 15 y57) (by omega) (by first | omega | decide) (by first | omega | decide) (by first | omega | decide) (by first | omega | decide) hM58 hE59
          exact L_42_n40 ((2000 - (0 : Int32).toInt).toNat + 1) l2 r35 0 σ36 (by decide) (by first | omega | decide) (by first | omega | decide) (by first | omega | decide) (by first | omega | decide) hM37 hE38
  exact L_7_n3 ((50 - (0 : Int32).toInt).toNat + 1) 0 (sf σ 15 0) (by decide) (by first | omega | decide) hM1 hE2
set_option maxHeartbeats 2000000 in
theorem rg_X7layNumberS {Q : VS → Prop} {p1 : Int32} {σ : VS} (h_p1 : 0 ≤ p1.toInt ∧ p1.toInt ≤ 1023) (hM : CI σ) (hq : ∀ (σ' : VS), CI σ' → Eo [12, 14, 16, 17, 18] [53, 55, 56, 57, 58] σ σ' → Q σ') : wp_X7layNumberS Q p1 σ := by
  unfold wp_X7layNumberS
  intro X5 H_5
  have hE : Eo [12, 14, 16, 17, 18] [53, 55, 56, 57, 58] σ σ := Eo.rfl
  obtain ⟨σ0, h0⟩ : ∃ z : VS, z = σ := ⟨_, rfl⟩
  rw [← h0] at hq
  replace hE : Eo [12, 14, 16, 17, 18] [53, 55, 56, 57, 58] σ0 σ := by rw [h0]; exact hE
  clear h0
  have L_5_n1 : ∀ (n1 : Nat) (l3 : Int32) (l4 : Int32) (σ : VS), 50 - l4.toInt < (n1 : Int) → 0 ≤ l3.toInt ∧ l3.toInt ≤ 1023 → 0 ≤ l4.toInt ∧ l4.toInt ≤ 50 → CI σ → Eo [12, 14, 16, 17, 18] [53, 55, 56, 57, 58] σ0 σ → X5 l3 l4 σ := by
    intro n1
    induction n1 with
    | zero => intro l3 l4 σ hm h_l3 h_l4 hM hE; exfalso; omega
    | succ n1 ih_n1 =>
      intro l3 l4 σ hm h_l3 h_l4 hM hE
      have hm2_5 : 50 - l4.toInt < (n1 : Int) + 1 := by omega
      refine H_5 l3 l4 σ ?_
      unfold b_X7layNumberS_5
      have f2 : 0 ≤ (σ.1 2).toInt ∧ (σ.1 2).toInt ≤ 50 := hM.1 2
      refine ⟨fun c3 => ?_, fun c3 => ?_⟩
      · exact hq σ hM hE
      · refine rg_X1isStart ⟨by omega, by omega⟩ hM (fun r4 σ5 br4 hM6 hE7o => ?_)
        have hE7 := hE.of hE7o (by decide) (by decide)
        have u8 : (σ5.1 2).toInt = (σ.1 2).toInt := by rw [hE7o.1 2 (by decide)]
        refine ⟨fun c9 => ?_, fun c9 => ?_⟩
        · suffices hs : ∀ (q10 : Int32), q10.toInt = 0 → b_X7layNumberS_39 X5 Q l3 l4 q10 σ5 from hs 0 rfl
          intro q10 hq10
          unfold b_X7layNumberS_39
          generalize ey11 : (2 * q10) = y11
          replace ey11 := ey11.symm
          have ty11 : y11.toInt = 2 * q10.toInt := i3_mulc rfl rfl ey11 (by omega)
          clear ey11
          refine ⟨fun c12 => ?_, fun c12 => ?_⟩
          · generalize ey13 : (l3 - y11) = y13
            replace ey13 := ey13.symm
            have ty13 : y13.toInt = l3.toInt - y11.toInt := i3_subc rfl rfl ey13 (by omega)
            clear ey13
            intro x14 ex14
            have ix14 : x14.toInt = y13.toInt := by rw [ex14]
            generalize ey15 : (l4 + 1) = y15
            replace ey15 := ey15.symm
            have ty15 : y15.toInt = l4.toInt + 1 := i3_addc rfl rfl ey15 (by omega)
            clear ey15
            exact ih_n1 x14 y15 σ5 (by omega) (by first | omega | decide) (by first | omega | decide) hM6 hE7
          · exfalso; omega
        · refine rg_X7aimFrom ⟨by omega, by omega⟩ hM6 (fun r16 σ17 br16 hM18 hE19o => ?_)
          have hE19 := hE7.of hE19o (by decide) (by decide)
          have u20 : (σ17.1 2).toInt = (σ5.1 2).toInt := by rw [hE19o.1 2 (by decide)]
          unfold b_X7layNumberS_39
          generalize ey21 : (2 * r16) = y21
          replace ey21 := ey21.symm
          have ty21 : y21.toInt = 2 * r16.toInt := i3_mulc rfl rfl ey21 (by omega)
          clear ey21
          refine ⟨fun c22 => ?_, fun c22 => ?_⟩
          · generalize ey23 : (l3 - y21) = y23
            replace ey23 := ey23.symm
            have ty23 : y23.toInt = l3.toInt - y21.toInt := i3_subc rfl rfl ey23 (by omega)
            clear ey23
            intro x24 ex24
            have ix24 : x24.toInt = y23.toInt := by rw [ex24]
            generalize ey25 : (l4 + 1) = y25
            replace ey25 := ey25.symm
            have ty25 : y25.toInt = l4.toInt + 1 := i3_addc rfl rfl ey25 (by omega)
            clear ey25
            exact ih_n1 x24 y25 σ17 (by omega) (by first | omega | decide) (by first | omega | decide) hM18 hE19
          · refine ⟨i3_nz (by omega), ?_⟩
            generalize ey26 : (l3 / r16) = y26
            replace ey26 := ey26.symm
            have ty26 := i3_div2 ey26 (by omega) (by omega) (by omega)
            clear ey26
            refine ⟨i3_nz (by omega), ?_⟩
            generalize ey27 : (l3 - l3 / r16 * r16) = y27
            replace ey27 := ey27.symm
            have ty27 := i3_remb ey27 (by omega) (by omega)
            clear ey27
            refine rg_X7layS ⟨by omega, by omega⟩ hM18 (fun σ29 hM30 hE31o => ?_)
            have hE31 := hE19.of hE31o (by decide) (by decide)
            have u32 : (σ29.1 2).toInt = (σ17.1 2).toInt := by rw [hE31o.1 2 (by decide)]
            exact hq σ29 hM30 hE31
  exact L_5_n1 ((50 - (0 : Int32).toInt).toNat + 1) p1 0 σ (by decide) (by first | omega | decide) (by first | omega | decide) hM hE
set_option maxHeartbeats 2000000 in
theorem rg_X7traceS {Q : VS → Prop} {p1 : Int32} {p2 : Int32} {σ : VS} (h_p1 : 0 ≤ p1.toInt ∧ p1.toInt ≤ 49) (hM : CI σ) (hq : ∀ (σ' : VS), CI σ' → Eo [11, 12, 13, 14, 15, 16, 17, 18] [53, 55, 56, 57, 58] σ σ' → Q σ') : wp_X7traceS Q p1 p2 σ := by
  unfold wp_X7traceS
  have hE : Eo [11, 12, 13, 14, 15, 16, 17, 18] [53, 55, 56, 57, 58] σ σ := Eo.rfl
  refine rg_X3masks hM (fun r1 σ2 br1 hM3 hE4o => ?_)
  have hE4 := hE.of hE4o (by decide) (by decide)
  have hM5 := hM3.sf 11 r1 (show 1 ≤ r1.toInt ∧ r1.toInt ≤ 16 by omega)
  have hE6 := hE4.sf 11 r1 (by decide)
  have hM7 := hM5.sf 13 p1 (show 0 ≤ p1.toInt ∧ p1.toInt ≤ 49 by omega)
  have hE8 := hE6.sf 13 p1 (by decide)
  refine rg_X7keyAllS hM7 (fun σ10 hM11 hE12o => ?_)
  have hE12 := hE8.of hE12o (by decide) (by decide)
  refine rg_X7sortKeys hM11 (fun σ14 hM15 hE16o => ?_)
  have hE16 := hE12.of hE16o (by decide) (by decide)
  refine ⟨fun c17 => ?_, fun c17 => ?_⟩
  · unfold b_X7traceS_53
    exact hq σ14 hM15 hE16
  · have f18 : 0 ≤ (σ14.1 15).toInt ∧ (σ14.1 15).toInt ≤ 1000 := hM15.1 15
    refine ⟨fun c19 => ?_, fun c19 => ?_⟩
    · unfold b_X7traceS_53
      exact hq σ14 hM15 hE16
    · refine ⟨⟨by omega, by omega⟩, ?_⟩
      have gl20 : 0 ≤ (((rdj σ14 54 p2) &&& (1023 : Int64))).toInt32.toInt ∧ (((rdj σ14 54 p2) &&& (1023 : Int64))).toInt32.toInt ≤ 1023 := l6_and rfl
      refine rg_X7layNumberS ⟨by omega, by omega⟩ hM15 (fun σ22 hM23 hE24o => ?_)
      have hE24 := hE16.of hE24o (by decide) (by decide)
      have u25 : (σ22.1 15).toInt = (σ14.1 15).toInt := by rw [hE24o.1 15 (by decide)]
      unfold b_X7traceS_53
      exact hq σ22 hM23 hE24
set_option maxHeartbeats 2000000 in
theorem rg_X7layT {Q : VS → Prop} {p1 : Int32} {p2 : Int32} {σ : VS} (h_p1 : 0 ≤ p1.toInt ∧ p1.toInt ≤ 1) (hM : CI σ) (hq : ∀ (σ' : VS), CI σ' → Eo [14, 19, 20, 21] [59, 60, 61, 62] σ σ' → Q σ') : wp_X7layT Q p1 p2 σ := by
  unfold wp_X7layT
  intro X85 H_85
  have hE : Eo [14, 19, 20, 21] [59, 60, 61, 62] σ σ := Eo.rfl
  obtain ⟨σ0, h0⟩ : ∃ z : VS, z = σ := ⟨_, rfl⟩
  rw [← h0] at hq
  replace hE : Eo [14, 19, 20, 21] [59, 60, 61, 62] σ0 σ := by rw [h0]; exact hE
  clear h0
  have f1 : 0 ≤ (σ.1 12).toInt ∧ (σ.1 12).toInt ≤ 49 := hM.1 12
  generalize ey2 : ((σ.1 12) * 2) = y2
  replace ey2 := ey2.symm
  have ty2 : y2.toInt = (σ.1 12).toInt * 2 := i3_mulc rfl rfl ey2 (by omega)
  clear ey2
  generalize ey3 : (y2 + p1) = y3
  replace ey3 := ey3.symm
  have ty3 : y3.toInt = y2.toInt + p1.toInt := i3_addc rfl rfl ey3 (by omega)
  clear ey3
  refine ⟨⟨by omega, by omega⟩, ?_⟩
  intro x4 ex4
  have ix4 : x4.toInt = (rd σ 45 y3).toInt := by rw [ex4]
  have bd5 := i3_bd (rd σ 45 y3)
  refine ⟨⟨by omega, by omega⟩, ?_⟩
  intro x6 ex6
  have ix6 : x6.toInt = (rd σ 46 y3).toInt := by rw [ex6]
  have bd7 := i3_bd (rd σ 46 y3)
  refine ⟨⟨by omega, by omega⟩, ?_⟩
  have a8 : 0 ≤ (rd σ 35 (σ.1 12)).toInt ∧ (rd σ 35 (σ.1 12)).toInt ≤ 15 := hM.2 35 _
  intro x9 ex9
  have ix9 : x9.toInt = (rd σ 35 (σ.1 12)).toInt := by rw [ex9]
  have hM10 := hM.sf 14 p2 (i3_bd _)
  have hE11 := hE.sf 14 p2 (by decide)
  have u12 : ((sf σ 14 p2).1 12).toInt = (σ.1 12).toInt := rfl
  have u13 : (rd (sf σ 14 p2) 35 (σ.1 12)).toInt = (rd σ 35 (σ.1 12)).toInt := rfl
  have hM14 := hM10.sf 19 0 (show 0 ≤ (0 : Int32).toInt ∧ (0 : Int32).toInt ≤ 51 by decide)
  have hE15 := hE11.sf 19 0 (by decide)
  have u16 : ((sf (sf σ 14 p2) 19 0).1 12).toInt = ((sf σ 14 p2).1 12).toInt := rfl
  have u17 : (rd (sf (sf σ 14 p2) 19 0) 35 (σ.1 12)).toInt = (rd (sf σ 14 p2) 35 (σ.1 12)).toInt := rfl
  have bd18 := i3_bd x4
  refine rg_X8putStepT ⟨by omega, by omega⟩ hM14 (fun σ20 hM21 hE22o => ?_)
  have hE22 := hE15.of hE22o (by decide) (by decide)
  have u23 : (σ20.1 12).toInt = ((sf (sf σ 14 p2) 19 0).1 12).toInt := by rw [hE22o.1 12 (by decide)]
  have L_85_n24 : ∀ (n24 : Nat) (l4 : Int32) (l5 : Int32) (l6 : Int32) (l7 : Int32) (l8 : Int32) (l9 : Int32) (σ : VS), 51 - l9.toInt < (n24 : Int) → 0 ≤ l4.toInt ∧ l4.toInt ≤ 1 → 0 ≤ l7.toInt ∧ l7.toInt ≤ 15 → (-5) ≤ l8.toInt ∧ l8.toInt ≤ 199 → 0 ≤ l9.toInt ∧ l9.toInt ≤ 51 → CI σ → Eo [14, 19, 20, 21] [59, 60, 61, 62] σ0 σ → X85 l4 l5 l6 l7 l8 l9 σ := by
    intro n24
    induction n24 with
    | zero => intro l4 l5 l6 l7 l8 l9 σ hm h_l4 h_l7 h_l8 h_l9 hM hE; exfalso; omega
    | succ n24 ih_n24 =>
      intro l4 l5 l6 l7 l8 l9 σ hm h_l4 h_l7 h_l8 h_l9 hM hE
      have hm2_85 : 51 - l9.toInt < (n24 : Int) + 1 := by omega
      refine H_85 l4 l5 l6 l7 l8 l9 σ ?_
      unfold b_X7layT_85
      refine ⟨fun c25 => ?_, fun c25 => ?_⟩
      · unfold b_X7layT_240
        have f26 : 0 ≤ (σ.1 13).toInt ∧ (σ.1 13).toInt ≤ 49 := hM.1 13
        have bd27 := i3_bd l5
        refine rg_X8putStepT ⟨by omega, by omega⟩ hM (fun σ29 hM30 hE31o => ?_)
        have hE31 := hE.of hE31o (by decide) (by decide)
        have u32 : (σ29.1 13).toInt = (σ.1 13).toInt := by rw [hE31o.1 13 (by decide)]
        have f33 : 0 ≤ (σ29.1 12).toInt ∧ (σ29.1 12).toInt ≤ 49 := hM30.1 12
        refine rg_X3periodsOf hM30 (fun r34 σ35 br34 hM36 hE37o => ?_)
        have hE37 := hE31.of hE37o (by decide) (by decide)
        have u38 : (σ35.1 13).toInt = (σ29.1 13).toInt := by rw [hE37o.1 13 (by decide)]
        have u39 : (σ35.1 12).toInt = (σ29.1 12).toInt := by rw [hE37o.1 12 (by decide)]
        have f40 : 1 ≤ (σ35.1 4).toInt ∧ (σ35.1 4).toInt ≤ 1000000 := hM36.1 4
        generalize ey41 : (r34 * (σ35.1 4)) = y41
        replace ey41 := ey41.symm
        have ty41 : 0 ≤ y41.toInt ∧ y41.toInt ≤ 4000000 := i3_mulb (A := 4) (B := 1000000) ey41 (by omega) (by omega) (by decide)
        clear ey41
        refine rg_X2slackRoom ⟨by omega, by omega⟩ ⟨by omega, by omega⟩ hM36 (fun r42 σ43 hM44 hE45o => ?_)
        have hE45 := hE37.of hE45o (by decide) (by decide)
        have bd46 := i3_bd r42
        have u47 : (σ43.1 13).toInt = (σ35.1 13).toInt := by rw [hE45o.1 13 (by decide)]
        have u48 : (σ43.1 12).toInt = (σ35.1 12).toInt := by rw [hE45o.1 12 (by decide)]
        have u49 : (σ43.1 4).toInt = (σ35.1 4).toInt := by rw [hE45o.1 4 (by decide)]
        generalize ey50 : (y41 + r42) = y50
        replace ey50 := ey50.symm
        clear ey50
        have bd51 := i3_bd y50
        generalize ey52 : (y50 - l5) = y52
        replace ey52 := ey52.symm
        clear ey52
        have hM53 := hM44.sf 20 y52 (i3_bd _)
        have hE54 := hE45.sf 20 y52 (by decide)
        have u55 : ((sf σ43 20 y52).1 13).toInt = (σ43.1 13).toInt := rfl
        have u56 : ((sf σ43 20 y52).1 12).toInt = (σ43.1 12).toInt := rfl
        have u57 : ((sf σ43 20 y52).1 4).toInt = (σ43.1 4).toInt := rfl
        refine rg_X2holdRoom ⟨by omega, by omega⟩ ⟨by omega, by omega⟩ hM53 (fun r58 σ59 hM60 hE61o => ?_)
        have hE61 := hE54.of hE61o (by decide) (by decide)
        have bd62 := i3_bd r58
        have u63 : (σ59.1 13).toInt = ((sf σ43 20 y52).1 13).toInt := by rw [hE61o.1 13 (by decide)]
        have u64 : (σ59.1 12).toInt = ((sf σ43 20 y52).1 12).toInt := by rw [hE61o.1 12 (by decide)]
        have u65 : (σ59.1 4).toInt = ((sf σ43 20 y52).1 4).toInt := by rw [hE61o.1 4 (by decide)]
        have bd66 := i3_bd l6
        generalize ey67 : (l6 + r58) = y67
        replace ey67 := ey67.symm
        clear ey67
        have hM68 := hM60.sf 21 y67 (i3_bd _)
        have hE69 := hE61.sf 21 y67 (by decide)
        have u70 : ((sf σ59 21 y67).1 13).toInt = (σ59.1 13).toInt := rfl
        have u71 : ((sf σ59 21 y67).1 12).toInt = (σ59.1 12).toInt := rfl
        have u72 : ((sf σ59 21 y67).1 4).toInt = (σ59.1 4).toInt := rfl
        exact hq (sf σ59 21 y67) hM68 hE69
      · refine ⟨fun c73 => ?_, fun c73 => ?_⟩
        · generalize ey74 : (l8 / 4) = y74
          replace ey74 := ey74.symm
          have ty74 : y74.toInt = l8.toInt / 4 := i3_divc rfl rfl ey74 (by omega) (by decide)
          clear ey74
          unfold b_X7layT_109
          refine rg_X7chooseWire ⟨by omega, by omega⟩ ⟨by omega, by omega⟩ hM (fun r75 σ76 br75 hM77 hE78o => ?_)
          have hE78 := hE.of hE78o (by decide) (by decide)
          refine ⟨fun c79 => ?_, fun c79 => ?_⟩
          · generalize ey80 : (r75 / 4) = y80
            replace ey80 := ey80.symm
            have ty80 : y80.toInt = r75.toInt / 4 := i3_divc rfl rfl ey80 (by omega) (by decide)
            clear ey80
            intro x81 ex81
            have ix81 : x81.toInt = y80.toInt := by rw [ex81]
            refine ⟨⟨by omega, by omega⟩, ?_⟩
            have a82 : 0 ≤ (rd σ76 35 x81).toInt ∧ (rd σ76 35 x81).toInt ≤ 15 := hM77.2 35 _
            generalize ey83 : (l7 ||| (rd σ76 35 x81)) = y83
            replace ey83 := ey83.symm
            have ty83 := i3_or15 ey83 (by omega) (by omega)
            clear ey83
            intro x84 ex84
            have ix84 : x84.toInt = y83.toInt := by rw [ex84]
            have f85 : 0 ≤ (σ76.1 13).toInt ∧ (σ76.1 13).toInt ≤ 49 := hM77.1 13
            refine ⟨fun c86 => ?_, fun c86 => ?_⟩
            · refine ⟨⟨by omega, by omega⟩, ?_⟩
              have a87 : 0 ≤ (rd σ76 11 x81).toInt ∧ (rd σ76 11 x81).toInt ≤ 5 := hM77.2 11 _
              refine ⟨fun c88 => ?_, fun c88 => ?_⟩
              · unfold b_X7layT_178
                generalize ey89 : (r75 * 2) = y89
                replace ey89 := ey89.symm
                have ty89 : y89.toInt = r75.toInt * 2 := i3_mulc rfl rfl ey89 (by omega)
                clear ey89
                generalize ey90 : (y89 + l4) = y90
                replace ey90 := ey90.symm
                have ty90 : y90.toInt = y89.toInt + l4.toInt := i3_addc rfl rfl ey90 (by omega)
                clear ey90
                refine ⟨⟨by omega, by omega⟩, ?_⟩
                have bd91 := i3_bd l5
                have bd92 := i3_bd (rd σ76 41 y90)
                generalize ey93 : (l5 + (rd σ76 41 y90)) = y93
                replace ey93 := ey93.symm
                clear ey93
                intro x94 ex94
                have ix94 : x94.toInt = y93.toInt := by rw [ex94]
                have bd95 := i3_bd y93
                refine ⟨⟨by omega, by omega⟩, ?_⟩
                have bd96 := i3_bd l6
                have bd97 := i3_bd (rd σ76 42 y90)
                generalize ey98 : (l6 + (rd σ76 42 y90)) = y98
                replace ey98 := ey98.symm
                clear ey98
                intro x99 ex99
                have ix99 : x99.toInt = y98.toInt := by rw [ex99]
                have bd100 := i3_bd y98
                generalize ey101 : (r75 - r75 / 4 * 4) = y101
                replace ey101 := ey101.symm
                have ty101 := i3_remb ey101 (by omega) (by decide)
                clear ey101
                have bd102 := i3_bd x94
                refine rg_X8putStepT ⟨by omega, by omega⟩ hM77 (fun σ104 hM105 hE106o => ?_)
                have hE106 := hE78.of hE106o (by decide) (by decide)
                have u107 : (rd σ104 35 x81).toInt = (rd σ76 35 x81).toInt := by unfold rd; rw [hE106o.2 35 (by decide)]
                have u108 : (σ104.1 13).toInt = (σ76.1 13).toInt := by rw [hE106o.1 13 (by decide)]
                have u109 : (rd σ104 11 x81).toInt = (rd σ76 11 x81).toInt := by unfold rd; rw [hE106o.2 11 (by decide)]
                generalize ey110 : (l9 + 1) = y110
                replace ey110 := ey110.symm
                have ty110 : y110.toInt = l9.toInt + 1 := i3_addc rfl rfl ey110 (by omega)
                clear ey110
                have bd111 := i3_bd x99
                exact ih_n24 l4 x94 x99 x84 r75 y110 σ104 (by omega) (by first | omega | decide) (by first | omega | decide) (by first | omega | decide) (by first | omega | decide) hM105 hE106
              · generalize ey112 : (1 - l4) = y112
                replace ey112 := ey112.symm
                have ty112 : y112.toInt = 1 - l4.toInt := i3_subc rfl rfl ey112 (by omega)
                clear ey112
                unfold b_X7layT_178
                generalize ey113 : (r75 * 2) = y113
                replace ey113 := ey113.symm
                have ty113 : y113.toInt = r75.toInt * 2 := i3_mulc rfl rfl ey113 (by omega)
                clear ey113
                generalize ey114 : (y113 + y112) = y114
                replace ey114 := ey114.symm
                have ty114 : y114.toInt = y113.toInt + y112.toInt := i3_addc rfl rfl ey114 (by omega)
                clear ey114
                refine ⟨⟨by omega, by omega⟩, ?_⟩
                have bd115 := i3_bd l5
                have bd116 := i3_bd (rd σ76 41 y114)
                generalize ey117 : (l5 + (rd σ76 41 y114)) = y117
                replace ey117 := ey117.symm
                clear ey117
                intro x118 ex118
                have ix118 : x118.toInt = y117.toInt := by rw [ex118]
                have bd119 := i3_bd y117
                refine ⟨⟨by omega, by omega⟩, ?_⟩
                have bd120 := i3_bd l6
                have bd121 := i3_bd (rd σ76 42 y114)
                generalize ey122 : (l6 + (rd σ76 42 y114)) = y122
                replace ey122 := ey122.symm
                clear ey122
                intro x123 ex123
                have ix123 : x123.toInt = y122.toInt := by rw [ex123]
                have bd124 := i3_bd y122
                generalize ey125 : (r75 - r75 / 4 * 4) = y125
                replace ey125 := ey125.symm
                have ty125 := i3_remb ey125 (by omega) (by decide)
                clear ey125
                have bd126 := i3_bd x118
                refine rg_X8putStepT ⟨by omega, by omega⟩ hM77 (fun σ128 hM129 hE130o => ?_)
                have hE130 := hE78.of hE130o (by decide) (by decide)
                have u131 : (rd σ128 35 x81).toInt = (rd σ76 35 x81).toInt := by unfold rd; rw [hE130o.2 35 (by decide)]
                have u132 : (σ128.1 13).toInt = (σ76.1 13).toInt := by rw [hE130o.1 13 (by decide)]
                have u133 : (rd σ128 11 x81).toInt = (rd σ76 11 x81).toInt := by unfold rd; rw [hE130o.2 11 (by decide)]
                generalize ey134 : (l9 + 1) = y134
                replace ey134 := ey134.symm
                have ty134 : y134.toInt = l9.toInt + 1 := i3_addc rfl rfl ey134 (by omega)
                clear ey134
                have bd135 := i3_bd x123
                exact ih_n24 y112 x118 x123 x84 r75 y134 σ128 (by omega) (by first | omega | decide) (by first | omega | decide) (by first | omega | decide) (by first | omega | decide) hM129 hE130
            · unfold b_X7layT_240
              have bd136 := i3_bd l5
              refine rg_X8putStepT ⟨by omega, by omega⟩ hM77 (fun σ138 hM139 hE140o => ?_)
              have hE140 := hE78.of hE140o (by decide) (by decide)
              have u141 : (rd σ138 35 x81).toInt = (rd σ76 35 x81).toInt := by unfold rd; rw [hE140o.2 35 (by decide)]
              have u142 : (σ138.1 13).toInt = (σ76.1 13).toInt := by rw [hE140o.1 13 (by decide)]
              have f143 : 0 ≤ (σ138.1 12).toInt ∧ (σ138.1 12).toInt ≤ 49 := hM139.1 12
              refine rg_X3periodsOf hM139 (fun r144 σ145 br144 hM146 hE147o => ?_)
              have hE147 := hE140.of hE147o (by decide) (by decide)
              have u148 : (rd σ145 35 x81).toInt = (rd σ138 35 x81).toInt := by unfold rd; rw [hE147o.2 35 (by decide)]
              have u149 : (σ145.1 13).toInt = (σ138.1 13).toInt := by rw [hE147o.1 13 (by decide)]
              have u150 : (σ145.1 12).toInt = (σ138.1 12).toInt := by rw [hE147o.1 12 (by decide)]
              have f151 : 1 ≤ (σ145.1 4).toInt ∧ (σ145.1 4).toInt ≤ 1000000 := hM146.1 4
              generalize ey152 : (r144 * (σ145.1 4)) = y152
              replace ey152 := ey152.symm
              have ty152 : 0 ≤ y152.toInt ∧ y152.toInt ≤ 4000000 := i3_mulb (A := 4) (B := 1000000) ey152 (by omega) (by omega) (by decide)
              clear ey152
              refine rg_X2slackRoom ⟨by omega, by omega⟩ ⟨by omega, by omega⟩ hM146 (fun r153 σ154 hM155 hE156o => ?_)
              have hE156 := hE147.of hE156o (by decide) (by decide)
              have bd157 := i3_bd r153
              have u158 : (rd σ154 35 x81).toInt = (rd σ145 35 x81).toInt := by unfold rd; rw [hE156o.2 35 (by decide)]
              have u159 : (σ154.1 13).toInt = (σ145.1 13).toInt := by rw [hE156o.1 13 (by decide)]
              have u160 : (σ154.1 12).toInt = (σ145.1 12).toInt := by rw [hE156o.1 12 (by decide)]
              have u161 : (σ154.1 4).toInt = (σ145.1 4).toInt := by rw [hE156o.1 4 (by decide)]
              generalize ey162 : (y152 + r153) = y162
              replace ey162 := ey162.symm
              clear ey162
              have bd163 := i3_bd y162
              generalize ey164 : (y162 - l5) = y164
              replace ey164 := ey164.symm
              clear ey164
              have hM165 := hM155.sf 20 y164 (i3_bd _)
              have hE166 := hE156.sf 20 y164 (by decide)
              have u167 : (rd (sf σ154 20 y164) 35 x81).toInt = (rd σ154 35 x81).toInt := rfl
              have u168 : ((sf σ154 20 y164).1 13).toInt = (σ154.1 13).toInt := rfl
              have u169 : ((sf σ154 20 y164).1 12).toInt = (σ154.1 12).toInt := rfl
              have u170 : ((sf σ154 20 y164).1 4).toInt = (σ154.1 4).toInt := rfl
              refine rg_X2holdRoom ⟨by omega, by omega⟩ ⟨by omega, by omega⟩ hM165 (fun r171 σ172 hM173 hE174o => ?_)
              have hE174 := hE166.of hE174o (by decide) (by decide)
              have bd175 := i3_bd r171
              have u176 : (rd σ172 35 x81).toInt = (rd (sf σ154 20 y164) 35 x81).toInt := by unfold rd; rw [hE174o.2 35 (by decide)]
              have u177 : (σ172.1 13).toInt = ((sf σ154 20 y164).1 13).toInt := by rw [hE174o.1 13 (by decide)]
              have u178 : (σ172.1 12).toInt = ((sf σ154 20 y164).1 12).toInt := by rw [hE174o.1 12 (by decide)]
              have u179 : (σ172.1 4).toInt = ((sf σ154 20 y164).1 4).toInt := by rw [hE174o.1 4 (by decide)]
              have bd180 := i3_bd l6
              generalize ey181 : (l6 + r171) = y181
              replace ey181 := ey181.symm
              clear ey181
              have hM182 := hM173.sf 21 y181 (i3_bd _)
              have hE183 := hE174.sf 21 y181 (by decide)
              have u184 : (rd (sf σ172 21 y181) 35 x81).toInt = (rd σ172 35 x81).toInt := rfl
              have u185 : ((sf σ172 21 y181).1 13).toInt = (σ172.1 13).toInt := rfl
              have u186 : ((sf σ172 21 y181).1 12).toInt = (σ172.1 12).toInt := rfl
              have u187 : ((sf σ172 21 y181).1 4).toInt = (σ172.1 4).toInt := rfl
              exact hq (sf σ172 21 y181) hM182 hE183
          · exact hq σ76 hM77 hE78
        · have f188 : 0 ≤ (σ.1 12).toInt ∧ (σ.1 12).toInt ≤ 49 := hM.1 12
          suffices hs : ∀ (q189 : Int32), q189.toInt = (σ.1 12).toInt → b_X7layT_109 X85 Q l4 l5 l6 l7 l9 q189 σ from hs (σ.1 12) rfl
          intro q189 hq189
          unfold b_X7layT_109
          refine rg_X7chooseWire ⟨by omega, by omega⟩ ⟨by omega, by omega⟩ hM (fun r190 σ191 br190 hM192 hE193o => ?_)
          have hE193 := hE.of hE193o (by decide) (by decide)
          have u194 : (σ191.1 12).toInt = (σ.1 12).toInt := by rw [hE193o.1 12 (by decide)]
          refine ⟨fun c195 => ?_, fun c195 => ?_⟩
          · generalize ey196 : (r190 / 4) = y196
            replace ey196 := ey196.symm
            have ty196 : y196.toInt = r190.toInt / 4 := i3_divc rfl rfl ey196 (by omega) (by decide)
            clear ey196
            intro x197 ex197
            have ix197 : x197.toInt = y196.toInt := by rw [ex197]
            refine ⟨⟨by omega, by omega⟩, ?_⟩
            have a198 : 0 ≤ (rd σ191 35 x197).toInt ∧ (rd σ191 35 x197).toInt ≤ 15 := hM192.2 35 _
            generalize ey199 : (l7 ||| (rd σ191 35 x197)) = y199
            replace ey199 := ey199.symm
            have ty199 := i3_or15 ey199 (by omega) (by omega)
            clear ey199
            intro x200 ex200
            have ix200 : x200.toInt = y199.toInt := by rw [ex200]
            have f201 : 0 ≤ (σ191.1 13).toInt ∧ (σ191.1 13).toInt ≤ 49 := hM192.1 13
            refine ⟨fun c202 => ?_, fun c202 => ?_⟩
            · refine ⟨⟨by omega, by omega⟩, ?_⟩
              have a203 : 0 ≤ (rd σ191 11 x197).toInt ∧ (rd σ191 11 x197).toInt ≤ 5 := hM192.2 11 _
              refine ⟨fun c204 => ?_, fun c204 => ?_⟩
              · unfold b_X7layT_178
                generalize ey205 : (r190 * 2) = y205
                replace ey205 := ey205.symm
                have ty205 : y205.toInt = r190.toInt * 2 := i3_mulc rfl rfl ey205 (by omega)
                clear ey205
                generalize ey206 : (y205 + l4) = y206
                replace ey206 := ey206.symm
                have ty206 : y206.toInt = y205.toInt + l4.toInt := i3_addc rfl rfl ey206 (by omega)
                clear ey206
                refine ⟨⟨by omega, by omega⟩, ?_⟩
                have bd207 := i3_bd l5
                have bd208 := i3_bd (rd σ191 41 y206)
                generalize ey209 : (l5 + (rd σ191 41 y206)) = y209
                replace ey209 := ey209.symm
                clear ey209
                intro x210 ex210
                have ix210 : x210.toInt = y209.toInt := by rw [ex210]
                have bd211 := i3_bd y209
                refine ⟨⟨by omega, by omega⟩, ?_⟩
                have bd212 := i3_bd l6
                have bd213 := i3_bd (rd σ191 42 y206)
                generalize ey214 : (l6 + (rd σ191 42 y206)) = y214
                replace ey214 := ey214.symm
                clear ey214
                intro x215 ex215
                have ix215 : x215.toInt = y214.toInt := by rw [ex215]
                have bd216 := i3_bd y214
                generalize ey217 : (r190 - r190 / 4 * 4) = y217
                replace ey217 := ey217.symm
                have ty217 := i3_remb ey217 (by omega) (by decide)
                clear ey217
                have bd218 := i3_bd x210
                refine rg_X8putStepT ⟨by omega, by omega⟩ hM192 (fun σ220 hM221 hE222o => ?_)
                have hE222 := hE193.of hE222o (by decide) (by decide)
                have u223 : (σ220.1 12).toInt = (σ191.1 12).toInt := by rw [hE222o.1 12 (by decide)]
                have u224 : (rd σ220 35 x197).toInt = (rd σ191 35 x197).toInt := by unfold rd; rw [hE222o.2 35 (by decide)]
                have u225 : (σ220.1 13).toInt = (σ191.1 13).toInt := by rw [hE222o.1 13 (by decide)]
                have u226 : (rd σ220 11 x197).toInt = (rd σ191 11 x197).toInt := by unfold rd; rw [hE222o.2 11 (by decide)]
                generalize ey227 : (l9 + 1) = y227
                replace ey227 := ey227.symm
                have ty227 : y227.toInt = l9.toInt + 1 := i3_addc rfl rfl ey227 (by omega)
                clear ey227
                have bd228 := i3_bd x215
                exact ih_n24 l4 x210 x215 x200 r190 y227 σ220 (by omega) (by first | omega | decide) (by first | omega | decide) (by first | omega | decide) (by first | omega | decide) hM221 hE222
              · generalize ey229 : (1 - l4) = y229
                replace ey229 := ey229.symm
                have ty229 : y229.toInt = 1 - l4.toInt := i3_subc rfl rfl ey229 (by omega)
                clear ey229
                unfold b_X7layT_178
                generalize ey230 : (r190 * 2) = y230
                replace ey230 := ey230.symm
                have ty230 : y230.toInt = r190.toInt * 2 := i3_mulc rfl rfl ey230 (by omega)
                clear ey230
                generalize ey231 : (y230 + y229) = y231
                replace ey231 := ey231.symm
                have ty231 : y231.toInt = y230.toInt + y229.toInt := i3_addc rfl rfl ey231 (by omega)
                clear ey231
                refine ⟨⟨by omega, by omega⟩, ?_⟩
                have bd232 := i3_bd l5
                have bd233 := i3_bd (rd σ191 41 y231)
                generalize ey234 : (l5 + (rd σ191 41 y231)) = y234
                replace ey234 := ey234.symm
                clear ey234
                intro x235 ex235
                have ix235 : x235.toInt = y234.toInt := by rw [ex235]
                have bd236 := i3_bd y234
                refine ⟨⟨by omega, by omega⟩, ?_⟩
                have bd237 := i3_bd l6
                have bd238 := i3_bd (rd σ191 42 y231)
                generalize ey239 : (l6 + (rd σ191 42 y231)) = y239
                replace ey239 := ey239.symm
                clear ey239
                intro x240 ex240
                have ix240 : x240.toInt = y239.toInt := by rw [ex240]
                have bd241 := i3_bd y239
                generalize ey242 : (r190 - r190 / 4 * 4) = y242
                replace ey242 := ey242.symm
                have ty242 := i3_remb ey242 (by omega) (by decide)
                clear ey242
                have bd243 := i3_bd x235
                refine rg_X8putStepT ⟨by omega, by omega⟩ hM192 (fun σ245 hM246 hE247o => ?_)
                have hE247 := hE193.of hE247o (by decide) (by decide)
                have u248 : (σ245.1 12).toInt = (σ191.1 12).toInt := by rw [hE247o.1 12 (by decide)]
                have u249 : (rd σ245 35 x197).toInt = (rd σ191 35 x197).toInt := by unfold rd; rw [hE247o.2 35 (by decide)]
                have u250 : (σ245.1 13).toInt = (σ191.1 13).toInt := by rw [hE247o.1 13 (by decide)]
                have u251 : (rd σ245 11 x197).toInt = (rd σ191 11 x197).toInt := by unfold rd; rw [hE247o.2 11 (by decide)]
                generalize ey252 : (l9 + 1) = y252
                replace ey252 := ey252.symm
                have ty252 : y252.toInt = l9.toInt + 1 := i3_addc rfl rfl ey252 (by omega)
                clear ey252
                have bd253 := i3_bd x240
                exact ih_n24 y229 x235 x240 x200 r190 y252 σ245 (by omega) (by first | omega | decide) (by first | omega | decide) (by first | omega | decide) (by first | omega | decide) hM246 hE247
            · unfold b_X7layT_240
              have bd254 := i3_bd l5
              refine rg_X8putStepT ⟨by omega, by omega⟩ hM192 (fun σ256 hM257 hE258o => ?_)
              have hE258 := hE193.of hE258o (by decide) (by decide)
              have u259 : (σ256.1 12).toInt = (σ191.1 12).toInt := by rw [hE258o.1 12 (by decide)]
              have u260 : (rd σ256 35 x197).toInt = (rd σ191 35 x197).toInt := by unfold rd; rw [hE258o.2 35 (by decide)]
              have u261 : (σ256.1 13).toInt = (σ191.1 13).toInt := by rw [hE258o.1 13 (by decide)]
              refine rg_X3periodsOf hM257 (fun r262 σ263 br262 hM264 hE265o => ?_)
              have hE265 := hE258.of hE265o (by decide) (by decide)
              have u266 : (σ263.1 12).toInt = (σ256.1 12).toInt := by rw [hE265o.1 12 (by decide)]
              have u267 : (rd σ263 35 x197).toInt = (rd σ256 35 x197).toInt := by unfold rd; rw [hE265o.2 35 (by decide)]
              have u268 : (σ263.1 13).toInt = (σ256.1 13).toInt := by rw [hE265o.1 13 (by decide)]
              have f269 : 1 ≤ (σ263.1 4).toInt ∧ (σ263.1 4).toInt ≤ 1000000 := hM264.1 4
              generalize ey270 : (r262 * (σ263.1 4)) = y270
              replace ey270 := ey270.symm
              have ty270 : 0 ≤ y270.toInt ∧ y270.toInt ≤ 4000000 := i3_mulb (A := 4) (B := 1000000) ey270 (by omega) (by omega) (by decide)
              clear ey270
              refine rg_X2slackRoom ⟨by omega, by omega⟩ ⟨by omega, by omega⟩ hM264 (fun r271 σ272 hM273 hE274o => ?_)
              have hE274 := hE265.of hE274o (by decide) (by decide)
              have bd275 := i3_bd r271
              have u276 : (σ272.1 12).toInt = (σ263.1 12).toInt := by rw [hE274o.1 12 (by decide)]
              have u277 : (rd σ272 35 x197).toInt = (rd σ263 35 x197).toInt := by unfold rd; rw [hE274o.2 35 (by decide)]
              have u278 : (σ272.1 13).toInt = (σ263.1 13).toInt := by rw [hE274o.1 13 (by decide)]
              have u279 : (σ272.1 4).toInt = (σ263.1 4).toInt := by rw [hE274o.1 4 (by decide)]
              generalize ey280 : (y270 + r271) = y280
              replace ey280 := ey280.symm
              clear ey280
              have bd281 := i3_bd y280
              generalize ey282 : (y280 - l5) = y282
              replace ey282 := ey282.symm
              clear ey282
              have hM283 := hM273.sf 20 y282 (i3_bd _)
              have hE284 := hE274.sf 20 y282 (by decide)
              have u285 : ((sf σ272 20 y282).1 12).toInt = (σ272.1 12).toInt := rfl
              have u286 : (rd (sf σ272 20 y282) 35 x197).toInt = (rd σ272 35 x197).toInt := rfl
              have u287 : ((sf σ272 20 y282).1 13).toInt = (σ272.1 13).toInt := rfl
              have u288 : ((sf σ272 20 y282).1 4).toInt = (σ272.1 4).toInt := rfl
              refine rg_X2holdRoom ⟨by omega, by omega⟩ ⟨by omega, by omega⟩ hM283 (fun r289 σ290 hM291 hE292o => ?_)
              have hE292 := hE284.of hE292o (by decide) (by decide)
              have bd293 := i3_bd r289
              have u294 : (σ290.1 12).toInt = ((sf σ272 20 y282).1 12).toInt := by rw [hE292o.1 12 (by decide)]
              have u295 : (rd σ290 35 x197).toInt = (rd (sf σ272 20 y282) 35 x197).toInt := by unfold rd; rw [hE292o.2 35 (by decide)]
              have u296 : (σ290.1 13).toInt = ((sf σ272 20 y282).1 13).toInt := by rw [hE292o.1 13 (by decide)]
              have u297 : (σ290.1 4).toInt = ((sf σ272 20 y282).1 4).toInt := by rw [hE292o.1 4 (by decide)]
              have bd298 := i3_bd l6
              generalize ey299 : (l6 + r289) = y299
              replace ey299 := ey299.symm
              clear ey299
              have hM300 := hM291.sf 21 y299 (i3_bd _)
              have hE301 := hE292.sf 21 y299 (by decide)
              have u302 : ((sf σ290 21 y299).1 12).toInt = (σ290.1 12).toInt := rfl
              have u303 : (rd (sf σ290 21 y299) 35 x197).toInt = (rd σ290 35 x197).toInt := rfl
              have u304 : ((sf σ290 21 y299).1 13).toInt = (σ290.1 13).toInt := rfl
              have u305 : ((sf σ290 21 y299).1 4).toInt = (σ290.1 4).toInt := rfl
              exact hq (sf σ290 21 y299) hM300 hE301
          · exact hq σ191 hM192 hE193
  exact L_85_n24 ((51 - (0 : Int32).toInt).toNat + 1) p1 x4 x6 x9 (-5) 0 σ20 (by decide) (by first | omega | decide) (by first | omega | decide) (by first | omega | decide) (by first | omega | decide) hM21 hE22
set_option maxHeartbeats 2000000 in
theorem rg_X7keyAllT {Q : VS → Prop} {σ : VS} (hM : CI σ) (hq : ∀ (σ' : VS), CI σ' → Eo [12, 14, 15, 19, 20, 21] [53, 59, 60, 61, 62] σ σ' → Q σ') : wp_X7keyAllT Q σ := by
  unfold wp_X7keyAllT
  intro X7 X42 H_7 H_42
  have hE : Eo [12, 14, 15, 19, 20, 21] [53, 59, 60, 61, 62] σ σ := Eo.rfl
  obtain ⟨σ0, h0⟩ : ∃ z : VS, z = σ := ⟨_, rfl⟩
  rw [← h0] at hq
  replace hE : Eo [12, 14, 15, 19, 20, 21] [53, 59, 60, 61, 62] σ0 σ := by rw [h0]; exact hE
  clear h0
  have hM1 := hM.sf 15 0 (show 0 ≤ (0 : Int32).toInt ∧ (0 : Int32).toInt ≤ 1000 by decide)
  have hE2 := hE.sf 15 0 (by decide)
  have L_7_n3 : ∀ (n3 : Nat) (l2 : Int32) (σ : VS), 50 - l2.toInt < (n3 : Int) → 0 ≤ l2.toInt ∧ l2.toInt ≤ 50 → CI σ → Eo [12, 14, 15, 19, 20, 21] [53, 59, 60, 61, 62] σ0 σ → X7 l2 σ := by
    intro n3
    induction n3 with
    | zero => intro l2 σ hm h_l2 hM hE; exfalso; omega
    | succ n3 ih_n3 =>
      intro l2 σ hm h_l2 hM hE
      have hm2_7 : 50 - l2.toInt < (n3 : Int) + 1 := by omega
      refine H_7 l2 σ ?_
      unfold b_X7keyAllT_7
      have f4 : 0 ≤ (σ.1 2).toInt ∧ (σ.1 2).toInt ≤ 50 := hM.1 2
      refine ⟨fun c5 => ?_, fun c5 => ?_⟩
      · exact hq σ hM hE
      · refine rg_X1isStart ⟨by omega, by omega⟩ hM (fun r6 σ7 br6 hM8 hE9o => ?_)
        have hE9 := hE.of hE9o (by decide) (by decide)
        have u10 : (σ7.1 2).toInt = (σ.1 2).toInt := by rw [hE9o.1 2 (by decide)]
        refine ⟨fun c11 => ?_, fun c11 => ?_⟩
        · suffices hs : ∀ (q12 : Int32), q12.toInt = 0 → b_X7keyAllT_38 X7 X42 Q l2 q12 σ7 from hs 0 rfl
          intro q12 hq12
          unfold b_X7keyAllT_38
          have L_42_n13 : ∀ (n13 : Nat) (l2 : Int32) (l3 : Int32) (l4 : Int32) (σ : VS), 2000 - l4.toInt < (n13 : Int) → 0 ≤ l2.toInt ∧ l2.toInt ≤ 49 → 0 ≤ l3.toInt ∧ l3.toInt ≤ 1000 → 0 ≤ l4.toInt ∧ l4.toInt ≤ 2000 → 50 - l2.toInt < (n3 : Int) + 1 → CI σ → Eo [12, 14, 15, 19, 20, 21] [53, 59, 60, 61, 62] σ0 σ → X42 l2 l3 l4 σ := by
            intro n13
            induction n13 with
            | zero => intro l2 l3 l4 σ hm h_l2 h_l3 h_l4 m_7 hM hE; exfalso; omega
            | succ n13 ih_n13 =>
              intro l2 l3 l4 σ hm h_l2 h_l3 h_l4 m_7 hM hE
              have hm2_42 : 2000 - l4.toInt < (n13 : Int) + 1 := by omega
              refine H_42 l2 l3 l4 σ ?_
              unfold b_X7keyAllT_42
              generalize ey14 : (2 * l3) = y14
              replace ey14 := ey14.symm
              have ty14 : y14.toInt = 2 * l3.toInt := i3_mulc rfl rfl ey14 (by omega)
              clear ey14
              refine ⟨fun c15 => ?_, fun c15 => ?_⟩
              · unfold b_X7keyAllT_112
                generalize ey16 : (l2 + 1) = y16
                replace ey16 := ey16.symm
                have ty16 : y16.toInt = l2.toInt + 1 := i3_addc rfl rfl ey16 (by omega)
                clear ey16
                exact ih_n3 y16 σ (by omega) (by first | omega | decide) hM hE
              · have f17 : 0 ≤ (σ.1 15).toInt ∧ (σ.1 15).toInt ≤ 1000 := hM.1 15
                refine ⟨fun c18 => ?_, fun c18 => ?_⟩
                · unfold b_X7keyAllT_112
                  generalize ey19 : (l2 + 1) = y19
                  replace ey19 := ey19.symm
                  have ty19 : y19.toInt = l2.toInt + 1 := i3_addc rfl rfl ey19 (by omega)
                  clear ey19
                  exact ih_n3 y19 σ (by omega) (by first | omega | decide) hM hE
                · refine ⟨i3_nz (by omega), ?_⟩
                  generalize ey20 : (l4 / l3) = y20
                  replace ey20 := ey20.symm
                  have ty20 := i3_div2 ey20 (by omega) (by omega) (by omega)
                  clear ey20
                  refine ⟨i3_nz (by omega), ?_⟩
                  generalize ey21 : (l4 - l4 / l3 * l3) = y21
                  replace ey21 := ey21.symm
                  have ty21 := i3_remb ey21 (by omega) (by omega)
                  clear ey21
                  refine rg_X7layT ⟨by omega, by omega⟩ hM (fun σ23 hM24 hE25o => ?_)
                  have hE25 := hE.of hE25o (by decide) (by decide)
                  have u26 : (σ23.1 15).toInt = (σ.1 15).toInt := by rw [hE25o.1 15 (by decide)]
                  refine ⟨⟨by omega, by omega⟩, ?_⟩
                  have hM27 := hM24.slj 54 (σ23.1 15) (((((σ23.1 20)).toInt64) <<< ((10 : Int32).toInt64 &&& 63)) + (((σ23.1 15)).toInt64))
                  have hE28 := hE25.slj 54 (σ23.1 15) (((((σ23.1 20)).toInt64) <<< ((10 : Int32).toInt64 &&& 63)) + (((σ23.1 15)).toInt64))
                  have u29 : ((slj σ23 54 (σ23.1 15) (((((σ23.1 20)).toInt64) <<< ((10 : Int32).toInt64 &&& 63)) + (((σ23.1 15)).toInt64))).1 15).toInt = (σ23.1 15).toInt := rfl
                  generalize ey30 : (((slj σ23 54 (σ23.1 15) (((((σ23.1 20)).toInt64) <<< ((10 : Int32).toInt64 &&& 63)) + (((σ23.1 15)).toInt64))).1 15) + 1) = y30
                  replace ey30 := ey30.symm
                  have ty30 : y30.toInt = ((slj σ23 54 (σ23.1 15) (((((σ23.1 20)).toInt64) <<< ((10 : Int32).toInt64 &&& 63)) + (((σ23.1 15)).toInt64))).1 15).toInt + 1 := i3_addc rfl rfl ey30 (by omega)
                  clear ey30
                  have hM31 := hM27.sf 15 y30 (show 0 ≤ y30.toInt ∧ y30.toInt ≤ 1000 by omega)
                  have hE32 := hE28.sf 15 y30 (by decide)
                  have u33 : ((sf (slj σ23 54 (σ23.1 15) (((((σ23.1 20)).toInt64) <<< ((10 : Int32).toInt64 &&& 63)) + (((σ23.1 15)).toInt64))) 15 y30).1 15).toInt = y30.toInt := rfl
                  generalize ey34 : (l4 + 1) = y34
                  replace ey34 := ey34.symm
                  have ty34 : y34.toInt = l4.toInt + 1 := i3_addc rfl rfl ey34 (by omega)
                  clear ey34
                  exact ih_n13 l2 l3 y34 (sf (slj σ23 54 (σ23.1 15) (((((σ23.1 20)).toInt64) <<< ((10 : Int32).toInt64 &&& 63)) + (((σ23.1 15)).toInt64))) 15 y30) (by omega) (by first | omega | decide) (by first | omega | decide) (by first | omega | decide) (by first | omega | decide) hM31 hE32
          exact L_42_n13 ((2000 - (0 : Int32).toInt).toNat + 1) l2 q12 0 σ7 (by decide) (by first | omega | decide) (by first | omega | decide) (by first | omega | decide) (by first | omega | decide) hM8 hE9
        · refine rg_X7aimFrom ⟨by omega, by omega⟩ hM8 (fun r35 σ36 br35 hM37 hE38o => ?_)
          have hE38 := hE9.of hE38o (by decide) (by decide)
          have u39 : (σ36.1 2).toInt = (σ7.1 2).toInt := by rw [hE38o.1 2 (by decide)]
          unfold b_X7keyAllT_38
          have L_42_n40 : ∀ (n40 : Nat) (l2 : Int32) (l3 : Int32) (l4 : Int32) (σ : VS), 2000 - l4.toInt < (n40 : Int) → 0 ≤ l2.toInt ∧ l2.toInt ≤ 49 → 0 ≤ l3.toInt ∧ l3.toInt ≤ 1000 → 0 ≤ l4.toInt ∧ l4.toInt ≤ 2000 → 50 - l2.toInt < (n3 : Int) + 1 → CI σ → Eo [12, 14, 15, 19, 20, 21] [53, 59, 60, 61, 62] σ0 σ → X42 l2 l3 l4 σ := by
            intro n40
            induction n40 with
            | zero => intro l2 l3 l4 σ hm h_l2 h_l3 h_l4 m_7 hM hE; exfalso; omega
            | succ n40 ih_n40 =>
              intro l2 l3 l4 σ hm h_l2 h_l3 h_l4 m_7 hM hE
              have hm2_42 : 2000 - l4.toInt < (n40 : Int) + 1 := by omega
              refine H_42 l2 l3 l4 σ ?_
              unfold b_X7keyAllT_42
              generalize ey41 : (2 * l3) = y41
              replace ey41 := ey41.symm
              have ty41 : y41.toInt = 2 * l3.toInt := i3_mulc rfl rfl ey41 (by omega)
              clear ey41
              refine ⟨fun c42 => ?_, fun c42 => ?_⟩
              · unfold b_X7keyAllT_112
                generalize ey43 : (l2 + 1) = y43
                replace ey43 := ey43.symm
                have ty43 : y43.toInt = l2.toInt + 1 := i3_addc rfl rfl ey43 (by omega)
                clear ey43
                exact ih_n3 y43 σ (by omega) (by first | omega | decide) hM hE
              · have f44 : 0 ≤ (σ.1 15).toInt ∧ (σ.1 15).toInt ≤ 1000 := hM.1 15
                refine ⟨fun c45 => ?_, fun c45 => ?_⟩
                · unfold b_X7keyAllT_112
                  generalize ey46 : (l2 + 1) = y46
                  replace ey46 := ey46.symm
                  have ty46 : y46.toInt = l2.toInt + 1 := i3_addc rfl rfl ey46 (by omega)
                  clear ey46
                  exact ih_n3 y46 σ (by omega) (by first | omega | decide) hM hE
                · refine ⟨i3_nz (by omega), ?_⟩
                  generalize ey47 : (l4 / l3) = y47
                  replace ey47 := ey47.symm
                  have ty47 := i3_div2 ey47 (by omega) (by omega) (by omega)
                  clear ey47
                  refine ⟨i3_nz (by omega), ?_⟩
                  generalize ey48 : (l4 - l4 / l3 * l3) = y48
                  replace ey48 := ey48.symm
                  have ty48 := i3_remb ey48 (by omega) (by omega)
                  clear ey48
                  refine rg_X7layT ⟨by omega, by omega⟩ hM (fun σ50 hM51 hE52o => ?_)
                  have hE52 := hE.of hE52o (by decide) (by decide)
                  have u53 : (σ50.1 15).toInt = (σ.1 15).toInt := by rw [hE52o.1 15 (by decide)]
                  refine ⟨⟨by omega, by omega⟩, ?_⟩
                  have hM54 := hM51.slj 54 (σ50.1 15) (((((σ50.1 20)).toInt64) <<< ((10 : Int32).toInt64 &&& 63)) + (((σ50.1 15)).toInt64))
                  have hE55 := hE52.slj 54 (σ50.1 15) (((((σ50.1 20)).toInt64) <<< ((10 : Int32).toInt64 &&& 63)) + (((σ50.1 15)).toInt64))
                  have u56 : ((slj σ50 54 (σ50.1 15) (((((σ50.1 20)).toInt64) <<< ((10 : Int32).toInt64 &&& 63)) + (((σ50.1 15)).toInt64))).1 15).toInt = (σ50.1 15).toInt := rfl
                  generalize ey57 : (((slj σ50 54 (σ50.1 15) (((((σ50.1 20)).toInt64) <<< ((10 : Int32).toInt64 &&& 63)) + (((σ50.1 15)).toInt64))).1 15) + 1) = y57
                  replace ey57 := ey57.symm
                  have ty57 : y57.toInt = ((slj σ50 54 (σ50.1 15) (((((σ50.1 20)).toInt64) <<< ((10 : Int32).toInt64 &&& 63)) + (((σ50.1 15)).toInt64))).1 15).toInt + 1 := i3_addc rfl rfl ey57 (by omega)
                  clear ey57
                  have hM58 := hM54.sf 15 y57 (show 0 ≤ y57.toInt ∧ y57.toInt ≤ 1000 by omega)
                  have hE59 := hE55.sf 15 y57 (by decide)
                  have u60 : ((sf (slj σ50 54 (σ50.1 15) (((((σ50.1 20)).toInt64) <<< ((10 : Int32).toInt64 &&& 63)) + (((σ50.1 15)).toInt64))) 15 y57).1 15).toInt = y57.toInt := rfl
                  generalize ey61 : (l4 + 1) = y61
                  replace ey61 := ey61.symm
                  have ty61 : y61.toInt = l4.toInt + 1 := i3_addc rfl rfl ey61 (by omega)
                  clear ey61
                  exact ih_n40 l2 l3 y61 (sf (slj σ50 54 (σ50.1 15) (((((σ50.1 20)).toInt64) <<< ((10 : Int32).toInt64 &&& 63)) + (((σ50.1 15)).toInt64))) 15 y57) (by omega) (by first | omega | decide) (by first | omega | decide) (by first | omega | decide) (by first | omega | decide) hM58 hE59
          exact L_42_n40 ((2000 - (0 : Int32).toInt).toNat + 1) l2 r35 0 σ36 (by decide) (by first | omega | decide) (by first | omega | decide) (by first | omega | decide) (by first | omega | decide) hM37 hE38
  exact L_7_n3 ((50 - (0 : Int32).toInt).toNat + 1) 0 (sf σ 15 0) (by decide) (by first | omega | decide) hM1 hE2
set_option maxHeartbeats 2000000 in
theorem rg_X7layNumberT {Q : VS → Prop} {p1 : Int32} {σ : VS} (h_p1 : 0 ≤ p1.toInt ∧ p1.toInt ≤ 1023) (hM : CI σ) (hq : ∀ (σ' : VS), CI σ' → Eo [12, 14, 19, 20, 21] [53, 59, 60, 61, 62] σ σ' → Q σ') : wp_X7layNumberT Q p1 σ := by
  unfold wp_X7layNumberT
  intro X5 H_5
  have hE : Eo [12, 14, 19, 20, 21] [53, 59, 60, 61, 62] σ σ := Eo.rfl
  obtain ⟨σ0, h0⟩ : ∃ z : VS, z = σ := ⟨_, rfl⟩
  rw [← h0] at hq
  replace hE : Eo [12, 14, 19, 20, 21] [53, 59, 60, 61, 62] σ0 σ := by rw [h0]; exact hE
  clear h0
  have L_5_n1 : ∀ (n1 : Nat) (l3 : Int32) (l4 : Int32) (σ : VS), 50 - l4.toInt < (n1 : Int) → 0 ≤ l3.toInt ∧ l3.toInt ≤ 1023 → 0 ≤ l4.toInt ∧ l4.toInt ≤ 50 → CI σ → Eo [12, 14, 19, 20, 21] [53, 59, 60, 61, 62] σ0 σ → X5 l3 l4 σ := by
    intro n1
    induction n1 with
    | zero => intro l3 l4 σ hm h_l3 h_l4 hM hE; exfalso; omega
    | succ n1 ih_n1 =>
      intro l3 l4 σ hm h_l3 h_l4 hM hE
      have hm2_5 : 50 - l4.toInt < (n1 : Int) + 1 := by omega
      refine H_5 l3 l4 σ ?_
      unfold b_X7layNumberT_5
      have f2 : 0 ≤ (σ.1 2).toInt ∧ (σ.1 2).toInt ≤ 50 := hM.1 2
      refine ⟨fun c3 => ?_, fun c3 => ?_⟩
      · exact hq σ hM hE
      · refine rg_X1isStart ⟨by omega, by omega⟩ hM (fun r4 σ5 br4 hM6 hE7o => ?_)
        have hE7 := hE.of hE7o (by decide) (by decide)
        have u8 : (σ5.1 2).toInt = (σ.1 2).toInt := by rw [hE7o.1 2 (by decide)]
        refine ⟨fun c9 => ?_, fun c9 => ?_⟩
        · suffices hs : ∀ (q10 : Int32), q10.toInt = 0 → b_X7layNumberT_39 X5 Q l3 l4 q10 σ5 from hs 0 rfl
          intro q10 hq10
          unfold b_X7layNumberT_39
          generalize ey11 : (2 * q10) = y11
          replace ey11 := ey11.symm
          have ty11 : y11.toInt = 2 * q10.toInt := i3_mulc rfl rfl ey11 (by omega)
          clear ey11
          refine ⟨fun c12 => ?_, fun c12 => ?_⟩
          · generalize ey13 : (l3 - y11) = y13
            replace ey13 := ey13.symm
            have ty13 : y13.toInt = l3.toInt - y11.toInt := i3_subc rfl rfl ey13 (by omega)
            clear ey13
            intro x14 ex14
            have ix14 : x14.toInt = y13.toInt := by rw [ex14]
            generalize ey15 : (l4 + 1) = y15
            replace ey15 := ey15.symm
            have ty15 : y15.toInt = l4.toInt + 1 := i3_addc rfl rfl ey15 (by omega)
            clear ey15
            exact ih_n1 x14 y15 σ5 (by omega) (by first | omega | decide) (by first | omega | decide) hM6 hE7
          · exfalso; omega
        · refine rg_X7aimFrom ⟨by omega, by omega⟩ hM6 (fun r16 σ17 br16 hM18 hE19o => ?_)
          have hE19 := hE7.of hE19o (by decide) (by decide)
          have u20 : (σ17.1 2).toInt = (σ5.1 2).toInt := by rw [hE19o.1 2 (by decide)]
          unfold b_X7layNumberT_39
          generalize ey21 : (2 * r16) = y21
          replace ey21 := ey21.symm
          have ty21 : y21.toInt = 2 * r16.toInt := i3_mulc rfl rfl ey21 (by omega)
          clear ey21
          refine ⟨fun c22 => ?_, fun c22 => ?_⟩
          · generalize ey23 : (l3 - y21) = y23
            replace ey23 := ey23.symm
            have ty23 : y23.toInt = l3.toInt - y21.toInt := i3_subc rfl rfl ey23 (by omega)
            clear ey23
            intro x24 ex24
            have ix24 : x24.toInt = y23.toInt := by rw [ex24]
            generalize ey25 : (l4 + 1) = y25
            replace ey25 := ey25.symm
            have ty25 : y25.toInt = l4.toInt + 1 := i3_addc rfl rfl ey25 (by omega)
            clear ey25
            exact ih_n1 x24 y25 σ17 (by omega) (by first | omega | decide) (by first | omega | decide) hM18 hE19
          · refine ⟨i3_nz (by omega), ?_⟩
            generalize ey26 : (l3 / r16) = y26
            replace ey26 := ey26.symm
            have ty26 := i3_div2 ey26 (by omega) (by omega) (by omega)
            clear ey26
            refine ⟨i3_nz (by omega), ?_⟩
            generalize ey27 : (l3 - l3 / r16 * r16) = y27
            replace ey27 := ey27.symm
            have ty27 := i3_remb ey27 (by omega) (by omega)
            clear ey27
            refine rg_X7layT ⟨by omega, by omega⟩ hM18 (fun σ29 hM30 hE31o => ?_)
            have hE31 := hE19.of hE31o (by decide) (by decide)
            have u32 : (σ29.1 2).toInt = (σ17.1 2).toInt := by rw [hE31o.1 2 (by decide)]
            exact hq σ29 hM30 hE31
  exact L_5_n1 ((50 - (0 : Int32).toInt).toNat + 1) p1 0 σ (by decide) (by first | omega | decide) (by first | omega | decide) hM hE
set_option maxHeartbeats 2000000 in
theorem rg_X7traceT {Q : VS → Prop} {p1 : Int32} {p2 : Int32} {σ : VS} (h_p1 : 0 ≤ p1.toInt ∧ p1.toInt ≤ 49) (hM : CI σ) (hq : ∀ (σ' : VS), CI σ' → Eo [11, 12, 13, 14, 15, 19, 20, 21] [53, 59, 60, 61, 62] σ σ' → Q σ') : wp_X7traceT Q p1 p2 σ := by
  unfold wp_X7traceT
  have hE : Eo [11, 12, 13, 14, 15, 19, 20, 21] [53, 59, 60, 61, 62] σ σ := Eo.rfl
  refine rg_X3masks hM (fun r1 σ2 br1 hM3 hE4o => ?_)
  have hE4 := hE.of hE4o (by decide) (by decide)
  have hM5 := hM3.sf 11 r1 (show 1 ≤ r1.toInt ∧ r1.toInt ≤ 16 by omega)
  have hE6 := hE4.sf 11 r1 (by decide)
  have hM7 := hM5.sf 13 p1 (show 0 ≤ p1.toInt ∧ p1.toInt ≤ 49 by omega)
  have hE8 := hE6.sf 13 p1 (by decide)
  refine rg_X7keyAllT hM7 (fun σ10 hM11 hE12o => ?_)
  have hE12 := hE8.of hE12o (by decide) (by decide)
  refine rg_X7sortKeys hM11 (fun σ14 hM15 hE16o => ?_)
  have hE16 := hE12.of hE16o (by decide) (by decide)
  refine ⟨fun c17 => ?_, fun c17 => ?_⟩
  · unfold b_X7traceT_53
    exact hq σ14 hM15 hE16
  · have f18 : 0 ≤ (σ14.1 15).toInt ∧ (σ14.1 15).toInt ≤ 1000 := hM15.1 15
    refine ⟨fun c19 => ?_, fun c19 => ?_⟩
    · unfold b_X7traceT_53
      exact hq σ14 hM15 hE16
    · refine ⟨⟨by omega, by omega⟩, ?_⟩
      have gl20 : 0 ≤ (((rdj σ14 54 p2) &&& (1023 : Int64))).toInt32.toInt ∧ (((rdj σ14 54 p2) &&& (1023 : Int64))).toInt32.toInt ≤ 1023 := l6_and rfl
      refine rg_X7layNumberT ⟨by omega, by omega⟩ hM15 (fun σ22 hM23 hE24o => ?_)
      have hE24 := hE16.of hE24o (by decide) (by decide)
      have u25 : (σ22.1 15).toInt = (σ14.1 15).toInt := by rw [hE24o.1 15 (by decide)]
      unfold b_X7traceT_53
      exact hq σ22 hM23 hE24
