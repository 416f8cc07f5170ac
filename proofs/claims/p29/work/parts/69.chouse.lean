set_option maxHeartbeats 2000000 in
theorem rg_X9within {Q : Int32 → VS → Prop} {p1 : Int32} {p2 : Int32} {p3 : Int32} {σ : VS} (hM : CI σ) (hq : ∀ (r : Int32) (σ' : VS), 0 ≤ r.toInt ∧ r.toInt ≤ 1 → (r.toInt ≠ 0 → p2.toInt ≤ p1.toInt ∧ p1.toInt ≤ p3.toInt) → CI σ' → Eo [] [] σ σ' → Q r σ') : wp_X9within Q p1 p2 p3 σ := by
  unfold wp_X9within
  have hE : Eo [] [] σ σ := Eo.rfl
  refine ⟨fun c1 => ?_, fun c1 => ?_⟩
  · unfold b_X9within_14
    suffices hs : ∀ (q2 : Int32), q2.toInt = 0 → b_X9within_15 Q q2 σ from hs 0 rfl
    intro q2 hq2
    unfold b_X9within_15
    refine ⟨⟨by omega, by omega⟩, ?_⟩
    exact hq q2 σ ⟨by omega, by omega⟩ (by intro h9; omega) hM hE
  · refine ⟨fun c3 => ?_, fun c3 => ?_⟩
    · unfold b_X9within_14
      suffices hs : ∀ (q4 : Int32), q4.toInt = 0 → b_X9within_15 Q q4 σ from hs 0 rfl
      intro q4 hq4
      unfold b_X9within_15
      refine ⟨⟨by omega, by omega⟩, ?_⟩
      exact hq q4 σ ⟨by omega, by omega⟩ (by intro h9; omega) hM hE
    · suffices hs : ∀ (q5 : Int32), q5.toInt = 1 → b_X9within_15 Q q5 σ from hs 1 rfl
      intro q5 hq5
      unfold b_X9within_15
      refine ⟨⟨by omega, by omega⟩, ?_⟩
      exact hq q5 σ ⟨by omega, by omega⟩ (by intro h9; omega) hM hE
set_option maxHeartbeats 2000000 in
theorem rg_X9forget {Q : VS → Prop} {σ : VS} (hM : CI σ) (hq : ∀ (σ' : VS), CI σ' → Eo [0, 1] [] σ σ' → Q σ') : wp_X9forget Q σ := by
  unfold wp_X9forget
  have hE : Eo [0, 1] [] σ σ := Eo.rfl
  have hM1 := hM.sf 0 0 (show 0 ≤ (0 : Int32).toInt ∧ (0 : Int32).toInt ≤ 1 by decide)
  have hE2 := hE.sf 0 0 (by decide)
  have hM3 := hM1.sf 1 0 (show 0 ≤ (0 : Int32).toInt ∧ (0 : Int32).toInt ≤ 1 by decide)
  have hE4 := hE2.sf 1 0 (by decide)
  exact hq (sf (sf σ 0 0) 1 0) hM3 hE4
set_option maxHeartbeats 2000000 in
theorem rg_X9extra {Q : Int32 → VS → Prop} {p1 : Int32} {p2 : Int32} {σ : VS} (hM : CI σ) (hq : ∀ (r : Int32) (σ' : VS), CI σ' → Eo [0, 1] [15] σ σ' → Q r σ') : wp_X9extra Q p1 p2 σ := by
  unfold wp_X9extra
  have hE : Eo [0, 1] [15] σ σ := Eo.rfl
  have bd1 := i3_bd p1
  refine rg_X1has hM (fun r2 σ3 br2 ir2 hM4 hE5o => ?_)
  have hE5 := hE.of hE5o (by decide) (by decide)
  have f6 : 0 ≤ (σ.1 2).toInt ∧ (σ.1 2).toInt ≤ 50 := hM.1 2
  have u7 : (σ3.1 2).toInt = (σ.1 2).toInt := by rw [hE5o.1 2 (by decide)]
  refine ⟨fun c8 => ?_, fun c8 => ?_⟩
  · unfold b_X9extra_22
    exact hq (-1) σ3 hM4 hE5
  · have fc8 : 0 ≤ p1.toInt ∧ p1.toInt < (σ.1 2).toInt := ir2 c8
    have bd9 := i3_bd p2
    refine rg_X9within hM4 (fun r10 σ11 br10 ir10 hM12 hE13o => ?_)
    have hE13 := hE5.of hE13o (by decide) (by decide)
    have u14 : (σ11.1 2).toInt = (σ3.1 2).toInt := by rw [hE13o.1 2 (by decide)]
    refine ⟨fun c15 => ?_, fun c15 => ?_⟩
    · have fc15 : 0 ≤ p2.toInt ∧ p2.toInt ≤ 1000 := ir10 c15
      refine ⟨⟨by omega, by omega⟩, ?_⟩
      have a16 : 0 ≤ (rd σ11 11 p1).toInt ∧ (rd σ11 11 p1).toInt ≤ 5 := hM12.2 11 _
      refine ⟨fun c17 => ?_, fun c17 => ?_⟩
      · refine ⟨⟨by omega, by omega⟩, ?_⟩
        have a18 : 0 ≤ (rd σ11 15 p1).toInt ∧ (rd σ11 15 p1).toInt ≤ 1000 := hM12.2 15 _
        intro x19 ex19
        have ix19 : x19.toInt = (rd σ11 15 p1).toInt := by rw [ex19]
        refine ⟨⟨by omega, by omega⟩, ?_⟩
        have hM20 := hM12.sa 15 p1 p2 (show 0 ≤ p2.toInt ∧ p2.toInt ≤ 1000 by omega)
        have hE21 := hE13.sa 15 p1 p2 (by decide)
        have u22 : ((sa σ11 15 p1 p2).1 2).toInt = (σ11.1 2).toInt := rfl
        have w23 : (rd (sa σ11 15 p1 p2) 15 p1).toInt = p2.toInt := by rw [rd_sa]
        refine rg_X9forget hM20 (fun σ25 hM26 hE27o => ?_)
        have hE27 := hE21.of hE27o (by decide) (by decide)
        have u28 : (σ25.1 2).toInt = ((sa σ11 15 p1 p2).1 2).toInt := by rw [hE27o.1 2 (by decide)]
        have u29 : (rd σ25 15 p1).toInt = (rd (sa σ11 15 p1 p2) 15 p1).toInt := by unfold rd; rw [hE27o.2 15 (by decide)]
        exact hq x19 σ25 hM26 hE27
      · exact hq (-2) σ11 hM12 hE13
    · unfold b_X9extra_22
      exact hq (-1) σ11 hM12 hE13
set_option maxHeartbeats 2000000 in
theorem rg_X9port {Q : Int32 → VS → Prop} {p1 : Int32} {p2 : Int32} {p3 : Int32} {p4 : Int32} {σ : VS} (hM : CI σ) (hq : ∀ (r : Int32) (σ' : VS), CI σ' → Eo [0, 1] [22, 23, 24] σ σ' → Q r σ') : wp_X9port Q p1 p2 p3 p4 σ := by
  unfold wp_X9port
  have hE : Eo [0, 1] [22, 23, 24] σ σ := Eo.rfl
  have bd1 := i3_bd p1
  refine rg_X1has hM (fun r2 σ3 br2 ir2 hM4 hE5o => ?_)
  have hE5 := hE.of hE5o (by decide) (by decide)
  have f6 : 0 ≤ (σ.1 2).toInt ∧ (σ.1 2).toInt ≤ 50 := hM.1 2
  have u7 : (σ3.1 2).toInt = (σ.1 2).toInt := by rw [hE5o.1 2 (by decide)]
  refine ⟨fun c8 => ?_, fun c8 => ?_⟩
  · unfold b_X9port_42
    exact hq (-1) σ3 hM4 hE5
  · have fc8 : 0 ≤ p1.toInt ∧ p1.toInt < (σ.1 2).toInt := ir2 c8
    have bd9 := i3_bd p2
    refine rg_X9within hM4 (fun r10 σ11 br10 ir10 hM12 hE13o => ?_)
    have hE13 := hE5.of hE13o (by decide) (by decide)
    have u14 : (σ11.1 2).toInt = (σ3.1 2).toInt := by rw [hE13o.1 2 (by decide)]
    refine ⟨fun c15 => ?_, fun c15 => ?_⟩
    · unfold b_X9port_42
      exact hq (-1) σ11 hM12 hE13
    · have fc15 : 0 ≤ p2.toInt ∧ p2.toInt ≤ 100000 := ir10 c15
      have bd16 := i3_bd p3
      refine rg_X9within hM12 (fun r17 σ18 br17 ir17 hM19 hE20o => ?_)
      have hE20 := hE13.of hE20o (by decide) (by decide)
      have u21 : (σ18.1 2).toInt = (σ11.1 2).toInt := by rw [hE20o.1 2 (by decide)]
      refine ⟨fun c22 => ?_, fun c22 => ?_⟩
      · unfold b_X9port_42
        exact hq (-1) σ18 hM19 hE20
      · have fc22 : 0 ≤ p3.toInt ∧ p3.toInt ≤ 100000 := ir17 c22
        have bd23 := i3_bd p4
        refine rg_X9within hM19 (fun r24 σ25 br24 ir24 hM26 hE27o => ?_)
        have hE27 := hE20.of hE27o (by decide) (by decide)
        have u28 : (σ25.1 2).toInt = (σ18.1 2).toInt := by rw [hE27o.1 2 (by decide)]
        refine ⟨fun c29 => ?_, fun c29 => ?_⟩
        · have fc29 : 0 ≤ p4.toInt ∧ p4.toInt ≤ 100000 := ir24 c29
          refine ⟨⟨by omega, by omega⟩, ?_⟩
          have a30 : 0 ≤ (rd σ25 11 p1).toInt ∧ (rd σ25 11 p1).toInt ≤ 5 := hM26.2 11 _
          refine ⟨fun c31 => ?_, fun c31 => ?_⟩
          · refine ⟨⟨by omega, by omega⟩, ?_⟩
            have hM32 := hM26.sa 22 p1 p2 (show 0 ≤ p2.toInt ∧ p2.toInt ≤ 100000 by omega)
            have hE33 := hE27.sa 22 p1 p2 (by decide)
            have u34 : ((sa σ25 22 p1 p2).1 2).toInt = (σ25.1 2).toInt := rfl
            have w35 : (rd (sa σ25 22 p1 p2) 22 p1).toInt = p2.toInt := by rw [rd_sa]
            refine ⟨⟨by omega, by omega⟩, ?_⟩
            have hM36 := hM32.sa 23 p1 p3 (show 0 ≤ p3.toInt ∧ p3.toInt ≤ 100000 by omega)
            have hE37 := hE33.sa 23 p1 p3 (by decide)
            have u38 : ((sa (sa σ25 22 p1 p2) 23 p1 p3).1 2).toInt = ((sa σ25 22 p1 p2).1 2).toInt := rfl
            have w39 : (rd (sa (sa σ25 22 p1 p2) 23 p1 p3) 23 p1).toInt = p3.toInt := by rw [rd_sa]
            refine ⟨⟨by omega, by omega⟩, ?_⟩
            have hM40 := hM36.sa 24 p1 p4 (show 0 ≤ p4.toInt ∧ p4.toInt ≤ 100000 by omega)
            have hE41 := hE37.sa 24 p1 p4 (by decide)
            have u42 : ((sa (sa (sa σ25 22 p1 p2) 23 p1 p3) 24 p1 p4).1 2).toInt = ((sa (sa σ25 22 p1 p2) 23 p1 p3).1 2).toInt := rfl
            have w43 : (rd (sa (sa (sa σ25 22 p1 p2) 23 p1 p3) 24 p1 p4) 24 p1).toInt = p4.toInt := by rw [rd_sa]
            refine rg_X9forget hM40 (fun σ45 hM46 hE47o => ?_)
            have hE47 := hE41.of hE47o (by decide) (by decide)
            have u48 : (σ45.1 2).toInt = ((sa (sa (sa σ25 22 p1 p2) 23 p1 p3) 24 p1 p4).1 2).toInt := by rw [hE47o.1 2 (by decide)]
            exact hq 0 σ45 hM46 hE47
          · exact hq (-2) σ25 hM26 hE27
        · unfold b_X9port_42
          exact hq (-1) σ25 hM26 hE27
set_option maxHeartbeats 2000000 in
theorem rg_X9target {Q : Int32 → VS → Prop} {p1 : Int32} {p2 : Int32} {p3 : Int32} {p4 : Int32} {σ : VS} (hM : CI σ) (hq : ∀ (r : Int32) (σ' : VS), CI σ' → Eo [0, 1] [25, 26, 27] σ σ' → Q r σ') : wp_X9target Q p1 p2 p3 p4 σ := by
  unfold wp_X9target
  have hE : Eo [0, 1] [25, 26, 27] σ σ := Eo.rfl
  have bd1 := i3_bd p1
  refine rg_X1has hM (fun r2 σ3 br2 ir2 hM4 hE5o => ?_)
  have hE5 := hE.of hE5o (by decide) (by decide)
  have f6 : 0 ≤ (σ.1 2).toInt ∧ (σ.1 2).toInt ≤ 50 := hM.1 2
  have u7 : (σ3.1 2).toInt = (σ.1 2).toInt := by rw [hE5o.1 2 (by decide)]
  refine ⟨fun c8 => ?_, fun c8 => ?_⟩
  · unfold b_X9target_49
    exact hq (-1) σ3 hM4 hE5
  · have fc8 : 0 ≤ p1.toInt ∧ p1.toInt < (σ.1 2).toInt := ir2 c8
    have bd9 := i3_bd p2
    refine rg_X0hasOrRoot hM4 (fun r10 σ11 br10 ir10 hM12 hE13o => ?_)
    have hE13 := hE5.of hE13o (by decide) (by decide)
    have f14 : 0 ≤ (σ3.1 5).toInt ∧ (σ3.1 5).toInt ≤ 20 := hM4.1 5
    have u15 : (σ11.1 2).toInt = (σ3.1 2).toInt := by rw [hE13o.1 2 (by decide)]
    have u16 : (σ11.1 5).toInt = (σ3.1 5).toInt := by rw [hE13o.1 5 (by decide)]
    refine ⟨fun c17 => ?_, fun c17 => ?_⟩
    · unfold b_X9target_49
      exact hq (-1) σ11 hM12 hE13
    · have fc17 : (-1) ≤ p2.toInt ∧ p2.toInt < (σ3.1 5).toInt := ir10 c17
      have bd18 := i3_bd p3
      refine rg_X9within hM12 (fun r19 σ20 br19 ir19 hM21 hE22o => ?_)
      have hE22 := hE13.of hE22o (by decide) (by decide)
      have u23 : (σ20.1 2).toInt = (σ11.1 2).toInt := by rw [hE22o.1 2 (by decide)]
      have u24 : (σ20.1 5).toInt = (σ11.1 5).toInt := by rw [hE22o.1 5 (by decide)]
      refine ⟨fun c25 => ?_, fun c25 => ?_⟩
      · unfold b_X9target_49
        exact hq (-1) σ20 hM21 hE22
      · have fc25 : (-10000) ≤ p3.toInt ∧ p3.toInt ≤ 10000 := ir19 c25
        have bd26 := i3_bd p4
        refine rg_X9within hM21 (fun r27 σ28 br27 ir27 hM29 hE30o => ?_)
        have hE30 := hE22.of hE30o (by decide) (by decide)
        have u31 : (σ28.1 2).toInt = (σ20.1 2).toInt := by rw [hE30o.1 2 (by decide)]
        have u32 : (σ28.1 5).toInt = (σ20.1 5).toInt := by rw [hE30o.1 5 (by decide)]
        refine ⟨fun c33 => ?_, fun c33 => ?_⟩
        · have fc33 : (-10000) ≤ p4.toInt ∧ p4.toInt ≤ 10000 := ir27 c33
          refine ⟨⟨by omega, by omega⟩, ?_⟩
          have a34 : 0 ≤ (rd σ28 11 p1).toInt ∧ (rd σ28 11 p1).toInt ≤ 5 := hM29.2 11 _
          refine ⟨fun c35 => ?_, fun c35 => ?_⟩
          · unfold b_X9target_71
            refine rg_X1isTarget ⟨by omega, by omega⟩ hM29 (fun r36 σ37 br36 hM38 hE39o => ?_)
            have hE39 := hE30.of hE39o (by decide) (by decide)
            have u40 : (σ37.1 2).toInt = (σ28.1 2).toInt := by rw [hE39o.1 2 (by decide)]
            have u41 : (σ37.1 5).toInt = (σ28.1 5).toInt := by rw [hE39o.1 5 (by decide)]
            have u42 : (rd σ37 11 p1).toInt = (rd σ28 11 p1).toInt := by unfold rd; rw [hE39o.2 11 (by decide)]
            refine ⟨fun c43 => ?_, fun c43 => ?_⟩
            · refine ⟨⟨by omega, by omega⟩, ?_⟩
              have hM44 := hM38.sa 25 p1 p2 (show (-1) ≤ p2.toInt ∧ p2.toInt ≤ 19 by omega)
              have hE45 := hE39.sa 25 p1 p2 (by decide)
              have u46 : ((sa σ37 25 p1 p2).1 2).toInt = (σ37.1 2).toInt := rfl
              have u47 : ((sa σ37 25 p1 p2).1 5).toInt = (σ37.1 5).toInt := rfl
              have w48 : (rd (sa σ37 25 p1 p2) 25 p1).toInt = p2.toInt := by rw [rd_sa]
              refine ⟨⟨by omega, by omega⟩, ?_⟩
              have hM49 := hM44.sa 26 p1 p3 (show (-10000) ≤ p3.toInt ∧ p3.toInt ≤ 10000 by omega)
              have hE50 := hE45.sa 26 p1 p3 (by decide)
              have u51 : ((sa (sa σ37 25 p1 p2) 26 p1 p3).1 2).toInt = ((sa σ37 25 p1 p2).1 2).toInt := rfl
              have u52 : ((sa (sa σ37 25 p1 p2) 26 p1 p3).1 5).toInt = ((sa σ37 25 p1 p2).1 5).toInt := rfl
              have w53 : (rd (sa (sa σ37 25 p1 p2) 26 p1 p3) 26 p1).toInt = p3.toInt := by rw [rd_sa]
              refine ⟨⟨by omega, by omega⟩, ?_⟩
              have hM54 := hM49.sa 27 p1 p4 (show (-10000) ≤ p4.toInt ∧ p4.toInt ≤ 10000 by omega)
              have hE55 := hE50.sa 27 p1 p4 (by decide)
              have u56 : ((sa (sa (sa σ37 25 p1 p2) 26 p1 p3) 27 p1 p4).1 2).toInt = ((sa (sa σ37 25 p1 p2) 26 p1 p3).1 2).toInt := rfl
              have u57 : ((sa (sa (sa σ37 25 p1 p2) 26 p1 p3) 27 p1 p4).1 5).toInt = ((sa (sa σ37 25 p1 p2) 26 p1 p3).1 5).toInt := rfl
              have w58 : (rd (sa (sa (sa σ37 25 p1 p2) 26 p1 p3) 27 p1 p4) 27 p1).toInt = p4.toInt := by rw [rd_sa]
              refine rg_X9forget hM54 (fun σ60 hM61 hE62o => ?_)
              have hE62 := hE55.of hE62o (by decide) (by decide)
              have u63 : (σ60.1 2).toInt = ((sa (sa (sa σ37 25 p1 p2) 26 p1 p3) 27 p1 p4).1 2).toInt := by rw [hE62o.1 2 (by decide)]
              have u64 : (σ60.1 5).toInt = ((sa (sa (sa σ37 25 p1 p2) 26 p1 p3) 27 p1 p4).1 5).toInt := by rw [hE62o.1 5 (by decide)]
              exact hq 0 σ60 hM61 hE62
            · exact hq (-2) σ37 hM38 hE39
          · refine ⟨fun c65 => ?_, fun c65 => ?_⟩
            · unfold b_X9target_71
              refine rg_X1isTarget ⟨by omega, by omega⟩ hM29 (fun r66 σ67 br66 hM68 hE69o => ?_)
              have hE69 := hE30.of hE69o (by decide) (by decide)
              have u70 : (σ67.1 2).toInt = (σ28.1 2).toInt := by rw [hE69o.1 2 (by decide)]
              have u71 : (σ67.1 5).toInt = (σ28.1 5).toInt := by rw [hE69o.1 5 (by decide)]
              have u72 : (rd σ67 11 p1).toInt = (rd σ28 11 p1).toInt := by unfold rd; rw [hE69o.2 11 (by decide)]
              refine ⟨fun c73 => ?_, fun c73 => ?_⟩
              · refine ⟨⟨by omega, by omega⟩, ?_⟩
                have hM74 := hM68.sa 25 p1 p2 (show (-1) ≤ p2.toInt ∧ p2.toInt ≤ 19 by omega)
                have hE75 := hE69.sa 25 p1 p2 (by decide)
                have u76 : ((sa σ67 25 p1 p2).1 2).toInt = (σ67.1 2).toInt := rfl
                have u77 : ((sa σ67 25 p1 p2).1 5).toInt = (σ67.1 5).toInt := rfl
                have w78 : (rd (sa σ67 25 p1 p2) 25 p1).toInt = p2.toInt := by rw [rd_sa]
                refine ⟨⟨by omega, by omega⟩, ?_⟩
                have hM79 := hM74.sa 26 p1 p3 (show (-10000) ≤ p3.toInt ∧ p3.toInt ≤ 10000 by omega)
                have hE80 := hE75.sa 26 p1 p3 (by decide)
                have u81 : ((sa (sa σ67 25 p1 p2) 26 p1 p3).1 2).toInt = ((sa σ67 25 p1 p2).1 2).toInt := rfl
                have u82 : ((sa (sa σ67 25 p1 p2) 26 p1 p3).1 5).toInt = ((sa σ67 25 p1 p2).1 5).toInt := rfl
                have w83 : (rd (sa (sa σ67 25 p1 p2) 26 p1 p3) 26 p1).toInt = p3.toInt := by rw [rd_sa]
                refine ⟨⟨by omega, by omega⟩, ?_⟩
                have hM84 := hM79.sa 27 p1 p4 (show (-10000) ≤ p4.toInt ∧ p4.toInt ≤ 10000 by omega)
                have hE85 := hE80.sa 27 p1 p4 (by decide)
                have u86 : ((sa (sa (sa σ67 25 p1 p2) 26 p1 p3) 27 p1 p4).1 2).toInt = ((sa (sa σ67 25 p1 p2) 26 p1 p3).1 2).toInt := rfl
                have u87 : ((sa (sa (sa σ67 25 p1 p2) 26 p1 p3) 27 p1 p4).1 5).toInt = ((sa (sa σ67 25 p1 p2) 26 p1 p3).1 5).toInt := rfl
                have w88 : (rd (sa (sa (sa σ67 25 p1 p2) 26 p1 p3) 27 p1 p4) 27 p1).toInt = p4.toInt := by rw [rd_sa]
                refine rg_X9forget hM84 (fun σ90 hM91 hE92o => ?_)
                have hE92 := hE85.of hE92o (by decide) (by decide)
                have u93 : (σ90.1 2).toInt = ((sa (sa (sa σ67 25 p1 p2) 26 p1 p3) 27 p1 p4).1 2).toInt := by rw [hE92o.1 2 (by decide)]
                have u94 : (σ90.1 5).toInt = ((sa (sa (sa σ67 25 p1 p2) 26 p1 p3) 27 p1 p4).1 5).toInt := by rw [hE92o.1 5 (by decide)]
                exact hq 0 σ90 hM91 hE92
              · exact hq (-2) σ67 hM68 hE69
            · exact hq (-1) σ28 hM29 hE30
        · unfold b_X9target_49
          exact hq (-1) σ28 hM29 hE30
set_option maxHeartbeats 2000000 in
theorem rg_X9entry {Q : Int32 → VS → Prop} {p1 : Int32} {p2 : Int32} {p3 : Int32} {p4 : Int32} {p5 : Int32} {σ : VS} (hM : CI σ) (hq : ∀ (r : Int32) (σ' : VS), CI σ' → Eo [0, 1] [36] σ σ' → Q r σ') : wp_X9entry Q p1 p2 p3 p4 p5 σ := by
  unfold wp_X9entry
  have hE : Eo [0, 1] [36] σ σ := Eo.rfl
  have bd1 := i3_bd p1
  have bd2 := i3_bd p2
  have bd3 := i3_bd p3
  refine rg_X5hasRow hM (fun r4 σ5 br4 ir4 hM6 hE7o => ?_)
  have hE7 := hE.of hE7o (by decide) (by decide)
  refine ⟨fun c8 => ?_, fun c8 => ?_⟩
  · unfold b_X9entry_31
    exact hq (-1) σ5 hM6 hE7
  · have fc8 : 0 ≤ p1.toInt ∧ p1.toInt ≤ 7 ∧ 0 ≤ p2.toInt ∧ p2.toInt ≤ 1 ∧ 0 ≤ p3.toInt ∧ p3.toInt ≤ 3 := ir4 c8
    have bd9 := i3_bd p4
    refine rg_X9within hM6 (fun r10 σ11 br10 ir10 hM12 hE13o => ?_)
    have hE13 := hE7.of hE13o (by decide) (by decide)
    refine ⟨fun c14 => ?_, fun c14 => ?_⟩
    · unfold b_X9entry_31
      exact hq (-1) σ11 hM12 hE13
    · have fc14 : 0 ≤ p4.toInt ∧ p4.toInt ≤ 2 := ir10 c14
      have bd15 := i3_bd p5
      refine rg_X9within hM12 (fun r16 σ17 br16 ir16 hM18 hE19o => ?_)
      have hE19 := hE13.of hE19o (by decide) (by decide)
      refine ⟨fun c20 => ?_, fun c20 => ?_⟩
      · have fc20 : 0 ≤ p5.toInt ∧ p5.toInt ≤ 3000 := ir16 c20
        refine rg_X5rowPlace ⟨by omega, by omega⟩ ⟨by omega, by omega⟩ ⟨by omega, by omega⟩ hM18 (fun r21 σ22 br21 hM23 hE24o => ?_)
        have hE24 := hE19.of hE24o (by decide) (by decide)
        refine rg_X5whyAbsent ⟨by omega, by omega⟩ hM23 (fun r25 σ26 br25 hM27 hE28o => ?_)
        have hE28 := hE24.of hE28o (by decide) (by decide)
        refine ⟨fun c29 => ?_, fun c29 => ?_⟩
        · generalize ey30 : (r21 * 3) = y30
          replace ey30 := ey30.symm
          have ty30 : y30.toInt = r21.toInt * 3 := i3_mulc rfl rfl ey30 (by omega)
          clear ey30
          generalize ey31 : (y30 + p4) = y31
          replace ey31 := ey31.symm
          have ty31 : y31.toInt = y30.toInt + p4.toInt := i3_addc rfl rfl ey31 (by omega)
          clear ey31
          refine ⟨⟨by omega, by omega⟩, ?_⟩
          have a32 : 0 ≤ (rd σ26 36 y31).toInt ∧ (rd σ26 36 y31).toInt ≤ 3000 := hM27.2 36 _
          intro x33 ex33
          have ix33 : x33.toInt = (rd σ26 36 y31).toInt := by rw [ex33]
          refine ⟨⟨by omega, by omega⟩, ?_⟩
          have hM34 := hM27.sa 36 y31 p5 (show 0 ≤ p5.toInt ∧ p5.toInt ≤ 3000 by omega)
          have hE35 := hE28.sa 36 y31 p5 (by decide)
          have w36 : (rd (sa σ26 36 y31 p5) 36 y31).toInt = p5.toInt := by rw [rd_sa]
          refine rg_X9forget hM34 (fun σ38 hM39 hE40o => ?_)
          have hE40 := hE35.of hE40o (by decide) (by decide)
          have u41 : (rd σ38 36 y31).toInt = (rd (sa σ26 36 y31 p5) 36 y31).toInt := by unfold rd; rw [hE40o.2 36 (by decide)]
          exact hq x33 σ38 hM39 hE40
        · exact hq r25 σ26 hM27 hE28
      · unfold b_X9entry_31
        exact hq (-1) σ17 hM18 hE19
set_option maxHeartbeats 2000000 in
theorem rg_X9tear {Q : Int32 → VS → Prop} {p1 : Int32} {p2 : Int32} {p3 : Int32} {p4 : Int32} {σ : VS} (hM : CI σ) (hq : ∀ (r : Int32) (σ' : VS), CI σ' → Eo [0, 1] [36, 37] σ σ' → Q r σ') : wp_X9tear Q p1 p2 p3 p4 σ := by
  unfold wp_X9tear
  have hE : Eo [0, 1] [36, 37] σ σ := Eo.rfl
  have bd1 := i3_bd p1
  have bd2 := i3_bd p2
  have bd3 := i3_bd p3
  refine rg_X5hasRow hM (fun r4 σ5 br4 ir4 hM6 hE7o => ?_)
  have hE7 := hE.of hE7o (by decide) (by decide)
  refine ⟨fun c8 => ?_, fun c8 => ?_⟩
  · unfold b_X9tear_19
    exact hq (-1) σ5 hM6 hE7
  · have fc8 : 0 ≤ p1.toInt ∧ p1.toInt ≤ 7 ∧ 0 ≤ p2.toInt ∧ p2.toInt ≤ 1 ∧ 0 ≤ p3.toInt ∧ p3.toInt ≤ 3 := ir4 c8
    have bd9 := i3_bd p4
    refine rg_X9within hM6 (fun r10 σ11 br10 ir10 hM12 hE13o => ?_)
    have hE13 := hE7.of hE13o (by decide) (by decide)
    refine ⟨fun c14 => ?_, fun c14 => ?_⟩
    · have fc14 : 0 ≤ p4.toInt ∧ p4.toInt ≤ 3 := ir10 c14
      refine rg_X9forget hM12 (fun σ16 hM17 hE18o => ?_)
      have hE18 := hE13.of hE18o (by decide) (by decide)
      refine rg_X5rowPlace ⟨by omega, by omega⟩ ⟨by omega, by omega⟩ ⟨by omega, by omega⟩ hM17 (fun r19 σ20 br19 hM21 hE22o => ?_)
      have hE22 := hE18.of hE22o (by decide) (by decide)
      refine rg_X5cutRow ⟨by omega, by omega⟩ ⟨by omega, by omega⟩ hM21 (fun r23 σ24 br23 hM25 hE26o => ?_)
      have hE26 := hE22.of hE26o (by decide) (by decide)
      exact hq r23 σ24 hM25 hE26
    · unfold b_X9tear_19
      exact hq (-1) σ11 hM12 hE13
set_option maxHeartbeats 2000000 in
theorem rg_X9fall {Q : Int32 → VS → Prop} {p1 : Int32} {p2 : Int32} {σ : VS} (hM : CI σ) (hq : ∀ (r : Int32) (σ' : VS), CI σ' → Eo [0, 1] [38] σ σ' → Q r σ') : wp_X9fall Q p1 p2 σ := by
  unfold wp_X9fall
  have hE : Eo [0, 1] [38] σ σ := Eo.rfl
  have bd1 := i3_bd p1
  refine rg_X5has hM (fun r2 σ3 br2 ir2 hM4 hE5o => ?_)
  have hE5 := hE.of hE5o (by decide) (by decide)
  refine ⟨fun c6 => ?_, fun c6 => ?_⟩
  · unfold b_X9fall_18
    exact hq (-1) σ3 hM4 hE5
  · have fc6 : 0 ≤ p1.toInt ∧ p1.toInt ≤ 7 := ir2 c6
    have bd7 := i3_bd p2
    refine rg_X9within hM4 (fun r8 σ9 br8 ir8 hM10 hE11o => ?_)
    have hE11 := hE5.of hE11o (by decide) (by decide)
    refine ⟨fun c12 => ?_, fun c12 => ?_⟩
    · have fc12 : 0 ≤ p2.toInt ∧ p2.toInt ≤ 1000 := ir8 c12
      refine ⟨⟨by omega, by omega⟩, ?_⟩
      have a13 : 0 ≤ (rd σ9 38 p1).toInt ∧ (rd σ9 38 p1).toInt ≤ 1000 := hM10.2 38 _
      intro x14 ex14
      have ix14 : x14.toInt = (rd σ9 38 p1).toInt := by rw [ex14]
      refine ⟨⟨by omega, by omega⟩, ?_⟩
      have hM15 := hM10.sa 38 p1 p2 (show 0 ≤ p2.toInt ∧ p2.toInt ≤ 1000 by omega)
      have hE16 := hE11.sa 38 p1 p2 (by decide)
      have w17 : (rd (sa σ9 38 p1 p2) 38 p1).toInt = p2.toInt := by rw [rd_sa]
      refine rg_X9forget hM15 (fun σ19 hM20 hE21o => ?_)
      have hE21 := hE16.of hE21o (by decide) (by decide)
      have u22 : (rd σ19 38 p1).toInt = (rd (sa σ9 38 p1 p2) 38 p1).toInt := by unfold rd; rw [hE21o.2 38 (by decide)]
      exact hq x14 σ19 hM20 hE21
    · unfold b_X9fall_18
      exact hq (-1) σ9 hM10 hE11
set_option maxHeartbeats 2000000 in
theorem rg_X9corner {Q : Int32 → VS → Prop} {p1 : Int32} {p2 : Int32} {σ : VS} (hM : CI σ) (hq : ∀ (r : Int32) (σ' : VS), CI σ' → Eo [0, 1, 7, 8] [] σ σ' → Q r σ') : wp_X9corner Q p1 p2 σ := by
  unfold wp_X9corner
  have hE : Eo [0, 1, 7, 8] [] σ σ := Eo.rfl
  have bd1 := i3_bd p1
  refine rg_X9within hM (fun r2 σ3 br2 ir2 hM4 hE5o => ?_)
  have hE5 := hE.of hE5o (by decide) (by decide)
  refine ⟨fun c6 => ?_, fun c6 => ?_⟩
  · unfold b_X9corner_22
    exact hq (-1) σ3 hM4 hE5
  · have fc6 : 0 ≤ p1.toInt ∧ p1.toInt ≤ 500 := ir2 c6
    have bd7 := i3_bd p2
    refine rg_X9within hM4 (fun r8 σ9 br8 ir8 hM10 hE11o => ?_)
    have hE11 := hE5.of hE11o (by decide) (by decide)
    refine ⟨fun c12 => ?_, fun c12 => ?_⟩
    · have fc12 : 0 ≤ p2.toInt ∧ p2.toInt ≤ 500 := ir8 c12
      have hM13 := hM10.sf 7 p1 (show 0 ≤ p1.toInt ∧ p1.toInt ≤ 500 by omega)
      have hE14 := hE11.sf 7 p1 (by decide)
      have hM15 := hM13.sf 8 p2 (show 0 ≤ p2.toInt ∧ p2.toInt ≤ 500 by omega)
      have hE16 := hE14.sf 8 p2 (by decide)
      refine rg_X9forget hM15 (fun σ18 hM19 hE20o => ?_)
      have hE20 := hE16.of hE20o (by decide) (by decide)
      exact hq 0 σ18 hM19 hE20
    · unfold b_X9corner_22
      exact hq (-1) σ9 hM10 hE11
