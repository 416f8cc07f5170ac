set_option maxRecDepth 20000 in
theorem sk_load {args : Array Value} {s : State} {A : Nat → Prop} (hts : ∀ w ∈ lw_tbl, w.before args s = true) (hg : (Jvm.Cond.and given_1 narrow_1).before args s = true) (hA : ∀ a : Nat, a < s.heap.size → ¬ A a) : ∃ t : Nat, va_Z "TimingHouse$Tables" "LOAD_MARKS" "[I" (.ref t) A s s.heap ∧ va_T .int t 4 (fun j => .int (lm_load.getD j 0)) A s s.heap := by
  have hs := flat_of_before _ hg
  obtain ⟨t, e1, h⟩ := va_Tof (tm := .static "TimingHouse$Tables" "LOAD_MARKS" "[I") (ty := .int) (N := 4) (f := fun j => .int (lm_load.getD j 0)) (A := A) (by decide) (hs _ (by decide +kernel)) (va_eqt (hs _ (by decide +kernel))) (fun j hj => by
    rcases (show j = 0 ∨ j = 1 ∨ j = 2 ∨ j = 3 by omega) with rfl | rfl | rfl | rfl <;> exact va_eqt (hs _ (by decide +kernel))) hA
  exact ⟨t, va_Zof (hts (.laysStatic "TimingHouse$Tables" "LOAD_MARKS" "[I") (List.mem_of_getElem? (i := 723) (by decide +kernel))) (hts (.initialized "TimingHouse$Tables") (List.mem_of_getElem? (i := 74) (by decide +kernel))) e1 hA, h⟩
set_option maxRecDepth 20000 in
theorem sk_slope {args : Array Value} {s : State} {A : Nat → Prop} (hts : ∀ w ∈ lw_tbl, w.before args s = true) (hg : (Jvm.Cond.and given_1 narrow_1).before args s = true) (hA : ∀ a : Nat, a < s.heap.size → ¬ A a) : ∃ t : Nat, va_Z "TimingHouse$Tables" "SLOPE_MARKS" "[I" (.ref t) A s s.heap ∧ va_T .int t 3 (fun j => .int (lm_slope.getD j 0)) A s s.heap := by
  have hs := flat_of_before _ hg
  obtain ⟨t, e1, h⟩ := va_Tof (tm := .static "TimingHouse$Tables" "SLOPE_MARKS" "[I") (ty := .int) (N := 3) (f := fun j => .int (lm_slope.getD j 0)) (A := A) (by decide) (hs _ (by decide +kernel)) (va_eqt (hs _ (by decide +kernel))) (fun j hj => by
    rcases (show j = 0 ∨ j = 1 ∨ j = 2 by omega) with rfl | rfl | rfl <;> exact va_eqt (hs _ (by decide +kernel))) hA
  exact ⟨t, va_Zof (hts (.laysStatic "TimingHouse$Tables" "SLOPE_MARKS" "[I") (List.mem_of_getElem? (i := 728) (by decide +kernel))) (hts (.initialized "TimingHouse$Tables") (List.mem_of_getElem? (i := 74) (by decide +kernel))) e1 hA, h⟩
set_option maxRecDepth 20000 in
theorem sk_gaps {args : Array Value} {s : State} {A : Nat → Prop} (hts : ∀ w ∈ lw_tbl, w.before args s = true) (hg : (Jvm.Cond.and given_1 narrow_1).before args s = true) (hA : ∀ a : Nat, a < s.heap.size → ¬ A a) : ∃ t : Nat, va_Z "TimingHouse$Tracer" "GAPS" "[I" (.ref t) A s s.heap ∧ va_T .int t 8 (fun j => .int (lm_gaps.getD j 0)) A s s.heap := by
  have hs := flat_of_before _ hg
  obtain ⟨t, e1, h⟩ := va_Tof (tm := .static "TimingHouse$Tracer" "GAPS" "[I") (ty := .int) (N := 8) (f := fun j => .int (lm_gaps.getD j 0)) (A := A) (by decide) (hs _ (by decide +kernel)) (va_eqt (hs _ (by decide +kernel))) (fun j hj => by
    rcases (show j = 0 ∨ j = 1 ∨ j = 2 ∨ j = 3 ∨ j = 4 ∨ j = 5 ∨ j = 6 ∨ j = 7 by omega) with rfl | rfl | rfl | rfl | rfl | rfl | rfl | rfl <;> exact va_eqt (hs _ (by decide +kernel))) hA
  exact ⟨t, va_Zof (hts (.laysStatic "TimingHouse$Tracer" "GAPS" "[I") (List.mem_of_getElem? (i := 919) (by decide +kernel))) (hts (.initialized "TimingHouse$Tracer") (List.mem_of_getElem? (i := 77) (by decide +kernel))) e1 hA, h⟩
theorem kE {args : Array Value} {s : State} {A : Nat → Prop} (hts : ∀ w ∈ lw_tbl, w.before args s = true) (hg : (Jvm.Cond.and given_1 narrow_1).before args s = true) (hA : ∀ a : Nat, a < s.heap.size → ¬ A a) : ∃ E : gE, va_K E.1 vwCl (tyE E) s ∧ stk E A s s.heap := by
  obtain ⟨c0, j0, h0⟩ := u_known (C := RX0) (T := TX0) (N := 5) (n := 5) hts (fun w h => (gt_X0 w h).1) (hts (.instantiable RX0 5) (List.mem_of_getElem? (i := 206) (by decide +kernel)))
  obtain ⟨c1, j1, h1⟩ := u_known (C := RX1) (T := TX1) (N := 13) (n := 13) hts (fun w h => (gt_X1 w h).1) (hts (.instantiable RX1 13) (List.mem_of_getElem? (i := 90) (by decide +kernel)))
  obtain ⟨c2, j2, h2⟩ := u_known (C := RX2) (T := TX2) (N := 13) (n := 13) hts (fun w h => (gt_X2 w h).1) (hts (.instantiable RX2 13) (List.mem_of_getElem? (i := 346) (by decide +kernel)))
  obtain ⟨c3, j3, h3⟩ := u_known (C := RX3) (T := TX3) (N := 6) (n := 6) hts (fun w h => (gt_X3 w h).1) (hts (.instantiable RX3 6) (List.mem_of_getElem? (i := 232) (by decide +kernel)))
  obtain ⟨c4, j4, h4⟩ := u_known (C := RX4) (T := TX4) (N := 6) (n := 6) hts (fun w h => (gt_X4 w h).1) (hts (.instantiable RX4 6) (List.mem_of_getElem? (i := 167) (by decide +kernel)))
  obtain ⟨c5, j5, h5⟩ := u_known (C := RX5) (T := TX5) (N := 5) (n := 5) hts (fun w h => (gt_X5 w h).1) (hts (.instantiable RX5 5) (List.mem_of_getElem? (i := 260) (by decide +kernel)))
  obtain ⟨c6, j6, h6⟩ := u_known (C := RX6) (T := TX6) (N := 12) (n := 12) hts (fun w h => (gt_X6 w h).1) (hts (.instantiable RX6 12) (List.mem_of_getElem? (i := 288) (by decide +kernel)))
  obtain ⟨c7, j7, h7⟩ := u_known (C := RX7) (T := TX7) (N := 12) (n := 12) hts (fun w h => (gt_X7 w h).1) (hts (.instantiable RX7 12) (List.mem_of_getElem? (i := 396) (by decide +kernel)))
  obtain ⟨c8, j8, h8⟩ := u_known (C := RX8) (T := TX8) (N := 7) (n := 7) hts (fun w h => (gt_X8 w h).1) (hts (.instantiable RX8 7) (List.mem_of_getElem? (i := 440) (by decide +kernel)))
  obtain ⟨c9, j9, h9⟩ := u_known (C := RX9) (T := TX9) (N := 12) (n := 12) hts (fun w h => (gt_X9 w h).1) (hts (.instantiable RX9 12) (List.mem_of_getElem? (i := 82) (by decide +kernel)))
  obtain ⟨c10, j10, h10⟩ := u_known (C := RX10) (T := TX10) (N := 69) (n := 69) hts (fun w h => (gt_X10 w h).1) (hts (.instantiable RX10 69) (List.mem_of_getElem? (i := 978) (by decide +kernel)))
  obtain ⟨eI, bI, dI⟩ := aw_prim (ty := .int) (fun C h => by cases h) (hts (.arrayClass .int) (List.mem_of_getElem? (i := 164) (by decide +kernel)))
  obtain ⟨eJ, bJ, dJ⟩ := aw_prim (ty := .long) (fun C h => by cases h) (hts (.arrayClass .long) (List.mem_of_getElem? (i := 438) (by decide +kernel)))
  obtain ⟨eZ, bZ, dZ⟩ := aw_prim (ty := .boolean) (fun C h => by cases h) (hts (.arrayClass .boolean) (List.mem_of_getElem? (i := 165) (by decide +kernel)))
  obtain ⟨t_load, z_load⟩ := sk_load hts hg hA
  obtain ⟨t_slope, z_slope⟩ := sk_slope hts hg hA
  obtain ⟨t_gaps, z_gaps⟩ := sk_gaps hts hg hA
  refine ⟨((fun k => if k = 0 then c0 else if k = 1 then c1 else if k = 2 then c2 else if k = 3 then c3 else if k = 4 then c4 else if k = 5 then c5 else if k = 6 then c6 else if k = 7 then c7 else if k = 8 then c8 else if k = 9 then c9 else c10, fun k => if k = 0 then j0 else if k = 1 then j1 else if k = 2 then j2 else if k = 3 then j3 else if k = 4 then j4 else if k = 5 then j5 else if k = 6 then j6 else if k = 7 then j7 else if k = 8 then j8 else if k = 9 then j9 else j10), eI, eJ, eZ, t_load, t_slope, t_gaps), ⟨?_, ?_⟩, z_load, z_slope, z_gaps⟩
  · intro k q hq
    match k, hq with
    | 0, hq => cases hq; exact h0
    | 1, hq => cases hq; exact h1
    | 2, hq => cases hq; exact h2
    | 3, hq => cases hq; exact h3
    | 4, hq => cases hq; exact h4
    | 5, hq => cases hq; exact h5
    | 6, hq => cases hq; exact h6
    | 7, hq => cases hq; exact h7
    | 8, hq => cases hq; exact h8
    | 9, hq => cases hq; exact h9
    | 10, hq => cases hq; exact h10
    | k + 11, hq => simp [vwCl] at hq
  · intro k q hq
    match k, hq with
    | 0, hq => cases hq; exact ⟨bI, dI⟩
    | 1, hq => cases hq; exact ⟨bJ, dJ⟩
    | 2, hq => cases hq; exact ⟨bZ, dZ⟩
    | k + 3, hq => simp [tyE] at hq
theorem dL_law_27 : decode cL_law 27 = .ok (.aload_n 0, 1) := by decide +kernel
theorem dL_law_28 : decode cL_law 28 = .ok (.iload_n 3, 1) := by decide +kernel
theorem dL_law_29 : decode cL_law 29 = .ok (.iaload, 1) := by decide +kernel
theorem dL_law_30 : decode cL_law 30 = .ok (.bipush 31, 2) := by decide +kernel
theorem dL_law_32 : decode cL_law 32 = .ok (.iand, 1) := by decide +kernel
theorem dL_law_33 : decode cL_law 33 = .ok (.tableswitch 1098 0 28 #[131, 174, 217, 250, 283, 336, 389, 452, 505, 538, 571, 594, 637, 690, 703, 736, 769, 812, 835, 858, 881, 904, 927, 960, 993, 1026, 1049, 1062, 1075], 131) := by decide +kernel
set_option maxHeartbeats 4000000 in
set_option maxRecDepth 100000 in
theorem law_loop {p : Program} {l : Launch} {e : Env} {s : State} {m : MethodId} {below : List Frame} {meth : Method} {c : Code} {b L : Nat} {xs : Nat → Int32} {E : gE} {A : Nat → Prop} {B B2 : Nat → Nat} (C0 : lw_At p s m meth c b L xs) (hL : L ≤ 3072) (hAe : A = fun q => s.heap.size ≤ q) (hK : va_K E.1 vwCl (tyE E) s) (hN : nw_ok s) (hZ : stk E A s s.heap) : ∀ (n : Nat) (σ τ : VS) (i : Int32) (H : Heap) (locs : List Loc) (ls : Array Slot), (L : Int) - i.toInt < 6 * (n : Int) → 0 ≤ i.toInt → i.toInt ≤ (L : Int) → Jt σ τ → va_P E.1 vwCl (wc E B σ ++ wm E B2 τ) H → va_D A (wc E B σ ++ wm E B2 τ) → va_S A s.heap H locs → lv_has ls 4 [(3, .int i), (2, .ref (B2 0)), (1, .ref (B 0)), (0, .ref b)] → W p l e room_1 s m #[Value.ref b] below meth c H locs 1000 1000000 (lw_Z below #[Value.ref b] s) (F0 m 18 ls []) := by
  obtain ⟨hx, hb, hr, hml, hown, hts, hX, hbl, hlocks, hgv⟩ := id C0
  have hown : s.vm.findClass RL = some m.cls := hown
  have hA : ∀ q, s.heap.size ≤ q → A q := fun q h => by rw [hAe]; exact h
  have hbA : ¬ A b := by rw [hAe]; exact Nat.not_le.mpr hbl
  intro n
  induction n with
  | zero => intro σ τ i H locs ls h1 h2 h3; omega
  | succ n ih =>
    intro σ τ i H locs ls h1 h2 h3 J hP hD hS hl
    refine lv_iload_n hx hb dL_law_18 rfl (lv_at hl 0 rfl) ?_
    refine lv_aload_n hx hb dL_law_19 rfl (lv_at hl 3 rfl) ?_
    refine va_slen hx hb hX hbl hbA hS dL_law_20 ?_
    refine lv_bipush (v := 6) hx hb dL_law_21 (by decide) ?_
    refine lv_isub hx hb dL_law_23 ?_
    refine lv_topi (fun y ey => ?_)
    have tL : (Int32.ofNat L).toInt = (L : Int) := nI_ti (by omega)
    have ty : y.toInt = (L : Int) - 6 := i3_subc tL rfl ey (by omega)
    refine lv_icmp_gt (tgt := 1137) hx hb dL_law_24 (by decide) (fun c_1 => ?_) (fun c_1 => ?_)
    · exact lw_end hx hb hr hlocks hAe hS (by decide) (by decide)
    have e_1 := i3_nlt c_1
    have hi6 : i.toInt + 6 ≤ (L : Int) := by omega
    have K : ∀ (σ' τ' : VS) (H' : Heap) (locs' : List Loc), Jt σ' τ' → va_P E.1 vwCl (wc E B σ' ++ wm E B2 τ') H' → va_D A (wc E B σ' ++ wm E B2 τ') → va_S A s.heap H' locs' → W p l e room_1 s m #[Value.ref b] below meth c H' locs' 1000 1000000 (lw_Z below #[Value.ref b] s) (F0 m 1131 ls []) := by
      intro σ' τ' H' locs' J hP hD hS
      refine lv_iinc (v := i + 6) (lv' := [(3, .int (i + 6)), (2, .ref (B2 0)), (1, .ref (B 0)), (0, .ref b)]) hx hb dL_law_1131 hl (k := 0) rfl (by first | rfl | exact congrArg (fun z => i + z) (by decide)) (by decide) rfl (fun ls hl => ?_)
      refine lv_goto (tgt := 18) hx hb dL_law_1134 (by decide) ?_
      have e6 : (i + 6).toInt = i.toInt + 6 := i3_addc (x := i + 6) rfl (b := 6) (nb := 6) (by decide) rfl (by omega)
      exact ih σ' τ' (i + 6) H' locs' ls (by omega) (by omega) (by omega) J hP hD hS hl
    refine lv_aload_n hx hb dL_law_27 rfl (lv_at hl 3 rfl) ?_
    refine lv_iload_n hx hb dL_law_28 rfl (lv_at hl 0 rfl) ?_
    refine va_sld hx hb hX hbl hbA hS (i3_in (by omega)) dL_law_29 ?_
    refine lv_bipush (v := 31) hx hb dL_law_30 (by decide) ?_
    refine lv_iand hx hb dL_law_32 ?_
    refine lv_topi (fun z ez => ?_)
    by_cases h_0 : z.toInt = 0
    · refine lv_tableIn (off := 131) (tgt := 164) hx hb dL_law_33 (by omega) (by omega) (by rw [h_0]; rfl) (by decide) ?_
      exact law_make C0 hL hAe hK hN hZ J h2 hi6 hP hD hS hl K
    by_cases h_1 : z.toInt = 1
    · refine lv_tableIn (off := 174) (tgt := 207) hx hb dL_law_33 (by omega) (by omega) (by rw [h_1]; rfl) (by decide) ?_
      exact law_wire C0 hL hAe hK hN hZ J h2 hi6 hP hD hS hl K
    by_cases h_2 : z.toInt = 2
    · refine lv_tableIn (off := 217) (tgt := 250) hx hb dL_law_33 (by omega) (by omega) (by rw [h_2]; rfl) (by decide) ?_
      exact law_extra C0 hL hAe hK hN hZ J h2 hi6 hP hD hS hl K
    by_cases h_3 : z.toInt = 3
    · refine lv_tableIn (off := 250) (tgt := 283) hx hb dL_law_33 (by omega) (by omega) (by rw [h_3]; rfl) (by decide) ?_
      exact law_size C0 hL hAe hK hN hZ J h2 hi6 hP hD hS hl K
    by_cases h_4 : z.toInt = 4
    · refine lv_tableIn (off := 283) (tgt := 316) hx hb dL_law_33 (by omega) (by omega) (by rw [h_4]; rfl) (by decide) ?_
      exact law_port C0 hL hAe hK hN hZ J h2 hi6 hP hD hS hl K
    by_cases h_5 : z.toInt = 5
    · refine lv_tableIn (off := 336) (tgt := 369) hx hb dL_law_33 (by omega) (by omega) (by rw [h_5]; rfl) (by decide) ?_
      exact law_target C0 hL hAe hK hN hZ J h2 hi6 hP hD hS hl K
    by_cases h_6 : z.toInt = 6
    · refine lv_tableIn (off := 389) (tgt := 422) hx hb dL_law_33 (by omega) (by omega) (by rw [h_6]; rfl) (by decide) ?_
      exact law_entry C0 hL hAe hK hN hZ J h2 hi6 hP hD hS hl K
    by_cases h_7 : z.toInt = 7
    · refine lv_tableIn (off := 452) (tgt := 485) hx hb dL_law_33 (by omega) (by omega) (by rw [h_7]; rfl) (by decide) ?_
      exact law_tear C0 hL hAe hK hN hZ J h2 hi6 hP hD hS hl K
    by_cases h_8 : z.toInt = 8
    · refine lv_tableIn (off := 505) (tgt := 538) hx hb dL_law_33 (by omega) (by omega) (by rw [h_8]; rfl) (by decide) ?_
      exact law_fall C0 hL hAe hK hN hZ J h2 hi6 hP hD hS hl K
    by_cases h_9 : z.toInt = 9
    · refine lv_tableIn (off := 538) (tgt := 571) hx hb dL_law_33 (by omega) (by omega) (by rw [h_9]; rfl) (by decide) ?_
      exact law_corner C0 hL hAe hK hN hZ J h2 hi6 hP hD hS hl K
    by_cases h_10 : z.toInt = 10
    · refine lv_tableIn (off := 571) (tgt := 604) hx hb dL_law_33 (by omega) (by omega) (by rw [h_10]; rfl) (by decide) ?_
      exact law_period C0 hL hAe hK hN hZ J h2 hi6 hP hD hS hl K
    by_cases h_11 : z.toInt = 11
    · refine lv_tableIn (off := 594) (tgt := 627) hx hb dL_law_33 (by omega) (by omega) (by rw [h_11]; rfl) (by decide) ?_
      exact law_node C0 hL hAe hK hN hZ J h2 hi6 hP hD hS hl K
    by_cases h_12 : z.toInt = 12
    · refine lv_tableIn (off := 637) (tgt := 670) hx hb dL_law_33 (by omega) (by omega) (by rw [h_12]; rfl) (by decide) ?_
      exact law_except C0 hL hAe hK hN hZ J h2 hi6 hP hD hS hl K
    by_cases h_13 : z.toInt = 13
    · refine lv_tableIn (off := 690) (tgt := 723) hx hb dL_law_33 (by omega) (by omega) (by rw [h_13]; rfl) (by decide) ?_
      exact law_unexcept C0 hL hAe hK hN hZ J h2 hi6 hP hD hS hl K
    by_cases h_14 : z.toInt = 14
    · refine lv_tableIn (off := 703) (tgt := 736) hx hb dL_law_33 (by omega) (by omega) (by rw [h_14]; rfl) (by decide) ?_
      exact law_about C0 hL hAe hK hN hZ J h2 hi6 hP hD hS hl K
    by_cases h_15 : z.toInt = 15
    · refine lv_tableIn (off := 736) (tgt := 769) hx hb dL_law_33 (by omega) (by omega) (by rw [h_15]; rfl) (by decide) ?_
      exact law_takes C0 hL hAe hK hN hZ J h2 hi6 hP hD hS hl K
    by_cases h_16 : z.toInt = 16
    · refine lv_tableIn (off := 769) (tgt := 802) hx hb dL_law_33 (by omega) (by omega) (by rw [h_16]; rfl) (by decide) ?_
      exact law_arrival C0 hL hAe hK hN hZ J h2 hi6 hP hD hS hl K
    by_cases h_17 : z.toInt = 17
    · refine lv_tableIn (off := 812) (tgt := 845) hx hb dL_law_33 (by omega) (by omega) (by rw [h_17]; rfl) (by decide) ?_
      exact law_told C0 hL hAe hK hN hZ J h2 hi6 hP hD hS hl K
    by_cases h_18 : z.toInt = 18
    · refine lv_tableIn (off := 835) (tgt := 868) hx hb dL_law_33 (by omega) (by omega) (by rw [h_18]; rfl) (by decide) ?_
      exact law_slack C0 hL hAe hK hN hZ J h2 hi6 hP hD hS hl K
    by_cases h_19 : z.toInt = 19
    · refine lv_tableIn (off := 858) (tgt := 891) hx hb dL_law_33 (by omega) (by omega) (by rw [h_19]; rfl) (by decide) ?_
      exact law_hold C0 hL hAe hK hN hZ J h2 hi6 hP hD hS hl K
    by_cases h_20 : z.toInt = 20
    · refine lv_tableIn (off := 881) (tgt := 914) hx hb dL_law_33 (by omega) (by omega) (by rw [h_20]; rfl) (by decide) ?_
      exact law_worst C0 hL hAe hK hN hZ J h2 hi6 hP hD hS hl K
    by_cases h_21 : z.toInt = 21
    · refine lv_tableIn (off := 904) (tgt := 937) hx hb dL_law_33 (by omega) (by omega) (by rw [h_21]; rfl) (by decide) ?_
      exact law_paths C0 hL hAe hK hN hZ J h2 hi6 hP hD hS hl K
    by_cases h_22 : z.toInt = 22
    · refine lv_tableIn (off := 927) (tgt := 960) hx hb dL_law_33 (by omega) (by omega) (by rw [h_22]; rfl) (by decide) ?_
      exact law_path C0 hL hAe hK hN hZ J h2 hi6 hP hD hS hl K
    by_cases h_23 : z.toInt = 23
    · refine lv_tableIn (off := 960) (tgt := 993) hx hb dL_law_33 (by omega) (by omega) (by rw [h_23]; rfl) (by decide) ?_
      exact law_step C0 hL hAe hK hN hZ J h2 hi6 hP hD hS hl K
    by_cases h_24 : z.toInt = 24
    · refine lv_tableIn (off := 993) (tgt := 1026) hx hb dL_law_33 (by omega) (by omega) (by rw [h_24]; rfl) (by decide) ?_
      exact law_common C0 hL hAe hK hN hZ J h2 hi6 hP hD hS hl K
    by_cases h_25 : z.toInt = 25
    · refine lv_tableIn (off := 1026) (tgt := 1059) hx hb dL_law_33 (by omega) (by omega) (by rw [h_25]; rfl) (by decide) ?_
      exact law_least C0 hL hAe hK hN hZ J h2 hi6 hP hD hS hl K
    by_cases h_26 : z.toInt = 26
    · refine lv_tableIn (off := 1049) (tgt := 1082) hx hb dL_law_33 (by omega) (by omega) (by rw [h_26]; rfl) (by decide) ?_
      exact law_fix C0 hL hAe hK hN hZ J h2 hi6 hP hD hS hl K
    by_cases h_27 : z.toInt = 27
    · refine lv_tableIn (off := 1062) (tgt := 1095) hx hb dL_law_33 (by omega) (by omega) (by rw [h_27]; rfl) (by decide) ?_
      exact law_area C0 hL hAe hK hN hZ J h2 hi6 hP hD hS hl K
    by_cases h_28 : z.toInt = 28
    · refine lv_tableIn (off := 1075) (tgt := 1108) hx hb dL_law_33 (by omega) (by omega) (by rw [h_28]; rfl) (by decide) ?_
      exact law_count C0 hL hAe hK hN hZ J h2 hi6 hP hD hS hl K
    refine lv_tableOut (tgt := 1131) hx hb dL_law_33 (by omega) (by decide) ?_
    exact K σ τ H locs J hP hD hS
theorem dL_law_0 : decode cL_law 0 = .ok (.new 7, 3) := by decide +kernel
theorem dL_law_3 : decode cL_law 3 = .ok (.dup, 1) := by decide +kernel
theorem dL_law_4 : decode cL_law 4 = .ok (.invokespecial 9, 3) := by decide +kernel
theorem dL_law_7 : decode cL_law 7 = .ok (.astore_n 1, 1) := by decide +kernel
theorem dL_law_8 : decode cL_law 8 = .ok (.new 10, 3) := by decide +kernel
theorem dL_law_11 : decode cL_law 11 = .ok (.dup, 1) := by decide +kernel
theorem dL_law_12 : decode cL_law 12 = .ok (.invokespecial 12, 3) := by decide +kernel
theorem dL_law_15 : decode cL_law 15 = .ok (.astore_n 2, 1) := by decide +kernel
theorem dL_law_16 : decode cL_law 16 = .ok (.iconst 0, 1) := by decide +kernel
theorem dL_law_17 : decode cL_law 17 = .ok (.istore_n 3, 1) := by decide +kernel
set_option maxHeartbeats 4000000 in
set_option maxRecDepth 100000 in
theorem whole_start {p : Program} {e : Env} {s : State} {m : MethodId} {below : List Frame} {meth : Method} {c : Code} (l : Launch) {b L : Nat} {xs : Nat → Int32} (hL : L ≤ 3072) (C0 : lw_At p s m meth c b L xs) : W p l e room_1 s m #[Value.ref b] below meth c s.heap [] 0 0 (lw_Z below #[Value.ref b] s) (entryFrame m ([Value.ref b] : List Value).toArray 4) := by
  obtain ⟨hx, hb, hr, hml, hown, hts, hX, hbl, hlocks, hgv⟩ := id C0
  have hown : s.vm.findClass RL = some m.cls := hown
  obtain ⟨A, hAe⟩ : ∃ A : Nat → Prop, A = fun q => s.heap.size ≤ q := ⟨_, rfl⟩
  have hA : ∀ q, s.heap.size ≤ q → A q := fun q h => by rw [hAe]; exact h
  have hAn : ∀ q : Nat, q < s.heap.size → ¬ A q := fun q h => by rw [hAe]; exact Nat.not_le.mpr h
  have hN : nw_ok s := nw_law hts
  obtain ⟨E, hK, hZ⟩ := kE hts hgv hAn
  have hl := lv_entry ([.ref b]) (n := 4) (Nat.le_of_ble_eq_true rfl)
  rw [lg_entry_eq]
  generalize (lg_sl ([.ref b]) ++ List.replicate (4 - (lg_sl ([.ref b])).length) Slot.unset).toArray = ls at hl ⊢
  have hl : lv_has ls 4 [(0, .ref b)] := hl
  obtain ⟨H, hHe⟩ : ∃ H, H = s.heap := ⟨_, rfl⟩
  have hS : va_S A s.heap H [] := by rw [hHe]; exact va_S.rf
  have hP : va_P E.1 vwCl [] H := fun k q h => by simp at h
  have hD : va_D A [] := ⟨fun i j p q h => by simp at h, fun k q h => by simp at h⟩
  refine W_heap hHe ?_
  refine va_new (ci := 9) (fs := [.null, .null, .null, .null, .null, .null, .null, .null, .null, .null, .int 0, .int 0]) (C := RX9) (T := TX9) (N := 12) hx hb hts (fun w h => (gt_X9 w h).1) tyX9 tyX9_ok hown (hts (.classLink RL 7 RX9) (List.mem_of_getElem? (i := 81) (by decide +kernel))) (hts (.instantiable RX9 12) (List.mem_of_getElem? (i := 82) (by decide +kernel))) (hts (.initialized RX9) (List.mem_of_getElem? (i := 68) (by decide +kernel))) hK hP hD hS hA rfl (fun j hj => by rcases (show j = 0 ∨ j = 1 ∨ j = 2 ∨ j = 3 ∨ j = 4 ∨ j = 5 ∨ j = 6 ∨ j = 7 ∨ j = 8 ∨ j = 9 ∨ j = 10 ∨ j = 11 by omega) with rfl | rfl | rfl | rfl | rfl | rfl | rfl | rfl | rfl | rfl | rfl | rfl <;> rfl) (Nat.le_of_ble_eq_true rfl) (Nat.le_of_ble_eq_true rfl) dL_law_0 (fun q1 H hP hD hS => ?_)
  replace hP : va_P E.1 vwCl [(q1, .inr (9, [.null, .null, .null, .null, .null, .null, .null, .null, .null, .null, .int 0, .int 0]))] H := hP
  replace hD : va_D A [(q1, .inr (9, [.null, .null, .null, .null, .null, .null, .null, .null, .null, .null, .int 0, .int 0]))] := hD
  refine lv_dup hx hb dL_law_3 rfl ?_
  refine call_v (va_runI (As := []) (rest := [.ref q1]) ⟨hx, hb, hml, hown, hts⟩ (k_house l E q1 H.size) (cwI 0 hts gt_k_house rfl rfl rfl (hts (.initialized RX9) (List.mem_of_getElem? (i := 68) (by decide +kernel))) (hts (.methodLink RL 9 yX9_init) (List.mem_of_getElem? (i := 83) (by decide +kernel))) (hts (.instanceMethod yX9_init) (List.mem_of_getElem? (i := 84) (by decide +kernel))) rfl (by decide +kernel) ⟨Nat.le_of_ble_eq_true rfl, Nat.le_of_ble_eq_true rfl⟩) (pre_S hK hN hZ hS (va_free hD hS hA [0] rfl) (hP.sub (ws' := [(q1, .inr (9, [.null, .null, .null, .null, .null, .null, .null, .null, .null, .null, .int 0, .int 0]))]) [0] rfl) (hD.sub (ws' := [(q1, .inr (9, [.null, .null, .null, .null, .null, .null, .null, .null, .null, .null, .int 0, .int 0]))]) [0] (by decide) rfl)) rfl rfl hl.1 rfl (lv_room (Nat.le_of_ble_eq_true rfl)) dL_law_4 ⟨Nat.le_of_ble_eq_true rfl, Nat.le_of_ble_eq_true rfl⟩) hP hD hS hA [0] [] (wr := []) rfl rfl (by decide) (by decide) (fun w H9 locs9 hw hP9 hD9 hS9 => ?_)
  obtain ⟨B, hB0, rfl⟩ := house_w hw
  clear hP hD hS
  subst hB0
  clear hHe
  obtain ⟨H, rfl⟩ : ∃ H', H' = H9 := ⟨_, rfl⟩
  have hP : va_P E.1 vwCl (wc E B zc) H := hP9
  have hD : va_D A (wc E B zc) := hD9
  have hS := hS9
  refine lv_astore_n (lv' := [(1, .ref (B 0)), (0, .ref b)]) hx hb dL_law_7 rfl hl (by decide) rfl (fun ls hl => ?_)
  refine va_new (ci := 10) (fs := [.int 0, .int 0, .null, .null, .null, .null, .null, .null, .null, .null, .null, .null, .null, .null, .null, .null, .null, .null, .int 0, .int 0, .int 0, .int 0, .null, .null, .null, .int 0, .null, .null, .null, .null, .int 0, .null, .int 0, .null, .null, .null, .null, .null, .null, .null, .null, .null, .null, .null, .null, .null, .null, .null, .int 0, .null, .null, .null, .null, .null, .null, .null, .null, .null, .null, .null, .null, .int 0, .int 0, .null, .null, .null, .null, .int 0, .int 0]) (C := RX10) (T := TX10) (N := 69) hx hb hts (fun w h => (gt_X10 w h).1) tyX10 tyX10_ok hown (hts (.classLink RL 10 RX10) (List.mem_of_getElem? (i := 1013) (by decide +kernel))) (hts (.instantiable RX10 69) (List.mem_of_getElem? (i := 978) (by decide +kernel))) (hts (.initialized RX10) (List.mem_of_getElem? (i := 79) (by decide +kernel))) hK hP hD hS hA rfl (fun j hj => by rcases (show j = 0 ∨ j = 1 ∨ j = 2 ∨ j = 3 ∨ j = 4 ∨ j = 5 ∨ j = 6 ∨ j = 7 ∨ j = 8 ∨ j = 9 ∨ j = 10 ∨ j = 11 ∨ j = 12 ∨ j = 13 ∨ j = 14 ∨ j = 15 ∨ j = 16 ∨ j = 17 ∨ j = 18 ∨ j = 19 ∨ j = 20 ∨ j = 21 ∨ j = 22 ∨ j = 23 ∨ j = 24 ∨ j = 25 ∨ j = 26 ∨ j = 27 ∨ j = 28 ∨ j = 29 ∨ j = 30 ∨ j = 31 ∨ j = 32 ∨ j = 33 ∨ j = 34 ∨ j = 35 ∨ j = 36 ∨ j = 37 ∨ j = 38 ∨ j = 39 ∨ j = 40 ∨ j = 41 ∨ j = 42 ∨ j = 43 ∨ j = 44 ∨ j = 45 ∨ j = 46 ∨ j = 47 ∨ j = 48 ∨ j = 49 ∨ j = 50 ∨ j = 51 ∨ j = 52 ∨ j = 53 ∨ j = 54 ∨ j = 55 ∨ j = 56 ∨ j = 57 ∨ j = 58 ∨ j = 59 ∨ j = 60 ∨ j = 61 ∨ j = 62 ∨ j = 63 ∨ j = 64 ∨ j = 65 ∨ j = 66 ∨ j = 67 ∨ j = 68 by omega) with rfl | rfl | rfl | rfl | rfl | rfl | rfl | rfl | rfl | rfl | rfl | rfl | rfl | rfl | rfl | rfl | rfl | rfl | rfl | rfl | rfl | rfl | rfl | rfl | rfl | rfl | rfl | rfl | rfl | rfl | rfl | rfl | rfl | rfl | rfl | rfl | rfl | rfl | rfl | rfl | rfl | rfl | rfl | rfl | rfl | rfl | rfl | rfl | rfl | rfl | rfl | rfl | rfl | rfl | rfl | rfl | rfl | rfl | rfl | rfl | rfl | rfl | rfl | rfl | rfl | rfl | rfl | rfl | rfl <;> rfl) (Nat.le_of_ble_eq_true rfl) (Nat.le_of_ble_eq_true rfl) dL_law_8 (fun q2 H hP hD hS => ?_)
  refine lv_dup hx hb dL_law_11 rfl ?_
  refine call_v (va_runI (As := []) (rest := [.ref q2]) ⟨hx, hb, hml, hown, hts⟩ (k_model l E q2 H.size) (cwI 0 hts gt_k_model rfl rfl rfl (hts (.initialized RX10) (List.mem_of_getElem? (i := 79) (by decide +kernel))) (hts (.methodLink RL 12 yX10_init) (List.mem_of_getElem? (i := 1014) (by decide +kernel))) (hts (.instanceMethod yX10_init) (List.mem_of_getElem? (i := 1015) (by decide +kernel))) rfl (by decide +kernel) ⟨Nat.le_of_ble_eq_true rfl, Nat.le_of_ble_eq_true rfl⟩) (pre_S hK hN hZ hS (va_free hD hS hA [63] rfl) (hP.sub (ws' := [(q2, .inr (10, [.int 0, .int 0, .null, .null, .null, .null, .null, .null, .null, .null, .null, .null, .null, .null, .null, .null, .null, .null, .int 0, .int 0, .int 0, .int 0, .null, .null, .null, .int 0, .null, .null, .null, .null, .int 0, .null, .int 0, .null, .null, .null, .null, .null, .null, .null, .null, .null, .null, .null, .null, .null, .null, .null, .int 0, .null, .null, .null, .null, .null, .null, .null, .null, .null, .null, .null, .null, .int 0, .int 0, .null, .null, .null, .null, .int 0, .int 0]))]) [63] rfl) (hD.sub (ws' := [(q2, .inr (10, [.int 0, .int 0, .null, .null, .null, .null, .null, .null, .null, .null, .null, .null, .null, .null, .null, .null, .null, .null, .int 0, .int 0, .int 0, .int 0, .null, .null, .null, .int 0, .null, .null, .null, .null, .int 0, .null, .int 0, .null, .null, .null, .null, .null, .null, .null, .null, .null, .null, .null, .null, .null, .null, .null, .int 0, .null, .null, .null, .null, .null, .null, .null, .null, .null, .null, .null, .null, .int 0, .int 0, .null, .null, .null, .null, .int 0, .int 0]))]) [63] (by decide) rfl)) rfl rfl hl.1 rfl (lv_room (Nat.le_of_ble_eq_true rfl)) dL_law_12 ⟨Nat.le_of_ble_eq_true rfl, Nat.le_of_ble_eq_true rfl⟩) hP hD hS hA [63] [0, 1, 2, 3, 4, 5, 6, 7, 8, 9, 10, 11, 12, 13, 14, 15, 16, 17, 18, 19, 20, 21, 22, 23, 24, 25, 26, 27, 28, 29, 30, 31, 32, 33, 34, 35, 36, 37, 38, 39, 40, 41, 42, 43, 44, 45, 46, 47, 48, 49, 50, 51, 52, 53, 54, 55, 56, 57, 58, 59, 60, 61, 62] (wr := wc E B zc) rfl rfl (by decide) (by decide) (fun w H9 locs9 hw hP9 hD9 hS9 => ?_)
  obtain ⟨B2, hB2, rfl⟩ := model_w hw
  subst hB2
  have e0 : (0 : Int32).toInt = 0 := by decide
  refine lv_astore_n (lv' := [(2, .ref (B2 0)), (1, .ref (B 0)), (0, .ref b)]) hx hb dL_law_15 rfl hl (by decide) rfl (fun ls hl => ?_)
  refine lv_iconst (v := 0) hx hb dL_law_16 (by decide) ?_
  refine lv_istore_n (lv' := [(3, .int 0), (2, .ref (B2 0)), (1, .ref (B 0)), (0, .ref b)]) hx hb dL_law_17 rfl hl (by decide) rfl (fun ls hl => ?_)
  refine W.widen (k := 1000) (n := 1000000) (Nat.le_of_ble_eq_true rfl) (Nat.le_of_ble_eq_true rfl) ?_
  exact law_loop C0 hL hAe hK hN hZ (L + 1) zc zm 0 H9 locs9 ls (by omega) (by omega) (by omega) zt hP9 hD9 hS9 hl
set_option maxHeartbeats 4000000 in
theorem lw_walk (l : Launch) (b : Addr) (xs : List Int32) : MetFree l x (headSpec (Jvm.Cond.code x code maxLocals ret :: tables_1) room_1) (lw_P b xs) (fun _ _ _ _ _ => True) lw_Q := by
  refine MetFree.of_bodyS (code := code) (maxLocals := maxLocals) (ret := ret) (by decide) ?_ ?_
  · intro args s m h hn
    obtain ⟨meth, c, h1, h2, h3, h4, h5, h6, -, -⟩ := Cond.code_spec hn (atoms_spec (ws := Jvm.Cond.code x code maxLocals ret :: tables_1) h _ List.mem_cons_self)
    exact ⟨meth, c, h1, h2, h3, h4, h5, h6⟩
  · intro p e s m args below meth c s₁ B hml0 hP _
    obtain ⟨rfl, hx, hbd, hgv⟩ := hP
    obtain ⟨scr, harrAt, hlist, hof, hsmall⟩ := hx
    obtain ⟨hcb, hkn, -, -⟩ := State.arrayAt?_spec harrAt
    have hown : s.vm.findClass R_law = some m.cls := findClass_of_methodNamed B.named
    have hts0 : ∀ c ∈ (Jvm.Cond.code x code maxLocals ret :: tables_1), c.before #[Value.ref b] s = true := atoms_spec (ws := Jvm.Cond.code x code maxLocals ret :: tables_1) B.pre
    have hts : ∀ w ∈ lw_tbl, w.before #[Value.ref b] s = true := k2_hts_sels lw_privs (fun w hw => hts0 w (List.mem_cons_of_mem _ hw)) lw_privs_ok
    have hml : c.maxLocals = 4 := B.maxLocals_eq (hts0 _ List.mem_cons_self)
    have X₀ : Stand p l e room_1 s m #[Value.ref b] below meth c s₁ [] 0 0 := Stand.of_body B
    have hh0 : s₁.heap = s.heap := by rw [B.state]; rfl
    have hsz : scr.slots.size = xs.length := by rw [← Array.length_toList, hlist, List.length_map]
    have hval : ∀ j : Nat, j < xs.length → scr.slots[j]? = some (.int (xs.getD j 0)) := fun j hj => by
      rw [← Array.getElem?_toList, hlist]
      simp [hj]
    have hbl : b < s.heap.size := (Array.getElem?_eq_some_iff.mp hcb).1
    have hX : va_X b xs.length (fun j => xs.getD j 0) s s.heap := ⟨scr, hcb, hof, hkn, hsz, hval⟩
    have K : W p l e room_1 s m #[Value.ref b] below meth c s₁.heap [] 0 0 (lw_Z below #[Value.ref b] s) (entryFrame m ([Value.ref b] : List Value).toArray 4) := by
      rw [hh0]
      exact whole_start l hbd ⟨B.exec, B.bytes, B.returns, hml, hown, hts, hX, hbl, B.notSynchronized, hgv⟩
    obtain ⟨t, a1, o, b1, b2, b3⟩ := K s₁ rfl X₀
    exact ⟨t, o, a1, b1, b2, b3⟩
theorem lw_pre_spec {args : Array Value} {s : State} (h : (Jvm.Cond.and given_1 narrow_1).before args s = true) (hr : rest_1_c.before args s = true) : ∃ (b : Addr) (xs : List Int32), lw_P b xs args s := by
  have hs := flat_of_before _ h
  have hq := flat_of_before _ hr
  have hc : (Cond.count 1).before args s = true := hs _ (by decide +kernel)
  have harr : (Cond.arrayOf (.arg 0) .int).before args s = true := hs _ (by decide +kernel)
  have hle : (Cond.le (.length (.arg 0)) (.int 3072)).before args s = true := hs _ (by decide +kernel)
  have hlen : (Cond.isInt (.length (.arg 0))).before args s = true := hq _ (by decide +kernel)
  have hall : (Cond.all (.arg 0) (.isInt (.elem (.arg 0) (.index 0)))).before args s = true := hq _ (by decide +kernel)
  obtain ⟨b, xs, hb, hx⟩ := State.ints_of_pre rfl harr hlen hall
  have hsm : xs.length < 2 ^ 31 := hx.choose_spec.2.2.2
  have hev : (Term.length (.arg 0)).eval args s none [] s = some (.int xs.length.toInt32) := hx.length_eval hb
  have hv := Cond.le_ints hev (show (Term.int 3072).eval args s none [] s = some (.int 3072) from rfl)
  have hd : xs.length.toInt32 ≤ 3072 := by
    simpa [Cond.before, Cond.holds, hv] using hle
  have hN : xs.length ≤ 3072 := (Int32.ofNat_le_ofNat hsm (by decide)).mp (show Int32.ofNat xs.length ≤ Int32.ofNat 3072 from hd)
  exact ⟨b, xs, Cond.one_arg hc (show args[0]? = some (.ref b) from hb), hx, hN, h⟩
theorem lw_comes (l : Launch) : Comes l x (Jvm.Cond.code x code maxLocals ret :: tables_1) room_1 (fun tb e args s => Calls_1 tb e args s ∧ rest_1 tb e args s ∧ Pre_1 tb e args s)
    (fun _ _ args s o t => lw_Q args s o t) := by
  intro p e ha hc hk s m args below hf hfit hheap happ hpre
  obtain ⟨b, xs, hP⟩ := lw_pre_spec hpre.2.2 hpre.2.1
  obtain ⟨k, o, h1, h2, h3, hQ⟩ := lw_walk l b xs p e ha hc hk s m args below hf ((Spec.applies_iff_loose hf).mp happ).1 hP trivial
  exact ⟨k, o, h1, h2, h3, hQ⟩
theorem lw_frame {s t : State} {o : Outcome} {args : Array Value} (h : Framed s o t [] 600000 7302250) :
    Framed s o t (fieldLocs frame_1_writes args s ++ arrayLocs frame_1_arrays args s ++ staticLocs frame_1_statics s) 600000 7302250 := h
theorem lw_limb (L : Cond) (hL : ∀ (args : Array Value) (s t : State), L.after args s (.returned (some (.int 1))) t = true) :
    ArmFor flags0 classFile x code maxLocals ret World_1 tables_1 room_1 Calls_1 rest_1 Pre_1
      (fun tb e a s o t => postC L tb e a s o t ∧ Framed s o t (fieldLocs frame_1_writes a s ++ arrayLocs frame_1_arrays a s ++ staticLocs frame_1_statics s) 600000 7302250) := by
  intro l _ _ _ p e ha hc hk s m args below hf hfit hheap happ hpre
  obtain ⟨k, o, h1, h2, h3, rfl, hF⟩ := lw_comes l p e ha hc hk s m args below hf hfit hheap happ hpre
  exact ⟨k, _, h1, h2, h3, hL args s _, lw_frame hF⟩
theorem i_vc : Claimed_1_1 ∧ Claimed_1_2 := ⟨lw_limb limb_1_1 (fun args s t => by simp [limb_1_1, Cond.after, Cond.holds, Cond.value]), lw_limb limb_1_2 (fun args s t => Cond.after_iff.mpr (by
  first | (rw [show limb_1_2 = Cond.eq .result (.int 1) from rfl, Cond.eq_ints (x := 1) (y := 1) rfl rfl]; simp; done) | (simp [limb_1_2, Cond.value, Term.eval]; done)))⟩

