theorem dX6_isInputReached_0 : decode cX6_isInputReached 0 = .ok (.aload_n 0, 1) := by decide +kernel
theorem dX6_isInputReached_1 : decode cX6_isInputReached 1 = .ok (.getfield 37, 3) := by decide +kernel
theorem dX6_isInputReached_4 : decode cX6_isInputReached 4 = .ok (.getfield 82, 3) := by decide +kernel
theorem dX6_isInputReached_7 : decode cX6_isInputReached 7 = .ok (.iload_n 1, 1) := by decide +kernel
theorem dX6_isInputReached_8 : decode cX6_isInputReached 8 = .ok (.iaload, 1) := by decide +kernel
theorem dX6_isInputReached_9 : decode cX6_isInputReached 9 = .ok (.istore_n 2, 1) := by decide +kernel
theorem dX6_isInputReached_10 : decode cX6_isInputReached 10 = .ok (.iload_n 2, 1) := by decide +kernel
theorem dX6_isInputReached_11 : decode cX6_isInputReached 11 = .ok (.ifCond .lt 16, 3) := by decide +kernel
theorem dX6_isInputReached_27 : decode cX6_isInputReached 27 = .ok (.iconst 0, 1) := by decide +kernel
theorem dX6_isInputReached_28 : decode cX6_isInputReached 28 = .ok (.ireturn, 1) := by decide +kernel
theorem dX6_isInputReached_14 : decode cX6_isInputReached 14 = .ok (.aload_n 0, 1) := by decide +kernel
theorem dX6_isInputReached_15 : decode cX6_isInputReached 15 = .ok (.getfield 9, 3) := by decide +kernel
theorem dX6_isInputReached_18 : decode cX6_isInputReached 18 = .ok (.iload_n 2, 1) := by decide +kernel
theorem dX6_isInputReached_19 : decode cX6_isInputReached 19 = .ok (.baload, 1) := by decide +kernel
theorem dX6_isInputReached_20 : decode cX6_isInputReached 20 = .ok (.ifCond .eq 7, 3) := by decide +kernel
theorem dX6_isInputReached_23 : decode cX6_isInputReached 23 = .ok (.iconst 1, 1) := by decide +kernel
theorem dX6_isInputReached_24 : decode cX6_isInputReached 24 = .ok (.goto 4, 3) := by decide +kernel
def wo_q_inReached : List Cond := [.code yX6_isInputReached cX6_isInputReached 3 (some .boolean), .fieldLink RX6 37 "TimingHouse$Timing" "net" "LTimingHouse$Net;", .fieldLink RX6 9 "TimingHouse$Timing" "reached" "[Z"]
def wr_q_inReached : List Cond := (wsX10 ++ (wsX60 ++ ([])))
def w_q_inReached : List Cond := wo_q_inReached ++ wr_q_inReached
theorem wg_q_inReached : GW w_q_inReached := GW_app (GW_of (by decide +kernel)) (GW_app (GW_of (by decide +kernel)) (GW_app (GW_of (by decide +kernel)) (GW_nil)))
theorem i_q_inReached_X1 : ∀ w ∈ wsX10, w ∈ w_q_inReached := fun _ h => List.mem_append_right _ (List.mem_append_left _ h)
theorem i_q_inReached_X6 : ∀ w ∈ wsX60, w ∈ w_q_inReached := fun _ h => List.mem_append_right _ (List.mem_append_right _ (List.mem_append_left _ h))
set_option maxHeartbeats 8000000 in
set_option maxRecDepth 100000 in
theorem q_inReached (l : Launch) (E : gE) (o_i o_n o_z o_k o_t a_i_reached a_i_open a_i_lateDelays a_i_earlyDelays a_i_lateSlopes a_i_earlySlopes a_i_lateArrivals a_i_earlyArrivals a_n_kinds a_n_inputs a_n_tables a_n_sizes a_n_extras a_n_sources a_n_takers a_n_firstTaker a_n_order a_n_tally a_n_behind : Nat) (f_n_cells f_n_ordered p1 : Int32) (g_n_sources : Nat → Int32) (g_i_reached : Nat → Int32) (r_f_n_cells : RG f_n_cells 0 50) (r_f_n_ordered : RG f_n_ordered 0 50) (i_g_n_sources : AR g_n_sources 200 (-5) 49) (i_g_i_reached : AR g_i_reached 50 0 1) (r_p1 : RG p1 0 199) : CtI l E yX6_isInputReached w_q_inReached ({ frames := 0, cells := 0, slots := 0, locals := 0 }) [(o_i, .inr (6, [.ref o_n, .ref o_z, .ref o_k, .ref o_t, .ref a_i_reached, .ref a_i_open, .ref a_i_lateDelays, .ref a_i_earlyDelays, .ref a_i_lateSlopes, .ref a_i_earlySlopes, .ref a_i_lateArrivals, .ref a_i_earlyArrivals])), (o_n, .inr (1, [.int f_n_cells, .ref a_n_kinds, .ref a_n_inputs, .ref a_n_tables, .ref a_n_sizes, .ref a_n_extras, .ref a_n_sources, .ref a_n_takers, .ref a_n_firstTaker, .ref a_n_order, .int f_n_ordered, .ref a_n_tally, .ref a_n_behind])), (a_n_sources, aI E 200 g_n_sources), (a_i_reached, aZ E 50 g_i_reached)] [.ref o_i, .int p1] (fun r w => (0 ≤ r.toInt ∧ r.toInt ≤ 1) ∧ (r.toInt ≠ 0 → 0 ≤ (g_n_sources p1.toNatClampNeg).toInt) ∧ w = [(o_i, .inr (6, [.ref o_n, .ref o_z, .ref o_k, .ref o_t, .ref a_i_reached, .ref a_i_open, .ref a_i_lateDelays, .ref a_i_earlyDelays, .ref a_i_lateSlopes, .ref a_i_earlySlopes, .ref a_i_lateArrivals, .ref a_i_earlyArrivals])), (o_n, .inr (1, [.int f_n_cells, .ref a_n_kinds, .ref a_n_inputs, .ref a_n_tables, .ref a_n_sizes, .ref a_n_extras, .ref a_n_sources, .ref a_n_takers, .ref a_n_firstTaker, .ref a_n_order, .int f_n_ordered, .ref a_n_tally, .ref a_n_behind])), (a_n_sources, aI E 200 g_n_sources), (a_i_reached, aZ E 50 g_i_reached)]) := by
  refine CtI.of (cc := cX6_isInputReached) (maxL := 3) (rt := (some .boolean)) (by decide) rfl (Nat.le_of_ble_eq_true rfl) ?_
  intro p e s m below meth c A B ls hl
  obtain ⟨hx, hb, hml, hr, hlk, hin, hts, hown, hK, hN, hZ, hA, hP, hD, hS⟩ := B
  replace hown : s.vm.findClass RX6 = some m.cls := hown
  have hto : ∀ w ∈ wo_q_inReached, w.before _ s = true := fun w h => hts w (List.mem_append_left _ h)
  replace hl : lv_has ls 3 [(0, .ref o_i), (1, .int p1)] := hl
  obtain ⟨H, hHe⟩ : ∃ H, H = s.heap := ⟨_, rfl⟩
  obtain ⟨locs, hle⟩ : ∃ l : List Loc, l = [] := ⟨_, rfl⟩
  replace hS : va_S A s.heap H locs := by rw [hHe, hle]; exact hS
  replace hP : va_P E.1 vwCl [(o_i, .inr (6, [.ref o_n, .ref o_z, .ref o_k, .ref o_t, .ref a_i_reached, .ref a_i_open, .ref a_i_lateDelays, .ref a_i_earlyDelays, .ref a_i_lateSlopes, .ref a_i_earlySlopes, .ref a_i_lateArrivals, .ref a_i_earlyArrivals])), (o_n, .inr (1, [.int f_n_cells, .ref a_n_kinds, .ref a_n_inputs, .ref a_n_tables, .ref a_n_sizes, .ref a_n_extras, .ref a_n_sources, .ref a_n_takers, .ref a_n_firstTaker, .ref a_n_order, .int f_n_ordered, .ref a_n_tally, .ref a_n_behind])), (a_n_sources, aI E 200 g_n_sources), (a_i_reached, aZ E 50 g_i_reached)] H := by rw [hHe]; exact hP
  refine W_hl hHe hle ?_
  clear hHe hle
  refine lv_aload_n hx hb dX6_isInputReached_0 rfl (lv_at hl 0 rfl) ?_
  refine va_get (D := E.1) (ci := 6) (v := .ref o_n) (own := RX6) (C := RX6) (T := TX6) (N := 12) hx hb hts i_q_inReached_X6 hown hK hP 0 rfl rfl 0 (by decide) (hto (.fieldLink RX6 37 "TimingHouse$Timing" "net" "LTimingHouse$Net;") (by decide +kernel)) (fun _ h9 => h9) rfl dX6_isInputReached_1 ?_
  refine va_getN (D := E.1) (ci := 1) (v := .ref a_n_sources) (own := RX6) (ref := "TimingHouse$Net") (host := "TimingHouse") (C := RX1) (T := TX1) (N := 13) hx hb hts i_q_inReached_X1 hown hK hP 1 rfl rfl 6 (by decide) (nw_F hN 16 rfl) (fun _ h9 => h9) rfl dX6_isInputReached_4 ?_
  refine lv_iload_n hx hb dX6_isInputReached_7 rfl (lv_at hl 1 rfl) ?_
  have b_p1 := r_p1.out
  refine ld_i hx hb hK hP 2 rfl (by omega) dX6_isInputReached_8 (fun x_1 ex_1 => ?_)
  have q_x_1 : x_1.toInt = (g_n_sources p1.toNatClampNeg).toInt := i3_eq ex_1
  have b_x_1 := AR.rd i_g_n_sources ex_1 (by omega)
  refine lv_istore_n (lv' := [(2, .int x_1), (0, .ref o_i), (1, .int p1)]) hx hb dX6_isInputReached_9 rfl hl (by decide) rfl (fun ls hl => ?_)
  refine lv_iload_n hx hb dX6_isInputReached_10 rfl (lv_at hl 0 rfl) ?_
  refine lv_if_lt (tgt := 27) hx hb dX6_isInputReached_11 (by decide) (fun c_2 => ?_) (fun c_2 => ?_)
  · have e_2 : x_1.toInt < 0 := i3_lt c_2
    refine lv_iconst (v := 0) hx hb dX6_isInputReached_27 (by decide) ?_
    exact ret_i hx hb hr hlk (hP.sub (ws' := [(o_i, .inr (6, [.ref o_n, .ref o_z, .ref o_k, .ref o_t, .ref a_i_reached, .ref a_i_open, .ref a_i_lateDelays, .ref a_i_earlyDelays, .ref a_i_lateSlopes, .ref a_i_earlySlopes, .ref a_i_lateArrivals, .ref a_i_earlyArrivals])), (o_n, .inr (1, [.int f_n_cells, .ref a_n_kinds, .ref a_n_inputs, .ref a_n_tables, .ref a_n_sizes, .ref a_n_extras, .ref a_n_sources, .ref a_n_takers, .ref a_n_firstTaker, .ref a_n_order, .int f_n_ordered, .ref a_n_tally, .ref a_n_behind])), (a_n_sources, aI E 200 g_n_sources), (a_i_reached, aZ E 50 g_i_reached)]) [0, 1, 2, 3] rfl) (hD.sub (ws' := [(o_i, .inr (6, [.ref o_n, .ref o_z, .ref o_k, .ref o_t, .ref a_i_reached, .ref a_i_open, .ref a_i_lateDelays, .ref a_i_earlyDelays, .ref a_i_lateSlopes, .ref a_i_earlySlopes, .ref a_i_lateArrivals, .ref a_i_earlyArrivals])), (o_n, .inr (1, [.int f_n_cells, .ref a_n_kinds, .ref a_n_inputs, .ref a_n_tables, .ref a_n_sizes, .ref a_n_extras, .ref a_n_sources, .ref a_n_takers, .ref a_n_firstTaker, .ref a_n_order, .int f_n_ordered, .ref a_n_tally, .ref a_n_behind])), (a_n_sources, aI E 200 g_n_sources), (a_i_reached, aZ E 50 g_i_reached)]) [0, 1, 2, 3] (by decide) rfl) hS rfl dX6_isInputReached_28 (Nat.le_of_ble_eq_true rfl) (Nat.le_of_ble_eq_true rfl) ⟨(by decide), (by have e9 : (0 : Int32).toInt = 0 := rfl; omega), rfl⟩
  · have e_2 : 0 ≤ x_1.toInt := i3_nlt c_2
    refine lv_aload_n hx hb dX6_isInputReached_14 rfl (lv_at hl 1 rfl) ?_
    refine va_get (D := E.1) (ci := 6) (v := .ref a_i_reached) (own := RX6) (C := RX6) (T := TX6) (N := 12) hx hb hts i_q_inReached_X6 hown hK hP 0 rfl rfl 4 (by decide) (hto (.fieldLink RX6 9 "TimingHouse$Timing" "reached" "[Z") (by decide +kernel)) (fun _ h9 => h9) rfl dX6_isInputReached_15 ?_
    refine lv_iload_n hx hb dX6_isInputReached_18 rfl (lv_at hl 0 rfl) ?_
    refine ld_z hx hb hK hP 3 rfl (by omega) dX6_isInputReached_19 (fun x_3 ex_3 => ?_)
    have b_x_3 := AR.rd i_g_i_reached ex_3 (by omega)
    refine lv_if_eq (tgt := 27) hx hb dX6_isInputReached_20 (by decide) (fun c_4 => ?_) (fun c_4 => ?_)
    · have e_4 : x_3.toInt = 0 := i3_eq c_4
      refine lv_iconst (v := 0) hx hb dX6_isInputReached_27 (by decide) ?_
      exact ret_i hx hb hr hlk (hP.sub (ws' := [(o_i, .inr (6, [.ref o_n, .ref o_z, .ref o_k, .ref o_t, .ref a_i_reached, .ref a_i_open, .ref a_i_lateDelays, .ref a_i_earlyDelays, .ref a_i_lateSlopes, .ref a_i_earlySlopes, .ref a_i_lateArrivals, .ref a_i_earlyArrivals])), (o_n, .inr (1, [.int f_n_cells, .ref a_n_kinds, .ref a_n_inputs, .ref a_n_tables, .ref a_n_sizes, .ref a_n_extras, .ref a_n_sources, .ref a_n_takers, .ref a_n_firstTaker, .ref a_n_order, .int f_n_ordered, .ref a_n_tally, .ref a_n_behind])), (a_n_sources, aI E 200 g_n_sources), (a_i_reached, aZ E 50 g_i_reached)]) [0, 1, 2, 3] rfl) (hD.sub (ws' := [(o_i, .inr (6, [.ref o_n, .ref o_z, .ref o_k, .ref o_t, .ref a_i_reached, .ref a_i_open, .ref a_i_lateDelays, .ref a_i_earlyDelays, .ref a_i_lateSlopes, .ref a_i_earlySlopes, .ref a_i_lateArrivals, .ref a_i_earlyArrivals])), (o_n, .inr (1, [.int f_n_cells, .ref a_n_kinds, .ref a_n_inputs, .ref a_n_tables, .ref a_n_sizes, .ref a_n_extras, .ref a_n_sources, .ref a_n_takers, .ref a_n_firstTaker, .ref a_n_order, .int f_n_ordered, .ref a_n_tally, .ref a_n_behind])), (a_n_sources, aI E 200 g_n_sources), (a_i_reached, aZ E 50 g_i_reached)]) [0, 1, 2, 3] (by decide) rfl) hS rfl dX6_isInputReached_28 (Nat.le_of_ble_eq_true rfl) (Nat.le_of_ble_eq_true rfl) ⟨(by decide), (by have e9 : (0 : Int32).toInt = 0 := rfl; omega), rfl⟩
    · have e_4 : x_3.toInt ≠ 0 := i3_ne c_4
      refine lv_iconst (v := 1) hx hb dX6_isInputReached_23 (by decide) ?_
      refine lv_goto (tgt := 28) hx hb dX6_isInputReached_24 (by decide) ?_
      exact ret_i hx hb hr hlk (hP.sub (ws' := [(o_i, .inr (6, [.ref o_n, .ref o_z, .ref o_k, .ref o_t, .ref a_i_reached, .ref a_i_open, .ref a_i_lateDelays, .ref a_i_earlyDelays, .ref a_i_lateSlopes, .ref a_i_earlySlopes, .ref a_i_lateArrivals, .ref a_i_earlyArrivals])), (o_n, .inr (1, [.int f_n_cells, .ref a_n_kinds, .ref a_n_inputs, .ref a_n_tables, .ref a_n_sizes, .ref a_n_extras, .ref a_n_sources, .ref a_n_takers, .ref a_n_firstTaker, .ref a_n_order, .int f_n_ordered, .ref a_n_tally, .ref a_n_behind])), (a_n_sources, aI E 200 g_n_sources), (a_i_reached, aZ E 50 g_i_reached)]) [0, 1, 2, 3] rfl) (hD.sub (ws' := [(o_i, .inr (6, [.ref o_n, .ref o_z, .ref o_k, .ref o_t, .ref a_i_reached, .ref a_i_open, .ref a_i_lateDelays, .ref a_i_earlyDelays, .ref a_i_lateSlopes, .ref a_i_earlySlopes, .ref a_i_lateArrivals, .ref a_i_earlyArrivals])), (o_n, .inr (1, [.int f_n_cells, .ref a_n_kinds, .ref a_n_inputs, .ref a_n_tables, .ref a_n_sizes, .ref a_n_extras, .ref a_n_sources, .ref a_n_takers, .ref a_n_firstTaker, .ref a_n_order, .int f_n_ordered, .ref a_n_tally, .ref a_n_behind])), (a_n_sources, aI E 200 g_n_sources), (a_i_reached, aZ E 50 g_i_reached)]) [0, 1, 2, 3] (by decide) rfl) hS rfl dX6_isInputReached_28 (Nat.le_of_ble_eq_true rfl) (Nat.le_of_ble_eq_true rfl) ⟨(by decide), (by have e9 : (1 : Int32).toInt = 1 := rfl; omega), rfl⟩
theorem dX6_isInputOpen_0 : decode cX6_isInputOpen 0 = .ok (.aload_n 0, 1) := by decide +kernel
theorem dX6_isInputOpen_1 : decode cX6_isInputOpen 1 = .ok (.getfield 37, 3) := by decide +kernel
theorem dX6_isInputOpen_4 : decode cX6_isInputOpen 4 = .ok (.getfield 82, 3) := by decide +kernel
theorem dX6_isInputOpen_7 : decode cX6_isInputOpen 7 = .ok (.iload_n 1, 1) := by decide +kernel
theorem dX6_isInputOpen_8 : decode cX6_isInputOpen 8 = .ok (.iaload, 1) := by decide +kernel
theorem dX6_isInputOpen_9 : decode cX6_isInputOpen 9 = .ok (.istore_n 2, 1) := by decide +kernel
theorem dX6_isInputOpen_10 : decode cX6_isInputOpen 10 = .ok (.iload_n 2, 1) := by decide +kernel
theorem dX6_isInputOpen_11 : decode cX6_isInputOpen 11 = .ok (.ifCond .lt 16, 3) := by decide +kernel
theorem dX6_isInputOpen_27 : decode cX6_isInputOpen 27 = .ok (.iconst 0, 1) := by decide +kernel
theorem dX6_isInputOpen_28 : decode cX6_isInputOpen 28 = .ok (.ireturn, 1) := by decide +kernel
theorem dX6_isInputOpen_14 : decode cX6_isInputOpen 14 = .ok (.aload_n 0, 1) := by decide +kernel
theorem dX6_isInputOpen_15 : decode cX6_isInputOpen 15 = .ok (.getfield 15, 3) := by decide +kernel
theorem dX6_isInputOpen_18 : decode cX6_isInputOpen 18 = .ok (.iload_n 2, 1) := by decide +kernel
theorem dX6_isInputOpen_19 : decode cX6_isInputOpen 19 = .ok (.iaload, 1) := by decide +kernel
theorem dX6_isInputOpen_20 : decode cX6_isInputOpen 20 = .ok (.ifCond .eq 7, 3) := by decide +kernel
theorem dX6_isInputOpen_23 : decode cX6_isInputOpen 23 = .ok (.iconst 1, 1) := by decide +kernel
theorem dX6_isInputOpen_24 : decode cX6_isInputOpen 24 = .ok (.goto 4, 3) := by decide +kernel
def wo_q_inOpen : List Cond := [.code yX6_isInputOpen cX6_isInputOpen 3 (some .boolean), .fieldLink RX6 37 "TimingHouse$Timing" "net" "LTimingHouse$Net;", .fieldLink RX6 15 "TimingHouse$Timing" "open" "[I"]
def wr_q_inOpen : List Cond := (wsX10 ++ (wsX60 ++ ([])))
def w_q_inOpen : List Cond := wo_q_inOpen ++ wr_q_inOpen
theorem wg_q_inOpen : GW w_q_inOpen := GW_app (GW_of (by decide +kernel)) (GW_app (GW_of (by decide +kernel)) (GW_app (GW_of (by decide +kernel)) (GW_nil)))
theorem i_q_inOpen_X1 : ∀ w ∈ wsX10, w ∈ w_q_inOpen := fun _ h => List.mem_append_right _ (List.mem_append_left _ h)
theorem i_q_inOpen_X6 : ∀ w ∈ wsX60, w ∈ w_q_inOpen := fun _ h => List.mem_append_right _ (List.mem_append_right _ (List.mem_append_left _ h))
set_option maxHeartbeats 8000000 in
set_option maxRecDepth 100000 in
theorem q_inOpen (l : Launch) (E : gE) (o_i o_n o_z o_k o_t a_i_reached a_i_open a_i_lateDelays a_i_earlyDelays a_i_lateSlopes a_i_earlySlopes a_i_lateArrivals a_i_earlyArrivals a_n_kinds a_n_inputs a_n_tables a_n_sizes a_n_extras a_n_sources a_n_takers a_n_firstTaker a_n_order a_n_tally a_n_behind : Nat) (f_n_cells f_n_ordered p1 : Int32) (g_n_sources : Nat → Int32) (g_i_open : Nat → Int32) (r_f_n_cells : RG f_n_cells 0 50) (r_f_n_ordered : RG f_n_ordered 0 50) (i_g_n_sources : AR g_n_sources 200 (-5) 49) (r_p1 : RG p1 0 199) : CtI l E yX6_isInputOpen w_q_inOpen ({ frames := 0, cells := 0, slots := 0, locals := 0 }) [(o_i, .inr (6, [.ref o_n, .ref o_z, .ref o_k, .ref o_t, .ref a_i_reached, .ref a_i_open, .ref a_i_lateDelays, .ref a_i_earlyDelays, .ref a_i_lateSlopes, .ref a_i_earlySlopes, .ref a_i_lateArrivals, .ref a_i_earlyArrivals])), (o_n, .inr (1, [.int f_n_cells, .ref a_n_kinds, .ref a_n_inputs, .ref a_n_tables, .ref a_n_sizes, .ref a_n_extras, .ref a_n_sources, .ref a_n_takers, .ref a_n_firstTaker, .ref a_n_order, .int f_n_ordered, .ref a_n_tally, .ref a_n_behind])), (a_n_sources, aI E 200 g_n_sources), (a_i_open, aI E 50 g_i_open)] [.ref o_i, .int p1] (fun r w => (0 ≤ r.toInt ∧ r.toInt ≤ 1) ∧ w = [(o_i, .inr (6, [.ref o_n, .ref o_z, .ref o_k, .ref o_t, .ref a_i_reached, .ref a_i_open, .ref a_i_lateDelays, .ref a_i_earlyDelays, .ref a_i_lateSlopes, .ref a_i_earlySlopes, .ref a_i_lateArrivals, .ref a_i_earlyArrivals])), (o_n, .inr (1, [.int f_n_cells, .ref a_n_kinds, .ref a_n_inputs, .ref a_n_tables, .ref a_n_sizes, .ref a_n_extras, .ref a_n_sources, .ref a_n_takers, .ref a_n_firstTaker, .ref a_n_order, .int f_n_ordered, .ref a_n_tally, .ref a_n_behind])), (a_n_sources, aI E 200 g_n_sources), (a_i_open, aI E 50 g_i_open)]) := by
  refine CtI.of (cc := cX6_isInputOpen) (maxL := 3) (rt := (some .boolean)) (by decide) rfl (Nat.le_of_ble_eq_true rfl) ?_
  intro p e s m below meth c A B ls hl
  obtain ⟨hx, hb, hml, hr, hlk, hin, hts, hown, hK, hN, hZ, hA, hP, hD, hS⟩ := B
  replace hown : s.vm.findClass RX6 = some m.cls := hown
  have hto : ∀ w ∈ wo_q_inOpen, w.before _ s = true := fun w h => hts w (List.mem_append_left _ h)
  replace hl : lv_has ls 3 [(0, .ref o_i), (1, .int p1)] := hl
  obtain ⟨H, hHe⟩ : ∃ H, H = s.heap := ⟨_, rfl⟩
  obtain ⟨locs, hle⟩ : ∃ l : List Loc, l = [] := ⟨_, rfl⟩
  replace hS : va_S A s.heap H locs := by rw [hHe, hle]; exact hS
  replace hP : va_P E.1 vwCl [(o_i, .inr (6, [.ref o_n, .ref o_z, .ref o_k, .ref o_t, .ref a_i_reached, .ref a_i_open, .ref a_i_lateDelays, .ref a_i_earlyDelays, .ref a_i_lateSlopes, .ref a_i_earlySlopes, .ref a_i_lateArrivals, .ref a_i_earlyArrivals])), (o_n, .inr (1, [.int f_n_cells, .ref a_n_kinds, .ref a_n_inputs, .ref a_n_tables, .ref a_n_sizes, .ref a_n_extras, .ref a_n_sources, .ref a_n_takers, .ref a_n_firstTaker, .ref a_n_order, .int f_n_ordered, .ref a_n_tally, .ref a_n_behind])), (a_n_sources, aI E 200 g_n_sources), (a_i_open, aI E 50 g_i_open)] H := by rw [hHe]; exact hP
  refine W_hl hHe hle ?_
  clear hHe hle
  refine lv_aload_n hx hb dX6_isInputOpen_0 rfl (lv_at hl 0 rfl) ?_
  refine va_get (D := E.1) (ci := 6) (v := .ref o_n) (own := RX6) (C := RX6) (T := TX6) (N := 12) hx hb hts i_q_inOpen_X6 hown hK hP 0 rfl rfl 0 (by decide) (hto (.fieldLink RX6 37 "TimingHouse$Timing" "net" "LTimingHouse$Net;") (by decide +kernel)) (fun _ h9 => h9) rfl dX6_isInputOpen_1 ?_
  refine va_getN (D := E.1) (ci := 1) (v := .ref a_n_sources) (own := RX6) (ref := "TimingHouse$Net") (host := "TimingHouse") (C := RX1) (T := TX1) (N := 13) hx hb hts i_q_inOpen_X1 hown hK hP 1 rfl rfl 6 (by decide) (nw_F hN 16 rfl) (fun _ h9 => h9) rfl dX6_isInputOpen_4 ?_
  refine lv_iload_n hx hb dX6_isInputOpen_7 rfl (lv_at hl 1 rfl) ?_
  have b_p1 := r_p1.out
  refine ld_i hx hb hK hP 2 rfl (by omega) dX6_isInputOpen_8 (fun x_1 ex_1 => ?_)
  have q_x_1 : x_1.toInt = (g_n_sources p1.toNatClampNeg).toInt := i3_eq ex_1
  have b_x_1 := AR.rd i_g_n_sources ex_1 (by omega)
  refine lv_istore_n (lv' := [(2, .int x_1), (0, .ref o_i), (1, .int p1)]) hx hb dX6_isInputOpen_9 rfl hl (by decide) rfl (fun ls hl => ?_)
  refine lv_iload_n hx hb dX6_isInputOpen_10 rfl (lv_at hl 0 rfl) ?_
  refine lv_if_lt (tgt := 27) hx hb dX6_isInputOpen_11 (by decide) (fun c_2 => ?_) (fun c_2 => ?_)
  · have e_2 : x_1.toInt < 0 := i3_lt c_2
    refine lv_iconst (v := 0) hx hb dX6_isInputOpen_27 (by decide) ?_
    exact ret_i hx hb hr hlk (hP.sub (ws' := [(o_i, .inr (6, [.ref o_n, .ref o_z, .ref o_k, .ref o_t, .ref a_i_reached, .ref a_i_open, .ref a_i_lateDelays, .ref a_i_earlyDelays, .ref a_i_lateSlopes, .ref a_i_earlySlopes, .ref a_i_lateArrivals, .ref a_i_earlyArrivals])), (o_n, .inr (1, [.int f_n_cells, .ref a_n_kinds, .ref a_n_inputs, .ref a_n_tables, .ref a_n_sizes, .ref a_n_extras, .ref a_n_sources, .ref a_n_takers, .ref a_n_firstTaker, .ref a_n_order, .int f_n_ordered, .ref a_n_tally, .ref a_n_behind])), (a_n_sources, aI E 200 g_n_sources), (a_i_open, aI E 50 g_i_open)]) [0, 1, 2, 3] rfl) (hD.sub (ws' := [(o_i, .inr (6, [.ref o_n, .ref o_z, .ref o_k, .ref o_t, .ref a_i_reached, .ref a_i_open, .ref a_i_lateDelays, .ref a_i_earlyDelays, .ref a_i_lateSlopes, .ref a_i_earlySlopes, .ref a_i_lateArrivals, .ref a_i_earlyArrivals])), (o_n, .inr (1, [.int f_n_cells, .ref a_n_kinds, .ref a_n_inputs, .ref a_n_tables, .ref a_n_sizes, .ref a_n_extras, .ref a_n_sources, .ref a_n_takers, .ref a_n_firstTaker, .ref a_n_order, .int f_n_ordered, .ref a_n_tally, .ref a_n_behind])), (a_n_sources, aI E 200 g_n_sources), (a_i_open, aI E 50 g_i_open)]) [0, 1, 2, 3] (by decide) rfl) hS rfl dX6_isInputOpen_28 (Nat.le_of_ble_eq_true rfl) (Nat.le_of_ble_eq_true rfl) ⟨(by decide), rfl⟩
  · have e_2 : 0 ≤ x_1.toInt := i3_nlt c_2
    refine lv_aload_n hx hb dX6_isInputOpen_14 rfl (lv_at hl 1 rfl) ?_
    refine va_get (D := E.1) (ci := 6) (v := .ref a_i_open) (own := RX6) (C := RX6) (T := TX6) (N := 12) hx hb hts i_q_inOpen_X6 hown hK hP 0 rfl rfl 5 (by decide) (hto (.fieldLink RX6 15 "TimingHouse$Timing" "open" "[I") (by decide +kernel)) (fun _ h9 => h9) rfl dX6_isInputOpen_15 ?_
    refine lv_iload_n hx hb dX6_isInputOpen_18 rfl (lv_at hl 0 rfl) ?_
    refine ld_i hx hb hK hP 3 rfl (by omega) dX6_isInputOpen_19 (fun x_3 ex_3 => ?_)
    refine lv_if_eq (tgt := 27) hx hb dX6_isInputOpen_20 (by decide) (fun c_4 => ?_) (fun c_4 => ?_)
    · have e_4 : x_3.toInt = 0 := i3_eq c_4
      refine lv_iconst (v := 0) hx hb dX6_isInputOpen_27 (by decide) ?_
      exact ret_i hx hb hr hlk (hP.sub (ws' := [(o_i, .inr (6, [.ref o_n, .ref o_z, .ref o_k, .ref o_t, .ref a_i_reached, .ref a_i_open, .ref a_i_lateDelays, .ref a_i_earlyDelays, .ref a_i_lateSlopes, .ref a_i_earlySlopes, .ref a_i_lateArrivals, .ref a_i_earlyArrivals])), (o_n, .inr (1, [.int f_n_cells, .ref a_n_kinds, .ref a_n_inputs, .ref a_n_tables, .ref a_n_sizes, .ref a_n_extras, .ref a_n_sources, .ref a_n_takers, .ref a_n_firstTaker, .ref a_n_order, .int f_n_ordered, .ref a_n_tally, .ref a_n_behind])), (a_n_sources, aI E 200 g_n_sources), (a_i_open, aI E 50 g_i_open)]) [0, 1, 2, 3] rfl) (hD.sub (ws' := [(o_i, .inr (6, [.ref o_n, .ref o_z, .ref o_k, .ref o_t, .ref a_i_reached, .ref a_i_open, .ref a_i_lateDelays, .ref a_i_earlyDelays, .ref a_i_lateSlopes, .ref a_i_earlySlopes, .ref a_i_lateArrivals, .ref a_i_earlyArrivals])), (o_n, .inr (1, [.int f_n_cells, .ref a_n_kinds, .ref a_n_inputs, .ref a_n_tables, .ref a_n_sizes, .ref a_n_extras, .ref a_n_sources, .ref a_n_takers, .ref a_n_firstTaker, .ref a_n_order, .int f_n_ordered, .ref a_n_tally, .ref a_n_behind])), (a_n_sources, aI E 200 g_n_sources), (a_i_open, aI E 50 g_i_open)]) [0, 1, 2, 3] (by decide) rfl) hS rfl dX6_isInputOpen_28 (Nat.le_of_ble_eq_true rfl) (Nat.le_of_ble_eq_true rfl) ⟨(by decide), rfl⟩
    · have e_4 : x_3.toInt ≠ 0 := i3_ne c_4
      refine lv_iconst (v := 1) hx hb dX6_isInputOpen_23 (by decide) ?_
      refine lv_goto (tgt := 28) hx hb dX6_isInputOpen_24 (by decide) ?_
      exact ret_i hx hb hr hlk (hP.sub (ws' := [(o_i, .inr (6, [.ref o_n, .ref o_z, .ref o_k, .ref o_t, .ref a_i_reached, .ref a_i_open, .ref a_i_lateDelays, .ref a_i_earlyDelays, .ref a_i_lateSlopes, .ref a_i_earlySlopes, .ref a_i_lateArrivals, .ref a_i_earlyArrivals])), (o_n, .inr (1, [.int f_n_cells, .ref a_n_kinds, .ref a_n_inputs, .ref a_n_tables, .ref a_n_sizes, .ref a_n_extras, .ref a_n_sources, .ref a_n_takers, .ref a_n_firstTaker, .ref a_n_order, .int f_n_ordered, .ref a_n_tally, .ref a_n_behind])), (a_n_sources, aI E 200 g_n_sources), (a_i_open, aI E 50 g_i_open)]) [0, 1, 2, 3] rfl) (hD.sub (ws' := [(o_i, .inr (6, [.ref o_n, .ref o_z, .ref o_k, .ref o_t, .ref a_i_reached, .ref a_i_open, .ref a_i_lateDelays, .ref a_i_earlyDelays, .ref a_i_lateSlopes, .ref a_i_earlySlopes, .ref a_i_lateArrivals, .ref a_i_earlyArrivals])), (o_n, .inr (1, [.int f_n_cells, .ref a_n_kinds, .ref a_n_inputs, .ref a_n_tables, .ref a_n_sizes, .ref a_n_extras, .ref a_n_sources, .ref a_n_takers, .ref a_n_firstTaker, .ref a_n_order, .int f_n_ordered, .ref a_n_tally, .ref a_n_behind])), (a_n_sources, aI E 200 g_n_sources), (a_i_open, aI E 50 g_i_open)]) [0, 1, 2, 3] (by decide) rfl) hS rfl dX6_isInputOpen_28 (Nat.le_of_ble_eq_true rfl) (Nat.le_of_ble_eq_true rfl) ⟨(by decide), rfl⟩
theorem dX6_isReached_0 : decode cX6_isReached 0 = .ok (.aload_n 0, 1) := by decide +kernel
theorem dX6_isReached_1 : decode cX6_isReached 1 = .ok (.getfield 37, 3) := by decide +kernel
theorem dX6_isReached_4 : decode cX6_isReached 4 = .ok (.getfield 63, 3) := by decide +kernel
theorem dX6_isReached_7 : decode cX6_isReached 7 = .ok (.iload_n 1, 1) := by decide +kernel
theorem dX6_isReached_8 : decode cX6_isReached 8 = .ok (.iaload, 1) := by decide +kernel
theorem dX6_isReached_9 : decode cX6_isReached 9 = .ok (.iconst 5, 1) := by decide +kernel
theorem dX6_isReached_10 : decode cX6_isReached 10 = .ok (.if_icmp .ne 13, 3) := by decide +kernel
theorem dX6_isReached_23 : decode cX6_isReached 23 = .ok (.aload_n 0, 1) := by decide +kernel
theorem dX6_isReached_24 : decode cX6_isReached 24 = .ok (.getfield 9, 3) := by decide +kernel
theorem dX6_isReached_27 : decode cX6_isReached 27 = .ok (.iload_n 1, 1) := by decide +kernel
theorem dX6_isReached_28 : decode cX6_isReached 28 = .ok (.baload, 1) := by decide +kernel
theorem dX6_isReached_29 : decode cX6_isReached 29 = .ok (.ireturn, 1) := by decide +kernel
theorem dX6_isReached_13 : decode cX6_isReached 13 = .ok (.aload_n 0, 1) := by decide +kernel
theorem dX6_isReached_14 : decode cX6_isReached 14 = .ok (.iload_n 1, 1) := by decide +kernel
theorem dX6_isReached_15 : decode cX6_isReached 15 = .ok (.iconst 4, 1) := by decide +kernel
theorem dX6_isReached_16 : decode cX6_isReached 16 = .ok (.imul, 1) := by decide +kernel
theorem dX6_isReached_17 : decode cX6_isReached 17 = .ok (.invokevirtual 85, 3) := by decide +kernel
theorem dX6_isReached_20 : decode cX6_isReached 20 = .ok (.goto 9, 3) := by decide +kernel
def wo_q_isReached : List Cond := [.code yX6_isReached cX6_isReached 2 (some .boolean), .fieldLink RX6 37 "TimingHouse$Timing" "net" "LTimingHouse$Net;", .fieldLink RX6 9 "TimingHouse$Timing" "reached" "[Z", .methodLink RX6 85 yX6_isInputReached, .instanceMethod yX6_isInputReached, .selects RX6 yX6_isInputReached yX6_isInputReached, .initialized RX6]
def wr_q_isReached : List Cond := (wsX10 ++ (wsX60 ++ (w_q_inReached ++ ([]))))
def w_q_isReached : List Cond := wo_q_isReached ++ wr_q_isReached
theorem wg_q_isReached : GW w_q_isReached := GW_app (GW_of (by decide +kernel)) (GW_app (GW_of (by decide +kernel)) (GW_app (GW_of (by decide +kernel)) (GW_app (wg_q_inReached) (GW_nil))))
theorem i_q_isReached_X1 : ∀ w ∈ wsX10, w ∈ w_q_isReached := fun _ h => List.mem_append_right _ (List.mem_append_left _ h)
theorem i_q_isReached_X6 : ∀ w ∈ wsX60, w ∈ w_q_isReached := fun _ h => List.mem_append_right _ (List.mem_append_right _ (List.mem_append_left _ h))
theorem g_q_isReached_q_inReached_85 : GoodIn w_q_isReached (wsV RX6 85 RX6 yX6_isInputReached w_q_inReached) := goodIn_app (gi_left (goodIn_of _ (by decide +kernel))) (fun w h => ⟨List.mem_append_right _ (List.mem_append_right _ (List.mem_append_right _ (List.mem_append_left _ h))), wg_q_inReached w h⟩)
set_option maxHeartbeats 8000000 in
set_option maxRecDepth 100000 in
theorem q_isReached (l : Launch) (E : gE) (o_i o_n o_z o_k o_t a_i_reached a_i_open a_i_lateDelays a_i_earlyDelays a_i_lateSlopes a_i_earlySlopes a_i_lateArrivals a_i_earlyArrivals a_n_kinds a_n_inputs a_n_tables a_n_sizes a_n_extras a_n_sources a_n_takers a_n_firstTaker a_n_order a_n_tally a_n_behind : Nat) (f_n_cells f_n_ordered p1 : Int32) (g_n_kinds : Nat → Int32) (g_i_reached : Nat → Int32) (g_n_sources : Nat → Int32) (r_f_n_cells : RG f_n_cells 0 50) (r_f_n_ordered : RG f_n_ordered 0 50) (i_g_n_kinds : AR g_n_kinds 50 0 5) (i_g_i_reached : AR g_i_reached 50 0 1) (i_g_n_sources : AR g_n_sources 200 (-5) 49) (r_p1 : RG p1 0 49) : CtI l E yX6_isReached w_q_isReached ({ frames := 1, cells := 0, slots := 0, locals := 22 }) [(o_i, .inr (6, [.ref o_n, .ref o_z, .ref o_k, .ref o_t, .ref a_i_reached, .ref a_i_open, .ref a_i_lateDelays, .ref a_i_earlyDelays, .ref a_i_lateSlopes, .ref a_i_earlySlopes, .ref a_i_lateArrivals, .ref a_i_earlyArrivals])), (o_n, .inr (1, [.int f_n_cells, .ref a_n_kinds, .ref a_n_inputs, .ref a_n_tables, .ref a_n_sizes, .ref a_n_extras, .ref a_n_sources, .ref a_n_takers, .ref a_n_firstTaker, .ref a_n_order, .int f_n_ordered, .ref a_n_tally, .ref a_n_behind])), (a_n_kinds, aI E 50 g_n_kinds), (a_i_reached, aZ E 50 g_i_reached), (a_n_sources, aI E 200 g_n_sources)] [.ref o_i, .int p1] (fun r w => (0 ≤ r.toInt ∧ r.toInt ≤ 1) ∧ w = [(o_i, .inr (6, [.ref o_n, .ref o_z, .ref o_k, .ref o_t, .ref a_i_reached, .ref a_i_open, .ref a_i_lateDelays, .ref a_i_earlyDelays, .ref a_i_lateSlopes, .ref a_i_earlySlopes, .ref a_i_lateArrivals, .ref a_i_earlyArrivals])), (o_n, .inr (1, [.int f_n_cells, .ref a_n_kinds, .ref a_n_inputs, .ref a_n_tables, .ref a_n_sizes, .ref a_n_extras, .ref a_n_sources, .ref a_n_takers, .ref a_n_firstTaker, .ref a_n_order, .int f_n_ordered, .ref a_n_tally, .ref a_n_behind])), (a_n_kinds, aI E 50 g_n_kinds), (a_i_reached, aZ E 50 g_i_reached), (a_n_sources, aI E 200 g_n_sources)]) := by
  refine CtI.of (cc := cX6_isReached) (maxL := 2) (rt := (some .boolean)) (by decide) rfl (Nat.le_of_ble_eq_true rfl) ?_
  intro p e s m below meth c A B ls hl
  obtain ⟨hx, hb, hml, hr, hlk, hin, hts, hown, hK, hN, hZ, hA, hP, hD, hS⟩ := B
  replace hown : s.vm.findClass RX6 = some m.cls := hown
  have hto : ∀ w ∈ wo_q_isReached, w.before _ s = true := fun w h => hts w (List.mem_append_left _ h)
  replace hl : lv_has ls 2 [(0, .ref o_i), (1, .int p1)] := hl
  obtain ⟨H, hHe⟩ : ∃ H, H = s.heap := ⟨_, rfl⟩
  obtain ⟨locs, hle⟩ : ∃ l : List Loc, l = [] := ⟨_, rfl⟩
  replace hS : va_S A s.heap H locs := by rw [hHe, hle]; exact hS
  replace hP : va_P E.1 vwCl [(o_i, .inr (6, [.ref o_n, .ref o_z, .ref o_k, .ref o_t, .ref a_i_reached, .ref a_i_open, .ref a_i_lateDelays, .ref a_i_earlyDelays, .ref a_i_lateSlopes, .ref a_i_earlySlopes, .ref a_i_lateArrivals, .ref a_i_earlyArrivals])), (o_n, .inr (1, [.int f_n_cells, .ref a_n_kinds, .ref a_n_inputs, .ref a_n_tables, .ref a_n_sizes, .ref a_n_extras, .ref a_n_sources, .ref a_n_takers, .ref a_n_firstTaker, .ref a_n_order, .int f_n_ordered, .ref a_n_tally, .ref a_n_behind])), (a_n_kinds, aI E 50 g_n_kinds), (a_i_reached, aZ E 50 g_i_reached), (a_n_sources, aI E 200 g_n_sources)] H := by rw [hHe]; exact hP
  refine W_hl hHe hle ?_
  clear hHe hle
  refine lv_aload_n hx hb dX6_isReached_0 rfl (lv_at hl 0 rfl) ?_
  refine va_get (D := E.1) (ci := 6) (v := .ref o_n) (own := RX6) (C := RX6) (T := TX6) (N := 12) hx hb hts i_q_isReached_X6 hown hK hP 0 rfl rfl 0 (by decide) (hto (.fieldLink RX6 37 "TimingHouse$Timing" "net" "LTimingHouse$Net;") (by decide +kernel)) (fun _ h9 => h9) rfl dX6_isReached_1 ?_
  refine va_getN (D := E.1) (ci := 1) (v := .ref a_n_kinds) (own := RX6) (ref := "TimingHouse$Net") (host := "TimingHouse") (C := RX1) (T := TX1) (N := 13) hx hb hts i_q_isReached_X1 hown hK hP 1 rfl rfl 1 (by decide) (nw_F hN 4 rfl) (fun _ h9 => h9) rfl dX6_isReached_4 ?_
  refine lv_iload_n hx hb dX6_isReached_7 rfl (lv_at hl 1 rfl) ?_
  have b_p1 := r_p1.out
  refine ld_i hx hb hK hP 2 rfl (by omega) dX6_isReached_8 (fun x_1 ex_1 => ?_)
  have b_x_1 := AR.rd i_g_n_kinds ex_1 (by omega)
  refine lv_iconst (v := 5) hx hb dX6_isReached_9 (by decide) ?_
  refine lv_icmp_ne (tgt := 23) hx hb dX6_isReached_10 (by decide) (fun c_2 => ?_) (fun c_2 => ?_)
  · have e_2 : x_1.toInt ≠ 5 := i3_ne c_2
    refine lv_aload_n hx hb dX6_isReached_23 rfl (lv_at hl 0 rfl) ?_
    refine va_get (D := E.1) (ci := 6) (v := .ref a_i_reached) (own := RX6) (C := RX6) (T := TX6) (N := 12) hx hb hts i_q_isReached_X6 hown hK hP 0 rfl rfl 4 (by decide) (hto (.fieldLink RX6 9 "TimingHouse$Timing" "reached" "[Z") (by decide +kernel)) (fun _ h9 => h9) rfl dX6_isReached_24 ?_
    refine lv_iload_n hx hb dX6_isReached_27 rfl (lv_at hl 1 rfl) ?_
    refine ld_z hx hb hK hP 3 rfl (by omega) dX6_isReached_28 (fun x_3 ex_3 => ?_)
    have b_x_3 := AR.rd i_g_i_reached ex_3 (by omega)
    exact ret_i hx hb hr hlk (hP.sub (ws' := [(o_i, .inr (6, [.ref o_n, .ref o_z, .ref o_k, .ref o_t, .ref a_i_reached, .ref a_i_open, .ref a_i_lateDelays, .ref a_i_earlyDelays, .ref a_i_lateSlopes, .ref a_i_earlySlopes, .ref a_i_lateArrivals, .ref a_i_earlyArrivals])), (o_n, .inr (1, [.int f_n_cells, .ref a_n_kinds, .ref a_n_inputs, .ref a_n_tables, .ref a_n_sizes, .ref a_n_extras, .ref a_n_sources, .ref a_n_takers, .ref a_n_firstTaker, .ref a_n_order, .int f_n_ordered, .ref a_n_tally, .ref a_n_behind])), (a_n_kinds, aI E 50 g_n_kinds), (a_i_reached, aZ E 50 g_i_reached), (a_n_sources, aI E 200 g_n_sources)]) [0, 1, 2, 3, 4] rfl) (hD.sub (ws' := [(o_i, .inr (6, [.ref o_n, .ref o_z, .ref o_k, .ref o_t, .ref a_i_reached, .ref a_i_open, .ref a_i_lateDelays, .ref a_i_earlyDelays, .ref a_i_lateSlopes, .ref a_i_earlySlopes, .ref a_i_lateArrivals, .ref a_i_earlyArrivals])), (o_n, .inr (1, [.int f_n_cells, .ref a_n_kinds, .ref a_n_inputs, .ref a_n_tables, .ref a_n_sizes, .ref a_n_extras, .ref a_n_sources, .ref a_n_takers, .ref a_n_firstTaker, .ref a_n_order, .int f_n_ordered, .ref a_n_tally, .ref a_n_behind])), (a_n_kinds, aI E 50 g_n_kinds), (a_i_reached, aZ E 50 g_i_reached), (a_n_sources, aI E 200 g_n_sources)]) [0, 1, 2, 3, 4] (by decide) rfl) hS (nb_01 (by omega)) dX6_isReached_29 (Nat.le_of_ble_eq_true rfl) (Nat.le_of_ble_eq_true rfl) ⟨(by omega), rfl⟩
  · have e_2 : x_1.toInt = 5 := i3_eq c_2
    refine lv_aload_n hx hb dX6_isReached_13 rfl (lv_at hl 0 rfl) ?_
    refine lv_iload_n hx hb dX6_isReached_14 rfl (lv_at hl 1 rfl) ?_
    refine lv_iconst (v := 4) hx hb dX6_isReached_15 (by decide) ?_
    refine lv_imul hx hb dX6_isReached_16 ?_
    refine lv_topi (fun x_4 ex_4 => ?_)
    have tx_4 : x_4.toInt = p1.toInt * 4 := i3_mulc rfl rfl ex_4 (by omega)
    refine call_i (va_runV (As := [.int x_4]) (rest := []) ⟨hx, hb, hml, hown, hts⟩ (q_inReached l E o_i o_n o_z o_k o_t a_i_reached a_i_open a_i_lateDelays a_i_earlyDelays a_i_lateSlopes a_i_earlySlopes a_i_lateArrivals a_i_earlyArrivals a_n_kinds a_n_inputs a_n_tables a_n_sizes a_n_extras a_n_sources a_n_takers a_n_firstTaker a_n_order a_n_tally a_n_behind f_n_cells f_n_ordered x_4 g_n_sources g_i_reached r_f_n_cells r_f_n_ordered i_g_n_sources i_g_i_reached (RG.mk (by omega)) H.size) (cwV 1 hts g_q_isReached_q_inReached_85 rfl rfl rfl (by decide +kernel) ⟨Nat.le_of_ble_eq_true rfl, Nat.le_of_ble_eq_true rfl⟩) (pre_V hK hN hZ hS (va_free hD hS hA [0, 1, 4, 3] rfl) (hP.sub (ws' := [(o_i, .inr (6, [.ref o_n, .ref o_z, .ref o_k, .ref o_t, .ref a_i_reached, .ref a_i_open, .ref a_i_lateDelays, .ref a_i_earlyDelays, .ref a_i_lateSlopes, .ref a_i_earlySlopes, .ref a_i_lateArrivals, .ref a_i_earlyArrivals])), (o_n, .inr (1, [.int f_n_cells, .ref a_n_kinds, .ref a_n_inputs, .ref a_n_tables, .ref a_n_sizes, .ref a_n_extras, .ref a_n_sources, .ref a_n_takers, .ref a_n_firstTaker, .ref a_n_order, .int f_n_ordered, .ref a_n_tally, .ref a_n_behind])), (a_n_sources, aI E 200 g_n_sources), (a_i_reached, aZ E 50 g_i_reached)]) [0, 1, 4, 3] rfl) (hD.sub (ws' := [(o_i, .inr (6, [.ref o_n, .ref o_z, .ref o_k, .ref o_t, .ref a_i_reached, .ref a_i_open, .ref a_i_lateDelays, .ref a_i_earlyDelays, .ref a_i_lateSlopes, .ref a_i_earlySlopes, .ref a_i_lateArrivals, .ref a_i_earlyArrivals])), (o_n, .inr (1, [.int f_n_cells, .ref a_n_kinds, .ref a_n_inputs, .ref a_n_tables, .ref a_n_sizes, .ref a_n_extras, .ref a_n_sources, .ref a_n_takers, .ref a_n_firstTaker, .ref a_n_order, .int f_n_ordered, .ref a_n_tally, .ref a_n_behind])), (a_n_sources, aI E 200 g_n_sources), (a_i_reached, aZ E 50 g_i_reached)]) [0, 1, 4, 3] (by decide) rfl) (ci := 6) (q0 := 0) rfl rfl) rfl rfl hl.1 rfl (lv_room (Nat.le_of_ble_eq_true rfl)) dX6_isReached_17 ⟨Nat.le_of_ble_eq_true rfl, Nat.le_of_ble_eq_true rfl⟩) hP hD hS hA [0, 1, 4, 3] [2] (wr := [(a_n_kinds, aI E 50 g_n_kinds)]) rfl rfl (by decide) (by decide) (fun r_5 w H locs hw hP hD hS => ?_)
    obtain ⟨b_r_5, l_r_5, rfl⟩ := hw
    replace l_r_5 : (r_5.toInt ≠ 0 → 0 ≤ (g_n_sources x_4.toNatClampNeg).toInt) := l_r_5
    replace hP : va_P E.1 vwCl [(a_n_kinds, aI E 50 g_n_kinds), (o_i, .inr (6, [.ref o_n, .ref o_z, .ref o_k, .ref o_t, .ref a_i_reached, .ref a_i_open, .ref a_i_lateDelays, .ref a_i_earlyDelays, .ref a_i_lateSlopes, .ref a_i_earlySlopes, .ref a_i_lateArrivals, .ref a_i_earlyArrivals])), (o_n, .inr (1, [.int f_n_cells, .ref a_n_kinds, .ref a_n_inputs, .ref a_n_tables, .ref a_n_sizes, .ref a_n_extras, .ref a_n_sources, .ref a_n_takers, .ref a_n_firstTaker, .ref a_n_order, .int f_n_ordered, .ref a_n_tally, .ref a_n_behind])), (a_n_sources, aI E 200 g_n_sources), (a_i_reached, aZ E 50 g_i_reached)] H := hP
    replace hD : va_D A [(a_n_kinds, aI E 50 g_n_kinds), (o_i, .inr (6, [.ref o_n, .ref o_z, .ref o_k, .ref o_t, .ref a_i_reached, .ref a_i_open, .ref a_i_lateDelays, .ref a_i_earlyDelays, .ref a_i_lateSlopes, .ref a_i_earlySlopes, .ref a_i_lateArrivals, .ref a_i_earlyArrivals])), (o_n, .inr (1, [.int f_n_cells, .ref a_n_kinds, .ref a_n_inputs, .ref a_n_tables, .ref a_n_sizes, .ref a_n_extras, .ref a_n_sources, .ref a_n_takers, .ref a_n_firstTaker, .ref a_n_order, .int f_n_ordered, .ref a_n_tally, .ref a_n_behind])), (a_n_sources, aI E 200 g_n_sources), (a_i_reached, aZ E 50 g_i_reached)] := hD
    refine lv_goto (tgt := 29) hx hb dX6_isReached_20 (by decide) ?_
    exact ret_i hx hb hr hlk (hP.sub (ws' := [(o_i, .inr (6, [.ref o_n, .ref o_z, .ref o_k, .ref o_t, .ref a_i_reached, .ref a_i_open, .ref a_i_lateDelays, .ref a_i_earlyDelays, .ref a_i_lateSlopes, .ref a_i_earlySlopes, .ref a_i_lateArrivals, .ref a_i_earlyArrivals])), (o_n, .inr (1, [.int f_n_cells, .ref a_n_kinds, .ref a_n_inputs, .ref a_n_tables, .ref a_n_sizes, .ref a_n_extras, .ref a_n_sources, .ref a_n_takers, .ref a_n_firstTaker, .ref a_n_order, .int f_n_ordered, .ref a_n_tally, .ref a_n_behind])), (a_n_kinds, aI E 50 g_n_kinds), (a_i_reached, aZ E 50 g_i_reached), (a_n_sources, aI E 200 g_n_sources)]) [1, 2, 0, 4, 3] rfl) (hD.sub (ws' := [(o_i, .inr (6, [.ref o_n, .ref o_z, .ref o_k, .ref o_t, .ref a_i_reached, .ref a_i_open, .ref a_i_lateDelays, .ref a_i_earlyDelays, .ref a_i_lateSlopes, .ref a_i_earlySlopes, .ref a_i_lateArrivals, .ref a_i_earlyArrivals])), (o_n, .inr (1, [.int f_n_cells, .ref a_n_kinds, .ref a_n_inputs, .ref a_n_tables, .ref a_n_sizes, .ref a_n_extras, .ref a_n_sources, .ref a_n_takers, .ref a_n_firstTaker, .ref a_n_order, .int f_n_ordered, .ref a_n_tally, .ref a_n_behind])), (a_n_kinds, aI E 50 g_n_kinds), (a_i_reached, aZ E 50 g_i_reached), (a_n_sources, aI E 200 g_n_sources)]) [1, 2, 0, 4, 3] (by decide) rfl) hS (nb_01 (by omega)) dX6_isReached_29 (Nat.le_of_ble_eq_true rfl) (Nat.le_of_ble_eq_true rfl) ⟨(by omega), rfl⟩
theorem dX6_whyOpen_0 : decode cX6_whyOpen 0 = .ok (.aload_n 0, 1) := by decide +kernel
theorem dX6_whyOpen_1 : decode cX6_whyOpen 1 = .ok (.getfield 37, 3) := by decide +kernel
theorem dX6_whyOpen_4 : decode cX6_whyOpen 4 = .ok (.getfield 63, 3) := by decide +kernel
theorem dX6_whyOpen_7 : decode cX6_whyOpen 7 = .ok (.iload_n 1, 1) := by decide +kernel
theorem dX6_whyOpen_8 : decode cX6_whyOpen 8 = .ok (.iaload, 1) := by decide +kernel
theorem dX6_whyOpen_9 : decode cX6_whyOpen 9 = .ok (.iconst 5, 1) := by decide +kernel
theorem dX6_whyOpen_10 : decode cX6_whyOpen 10 = .ok (.if_icmp .ne 19, 3) := by decide +kernel
theorem dX6_whyOpen_29 : decode cX6_whyOpen 29 = .ok (.aload_n 0, 1) := by decide +kernel
theorem dX6_whyOpen_30 : decode cX6_whyOpen 30 = .ok (.getfield 15, 3) := by decide +kernel
theorem dX6_whyOpen_33 : decode cX6_whyOpen 33 = .ok (.iload_n 1, 1) := by decide +kernel
theorem dX6_whyOpen_34 : decode cX6_whyOpen 34 = .ok (.iaload, 1) := by decide +kernel
theorem dX6_whyOpen_35 : decode cX6_whyOpen 35 = .ok (.ireturn, 1) := by decide +kernel
theorem dX6_whyOpen_13 : decode cX6_whyOpen 13 = .ok (.aload_n 0, 1) := by decide +kernel
theorem dX6_whyOpen_14 : decode cX6_whyOpen 14 = .ok (.iload_n 1, 1) := by decide +kernel
theorem dX6_whyOpen_15 : decode cX6_whyOpen 15 = .ok (.iconst 4, 1) := by decide +kernel
theorem dX6_whyOpen_16 : decode cX6_whyOpen 16 = .ok (.imul, 1) := by decide +kernel
theorem dX6_whyOpen_17 : decode cX6_whyOpen 17 = .ok (.invokevirtual 88, 3) := by decide +kernel
theorem dX6_whyOpen_20 : decode cX6_whyOpen 20 = .ok (.ifCond .eq 7, 3) := by decide +kernel
theorem dX6_whyOpen_27 : decode cX6_whyOpen 27 = .ok (.iconst 0, 1) := by decide +kernel
theorem dX6_whyOpen_28 : decode cX6_whyOpen 28 = .ok (.ireturn, 1) := by decide +kernel
theorem dX6_whyOpen_23 : decode cX6_whyOpen 23 = .ok (.iconst 1, 1) := by decide +kernel
theorem dX6_whyOpen_24 : decode cX6_whyOpen 24 = .ok (.goto 4, 3) := by decide +kernel
def wo_q_whyOpen : List Cond := [.code yX6_whyOpen cX6_whyOpen 2 (some .int), .fieldLink RX6 37 "TimingHouse$Timing" "net" "LTimingHouse$Net;", .fieldLink RX6 15 "TimingHouse$Timing" "open" "[I", .methodLink RX6 88 yX6_isInputOpen, .instanceMethod yX6_isInputOpen, .selects RX6 yX6_isInputOpen yX6_isInputOpen, .initialized RX6]
def wr_q_whyOpen : List Cond := (wsX10 ++ (wsX60 ++ (w_q_inOpen ++ ([]))))
def w_q_whyOpen : List Cond := wo_q_whyOpen ++ wr_q_whyOpen
theorem wg_q_whyOpen : GW w_q_whyOpen := GW_app (GW_of (by decide +kernel)) (GW_app (GW_of (by decide +kernel)) (GW_app (GW_of (by decide +kernel)) (GW_app (wg_q_inOpen) (GW_nil))))
theorem i_q_whyOpen_X1 : ∀ w ∈ wsX10, w ∈ w_q_whyOpen := fun _ h => List.mem_append_right _ (List.mem_append_left _ h)
theorem i_q_whyOpen_X6 : ∀ w ∈ wsX60, w ∈ w_q_whyOpen := fun _ h => List.mem_append_right _ (List.mem_append_right _ (List.mem_append_left _ h))
theorem g_q_whyOpen_q_inOpen_88 : GoodIn w_q_whyOpen (wsV RX6 88 RX6 yX6_isInputOpen w_q_inOpen) := goodIn_app (gi_left (goodIn_of _ (by decide +kernel))) (fun w h => ⟨List.mem_append_right _ (List.mem_append_right _ (List.mem_append_right _ (List.mem_append_left _ h))), wg_q_inOpen w h⟩)
set_option maxHeartbeats 8000000 in
set_option maxRecDepth 100000 in
theorem q_whyOpen (l : Launch) (E : gE) (o_i o_n o_z o_k o_t a_i_reached a_i_open a_i_lateDelays a_i_earlyDelays a_i_lateSlopes a_i_earlySlopes a_i_lateArrivals a_i_earlyArrivals a_n_kinds a_n_inputs a_n_tables a_n_sizes a_n_extras a_n_sources a_n_takers a_n_firstTaker a_n_order a_n_tally a_n_behind : Nat) (f_n_cells f_n_ordered p1 : Int32) (g_n_kinds : Nat → Int32) (g_i_open : Nat → Int32) (g_n_sources : Nat → Int32) (r_f_n_cells : RG f_n_cells 0 50) (r_f_n_ordered : RG f_n_ordered 0 50) (i_g_n_kinds : AR g_n_kinds 50 0 5) (i_g_n_sources : AR g_n_sources 200 (-5) 49) (r_p1 : RG p1 0 49) : CtI l E yX6_whyOpen w_q_whyOpen ({ frames := 1, cells := 0, slots := 0, locals := 22 }) [(o_i, .inr (6, [.ref o_n, .ref o_z, .ref o_k, .ref o_t, .ref a_i_reached, .ref a_i_open, .ref a_i_lateDelays, .ref a_i_earlyDelays, .ref a_i_lateSlopes, .ref a_i_earlySlopes, .ref a_i_lateArrivals, .ref a_i_earlyArrivals])), (o_n, .inr (1, [.int f_n_cells, .ref a_n_kinds, .ref a_n_inputs, .ref a_n_tables, .ref a_n_sizes, .ref a_n_extras, .ref a_n_sources, .ref a_n_takers, .ref a_n_firstTaker, .ref a_n_order, .int f_n_ordered, .ref a_n_tally, .ref a_n_behind])), (a_n_kinds, aI E 50 g_n_kinds), (a_i_open, aI E 50 g_i_open), (a_n_sources, aI E 200 g_n_sources)] [.ref o_i, .int p1] (fun _ w => True ∧ w = [(o_i, .inr (6, [.ref o_n, .ref o_z, .ref o_k, .ref o_t, .ref a_i_reached, .ref a_i_open, .ref a_i_lateDelays, .ref a_i_earlyDelays, .ref a_i_lateSlopes, .ref a_i_earlySlopes, .ref a_i_lateArrivals, .ref a_i_earlyArrivals])), (o_n, .inr (1, [.int f_n_cells, .ref a_n_kinds, .ref a_n_inputs, .ref a_n_tables, .ref a_n_sizes, .ref a_n_extras, .ref a_n_sources, .ref a_n_takers, .ref a_n_firstTaker, .ref a_n_order, .int f_n_ordered, .ref a_n_tally, .ref a_n_behind])), (a_n_kinds, aI E 50 g_n_kinds), (a_i_open, aI E 50 g_i_open), (a_n_sources, aI E 200 g_n_sources)]) := by
  refine CtI.of (cc := cX6_whyOpen) (maxL := 2) (rt := (some .int)) (by decide) rfl (Nat.le_of_ble_eq_true rfl) ?_
  intro p e s m below meth c A B ls hl
  obtain ⟨hx, hb, hml, hr, hlk, hin, hts, hown, hK, hN, hZ, hA, hP, hD, hS⟩ := B
  replace hown : s.vm.findClass RX6 = some m.cls := hown
  have hto : ∀ w ∈ wo_q_whyOpen, w.before _ s = true := fun w h => hts w (List.mem_append_left _ h)
  replace hl : lv_has ls 2 [(0, .ref o_i), (1, .int p1)] := hl
  obtain ⟨H, hHe⟩ : ∃ H, H = s.heap := ⟨_, rfl⟩
  obtain ⟨locs, hle⟩ : ∃ l : List Loc, l = [] := ⟨_, rfl⟩
  replace hS : va_S A s.heap H locs := by rw [hHe, hle]; exact hS
  replace hP : va_P E.1 vwCl [(o_i, .inr (6, [.ref o_n, .ref o_z, .ref o_k, .ref o_t, .ref a_i_reached, .ref a_i_open, .ref a_i_lateDelays, .ref a_i_earlyDelays, .ref a_i_lateSlopes, .ref a_i_earlySlopes, .ref a_i_lateArrivals, .ref a_i_earlyArrivals])), (o_n, .inr (1, [.int f_n_cells, .ref a_n_kinds, .ref a_n_inputs, .ref a_n_tables, .ref a_n_sizes, .ref a_n_extras, .ref a_n_sources, .ref a_n_takers, .ref a_n_firstTaker, .ref a_n_order, .int f_n_ordered, .ref a_n_tally, .ref a_n_behind])), (a_n_kinds, aI E 50 g_n_kinds), (a_i_open, aI E 50 g_i_open), (a_n_sources, aI E 200 g_n_sources)] H := by rw [hHe]; exact hP
  refine W_hl hHe hle ?_
  clear hHe hle
  refine lv_aload_n hx hb dX6_whyOpen_0 rfl (lv_at hl 0 rfl) ?_
  refine va_get (D := E.1) (ci := 6) (v := .ref o_n) (own := RX6) (C := RX6) (T := TX6) (N := 12) hx hb hts i_q_whyOpen_X6 hown hK hP 0 rfl rfl 0 (by decide) (hto (.fieldLink RX6 37 "TimingHouse$Timing" "net" "LTimingHouse$Net;") (by decide +kernel)) (fun _ h9 => h9) rfl dX6_whyOpen_1 ?_
  refine va_getN (D := E.1) (ci := 1) (v := .ref a_n_kinds) (own := RX6) (ref := "TimingHouse$Net") (host := "TimingHouse") (C := RX1) (T := TX1) (N := 13) hx hb hts i_q_whyOpen_X1 hown hK hP 1 rfl rfl 1 (by decide) (nw_F hN 4 rfl) (fun _ h9 => h9) rfl dX6_whyOpen_4 ?_
  refine lv_iload_n hx hb dX6_whyOpen_7 rfl (lv_at hl 1 rfl) ?_
  have b_p1 := r_p1.out
  refine ld_i hx hb hK hP 2 rfl (by omega) dX6_whyOpen_8 (fun x_1 ex_1 => ?_)
  have b_x_1 := AR.rd i_g_n_kinds ex_1 (by omega)
  refine lv_iconst (v := 5) hx hb dX6_whyOpen_9 (by decide) ?_
  refine lv_icmp_ne (tgt := 29) hx hb dX6_whyOpen_10 (by decide) (fun c_2 => ?_) (fun c_2 => ?_)
  · have e_2 : x_1.toInt ≠ 5 := i3_ne c_2
    refine lv_aload_n hx hb dX6_whyOpen_29 rfl (lv_at hl 0 rfl) ?_
    refine va_get (D := E.1) (ci := 6) (v := .ref a_i_open) (own := RX6) (C := RX6) (T := TX6) (N := 12) hx hb hts i_q_whyOpen_X6 hown hK hP 0 rfl rfl 5 (by decide) (hto (.fieldLink RX6 15 "TimingHouse$Timing" "open" "[I") (by decide +kernel)) (fun _ h9 => h9) rfl dX6_whyOpen_30 ?_
    refine lv_iload_n hx hb dX6_whyOpen_33 rfl (lv_at hl 1 rfl) ?_
    refine ld_i hx hb hK hP 3 rfl (by omega) dX6_whyOpen_34 (fun x_3 ex_3 => ?_)
    exact ret_i hx hb hr hlk (hP.sub (ws' := [(o_i, .inr (6, [.ref o_n, .ref o_z, .ref o_k, .ref o_t, .ref a_i_reached, .ref a_i_open, .ref a_i_lateDelays, .ref a_i_earlyDelays, .ref a_i_lateSlopes, .ref a_i_earlySlopes, .ref a_i_lateArrivals, .ref a_i_earlyArrivals])), (o_n, .inr (1, [.int f_n_cells, .ref a_n_kinds, .ref a_n_inputs, .ref a_n_tables, .ref a_n_sizes, .ref a_n_extras, .ref a_n_sources, .ref a_n_takers, .ref a_n_firstTaker, .ref a_n_order, .int f_n_ordered, .ref a_n_tally, .ref a_n_behind])), (a_n_kinds, aI E 50 g_n_kinds), (a_i_open, aI E 50 g_i_open), (a_n_sources, aI E 200 g_n_sources)]) [0, 1, 2, 3, 4] rfl) (hD.sub (ws' := [(o_i, .inr (6, [.ref o_n, .ref o_z, .ref o_k, .ref o_t, .ref a_i_reached, .ref a_i_open, .ref a_i_lateDelays, .ref a_i_earlyDelays, .ref a_i_lateSlopes, .ref a_i_earlySlopes, .ref a_i_lateArrivals, .ref a_i_earlyArrivals])), (o_n, .inr (1, [.int f_n_cells, .ref a_n_kinds, .ref a_n_inputs, .ref a_n_tables, .ref a_n_sizes, .ref a_n_extras, .ref a_n_sources, .ref a_n_takers, .ref a_n_firstTaker, .ref a_n_order, .int f_n_ordered, .ref a_n_tally, .ref a_n_behind])), (a_n_kinds, aI E 50 g_n_kinds), (a_i_open, aI E 50 g_i_open), (a_n_sources, aI E 200 g_n_sources)]) [0, 1, 2, 3, 4] (by decide) rfl) hS rfl dX6_whyOpen_35 (Nat.le_of_ble_eq_true rfl) (Nat.le_of_ble_eq_true rfl) ⟨trivial, rfl⟩
  · have e_2 : x_1.toInt = 5 := i3_eq c_2
    refine lv_aload_n hx hb dX6_whyOpen_13 rfl (lv_at hl 0 rfl) ?_
    refine lv_iload_n hx hb dX6_whyOpen_14 rfl (lv_at hl 1 rfl) ?_
    refine lv_iconst (v := 4) hx hb dX6_whyOpen_15 (by decide) ?_
    refine lv_imul hx hb dX6_whyOpen_16 ?_
    refine lv_topi (fun x_4 ex_4 => ?_)
    have tx_4 : x_4.toInt = p1.toInt * 4 := i3_mulc rfl rfl ex_4 (by omega)
    refine call_i (va_runV (As := [.int x_4]) (rest := []) ⟨hx, hb, hml, hown, hts⟩ (q_inOpen l E o_i o_n o_z o_k o_t a_i_reached a_i_open a_i_lateDelays a_i_earlyDelays a_i_lateSlopes a_i_earlySlopes a_i_lateArrivals a_i_earlyArrivals a_n_kinds a_n_inputs a_n_tables a_n_sizes a_n_extras a_n_sources a_n_takers a_n_firstTaker a_n_order a_n_tally a_n_behind f_n_cells f_n_ordered x_4 g_n_sources g_i_open r_f_n_cells r_f_n_ordered i_g_n_sources (RG.mk (by omega)) H.size) (cwV 1 hts g_q_whyOpen_q_inOpen_88 rfl rfl rfl (by decide +kernel) ⟨Nat.le_of_ble_eq_true rfl, Nat.le_of_ble_eq_true rfl⟩) (pre_V hK hN hZ hS (va_free hD hS hA [0, 1, 4, 3] rfl) (hP.sub (ws' := [(o_i, .inr (6, [.ref o_n, .ref o_z, .ref o_k, .ref o_t, .ref a_i_reached, .ref a_i_open, .ref a_i_lateDelays, .ref a_i_earlyDelays, .ref a_i_lateSlopes, .ref a_i_earlySlopes, .ref a_i_lateArrivals, .ref a_i_earlyArrivals])), (o_n, .inr (1, [.int f_n_cells, .ref a_n_kinds, .ref a_n_inputs, .ref a_n_tables, .ref a_n_sizes, .ref a_n_extras, .ref a_n_sources, .ref a_n_takers, .ref a_n_firstTaker, .ref a_n_order, .int f_n_ordered, .ref a_n_tally, .ref a_n_behind])), (a_n_sources, aI E 200 g_n_sources), (a_i_open, aI E 50 g_i_open)]) [0, 1, 4, 3] rfl) (hD.sub (ws' := [(o_i, .inr (6, [.ref o_n, .ref o_z, .ref o_k, .ref o_t, .ref a_i_reached, .ref a_i_open, .ref a_i_lateDelays, .ref a_i_earlyDelays, .ref a_i_lateSlopes, .ref a_i_earlySlopes, .ref a_i_lateArrivals, .ref a_i_earlyArrivals])), (o_n, .inr (1, [.int f_n_cells, .ref a_n_kinds, .ref a_n_inputs, .ref a_n_tables, .ref a_n_sizes, .ref a_n_extras, .ref a_n_sources, .ref a_n_takers, .ref a_n_firstTaker, .ref a_n_order, .int f_n_ordered, .ref a_n_tally, .ref a_n_behind])), (a_n_sources, aI E 200 g_n_sources), (a_i_open, aI E 50 g_i_open)]) [0, 1, 4, 3] (by decide) rfl) (ci := 6) (q0 := 0) rfl rfl) rfl rfl hl.1 rfl (lv_room (Nat.le_of_ble_eq_true rfl)) dX6_whyOpen_17 ⟨Nat.le_of_ble_eq_true rfl, Nat.le_of_ble_eq_true rfl⟩) hP hD hS hA [0, 1, 4, 3] [2] (wr := [(a_n_kinds, aI E 50 g_n_kinds)]) rfl rfl (by decide) (by decide) (fun r_5 w H locs hw hP hD hS => ?_)
    obtain ⟨b_r_5, rfl⟩ := hw
    replace hP : va_P E.1 vwCl [(a_n_kinds, aI E 50 g_n_kinds), (o_i, .inr (6, [.ref o_n, .ref o_z, .ref o_k, .ref o_t, .ref a_i_reached, .ref a_i_open, .ref a_i_lateDelays, .ref a_i_earlyDelays, .ref a_i_lateSlopes, .ref a_i_earlySlopes, .ref a_i_lateArrivals, .ref a_i_earlyArrivals])), (o_n, .inr (1, [.int f_n_cells, .ref a_n_kinds, .ref a_n_inputs, .ref a_n_tables, .ref a_n_sizes, .ref a_n_extras, .ref a_n_sources, .ref a_n_takers, .ref a_n_firstTaker, .ref a_n_order, .int f_n_ordered, .ref a_n_tally, .ref a_n_behind])), (a_n_sources, aI E 200 g_n_sources), (a_i_open, aI E 50 g_i_open)] H := hP
    replace hD : va_D A [(a_n_kinds, aI E 50 g_n_kinds), (o_i, .inr (6, [.ref o_n, .ref o_z, .ref o_k, .ref o_t, .ref a_i_reached, .ref a_i_open, .ref a_i_lateDelays, .ref a_i_earlyDelays, .ref a_i_lateSlopes, .ref a_i_earlySlopes, .ref a_i_lateArrivals, .ref a_i_earlyArrivals])), (o_n, .inr (1, [.int f_n_cells, .ref a_n_kinds, .ref a_n_inputs, .ref a_n_tables, .ref a_n_sizes, .ref a_n_extras, .ref a_n_sources, .ref a_n_takers, .ref a_n_firstTaker, .ref a_n_order, .int f_n_ordered, .ref a_n_tally, .ref a_n_behind])), (a_n_sources, aI E 200 g_n_sources), (a_i_open, aI E 50 g_i_open)] := hD
    refine lv_if_eq (tgt := 27) hx hb dX6_whyOpen_20 (by decide) (fun c_6 => ?_) (fun c_6 => ?_)
    · have e_6 : r_5.toInt = 0 := i3_eq c_6
      refine lv_iconst (v := 0) hx hb dX6_whyOpen_27 (by decide) ?_
      exact ret_i hx hb hr hlk (hP.sub (ws' := [(o_i, .inr (6, [.ref o_n, .ref o_z, .ref o_k, .ref o_t, .ref a_i_reached, .ref a_i_open, .ref a_i_lateDelays, .ref a_i_earlyDelays, .ref a_i_lateSlopes, .ref a_i_earlySlopes, .ref a_i_lateArrivals, .ref a_i_earlyArrivals])), (o_n, .inr (1, [.int f_n_cells, .ref a_n_kinds, .ref a_n_inputs, .ref a_n_tables, .ref a_n_sizes, .ref a_n_extras, .ref a_n_sources, .ref a_n_takers, .ref a_n_firstTaker, .ref a_n_order, .int f_n_ordered, .ref a_n_tally, .ref a_n_behind])), (a_n_kinds, aI E 50 g_n_kinds), (a_i_open, aI E 50 g_i_open), (a_n_sources, aI E 200 g_n_sources)]) [1, 2, 0, 4, 3] rfl) (hD.sub (ws' := [(o_i, .inr (6, [.ref o_n, .ref o_z, .ref o_k, .ref o_t, .ref a_i_reached, .ref a_i_open, .ref a_i_lateDelays, .ref a_i_earlyDelays, .ref a_i_lateSlopes, .ref a_i_earlySlopes, .ref a_i_lateArrivals, .ref a_i_earlyArrivals])), (o_n, .inr (1, [.int f_n_cells, .ref a_n_kinds, .ref a_n_inputs, .ref a_n_tables, .ref a_n_sizes, .ref a_n_extras, .ref a_n_sources, .ref a_n_takers, .ref a_n_firstTaker, .ref a_n_order, .int f_n_ordered, .ref a_n_tally, .ref a_n_behind])), (a_n_kinds, aI E 50 g_n_kinds), (a_i_open, aI E 50 g_i_open), (a_n_sources, aI E 200 g_n_sources)]) [1, 2, 0, 4, 3] (by decide) rfl) hS rfl dX6_whyOpen_28 (Nat.le_of_ble_eq_true rfl) (Nat.le_of_ble_eq_true rfl) ⟨trivial, rfl⟩
    · have e_6 : r_5.toInt ≠ 0 := i3_ne c_6
      refine lv_iconst (v := 1) hx hb dX6_whyOpen_23 (by decide) ?_
      refine lv_goto (tgt := 28) hx hb dX6_whyOpen_24 (by decide) ?_
      exact ret_i hx hb hr hlk (hP.sub (ws' := [(o_i, .inr (6, [.ref o_n, .ref o_z, .ref o_k, .ref o_t, .ref a_i_reached, .ref a_i_open, .ref a_i_lateDelays, .ref a_i_earlyDelays, .ref a_i_lateSlopes, .ref a_i_earlySlopes, .ref a_i_lateArrivals, .ref a_i_earlyArrivals])), (o_n, .inr (1, [.int f_n_cells, .ref a_n_kinds, .ref a_n_inputs, .ref a_n_tables, .ref a_n_sizes, .ref a_n_extras, .ref a_n_sources, .ref a_n_takers, .ref a_n_firstTaker, .ref a_n_order, .int f_n_ordered, .ref a_n_tally, .ref a_n_behind])), (a_n_kinds, aI E 50 g_n_kinds), (a_i_open, aI E 50 g_i_open), (a_n_sources, aI E 200 g_n_sources)]) [1, 2, 0, 4, 3] rfl) (hD.sub (ws' := [(o_i, .inr (6, [.ref o_n, .ref o_z, .ref o_k, .ref o_t, .ref a_i_reached, .ref a_i_open, .ref a_i_lateDelays, .ref a_i_earlyDelays, .ref a_i_lateSlopes, .ref a_i_earlySlopes, .ref a_i_lateArrivals, .ref a_i_earlyArrivals])), (o_n, .inr (1, [.int f_n_cells, .ref a_n_kinds, .ref a_n_inputs, .ref a_n_tables, .ref a_n_sizes, .ref a_n_extras, .ref a_n_sources, .ref a_n_takers, .ref a_n_firstTaker, .ref a_n_order, .int f_n_ordered, .ref a_n_tally, .ref a_n_behind])), (a_n_kinds, aI E 50 g_n_kinds), (a_i_open, aI E 50 g_i_open), (a_n_sources, aI E 200 g_n_sources)]) [1, 2, 0, 4, 3] (by decide) rfl) hS rfl dX6_whyOpen_28 (Nat.le_of_ble_eq_true rfl) (Nat.le_of_ble_eq_true rfl) ⟨trivial, rfl⟩
theorem dX6_timePort_0 : decode cX6_timePort 0 = .ok (.iload_n 1, 1) := by decide +kernel
theorem dX6_timePort_1 : decode cX6_timePort 1 = .ok (.iconst 2, 1) := by decide +kernel
theorem dX6_timePort_2 : decode cX6_timePort 2 = .ok (.imul, 1) := by decide +kernel
theorem dX6_timePort_3 : decode cX6_timePort 3 = .ok (.istore_n 2, 1) := by decide +kernel
theorem dX6_timePort_4 : decode cX6_timePort 4 = .ok (.iload_n 2, 1) := by decide +kernel
theorem dX6_timePort_5 : decode cX6_timePort 5 = .ok (.iload_n 1, 1) := by decide +kernel
theorem dX6_timePort_6 : decode cX6_timePort 6 = .ok (.iconst 2, 1) := by decide +kernel
theorem dX6_timePort_7 : decode cX6_timePort 7 = .ok (.imul, 1) := by decide +kernel
theorem dX6_timePort_8 : decode cX6_timePort 8 = .ok (.iconst 2, 1) := by decide +kernel
theorem dX6_timePort_9 : decode cX6_timePort 9 = .ok (.iadd, 1) := by decide +kernel
theorem dX6_timePort_10 : decode cX6_timePort 10 = .ok (.if_icmp .ge 69, 3) := by decide +kernel
theorem dX6_timePort_79 : decode cX6_timePort 79 = .ok (.return_, 1) := by decide +kernel
theorem dX6_timePort_13 : decode cX6_timePort 13 = .ok (.aload_n 0, 1) := by decide +kernel
theorem dX6_timePort_14 : decode cX6_timePort 14 = .ok (.getfield 25, 3) := by decide +kernel
theorem dX6_timePort_17 : decode cX6_timePort 17 = .ok (.iload_n 2, 1) := by decide +kernel
theorem dX6_timePort_18 : decode cX6_timePort 18 = .ok (.aload_n 0, 1) := by decide +kernel
theorem dX6_timePort_19 : decode cX6_timePort 19 = .ok (.getfield 41, 3) := by decide +kernel
theorem dX6_timePort_22 : decode cX6_timePort 22 = .ok (.getfield 91, 3) := by decide +kernel
theorem dX6_timePort_25 : decode cX6_timePort 25 = .ok (.iload_n 1, 1) := by decide +kernel
theorem dX6_timePort_26 : decode cX6_timePort 26 = .ok (.iaload, 1) := by decide +kernel
theorem dX6_timePort_27 : decode cX6_timePort 27 = .ok (.iastore, 1) := by decide +kernel
theorem dX6_timePort_28 : decode cX6_timePort 28 = .ok (.aload_n 0, 1) := by decide +kernel
theorem dX6_timePort_29 : decode cX6_timePort 29 = .ok (.getfield 28, 3) := by decide +kernel
theorem dX6_timePort_32 : decode cX6_timePort 32 = .ok (.iload_n 2, 1) := by decide +kernel
theorem dX6_timePort_33 : decode cX6_timePort 33 = .ok (.aload_n 0, 1) := by decide +kernel
theorem dX6_timePort_34 : decode cX6_timePort 34 = .ok (.getfield 41, 3) := by decide +kernel
theorem dX6_timePort_37 : decode cX6_timePort 37 = .ok (.getfield 91, 3) := by decide +kernel
theorem dX6_timePort_40 : decode cX6_timePort 40 = .ok (.iload_n 1, 1) := by decide +kernel
theorem dX6_timePort_41 : decode cX6_timePort 41 = .ok (.iaload, 1) := by decide +kernel
theorem dX6_timePort_42 : decode cX6_timePort 42 = .ok (.iastore, 1) := by decide +kernel
theorem dX6_timePort_43 : decode cX6_timePort 43 = .ok (.aload_n 0, 1) := by decide +kernel
theorem dX6_timePort_44 : decode cX6_timePort 44 = .ok (.getfield 31, 3) := by decide +kernel
theorem dX6_timePort_47 : decode cX6_timePort 47 = .ok (.iload_n 2, 1) := by decide +kernel
theorem dX6_timePort_48 : decode cX6_timePort 48 = .ok (.aload_n 0, 1) := by decide +kernel
theorem dX6_timePort_49 : decode cX6_timePort 49 = .ok (.getfield 41, 3) := by decide +kernel
theorem dX6_timePort_52 : decode cX6_timePort 52 = .ok (.getfield 96, 3) := by decide +kernel
theorem dX6_timePort_55 : decode cX6_timePort 55 = .ok (.iload_n 1, 1) := by decide +kernel
theorem dX6_timePort_56 : decode cX6_timePort 56 = .ok (.iaload, 1) := by decide +kernel
theorem dX6_timePort_57 : decode cX6_timePort 57 = .ok (.iastore, 1) := by decide +kernel
theorem dX6_timePort_58 : decode cX6_timePort 58 = .ok (.aload_n 0, 1) := by decide +kernel
theorem dX6_timePort_59 : decode cX6_timePort 59 = .ok (.getfield 34, 3) := by decide +kernel
theorem dX6_timePort_62 : decode cX6_timePort 62 = .ok (.iload_n 2, 1) := by decide +kernel
theorem dX6_timePort_63 : decode cX6_timePort 63 = .ok (.aload_n 0, 1) := by decide +kernel
theorem dX6_timePort_64 : decode cX6_timePort 64 = .ok (.getfield 41, 3) := by decide +kernel
theorem dX6_timePort_67 : decode cX6_timePort 67 = .ok (.getfield 99, 3) := by decide +kernel
theorem dX6_timePort_70 : decode cX6_timePort 70 = .ok (.iload_n 1, 1) := by decide +kernel
theorem dX6_timePort_71 : decode cX6_timePort 71 = .ok (.iaload, 1) := by decide +kernel
theorem dX6_timePort_72 : decode cX6_timePort 72 = .ok (.iastore, 1) := by decide +kernel
theorem dX6_timePort_73 : decode cX6_timePort 73 = .ok (.iinc 2 1, 3) := by decide +kernel
theorem dX6_timePort_76 : decode cX6_timePort 76 = .ok (.goto (-72), 3) := by decide +kernel
def wo_q_timePort : List Cond := [.code yX6_timePort cX6_timePort 3 none, .fieldLink RX6 25 "TimingHouse$Timing" "lateSlopes" "[I", .fieldLink RX6 41 "TimingHouse$Timing" "stations" "LTimingHouse$Stations;", .fieldLink RX6 28 "TimingHouse$Timing" "earlySlopes" "[I", .fieldLink RX6 31 "TimingHouse$Timing" "lateArrivals" "[I", .fieldLink RX6 34 "TimingHouse$Timing" "earlyArrivals" "[I"]
def wr_q_timePort : List Cond := (wsX40 ++ (wsX60 ++ ([])))
def w_q_timePort : List Cond := wo_q_timePort ++ wr_q_timePort
theorem wg_q_timePort : GW w_q_timePort := GW_app (GW_of (by decide +kernel)) (GW_app (GW_of (by decide +kernel)) (GW_app (GW_of (by decide +kernel)) (GW_nil)))
theorem i_q_timePort_X4 : ∀ w ∈ wsX40, w ∈ w_q_timePort := fun _ h => List.mem_append_right _ (List.mem_append_left _ h)
theorem i_q_timePort_X6 : ∀ w ∈ wsX60, w ∈ w_q_timePort := fun _ h => List.mem_append_right _ (List.mem_append_right _ (List.mem_append_left _ h))
set_option maxHeartbeats 8000000 in
set_option maxRecDepth 100000 in
theorem q_timePort (l : Launch) (E : gE) (o_i o_n o_z o_k o_t a_i_reached a_i_open a_i_lateDelays a_i_earlyDelays a_i_lateSlopes a_i_earlySlopes a_i_lateArrivals a_i_earlyArrivals a_z_earlies a_z_lates a_z_slopes a_z_nodes a_z_setups a_z_holds : Nat) (p1 : Int32) (g_z_slopes : Nat → Int32) (g_i_lateSlopes : Nat → Int32) (g_i_earlySlopes : Nat → Int32) (g_z_lates : Nat → Int32) (g_i_lateArrivals : Nat → Int32) (g_z_earlies : Nat → Int32) (g_i_earlyArrivals : Nat → Int32) (i_g_z_slopes : AR g_z_slopes 50 0 100000) (i_g_z_lates : AR g_z_lates 50 0 100000) (i_g_z_earlies : AR g_z_earlies 50 0 100000) (r_p1 : RG p1 0 49) : CtV l E yX6_timePort w_q_timePort ({ frames := 0, cells := 0, slots := 0, locals := 0 }) [(o_i, .inr (6, [.ref o_n, .ref o_z, .ref o_k, .ref o_t, .ref a_i_reached, .ref a_i_open, .ref a_i_lateDelays, .ref a_i_earlyDelays, .ref a_i_lateSlopes, .ref a_i_earlySlopes, .ref a_i_lateArrivals, .ref a_i_earlyArrivals])), (o_z, .inr (4, [.ref a_z_earlies, .ref a_z_lates, .ref a_z_slopes, .ref a_z_nodes, .ref a_z_setups, .ref a_z_holds])), (a_z_slopes, aI E 50 g_z_slopes), (a_i_lateSlopes, aI E 100 g_i_lateSlopes), (a_i_earlySlopes, aI E 100 g_i_earlySlopes), (a_z_lates, aI E 50 g_z_lates), (a_i_lateArrivals, aI E 100 g_i_lateArrivals), (a_z_earlies, aI E 50 g_z_earlies), (a_i_earlyArrivals, aI E 100 g_i_earlyArrivals)] [.ref o_i, .int p1] (fun w => ∃ ng_i_lateSlopes : Nat → Int32, ∃ ng_i_earlySlopes : Nat → Int32, ∃ ng_i_lateArrivals : Nat → Int32, ∃ ng_i_earlyArrivals : Nat → Int32, w = [(o_i, .inr (6, [.ref o_n, .ref o_z, .ref o_k, .ref o_t, .ref a_i_reached, .ref a_i_open, .ref a_i_lateDelays, .ref a_i_earlyDelays, .ref a_i_lateSlopes, .ref a_i_earlySlopes, .ref a_i_lateArrivals, .ref a_i_earlyArrivals])), (o_z, .inr (4, [.ref a_z_earlies, .ref a_z_lates, .ref a_z_slopes, .ref a_z_nodes, .ref a_z_setups, .ref a_z_holds])), (a_z_slopes, aI E 50 g_z_slopes), (a_i_lateSlopes, aI E 100 ng_i_lateSlopes), (a_i_earlySlopes, aI E 100 ng_i_earlySlopes), (a_z_lates, aI E 50 g_z_lates), (a_i_lateArrivals, aI E 100 ng_i_lateArrivals), (a_z_earlies, aI E 50 g_z_earlies), (a_i_earlyArrivals, aI E 100 ng_i_earlyArrivals)]) := by
  refine CtV.of (cc := cX6_timePort) (maxL := 3) (rt := none) (by decide) rfl (Nat.le_of_ble_eq_true rfl) ?_
  intro p e s m below meth c A B ls hl
  obtain ⟨hx, hb, hml, hr, hlk, hin, hts, hown, hK, hN, hZ, hA, hP, hD, hS⟩ := B
  replace hown : s.vm.findClass RX6 = some m.cls := hown
  have hto : ∀ w ∈ wo_q_timePort, w.before _ s = true := fun w h => hts w (List.mem_append_left _ h)
  replace hl : lv_has ls 3 [(0, .ref o_i), (1, .int p1)] := hl
  obtain ⟨H, hHe⟩ : ∃ H, H = s.heap := ⟨_, rfl⟩
  obtain ⟨locs, hle⟩ : ∃ l : List Loc, l = [] := ⟨_, rfl⟩
  replace hS : va_S A s.heap H locs := by rw [hHe, hle]; exact hS
  replace hP : va_P E.1 vwCl [(o_i, .inr (6, [.ref o_n, .ref o_z, .ref o_k, .ref o_t, .ref a_i_reached, .ref a_i_open, .ref a_i_lateDelays, .ref a_i_earlyDelays, .ref a_i_lateSlopes, .ref a_i_earlySlopes, .ref a_i_lateArrivals, .ref a_i_earlyArrivals])), (o_z, .inr (4, [.ref a_z_earlies, .ref a_z_lates, .ref a_z_slopes, .ref a_z_nodes, .ref a_z_setups, .ref a_z_holds])), (a_z_slopes, aI E 50 g_z_slopes), (a_i_lateSlopes, aI E 100 g_i_lateSlopes), (a_i_earlySlopes, aI E 100 g_i_earlySlopes), (a_z_lates, aI E 50 g_z_lates), (a_i_lateArrivals, aI E 100 g_i_lateArrivals), (a_z_earlies, aI E 50 g_z_earlies), (a_i_earlyArrivals, aI E 100 g_i_earlyArrivals)] H := by rw [hHe]; exact hP
  refine W_hl hHe hle ?_
  clear hHe hle
  refine lv_iload_n hx hb dX6_timePort_0 rfl (lv_at hl 1 rfl) ?_
  refine lv_iconst (v := 2) hx hb dX6_timePort_1 (by decide) ?_
  have b_p1 := r_p1.out
  refine lv_imul hx hb dX6_timePort_2 ?_
  refine lv_topi (fun x_1 ex_1 => ?_)
  have tx_1 : x_1.toInt = p1.toInt * 2 := i3_mulc rfl rfl ex_1 (by omega)
  refine lv_istore_n (lv' := [(2, .int x_1), (0, .ref o_i), (1, .int p1)]) hx hb dX6_timePort_3 rfl hl (by decide) rfl (fun ls hl => ?_)
  obtain ⟨y_2, hy_2⟩ : ∃ y : Int32, y = x_1 := ⟨_, rfl⟩
  have b_y_2 : 0 ≤ y_2.toInt ∧ y_2.toInt ≤ 100 := by rw [hy_2]; omega
  replace hl : lv_has ls 3 [(2, .int y_2), (0, .ref o_i), (1, .int p1)] := by rw [hy_2]; exact hl
  obtain ⟨y_3, hy_3⟩ : ∃ g : Nat → Int32, g = g_i_lateSlopes := ⟨_, rfl⟩
  obtain ⟨y_4, hy_4⟩ : ∃ g : Nat → Int32, g = g_i_earlySlopes := ⟨_, rfl⟩
  obtain ⟨y_5, hy_5⟩ : ∃ g : Nat → Int32, g = g_i_lateArrivals := ⟨_, rfl⟩
  obtain ⟨y_6, hy_6⟩ : ∃ g : Nat → Int32, g = g_i_earlyArrivals := ⟨_, rfl⟩
  replace hP : va_P E.1 vwCl [(o_i, .inr (6, [.ref o_n, .ref o_z, .ref o_k, .ref o_t, .ref a_i_reached, .ref a_i_open, .ref a_i_lateDelays, .ref a_i_earlyDelays, .ref a_i_lateSlopes, .ref a_i_earlySlopes, .ref a_i_lateArrivals, .ref a_i_earlyArrivals])), (o_z, .inr (4, [.ref a_z_earlies, .ref a_z_lates, .ref a_z_slopes, .ref a_z_nodes, .ref a_z_setups, .ref a_z_holds])), (a_z_slopes, aI E 50 g_z_slopes), (a_i_lateSlopes, aI E 100 y_3), (a_i_earlySlopes, aI E 100 y_4), (a_z_lates, aI E 50 g_z_lates), (a_i_lateArrivals, aI E 100 y_5), (a_z_earlies, aI E 50 g_z_earlies), (a_i_earlyArrivals, aI E 100 y_6)] H := by rw [hy_3, hy_4, hy_5, hy_6]; exact hP
  replace hD : va_D A [(o_i, .inr (6, [.ref o_n, .ref o_z, .ref o_k, .ref o_t, .ref a_i_reached, .ref a_i_open, .ref a_i_lateDelays, .ref a_i_earlyDelays, .ref a_i_lateSlopes, .ref a_i_earlySlopes, .ref a_i_lateArrivals, .ref a_i_earlyArrivals])), (o_z, .inr (4, [.ref a_z_earlies, .ref a_z_lates, .ref a_z_slopes, .ref a_z_nodes, .ref a_z_setups, .ref a_z_holds])), (a_z_slopes, aI E 50 g_z_slopes), (a_i_lateSlopes, aI E 100 y_3), (a_i_earlySlopes, aI E 100 y_4), (a_z_lates, aI E 50 g_z_lates), (a_i_lateArrivals, aI E 100 y_5), (a_z_earlies, aI E 50 g_z_earlies), (a_i_earlyArrivals, aI E 100 y_6)] := by rw [hy_3, hy_4, hy_5, hy_6]; exact hD
  clear hy_2 hy_3 hy_4 hy_5 hy_6
  obtain ⟨d_7, hd_7⟩ : ∃ d : Nat, 100 - y_2.toInt < (d : Int) := ⟨(100 - y_2.toInt + 1).toNat, by omega⟩
  induction d_7 generalizing y_2 y_3 y_4 y_5 y_6 H locs ls with
  | zero => exfalso; omega
  | succ d_7 ih_d_7 =>
    refine lv_iload_n hx hb dX6_timePort_4 rfl (lv_at hl 0 rfl) ?_
    refine lv_iload_n hx hb dX6_timePort_5 rfl (lv_at hl 2 rfl) ?_
    refine lv_iconst (v := 2) hx hb dX6_timePort_6 (by decide) ?_
    refine lv_imul hx hb dX6_timePort_7 ?_
    refine lv_topi (fun x_8 ex_8 => ?_)
    have hq_x_8 : x_1 = x_8 := ex_1.trans ex_8.symm
    subst hq_x_8
    refine lv_iconst (v := 2) hx hb dX6_timePort_8 (by decide) ?_
    refine lv_iadd hx hb dX6_timePort_9 ?_
    refine lv_topi (fun x_9 ex_9 => ?_)
    have tx_9 : x_9.toInt = x_1.toInt + 2 := i3_addc rfl rfl ex_9 (by omega)
    refine lv_icmp_ge (tgt := 79) hx hb dX6_timePort_10 (by decide) (fun c_10 => ?_) (fun c_10 => ?_)
    · have e_10 : x_9.toInt ≤ y_2.toInt := i3_le c_10
      exact ret_v hx hb hr hlk (hP.sub (ws' := [(o_i, .inr (6, [.ref o_n, .ref o_z, .ref o_k, .ref o_t, .ref a_i_reached, .ref a_i_open, .ref a_i_lateDelays, .ref a_i_earlyDelays, .ref a_i_lateSlopes, .ref a_i_earlySlopes, .ref a_i_lateArrivals, .ref a_i_earlyArrivals])), (o_z, .inr (4, [.ref a_z_earlies, .ref a_z_lates, .ref a_z_slopes, .ref a_z_nodes, .ref a_z_setups, .ref a_z_holds])), (a_z_slopes, aI E 50 g_z_slopes), (a_i_lateSlopes, aI E 100 y_3), (a_i_earlySlopes, aI E 100 y_4), (a_z_lates, aI E 50 g_z_lates), (a_i_lateArrivals, aI E 100 y_5), (a_z_earlies, aI E 50 g_z_earlies), (a_i_earlyArrivals, aI E 100 y_6)]) [0, 1, 2, 3, 4, 5, 6, 7, 8] rfl) (hD.sub (ws' := [(o_i, .inr (6, [.ref o_n, .ref o_z, .ref o_k, .ref o_t, .ref a_i_reached, .ref a_i_open, .ref a_i_lateDelays, .ref a_i_earlyDelays, .ref a_i_lateSlopes, .ref a_i_earlySlopes, .ref a_i_lateArrivals, .ref a_i_earlyArrivals])), (o_z, .inr (4, [.ref a_z_earlies, .ref a_z_lates, .ref a_z_slopes, .ref a_z_nodes, .ref a_z_setups, .ref a_z_holds])), (a_z_slopes, aI E 50 g_z_slopes), (a_i_lateSlopes, aI E 100 y_3), (a_i_earlySlopes, aI E 100 y_4), (a_z_lates, aI E 50 g_z_lates), (a_i_lateArrivals, aI E 100 y_5), (a_z_earlies, aI E 50 g_z_earlies), (a_i_earlyArrivals, aI E 100 y_6)]) [0, 1, 2, 3, 4, 5, 6, 7, 8] (by decide) rfl) hS dX6_timePort_79 (Nat.le_of_ble_eq_true rfl) (Nat.le_of_ble_eq_true rfl) ⟨y_3, y_4, y_5, y_6, rfl⟩
    · have e_10 : y_2.toInt < x_9.toInt := i3_nle c_10
      refine lv_aload_n hx hb dX6_timePort_13 rfl (lv_at hl 1 rfl) ?_
      refine va_get (D := E.1) (ci := 6) (v := .ref a_i_lateSlopes) (own := RX6) (C := RX6) (T := TX6) (N := 12) hx hb hts i_q_timePort_X6 hown hK hP 0 rfl rfl 8 (by decide) (hto (.fieldLink RX6 25 "TimingHouse$Timing" "lateSlopes" "[I") (by decide +kernel)) (fun _ h9 => h9) rfl dX6_timePort_14 ?_
      refine lv_iload_n hx hb dX6_timePort_17 rfl (lv_at hl 0 rfl) ?_
      refine lv_aload_n hx hb dX6_timePort_18 rfl (lv_at hl 1 rfl) ?_
      refine va_get (D := E.1) (ci := 6) (v := .ref o_z) (own := RX6) (C := RX6) (T := TX6) (N := 12) hx hb hts i_q_timePort_X6 hown hK hP 0 rfl rfl 1 (by decide) (hto (.fieldLink RX6 41 "TimingHouse$Timing" "stations" "LTimingHouse$Stations;") (by decide +kernel)) (fun _ h9 => h9) rfl dX6_timePort_19 ?_
      refine va_getN (D := E.1) (ci := 4) (v := .ref a_z_slopes) (own := RX6) (ref := "TimingHouse$Stations") (host := "TimingHouse") (C := RX4) (T := TX4) (N := 6) hx hb hts i_q_timePort_X4 hown hK hP 1 rfl rfl 2 (by decide) (nw_F hN 31 rfl) (fun _ h9 => h9) rfl dX6_timePort_22 ?_
      refine lv_iload_n hx hb dX6_timePort_25 rfl (lv_at hl 2 rfl) ?_
      refine ld_i hx hb hK hP 2 rfl (by omega) dX6_timePort_26 (fun x_11 ex_11 => ?_)
      have b_x_11 := AR.rd i_g_z_slopes ex_11 (by omega)
      refine st_i hx hb hK hP hD hS 3 rfl (by omega) dX6_timePort_27 (fun g_12 H locs eg_12 hP hD hS => ?_)
      clear eg_12
      replace hP : va_P E.1 vwCl [(o_i, .inr (6, [.ref o_n, .ref o_z, .ref o_k, .ref o_t, .ref a_i_reached, .ref a_i_open, .ref a_i_lateDelays, .ref a_i_earlyDelays, .ref a_i_lateSlopes, .ref a_i_earlySlopes, .ref a_i_lateArrivals, .ref a_i_earlyArrivals])), (o_z, .inr (4, [.ref a_z_earlies, .ref a_z_lates, .ref a_z_slopes, .ref a_z_nodes, .ref a_z_setups, .ref a_z_holds])), (a_z_slopes, aI E 50 g_z_slopes), (a_i_lateSlopes, aI E 100 g_12), (a_i_earlySlopes, aI E 100 y_4), (a_z_lates, aI E 50 g_z_lates), (a_i_lateArrivals, aI E 100 y_5), (a_z_earlies, aI E 50 g_z_earlies), (a_i_earlyArrivals, aI E 100 y_6)] H := hP
      replace hD : va_D A [(o_i, .inr (6, [.ref o_n, .ref o_z, .ref o_k, .ref o_t, .ref a_i_reached, .ref a_i_open, .ref a_i_lateDelays, .ref a_i_earlyDelays, .ref a_i_lateSlopes, .ref a_i_earlySlopes, .ref a_i_lateArrivals, .ref a_i_earlyArrivals])), (o_z, .inr (4, [.ref a_z_earlies, .ref a_z_lates, .ref a_z_slopes, .ref a_z_nodes, .ref a_z_setups, .ref a_z_holds])), (a_z_slopes, aI E 50 g_z_slopes), (a_i_lateSlopes, aI E 100 g_12), (a_i_earlySlopes, aI E 100 y_4), (a_z_lates, aI E 50 g_z_lates), (a_i_lateArrivals, aI E 100 y_5), (a_z_earlies, aI E 50 g_z_earlies), (a_i_earlyArrivals, aI E 100 y_6)] := hD
      refine lv_aload_n hx hb dX6_timePort_28 rfl (lv_at hl 1 rfl) ?_
      refine va_get (D := E.1) (ci := 6) (v := .ref a_i_earlySlopes) (own := RX6) (C := RX6) (T := TX6) (N := 12) hx hb hts i_q_timePort_X6 hown hK hP 0 rfl rfl 9 (by decide) (hto (.fieldLink RX6 28 "TimingHouse$Timing" "earlySlopes" "[I") (by decide +kernel)) (fun _ h9 => h9) rfl dX6_timePort_29 ?_
      refine lv_iload_n hx hb dX6_timePort_32 rfl (lv_at hl 0 rfl) ?_
      refine lv_aload_n hx hb dX6_timePort_33 rfl (lv_at hl 1 rfl) ?_
      refine va_get (D := E.1) (ci := 6) (v := .ref o_z) (own := RX6) (C := RX6) (T := TX6) (N := 12) hx hb hts i_q_timePort_X6 hown hK hP 0 rfl rfl 1 (by decide) (hto (.fieldLink RX6 41 "TimingHouse$Timing" "stations" "LTimingHouse$Stations;") (by decide +kernel)) (fun _ h9 => h9) rfl dX6_timePort_34 ?_
      refine va_getN (D := E.1) (ci := 4) (v := .ref a_z_slopes) (own := RX6) (ref := "TimingHouse$Stations") (host := "TimingHouse") (C := RX4) (T := TX4) (N := 6) hx hb hts i_q_timePort_X4 hown hK hP 1 rfl rfl 2 (by decide) (nw_F hN 31 rfl) (fun _ h9 => h9) rfl dX6_timePort_37 ?_
      refine lv_iload_n hx hb dX6_timePort_40 rfl (lv_at hl 2 rfl) ?_
      refine ld_i hx hb hK hP 2 rfl (by omega) dX6_timePort_41 (fun x_13 ex_13 => ?_)
      have hq_x_13 : x_11 = x_13 := ex_11.trans ex_13.symm
      subst hq_x_13
      refine st_i hx hb hK hP hD hS 4 rfl (by omega) dX6_timePort_42 (fun g_14 H locs eg_14 hP hD hS => ?_)
      clear eg_14
      replace hP : va_P E.1 vwCl [(o_i, .inr (6, [.ref o_n, .ref o_z, .ref o_k, .ref o_t, .ref a_i_reached, .ref a_i_open, .ref a_i_lateDelays, .ref a_i_earlyDelays, .ref a_i_lateSlopes, .ref a_i_earlySlopes, .ref a_i_lateArrivals, .ref a_i_earlyArrivals])), (o_z, .inr (4, [.ref a_z_earlies, .ref a_z_lates, .ref a_z_slopes, .ref a_z_nodes, .ref a_z_setups, .ref a_z_holds])), (a_z_slopes, aI E 50 g_z_slopes), (a_i_lateSlopes, aI E 100 g_12), (a_i_earlySlopes, aI E 100 g_14), (a_z_lates, aI E 50 g_z_lates), (a_i_lateArrivals, aI E 100 y_5), (a_z_earlies, aI E 50 g_z_earlies), (a_i_earlyArrivals, aI E 100 y_6)] H := hP
      replace hD : va_D A [(o_i, .inr (6, [.ref o_n, .ref o_z, .ref o_k, .ref o_t, .ref a_i_reached, .ref a_i_open, .ref a_i_lateDelays, .ref a_i_earlyDelays, .ref a_i_lateSlopes, .ref a_i_earlySlopes, .ref a_i_lateArrivals, .ref a_i_earlyArrivals])), (o_z, .inr (4, [.ref a_z_earlies, .ref a_z_lates, .ref a_z_slopes, .ref a_z_nodes, .ref a_z_setups, .ref a_z_holds])), (a_z_slopes, aI E 50 g_z_slopes), (a_i_lateSlopes, aI E 100 g_12), (a_i_earlySlopes, aI E 100 g_14), (a_z_lates, aI E 50 g_z_lates), (a_i_lateArrivals, aI E 100 y_5), (a_z_earlies, aI E 50 g_z_earlies), (a_i_earlyArrivals, aI E 100 y_6)] := hD
      refine lv_aload_n hx hb dX6_timePort_43 rfl (lv_at hl 1 rfl) ?_
      refine va_get (D := E.1) (ci := 6) (v := .ref a_i_lateArrivals) (own := RX6) (C := RX6) (T := TX6) (N := 12) hx hb hts i_q_timePort_X6 hown hK hP 0 rfl rfl 10 (by decide) (hto (.fieldLink RX6 31 "TimingHouse$Timing" "lateArrivals" "[I") (by decide +kernel)) (fun _ h9 => h9) rfl dX6_timePort_44 ?_
      refine lv_iload_n hx hb dX6_timePort_47 rfl (lv_at hl 0 rfl) ?_
      refine lv_aload_n hx hb dX6_timePort_48 rfl (lv_at hl 1 rfl) ?_
      refine va_get (D := E.1) (ci := 6) (v := .ref o_z) (own := RX6) (C := RX6) (T := TX6) (N := 12) hx hb hts i_q_timePort_X6 hown hK hP 0 rfl rfl 1 (by decide) (hto (.fieldLink RX6 41 "TimingHouse$Timing" "stations" "LTimingHouse$Stations;") (by decide +kernel)) (fun _ h9 => h9) rfl dX6_timePort_49 ?_
      refine va_getN (D := E.1) (ci := 4) (v := .ref a_z_lates) (own := RX6) (ref := "TimingHouse$Stations") (host := "TimingHouse") (C := RX4) (T := TX4) (N := 6) hx hb hts i_q_timePort_X4 hown hK hP 1 rfl rfl 1 (by decide) (nw_F hN 29 rfl) (fun _ h9 => h9) rfl dX6_timePort_52 ?_
      refine lv_iload_n hx hb dX6_timePort_55 rfl (lv_at hl 2 rfl) ?_
      refine ld_i hx hb hK hP 5 rfl (by omega) dX6_timePort_56 (fun x_15 ex_15 => ?_)
      have b_x_15 := AR.rd i_g_z_lates ex_15 (by omega)
      refine st_i hx hb hK hP hD hS 6 rfl (by omega) dX6_timePort_57 (fun g_16 H locs eg_16 hP hD hS => ?_)
      clear eg_16
      replace hP : va_P E.1 vwCl [(o_i, .inr (6, [.ref o_n, .ref o_z, .ref o_k, .ref o_t, .ref a_i_reached, .ref a_i_open, .ref a_i_lateDelays, .ref a_i_earlyDelays, .ref a_i_lateSlopes, .ref a_i_earlySlopes, .ref a_i_lateArrivals, .ref a_i_earlyArrivals])), (o_z, .inr (4, [.ref a_z_earlies, .ref a_z_lates, .ref a_z_slopes, .ref a_z_nodes, .ref a_z_setups, .ref a_z_holds])), (a_z_slopes, aI E 50 g_z_slopes), (a_i_lateSlopes, aI E 100 g_12), (a_i_earlySlopes, aI E 100 g_14), (a_z_lates, aI E 50 g_z_lates), (a_i_lateArrivals, aI E 100 g_16), (a_z_earlies, aI E 50 g_z_earlies), (a_i_earlyArrivals, aI E 100 y_6)] H := hP
      replace hD : va_D A [(o_i, .inr (6, [.ref o_n, .ref o_z, .ref o_k, .ref o_t, .ref a_i_reached, .ref a_i_open, .ref a_i_lateDelays, .ref a_i_earlyDelays, .ref a_i_lateSlopes, .ref a_i_earlySlopes, .ref a_i_lateArrivals, .ref a_i_earlyArrivals])), (o_z, .inr (4, [.ref a_z_earlies, .ref a_z_lates, .ref a_z_slopes, .ref a_z_nodes, .ref a_z_setups, .ref a_z_holds])), (a_z_slopes, aI E 50 g_z_slopes), (a_i_lateSlopes, aI E 100 g_12), (a_i_earlySlopes, aI E 100 g_14), (a_z_lates, aI E 50 g_z_lates), (a_i_lateArrivals, aI E 100 g_16), (a_z_earlies, aI E 50 g_z_earlies), (a_i_earlyArrivals, aI E 100 y_6)] := hD
      refine lv_aload_n hx hb dX6_timePort_58 rfl (lv_at hl 1 rfl) ?_
      refine va_get (D := E.1) (ci := 6) (v := .ref a_i_earlyArrivals) (own := RX6) (C := RX6) (T := TX6) (N := 12) hx hb hts i_q_timePort_X6 hown hK hP 0 rfl rfl 11 (by decide) (hto (.fieldLink RX6 34 "TimingHouse$Timing" "earlyArrivals" "[I") (by decide +kernel)) (fun _ h9 => h9) rfl dX6_timePort_59 ?_
      refine lv_iload_n hx hb dX6_timePort_62 rfl (lv_at hl 0 rfl) ?_
      refine lv_aload_n hx hb dX6_timePort_63 rfl (lv_at hl 1 rfl) ?_
      refine va_get (D := E.1) (ci := 6) (v := .ref o_z) (own := RX6) (C := RX6) (T := TX6) (N := 12) hx hb hts i_q_timePort_X6 hown hK hP 0 rfl rfl 1 (by decide) (hto (.fieldLink RX6 41 "TimingHouse$Timing" "stations" "LTimingHouse$Stations;") (by decide +kernel)) (fun _ h9 => h9) rfl dX6_timePort_64 ?_
      refine va_getN (D := E.1) (ci := 4) (v := .ref a_z_earlies) (own := RX6) (ref := "TimingHouse$Stations") (host := "TimingHouse") (C := RX4) (T := TX4) (N := 6) hx hb hts i_q_timePort_X4 hown hK hP 1 rfl rfl 0 (by decide) (nw_F hN 27 rfl) (fun _ h9 => h9) rfl dX6_timePort_67 ?_
      refine lv_iload_n hx hb dX6_timePort_70 rfl (lv_at hl 2 rfl) ?_
      refine ld_i hx hb hK hP 7 rfl (by omega) dX6_timePort_71 (fun x_17 ex_17 => ?_)
      have b_x_17 := AR.rd i_g_z_earlies ex_17 (by omega)
      refine st_i hx hb hK hP hD hS 8 rfl (by omega) dX6_timePort_72 (fun g_18 H locs eg_18 hP hD hS => ?_)
      clear eg_18
      replace hP : va_P E.1 vwCl [(o_i, .inr (6, [.ref o_n, .ref o_z, .ref o_k, .ref o_t, .ref a_i_reached, .ref a_i_open, .ref a_i_lateDelays, .ref a_i_earlyDelays, .ref a_i_lateSlopes, .ref a_i_earlySlopes, .ref a_i_lateArrivals, .ref a_i_earlyArrivals])), (o_z, .inr (4, [.ref a_z_earlies, .ref a_z_lates, .ref a_z_slopes, .ref a_z_nodes, .ref a_z_setups, .ref a_z_holds])), (a_z_slopes, aI E 50 g_z_slopes), (a_i_lateSlopes, aI E 100 g_12), (a_i_earlySlopes, aI E 100 g_14), (a_z_lates, aI E 50 g_z_lates), (a_i_lateArrivals, aI E 100 g_16), (a_z_earlies, aI E 50 g_z_earlies), (a_i_earlyArrivals, aI E 100 g_18)] H := hP
      replace hD : va_D A [(o_i, .inr (6, [.ref o_n, .ref o_z, .ref o_k, .ref o_t, .ref a_i_reached, .ref a_i_open, .ref a_i_lateDelays, .ref a_i_earlyDelays, .ref a_i_lateSlopes, .ref a_i_earlySlopes, .ref a_i_lateArrivals, .ref a_i_earlyArrivals])), (o_z, .inr (4, [.ref a_z_earlies, .ref a_z_lates, .ref a_z_slopes, .ref a_z_nodes, .ref a_z_setups, .ref a_z_holds])), (a_z_slopes, aI E 50 g_z_slopes), (a_i_lateSlopes, aI E 100 g_12), (a_i_earlySlopes, aI E 100 g_14), (a_z_lates, aI E 50 g_z_lates), (a_i_lateArrivals, aI E 100 g_16), (a_z_earlies, aI E 50 g_z_earlies), (a_i_earlyArrivals, aI E 100 g_18)] := hD
      obtain ⟨x_19, ex_19⟩ : ∃ y : Int32, y = y_2 + 1 := ⟨_, rfl⟩
      have tx_19 : x_19.toInt = y_2.toInt + 1 := i3_addc rfl rfl ex_19 (by omega)
      refine lv_iinc (v := x_19) (lv' := [(2, .int x_19), (0, .ref o_i), (1, .int p1)]) hx hb dX6_timePort_73 hl (k := 0) rfl (by rw [ex_19]; rfl) (by decide) rfl (fun ls hl => ?_)
      refine lv_goto (tgt := 4) hx hb dX6_timePort_76 (by decide) ?_
      apply ih_d_7 (y_2 := x_19) (y_3 := g_12) (y_4 := g_14) (y_5 := g_16) (y_6 := g_18) (H := H) (locs := locs) (ls := ls) <;> first | assumption | omega | decide
theorem dX6_clearPlace_0 : decode cX6_clearPlace 0 = .ok (.aload_n 0, 1) := by decide +kernel
theorem dX6_clearPlace_1 : decode cX6_clearPlace 1 = .ok (.getfield 25, 3) := by decide +kernel
theorem dX6_clearPlace_4 : decode cX6_clearPlace 4 = .ok (.iload_n 1, 1) := by decide +kernel
theorem dX6_clearPlace_5 : decode cX6_clearPlace 5 = .ok (.iconst 0, 1) := by decide +kernel
theorem dX6_clearPlace_6 : decode cX6_clearPlace 6 = .ok (.iastore, 1) := by decide +kernel
theorem dX6_clearPlace_7 : decode cX6_clearPlace 7 = .ok (.aload_n 0, 1) := by decide +kernel
theorem dX6_clearPlace_8 : decode cX6_clearPlace 8 = .ok (.getfield 28, 3) := by decide +kernel
theorem dX6_clearPlace_11 : decode cX6_clearPlace 11 = .ok (.iload_n 1, 1) := by decide +kernel
theorem dX6_clearPlace_12 : decode cX6_clearPlace 12 = .ok (.ldc 134, 2) := by decide +kernel
theorem dX6_clearPlace_14 : decode cX6_clearPlace 14 = .ok (.iastore, 1) := by decide +kernel
theorem dX6_clearPlace_15 : decode cX6_clearPlace 15 = .ok (.aload_n 0, 1) := by decide +kernel
theorem dX6_clearPlace_16 : decode cX6_clearPlace 16 = .ok (.getfield 31, 3) := by decide +kernel
theorem dX6_clearPlace_19 : decode cX6_clearPlace 19 = .ok (.iload_n 1, 1) := by decide +kernel
theorem dX6_clearPlace_20 : decode cX6_clearPlace 20 = .ok (.iconst 0, 1) := by decide +kernel
theorem dX6_clearPlace_21 : decode cX6_clearPlace 21 = .ok (.iastore, 1) := by decide +kernel
theorem dX6_clearPlace_22 : decode cX6_clearPlace 22 = .ok (.aload_n 0, 1) := by decide +kernel
theorem dX6_clearPlace_23 : decode cX6_clearPlace 23 = .ok (.getfield 34, 3) := by decide +kernel
theorem dX6_clearPlace_26 : decode cX6_clearPlace 26 = .ok (.iload_n 1, 1) := by decide +kernel
theorem dX6_clearPlace_27 : decode cX6_clearPlace 27 = .ok (.ldc 134, 2) := by decide +kernel
theorem dX6_clearPlace_29 : decode cX6_clearPlace 29 = .ok (.iastore, 1) := by decide +kernel
theorem dX6_clearPlace_30 : decode cX6_clearPlace 30 = .ok (.return_, 1) := by decide +kernel
def wo_q_clearPlace : List Cond := [.code yX6_clearPlace cX6_clearPlace 2 none, .fieldLink RX6 25 "TimingHouse$Timing" "lateSlopes" "[I", .fieldLink RX6 28 "TimingHouse$Timing" "earlySlopes" "[I", .constant RX6 134 1000000000, .fieldLink RX6 31 "TimingHouse$Timing" "lateArrivals" "[I", .fieldLink RX6 34 "TimingHouse$Timing" "earlyArrivals" "[I"]
def wr_q_clearPlace : List Cond := (wsX60 ++ ([]))
def w_q_clearPlace : List Cond := wo_q_clearPlace ++ wr_q_clearPlace
theorem wg_q_clearPlace : GW w_q_clearPlace := GW_app (GW_of (by decide +kernel)) (GW_app (GW_of (by decide +kernel)) (GW_nil))
theorem i_q_clearPlace_X6 : ∀ w ∈ wsX60, w ∈ w_q_clearPlace := fun _ h => List.mem_append_right _ (List.mem_append_left _ h)
set_option maxHeartbeats 8000000 in
set_option maxRecDepth 100000 in
theorem q_clearPlace (l : Launch) (E : gE) (o_i o_n o_z o_k o_t a_i_reached a_i_open a_i_lateDelays a_i_earlyDelays a_i_lateSlopes a_i_earlySlopes a_i_lateArrivals a_i_earlyArrivals : Nat) (p1 : Int32) (g_i_lateSlopes : Nat → Int32) (g_i_earlySlopes : Nat → Int32) (g_i_lateArrivals : Nat → Int32) (g_i_earlyArrivals : Nat → Int32) (r_p1 : RG p1 0 99) : CtV l E yX6_clearPlace w_q_clearPlace ({ frames := 0, cells := 0, slots := 0, locals := 0 }) [(o_i, .inr (6, [.ref o_n, .ref o_z, .ref o_k, .ref o_t, .ref a_i_reached, .ref a_i_open, .ref a_i_lateDelays, .ref a_i_earlyDelays, .ref a_i_lateSlopes, .ref a_i_earlySlopes, .ref a_i_lateArrivals, .ref a_i_earlyArrivals])), (a_i_lateSlopes, aI E 100 g_i_lateSlopes), (a_i_earlySlopes, aI E 100 g_i_earlySlopes), (a_i_lateArrivals, aI E 100 g_i_lateArrivals), (a_i_earlyArrivals, aI E 100 g_i_earlyArrivals)] [.ref o_i, .int p1] (fun w => ∃ ng_i_lateSlopes : Nat → Int32, ∃ ng_i_earlySlopes : Nat → Int32, ∃ ng_i_lateArrivals : Nat → Int32, ∃ ng_i_earlyArrivals : Nat → Int32, w = [(o_i, .inr (6, [.ref o_n, .ref o_z, .ref o_k, .ref o_t, .ref a_i_reached, .ref a_i_open, .ref a_i_lateDelays, .ref a_i_earlyDelays, .ref a_i_lateSlopes, .ref a_i_earlySlopes, .ref a_i_lateArrivals, .ref a_i_earlyArrivals])), (a_i_lateSlopes, aI E 100 ng_i_lateSlopes), (a_i_earlySlopes, aI E 100 ng_i_earlySlopes), (a_i_lateArrivals, aI E 100 ng_i_lateArrivals), (a_i_earlyArrivals, aI E 100 ng_i_earlyArrivals)]) := by
  refine CtV.of (cc := cX6_clearPlace) (maxL := 2) (rt := none) (by decide) rfl (Nat.le_of_ble_eq_true rfl) ?_
  intro p e s m below meth c A B ls hl
  obtain ⟨hx, hb, hml, hr, hlk, hin, hts, hown, hK, hN, hZ, hA, hP, hD, hS⟩ := B
  replace hown : s.vm.findClass RX6 = some m.cls := hown
  have hto : ∀ w ∈ wo_q_clearPlace, w.before _ s = true := fun w h => hts w (List.mem_append_left _ h)
  replace hl : lv_has ls 2 [(0, .ref o_i), (1, .int p1)] := hl
  obtain ⟨H, hHe⟩ : ∃ H, H = s.heap := ⟨_, rfl⟩
  obtain ⟨locs, hle⟩ : ∃ l : List Loc, l = [] := ⟨_, rfl⟩
  replace hS : va_S A s.heap H locs := by rw [hHe, hle]; exact hS
  replace hP : va_P E.1 vwCl [(o_i, .inr (6, [.ref o_n, .ref o_z, .ref o_k, .ref o_t, .ref a_i_reached, .ref a_i_open, .ref a_i_lateDelays, .ref a_i_earlyDelays, .ref a_i_lateSlopes, .ref a_i_earlySlopes, .ref a_i_lateArrivals, .ref a_i_earlyArrivals])), (a_i_lateSlopes, aI E 100 g_i_lateSlopes), (a_i_earlySlopes, aI E 100 g_i_earlySlopes), (a_i_lateArrivals, aI E 100 g_i_lateArrivals), (a_i_earlyArrivals, aI E 100 g_i_earlyArrivals)] H := by rw [hHe]; exact hP
  refine W_hl hHe hle ?_
  clear hHe hle
  refine lv_aload_n hx hb dX6_clearPlace_0 rfl (lv_at hl 0 rfl) ?_
  refine va_get (D := E.1) (ci := 6) (v := .ref a_i_lateSlopes) (own := RX6) (C := RX6) (T := TX6) (N := 12) hx hb hts i_q_clearPlace_X6 hown hK hP 0 rfl rfl 8 (by decide) (hto (.fieldLink RX6 25 "TimingHouse$Timing" "lateSlopes" "[I") (by decide +kernel)) (fun _ h9 => h9) rfl dX6_clearPlace_1 ?_
  refine lv_iload_n hx hb dX6_clearPlace_4 rfl (lv_at hl 1 rfl) ?_
  refine lv_iconst (v := 0) hx hb dX6_clearPlace_5 (by decide) ?_
  have b_p1 := r_p1.out
  refine st_i hx hb hK hP hD hS 1 rfl (by omega) dX6_clearPlace_6 (fun g_1 H locs eg_1 hP hD hS => ?_)
  clear eg_1
  replace hP : va_P E.1 vwCl [(o_i, .inr (6, [.ref o_n, .ref o_z, .ref o_k, .ref o_t, .ref a_i_reached, .ref a_i_open, .ref a_i_lateDelays, .ref a_i_earlyDelays, .ref a_i_lateSlopes, .ref a_i_earlySlopes, .ref a_i_lateArrivals, .ref a_i_earlyArrivals])), (a_i_lateSlopes, aI E 100 g_1), (a_i_earlySlopes, aI E 100 g_i_earlySlopes), (a_i_lateArrivals, aI E 100 g_i_lateArrivals), (a_i_earlyArrivals, aI E 100 g_i_earlyArrivals)] H := hP
  replace hD : va_D A [(o_i, .inr (6, [.ref o_n, .ref o_z, .ref o_k, .ref o_t, .ref a_i_reached, .ref a_i_open, .ref a_i_lateDelays, .ref a_i_earlyDelays, .ref a_i_lateSlopes, .ref a_i_earlySlopes, .ref a_i_lateArrivals, .ref a_i_earlyArrivals])), (a_i_lateSlopes, aI E 100 g_1), (a_i_earlySlopes, aI E 100 g_i_earlySlopes), (a_i_lateArrivals, aI E 100 g_i_lateArrivals), (a_i_earlyArrivals, aI E 100 g_i_earlyArrivals)] := hD
  refine lv_aload_n hx hb dX6_clearPlace_7 rfl (lv_at hl 0 rfl) ?_
  refine va_get (D := E.1) (ci := 6) (v := .ref a_i_earlySlopes) (own := RX6) (C := RX6) (T := TX6) (N := 12) hx hb hts i_q_clearPlace_X6 hown hK hP 0 rfl rfl 9 (by decide) (hto (.fieldLink RX6 28 "TimingHouse$Timing" "earlySlopes" "[I") (by decide +kernel)) (fun _ h9 => h9) rfl dX6_clearPlace_8 ?_
  refine lv_iload_n hx hb dX6_clearPlace_11 rfl (lv_at hl 1 rfl) ?_
  refine lv_ldc (v := 1000000000) hx hb hown (hto (.constant RX6 134 1000000000) (by decide +kernel)) dX6_clearPlace_12 ?_
  refine st_i hx hb hK hP hD hS 2 rfl (by omega) dX6_clearPlace_14 (fun g_2 H locs eg_2 hP hD hS => ?_)
  clear eg_2
  replace hP : va_P E.1 vwCl [(o_i, .inr (6, [.ref o_n, .ref o_z, .ref o_k, .ref o_t, .ref a_i_reached, .ref a_i_open, .ref a_i_lateDelays, .ref a_i_earlyDelays, .ref a_i_lateSlopes, .ref a_i_earlySlopes, .ref a_i_lateArrivals, .ref a_i_earlyArrivals])), (a_i_lateSlopes, aI E 100 g_1), (a_i_earlySlopes, aI E 100 g_2), (a_i_lateArrivals, aI E 100 g_i_lateArrivals), (a_i_earlyArrivals, aI E 100 g_i_earlyArrivals)] H := hP
  replace hD : va_D A [(o_i, .inr (6, [.ref o_n, .ref o_z, .ref o_k, .ref o_t, .ref a_i_reached, .ref a_i_open, .ref a_i_lateDelays, .ref a_i_earlyDelays, .ref a_i_lateSlopes, .ref a_i_earlySlopes, .ref a_i_lateArrivals, .ref a_i_earlyArrivals])), (a_i_lateSlopes, aI E 100 g_1), (a_i_earlySlopes, aI E 100 g_2), (a_i_lateArrivals, aI E 100 g_i_lateArrivals), (a_i_earlyArrivals, aI E 100 g_i_earlyArrivals)] := hD
  refine lv_aload_n hx hb dX6_clearPlace_15 rfl (lv_at hl 0 rfl) ?_
  refine va_get (D := E.1) (ci := 6) (v := .ref a_i_lateArrivals) (own := RX6) (C := RX6) (T := TX6) (N := 12) hx hb hts i_q_clearPlace_X6 hown hK hP 0 rfl rfl 10 (by decide) (hto (.fieldLink RX6 31 "TimingHouse$Timing" "lateArrivals" "[I") (by decide +kernel)) (fun _ h9 => h9) rfl dX6_clearPlace_16 ?_
  refine lv_iload_n hx hb dX6_clearPlace_19 rfl (lv_at hl 1 rfl) ?_
  refine lv_iconst (v := 0) hx hb dX6_clearPlace_20 (by decide) ?_
  refine st_i hx hb hK hP hD hS 3 rfl (by omega) dX6_clearPlace_21 (fun g_3 H locs eg_3 hP hD hS => ?_)
  clear eg_3
  replace hP : va_P E.1 vwCl [(o_i, .inr (6, [.ref o_n, .ref o_z, .ref o_k, .ref o_t, .ref a_i_reached, .ref a_i_open, .ref a_i_lateDelays, .ref a_i_earlyDelays, .ref a_i_lateSlopes, .ref a_i_earlySlopes, .ref a_i_lateArrivals, .ref a_i_earlyArrivals])), (a_i_lateSlopes, aI E 100 g_1), (a_i_earlySlopes, aI E 100 g_2), (a_i_lateArrivals, aI E 100 g_3), (a_i_earlyArrivals, aI E 100 g_i_earlyArrivals)] H := hP
  replace hD : va_D A [(o_i, .inr (6, [.ref o_n, .ref o_z, .ref o_k, .ref o_t, .ref a_i_reached, .ref a_i_open, .ref a_i_lateDelays, .ref a_i_earlyDelays, .ref a_i_lateSlopes, .ref a_i_earlySlopes, .ref a_i_lateArrivals, .ref a_i_earlyArrivals])), (a_i_lateSlopes, aI E 100 g_1), (a_i_earlySlopes, aI E 100 g_2), (a_i_lateArrivals, aI E 100 g_3), (a_i_earlyArrivals, aI E 100 g_i_earlyArrivals)] := hD
  refine lv_aload_n hx hb dX6_clearPlace_22 rfl (lv_at hl 0 rfl) ?_
  refine va_get (D := E.1) (ci := 6) (v := .ref a_i_earlyArrivals) (own := RX6) (C := RX6) (T := TX6) (N := 12) hx hb hts i_q_clearPlace_X6 hown hK hP 0 rfl rfl 11 (by decide) (hto (.fieldLink RX6 34 "TimingHouse$Timing" "earlyArrivals" "[I") (by decide +kernel)) (fun _ h9 => h9) rfl dX6_clearPlace_23 ?_
  refine lv_iload_n hx hb dX6_clearPlace_26 rfl (lv_at hl 1 rfl) ?_
  refine lv_ldc (v := 1000000000) hx hb hown (hto (.constant RX6 134 1000000000) (by decide +kernel)) dX6_clearPlace_27 ?_
  refine st_i hx hb hK hP hD hS 4 rfl (by omega) dX6_clearPlace_29 (fun g_4 H locs eg_4 hP hD hS => ?_)
  clear eg_4
  replace hP : va_P E.1 vwCl [(o_i, .inr (6, [.ref o_n, .ref o_z, .ref o_k, .ref o_t, .ref a_i_reached, .ref a_i_open, .ref a_i_lateDelays, .ref a_i_earlyDelays, .ref a_i_lateSlopes, .ref a_i_earlySlopes, .ref a_i_lateArrivals, .ref a_i_earlyArrivals])), (a_i_lateSlopes, aI E 100 g_1), (a_i_earlySlopes, aI E 100 g_2), (a_i_lateArrivals, aI E 100 g_3), (a_i_earlyArrivals, aI E 100 g_4)] H := hP
  replace hD : va_D A [(o_i, .inr (6, [.ref o_n, .ref o_z, .ref o_k, .ref o_t, .ref a_i_reached, .ref a_i_open, .ref a_i_lateDelays, .ref a_i_earlyDelays, .ref a_i_lateSlopes, .ref a_i_earlySlopes, .ref a_i_lateArrivals, .ref a_i_earlyArrivals])), (a_i_lateSlopes, aI E 100 g_1), (a_i_earlySlopes, aI E 100 g_2), (a_i_lateArrivals, aI E 100 g_3), (a_i_earlyArrivals, aI E 100 g_4)] := hD
  exact ret_v hx hb hr hlk (hP.sub (ws' := [(o_i, .inr (6, [.ref o_n, .ref o_z, .ref o_k, .ref o_t, .ref a_i_reached, .ref a_i_open, .ref a_i_lateDelays, .ref a_i_earlyDelays, .ref a_i_lateSlopes, .ref a_i_earlySlopes, .ref a_i_lateArrivals, .ref a_i_earlyArrivals])), (a_i_lateSlopes, aI E 100 g_1), (a_i_earlySlopes, aI E 100 g_2), (a_i_lateArrivals, aI E 100 g_3), (a_i_earlyArrivals, aI E 100 g_4)]) [0, 1, 2, 3, 4] rfl) (hD.sub (ws' := [(o_i, .inr (6, [.ref o_n, .ref o_z, .ref o_k, .ref o_t, .ref a_i_reached, .ref a_i_open, .ref a_i_lateDelays, .ref a_i_earlyDelays, .ref a_i_lateSlopes, .ref a_i_earlySlopes, .ref a_i_lateArrivals, .ref a_i_earlyArrivals])), (a_i_lateSlopes, aI E 100 g_1), (a_i_earlySlopes, aI E 100 g_2), (a_i_lateArrivals, aI E 100 g_3), (a_i_earlyArrivals, aI E 100 g_4)]) [0, 1, 2, 3, 4] (by decide) rfl) hS dX6_clearPlace_30 (Nat.le_of_ble_eq_true rfl) (Nat.le_of_ble_eq_true rfl) ⟨g_1, g_2, g_3, g_4, rfl⟩
theorem dX6_takeInputs_0 : decode cX6_takeInputs 0 = .ok (.iload_n 1, 1) := by decide +kernel
theorem dX6_takeInputs_1 : decode cX6_takeInputs 1 = .ok (.iconst 4, 1) := by decide +kernel
theorem dX6_takeInputs_2 : decode cX6_takeInputs 2 = .ok (.imul, 1) := by decide +kernel
theorem dX6_takeInputs_3 : decode cX6_takeInputs 3 = .ok (.istore_n 2, 1) := by decide +kernel
theorem dX6_takeInputs_4 : decode cX6_takeInputs 4 = .ok (.iload_n 2, 1) := by decide +kernel
theorem dX6_takeInputs_5 : decode cX6_takeInputs 5 = .ok (.iload_n 1, 1) := by decide +kernel
theorem dX6_takeInputs_6 : decode cX6_takeInputs 6 = .ok (.iconst 4, 1) := by decide +kernel
theorem dX6_takeInputs_7 : decode cX6_takeInputs 7 = .ok (.imul, 1) := by decide +kernel
theorem dX6_takeInputs_8 : decode cX6_takeInputs 8 = .ok (.aload_n 0, 1) := by decide +kernel
theorem dX6_takeInputs_9 : decode cX6_takeInputs 9 = .ok (.getfield 37, 3) := by decide +kernel
theorem dX6_takeInputs_12 : decode cX6_takeInputs 12 = .ok (.getfield 131, 3) := by decide +kernel
theorem dX6_takeInputs_15 : decode cX6_takeInputs 15 = .ok (.iload_n 1, 1) := by decide +kernel
theorem dX6_takeInputs_16 : decode cX6_takeInputs 16 = .ok (.iaload, 1) := by decide +kernel
theorem dX6_takeInputs_17 : decode cX6_takeInputs 17 = .ok (.iadd, 1) := by decide +kernel
theorem dX6_takeInputs_18 : decode cX6_takeInputs 18 = .ok (.if_icmp .ge 39, 3) := by decide +kernel
theorem dX6_takeInputs_57 : decode cX6_takeInputs 57 = .ok (.return_, 1) := by decide +kernel
theorem dX6_takeInputs_21 : decode cX6_takeInputs 21 = .ok (.aload_n 0, 1) := by decide +kernel
theorem dX6_takeInputs_22 : decode cX6_takeInputs 22 = .ok (.iload_n 2, 1) := by decide +kernel
theorem dX6_takeInputs_23 : decode cX6_takeInputs 23 = .ok (.invokevirtual 85, 3) := by decide +kernel
theorem dX6_takeInputs_26 : decode cX6_takeInputs 26 = .ok (.ifCond .eq 10, 3) := by decide +kernel
theorem dX6_takeInputs_36 : decode cX6_takeInputs 36 = .ok (.aload_n 0, 1) := by decide +kernel
theorem dX6_takeInputs_37 : decode cX6_takeInputs 37 = .ok (.iload_n 2, 1) := by decide +kernel
theorem dX6_takeInputs_38 : decode cX6_takeInputs 38 = .ok (.invokevirtual 88, 3) := by decide +kernel
theorem dX6_takeInputs_41 : decode cX6_takeInputs 41 = .ok (.ifCond .eq 10, 3) := by decide +kernel
theorem dX6_takeInputs_51 : decode cX6_takeInputs 51 = .ok (.iinc 2 1, 3) := by decide +kernel
theorem dX6_takeInputs_54 : decode cX6_takeInputs 54 = .ok (.goto (-50), 3) := by decide +kernel
theorem dX6_takeInputs_44 : decode cX6_takeInputs 44 = .ok (.aload_n 0, 1) := by decide +kernel
theorem dX6_takeInputs_45 : decode cX6_takeInputs 45 = .ok (.getfield 15, 3) := by decide +kernel
theorem dX6_takeInputs_48 : decode cX6_takeInputs 48 = .ok (.iload_n 1, 1) := by decide +kernel
theorem dX6_takeInputs_49 : decode cX6_takeInputs 49 = .ok (.iconst 1, 1) := by decide +kernel
theorem dX6_takeInputs_50 : decode cX6_takeInputs 50 = .ok (.iastore, 1) := by decide +kernel
theorem dX6_takeInputs_29 : decode cX6_takeInputs 29 = .ok (.aload_n 0, 1) := by decide +kernel
theorem dX6_takeInputs_30 : decode cX6_takeInputs 30 = .ok (.getfield 9, 3) := by decide +kernel
theorem dX6_takeInputs_33 : decode cX6_takeInputs 33 = .ok (.iload_n 1, 1) := by decide +kernel
theorem dX6_takeInputs_34 : decode cX6_takeInputs 34 = .ok (.iconst 1, 1) := by decide +kernel
theorem dX6_takeInputs_35 : decode cX6_takeInputs 35 = .ok (.bastore, 1) := by decide +kernel
def wo_q_takeInputs : List Cond := [.code yX6_takeInputs cX6_takeInputs 3 none, .fieldLink RX6 37 "TimingHouse$Timing" "net" "LTimingHouse$Net;", .methodLink RX6 85 yX6_isInputReached, .instanceMethod yX6_isInputReached, .selects RX6 yX6_isInputReached yX6_isInputReached, .initialized RX6, .methodLink RX6 88 yX6_isInputOpen, .instanceMethod yX6_isInputOpen, .selects RX6 yX6_isInputOpen yX6_isInputOpen, .fieldLink RX6 15 "TimingHouse$Timing" "open" "[I", .fieldLink RX6 9 "TimingHouse$Timing" "reached" "[Z"]
def wr_q_takeInputs : List Cond := (wsX10 ++ (wsX60 ++ (w_q_inReached ++ (w_q_inOpen ++ ([])))))
def w_q_takeInputs : List Cond := wo_q_takeInputs ++ wr_q_takeInputs
theorem wg_q_takeInputs : GW w_q_takeInputs := GW_app (GW_of (by decide +kernel)) (GW_app (GW_of (by decide +kernel)) (GW_app (GW_of (by decide +kernel)) (GW_app (wg_q_inReached) (GW_app (wg_q_inOpen) (GW_nil)))))
theorem i_q_takeInputs_X1 : ∀ w ∈ wsX10, w ∈ w_q_takeInputs := fun _ h => List.mem_append_right _ (List.mem_append_left _ h)
theorem i_q_takeInputs_X6 : ∀ w ∈ wsX60, w ∈ w_q_takeInputs := fun _ h => List.mem_append_right _ (List.mem_append_right _ (List.mem_append_left _ h))
theorem g_q_takeInputs_q_inReached_85 : GoodIn w_q_takeInputs (wsV RX6 85 RX6 yX6_isInputReached w_q_inReached) := goodIn_app (gi_left (goodIn_of _ (by decide +kernel))) (fun w h => ⟨List.mem_append_right _ (List.mem_append_right _ (List.mem_append_right _ (List.mem_append_left _ h))), wg_q_inReached w h⟩)
theorem g_q_takeInputs_q_inOpen_88 : GoodIn w_q_takeInputs (wsV RX6 88 RX6 yX6_isInputOpen w_q_inOpen) := goodIn_app (gi_left (goodIn_of _ (by decide +kernel))) (fun w h => ⟨List.mem_append_right _ (List.mem_append_right _ (List.mem_append_right _ (List.mem_append_right _ (List.mem_append_left _ h)))), wg_q_inOpen w h⟩)
set_option maxHeartbeats 8000000 in
set_option maxRecDepth 100000 in
theorem q_takeInputs (l : Launch) (E : gE) (o_i o_n o_z o_k o_t a_i_reached a_i_open a_i_lateDelays a_i_earlyDelays a_i_lateSlopes a_i_earlySlopes a_i_lateArrivals a_i_earlyArrivals a_n_kinds a_n_inputs a_n_tables a_n_sizes a_n_extras a_n_sources a_n_takers a_n_firstTaker a_n_order a_n_tally a_n_behind : Nat) (f_n_cells f_n_ordered p1 : Int32) (g_n_inputs : Nat → Int32) (g_n_sources : Nat → Int32) (g_i_reached : Nat → Int32) (g_i_open : Nat → Int32) (r_f_n_cells : RG f_n_cells 0 50) (r_f_n_ordered : RG f_n_ordered 0 50) (i_g_n_inputs : AR g_n_inputs 50 0 4) (i_g_n_sources : AR g_n_sources 200 (-5) 49) (i_g_i_reached : AR g_i_reached 50 0 1) (r_p1 : RG p1 0 49) : CtV l E yX6_takeInputs w_q_takeInputs ({ frames := 1, cells := 0, slots := 0, locals := 22 }) [(o_i, .inr (6, [.ref o_n, .ref o_z, .ref o_k, .ref o_t, .ref a_i_reached, .ref a_i_open, .ref a_i_lateDelays, .ref a_i_earlyDelays, .ref a_i_lateSlopes, .ref a_i_earlySlopes, .ref a_i_lateArrivals, .ref a_i_earlyArrivals])), (o_n, .inr (1, [.int f_n_cells, .ref a_n_kinds, .ref a_n_inputs, .ref a_n_tables, .ref a_n_sizes, .ref a_n_extras, .ref a_n_sources, .ref a_n_takers, .ref a_n_firstTaker, .ref a_n_order, .int f_n_ordered, .ref a_n_tally, .ref a_n_behind])), (a_n_inputs, aI E 50 g_n_inputs), (a_n_sources, aI E 200 g_n_sources), (a_i_reached, aZ E 50 g_i_reached), (a_i_open, aI E 50 g_i_open)] [.ref o_i, .int p1] (fun w => ∃ ng_i_reached : Nat → Int32, ∃ ng_i_open : Nat → Int32, AR ng_i_reached 50 0 1 ∧ w = [(o_i, .inr (6, [.ref o_n, .ref o_z, .ref o_k, .ref o_t, .ref a_i_reached, .ref a_i_open, .ref a_i_lateDelays, .ref a_i_earlyDelays, .ref a_i_lateSlopes, .ref a_i_earlySlopes, .ref a_i_lateArrivals, .ref a_i_earlyArrivals])), (o_n, .inr (1, [.int f_n_cells, .ref a_n_kinds, .ref a_n_inputs, .ref a_n_tables, .ref a_n_sizes, .ref a_n_extras, .ref a_n_sources, .ref a_n_takers, .ref a_n_firstTaker, .ref a_n_order, .int f_n_ordered, .ref a_n_tally, .ref a_n_behind])), (a_n_inputs, aI E 50 g_n_inputs), (a_n_sources, aI E 200 g_n_sources), (a_i_reached, aZ E 50 ng_i_reached), (a_i_open, aI E 50 ng_i_open)]) := by
  refine CtV.of (cc := cX6_takeInputs) (maxL := 3) (rt := none) (by decide) rfl (Nat.le_of_ble_eq_true rfl) ?_
  intro p e s m below meth c A B ls hl
  obtain ⟨hx, hb, hml, hr, hlk, hin, hts, hown, hK, hN, hZ, hA, hP, hD, hS⟩ := B
  replace hown : s.vm.findClass RX6 = some m.cls := hown
  have hto : ∀ w ∈ wo_q_takeInputs, w.before _ s = true := fun w h => hts w (List.mem_append_left _ h)
  replace hl : lv_has ls 3 [(0, .ref o_i), (1, .int p1)] := hl
  obtain ⟨H, hHe⟩ : ∃ H, H = s.heap := ⟨_, rfl⟩
  obtain ⟨locs, hle⟩ : ∃ l : List Loc, l = [] := ⟨_, rfl⟩
  replace hS : va_S A s.heap H locs := by rw [hHe, hle]; exact hS
  replace hP : va_P E.1 vwCl [(o_i, .inr (6, [.ref o_n, .ref o_z, .ref o_k, .ref o_t, .ref a_i_reached, .ref a_i_open, .ref a_i_lateDelays, .ref a_i_earlyDelays, .ref a_i_lateSlopes, .ref a_i_earlySlopes, .ref a_i_lateArrivals, .ref a_i_earlyArrivals])), (o_n, .inr (1, [.int f_n_cells, .ref a_n_kinds, .ref a_n_inputs, .ref a_n_tables, .ref a_n_sizes, .ref a_n_extras, .ref a_n_sources, .ref a_n_takers, .ref a_n_firstTaker, .ref a_n_order, .int f_n_ordered, .ref a_n_tally, .ref a_n_behind])), (a_n_inputs, aI E 50 g_n_inputs), (a_n_sources, aI E 200 g_n_sources), (a_i_reached, aZ E 50 g_i_reached), (a_i_open, aI E 50 g_i_open)] H := by rw [hHe]; exact hP
  refine W_hl hHe hle ?_
  clear hHe hle
  refine lv_iload_n hx hb dX6_takeInputs_0 rfl (lv_at hl 1 rfl) ?_
  refine lv_iconst (v := 4) hx hb dX6_takeInputs_1 (by decide) ?_
  have b_p1 := r_p1.out
  refine lv_imul hx hb dX6_takeInputs_2 ?_
  refine lv_topi (fun x_1 ex_1 => ?_)
  have tx_1 : x_1.toInt = p1.toInt * 4 := i3_mulc rfl rfl ex_1 (by omega)
  refine lv_istore_n (lv' := [(2, .int x_1), (0, .ref o_i), (1, .int p1)]) hx hb dX6_takeInputs_3 rfl hl (by decide) rfl (fun ls hl => ?_)
  obtain ⟨y_2, hy_2⟩ : ∃ y : Int32, y = x_1 := ⟨_, rfl⟩
  have b_y_2 : 0 ≤ y_2.toInt ∧ y_2.toInt ≤ 200 := by rw [hy_2]; omega
  replace hl : lv_has ls 3 [(2, .int y_2), (0, .ref o_i), (1, .int p1)] := by rw [hy_2]; exact hl
  obtain ⟨y_3, hy_3⟩ : ∃ g : Nat → Int32, g = g_i_reached := ⟨_, rfl⟩
  have i_y_3 : AR y_3 50 0 1 := by rw [hy_3]; exact i_g_i_reached
  obtain ⟨y_4, hy_4⟩ : ∃ g : Nat → Int32, g = g_i_open := ⟨_, rfl⟩
  replace hP : va_P E.1 vwCl [(o_i, .inr (6, [.ref o_n, .ref o_z, .ref o_k, .ref o_t, .ref a_i_reached, .ref a_i_open, .ref a_i_lateDelays, .ref a_i_earlyDelays, .ref a_i_lateSlopes, .ref a_i_earlySlopes, .ref a_i_lateArrivals, .ref a_i_earlyArrivals])), (o_n, .inr (1, [.int f_n_cells, .ref a_n_kinds, .ref a_n_inputs, .ref a_n_tables, .ref a_n_sizes, .ref a_n_extras, .ref a_n_sources, .ref a_n_takers, .ref a_n_firstTaker, .ref a_n_order, .int f_n_ordered, .ref a_n_tally, .ref a_n_behind])), (a_n_inputs, aI E 50 g_n_inputs), (a_n_sources, aI E 200 g_n_sources), (a_i_reached, aZ E 50 y_3), (a_i_open, aI E 50 y_4)] H := by rw [hy_3, hy_4]; exact hP
  replace hD : va_D A [(o_i, .inr (6, [.ref o_n, .ref o_z, .ref o_k, .ref o_t, .ref a_i_reached, .ref a_i_open, .ref a_i_lateDelays, .ref a_i_earlyDelays, .ref a_i_lateSlopes, .ref a_i_earlySlopes, .ref a_i_lateArrivals, .ref a_i_earlyArrivals])), (o_n, .inr (1, [.int f_n_cells, .ref a_n_kinds, .ref a_n_inputs, .ref a_n_tables, .ref a_n_sizes, .ref a_n_extras, .ref a_n_sources, .ref a_n_takers, .ref a_n_firstTaker, .ref a_n_order, .int f_n_ordered, .ref a_n_tally, .ref a_n_behind])), (a_n_inputs, aI E 50 g_n_inputs), (a_n_sources, aI E 200 g_n_sources), (a_i_reached, aZ E 50 y_3), (a_i_open, aI E 50 y_4)] := by rw [hy_3, hy_4]; exact hD
  clear hy_2 hy_3 hy_4
  obtain ⟨d_5, hd_5⟩ : ∃ d : Nat, 200 - y_2.toInt < (d : Int) := ⟨(200 - y_2.toInt + 1).toNat, by omega⟩
  induction d_5 generalizing y_2 y_3 y_4 H locs ls with
  | zero => exfalso; omega
  | succ d_5 ih_d_5 =>
    refine lv_iload_n hx hb dX6_takeInputs_4 rfl (lv_at hl 0 rfl) ?_
    refine lv_iload_n hx hb dX6_takeInputs_5 rfl (lv_at hl 2 rfl) ?_
    refine lv_iconst (v := 4) hx hb dX6_takeInputs_6 (by decide) ?_
    refine lv_imul hx hb dX6_takeInputs_7 ?_
    refine lv_topi (fun x_6 ex_6 => ?_)
    have hq_x_6 : x_1 = x_6 := ex_1.trans ex_6.symm
    subst hq_x_6
    refine lv_aload_n hx hb dX6_takeInputs_8 rfl (lv_at hl 1 rfl) ?_
    refine va_get (D := E.1) (ci := 6) (v := .ref o_n) (own := RX6) (C := RX6) (T := TX6) (N := 12) hx hb hts i_q_takeInputs_X6 hown hK hP 0 rfl rfl 0 (by decide) (hto (.fieldLink RX6 37 "TimingHouse$Timing" "net" "LTimingHouse$Net;") (by decide +kernel)) (fun _ h9 => h9) rfl dX6_takeInputs_9 ?_
    refine va_getN (D := E.1) (ci := 1) (v := .ref a_n_inputs) (own := RX6) (ref := "TimingHouse$Net") (host := "TimingHouse") (C := RX1) (T := TX1) (N := 13) hx hb hts i_q_takeInputs_X1 hown hK hP 1 rfl rfl 2 (by decide) (nw_F hN 8 rfl) (fun _ h9 => h9) rfl dX6_takeInputs_12 ?_
    refine lv_iload_n hx hb dX6_takeInputs_15 rfl (lv_at hl 2 rfl) ?_
    refine ld_i hx hb hK hP 2 rfl (by omega) dX6_takeInputs_16 (fun x_7 ex_7 => ?_)
    have b_x_7 := AR.rd i_g_n_inputs ex_7 (by omega)
    refine lv_iadd hx hb dX6_takeInputs_17 ?_
    refine lv_topi (fun x_8 ex_8 => ?_)
    have tx_8 : x_8.toInt = x_1.toInt + x_7.toInt := i3_addc rfl rfl ex_8 (by omega)
    refine lv_icmp_ge (tgt := 57) hx hb dX6_takeInputs_18 (by decide) (fun c_9 => ?_) (fun c_9 => ?_)
    · have e_9 : x_8.toInt ≤ y_2.toInt := i3_le c_9
      exact ret_v hx hb hr hlk (hP.sub (ws' := [(o_i, .inr (6, [.ref o_n, .ref o_z, .ref o_k, .ref o_t, .ref a_i_reached, .ref a_i_open, .ref a_i_lateDelays, .ref a_i_earlyDelays, .ref a_i_lateSlopes, .ref a_i_earlySlopes, .ref a_i_lateArrivals, .ref a_i_earlyArrivals])), (o_n, .inr (1, [.int f_n_cells, .ref a_n_kinds, .ref a_n_inputs, .ref a_n_tables, .ref a_n_sizes, .ref a_n_extras, .ref a_n_sources, .ref a_n_takers, .ref a_n_firstTaker, .ref a_n_order, .int f_n_ordered, .ref a_n_tally, .ref a_n_behind])), (a_n_inputs, aI E 50 g_n_inputs), (a_n_sources, aI E 200 g_n_sources), (a_i_reached, aZ E 50 y_3), (a_i_open, aI E 50 y_4)]) [0, 1, 2, 3, 4, 5] rfl) (hD.sub (ws' := [(o_i, .inr (6, [.ref o_n, .ref o_z, .ref o_k, .ref o_t, .ref a_i_reached, .ref a_i_open, .ref a_i_lateDelays, .ref a_i_earlyDelays, .ref a_i_lateSlopes, .ref a_i_earlySlopes, .ref a_i_lateArrivals, .ref a_i_earlyArrivals])), (o_n, .inr (1, [.int f_n_cells, .ref a_n_kinds, .ref a_n_inputs, .ref a_n_tables, .ref a_n_sizes, .ref a_n_extras, .ref a_n_sources, .ref a_n_takers, .ref a_n_firstTaker, .ref a_n_order, .int f_n_ordered, .ref a_n_tally, .ref a_n_behind])), (a_n_inputs, aI E 50 g_n_inputs), (a_n_sources, aI E 200 g_n_sources), (a_i_reached, aZ E 50 y_3), (a_i_open, aI E 50 y_4)]) [0, 1, 2, 3, 4, 5] (by decide) rfl) hS dX6_takeInputs_57 (Nat.le_of_ble_eq_true rfl) (Nat.le_of_ble_eq_true rfl) ⟨y_3, y_4, i_y_3, rfl⟩
    · have e_9 : y_2.toInt < x_8.toInt := i3_nle c_9
      refine lv_aload_n hx hb dX6_takeInputs_21 rfl (lv_at hl 1 rfl) ?_
      refine lv_iload_n hx hb dX6_takeInputs_22 rfl (lv_at hl 0 rfl) ?_
      refine call_i (va_runV (As := [.int y_2]) (rest := []) ⟨hx, hb, hml, hown, hts⟩ (q_inReached l E o_i o_n o_z o_k o_t a_i_reached a_i_open a_i_lateDelays a_i_earlyDelays a_i_lateSlopes a_i_earlySlopes a_i_lateArrivals a_i_earlyArrivals a_n_kinds a_n_inputs a_n_tables a_n_sizes a_n_extras a_n_sources a_n_takers a_n_firstTaker a_n_order a_n_tally a_n_behind f_n_cells f_n_ordered y_2 g_n_sources y_3 r_f_n_cells r_f_n_ordered i_g_n_sources i_y_3 (RG.mk (by omega)) H.size) (cwV 1 hts g_q_takeInputs_q_inReached_85 rfl rfl rfl (by decide +kernel) ⟨Nat.le_of_ble_eq_true rfl, Nat.le_of_ble_eq_true rfl⟩) (pre_V hK hN hZ hS (va_free hD hS hA [0, 1, 3, 4] rfl) (hP.sub (ws' := [(o_i, .inr (6, [.ref o_n, .ref o_z, .ref o_k, .ref o_t, .ref a_i_reached, .ref a_i_open, .ref a_i_lateDelays, .ref a_i_earlyDelays, .ref a_i_lateSlopes, .ref a_i_earlySlopes, .ref a_i_lateArrivals, .ref a_i_earlyArrivals])), (o_n, .inr (1, [.int f_n_cells, .ref a_n_kinds, .ref a_n_inputs, .ref a_n_tables, .ref a_n_sizes, .ref a_n_extras, .ref a_n_sources, .ref a_n_takers, .ref a_n_firstTaker, .ref a_n_order, .int f_n_ordered, .ref a_n_tally, .ref a_n_behind])), (a_n_sources, aI E 200 g_n_sources), (a_i_reached, aZ E 50 y_3)]) [0, 1, 3, 4] rfl) (hD.sub (ws' := [(o_i, .inr (6, [.ref o_n, .ref o_z, .ref o_k, .ref o_t, .ref a_i_reached, .ref a_i_open, .ref a_i_lateDelays, .ref a_i_earlyDelays, .ref a_i_lateSlopes, .ref a_i_earlySlopes, .ref a_i_lateArrivals, .ref a_i_earlyArrivals])), (o_n, .inr (1, [.int f_n_cells, .ref a_n_kinds, .ref a_n_inputs, .ref a_n_tables, .ref a_n_sizes, .ref a_n_extras, .ref a_n_sources, .ref a_n_takers, .ref a_n_firstTaker, .ref a_n_order, .int f_n_ordered, .ref a_n_tally, .ref a_n_behind])), (a_n_sources, aI E 200 g_n_sources), (a_i_reached, aZ E 50 y_3)]) [0, 1, 3, 4] (by decide) rfl) (ci := 6) (q0 := 0) rfl rfl) rfl rfl hl.1 rfl (lv_room (Nat.le_of_ble_eq_true rfl)) dX6_takeInputs_23 ⟨Nat.le_of_ble_eq_true rfl, Nat.le_of_ble_eq_true rfl⟩) hP hD hS hA [0, 1, 3, 4] [2, 5] (wr := [(a_n_inputs, aI E 50 g_n_inputs), (a_i_open, aI E 50 y_4)]) rfl rfl (by decide) (by decide) (fun r_10 w H locs hw hP hD hS => ?_)
      obtain ⟨b_r_10, l_r_10, rfl⟩ := hw
      replace l_r_10 : (r_10.toInt ≠ 0 → 0 ≤ (g_n_sources y_2.toNatClampNeg).toInt) := l_r_10
      replace hP : va_P E.1 vwCl [(a_n_inputs, aI E 50 g_n_inputs), (a_i_open, aI E 50 y_4), (o_i, .inr (6, [.ref o_n, .ref o_z, .ref o_k, .ref o_t, .ref a_i_reached, .ref a_i_open, .ref a_i_lateDelays, .ref a_i_earlyDelays, .ref a_i_lateSlopes, .ref a_i_earlySlopes, .ref a_i_lateArrivals, .ref a_i_earlyArrivals])), (o_n, .inr (1, [.int f_n_cells, .ref a_n_kinds, .ref a_n_inputs, .ref a_n_tables, .ref a_n_sizes, .ref a_n_extras, .ref a_n_sources, .ref a_n_takers, .ref a_n_firstTaker, .ref a_n_order, .int f_n_ordered, .ref a_n_tally, .ref a_n_behind])), (a_n_sources, aI E 200 g_n_sources), (a_i_reached, aZ E 50 y_3)] H := hP
      replace hD : va_D A [(a_n_inputs, aI E 50 g_n_inputs), (a_i_open, aI E 50 y_4), (o_i, .inr (6, [.ref o_n, .ref o_z, .ref o_k, .ref o_t, .ref a_i_reached, .ref a_i_open, .ref a_i_lateDelays, .ref a_i_earlyDelays, .ref a_i_lateSlopes, .ref a_i_earlySlopes, .ref a_i_lateArrivals, .ref a_i_earlyArrivals])), (o_n, .inr (1, [.int f_n_cells, .ref a_n_kinds, .ref a_n_inputs, .ref a_n_tables, .ref a_n_sizes, .ref a_n_extras, .ref a_n_sources, .ref a_n_takers, .ref a_n_firstTaker, .ref a_n_order, .int f_n_ordered, .ref a_n_tally, .ref a_n_behind])), (a_n_sources, aI E 200 g_n_sources), (a_i_reached, aZ E 50 y_3)] := hD
      refine lv_if_eq (tgt := 36) hx hb dX6_takeInputs_26 (by decide) (fun c_11 => ?_) (fun c_11 => ?_)
      · have e_11 : r_10.toInt = 0 := i3_eq c_11
        refine lv_aload_n hx hb dX6_takeInputs_36 rfl (lv_at hl 1 rfl) ?_
        refine lv_iload_n hx hb dX6_takeInputs_37 rfl (lv_at hl 0 rfl) ?_
        refine call_i (va_runV (As := [.int y_2]) (rest := []) ⟨hx, hb, hml, hown, hts⟩ (q_inOpen l E o_i o_n o_z o_k o_t a_i_reached a_i_open a_i_lateDelays a_i_earlyDelays a_i_lateSlopes a_i_earlySlopes a_i_lateArrivals a_i_earlyArrivals a_n_kinds a_n_inputs a_n_tables a_n_sizes a_n_extras a_n_sources a_n_takers a_n_firstTaker a_n_order a_n_tally a_n_behind f_n_cells f_n_ordered y_2 g_n_sources y_4 r_f_n_cells r_f_n_ordered i_g_n_sources (RG.mk (by omega)) H.size) (cwV 1 hts g_q_takeInputs_q_inOpen_88 rfl rfl rfl (by decide +kernel) ⟨Nat.le_of_ble_eq_true rfl, Nat.le_of_ble_eq_true rfl⟩) (pre_V hK hN hZ hS (va_free hD hS hA [2, 3, 4, 1] rfl) (hP.sub (ws' := [(o_i, .inr (6, [.ref o_n, .ref o_z, .ref o_k, .ref o_t, .ref a_i_reached, .ref a_i_open, .ref a_i_lateDelays, .ref a_i_earlyDelays, .ref a_i_lateSlopes, .ref a_i_earlySlopes, .ref a_i_lateArrivals, .ref a_i_earlyArrivals])), (o_n, .inr (1, [.int f_n_cells, .ref a_n_kinds, .ref a_n_inputs, .ref a_n_tables, .ref a_n_sizes, .ref a_n_extras, .ref a_n_sources, .ref a_n_takers, .ref a_n_firstTaker, .ref a_n_order, .int f_n_ordered, .ref a_n_tally, .ref a_n_behind])), (a_n_sources, aI E 200 g_n_sources), (a_i_open, aI E 50 y_4)]) [2, 3, 4, 1] rfl) (hD.sub (ws' := [(o_i, .inr (6, [.ref o_n, .ref o_z, .ref o_k, .ref o_t, .ref a_i_reached, .ref a_i_open, .ref a_i_lateDelays, .ref a_i_earlyDelays, .ref a_i_lateSlopes, .ref a_i_earlySlopes, .ref a_i_lateArrivals, .ref a_i_earlyArrivals])), (o_n, .inr (1, [.int f_n_cells, .ref a_n_kinds, .ref a_n_inputs, .ref a_n_tables, .ref a_n_sizes, .ref a_n_extras, .ref a_n_sources, .ref a_n_takers, .ref a_n_firstTaker, .ref a_n_order, .int f_n_ordered, .ref a_n_tally, .ref a_n_behind])), (a_n_sources, aI E 200 g_n_sources), (a_i_open, aI E 50 y_4)]) [2, 3, 4, 1] (by decide) rfl) (ci := 6) (q0 := 0) rfl rfl) rfl rfl hl.1 rfl (lv_room (Nat.le_of_ble_eq_true rfl)) dX6_takeInputs_38 ⟨Nat.le_of_ble_eq_true rfl, Nat.le_of_ble_eq_true rfl⟩) hP hD hS hA [2, 3, 4, 1] [0, 5] (wr := [(a_n_inputs, aI E 50 g_n_inputs), (a_i_reached, aZ E 50 y_3)]) rfl rfl (by decide) (by decide) (fun r_12 w H locs hw hP hD hS => ?_)
        obtain ⟨b_r_12, rfl⟩ := hw
        replace hP : va_P E.1 vwCl [(a_n_inputs, aI E 50 g_n_inputs), (a_i_reached, aZ E 50 y_3), (o_i, .inr (6, [.ref o_n, .ref o_z, .ref o_k, .ref o_t, .ref a_i_reached, .ref a_i_open, .ref a_i_lateDelays, .ref a_i_earlyDelays, .ref a_i_lateSlopes, .ref a_i_earlySlopes, .ref a_i_lateArrivals, .ref a_i_earlyArrivals])), (o_n, .inr (1, [.int f_n_cells, .ref a_n_kinds, .ref a_n_inputs, .ref a_n_tables, .ref a_n_sizes, .ref a_n_extras, .ref a_n_sources, .ref a_n_takers, .ref a_n_firstTaker, .ref a_n_order, .int f_n_ordered, .ref a_n_tally, .ref a_n_behind])), (a_n_sources, aI E 200 g_n_sources), (a_i_open, aI E 50 y_4)] H := hP
        replace hD : va_D A [(a_n_inputs, aI E 50 g_n_inputs), (a_i_reached, aZ E 50 y_3), (o_i, .inr (6, [.ref o_n, .ref o_z, .ref o_k, .ref o_t, .ref a_i_reached, .ref a_i_open, .ref a_i_lateDelays, .ref a_i_earlyDelays, .ref a_i_lateSlopes, .ref a_i_earlySlopes, .ref a_i_lateArrivals, .ref a_i_earlyArrivals])), (o_n, .inr (1, [.int f_n_cells, .ref a_n_kinds, .ref a_n_inputs, .ref a_n_tables, .ref a_n_sizes, .ref a_n_extras, .ref a_n_sources, .ref a_n_takers, .ref a_n_firstTaker, .ref a_n_order, .int f_n_ordered, .ref a_n_tally, .ref a_n_behind])), (a_n_sources, aI E 200 g_n_sources), (a_i_open, aI E 50 y_4)] := hD
        refine lv_if_eq (tgt := 51) hx hb dX6_takeInputs_41 (by decide) (fun c_13 => ?_) (fun c_13 => ?_)
        · have e_13 : r_12.toInt = 0 := i3_eq c_13
          obtain ⟨x_14, ex_14⟩ : ∃ y : Int32, y = y_2 + 1 := ⟨_, rfl⟩
          have tx_14 : x_14.toInt = y_2.toInt + 1 := i3_addc rfl rfl ex_14 (by omega)
          refine lv_iinc (v := x_14) (lv' := [(2, .int x_14), (0, .ref o_i), (1, .int p1)]) hx hb dX6_takeInputs_51 hl (k := 0) rfl (by rw [ex_14]; rfl) (by decide) rfl (fun ls hl => ?_)
          refine lv_goto (tgt := 4) hx hb dX6_takeInputs_54 (by decide) ?_
          replace hP : va_P E.1 vwCl [(o_i, .inr (6, [.ref o_n, .ref o_z, .ref o_k, .ref o_t, .ref a_i_reached, .ref a_i_open, .ref a_i_lateDelays, .ref a_i_earlyDelays, .ref a_i_lateSlopes, .ref a_i_earlySlopes, .ref a_i_lateArrivals, .ref a_i_earlyArrivals])), (o_n, .inr (1, [.int f_n_cells, .ref a_n_kinds, .ref a_n_inputs, .ref a_n_tables, .ref a_n_sizes, .ref a_n_extras, .ref a_n_sources, .ref a_n_takers, .ref a_n_firstTaker, .ref a_n_order, .int f_n_ordered, .ref a_n_tally, .ref a_n_behind])), (a_n_inputs, aI E 50 g_n_inputs), (a_n_sources, aI E 200 g_n_sources), (a_i_reached, aZ E 50 y_3), (a_i_open, aI E 50 y_4)] H := hP.sub [2, 3, 0, 4, 1, 5] rfl
          replace hD : va_D A [(o_i, .inr (6, [.ref o_n, .ref o_z, .ref o_k, .ref o_t, .ref a_i_reached, .ref a_i_open, .ref a_i_lateDelays, .ref a_i_earlyDelays, .ref a_i_lateSlopes, .ref a_i_earlySlopes, .ref a_i_lateArrivals, .ref a_i_earlyArrivals])), (o_n, .inr (1, [.int f_n_cells, .ref a_n_kinds, .ref a_n_inputs, .ref a_n_tables, .ref a_n_sizes, .ref a_n_extras, .ref a_n_sources, .ref a_n_takers, .ref a_n_firstTaker, .ref a_n_order, .int f_n_ordered, .ref a_n_tally, .ref a_n_behind])), (a_n_inputs, aI E 50 g_n_inputs), (a_n_sources, aI E 200 g_n_sources), (a_i_reached, aZ E 50 y_3), (a_i_open, aI E 50 y_4)] := hD.sub [2, 3, 0, 4, 1, 5] (by decide) rfl
          apply ih_d_5 (y_2 := x_14) (y_3 := y_3) (y_4 := y_4) (H := H) (locs := locs) (ls := ls) <;> first | assumption | omega | decide
        · have e_13 : r_12.toInt ≠ 0 := i3_ne c_13
          refine lv_aload_n hx hb dX6_takeInputs_44 rfl (lv_at hl 1 rfl) ?_
          refine va_get (D := E.1) (ci := 6) (v := .ref a_i_open) (own := RX6) (C := RX6) (T := TX6) (N := 12) hx hb hts i_q_takeInputs_X6 hown hK hP 2 rfl rfl 5 (by decide) (hto (.fieldLink RX6 15 "TimingHouse$Timing" "open" "[I") (by decide +kernel)) (fun _ h9 => h9) rfl dX6_takeInputs_45 ?_
          refine lv_iload_n hx hb dX6_takeInputs_48 rfl (lv_at hl 2 rfl) ?_
          refine lv_iconst (v := 1) hx hb dX6_takeInputs_49 (by decide) ?_
          refine st_i hx hb hK hP hD hS 5 rfl (by omega) dX6_takeInputs_50 (fun g_15 H locs eg_15 hP hD hS => ?_)
          clear eg_15
          replace hP : va_P E.1 vwCl [(a_n_inputs, aI E 50 g_n_inputs), (a_i_reached, aZ E 50 y_3), (o_i, .inr (6, [.ref o_n, .ref o_z, .ref o_k, .ref o_t, .ref a_i_reached, .ref a_i_open, .ref a_i_lateDelays, .ref a_i_earlyDelays, .ref a_i_lateSlopes, .ref a_i_earlySlopes, .ref a_i_lateArrivals, .ref a_i_earlyArrivals])), (o_n, .inr (1, [.int f_n_cells, .ref a_n_kinds, .ref a_n_inputs, .ref a_n_tables, .ref a_n_sizes, .ref a_n_extras, .ref a_n_sources, .ref a_n_takers, .ref a_n_firstTaker, .ref a_n_order, .int f_n_ordered, .ref a_n_tally, .ref a_n_behind])), (a_n_sources, aI E 200 g_n_sources), (a_i_open, aI E 50 g_15)] H := hP
          replace hD : va_D A [(a_n_inputs, aI E 50 g_n_inputs), (a_i_reached, aZ E 50 y_3), (o_i, .inr (6, [.ref o_n, .ref o_z, .ref o_k, .ref o_t, .ref a_i_reached, .ref a_i_open, .ref a_i_lateDelays, .ref a_i_earlyDelays, .ref a_i_lateSlopes, .ref a_i_earlySlopes, .ref a_i_lateArrivals, .ref a_i_earlyArrivals])), (o_n, .inr (1, [.int f_n_cells, .ref a_n_kinds, .ref a_n_inputs, .ref a_n_tables, .ref a_n_sizes, .ref a_n_extras, .ref a_n_sources, .ref a_n_takers, .ref a_n_firstTaker, .ref a_n_order, .int f_n_ordered, .ref a_n_tally, .ref a_n_behind])), (a_n_sources, aI E 200 g_n_sources), (a_i_open, aI E 50 g_15)] := hD
          obtain ⟨x_16, ex_16⟩ : ∃ y : Int32, y = y_2 + 1 := ⟨_, rfl⟩
          have tx_16 : x_16.toInt = y_2.toInt + 1 := i3_addc rfl rfl ex_16 (by omega)
          refine lv_iinc (v := x_16) (lv' := [(2, .int x_16), (0, .ref o_i), (1, .int p1)]) hx hb dX6_takeInputs_51 hl (k := 0) rfl (by rw [ex_16]; rfl) (by decide) rfl (fun ls hl => ?_)
          refine lv_goto (tgt := 4) hx hb dX6_takeInputs_54 (by decide) ?_
          replace hP : va_P E.1 vwCl [(o_i, .inr (6, [.ref o_n, .ref o_z, .ref o_k, .ref o_t, .ref a_i_reached, .ref a_i_open, .ref a_i_lateDelays, .ref a_i_earlyDelays, .ref a_i_lateSlopes, .ref a_i_earlySlopes, .ref a_i_lateArrivals, .ref a_i_earlyArrivals])), (o_n, .inr (1, [.int f_n_cells, .ref a_n_kinds, .ref a_n_inputs, .ref a_n_tables, .ref a_n_sizes, .ref a_n_extras, .ref a_n_sources, .ref a_n_takers, .ref a_n_firstTaker, .ref a_n_order, .int f_n_ordered, .ref a_n_tally, .ref a_n_behind])), (a_n_inputs, aI E 50 g_n_inputs), (a_n_sources, aI E 200 g_n_sources), (a_i_reached, aZ E 50 y_3), (a_i_open, aI E 50 g_15)] H := hP.sub [2, 3, 0, 4, 1, 5] rfl
          replace hD : va_D A [(o_i, .inr (6, [.ref o_n, .ref o_z, .ref o_k, .ref o_t, .ref a_i_reached, .ref a_i_open, .ref a_i_lateDelays, .ref a_i_earlyDelays, .ref a_i_lateSlopes, .ref a_i_earlySlopes, .ref a_i_lateArrivals, .ref a_i_earlyArrivals])), (o_n, .inr (1, [.int f_n_cells, .ref a_n_kinds, .ref a_n_inputs, .ref a_n_tables, .ref a_n_sizes, .ref a_n_extras, .ref a_n_sources, .ref a_n_takers, .ref a_n_firstTaker, .ref a_n_order, .int f_n_ordered, .ref a_n_tally, .ref a_n_behind])), (a_n_inputs, aI E 50 g_n_inputs), (a_n_sources, aI E 200 g_n_sources), (a_i_reached, aZ E 50 y_3), (a_i_open, aI E 50 g_15)] := hD.sub [2, 3, 0, 4, 1, 5] (by decide) rfl
          apply ih_d_5 (y_2 := x_16) (y_3 := y_3) (y_4 := g_15) (H := H) (locs := locs) (ls := ls) <;> first | assumption | omega | decide
      · have e_11 : r_10.toInt ≠ 0 := i3_ne c_11
        refine lv_aload_n hx hb dX6_takeInputs_29 rfl (lv_at hl 1 rfl) ?_
        refine va_get (D := E.1) (ci := 6) (v := .ref a_i_reached) (own := RX6) (C := RX6) (T := TX6) (N := 12) hx hb hts i_q_takeInputs_X6 hown hK hP 2 rfl rfl 4 (by decide) (hto (.fieldLink RX6 9 "TimingHouse$Timing" "reached" "[Z") (by decide +kernel)) (fun _ h9 => h9) rfl dX6_takeInputs_30 ?_
        refine lv_iload_n hx hb dX6_takeInputs_33 rfl (lv_at hl 2 rfl) ?_
        refine lv_iconst (v := 1) hx hb dX6_takeInputs_34 (by decide) ?_
        refine st_z hx hb hK hP hD hS 5 rfl (by omega) (by decide) dX6_takeInputs_35 (fun g_17 H locs eg_17 hP hD hS => ?_)
        have i_g_17 : AR g_17 50 0 1 := by rw [eg_17]; exact AR.up i_y_3 (by decide)
        clear eg_17
        replace hP : va_P E.1 vwCl [(a_n_inputs, aI E 50 g_n_inputs), (a_i_open, aI E 50 y_4), (o_i, .inr (6, [.ref o_n, .ref o_z, .ref o_k, .ref o_t, .ref a_i_reached, .ref a_i_open, .ref a_i_lateDelays, .ref a_i_earlyDelays, .ref a_i_lateSlopes, .ref a_i_earlySlopes, .ref a_i_lateArrivals, .ref a_i_earlyArrivals])), (o_n, .inr (1, [.int f_n_cells, .ref a_n_kinds, .ref a_n_inputs, .ref a_n_tables, .ref a_n_sizes, .ref a_n_extras, .ref a_n_sources, .ref a_n_takers, .ref a_n_firstTaker, .ref a_n_order, .int f_n_ordered, .ref a_n_tally, .ref a_n_behind])), (a_n_sources, aI E 200 g_n_sources), (a_i_reached, aZ E 50 g_17)] H := hP
        replace hD : va_D A [(a_n_inputs, aI E 50 g_n_inputs), (a_i_open, aI E 50 y_4), (o_i, .inr (6, [.ref o_n, .ref o_z, .ref o_k, .ref o_t, .ref a_i_reached, .ref a_i_open, .ref a_i_lateDelays, .ref a_i_earlyDelays, .ref a_i_lateSlopes, .ref a_i_earlySlopes, .ref a_i_lateArrivals, .ref a_i_earlyArrivals])), (o_n, .inr (1, [.int f_n_cells, .ref a_n_kinds, .ref a_n_inputs, .ref a_n_tables, .ref a_n_sizes, .ref a_n_extras, .ref a_n_sources, .ref a_n_takers, .ref a_n_firstTaker, .ref a_n_order, .int f_n_ordered, .ref a_n_tally, .ref a_n_behind])), (a_n_sources, aI E 200 g_n_sources), (a_i_reached, aZ E 50 g_17)] := hD
        refine lv_aload_n hx hb dX6_takeInputs_36 rfl (lv_at hl 1 rfl) ?_
        refine lv_iload_n hx hb dX6_takeInputs_37 rfl (lv_at hl 0 rfl) ?_
        refine call_i (va_runV (As := [.int y_2]) (rest := []) ⟨hx, hb, hml, hown, hts⟩ (q_inOpen l E o_i o_n o_z o_k o_t a_i_reached a_i_open a_i_lateDelays a_i_earlyDelays a_i_lateSlopes a_i_earlySlopes a_i_lateArrivals a_i_earlyArrivals a_n_kinds a_n_inputs a_n_tables a_n_sizes a_n_extras a_n_sources a_n_takers a_n_firstTaker a_n_order a_n_tally a_n_behind f_n_cells f_n_ordered y_2 g_n_sources y_4 r_f_n_cells r_f_n_ordered i_g_n_sources (RG.mk (by omega)) H.size) (cwV 1 hts g_q_takeInputs_q_inOpen_88 rfl rfl rfl (by decide +kernel) ⟨Nat.le_of_ble_eq_true rfl, Nat.le_of_ble_eq_true rfl⟩) (pre_V hK hN hZ hS (va_free hD hS hA [2, 3, 4, 1] rfl) (hP.sub (ws' := [(o_i, .inr (6, [.ref o_n, .ref o_z, .ref o_k, .ref o_t, .ref a_i_reached, .ref a_i_open, .ref a_i_lateDelays, .ref a_i_earlyDelays, .ref a_i_lateSlopes, .ref a_i_earlySlopes, .ref a_i_lateArrivals, .ref a_i_earlyArrivals])), (o_n, .inr (1, [.int f_n_cells, .ref a_n_kinds, .ref a_n_inputs, .ref a_n_tables, .ref a_n_sizes, .ref a_n_extras, .ref a_n_sources, .ref a_n_takers, .ref a_n_firstTaker, .ref a_n_order, .int f_n_ordered, .ref a_n_tally, .ref a_n_behind])), (a_n_sources, aI E 200 g_n_sources), (a_i_open, aI E 50 y_4)]) [2, 3, 4, 1] rfl) (hD.sub (ws' := [(o_i, .inr (6, [.ref o_n, .ref o_z, .ref o_k, .ref o_t, .ref a_i_reached, .ref a_i_open, .ref a_i_lateDelays, .ref a_i_earlyDelays, .ref a_i_lateSlopes, .ref a_i_earlySlopes, .ref a_i_lateArrivals, .ref a_i_earlyArrivals])), (o_n, .inr (1, [.int f_n_cells, .ref a_n_kinds, .ref a_n_inputs, .ref a_n_tables, .ref a_n_sizes, .ref a_n_extras, .ref a_n_sources, .ref a_n_takers, .ref a_n_firstTaker, .ref a_n_order, .int f_n_ordered, .ref a_n_tally, .ref a_n_behind])), (a_n_sources, aI E 200 g_n_sources), (a_i_open, aI E 50 y_4)]) [2, 3, 4, 1] (by decide) rfl) (ci := 6) (q0 := 0) rfl rfl) rfl rfl hl.1 rfl (lv_room (Nat.le_of_ble_eq_true rfl)) dX6_takeInputs_38 ⟨Nat.le_of_ble_eq_true rfl, Nat.le_of_ble_eq_true rfl⟩) hP hD hS hA [2, 3, 4, 1] [0, 5] (wr := [(a_n_inputs, aI E 50 g_n_inputs), (a_i_reached, aZ E 50 g_17)]) rfl rfl (by decide) (by decide) (fun r_18 w H locs hw hP hD hS => ?_)
        obtain ⟨b_r_18, rfl⟩ := hw
        replace hP : va_P E.1 vwCl [(a_n_inputs, aI E 50 g_n_inputs), (a_i_reached, aZ E 50 g_17), (o_i, .inr (6, [.ref o_n, .ref o_z, .ref o_k, .ref o_t, .ref a_i_reached, .ref a_i_open, .ref a_i_lateDelays, .ref a_i_earlyDelays, .ref a_i_lateSlopes, .ref a_i_earlySlopes, .ref a_i_lateArrivals, .ref a_i_earlyArrivals])), (o_n, .inr (1, [.int f_n_cells, .ref a_n_kinds, .ref a_n_inputs, .ref a_n_tables, .ref a_n_sizes, .ref a_n_extras, .ref a_n_sources, .ref a_n_takers, .ref a_n_firstTaker, .ref a_n_order, .int f_n_ordered, .ref a_n_tally, .ref a_n_behind])), (a_n_sources, aI E 200 g_n_sources), (a_i_open, aI E 50 y_4)] H := hP
        replace hD : va_D A [(a_n_inputs, aI E 50 g_n_inputs), (a_i_reached, aZ E 50 g_17), (o_i, .inr (6, [.ref o_n, .ref o_z, .ref o_k, .ref o_t, .ref a_i_reached, .ref a_i_open, .ref a_i_lateDelays, .ref a_i_earlyDelays, .ref a_i_lateSlopes, .ref a_i_earlySlopes, .ref a_i_lateArrivals, .ref a_i_earlyArrivals])), (o_n, .inr (1, [.int f_n_cells, .ref a_n_kinds, .ref a_n_inputs, .ref a_n_tables, .ref a_n_sizes, .ref a_n_extras, .ref a_n_sources, .ref a_n_takers, .ref a_n_firstTaker, .ref a_n_order, .int f_n_ordered, .ref a_n_tally, .ref a_n_behind])), (a_n_sources, aI E 200 g_n_sources), (a_i_open, aI E 50 y_4)] := hD
        refine lv_if_eq (tgt := 51) hx hb dX6_takeInputs_41 (by decide) (fun c_19 => ?_) (fun c_19 => ?_)
        · have e_19 : r_18.toInt = 0 := i3_eq c_19
          obtain ⟨x_20, ex_20⟩ : ∃ y : Int32, y = y_2 + 1 := ⟨_, rfl⟩
          have tx_20 : x_20.toInt = y_2.toInt + 1 := i3_addc rfl rfl ex_20 (by omega)
          refine lv_iinc (v := x_20) (lv' := [(2, .int x_20), (0, .ref o_i), (1, .int p1)]) hx hb dX6_takeInputs_51 hl (k := 0) rfl (by rw [ex_20]; rfl) (by decide) rfl (fun ls hl => ?_)
          refine lv_goto (tgt := 4) hx hb dX6_takeInputs_54 (by decide) ?_
          replace hP : va_P E.1 vwCl [(o_i, .inr (6, [.ref o_n, .ref o_z, .ref o_k, .ref o_t, .ref a_i_reached, .ref a_i_open, .ref a_i_lateDelays, .ref a_i_earlyDelays, .ref a_i_lateSlopes, .ref a_i_earlySlopes, .ref a_i_lateArrivals, .ref a_i_earlyArrivals])), (o_n, .inr (1, [.int f_n_cells, .ref a_n_kinds, .ref a_n_inputs, .ref a_n_tables, .ref a_n_sizes, .ref a_n_extras, .ref a_n_sources, .ref a_n_takers, .ref a_n_firstTaker, .ref a_n_order, .int f_n_ordered, .ref a_n_tally, .ref a_n_behind])), (a_n_inputs, aI E 50 g_n_inputs), (a_n_sources, aI E 200 g_n_sources), (a_i_reached, aZ E 50 g_17), (a_i_open, aI E 50 y_4)] H := hP.sub [2, 3, 0, 4, 1, 5] rfl
          replace hD : va_D A [(o_i, .inr (6, [.ref o_n, .ref o_z, .ref o_k, .ref o_t, .ref a_i_reached, .ref a_i_open, .ref a_i_lateDelays, .ref a_i_earlyDelays, .ref a_i_lateSlopes, .ref a_i_earlySlopes, .ref a_i_lateArrivals, .ref a_i_earlyArrivals])), (o_n, .inr (1, [.int f_n_cells, .ref a_n_kinds, .ref a_n_inputs, .ref a_n_tables, .ref a_n_sizes, .ref a_n_extras, .ref a_n_sources, .ref a_n_takers, .ref a_n_firstTaker, .ref a_n_order, .int f_n_ordered, .ref a_n_tally, .ref a_n_behind])), (a_n_inputs, aI E 50 g_n_inputs), (a_n_sources, aI E 200 g_n_sources), (a_i_reached, aZ E 50 g_17), (a_i_open, aI E 50 y_4)] := hD.sub [2, 3, 0, 4, 1, 5] (by decide) rfl
          apply ih_d_5 (y_2 := x_20) (y_3 := g_17) (y_4 := y_4) (H := H) (locs := locs) (ls := ls) <;> first | assumption | omega | decide
        · have e_19 : r_18.toInt ≠ 0 := i3_ne c_19
          refine lv_aload_n hx hb dX6_takeInputs_44 rfl (lv_at hl 1 rfl) ?_
          refine va_get (D := E.1) (ci := 6) (v := .ref a_i_open) (own := RX6) (C := RX6) (T := TX6) (N := 12) hx hb hts i_q_takeInputs_X6 hown hK hP 2 rfl rfl 5 (by decide) (hto (.fieldLink RX6 15 "TimingHouse$Timing" "open" "[I") (by decide +kernel)) (fun _ h9 => h9) rfl dX6_takeInputs_45 ?_
          refine lv_iload_n hx hb dX6_takeInputs_48 rfl (lv_at hl 2 rfl) ?_
          refine lv_iconst (v := 1) hx hb dX6_takeInputs_49 (by decide) ?_
          refine st_i hx hb hK hP hD hS 5 rfl (by omega) dX6_takeInputs_50 (fun g_21 H locs eg_21 hP hD hS => ?_)
          clear eg_21
          replace hP : va_P E.1 vwCl [(a_n_inputs, aI E 50 g_n_inputs), (a_i_reached, aZ E 50 g_17), (o_i, .inr (6, [.ref o_n, .ref o_z, .ref o_k, .ref o_t, .ref a_i_reached, .ref a_i_open, .ref a_i_lateDelays, .ref a_i_earlyDelays, .ref a_i_lateSlopes, .ref a_i_earlySlopes, .ref a_i_lateArrivals, .ref a_i_earlyArrivals])), (o_n, .inr (1, [.int f_n_cells, .ref a_n_kinds, .ref a_n_inputs, .ref a_n_tables, .ref a_n_sizes, .ref a_n_extras, .ref a_n_sources, .ref a_n_takers, .ref a_n_firstTaker, .ref a_n_order, .int f_n_ordered, .ref a_n_tally, .ref a_n_behind])), (a_n_sources, aI E 200 g_n_sources), (a_i_open, aI E 50 g_21)] H := hP
          replace hD : va_D A [(a_n_inputs, aI E 50 g_n_inputs), (a_i_reached, aZ E 50 g_17), (o_i, .inr (6, [.ref o_n, .ref o_z, .ref o_k, .ref o_t, .ref a_i_reached, .ref a_i_open, .ref a_i_lateDelays, .ref a_i_earlyDelays, .ref a_i_lateSlopes, .ref a_i_earlySlopes, .ref a_i_lateArrivals, .ref a_i_earlyArrivals])), (o_n, .inr (1, [.int f_n_cells, .ref a_n_kinds, .ref a_n_inputs, .ref a_n_tables, .ref a_n_sizes, .ref a_n_extras, .ref a_n_sources, .ref a_n_takers, .ref a_n_firstTaker, .ref a_n_order, .int f_n_ordered, .ref a_n_tally, .ref a_n_behind])), (a_n_sources, aI E 200 g_n_sources), (a_i_open, aI E 50 g_21)] := hD
          obtain ⟨x_22, ex_22⟩ : ∃ y : Int32, y = y_2 + 1 := ⟨_, rfl⟩
          have tx_22 : x_22.toInt = y_2.toInt + 1 := i3_addc rfl rfl ex_22 (by omega)
          refine lv_iinc (v := x_22) (lv' := [(2, .int x_22), (0, .ref o_i), (1, .int p1)]) hx hb dX6_takeInputs_51 hl (k := 0) rfl (by rw [ex_22]; rfl) (by decide) rfl (fun ls hl => ?_)
          refine lv_goto (tgt := 4) hx hb dX6_takeInputs_54 (by decide) ?_
          replace hP : va_P E.1 vwCl [(o_i, .inr (6, [.ref o_n, .ref o_z, .ref o_k, .ref o_t, .ref a_i_reached, .ref a_i_open, .ref a_i_lateDelays, .ref a_i_earlyDelays, .ref a_i_lateSlopes, .ref a_i_earlySlopes, .ref a_i_lateArrivals, .ref a_i_earlyArrivals])), (o_n, .inr (1, [.int f_n_cells, .ref a_n_kinds, .ref a_n_inputs, .ref a_n_tables, .ref a_n_sizes, .ref a_n_extras, .ref a_n_sources, .ref a_n_takers, .ref a_n_firstTaker, .ref a_n_order, .int f_n_ordered, .ref a_n_tally, .ref a_n_behind])), (a_n_inputs, aI E 50 g_n_inputs), (a_n_sources, aI E 200 g_n_sources), (a_i_reached, aZ E 50 g_17), (a_i_open, aI E 50 g_21)] H := hP.sub [2, 3, 0, 4, 1, 5] rfl
          replace hD : va_D A [(o_i, .inr (6, [.ref o_n, .ref o_z, .ref o_k, .ref o_t, .ref a_i_reached, .ref a_i_open, .ref a_i_lateDelays, .ref a_i_earlyDelays, .ref a_i_lateSlopes, .ref a_i_earlySlopes, .ref a_i_lateArrivals, .ref a_i_earlyArrivals])), (o_n, .inr (1, [.int f_n_cells, .ref a_n_kinds, .ref a_n_inputs, .ref a_n_tables, .ref a_n_sizes, .ref a_n_extras, .ref a_n_sources, .ref a_n_takers, .ref a_n_firstTaker, .ref a_n_order, .int f_n_ordered, .ref a_n_tally, .ref a_n_behind])), (a_n_inputs, aI E 50 g_n_inputs), (a_n_sources, aI E 200 g_n_sources), (a_i_reached, aZ E 50 g_17), (a_i_open, aI E 50 g_21)] := hD.sub [2, 3, 0, 4, 1, 5] (by decide) rfl
          apply ih_d_5 (y_2 := x_22) (y_3 := g_17) (y_4 := g_21) (H := H) (locs := locs) (ls := ls) <;> first | assumption | omega | decide
theorem dX6_arrive_0 : decode cX6_arrive 0 = .ok (.iload_n 1, 1) := by decide +kernel
theorem dX6_arrive_1 : decode cX6_arrive 1 = .ok (.iconst 4, 1) := by decide +kernel
theorem dX6_arrive_2 : decode cX6_arrive 2 = .ok (.idiv, 1) := by decide +kernel
theorem dX6_arrive_3 : decode cX6_arrive 3 = .ok (.iconst 2, 1) := by decide +kernel
theorem dX6_arrive_4 : decode cX6_arrive 4 = .ok (.imul, 1) := by decide +kernel
theorem dX6_arrive_5 : decode cX6_arrive 5 = .ok (.iload_n 2, 1) := by decide +kernel
theorem dX6_arrive_6 : decode cX6_arrive 6 = .ok (.iadd, 1) := by decide +kernel
theorem dX6_arrive_7 : decode cX6_arrive 7 = .ok (.istore 5, 2) := by decide +kernel
theorem dX6_arrive_9 : decode cX6_arrive 9 = .ok (.aload_n 0, 1) := by decide +kernel
theorem dX6_arrive_10 : decode cX6_arrive 10 = .ok (.getfield 31, 3) := by decide +kernel
theorem dX6_arrive_13 : decode cX6_arrive 13 = .ok (.iload 5, 2) := by decide +kernel
theorem dX6_arrive_15 : decode cX6_arrive 15 = .ok (.aload_n 0, 1) := by decide +kernel
theorem dX6_arrive_16 : decode cX6_arrive 16 = .ok (.getfield 31, 3) := by decide +kernel
theorem dX6_arrive_19 : decode cX6_arrive 19 = .ok (.iload 5, 2) := by decide +kernel
theorem dX6_arrive_21 : decode cX6_arrive 21 = .ok (.iaload, 1) := by decide +kernel
theorem dX6_arrive_22 : decode cX6_arrive 22 = .ok (.iload_n 3, 1) := by decide +kernel
theorem dX6_arrive_23 : decode cX6_arrive 23 = .ok (.aload_n 0, 1) := by decide +kernel
theorem dX6_arrive_24 : decode cX6_arrive 24 = .ok (.getfield 19, 3) := by decide +kernel
theorem dX6_arrive_27 : decode cX6_arrive 27 = .ok (.iload_n 1, 1) := by decide +kernel
theorem dX6_arrive_28 : decode cX6_arrive 28 = .ok (.iconst 2, 1) := by decide +kernel
theorem dX6_arrive_29 : decode cX6_arrive 29 = .ok (.imul, 1) := by decide +kernel
theorem dX6_arrive_30 : decode cX6_arrive 30 = .ok (.iload_n 2, 1) := by decide +kernel
theorem dX6_arrive_31 : decode cX6_arrive 31 = .ok (.iadd, 1) := by decide +kernel
theorem dX6_arrive_32 : decode cX6_arrive 32 = .ok (.iaload, 1) := by decide +kernel
theorem dX6_arrive_33 : decode cX6_arrive 33 = .ok (.iadd, 1) := by decide +kernel
theorem dX6_arrive_34 : decode cX6_arrive 34 = .ok (.invokestatic 155, 3) := by decide +kernel
theorem dX6_arrive_37 : decode cX6_arrive 37 = .ok (.iastore, 1) := by decide +kernel
theorem dX6_arrive_38 : decode cX6_arrive 38 = .ok (.aload_n 0, 1) := by decide +kernel
theorem dX6_arrive_39 : decode cX6_arrive 39 = .ok (.getfield 34, 3) := by decide +kernel
theorem dX6_arrive_42 : decode cX6_arrive 42 = .ok (.iload 5, 2) := by decide +kernel
theorem dX6_arrive_44 : decode cX6_arrive 44 = .ok (.aload_n 0, 1) := by decide +kernel
theorem dX6_arrive_45 : decode cX6_arrive 45 = .ok (.getfield 34, 3) := by decide +kernel
theorem dX6_arrive_48 : decode cX6_arrive 48 = .ok (.iload 5, 2) := by decide +kernel
theorem dX6_arrive_50 : decode cX6_arrive 50 = .ok (.iaload, 1) := by decide +kernel
theorem dX6_arrive_51 : decode cX6_arrive 51 = .ok (.iload 4, 2) := by decide +kernel
theorem dX6_arrive_53 : decode cX6_arrive 53 = .ok (.aload_n 0, 1) := by decide +kernel
theorem dX6_arrive_54 : decode cX6_arrive 54 = .ok (.getfield 22, 3) := by decide +kernel
theorem dX6_arrive_57 : decode cX6_arrive 57 = .ok (.iload_n 1, 1) := by decide +kernel
theorem dX6_arrive_58 : decode cX6_arrive 58 = .ok (.iconst 2, 1) := by decide +kernel
theorem dX6_arrive_59 : decode cX6_arrive 59 = .ok (.imul, 1) := by decide +kernel
theorem dX6_arrive_60 : decode cX6_arrive 60 = .ok (.iload_n 2, 1) := by decide +kernel
theorem dX6_arrive_61 : decode cX6_arrive 61 = .ok (.iadd, 1) := by decide +kernel
theorem dX6_arrive_62 : decode cX6_arrive 62 = .ok (.iaload, 1) := by decide +kernel
theorem dX6_arrive_63 : decode cX6_arrive 63 = .ok (.iadd, 1) := by decide +kernel
theorem dX6_arrive_64 : decode cX6_arrive 64 = .ok (.invokestatic 161, 3) := by decide +kernel
theorem dX6_arrive_67 : decode cX6_arrive 67 = .ok (.iastore, 1) := by decide +kernel
theorem dX6_arrive_68 : decode cX6_arrive 68 = .ok (.return_, 1) := by decide +kernel
def wo_q_tarrive : List Cond := [.code yX6_arrive cX6_arrive 6 none, .fieldLink RX6 31 "TimingHouse$Timing" "lateArrivals" "[I", .fieldLink RX6 19 "TimingHouse$Timing" "lateDelays" "[I", .methodLink RX6 155 Lib.Math.max.name, .static Lib.Math.max.name, .initialized "java/lang/Math", .code Lib.Math.max.name Lib.Math.max.code 2 (some .int), .fieldLink RX6 34 "TimingHouse$Timing" "earlyArrivals" "[I", .fieldLink RX6 22 "TimingHouse$Timing" "earlyDelays" "[I", .methodLink RX6 161 Lib.Math.min.name, .static Lib.Math.min.name, .code Lib.Math.min.name Lib.Math.min.code 2 (some .int)]
def wr_q_tarrive : List Cond := (wsX60 ++ ([]))
def w_q_tarrive : List Cond := wo_q_tarrive ++ wr_q_tarrive
theorem wg_q_tarrive : GW w_q_tarrive := GW_app (GW_of (by decide +kernel)) (GW_app (GW_of (by decide +kernel)) (GW_nil))
theorem i_q_tarrive_X6 : ∀ w ∈ wsX60, w ∈ w_q_tarrive := fun _ h => List.mem_append_right _ (List.mem_append_left _ h)
set_option maxHeartbeats 8000000 in
set_option maxRecDepth 100000 in
theorem q_tarrive (l : Launch) (E : gE) (o_i o_n o_z o_k o_t a_i_reached a_i_open a_i_lateDelays a_i_earlyDelays a_i_lateSlopes a_i_earlySlopes a_i_lateArrivals a_i_earlyArrivals : Nat) (p1 p2 p3 p4 : Int32) (g_i_lateArrivals : Nat → Int32) (g_i_lateDelays : Nat → Int32) (g_i_earlyArrivals : Nat → Int32) (g_i_earlyDelays : Nat → Int32) (r_p1 : RG p1 0 199) (r_p2 : RG p2 0 1) : CtV l E yX6_arrive w_q_tarrive ({ frames := 1, cells := 0, slots := 0, locals := 21 }) [(o_i, .inr (6, [.ref o_n, .ref o_z, .ref o_k, .ref o_t, .ref a_i_reached, .ref a_i_open, .ref a_i_lateDelays, .ref a_i_earlyDelays, .ref a_i_lateSlopes, .ref a_i_earlySlopes, .ref a_i_lateArrivals, .ref a_i_earlyArrivals])), (a_i_lateArrivals, aI E 100 g_i_lateArrivals), (a_i_lateDelays, aI E 400 g_i_lateDelays), (a_i_earlyArrivals, aI E 100 g_i_earlyArrivals), (a_i_earlyDelays, aI E 400 g_i_earlyDelays)] [.ref o_i, .int p1, .int p2, .int p3, .int p4] (fun w => ∃ ng_i_lateArrivals : Nat → Int32, ∃ ng_i_earlyArrivals : Nat → Int32, w = [(o_i, .inr (6, [.ref o_n, .ref o_z, .ref o_k, .ref o_t, .ref a_i_reached, .ref a_i_open, .ref a_i_lateDelays, .ref a_i_earlyDelays, .ref a_i_lateSlopes, .ref a_i_earlySlopes, .ref a_i_lateArrivals, .ref a_i_earlyArrivals])), (a_i_lateArrivals, aI E 100 ng_i_lateArrivals), (a_i_lateDelays, aI E 400 g_i_lateDelays), (a_i_earlyArrivals, aI E 100 ng_i_earlyArrivals), (a_i_earlyDelays, aI E 400 g_i_earlyDelays)]) := by
  refine CtV.of (cc := cX6_arrive) (maxL := 6) (rt := none) (by decide) rfl (Nat.le_of_ble_eq_true rfl) ?_
  intro p e s m below meth c A B ls hl
  obtain ⟨hx, hb, hml, hr, hlk, hin, hts, hown, hK, hN, hZ, hA, hP, hD, hS⟩ := B
  replace hown : s.vm.findClass RX6 = some m.cls := hown
  have hto : ∀ w ∈ wo_q_tarrive, w.before _ s = true := fun w h => hts w (List.mem_append_left _ h)
  replace hl : lv_has ls 6 [(0, .ref o_i), (1, .int p1), (2, .int p2), (3, .int p3), (4, .int p4)] := hl
  obtain ⟨H, hHe⟩ : ∃ H, H = s.heap := ⟨_, rfl⟩
  obtain ⟨locs, hle⟩ : ∃ l : List Loc, l = [] := ⟨_, rfl⟩
  replace hS : va_S A s.heap H locs := by rw [hHe, hle]; exact hS
  replace hP : va_P E.1 vwCl [(o_i, .inr (6, [.ref o_n, .ref o_z, .ref o_k, .ref o_t, .ref a_i_reached, .ref a_i_open, .ref a_i_lateDelays, .ref a_i_earlyDelays, .ref a_i_lateSlopes, .ref a_i_earlySlopes, .ref a_i_lateArrivals, .ref a_i_earlyArrivals])), (a_i_lateArrivals, aI E 100 g_i_lateArrivals), (a_i_lateDelays, aI E 400 g_i_lateDelays), (a_i_earlyArrivals, aI E 100 g_i_earlyArrivals), (a_i_earlyDelays, aI E 400 g_i_earlyDelays)] H := by rw [hHe]; exact hP
  refine W_hl hHe hle ?_
  clear hHe hle
  refine lv_iload_n hx hb dX6_arrive_0 rfl (lv_at hl 1 rfl) ?_
  refine lv_iconst (v := 4) hx hb dX6_arrive_1 (by decide) ?_
  have b_p1 := r_p1.out
  refine lv_idiv hx hb dX6_arrive_2 (by decide) ?_
  refine lv_topi (fun x_1 ex_1 => ?_)
  have tx_1 : x_1.toInt = p1.toInt / 4 := i3_divc rfl rfl ex_1 (by omega) (by decide)
  refine lv_iconst (v := 2) hx hb dX6_arrive_3 (by decide) ?_
  refine lv_imul hx hb dX6_arrive_4 ?_
  refine lv_topi (fun x_2 ex_2 => ?_)
  have tx_2 : x_2.toInt = x_1.toInt * 2 := i3_mulc rfl rfl ex_2 (by omega)
  refine lv_iload_n hx hb dX6_arrive_5 rfl (lv_at hl 2 rfl) ?_
  have b_p2 := r_p2.out
  refine lv_iadd hx hb dX6_arrive_6 ?_
  refine lv_topi (fun x_3 ex_3 => ?_)
  have tx_3 : x_3.toInt = x_2.toInt + p2.toInt := i3_addc rfl rfl ex_3 (by omega)
  refine lv_istore (lv' := [(5, .int x_3), (0, .ref o_i), (1, .int p1), (2, .int p2), (3, .int p3), (4, .int p4)]) hx hb dX6_arrive_7 hl (by decide) rfl (fun ls hl => ?_)
  refine lv_aload_n hx hb dX6_arrive_9 rfl (lv_at hl 1 rfl) ?_
  refine va_get (D := E.1) (ci := 6) (v := .ref a_i_lateArrivals) (own := RX6) (C := RX6) (T := TX6) (N := 12) hx hb hts i_q_tarrive_X6 hown hK hP 0 rfl rfl 10 (by decide) (hto (.fieldLink RX6 31 "TimingHouse$Timing" "lateArrivals" "[I") (by decide +kernel)) (fun _ h9 => h9) rfl dX6_arrive_10 ?_
  refine lv_iload hx hb dX6_arrive_13 (lv_at hl 0 rfl) ?_
  refine lv_aload_n hx hb dX6_arrive_15 rfl (lv_at hl 1 rfl) ?_
  refine va_get (D := E.1) (ci := 6) (v := .ref a_i_lateArrivals) (own := RX6) (C := RX6) (T := TX6) (N := 12) hx hb hts i_q_tarrive_X6 hown hK hP 0 rfl rfl 10 (by decide) (hto (.fieldLink RX6 31 "TimingHouse$Timing" "lateArrivals" "[I") (by decide +kernel)) (fun _ h9 => h9) rfl dX6_arrive_16 ?_
  refine lv_iload hx hb dX6_arrive_19 (lv_at hl 0 rfl) ?_
  refine ld_i hx hb hK hP 1 rfl (by omega) dX6_arrive_21 (fun x_4 ex_4 => ?_)
  refine lv_iload_n hx hb dX6_arrive_22 rfl (lv_at hl 4 rfl) ?_
  refine lv_aload_n hx hb dX6_arrive_23 rfl (lv_at hl 1 rfl) ?_
  refine va_get (D := E.1) (ci := 6) (v := .ref a_i_lateDelays) (own := RX6) (C := RX6) (T := TX6) (N := 12) hx hb hts i_q_tarrive_X6 hown hK hP 0 rfl rfl 6 (by decide) (hto (.fieldLink RX6 19 "TimingHouse$Timing" "lateDelays" "[I") (by decide +kernel)) (fun _ h9 => h9) rfl dX6_arrive_24 ?_
  refine lv_iload_n hx hb dX6_arrive_27 rfl (lv_at hl 2 rfl) ?_
  refine lv_iconst (v := 2) hx hb dX6_arrive_28 (by decide) ?_
  refine lv_imul hx hb dX6_arrive_29 ?_
  refine lv_topi (fun x_5 ex_5 => ?_)
  have tx_5 : x_5.toInt = p1.toInt * 2 := i3_mulc rfl rfl ex_5 (by omega)
  refine lv_iload_n hx hb dX6_arrive_30 rfl (lv_at hl 3 rfl) ?_
  refine lv_iadd hx hb dX6_arrive_31 ?_
  refine lv_topi (fun x_6 ex_6 => ?_)
  have tx_6 : x_6.toInt = x_5.toInt + p2.toInt := i3_addc rfl rfl ex_6 (by omega)
  refine ld_i hx hb hK hP 2 rfl (by omega) dX6_arrive_32 (fun x_7 ex_7 => ?_)
  refine lv_iadd hx hb dX6_arrive_33 ?_
  refine lv_topi (fun x_8 ex_8 => ?_)
  have bd_9 := i3_bd p3
  have bd_10 := i3_bd x_7
  refine va_mmax hx hb (hml.trans hl.1.symm) hown (hto (.methodLink RX6 155 Lib.Math.max.name) (by decide +kernel)) (hto (.static Lib.Math.max.name) (by decide +kernel)) (hto (.initialized "java/lang/Math") (by decide +kernel)) (hto (.code Lib.Math.max.name Lib.Math.max.code 2 (some .int)) (by decide +kernel)) (Nat.le_of_ble_eq_true rfl) (Nat.le_of_ble_eq_true rfl) (Nat.zero_le _) (Nat.zero_le _) dX6_arrive_34 ?_
  refine lv_topi (fun x_11 ex_11 => ?_)
  have m_x_11 : (x_11.toInt ≥ x_4.toInt ∧ x_11.toInt ≥ x_8.toInt) ∧ (x_11.toInt = x_4.toInt ∨ x_11.toInt = x_8.toInt) := i3_max ex_11
  refine st_i hx hb hK hP hD hS 1 rfl (by omega) dX6_arrive_37 (fun g_12 H locs eg_12 hP hD hS => ?_)
  clear eg_12
  replace hP : va_P E.1 vwCl [(o_i, .inr (6, [.ref o_n, .ref o_z, .ref o_k, .ref o_t, .ref a_i_reached, .ref a_i_open, .ref a_i_lateDelays, .ref a_i_earlyDelays, .ref a_i_lateSlopes, .ref a_i_earlySlopes, .ref a_i_lateArrivals, .ref a_i_earlyArrivals])), (a_i_lateArrivals, aI E 100 g_12), (a_i_lateDelays, aI E 400 g_i_lateDelays), (a_i_earlyArrivals, aI E 100 g_i_earlyArrivals), (a_i_earlyDelays, aI E 400 g_i_earlyDelays)] H := hP
  replace hD : va_D A [(o_i, .inr (6, [.ref o_n, .ref o_z, .ref o_k, .ref o_t, .ref a_i_reached, .ref a_i_open, .ref a_i_lateDelays, .ref a_i_earlyDelays, .ref a_i_lateSlopes, .ref a_i_earlySlopes, .ref a_i_lateArrivals, .ref a_i_earlyArrivals])), (a_i_lateArrivals, aI E 100 g_12), (a_i_lateDelays, aI E 400 g_i_lateDelays), (a_i_earlyArrivals, aI E 100 g_i_earlyArrivals), (a_i_earlyDelays, aI E 400 g_i_earlyDelays)] := hD
  refine lv_aload_n hx hb dX6_arrive_38 rfl (lv_at hl 1 rfl) ?_
  refine va_get (D := E.1) (ci := 6) (v := .ref a_i_earlyArrivals) (own := RX6) (C := RX6) (T := TX6) (N := 12) hx hb hts i_q_tarrive_X6 hown hK hP 0 rfl rfl 11 (by decide) (hto (.fieldLink RX6 34 "TimingHouse$Timing" "earlyArrivals" "[I") (by decide +kernel)) (fun _ h9 => h9) rfl dX6_arrive_39 ?_
  refine lv_iload hx hb dX6_arrive_42 (lv_at hl 0 rfl) ?_
  refine lv_aload_n hx hb dX6_arrive_44 rfl (lv_at hl 1 rfl) ?_
  refine va_get (D := E.1) (ci := 6) (v := .ref a_i_earlyArrivals) (own := RX6) (C := RX6) (T := TX6) (N := 12) hx hb hts i_q_tarrive_X6 hown hK hP 0 rfl rfl 11 (by decide) (hto (.fieldLink RX6 34 "TimingHouse$Timing" "earlyArrivals" "[I") (by decide +kernel)) (fun _ h9 => h9) rfl dX6_arrive_45 ?_
  refine lv_iload hx hb dX6_arrive_48 (lv_at hl 0 rfl) ?_
  refine ld_i hx hb hK hP 3 rfl (by omega) dX6_arrive_50 (fun x_13 ex_13 => ?_)
  refine lv_iload hx hb dX6_arrive_51 (lv_at hl 5 rfl) ?_
  refine lv_aload_n hx hb dX6_arrive_53 rfl (lv_at hl 1 rfl) ?_
  refine va_get (D := E.1) (ci := 6) (v := .ref a_i_earlyDelays) (own := RX6) (C := RX6) (T := TX6) (N := 12) hx hb hts i_q_tarrive_X6 hown hK hP 0 rfl rfl 7 (by decide) (hto (.fieldLink RX6 22 "TimingHouse$Timing" "earlyDelays" "[I") (by decide +kernel)) (fun _ h9 => h9) rfl dX6_arrive_54 ?_
  refine lv_iload_n hx hb dX6_arrive_57 rfl (lv_at hl 2 rfl) ?_
  refine lv_iconst (v := 2) hx hb dX6_arrive_58 (by decide) ?_
  refine lv_imul hx hb dX6_arrive_59 ?_
  refine lv_topi (fun x_14 ex_14 => ?_)
  have hq_x_14 : x_5 = x_14 := ex_5.trans ex_14.symm
  subst hq_x_14
  refine lv_iload_n hx hb dX6_arrive_60 rfl (lv_at hl 3 rfl) ?_
  refine lv_iadd hx hb dX6_arrive_61 ?_
  refine lv_topi (fun x_15 ex_15 => ?_)
  have hq_x_15 : x_6 = x_15 := ex_6.trans ex_15.symm
  subst hq_x_15
  refine ld_i hx hb hK hP 4 rfl (by omega) dX6_arrive_62 (fun x_16 ex_16 => ?_)
  refine lv_iadd hx hb dX6_arrive_63 ?_
  refine lv_topi (fun x_17 ex_17 => ?_)
  have bd_18 := i3_bd p4
  have bd_19 := i3_bd x_16
  refine va_mmin hx hb (hml.trans hl.1.symm) hown (hto (.methodLink RX6 161 Lib.Math.min.name) (by decide +kernel)) (hto (.static Lib.Math.min.name) (by decide +kernel)) (hto (.initialized "java/lang/Math") (by decide +kernel)) (hto (.code Lib.Math.min.name Lib.Math.min.code 2 (some .int)) (by decide +kernel)) (Nat.le_of_ble_eq_true rfl) (Nat.le_of_ble_eq_true rfl) (Nat.zero_le _) (Nat.zero_le _) dX6_arrive_64 ?_
  refine lv_topi (fun x_20 ex_20 => ?_)
  have m_x_20 : (x_20.toInt ≤ x_13.toInt ∧ x_20.toInt ≤ x_17.toInt) ∧ (x_20.toInt = x_13.toInt ∨ x_20.toInt = x_17.toInt) := i3_min ex_20
  refine st_i hx hb hK hP hD hS 3 rfl (by omega) dX6_arrive_67 (fun g_21 H locs eg_21 hP hD hS => ?_)
  clear eg_21
  replace hP : va_P E.1 vwCl [(o_i, .inr (6, [.ref o_n, .ref o_z, .ref o_k, .ref o_t, .ref a_i_reached, .ref a_i_open, .ref a_i_lateDelays, .ref a_i_earlyDelays, .ref a_i_lateSlopes, .ref a_i_earlySlopes, .ref a_i_lateArrivals, .ref a_i_earlyArrivals])), (a_i_lateArrivals, aI E 100 g_12), (a_i_lateDelays, aI E 400 g_i_lateDelays), (a_i_earlyArrivals, aI E 100 g_21), (a_i_earlyDelays, aI E 400 g_i_earlyDelays)] H := hP
  replace hD : va_D A [(o_i, .inr (6, [.ref o_n, .ref o_z, .ref o_k, .ref o_t, .ref a_i_reached, .ref a_i_open, .ref a_i_lateDelays, .ref a_i_earlyDelays, .ref a_i_lateSlopes, .ref a_i_earlySlopes, .ref a_i_lateArrivals, .ref a_i_earlyArrivals])), (a_i_lateArrivals, aI E 100 g_12), (a_i_lateDelays, aI E 400 g_i_lateDelays), (a_i_earlyArrivals, aI E 100 g_21), (a_i_earlyDelays, aI E 400 g_i_earlyDelays)] := hD
  exact ret_v hx hb hr hlk (hP.sub (ws' := [(o_i, .inr (6, [.ref o_n, .ref o_z, .ref o_k, .ref o_t, .ref a_i_reached, .ref a_i_open, .ref a_i_lateDelays, .ref a_i_earlyDelays, .ref a_i_lateSlopes, .ref a_i_earlySlopes, .ref a_i_lateArrivals, .ref a_i_earlyArrivals])), (a_i_lateArrivals, aI E 100 g_12), (a_i_lateDelays, aI E 400 g_i_lateDelays), (a_i_earlyArrivals, aI E 100 g_21), (a_i_earlyDelays, aI E 400 g_i_earlyDelays)]) [0, 1, 2, 3, 4] rfl) (hD.sub (ws' := [(o_i, .inr (6, [.ref o_n, .ref o_z, .ref o_k, .ref o_t, .ref a_i_reached, .ref a_i_open, .ref a_i_lateDelays, .ref a_i_earlyDelays, .ref a_i_lateSlopes, .ref a_i_earlySlopes, .ref a_i_lateArrivals, .ref a_i_earlyArrivals])), (a_i_lateArrivals, aI E 100 g_12), (a_i_lateDelays, aI E 400 g_i_lateDelays), (a_i_earlyArrivals, aI E 100 g_21), (a_i_earlyDelays, aI E 400 g_i_earlyDelays)]) [0, 1, 2, 3, 4] (by decide) rfl) hS dX6_arrive_68 (Nat.le_of_ble_eq_true rfl) (Nat.le_of_ble_eq_true rfl) ⟨g_12, g_21, rfl⟩
