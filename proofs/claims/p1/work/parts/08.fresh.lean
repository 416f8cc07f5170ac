theorem dX9_hasOrAny_0 : decode cX9_hasOrAny 0 = .ok (.iload_n 1, 1) := by decide +kernel
theorem dX9_hasOrAny_1 : decode cX9_hasOrAny 1 = .ok (.iconst (-1), 1) := by decide +kernel
theorem dX9_hasOrAny_2 : decode cX9_hasOrAny 2 = .ok (.if_icmp .eq 14, 3) := by decide +kernel
theorem dX9_hasOrAny_16 : decode cX9_hasOrAny 16 = .ok (.iconst 1, 1) := by decide +kernel
theorem dX9_hasOrAny_17 : decode cX9_hasOrAny 17 = .ok (.goto 4, 3) := by decide +kernel
theorem dX9_hasOrAny_21 : decode cX9_hasOrAny 21 = .ok (.ireturn, 1) := by decide +kernel
theorem dX9_hasOrAny_5 : decode cX9_hasOrAny 5 = .ok (.aload_n 0, 1) := by decide +kernel
theorem dX9_hasOrAny_6 : decode cX9_hasOrAny 6 = .ok (.getfield 12, 3) := by decide +kernel
theorem dX9_hasOrAny_9 : decode cX9_hasOrAny 9 = .ok (.iload_n 1, 1) := by decide +kernel
theorem dX9_hasOrAny_10 : decode cX9_hasOrAny 10 = .ok (.invokevirtual 103, 3) := by decide +kernel
theorem dX9_hasOrAny_13 : decode cX9_hasOrAny 13 = .ok (.ifCond .eq 7, 3) := by decide +kernel
theorem dX9_hasOrAny_20 : decode cX9_hasOrAny 20 = .ok (.iconst 0, 1) := by decide +kernel
def wo_f_hasOrAny : List Cond := [.code yX9_hasOrAny cX9_hasOrAny 2 (some .boolean), .fieldLink RX9 12 "TimingHouse" "net" "LTimingHouse$Net;", .methodLink RX9 103 yX1_has, .instanceMethod yX1_has, .selects RX1 yX1_has yX1_has, .initialized RX1]
def wr_f_hasOrAny : List Cond := (wsX90 ++ (w_k_has0 ++ ([])))
def w_f_hasOrAny : List Cond := wo_f_hasOrAny ++ wr_f_hasOrAny
theorem wg_f_hasOrAny : GW w_f_hasOrAny := GW_app (GW_of (by decide +kernel)) (GW_app (GW_of (by decide +kernel)) (GW_app (wg_k_has0) (GW_nil)))
theorem i_f_hasOrAny_X9 : ∀ w ∈ wsX90, w ∈ w_f_hasOrAny := fun _ h => List.mem_append_right _ (List.mem_append_left _ h)
theorem g_f_hasOrAny_k_has0_103 : GoodIn w_f_hasOrAny (wsV RX9 103 RX1 yX1_has w_k_has0) := goodIn_app (gi_left (goodIn_of _ (by decide +kernel))) (fun w h => ⟨List.mem_append_right _ (List.mem_append_right _ (List.mem_append_left _ h)), wg_k_has0 w h⟩)
set_option maxHeartbeats 4000000 in
set_option maxRecDepth 100000 in
theorem f_hasOrAny (l : Launch) (E : gE) (h : Nat) (h_net : Nat) (h_stations : Value) (h_clock : Value) (h_rules : Value) (h_tables : Value) (h_timing : Value) (h_race : Value) (h_tracer : Value) (h_shown : Value) (h_trial : Value) (n_kinds : Value) (n_inputs : Value) (n_tables : Value) (n_sizes : Value) (n_extras : Value) (n_sources : Value) (n_takers : Value) (n_firstTaker : Value) (n_order : Value) (n_ordered : Value) (n_tally : Value) (n_behind : Value) (p1 : Int32) : CtI l E yX9_hasOrAny w_f_hasOrAny ({ frames := 1, cells := 0, slots := 0, locals := 21 }) [(h, .inr (9, [.ref h_net, h_stations, h_clock, h_rules, h_tables, h_timing, h_race, h_tracer, h_shown, h_trial, .int 0, .int 0])), (h_net, .inr (1, [.int 0, n_kinds, n_inputs, n_tables, n_sizes, n_extras, n_sources, n_takers, n_firstTaker, n_order, n_ordered, n_tally, n_behind]))] [.ref h, .int p1] (fun r w => (r = if p1.toInt = (-1) then 1 else 0) ∧ w = [(h, .inr (9, [.ref h_net, h_stations, h_clock, h_rules, h_tables, h_timing, h_race, h_tracer, h_shown, h_trial, .int 0, .int 0])), (h_net, .inr (1, [.int 0, n_kinds, n_inputs, n_tables, n_sizes, n_extras, n_sources, n_takers, n_firstTaker, n_order, n_ordered, n_tally, n_behind]))]) := by
  refine CtI.of (cc := cX9_hasOrAny) (maxL := 2) (rt := (some .boolean)) (by decide) rfl (Nat.le_of_ble_eq_true rfl) ?_
  intro p e s m below meth c A B ls hl
  obtain ⟨hx, hb, hml, hr, hlk, hin, hts, hown, hK, hN, hA, hP, hD, hS⟩ := B
  have hown : s.vm.findClass RX9 = some m.cls := hown
  have hto : ∀ w ∈ wo_f_hasOrAny, w.before _ s = true := fun w h => hts w (List.mem_append_left _ h)
  have hl : lv_has ls 2 [(0, .ref h), (1, .int p1)] := hl
  obtain ⟨H, hHe⟩ : ∃ H, H = s.heap := ⟨_, rfl⟩
  have hS : va_S A s.heap H [] := by rw [hHe]; exact hS
  have hP : va_P E.1 vwCl [(h, .inr (9, [.ref h_net, h_stations, h_clock, h_rules, h_tables, h_timing, h_race, h_tracer, h_shown, h_trial, .int 0, .int 0])), (h_net, .inr (1, [.int 0, n_kinds, n_inputs, n_tables, n_sizes, n_extras, n_sources, n_takers, n_firstTaker, n_order, n_ordered, n_tally, n_behind]))] H := by rw [hHe]; exact hP
  refine W_heap hHe ?_
  refine lv_iload_n hx hb dX9_hasOrAny_0 rfl (lv_at hl 1 rfl) ?_
  refine lv_iconst (v := (-1)) hx hb dX9_hasOrAny_1 (by decide) ?_
  refine lv_icmp_eq (tgt := 16) hx hb dX9_hasOrAny_2 (by decide) (fun c_1 => ?_) (fun c_1 => ?_)
  · have e_1 : p1.toInt = (-1) := i3_eq c_1
    refine lv_iconst (v := 1) hx hb dX9_hasOrAny_16 (by decide) ?_
    refine lv_goto (tgt := 21) hx hb dX9_hasOrAny_17 (by decide) ?_
    exact ret_i hx hb hr hlk (hP.sub (ws' := [(h, .inr (9, [.ref h_net, h_stations, h_clock, h_rules, h_tables, h_timing, h_race, h_tracer, h_shown, h_trial, .int 0, .int 0])), (h_net, .inr (1, [.int 0, n_kinds, n_inputs, n_tables, n_sizes, n_extras, n_sources, n_takers, n_firstTaker, n_order, n_ordered, n_tally, n_behind]))]) [0, 1] rfl) (hD.sub (ws' := [(h, .inr (9, [.ref h_net, h_stations, h_clock, h_rules, h_tables, h_timing, h_race, h_tracer, h_shown, h_trial, .int 0, .int 0])), (h_net, .inr (1, [.int 0, n_kinds, n_inputs, n_tables, n_sizes, n_extras, n_sources, n_takers, n_firstTaker, n_order, n_ordered, n_tally, n_behind]))]) [0, 1] (by decide) rfl) hS rfl dX9_hasOrAny_21 (Nat.le_of_ble_eq_true rfl) (Nat.le_of_ble_eq_true rfl) ⟨(by first | assumption | ((repeat' split) <;> first | rfl | (exfalso; omega))), rfl⟩
  · have e_1 : p1.toInt ≠ (-1) := i3_ne c_1
    refine lv_aload_n hx hb dX9_hasOrAny_5 rfl (lv_at hl 0 rfl) ?_
    refine va_get (D := E.1) (ci := 9) (v := .ref h_net) (own := RX9) (C := RX9) (T := TX9) (N := 12) hx hb hts i_f_hasOrAny_X9 hown hK hP 0 rfl rfl 0 (by decide) (hto (.fieldLink RX9 12 "TimingHouse" "net" "LTimingHouse$Net;") (by decide +kernel)) (fun _ h9 => h9) rfl dX9_hasOrAny_6 ?_
    refine lv_iload_n hx hb dX9_hasOrAny_9 rfl (lv_at hl 1 rfl) ?_
    refine call_i (va_runV (As := [.int p1]) (rest := []) ⟨hx, hb, hml, hown, hts⟩ (k_has0 l E h_net (n_kinds) (n_inputs) (n_tables) (n_sizes) (n_extras) (n_sources) (n_takers) (n_firstTaker) (n_order) (n_ordered) (n_tally) (n_behind) p1 H.size) (cwV 1 hts g_f_hasOrAny_k_has0_103 rfl rfl rfl (by decide +kernel) ⟨Nat.le_of_ble_eq_true rfl, Nat.le_of_ble_eq_true rfl⟩) (pre_V hK hN (hP.sub (ws' := [(h_net, .inr (1, [.int 0, n_kinds, n_inputs, n_tables, n_sizes, n_extras, n_sources, n_takers, n_firstTaker, n_order, n_ordered, n_tally, n_behind]))]) [1] rfl) (hD.sub (ws' := [(h_net, .inr (1, [.int 0, n_kinds, n_inputs, n_tables, n_sizes, n_extras, n_sources, n_takers, n_firstTaker, n_order, n_ordered, n_tally, n_behind]))]) [1] (by decide) rfl) (ci := 1) (q0 := 0) rfl rfl) rfl rfl hl.1 rfl (lv_room (Nat.le_of_ble_eq_true rfl)) dX9_hasOrAny_10 ⟨Nat.le_of_ble_eq_true rfl, Nat.le_of_ble_eq_true rfl⟩) hP hD hS hA [1] [0] (wr := [(h, .inr (9, [.ref h_net, h_stations, h_clock, h_rules, h_tables, h_timing, h_race, h_tracer, h_shown, h_trial, .int 0, .int 0]))]) rfl rfl (by decide) (by decide) (fun r_2 w H locs hw hP hD hS => ?_)
    obtain ⟨rfl, rfl⟩ := hw
    have hP : va_P E.1 vwCl [(h, .inr (9, [.ref h_net, h_stations, h_clock, h_rules, h_tables, h_timing, h_race, h_tracer, h_shown, h_trial, .int 0, .int 0])), (h_net, .inr (1, [.int 0, n_kinds, n_inputs, n_tables, n_sizes, n_extras, n_sources, n_takers, n_firstTaker, n_order, n_ordered, n_tally, n_behind]))] H := hP
    have hD : va_D A [(h, .inr (9, [.ref h_net, h_stations, h_clock, h_rules, h_tables, h_timing, h_race, h_tracer, h_shown, h_trial, .int 0, .int 0])), (h_net, .inr (1, [.int 0, n_kinds, n_inputs, n_tables, n_sizes, n_extras, n_sources, n_takers, n_firstTaker, n_order, n_ordered, n_tally, n_behind]))] := hD
    refine lv_if_eq (tgt := 20) hx hb dX9_hasOrAny_13 (by decide) (fun c_3 => ?_) (fun c_3 => ?_)
    · refine lv_iconst (v := 0) hx hb dX9_hasOrAny_20 (by decide) ?_
      exact ret_i hx hb hr hlk (hP.sub (ws' := [(h, .inr (9, [.ref h_net, h_stations, h_clock, h_rules, h_tables, h_timing, h_race, h_tracer, h_shown, h_trial, .int 0, .int 0])), (h_net, .inr (1, [.int 0, n_kinds, n_inputs, n_tables, n_sizes, n_extras, n_sources, n_takers, n_firstTaker, n_order, n_ordered, n_tally, n_behind]))]) [0, 1] rfl) (hD.sub (ws' := [(h, .inr (9, [.ref h_net, h_stations, h_clock, h_rules, h_tables, h_timing, h_race, h_tracer, h_shown, h_trial, .int 0, .int 0])), (h_net, .inr (1, [.int 0, n_kinds, n_inputs, n_tables, n_sizes, n_extras, n_sources, n_takers, n_firstTaker, n_order, n_ordered, n_tally, n_behind]))]) [0, 1] (by decide) rfl) hS rfl dX9_hasOrAny_21 (Nat.le_of_ble_eq_true rfl) (Nat.le_of_ble_eq_true rfl) ⟨(by first | assumption | ((repeat' split) <;> first | rfl | (exfalso; omega))), rfl⟩
    · exact absurd c_3 (by decide)
theorem dX9_isTold_0 : decode cX9_isTold 0 = .ok (.aload_n 0, 1) := by decide +kernel
theorem dX9_isTold_1 : decode cX9_isTold 1 = .ok (.getfield 12, 3) := by decide +kernel
theorem dX9_isTold_4 : decode cX9_isTold 4 = .ok (.iload_n 1, 1) := by decide +kernel
theorem dX9_isTold_5 : decode cX9_isTold 5 = .ok (.invokevirtual 103, 3) := by decide +kernel
theorem dX9_isTold_8 : decode cX9_isTold 8 = .ok (.ifCond .eq 14, 3) := by decide +kernel
theorem dX9_isTold_22 : decode cX9_isTold 22 = .ok (.iconst 0, 1) := by decide +kernel
theorem dX9_isTold_23 : decode cX9_isTold 23 = .ok (.ireturn, 1) := by decide +kernel
def wo_f_isTold : List Cond := [.code yX9_isTold cX9_isTold 2 (some .boolean), .fieldLink RX9 12 "TimingHouse" "net" "LTimingHouse$Net;", .methodLink RX9 103 yX1_has, .instanceMethod yX1_has, .selects RX1 yX1_has yX1_has, .initialized RX1]
def wr_f_isTold : List Cond := (wsX90 ++ (w_k_has0 ++ ([])))
def w_f_isTold : List Cond := wo_f_isTold ++ wr_f_isTold
theorem wg_f_isTold : GW w_f_isTold := GW_app (GW_of (by decide +kernel)) (GW_app (GW_of (by decide +kernel)) (GW_app (wg_k_has0) (GW_nil)))
theorem i_f_isTold_X9 : ∀ w ∈ wsX90, w ∈ w_f_isTold := fun _ h => List.mem_append_right _ (List.mem_append_left _ h)
theorem g_f_isTold_k_has0_103 : GoodIn w_f_isTold (wsV RX9 103 RX1 yX1_has w_k_has0) := goodIn_app (gi_left (goodIn_of _ (by decide +kernel))) (fun w h => ⟨List.mem_append_right _ (List.mem_append_right _ (List.mem_append_left _ h)), wg_k_has0 w h⟩)
set_option maxHeartbeats 4000000 in
set_option maxRecDepth 100000 in
theorem f_isTold (l : Launch) (E : gE) (h : Nat) (h_net : Nat) (h_stations : Value) (h_clock : Value) (h_rules : Value) (h_tables : Value) (h_timing : Value) (h_race : Value) (h_tracer : Value) (h_shown : Value) (h_trial : Value) (n_kinds : Value) (n_inputs : Value) (n_tables : Value) (n_sizes : Value) (n_extras : Value) (n_sources : Value) (n_takers : Value) (n_firstTaker : Value) (n_order : Value) (n_ordered : Value) (n_tally : Value) (n_behind : Value) (p1 : Int32) : CtI l E yX9_isTold w_f_isTold ({ frames := 1, cells := 0, slots := 0, locals := 21 }) [(h, .inr (9, [.ref h_net, h_stations, h_clock, h_rules, h_tables, h_timing, h_race, h_tracer, h_shown, h_trial, .int 0, .int 0])), (h_net, .inr (1, [.int 0, n_kinds, n_inputs, n_tables, n_sizes, n_extras, n_sources, n_takers, n_firstTaker, n_order, n_ordered, n_tally, n_behind]))] [.ref h, .int p1] (fun r w => r = 0 ∧ w = []) := by
  refine CtI.of (cc := cX9_isTold) (maxL := 2) (rt := (some .boolean)) (by decide) rfl (Nat.le_of_ble_eq_true rfl) ?_
  intro p e s m below meth c A B ls hl
  obtain ⟨hx, hb, hml, hr, hlk, hin, hts, hown, hK, hN, hA, hP, hD, hS⟩ := B
  have hown : s.vm.findClass RX9 = some m.cls := hown
  have hto : ∀ w ∈ wo_f_isTold, w.before _ s = true := fun w h => hts w (List.mem_append_left _ h)
  have hl : lv_has ls 2 [(0, .ref h), (1, .int p1)] := hl
  obtain ⟨H, hHe⟩ : ∃ H, H = s.heap := ⟨_, rfl⟩
  have hS : va_S A s.heap H [] := by rw [hHe]; exact hS
  have hP : va_P E.1 vwCl [(h, .inr (9, [.ref h_net, h_stations, h_clock, h_rules, h_tables, h_timing, h_race, h_tracer, h_shown, h_trial, .int 0, .int 0])), (h_net, .inr (1, [.int 0, n_kinds, n_inputs, n_tables, n_sizes, n_extras, n_sources, n_takers, n_firstTaker, n_order, n_ordered, n_tally, n_behind]))] H := by rw [hHe]; exact hP
  refine W_heap hHe ?_
  refine lv_aload_n hx hb dX9_isTold_0 rfl (lv_at hl 0 rfl) ?_
  refine va_get (D := E.1) (ci := 9) (v := .ref h_net) (own := RX9) (C := RX9) (T := TX9) (N := 12) hx hb hts i_f_isTold_X9 hown hK hP 0 rfl rfl 0 (by decide) (hto (.fieldLink RX9 12 "TimingHouse" "net" "LTimingHouse$Net;") (by decide +kernel)) (fun _ h9 => h9) rfl dX9_isTold_1 ?_
  refine lv_iload_n hx hb dX9_isTold_4 rfl (lv_at hl 1 rfl) ?_
  refine call_i (va_runV (As := [.int p1]) (rest := []) ⟨hx, hb, hml, hown, hts⟩ (k_has0 l E h_net (n_kinds) (n_inputs) (n_tables) (n_sizes) (n_extras) (n_sources) (n_takers) (n_firstTaker) (n_order) (n_ordered) (n_tally) (n_behind) p1 H.size) (cwV 1 hts g_f_isTold_k_has0_103 rfl rfl rfl (by decide +kernel) ⟨Nat.le_of_ble_eq_true rfl, Nat.le_of_ble_eq_true rfl⟩) (pre_V hK hN (hP.sub (ws' := [(h_net, .inr (1, [.int 0, n_kinds, n_inputs, n_tables, n_sizes, n_extras, n_sources, n_takers, n_firstTaker, n_order, n_ordered, n_tally, n_behind]))]) [1] rfl) (hD.sub (ws' := [(h_net, .inr (1, [.int 0, n_kinds, n_inputs, n_tables, n_sizes, n_extras, n_sources, n_takers, n_firstTaker, n_order, n_ordered, n_tally, n_behind]))]) [1] (by decide) rfl) (ci := 1) (q0 := 0) rfl rfl) rfl rfl hl.1 rfl (lv_room (Nat.le_of_ble_eq_true rfl)) dX9_isTold_5 ⟨Nat.le_of_ble_eq_true rfl, Nat.le_of_ble_eq_true rfl⟩) hP hD hS hA [1] [0] (wr := [(h, .inr (9, [.ref h_net, h_stations, h_clock, h_rules, h_tables, h_timing, h_race, h_tracer, h_shown, h_trial, .int 0, .int 0]))]) rfl rfl (by decide) (by decide) (fun r_1 w H locs hw hP hD hS => ?_)
  obtain ⟨rfl, rfl⟩ := hw
  have hP : va_P E.1 vwCl [(h, .inr (9, [.ref h_net, h_stations, h_clock, h_rules, h_tables, h_timing, h_race, h_tracer, h_shown, h_trial, .int 0, .int 0])), (h_net, .inr (1, [.int 0, n_kinds, n_inputs, n_tables, n_sizes, n_extras, n_sources, n_takers, n_firstTaker, n_order, n_ordered, n_tally, n_behind]))] H := hP
  have hD : va_D A [(h, .inr (9, [.ref h_net, h_stations, h_clock, h_rules, h_tables, h_timing, h_race, h_tracer, h_shown, h_trial, .int 0, .int 0])), (h_net, .inr (1, [.int 0, n_kinds, n_inputs, n_tables, n_sizes, n_extras, n_sources, n_takers, n_firstTaker, n_order, n_ordered, n_tally, n_behind]))] := hD
  refine lv_if_eq (tgt := 22) hx hb dX9_isTold_8 (by decide) (fun c_2 => ?_) (fun c_2 => ?_)
  · refine lv_iconst (v := 0) hx hb dX9_isTold_22 (by decide) ?_
    exact ret_i hx hb hr hlk (hP.sub (ws' := []) [] rfl) (hD.sub (ws' := []) [] (by decide) rfl) hS rfl dX9_isTold_23 (Nat.le_of_ble_eq_true rfl) (Nat.le_of_ble_eq_true rfl) ⟨rfl, rfl⟩
  · exact absurd c_2 (by decide)
theorem dX9_wire_0 : decode cX9_wire 0 = .ok (.iload_n 1, 1) := by decide +kernel
theorem dX9_wire_1 : decode cX9_wire 1 = .ok (.iconst (-1), 1) := by decide +kernel
theorem dX9_wire_2 : decode cX9_wire 2 = .ok (.if_icmp .eq 14, 3) := by decide +kernel
theorem dX9_wire_16 : decode cX9_wire 16 = .ok (.aload_n 0, 1) := by decide +kernel
theorem dX9_wire_17 : decode cX9_wire 17 = .ok (.getfield 12, 3) := by decide +kernel
theorem dX9_wire_20 : decode cX9_wire 20 = .ok (.iload_n 2, 1) := by decide +kernel
theorem dX9_wire_21 : decode cX9_wire 21 = .ok (.iload_n 3, 1) := by decide +kernel
theorem dX9_wire_22 : decode cX9_wire 22 = .ok (.invokevirtual 104, 3) := by decide +kernel
theorem dX9_wire_25 : decode cX9_wire 25 = .ok (.ifCond .ne 5, 3) := by decide +kernel
theorem dX9_wire_28 : decode cX9_wire 28 = .ok (.iconst (-1), 1) := by decide +kernel
theorem dX9_wire_29 : decode cX9_wire 29 = .ok (.ireturn, 1) := by decide +kernel
theorem dX9_wire_5 : decode cX9_wire 5 = .ok (.aload_n 0, 1) := by decide +kernel
theorem dX9_wire_6 : decode cX9_wire 6 = .ok (.getfield 12, 3) := by decide +kernel
theorem dX9_wire_9 : decode cX9_wire 9 = .ok (.iload_n 1, 1) := by decide +kernel
theorem dX9_wire_10 : decode cX9_wire 10 = .ok (.invokevirtual 103, 3) := by decide +kernel
theorem dX9_wire_13 : decode cX9_wire 13 = .ok (.ifCond .eq 15, 3) := by decide +kernel
def wo_f_wire : List Cond := [.code yX9_wire cX9_wire 4 (some .int), .fieldLink RX9 12 "TimingHouse" "net" "LTimingHouse$Net;", .methodLink RX9 104 yX1_hasInput, .instanceMethod yX1_hasInput, .selects RX1 yX1_hasInput yX1_hasInput, .initialized RX1, .methodLink RX9 103 yX1_has, .instanceMethod yX1_has, .selects RX1 yX1_has yX1_has]
def wr_f_wire : List Cond := (wsX90 ++ (w_k_hasInput0 ++ (w_k_has0 ++ ([]))))
def w_f_wire : List Cond := wo_f_wire ++ wr_f_wire
theorem wg_f_wire : GW w_f_wire := GW_app (GW_of (by decide +kernel)) (GW_app (GW_of (by decide +kernel)) (GW_app (wg_k_hasInput0) (GW_app (wg_k_has0) (GW_nil))))
theorem i_f_wire_X9 : ∀ w ∈ wsX90, w ∈ w_f_wire := fun _ h => List.mem_append_right _ (List.mem_append_left _ h)
theorem g_f_wire_k_hasInput0_104 : GoodIn w_f_wire (wsV RX9 104 RX1 yX1_hasInput w_k_hasInput0) := goodIn_app (gi_left (goodIn_of _ (by decide +kernel))) (fun w h => ⟨List.mem_append_right _ (List.mem_append_right _ (List.mem_append_left _ h)), wg_k_hasInput0 w h⟩)
theorem g_f_wire_k_has0_103 : GoodIn w_f_wire (wsV RX9 103 RX1 yX1_has w_k_has0) := goodIn_app (gi_left (goodIn_of _ (by decide +kernel))) (fun w h => ⟨List.mem_append_right _ (List.mem_append_right _ (List.mem_append_right _ (List.mem_append_left _ h))), wg_k_has0 w h⟩)
set_option maxHeartbeats 4000000 in
set_option maxRecDepth 100000 in
theorem f_wire (l : Launch) (E : gE) (h : Nat) (h_net : Nat) (h_stations : Value) (h_clock : Value) (h_rules : Value) (h_tables : Value) (h_timing : Value) (h_race : Value) (h_tracer : Value) (h_shown : Value) (h_trial : Value) (n_kinds : Value) (n_inputs : Value) (n_tables : Value) (n_sizes : Value) (n_extras : Value) (n_sources : Value) (n_takers : Value) (n_firstTaker : Value) (n_order : Value) (n_ordered : Value) (n_tally : Value) (n_behind : Value) (p1 : Int32) (p2 : Int32) (p3 : Int32) : CtI l E yX9_wire w_f_wire ({ frames := 2, cells := 0, slots := 0, locals := 43 }) [(h, .inr (9, [.ref h_net, h_stations, h_clock, h_rules, h_tables, h_timing, h_race, h_tracer, h_shown, h_trial, .int 0, .int 0])), (h_net, .inr (1, [.int 0, n_kinds, n_inputs, n_tables, n_sizes, n_extras, n_sources, n_takers, n_firstTaker, n_order, n_ordered, n_tally, n_behind]))] [.ref h, .int p1, .int p2, .int p3] (fun r w => r = (-1) ∧ w = []) := by
  refine CtI.of (cc := cX9_wire) (maxL := 4) (rt := (some .int)) (by decide) rfl (Nat.le_of_ble_eq_true rfl) ?_
  intro p e s m below meth c A B ls hl
  obtain ⟨hx, hb, hml, hr, hlk, hin, hts, hown, hK, hN, hA, hP, hD, hS⟩ := B
  have hown : s.vm.findClass RX9 = some m.cls := hown
  have hto : ∀ w ∈ wo_f_wire, w.before _ s = true := fun w h => hts w (List.mem_append_left _ h)
  have hl : lv_has ls 4 [(0, .ref h), (1, .int p1), (2, .int p2), (3, .int p3)] := hl
  obtain ⟨H, hHe⟩ : ∃ H, H = s.heap := ⟨_, rfl⟩
  have hS : va_S A s.heap H [] := by rw [hHe]; exact hS
  have hP : va_P E.1 vwCl [(h, .inr (9, [.ref h_net, h_stations, h_clock, h_rules, h_tables, h_timing, h_race, h_tracer, h_shown, h_trial, .int 0, .int 0])), (h_net, .inr (1, [.int 0, n_kinds, n_inputs, n_tables, n_sizes, n_extras, n_sources, n_takers, n_firstTaker, n_order, n_ordered, n_tally, n_behind]))] H := by rw [hHe]; exact hP
  refine W_heap hHe ?_
  refine lv_iload_n hx hb dX9_wire_0 rfl (lv_at hl 1 rfl) ?_
  refine lv_iconst (v := (-1)) hx hb dX9_wire_1 (by decide) ?_
  refine lv_icmp_eq (tgt := 16) hx hb dX9_wire_2 (by decide) (fun c_1 => ?_) (fun c_1 => ?_)
  · have e_1 : p1.toInt = (-1) := i3_eq c_1
    refine lv_aload_n hx hb dX9_wire_16 rfl (lv_at hl 0 rfl) ?_
    refine va_get (D := E.1) (ci := 9) (v := .ref h_net) (own := RX9) (C := RX9) (T := TX9) (N := 12) hx hb hts i_f_wire_X9 hown hK hP 0 rfl rfl 0 (by decide) (hto (.fieldLink RX9 12 "TimingHouse" "net" "LTimingHouse$Net;") (by decide +kernel)) (fun _ h9 => h9) rfl dX9_wire_17 ?_
    refine lv_iload_n hx hb dX9_wire_20 rfl (lv_at hl 2 rfl) ?_
    refine lv_iload_n hx hb dX9_wire_21 rfl (lv_at hl 3 rfl) ?_
    refine call_i (va_runV (As := [.int p2, .int p3]) (rest := []) ⟨hx, hb, hml, hown, hts⟩ (k_hasInput0 l E h_net (n_kinds) (n_inputs) (n_tables) (n_sizes) (n_extras) (n_sources) (n_takers) (n_firstTaker) (n_order) (n_ordered) (n_tally) (n_behind) p2 p3 H.size) (cwV 2 hts g_f_wire_k_hasInput0_104 rfl rfl rfl (by decide +kernel) ⟨Nat.le_of_ble_eq_true rfl, Nat.le_of_ble_eq_true rfl⟩) (pre_V hK hN (hP.sub (ws' := [(h_net, .inr (1, [.int 0, n_kinds, n_inputs, n_tables, n_sizes, n_extras, n_sources, n_takers, n_firstTaker, n_order, n_ordered, n_tally, n_behind]))]) [1] rfl) (hD.sub (ws' := [(h_net, .inr (1, [.int 0, n_kinds, n_inputs, n_tables, n_sizes, n_extras, n_sources, n_takers, n_firstTaker, n_order, n_ordered, n_tally, n_behind]))]) [1] (by decide) rfl) (ci := 1) (q0 := 0) rfl rfl) rfl rfl hl.1 rfl (lv_room (Nat.le_of_ble_eq_true rfl)) dX9_wire_22 ⟨Nat.le_of_ble_eq_true rfl, Nat.le_of_ble_eq_true rfl⟩) hP hD hS hA [1] [0] (wr := [(h, .inr (9, [.ref h_net, h_stations, h_clock, h_rules, h_tables, h_timing, h_race, h_tracer, h_shown, h_trial, .int 0, .int 0]))]) rfl rfl (by decide) (by decide) (fun r_2 w H locs hw hP hD hS => ?_)
    obtain ⟨rfl, rfl⟩ := hw
    have hP : va_P E.1 vwCl [(h, .inr (9, [.ref h_net, h_stations, h_clock, h_rules, h_tables, h_timing, h_race, h_tracer, h_shown, h_trial, .int 0, .int 0])), (h_net, .inr (1, [.int 0, n_kinds, n_inputs, n_tables, n_sizes, n_extras, n_sources, n_takers, n_firstTaker, n_order, n_ordered, n_tally, n_behind]))] H := hP
    have hD : va_D A [(h, .inr (9, [.ref h_net, h_stations, h_clock, h_rules, h_tables, h_timing, h_race, h_tracer, h_shown, h_trial, .int 0, .int 0])), (h_net, .inr (1, [.int 0, n_kinds, n_inputs, n_tables, n_sizes, n_extras, n_sources, n_takers, n_firstTaker, n_order, n_ordered, n_tally, n_behind]))] := hD
    refine lv_if_ne (tgt := 30) hx hb dX9_wire_25 (by decide) (fun c_3 => ?_) (fun c_3 => ?_)
    · exact absurd c_3 (by decide)
    · refine lv_iconst (v := (-1)) hx hb dX9_wire_28 (by decide) ?_
      exact ret_i hx hb hr hlk (hP.sub (ws' := []) [] rfl) (hD.sub (ws' := []) [] (by decide) rfl) hS rfl dX9_wire_29 (Nat.le_of_ble_eq_true rfl) (Nat.le_of_ble_eq_true rfl) ⟨rfl, rfl⟩
  · have e_1 : p1.toInt ≠ (-1) := i3_ne c_1
    refine lv_aload_n hx hb dX9_wire_5 rfl (lv_at hl 0 rfl) ?_
    refine va_get (D := E.1) (ci := 9) (v := .ref h_net) (own := RX9) (C := RX9) (T := TX9) (N := 12) hx hb hts i_f_wire_X9 hown hK hP 0 rfl rfl 0 (by decide) (hto (.fieldLink RX9 12 "TimingHouse" "net" "LTimingHouse$Net;") (by decide +kernel)) (fun _ h9 => h9) rfl dX9_wire_6 ?_
    refine lv_iload_n hx hb dX9_wire_9 rfl (lv_at hl 1 rfl) ?_
    refine call_i (va_runV (As := [.int p1]) (rest := []) ⟨hx, hb, hml, hown, hts⟩ (k_has0 l E h_net (n_kinds) (n_inputs) (n_tables) (n_sizes) (n_extras) (n_sources) (n_takers) (n_firstTaker) (n_order) (n_ordered) (n_tally) (n_behind) p1 H.size) (cwV 1 hts g_f_wire_k_has0_103 rfl rfl rfl (by decide +kernel) ⟨Nat.le_of_ble_eq_true rfl, Nat.le_of_ble_eq_true rfl⟩) (pre_V hK hN (hP.sub (ws' := [(h_net, .inr (1, [.int 0, n_kinds, n_inputs, n_tables, n_sizes, n_extras, n_sources, n_takers, n_firstTaker, n_order, n_ordered, n_tally, n_behind]))]) [1] rfl) (hD.sub (ws' := [(h_net, .inr (1, [.int 0, n_kinds, n_inputs, n_tables, n_sizes, n_extras, n_sources, n_takers, n_firstTaker, n_order, n_ordered, n_tally, n_behind]))]) [1] (by decide) rfl) (ci := 1) (q0 := 0) rfl rfl) rfl rfl hl.1 rfl (lv_room (Nat.le_of_ble_eq_true rfl)) dX9_wire_10 ⟨Nat.le_of_ble_eq_true rfl, Nat.le_of_ble_eq_true rfl⟩) hP hD hS hA [1] [0] (wr := [(h, .inr (9, [.ref h_net, h_stations, h_clock, h_rules, h_tables, h_timing, h_race, h_tracer, h_shown, h_trial, .int 0, .int 0]))]) rfl rfl (by decide) (by decide) (fun r_4 w H locs hw hP hD hS => ?_)
    obtain ⟨rfl, rfl⟩ := hw
    have hP : va_P E.1 vwCl [(h, .inr (9, [.ref h_net, h_stations, h_clock, h_rules, h_tables, h_timing, h_race, h_tracer, h_shown, h_trial, .int 0, .int 0])), (h_net, .inr (1, [.int 0, n_kinds, n_inputs, n_tables, n_sizes, n_extras, n_sources, n_takers, n_firstTaker, n_order, n_ordered, n_tally, n_behind]))] H := hP
    have hD : va_D A [(h, .inr (9, [.ref h_net, h_stations, h_clock, h_rules, h_tables, h_timing, h_race, h_tracer, h_shown, h_trial, .int 0, .int 0])), (h_net, .inr (1, [.int 0, n_kinds, n_inputs, n_tables, n_sizes, n_extras, n_sources, n_takers, n_firstTaker, n_order, n_ordered, n_tally, n_behind]))] := hD
    refine lv_if_eq (tgt := 28) hx hb dX9_wire_13 (by decide) (fun c_5 => ?_) (fun c_5 => ?_)
    · refine lv_iconst (v := (-1)) hx hb dX9_wire_28 (by decide) ?_
      exact ret_i hx hb hr hlk (hP.sub (ws' := []) [] rfl) (hD.sub (ws' := []) [] (by decide) rfl) hS rfl dX9_wire_29 (Nat.le_of_ble_eq_true rfl) (Nat.le_of_ble_eq_true rfl) ⟨rfl, rfl⟩
    · exact absurd c_5 (by decide)
theorem dX9_extra_0 : decode cX9_extra 0 = .ok (.aload_n 0, 1) := by decide +kernel
theorem dX9_extra_1 : decode cX9_extra 1 = .ok (.getfield 12, 3) := by decide +kernel
theorem dX9_extra_4 : decode cX9_extra 4 = .ok (.iload_n 1, 1) := by decide +kernel
theorem dX9_extra_5 : decode cX9_extra 5 = .ok (.invokevirtual 103, 3) := by decide +kernel
theorem dX9_extra_8 : decode cX9_extra 8 = .ok (.ifCond .eq 14, 3) := by decide +kernel
theorem dX9_extra_22 : decode cX9_extra 22 = .ok (.iconst (-1), 1) := by decide +kernel
theorem dX9_extra_23 : decode cX9_extra 23 = .ok (.ireturn, 1) := by decide +kernel
def wo_f_extra : List Cond := [.code yX9_extra cX9_extra 4 (some .int), .fieldLink RX9 12 "TimingHouse" "net" "LTimingHouse$Net;", .methodLink RX9 103 yX1_has, .instanceMethod yX1_has, .selects RX1 yX1_has yX1_has, .initialized RX1]
def wr_f_extra : List Cond := (wsX90 ++ (w_k_has0 ++ ([])))
def w_f_extra : List Cond := wo_f_extra ++ wr_f_extra
theorem wg_f_extra : GW w_f_extra := GW_app (GW_of (by decide +kernel)) (GW_app (GW_of (by decide +kernel)) (GW_app (wg_k_has0) (GW_nil)))
theorem i_f_extra_X9 : ∀ w ∈ wsX90, w ∈ w_f_extra := fun _ h => List.mem_append_right _ (List.mem_append_left _ h)
theorem g_f_extra_k_has0_103 : GoodIn w_f_extra (wsV RX9 103 RX1 yX1_has w_k_has0) := goodIn_app (gi_left (goodIn_of _ (by decide +kernel))) (fun w h => ⟨List.mem_append_right _ (List.mem_append_right _ (List.mem_append_left _ h)), wg_k_has0 w h⟩)
set_option maxHeartbeats 4000000 in
set_option maxRecDepth 100000 in
theorem f_extra (l : Launch) (E : gE) (h : Nat) (h_net : Nat) (h_stations : Value) (h_clock : Value) (h_rules : Value) (h_tables : Value) (h_timing : Value) (h_race : Value) (h_tracer : Value) (h_shown : Value) (h_trial : Value) (n_kinds : Value) (n_inputs : Value) (n_tables : Value) (n_sizes : Value) (n_extras : Value) (n_sources : Value) (n_takers : Value) (n_firstTaker : Value) (n_order : Value) (n_ordered : Value) (n_tally : Value) (n_behind : Value) (p1 : Int32) (p2 : Int32) : CtI l E yX9_extra w_f_extra ({ frames := 1, cells := 0, slots := 0, locals := 21 }) [(h, .inr (9, [.ref h_net, h_stations, h_clock, h_rules, h_tables, h_timing, h_race, h_tracer, h_shown, h_trial, .int 0, .int 0])), (h_net, .inr (1, [.int 0, n_kinds, n_inputs, n_tables, n_sizes, n_extras, n_sources, n_takers, n_firstTaker, n_order, n_ordered, n_tally, n_behind]))] [.ref h, .int p1, .int p2] (fun r w => r = (-1) ∧ w = []) := by
  refine CtI.of (cc := cX9_extra) (maxL := 4) (rt := (some .int)) (by decide) rfl (Nat.le_of_ble_eq_true rfl) ?_
  intro p e s m below meth c A B ls hl
  obtain ⟨hx, hb, hml, hr, hlk, hin, hts, hown, hK, hN, hA, hP, hD, hS⟩ := B
  have hown : s.vm.findClass RX9 = some m.cls := hown
  have hto : ∀ w ∈ wo_f_extra, w.before _ s = true := fun w h => hts w (List.mem_append_left _ h)
  have hl : lv_has ls 4 [(0, .ref h), (1, .int p1), (2, .int p2)] := hl
  obtain ⟨H, hHe⟩ : ∃ H, H = s.heap := ⟨_, rfl⟩
  have hS : va_S A s.heap H [] := by rw [hHe]; exact hS
  have hP : va_P E.1 vwCl [(h, .inr (9, [.ref h_net, h_stations, h_clock, h_rules, h_tables, h_timing, h_race, h_tracer, h_shown, h_trial, .int 0, .int 0])), (h_net, .inr (1, [.int 0, n_kinds, n_inputs, n_tables, n_sizes, n_extras, n_sources, n_takers, n_firstTaker, n_order, n_ordered, n_tally, n_behind]))] H := by rw [hHe]; exact hP
  refine W_heap hHe ?_
  refine lv_aload_n hx hb dX9_extra_0 rfl (lv_at hl 0 rfl) ?_
  refine va_get (D := E.1) (ci := 9) (v := .ref h_net) (own := RX9) (C := RX9) (T := TX9) (N := 12) hx hb hts i_f_extra_X9 hown hK hP 0 rfl rfl 0 (by decide) (hto (.fieldLink RX9 12 "TimingHouse" "net" "LTimingHouse$Net;") (by decide +kernel)) (fun _ h9 => h9) rfl dX9_extra_1 ?_
  refine lv_iload_n hx hb dX9_extra_4 rfl (lv_at hl 1 rfl) ?_
  refine call_i (va_runV (As := [.int p1]) (rest := []) ⟨hx, hb, hml, hown, hts⟩ (k_has0 l E h_net (n_kinds) (n_inputs) (n_tables) (n_sizes) (n_extras) (n_sources) (n_takers) (n_firstTaker) (n_order) (n_ordered) (n_tally) (n_behind) p1 H.size) (cwV 1 hts g_f_extra_k_has0_103 rfl rfl rfl (by decide +kernel) ⟨Nat.le_of_ble_eq_true rfl, Nat.le_of_ble_eq_true rfl⟩) (pre_V hK hN (hP.sub (ws' := [(h_net, .inr (1, [.int 0, n_kinds, n_inputs, n_tables, n_sizes, n_extras, n_sources, n_takers, n_firstTaker, n_order, n_ordered, n_tally, n_behind]))]) [1] rfl) (hD.sub (ws' := [(h_net, .inr (1, [.int 0, n_kinds, n_inputs, n_tables, n_sizes, n_extras, n_sources, n_takers, n_firstTaker, n_order, n_ordered, n_tally, n_behind]))]) [1] (by decide) rfl) (ci := 1) (q0 := 0) rfl rfl) rfl rfl hl.1 rfl (lv_room (Nat.le_of_ble_eq_true rfl)) dX9_extra_5 ⟨Nat.le_of_ble_eq_true rfl, Nat.le_of_ble_eq_true rfl⟩) hP hD hS hA [1] [0] (wr := [(h, .inr (9, [.ref h_net, h_stations, h_clock, h_rules, h_tables, h_timing, h_race, h_tracer, h_shown, h_trial, .int 0, .int 0]))]) rfl rfl (by decide) (by decide) (fun r_1 w H locs hw hP hD hS => ?_)
  obtain ⟨rfl, rfl⟩ := hw
  have hP : va_P E.1 vwCl [(h, .inr (9, [.ref h_net, h_stations, h_clock, h_rules, h_tables, h_timing, h_race, h_tracer, h_shown, h_trial, .int 0, .int 0])), (h_net, .inr (1, [.int 0, n_kinds, n_inputs, n_tables, n_sizes, n_extras, n_sources, n_takers, n_firstTaker, n_order, n_ordered, n_tally, n_behind]))] H := hP
  have hD : va_D A [(h, .inr (9, [.ref h_net, h_stations, h_clock, h_rules, h_tables, h_timing, h_race, h_tracer, h_shown, h_trial, .int 0, .int 0])), (h_net, .inr (1, [.int 0, n_kinds, n_inputs, n_tables, n_sizes, n_extras, n_sources, n_takers, n_firstTaker, n_order, n_ordered, n_tally, n_behind]))] := hD
  refine lv_if_eq (tgt := 22) hx hb dX9_extra_8 (by decide) (fun c_2 => ?_) (fun c_2 => ?_)
  · refine lv_iconst (v := (-1)) hx hb dX9_extra_22 (by decide) ?_
    exact ret_i hx hb hr hlk (hP.sub (ws' := []) [] rfl) (hD.sub (ws' := []) [] (by decide) rfl) hS rfl dX9_extra_23 (Nat.le_of_ble_eq_true rfl) (Nat.le_of_ble_eq_true rfl) ⟨rfl, rfl⟩
  · exact absurd c_2 (by decide)
theorem dX9_size_0 : decode cX9_size 0 = .ok (.aload_n 0, 1) := by decide +kernel
theorem dX9_size_1 : decode cX9_size 1 = .ok (.getfield 12, 3) := by decide +kernel
theorem dX9_size_4 : decode cX9_size 4 = .ok (.iload_n 1, 1) := by decide +kernel
theorem dX9_size_5 : decode cX9_size 5 = .ok (.invokevirtual 103, 3) := by decide +kernel
theorem dX9_size_8 : decode cX9_size 8 = .ok (.ifCond .eq 12, 3) := by decide +kernel
theorem dX9_size_20 : decode cX9_size 20 = .ok (.iconst (-1), 1) := by decide +kernel
theorem dX9_size_21 : decode cX9_size 21 = .ok (.ireturn, 1) := by decide +kernel
def wo_f_size : List Cond := [.code yX9_size cX9_size 4 (some .int), .fieldLink RX9 12 "TimingHouse" "net" "LTimingHouse$Net;", .methodLink RX9 103 yX1_has, .instanceMethod yX1_has, .selects RX1 yX1_has yX1_has, .initialized RX1]
def wr_f_size : List Cond := (wsX90 ++ (w_k_has0 ++ ([])))
def w_f_size : List Cond := wo_f_size ++ wr_f_size
theorem wg_f_size : GW w_f_size := GW_app (GW_of (by decide +kernel)) (GW_app (GW_of (by decide +kernel)) (GW_app (wg_k_has0) (GW_nil)))
theorem i_f_size_X9 : ∀ w ∈ wsX90, w ∈ w_f_size := fun _ h => List.mem_append_right _ (List.mem_append_left _ h)
theorem g_f_size_k_has0_103 : GoodIn w_f_size (wsV RX9 103 RX1 yX1_has w_k_has0) := goodIn_app (gi_left (goodIn_of _ (by decide +kernel))) (fun w h => ⟨List.mem_append_right _ (List.mem_append_right _ (List.mem_append_left _ h)), wg_k_has0 w h⟩)
set_option maxHeartbeats 4000000 in
set_option maxRecDepth 100000 in
theorem f_size (l : Launch) (E : gE) (h : Nat) (h_net : Nat) (h_stations : Value) (h_clock : Value) (h_rules : Value) (h_tables : Value) (h_timing : Value) (h_race : Value) (h_tracer : Value) (h_shown : Value) (h_trial : Value) (n_kinds : Value) (n_inputs : Value) (n_tables : Value) (n_sizes : Value) (n_extras : Value) (n_sources : Value) (n_takers : Value) (n_firstTaker : Value) (n_order : Value) (n_ordered : Value) (n_tally : Value) (n_behind : Value) (p1 : Int32) (p2 : Int32) : CtI l E yX9_size w_f_size ({ frames := 1, cells := 0, slots := 0, locals := 21 }) [(h, .inr (9, [.ref h_net, h_stations, h_clock, h_rules, h_tables, h_timing, h_race, h_tracer, h_shown, h_trial, .int 0, .int 0])), (h_net, .inr (1, [.int 0, n_kinds, n_inputs, n_tables, n_sizes, n_extras, n_sources, n_takers, n_firstTaker, n_order, n_ordered, n_tally, n_behind]))] [.ref h, .int p1, .int p2] (fun r w => r = (-1) ∧ w = []) := by
  refine CtI.of (cc := cX9_size) (maxL := 4) (rt := (some .int)) (by decide) rfl (Nat.le_of_ble_eq_true rfl) ?_
  intro p e s m below meth c A B ls hl
  obtain ⟨hx, hb, hml, hr, hlk, hin, hts, hown, hK, hN, hA, hP, hD, hS⟩ := B
  have hown : s.vm.findClass RX9 = some m.cls := hown
  have hto : ∀ w ∈ wo_f_size, w.before _ s = true := fun w h => hts w (List.mem_append_left _ h)
  have hl : lv_has ls 4 [(0, .ref h), (1, .int p1), (2, .int p2)] := hl
  obtain ⟨H, hHe⟩ : ∃ H, H = s.heap := ⟨_, rfl⟩
  have hS : va_S A s.heap H [] := by rw [hHe]; exact hS
  have hP : va_P E.1 vwCl [(h, .inr (9, [.ref h_net, h_stations, h_clock, h_rules, h_tables, h_timing, h_race, h_tracer, h_shown, h_trial, .int 0, .int 0])), (h_net, .inr (1, [.int 0, n_kinds, n_inputs, n_tables, n_sizes, n_extras, n_sources, n_takers, n_firstTaker, n_order, n_ordered, n_tally, n_behind]))] H := by rw [hHe]; exact hP
  refine W_heap hHe ?_
  refine lv_aload_n hx hb dX9_size_0 rfl (lv_at hl 0 rfl) ?_
  refine va_get (D := E.1) (ci := 9) (v := .ref h_net) (own := RX9) (C := RX9) (T := TX9) (N := 12) hx hb hts i_f_size_X9 hown hK hP 0 rfl rfl 0 (by decide) (hto (.fieldLink RX9 12 "TimingHouse" "net" "LTimingHouse$Net;") (by decide +kernel)) (fun _ h9 => h9) rfl dX9_size_1 ?_
  refine lv_iload_n hx hb dX9_size_4 rfl (lv_at hl 1 rfl) ?_
  refine call_i (va_runV (As := [.int p1]) (rest := []) ⟨hx, hb, hml, hown, hts⟩ (k_has0 l E h_net (n_kinds) (n_inputs) (n_tables) (n_sizes) (n_extras) (n_sources) (n_takers) (n_firstTaker) (n_order) (n_ordered) (n_tally) (n_behind) p1 H.size) (cwV 1 hts g_f_size_k_has0_103 rfl rfl rfl (by decide +kernel) ⟨Nat.le_of_ble_eq_true rfl, Nat.le_of_ble_eq_true rfl⟩) (pre_V hK hN (hP.sub (ws' := [(h_net, .inr (1, [.int 0, n_kinds, n_inputs, n_tables, n_sizes, n_extras, n_sources, n_takers, n_firstTaker, n_order, n_ordered, n_tally, n_behind]))]) [1] rfl) (hD.sub (ws' := [(h_net, .inr (1, [.int 0, n_kinds, n_inputs, n_tables, n_sizes, n_extras, n_sources, n_takers, n_firstTaker, n_order, n_ordered, n_tally, n_behind]))]) [1] (by decide) rfl) (ci := 1) (q0 := 0) rfl rfl) rfl rfl hl.1 rfl (lv_room (Nat.le_of_ble_eq_true rfl)) dX9_size_5 ⟨Nat.le_of_ble_eq_true rfl, Nat.le_of_ble_eq_true rfl⟩) hP hD hS hA [1] [0] (wr := [(h, .inr (9, [.ref h_net, h_stations, h_clock, h_rules, h_tables, h_timing, h_race, h_tracer, h_shown, h_trial, .int 0, .int 0]))]) rfl rfl (by decide) (by decide) (fun r_1 w H locs hw hP hD hS => ?_)
  obtain ⟨rfl, rfl⟩ := hw
  have hP : va_P E.1 vwCl [(h, .inr (9, [.ref h_net, h_stations, h_clock, h_rules, h_tables, h_timing, h_race, h_tracer, h_shown, h_trial, .int 0, .int 0])), (h_net, .inr (1, [.int 0, n_kinds, n_inputs, n_tables, n_sizes, n_extras, n_sources, n_takers, n_firstTaker, n_order, n_ordered, n_tally, n_behind]))] H := hP
  have hD : va_D A [(h, .inr (9, [.ref h_net, h_stations, h_clock, h_rules, h_tables, h_timing, h_race, h_tracer, h_shown, h_trial, .int 0, .int 0])), (h_net, .inr (1, [.int 0, n_kinds, n_inputs, n_tables, n_sizes, n_extras, n_sources, n_takers, n_firstTaker, n_order, n_ordered, n_tally, n_behind]))] := hD
  refine lv_if_eq (tgt := 20) hx hb dX9_size_8 (by decide) (fun c_2 => ?_) (fun c_2 => ?_)
  · refine lv_iconst (v := (-1)) hx hb dX9_size_20 (by decide) ?_
    exact ret_i hx hb hr hlk (hP.sub (ws' := []) [] rfl) (hD.sub (ws' := []) [] (by decide) rfl) hS rfl dX9_size_21 (Nat.le_of_ble_eq_true rfl) (Nat.le_of_ble_eq_true rfl) ⟨rfl, rfl⟩
  · exact absurd c_2 (by decide)
theorem dX9_port_0 : decode cX9_port 0 = .ok (.aload_n 0, 1) := by decide +kernel
theorem dX9_port_1 : decode cX9_port 1 = .ok (.getfield 12, 3) := by decide +kernel
theorem dX9_port_4 : decode cX9_port 4 = .ok (.iload_n 1, 1) := by decide +kernel
theorem dX9_port_5 : decode cX9_port 5 = .ok (.invokevirtual 103, 3) := by decide +kernel
theorem dX9_port_8 : decode cX9_port 8 = .ok (.ifCond .eq 34, 3) := by decide +kernel
theorem dX9_port_42 : decode cX9_port 42 = .ok (.iconst (-1), 1) := by decide +kernel
theorem dX9_port_43 : decode cX9_port 43 = .ok (.ireturn, 1) := by decide +kernel
def wo_f_port : List Cond := [.code yX9_port cX9_port 5 (some .int), .fieldLink RX9 12 "TimingHouse" "net" "LTimingHouse$Net;", .methodLink RX9 103 yX1_has, .instanceMethod yX1_has, .selects RX1 yX1_has yX1_has, .initialized RX1]
def wr_f_port : List Cond := (wsX90 ++ (w_k_has0 ++ ([])))
def w_f_port : List Cond := wo_f_port ++ wr_f_port
theorem wg_f_port : GW w_f_port := GW_app (GW_of (by decide +kernel)) (GW_app (GW_of (by decide +kernel)) (GW_app (wg_k_has0) (GW_nil)))
theorem i_f_port_X9 : ∀ w ∈ wsX90, w ∈ w_f_port := fun _ h => List.mem_append_right _ (List.mem_append_left _ h)
theorem g_f_port_k_has0_103 : GoodIn w_f_port (wsV RX9 103 RX1 yX1_has w_k_has0) := goodIn_app (gi_left (goodIn_of _ (by decide +kernel))) (fun w h => ⟨List.mem_append_right _ (List.mem_append_right _ (List.mem_append_left _ h)), wg_k_has0 w h⟩)
set_option maxHeartbeats 4000000 in
set_option maxRecDepth 100000 in
theorem f_port (l : Launch) (E : gE) (h : Nat) (h_net : Nat) (h_stations : Value) (h_clock : Value) (h_rules : Value) (h_tables : Value) (h_timing : Value) (h_race : Value) (h_tracer : Value) (h_shown : Value) (h_trial : Value) (n_kinds : Value) (n_inputs : Value) (n_tables : Value) (n_sizes : Value) (n_extras : Value) (n_sources : Value) (n_takers : Value) (n_firstTaker : Value) (n_order : Value) (n_ordered : Value) (n_tally : Value) (n_behind : Value) (p1 : Int32) (p2 : Int32) (p3 : Int32) (p4 : Int32) : CtI l E yX9_port w_f_port ({ frames := 1, cells := 0, slots := 0, locals := 21 }) [(h, .inr (9, [.ref h_net, h_stations, h_clock, h_rules, h_tables, h_timing, h_race, h_tracer, h_shown, h_trial, .int 0, .int 0])), (h_net, .inr (1, [.int 0, n_kinds, n_inputs, n_tables, n_sizes, n_extras, n_sources, n_takers, n_firstTaker, n_order, n_ordered, n_tally, n_behind]))] [.ref h, .int p1, .int p2, .int p3, .int p4] (fun r w => r = (-1) ∧ w = []) := by
  refine CtI.of (cc := cX9_port) (maxL := 5) (rt := (some .int)) (by decide) rfl (Nat.le_of_ble_eq_true rfl) ?_
  intro p e s m below meth c A B ls hl
  obtain ⟨hx, hb, hml, hr, hlk, hin, hts, hown, hK, hN, hA, hP, hD, hS⟩ := B
  have hown : s.vm.findClass RX9 = some m.cls := hown
  have hto : ∀ w ∈ wo_f_port, w.before _ s = true := fun w h => hts w (List.mem_append_left _ h)
  have hl : lv_has ls 5 [(0, .ref h), (1, .int p1), (2, .int p2), (3, .int p3), (4, .int p4)] := hl
  obtain ⟨H, hHe⟩ : ∃ H, H = s.heap := ⟨_, rfl⟩
  have hS : va_S A s.heap H [] := by rw [hHe]; exact hS
  have hP : va_P E.1 vwCl [(h, .inr (9, [.ref h_net, h_stations, h_clock, h_rules, h_tables, h_timing, h_race, h_tracer, h_shown, h_trial, .int 0, .int 0])), (h_net, .inr (1, [.int 0, n_kinds, n_inputs, n_tables, n_sizes, n_extras, n_sources, n_takers, n_firstTaker, n_order, n_ordered, n_tally, n_behind]))] H := by rw [hHe]; exact hP
  refine W_heap hHe ?_
  refine lv_aload_n hx hb dX9_port_0 rfl (lv_at hl 0 rfl) ?_
  refine va_get (D := E.1) (ci := 9) (v := .ref h_net) (own := RX9) (C := RX9) (T := TX9) (N := 12) hx hb hts i_f_port_X9 hown hK hP 0 rfl rfl 0 (by decide) (hto (.fieldLink RX9 12 "TimingHouse" "net" "LTimingHouse$Net;") (by decide +kernel)) (fun _ h9 => h9) rfl dX9_port_1 ?_
  refine lv_iload_n hx hb dX9_port_4 rfl (lv_at hl 1 rfl) ?_
  refine call_i (va_runV (As := [.int p1]) (rest := []) ⟨hx, hb, hml, hown, hts⟩ (k_has0 l E h_net (n_kinds) (n_inputs) (n_tables) (n_sizes) (n_extras) (n_sources) (n_takers) (n_firstTaker) (n_order) (n_ordered) (n_tally) (n_behind) p1 H.size) (cwV 1 hts g_f_port_k_has0_103 rfl rfl rfl (by decide +kernel) ⟨Nat.le_of_ble_eq_true rfl, Nat.le_of_ble_eq_true rfl⟩) (pre_V hK hN (hP.sub (ws' := [(h_net, .inr (1, [.int 0, n_kinds, n_inputs, n_tables, n_sizes, n_extras, n_sources, n_takers, n_firstTaker, n_order, n_ordered, n_tally, n_behind]))]) [1] rfl) (hD.sub (ws' := [(h_net, .inr (1, [.int 0, n_kinds, n_inputs, n_tables, n_sizes, n_extras, n_sources, n_takers, n_firstTaker, n_order, n_ordered, n_tally, n_behind]))]) [1] (by decide) rfl) (ci := 1) (q0 := 0) rfl rfl) rfl rfl hl.1 rfl (lv_room (Nat.le_of_ble_eq_true rfl)) dX9_port_5 ⟨Nat.le_of_ble_eq_true rfl, Nat.le_of_ble_eq_true rfl⟩) hP hD hS hA [1] [0] (wr := [(h, .inr (9, [.ref h_net, h_stations, h_clock, h_rules, h_tables, h_timing, h_race, h_tracer, h_shown, h_trial, .int 0, .int 0]))]) rfl rfl (by decide) (by decide) (fun r_1 w H locs hw hP hD hS => ?_)
  obtain ⟨rfl, rfl⟩ := hw
  have hP : va_P E.1 vwCl [(h, .inr (9, [.ref h_net, h_stations, h_clock, h_rules, h_tables, h_timing, h_race, h_tracer, h_shown, h_trial, .int 0, .int 0])), (h_net, .inr (1, [.int 0, n_kinds, n_inputs, n_tables, n_sizes, n_extras, n_sources, n_takers, n_firstTaker, n_order, n_ordered, n_tally, n_behind]))] H := hP
  have hD : va_D A [(h, .inr (9, [.ref h_net, h_stations, h_clock, h_rules, h_tables, h_timing, h_race, h_tracer, h_shown, h_trial, .int 0, .int 0])), (h_net, .inr (1, [.int 0, n_kinds, n_inputs, n_tables, n_sizes, n_extras, n_sources, n_takers, n_firstTaker, n_order, n_ordered, n_tally, n_behind]))] := hD
  refine lv_if_eq (tgt := 42) hx hb dX9_port_8 (by decide) (fun c_2 => ?_) (fun c_2 => ?_)
  · refine lv_iconst (v := (-1)) hx hb dX9_port_42 (by decide) ?_
    exact ret_i hx hb hr hlk (hP.sub (ws' := []) [] rfl) (hD.sub (ws' := []) [] (by decide) rfl) hS rfl dX9_port_43 (Nat.le_of_ble_eq_true rfl) (Nat.le_of_ble_eq_true rfl) ⟨rfl, rfl⟩
  · exact absurd c_2 (by decide)
theorem dX9_target_0 : decode cX9_target 0 = .ok (.aload_n 0, 1) := by decide +kernel
theorem dX9_target_1 : decode cX9_target 1 = .ok (.getfield 12, 3) := by decide +kernel
theorem dX9_target_4 : decode cX9_target 4 = .ok (.iload_n 1, 1) := by decide +kernel
theorem dX9_target_5 : decode cX9_target 5 = .ok (.invokevirtual 103, 3) := by decide +kernel
theorem dX9_target_8 : decode cX9_target 8 = .ok (.ifCond .eq 41, 3) := by decide +kernel
theorem dX9_target_49 : decode cX9_target 49 = .ok (.iconst (-1), 1) := by decide +kernel
theorem dX9_target_50 : decode cX9_target 50 = .ok (.ireturn, 1) := by decide +kernel
def wo_f_target : List Cond := [.code yX9_target cX9_target 5 (some .int), .fieldLink RX9 12 "TimingHouse" "net" "LTimingHouse$Net;", .methodLink RX9 103 yX1_has, .instanceMethod yX1_has, .selects RX1 yX1_has yX1_has, .initialized RX1]
def wr_f_target : List Cond := (wsX90 ++ (w_k_has0 ++ ([])))
def w_f_target : List Cond := wo_f_target ++ wr_f_target
theorem wg_f_target : GW w_f_target := GW_app (GW_of (by decide +kernel)) (GW_app (GW_of (by decide +kernel)) (GW_app (wg_k_has0) (GW_nil)))
theorem i_f_target_X9 : ∀ w ∈ wsX90, w ∈ w_f_target := fun _ h => List.mem_append_right _ (List.mem_append_left _ h)
theorem g_f_target_k_has0_103 : GoodIn w_f_target (wsV RX9 103 RX1 yX1_has w_k_has0) := goodIn_app (gi_left (goodIn_of _ (by decide +kernel))) (fun w h => ⟨List.mem_append_right _ (List.mem_append_right _ (List.mem_append_left _ h)), wg_k_has0 w h⟩)
set_option maxHeartbeats 4000000 in
set_option maxRecDepth 100000 in
theorem f_target (l : Launch) (E : gE) (h : Nat) (h_net : Nat) (h_stations : Value) (h_clock : Value) (h_rules : Value) (h_tables : Value) (h_timing : Value) (h_race : Value) (h_tracer : Value) (h_shown : Value) (h_trial : Value) (n_kinds : Value) (n_inputs : Value) (n_tables : Value) (n_sizes : Value) (n_extras : Value) (n_sources : Value) (n_takers : Value) (n_firstTaker : Value) (n_order : Value) (n_ordered : Value) (n_tally : Value) (n_behind : Value) (p1 : Int32) (p2 : Int32) (p3 : Int32) (p4 : Int32) : CtI l E yX9_target w_f_target ({ frames := 1, cells := 0, slots := 0, locals := 21 }) [(h, .inr (9, [.ref h_net, h_stations, h_clock, h_rules, h_tables, h_timing, h_race, h_tracer, h_shown, h_trial, .int 0, .int 0])), (h_net, .inr (1, [.int 0, n_kinds, n_inputs, n_tables, n_sizes, n_extras, n_sources, n_takers, n_firstTaker, n_order, n_ordered, n_tally, n_behind]))] [.ref h, .int p1, .int p2, .int p3, .int p4] (fun r w => r = (-1) ∧ w = []) := by
  refine CtI.of (cc := cX9_target) (maxL := 5) (rt := (some .int)) (by decide) rfl (Nat.le_of_ble_eq_true rfl) ?_
  intro p e s m below meth c A B ls hl
  obtain ⟨hx, hb, hml, hr, hlk, hin, hts, hown, hK, hN, hA, hP, hD, hS⟩ := B
  have hown : s.vm.findClass RX9 = some m.cls := hown
  have hto : ∀ w ∈ wo_f_target, w.before _ s = true := fun w h => hts w (List.mem_append_left _ h)
  have hl : lv_has ls 5 [(0, .ref h), (1, .int p1), (2, .int p2), (3, .int p3), (4, .int p4)] := hl
  obtain ⟨H, hHe⟩ : ∃ H, H = s.heap := ⟨_, rfl⟩
  have hS : va_S A s.heap H [] := by rw [hHe]; exact hS
  have hP : va_P E.1 vwCl [(h, .inr (9, [.ref h_net, h_stations, h_clock, h_rules, h_tables, h_timing, h_race, h_tracer, h_shown, h_trial, .int 0, .int 0])), (h_net, .inr (1, [.int 0, n_kinds, n_inputs, n_tables, n_sizes, n_extras, n_sources, n_takers, n_firstTaker, n_order, n_ordered, n_tally, n_behind]))] H := by rw [hHe]; exact hP
  refine W_heap hHe ?_
  refine lv_aload_n hx hb dX9_target_0 rfl (lv_at hl 0 rfl) ?_
  refine va_get (D := E.1) (ci := 9) (v := .ref h_net) (own := RX9) (C := RX9) (T := TX9) (N := 12) hx hb hts i_f_target_X9 hown hK hP 0 rfl rfl 0 (by decide) (hto (.fieldLink RX9 12 "TimingHouse" "net" "LTimingHouse$Net;") (by decide +kernel)) (fun _ h9 => h9) rfl dX9_target_1 ?_
  refine lv_iload_n hx hb dX9_target_4 rfl (lv_at hl 1 rfl) ?_
  refine call_i (va_runV (As := [.int p1]) (rest := []) ⟨hx, hb, hml, hown, hts⟩ (k_has0 l E h_net (n_kinds) (n_inputs) (n_tables) (n_sizes) (n_extras) (n_sources) (n_takers) (n_firstTaker) (n_order) (n_ordered) (n_tally) (n_behind) p1 H.size) (cwV 1 hts g_f_target_k_has0_103 rfl rfl rfl (by decide +kernel) ⟨Nat.le_of_ble_eq_true rfl, Nat.le_of_ble_eq_true rfl⟩) (pre_V hK hN (hP.sub (ws' := [(h_net, .inr (1, [.int 0, n_kinds, n_inputs, n_tables, n_sizes, n_extras, n_sources, n_takers, n_firstTaker, n_order, n_ordered, n_tally, n_behind]))]) [1] rfl) (hD.sub (ws' := [(h_net, .inr (1, [.int 0, n_kinds, n_inputs, n_tables, n_sizes, n_extras, n_sources, n_takers, n_firstTaker, n_order, n_ordered, n_tally, n_behind]))]) [1] (by decide) rfl) (ci := 1) (q0 := 0) rfl rfl) rfl rfl hl.1 rfl (lv_room (Nat.le_of_ble_eq_true rfl)) dX9_target_5 ⟨Nat.le_of_ble_eq_true rfl, Nat.le_of_ble_eq_true rfl⟩) hP hD hS hA [1] [0] (wr := [(h, .inr (9, [.ref h_net, h_stations, h_clock, h_rules, h_tables, h_timing, h_race, h_tracer, h_shown, h_trial, .int 0, .int 0]))]) rfl rfl (by decide) (by decide) (fun r_1 w H locs hw hP hD hS => ?_)
  obtain ⟨rfl, rfl⟩ := hw
  have hP : va_P E.1 vwCl [(h, .inr (9, [.ref h_net, h_stations, h_clock, h_rules, h_tables, h_timing, h_race, h_tracer, h_shown, h_trial, .int 0, .int 0])), (h_net, .inr (1, [.int 0, n_kinds, n_inputs, n_tables, n_sizes, n_extras, n_sources, n_takers, n_firstTaker, n_order, n_ordered, n_tally, n_behind]))] H := hP
  have hD : va_D A [(h, .inr (9, [.ref h_net, h_stations, h_clock, h_rules, h_tables, h_timing, h_race, h_tracer, h_shown, h_trial, .int 0, .int 0])), (h_net, .inr (1, [.int 0, n_kinds, n_inputs, n_tables, n_sizes, n_extras, n_sources, n_takers, n_firstTaker, n_order, n_ordered, n_tally, n_behind]))] := hD
  refine lv_if_eq (tgt := 49) hx hb dX9_target_8 (by decide) (fun c_2 => ?_) (fun c_2 => ?_)
  · refine lv_iconst (v := (-1)) hx hb dX9_target_49 (by decide) ?_
    exact ret_i hx hb hr hlk (hP.sub (ws' := []) [] rfl) (hD.sub (ws' := []) [] (by decide) rfl) hS rfl dX9_target_50 (Nat.le_of_ble_eq_true rfl) (Nat.le_of_ble_eq_true rfl) ⟨rfl, rfl⟩
  · exact absurd c_2 (by decide)
theorem dX9_about_0 : decode cX9_about 0 = .ok (.aload_n 0, 1) := by decide +kernel
theorem dX9_about_1 : decode cX9_about 1 = .ok (.getfield 12, 3) := by decide +kernel
theorem dX9_about_4 : decode cX9_about 4 = .ok (.iload_n 1, 1) := by decide +kernel
theorem dX9_about_5 : decode cX9_about 5 = .ok (.invokevirtual 103, 3) := by decide +kernel
theorem dX9_about_8 : decode cX9_about 8 = .ok (.ifCond .ne 5, 3) := by decide +kernel
theorem dX9_about_11 : decode cX9_about 11 = .ok (.iconst (-1), 1) := by decide +kernel
theorem dX9_about_12 : decode cX9_about 12 = .ok (.ireturn, 1) := by decide +kernel
def wo_f_about : List Cond := [.code yX9_about cX9_about 3 (some .int), .fieldLink RX9 12 "TimingHouse" "net" "LTimingHouse$Net;", .methodLink RX9 103 yX1_has, .instanceMethod yX1_has, .selects RX1 yX1_has yX1_has, .initialized RX1]
def wr_f_about : List Cond := (wsX90 ++ (w_k_has0 ++ ([])))
def w_f_about : List Cond := wo_f_about ++ wr_f_about
theorem wg_f_about : GW w_f_about := GW_app (GW_of (by decide +kernel)) (GW_app (GW_of (by decide +kernel)) (GW_app (wg_k_has0) (GW_nil)))
theorem i_f_about_X9 : ∀ w ∈ wsX90, w ∈ w_f_about := fun _ h => List.mem_append_right _ (List.mem_append_left _ h)
theorem g_f_about_k_has0_103 : GoodIn w_f_about (wsV RX9 103 RX1 yX1_has w_k_has0) := goodIn_app (gi_left (goodIn_of _ (by decide +kernel))) (fun w h => ⟨List.mem_append_right _ (List.mem_append_right _ (List.mem_append_left _ h)), wg_k_has0 w h⟩)
set_option maxHeartbeats 4000000 in
set_option maxRecDepth 100000 in
theorem f_about (l : Launch) (E : gE) (h : Nat) (h_net : Nat) (h_stations : Value) (h_clock : Value) (h_rules : Value) (h_tables : Value) (h_timing : Value) (h_race : Value) (h_tracer : Value) (h_shown : Value) (h_trial : Value) (n_kinds : Value) (n_inputs : Value) (n_tables : Value) (n_sizes : Value) (n_extras : Value) (n_sources : Value) (n_takers : Value) (n_firstTaker : Value) (n_order : Value) (n_ordered : Value) (n_tally : Value) (n_behind : Value) (p1 : Int32) (p2 : Int32) : CtI l E yX9_about w_f_about ({ frames := 1, cells := 0, slots := 0, locals := 21 }) [(h, .inr (9, [.ref h_net, h_stations, h_clock, h_rules, h_tables, h_timing, h_race, h_tracer, h_shown, h_trial, .int 0, .int 0])), (h_net, .inr (1, [.int 0, n_kinds, n_inputs, n_tables, n_sizes, n_extras, n_sources, n_takers, n_firstTaker, n_order, n_ordered, n_tally, n_behind]))] [.ref h, .int p1, .int p2] (fun r w => r = (-1) ∧ w = []) := by
  refine CtI.of (cc := cX9_about) (maxL := 3) (rt := (some .int)) (by decide) rfl (Nat.le_of_ble_eq_true rfl) ?_
  intro p e s m below meth c A B ls hl
  obtain ⟨hx, hb, hml, hr, hlk, hin, hts, hown, hK, hN, hA, hP, hD, hS⟩ := B
  have hown : s.vm.findClass RX9 = some m.cls := hown
  have hto : ∀ w ∈ wo_f_about, w.before _ s = true := fun w h => hts w (List.mem_append_left _ h)
  have hl : lv_has ls 3 [(0, .ref h), (1, .int p1), (2, .int p2)] := hl
  obtain ⟨H, hHe⟩ : ∃ H, H = s.heap := ⟨_, rfl⟩
  have hS : va_S A s.heap H [] := by rw [hHe]; exact hS
  have hP : va_P E.1 vwCl [(h, .inr (9, [.ref h_net, h_stations, h_clock, h_rules, h_tables, h_timing, h_race, h_tracer, h_shown, h_trial, .int 0, .int 0])), (h_net, .inr (1, [.int 0, n_kinds, n_inputs, n_tables, n_sizes, n_extras, n_sources, n_takers, n_firstTaker, n_order, n_ordered, n_tally, n_behind]))] H := by rw [hHe]; exact hP
  refine W_heap hHe ?_
  refine lv_aload_n hx hb dX9_about_0 rfl (lv_at hl 0 rfl) ?_
  refine va_get (D := E.1) (ci := 9) (v := .ref h_net) (own := RX9) (C := RX9) (T := TX9) (N := 12) hx hb hts i_f_about_X9 hown hK hP 0 rfl rfl 0 (by decide) (hto (.fieldLink RX9 12 "TimingHouse" "net" "LTimingHouse$Net;") (by decide +kernel)) (fun _ h9 => h9) rfl dX9_about_1 ?_
  refine lv_iload_n hx hb dX9_about_4 rfl (lv_at hl 1 rfl) ?_
  refine call_i (va_runV (As := [.int p1]) (rest := []) ⟨hx, hb, hml, hown, hts⟩ (k_has0 l E h_net (n_kinds) (n_inputs) (n_tables) (n_sizes) (n_extras) (n_sources) (n_takers) (n_firstTaker) (n_order) (n_ordered) (n_tally) (n_behind) p1 H.size) (cwV 1 hts g_f_about_k_has0_103 rfl rfl rfl (by decide +kernel) ⟨Nat.le_of_ble_eq_true rfl, Nat.le_of_ble_eq_true rfl⟩) (pre_V hK hN (hP.sub (ws' := [(h_net, .inr (1, [.int 0, n_kinds, n_inputs, n_tables, n_sizes, n_extras, n_sources, n_takers, n_firstTaker, n_order, n_ordered, n_tally, n_behind]))]) [1] rfl) (hD.sub (ws' := [(h_net, .inr (1, [.int 0, n_kinds, n_inputs, n_tables, n_sizes, n_extras, n_sources, n_takers, n_firstTaker, n_order, n_ordered, n_tally, n_behind]))]) [1] (by decide) rfl) (ci := 1) (q0 := 0) rfl rfl) rfl rfl hl.1 rfl (lv_room (Nat.le_of_ble_eq_true rfl)) dX9_about_5 ⟨Nat.le_of_ble_eq_true rfl, Nat.le_of_ble_eq_true rfl⟩) hP hD hS hA [1] [0] (wr := [(h, .inr (9, [.ref h_net, h_stations, h_clock, h_rules, h_tables, h_timing, h_race, h_tracer, h_shown, h_trial, .int 0, .int 0]))]) rfl rfl (by decide) (by decide) (fun r_1 w H locs hw hP hD hS => ?_)
  obtain ⟨rfl, rfl⟩ := hw
  have hP : va_P E.1 vwCl [(h, .inr (9, [.ref h_net, h_stations, h_clock, h_rules, h_tables, h_timing, h_race, h_tracer, h_shown, h_trial, .int 0, .int 0])), (h_net, .inr (1, [.int 0, n_kinds, n_inputs, n_tables, n_sizes, n_extras, n_sources, n_takers, n_firstTaker, n_order, n_ordered, n_tally, n_behind]))] H := hP
  have hD : va_D A [(h, .inr (9, [.ref h_net, h_stations, h_clock, h_rules, h_tables, h_timing, h_race, h_tracer, h_shown, h_trial, .int 0, .int 0])), (h_net, .inr (1, [.int 0, n_kinds, n_inputs, n_tables, n_sizes, n_extras, n_sources, n_takers, n_firstTaker, n_order, n_ordered, n_tally, n_behind]))] := hD
  refine lv_if_ne (tgt := 13) hx hb dX9_about_8 (by decide) (fun c_2 => ?_) (fun c_2 => ?_)
  · exact absurd c_2 (by decide)
  · refine lv_iconst (v := (-1)) hx hb dX9_about_11 (by decide) ?_
    exact ret_i hx hb hr hlk (hP.sub (ws' := []) [] rfl) (hD.sub (ws' := []) [] (by decide) rfl) hS rfl dX9_about_12 (Nat.le_of_ble_eq_true rfl) (Nat.le_of_ble_eq_true rfl) ⟨rfl, rfl⟩
theorem dX9_takes_0 : decode cX9_takes 0 = .ok (.aload_n 0, 1) := by decide +kernel
theorem dX9_takes_1 : decode cX9_takes 1 = .ok (.getfield 12, 3) := by decide +kernel
theorem dX9_takes_4 : decode cX9_takes 4 = .ok (.iload_n 1, 1) := by decide +kernel
theorem dX9_takes_5 : decode cX9_takes 5 = .ok (.iload_n 2, 1) := by decide +kernel
theorem dX9_takes_6 : decode cX9_takes 6 = .ok (.invokevirtual 104, 3) := by decide +kernel
theorem dX9_takes_9 : decode cX9_takes 9 = .ok (.ifCond .eq 19, 3) := by decide +kernel
theorem dX9_takes_28 : decode cX9_takes 28 = .ok (.iconst (-1), 1) := by decide +kernel
theorem dX9_takes_29 : decode cX9_takes 29 = .ok (.ireturn, 1) := by decide +kernel
def wo_f_takes : List Cond := [.code yX9_takes cX9_takes 3 (some .int), .fieldLink RX9 12 "TimingHouse" "net" "LTimingHouse$Net;", .methodLink RX9 104 yX1_hasInput, .instanceMethod yX1_hasInput, .selects RX1 yX1_hasInput yX1_hasInput, .initialized RX1]
def wr_f_takes : List Cond := (wsX90 ++ (w_k_hasInput0 ++ ([])))
def w_f_takes : List Cond := wo_f_takes ++ wr_f_takes
theorem wg_f_takes : GW w_f_takes := GW_app (GW_of (by decide +kernel)) (GW_app (GW_of (by decide +kernel)) (GW_app (wg_k_hasInput0) (GW_nil)))
theorem i_f_takes_X9 : ∀ w ∈ wsX90, w ∈ w_f_takes := fun _ h => List.mem_append_right _ (List.mem_append_left _ h)
theorem g_f_takes_k_hasInput0_104 : GoodIn w_f_takes (wsV RX9 104 RX1 yX1_hasInput w_k_hasInput0) := goodIn_app (gi_left (goodIn_of _ (by decide +kernel))) (fun w h => ⟨List.mem_append_right _ (List.mem_append_right _ (List.mem_append_left _ h)), wg_k_hasInput0 w h⟩)
set_option maxHeartbeats 4000000 in
set_option maxRecDepth 100000 in
theorem f_takes (l : Launch) (E : gE) (h : Nat) (h_net : Nat) (h_stations : Value) (h_clock : Value) (h_rules : Value) (h_tables : Value) (h_timing : Value) (h_race : Value) (h_tracer : Value) (h_shown : Value) (h_trial : Value) (n_kinds : Value) (n_inputs : Value) (n_tables : Value) (n_sizes : Value) (n_extras : Value) (n_sources : Value) (n_takers : Value) (n_firstTaker : Value) (n_order : Value) (n_ordered : Value) (n_tally : Value) (n_behind : Value) (p1 : Int32) (p2 : Int32) : CtI l E yX9_takes w_f_takes ({ frames := 2, cells := 0, slots := 0, locals := 43 }) [(h, .inr (9, [.ref h_net, h_stations, h_clock, h_rules, h_tables, h_timing, h_race, h_tracer, h_shown, h_trial, .int 0, .int 0])), (h_net, .inr (1, [.int 0, n_kinds, n_inputs, n_tables, n_sizes, n_extras, n_sources, n_takers, n_firstTaker, n_order, n_ordered, n_tally, n_behind]))] [.ref h, .int p1, .int p2] (fun r w => r = (-1) ∧ w = []) := by
  refine CtI.of (cc := cX9_takes) (maxL := 3) (rt := (some .int)) (by decide) rfl (Nat.le_of_ble_eq_true rfl) ?_
  intro p e s m below meth c A B ls hl
  obtain ⟨hx, hb, hml, hr, hlk, hin, hts, hown, hK, hN, hA, hP, hD, hS⟩ := B
  have hown : s.vm.findClass RX9 = some m.cls := hown
  have hto : ∀ w ∈ wo_f_takes, w.before _ s = true := fun w h => hts w (List.mem_append_left _ h)
  have hl : lv_has ls 3 [(0, .ref h), (1, .int p1), (2, .int p2)] := hl
  obtain ⟨H, hHe⟩ : ∃ H, H = s.heap := ⟨_, rfl⟩
  have hS : va_S A s.heap H [] := by rw [hHe]; exact hS
  have hP : va_P E.1 vwCl [(h, .inr (9, [.ref h_net, h_stations, h_clock, h_rules, h_tables, h_timing, h_race, h_tracer, h_shown, h_trial, .int 0, .int 0])), (h_net, .inr (1, [.int 0, n_kinds, n_inputs, n_tables, n_sizes, n_extras, n_sources, n_takers, n_firstTaker, n_order, n_ordered, n_tally, n_behind]))] H := by rw [hHe]; exact hP
  refine W_heap hHe ?_
  refine lv_aload_n hx hb dX9_takes_0 rfl (lv_at hl 0 rfl) ?_
  refine va_get (D := E.1) (ci := 9) (v := .ref h_net) (own := RX9) (C := RX9) (T := TX9) (N := 12) hx hb hts i_f_takes_X9 hown hK hP 0 rfl rfl 0 (by decide) (hto (.fieldLink RX9 12 "TimingHouse" "net" "LTimingHouse$Net;") (by decide +kernel)) (fun _ h9 => h9) rfl dX9_takes_1 ?_
  refine lv_iload_n hx hb dX9_takes_4 rfl (lv_at hl 1 rfl) ?_
  refine lv_iload_n hx hb dX9_takes_5 rfl (lv_at hl 2 rfl) ?_
  refine call_i (va_runV (As := [.int p1, .int p2]) (rest := []) ⟨hx, hb, hml, hown, hts⟩ (k_hasInput0 l E h_net (n_kinds) (n_inputs) (n_tables) (n_sizes) (n_extras) (n_sources) (n_takers) (n_firstTaker) (n_order) (n_ordered) (n_tally) (n_behind) p1 p2 H.size) (cwV 2 hts g_f_takes_k_hasInput0_104 rfl rfl rfl (by decide +kernel) ⟨Nat.le_of_ble_eq_true rfl, Nat.le_of_ble_eq_true rfl⟩) (pre_V hK hN (hP.sub (ws' := [(h_net, .inr (1, [.int 0, n_kinds, n_inputs, n_tables, n_sizes, n_extras, n_sources, n_takers, n_firstTaker, n_order, n_ordered, n_tally, n_behind]))]) [1] rfl) (hD.sub (ws' := [(h_net, .inr (1, [.int 0, n_kinds, n_inputs, n_tables, n_sizes, n_extras, n_sources, n_takers, n_firstTaker, n_order, n_ordered, n_tally, n_behind]))]) [1] (by decide) rfl) (ci := 1) (q0 := 0) rfl rfl) rfl rfl hl.1 rfl (lv_room (Nat.le_of_ble_eq_true rfl)) dX9_takes_6 ⟨Nat.le_of_ble_eq_true rfl, Nat.le_of_ble_eq_true rfl⟩) hP hD hS hA [1] [0] (wr := [(h, .inr (9, [.ref h_net, h_stations, h_clock, h_rules, h_tables, h_timing, h_race, h_tracer, h_shown, h_trial, .int 0, .int 0]))]) rfl rfl (by decide) (by decide) (fun r_1 w H locs hw hP hD hS => ?_)
  obtain ⟨rfl, rfl⟩ := hw
  have hP : va_P E.1 vwCl [(h, .inr (9, [.ref h_net, h_stations, h_clock, h_rules, h_tables, h_timing, h_race, h_tracer, h_shown, h_trial, .int 0, .int 0])), (h_net, .inr (1, [.int 0, n_kinds, n_inputs, n_tables, n_sizes, n_extras, n_sources, n_takers, n_firstTaker, n_order, n_ordered, n_tally, n_behind]))] H := hP
  have hD : va_D A [(h, .inr (9, [.ref h_net, h_stations, h_clock, h_rules, h_tables, h_timing, h_race, h_tracer, h_shown, h_trial, .int 0, .int 0])), (h_net, .inr (1, [.int 0, n_kinds, n_inputs, n_tables, n_sizes, n_extras, n_sources, n_takers, n_firstTaker, n_order, n_ordered, n_tally, n_behind]))] := hD
  refine lv_if_eq (tgt := 28) hx hb dX9_takes_9 (by decide) (fun c_2 => ?_) (fun c_2 => ?_)
  · refine lv_iconst (v := (-1)) hx hb dX9_takes_28 (by decide) ?_
    exact ret_i hx hb hr hlk (hP.sub (ws' := []) [] rfl) (hD.sub (ws' := []) [] (by decide) rfl) hS rfl dX9_takes_29 (Nat.le_of_ble_eq_true rfl) (Nat.le_of_ble_eq_true rfl) ⟨rfl, rfl⟩
  · exact absurd c_2 (by decide)
theorem dX9_arrival_0 : decode cX9_arrival 0 = .ok (.aload_n 0, 1) := by decide +kernel
theorem dX9_arrival_1 : decode cX9_arrival 1 = .ok (.getfield 12, 3) := by decide +kernel
theorem dX9_arrival_4 : decode cX9_arrival 4 = .ok (.iload_n 1, 1) := by decide +kernel
theorem dX9_arrival_5 : decode cX9_arrival 5 = .ok (.invokevirtual 103, 3) := by decide +kernel
theorem dX9_arrival_8 : decode cX9_arrival 8 = .ok (.ifCond .eq 25, 3) := by decide +kernel
theorem dX9_arrival_33 : decode cX9_arrival 33 = .ok (.ldc 219, 2) := by decide +kernel
theorem dX9_arrival_35 : decode cX9_arrival 35 = .ok (.ireturn, 1) := by decide +kernel
def wo_f_arrival : List Cond := [.code yX9_arrival cX9_arrival 5 (some .int), .fieldLink RX9 12 "TimingHouse" "net" "LTimingHouse$Net;", .methodLink RX9 103 yX1_has, .instanceMethod yX1_has, .selects RX1 yX1_has yX1_has, .initialized RX1, .constant RX9 219 (-1000000)]
def wr_f_arrival : List Cond := (wsX90 ++ (w_k_has0 ++ ([])))
def w_f_arrival : List Cond := wo_f_arrival ++ wr_f_arrival
theorem wg_f_arrival : GW w_f_arrival := GW_app (GW_of (by decide +kernel)) (GW_app (GW_of (by decide +kernel)) (GW_app (wg_k_has0) (GW_nil)))
theorem i_f_arrival_X9 : ∀ w ∈ wsX90, w ∈ w_f_arrival := fun _ h => List.mem_append_right _ (List.mem_append_left _ h)
theorem g_f_arrival_k_has0_103 : GoodIn w_f_arrival (wsV RX9 103 RX1 yX1_has w_k_has0) := goodIn_app (gi_left (goodIn_of _ (by decide +kernel))) (fun w h => ⟨List.mem_append_right _ (List.mem_append_right _ (List.mem_append_left _ h)), wg_k_has0 w h⟩)
set_option maxHeartbeats 4000000 in
set_option maxRecDepth 100000 in
theorem f_arrival (l : Launch) (E : gE) (h : Nat) (h_net : Nat) (h_stations : Value) (h_clock : Value) (h_rules : Value) (h_tables : Value) (h_timing : Value) (h_race : Value) (h_tracer : Value) (h_shown : Value) (h_trial : Value) (n_kinds : Value) (n_inputs : Value) (n_tables : Value) (n_sizes : Value) (n_extras : Value) (n_sources : Value) (n_takers : Value) (n_firstTaker : Value) (n_order : Value) (n_ordered : Value) (n_tally : Value) (n_behind : Value) (p1 : Int32) (p2 : Int32) (p3 : Int32) : CtI l E yX9_arrival w_f_arrival ({ frames := 1, cells := 0, slots := 0, locals := 21 }) [(h, .inr (9, [.ref h_net, h_stations, h_clock, h_rules, h_tables, h_timing, h_race, h_tracer, h_shown, h_trial, .int 0, .int 0])), (h_net, .inr (1, [.int 0, n_kinds, n_inputs, n_tables, n_sizes, n_extras, n_sources, n_takers, n_firstTaker, n_order, n_ordered, n_tally, n_behind]))] [.ref h, .int p1, .int p2, .int p3] (fun r w => r = (-1000000) ∧ w = []) := by
  refine CtI.of (cc := cX9_arrival) (maxL := 5) (rt := (some .int)) (by decide) rfl (Nat.le_of_ble_eq_true rfl) ?_
  intro p e s m below meth c A B ls hl
  obtain ⟨hx, hb, hml, hr, hlk, hin, hts, hown, hK, hN, hA, hP, hD, hS⟩ := B
  have hown : s.vm.findClass RX9 = some m.cls := hown
  have hto : ∀ w ∈ wo_f_arrival, w.before _ s = true := fun w h => hts w (List.mem_append_left _ h)
  have hl : lv_has ls 5 [(0, .ref h), (1, .int p1), (2, .int p2), (3, .int p3)] := hl
  obtain ⟨H, hHe⟩ : ∃ H, H = s.heap := ⟨_, rfl⟩
  have hS : va_S A s.heap H [] := by rw [hHe]; exact hS
  have hP : va_P E.1 vwCl [(h, .inr (9, [.ref h_net, h_stations, h_clock, h_rules, h_tables, h_timing, h_race, h_tracer, h_shown, h_trial, .int 0, .int 0])), (h_net, .inr (1, [.int 0, n_kinds, n_inputs, n_tables, n_sizes, n_extras, n_sources, n_takers, n_firstTaker, n_order, n_ordered, n_tally, n_behind]))] H := by rw [hHe]; exact hP
  refine W_heap hHe ?_
  refine lv_aload_n hx hb dX9_arrival_0 rfl (lv_at hl 0 rfl) ?_
  refine va_get (D := E.1) (ci := 9) (v := .ref h_net) (own := RX9) (C := RX9) (T := TX9) (N := 12) hx hb hts i_f_arrival_X9 hown hK hP 0 rfl rfl 0 (by decide) (hto (.fieldLink RX9 12 "TimingHouse" "net" "LTimingHouse$Net;") (by decide +kernel)) (fun _ h9 => h9) rfl dX9_arrival_1 ?_
  refine lv_iload_n hx hb dX9_arrival_4 rfl (lv_at hl 1 rfl) ?_
  refine call_i (va_runV (As := [.int p1]) (rest := []) ⟨hx, hb, hml, hown, hts⟩ (k_has0 l E h_net (n_kinds) (n_inputs) (n_tables) (n_sizes) (n_extras) (n_sources) (n_takers) (n_firstTaker) (n_order) (n_ordered) (n_tally) (n_behind) p1 H.size) (cwV 1 hts g_f_arrival_k_has0_103 rfl rfl rfl (by decide +kernel) ⟨Nat.le_of_ble_eq_true rfl, Nat.le_of_ble_eq_true rfl⟩) (pre_V hK hN (hP.sub (ws' := [(h_net, .inr (1, [.int 0, n_kinds, n_inputs, n_tables, n_sizes, n_extras, n_sources, n_takers, n_firstTaker, n_order, n_ordered, n_tally, n_behind]))]) [1] rfl) (hD.sub (ws' := [(h_net, .inr (1, [.int 0, n_kinds, n_inputs, n_tables, n_sizes, n_extras, n_sources, n_takers, n_firstTaker, n_order, n_ordered, n_tally, n_behind]))]) [1] (by decide) rfl) (ci := 1) (q0 := 0) rfl rfl) rfl rfl hl.1 rfl (lv_room (Nat.le_of_ble_eq_true rfl)) dX9_arrival_5 ⟨Nat.le_of_ble_eq_true rfl, Nat.le_of_ble_eq_true rfl⟩) hP hD hS hA [1] [0] (wr := [(h, .inr (9, [.ref h_net, h_stations, h_clock, h_rules, h_tables, h_timing, h_race, h_tracer, h_shown, h_trial, .int 0, .int 0]))]) rfl rfl (by decide) (by decide) (fun r_1 w H locs hw hP hD hS => ?_)
  obtain ⟨rfl, rfl⟩ := hw
  have hP : va_P E.1 vwCl [(h, .inr (9, [.ref h_net, h_stations, h_clock, h_rules, h_tables, h_timing, h_race, h_tracer, h_shown, h_trial, .int 0, .int 0])), (h_net, .inr (1, [.int 0, n_kinds, n_inputs, n_tables, n_sizes, n_extras, n_sources, n_takers, n_firstTaker, n_order, n_ordered, n_tally, n_behind]))] H := hP
  have hD : va_D A [(h, .inr (9, [.ref h_net, h_stations, h_clock, h_rules, h_tables, h_timing, h_race, h_tracer, h_shown, h_trial, .int 0, .int 0])), (h_net, .inr (1, [.int 0, n_kinds, n_inputs, n_tables, n_sizes, n_extras, n_sources, n_takers, n_firstTaker, n_order, n_ordered, n_tally, n_behind]))] := hD
  refine lv_if_eq (tgt := 33) hx hb dX9_arrival_8 (by decide) (fun c_2 => ?_) (fun c_2 => ?_)
  · refine lv_ldc (v := (-1000000)) hx hb hown (hto (.constant RX9 219 (-1000000)) (by decide +kernel)) dX9_arrival_33 ?_
    exact ret_i hx hb hr hlk (hP.sub (ws' := []) [] rfl) (hD.sub (ws' := []) [] (by decide) rfl) hS rfl dX9_arrival_35 (Nat.le_of_ble_eq_true rfl) (Nat.le_of_ble_eq_true rfl) ⟨rfl, rfl⟩
  · exact absurd c_2 (by decide)
theorem dX9_told_0 : decode cX9_told 0 = .ok (.aload_n 0, 1) := by decide +kernel
theorem dX9_told_1 : decode cX9_told 1 = .ok (.getfield 12, 3) := by decide +kernel
theorem dX9_told_4 : decode cX9_told 4 = .ok (.iload_n 1, 1) := by decide +kernel
theorem dX9_told_5 : decode cX9_told 5 = .ok (.invokevirtual 103, 3) := by decide +kernel
theorem dX9_told_8 : decode cX9_told 8 = .ok (.ifCond .ne 5, 3) := by decide +kernel
theorem dX9_told_11 : decode cX9_told 11 = .ok (.iconst (-1), 1) := by decide +kernel
theorem dX9_told_12 : decode cX9_told 12 = .ok (.ireturn, 1) := by decide +kernel
def wo_f_told : List Cond := [.code yX9_told cX9_told 2 (some .int), .fieldLink RX9 12 "TimingHouse" "net" "LTimingHouse$Net;", .methodLink RX9 103 yX1_has, .instanceMethod yX1_has, .selects RX1 yX1_has yX1_has, .initialized RX1]
def wr_f_told : List Cond := (wsX90 ++ (w_k_has0 ++ ([])))
def w_f_told : List Cond := wo_f_told ++ wr_f_told
theorem wg_f_told : GW w_f_told := GW_app (GW_of (by decide +kernel)) (GW_app (GW_of (by decide +kernel)) (GW_app (wg_k_has0) (GW_nil)))
theorem i_f_told_X9 : ∀ w ∈ wsX90, w ∈ w_f_told := fun _ h => List.mem_append_right _ (List.mem_append_left _ h)
theorem g_f_told_k_has0_103 : GoodIn w_f_told (wsV RX9 103 RX1 yX1_has w_k_has0) := goodIn_app (gi_left (goodIn_of _ (by decide +kernel))) (fun w h => ⟨List.mem_append_right _ (List.mem_append_right _ (List.mem_append_left _ h)), wg_k_has0 w h⟩)
set_option maxHeartbeats 4000000 in
set_option maxRecDepth 100000 in
theorem f_told (l : Launch) (E : gE) (h : Nat) (h_net : Nat) (h_stations : Value) (h_clock : Value) (h_rules : Value) (h_tables : Value) (h_timing : Value) (h_race : Value) (h_tracer : Value) (h_shown : Value) (h_trial : Value) (n_kinds : Value) (n_inputs : Value) (n_tables : Value) (n_sizes : Value) (n_extras : Value) (n_sources : Value) (n_takers : Value) (n_firstTaker : Value) (n_order : Value) (n_ordered : Value) (n_tally : Value) (n_behind : Value) (p1 : Int32) : CtI l E yX9_told w_f_told ({ frames := 1, cells := 0, slots := 0, locals := 21 }) [(h, .inr (9, [.ref h_net, h_stations, h_clock, h_rules, h_tables, h_timing, h_race, h_tracer, h_shown, h_trial, .int 0, .int 0])), (h_net, .inr (1, [.int 0, n_kinds, n_inputs, n_tables, n_sizes, n_extras, n_sources, n_takers, n_firstTaker, n_order, n_ordered, n_tally, n_behind]))] [.ref h, .int p1] (fun r w => r = (-1) ∧ w = []) := by
  refine CtI.of (cc := cX9_told) (maxL := 2) (rt := (some .int)) (by decide) rfl (Nat.le_of_ble_eq_true rfl) ?_
  intro p e s m below meth c A B ls hl
  obtain ⟨hx, hb, hml, hr, hlk, hin, hts, hown, hK, hN, hA, hP, hD, hS⟩ := B
  have hown : s.vm.findClass RX9 = some m.cls := hown
  have hto : ∀ w ∈ wo_f_told, w.before _ s = true := fun w h => hts w (List.mem_append_left _ h)
  have hl : lv_has ls 2 [(0, .ref h), (1, .int p1)] := hl
  obtain ⟨H, hHe⟩ : ∃ H, H = s.heap := ⟨_, rfl⟩
  have hS : va_S A s.heap H [] := by rw [hHe]; exact hS
  have hP : va_P E.1 vwCl [(h, .inr (9, [.ref h_net, h_stations, h_clock, h_rules, h_tables, h_timing, h_race, h_tracer, h_shown, h_trial, .int 0, .int 0])), (h_net, .inr (1, [.int 0, n_kinds, n_inputs, n_tables, n_sizes, n_extras, n_sources, n_takers, n_firstTaker, n_order, n_ordered, n_tally, n_behind]))] H := by rw [hHe]; exact hP
  refine W_heap hHe ?_
  refine lv_aload_n hx hb dX9_told_0 rfl (lv_at hl 0 rfl) ?_
  refine va_get (D := E.1) (ci := 9) (v := .ref h_net) (own := RX9) (C := RX9) (T := TX9) (N := 12) hx hb hts i_f_told_X9 hown hK hP 0 rfl rfl 0 (by decide) (hto (.fieldLink RX9 12 "TimingHouse" "net" "LTimingHouse$Net;") (by decide +kernel)) (fun _ h9 => h9) rfl dX9_told_1 ?_
  refine lv_iload_n hx hb dX9_told_4 rfl (lv_at hl 1 rfl) ?_
  refine call_i (va_runV (As := [.int p1]) (rest := []) ⟨hx, hb, hml, hown, hts⟩ (k_has0 l E h_net (n_kinds) (n_inputs) (n_tables) (n_sizes) (n_extras) (n_sources) (n_takers) (n_firstTaker) (n_order) (n_ordered) (n_tally) (n_behind) p1 H.size) (cwV 1 hts g_f_told_k_has0_103 rfl rfl rfl (by decide +kernel) ⟨Nat.le_of_ble_eq_true rfl, Nat.le_of_ble_eq_true rfl⟩) (pre_V hK hN (hP.sub (ws' := [(h_net, .inr (1, [.int 0, n_kinds, n_inputs, n_tables, n_sizes, n_extras, n_sources, n_takers, n_firstTaker, n_order, n_ordered, n_tally, n_behind]))]) [1] rfl) (hD.sub (ws' := [(h_net, .inr (1, [.int 0, n_kinds, n_inputs, n_tables, n_sizes, n_extras, n_sources, n_takers, n_firstTaker, n_order, n_ordered, n_tally, n_behind]))]) [1] (by decide) rfl) (ci := 1) (q0 := 0) rfl rfl) rfl rfl hl.1 rfl (lv_room (Nat.le_of_ble_eq_true rfl)) dX9_told_5 ⟨Nat.le_of_ble_eq_true rfl, Nat.le_of_ble_eq_true rfl⟩) hP hD hS hA [1] [0] (wr := [(h, .inr (9, [.ref h_net, h_stations, h_clock, h_rules, h_tables, h_timing, h_race, h_tracer, h_shown, h_trial, .int 0, .int 0]))]) rfl rfl (by decide) (by decide) (fun r_1 w H locs hw hP hD hS => ?_)
  obtain ⟨rfl, rfl⟩ := hw
  have hP : va_P E.1 vwCl [(h, .inr (9, [.ref h_net, h_stations, h_clock, h_rules, h_tables, h_timing, h_race, h_tracer, h_shown, h_trial, .int 0, .int 0])), (h_net, .inr (1, [.int 0, n_kinds, n_inputs, n_tables, n_sizes, n_extras, n_sources, n_takers, n_firstTaker, n_order, n_ordered, n_tally, n_behind]))] H := hP
  have hD : va_D A [(h, .inr (9, [.ref h_net, h_stations, h_clock, h_rules, h_tables, h_timing, h_race, h_tracer, h_shown, h_trial, .int 0, .int 0])), (h_net, .inr (1, [.int 0, n_kinds, n_inputs, n_tables, n_sizes, n_extras, n_sources, n_takers, n_firstTaker, n_order, n_ordered, n_tally, n_behind]))] := hD
  refine lv_if_ne (tgt := 13) hx hb dX9_told_8 (by decide) (fun c_2 => ?_) (fun c_2 => ?_)
  · exact absurd c_2 (by decide)
  · refine lv_iconst (v := (-1)) hx hb dX9_told_11 (by decide) ?_
    exact ret_i hx hb hr hlk (hP.sub (ws' := []) [] rfl) (hD.sub (ws' := []) [] (by decide) rfl) hS rfl dX9_told_12 (Nat.le_of_ble_eq_true rfl) (Nat.le_of_ble_eq_true rfl) ⟨rfl, rfl⟩
theorem dX9_slack_0 : decode cX9_slack 0 = .ok (.aload_n 0, 1) := by decide +kernel
theorem dX9_slack_1 : decode cX9_slack 1 = .ok (.iload_n 1, 1) := by decide +kernel
theorem dX9_slack_2 : decode cX9_slack 2 = .ok (.invokevirtual 248, 3) := by decide +kernel
theorem dX9_slack_5 : decode cX9_slack 5 = .ok (.ifCond .eq 15, 3) := by decide +kernel
theorem dX9_slack_20 : decode cX9_slack 20 = .ok (.ldc 254, 2) := by decide +kernel
theorem dX9_slack_22 : decode cX9_slack 22 = .ok (.ireturn, 1) := by decide +kernel
def wo_f_slack : List Cond := [.code yX9_slack cX9_slack 2 (some .int), .methodLink RX9 248 yX9_isTold, .instanceMethod yX9_isTold, .selects RX9 yX9_isTold yX9_isTold, .initialized RX9, .constant RX9 254 1000000000]
def wr_f_slack : List Cond := (w_f_isTold ++ ([]))
def w_f_slack : List Cond := wo_f_slack ++ wr_f_slack
theorem wg_f_slack : GW w_f_slack := GW_app (GW_of (by decide +kernel)) (GW_app (wg_f_isTold) (GW_nil))
theorem g_f_slack_f_isTold_248 : GoodIn w_f_slack (wsV RX9 248 RX9 yX9_isTold w_f_isTold) := goodIn_app (gi_left (goodIn_of _ (by decide +kernel))) (fun w h => ⟨List.mem_append_right _ (List.mem_append_left _ h), wg_f_isTold w h⟩)
set_option maxHeartbeats 4000000 in
set_option maxRecDepth 100000 in
theorem f_slack (l : Launch) (E : gE) (h : Nat) (h_net : Nat) (h_stations : Value) (h_clock : Value) (h_rules : Value) (h_tables : Value) (h_timing : Value) (h_race : Value) (h_tracer : Value) (h_shown : Value) (h_trial : Value) (n_kinds : Value) (n_inputs : Value) (n_tables : Value) (n_sizes : Value) (n_extras : Value) (n_sources : Value) (n_takers : Value) (n_firstTaker : Value) (n_order : Value) (n_ordered : Value) (n_tally : Value) (n_behind : Value) (p1 : Int32) : CtI l E yX9_slack w_f_slack ({ frames := 2, cells := 0, slots := 0, locals := 42 }) [(h, .inr (9, [.ref h_net, h_stations, h_clock, h_rules, h_tables, h_timing, h_race, h_tracer, h_shown, h_trial, .int 0, .int 0])), (h_net, .inr (1, [.int 0, n_kinds, n_inputs, n_tables, n_sizes, n_extras, n_sources, n_takers, n_firstTaker, n_order, n_ordered, n_tally, n_behind]))] [.ref h, .int p1] (fun r w => r = 1000000000 ∧ w = []) := by
  refine CtI.of (cc := cX9_slack) (maxL := 2) (rt := (some .int)) (by decide) rfl (Nat.le_of_ble_eq_true rfl) ?_
  intro p e s m below meth c A B ls hl
  obtain ⟨hx, hb, hml, hr, hlk, hin, hts, hown, hK, hN, hA, hP, hD, hS⟩ := B
  have hown : s.vm.findClass RX9 = some m.cls := hown
  have hto : ∀ w ∈ wo_f_slack, w.before _ s = true := fun w h => hts w (List.mem_append_left _ h)
  have hl : lv_has ls 2 [(0, .ref h), (1, .int p1)] := hl
  obtain ⟨H, hHe⟩ : ∃ H, H = s.heap := ⟨_, rfl⟩
  have hS : va_S A s.heap H [] := by rw [hHe]; exact hS
  have hP : va_P E.1 vwCl [(h, .inr (9, [.ref h_net, h_stations, h_clock, h_rules, h_tables, h_timing, h_race, h_tracer, h_shown, h_trial, .int 0, .int 0])), (h_net, .inr (1, [.int 0, n_kinds, n_inputs, n_tables, n_sizes, n_extras, n_sources, n_takers, n_firstTaker, n_order, n_ordered, n_tally, n_behind]))] H := by rw [hHe]; exact hP
  refine W_heap hHe ?_
  refine lv_aload_n hx hb dX9_slack_0 rfl (lv_at hl 0 rfl) ?_
  refine lv_iload_n hx hb dX9_slack_1 rfl (lv_at hl 1 rfl) ?_
  refine call_i (va_runV (As := [.int p1]) (rest := []) ⟨hx, hb, hml, hown, hts⟩ (f_isTold l E h h_net (h_stations) (h_clock) (h_rules) (h_tables) (h_timing) (h_race) (h_tracer) (h_shown) (h_trial) (n_kinds) (n_inputs) (n_tables) (n_sizes) (n_extras) (n_sources) (n_takers) (n_firstTaker) (n_order) (n_ordered) (n_tally) (n_behind) p1 H.size) (cwV 1 hts g_f_slack_f_isTold_248 rfl rfl rfl (by decide +kernel) ⟨Nat.le_of_ble_eq_true rfl, Nat.le_of_ble_eq_true rfl⟩) (pre_V hK hN (hP.sub (ws' := [(h, .inr (9, [.ref h_net, h_stations, h_clock, h_rules, h_tables, h_timing, h_race, h_tracer, h_shown, h_trial, .int 0, .int 0])), (h_net, .inr (1, [.int 0, n_kinds, n_inputs, n_tables, n_sizes, n_extras, n_sources, n_takers, n_firstTaker, n_order, n_ordered, n_tally, n_behind]))]) [0, 1] rfl) (hD.sub (ws' := [(h, .inr (9, [.ref h_net, h_stations, h_clock, h_rules, h_tables, h_timing, h_race, h_tracer, h_shown, h_trial, .int 0, .int 0])), (h_net, .inr (1, [.int 0, n_kinds, n_inputs, n_tables, n_sizes, n_extras, n_sources, n_takers, n_firstTaker, n_order, n_ordered, n_tally, n_behind]))]) [0, 1] (by decide) rfl) (ci := 9) (q0 := 0) rfl rfl) rfl rfl hl.1 rfl (lv_room (Nat.le_of_ble_eq_true rfl)) dX9_slack_2 ⟨Nat.le_of_ble_eq_true rfl, Nat.le_of_ble_eq_true rfl⟩) hP hD hS hA [0, 1] [] (wr := []) rfl rfl (by decide) (by decide) (fun r_1 w H locs hw hP hD hS => ?_)
  obtain ⟨rfl, rfl⟩ := hw
  have hP : va_P E.1 vwCl [] H := hP
  have hD : va_D A [] := hD
  refine lv_if_eq (tgt := 20) hx hb dX9_slack_5 (by decide) (fun c_2 => ?_) (fun c_2 => ?_)
  · refine lv_ldc (v := 1000000000) hx hb hown (hto (.constant RX9 254 1000000000) (by decide +kernel)) dX9_slack_20 ?_
    exact ret_i hx hb hr hlk (hP.sub (ws' := []) [] rfl) (hD.sub (ws' := []) [] (by decide) rfl) hS rfl dX9_slack_22 (Nat.le_of_ble_eq_true rfl) (Nat.le_of_ble_eq_true rfl) ⟨rfl, rfl⟩
  · exact absurd c_2 (by decide)
theorem dX9_hold_0 : decode cX9_hold 0 = .ok (.aload_n 0, 1) := by decide +kernel
theorem dX9_hold_1 : decode cX9_hold 1 = .ok (.iload_n 1, 1) := by decide +kernel
theorem dX9_hold_2 : decode cX9_hold 2 = .ok (.invokevirtual 248, 3) := by decide +kernel
theorem dX9_hold_5 : decode cX9_hold 5 = .ok (.ifCond .eq 15, 3) := by decide +kernel
theorem dX9_hold_20 : decode cX9_hold 20 = .ok (.ldc 254, 2) := by decide +kernel
theorem dX9_hold_22 : decode cX9_hold 22 = .ok (.ireturn, 1) := by decide +kernel
def wo_f_hold : List Cond := [.code yX9_hold cX9_hold 2 (some .int), .methodLink RX9 248 yX9_isTold, .instanceMethod yX9_isTold, .selects RX9 yX9_isTold yX9_isTold, .initialized RX9, .constant RX9 254 1000000000]
def wr_f_hold : List Cond := (w_f_isTold ++ ([]))
def w_f_hold : List Cond := wo_f_hold ++ wr_f_hold
theorem wg_f_hold : GW w_f_hold := GW_app (GW_of (by decide +kernel)) (GW_app (wg_f_isTold) (GW_nil))
theorem g_f_hold_f_isTold_248 : GoodIn w_f_hold (wsV RX9 248 RX9 yX9_isTold w_f_isTold) := goodIn_app (gi_left (goodIn_of _ (by decide +kernel))) (fun w h => ⟨List.mem_append_right _ (List.mem_append_left _ h), wg_f_isTold w h⟩)
set_option maxHeartbeats 4000000 in
set_option maxRecDepth 100000 in
theorem f_hold (l : Launch) (E : gE) (h : Nat) (h_net : Nat) (h_stations : Value) (h_clock : Value) (h_rules : Value) (h_tables : Value) (h_timing : Value) (h_race : Value) (h_tracer : Value) (h_shown : Value) (h_trial : Value) (n_kinds : Value) (n_inputs : Value) (n_tables : Value) (n_sizes : Value) (n_extras : Value) (n_sources : Value) (n_takers : Value) (n_firstTaker : Value) (n_order : Value) (n_ordered : Value) (n_tally : Value) (n_behind : Value) (p1 : Int32) : CtI l E yX9_hold w_f_hold ({ frames := 2, cells := 0, slots := 0, locals := 42 }) [(h, .inr (9, [.ref h_net, h_stations, h_clock, h_rules, h_tables, h_timing, h_race, h_tracer, h_shown, h_trial, .int 0, .int 0])), (h_net, .inr (1, [.int 0, n_kinds, n_inputs, n_tables, n_sizes, n_extras, n_sources, n_takers, n_firstTaker, n_order, n_ordered, n_tally, n_behind]))] [.ref h, .int p1] (fun r w => r = 1000000000 ∧ w = []) := by
  refine CtI.of (cc := cX9_hold) (maxL := 2) (rt := (some .int)) (by decide) rfl (Nat.le_of_ble_eq_true rfl) ?_
  intro p e s m below meth c A B ls hl
  obtain ⟨hx, hb, hml, hr, hlk, hin, hts, hown, hK, hN, hA, hP, hD, hS⟩ := B
  have hown : s.vm.findClass RX9 = some m.cls := hown
  have hto : ∀ w ∈ wo_f_hold, w.before _ s = true := fun w h => hts w (List.mem_append_left _ h)
  have hl : lv_has ls 2 [(0, .ref h), (1, .int p1)] := hl
  obtain ⟨H, hHe⟩ : ∃ H, H = s.heap := ⟨_, rfl⟩
  have hS : va_S A s.heap H [] := by rw [hHe]; exact hS
  have hP : va_P E.1 vwCl [(h, .inr (9, [.ref h_net, h_stations, h_clock, h_rules, h_tables, h_timing, h_race, h_tracer, h_shown, h_trial, .int 0, .int 0])), (h_net, .inr (1, [.int 0, n_kinds, n_inputs, n_tables, n_sizes, n_extras, n_sources, n_takers, n_firstTaker, n_order, n_ordered, n_tally, n_behind]))] H := by rw [hHe]; exact hP
  refine W_heap hHe ?_
  refine lv_aload_n hx hb dX9_hold_0 rfl (lv_at hl 0 rfl) ?_
  refine lv_iload_n hx hb dX9_hold_1 rfl (lv_at hl 1 rfl) ?_
  refine call_i (va_runV (As := [.int p1]) (rest := []) ⟨hx, hb, hml, hown, hts⟩ (f_isTold l E h h_net (h_stations) (h_clock) (h_rules) (h_tables) (h_timing) (h_race) (h_tracer) (h_shown) (h_trial) (n_kinds) (n_inputs) (n_tables) (n_sizes) (n_extras) (n_sources) (n_takers) (n_firstTaker) (n_order) (n_ordered) (n_tally) (n_behind) p1 H.size) (cwV 1 hts g_f_hold_f_isTold_248 rfl rfl rfl (by decide +kernel) ⟨Nat.le_of_ble_eq_true rfl, Nat.le_of_ble_eq_true rfl⟩) (pre_V hK hN (hP.sub (ws' := [(h, .inr (9, [.ref h_net, h_stations, h_clock, h_rules, h_tables, h_timing, h_race, h_tracer, h_shown, h_trial, .int 0, .int 0])), (h_net, .inr (1, [.int 0, n_kinds, n_inputs, n_tables, n_sizes, n_extras, n_sources, n_takers, n_firstTaker, n_order, n_ordered, n_tally, n_behind]))]) [0, 1] rfl) (hD.sub (ws' := [(h, .inr (9, [.ref h_net, h_stations, h_clock, h_rules, h_tables, h_timing, h_race, h_tracer, h_shown, h_trial, .int 0, .int 0])), (h_net, .inr (1, [.int 0, n_kinds, n_inputs, n_tables, n_sizes, n_extras, n_sources, n_takers, n_firstTaker, n_order, n_ordered, n_tally, n_behind]))]) [0, 1] (by decide) rfl) (ci := 9) (q0 := 0) rfl rfl) rfl rfl hl.1 rfl (lv_room (Nat.le_of_ble_eq_true rfl)) dX9_hold_2 ⟨Nat.le_of_ble_eq_true rfl, Nat.le_of_ble_eq_true rfl⟩) hP hD hS hA [0, 1] [] (wr := []) rfl rfl (by decide) (by decide) (fun r_1 w H locs hw hP hD hS => ?_)
  obtain ⟨rfl, rfl⟩ := hw
  have hP : va_P E.1 vwCl [] H := hP
  have hD : va_D A [] := hD
  refine lv_if_eq (tgt := 20) hx hb dX9_hold_5 (by decide) (fun c_2 => ?_) (fun c_2 => ?_)
  · refine lv_ldc (v := 1000000000) hx hb hown (hto (.constant RX9 254 1000000000) (by decide +kernel)) dX9_hold_20 ?_
    exact ret_i hx hb hr hlk (hP.sub (ws' := []) [] rfl) (hD.sub (ws' := []) [] (by decide) rfl) hS rfl dX9_hold_22 (Nat.le_of_ble_eq_true rfl) (Nat.le_of_ble_eq_true rfl) ⟨rfl, rfl⟩
  · exact absurd c_2 (by decide)
theorem dX9_paths_0 : decode cX9_paths 0 = .ok (.aload_n 0, 1) := by decide +kernel
theorem dX9_paths_1 : decode cX9_paths 1 = .ok (.getfield 12, 3) := by decide +kernel
theorem dX9_paths_4 : decode cX9_paths 4 = .ok (.iload_n 1, 1) := by decide +kernel
theorem dX9_paths_5 : decode cX9_paths 5 = .ok (.invokevirtual 103, 3) := by decide +kernel
theorem dX9_paths_8 : decode cX9_paths 8 = .ok (.ifCond .ne 5, 3) := by decide +kernel
theorem dX9_paths_11 : decode cX9_paths 11 = .ok (.iconst (-1), 1) := by decide +kernel
theorem dX9_paths_12 : decode cX9_paths 12 = .ok (.ireturn, 1) := by decide +kernel
def wo_f_paths : List Cond := [.code yX9_paths cX9_paths 2 (some .int), .fieldLink RX9 12 "TimingHouse" "net" "LTimingHouse$Net;", .methodLink RX9 103 yX1_has, .instanceMethod yX1_has, .selects RX1 yX1_has yX1_has, .initialized RX1]
def wr_f_paths : List Cond := (wsX90 ++ (w_k_has0 ++ ([])))
def w_f_paths : List Cond := wo_f_paths ++ wr_f_paths
theorem wg_f_paths : GW w_f_paths := GW_app (GW_of (by decide +kernel)) (GW_app (GW_of (by decide +kernel)) (GW_app (wg_k_has0) (GW_nil)))
theorem i_f_paths_X9 : ∀ w ∈ wsX90, w ∈ w_f_paths := fun _ h => List.mem_append_right _ (List.mem_append_left _ h)
theorem g_f_paths_k_has0_103 : GoodIn w_f_paths (wsV RX9 103 RX1 yX1_has w_k_has0) := goodIn_app (gi_left (goodIn_of _ (by decide +kernel))) (fun w h => ⟨List.mem_append_right _ (List.mem_append_right _ (List.mem_append_left _ h)), wg_k_has0 w h⟩)
set_option maxHeartbeats 4000000 in
set_option maxRecDepth 100000 in
theorem f_paths (l : Launch) (E : gE) (h : Nat) (h_net : Nat) (h_stations : Value) (h_clock : Value) (h_rules : Value) (h_tables : Value) (h_timing : Value) (h_race : Value) (h_tracer : Value) (h_shown : Value) (h_trial : Value) (n_kinds : Value) (n_inputs : Value) (n_tables : Value) (n_sizes : Value) (n_extras : Value) (n_sources : Value) (n_takers : Value) (n_firstTaker : Value) (n_order : Value) (n_ordered : Value) (n_tally : Value) (n_behind : Value) (p1 : Int32) : CtI l E yX9_paths w_f_paths ({ frames := 1, cells := 0, slots := 0, locals := 21 }) [(h, .inr (9, [.ref h_net, h_stations, h_clock, h_rules, h_tables, h_timing, h_race, h_tracer, h_shown, h_trial, .int 0, .int 0])), (h_net, .inr (1, [.int 0, n_kinds, n_inputs, n_tables, n_sizes, n_extras, n_sources, n_takers, n_firstTaker, n_order, n_ordered, n_tally, n_behind]))] [.ref h, .int p1] (fun r w => r = (-1) ∧ w = []) := by
  refine CtI.of (cc := cX9_paths) (maxL := 2) (rt := (some .int)) (by decide) rfl (Nat.le_of_ble_eq_true rfl) ?_
  intro p e s m below meth c A B ls hl
  obtain ⟨hx, hb, hml, hr, hlk, hin, hts, hown, hK, hN, hA, hP, hD, hS⟩ := B
  have hown : s.vm.findClass RX9 = some m.cls := hown
  have hto : ∀ w ∈ wo_f_paths, w.before _ s = true := fun w h => hts w (List.mem_append_left _ h)
  have hl : lv_has ls 2 [(0, .ref h), (1, .int p1)] := hl
  obtain ⟨H, hHe⟩ : ∃ H, H = s.heap := ⟨_, rfl⟩
  have hS : va_S A s.heap H [] := by rw [hHe]; exact hS
  have hP : va_P E.1 vwCl [(h, .inr (9, [.ref h_net, h_stations, h_clock, h_rules, h_tables, h_timing, h_race, h_tracer, h_shown, h_trial, .int 0, .int 0])), (h_net, .inr (1, [.int 0, n_kinds, n_inputs, n_tables, n_sizes, n_extras, n_sources, n_takers, n_firstTaker, n_order, n_ordered, n_tally, n_behind]))] H := by rw [hHe]; exact hP
  refine W_heap hHe ?_
  refine lv_aload_n hx hb dX9_paths_0 rfl (lv_at hl 0 rfl) ?_
  refine va_get (D := E.1) (ci := 9) (v := .ref h_net) (own := RX9) (C := RX9) (T := TX9) (N := 12) hx hb hts i_f_paths_X9 hown hK hP 0 rfl rfl 0 (by decide) (hto (.fieldLink RX9 12 "TimingHouse" "net" "LTimingHouse$Net;") (by decide +kernel)) (fun _ h9 => h9) rfl dX9_paths_1 ?_
  refine lv_iload_n hx hb dX9_paths_4 rfl (lv_at hl 1 rfl) ?_
  refine call_i (va_runV (As := [.int p1]) (rest := []) ⟨hx, hb, hml, hown, hts⟩ (k_has0 l E h_net (n_kinds) (n_inputs) (n_tables) (n_sizes) (n_extras) (n_sources) (n_takers) (n_firstTaker) (n_order) (n_ordered) (n_tally) (n_behind) p1 H.size) (cwV 1 hts g_f_paths_k_has0_103 rfl rfl rfl (by decide +kernel) ⟨Nat.le_of_ble_eq_true rfl, Nat.le_of_ble_eq_true rfl⟩) (pre_V hK hN (hP.sub (ws' := [(h_net, .inr (1, [.int 0, n_kinds, n_inputs, n_tables, n_sizes, n_extras, n_sources, n_takers, n_firstTaker, n_order, n_ordered, n_tally, n_behind]))]) [1] rfl) (hD.sub (ws' := [(h_net, .inr (1, [.int 0, n_kinds, n_inputs, n_tables, n_sizes, n_extras, n_sources, n_takers, n_firstTaker, n_order, n_ordered, n_tally, n_behind]))]) [1] (by decide) rfl) (ci := 1) (q0 := 0) rfl rfl) rfl rfl hl.1 rfl (lv_room (Nat.le_of_ble_eq_true rfl)) dX9_paths_5 ⟨Nat.le_of_ble_eq_true rfl, Nat.le_of_ble_eq_true rfl⟩) hP hD hS hA [1] [0] (wr := [(h, .inr (9, [.ref h_net, h_stations, h_clock, h_rules, h_tables, h_timing, h_race, h_tracer, h_shown, h_trial, .int 0, .int 0]))]) rfl rfl (by decide) (by decide) (fun r_1 w H locs hw hP hD hS => ?_)
  obtain ⟨rfl, rfl⟩ := hw
  have hP : va_P E.1 vwCl [(h, .inr (9, [.ref h_net, h_stations, h_clock, h_rules, h_tables, h_timing, h_race, h_tracer, h_shown, h_trial, .int 0, .int 0])), (h_net, .inr (1, [.int 0, n_kinds, n_inputs, n_tables, n_sizes, n_extras, n_sources, n_takers, n_firstTaker, n_order, n_ordered, n_tally, n_behind]))] H := hP
  have hD : va_D A [(h, .inr (9, [.ref h_net, h_stations, h_clock, h_rules, h_tables, h_timing, h_race, h_tracer, h_shown, h_trial, .int 0, .int 0])), (h_net, .inr (1, [.int 0, n_kinds, n_inputs, n_tables, n_sizes, n_extras, n_sources, n_takers, n_firstTaker, n_order, n_ordered, n_tally, n_behind]))] := hD
  refine lv_if_ne (tgt := 13) hx hb dX9_paths_8 (by decide) (fun c_2 => ?_) (fun c_2 => ?_)
  · exact absurd c_2 (by decide)
  · refine lv_iconst (v := (-1)) hx hb dX9_paths_11 (by decide) ?_
    exact ret_i hx hb hr hlk (hP.sub (ws' := []) [] rfl) (hD.sub (ws' := []) [] (by decide) rfl) hS rfl dX9_paths_12 (Nat.le_of_ble_eq_true rfl) (Nat.le_of_ble_eq_true rfl) ⟨rfl, rfl⟩
theorem dX9_path_0 : decode cX9_path 0 = .ok (.aload_n 0, 1) := by decide +kernel
theorem dX9_path_1 : decode cX9_path 1 = .ok (.getfield 12, 3) := by decide +kernel
theorem dX9_path_4 : decode cX9_path 4 = .ok (.iload_n 1, 1) := by decide +kernel
theorem dX9_path_5 : decode cX9_path 5 = .ok (.invokevirtual 103, 3) := by decide +kernel
theorem dX9_path_8 : decode cX9_path 8 = .ok (.ifCond .eq 7, 3) := by decide +kernel
theorem dX9_path_15 : decode cX9_path 15 = .ok (.iconst (-1), 1) := by decide +kernel
theorem dX9_path_16 : decode cX9_path 16 = .ok (.ireturn, 1) := by decide +kernel
def wo_f_path : List Cond := [.code yX9_path cX9_path 3 (some .int), .fieldLink RX9 12 "TimingHouse" "net" "LTimingHouse$Net;", .methodLink RX9 103 yX1_has, .instanceMethod yX1_has, .selects RX1 yX1_has yX1_has, .initialized RX1]
def wr_f_path : List Cond := (wsX90 ++ (w_k_has0 ++ ([])))
def w_f_path : List Cond := wo_f_path ++ wr_f_path
theorem wg_f_path : GW w_f_path := GW_app (GW_of (by decide +kernel)) (GW_app (GW_of (by decide +kernel)) (GW_app (wg_k_has0) (GW_nil)))
theorem i_f_path_X9 : ∀ w ∈ wsX90, w ∈ w_f_path := fun _ h => List.mem_append_right _ (List.mem_append_left _ h)
theorem g_f_path_k_has0_103 : GoodIn w_f_path (wsV RX9 103 RX1 yX1_has w_k_has0) := goodIn_app (gi_left (goodIn_of _ (by decide +kernel))) (fun w h => ⟨List.mem_append_right _ (List.mem_append_right _ (List.mem_append_left _ h)), wg_k_has0 w h⟩)
set_option maxHeartbeats 4000000 in
set_option maxRecDepth 100000 in
theorem f_path (l : Launch) (E : gE) (h : Nat) (h_net : Nat) (h_stations : Value) (h_clock : Value) (h_rules : Value) (h_tables : Value) (h_timing : Value) (h_race : Value) (h_tracer : Value) (h_shown : Value) (h_trial : Value) (n_kinds : Value) (n_inputs : Value) (n_tables : Value) (n_sizes : Value) (n_extras : Value) (n_sources : Value) (n_takers : Value) (n_firstTaker : Value) (n_order : Value) (n_ordered : Value) (n_tally : Value) (n_behind : Value) (p1 : Int32) (p2 : Int32) : CtI l E yX9_path w_f_path ({ frames := 1, cells := 0, slots := 0, locals := 21 }) [(h, .inr (9, [.ref h_net, h_stations, h_clock, h_rules, h_tables, h_timing, h_race, h_tracer, h_shown, h_trial, .int 0, .int 0])), (h_net, .inr (1, [.int 0, n_kinds, n_inputs, n_tables, n_sizes, n_extras, n_sources, n_takers, n_firstTaker, n_order, n_ordered, n_tally, n_behind]))] [.ref h, .int p1, .int p2] (fun r w => r = (-1) ∧ w = []) := by
  refine CtI.of (cc := cX9_path) (maxL := 3) (rt := (some .int)) (by decide) rfl (Nat.le_of_ble_eq_true rfl) ?_
  intro p e s m below meth c A B ls hl
  obtain ⟨hx, hb, hml, hr, hlk, hin, hts, hown, hK, hN, hA, hP, hD, hS⟩ := B
  have hown : s.vm.findClass RX9 = some m.cls := hown
  have hto : ∀ w ∈ wo_f_path, w.before _ s = true := fun w h => hts w (List.mem_append_left _ h)
  have hl : lv_has ls 3 [(0, .ref h), (1, .int p1), (2, .int p2)] := hl
  obtain ⟨H, hHe⟩ : ∃ H, H = s.heap := ⟨_, rfl⟩
  have hS : va_S A s.heap H [] := by rw [hHe]; exact hS
  have hP : va_P E.1 vwCl [(h, .inr (9, [.ref h_net, h_stations, h_clock, h_rules, h_tables, h_timing, h_race, h_tracer, h_shown, h_trial, .int 0, .int 0])), (h_net, .inr (1, [.int 0, n_kinds, n_inputs, n_tables, n_sizes, n_extras, n_sources, n_takers, n_firstTaker, n_order, n_ordered, n_tally, n_behind]))] H := by rw [hHe]; exact hP
  refine W_heap hHe ?_
  refine lv_aload_n hx hb dX9_path_0 rfl (lv_at hl 0 rfl) ?_
  refine va_get (D := E.1) (ci := 9) (v := .ref h_net) (own := RX9) (C := RX9) (T := TX9) (N := 12) hx hb hts i_f_path_X9 hown hK hP 0 rfl rfl 0 (by decide) (hto (.fieldLink RX9 12 "TimingHouse" "net" "LTimingHouse$Net;") (by decide +kernel)) (fun _ h9 => h9) rfl dX9_path_1 ?_
  refine lv_iload_n hx hb dX9_path_4 rfl (lv_at hl 1 rfl) ?_
  refine call_i (va_runV (As := [.int p1]) (rest := []) ⟨hx, hb, hml, hown, hts⟩ (k_has0 l E h_net (n_kinds) (n_inputs) (n_tables) (n_sizes) (n_extras) (n_sources) (n_takers) (n_firstTaker) (n_order) (n_ordered) (n_tally) (n_behind) p1 H.size) (cwV 1 hts g_f_path_k_has0_103 rfl rfl rfl (by decide +kernel) ⟨Nat.le_of_ble_eq_true rfl, Nat.le_of_ble_eq_true rfl⟩) (pre_V hK hN (hP.sub (ws' := [(h_net, .inr (1, [.int 0, n_kinds, n_inputs, n_tables, n_sizes, n_extras, n_sources, n_takers, n_firstTaker, n_order, n_ordered, n_tally, n_behind]))]) [1] rfl) (hD.sub (ws' := [(h_net, .inr (1, [.int 0, n_kinds, n_inputs, n_tables, n_sizes, n_extras, n_sources, n_takers, n_firstTaker, n_order, n_ordered, n_tally, n_behind]))]) [1] (by decide) rfl) (ci := 1) (q0 := 0) rfl rfl) rfl rfl hl.1 rfl (lv_room (Nat.le_of_ble_eq_true rfl)) dX9_path_5 ⟨Nat.le_of_ble_eq_true rfl, Nat.le_of_ble_eq_true rfl⟩) hP hD hS hA [1] [0] (wr := [(h, .inr (9, [.ref h_net, h_stations, h_clock, h_rules, h_tables, h_timing, h_race, h_tracer, h_shown, h_trial, .int 0, .int 0]))]) rfl rfl (by decide) (by decide) (fun r_1 w H locs hw hP hD hS => ?_)
  obtain ⟨rfl, rfl⟩ := hw
  have hP : va_P E.1 vwCl [(h, .inr (9, [.ref h_net, h_stations, h_clock, h_rules, h_tables, h_timing, h_race, h_tracer, h_shown, h_trial, .int 0, .int 0])), (h_net, .inr (1, [.int 0, n_kinds, n_inputs, n_tables, n_sizes, n_extras, n_sources, n_takers, n_firstTaker, n_order, n_ordered, n_tally, n_behind]))] H := hP
  have hD : va_D A [(h, .inr (9, [.ref h_net, h_stations, h_clock, h_rules, h_tables, h_timing, h_race, h_tracer, h_shown, h_trial, .int 0, .int 0])), (h_net, .inr (1, [.int 0, n_kinds, n_inputs, n_tables, n_sizes, n_extras, n_sources, n_takers, n_firstTaker, n_order, n_ordered, n_tally, n_behind]))] := hD
  refine lv_if_eq (tgt := 15) hx hb dX9_path_8 (by decide) (fun c_2 => ?_) (fun c_2 => ?_)
  · refine lv_iconst (v := (-1)) hx hb dX9_path_15 (by decide) ?_
    exact ret_i hx hb hr hlk (hP.sub (ws' := []) [] rfl) (hD.sub (ws' := []) [] (by decide) rfl) hS rfl dX9_path_16 (Nat.le_of_ble_eq_true rfl) (Nat.le_of_ble_eq_true rfl) ⟨rfl, rfl⟩
  · exact absurd c_2 (by decide)
theorem dX9_common_0 : decode cX9_common 0 = .ok (.aload_n 0, 1) := by decide +kernel
theorem dX9_common_1 : decode cX9_common 1 = .ok (.getfield 12, 3) := by decide +kernel
theorem dX9_common_4 : decode cX9_common 4 = .ok (.iload_n 1, 1) := by decide +kernel
theorem dX9_common_5 : decode cX9_common 5 = .ok (.invokevirtual 103, 3) := by decide +kernel
theorem dX9_common_8 : decode cX9_common 8 = .ok (.ifCond .eq 26, 3) := by decide +kernel
theorem dX9_common_34 : decode cX9_common 34 = .ok (.iconst (-1), 1) := by decide +kernel
theorem dX9_common_35 : decode cX9_common 35 = .ok (.ireturn, 1) := by decide +kernel
def wo_f_common : List Cond := [.code yX9_common cX9_common 3 (some .int), .fieldLink RX9 12 "TimingHouse" "net" "LTimingHouse$Net;", .methodLink RX9 103 yX1_has, .instanceMethod yX1_has, .selects RX1 yX1_has yX1_has, .initialized RX1]
def wr_f_common : List Cond := (wsX90 ++ (w_k_has0 ++ ([])))
def w_f_common : List Cond := wo_f_common ++ wr_f_common
theorem wg_f_common : GW w_f_common := GW_app (GW_of (by decide +kernel)) (GW_app (GW_of (by decide +kernel)) (GW_app (wg_k_has0) (GW_nil)))
theorem i_f_common_X9 : ∀ w ∈ wsX90, w ∈ w_f_common := fun _ h => List.mem_append_right _ (List.mem_append_left _ h)
theorem g_f_common_k_has0_103 : GoodIn w_f_common (wsV RX9 103 RX1 yX1_has w_k_has0) := goodIn_app (gi_left (goodIn_of _ (by decide +kernel))) (fun w h => ⟨List.mem_append_right _ (List.mem_append_right _ (List.mem_append_left _ h)), wg_k_has0 w h⟩)
set_option maxHeartbeats 4000000 in
set_option maxRecDepth 100000 in
theorem f_common (l : Launch) (E : gE) (h : Nat) (h_net : Nat) (h_stations : Value) (h_clock : Value) (h_rules : Value) (h_tables : Value) (h_timing : Value) (h_race : Value) (h_tracer : Value) (h_shown : Value) (h_trial : Value) (n_kinds : Value) (n_inputs : Value) (n_tables : Value) (n_sizes : Value) (n_extras : Value) (n_sources : Value) (n_takers : Value) (n_firstTaker : Value) (n_order : Value) (n_ordered : Value) (n_tally : Value) (n_behind : Value) (p1 : Int32) (p2 : Int32) : CtI l E yX9_common w_f_common ({ frames := 1, cells := 0, slots := 0, locals := 21 }) [(h, .inr (9, [.ref h_net, h_stations, h_clock, h_rules, h_tables, h_timing, h_race, h_tracer, h_shown, h_trial, .int 0, .int 0])), (h_net, .inr (1, [.int 0, n_kinds, n_inputs, n_tables, n_sizes, n_extras, n_sources, n_takers, n_firstTaker, n_order, n_ordered, n_tally, n_behind]))] [.ref h, .int p1, .int p2] (fun r w => r = (-1) ∧ w = []) := by
  refine CtI.of (cc := cX9_common) (maxL := 3) (rt := (some .int)) (by decide) rfl (Nat.le_of_ble_eq_true rfl) ?_
  intro p e s m below meth c A B ls hl
  obtain ⟨hx, hb, hml, hr, hlk, hin, hts, hown, hK, hN, hA, hP, hD, hS⟩ := B
  have hown : s.vm.findClass RX9 = some m.cls := hown
  have hto : ∀ w ∈ wo_f_common, w.before _ s = true := fun w h => hts w (List.mem_append_left _ h)
  have hl : lv_has ls 3 [(0, .ref h), (1, .int p1), (2, .int p2)] := hl
  obtain ⟨H, hHe⟩ : ∃ H, H = s.heap := ⟨_, rfl⟩
  have hS : va_S A s.heap H [] := by rw [hHe]; exact hS
  have hP : va_P E.1 vwCl [(h, .inr (9, [.ref h_net, h_stations, h_clock, h_rules, h_tables, h_timing, h_race, h_tracer, h_shown, h_trial, .int 0, .int 0])), (h_net, .inr (1, [.int 0, n_kinds, n_inputs, n_tables, n_sizes, n_extras, n_sources, n_takers, n_firstTaker, n_order, n_ordered, n_tally, n_behind]))] H := by rw [hHe]; exact hP
  refine W_heap hHe ?_
  refine lv_aload_n hx hb dX9_common_0 rfl (lv_at hl 0 rfl) ?_
  refine va_get (D := E.1) (ci := 9) (v := .ref h_net) (own := RX9) (C := RX9) (T := TX9) (N := 12) hx hb hts i_f_common_X9 hown hK hP 0 rfl rfl 0 (by decide) (hto (.fieldLink RX9 12 "TimingHouse" "net" "LTimingHouse$Net;") (by decide +kernel)) (fun _ h9 => h9) rfl dX9_common_1 ?_
  refine lv_iload_n hx hb dX9_common_4 rfl (lv_at hl 1 rfl) ?_
  refine call_i (va_runV (As := [.int p1]) (rest := []) ⟨hx, hb, hml, hown, hts⟩ (k_has0 l E h_net (n_kinds) (n_inputs) (n_tables) (n_sizes) (n_extras) (n_sources) (n_takers) (n_firstTaker) (n_order) (n_ordered) (n_tally) (n_behind) p1 H.size) (cwV 1 hts g_f_common_k_has0_103 rfl rfl rfl (by decide +kernel) ⟨Nat.le_of_ble_eq_true rfl, Nat.le_of_ble_eq_true rfl⟩) (pre_V hK hN (hP.sub (ws' := [(h_net, .inr (1, [.int 0, n_kinds, n_inputs, n_tables, n_sizes, n_extras, n_sources, n_takers, n_firstTaker, n_order, n_ordered, n_tally, n_behind]))]) [1] rfl) (hD.sub (ws' := [(h_net, .inr (1, [.int 0, n_kinds, n_inputs, n_tables, n_sizes, n_extras, n_sources, n_takers, n_firstTaker, n_order, n_ordered, n_tally, n_behind]))]) [1] (by decide) rfl) (ci := 1) (q0 := 0) rfl rfl) rfl rfl hl.1 rfl (lv_room (Nat.le_of_ble_eq_true rfl)) dX9_common_5 ⟨Nat.le_of_ble_eq_true rfl, Nat.le_of_ble_eq_true rfl⟩) hP hD hS hA [1] [0] (wr := [(h, .inr (9, [.ref h_net, h_stations, h_clock, h_rules, h_tables, h_timing, h_race, h_tracer, h_shown, h_trial, .int 0, .int 0]))]) rfl rfl (by decide) (by decide) (fun r_1 w H locs hw hP hD hS => ?_)
  obtain ⟨rfl, rfl⟩ := hw
  have hP : va_P E.1 vwCl [(h, .inr (9, [.ref h_net, h_stations, h_clock, h_rules, h_tables, h_timing, h_race, h_tracer, h_shown, h_trial, .int 0, .int 0])), (h_net, .inr (1, [.int 0, n_kinds, n_inputs, n_tables, n_sizes, n_extras, n_sources, n_takers, n_firstTaker, n_order, n_ordered, n_tally, n_behind]))] H := hP
  have hD : va_D A [(h, .inr (9, [.ref h_net, h_stations, h_clock, h_rules, h_tables, h_timing, h_race, h_tracer, h_shown, h_trial, .int 0, .int 0])), (h_net, .inr (1, [.int 0, n_kinds, n_inputs, n_tables, n_sizes, n_extras, n_sources, n_takers, n_firstTaker, n_order, n_ordered, n_tally, n_behind]))] := hD
  refine lv_if_eq (tgt := 34) hx hb dX9_common_8 (by decide) (fun c_2 => ?_) (fun c_2 => ?_)
  · refine lv_iconst (v := (-1)) hx hb dX9_common_34 (by decide) ?_
    exact ret_i hx hb hr hlk (hP.sub (ws' := []) [] rfl) (hD.sub (ws' := []) [] (by decide) rfl) hS rfl dX9_common_35 (Nat.le_of_ble_eq_true rfl) (Nat.le_of_ble_eq_true rfl) ⟨rfl, rfl⟩
  · exact absurd c_2 (by decide)
theorem dX9_except_0 : decode cX9_except 0 = .ok (.iload_n 1, 1) := by decide +kernel
theorem dX9_except_1 : decode cX9_except 1 = .ok (.ifCond .eq 12, 3) := by decide +kernel
theorem dX9_except_13 : decode cX9_except 13 = .ok (.aload_n 0, 1) := by decide +kernel
theorem dX9_except_14 : decode cX9_except 14 = .ok (.iload_n 2, 1) := by decide +kernel
theorem dX9_except_15 : decode cX9_except 15 = .ok (.invokevirtual 186, 3) := by decide +kernel
theorem dX9_except_18 : decode cX9_except 18 = .ok (.ifCond .eq 20, 3) := by decide +kernel
theorem dX9_except_38 : decode cX9_except 38 = .ok (.iconst (-1), 1) := by decide +kernel
theorem dX9_except_39 : decode cX9_except 39 = .ok (.ireturn, 1) := by decide +kernel
theorem dX9_except_21 : decode cX9_except 21 = .ok (.aload_n 0, 1) := by decide +kernel
theorem dX9_except_22 : decode cX9_except 22 = .ok (.iload_n 3, 1) := by decide +kernel
theorem dX9_except_23 : decode cX9_except 23 = .ok (.invokevirtual 186, 3) := by decide +kernel
theorem dX9_except_26 : decode cX9_except 26 = .ok (.ifCond .eq 12, 3) := by decide +kernel
theorem dX9_except_29 : decode cX9_except 29 = .ok (.aload_n 0, 1) := by decide +kernel
theorem dX9_except_30 : decode cX9_except 30 = .ok (.iload 4, 2) := by decide +kernel
theorem dX9_except_32 : decode cX9_except 32 = .ok (.invokevirtual 186, 3) := by decide +kernel
theorem dX9_except_35 : decode cX9_except 35 = .ok (.ifCond .ne 5, 3) := by decide +kernel
theorem dX9_except_40 : decode cX9_except 40 = .ok (.iload_n 2, 1) := by decide +kernel
theorem dX9_except_41 : decode cX9_except 41 = .ok (.iconst (-1), 1) := by decide +kernel
theorem dX9_except_42 : decode cX9_except 42 = .ok (.if_icmp .ne 16, 3) := by decide +kernel
theorem dX9_except_45 : decode cX9_except 45 = .ok (.iload_n 3, 1) := by decide +kernel
theorem dX9_except_46 : decode cX9_except 46 = .ok (.iconst (-1), 1) := by decide +kernel
theorem dX9_except_47 : decode cX9_except 47 = .ok (.if_icmp .ne 11, 3) := by decide +kernel
theorem dX9_except_50 : decode cX9_except 50 = .ok (.iload 4, 2) := by decide +kernel
theorem dX9_except_52 : decode cX9_except 52 = .ok (.iconst (-1), 1) := by decide +kernel
theorem dX9_except_53 : decode cX9_except 53 = .ok (.if_icmp .ne 5, 3) := by decide +kernel
theorem dX9_except_56 : decode cX9_except 56 = .ok (.iconst (-1), 1) := by decide +kernel
theorem dX9_except_57 : decode cX9_except 57 = .ok (.ireturn, 1) := by decide +kernel
theorem dX9_except_4 : decode cX9_except 4 = .ok (.iload_n 1, 1) := by decide +kernel
theorem dX9_except_5 : decode cX9_except 5 = .ok (.iconst 2, 1) := by decide +kernel
theorem dX9_except_6 : decode cX9_except 6 = .ok (.iconst 4, 1) := by decide +kernel
theorem dX9_except_7 : decode cX9_except 7 = .ok (.invokestatic 88, 3) := by decide +kernel
theorem dX9_except_10 : decode cX9_except 10 = .ok (.ifCond .eq 28, 3) := by decide +kernel
def wo_f_except : List Cond := [.code yX9_except cX9_except 5 (some .int), .methodLink RX9 186 yX9_hasOrAny, .instanceMethod yX9_hasOrAny, .selects RX9 yX9_hasOrAny yX9_hasOrAny, .initialized RX9, .methodLink RX9 88 yX9_within, .static yX9_within]
def wr_f_except : List Cond := (w_f_hasOrAny ++ (w_k_within ++ ([])))
def w_f_except : List Cond := wo_f_except ++ wr_f_except
theorem wg_f_except : GW w_f_except := GW_app (GW_of (by decide +kernel)) (GW_app (wg_f_hasOrAny) (GW_app (wg_k_within) (GW_nil)))
theorem g_f_except_f_hasOrAny_186 : GoodIn w_f_except (wsV RX9 186 RX9 yX9_hasOrAny w_f_hasOrAny) := goodIn_app (gi_left (goodIn_of _ (by decide +kernel))) (fun w h => ⟨List.mem_append_right _ (List.mem_append_left _ h), wg_f_hasOrAny w h⟩)
theorem g_f_except_k_within_88 : GoodIn w_f_except (va_wsS RX9 88 yX9_within w_k_within) := goodIn_app (gi_left (goodIn_of _ (by decide +kernel))) (fun w h => ⟨List.mem_append_right _ (List.mem_append_right _ (List.mem_append_left _ h)), wg_k_within w h⟩)
set_option maxHeartbeats 4000000 in
set_option maxRecDepth 100000 in
theorem f_except (l : Launch) (E : gE) (h : Nat) (h_net : Nat) (h_stations : Value) (h_clock : Value) (h_rules : Value) (h_tables : Value) (h_timing : Value) (h_race : Value) (h_tracer : Value) (h_shown : Value) (h_trial : Value) (n_kinds : Value) (n_inputs : Value) (n_tables : Value) (n_sizes : Value) (n_extras : Value) (n_sources : Value) (n_takers : Value) (n_firstTaker : Value) (n_order : Value) (n_ordered : Value) (n_tally : Value) (n_behind : Value) (p1 : Int32) (p2 : Int32) (p3 : Int32) (p4 : Int32) : CtI l E yX9_except w_f_except ({ frames := 2, cells := 0, slots := 0, locals := 42 }) [(h, .inr (9, [.ref h_net, h_stations, h_clock, h_rules, h_tables, h_timing, h_race, h_tracer, h_shown, h_trial, .int 0, .int 0])), (h_net, .inr (1, [.int 0, n_kinds, n_inputs, n_tables, n_sizes, n_extras, n_sources, n_takers, n_firstTaker, n_order, n_ordered, n_tally, n_behind]))] [.ref h, .int p1, .int p2, .int p3, .int p4] (fun r w => r = (-1) ∧ w = []) := by
  refine CtI.of (cc := cX9_except) (maxL := 5) (rt := (some .int)) (by decide) rfl (Nat.le_of_ble_eq_true rfl) ?_
  intro p e s m below meth c A B ls hl
  obtain ⟨hx, hb, hml, hr, hlk, hin, hts, hown, hK, hN, hA, hP, hD, hS⟩ := B
  have hown : s.vm.findClass RX9 = some m.cls := hown
  have hto : ∀ w ∈ wo_f_except, w.before _ s = true := fun w h => hts w (List.mem_append_left _ h)
  have hl : lv_has ls 5 [(0, .ref h), (1, .int p1), (2, .int p2), (3, .int p3), (4, .int p4)] := hl
  obtain ⟨H, hHe⟩ : ∃ H, H = s.heap := ⟨_, rfl⟩
  have hS : va_S A s.heap H [] := by rw [hHe]; exact hS
  have hP : va_P E.1 vwCl [(h, .inr (9, [.ref h_net, h_stations, h_clock, h_rules, h_tables, h_timing, h_race, h_tracer, h_shown, h_trial, .int 0, .int 0])), (h_net, .inr (1, [.int 0, n_kinds, n_inputs, n_tables, n_sizes, n_extras, n_sources, n_takers, n_firstTaker, n_order, n_ordered, n_tally, n_behind]))] H := by rw [hHe]; exact hP
  refine W_heap hHe ?_
  refine lv_iload_n hx hb dX9_except_0 rfl (lv_at hl 1 rfl) ?_
  refine lv_if_eq (tgt := 13) hx hb dX9_except_1 (by decide) (fun c_1 => ?_) (fun c_1 => ?_)
  · have e_1 : p1.toInt = 0 := i3_eq c_1
    refine lv_aload_n hx hb dX9_except_13 rfl (lv_at hl 0 rfl) ?_
    refine lv_iload_n hx hb dX9_except_14 rfl (lv_at hl 2 rfl) ?_
    refine call_i (va_runV (As := [.int p2]) (rest := []) ⟨hx, hb, hml, hown, hts⟩ (f_hasOrAny l E h h_net (h_stations) (h_clock) (h_rules) (h_tables) (h_timing) (h_race) (h_tracer) (h_shown) (h_trial) (n_kinds) (n_inputs) (n_tables) (n_sizes) (n_extras) (n_sources) (n_takers) (n_firstTaker) (n_order) (n_ordered) (n_tally) (n_behind) p2 H.size) (cwV 1 hts g_f_except_f_hasOrAny_186 rfl rfl rfl (by decide +kernel) ⟨Nat.le_of_ble_eq_true rfl, Nat.le_of_ble_eq_true rfl⟩) (pre_V hK hN (hP.sub (ws' := [(h, .inr (9, [.ref h_net, h_stations, h_clock, h_rules, h_tables, h_timing, h_race, h_tracer, h_shown, h_trial, .int 0, .int 0])), (h_net, .inr (1, [.int 0, n_kinds, n_inputs, n_tables, n_sizes, n_extras, n_sources, n_takers, n_firstTaker, n_order, n_ordered, n_tally, n_behind]))]) [0, 1] rfl) (hD.sub (ws' := [(h, .inr (9, [.ref h_net, h_stations, h_clock, h_rules, h_tables, h_timing, h_race, h_tracer, h_shown, h_trial, .int 0, .int 0])), (h_net, .inr (1, [.int 0, n_kinds, n_inputs, n_tables, n_sizes, n_extras, n_sources, n_takers, n_firstTaker, n_order, n_ordered, n_tally, n_behind]))]) [0, 1] (by decide) rfl) (ci := 9) (q0 := 0) rfl rfl) rfl rfl hl.1 rfl (lv_room (Nat.le_of_ble_eq_true rfl)) dX9_except_15 ⟨Nat.le_of_ble_eq_true rfl, Nat.le_of_ble_eq_true rfl⟩) hP hD hS hA [0, 1] [] (wr := []) rfl rfl (by decide) (by decide) (fun r_2 w H locs hw hP hD hS => ?_)
    obtain ⟨hr_2, rfl⟩ := hw
    have hr_2 : r_2 = if p2.toInt = (-1) then 1 else 0 := hr_2
    have hP : va_P E.1 vwCl [(h, .inr (9, [.ref h_net, h_stations, h_clock, h_rules, h_tables, h_timing, h_race, h_tracer, h_shown, h_trial, .int 0, .int 0])), (h_net, .inr (1, [.int 0, n_kinds, n_inputs, n_tables, n_sizes, n_extras, n_sources, n_takers, n_firstTaker, n_order, n_ordered, n_tally, n_behind]))] H := hP
    have hD : va_D A [(h, .inr (9, [.ref h_net, h_stations, h_clock, h_rules, h_tables, h_timing, h_race, h_tracer, h_shown, h_trial, .int 0, .int 0])), (h_net, .inr (1, [.int 0, n_kinds, n_inputs, n_tables, n_sizes, n_extras, n_sources, n_takers, n_firstTaker, n_order, n_ordered, n_tally, n_behind]))] := hD
    refine lv_if_eq (tgt := 38) hx hb dX9_except_18 (by decide) (fun c_3 => ?_) (fun c_3 => ?_)
    · have e_3 : ¬ (p2.toInt = (-1)) := bi_neg hr_2 c_3
      refine lv_iconst (v := (-1)) hx hb dX9_except_38 (by decide) ?_
      exact ret_i hx hb hr hlk (hP.sub (ws' := []) [] rfl) (hD.sub (ws' := []) [] (by decide) rfl) hS rfl dX9_except_39 (Nat.le_of_ble_eq_true rfl) (Nat.le_of_ble_eq_true rfl) ⟨rfl, rfl⟩
    · have e_3 : p2.toInt = (-1) := bi_pos hr_2 c_3
      refine lv_aload_n hx hb dX9_except_21 rfl (lv_at hl 0 rfl) ?_
      refine lv_iload_n hx hb dX9_except_22 rfl (lv_at hl 3 rfl) ?_
      refine call_i (va_runV (As := [.int p3]) (rest := []) ⟨hx, hb, hml, hown, hts⟩ (f_hasOrAny l E h h_net (h_stations) (h_clock) (h_rules) (h_tables) (h_timing) (h_race) (h_tracer) (h_shown) (h_trial) (n_kinds) (n_inputs) (n_tables) (n_sizes) (n_extras) (n_sources) (n_takers) (n_firstTaker) (n_order) (n_ordered) (n_tally) (n_behind) p3 H.size) (cwV 1 hts g_f_except_f_hasOrAny_186 rfl rfl rfl (by decide +kernel) ⟨Nat.le_of_ble_eq_true rfl, Nat.le_of_ble_eq_true rfl⟩) (pre_V hK hN (hP.sub (ws' := [(h, .inr (9, [.ref h_net, h_stations, h_clock, h_rules, h_tables, h_timing, h_race, h_tracer, h_shown, h_trial, .int 0, .int 0])), (h_net, .inr (1, [.int 0, n_kinds, n_inputs, n_tables, n_sizes, n_extras, n_sources, n_takers, n_firstTaker, n_order, n_ordered, n_tally, n_behind]))]) [0, 1] rfl) (hD.sub (ws' := [(h, .inr (9, [.ref h_net, h_stations, h_clock, h_rules, h_tables, h_timing, h_race, h_tracer, h_shown, h_trial, .int 0, .int 0])), (h_net, .inr (1, [.int 0, n_kinds, n_inputs, n_tables, n_sizes, n_extras, n_sources, n_takers, n_firstTaker, n_order, n_ordered, n_tally, n_behind]))]) [0, 1] (by decide) rfl) (ci := 9) (q0 := 0) rfl rfl) rfl rfl hl.1 rfl (lv_room (Nat.le_of_ble_eq_true rfl)) dX9_except_23 ⟨Nat.le_of_ble_eq_true rfl, Nat.le_of_ble_eq_true rfl⟩) hP hD hS hA [0, 1] [] (wr := []) rfl rfl (by decide) (by decide) (fun r_4 w H locs hw hP hD hS => ?_)
      obtain ⟨hr_4, rfl⟩ := hw
      have hr_4 : r_4 = if p3.toInt = (-1) then 1 else 0 := hr_4
      have hP : va_P E.1 vwCl [(h, .inr (9, [.ref h_net, h_stations, h_clock, h_rules, h_tables, h_timing, h_race, h_tracer, h_shown, h_trial, .int 0, .int 0])), (h_net, .inr (1, [.int 0, n_kinds, n_inputs, n_tables, n_sizes, n_extras, n_sources, n_takers, n_firstTaker, n_order, n_ordered, n_tally, n_behind]))] H := hP
      have hD : va_D A [(h, .inr (9, [.ref h_net, h_stations, h_clock, h_rules, h_tables, h_timing, h_race, h_tracer, h_shown, h_trial, .int 0, .int 0])), (h_net, .inr (1, [.int 0, n_kinds, n_inputs, n_tables, n_sizes, n_extras, n_sources, n_takers, n_firstTaker, n_order, n_ordered, n_tally, n_behind]))] := hD
      refine lv_if_eq (tgt := 38) hx hb dX9_except_26 (by decide) (fun c_5 => ?_) (fun c_5 => ?_)
      · have e_5 : ¬ (p3.toInt = (-1)) := bi_neg hr_4 c_5
        refine lv_iconst (v := (-1)) hx hb dX9_except_38 (by decide) ?_
        exact ret_i hx hb hr hlk (hP.sub (ws' := []) [] rfl) (hD.sub (ws' := []) [] (by decide) rfl) hS rfl dX9_except_39 (Nat.le_of_ble_eq_true rfl) (Nat.le_of_ble_eq_true rfl) ⟨rfl, rfl⟩
      · have e_5 : p3.toInt = (-1) := bi_pos hr_4 c_5
        refine lv_aload_n hx hb dX9_except_29 rfl (lv_at hl 0 rfl) ?_
        refine lv_iload hx hb dX9_except_30 (lv_at hl 4 rfl) ?_
        refine call_i (va_runV (As := [.int p4]) (rest := []) ⟨hx, hb, hml, hown, hts⟩ (f_hasOrAny l E h h_net (h_stations) (h_clock) (h_rules) (h_tables) (h_timing) (h_race) (h_tracer) (h_shown) (h_trial) (n_kinds) (n_inputs) (n_tables) (n_sizes) (n_extras) (n_sources) (n_takers) (n_firstTaker) (n_order) (n_ordered) (n_tally) (n_behind) p4 H.size) (cwV 1 hts g_f_except_f_hasOrAny_186 rfl rfl rfl (by decide +kernel) ⟨Nat.le_of_ble_eq_true rfl, Nat.le_of_ble_eq_true rfl⟩) (pre_V hK hN (hP.sub (ws' := [(h, .inr (9, [.ref h_net, h_stations, h_clock, h_rules, h_tables, h_timing, h_race, h_tracer, h_shown, h_trial, .int 0, .int 0])), (h_net, .inr (1, [.int 0, n_kinds, n_inputs, n_tables, n_sizes, n_extras, n_sources, n_takers, n_firstTaker, n_order, n_ordered, n_tally, n_behind]))]) [0, 1] rfl) (hD.sub (ws' := [(h, .inr (9, [.ref h_net, h_stations, h_clock, h_rules, h_tables, h_timing, h_race, h_tracer, h_shown, h_trial, .int 0, .int 0])), (h_net, .inr (1, [.int 0, n_kinds, n_inputs, n_tables, n_sizes, n_extras, n_sources, n_takers, n_firstTaker, n_order, n_ordered, n_tally, n_behind]))]) [0, 1] (by decide) rfl) (ci := 9) (q0 := 0) rfl rfl) rfl rfl hl.1 rfl (lv_room (Nat.le_of_ble_eq_true rfl)) dX9_except_32 ⟨Nat.le_of_ble_eq_true rfl, Nat.le_of_ble_eq_true rfl⟩) hP hD hS hA [0, 1] [] (wr := []) rfl rfl (by decide) (by decide) (fun r_6 w H locs hw hP hD hS => ?_)
        obtain ⟨hr_6, rfl⟩ := hw
        have hr_6 : r_6 = if p4.toInt = (-1) then 1 else 0 := hr_6
        have hP : va_P E.1 vwCl [(h, .inr (9, [.ref h_net, h_stations, h_clock, h_rules, h_tables, h_timing, h_race, h_tracer, h_shown, h_trial, .int 0, .int 0])), (h_net, .inr (1, [.int 0, n_kinds, n_inputs, n_tables, n_sizes, n_extras, n_sources, n_takers, n_firstTaker, n_order, n_ordered, n_tally, n_behind]))] H := hP
        have hD : va_D A [(h, .inr (9, [.ref h_net, h_stations, h_clock, h_rules, h_tables, h_timing, h_race, h_tracer, h_shown, h_trial, .int 0, .int 0])), (h_net, .inr (1, [.int 0, n_kinds, n_inputs, n_tables, n_sizes, n_extras, n_sources, n_takers, n_firstTaker, n_order, n_ordered, n_tally, n_behind]))] := hD
        refine lv_if_ne (tgt := 40) hx hb dX9_except_35 (by decide) (fun c_7 => ?_) (fun c_7 => ?_)
        · have e_7 : p4.toInt = (-1) := bi_pos hr_6 c_7
          refine lv_iload_n hx hb dX9_except_40 rfl (lv_at hl 2 rfl) ?_
          refine lv_iconst (v := (-1)) hx hb dX9_except_41 (by decide) ?_
          refine lv_icmp_ne (tgt := 58) hx hb dX9_except_42 (by decide) (fun c_8 => ?_) (fun c_8 => ?_)
          · have e_8 : p2.toInt ≠ (-1) := i3_ne c_8
            exfalso; omega
          · have e_8 : p2.toInt = (-1) := i3_eq c_8
            refine lv_iload_n hx hb dX9_except_45 rfl (lv_at hl 3 rfl) ?_
            refine lv_iconst (v := (-1)) hx hb dX9_except_46 (by decide) ?_
            refine lv_icmp_ne (tgt := 58) hx hb dX9_except_47 (by decide) (fun c_9 => ?_) (fun c_9 => ?_)
            · have e_9 : p3.toInt ≠ (-1) := i3_ne c_9
              exfalso; omega
            · have e_9 : p3.toInt = (-1) := i3_eq c_9
              refine lv_iload hx hb dX9_except_50 (lv_at hl 4 rfl) ?_
              refine lv_iconst (v := (-1)) hx hb dX9_except_52 (by decide) ?_
              refine lv_icmp_ne (tgt := 58) hx hb dX9_except_53 (by decide) (fun c_10 => ?_) (fun c_10 => ?_)
              · have e_10 : p4.toInt ≠ (-1) := i3_ne c_10
                exfalso; omega
              · have e_10 : p4.toInt = (-1) := i3_eq c_10
                refine lv_iconst (v := (-1)) hx hb dX9_except_56 (by decide) ?_
                exact ret_i hx hb hr hlk (hP.sub (ws' := []) [] rfl) (hD.sub (ws' := []) [] (by decide) rfl) hS rfl dX9_except_57 (Nat.le_of_ble_eq_true rfl) (Nat.le_of_ble_eq_true rfl) ⟨rfl, rfl⟩
        · have e_7 : ¬ (p4.toInt = (-1)) := bi_neg hr_6 c_7
          refine lv_iconst (v := (-1)) hx hb dX9_except_38 (by decide) ?_
          exact ret_i hx hb hr hlk (hP.sub (ws' := []) [] rfl) (hD.sub (ws' := []) [] (by decide) rfl) hS rfl dX9_except_39 (Nat.le_of_ble_eq_true rfl) (Nat.le_of_ble_eq_true rfl) ⟨rfl, rfl⟩
  · have e_1 : p1.toInt ≠ 0 := i3_ne c_1
    refine lv_iload_n hx hb dX9_except_4 rfl (lv_at hl 1 rfl) ?_
    refine lv_iconst (v := 2) hx hb dX9_except_5 (by decide) ?_
    refine lv_iconst (v := 4) hx hb dX9_except_6 (by decide) ?_
    refine call_i (va_runS (As := [.int p1, .int 2, .int 4]) (rest := []) ⟨hx, hb, hml, hown, hts⟩ (k_within l E p1 2 4 H.size) (va_cwS 3 hts g_f_except_k_within_88 rfl rfl rfl (by decide +kernel) ⟨Nat.le_of_ble_eq_true rfl, Nat.le_of_ble_eq_true rfl⟩) (pre_S hK hN (hP.sub (ws' := []) [] rfl) (hD.sub (ws' := []) [] (by decide) rfl)) rfl rfl hl.1 rfl (lv_room (Nat.le_of_ble_eq_true rfl)) dX9_except_7 ⟨Nat.le_of_ble_eq_true rfl, Nat.le_of_ble_eq_true rfl⟩) hP hD hS hA [] [0, 1] (wr := [(h, .inr (9, [.ref h_net, h_stations, h_clock, h_rules, h_tables, h_timing, h_race, h_tracer, h_shown, h_trial, .int 0, .int 0])), (h_net, .inr (1, [.int 0, n_kinds, n_inputs, n_tables, n_sizes, n_extras, n_sources, n_takers, n_firstTaker, n_order, n_ordered, n_tally, n_behind]))]) rfl rfl (by decide) (by decide) (fun r_11 w H locs hw hP hD hS => ?_)
    obtain ⟨hr_11, rfl⟩ := hw
    have hr_11 : r_11 = if 2 ≤ p1.toInt ∧ p1.toInt ≤ 4 then 1 else 0 := hr_11
    have hP : va_P E.1 vwCl [(h, .inr (9, [.ref h_net, h_stations, h_clock, h_rules, h_tables, h_timing, h_race, h_tracer, h_shown, h_trial, .int 0, .int 0])), (h_net, .inr (1, [.int 0, n_kinds, n_inputs, n_tables, n_sizes, n_extras, n_sources, n_takers, n_firstTaker, n_order, n_ordered, n_tally, n_behind]))] H := hP
    have hD : va_D A [(h, .inr (9, [.ref h_net, h_stations, h_clock, h_rules, h_tables, h_timing, h_race, h_tracer, h_shown, h_trial, .int 0, .int 0])), (h_net, .inr (1, [.int 0, n_kinds, n_inputs, n_tables, n_sizes, n_extras, n_sources, n_takers, n_firstTaker, n_order, n_ordered, n_tally, n_behind]))] := hD
    refine lv_if_eq (tgt := 38) hx hb dX9_except_10 (by decide) (fun c_12 => ?_) (fun c_12 => ?_)
    · have e_12 : ¬ (2 ≤ p1.toInt ∧ p1.toInt ≤ 4) := bi_neg hr_11 c_12
      refine lv_iconst (v := (-1)) hx hb dX9_except_38 (by decide) ?_
      exact ret_i hx hb hr hlk (hP.sub (ws' := []) [] rfl) (hD.sub (ws' := []) [] (by decide) rfl) hS rfl dX9_except_39 (Nat.le_of_ble_eq_true rfl) (Nat.le_of_ble_eq_true rfl) ⟨rfl, rfl⟩
    · have e_12 : 2 ≤ p1.toInt ∧ p1.toInt ≤ 4 := bi_pos hr_11 c_12
      refine lv_aload_n hx hb dX9_except_13 rfl (lv_at hl 0 rfl) ?_
      refine lv_iload_n hx hb dX9_except_14 rfl (lv_at hl 2 rfl) ?_
      refine call_i (va_runV (As := [.int p2]) (rest := []) ⟨hx, hb, hml, hown, hts⟩ (f_hasOrAny l E h h_net (h_stations) (h_clock) (h_rules) (h_tables) (h_timing) (h_race) (h_tracer) (h_shown) (h_trial) (n_kinds) (n_inputs) (n_tables) (n_sizes) (n_extras) (n_sources) (n_takers) (n_firstTaker) (n_order) (n_ordered) (n_tally) (n_behind) p2 H.size) (cwV 1 hts g_f_except_f_hasOrAny_186 rfl rfl rfl (by decide +kernel) ⟨Nat.le_of_ble_eq_true rfl, Nat.le_of_ble_eq_true rfl⟩) (pre_V hK hN (hP.sub (ws' := [(h, .inr (9, [.ref h_net, h_stations, h_clock, h_rules, h_tables, h_timing, h_race, h_tracer, h_shown, h_trial, .int 0, .int 0])), (h_net, .inr (1, [.int 0, n_kinds, n_inputs, n_tables, n_sizes, n_extras, n_sources, n_takers, n_firstTaker, n_order, n_ordered, n_tally, n_behind]))]) [0, 1] rfl) (hD.sub (ws' := [(h, .inr (9, [.ref h_net, h_stations, h_clock, h_rules, h_tables, h_timing, h_race, h_tracer, h_shown, h_trial, .int 0, .int 0])), (h_net, .inr (1, [.int 0, n_kinds, n_inputs, n_tables, n_sizes, n_extras, n_sources, n_takers, n_firstTaker, n_order, n_ordered, n_tally, n_behind]))]) [0, 1] (by decide) rfl) (ci := 9) (q0 := 0) rfl rfl) rfl rfl hl.1 rfl (lv_room (Nat.le_of_ble_eq_true rfl)) dX9_except_15 ⟨Nat.le_of_ble_eq_true rfl, Nat.le_of_ble_eq_true rfl⟩) hP hD hS hA [0, 1] [] (wr := []) rfl rfl (by decide) (by decide) (fun r_13 w H locs hw hP hD hS => ?_)
      obtain ⟨hr_13, rfl⟩ := hw
      have hr_13 : r_13 = if p2.toInt = (-1) then 1 else 0 := hr_13
      have hP : va_P E.1 vwCl [(h, .inr (9, [.ref h_net, h_stations, h_clock, h_rules, h_tables, h_timing, h_race, h_tracer, h_shown, h_trial, .int 0, .int 0])), (h_net, .inr (1, [.int 0, n_kinds, n_inputs, n_tables, n_sizes, n_extras, n_sources, n_takers, n_firstTaker, n_order, n_ordered, n_tally, n_behind]))] H := hP
      have hD : va_D A [(h, .inr (9, [.ref h_net, h_stations, h_clock, h_rules, h_tables, h_timing, h_race, h_tracer, h_shown, h_trial, .int 0, .int 0])), (h_net, .inr (1, [.int 0, n_kinds, n_inputs, n_tables, n_sizes, n_extras, n_sources, n_takers, n_firstTaker, n_order, n_ordered, n_tally, n_behind]))] := hD
      refine lv_if_eq (tgt := 38) hx hb dX9_except_18 (by decide) (fun c_14 => ?_) (fun c_14 => ?_)
      · have e_14 : ¬ (p2.toInt = (-1)) := bi_neg hr_13 c_14
        refine lv_iconst (v := (-1)) hx hb dX9_except_38 (by decide) ?_
        exact ret_i hx hb hr hlk (hP.sub (ws' := []) [] rfl) (hD.sub (ws' := []) [] (by decide) rfl) hS rfl dX9_except_39 (Nat.le_of_ble_eq_true rfl) (Nat.le_of_ble_eq_true rfl) ⟨rfl, rfl⟩
      · have e_14 : p2.toInt = (-1) := bi_pos hr_13 c_14
        refine lv_aload_n hx hb dX9_except_21 rfl (lv_at hl 0 rfl) ?_
        refine lv_iload_n hx hb dX9_except_22 rfl (lv_at hl 3 rfl) ?_
        refine call_i (va_runV (As := [.int p3]) (rest := []) ⟨hx, hb, hml, hown, hts⟩ (f_hasOrAny l E h h_net (h_stations) (h_clock) (h_rules) (h_tables) (h_timing) (h_race) (h_tracer) (h_shown) (h_trial) (n_kinds) (n_inputs) (n_tables) (n_sizes) (n_extras) (n_sources) (n_takers) (n_firstTaker) (n_order) (n_ordered) (n_tally) (n_behind) p3 H.size) (cwV 1 hts g_f_except_f_hasOrAny_186 rfl rfl rfl (by decide +kernel) ⟨Nat.le_of_ble_eq_true rfl, Nat.le_of_ble_eq_true rfl⟩) (pre_V hK hN (hP.sub (ws' := [(h, .inr (9, [.ref h_net, h_stations, h_clock, h_rules, h_tables, h_timing, h_race, h_tracer, h_shown, h_trial, .int 0, .int 0])), (h_net, .inr (1, [.int 0, n_kinds, n_inputs, n_tables, n_sizes, n_extras, n_sources, n_takers, n_firstTaker, n_order, n_ordered, n_tally, n_behind]))]) [0, 1] rfl) (hD.sub (ws' := [(h, .inr (9, [.ref h_net, h_stations, h_clock, h_rules, h_tables, h_timing, h_race, h_tracer, h_shown, h_trial, .int 0, .int 0])), (h_net, .inr (1, [.int 0, n_kinds, n_inputs, n_tables, n_sizes, n_extras, n_sources, n_takers, n_firstTaker, n_order, n_ordered, n_tally, n_behind]))]) [0, 1] (by decide) rfl) (ci := 9) (q0 := 0) rfl rfl) rfl rfl hl.1 rfl (lv_room (Nat.le_of_ble_eq_true rfl)) dX9_except_23 ⟨Nat.le_of_ble_eq_true rfl, Nat.le_of_ble_eq_true rfl⟩) hP hD hS hA [0, 1] [] (wr := []) rfl rfl (by decide) (by decide) (fun r_15 w H locs hw hP hD hS => ?_)
        obtain ⟨hr_15, rfl⟩ := hw
        have hr_15 : r_15 = if p3.toInt = (-1) then 1 else 0 := hr_15
        have hP : va_P E.1 vwCl [(h, .inr (9, [.ref h_net, h_stations, h_clock, h_rules, h_tables, h_timing, h_race, h_tracer, h_shown, h_trial, .int 0, .int 0])), (h_net, .inr (1, [.int 0, n_kinds, n_inputs, n_tables, n_sizes, n_extras, n_sources, n_takers, n_firstTaker, n_order, n_ordered, n_tally, n_behind]))] H := hP
        have hD : va_D A [(h, .inr (9, [.ref h_net, h_stations, h_clock, h_rules, h_tables, h_timing, h_race, h_tracer, h_shown, h_trial, .int 0, .int 0])), (h_net, .inr (1, [.int 0, n_kinds, n_inputs, n_tables, n_sizes, n_extras, n_sources, n_takers, n_firstTaker, n_order, n_ordered, n_tally, n_behind]))] := hD
        refine lv_if_eq (tgt := 38) hx hb dX9_except_26 (by decide) (fun c_16 => ?_) (fun c_16 => ?_)
        · have e_16 : ¬ (p3.toInt = (-1)) := bi_neg hr_15 c_16
          refine lv_iconst (v := (-1)) hx hb dX9_except_38 (by decide) ?_
          exact ret_i hx hb hr hlk (hP.sub (ws' := []) [] rfl) (hD.sub (ws' := []) [] (by decide) rfl) hS rfl dX9_except_39 (Nat.le_of_ble_eq_true rfl) (Nat.le_of_ble_eq_true rfl) ⟨rfl, rfl⟩
        · have e_16 : p3.toInt = (-1) := bi_pos hr_15 c_16
          refine lv_aload_n hx hb dX9_except_29 rfl (lv_at hl 0 rfl) ?_
          refine lv_iload hx hb dX9_except_30 (lv_at hl 4 rfl) ?_
          refine call_i (va_runV (As := [.int p4]) (rest := []) ⟨hx, hb, hml, hown, hts⟩ (f_hasOrAny l E h h_net (h_stations) (h_clock) (h_rules) (h_tables) (h_timing) (h_race) (h_tracer) (h_shown) (h_trial) (n_kinds) (n_inputs) (n_tables) (n_sizes) (n_extras) (n_sources) (n_takers) (n_firstTaker) (n_order) (n_ordered) (n_tally) (n_behind) p4 H.size) (cwV 1 hts g_f_except_f_hasOrAny_186 rfl rfl rfl (by decide +kernel) ⟨Nat.le_of_ble_eq_true rfl, Nat.le_of_ble_eq_true rfl⟩) (pre_V hK hN (hP.sub (ws' := [(h, .inr (9, [.ref h_net, h_stations, h_clock, h_rules, h_tables, h_timing, h_race, h_tracer, h_shown, h_trial, .int 0, .int 0])), (h_net, .inr (1, [.int 0, n_kinds, n_inputs, n_tables, n_sizes, n_extras, n_sources, n_takers, n_firstTaker, n_order, n_ordered, n_tally, n_behind]))]) [0, 1] rfl) (hD.sub (ws' := [(h, .inr (9, [.ref h_net, h_stations, h_clock, h_rules, h_tables, h_timing, h_race, h_tracer, h_shown, h_trial, .int 0, .int 0])), (h_net, .inr (1, [.int 0, n_kinds, n_inputs, n_tables, n_sizes, n_extras, n_sources, n_takers, n_firstTaker, n_order, n_ordered, n_tally, n_behind]))]) [0, 1] (by decide) rfl) (ci := 9) (q0 := 0) rfl rfl) rfl rfl hl.1 rfl (lv_room (Nat.le_of_ble_eq_true rfl)) dX9_except_32 ⟨Nat.le_of_ble_eq_true rfl, Nat.le_of_ble_eq_true rfl⟩) hP hD hS hA [0, 1] [] (wr := []) rfl rfl (by decide) (by decide) (fun r_17 w H locs hw hP hD hS => ?_)
          obtain ⟨hr_17, rfl⟩ := hw
          have hr_17 : r_17 = if p4.toInt = (-1) then 1 else 0 := hr_17
          have hP : va_P E.1 vwCl [(h, .inr (9, [.ref h_net, h_stations, h_clock, h_rules, h_tables, h_timing, h_race, h_tracer, h_shown, h_trial, .int 0, .int 0])), (h_net, .inr (1, [.int 0, n_kinds, n_inputs, n_tables, n_sizes, n_extras, n_sources, n_takers, n_firstTaker, n_order, n_ordered, n_tally, n_behind]))] H := hP
          have hD : va_D A [(h, .inr (9, [.ref h_net, h_stations, h_clock, h_rules, h_tables, h_timing, h_race, h_tracer, h_shown, h_trial, .int 0, .int 0])), (h_net, .inr (1, [.int 0, n_kinds, n_inputs, n_tables, n_sizes, n_extras, n_sources, n_takers, n_firstTaker, n_order, n_ordered, n_tally, n_behind]))] := hD
          refine lv_if_ne (tgt := 40) hx hb dX9_except_35 (by decide) (fun c_18 => ?_) (fun c_18 => ?_)
          · have e_18 : p4.toInt = (-1) := bi_pos hr_17 c_18
            refine lv_iload_n hx hb dX9_except_40 rfl (lv_at hl 2 rfl) ?_
            refine lv_iconst (v := (-1)) hx hb dX9_except_41 (by decide) ?_
            refine lv_icmp_ne (tgt := 58) hx hb dX9_except_42 (by decide) (fun c_19 => ?_) (fun c_19 => ?_)
            · have e_19 : p2.toInt ≠ (-1) := i3_ne c_19
              exfalso; omega
            · have e_19 : p2.toInt = (-1) := i3_eq c_19
              refine lv_iload_n hx hb dX9_except_45 rfl (lv_at hl 3 rfl) ?_
              refine lv_iconst (v := (-1)) hx hb dX9_except_46 (by decide) ?_
              refine lv_icmp_ne (tgt := 58) hx hb dX9_except_47 (by decide) (fun c_20 => ?_) (fun c_20 => ?_)
              · have e_20 : p3.toInt ≠ (-1) := i3_ne c_20
                exfalso; omega
              · have e_20 : p3.toInt = (-1) := i3_eq c_20
                refine lv_iload hx hb dX9_except_50 (lv_at hl 4 rfl) ?_
                refine lv_iconst (v := (-1)) hx hb dX9_except_52 (by decide) ?_
                refine lv_icmp_ne (tgt := 58) hx hb dX9_except_53 (by decide) (fun c_21 => ?_) (fun c_21 => ?_)
                · have e_21 : p4.toInt ≠ (-1) := i3_ne c_21
                  exfalso; omega
                · have e_21 : p4.toInt = (-1) := i3_eq c_21
                  refine lv_iconst (v := (-1)) hx hb dX9_except_56 (by decide) ?_
                  exact ret_i hx hb hr hlk (hP.sub (ws' := []) [] rfl) (hD.sub (ws' := []) [] (by decide) rfl) hS rfl dX9_except_57 (Nat.le_of_ble_eq_true rfl) (Nat.le_of_ble_eq_true rfl) ⟨rfl, rfl⟩
          · have e_18 : ¬ (p4.toInt = (-1)) := bi_neg hr_17 c_18
            refine lv_iconst (v := (-1)) hx hb dX9_except_38 (by decide) ?_
            exact ret_i hx hb hr hlk (hP.sub (ws' := []) [] rfl) (hD.sub (ws' := []) [] (by decide) rfl) hS rfl dX9_except_39 (Nat.le_of_ble_eq_true rfl) (Nat.le_of_ble_eq_true rfl) ⟨rfl, rfl⟩
theorem dX9_unexcept_0 : decode cX9_unexcept 0 = .ok (.aload_n 0, 1) := by decide +kernel
theorem dX9_unexcept_1 : decode cX9_unexcept 1 = .ok (.getfield 33, 3) := by decide +kernel
theorem dX9_unexcept_4 : decode cX9_unexcept 4 = .ok (.getfield 189, 3) := by decide +kernel
theorem dX9_unexcept_7 : decode cX9_unexcept 7 = .ok (.ifCond .gt 5, 3) := by decide +kernel
theorem dX9_unexcept_10 : decode cX9_unexcept 10 = .ok (.iconst (-1), 1) := by decide +kernel
theorem dX9_unexcept_11 : decode cX9_unexcept 11 = .ok (.ireturn, 1) := by decide +kernel
def wo_f_unexcept : List Cond := [.code yX9_unexcept cX9_unexcept 1 (some .int), .fieldLink RX9 33 "TimingHouse" "rules" "LTimingHouse$Rules;"]
def wr_f_unexcept : List Cond := (wsX30 ++ (wsX90 ++ ([])))
def w_f_unexcept : List Cond := wo_f_unexcept ++ wr_f_unexcept
theorem wg_f_unexcept : GW w_f_unexcept := GW_app (GW_of (by decide +kernel)) (GW_app (GW_of (by decide +kernel)) (GW_app (GW_of (by decide +kernel)) (GW_nil)))
theorem i_f_unexcept_X3 : ∀ w ∈ wsX30, w ∈ w_f_unexcept := fun _ h => List.mem_append_right _ (List.mem_append_left _ h)
theorem i_f_unexcept_X9 : ∀ w ∈ wsX90, w ∈ w_f_unexcept := fun _ h => List.mem_append_right _ (List.mem_append_right _ (List.mem_append_left _ h))
set_option maxHeartbeats 4000000 in
set_option maxRecDepth 100000 in
theorem f_unexcept (l : Launch) (E : gE) (h : Nat) (h_rules : Nat) (h_net : Value) (h_stations : Value) (h_clock : Value) (h_tables : Value) (h_timing : Value) (h_race : Value) (h_tracer : Value) (h_shown : Value) (h_trial : Value) (r_periods : Value) (r_froms : Value) (r_throughs : Value) (r_tos : Value) (r_bits : Value) : CtI l E yX9_unexcept w_f_unexcept ({ frames := 0, cells := 0, slots := 0, locals := 0 }) [(h, .inr (9, [h_net, h_stations, h_clock, .ref h_rules, h_tables, h_timing, h_race, h_tracer, h_shown, h_trial, .int 0, .int 0])), (h_rules, .inr (3, [.int 0, r_periods, r_froms, r_throughs, r_tos, r_bits]))] [.ref h] (fun r w => r = (-1) ∧ w = []) := by
  refine CtI.of (cc := cX9_unexcept) (maxL := 1) (rt := (some .int)) (by decide) rfl (Nat.le_of_ble_eq_true rfl) ?_
  intro p e s m below meth c A B ls hl
  obtain ⟨hx, hb, hml, hr, hlk, hin, hts, hown, hK, hN, hA, hP, hD, hS⟩ := B
  have hown : s.vm.findClass RX9 = some m.cls := hown
  have hto : ∀ w ∈ wo_f_unexcept, w.before _ s = true := fun w h => hts w (List.mem_append_left _ h)
  have hl : lv_has ls 1 [(0, .ref h)] := hl
  obtain ⟨H, hHe⟩ : ∃ H, H = s.heap := ⟨_, rfl⟩
  have hS : va_S A s.heap H [] := by rw [hHe]; exact hS
  have hP : va_P E.1 vwCl [(h, .inr (9, [h_net, h_stations, h_clock, .ref h_rules, h_tables, h_timing, h_race, h_tracer, h_shown, h_trial, .int 0, .int 0])), (h_rules, .inr (3, [.int 0, r_periods, r_froms, r_throughs, r_tos, r_bits]))] H := by rw [hHe]; exact hP
  refine W_heap hHe ?_
  refine lv_aload_n hx hb dX9_unexcept_0 rfl (lv_at hl 0 rfl) ?_
  refine va_get (D := E.1) (ci := 9) (v := .ref h_rules) (own := RX9) (C := RX9) (T := TX9) (N := 12) hx hb hts i_f_unexcept_X9 hown hK hP 0 rfl rfl 3 (by decide) (hto (.fieldLink RX9 33 "TimingHouse" "rules" "LTimingHouse$Rules;") (by decide +kernel)) (fun _ h9 => h9) rfl dX9_unexcept_1 ?_
  refine va_getN (D := E.1) (ci := 3) (v := .int 0) (own := RX9) (ref := "TimingHouse$Rules") (host := "TimingHouse") (C := RX3) (T := TX3) (N := 6) hx hb hts i_f_unexcept_X3 hown hK hP 1 rfl rfl 0 (by decide) (nw_F hN 43 rfl) (fun _ h9 => h9) rfl dX9_unexcept_4 ?_
  refine lv_if_gt (tgt := 12) hx hb dX9_unexcept_7 (by decide) (fun c_1 => ?_) (fun c_1 => ?_)
  · exact absurd c_1 (by decide)
  · refine lv_iconst (v := (-1)) hx hb dX9_unexcept_10 (by decide) ?_
    exact ret_i hx hb hr hlk (hP.sub (ws' := []) [] rfl) (hD.sub (ws' := []) [] (by decide) rfl) hS rfl dX9_unexcept_11 (Nat.le_of_ble_eq_true rfl) (Nat.le_of_ble_eq_true rfl) ⟨rfl, rfl⟩
theorem dX9_step_0 : decode cX9_step 0 = .ok (.aload_n 0, 1) := by decide +kernel
theorem dX9_step_1 : decode cX9_step 1 = .ok (.getfield 74, 3) := by decide +kernel
theorem dX9_step_4 : decode cX9_step 4 = .ok (.getfield 266, 3) := by decide +kernel
theorem dX9_step_7 : decode cX9_step 7 = .ok (.ifCond .ne 6, 3) := by decide +kernel
theorem dX9_step_10 : decode cX9_step 10 = .ok (.ldc 254, 2) := by decide +kernel
theorem dX9_step_12 : decode cX9_step 12 = .ok (.ireturn, 1) := by decide +kernel
def wo_f_step : List Cond := [.code yX9_step cX9_step 3 (some .int), .fieldLink RX9 74 "TimingHouse" "shown" "LTimingHouse$Trail;", .constant RX9 254 1000000000]
def wr_f_step : List Cond := (wsX80 ++ (wsX90 ++ ([])))
def w_f_step : List Cond := wo_f_step ++ wr_f_step
theorem wg_f_step : GW w_f_step := GW_app (GW_of (by decide +kernel)) (GW_app (GW_of (by decide +kernel)) (GW_app (GW_of (by decide +kernel)) (GW_nil)))
theorem i_f_step_X8 : ∀ w ∈ wsX80, w ∈ w_f_step := fun _ h => List.mem_append_right _ (List.mem_append_left _ h)
theorem i_f_step_X9 : ∀ w ∈ wsX90, w ∈ w_f_step := fun _ h => List.mem_append_right _ (List.mem_append_right _ (List.mem_append_left _ h))
set_option maxHeartbeats 4000000 in
set_option maxRecDepth 100000 in
theorem f_step (l : Launch) (E : gE) (h : Nat) (h_shown : Nat) (h_net : Value) (h_stations : Value) (h_clock : Value) (h_rules : Value) (h_tables : Value) (h_timing : Value) (h_race : Value) (h_tracer : Value) (h_trial : Value) (s_cells : Value) (s_inputs : Value) (s_edges : Value) (s_lates : Value) (s_slackThere : Value) (s_holdThere : Value) (p1 : Int32) (p2 : Int32) : CtI l E yX9_step w_f_step ({ frames := 0, cells := 0, slots := 0, locals := 0 }) [(h, .inr (9, [h_net, h_stations, h_clock, h_rules, h_tables, h_timing, h_race, h_tracer, .ref h_shown, h_trial, .int 0, .int 0])), (h_shown, .inr (8, [.int 0, s_cells, s_inputs, s_edges, s_lates, s_slackThere, s_holdThere]))] [.ref h, .int p1, .int p2] (fun r w => r = 1000000000 ∧ w = []) := by
  refine CtI.of (cc := cX9_step) (maxL := 3) (rt := (some .int)) (by decide) rfl (Nat.le_of_ble_eq_true rfl) ?_
  intro p e s m below meth c A B ls hl
  obtain ⟨hx, hb, hml, hr, hlk, hin, hts, hown, hK, hN, hA, hP, hD, hS⟩ := B
  have hown : s.vm.findClass RX9 = some m.cls := hown
  have hto : ∀ w ∈ wo_f_step, w.before _ s = true := fun w h => hts w (List.mem_append_left _ h)
  have hl : lv_has ls 3 [(0, .ref h), (1, .int p1), (2, .int p2)] := hl
  obtain ⟨H, hHe⟩ : ∃ H, H = s.heap := ⟨_, rfl⟩
  have hS : va_S A s.heap H [] := by rw [hHe]; exact hS
  have hP : va_P E.1 vwCl [(h, .inr (9, [h_net, h_stations, h_clock, h_rules, h_tables, h_timing, h_race, h_tracer, .ref h_shown, h_trial, .int 0, .int 0])), (h_shown, .inr (8, [.int 0, s_cells, s_inputs, s_edges, s_lates, s_slackThere, s_holdThere]))] H := by rw [hHe]; exact hP
  refine W_heap hHe ?_
  refine lv_aload_n hx hb dX9_step_0 rfl (lv_at hl 0 rfl) ?_
  refine va_get (D := E.1) (ci := 9) (v := .ref h_shown) (own := RX9) (C := RX9) (T := TX9) (N := 12) hx hb hts i_f_step_X9 hown hK hP 0 rfl rfl 8 (by decide) (hto (.fieldLink RX9 74 "TimingHouse" "shown" "LTimingHouse$Trail;") (by decide +kernel)) (fun _ h9 => h9) rfl dX9_step_1 ?_
  refine va_getN (D := E.1) (ci := 8) (v := .int 0) (own := RX9) (ref := "TimingHouse$Trail") (host := "TimingHouse") (C := RX8) (T := TX8) (N := 7) hx hb hts i_f_step_X8 hown hK hP 1 rfl rfl 0 (by decide) (nw_F hN 73 rfl) (fun _ h9 => h9) rfl dX9_step_4 ?_
  refine lv_if_ne (tgt := 13) hx hb dX9_step_7 (by decide) (fun c_1 => ?_) (fun c_1 => ?_)
  · exact absurd c_1 (by decide)
  · refine lv_ldc (v := 1000000000) hx hb hown (hto (.constant RX9 254 1000000000) (by decide +kernel)) dX9_step_10 ?_
    exact ret_i hx hb hr hlk (hP.sub (ws' := []) [] rfl) (hD.sub (ws' := []) [] (by decide) rfl) hS rfl dX9_step_12 (Nat.le_of_ble_eq_true rfl) (Nat.le_of_ble_eq_true rfl) ⟨rfl, rfl⟩
theorem dX9_area_0 : decode cX9_area 0 = .ok (.iconst 0, 1) := by decide +kernel
theorem dX9_area_1 : decode cX9_area 1 = .ok (.istore_n 1, 1) := by decide +kernel
theorem dX9_area_2 : decode cX9_area 2 = .ok (.iconst 0, 1) := by decide +kernel
theorem dX9_area_3 : decode cX9_area 3 = .ok (.istore_n 2, 1) := by decide +kernel
theorem dX9_area_4 : decode cX9_area 4 = .ok (.iload_n 2, 1) := by decide +kernel
theorem dX9_area_5 : decode cX9_area 5 = .ok (.aload_n 0, 1) := by decide +kernel
theorem dX9_area_6 : decode cX9_area 6 = .ok (.getfield 12, 3) := by decide +kernel
theorem dX9_area_9 : decode cX9_area 9 = .ok (.getfield 92, 3) := by decide +kernel
theorem dX9_area_12 : decode cX9_area 12 = .ok (.if_icmp .ge 44, 3) := by decide +kernel
theorem dX9_area_56 : decode cX9_area 56 = .ok (.iload_n 1, 1) := by decide +kernel
theorem dX9_area_57 : decode cX9_area 57 = .ok (.ireturn, 1) := by decide +kernel
def wo_f_area : List Cond := [.code yX9_area cX9_area 3 (some .int), .fieldLink RX9 12 "TimingHouse" "net" "LTimingHouse$Net;"]
def wr_f_area : List Cond := (wsX10 ++ (wsX90 ++ ([])))
def w_f_area : List Cond := wo_f_area ++ wr_f_area
theorem wg_f_area : GW w_f_area := GW_app (GW_of (by decide +kernel)) (GW_app (GW_of (by decide +kernel)) (GW_app (GW_of (by decide +kernel)) (GW_nil)))
theorem i_f_area_X1 : ∀ w ∈ wsX10, w ∈ w_f_area := fun _ h => List.mem_append_right _ (List.mem_append_left _ h)
theorem i_f_area_X9 : ∀ w ∈ wsX90, w ∈ w_f_area := fun _ h => List.mem_append_right _ (List.mem_append_right _ (List.mem_append_left _ h))
set_option maxHeartbeats 4000000 in
set_option maxRecDepth 100000 in
theorem f_area (l : Launch) (E : gE) (h : Nat) (h_net : Nat) (h_stations : Value) (h_clock : Value) (h_rules : Value) (h_tables : Value) (h_timing : Value) (h_race : Value) (h_tracer : Value) (h_shown : Value) (h_trial : Value) (n_kinds : Value) (n_inputs : Value) (n_tables : Value) (n_sizes : Value) (n_extras : Value) (n_sources : Value) (n_takers : Value) (n_firstTaker : Value) (n_order : Value) (n_ordered : Value) (n_tally : Value) (n_behind : Value) : CtI l E yX9_area w_f_area ({ frames := 0, cells := 0, slots := 0, locals := 0 }) [(h, .inr (9, [.ref h_net, h_stations, h_clock, h_rules, h_tables, h_timing, h_race, h_tracer, h_shown, h_trial, .int 0, .int 0])), (h_net, .inr (1, [.int 0, n_kinds, n_inputs, n_tables, n_sizes, n_extras, n_sources, n_takers, n_firstTaker, n_order, n_ordered, n_tally, n_behind]))] [.ref h] (fun r w => r = 0 ∧ w = []) := by
  refine CtI.of (cc := cX9_area) (maxL := 3) (rt := (some .int)) (by decide) rfl (Nat.le_of_ble_eq_true rfl) ?_
  intro p e s m below meth c A B ls hl
  obtain ⟨hx, hb, hml, hr, hlk, hin, hts, hown, hK, hN, hA, hP, hD, hS⟩ := B
  have hown : s.vm.findClass RX9 = some m.cls := hown
  have hto : ∀ w ∈ wo_f_area, w.before _ s = true := fun w h => hts w (List.mem_append_left _ h)
  have hl : lv_has ls 3 [(0, .ref h)] := hl
  obtain ⟨H, hHe⟩ : ∃ H, H = s.heap := ⟨_, rfl⟩
  have hS : va_S A s.heap H [] := by rw [hHe]; exact hS
  have hP : va_P E.1 vwCl [(h, .inr (9, [.ref h_net, h_stations, h_clock, h_rules, h_tables, h_timing, h_race, h_tracer, h_shown, h_trial, .int 0, .int 0])), (h_net, .inr (1, [.int 0, n_kinds, n_inputs, n_tables, n_sizes, n_extras, n_sources, n_takers, n_firstTaker, n_order, n_ordered, n_tally, n_behind]))] H := by rw [hHe]; exact hP
  refine W_heap hHe ?_
  refine lv_iconst (v := 0) hx hb dX9_area_0 (by decide) ?_
  refine lv_istore_n (lv' := [(1, .int 0), (0, .ref h)]) hx hb dX9_area_1 rfl hl (by decide) rfl (fun ls hl => ?_)
  refine lv_iconst (v := 0) hx hb dX9_area_2 (by decide) ?_
  refine lv_istore_n (lv' := [(2, .int 0), (1, .int 0), (0, .ref h)]) hx hb dX9_area_3 rfl hl (by decide) rfl (fun ls hl => ?_)
  refine lv_iload_n hx hb dX9_area_4 rfl (lv_at hl 0 rfl) ?_
  refine lv_aload_n hx hb dX9_area_5 rfl (lv_at hl 2 rfl) ?_
  refine va_get (D := E.1) (ci := 9) (v := .ref h_net) (own := RX9) (C := RX9) (T := TX9) (N := 12) hx hb hts i_f_area_X9 hown hK hP 0 rfl rfl 0 (by decide) (hto (.fieldLink RX9 12 "TimingHouse" "net" "LTimingHouse$Net;") (by decide +kernel)) (fun _ h9 => h9) rfl dX9_area_6 ?_
  refine va_getN (D := E.1) (ci := 1) (v := .int 0) (own := RX9) (ref := "TimingHouse$Net") (host := "TimingHouse") (C := RX1) (T := TX1) (N := 13) hx hb hts i_f_area_X1 hown hK hP 1 rfl rfl 0 (by decide) (nw_F hN 2 rfl) (fun _ h9 => h9) rfl dX9_area_9 ?_
  refine lv_icmp_ge (tgt := 56) hx hb dX9_area_12 (by decide) (fun c_1 => ?_) (fun c_1 => ?_)
  · refine lv_iload_n hx hb dX9_area_56 rfl (lv_at hl 1 rfl) ?_
    exact ret_i hx hb hr hlk (hP.sub (ws' := []) [] rfl) (hD.sub (ws' := []) [] (by decide) rfl) hS rfl dX9_area_57 (Nat.le_of_ble_eq_true rfl) (Nat.le_of_ble_eq_true rfl) ⟨rfl, rfl⟩
  · exact absurd c_1 (by decide)
theorem dX9_count_0 : decode cX9_count 0 = .ok (.iload_n 1, 1) := by decide +kernel
theorem dX9_count_1 : decode cX9_count 1 = .ok (.tableswitch 63 0 3 #[31, 39, 47, 55], 31) := by decide +kernel
theorem dX9_count_32 : decode cX9_count 32 = .ok (.aload_n 0, 1) := by decide +kernel
theorem dX9_count_33 : decode cX9_count 33 = .ok (.getfield 12, 3) := by decide +kernel
theorem dX9_count_36 : decode cX9_count 36 = .ok (.getfield 92, 3) := by decide +kernel
theorem dX9_count_39 : decode cX9_count 39 = .ok (.ireturn, 1) := by decide +kernel
theorem dX9_count_40 : decode cX9_count 40 = .ok (.aload_n 0, 1) := by decide +kernel
theorem dX9_count_41 : decode cX9_count 41 = .ok (.getfield 26, 3) := by decide +kernel
theorem dX9_count_44 : decode cX9_count 44 = .ok (.getfield 181, 3) := by decide +kernel
theorem dX9_count_47 : decode cX9_count 47 = .ok (.ireturn, 1) := by decide +kernel
theorem dX9_count_48 : decode cX9_count 48 = .ok (.aload_n 0, 1) := by decide +kernel
theorem dX9_count_49 : decode cX9_count 49 = .ok (.getfield 33, 3) := by decide +kernel
theorem dX9_count_52 : decode cX9_count 52 = .ok (.getfield 189, 3) := by decide +kernel
theorem dX9_count_55 : decode cX9_count 55 = .ok (.ireturn, 1) := by decide +kernel
theorem dX9_count_56 : decode cX9_count 56 = .ok (.aload_n 0, 1) := by decide +kernel
theorem dX9_count_57 : decode cX9_count 57 = .ok (.getfield 26, 3) := by decide +kernel
theorem dX9_count_60 : decode cX9_count 60 = .ok (.getfield 178, 3) := by decide +kernel
theorem dX9_count_63 : decode cX9_count 63 = .ok (.ireturn, 1) := by decide +kernel
theorem dX9_count_64 : decode cX9_count 64 = .ok (.iconst (-1), 1) := by decide +kernel
theorem dX9_count_65 : decode cX9_count 65 = .ok (.ireturn, 1) := by decide +kernel
def wo_f_count : List Cond := [.code yX9_count cX9_count 2 (some .int), .fieldLink RX9 12 "TimingHouse" "net" "LTimingHouse$Net;", .fieldLink RX9 26 "TimingHouse" "clock" "LTimingHouse$Clock;", .fieldLink RX9 33 "TimingHouse" "rules" "LTimingHouse$Rules;"]
def wr_f_count : List Cond := (wsX00 ++ (wsX10 ++ (wsX30 ++ (wsX90 ++ ([])))))
def w_f_count : List Cond := wo_f_count ++ wr_f_count
theorem wg_f_count : GW w_f_count := GW_app (GW_of (by decide +kernel)) (GW_app (GW_of (by decide +kernel)) (GW_app (GW_of (by decide +kernel)) (GW_app (GW_of (by decide +kernel)) (GW_app (GW_of (by decide +kernel)) (GW_nil)))))
theorem i_f_count_X0 : ∀ w ∈ wsX00, w ∈ w_f_count := fun _ h => List.mem_append_right _ (List.mem_append_left _ h)
theorem i_f_count_X1 : ∀ w ∈ wsX10, w ∈ w_f_count := fun _ h => List.mem_append_right _ (List.mem_append_right _ (List.mem_append_left _ h))
theorem i_f_count_X3 : ∀ w ∈ wsX30, w ∈ w_f_count := fun _ h => List.mem_append_right _ (List.mem_append_right _ (List.mem_append_right _ (List.mem_append_left _ h)))
theorem i_f_count_X9 : ∀ w ∈ wsX90, w ∈ w_f_count := fun _ h => List.mem_append_right _ (List.mem_append_right _ (List.mem_append_right _ (List.mem_append_right _ (List.mem_append_left _ h))))
set_option maxHeartbeats 4000000 in
set_option maxRecDepth 100000 in
theorem f_count (l : Launch) (E : gE) (h : Nat) (h_net : Nat) (h_clock : Nat) (h_rules : Nat) (h_stations : Value) (h_tables : Value) (h_timing : Value) (h_race : Value) (h_tracer : Value) (h_shown : Value) (h_trial : Value) (n_kinds : Value) (n_inputs : Value) (n_tables : Value) (n_sizes : Value) (n_extras : Value) (n_sources : Value) (n_takers : Value) (n_firstTaker : Value) (n_order : Value) (n_ordered : Value) (n_tally : Value) (n_behind : Value) (k_parents : Value) (k_earlySums : Value) (k_lateSums : Value) (r_periods : Value) (r_froms : Value) (r_throughs : Value) (r_tos : Value) (r_bits : Value) (p1 : Int32) : CtI l E yX9_count w_f_count ({ frames := 0, cells := 0, slots := 0, locals := 0 }) [(h, .inr (9, [.ref h_net, h_stations, .ref h_clock, .ref h_rules, h_tables, h_timing, h_race, h_tracer, h_shown, h_trial, .int 0, .int 0])), (h_net, .inr (1, [.int 0, n_kinds, n_inputs, n_tables, n_sizes, n_extras, n_sources, n_takers, n_firstTaker, n_order, n_ordered, n_tally, n_behind])), (h_clock, .inr (0, [.int 1000, .int 0, k_parents, k_earlySums, k_lateSums])), (h_rules, .inr (3, [.int 0, r_periods, r_froms, r_throughs, r_tos, r_bits]))] [.ref h, .int p1] (fun r w => r = (if p1.toInt = 3 then 1000 else if 0 ≤ p1.toInt ∧ p1.toInt < 3 then 0 else -1) ∧ w = []) := by
  refine CtI.of (cc := cX9_count) (maxL := 2) (rt := (some .int)) (by decide) rfl (Nat.le_of_ble_eq_true rfl) ?_
  intro p e s m below meth c A B ls hl
  obtain ⟨hx, hb, hml, hr, hlk, hin, hts, hown, hK, hN, hA, hP, hD, hS⟩ := B
  have hown : s.vm.findClass RX9 = some m.cls := hown
  have hto : ∀ w ∈ wo_f_count, w.before _ s = true := fun w h => hts w (List.mem_append_left _ h)
  have hl : lv_has ls 2 [(0, .ref h), (1, .int p1)] := hl
  obtain ⟨H, hHe⟩ : ∃ H, H = s.heap := ⟨_, rfl⟩
  have hS : va_S A s.heap H [] := by rw [hHe]; exact hS
  have hP : va_P E.1 vwCl [(h, .inr (9, [.ref h_net, h_stations, .ref h_clock, .ref h_rules, h_tables, h_timing, h_race, h_tracer, h_shown, h_trial, .int 0, .int 0])), (h_net, .inr (1, [.int 0, n_kinds, n_inputs, n_tables, n_sizes, n_extras, n_sources, n_takers, n_firstTaker, n_order, n_ordered, n_tally, n_behind])), (h_clock, .inr (0, [.int 1000, .int 0, k_parents, k_earlySums, k_lateSums])), (h_rules, .inr (3, [.int 0, r_periods, r_froms, r_throughs, r_tos, r_bits]))] H := by rw [hHe]; exact hP
  refine W_heap hHe ?_
  refine lv_iload_n hx hb dX9_count_0 rfl (lv_at hl 1 rfl) ?_
  by_cases h_1 : p1.toInt = 0
  · refine lv_tableIn (off := 31) (tgt := 32) hx hb dX9_count_1 (by omega) (by omega) (by rw [h_1]; rfl) (by decide) ?_
    refine lv_aload_n hx hb dX9_count_32 rfl (lv_at hl 0 rfl) ?_
    refine va_get (D := E.1) (ci := 9) (v := .ref h_net) (own := RX9) (C := RX9) (T := TX9) (N := 12) hx hb hts i_f_count_X9 hown hK hP 0 rfl rfl 0 (by decide) (hto (.fieldLink RX9 12 "TimingHouse" "net" "LTimingHouse$Net;") (by decide +kernel)) (fun _ h9 => h9) rfl dX9_count_33 ?_
    refine va_getN (D := E.1) (ci := 1) (v := .int 0) (own := RX9) (ref := "TimingHouse$Net") (host := "TimingHouse") (C := RX1) (T := TX1) (N := 13) hx hb hts i_f_count_X1 hown hK hP 1 rfl rfl 0 (by decide) (nw_F hN 2 rfl) (fun _ h9 => h9) rfl dX9_count_36 ?_
    exact ret_i hx hb hr hlk (hP.sub (ws' := []) [] rfl) (hD.sub (ws' := []) [] (by decide) rfl) hS rfl dX9_count_39 (Nat.le_of_ble_eq_true rfl) (Nat.le_of_ble_eq_true rfl) ⟨(by first | assumption | ((repeat' split) <;> first | rfl | (exfalso; omega))), rfl⟩
  by_cases h_2 : p1.toInt = 1
  · refine lv_tableIn (off := 39) (tgt := 40) hx hb dX9_count_1 (by omega) (by omega) (by rw [h_2]; rfl) (by decide) ?_
    refine lv_aload_n hx hb dX9_count_40 rfl (lv_at hl 0 rfl) ?_
    refine va_get (D := E.1) (ci := 9) (v := .ref h_clock) (own := RX9) (C := RX9) (T := TX9) (N := 12) hx hb hts i_f_count_X9 hown hK hP 0 rfl rfl 2 (by decide) (hto (.fieldLink RX9 26 "TimingHouse" "clock" "LTimingHouse$Clock;") (by decide +kernel)) (fun _ h9 => h9) rfl dX9_count_41 ?_
    refine va_getN (D := E.1) (ci := 0) (v := .int 0) (own := RX9) (ref := "TimingHouse$Clock") (host := "TimingHouse") (C := RX0) (T := TX0) (N := 5) hx hb hts i_f_count_X0 hown hK hP 2 rfl rfl 1 (by decide) (nw_F hN 42 rfl) (fun _ h9 => h9) rfl dX9_count_44 ?_
    exact ret_i hx hb hr hlk (hP.sub (ws' := []) [] rfl) (hD.sub (ws' := []) [] (by decide) rfl) hS rfl dX9_count_47 (Nat.le_of_ble_eq_true rfl) (Nat.le_of_ble_eq_true rfl) ⟨(by first | assumption | ((repeat' split) <;> first | rfl | (exfalso; omega))), rfl⟩
  by_cases h_3 : p1.toInt = 2
  · refine lv_tableIn (off := 47) (tgt := 48) hx hb dX9_count_1 (by omega) (by omega) (by rw [h_3]; rfl) (by decide) ?_
    refine lv_aload_n hx hb dX9_count_48 rfl (lv_at hl 0 rfl) ?_
    refine va_get (D := E.1) (ci := 9) (v := .ref h_rules) (own := RX9) (C := RX9) (T := TX9) (N := 12) hx hb hts i_f_count_X9 hown hK hP 0 rfl rfl 3 (by decide) (hto (.fieldLink RX9 33 "TimingHouse" "rules" "LTimingHouse$Rules;") (by decide +kernel)) (fun _ h9 => h9) rfl dX9_count_49 ?_
    refine va_getN (D := E.1) (ci := 3) (v := .int 0) (own := RX9) (ref := "TimingHouse$Rules") (host := "TimingHouse") (C := RX3) (T := TX3) (N := 6) hx hb hts i_f_count_X3 hown hK hP 3 rfl rfl 0 (by decide) (nw_F hN 43 rfl) (fun _ h9 => h9) rfl dX9_count_52 ?_
    exact ret_i hx hb hr hlk (hP.sub (ws' := []) [] rfl) (hD.sub (ws' := []) [] (by decide) rfl) hS rfl dX9_count_55 (Nat.le_of_ble_eq_true rfl) (Nat.le_of_ble_eq_true rfl) ⟨(by first | assumption | ((repeat' split) <;> first | rfl | (exfalso; omega))), rfl⟩
  by_cases h_4 : p1.toInt = 3
  · refine lv_tableIn (off := 55) (tgt := 56) hx hb dX9_count_1 (by omega) (by omega) (by rw [h_4]; rfl) (by decide) ?_
    refine lv_aload_n hx hb dX9_count_56 rfl (lv_at hl 0 rfl) ?_
    refine va_get (D := E.1) (ci := 9) (v := .ref h_clock) (own := RX9) (C := RX9) (T := TX9) (N := 12) hx hb hts i_f_count_X9 hown hK hP 0 rfl rfl 2 (by decide) (hto (.fieldLink RX9 26 "TimingHouse" "clock" "LTimingHouse$Clock;") (by decide +kernel)) (fun _ h9 => h9) rfl dX9_count_57 ?_
    refine va_getN (D := E.1) (ci := 0) (v := .int 1000) (own := RX9) (ref := "TimingHouse$Clock") (host := "TimingHouse") (C := RX0) (T := TX0) (N := 5) hx hb hts i_f_count_X0 hown hK hP 2 rfl rfl 0 (by decide) (nw_F hN 40 rfl) (fun _ h9 => h9) rfl dX9_count_60 ?_
    exact ret_i hx hb hr hlk (hP.sub (ws' := []) [] rfl) (hD.sub (ws' := []) [] (by decide) rfl) hS rfl dX9_count_63 (Nat.le_of_ble_eq_true rfl) (Nat.le_of_ble_eq_true rfl) ⟨(by first | assumption | ((repeat' split) <;> first | rfl | (exfalso; omega))), rfl⟩
  refine lv_tableOut (tgt := 64) hx hb dX9_count_1 (by omega) (by decide) ?_
  refine lv_iconst (v := (-1)) hx hb dX9_count_64 (by decide) ?_
  exact ret_i hx hb hr hlk (hP.sub (ws' := []) [] rfl) (hD.sub (ws' := []) [] (by decide) rfl) hS rfl dX9_count_65 (Nat.le_of_ble_eq_true rfl) (Nat.le_of_ble_eq_true rfl) ⟨(by first | assumption | ((repeat' split) <;> first | rfl | (exfalso; omega))), rfl⟩
theorem dX9_period_0 : decode cX9_period 0 = .ok (.iload_n 1, 1) := by decide +kernel
theorem dX9_period_1 : decode cX9_period 1 = .ok (.iconst 1, 1) := by decide +kernel
theorem dX9_period_2 : decode cX9_period 2 = .ok (.ldc 177, 2) := by decide +kernel
theorem dX9_period_4 : decode cX9_period 4 = .ok (.invokestatic 88, 3) := by decide +kernel
theorem dX9_period_7 : decode cX9_period 7 = .ok (.ifCond .ne 5, 3) := by decide +kernel
theorem dX9_period_12 : decode cX9_period 12 = .ok (.aload_n 0, 1) := by decide +kernel
theorem dX9_period_13 : decode cX9_period 13 = .ok (.getfield 26, 3) := by decide +kernel
theorem dX9_period_16 : decode cX9_period 16 = .ok (.getfield 178, 3) := by decide +kernel
theorem dX9_period_19 : decode cX9_period 19 = .ok (.istore_n 2, 1) := by decide +kernel
theorem dX9_period_20 : decode cX9_period 20 = .ok (.aload_n 0, 1) := by decide +kernel
theorem dX9_period_21 : decode cX9_period 21 = .ok (.getfield 26, 3) := by decide +kernel
theorem dX9_period_24 : decode cX9_period 24 = .ok (.iload_n 1, 1) := by decide +kernel
theorem dX9_period_25 : decode cX9_period 25 = .ok (.putfield 178, 3) := by decide +kernel
theorem dX9_period_28 : decode cX9_period 28 = .ok (.aload_n 0, 1) := by decide +kernel
theorem dX9_period_29 : decode cX9_period 29 = .ok (.invokevirtual 96, 3) := by decide +kernel
theorem dX9_period_32 : decode cX9_period 32 = .ok (.iload_n 2, 1) := by decide +kernel
theorem dX9_period_33 : decode cX9_period 33 = .ok (.ireturn, 1) := by decide +kernel
theorem dX9_period_10 : decode cX9_period 10 = .ok (.iconst (-1), 1) := by decide +kernel
theorem dX9_period_11 : decode cX9_period 11 = .ok (.ireturn, 1) := by decide +kernel
def wo_f_period : List Cond := [.code yX9_period cX9_period 3 (some .int), .constant RX9 177 1000000, .methodLink RX9 88 yX9_within, .static yX9_within, .initialized RX9, .fieldLink RX9 26 "TimingHouse" "clock" "LTimingHouse$Clock;", .methodLink RX9 96 yX9_forget, .instanceMethod yX9_forget, .selects RX9 yX9_forget yX9_forget]
def wr_f_period : List Cond := (wsX00 ++ (wsX90 ++ (w_k_within ++ (w_k_forget ++ ([])))))
def w_f_period : List Cond := wo_f_period ++ wr_f_period
theorem wg_f_period : GW w_f_period := GW_app (GW_of (by decide +kernel)) (GW_app (GW_of (by decide +kernel)) (GW_app (GW_of (by decide +kernel)) (GW_app (wg_k_within) (GW_app (wg_k_forget) (GW_nil)))))
theorem i_f_period_X0 : ∀ w ∈ wsX00, w ∈ w_f_period := fun _ h => List.mem_append_right _ (List.mem_append_left _ h)
theorem i_f_period_X9 : ∀ w ∈ wsX90, w ∈ w_f_period := fun _ h => List.mem_append_right _ (List.mem_append_right _ (List.mem_append_left _ h))
theorem g_f_period_k_within_88 : GoodIn w_f_period (va_wsS RX9 88 yX9_within w_k_within) := goodIn_app (gi_left (goodIn_of _ (by decide +kernel))) (fun w h => ⟨List.mem_append_right _ (List.mem_append_right _ (List.mem_append_right _ (List.mem_append_left _ h))), wg_k_within w h⟩)
theorem g_f_period_k_forget_96 : GoodIn w_f_period (wsV RX9 96 RX9 yX9_forget w_k_forget) := goodIn_app (gi_left (goodIn_of _ (by decide +kernel))) (fun w h => ⟨List.mem_append_right _ (List.mem_append_right _ (List.mem_append_right _ (List.mem_append_right _ (List.mem_append_left _ h)))), wg_k_forget w h⟩)
set_option maxHeartbeats 4000000 in
set_option maxRecDepth 100000 in
theorem f_period (l : Launch) (E : gE) (h : Nat) (h_clock : Nat) (h_net : Value) (h_stations : Value) (h_rules : Value) (h_tables : Value) (h_timing : Value) (h_race : Value) (h_tracer : Value) (h_shown : Value) (h_trial : Value) (k_nodes : Value) (k_parents : Value) (k_earlySums : Value) (k_lateSums : Value) (p1 : Int32) : CtI l E yX9_period w_f_period ({ frames := 1, cells := 0, slots := 0, locals := 22 }) [(h, .inr (9, [h_net, h_stations, .ref h_clock, h_rules, h_tables, h_timing, h_race, h_tracer, h_shown, h_trial, .int 0, .int 0])), (h_clock, .inr (0, [.int 1000, k_nodes, k_parents, k_earlySums, k_lateSums]))] [.ref h, .int p1] (fun r w => r = (if 1 ≤ p1.toInt ∧ p1.toInt ≤ 1000000 then 1000 else -1) ∧ w = []) := by
  refine CtI.of (cc := cX9_period) (maxL := 3) (rt := (some .int)) (by decide) rfl (Nat.le_of_ble_eq_true rfl) ?_
  intro p e s m below meth c A B ls hl
  obtain ⟨hx, hb, hml, hr, hlk, hin, hts, hown, hK, hN, hA, hP, hD, hS⟩ := B
  have hown : s.vm.findClass RX9 = some m.cls := hown
  have hto : ∀ w ∈ wo_f_period, w.before _ s = true := fun w h => hts w (List.mem_append_left _ h)
  have hl : lv_has ls 3 [(0, .ref h), (1, .int p1)] := hl
  obtain ⟨H, hHe⟩ : ∃ H, H = s.heap := ⟨_, rfl⟩
  have hS : va_S A s.heap H [] := by rw [hHe]; exact hS
  have hP : va_P E.1 vwCl [(h, .inr (9, [h_net, h_stations, .ref h_clock, h_rules, h_tables, h_timing, h_race, h_tracer, h_shown, h_trial, .int 0, .int 0])), (h_clock, .inr (0, [.int 1000, k_nodes, k_parents, k_earlySums, k_lateSums]))] H := by rw [hHe]; exact hP
  refine W_heap hHe ?_
  refine lv_iload_n hx hb dX9_period_0 rfl (lv_at hl 1 rfl) ?_
  refine lv_iconst (v := 1) hx hb dX9_period_1 (by decide) ?_
  refine lv_ldc (v := 1000000) hx hb hown (hto (.constant RX9 177 1000000) (by decide +kernel)) dX9_period_2 ?_
  refine call_i (va_runS (As := [.int p1, .int 1, .int 1000000]) (rest := []) ⟨hx, hb, hml, hown, hts⟩ (k_within l E p1 1 1000000 H.size) (va_cwS 3 hts g_f_period_k_within_88 rfl rfl rfl (by decide +kernel) ⟨Nat.le_of_ble_eq_true rfl, Nat.le_of_ble_eq_true rfl⟩) (pre_S hK hN (hP.sub (ws' := []) [] rfl) (hD.sub (ws' := []) [] (by decide) rfl)) rfl rfl hl.1 rfl (lv_room (Nat.le_of_ble_eq_true rfl)) dX9_period_4 ⟨Nat.le_of_ble_eq_true rfl, Nat.le_of_ble_eq_true rfl⟩) hP hD hS hA [] [0, 1] (wr := [(h, .inr (9, [h_net, h_stations, .ref h_clock, h_rules, h_tables, h_timing, h_race, h_tracer, h_shown, h_trial, .int 0, .int 0])), (h_clock, .inr (0, [.int 1000, k_nodes, k_parents, k_earlySums, k_lateSums]))]) rfl rfl (by decide) (by decide) (fun r_1 w H locs hw hP hD hS => ?_)
  obtain ⟨hr_1, rfl⟩ := hw
  have hr_1 : r_1 = if 1 ≤ p1.toInt ∧ p1.toInt ≤ 1000000 then 1 else 0 := hr_1
  have hP : va_P E.1 vwCl [(h, .inr (9, [h_net, h_stations, .ref h_clock, h_rules, h_tables, h_timing, h_race, h_tracer, h_shown, h_trial, .int 0, .int 0])), (h_clock, .inr (0, [.int 1000, k_nodes, k_parents, k_earlySums, k_lateSums]))] H := hP
  have hD : va_D A [(h, .inr (9, [h_net, h_stations, .ref h_clock, h_rules, h_tables, h_timing, h_race, h_tracer, h_shown, h_trial, .int 0, .int 0])), (h_clock, .inr (0, [.int 1000, k_nodes, k_parents, k_earlySums, k_lateSums]))] := hD
  refine lv_if_ne (tgt := 12) hx hb dX9_period_7 (by decide) (fun c_2 => ?_) (fun c_2 => ?_)
  · have e_2 : 1 ≤ p1.toInt ∧ p1.toInt ≤ 1000000 := bi_pos hr_1 c_2
    refine lv_aload_n hx hb dX9_period_12 rfl (lv_at hl 0 rfl) ?_
    refine va_get (D := E.1) (ci := 9) (v := .ref h_clock) (own := RX9) (C := RX9) (T := TX9) (N := 12) hx hb hts i_f_period_X9 hown hK hP 0 rfl rfl 2 (by decide) (hto (.fieldLink RX9 26 "TimingHouse" "clock" "LTimingHouse$Clock;") (by decide +kernel)) (fun _ h9 => h9) rfl dX9_period_13 ?_
    refine va_getN (D := E.1) (ci := 0) (v := .int 1000) (own := RX9) (ref := "TimingHouse$Clock") (host := "TimingHouse") (C := RX0) (T := TX0) (N := 5) hx hb hts i_f_period_X0 hown hK hP 1 rfl rfl 0 (by decide) (nw_F hN 40 rfl) (fun _ h9 => h9) rfl dX9_period_16 ?_
    refine lv_istore_n (lv' := [(2, .int 1000), (0, .ref h), (1, .int p1)]) hx hb dX9_period_19 rfl hl (by decide) rfl (fun ls hl => ?_)
    refine lv_aload_n hx hb dX9_period_20 rfl (lv_at hl 1 rfl) ?_
    refine va_get (D := E.1) (ci := 9) (v := .ref h_clock) (own := RX9) (C := RX9) (T := TX9) (N := 12) hx hb hts i_f_period_X9 hown hK hP 0 rfl rfl 2 (by decide) (hto (.fieldLink RX9 26 "TimingHouse" "clock" "LTimingHouse$Clock;") (by decide +kernel)) (fun _ h9 => h9) rfl dX9_period_21 ?_
    refine lv_iload_n hx hb dX9_period_24 rfl (lv_at hl 2 rfl) ?_
    refine va_putN (D := E.1) (ci := 0) (v := .int p1) (ty := .int) (own := RX9) (ref := "TimingHouse$Clock") (host := "TimingHouse") (C := RX0) (T := TX0) (N := 5) hx hb hts i_f_period_X0 tyX0 tyX0_ok nmX0 hown hK hP hD hS 1 rfl rfl 0 (by decide) (nw_F hN 40 rfl) (fun _ h9 => h9) rfl (by decide +kernel) rfl rfl (Nat.le_of_ble_eq_true rfl) dX9_period_25 (fun H locs hP hD hS => ?_)
    have hP : va_P E.1 vwCl [(h, .inr (9, [h_net, h_stations, .ref h_clock, h_rules, h_tables, h_timing, h_race, h_tracer, h_shown, h_trial, .int 0, .int 0])), (h_clock, .inr (0, [.int p1, k_nodes, k_parents, k_earlySums, k_lateSums]))] H := hP
    have hD : va_D A [(h, .inr (9, [h_net, h_stations, .ref h_clock, h_rules, h_tables, h_timing, h_race, h_tracer, h_shown, h_trial, .int 0, .int 0])), (h_clock, .inr (0, [.int p1, k_nodes, k_parents, k_earlySums, k_lateSums]))] := hD
    refine lv_aload_n hx hb dX9_period_28 rfl (lv_at hl 1 rfl) ?_
    refine call_v (va_runV (As := []) (rest := []) ⟨hx, hb, hml, hown, hts⟩ (k_forget l E h (h_net) (h_stations) (.ref h_clock) (h_rules) (h_tables) (h_timing) (h_race) (h_tracer) (h_shown) (h_trial) 0 0 H.size) (cwV 0 hts g_f_period_k_forget_96 rfl rfl rfl (by decide +kernel) ⟨Nat.le_of_ble_eq_true rfl, Nat.le_of_ble_eq_true rfl⟩) (pre_V hK hN (hP.sub (ws' := [(h, .inr (9, [h_net, h_stations, .ref h_clock, h_rules, h_tables, h_timing, h_race, h_tracer, h_shown, h_trial, .int 0, .int 0]))]) [0] rfl) (hD.sub (ws' := [(h, .inr (9, [h_net, h_stations, .ref h_clock, h_rules, h_tables, h_timing, h_race, h_tracer, h_shown, h_trial, .int 0, .int 0]))]) [0] (by decide) rfl) (ci := 9) (q0 := 0) rfl rfl) rfl rfl hl.1 rfl (lv_room (Nat.le_of_ble_eq_true rfl)) dX9_period_29 ⟨Nat.le_of_ble_eq_true rfl, Nat.le_of_ble_eq_true rfl⟩) hP hD hS hA [0] [1] (wr := [(h_clock, .inr (0, [.int p1, k_nodes, k_parents, k_earlySums, k_lateSums]))]) rfl rfl (by decide) (by decide) (fun w H locs hw hP hD hS => ?_)
    obtain rfl := hw
    have hP : va_P E.1 vwCl [(h_clock, .inr (0, [.int p1, k_nodes, k_parents, k_earlySums, k_lateSums])), (h, .inr (9, [h_net, h_stations, .ref h_clock, h_rules, h_tables, h_timing, h_race, h_tracer, h_shown, h_trial, .int 0, .int 0]))] H := hP
    have hD : va_D A [(h_clock, .inr (0, [.int p1, k_nodes, k_parents, k_earlySums, k_lateSums])), (h, .inr (9, [h_net, h_stations, .ref h_clock, h_rules, h_tables, h_timing, h_race, h_tracer, h_shown, h_trial, .int 0, .int 0]))] := hD
    refine lv_iload_n hx hb dX9_period_32 rfl (lv_at hl 0 rfl) ?_
    exact ret_i hx hb hr hlk (hP.sub (ws' := []) [] rfl) (hD.sub (ws' := []) [] (by decide) rfl) hS rfl dX9_period_33 (Nat.le_of_ble_eq_true rfl) (Nat.le_of_ble_eq_true rfl) ⟨(by first | assumption | ((repeat' split) <;> first | rfl | (exfalso; omega))), rfl⟩
  · have e_2 : ¬ (1 ≤ p1.toInt ∧ p1.toInt ≤ 1000000) := bi_neg hr_1 c_2
    refine lv_iconst (v := (-1)) hx hb dX9_period_10 (by decide) ?_
    exact ret_i hx hb hr hlk (hP.sub (ws' := []) [] rfl) (hD.sub (ws' := []) [] (by decide) rfl) hS rfl dX9_period_11 (Nat.le_of_ble_eq_true rfl) (Nat.le_of_ble_eq_true rfl) ⟨(by first | assumption | ((repeat' split) <;> first | rfl | (exfalso; omega))), rfl⟩
theorem dX9_corner_0 : decode cX9_corner 0 = .ok (.iload_n 1, 1) := by decide +kernel
theorem dX9_corner_1 : decode cX9_corner 1 = .ok (.iconst 0, 1) := by decide +kernel
theorem dX9_corner_2 : decode cX9_corner 2 = .ok (.sipush 500, 3) := by decide +kernel
theorem dX9_corner_5 : decode cX9_corner 5 = .ok (.invokestatic 88, 3) := by decide +kernel
theorem dX9_corner_8 : decode cX9_corner 8 = .ok (.ifCond .eq 14, 3) := by decide +kernel
theorem dX9_corner_22 : decode cX9_corner 22 = .ok (.iconst (-1), 1) := by decide +kernel
theorem dX9_corner_23 : decode cX9_corner 23 = .ok (.ireturn, 1) := by decide +kernel
theorem dX9_corner_11 : decode cX9_corner 11 = .ok (.iload_n 2, 1) := by decide +kernel
theorem dX9_corner_12 : decode cX9_corner 12 = .ok (.iconst 0, 1) := by decide +kernel
theorem dX9_corner_13 : decode cX9_corner 13 = .ok (.sipush 500, 3) := by decide +kernel
theorem dX9_corner_16 : decode cX9_corner 16 = .ok (.invokestatic 88, 3) := by decide +kernel
theorem dX9_corner_19 : decode cX9_corner 19 = .ok (.ifCond .ne 5, 3) := by decide +kernel
theorem dX9_corner_24 : decode cX9_corner 24 = .ok (.aload_n 0, 1) := by decide +kernel
theorem dX9_corner_25 : decode cX9_corner 25 = .ok (.getfield 40, 3) := by decide +kernel
theorem dX9_corner_28 : decode cX9_corner 28 = .ok (.iload_n 1, 1) := by decide +kernel
theorem dX9_corner_29 : decode cX9_corner 29 = .ok (.putfield 171, 3) := by decide +kernel
theorem dX9_corner_32 : decode cX9_corner 32 = .ok (.aload_n 0, 1) := by decide +kernel
theorem dX9_corner_33 : decode cX9_corner 33 = .ok (.getfield 40, 3) := by decide +kernel
theorem dX9_corner_36 : decode cX9_corner 36 = .ok (.iload_n 2, 1) := by decide +kernel
theorem dX9_corner_37 : decode cX9_corner 37 = .ok (.putfield 174, 3) := by decide +kernel
theorem dX9_corner_40 : decode cX9_corner 40 = .ok (.aload_n 0, 1) := by decide +kernel
theorem dX9_corner_41 : decode cX9_corner 41 = .ok (.invokevirtual 96, 3) := by decide +kernel
theorem dX9_corner_44 : decode cX9_corner 44 = .ok (.iconst 0, 1) := by decide +kernel
theorem dX9_corner_45 : decode cX9_corner 45 = .ok (.ireturn, 1) := by decide +kernel
def wo_f_corner : List Cond := [.code yX9_corner cX9_corner 3 (some .int), .methodLink RX9 88 yX9_within, .static yX9_within, .initialized RX9, .fieldLink RX9 40 "TimingHouse" "tables" "LTimingHouse$Tables;", .methodLink RX9 96 yX9_forget, .instanceMethod yX9_forget, .selects RX9 yX9_forget yX9_forget]
def wr_f_corner : List Cond := (wsX50 ++ (wsX90 ++ (w_k_within ++ (w_k_forget ++ ([])))))
def w_f_corner : List Cond := wo_f_corner ++ wr_f_corner
theorem wg_f_corner : GW w_f_corner := GW_app (GW_of (by decide +kernel)) (GW_app (GW_of (by decide +kernel)) (GW_app (GW_of (by decide +kernel)) (GW_app (wg_k_within) (GW_app (wg_k_forget) (GW_nil)))))
theorem i_f_corner_X5 : ∀ w ∈ wsX50, w ∈ w_f_corner := fun _ h => List.mem_append_right _ (List.mem_append_left _ h)
theorem i_f_corner_X9 : ∀ w ∈ wsX90, w ∈ w_f_corner := fun _ h => List.mem_append_right _ (List.mem_append_right _ (List.mem_append_left _ h))
theorem g_f_corner_k_within_88 : GoodIn w_f_corner (va_wsS RX9 88 yX9_within w_k_within) := goodIn_app (gi_left (goodIn_of _ (by decide +kernel))) (fun w h => ⟨List.mem_append_right _ (List.mem_append_right _ (List.mem_append_right _ (List.mem_append_left _ h))), wg_k_within w h⟩)
theorem g_f_corner_k_forget_96 : GoodIn w_f_corner (wsV RX9 96 RX9 yX9_forget w_k_forget) := goodIn_app (gi_left (goodIn_of _ (by decide +kernel))) (fun w h => ⟨List.mem_append_right _ (List.mem_append_right _ (List.mem_append_right _ (List.mem_append_right _ (List.mem_append_left _ h)))), wg_k_forget w h⟩)
set_option maxHeartbeats 4000000 in
set_option maxRecDepth 100000 in
theorem f_corner (l : Launch) (E : gE) (h : Nat) (h_tables : Nat) (h_net : Value) (h_stations : Value) (h_clock : Value) (h_rules : Value) (h_timing : Value) (h_race : Value) (h_tracer : Value) (h_shown : Value) (h_trial : Value) (t_numbers : Value) (t_lefts : Value) (t_falls : Value) (t_lateCorner : Value) (t_earlyCorner : Value) (p1 : Int32) (p2 : Int32) : CtI l E yX9_corner w_f_corner ({ frames := 1, cells := 0, slots := 0, locals := 22 }) [(h, .inr (9, [h_net, h_stations, h_clock, h_rules, .ref h_tables, h_timing, h_race, h_tracer, h_shown, h_trial, .int 0, .int 0])), (h_tables, .inr (5, [t_numbers, t_lefts, t_falls, t_lateCorner, t_earlyCorner]))] [.ref h, .int p1, .int p2] (fun r w => r = (if 0 ≤ p1.toInt ∧ p1.toInt ≤ 500 ∧ 0 ≤ p2.toInt ∧ p2.toInt ≤ 500 then 0 else -1) ∧ w = []) := by
  refine CtI.of (cc := cX9_corner) (maxL := 3) (rt := (some .int)) (by decide) rfl (Nat.le_of_ble_eq_true rfl) ?_
  intro p e s m below meth c A B ls hl
  obtain ⟨hx, hb, hml, hr, hlk, hin, hts, hown, hK, hN, hA, hP, hD, hS⟩ := B
  have hown : s.vm.findClass RX9 = some m.cls := hown
  have hto : ∀ w ∈ wo_f_corner, w.before _ s = true := fun w h => hts w (List.mem_append_left _ h)
  have hl : lv_has ls 3 [(0, .ref h), (1, .int p1), (2, .int p2)] := hl
  obtain ⟨H, hHe⟩ : ∃ H, H = s.heap := ⟨_, rfl⟩
  have hS : va_S A s.heap H [] := by rw [hHe]; exact hS
  have hP : va_P E.1 vwCl [(h, .inr (9, [h_net, h_stations, h_clock, h_rules, .ref h_tables, h_timing, h_race, h_tracer, h_shown, h_trial, .int 0, .int 0])), (h_tables, .inr (5, [t_numbers, t_lefts, t_falls, t_lateCorner, t_earlyCorner]))] H := by rw [hHe]; exact hP
  refine W_heap hHe ?_
  refine lv_iload_n hx hb dX9_corner_0 rfl (lv_at hl 1 rfl) ?_
  refine lv_iconst (v := 0) hx hb dX9_corner_1 (by decide) ?_
  refine lv_sipush (v := 500) hx hb dX9_corner_2 (by decide) ?_
  refine call_i (va_runS (As := [.int p1, .int 0, .int 500]) (rest := []) ⟨hx, hb, hml, hown, hts⟩ (k_within l E p1 0 500 H.size) (va_cwS 3 hts g_f_corner_k_within_88 rfl rfl rfl (by decide +kernel) ⟨Nat.le_of_ble_eq_true rfl, Nat.le_of_ble_eq_true rfl⟩) (pre_S hK hN (hP.sub (ws' := []) [] rfl) (hD.sub (ws' := []) [] (by decide) rfl)) rfl rfl hl.1 rfl (lv_room (Nat.le_of_ble_eq_true rfl)) dX9_corner_5 ⟨Nat.le_of_ble_eq_true rfl, Nat.le_of_ble_eq_true rfl⟩) hP hD hS hA [] [0, 1] (wr := [(h, .inr (9, [h_net, h_stations, h_clock, h_rules, .ref h_tables, h_timing, h_race, h_tracer, h_shown, h_trial, .int 0, .int 0])), (h_tables, .inr (5, [t_numbers, t_lefts, t_falls, t_lateCorner, t_earlyCorner]))]) rfl rfl (by decide) (by decide) (fun r_1 w H locs hw hP hD hS => ?_)
  obtain ⟨hr_1, rfl⟩ := hw
  have hr_1 : r_1 = if 0 ≤ p1.toInt ∧ p1.toInt ≤ 500 then 1 else 0 := hr_1
  have hP : va_P E.1 vwCl [(h, .inr (9, [h_net, h_stations, h_clock, h_rules, .ref h_tables, h_timing, h_race, h_tracer, h_shown, h_trial, .int 0, .int 0])), (h_tables, .inr (5, [t_numbers, t_lefts, t_falls, t_lateCorner, t_earlyCorner]))] H := hP
  have hD : va_D A [(h, .inr (9, [h_net, h_stations, h_clock, h_rules, .ref h_tables, h_timing, h_race, h_tracer, h_shown, h_trial, .int 0, .int 0])), (h_tables, .inr (5, [t_numbers, t_lefts, t_falls, t_lateCorner, t_earlyCorner]))] := hD
  refine lv_if_eq (tgt := 22) hx hb dX9_corner_8 (by decide) (fun c_2 => ?_) (fun c_2 => ?_)
  · have e_2 : ¬ (0 ≤ p1.toInt ∧ p1.toInt ≤ 500) := bi_neg hr_1 c_2
    refine lv_iconst (v := (-1)) hx hb dX9_corner_22 (by decide) ?_
    exact ret_i hx hb hr hlk (hP.sub (ws' := []) [] rfl) (hD.sub (ws' := []) [] (by decide) rfl) hS rfl dX9_corner_23 (Nat.le_of_ble_eq_true rfl) (Nat.le_of_ble_eq_true rfl) ⟨(by first | assumption | ((repeat' split) <;> first | rfl | (exfalso; omega))), rfl⟩
  · have e_2 : 0 ≤ p1.toInt ∧ p1.toInt ≤ 500 := bi_pos hr_1 c_2
    refine lv_iload_n hx hb dX9_corner_11 rfl (lv_at hl 2 rfl) ?_
    refine lv_iconst (v := 0) hx hb dX9_corner_12 (by decide) ?_
    refine lv_sipush (v := 500) hx hb dX9_corner_13 (by decide) ?_
    refine call_i (va_runS (As := [.int p2, .int 0, .int 500]) (rest := []) ⟨hx, hb, hml, hown, hts⟩ (k_within l E p2 0 500 H.size) (va_cwS 3 hts g_f_corner_k_within_88 rfl rfl rfl (by decide +kernel) ⟨Nat.le_of_ble_eq_true rfl, Nat.le_of_ble_eq_true rfl⟩) (pre_S hK hN (hP.sub (ws' := []) [] rfl) (hD.sub (ws' := []) [] (by decide) rfl)) rfl rfl hl.1 rfl (lv_room (Nat.le_of_ble_eq_true rfl)) dX9_corner_16 ⟨Nat.le_of_ble_eq_true rfl, Nat.le_of_ble_eq_true rfl⟩) hP hD hS hA [] [0, 1] (wr := [(h, .inr (9, [h_net, h_stations, h_clock, h_rules, .ref h_tables, h_timing, h_race, h_tracer, h_shown, h_trial, .int 0, .int 0])), (h_tables, .inr (5, [t_numbers, t_lefts, t_falls, t_lateCorner, t_earlyCorner]))]) rfl rfl (by decide) (by decide) (fun r_3 w H locs hw hP hD hS => ?_)
    obtain ⟨hr_3, rfl⟩ := hw
    have hr_3 : r_3 = if 0 ≤ p2.toInt ∧ p2.toInt ≤ 500 then 1 else 0 := hr_3
    have hP : va_P E.1 vwCl [(h, .inr (9, [h_net, h_stations, h_clock, h_rules, .ref h_tables, h_timing, h_race, h_tracer, h_shown, h_trial, .int 0, .int 0])), (h_tables, .inr (5, [t_numbers, t_lefts, t_falls, t_lateCorner, t_earlyCorner]))] H := hP
    have hD : va_D A [(h, .inr (9, [h_net, h_stations, h_clock, h_rules, .ref h_tables, h_timing, h_race, h_tracer, h_shown, h_trial, .int 0, .int 0])), (h_tables, .inr (5, [t_numbers, t_lefts, t_falls, t_lateCorner, t_earlyCorner]))] := hD
    refine lv_if_ne (tgt := 24) hx hb dX9_corner_19 (by decide) (fun c_4 => ?_) (fun c_4 => ?_)
    · have e_4 : 0 ≤ p2.toInt ∧ p2.toInt ≤ 500 := bi_pos hr_3 c_4
      refine lv_aload_n hx hb dX9_corner_24 rfl (lv_at hl 0 rfl) ?_
      refine va_get (D := E.1) (ci := 9) (v := .ref h_tables) (own := RX9) (C := RX9) (T := TX9) (N := 12) hx hb hts i_f_corner_X9 hown hK hP 0 rfl rfl 4 (by decide) (hto (.fieldLink RX9 40 "TimingHouse" "tables" "LTimingHouse$Tables;") (by decide +kernel)) (fun _ h9 => h9) rfl dX9_corner_25 ?_
      refine lv_iload_n hx hb dX9_corner_28 rfl (lv_at hl 1 rfl) ?_
      refine va_putN (D := E.1) (ci := 5) (v := .int p1) (ty := .int) (own := RX9) (ref := "TimingHouse$Tables") (host := "TimingHouse") (C := RX5) (T := TX5) (N := 5) hx hb hts i_f_corner_X5 tyX5 tyX5_ok nmX5 hown hK hP hD hS 1 rfl rfl 3 (by decide) (nw_F hN 49 rfl) (fun _ h9 => h9) rfl (by decide +kernel) rfl rfl (Nat.le_of_ble_eq_true rfl) dX9_corner_29 (fun H locs hP hD hS => ?_)
      have hP : va_P E.1 vwCl [(h, .inr (9, [h_net, h_stations, h_clock, h_rules, .ref h_tables, h_timing, h_race, h_tracer, h_shown, h_trial, .int 0, .int 0])), (h_tables, .inr (5, [t_numbers, t_lefts, t_falls, .int p1, t_earlyCorner]))] H := hP
      have hD : va_D A [(h, .inr (9, [h_net, h_stations, h_clock, h_rules, .ref h_tables, h_timing, h_race, h_tracer, h_shown, h_trial, .int 0, .int 0])), (h_tables, .inr (5, [t_numbers, t_lefts, t_falls, .int p1, t_earlyCorner]))] := hD
      refine lv_aload_n hx hb dX9_corner_32 rfl (lv_at hl 0 rfl) ?_
      refine va_get (D := E.1) (ci := 9) (v := .ref h_tables) (own := RX9) (C := RX9) (T := TX9) (N := 12) hx hb hts i_f_corner_X9 hown hK hP 0 rfl rfl 4 (by decide) (hto (.fieldLink RX9 40 "TimingHouse" "tables" "LTimingHouse$Tables;") (by decide +kernel)) (fun _ h9 => h9) rfl dX9_corner_33 ?_
      refine lv_iload_n hx hb dX9_corner_36 rfl (lv_at hl 2 rfl) ?_
      refine va_putN (D := E.1) (ci := 5) (v := .int p2) (ty := .int) (own := RX9) (ref := "TimingHouse$Tables") (host := "TimingHouse") (C := RX5) (T := TX5) (N := 5) hx hb hts i_f_corner_X5 tyX5 tyX5_ok nmX5 hown hK hP hD hS 1 rfl rfl 4 (by decide) (nw_F hN 51 rfl) (fun _ h9 => h9) rfl (by decide +kernel) rfl rfl (Nat.le_of_ble_eq_true rfl) dX9_corner_37 (fun H locs hP hD hS => ?_)
      have hP : va_P E.1 vwCl [(h, .inr (9, [h_net, h_stations, h_clock, h_rules, .ref h_tables, h_timing, h_race, h_tracer, h_shown, h_trial, .int 0, .int 0])), (h_tables, .inr (5, [t_numbers, t_lefts, t_falls, .int p1, .int p2]))] H := hP
      have hD : va_D A [(h, .inr (9, [h_net, h_stations, h_clock, h_rules, .ref h_tables, h_timing, h_race, h_tracer, h_shown, h_trial, .int 0, .int 0])), (h_tables, .inr (5, [t_numbers, t_lefts, t_falls, .int p1, .int p2]))] := hD
      refine lv_aload_n hx hb dX9_corner_40 rfl (lv_at hl 0 rfl) ?_
      refine call_v (va_runV (As := []) (rest := []) ⟨hx, hb, hml, hown, hts⟩ (k_forget l E h (h_net) (h_stations) (h_clock) (h_rules) (.ref h_tables) (h_timing) (h_race) (h_tracer) (h_shown) (h_trial) 0 0 H.size) (cwV 0 hts g_f_corner_k_forget_96 rfl rfl rfl (by decide +kernel) ⟨Nat.le_of_ble_eq_true rfl, Nat.le_of_ble_eq_true rfl⟩) (pre_V hK hN (hP.sub (ws' := [(h, .inr (9, [h_net, h_stations, h_clock, h_rules, .ref h_tables, h_timing, h_race, h_tracer, h_shown, h_trial, .int 0, .int 0]))]) [0] rfl) (hD.sub (ws' := [(h, .inr (9, [h_net, h_stations, h_clock, h_rules, .ref h_tables, h_timing, h_race, h_tracer, h_shown, h_trial, .int 0, .int 0]))]) [0] (by decide) rfl) (ci := 9) (q0 := 0) rfl rfl) rfl rfl hl.1 rfl (lv_room (Nat.le_of_ble_eq_true rfl)) dX9_corner_41 ⟨Nat.le_of_ble_eq_true rfl, Nat.le_of_ble_eq_true rfl⟩) hP hD hS hA [0] [1] (wr := [(h_tables, .inr (5, [t_numbers, t_lefts, t_falls, .int p1, .int p2]))]) rfl rfl (by decide) (by decide) (fun w H locs hw hP hD hS => ?_)
      obtain rfl := hw
      have hP : va_P E.1 vwCl [(h_tables, .inr (5, [t_numbers, t_lefts, t_falls, .int p1, .int p2])), (h, .inr (9, [h_net, h_stations, h_clock, h_rules, .ref h_tables, h_timing, h_race, h_tracer, h_shown, h_trial, .int 0, .int 0]))] H := hP
      have hD : va_D A [(h_tables, .inr (5, [t_numbers, t_lefts, t_falls, .int p1, .int p2])), (h, .inr (9, [h_net, h_stations, h_clock, h_rules, .ref h_tables, h_timing, h_race, h_tracer, h_shown, h_trial, .int 0, .int 0]))] := hD
      refine lv_iconst (v := 0) hx hb dX9_corner_44 (by decide) ?_
      exact ret_i hx hb hr hlk (hP.sub (ws' := []) [] rfl) (hD.sub (ws' := []) [] (by decide) rfl) hS rfl dX9_corner_45 (Nat.le_of_ble_eq_true rfl) (Nat.le_of_ble_eq_true rfl) ⟨(by first | assumption | ((repeat' split) <;> first | rfl | (exfalso; omega))), rfl⟩
    · have e_4 : ¬ (0 ≤ p2.toInt ∧ p2.toInt ≤ 500) := bi_neg hr_3 c_4
      refine lv_iconst (v := (-1)) hx hb dX9_corner_22 (by decide) ?_
      exact ret_i hx hb hr hlk (hP.sub (ws' := []) [] rfl) (hD.sub (ws' := []) [] (by decide) rfl) hS rfl dX9_corner_23 (Nat.le_of_ble_eq_true rfl) (Nat.le_of_ble_eq_true rfl) ⟨(by first | assumption | ((repeat' split) <;> first | rfl | (exfalso; omega))), rfl⟩
theorem dX9_fall_0 : decode cX9_fall 0 = .ok (.iload_n 1, 1) := by decide +kernel
theorem dX9_fall_1 : decode cX9_fall 1 = .ok (.invokestatic 81, 3) := by decide +kernel
theorem dX9_fall_4 : decode cX9_fall 4 = .ok (.ifCond .eq 14, 3) := by decide +kernel
theorem dX9_fall_18 : decode cX9_fall 18 = .ok (.iconst (-1), 1) := by decide +kernel
theorem dX9_fall_19 : decode cX9_fall 19 = .ok (.ireturn, 1) := by decide +kernel
theorem dX9_fall_7 : decode cX9_fall 7 = .ok (.iload_n 2, 1) := by decide +kernel
theorem dX9_fall_8 : decode cX9_fall 8 = .ok (.iconst 0, 1) := by decide +kernel
theorem dX9_fall_9 : decode cX9_fall 9 = .ok (.sipush 1000, 3) := by decide +kernel
theorem dX9_fall_12 : decode cX9_fall 12 = .ok (.invokestatic 88, 3) := by decide +kernel
theorem dX9_fall_15 : decode cX9_fall 15 = .ok (.ifCond .ne 5, 3) := by decide +kernel
theorem dX9_fall_20 : decode cX9_fall 20 = .ok (.aload_n 0, 1) := by decide +kernel
theorem dX9_fall_21 : decode cX9_fall 21 = .ok (.getfield 40, 3) := by decide +kernel
theorem dX9_fall_24 : decode cX9_fall 24 = .ok (.getfield 168, 3) := by decide +kernel
theorem dX9_fall_27 : decode cX9_fall 27 = .ok (.iload_n 1, 1) := by decide +kernel
theorem dX9_fall_28 : decode cX9_fall 28 = .ok (.iaload, 1) := by decide +kernel
theorem dX9_fall_29 : decode cX9_fall 29 = .ok (.istore_n 3, 1) := by decide +kernel
theorem dX9_fall_30 : decode cX9_fall 30 = .ok (.aload_n 0, 1) := by decide +kernel
theorem dX9_fall_31 : decode cX9_fall 31 = .ok (.getfield 40, 3) := by decide +kernel
theorem dX9_fall_34 : decode cX9_fall 34 = .ok (.getfield 168, 3) := by decide +kernel
theorem dX9_fall_37 : decode cX9_fall 37 = .ok (.iload_n 1, 1) := by decide +kernel
theorem dX9_fall_38 : decode cX9_fall 38 = .ok (.iload_n 2, 1) := by decide +kernel
theorem dX9_fall_39 : decode cX9_fall 39 = .ok (.iastore, 1) := by decide +kernel
theorem dX9_fall_40 : decode cX9_fall 40 = .ok (.aload_n 0, 1) := by decide +kernel
theorem dX9_fall_41 : decode cX9_fall 41 = .ok (.invokevirtual 96, 3) := by decide +kernel
theorem dX9_fall_44 : decode cX9_fall 44 = .ok (.iload_n 3, 1) := by decide +kernel
theorem dX9_fall_45 : decode cX9_fall 45 = .ok (.ireturn, 1) := by decide +kernel
def wo_f_fall : List Cond := [.code yX9_fall cX9_fall 4 (some .int), .methodLink RX9 81 yX5_has, .static yX5_has, .initialized RX5, .methodLink RX9 88 yX9_within, .static yX9_within, .initialized RX9, .fieldLink RX9 40 "TimingHouse" "tables" "LTimingHouse$Tables;", .methodLink RX9 96 yX9_forget, .instanceMethod yX9_forget, .selects RX9 yX9_forget yX9_forget]
def wr_f_fall : List Cond := (wsX50 ++ (wsX90 ++ (w_k_thas ++ (w_k_within ++ (w_k_forget ++ ([]))))))
def w_f_fall : List Cond := wo_f_fall ++ wr_f_fall
theorem wg_f_fall : GW w_f_fall := GW_app (GW_of (by decide +kernel)) (GW_app (GW_of (by decide +kernel)) (GW_app (GW_of (by decide +kernel)) (GW_app (wg_k_thas) (GW_app (wg_k_within) (GW_app (wg_k_forget) (GW_nil))))))
theorem i_f_fall_X5 : ∀ w ∈ wsX50, w ∈ w_f_fall := fun _ h => List.mem_append_right _ (List.mem_append_left _ h)
theorem i_f_fall_X9 : ∀ w ∈ wsX90, w ∈ w_f_fall := fun _ h => List.mem_append_right _ (List.mem_append_right _ (List.mem_append_left _ h))
theorem g_f_fall_k_thas_81 : GoodIn w_f_fall (va_wsS RX9 81 yX5_has w_k_thas) := goodIn_app (gi_left (goodIn_of _ (by decide +kernel))) (fun w h => ⟨List.mem_append_right _ (List.mem_append_right _ (List.mem_append_right _ (List.mem_append_left _ h))), wg_k_thas w h⟩)
theorem g_f_fall_k_within_88 : GoodIn w_f_fall (va_wsS RX9 88 yX9_within w_k_within) := goodIn_app (gi_left (goodIn_of _ (by decide +kernel))) (fun w h => ⟨List.mem_append_right _ (List.mem_append_right _ (List.mem_append_right _ (List.mem_append_right _ (List.mem_append_left _ h)))), wg_k_within w h⟩)
theorem g_f_fall_k_forget_96 : GoodIn w_f_fall (wsV RX9 96 RX9 yX9_forget w_k_forget) := goodIn_app (gi_left (goodIn_of _ (by decide +kernel))) (fun w h => ⟨List.mem_append_right _ (List.mem_append_right _ (List.mem_append_right _ (List.mem_append_right _ (List.mem_append_right _ (List.mem_append_left _ h))))), wg_k_forget w h⟩)
set_option maxHeartbeats 4000000 in
set_option maxRecDepth 100000 in
theorem f_fall (l : Launch) (E : gE) (h : Nat) (h_tables : Nat) (h_net : Value) (h_stations : Value) (h_clock : Value) (h_rules : Value) (h_timing : Value) (h_race : Value) (h_tracer : Value) (h_shown : Value) (h_trial : Value) (t_falls : Nat) (t_numbers : Value) (t_lefts : Value) (t_lateCorner : Value) (t_earlyCorner : Value) (p1 : Int32) (p2 : Int32) : CtI l E yX9_fall w_f_fall ({ frames := 1, cells := 0, slots := 0, locals := 22 }) [(h, .inr (9, [h_net, h_stations, h_clock, h_rules, .ref h_tables, h_timing, h_race, h_tracer, h_shown, h_trial, .int 0, .int 0])), (h_tables, .inr (5, [t_numbers, t_lefts, .ref t_falls, t_lateCorner, t_earlyCorner])), (t_falls, aI E 8 (fun _ => 0))] [.ref h, .int p1, .int p2] (fun r w => r = (if 0 ≤ p1.toInt ∧ p1.toInt < 8 ∧ 0 ≤ p2.toInt ∧ p2.toInt ≤ 1000 then 0 else -1) ∧ w = []) := by
  refine CtI.of (cc := cX9_fall) (maxL := 4) (rt := (some .int)) (by decide) rfl (Nat.le_of_ble_eq_true rfl) ?_
  intro p e s m below meth c A B ls hl
  obtain ⟨hx, hb, hml, hr, hlk, hin, hts, hown, hK, hN, hA, hP, hD, hS⟩ := B
  have hown : s.vm.findClass RX9 = some m.cls := hown
  have hto : ∀ w ∈ wo_f_fall, w.before _ s = true := fun w h => hts w (List.mem_append_left _ h)
  have hl : lv_has ls 4 [(0, .ref h), (1, .int p1), (2, .int p2)] := hl
  obtain ⟨H, hHe⟩ : ∃ H, H = s.heap := ⟨_, rfl⟩
  have hS : va_S A s.heap H [] := by rw [hHe]; exact hS
  have hP : va_P E.1 vwCl [(h, .inr (9, [h_net, h_stations, h_clock, h_rules, .ref h_tables, h_timing, h_race, h_tracer, h_shown, h_trial, .int 0, .int 0])), (h_tables, .inr (5, [t_numbers, t_lefts, .ref t_falls, t_lateCorner, t_earlyCorner])), (t_falls, aI E 8 (fun _ => 0))] H := by rw [hHe]; exact hP
  refine W_heap hHe ?_
  refine lv_iload_n hx hb dX9_fall_0 rfl (lv_at hl 1 rfl) ?_
  refine call_i (va_runS (As := [.int p1]) (rest := []) ⟨hx, hb, hml, hown, hts⟩ (k_thas l E p1 H.size) (va_cwS 1 hts g_f_fall_k_thas_81 rfl rfl rfl (by decide +kernel) ⟨Nat.le_of_ble_eq_true rfl, Nat.le_of_ble_eq_true rfl⟩) (pre_S hK hN (hP.sub (ws' := []) [] rfl) (hD.sub (ws' := []) [] (by decide) rfl)) rfl rfl hl.1 rfl (lv_room (Nat.le_of_ble_eq_true rfl)) dX9_fall_1 ⟨Nat.le_of_ble_eq_true rfl, Nat.le_of_ble_eq_true rfl⟩) hP hD hS hA [] [0, 1, 2] (wr := [(h, .inr (9, [h_net, h_stations, h_clock, h_rules, .ref h_tables, h_timing, h_race, h_tracer, h_shown, h_trial, .int 0, .int 0])), (h_tables, .inr (5, [t_numbers, t_lefts, .ref t_falls, t_lateCorner, t_earlyCorner])), (t_falls, aI E 8 (fun _ => 0))]) rfl rfl (by decide) (by decide) (fun r_1 w H locs hw hP hD hS => ?_)
  obtain ⟨hr_1, rfl⟩ := hw
  have hr_1 : r_1 = if 0 ≤ p1.toInt ∧ p1.toInt < 8 then 1 else 0 := hr_1
  have hP : va_P E.1 vwCl [(h, .inr (9, [h_net, h_stations, h_clock, h_rules, .ref h_tables, h_timing, h_race, h_tracer, h_shown, h_trial, .int 0, .int 0])), (h_tables, .inr (5, [t_numbers, t_lefts, .ref t_falls, t_lateCorner, t_earlyCorner])), (t_falls, aI E 8 (fun _ => 0))] H := hP
  have hD : va_D A [(h, .inr (9, [h_net, h_stations, h_clock, h_rules, .ref h_tables, h_timing, h_race, h_tracer, h_shown, h_trial, .int 0, .int 0])), (h_tables, .inr (5, [t_numbers, t_lefts, .ref t_falls, t_lateCorner, t_earlyCorner])), (t_falls, aI E 8 (fun _ => 0))] := hD
  refine lv_if_eq (tgt := 18) hx hb dX9_fall_4 (by decide) (fun c_2 => ?_) (fun c_2 => ?_)
  · have e_2 : ¬ (0 ≤ p1.toInt ∧ p1.toInt < 8) := bi_neg hr_1 c_2
    refine lv_iconst (v := (-1)) hx hb dX9_fall_18 (by decide) ?_
    exact ret_i hx hb hr hlk (hP.sub (ws' := []) [] rfl) (hD.sub (ws' := []) [] (by decide) rfl) hS rfl dX9_fall_19 (Nat.le_of_ble_eq_true rfl) (Nat.le_of_ble_eq_true rfl) ⟨(by first | assumption | ((repeat' split) <;> first | rfl | (exfalso; omega))), rfl⟩
  · have e_2 : 0 ≤ p1.toInt ∧ p1.toInt < 8 := bi_pos hr_1 c_2
    refine lv_iload_n hx hb dX9_fall_7 rfl (lv_at hl 2 rfl) ?_
    refine lv_iconst (v := 0) hx hb dX9_fall_8 (by decide) ?_
    refine lv_sipush (v := 1000) hx hb dX9_fall_9 (by decide) ?_
    refine call_i (va_runS (As := [.int p2, .int 0, .int 1000]) (rest := []) ⟨hx, hb, hml, hown, hts⟩ (k_within l E p2 0 1000 H.size) (va_cwS 3 hts g_f_fall_k_within_88 rfl rfl rfl (by decide +kernel) ⟨Nat.le_of_ble_eq_true rfl, Nat.le_of_ble_eq_true rfl⟩) (pre_S hK hN (hP.sub (ws' := []) [] rfl) (hD.sub (ws' := []) [] (by decide) rfl)) rfl rfl hl.1 rfl (lv_room (Nat.le_of_ble_eq_true rfl)) dX9_fall_12 ⟨Nat.le_of_ble_eq_true rfl, Nat.le_of_ble_eq_true rfl⟩) hP hD hS hA [] [0, 1, 2] (wr := [(h, .inr (9, [h_net, h_stations, h_clock, h_rules, .ref h_tables, h_timing, h_race, h_tracer, h_shown, h_trial, .int 0, .int 0])), (h_tables, .inr (5, [t_numbers, t_lefts, .ref t_falls, t_lateCorner, t_earlyCorner])), (t_falls, aI E 8 (fun _ => 0))]) rfl rfl (by decide) (by decide) (fun r_3 w H locs hw hP hD hS => ?_)
    obtain ⟨hr_3, rfl⟩ := hw
    have hr_3 : r_3 = if 0 ≤ p2.toInt ∧ p2.toInt ≤ 1000 then 1 else 0 := hr_3
    have hP : va_P E.1 vwCl [(h, .inr (9, [h_net, h_stations, h_clock, h_rules, .ref h_tables, h_timing, h_race, h_tracer, h_shown, h_trial, .int 0, .int 0])), (h_tables, .inr (5, [t_numbers, t_lefts, .ref t_falls, t_lateCorner, t_earlyCorner])), (t_falls, aI E 8 (fun _ => 0))] H := hP
    have hD : va_D A [(h, .inr (9, [h_net, h_stations, h_clock, h_rules, .ref h_tables, h_timing, h_race, h_tracer, h_shown, h_trial, .int 0, .int 0])), (h_tables, .inr (5, [t_numbers, t_lefts, .ref t_falls, t_lateCorner, t_earlyCorner])), (t_falls, aI E 8 (fun _ => 0))] := hD
    refine lv_if_ne (tgt := 20) hx hb dX9_fall_15 (by decide) (fun c_4 => ?_) (fun c_4 => ?_)
    · have e_4 : 0 ≤ p2.toInt ∧ p2.toInt ≤ 1000 := bi_pos hr_3 c_4
      refine lv_aload_n hx hb dX9_fall_20 rfl (lv_at hl 0 rfl) ?_
      refine va_get (D := E.1) (ci := 9) (v := .ref h_tables) (own := RX9) (C := RX9) (T := TX9) (N := 12) hx hb hts i_f_fall_X9 hown hK hP 0 rfl rfl 4 (by decide) (hto (.fieldLink RX9 40 "TimingHouse" "tables" "LTimingHouse$Tables;") (by decide +kernel)) (fun _ h9 => h9) rfl dX9_fall_21 ?_
      refine va_getN (D := E.1) (ci := 5) (v := .ref t_falls) (own := RX9) (ref := "TimingHouse$Tables") (host := "TimingHouse") (C := RX5) (T := TX5) (N := 5) hx hb hts i_f_fall_X5 hown hK hP 1 rfl rfl 2 (by decide) (nw_F hN 47 rfl) (fun _ h9 => h9) rfl dX9_fall_24 ?_
      refine lv_iload_n hx hb dX9_fall_27 rfl (lv_at hl 1 rfl) ?_
      refine va_iald hx hb hK hP 2 0 rfl rfl (i3_in (by omega)) dX9_fall_28 ?_
      refine lv_cst (y := 0) (by rfl) ?_
      refine lv_istore_n (lv' := [(3, .int 0), (0, .ref h), (1, .int p1), (2, .int p2)]) hx hb dX9_fall_29 rfl hl (by decide) rfl (fun ls hl => ?_)
      refine lv_aload_n hx hb dX9_fall_30 rfl (lv_at hl 1 rfl) ?_
      refine va_get (D := E.1) (ci := 9) (v := .ref h_tables) (own := RX9) (C := RX9) (T := TX9) (N := 12) hx hb hts i_f_fall_X9 hown hK hP 0 rfl rfl 4 (by decide) (hto (.fieldLink RX9 40 "TimingHouse" "tables" "LTimingHouse$Tables;") (by decide +kernel)) (fun _ h9 => h9) rfl dX9_fall_31 ?_
      refine va_getN (D := E.1) (ci := 5) (v := .ref t_falls) (own := RX9) (ref := "TimingHouse$Tables") (host := "TimingHouse") (C := RX5) (T := TX5) (N := 5) hx hb hts i_f_fall_X5 hown hK hP 1 rfl rfl 2 (by decide) (nw_F hN 47 rfl) (fun _ h9 => h9) rfl dX9_fall_34 ?_
      refine lv_iload_n hx hb dX9_fall_37 rfl (lv_at hl 2 rfl) ?_
      refine lv_iload_n hx hb dX9_fall_38 rfl (lv_at hl 3 rfl) ?_
      refine va_iast hx hb hK hP hD hS 2 0 rfl rfl (i3_in (by omega)) dX9_fall_39 (fun H locs hP hD hS => ?_)
      have hP : va_P E.1 vwCl [(h, .inr (9, [h_net, h_stations, h_clock, h_rules, .ref h_tables, h_timing, h_race, h_tracer, h_shown, h_trial, .int 0, .int 0])), (h_tables, .inr (5, [t_numbers, t_lefts, .ref t_falls, t_lateCorner, t_earlyCorner])), (t_falls, aI E 8 (upd (fun _ => 0) p1.toNatClampNeg p2))] H := hP
      have hD : va_D A [(h, .inr (9, [h_net, h_stations, h_clock, h_rules, .ref h_tables, h_timing, h_race, h_tracer, h_shown, h_trial, .int 0, .int 0])), (h_tables, .inr (5, [t_numbers, t_lefts, .ref t_falls, t_lateCorner, t_earlyCorner])), (t_falls, aI E 8 (upd (fun _ => 0) p1.toNatClampNeg p2))] := hD
      refine lv_aload_n hx hb dX9_fall_40 rfl (lv_at hl 1 rfl) ?_
      refine call_v (va_runV (As := []) (rest := []) ⟨hx, hb, hml, hown, hts⟩ (k_forget l E h (h_net) (h_stations) (h_clock) (h_rules) (.ref h_tables) (h_timing) (h_race) (h_tracer) (h_shown) (h_trial) 0 0 H.size) (cwV 0 hts g_f_fall_k_forget_96 rfl rfl rfl (by decide +kernel) ⟨Nat.le_of_ble_eq_true rfl, Nat.le_of_ble_eq_true rfl⟩) (pre_V hK hN (hP.sub (ws' := [(h, .inr (9, [h_net, h_stations, h_clock, h_rules, .ref h_tables, h_timing, h_race, h_tracer, h_shown, h_trial, .int 0, .int 0]))]) [0] rfl) (hD.sub (ws' := [(h, .inr (9, [h_net, h_stations, h_clock, h_rules, .ref h_tables, h_timing, h_race, h_tracer, h_shown, h_trial, .int 0, .int 0]))]) [0] (by decide) rfl) (ci := 9) (q0 := 0) rfl rfl) rfl rfl hl.1 rfl (lv_room (Nat.le_of_ble_eq_true rfl)) dX9_fall_41 ⟨Nat.le_of_ble_eq_true rfl, Nat.le_of_ble_eq_true rfl⟩) hP hD hS hA [0] [1, 2] (wr := [(h_tables, .inr (5, [t_numbers, t_lefts, .ref t_falls, t_lateCorner, t_earlyCorner])), (t_falls, aI E 8 (upd (fun _ => 0) p1.toNatClampNeg p2))]) rfl rfl (by decide) (by decide) (fun w H locs hw hP hD hS => ?_)
      obtain rfl := hw
      have hP : va_P E.1 vwCl [(h_tables, .inr (5, [t_numbers, t_lefts, .ref t_falls, t_lateCorner, t_earlyCorner])), (t_falls, aI E 8 (upd (fun _ => 0) p1.toNatClampNeg p2)), (h, .inr (9, [h_net, h_stations, h_clock, h_rules, .ref h_tables, h_timing, h_race, h_tracer, h_shown, h_trial, .int 0, .int 0]))] H := hP
      have hD : va_D A [(h_tables, .inr (5, [t_numbers, t_lefts, .ref t_falls, t_lateCorner, t_earlyCorner])), (t_falls, aI E 8 (upd (fun _ => 0) p1.toNatClampNeg p2)), (h, .inr (9, [h_net, h_stations, h_clock, h_rules, .ref h_tables, h_timing, h_race, h_tracer, h_shown, h_trial, .int 0, .int 0]))] := hD
      refine lv_iload_n hx hb dX9_fall_44 rfl (lv_at hl 0 rfl) ?_
      exact ret_i hx hb hr hlk (hP.sub (ws' := []) [] rfl) (hD.sub (ws' := []) [] (by decide) rfl) hS rfl dX9_fall_45 (Nat.le_of_ble_eq_true rfl) (Nat.le_of_ble_eq_true rfl) ⟨(by first | assumption | ((repeat' split) <;> first | rfl | (exfalso; omega))), rfl⟩
    · have e_4 : ¬ (0 ≤ p2.toInt ∧ p2.toInt ≤ 1000) := bi_neg hr_3 c_4
      refine lv_iconst (v := (-1)) hx hb dX9_fall_18 (by decide) ?_
      exact ret_i hx hb hr hlk (hP.sub (ws' := []) [] rfl) (hD.sub (ws' := []) [] (by decide) rfl) hS rfl dX9_fall_19 (Nat.le_of_ble_eq_true rfl) (Nat.le_of_ble_eq_true rfl) ⟨(by first | assumption | ((repeat' split) <;> first | rfl | (exfalso; omega))), rfl⟩
theorem dX5_whyAbsent_0 : decode cX5_whyAbsent 0 = .ok (.aload_n 0, 1) := by decide +kernel
theorem dX5_whyAbsent_1 : decode cX5_whyAbsent 1 = .ok (.getfield 15, 3) := by decide +kernel
theorem dX5_whyAbsent_4 : decode cX5_whyAbsent 4 = .ok (.iload_n 1, 1) := by decide +kernel
theorem dX5_whyAbsent_5 : decode cX5_whyAbsent 5 = .ok (.iaload, 1) := by decide +kernel
theorem dX5_whyAbsent_6 : decode cX5_whyAbsent 6 = .ok (.ifCond .ne 6, 3) := by decide +kernel
theorem dX5_whyAbsent_12 : decode cX5_whyAbsent 12 = .ok (.iload_n 2, 1) := by decide +kernel
theorem dX5_whyAbsent_13 : decode cX5_whyAbsent 13 = .ok (.aload_n 0, 1) := by decide +kernel
theorem dX5_whyAbsent_14 : decode cX5_whyAbsent 14 = .ok (.getfield 15, 3) := by decide +kernel
theorem dX5_whyAbsent_17 : decode cX5_whyAbsent 17 = .ok (.iload_n 1, 1) := by decide +kernel
theorem dX5_whyAbsent_18 : decode cX5_whyAbsent 18 = .ok (.iaload, 1) := by decide +kernel
theorem dX5_whyAbsent_19 : decode cX5_whyAbsent 19 = .ok (.if_icmp .ge 7, 3) := by decide +kernel
theorem dX5_whyAbsent_22 : decode cX5_whyAbsent 22 = .ok (.iconst 0, 1) := by decide +kernel
theorem dX5_whyAbsent_23 : decode cX5_whyAbsent 23 = .ok (.goto 5, 3) := by decide +kernel
theorem dX5_whyAbsent_28 : decode cX5_whyAbsent 28 = .ok (.ireturn, 1) := by decide +kernel
def wo_k_whyAbsent : List Cond := [.code yX5_whyAbsent cX5_whyAbsent 3 (some .int), .fieldLink RX5 15 "TimingHouse$Tables" "lefts" "[I"]
def wr_k_whyAbsent : List Cond := (wsX50 ++ ([]))
def w_k_whyAbsent : List Cond := wo_k_whyAbsent ++ wr_k_whyAbsent
theorem wg_k_whyAbsent : GW w_k_whyAbsent := GW_app (GW_of (by decide +kernel)) (GW_app (GW_of (by decide +kernel)) (GW_nil))
theorem i_k_whyAbsent_X5 : ∀ w ∈ wsX50, w ∈ w_k_whyAbsent := fun _ h => List.mem_append_right _ (List.mem_append_left _ h)
set_option maxHeartbeats 4000000 in
set_option maxRecDepth 100000 in
theorem k_whyAbsent (l : Launch) (E : gE) (h_tables : Nat) (t_lefts : Nat) (t_numbers : Value) (t_falls : Value) (t_lateCorner : Value) (t_earlyCorner : Value) (p1 : Int32) (p2 : Int32) (ha : 0 ≤ p1.toInt ∧ p1.toInt < 64) (hc : p2.toInt < 3) : CtI l E yX5_whyAbsent w_k_whyAbsent ({ frames := 0, cells := 0, slots := 0, locals := 0 }) [(h_tables, .inr (5, [t_numbers, .ref t_lefts, t_falls, t_lateCorner, t_earlyCorner])), (t_lefts, aI E 64 (fun _ => 3))] [.ref h_tables, .int p1, .int p2] (fun r w => r = 0 ∧ w = [(h_tables, .inr (5, [t_numbers, .ref t_lefts, t_falls, t_lateCorner, t_earlyCorner])), (t_lefts, aI E 64 (fun _ => 3))]) := by
  refine CtI.of (cc := cX5_whyAbsent) (maxL := 3) (rt := (some .int)) (by decide) rfl (Nat.le_of_ble_eq_true rfl) ?_
  intro p e s m below meth c A B ls hl
  obtain ⟨hx, hb, hml, hr, hlk, hin, hts, hown, hK, hN, hA, hP, hD, hS⟩ := B
  have hown : s.vm.findClass RX5 = some m.cls := hown
  have hto : ∀ w ∈ wo_k_whyAbsent, w.before _ s = true := fun w h => hts w (List.mem_append_left _ h)
  have hl : lv_has ls 3 [(0, .ref h_tables), (1, .int p1), (2, .int p2)] := hl
  obtain ⟨H, hHe⟩ : ∃ H, H = s.heap := ⟨_, rfl⟩
  have hS : va_S A s.heap H [] := by rw [hHe]; exact hS
  have hP : va_P E.1 vwCl [(h_tables, .inr (5, [t_numbers, .ref t_lefts, t_falls, t_lateCorner, t_earlyCorner])), (t_lefts, aI E 64 (fun _ => 3))] H := by rw [hHe]; exact hP
  refine W_heap hHe ?_
  refine lv_aload_n hx hb dX5_whyAbsent_0 rfl (lv_at hl 0 rfl) ?_
  refine va_get (D := E.1) (ci := 5) (v := .ref t_lefts) (own := RX5) (C := RX5) (T := TX5) (N := 5) hx hb hts i_k_whyAbsent_X5 hown hK hP 0 rfl rfl 1 (by decide) (hto (.fieldLink RX5 15 "TimingHouse$Tables" "lefts" "[I") (by decide +kernel)) (fun _ h9 => h9) rfl dX5_whyAbsent_1 ?_
  refine lv_iload_n hx hb dX5_whyAbsent_4 rfl (lv_at hl 1 rfl) ?_
  refine va_iald hx hb hK hP 1 0 rfl rfl (i3_in (by omega)) dX5_whyAbsent_5 ?_
  refine lv_cst (y := 3) (by rfl) ?_
  refine lv_if_ne (tgt := 12) hx hb dX5_whyAbsent_6 (by decide) (fun c_1 => ?_) (fun c_1 => ?_)
  · refine lv_iload_n hx hb dX5_whyAbsent_12 rfl (lv_at hl 2 rfl) ?_
    refine lv_aload_n hx hb dX5_whyAbsent_13 rfl (lv_at hl 0 rfl) ?_
    refine va_get (D := E.1) (ci := 5) (v := .ref t_lefts) (own := RX5) (C := RX5) (T := TX5) (N := 5) hx hb hts i_k_whyAbsent_X5 hown hK hP 0 rfl rfl 1 (by decide) (hto (.fieldLink RX5 15 "TimingHouse$Tables" "lefts" "[I") (by decide +kernel)) (fun _ h9 => h9) rfl dX5_whyAbsent_14 ?_
    refine lv_iload_n hx hb dX5_whyAbsent_17 rfl (lv_at hl 1 rfl) ?_
    refine va_iald hx hb hK hP 1 0 rfl rfl (i3_in (by omega)) dX5_whyAbsent_18 ?_
    refine lv_cst (y := 3) (by rfl) ?_
    refine lv_icmp_ge (tgt := 26) hx hb dX5_whyAbsent_19 (by decide) (fun c_2 => ?_) (fun c_2 => ?_)
    · have e_2 : 3 ≤ p2.toInt := i3_le c_2
      exfalso; omega
    · have e_2 : p2.toInt < 3 := i3_nle c_2
      refine lv_iconst (v := 0) hx hb dX5_whyAbsent_22 (by decide) ?_
      refine lv_goto (tgt := 28) hx hb dX5_whyAbsent_23 (by decide) ?_
      exact ret_i hx hb hr hlk (hP.sub (ws' := [(h_tables, .inr (5, [t_numbers, .ref t_lefts, t_falls, t_lateCorner, t_earlyCorner])), (t_lefts, aI E 64 (fun _ => 3))]) [0, 1] rfl) (hD.sub (ws' := [(h_tables, .inr (5, [t_numbers, .ref t_lefts, t_falls, t_lateCorner, t_earlyCorner])), (t_lefts, aI E 64 (fun _ => 3))]) [0, 1] (by decide) rfl) hS rfl dX5_whyAbsent_28 (Nat.le_of_ble_eq_true rfl) (Nat.le_of_ble_eq_true rfl) ⟨rfl, rfl⟩
  · exact absurd c_1 (by decide)
theorem dX5_cutRow_0 : decode cX5_cutRow 0 = .ok (.aload_n 0, 1) := by decide +kernel
theorem dX5_cutRow_1 : decode cX5_cutRow 1 = .ok (.getfield 15, 3) := by decide +kernel
theorem dX5_cutRow_4 : decode cX5_cutRow 4 = .ok (.iload_n 1, 1) := by decide +kernel
theorem dX5_cutRow_5 : decode cX5_cutRow 5 = .ok (.iaload, 1) := by decide +kernel
theorem dX5_cutRow_6 : decode cX5_cutRow 6 = .ok (.istore_n 3, 1) := by decide +kernel
theorem dX5_cutRow_7 : decode cX5_cutRow 7 = .ok (.iload_n 3, 1) := by decide +kernel
theorem dX5_cutRow_8 : decode cX5_cutRow 8 = .ok (.istore 4, 2) := by decide +kernel
theorem dX5_cutRow_10 : decode cX5_cutRow 10 = .ok (.iload 4, 2) := by decide +kernel
theorem dX5_cutRow_12 : decode cX5_cutRow 12 = .ok (.iload_n 2, 1) := by decide +kernel
theorem dX5_cutRow_13 : decode cX5_cutRow 13 = .ok (.if_icmp .ge 22, 3) := by decide +kernel
theorem dX5_cutRow_35 : decode cX5_cutRow 35 = .ok (.aload_n 0, 1) := by decide +kernel
theorem dX5_cutRow_36 : decode cX5_cutRow 36 = .ok (.getfield 15, 3) := by decide +kernel
theorem dX5_cutRow_39 : decode cX5_cutRow 39 = .ok (.iload_n 1, 1) := by decide +kernel
theorem dX5_cutRow_40 : decode cX5_cutRow 40 = .ok (.iload_n 2, 1) := by decide +kernel
theorem dX5_cutRow_41 : decode cX5_cutRow 41 = .ok (.iastore, 1) := by decide +kernel
theorem dX5_cutRow_42 : decode cX5_cutRow 42 = .ok (.iload_n 3, 1) := by decide +kernel
theorem dX5_cutRow_43 : decode cX5_cutRow 43 = .ok (.ireturn, 1) := by decide +kernel
def wo_k_cutRow : List Cond := [.code yX5_cutRow cX5_cutRow 5 (some .int), .fieldLink RX5 15 "TimingHouse$Tables" "lefts" "[I"]
def wr_k_cutRow : List Cond := (wsX50 ++ ([]))
def w_k_cutRow : List Cond := wo_k_cutRow ++ wr_k_cutRow
theorem wg_k_cutRow : GW w_k_cutRow := GW_app (GW_of (by decide +kernel)) (GW_app (GW_of (by decide +kernel)) (GW_nil))
theorem i_k_cutRow_X5 : ∀ w ∈ wsX50, w ∈ w_k_cutRow := fun _ h => List.mem_append_right _ (List.mem_append_left _ h)
set_option maxHeartbeats 4000000 in
set_option maxRecDepth 100000 in
theorem k_cutRow (l : Launch) (E : gE) (h_tables : Nat) (t_lefts : Nat) (t_numbers : Nat) (t_falls : Value) (t_lateCorner : Value) (t_earlyCorner : Value) (p1 : Int32) (p2 : Int32) (ha : 0 ≤ p1.toInt ∧ p1.toInt < 64) (hc : p2.toInt ≤ 3) : CtI l E yX5_cutRow w_k_cutRow ({ frames := 0, cells := 0, slots := 0, locals := 0 }) [(h_tables, .inr (5, [.ref t_numbers, .ref t_lefts, t_falls, t_lateCorner, t_earlyCorner])), (t_lefts, aI E 64 (fun _ => 3)), (t_numbers, aI E 192 (fun _ => 10))] [.ref h_tables, .int p1, .int p2] (fun r w => r = 3 ∧ w = []) := by
  refine CtI.of (cc := cX5_cutRow) (maxL := 5) (rt := (some .int)) (by decide) rfl (Nat.le_of_ble_eq_true rfl) ?_
  intro p e s m below meth c A B ls hl
  obtain ⟨hx, hb, hml, hr, hlk, hin, hts, hown, hK, hN, hA, hP, hD, hS⟩ := B
  have hown : s.vm.findClass RX5 = some m.cls := hown
  have hto : ∀ w ∈ wo_k_cutRow, w.before _ s = true := fun w h => hts w (List.mem_append_left _ h)
  have hl : lv_has ls 5 [(0, .ref h_tables), (1, .int p1), (2, .int p2)] := hl
  obtain ⟨H, hHe⟩ : ∃ H, H = s.heap := ⟨_, rfl⟩
  have hS : va_S A s.heap H [] := by rw [hHe]; exact hS
  have hP : va_P E.1 vwCl [(h_tables, .inr (5, [.ref t_numbers, .ref t_lefts, t_falls, t_lateCorner, t_earlyCorner])), (t_lefts, aI E 64 (fun _ => 3)), (t_numbers, aI E 192 (fun _ => 10))] H := by rw [hHe]; exact hP
  refine W_heap hHe ?_
  refine lv_aload_n hx hb dX5_cutRow_0 rfl (lv_at hl 0 rfl) ?_
  refine va_get (D := E.1) (ci := 5) (v := .ref t_lefts) (own := RX5) (C := RX5) (T := TX5) (N := 5) hx hb hts i_k_cutRow_X5 hown hK hP 0 rfl rfl 1 (by decide) (hto (.fieldLink RX5 15 "TimingHouse$Tables" "lefts" "[I") (by decide +kernel)) (fun _ h9 => h9) rfl dX5_cutRow_1 ?_
  refine lv_iload_n hx hb dX5_cutRow_4 rfl (lv_at hl 1 rfl) ?_
  refine va_iald hx hb hK hP 1 0 rfl rfl (i3_in (by omega)) dX5_cutRow_5 ?_
  refine lv_cst (y := 3) (by rfl) ?_
  refine lv_istore_n (lv' := [(3, .int 3), (0, .ref h_tables), (1, .int p1), (2, .int p2)]) hx hb dX5_cutRow_6 rfl hl (by decide) rfl (fun ls hl => ?_)
  refine lv_iload_n hx hb dX5_cutRow_7 rfl (lv_at hl 0 rfl) ?_
  refine lv_istore (lv' := [(4, .int 3), (3, .int 3), (0, .ref h_tables), (1, .int p1), (2, .int p2)]) hx hb dX5_cutRow_8 hl (by decide) rfl (fun ls hl => ?_)
  refine lv_iload hx hb dX5_cutRow_10 (lv_at hl 0 rfl) ?_
  refine lv_iload_n hx hb dX5_cutRow_12 rfl (lv_at hl 4 rfl) ?_
  refine lv_icmp_ge (tgt := 35) hx hb dX5_cutRow_13 (by decide) (fun c_1 => ?_) (fun c_1 => ?_)
  · have e_1 : p2.toInt ≤ 3 := i3_le c_1
    refine lv_aload_n hx hb dX5_cutRow_35 rfl (lv_at hl 2 rfl) ?_
    refine va_get (D := E.1) (ci := 5) (v := .ref t_lefts) (own := RX5) (C := RX5) (T := TX5) (N := 5) hx hb hts i_k_cutRow_X5 hown hK hP 0 rfl rfl 1 (by decide) (hto (.fieldLink RX5 15 "TimingHouse$Tables" "lefts" "[I") (by decide +kernel)) (fun _ h9 => h9) rfl dX5_cutRow_36 ?_
    refine lv_iload_n hx hb dX5_cutRow_39 rfl (lv_at hl 3 rfl) ?_
    refine lv_iload_n hx hb dX5_cutRow_40 rfl (lv_at hl 4 rfl) ?_
    refine va_iast hx hb hK hP hD hS 1 0 rfl rfl (i3_in (by omega)) dX5_cutRow_41 (fun H locs hP hD hS => ?_)
    have hP : va_P E.1 vwCl [(h_tables, .inr (5, [.ref t_numbers, .ref t_lefts, t_falls, t_lateCorner, t_earlyCorner])), (t_lefts, aI E 64 (upd (fun _ => 3) p1.toNatClampNeg p2)), (t_numbers, aI E 192 (fun _ => 10))] H := hP
    have hD : va_D A [(h_tables, .inr (5, [.ref t_numbers, .ref t_lefts, t_falls, t_lateCorner, t_earlyCorner])), (t_lefts, aI E 64 (upd (fun _ => 3) p1.toNatClampNeg p2)), (t_numbers, aI E 192 (fun _ => 10))] := hD
    refine lv_iload_n hx hb dX5_cutRow_42 rfl (lv_at hl 1 rfl) ?_
    exact ret_i hx hb hr hlk (hP.sub (ws' := []) [] rfl) (hD.sub (ws' := []) [] (by decide) rfl) hS rfl dX5_cutRow_43 (Nat.le_of_ble_eq_true rfl) (Nat.le_of_ble_eq_true rfl) ⟨rfl, rfl⟩
  · have e_1 : 3 < p2.toInt := i3_nle c_1
    exfalso; omega
theorem dX9_entry_0 : decode cX9_entry 0 = .ok (.iload_n 1, 1) := by decide +kernel
theorem dX9_entry_1 : decode cX9_entry 1 = .ok (.iload_n 2, 1) := by decide +kernel
theorem dX9_entry_2 : decode cX9_entry 2 = .ok (.iload_n 3, 1) := by decide +kernel
theorem dX9_entry_3 : decode cX9_entry 3 = .ok (.invokestatic 153, 3) := by decide +kernel
theorem dX9_entry_6 : decode cX9_entry 6 = .ok (.ifCond .eq 25, 3) := by decide +kernel
theorem dX9_entry_31 : decode cX9_entry 31 = .ok (.iconst (-1), 1) := by decide +kernel
theorem dX9_entry_32 : decode cX9_entry 32 = .ok (.ireturn, 1) := by decide +kernel
theorem dX9_entry_9 : decode cX9_entry 9 = .ok (.iload 4, 2) := by decide +kernel
theorem dX9_entry_11 : decode cX9_entry 11 = .ok (.iconst 0, 1) := by decide +kernel
theorem dX9_entry_12 : decode cX9_entry 12 = .ok (.iconst 2, 1) := by decide +kernel
theorem dX9_entry_13 : decode cX9_entry 13 = .ok (.invokestatic 88, 3) := by decide +kernel
theorem dX9_entry_16 : decode cX9_entry 16 = .ok (.ifCond .eq 15, 3) := by decide +kernel
theorem dX9_entry_19 : decode cX9_entry 19 = .ok (.iload 5, 2) := by decide +kernel
theorem dX9_entry_21 : decode cX9_entry 21 = .ok (.iconst 0, 1) := by decide +kernel
theorem dX9_entry_22 : decode cX9_entry 22 = .ok (.sipush 3000, 3) := by decide +kernel
theorem dX9_entry_25 : decode cX9_entry 25 = .ok (.invokestatic 88, 3) := by decide +kernel
theorem dX9_entry_28 : decode cX9_entry 28 = .ok (.ifCond .ne 5, 3) := by decide +kernel
theorem dX9_entry_33 : decode cX9_entry 33 = .ok (.iload_n 1, 1) := by decide +kernel
theorem dX9_entry_34 : decode cX9_entry 34 = .ok (.iload_n 2, 1) := by decide +kernel
theorem dX9_entry_35 : decode cX9_entry 35 = .ok (.iload_n 3, 1) := by decide +kernel
theorem dX9_entry_36 : decode cX9_entry 36 = .ok (.invokestatic 156, 3) := by decide +kernel
theorem dX9_entry_39 : decode cX9_entry 39 = .ok (.istore 6, 2) := by decide +kernel
theorem dX9_entry_41 : decode cX9_entry 41 = .ok (.aload_n 0, 1) := by decide +kernel
theorem dX9_entry_42 : decode cX9_entry 42 = .ok (.getfield 40, 3) := by decide +kernel
theorem dX9_entry_45 : decode cX9_entry 45 = .ok (.iload 6, 2) := by decide +kernel
theorem dX9_entry_47 : decode cX9_entry 47 = .ok (.iload 4, 2) := by decide +kernel
theorem dX9_entry_49 : decode cX9_entry 49 = .ok (.invokevirtual 159, 3) := by decide +kernel
theorem dX9_entry_52 : decode cX9_entry 52 = .ok (.istore 7, 2) := by decide +kernel
theorem dX9_entry_54 : decode cX9_entry 54 = .ok (.iload 7, 2) := by decide +kernel
theorem dX9_entry_56 : decode cX9_entry 56 = .ok (.ifCond .eq 6, 3) := by decide +kernel
theorem dX9_entry_62 : decode cX9_entry 62 = .ok (.aload_n 0, 1) := by decide +kernel
theorem dX9_entry_63 : decode cX9_entry 63 = .ok (.getfield 40, 3) := by decide +kernel
theorem dX9_entry_66 : decode cX9_entry 66 = .ok (.getfield 162, 3) := by decide +kernel
theorem dX9_entry_69 : decode cX9_entry 69 = .ok (.iload 6, 2) := by decide +kernel
theorem dX9_entry_71 : decode cX9_entry 71 = .ok (.iconst 3, 1) := by decide +kernel
theorem dX9_entry_72 : decode cX9_entry 72 = .ok (.imul, 1) := by decide +kernel
theorem dX9_entry_73 : decode cX9_entry 73 = .ok (.iload 4, 2) := by decide +kernel
theorem dX9_entry_75 : decode cX9_entry 75 = .ok (.iadd, 1) := by decide +kernel
theorem dX9_entry_76 : decode cX9_entry 76 = .ok (.iaload, 1) := by decide +kernel
theorem dX9_entry_77 : decode cX9_entry 77 = .ok (.istore 8, 2) := by decide +kernel
theorem dX9_entry_79 : decode cX9_entry 79 = .ok (.aload_n 0, 1) := by decide +kernel
theorem dX9_entry_80 : decode cX9_entry 80 = .ok (.getfield 40, 3) := by decide +kernel
theorem dX9_entry_83 : decode cX9_entry 83 = .ok (.getfield 162, 3) := by decide +kernel
theorem dX9_entry_86 : decode cX9_entry 86 = .ok (.iload 6, 2) := by decide +kernel
theorem dX9_entry_88 : decode cX9_entry 88 = .ok (.iconst 3, 1) := by decide +kernel
theorem dX9_entry_89 : decode cX9_entry 89 = .ok (.imul, 1) := by decide +kernel
theorem dX9_entry_90 : decode cX9_entry 90 = .ok (.iload 4, 2) := by decide +kernel
theorem dX9_entry_92 : decode cX9_entry 92 = .ok (.iadd, 1) := by decide +kernel
theorem dX9_entry_93 : decode cX9_entry 93 = .ok (.iload 5, 2) := by decide +kernel
theorem dX9_entry_95 : decode cX9_entry 95 = .ok (.iastore, 1) := by decide +kernel
theorem dX9_entry_96 : decode cX9_entry 96 = .ok (.aload_n 0, 1) := by decide +kernel
theorem dX9_entry_97 : decode cX9_entry 97 = .ok (.invokevirtual 96, 3) := by decide +kernel
theorem dX9_entry_100 : decode cX9_entry 100 = .ok (.iload 8, 2) := by decide +kernel
theorem dX9_entry_102 : decode cX9_entry 102 = .ok (.ireturn, 1) := by decide +kernel
def wo_f_entry : List Cond := [.code yX9_entry cX9_entry 9 (some .int), .methodLink RX9 153 yX5_hasRow, .static yX5_hasRow, .initialized RX5, .methodLink RX9 88 yX9_within, .static yX9_within, .initialized RX9, .methodLink RX9 156 yX5_rowPlace, .static yX5_rowPlace, .fieldLink RX9 40 "TimingHouse" "tables" "LTimingHouse$Tables;", .methodLink RX9 159 yX5_whyAbsent, .instanceMethod yX5_whyAbsent, .selects RX5 yX5_whyAbsent yX5_whyAbsent, .methodLink RX9 96 yX9_forget, .instanceMethod yX9_forget, .selects RX9 yX9_forget yX9_forget]
def wr_f_entry : List Cond := (wsX50 ++ (wsX90 ++ (w_k_hasRow ++ (w_k_within ++ (w_k_rowPlace ++ (w_k_whyAbsent ++ (w_k_forget ++ ([]))))))))
def w_f_entry : List Cond := wo_f_entry ++ wr_f_entry
theorem wg_f_entry : GW w_f_entry := GW_app (GW_of (by decide +kernel)) (GW_app (GW_of (by decide +kernel)) (GW_app (GW_of (by decide +kernel)) (GW_app (wg_k_hasRow) (GW_app (wg_k_within) (GW_app (wg_k_rowPlace) (GW_app (wg_k_whyAbsent) (GW_app (wg_k_forget) (GW_nil))))))))
theorem i_f_entry_X5 : ∀ w ∈ wsX50, w ∈ w_f_entry := fun _ h => List.mem_append_right _ (List.mem_append_left _ h)
theorem i_f_entry_X9 : ∀ w ∈ wsX90, w ∈ w_f_entry := fun _ h => List.mem_append_right _ (List.mem_append_right _ (List.mem_append_left _ h))
theorem g_f_entry_k_hasRow_153 : GoodIn w_f_entry (va_wsS RX9 153 yX5_hasRow w_k_hasRow) := goodIn_app (gi_left (goodIn_of _ (by decide +kernel))) (fun w h => ⟨List.mem_append_right _ (List.mem_append_right _ (List.mem_append_right _ (List.mem_append_left _ h))), wg_k_hasRow w h⟩)
theorem g_f_entry_k_within_88 : GoodIn w_f_entry (va_wsS RX9 88 yX9_within w_k_within) := goodIn_app (gi_left (goodIn_of _ (by decide +kernel))) (fun w h => ⟨List.mem_append_right _ (List.mem_append_right _ (List.mem_append_right _ (List.mem_append_right _ (List.mem_append_left _ h)))), wg_k_within w h⟩)
theorem g_f_entry_k_rowPlace_156 : GoodIn w_f_entry (va_wsS RX9 156 yX5_rowPlace w_k_rowPlace) := goodIn_app (gi_left (goodIn_of _ (by decide +kernel))) (fun w h => ⟨List.mem_append_right _ (List.mem_append_right _ (List.mem_append_right _ (List.mem_append_right _ (List.mem_append_right _ (List.mem_append_left _ h))))), wg_k_rowPlace w h⟩)
theorem g_f_entry_k_whyAbsent_159 : GoodIn w_f_entry (wsV RX9 159 RX5 yX5_whyAbsent w_k_whyAbsent) := goodIn_app (gi_left (goodIn_of _ (by decide +kernel))) (fun w h => ⟨List.mem_append_right _ (List.mem_append_right _ (List.mem_append_right _ (List.mem_append_right _ (List.mem_append_right _ (List.mem_append_right _ (List.mem_append_left _ h)))))), wg_k_whyAbsent w h⟩)
theorem g_f_entry_k_forget_96 : GoodIn w_f_entry (wsV RX9 96 RX9 yX9_forget w_k_forget) := goodIn_app (gi_left (goodIn_of _ (by decide +kernel))) (fun w h => ⟨List.mem_append_right _ (List.mem_append_right _ (List.mem_append_right _ (List.mem_append_right _ (List.mem_append_right _ (List.mem_append_right _ (List.mem_append_right _ (List.mem_append_left _ h))))))), wg_k_forget w h⟩)
set_option maxHeartbeats 4000000 in
set_option maxRecDepth 100000 in
theorem f_entry (l : Launch) (E : gE) (h : Nat) (h_tables : Nat) (h_net : Value) (h_stations : Value) (h_clock : Value) (h_rules : Value) (h_timing : Value) (h_race : Value) (h_tracer : Value) (h_shown : Value) (h_trial : Value) (t_lefts : Nat) (t_numbers : Nat) (t_falls : Value) (t_lateCorner : Value) (t_earlyCorner : Value) (p1 : Int32) (p2 : Int32) (p3 : Int32) (p4 : Int32) (p5 : Int32) : CtI l E yX9_entry w_f_entry ({ frames := 2, cells := 0, slots := 0, locals := 42 }) [(h, .inr (9, [h_net, h_stations, h_clock, h_rules, .ref h_tables, h_timing, h_race, h_tracer, h_shown, h_trial, .int 0, .int 0])), (h_tables, .inr (5, [.ref t_numbers, .ref t_lefts, t_falls, t_lateCorner, t_earlyCorner])), (t_lefts, aI E 64 (fun _ => 3)), (t_numbers, aI E 192 (fun _ => 10))] [.ref h, .int p1, .int p2, .int p3, .int p4, .int p5] (fun r w => r = (if 0 ≤ p1.toInt ∧ p1.toInt < 8 ∧ 0 ≤ p2.toInt ∧ p2.toInt < 2 ∧ 0 ≤ p3.toInt ∧ p3.toInt < 4 ∧ 0 ≤ p4.toInt ∧ p4.toInt ≤ 2 ∧ 0 ≤ p5.toInt ∧ p5.toInt ≤ 3000 then 10 else -1) ∧ w = []) := by
  refine CtI.of (cc := cX9_entry) (maxL := 9) (rt := (some .int)) (by decide) rfl (Nat.le_of_ble_eq_true rfl) ?_
  intro p e s m below meth c A B ls hl
  obtain ⟨hx, hb, hml, hr, hlk, hin, hts, hown, hK, hN, hA, hP, hD, hS⟩ := B
  have hown : s.vm.findClass RX9 = some m.cls := hown
  have hto : ∀ w ∈ wo_f_entry, w.before _ s = true := fun w h => hts w (List.mem_append_left _ h)
  have hl : lv_has ls 9 [(0, .ref h), (1, .int p1), (2, .int p2), (3, .int p3), (4, .int p4), (5, .int p5)] := hl
  obtain ⟨H, hHe⟩ : ∃ H, H = s.heap := ⟨_, rfl⟩
  have hS : va_S A s.heap H [] := by rw [hHe]; exact hS
  have hP : va_P E.1 vwCl [(h, .inr (9, [h_net, h_stations, h_clock, h_rules, .ref h_tables, h_timing, h_race, h_tracer, h_shown, h_trial, .int 0, .int 0])), (h_tables, .inr (5, [.ref t_numbers, .ref t_lefts, t_falls, t_lateCorner, t_earlyCorner])), (t_lefts, aI E 64 (fun _ => 3)), (t_numbers, aI E 192 (fun _ => 10))] H := by rw [hHe]; exact hP
  refine W_heap hHe ?_
  refine lv_iload_n hx hb dX9_entry_0 rfl (lv_at hl 1 rfl) ?_
  refine lv_iload_n hx hb dX9_entry_1 rfl (lv_at hl 2 rfl) ?_
  refine lv_iload_n hx hb dX9_entry_2 rfl (lv_at hl 3 rfl) ?_
  refine call_i (va_runS (As := [.int p1, .int p2, .int p3]) (rest := []) ⟨hx, hb, hml, hown, hts⟩ (k_hasRow l E p1 p2 p3 H.size) (va_cwS 3 hts g_f_entry_k_hasRow_153 rfl rfl rfl (by decide +kernel) ⟨Nat.le_of_ble_eq_true rfl, Nat.le_of_ble_eq_true rfl⟩) (pre_S hK hN (hP.sub (ws' := []) [] rfl) (hD.sub (ws' := []) [] (by decide) rfl)) rfl rfl hl.1 rfl (lv_room (Nat.le_of_ble_eq_true rfl)) dX9_entry_3 ⟨Nat.le_of_ble_eq_true rfl, Nat.le_of_ble_eq_true rfl⟩) hP hD hS hA [] [0, 1, 2, 3] (wr := [(h, .inr (9, [h_net, h_stations, h_clock, h_rules, .ref h_tables, h_timing, h_race, h_tracer, h_shown, h_trial, .int 0, .int 0])), (h_tables, .inr (5, [.ref t_numbers, .ref t_lefts, t_falls, t_lateCorner, t_earlyCorner])), (t_lefts, aI E 64 (fun _ => 3)), (t_numbers, aI E 192 (fun _ => 10))]) rfl rfl (by decide) (by decide) (fun r_1 w H locs hw hP hD hS => ?_)
  obtain ⟨hr_1, rfl⟩ := hw
  have hr_1 : r_1 = if 0 ≤ p1.toInt ∧ p1.toInt < 8 ∧ 0 ≤ p2.toInt ∧ p2.toInt < 2 ∧ 0 ≤ p3.toInt ∧ p3.toInt < 4 then 1 else 0 := hr_1
  have hP : va_P E.1 vwCl [(h, .inr (9, [h_net, h_stations, h_clock, h_rules, .ref h_tables, h_timing, h_race, h_tracer, h_shown, h_trial, .int 0, .int 0])), (h_tables, .inr (5, [.ref t_numbers, .ref t_lefts, t_falls, t_lateCorner, t_earlyCorner])), (t_lefts, aI E 64 (fun _ => 3)), (t_numbers, aI E 192 (fun _ => 10))] H := hP
  have hD : va_D A [(h, .inr (9, [h_net, h_stations, h_clock, h_rules, .ref h_tables, h_timing, h_race, h_tracer, h_shown, h_trial, .int 0, .int 0])), (h_tables, .inr (5, [.ref t_numbers, .ref t_lefts, t_falls, t_lateCorner, t_earlyCorner])), (t_lefts, aI E 64 (fun _ => 3)), (t_numbers, aI E 192 (fun _ => 10))] := hD
  refine lv_if_eq (tgt := 31) hx hb dX9_entry_6 (by decide) (fun c_2 => ?_) (fun c_2 => ?_)
  · have e_2 : ¬ (0 ≤ p1.toInt ∧ p1.toInt < 8 ∧ 0 ≤ p2.toInt ∧ p2.toInt < 2 ∧ 0 ≤ p3.toInt ∧ p3.toInt < 4) := bi_neg hr_1 c_2
    refine lv_iconst (v := (-1)) hx hb dX9_entry_31 (by decide) ?_
    exact ret_i hx hb hr hlk (hP.sub (ws' := []) [] rfl) (hD.sub (ws' := []) [] (by decide) rfl) hS rfl dX9_entry_32 (Nat.le_of_ble_eq_true rfl) (Nat.le_of_ble_eq_true rfl) ⟨(by first | assumption | ((repeat' split) <;> first | rfl | (exfalso; omega))), rfl⟩
  · have e_2 : 0 ≤ p1.toInt ∧ p1.toInt < 8 ∧ 0 ≤ p2.toInt ∧ p2.toInt < 2 ∧ 0 ≤ p3.toInt ∧ p3.toInt < 4 := bi_pos hr_1 c_2
    refine lv_iload hx hb dX9_entry_9 (lv_at hl 4 rfl) ?_
    refine lv_iconst (v := 0) hx hb dX9_entry_11 (by decide) ?_
    refine lv_iconst (v := 2) hx hb dX9_entry_12 (by decide) ?_
    refine call_i (va_runS (As := [.int p4, .int 0, .int 2]) (rest := []) ⟨hx, hb, hml, hown, hts⟩ (k_within l E p4 0 2 H.size) (va_cwS 3 hts g_f_entry_k_within_88 rfl rfl rfl (by decide +kernel) ⟨Nat.le_of_ble_eq_true rfl, Nat.le_of_ble_eq_true rfl⟩) (pre_S hK hN (hP.sub (ws' := []) [] rfl) (hD.sub (ws' := []) [] (by decide) rfl)) rfl rfl hl.1 rfl (lv_room (Nat.le_of_ble_eq_true rfl)) dX9_entry_13 ⟨Nat.le_of_ble_eq_true rfl, Nat.le_of_ble_eq_true rfl⟩) hP hD hS hA [] [0, 1, 2, 3] (wr := [(h, .inr (9, [h_net, h_stations, h_clock, h_rules, .ref h_tables, h_timing, h_race, h_tracer, h_shown, h_trial, .int 0, .int 0])), (h_tables, .inr (5, [.ref t_numbers, .ref t_lefts, t_falls, t_lateCorner, t_earlyCorner])), (t_lefts, aI E 64 (fun _ => 3)), (t_numbers, aI E 192 (fun _ => 10))]) rfl rfl (by decide) (by decide) (fun r_3 w H locs hw hP hD hS => ?_)
    obtain ⟨hr_3, rfl⟩ := hw
    have hr_3 : r_3 = if 0 ≤ p4.toInt ∧ p4.toInt ≤ 2 then 1 else 0 := hr_3
    have hP : va_P E.1 vwCl [(h, .inr (9, [h_net, h_stations, h_clock, h_rules, .ref h_tables, h_timing, h_race, h_tracer, h_shown, h_trial, .int 0, .int 0])), (h_tables, .inr (5, [.ref t_numbers, .ref t_lefts, t_falls, t_lateCorner, t_earlyCorner])), (t_lefts, aI E 64 (fun _ => 3)), (t_numbers, aI E 192 (fun _ => 10))] H := hP
    have hD : va_D A [(h, .inr (9, [h_net, h_stations, h_clock, h_rules, .ref h_tables, h_timing, h_race, h_tracer, h_shown, h_trial, .int 0, .int 0])), (h_tables, .inr (5, [.ref t_numbers, .ref t_lefts, t_falls, t_lateCorner, t_earlyCorner])), (t_lefts, aI E 64 (fun _ => 3)), (t_numbers, aI E 192 (fun _ => 10))] := hD
    refine lv_if_eq (tgt := 31) hx hb dX9_entry_16 (by decide) (fun c_4 => ?_) (fun c_4 => ?_)
    · have e_4 : ¬ (0 ≤ p4.toInt ∧ p4.toInt ≤ 2) := bi_neg hr_3 c_4
      refine lv_iconst (v := (-1)) hx hb dX9_entry_31 (by decide) ?_
      exact ret_i hx hb hr hlk (hP.sub (ws' := []) [] rfl) (hD.sub (ws' := []) [] (by decide) rfl) hS rfl dX9_entry_32 (Nat.le_of_ble_eq_true rfl) (Nat.le_of_ble_eq_true rfl) ⟨(by first | assumption | ((repeat' split) <;> first | rfl | (exfalso; omega))), rfl⟩
    · have e_4 : 0 ≤ p4.toInt ∧ p4.toInt ≤ 2 := bi_pos hr_3 c_4
      refine lv_iload hx hb dX9_entry_19 (lv_at hl 5 rfl) ?_
      refine lv_iconst (v := 0) hx hb dX9_entry_21 (by decide) ?_
      refine lv_sipush (v := 3000) hx hb dX9_entry_22 (by decide) ?_
      refine call_i (va_runS (As := [.int p5, .int 0, .int 3000]) (rest := []) ⟨hx, hb, hml, hown, hts⟩ (k_within l E p5 0 3000 H.size) (va_cwS 3 hts g_f_entry_k_within_88 rfl rfl rfl (by decide +kernel) ⟨Nat.le_of_ble_eq_true rfl, Nat.le_of_ble_eq_true rfl⟩) (pre_S hK hN (hP.sub (ws' := []) [] rfl) (hD.sub (ws' := []) [] (by decide) rfl)) rfl rfl hl.1 rfl (lv_room (Nat.le_of_ble_eq_true rfl)) dX9_entry_25 ⟨Nat.le_of_ble_eq_true rfl, Nat.le_of_ble_eq_true rfl⟩) hP hD hS hA [] [0, 1, 2, 3] (wr := [(h, .inr (9, [h_net, h_stations, h_clock, h_rules, .ref h_tables, h_timing, h_race, h_tracer, h_shown, h_trial, .int 0, .int 0])), (h_tables, .inr (5, [.ref t_numbers, .ref t_lefts, t_falls, t_lateCorner, t_earlyCorner])), (t_lefts, aI E 64 (fun _ => 3)), (t_numbers, aI E 192 (fun _ => 10))]) rfl rfl (by decide) (by decide) (fun r_5 w H locs hw hP hD hS => ?_)
      obtain ⟨hr_5, rfl⟩ := hw
      have hr_5 : r_5 = if 0 ≤ p5.toInt ∧ p5.toInt ≤ 3000 then 1 else 0 := hr_5
      have hP : va_P E.1 vwCl [(h, .inr (9, [h_net, h_stations, h_clock, h_rules, .ref h_tables, h_timing, h_race, h_tracer, h_shown, h_trial, .int 0, .int 0])), (h_tables, .inr (5, [.ref t_numbers, .ref t_lefts, t_falls, t_lateCorner, t_earlyCorner])), (t_lefts, aI E 64 (fun _ => 3)), (t_numbers, aI E 192 (fun _ => 10))] H := hP
      have hD : va_D A [(h, .inr (9, [h_net, h_stations, h_clock, h_rules, .ref h_tables, h_timing, h_race, h_tracer, h_shown, h_trial, .int 0, .int 0])), (h_tables, .inr (5, [.ref t_numbers, .ref t_lefts, t_falls, t_lateCorner, t_earlyCorner])), (t_lefts, aI E 64 (fun _ => 3)), (t_numbers, aI E 192 (fun _ => 10))] := hD
      refine lv_if_ne (tgt := 33) hx hb dX9_entry_28 (by decide) (fun c_6 => ?_) (fun c_6 => ?_)
      · have e_6 : 0 ≤ p5.toInt ∧ p5.toInt ≤ 3000 := bi_pos hr_5 c_6
        refine lv_iload_n hx hb dX9_entry_33 rfl (lv_at hl 1 rfl) ?_
        refine lv_iload_n hx hb dX9_entry_34 rfl (lv_at hl 2 rfl) ?_
        refine lv_iload_n hx hb dX9_entry_35 rfl (lv_at hl 3 rfl) ?_
        refine call_i (va_runS (As := [.int p1, .int p2, .int p3]) (rest := []) ⟨hx, hb, hml, hown, hts⟩ (k_rowPlace l E p1 p2 p3 (by omega) (by omega) (by omega) H.size) (va_cwS 3 hts g_f_entry_k_rowPlace_156 rfl rfl rfl (by decide +kernel) ⟨Nat.le_of_ble_eq_true rfl, Nat.le_of_ble_eq_true rfl⟩) (pre_S hK hN (hP.sub (ws' := []) [] rfl) (hD.sub (ws' := []) [] (by decide) rfl)) rfl rfl hl.1 rfl (lv_room (Nat.le_of_ble_eq_true rfl)) dX9_entry_36 ⟨Nat.le_of_ble_eq_true rfl, Nat.le_of_ble_eq_true rfl⟩) hP hD hS hA [] [0, 1, 2, 3] (wr := [(h, .inr (9, [h_net, h_stations, h_clock, h_rules, .ref h_tables, h_timing, h_race, h_tracer, h_shown, h_trial, .int 0, .int 0])), (h_tables, .inr (5, [.ref t_numbers, .ref t_lefts, t_falls, t_lateCorner, t_earlyCorner])), (t_lefts, aI E 64 (fun _ => 3)), (t_numbers, aI E 192 (fun _ => 10))]) rfl rfl (by decide) (by decide) (fun r_7 w H locs hw hP hD hS => ?_)
        obtain ⟨hr_7, rfl⟩ := hw
        have hr_7 : r_7.toInt = (p1.toInt * 2 + p2.toInt) * 4 + p3.toInt := hr_7
        have hP : va_P E.1 vwCl [(h, .inr (9, [h_net, h_stations, h_clock, h_rules, .ref h_tables, h_timing, h_race, h_tracer, h_shown, h_trial, .int 0, .int 0])), (h_tables, .inr (5, [.ref t_numbers, .ref t_lefts, t_falls, t_lateCorner, t_earlyCorner])), (t_lefts, aI E 64 (fun _ => 3)), (t_numbers, aI E 192 (fun _ => 10))] H := hP
        have hD : va_D A [(h, .inr (9, [h_net, h_stations, h_clock, h_rules, .ref h_tables, h_timing, h_race, h_tracer, h_shown, h_trial, .int 0, .int 0])), (h_tables, .inr (5, [.ref t_numbers, .ref t_lefts, t_falls, t_lateCorner, t_earlyCorner])), (t_lefts, aI E 64 (fun _ => 3)), (t_numbers, aI E 192 (fun _ => 10))] := hD
        refine lv_istore (lv' := [(6, .int r_7), (0, .ref h), (1, .int p1), (2, .int p2), (3, .int p3), (4, .int p4), (5, .int p5)]) hx hb dX9_entry_39 hl (by decide) rfl (fun ls hl => ?_)
        refine lv_aload_n hx hb dX9_entry_41 rfl (lv_at hl 1 rfl) ?_
        refine va_get (D := E.1) (ci := 9) (v := .ref h_tables) (own := RX9) (C := RX9) (T := TX9) (N := 12) hx hb hts i_f_entry_X9 hown hK hP 0 rfl rfl 4 (by decide) (hto (.fieldLink RX9 40 "TimingHouse" "tables" "LTimingHouse$Tables;") (by decide +kernel)) (fun _ h9 => h9) rfl dX9_entry_42 ?_
        refine lv_iload hx hb dX9_entry_45 (lv_at hl 0 rfl) ?_
        refine lv_iload hx hb dX9_entry_47 (lv_at hl 5 rfl) ?_
        refine call_i (va_runV (As := [.int r_7, .int p4]) (rest := []) ⟨hx, hb, hml, hown, hts⟩ (k_whyAbsent l E h_tables t_lefts (.ref t_numbers) (t_falls) (t_lateCorner) (t_earlyCorner) r_7 p4 (by omega) (by omega) H.size) (cwV 2 hts g_f_entry_k_whyAbsent_159 rfl rfl rfl (by decide +kernel) ⟨Nat.le_of_ble_eq_true rfl, Nat.le_of_ble_eq_true rfl⟩) (pre_V hK hN (hP.sub (ws' := [(h_tables, .inr (5, [.ref t_numbers, .ref t_lefts, t_falls, t_lateCorner, t_earlyCorner])), (t_lefts, aI E 64 (fun _ => 3))]) [1, 2] rfl) (hD.sub (ws' := [(h_tables, .inr (5, [.ref t_numbers, .ref t_lefts, t_falls, t_lateCorner, t_earlyCorner])), (t_lefts, aI E 64 (fun _ => 3))]) [1, 2] (by decide) rfl) (ci := 5) (q0 := 0) rfl rfl) rfl rfl hl.1 rfl (lv_room (Nat.le_of_ble_eq_true rfl)) dX9_entry_49 ⟨Nat.le_of_ble_eq_true rfl, Nat.le_of_ble_eq_true rfl⟩) hP hD hS hA [1, 2] [0, 3] (wr := [(h, .inr (9, [h_net, h_stations, h_clock, h_rules, .ref h_tables, h_timing, h_race, h_tracer, h_shown, h_trial, .int 0, .int 0])), (t_numbers, aI E 192 (fun _ => 10))]) rfl rfl (by decide) (by decide) (fun r_8 w H locs hw hP hD hS => ?_)
        obtain ⟨rfl, rfl⟩ := hw
        have hP : va_P E.1 vwCl [(h, .inr (9, [h_net, h_stations, h_clock, h_rules, .ref h_tables, h_timing, h_race, h_tracer, h_shown, h_trial, .int 0, .int 0])), (t_numbers, aI E 192 (fun _ => 10)), (h_tables, .inr (5, [.ref t_numbers, .ref t_lefts, t_falls, t_lateCorner, t_earlyCorner])), (t_lefts, aI E 64 (fun _ => 3))] H := hP
        have hD : va_D A [(h, .inr (9, [h_net, h_stations, h_clock, h_rules, .ref h_tables, h_timing, h_race, h_tracer, h_shown, h_trial, .int 0, .int 0])), (t_numbers, aI E 192 (fun _ => 10)), (h_tables, .inr (5, [.ref t_numbers, .ref t_lefts, t_falls, t_lateCorner, t_earlyCorner])), (t_lefts, aI E 64 (fun _ => 3))] := hD
        refine lv_istore (lv' := [(7, .int 0), (6, .int r_7), (0, .ref h), (1, .int p1), (2, .int p2), (3, .int p3), (4, .int p4), (5, .int p5)]) hx hb dX9_entry_52 hl (by decide) rfl (fun ls hl => ?_)
        refine lv_iload hx hb dX9_entry_54 (lv_at hl 0 rfl) ?_
        refine lv_if_eq (tgt := 62) hx hb dX9_entry_56 (by decide) (fun c_9 => ?_) (fun c_9 => ?_)
        · refine lv_aload_n hx hb dX9_entry_62 rfl (lv_at hl 2 rfl) ?_
          refine va_get (D := E.1) (ci := 9) (v := .ref h_tables) (own := RX9) (C := RX9) (T := TX9) (N := 12) hx hb hts i_f_entry_X9 hown hK hP 0 rfl rfl 4 (by decide) (hto (.fieldLink RX9 40 "TimingHouse" "tables" "LTimingHouse$Tables;") (by decide +kernel)) (fun _ h9 => h9) rfl dX9_entry_63 ?_
          refine va_getN (D := E.1) (ci := 5) (v := .ref t_numbers) (own := RX9) (ref := "TimingHouse$Tables") (host := "TimingHouse") (C := RX5) (T := TX5) (N := 5) hx hb hts i_f_entry_X5 hown hK hP 2 rfl rfl 0 (by decide) (nw_F hN 46 rfl) (fun _ h9 => h9) rfl dX9_entry_66 ?_
          refine lv_iload hx hb dX9_entry_69 (lv_at hl 1 rfl) ?_
          refine lv_iconst (v := 3) hx hb dX9_entry_71 (by decide) ?_
          refine lv_imul hx hb dX9_entry_72 ?_
          refine lv_topi (fun x_10 ex_10 => ?_)
          have tx_10 : x_10.toInt = r_7.toInt * 3 := i3_mulc rfl rfl ex_10 (by omega)
          refine lv_iload hx hb dX9_entry_73 (lv_at hl 6 rfl) ?_
          refine lv_iadd hx hb dX9_entry_75 ?_
          refine lv_topi (fun x_11 ex_11 => ?_)
          have tx_11 : x_11.toInt = x_10.toInt + p4.toInt := i3_addc rfl rfl ex_11 (by omega)
          refine va_iald hx hb hK hP 1 0 rfl rfl (i3_in (by omega)) dX9_entry_76 ?_
          refine lv_cst (y := 10) (by rfl) ?_
          refine lv_istore (lv' := [(8, .int 10), (7, .int 0), (6, .int r_7), (0, .ref h), (1, .int p1), (2, .int p2), (3, .int p3), (4, .int p4), (5, .int p5)]) hx hb dX9_entry_77 hl (by decide) rfl (fun ls hl => ?_)
          refine lv_aload_n hx hb dX9_entry_79 rfl (lv_at hl 3 rfl) ?_
          refine va_get (D := E.1) (ci := 9) (v := .ref h_tables) (own := RX9) (C := RX9) (T := TX9) (N := 12) hx hb hts i_f_entry_X9 hown hK hP 0 rfl rfl 4 (by decide) (hto (.fieldLink RX9 40 "TimingHouse" "tables" "LTimingHouse$Tables;") (by decide +kernel)) (fun _ h9 => h9) rfl dX9_entry_80 ?_
          refine va_getN (D := E.1) (ci := 5) (v := .ref t_numbers) (own := RX9) (ref := "TimingHouse$Tables") (host := "TimingHouse") (C := RX5) (T := TX5) (N := 5) hx hb hts i_f_entry_X5 hown hK hP 2 rfl rfl 0 (by decide) (nw_F hN 46 rfl) (fun _ h9 => h9) rfl dX9_entry_83 ?_
          refine lv_iload hx hb dX9_entry_86 (lv_at hl 2 rfl) ?_
          refine lv_iconst (v := 3) hx hb dX9_entry_88 (by decide) ?_
          refine lv_imul hx hb dX9_entry_89 ?_
          refine lv_topi (fun x_12 ex_12 => ?_)
          have tx_12 : x_12.toInt = r_7.toInt * 3 := i3_mulc rfl rfl ex_12 (by omega)
          refine lv_iload hx hb dX9_entry_90 (lv_at hl 7 rfl) ?_
          refine lv_iadd hx hb dX9_entry_92 ?_
          refine lv_topi (fun x_13 ex_13 => ?_)
          have tx_13 : x_13.toInt = x_12.toInt + p4.toInt := i3_addc rfl rfl ex_13 (by omega)
          refine lv_iload hx hb dX9_entry_93 (lv_at hl 8 rfl) ?_
          refine va_iast hx hb hK hP hD hS 1 0 rfl rfl (i3_in (by omega)) dX9_entry_95 (fun H locs hP hD hS => ?_)
          have hP : va_P E.1 vwCl [(h, .inr (9, [h_net, h_stations, h_clock, h_rules, .ref h_tables, h_timing, h_race, h_tracer, h_shown, h_trial, .int 0, .int 0])), (t_numbers, aI E 192 (upd (fun _ => 10) x_13.toNatClampNeg p5)), (h_tables, .inr (5, [.ref t_numbers, .ref t_lefts, t_falls, t_lateCorner, t_earlyCorner])), (t_lefts, aI E 64 (fun _ => 3))] H := hP
          have hD : va_D A [(h, .inr (9, [h_net, h_stations, h_clock, h_rules, .ref h_tables, h_timing, h_race, h_tracer, h_shown, h_trial, .int 0, .int 0])), (t_numbers, aI E 192 (upd (fun _ => 10) x_13.toNatClampNeg p5)), (h_tables, .inr (5, [.ref t_numbers, .ref t_lefts, t_falls, t_lateCorner, t_earlyCorner])), (t_lefts, aI E 64 (fun _ => 3))] := hD
          refine lv_aload_n hx hb dX9_entry_96 rfl (lv_at hl 3 rfl) ?_
          refine call_v (va_runV (As := []) (rest := []) ⟨hx, hb, hml, hown, hts⟩ (k_forget l E h (h_net) (h_stations) (h_clock) (h_rules) (.ref h_tables) (h_timing) (h_race) (h_tracer) (h_shown) (h_trial) 0 0 H.size) (cwV 0 hts g_f_entry_k_forget_96 rfl rfl rfl (by decide +kernel) ⟨Nat.le_of_ble_eq_true rfl, Nat.le_of_ble_eq_true rfl⟩) (pre_V hK hN (hP.sub (ws' := [(h, .inr (9, [h_net, h_stations, h_clock, h_rules, .ref h_tables, h_timing, h_race, h_tracer, h_shown, h_trial, .int 0, .int 0]))]) [0] rfl) (hD.sub (ws' := [(h, .inr (9, [h_net, h_stations, h_clock, h_rules, .ref h_tables, h_timing, h_race, h_tracer, h_shown, h_trial, .int 0, .int 0]))]) [0] (by decide) rfl) (ci := 9) (q0 := 0) rfl rfl) rfl rfl hl.1 rfl (lv_room (Nat.le_of_ble_eq_true rfl)) dX9_entry_97 ⟨Nat.le_of_ble_eq_true rfl, Nat.le_of_ble_eq_true rfl⟩) hP hD hS hA [0] [1, 2, 3] (wr := [(t_numbers, aI E 192 (upd (fun _ => 10) x_13.toNatClampNeg p5)), (h_tables, .inr (5, [.ref t_numbers, .ref t_lefts, t_falls, t_lateCorner, t_earlyCorner])), (t_lefts, aI E 64 (fun _ => 3))]) rfl rfl (by decide) (by decide) (fun w H locs hw hP hD hS => ?_)
          obtain rfl := hw
          have hP : va_P E.1 vwCl [(t_numbers, aI E 192 (upd (fun _ => 10) x_13.toNatClampNeg p5)), (h_tables, .inr (5, [.ref t_numbers, .ref t_lefts, t_falls, t_lateCorner, t_earlyCorner])), (t_lefts, aI E 64 (fun _ => 3)), (h, .inr (9, [h_net, h_stations, h_clock, h_rules, .ref h_tables, h_timing, h_race, h_tracer, h_shown, h_trial, .int 0, .int 0]))] H := hP
          have hD : va_D A [(t_numbers, aI E 192 (upd (fun _ => 10) x_13.toNatClampNeg p5)), (h_tables, .inr (5, [.ref t_numbers, .ref t_lefts, t_falls, t_lateCorner, t_earlyCorner])), (t_lefts, aI E 64 (fun _ => 3)), (h, .inr (9, [h_net, h_stations, h_clock, h_rules, .ref h_tables, h_timing, h_race, h_tracer, h_shown, h_trial, .int 0, .int 0]))] := hD
          refine lv_iload hx hb dX9_entry_100 (lv_at hl 0 rfl) ?_
          exact ret_i hx hb hr hlk (hP.sub (ws' := []) [] rfl) (hD.sub (ws' := []) [] (by decide) rfl) hS rfl dX9_entry_102 (Nat.le_of_ble_eq_true rfl) (Nat.le_of_ble_eq_true rfl) ⟨(by first | assumption | ((repeat' split) <;> first | rfl | (exfalso; omega))), rfl⟩
        · exact absurd c_9 (by decide)
      · have e_6 : ¬ (0 ≤ p5.toInt ∧ p5.toInt ≤ 3000) := bi_neg hr_5 c_6
        refine lv_iconst (v := (-1)) hx hb dX9_entry_31 (by decide) ?_
        exact ret_i hx hb hr hlk (hP.sub (ws' := []) [] rfl) (hD.sub (ws' := []) [] (by decide) rfl) hS rfl dX9_entry_32 (Nat.le_of_ble_eq_true rfl) (Nat.le_of_ble_eq_true rfl) ⟨(by first | assumption | ((repeat' split) <;> first | rfl | (exfalso; omega))), rfl⟩
theorem dX9_tear_0 : decode cX9_tear 0 = .ok (.iload_n 1, 1) := by decide +kernel
theorem dX9_tear_1 : decode cX9_tear 1 = .ok (.iload_n 2, 1) := by decide +kernel
theorem dX9_tear_2 : decode cX9_tear 2 = .ok (.iload_n 3, 1) := by decide +kernel
theorem dX9_tear_3 : decode cX9_tear 3 = .ok (.invokestatic 153, 3) := by decide +kernel
theorem dX9_tear_6 : decode cX9_tear 6 = .ok (.ifCond .eq 13, 3) := by decide +kernel
theorem dX9_tear_19 : decode cX9_tear 19 = .ok (.iconst (-1), 1) := by decide +kernel
theorem dX9_tear_20 : decode cX9_tear 20 = .ok (.ireturn, 1) := by decide +kernel
theorem dX9_tear_9 : decode cX9_tear 9 = .ok (.iload 4, 2) := by decide +kernel
theorem dX9_tear_11 : decode cX9_tear 11 = .ok (.iconst 0, 1) := by decide +kernel
theorem dX9_tear_12 : decode cX9_tear 12 = .ok (.iconst 3, 1) := by decide +kernel
theorem dX9_tear_13 : decode cX9_tear 13 = .ok (.invokestatic 88, 3) := by decide +kernel
theorem dX9_tear_16 : decode cX9_tear 16 = .ok (.ifCond .ne 5, 3) := by decide +kernel
theorem dX9_tear_21 : decode cX9_tear 21 = .ok (.aload_n 0, 1) := by decide +kernel
theorem dX9_tear_22 : decode cX9_tear 22 = .ok (.invokevirtual 96, 3) := by decide +kernel
theorem dX9_tear_25 : decode cX9_tear 25 = .ok (.aload_n 0, 1) := by decide +kernel
theorem dX9_tear_26 : decode cX9_tear 26 = .ok (.getfield 40, 3) := by decide +kernel
theorem dX9_tear_29 : decode cX9_tear 29 = .ok (.iload_n 1, 1) := by decide +kernel
theorem dX9_tear_30 : decode cX9_tear 30 = .ok (.iload_n 2, 1) := by decide +kernel
theorem dX9_tear_31 : decode cX9_tear 31 = .ok (.iload_n 3, 1) := by decide +kernel
theorem dX9_tear_32 : decode cX9_tear 32 = .ok (.invokestatic 156, 3) := by decide +kernel
theorem dX9_tear_35 : decode cX9_tear 35 = .ok (.iload 4, 2) := by decide +kernel
theorem dX9_tear_37 : decode cX9_tear 37 = .ok (.invokevirtual 165, 3) := by decide +kernel
theorem dX9_tear_40 : decode cX9_tear 40 = .ok (.ireturn, 1) := by decide +kernel
def wo_f_tear : List Cond := [.code yX9_tear cX9_tear 5 (some .int), .methodLink RX9 153 yX5_hasRow, .static yX5_hasRow, .initialized RX5, .methodLink RX9 88 yX9_within, .static yX9_within, .initialized RX9, .methodLink RX9 96 yX9_forget, .instanceMethod yX9_forget, .selects RX9 yX9_forget yX9_forget, .fieldLink RX9 40 "TimingHouse" "tables" "LTimingHouse$Tables;", .methodLink RX9 156 yX5_rowPlace, .static yX5_rowPlace, .methodLink RX9 165 yX5_cutRow, .instanceMethod yX5_cutRow, .selects RX5 yX5_cutRow yX5_cutRow]
def wr_f_tear : List Cond := (wsX90 ++ (w_k_hasRow ++ (w_k_within ++ (w_k_forget ++ (w_k_rowPlace ++ (w_k_cutRow ++ ([])))))))
def w_f_tear : List Cond := wo_f_tear ++ wr_f_tear
theorem wg_f_tear : GW w_f_tear := GW_app (GW_of (by decide +kernel)) (GW_app (GW_of (by decide +kernel)) (GW_app (wg_k_hasRow) (GW_app (wg_k_within) (GW_app (wg_k_forget) (GW_app (wg_k_rowPlace) (GW_app (wg_k_cutRow) (GW_nil)))))))
theorem i_f_tear_X9 : ∀ w ∈ wsX90, w ∈ w_f_tear := fun _ h => List.mem_append_right _ (List.mem_append_left _ h)
theorem g_f_tear_k_hasRow_153 : GoodIn w_f_tear (va_wsS RX9 153 yX5_hasRow w_k_hasRow) := goodIn_app (gi_left (goodIn_of _ (by decide +kernel))) (fun w h => ⟨List.mem_append_right _ (List.mem_append_right _ (List.mem_append_left _ h)), wg_k_hasRow w h⟩)
theorem g_f_tear_k_within_88 : GoodIn w_f_tear (va_wsS RX9 88 yX9_within w_k_within) := goodIn_app (gi_left (goodIn_of _ (by decide +kernel))) (fun w h => ⟨List.mem_append_right _ (List.mem_append_right _ (List.mem_append_right _ (List.mem_append_left _ h))), wg_k_within w h⟩)
theorem g_f_tear_k_forget_96 : GoodIn w_f_tear (wsV RX9 96 RX9 yX9_forget w_k_forget) := goodIn_app (gi_left (goodIn_of _ (by decide +kernel))) (fun w h => ⟨List.mem_append_right _ (List.mem_append_right _ (List.mem_append_right _ (List.mem_append_right _ (List.mem_append_left _ h)))), wg_k_forget w h⟩)
theorem g_f_tear_k_rowPlace_156 : GoodIn w_f_tear (va_wsS RX9 156 yX5_rowPlace w_k_rowPlace) := goodIn_app (gi_left (goodIn_of _ (by decide +kernel))) (fun w h => ⟨List.mem_append_right _ (List.mem_append_right _ (List.mem_append_right _ (List.mem_append_right _ (List.mem_append_right _ (List.mem_append_left _ h))))), wg_k_rowPlace w h⟩)
theorem g_f_tear_k_cutRow_165 : GoodIn w_f_tear (wsV RX9 165 RX5 yX5_cutRow w_k_cutRow) := goodIn_app (gi_left (goodIn_of _ (by decide +kernel))) (fun w h => ⟨List.mem_append_right _ (List.mem_append_right _ (List.mem_append_right _ (List.mem_append_right _ (List.mem_append_right _ (List.mem_append_right _ (List.mem_append_left _ h)))))), wg_k_cutRow w h⟩)
set_option maxHeartbeats 4000000 in
set_option maxRecDepth 100000 in
theorem f_tear (l : Launch) (E : gE) (h : Nat) (h_tables : Nat) (h_net : Value) (h_stations : Value) (h_clock : Value) (h_rules : Value) (h_timing : Value) (h_race : Value) (h_tracer : Value) (h_shown : Value) (h_trial : Value) (t_lefts : Nat) (t_numbers : Nat) (t_falls : Value) (t_lateCorner : Value) (t_earlyCorner : Value) (p1 : Int32) (p2 : Int32) (p3 : Int32) (p4 : Int32) : CtI l E yX9_tear w_f_tear ({ frames := 2, cells := 0, slots := 0, locals := 42 }) [(h, .inr (9, [h_net, h_stations, h_clock, h_rules, .ref h_tables, h_timing, h_race, h_tracer, h_shown, h_trial, .int 0, .int 0])), (h_tables, .inr (5, [.ref t_numbers, .ref t_lefts, t_falls, t_lateCorner, t_earlyCorner])), (t_lefts, aI E 64 (fun _ => 3)), (t_numbers, aI E 192 (fun _ => 10))] [.ref h, .int p1, .int p2, .int p3, .int p4] (fun r w => r = (if 0 ≤ p1.toInt ∧ p1.toInt < 8 ∧ 0 ≤ p2.toInt ∧ p2.toInt < 2 ∧ 0 ≤ p3.toInt ∧ p3.toInt < 4 ∧ 0 ≤ p4.toInt ∧ p4.toInt ≤ 3 then 3 else -1) ∧ w = []) := by
  refine CtI.of (cc := cX9_tear) (maxL := 5) (rt := (some .int)) (by decide) rfl (Nat.le_of_ble_eq_true rfl) ?_
  intro p e s m below meth c A B ls hl
  obtain ⟨hx, hb, hml, hr, hlk, hin, hts, hown, hK, hN, hA, hP, hD, hS⟩ := B
  have hown : s.vm.findClass RX9 = some m.cls := hown
  have hto : ∀ w ∈ wo_f_tear, w.before _ s = true := fun w h => hts w (List.mem_append_left _ h)
  have hl : lv_has ls 5 [(0, .ref h), (1, .int p1), (2, .int p2), (3, .int p3), (4, .int p4)] := hl
  obtain ⟨H, hHe⟩ : ∃ H, H = s.heap := ⟨_, rfl⟩
  have hS : va_S A s.heap H [] := by rw [hHe]; exact hS
  have hP : va_P E.1 vwCl [(h, .inr (9, [h_net, h_stations, h_clock, h_rules, .ref h_tables, h_timing, h_race, h_tracer, h_shown, h_trial, .int 0, .int 0])), (h_tables, .inr (5, [.ref t_numbers, .ref t_lefts, t_falls, t_lateCorner, t_earlyCorner])), (t_lefts, aI E 64 (fun _ => 3)), (t_numbers, aI E 192 (fun _ => 10))] H := by rw [hHe]; exact hP
  refine W_heap hHe ?_
  refine lv_iload_n hx hb dX9_tear_0 rfl (lv_at hl 1 rfl) ?_
  refine lv_iload_n hx hb dX9_tear_1 rfl (lv_at hl 2 rfl) ?_
  refine lv_iload_n hx hb dX9_tear_2 rfl (lv_at hl 3 rfl) ?_
  refine call_i (va_runS (As := [.int p1, .int p2, .int p3]) (rest := []) ⟨hx, hb, hml, hown, hts⟩ (k_hasRow l E p1 p2 p3 H.size) (va_cwS 3 hts g_f_tear_k_hasRow_153 rfl rfl rfl (by decide +kernel) ⟨Nat.le_of_ble_eq_true rfl, Nat.le_of_ble_eq_true rfl⟩) (pre_S hK hN (hP.sub (ws' := []) [] rfl) (hD.sub (ws' := []) [] (by decide) rfl)) rfl rfl hl.1 rfl (lv_room (Nat.le_of_ble_eq_true rfl)) dX9_tear_3 ⟨Nat.le_of_ble_eq_true rfl, Nat.le_of_ble_eq_true rfl⟩) hP hD hS hA [] [0, 1, 2, 3] (wr := [(h, .inr (9, [h_net, h_stations, h_clock, h_rules, .ref h_tables, h_timing, h_race, h_tracer, h_shown, h_trial, .int 0, .int 0])), (h_tables, .inr (5, [.ref t_numbers, .ref t_lefts, t_falls, t_lateCorner, t_earlyCorner])), (t_lefts, aI E 64 (fun _ => 3)), (t_numbers, aI E 192 (fun _ => 10))]) rfl rfl (by decide) (by decide) (fun r_1 w H locs hw hP hD hS => ?_)
  obtain ⟨hr_1, rfl⟩ := hw
  have hr_1 : r_1 = if 0 ≤ p1.toInt ∧ p1.toInt < 8 ∧ 0 ≤ p2.toInt ∧ p2.toInt < 2 ∧ 0 ≤ p3.toInt ∧ p3.toInt < 4 then 1 else 0 := hr_1
  have hP : va_P E.1 vwCl [(h, .inr (9, [h_net, h_stations, h_clock, h_rules, .ref h_tables, h_timing, h_race, h_tracer, h_shown, h_trial, .int 0, .int 0])), (h_tables, .inr (5, [.ref t_numbers, .ref t_lefts, t_falls, t_lateCorner, t_earlyCorner])), (t_lefts, aI E 64 (fun _ => 3)), (t_numbers, aI E 192 (fun _ => 10))] H := hP
  have hD : va_D A [(h, .inr (9, [h_net, h_stations, h_clock, h_rules, .ref h_tables, h_timing, h_race, h_tracer, h_shown, h_trial, .int 0, .int 0])), (h_tables, .inr (5, [.ref t_numbers, .ref t_lefts, t_falls, t_lateCorner, t_earlyCorner])), (t_lefts, aI E 64 (fun _ => 3)), (t_numbers, aI E 192 (fun _ => 10))] := hD
  refine lv_if_eq (tgt := 19) hx hb dX9_tear_6 (by decide) (fun c_2 => ?_) (fun c_2 => ?_)
  · have e_2 : ¬ (0 ≤ p1.toInt ∧ p1.toInt < 8 ∧ 0 ≤ p2.toInt ∧ p2.toInt < 2 ∧ 0 ≤ p3.toInt ∧ p3.toInt < 4) := bi_neg hr_1 c_2
    refine lv_iconst (v := (-1)) hx hb dX9_tear_19 (by decide) ?_
    exact ret_i hx hb hr hlk (hP.sub (ws' := []) [] rfl) (hD.sub (ws' := []) [] (by decide) rfl) hS rfl dX9_tear_20 (Nat.le_of_ble_eq_true rfl) (Nat.le_of_ble_eq_true rfl) ⟨(by first | assumption | ((repeat' split) <;> first | rfl | (exfalso; omega))), rfl⟩
  · have e_2 : 0 ≤ p1.toInt ∧ p1.toInt < 8 ∧ 0 ≤ p2.toInt ∧ p2.toInt < 2 ∧ 0 ≤ p3.toInt ∧ p3.toInt < 4 := bi_pos hr_1 c_2
    refine lv_iload hx hb dX9_tear_9 (lv_at hl 4 rfl) ?_
    refine lv_iconst (v := 0) hx hb dX9_tear_11 (by decide) ?_
    refine lv_iconst (v := 3) hx hb dX9_tear_12 (by decide) ?_
    refine call_i (va_runS (As := [.int p4, .int 0, .int 3]) (rest := []) ⟨hx, hb, hml, hown, hts⟩ (k_within l E p4 0 3 H.size) (va_cwS 3 hts g_f_tear_k_within_88 rfl rfl rfl (by decide +kernel) ⟨Nat.le_of_ble_eq_true rfl, Nat.le_of_ble_eq_true rfl⟩) (pre_S hK hN (hP.sub (ws' := []) [] rfl) (hD.sub (ws' := []) [] (by decide) rfl)) rfl rfl hl.1 rfl (lv_room (Nat.le_of_ble_eq_true rfl)) dX9_tear_13 ⟨Nat.le_of_ble_eq_true rfl, Nat.le_of_ble_eq_true rfl⟩) hP hD hS hA [] [0, 1, 2, 3] (wr := [(h, .inr (9, [h_net, h_stations, h_clock, h_rules, .ref h_tables, h_timing, h_race, h_tracer, h_shown, h_trial, .int 0, .int 0])), (h_tables, .inr (5, [.ref t_numbers, .ref t_lefts, t_falls, t_lateCorner, t_earlyCorner])), (t_lefts, aI E 64 (fun _ => 3)), (t_numbers, aI E 192 (fun _ => 10))]) rfl rfl (by decide) (by decide) (fun r_3 w H locs hw hP hD hS => ?_)
    obtain ⟨hr_3, rfl⟩ := hw
    have hr_3 : r_3 = if 0 ≤ p4.toInt ∧ p4.toInt ≤ 3 then 1 else 0 := hr_3
    have hP : va_P E.1 vwCl [(h, .inr (9, [h_net, h_stations, h_clock, h_rules, .ref h_tables, h_timing, h_race, h_tracer, h_shown, h_trial, .int 0, .int 0])), (h_tables, .inr (5, [.ref t_numbers, .ref t_lefts, t_falls, t_lateCorner, t_earlyCorner])), (t_lefts, aI E 64 (fun _ => 3)), (t_numbers, aI E 192 (fun _ => 10))] H := hP
    have hD : va_D A [(h, .inr (9, [h_net, h_stations, h_clock, h_rules, .ref h_tables, h_timing, h_race, h_tracer, h_shown, h_trial, .int 0, .int 0])), (h_tables, .inr (5, [.ref t_numbers, .ref t_lefts, t_falls, t_lateCorner, t_earlyCorner])), (t_lefts, aI E 64 (fun _ => 3)), (t_numbers, aI E 192 (fun _ => 10))] := hD
    refine lv_if_ne (tgt := 21) hx hb dX9_tear_16 (by decide) (fun c_4 => ?_) (fun c_4 => ?_)
    · have e_4 : 0 ≤ p4.toInt ∧ p4.toInt ≤ 3 := bi_pos hr_3 c_4
      refine lv_aload_n hx hb dX9_tear_21 rfl (lv_at hl 0 rfl) ?_
      refine call_v (va_runV (As := []) (rest := []) ⟨hx, hb, hml, hown, hts⟩ (k_forget l E h (h_net) (h_stations) (h_clock) (h_rules) (.ref h_tables) (h_timing) (h_race) (h_tracer) (h_shown) (h_trial) 0 0 H.size) (cwV 0 hts g_f_tear_k_forget_96 rfl rfl rfl (by decide +kernel) ⟨Nat.le_of_ble_eq_true rfl, Nat.le_of_ble_eq_true rfl⟩) (pre_V hK hN (hP.sub (ws' := [(h, .inr (9, [h_net, h_stations, h_clock, h_rules, .ref h_tables, h_timing, h_race, h_tracer, h_shown, h_trial, .int 0, .int 0]))]) [0] rfl) (hD.sub (ws' := [(h, .inr (9, [h_net, h_stations, h_clock, h_rules, .ref h_tables, h_timing, h_race, h_tracer, h_shown, h_trial, .int 0, .int 0]))]) [0] (by decide) rfl) (ci := 9) (q0 := 0) rfl rfl) rfl rfl hl.1 rfl (lv_room (Nat.le_of_ble_eq_true rfl)) dX9_tear_22 ⟨Nat.le_of_ble_eq_true rfl, Nat.le_of_ble_eq_true rfl⟩) hP hD hS hA [0] [1, 2, 3] (wr := [(h_tables, .inr (5, [.ref t_numbers, .ref t_lefts, t_falls, t_lateCorner, t_earlyCorner])), (t_lefts, aI E 64 (fun _ => 3)), (t_numbers, aI E 192 (fun _ => 10))]) rfl rfl (by decide) (by decide) (fun w H locs hw hP hD hS => ?_)
      obtain rfl := hw
      have hP : va_P E.1 vwCl [(h_tables, .inr (5, [.ref t_numbers, .ref t_lefts, t_falls, t_lateCorner, t_earlyCorner])), (t_lefts, aI E 64 (fun _ => 3)), (t_numbers, aI E 192 (fun _ => 10)), (h, .inr (9, [h_net, h_stations, h_clock, h_rules, .ref h_tables, h_timing, h_race, h_tracer, h_shown, h_trial, .int 0, .int 0]))] H := hP
      have hD : va_D A [(h_tables, .inr (5, [.ref t_numbers, .ref t_lefts, t_falls, t_lateCorner, t_earlyCorner])), (t_lefts, aI E 64 (fun _ => 3)), (t_numbers, aI E 192 (fun _ => 10)), (h, .inr (9, [h_net, h_stations, h_clock, h_rules, .ref h_tables, h_timing, h_race, h_tracer, h_shown, h_trial, .int 0, .int 0]))] := hD
      refine lv_aload_n hx hb dX9_tear_25 rfl (lv_at hl 0 rfl) ?_
      refine va_get (D := E.1) (ci := 9) (v := .ref h_tables) (own := RX9) (C := RX9) (T := TX9) (N := 12) hx hb hts i_f_tear_X9 hown hK hP 3 rfl rfl 4 (by decide) (hto (.fieldLink RX9 40 "TimingHouse" "tables" "LTimingHouse$Tables;") (by decide +kernel)) (fun _ h9 => h9) rfl dX9_tear_26 ?_
      refine lv_iload_n hx hb dX9_tear_29 rfl (lv_at hl 1 rfl) ?_
      refine lv_iload_n hx hb dX9_tear_30 rfl (lv_at hl 2 rfl) ?_
      refine lv_iload_n hx hb dX9_tear_31 rfl (lv_at hl 3 rfl) ?_
      refine call_i (va_runS (As := [.int p1, .int p2, .int p3]) (rest := [.ref h_tables]) ⟨hx, hb, hml, hown, hts⟩ (k_rowPlace l E p1 p2 p3 (by omega) (by omega) (by omega) H.size) (va_cwS 3 hts g_f_tear_k_rowPlace_156 rfl rfl rfl (by decide +kernel) ⟨Nat.le_of_ble_eq_true rfl, Nat.le_of_ble_eq_true rfl⟩) (pre_S hK hN (hP.sub (ws' := []) [] rfl) (hD.sub (ws' := []) [] (by decide) rfl)) rfl rfl hl.1 rfl (lv_room (Nat.le_of_ble_eq_true rfl)) dX9_tear_32 ⟨Nat.le_of_ble_eq_true rfl, Nat.le_of_ble_eq_true rfl⟩) hP hD hS hA [] [0, 1, 2, 3] (wr := [(h_tables, .inr (5, [.ref t_numbers, .ref t_lefts, t_falls, t_lateCorner, t_earlyCorner])), (t_lefts, aI E 64 (fun _ => 3)), (t_numbers, aI E 192 (fun _ => 10)), (h, .inr (9, [h_net, h_stations, h_clock, h_rules, .ref h_tables, h_timing, h_race, h_tracer, h_shown, h_trial, .int 0, .int 0]))]) rfl rfl (by decide) (by decide) (fun r_6 w H locs hw hP hD hS => ?_)
      obtain ⟨hr_6, rfl⟩ := hw
      have hr_6 : r_6.toInt = (p1.toInt * 2 + p2.toInt) * 4 + p3.toInt := hr_6
      have hP : va_P E.1 vwCl [(h_tables, .inr (5, [.ref t_numbers, .ref t_lefts, t_falls, t_lateCorner, t_earlyCorner])), (t_lefts, aI E 64 (fun _ => 3)), (t_numbers, aI E 192 (fun _ => 10)), (h, .inr (9, [h_net, h_stations, h_clock, h_rules, .ref h_tables, h_timing, h_race, h_tracer, h_shown, h_trial, .int 0, .int 0]))] H := hP
      have hD : va_D A [(h_tables, .inr (5, [.ref t_numbers, .ref t_lefts, t_falls, t_lateCorner, t_earlyCorner])), (t_lefts, aI E 64 (fun _ => 3)), (t_numbers, aI E 192 (fun _ => 10)), (h, .inr (9, [h_net, h_stations, h_clock, h_rules, .ref h_tables, h_timing, h_race, h_tracer, h_shown, h_trial, .int 0, .int 0]))] := hD
      refine lv_iload hx hb dX9_tear_35 (lv_at hl 4 rfl) ?_
      refine call_i (va_runV (As := [.int r_6, .int p4]) (rest := []) ⟨hx, hb, hml, hown, hts⟩ (k_cutRow l E h_tables t_lefts t_numbers (t_falls) (t_lateCorner) (t_earlyCorner) r_6 p4 (by omega) (by omega) H.size) (cwV 2 hts g_f_tear_k_cutRow_165 rfl rfl rfl (by decide +kernel) ⟨Nat.le_of_ble_eq_true rfl, Nat.le_of_ble_eq_true rfl⟩) (pre_V hK hN (hP.sub (ws' := [(h_tables, .inr (5, [.ref t_numbers, .ref t_lefts, t_falls, t_lateCorner, t_earlyCorner])), (t_lefts, aI E 64 (fun _ => 3)), (t_numbers, aI E 192 (fun _ => 10))]) [0, 1, 2] rfl) (hD.sub (ws' := [(h_tables, .inr (5, [.ref t_numbers, .ref t_lefts, t_falls, t_lateCorner, t_earlyCorner])), (t_lefts, aI E 64 (fun _ => 3)), (t_numbers, aI E 192 (fun _ => 10))]) [0, 1, 2] (by decide) rfl) (ci := 5) (q0 := 0) rfl rfl) rfl rfl hl.1 rfl (lv_room (Nat.le_of_ble_eq_true rfl)) dX9_tear_37 ⟨Nat.le_of_ble_eq_true rfl, Nat.le_of_ble_eq_true rfl⟩) hP hD hS hA [0, 1, 2] [3] (wr := [(h, .inr (9, [h_net, h_stations, h_clock, h_rules, .ref h_tables, h_timing, h_race, h_tracer, h_shown, h_trial, .int 0, .int 0]))]) rfl rfl (by decide) (by decide) (fun r_7 w H locs hw hP hD hS => ?_)
      obtain ⟨rfl, rfl⟩ := hw
      have hP : va_P E.1 vwCl [(h, .inr (9, [h_net, h_stations, h_clock, h_rules, .ref h_tables, h_timing, h_race, h_tracer, h_shown, h_trial, .int 0, .int 0]))] H := hP
      have hD : va_D A [(h, .inr (9, [h_net, h_stations, h_clock, h_rules, .ref h_tables, h_timing, h_race, h_tracer, h_shown, h_trial, .int 0, .int 0]))] := hD
      exact ret_i hx hb hr hlk (hP.sub (ws' := []) [] rfl) (hD.sub (ws' := []) [] (by decide) rfl) hS rfl dX9_tear_40 (Nat.le_of_ble_eq_true rfl) (Nat.le_of_ble_eq_true rfl) ⟨(by first | assumption | ((repeat' split) <;> first | rfl | (exfalso; omega))), rfl⟩
    · have e_4 : ¬ (0 ≤ p4.toInt ∧ p4.toInt ≤ 3) := bi_neg hr_3 c_4
      refine lv_iconst (v := (-1)) hx hb dX9_tear_19 (by decide) ?_
      exact ret_i hx hb hr hlk (hP.sub (ws' := []) [] rfl) (hD.sub (ws' := []) [] (by decide) rfl) hS rfl dX9_tear_20 (Nat.le_of_ble_eq_true rfl) (Nat.le_of_ble_eq_true rfl) ⟨(by first | assumption | ((repeat' split) <;> first | rfl | (exfalso; omega))), rfl⟩
theorem dX0_addNode_0 : decode cX0_addNode 0 = .ok (.aload_n 0, 1) := by decide +kernel
theorem dX0_addNode_1 : decode cX0_addNode 1 = .ok (.getfield 25, 3) := by decide +kernel
theorem dX0_addNode_4 : decode cX0_addNode 4 = .ok (.istore 4, 2) := by decide +kernel
theorem dX0_addNode_6 : decode cX0_addNode 6 = .ok (.aload_n 0, 1) := by decide +kernel
theorem dX0_addNode_7 : decode cX0_addNode 7 = .ok (.dup, 1) := by decide +kernel
theorem dX0_addNode_8 : decode cX0_addNode 8 = .ok (.getfield 25, 3) := by decide +kernel
theorem dX0_addNode_11 : decode cX0_addNode 11 = .ok (.iconst 1, 1) := by decide +kernel
theorem dX0_addNode_12 : decode cX0_addNode 12 = .ok (.iadd, 1) := by decide +kernel
theorem dX0_addNode_13 : decode cX0_addNode 13 = .ok (.putfield 25, 3) := by decide +kernel
theorem dX0_addNode_16 : decode cX0_addNode 16 = .ok (.aload_n 0, 1) := by decide +kernel
theorem dX0_addNode_17 : decode cX0_addNode 17 = .ok (.getfield 15, 3) := by decide +kernel
theorem dX0_addNode_20 : decode cX0_addNode 20 = .ok (.iload 4, 2) := by decide +kernel
theorem dX0_addNode_22 : decode cX0_addNode 22 = .ok (.iload_n 1, 1) := by decide +kernel
theorem dX0_addNode_23 : decode cX0_addNode 23 = .ok (.iastore, 1) := by decide +kernel
theorem dX0_addNode_24 : decode cX0_addNode 24 = .ok (.aload_n 0, 1) := by decide +kernel
theorem dX0_addNode_25 : decode cX0_addNode 25 = .ok (.getfield 19, 3) := by decide +kernel
theorem dX0_addNode_28 : decode cX0_addNode 28 = .ok (.iload 4, 2) := by decide +kernel
theorem dX0_addNode_30 : decode cX0_addNode 30 = .ok (.aload_n 0, 1) := by decide +kernel
theorem dX0_addNode_31 : decode cX0_addNode 31 = .ok (.iload_n 1, 1) := by decide +kernel
theorem dX0_addNode_32 : decode cX0_addNode 32 = .ok (.invokevirtual 28, 3) := by decide +kernel
theorem dX0_addNode_35 : decode cX0_addNode 35 = .ok (.iload_n 2, 1) := by decide +kernel
theorem dX0_addNode_36 : decode cX0_addNode 36 = .ok (.iadd, 1) := by decide +kernel
theorem dX0_addNode_37 : decode cX0_addNode 37 = .ok (.iastore, 1) := by decide +kernel
theorem dX0_addNode_38 : decode cX0_addNode 38 = .ok (.aload_n 0, 1) := by decide +kernel
theorem dX0_addNode_39 : decode cX0_addNode 39 = .ok (.getfield 22, 3) := by decide +kernel
theorem dX0_addNode_42 : decode cX0_addNode 42 = .ok (.iload 4, 2) := by decide +kernel
theorem dX0_addNode_44 : decode cX0_addNode 44 = .ok (.aload_n 0, 1) := by decide +kernel
theorem dX0_addNode_45 : decode cX0_addNode 45 = .ok (.iload_n 1, 1) := by decide +kernel
theorem dX0_addNode_46 : decode cX0_addNode 46 = .ok (.invokevirtual 32, 3) := by decide +kernel
theorem dX0_addNode_49 : decode cX0_addNode 49 = .ok (.iload_n 3, 1) := by decide +kernel
theorem dX0_addNode_50 : decode cX0_addNode 50 = .ok (.iadd, 1) := by decide +kernel
theorem dX0_addNode_51 : decode cX0_addNode 51 = .ok (.iastore, 1) := by decide +kernel
theorem dX0_addNode_52 : decode cX0_addNode 52 = .ok (.iload 4, 2) := by decide +kernel
theorem dX0_addNode_54 : decode cX0_addNode 54 = .ok (.ireturn, 1) := by decide +kernel
def wo_k_addNode : List Cond := [.code yX0_addNode cX0_addNode 5 (some .int), .fieldLink RX0 25 "TimingHouse$Clock" "nodes" "I", .fieldLink RX0 15 "TimingHouse$Clock" "parents" "[I", .fieldLink RX0 19 "TimingHouse$Clock" "earlySums" "[I", .methodLink RX0 28 yX0_earlyOf, .instanceMethod yX0_earlyOf, .selects RX0 yX0_earlyOf yX0_earlyOf, .initialized RX0, .fieldLink RX0 22 "TimingHouse$Clock" "lateSums" "[I", .methodLink RX0 32 yX0_lateOf, .instanceMethod yX0_lateOf, .selects RX0 yX0_lateOf yX0_lateOf]
def wr_k_addNode : List Cond := (wsX00 ++ (w_k_earlyOf ++ (w_k_lateOf ++ ([]))))
def w_k_addNode : List Cond := wo_k_addNode ++ wr_k_addNode
theorem wg_k_addNode : GW w_k_addNode := GW_app (GW_of (by decide +kernel)) (GW_app (GW_of (by decide +kernel)) (GW_app (wg_k_earlyOf) (GW_app (wg_k_lateOf) (GW_nil))))
theorem i_k_addNode_X0 : ∀ w ∈ wsX00, w ∈ w_k_addNode := fun _ h => List.mem_append_right _ (List.mem_append_left _ h)
theorem g_k_addNode_k_earlyOf_28 : GoodIn w_k_addNode (wsV RX0 28 RX0 yX0_earlyOf w_k_earlyOf) := goodIn_app (gi_left (goodIn_of _ (by decide +kernel))) (fun w h => ⟨List.mem_append_right _ (List.mem_append_right _ (List.mem_append_left _ h)), wg_k_earlyOf w h⟩)
theorem g_k_addNode_k_lateOf_32 : GoodIn w_k_addNode (wsV RX0 32 RX0 yX0_lateOf w_k_lateOf) := goodIn_app (gi_left (goodIn_of _ (by decide +kernel))) (fun w h => ⟨List.mem_append_right _ (List.mem_append_right _ (List.mem_append_right _ (List.mem_append_left _ h))), wg_k_lateOf w h⟩)
set_option maxHeartbeats 4000000 in
set_option maxRecDepth 100000 in
theorem k_addNode (l : Launch) (E : gE) (h_clock : Nat) (k_parents : Nat) (k_earlySums : Nat) (k_lateSums : Nat) (k_length : Value) (p1 : Int32) (p2 : Int32) (p3 : Int32) (ha : p1.toInt < 0) : CtI l E yX0_addNode w_k_addNode ({ frames := 1, cells := 0, slots := 0, locals := 21 }) [(h_clock, .inr (0, [k_length, .int 0, .ref k_parents, .ref k_earlySums, .ref k_lateSums])), (k_parents, aI E 20 (fun _ => 0)), (k_earlySums, aI E 20 (fun _ => 0)), (k_lateSums, aI E 20 (fun _ => 0))] [.ref h_clock, .int p1, .int p2, .int p3] (fun r w => r = 0 ∧ w = []) := by
  refine CtI.of (cc := cX0_addNode) (maxL := 5) (rt := (some .int)) (by decide) rfl (Nat.le_of_ble_eq_true rfl) ?_
  intro p e s m below meth c A B ls hl
  obtain ⟨hx, hb, hml, hr, hlk, hin, hts, hown, hK, hN, hA, hP, hD, hS⟩ := B
  have hown : s.vm.findClass RX0 = some m.cls := hown
  have hto : ∀ w ∈ wo_k_addNode, w.before _ s = true := fun w h => hts w (List.mem_append_left _ h)
  have hl : lv_has ls 5 [(0, .ref h_clock), (1, .int p1), (2, .int p2), (3, .int p3)] := hl
  obtain ⟨H, hHe⟩ : ∃ H, H = s.heap := ⟨_, rfl⟩
  have hS : va_S A s.heap H [] := by rw [hHe]; exact hS
  have hP : va_P E.1 vwCl [(h_clock, .inr (0, [k_length, .int 0, .ref k_parents, .ref k_earlySums, .ref k_lateSums])), (k_parents, aI E 20 (fun _ => 0)), (k_earlySums, aI E 20 (fun _ => 0)), (k_lateSums, aI E 20 (fun _ => 0))] H := by rw [hHe]; exact hP
  refine W_heap hHe ?_
  refine lv_aload_n hx hb dX0_addNode_0 rfl (lv_at hl 0 rfl) ?_
  refine va_get (D := E.1) (ci := 0) (v := .int 0) (own := RX0) (C := RX0) (T := TX0) (N := 5) hx hb hts i_k_addNode_X0 hown hK hP 0 rfl rfl 1 (by decide) (hto (.fieldLink RX0 25 "TimingHouse$Clock" "nodes" "I") (by decide +kernel)) (fun _ h9 => h9) rfl dX0_addNode_1 ?_
  refine lv_istore (lv' := [(4, .int 0), (0, .ref h_clock), (1, .int p1), (2, .int p2), (3, .int p3)]) hx hb dX0_addNode_4 hl (by decide) rfl (fun ls hl => ?_)
  refine lv_aload_n hx hb dX0_addNode_6 rfl (lv_at hl 1 rfl) ?_
  refine lv_dup hx hb dX0_addNode_7 rfl ?_
  refine va_get (D := E.1) (ci := 0) (v := .int 0) (own := RX0) (C := RX0) (T := TX0) (N := 5) hx hb hts i_k_addNode_X0 hown hK hP 0 rfl rfl 1 (by decide) (hto (.fieldLink RX0 25 "TimingHouse$Clock" "nodes" "I") (by decide +kernel)) (fun _ h9 => h9) rfl dX0_addNode_8 ?_
  refine lv_iconst (v := 1) hx hb dX0_addNode_11 (by decide) ?_
  refine lv_iadd hx hb dX0_addNode_12 ?_
  refine lv_cst (y := 1) (by decide) ?_
  refine va_put (D := E.1) (ci := 0) (v := .int 1) (ty := .int) (own := RX0) (C := RX0) (T := TX0) (N := 5) hx hb hts i_k_addNode_X0 tyX0 tyX0_ok nmX0 hown hK hP hD hS 0 rfl rfl 1 (by decide) (hto (.fieldLink RX0 25 "TimingHouse$Clock" "nodes" "I") (by decide +kernel)) (fun _ h9 => h9) rfl (by decide +kernel) rfl rfl (Nat.le_of_ble_eq_true rfl) dX0_addNode_13 (fun H locs hP hD hS => ?_)
  have hP : va_P E.1 vwCl [(h_clock, .inr (0, [k_length, .int 1, .ref k_parents, .ref k_earlySums, .ref k_lateSums])), (k_parents, aI E 20 (fun _ => 0)), (k_earlySums, aI E 20 (fun _ => 0)), (k_lateSums, aI E 20 (fun _ => 0))] H := hP
  have hD : va_D A [(h_clock, .inr (0, [k_length, .int 1, .ref k_parents, .ref k_earlySums, .ref k_lateSums])), (k_parents, aI E 20 (fun _ => 0)), (k_earlySums, aI E 20 (fun _ => 0)), (k_lateSums, aI E 20 (fun _ => 0))] := hD
  refine lv_aload_n hx hb dX0_addNode_16 rfl (lv_at hl 1 rfl) ?_
  refine va_get (D := E.1) (ci := 0) (v := .ref k_parents) (own := RX0) (C := RX0) (T := TX0) (N := 5) hx hb hts i_k_addNode_X0 hown hK hP 0 rfl rfl 2 (by decide) (hto (.fieldLink RX0 15 "TimingHouse$Clock" "parents" "[I") (by decide +kernel)) (fun _ h9 => h9) rfl dX0_addNode_17 ?_
  refine lv_iload hx hb dX0_addNode_20 (lv_at hl 0 rfl) ?_
  refine lv_iload_n hx hb dX0_addNode_22 rfl (lv_at hl 2 rfl) ?_
  refine va_iast hx hb hK hP hD hS 1 0 rfl rfl (i3_in (by decide)) dX0_addNode_23 (fun H locs hP hD hS => ?_)
  have hP : va_P E.1 vwCl [(h_clock, .inr (0, [k_length, .int 1, .ref k_parents, .ref k_earlySums, .ref k_lateSums])), (k_parents, aI E 20 (upd (fun _ => 0) 0 p1)), (k_earlySums, aI E 20 (fun _ => 0)), (k_lateSums, aI E 20 (fun _ => 0))] H := hP
  have hD : va_D A [(h_clock, .inr (0, [k_length, .int 1, .ref k_parents, .ref k_earlySums, .ref k_lateSums])), (k_parents, aI E 20 (upd (fun _ => 0) 0 p1)), (k_earlySums, aI E 20 (fun _ => 0)), (k_lateSums, aI E 20 (fun _ => 0))] := hD
  refine lv_aload_n hx hb dX0_addNode_24 rfl (lv_at hl 1 rfl) ?_
  refine va_get (D := E.1) (ci := 0) (v := .ref k_earlySums) (own := RX0) (C := RX0) (T := TX0) (N := 5) hx hb hts i_k_addNode_X0 hown hK hP 0 rfl rfl 3 (by decide) (hto (.fieldLink RX0 19 "TimingHouse$Clock" "earlySums" "[I") (by decide +kernel)) (fun _ h9 => h9) rfl dX0_addNode_25 ?_
  refine lv_iload hx hb dX0_addNode_28 (lv_at hl 0 rfl) ?_
  refine lv_aload_n hx hb dX0_addNode_30 rfl (lv_at hl 1 rfl) ?_
  refine lv_iload_n hx hb dX0_addNode_31 rfl (lv_at hl 2 rfl) ?_
  refine call_i (va_runV (As := [.int p1]) (rest := [.int 0, .ref k_earlySums]) ⟨hx, hb, hml, hown, hts⟩ (k_earlyOf l E h_clock (k_length) (.int 1) (.ref k_parents) (.ref k_earlySums) (.ref k_lateSums) p1 (by omega) H.size) (cwV 1 hts g_k_addNode_k_earlyOf_28 rfl rfl rfl (by decide +kernel) ⟨Nat.le_of_ble_eq_true rfl, Nat.le_of_ble_eq_true rfl⟩) (pre_V hK hN (hP.sub (ws' := [(h_clock, .inr (0, [k_length, .int 1, .ref k_parents, .ref k_earlySums, .ref k_lateSums]))]) [0] rfl) (hD.sub (ws' := [(h_clock, .inr (0, [k_length, .int 1, .ref k_parents, .ref k_earlySums, .ref k_lateSums]))]) [0] (by decide) rfl) (ci := 0) (q0 := 0) rfl rfl) rfl rfl hl.1 rfl (lv_room (Nat.le_of_ble_eq_true rfl)) dX0_addNode_32 ⟨Nat.le_of_ble_eq_true rfl, Nat.le_of_ble_eq_true rfl⟩) hP hD hS hA [0] [1, 2, 3] (wr := [(k_parents, aI E 20 (upd (fun _ => 0) 0 p1)), (k_earlySums, aI E 20 (fun _ => 0)), (k_lateSums, aI E 20 (fun _ => 0))]) rfl rfl (by decide) (by decide) (fun r_1 w H locs hw hP hD hS => ?_)
  obtain ⟨rfl, rfl⟩ := hw
  have hP : va_P E.1 vwCl [(k_parents, aI E 20 (upd (fun _ => 0) 0 p1)), (k_earlySums, aI E 20 (fun _ => 0)), (k_lateSums, aI E 20 (fun _ => 0)), (h_clock, .inr (0, [k_length, .int 1, .ref k_parents, .ref k_earlySums, .ref k_lateSums]))] H := hP
  have hD : va_D A [(k_parents, aI E 20 (upd (fun _ => 0) 0 p1)), (k_earlySums, aI E 20 (fun _ => 0)), (k_lateSums, aI E 20 (fun _ => 0)), (h_clock, .inr (0, [k_length, .int 1, .ref k_parents, .ref k_earlySums, .ref k_lateSums]))] := hD
  refine lv_iload_n hx hb dX0_addNode_35 rfl (lv_at hl 3 rfl) ?_
  refine lv_iadd hx hb dX0_addNode_36 ?_
  refine lv_topi (fun x_2 ex_2 => ?_)
  have bd_3 := i3_bd p2
  have tx_2 : x_2.toInt = 0 + p2.toInt := i3_addc rfl rfl ex_2 (by omega)
  refine va_iast hx hb hK hP hD hS 1 0 rfl rfl (i3_in (by decide)) dX0_addNode_37 (fun H locs hP hD hS => ?_)
  have hP : va_P E.1 vwCl [(k_parents, aI E 20 (upd (fun _ => 0) 0 p1)), (k_earlySums, aI E 20 (upd (fun _ => 0) 0 x_2)), (k_lateSums, aI E 20 (fun _ => 0)), (h_clock, .inr (0, [k_length, .int 1, .ref k_parents, .ref k_earlySums, .ref k_lateSums]))] H := hP
  have hD : va_D A [(k_parents, aI E 20 (upd (fun _ => 0) 0 p1)), (k_earlySums, aI E 20 (upd (fun _ => 0) 0 x_2)), (k_lateSums, aI E 20 (fun _ => 0)), (h_clock, .inr (0, [k_length, .int 1, .ref k_parents, .ref k_earlySums, .ref k_lateSums]))] := hD
  refine lv_aload_n hx hb dX0_addNode_38 rfl (lv_at hl 1 rfl) ?_
  refine va_get (D := E.1) (ci := 0) (v := .ref k_lateSums) (own := RX0) (C := RX0) (T := TX0) (N := 5) hx hb hts i_k_addNode_X0 hown hK hP 3 rfl rfl 4 (by decide) (hto (.fieldLink RX0 22 "TimingHouse$Clock" "lateSums" "[I") (by decide +kernel)) (fun _ h9 => h9) rfl dX0_addNode_39 ?_
  refine lv_iload hx hb dX0_addNode_42 (lv_at hl 0 rfl) ?_
  refine lv_aload_n hx hb dX0_addNode_44 rfl (lv_at hl 1 rfl) ?_
  refine lv_iload_n hx hb dX0_addNode_45 rfl (lv_at hl 2 rfl) ?_
  refine call_i (va_runV (As := [.int p1]) (rest := [.int 0, .ref k_lateSums]) ⟨hx, hb, hml, hown, hts⟩ (k_lateOf l E h_clock (k_length) (.int 1) (.ref k_parents) (.ref k_earlySums) (.ref k_lateSums) p1 (by omega) H.size) (cwV 1 hts g_k_addNode_k_lateOf_32 rfl rfl rfl (by decide +kernel) ⟨Nat.le_of_ble_eq_true rfl, Nat.le_of_ble_eq_true rfl⟩) (pre_V hK hN (hP.sub (ws' := [(h_clock, .inr (0, [k_length, .int 1, .ref k_parents, .ref k_earlySums, .ref k_lateSums]))]) [3] rfl) (hD.sub (ws' := [(h_clock, .inr (0, [k_length, .int 1, .ref k_parents, .ref k_earlySums, .ref k_lateSums]))]) [3] (by decide) rfl) (ci := 0) (q0 := 0) rfl rfl) rfl rfl hl.1 rfl (lv_room (Nat.le_of_ble_eq_true rfl)) dX0_addNode_46 ⟨Nat.le_of_ble_eq_true rfl, Nat.le_of_ble_eq_true rfl⟩) hP hD hS hA [3] [0, 1, 2] (wr := [(k_parents, aI E 20 (upd (fun _ => 0) 0 p1)), (k_earlySums, aI E 20 (upd (fun _ => 0) 0 x_2)), (k_lateSums, aI E 20 (fun _ => 0))]) rfl rfl (by decide) (by decide) (fun r_4 w H locs hw hP hD hS => ?_)
  obtain ⟨rfl, rfl⟩ := hw
  have hP : va_P E.1 vwCl [(k_parents, aI E 20 (upd (fun _ => 0) 0 p1)), (k_earlySums, aI E 20 (upd (fun _ => 0) 0 x_2)), (k_lateSums, aI E 20 (fun _ => 0)), (h_clock, .inr (0, [k_length, .int 1, .ref k_parents, .ref k_earlySums, .ref k_lateSums]))] H := hP
  have hD : va_D A [(k_parents, aI E 20 (upd (fun _ => 0) 0 p1)), (k_earlySums, aI E 20 (upd (fun _ => 0) 0 x_2)), (k_lateSums, aI E 20 (fun _ => 0)), (h_clock, .inr (0, [k_length, .int 1, .ref k_parents, .ref k_earlySums, .ref k_lateSums]))] := hD
  refine lv_iload_n hx hb dX0_addNode_49 rfl (lv_at hl 4 rfl) ?_
  refine lv_iadd hx hb dX0_addNode_50 ?_
  refine lv_topi (fun x_5 ex_5 => ?_)
  have bd_6 := i3_bd p3
  have tx_5 : x_5.toInt = 0 + p3.toInt := i3_addc rfl rfl ex_5 (by omega)
  refine va_iast hx hb hK hP hD hS 2 0 rfl rfl (i3_in (by decide)) dX0_addNode_51 (fun H locs hP hD hS => ?_)
  have hP : va_P E.1 vwCl [(k_parents, aI E 20 (upd (fun _ => 0) 0 p1)), (k_earlySums, aI E 20 (upd (fun _ => 0) 0 x_2)), (k_lateSums, aI E 20 (upd (fun _ => 0) 0 x_5)), (h_clock, .inr (0, [k_length, .int 1, .ref k_parents, .ref k_earlySums, .ref k_lateSums]))] H := hP
  have hD : va_D A [(k_parents, aI E 20 (upd (fun _ => 0) 0 p1)), (k_earlySums, aI E 20 (upd (fun _ => 0) 0 x_2)), (k_lateSums, aI E 20 (upd (fun _ => 0) 0 x_5)), (h_clock, .inr (0, [k_length, .int 1, .ref k_parents, .ref k_earlySums, .ref k_lateSums]))] := hD
  refine lv_iload hx hb dX0_addNode_52 (lv_at hl 0 rfl) ?_
  exact ret_i hx hb hr hlk (hP.sub (ws' := []) [] rfl) (hD.sub (ws' := []) [] (by decide) rfl) hS rfl dX0_addNode_54 (Nat.le_of_ble_eq_true rfl) (Nat.le_of_ble_eq_true rfl) ⟨rfl, rfl⟩
theorem dX9_node_0 : decode cX9_node 0 = .ok (.aload_n 0, 1) := by decide +kernel
theorem dX9_node_1 : decode cX9_node 1 = .ok (.getfield 26, 3) := by decide +kernel
theorem dX9_node_4 : decode cX9_node 4 = .ok (.iload_n 1, 1) := by decide +kernel
theorem dX9_node_5 : decode cX9_node 5 = .ok (.invokevirtual 138, 3) := by decide +kernel
theorem dX9_node_8 : decode cX9_node 8 = .ok (.ifCond .eq 18, 3) := by decide +kernel
theorem dX9_node_26 : decode cX9_node 26 = .ok (.iconst (-1), 1) := by decide +kernel
theorem dX9_node_27 : decode cX9_node 27 = .ok (.ireturn, 1) := by decide +kernel
theorem dX9_node_11 : decode cX9_node 11 = .ok (.iload_n 2, 1) := by decide +kernel
theorem dX9_node_12 : decode cX9_node 12 = .ok (.ifCond .lt 14, 3) := by decide +kernel
theorem dX9_node_15 : decode cX9_node 15 = .ok (.iload_n 2, 1) := by decide +kernel
theorem dX9_node_16 : decode cX9_node 16 = .ok (.iload_n 3, 1) := by decide +kernel
theorem dX9_node_17 : decode cX9_node 17 = .ok (.if_icmp .gt 9, 3) := by decide +kernel
theorem dX9_node_20 : decode cX9_node 20 = .ok (.iload_n 3, 1) := by decide +kernel
theorem dX9_node_21 : decode cX9_node 21 = .ok (.ldc 128, 2) := by decide +kernel
theorem dX9_node_23 : decode cX9_node 23 = .ok (.if_icmp .le 5, 3) := by decide +kernel
theorem dX9_node_28 : decode cX9_node 28 = .ok (.aload_n 0, 1) := by decide +kernel
theorem dX9_node_29 : decode cX9_node 29 = .ok (.getfield 26, 3) := by decide +kernel
theorem dX9_node_32 : decode cX9_node 32 = .ok (.getfield 181, 3) := by decide +kernel
theorem dX9_node_35 : decode cX9_node 35 = .ok (.bipush 20, 2) := by decide +kernel
theorem dX9_node_37 : decode cX9_node 37 = .ok (.if_icmp .lt 6, 3) := by decide +kernel
theorem dX9_node_43 : decode cX9_node 43 = .ok (.aload_n 0, 1) := by decide +kernel
theorem dX9_node_44 : decode cX9_node 44 = .ok (.getfield 26, 3) := by decide +kernel
theorem dX9_node_47 : decode cX9_node 47 = .ok (.iload_n 1, 1) := by decide +kernel
theorem dX9_node_48 : decode cX9_node 48 = .ok (.iload_n 2, 1) := by decide +kernel
theorem dX9_node_49 : decode cX9_node 49 = .ok (.iload_n 3, 1) := by decide +kernel
theorem dX9_node_50 : decode cX9_node 50 = .ok (.invokevirtual 183, 3) := by decide +kernel
theorem dX9_node_53 : decode cX9_node 53 = .ok (.ireturn, 1) := by decide +kernel
def wo_f_node : List Cond := [.code yX9_node cX9_node 4 (some .int), .fieldLink RX9 26 "TimingHouse" "clock" "LTimingHouse$Clock;", .methodLink RX9 138 yX0_hasOrRoot, .instanceMethod yX0_hasOrRoot, .selects RX0 yX0_hasOrRoot yX0_hasOrRoot, .initialized RX0, .constant RX9 128 100000, .methodLink RX9 183 yX0_addNode, .instanceMethod yX0_addNode, .selects RX0 yX0_addNode yX0_addNode]
def wr_f_node : List Cond := (wsX00 ++ (wsX90 ++ (w_k_hasOrRoot0 ++ (w_k_addNode ++ ([])))))
def w_f_node : List Cond := wo_f_node ++ wr_f_node
theorem wg_f_node : GW w_f_node := GW_app (GW_of (by decide +kernel)) (GW_app (GW_of (by decide +kernel)) (GW_app (GW_of (by decide +kernel)) (GW_app (wg_k_hasOrRoot0) (GW_app (wg_k_addNode) (GW_nil)))))
theorem i_f_node_X0 : ∀ w ∈ wsX00, w ∈ w_f_node := fun _ h => List.mem_append_right _ (List.mem_append_left _ h)
theorem i_f_node_X9 : ∀ w ∈ wsX90, w ∈ w_f_node := fun _ h => List.mem_append_right _ (List.mem_append_right _ (List.mem_append_left _ h))
theorem g_f_node_k_hasOrRoot0_138 : GoodIn w_f_node (wsV RX9 138 RX0 yX0_hasOrRoot w_k_hasOrRoot0) := goodIn_app (gi_left (goodIn_of _ (by decide +kernel))) (fun w h => ⟨List.mem_append_right _ (List.mem_append_right _ (List.mem_append_right _ (List.mem_append_left _ h))), wg_k_hasOrRoot0 w h⟩)
theorem g_f_node_k_addNode_183 : GoodIn w_f_node (wsV RX9 183 RX0 yX0_addNode w_k_addNode) := goodIn_app (gi_left (goodIn_of _ (by decide +kernel))) (fun w h => ⟨List.mem_append_right _ (List.mem_append_right _ (List.mem_append_right _ (List.mem_append_right _ (List.mem_append_left _ h)))), wg_k_addNode w h⟩)
set_option maxHeartbeats 4000000 in
set_option maxRecDepth 100000 in
theorem f_node (l : Launch) (E : gE) (h : Nat) (h_clock : Nat) (h_net : Value) (h_stations : Value) (h_rules : Value) (h_tables : Value) (h_timing : Value) (h_race : Value) (h_tracer : Value) (h_shown : Value) (h_trial : Value) (k_parents : Nat) (k_earlySums : Nat) (k_lateSums : Nat) (k_length : Value) (p1 : Int32) (p2 : Int32) (p3 : Int32) : CtI l E yX9_node w_f_node ({ frames := 2, cells := 0, slots := 0, locals := 45 }) [(h, .inr (9, [h_net, h_stations, .ref h_clock, h_rules, h_tables, h_timing, h_race, h_tracer, h_shown, h_trial, .int 0, .int 0])), (h_clock, .inr (0, [k_length, .int 0, .ref k_parents, .ref k_earlySums, .ref k_lateSums])), (k_parents, aI E 20 (fun _ => 0)), (k_earlySums, aI E 20 (fun _ => 0)), (k_lateSums, aI E 20 (fun _ => 0))] [.ref h, .int p1, .int p2, .int p3] (fun r w => r = (if p1.toInt = -1 ∧ 0 ≤ p2.toInt ∧ p2.toInt ≤ p3.toInt ∧ p3.toInt ≤ 100000 then 0 else -1) ∧ w = []) := by
  refine CtI.of (cc := cX9_node) (maxL := 4) (rt := (some .int)) (by decide) rfl (Nat.le_of_ble_eq_true rfl) ?_
  intro p e s m below meth c A B ls hl
  obtain ⟨hx, hb, hml, hr, hlk, hin, hts, hown, hK, hN, hA, hP, hD, hS⟩ := B
  have hown : s.vm.findClass RX9 = some m.cls := hown
  have hto : ∀ w ∈ wo_f_node, w.before _ s = true := fun w h => hts w (List.mem_append_left _ h)
  have hl : lv_has ls 4 [(0, .ref h), (1, .int p1), (2, .int p2), (3, .int p3)] := hl
  obtain ⟨H, hHe⟩ : ∃ H, H = s.heap := ⟨_, rfl⟩
  have hS : va_S A s.heap H [] := by rw [hHe]; exact hS
  have hP : va_P E.1 vwCl [(h, .inr (9, [h_net, h_stations, .ref h_clock, h_rules, h_tables, h_timing, h_race, h_tracer, h_shown, h_trial, .int 0, .int 0])), (h_clock, .inr (0, [k_length, .int 0, .ref k_parents, .ref k_earlySums, .ref k_lateSums])), (k_parents, aI E 20 (fun _ => 0)), (k_earlySums, aI E 20 (fun _ => 0)), (k_lateSums, aI E 20 (fun _ => 0))] H := by rw [hHe]; exact hP
  refine W_heap hHe ?_
  refine lv_aload_n hx hb dX9_node_0 rfl (lv_at hl 0 rfl) ?_
  refine va_get (D := E.1) (ci := 9) (v := .ref h_clock) (own := RX9) (C := RX9) (T := TX9) (N := 12) hx hb hts i_f_node_X9 hown hK hP 0 rfl rfl 2 (by decide) (hto (.fieldLink RX9 26 "TimingHouse" "clock" "LTimingHouse$Clock;") (by decide +kernel)) (fun _ h9 => h9) rfl dX9_node_1 ?_
  refine lv_iload_n hx hb dX9_node_4 rfl (lv_at hl 1 rfl) ?_
  refine call_i (va_runV (As := [.int p1]) (rest := []) ⟨hx, hb, hml, hown, hts⟩ (k_hasOrRoot0 l E h_clock (k_length) (.ref k_parents) (.ref k_earlySums) (.ref k_lateSums) p1 H.size) (cwV 1 hts g_f_node_k_hasOrRoot0_138 rfl rfl rfl (by decide +kernel) ⟨Nat.le_of_ble_eq_true rfl, Nat.le_of_ble_eq_true rfl⟩) (pre_V hK hN (hP.sub (ws' := [(h_clock, .inr (0, [k_length, .int 0, .ref k_parents, .ref k_earlySums, .ref k_lateSums]))]) [1] rfl) (hD.sub (ws' := [(h_clock, .inr (0, [k_length, .int 0, .ref k_parents, .ref k_earlySums, .ref k_lateSums]))]) [1] (by decide) rfl) (ci := 0) (q0 := 0) rfl rfl) rfl rfl hl.1 rfl (lv_room (Nat.le_of_ble_eq_true rfl)) dX9_node_5 ⟨Nat.le_of_ble_eq_true rfl, Nat.le_of_ble_eq_true rfl⟩) hP hD hS hA [1] [0, 2, 3, 4] (wr := [(h, .inr (9, [h_net, h_stations, .ref h_clock, h_rules, h_tables, h_timing, h_race, h_tracer, h_shown, h_trial, .int 0, .int 0])), (k_parents, aI E 20 (fun _ => 0)), (k_earlySums, aI E 20 (fun _ => 0)), (k_lateSums, aI E 20 (fun _ => 0))]) rfl rfl (by decide) (by decide) (fun r_1 w H locs hw hP hD hS => ?_)
  obtain ⟨hr_1, rfl⟩ := hw
  have hr_1 : r_1 = if (-1) ≤ p1.toInt ∧ p1.toInt < 0 then 1 else 0 := hr_1
  have hP : va_P E.1 vwCl [(h, .inr (9, [h_net, h_stations, .ref h_clock, h_rules, h_tables, h_timing, h_race, h_tracer, h_shown, h_trial, .int 0, .int 0])), (k_parents, aI E 20 (fun _ => 0)), (k_earlySums, aI E 20 (fun _ => 0)), (k_lateSums, aI E 20 (fun _ => 0)), (h_clock, .inr (0, [k_length, .int 0, .ref k_parents, .ref k_earlySums, .ref k_lateSums]))] H := hP
  have hD : va_D A [(h, .inr (9, [h_net, h_stations, .ref h_clock, h_rules, h_tables, h_timing, h_race, h_tracer, h_shown, h_trial, .int 0, .int 0])), (k_parents, aI E 20 (fun _ => 0)), (k_earlySums, aI E 20 (fun _ => 0)), (k_lateSums, aI E 20 (fun _ => 0)), (h_clock, .inr (0, [k_length, .int 0, .ref k_parents, .ref k_earlySums, .ref k_lateSums]))] := hD
  refine lv_if_eq (tgt := 26) hx hb dX9_node_8 (by decide) (fun c_2 => ?_) (fun c_2 => ?_)
  · have e_2 : ¬ ((-1) ≤ p1.toInt ∧ p1.toInt < 0) := bi_neg hr_1 c_2
    refine lv_iconst (v := (-1)) hx hb dX9_node_26 (by decide) ?_
    exact ret_i hx hb hr hlk (hP.sub (ws' := []) [] rfl) (hD.sub (ws' := []) [] (by decide) rfl) hS rfl dX9_node_27 (Nat.le_of_ble_eq_true rfl) (Nat.le_of_ble_eq_true rfl) ⟨(by first | assumption | ((repeat' split) <;> first | rfl | (exfalso; omega))), rfl⟩
  · have e_2 : (-1) ≤ p1.toInt ∧ p1.toInt < 0 := bi_pos hr_1 c_2
    refine lv_iload_n hx hb dX9_node_11 rfl (lv_at hl 2 rfl) ?_
    refine lv_if_lt (tgt := 26) hx hb dX9_node_12 (by decide) (fun c_3 => ?_) (fun c_3 => ?_)
    · have e_3 : p2.toInt < 0 := i3_lt c_3
      refine lv_iconst (v := (-1)) hx hb dX9_node_26 (by decide) ?_
      exact ret_i hx hb hr hlk (hP.sub (ws' := []) [] rfl) (hD.sub (ws' := []) [] (by decide) rfl) hS rfl dX9_node_27 (Nat.le_of_ble_eq_true rfl) (Nat.le_of_ble_eq_true rfl) ⟨(by first | assumption | ((repeat' split) <;> first | rfl | (exfalso; omega))), rfl⟩
    · have e_3 : 0 ≤ p2.toInt := i3_nlt c_3
      refine lv_iload_n hx hb dX9_node_15 rfl (lv_at hl 2 rfl) ?_
      refine lv_iload_n hx hb dX9_node_16 rfl (lv_at hl 3 rfl) ?_
      refine lv_icmp_gt (tgt := 26) hx hb dX9_node_17 (by decide) (fun c_4 => ?_) (fun c_4 => ?_)
      · have e_4 : p3.toInt < p2.toInt := i3_lt c_4
        refine lv_iconst (v := (-1)) hx hb dX9_node_26 (by decide) ?_
        exact ret_i hx hb hr hlk (hP.sub (ws' := []) [] rfl) (hD.sub (ws' := []) [] (by decide) rfl) hS rfl dX9_node_27 (Nat.le_of_ble_eq_true rfl) (Nat.le_of_ble_eq_true rfl) ⟨(by first | assumption | ((repeat' split) <;> first | rfl | (exfalso; omega))), rfl⟩
      · have e_4 : p2.toInt ≤ p3.toInt := i3_nlt c_4
        refine lv_iload_n hx hb dX9_node_20 rfl (lv_at hl 3 rfl) ?_
        refine lv_ldc (v := 100000) hx hb hown (hto (.constant RX9 128 100000) (by decide +kernel)) dX9_node_21 ?_
        refine lv_icmp_le (tgt := 28) hx hb dX9_node_23 (by decide) (fun c_5 => ?_) (fun c_5 => ?_)
        · have e_5 : p3.toInt ≤ 100000 := i3_le c_5
          refine lv_aload_n hx hb dX9_node_28 rfl (lv_at hl 0 rfl) ?_
          refine va_get (D := E.1) (ci := 9) (v := .ref h_clock) (own := RX9) (C := RX9) (T := TX9) (N := 12) hx hb hts i_f_node_X9 hown hK hP 0 rfl rfl 2 (by decide) (hto (.fieldLink RX9 26 "TimingHouse" "clock" "LTimingHouse$Clock;") (by decide +kernel)) (fun _ h9 => h9) rfl dX9_node_29 ?_
          refine va_getN (D := E.1) (ci := 0) (v := .int 0) (own := RX9) (ref := "TimingHouse$Clock") (host := "TimingHouse") (C := RX0) (T := TX0) (N := 5) hx hb hts i_f_node_X0 hown hK hP 4 rfl rfl 1 (by decide) (nw_F hN 42 rfl) (fun _ h9 => h9) rfl dX9_node_32 ?_
          refine lv_bipush (v := 20) hx hb dX9_node_35 (by decide) ?_
          refine lv_icmp_lt (tgt := 43) hx hb dX9_node_37 (by decide) (fun c_6 => ?_) (fun c_6 => ?_)
          · refine lv_aload_n hx hb dX9_node_43 rfl (lv_at hl 0 rfl) ?_
            refine va_get (D := E.1) (ci := 9) (v := .ref h_clock) (own := RX9) (C := RX9) (T := TX9) (N := 12) hx hb hts i_f_node_X9 hown hK hP 0 rfl rfl 2 (by decide) (hto (.fieldLink RX9 26 "TimingHouse" "clock" "LTimingHouse$Clock;") (by decide +kernel)) (fun _ h9 => h9) rfl dX9_node_44 ?_
            refine lv_iload_n hx hb dX9_node_47 rfl (lv_at hl 1 rfl) ?_
            refine lv_iload_n hx hb dX9_node_48 rfl (lv_at hl 2 rfl) ?_
            refine lv_iload_n hx hb dX9_node_49 rfl (lv_at hl 3 rfl) ?_
            refine call_i (va_runV (As := [.int p1, .int p2, .int p3]) (rest := []) ⟨hx, hb, hml, hown, hts⟩ (k_addNode l E h_clock k_parents k_earlySums k_lateSums (k_length) p1 p2 p3 (by omega) H.size) (cwV 3 hts g_f_node_k_addNode_183 rfl rfl rfl (by decide +kernel) ⟨Nat.le_of_ble_eq_true rfl, Nat.le_of_ble_eq_true rfl⟩) (pre_V hK hN (hP.sub (ws' := [(h_clock, .inr (0, [k_length, .int 0, .ref k_parents, .ref k_earlySums, .ref k_lateSums])), (k_parents, aI E 20 (fun _ => 0)), (k_earlySums, aI E 20 (fun _ => 0)), (k_lateSums, aI E 20 (fun _ => 0))]) [4, 1, 2, 3] rfl) (hD.sub (ws' := [(h_clock, .inr (0, [k_length, .int 0, .ref k_parents, .ref k_earlySums, .ref k_lateSums])), (k_parents, aI E 20 (fun _ => 0)), (k_earlySums, aI E 20 (fun _ => 0)), (k_lateSums, aI E 20 (fun _ => 0))]) [4, 1, 2, 3] (by decide) rfl) (ci := 0) (q0 := 0) rfl rfl) rfl rfl hl.1 rfl (lv_room (Nat.le_of_ble_eq_true rfl)) dX9_node_50 ⟨Nat.le_of_ble_eq_true rfl, Nat.le_of_ble_eq_true rfl⟩) hP hD hS hA [4, 1, 2, 3] [0] (wr := [(h, .inr (9, [h_net, h_stations, .ref h_clock, h_rules, h_tables, h_timing, h_race, h_tracer, h_shown, h_trial, .int 0, .int 0]))]) rfl rfl (by decide) (by decide) (fun r_7 w H locs hw hP hD hS => ?_)
            obtain ⟨rfl, rfl⟩ := hw
            have hP : va_P E.1 vwCl [(h, .inr (9, [h_net, h_stations, .ref h_clock, h_rules, h_tables, h_timing, h_race, h_tracer, h_shown, h_trial, .int 0, .int 0]))] H := hP
            have hD : va_D A [(h, .inr (9, [h_net, h_stations, .ref h_clock, h_rules, h_tables, h_timing, h_race, h_tracer, h_shown, h_trial, .int 0, .int 0]))] := hD
            exact ret_i hx hb hr hlk (hP.sub (ws' := []) [] rfl) (hD.sub (ws' := []) [] (by decide) rfl) hS rfl dX9_node_53 (Nat.le_of_ble_eq_true rfl) (Nat.le_of_ble_eq_true rfl) ⟨(by first | assumption | ((repeat' split) <;> first | rfl | (exfalso; omega))), rfl⟩
          · exact absurd c_6 (by decide)
        · have e_5 : 100000 < p3.toInt := i3_nle c_5
          refine lv_iconst (v := (-1)) hx hb dX9_node_26 (by decide) ?_
          exact ret_i hx hb hr hlk (hP.sub (ws' := []) [] rfl) (hD.sub (ws' := []) [] (by decide) rfl) hS rfl dX9_node_27 (Nat.le_of_ble_eq_true rfl) (Nat.le_of_ble_eq_true rfl) ⟨(by first | assumption | ((repeat' split) <;> first | rfl | (exfalso; omega))), rfl⟩
