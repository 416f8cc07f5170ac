theorem dX8_putStep_0 : decode cX8_putStep 0 = .ok (.aload_n 0, 1) := by decide +kernel
theorem dX8_putStep_1 : decode cX8_putStep 1 = .ok (.getfield 24, 3) := by decide +kernel
theorem dX8_putStep_4 : decode cX8_putStep 4 = .ok (.bipush 51, 2) := by decide +kernel
theorem dX8_putStep_6 : decode cX8_putStep 6 = .ok (.if_icmp .ge 54, 3) := by decide +kernel
theorem dX8_putStep_60 : decode cX8_putStep 60 = .ok (.return_, 1) := by decide +kernel
theorem dX8_putStep_9 : decode cX8_putStep 9 = .ok (.aload_n 0, 1) := by decide +kernel
theorem dX8_putStep_10 : decode cX8_putStep 10 = .ok (.getfield 9, 3) := by decide +kernel
theorem dX8_putStep_13 : decode cX8_putStep 13 = .ok (.aload_n 0, 1) := by decide +kernel
theorem dX8_putStep_14 : decode cX8_putStep 14 = .ok (.getfield 24, 3) := by decide +kernel
theorem dX8_putStep_17 : decode cX8_putStep 17 = .ok (.iload_n 1, 1) := by decide +kernel
theorem dX8_putStep_18 : decode cX8_putStep 18 = .ok (.iastore, 1) := by decide +kernel
theorem dX8_putStep_19 : decode cX8_putStep 19 = .ok (.aload_n 0, 1) := by decide +kernel
theorem dX8_putStep_20 : decode cX8_putStep 20 = .ok (.getfield 15, 3) := by decide +kernel
theorem dX8_putStep_23 : decode cX8_putStep 23 = .ok (.aload_n 0, 1) := by decide +kernel
theorem dX8_putStep_24 : decode cX8_putStep 24 = .ok (.getfield 24, 3) := by decide +kernel
theorem dX8_putStep_27 : decode cX8_putStep 27 = .ok (.iload_n 2, 1) := by decide +kernel
theorem dX8_putStep_28 : decode cX8_putStep 28 = .ok (.iastore, 1) := by decide +kernel
theorem dX8_putStep_29 : decode cX8_putStep 29 = .ok (.aload_n 0, 1) := by decide +kernel
theorem dX8_putStep_30 : decode cX8_putStep 30 = .ok (.getfield 18, 3) := by decide +kernel
theorem dX8_putStep_33 : decode cX8_putStep 33 = .ok (.aload_n 0, 1) := by decide +kernel
theorem dX8_putStep_34 : decode cX8_putStep 34 = .ok (.getfield 24, 3) := by decide +kernel
theorem dX8_putStep_37 : decode cX8_putStep 37 = .ok (.iload_n 3, 1) := by decide +kernel
theorem dX8_putStep_38 : decode cX8_putStep 38 = .ok (.iastore, 1) := by decide +kernel
theorem dX8_putStep_39 : decode cX8_putStep 39 = .ok (.aload_n 0, 1) := by decide +kernel
theorem dX8_putStep_40 : decode cX8_putStep 40 = .ok (.getfield 21, 3) := by decide +kernel
theorem dX8_putStep_43 : decode cX8_putStep 43 = .ok (.aload_n 0, 1) := by decide +kernel
theorem dX8_putStep_44 : decode cX8_putStep 44 = .ok (.getfield 24, 3) := by decide +kernel
theorem dX8_putStep_47 : decode cX8_putStep 47 = .ok (.iload 4, 2) := by decide +kernel
theorem dX8_putStep_49 : decode cX8_putStep 49 = .ok (.iastore, 1) := by decide +kernel
theorem dX8_putStep_50 : decode cX8_putStep 50 = .ok (.aload_n 0, 1) := by decide +kernel
theorem dX8_putStep_51 : decode cX8_putStep 51 = .ok (.dup, 1) := by decide +kernel
theorem dX8_putStep_52 : decode cX8_putStep 52 = .ok (.getfield 24, 3) := by decide +kernel
theorem dX8_putStep_55 : decode cX8_putStep 55 = .ok (.iconst 1, 1) := by decide +kernel
theorem dX8_putStep_56 : decode cX8_putStep 56 = .ok (.iadd, 1) := by decide +kernel
theorem dX8_putStep_57 : decode cX8_putStep 57 = .ok (.putfield 24, 3) := by decide +kernel
def wo_q_putStep : List Cond := [.code yX8_putStep cX8_putStep 5 none, .fieldLink RX8 24 "TimingHouse$Trail" "length" "I", .fieldLink RX8 9 "TimingHouse$Trail" "cells" "[I", .fieldLink RX8 15 "TimingHouse$Trail" "inputs" "[I", .fieldLink RX8 18 "TimingHouse$Trail" "edges" "[I", .fieldLink RX8 21 "TimingHouse$Trail" "lates" "[I"]
def wr_q_putStep : List Cond := (wsX80 ++ ([]))
def w_q_putStep : List Cond := wo_q_putStep ++ wr_q_putStep
theorem wg_q_putStep : GW w_q_putStep := GW_app (GW_of (by decide +kernel)) (GW_app (GW_of (by decide +kernel)) (GW_nil))
theorem i_q_putStep_X8 : ∀ w ∈ wsX80, w ∈ w_q_putStep := fun _ h => List.mem_append_right _ (List.mem_append_left _ h)
set_option maxHeartbeats 8000000 in
set_option maxRecDepth 100000 in
theorem q_putStep (l : Launch) (E : gE) (o_w a_w_cells a_w_inputs a_w_edges a_w_lates : Nat) (f_w_length f_w_slackThere f_w_holdThere p1 p2 p3 p4 : Int32) (g_w_cells : Nat → Int32) (g_w_inputs : Nat → Int32) (g_w_edges : Nat → Int32) (g_w_lates : Nat → Int32) (r_f_w_length : RG f_w_length 0 51) (i_g_w_cells : AR g_w_cells 51 0 49) (r_p1 : RG p1 0 49) : CtV l E yX8_putStep w_q_putStep ({ frames := 0, cells := 0, slots := 0, locals := 0 }) [(o_w, .inr (8, [.int f_w_length, .ref a_w_cells, .ref a_w_inputs, .ref a_w_edges, .ref a_w_lates, .int f_w_slackThere, .int f_w_holdThere])), (a_w_cells, aI E 51 g_w_cells), (a_w_inputs, aI E 51 g_w_inputs), (a_w_edges, aI E 51 g_w_edges), (a_w_lates, aI E 51 g_w_lates)] [.ref o_w, .int p1, .int p2, .int p3, .int p4] (fun w => ∃ nf_w_length : Int32, ∃ ng_w_cells : Nat → Int32, ∃ ng_w_inputs : Nat → Int32, ∃ ng_w_edges : Nat → Int32, ∃ ng_w_lates : Nat → Int32, RG nf_w_length 0 51 ∧ AR ng_w_cells 51 0 49 ∧ w = [(o_w, .inr (8, [.int nf_w_length, .ref a_w_cells, .ref a_w_inputs, .ref a_w_edges, .ref a_w_lates, .int f_w_slackThere, .int f_w_holdThere])), (a_w_cells, aI E 51 ng_w_cells), (a_w_inputs, aI E 51 ng_w_inputs), (a_w_edges, aI E 51 ng_w_edges), (a_w_lates, aI E 51 ng_w_lates)]) := by
  refine CtV.of (cc := cX8_putStep) (maxL := 5) (rt := none) (by decide) rfl (Nat.le_of_ble_eq_true rfl) ?_
  intro p e s m below meth c A B ls hl
  obtain ⟨hx, hb, hml, hr, hlk, hin, hts, hown, hK, hN, hZ, hA, hP, hD, hS⟩ := B
  replace hown : s.vm.findClass RX8 = some m.cls := hown
  have hto : ∀ w ∈ wo_q_putStep, w.before _ s = true := fun w h => hts w (List.mem_append_left _ h)
  replace hl : lv_has ls 5 [(0, .ref o_w), (1, .int p1), (2, .int p2), (3, .int p3), (4, .int p4)] := hl
  obtain ⟨H, hHe⟩ : ∃ H, H = s.heap := ⟨_, rfl⟩
  obtain ⟨locs, hle⟩ : ∃ l : List Loc, l = [] := ⟨_, rfl⟩
  replace hS : va_S A s.heap H locs := by rw [hHe, hle]; exact hS
  replace hP : va_P E.1 vwCl [(o_w, .inr (8, [.int f_w_length, .ref a_w_cells, .ref a_w_inputs, .ref a_w_edges, .ref a_w_lates, .int f_w_slackThere, .int f_w_holdThere])), (a_w_cells, aI E 51 g_w_cells), (a_w_inputs, aI E 51 g_w_inputs), (a_w_edges, aI E 51 g_w_edges), (a_w_lates, aI E 51 g_w_lates)] H := by rw [hHe]; exact hP
  refine W_hl hHe hle ?_
  clear hHe hle
  refine lv_aload_n hx hb dX8_putStep_0 rfl (lv_at hl 0 rfl) ?_
  refine va_get (D := E.1) (ci := 8) (v := .int f_w_length) (own := RX8) (C := RX8) (T := TX8) (N := 7) hx hb hts i_q_putStep_X8 hown hK hP 0 rfl rfl 0 (by decide) (hto (.fieldLink RX8 24 "TimingHouse$Trail" "length" "I") (by decide +kernel)) (fun _ h9 => h9) rfl dX8_putStep_1 ?_
  refine lv_bipush (v := 51) hx hb dX8_putStep_4 (by decide) ?_
  have b_f_w_length := r_f_w_length.out
  refine lv_icmp_ge (tgt := 60) hx hb dX8_putStep_6 (by decide) (fun c_1 => ?_) (fun c_1 => ?_)
  · have e_1 : 51 ≤ f_w_length.toInt := i3_le c_1
    exact ret_v hx hb hr hlk (hP.sub (ws' := [(o_w, .inr (8, [.int f_w_length, .ref a_w_cells, .ref a_w_inputs, .ref a_w_edges, .ref a_w_lates, .int f_w_slackThere, .int f_w_holdThere])), (a_w_cells, aI E 51 g_w_cells), (a_w_inputs, aI E 51 g_w_inputs), (a_w_edges, aI E 51 g_w_edges), (a_w_lates, aI E 51 g_w_lates)]) [0, 1, 2, 3, 4] rfl) (hD.sub (ws' := [(o_w, .inr (8, [.int f_w_length, .ref a_w_cells, .ref a_w_inputs, .ref a_w_edges, .ref a_w_lates, .int f_w_slackThere, .int f_w_holdThere])), (a_w_cells, aI E 51 g_w_cells), (a_w_inputs, aI E 51 g_w_inputs), (a_w_edges, aI E 51 g_w_edges), (a_w_lates, aI E 51 g_w_lates)]) [0, 1, 2, 3, 4] (by decide) rfl) hS dX8_putStep_60 (Nat.le_of_ble_eq_true rfl) (Nat.le_of_ble_eq_true rfl) ⟨f_w_length, g_w_cells, g_w_inputs, g_w_edges, g_w_lates, r_f_w_length, i_g_w_cells, rfl⟩
  · have e_1 : f_w_length.toInt < 51 := i3_nle c_1
    refine lv_aload_n hx hb dX8_putStep_9 rfl (lv_at hl 0 rfl) ?_
    refine va_get (D := E.1) (ci := 8) (v := .ref a_w_cells) (own := RX8) (C := RX8) (T := TX8) (N := 7) hx hb hts i_q_putStep_X8 hown hK hP 0 rfl rfl 1 (by decide) (hto (.fieldLink RX8 9 "TimingHouse$Trail" "cells" "[I") (by decide +kernel)) (fun _ h9 => h9) rfl dX8_putStep_10 ?_
    refine lv_aload_n hx hb dX8_putStep_13 rfl (lv_at hl 0 rfl) ?_
    refine va_get (D := E.1) (ci := 8) (v := .int f_w_length) (own := RX8) (C := RX8) (T := TX8) (N := 7) hx hb hts i_q_putStep_X8 hown hK hP 0 rfl rfl 0 (by decide) (hto (.fieldLink RX8 24 "TimingHouse$Trail" "length" "I") (by decide +kernel)) (fun _ h9 => h9) rfl dX8_putStep_14 ?_
    refine lv_iload_n hx hb dX8_putStep_17 rfl (lv_at hl 1 rfl) ?_
    have b_p1 := r_p1.out
    refine st_i hx hb hK hP hD hS 1 rfl (by omega) dX8_putStep_18 (fun g_2 H locs eg_2 hP hD hS => ?_)
    have i_g_2 : AR g_2 51 0 49 := by rw [eg_2]; exact AR.up i_g_w_cells (by omega)
    clear eg_2
    replace hP : va_P E.1 vwCl [(o_w, .inr (8, [.int f_w_length, .ref a_w_cells, .ref a_w_inputs, .ref a_w_edges, .ref a_w_lates, .int f_w_slackThere, .int f_w_holdThere])), (a_w_cells, aI E 51 g_2), (a_w_inputs, aI E 51 g_w_inputs), (a_w_edges, aI E 51 g_w_edges), (a_w_lates, aI E 51 g_w_lates)] H := hP
    replace hD : va_D A [(o_w, .inr (8, [.int f_w_length, .ref a_w_cells, .ref a_w_inputs, .ref a_w_edges, .ref a_w_lates, .int f_w_slackThere, .int f_w_holdThere])), (a_w_cells, aI E 51 g_2), (a_w_inputs, aI E 51 g_w_inputs), (a_w_edges, aI E 51 g_w_edges), (a_w_lates, aI E 51 g_w_lates)] := hD
    refine lv_aload_n hx hb dX8_putStep_19 rfl (lv_at hl 0 rfl) ?_
    refine va_get (D := E.1) (ci := 8) (v := .ref a_w_inputs) (own := RX8) (C := RX8) (T := TX8) (N := 7) hx hb hts i_q_putStep_X8 hown hK hP 0 rfl rfl 2 (by decide) (hto (.fieldLink RX8 15 "TimingHouse$Trail" "inputs" "[I") (by decide +kernel)) (fun _ h9 => h9) rfl dX8_putStep_20 ?_
    refine lv_aload_n hx hb dX8_putStep_23 rfl (lv_at hl 0 rfl) ?_
    refine va_get (D := E.1) (ci := 8) (v := .int f_w_length) (own := RX8) (C := RX8) (T := TX8) (N := 7) hx hb hts i_q_putStep_X8 hown hK hP 0 rfl rfl 0 (by decide) (hto (.fieldLink RX8 24 "TimingHouse$Trail" "length" "I") (by decide +kernel)) (fun _ h9 => h9) rfl dX8_putStep_24 ?_
    refine lv_iload_n hx hb dX8_putStep_27 rfl (lv_at hl 2 rfl) ?_
    refine st_i hx hb hK hP hD hS 2 rfl (by omega) dX8_putStep_28 (fun g_3 H locs eg_3 hP hD hS => ?_)
    clear eg_3
    replace hP : va_P E.1 vwCl [(o_w, .inr (8, [.int f_w_length, .ref a_w_cells, .ref a_w_inputs, .ref a_w_edges, .ref a_w_lates, .int f_w_slackThere, .int f_w_holdThere])), (a_w_cells, aI E 51 g_2), (a_w_inputs, aI E 51 g_3), (a_w_edges, aI E 51 g_w_edges), (a_w_lates, aI E 51 g_w_lates)] H := hP
    replace hD : va_D A [(o_w, .inr (8, [.int f_w_length, .ref a_w_cells, .ref a_w_inputs, .ref a_w_edges, .ref a_w_lates, .int f_w_slackThere, .int f_w_holdThere])), (a_w_cells, aI E 51 g_2), (a_w_inputs, aI E 51 g_3), (a_w_edges, aI E 51 g_w_edges), (a_w_lates, aI E 51 g_w_lates)] := hD
    refine lv_aload_n hx hb dX8_putStep_29 rfl (lv_at hl 0 rfl) ?_
    refine va_get (D := E.1) (ci := 8) (v := .ref a_w_edges) (own := RX8) (C := RX8) (T := TX8) (N := 7) hx hb hts i_q_putStep_X8 hown hK hP 0 rfl rfl 3 (by decide) (hto (.fieldLink RX8 18 "TimingHouse$Trail" "edges" "[I") (by decide +kernel)) (fun _ h9 => h9) rfl dX8_putStep_30 ?_
    refine lv_aload_n hx hb dX8_putStep_33 rfl (lv_at hl 0 rfl) ?_
    refine va_get (D := E.1) (ci := 8) (v := .int f_w_length) (own := RX8) (C := RX8) (T := TX8) (N := 7) hx hb hts i_q_putStep_X8 hown hK hP 0 rfl rfl 0 (by decide) (hto (.fieldLink RX8 24 "TimingHouse$Trail" "length" "I") (by decide +kernel)) (fun _ h9 => h9) rfl dX8_putStep_34 ?_
    refine lv_iload_n hx hb dX8_putStep_37 rfl (lv_at hl 3 rfl) ?_
    refine st_i hx hb hK hP hD hS 3 rfl (by omega) dX8_putStep_38 (fun g_4 H locs eg_4 hP hD hS => ?_)
    clear eg_4
    replace hP : va_P E.1 vwCl [(o_w, .inr (8, [.int f_w_length, .ref a_w_cells, .ref a_w_inputs, .ref a_w_edges, .ref a_w_lates, .int f_w_slackThere, .int f_w_holdThere])), (a_w_cells, aI E 51 g_2), (a_w_inputs, aI E 51 g_3), (a_w_edges, aI E 51 g_4), (a_w_lates, aI E 51 g_w_lates)] H := hP
    replace hD : va_D A [(o_w, .inr (8, [.int f_w_length, .ref a_w_cells, .ref a_w_inputs, .ref a_w_edges, .ref a_w_lates, .int f_w_slackThere, .int f_w_holdThere])), (a_w_cells, aI E 51 g_2), (a_w_inputs, aI E 51 g_3), (a_w_edges, aI E 51 g_4), (a_w_lates, aI E 51 g_w_lates)] := hD
    refine lv_aload_n hx hb dX8_putStep_39 rfl (lv_at hl 0 rfl) ?_
    refine va_get (D := E.1) (ci := 8) (v := .ref a_w_lates) (own := RX8) (C := RX8) (T := TX8) (N := 7) hx hb hts i_q_putStep_X8 hown hK hP 0 rfl rfl 4 (by decide) (hto (.fieldLink RX8 21 "TimingHouse$Trail" "lates" "[I") (by decide +kernel)) (fun _ h9 => h9) rfl dX8_putStep_40 ?_
    refine lv_aload_n hx hb dX8_putStep_43 rfl (lv_at hl 0 rfl) ?_
    refine va_get (D := E.1) (ci := 8) (v := .int f_w_length) (own := RX8) (C := RX8) (T := TX8) (N := 7) hx hb hts i_q_putStep_X8 hown hK hP 0 rfl rfl 0 (by decide) (hto (.fieldLink RX8 24 "TimingHouse$Trail" "length" "I") (by decide +kernel)) (fun _ h9 => h9) rfl dX8_putStep_44 ?_
    refine lv_iload hx hb dX8_putStep_47 (lv_at hl 4 rfl) ?_
    refine st_i hx hb hK hP hD hS 4 rfl (by omega) dX8_putStep_49 (fun g_5 H locs eg_5 hP hD hS => ?_)
    clear eg_5
    replace hP : va_P E.1 vwCl [(o_w, .inr (8, [.int f_w_length, .ref a_w_cells, .ref a_w_inputs, .ref a_w_edges, .ref a_w_lates, .int f_w_slackThere, .int f_w_holdThere])), (a_w_cells, aI E 51 g_2), (a_w_inputs, aI E 51 g_3), (a_w_edges, aI E 51 g_4), (a_w_lates, aI E 51 g_5)] H := hP
    replace hD : va_D A [(o_w, .inr (8, [.int f_w_length, .ref a_w_cells, .ref a_w_inputs, .ref a_w_edges, .ref a_w_lates, .int f_w_slackThere, .int f_w_holdThere])), (a_w_cells, aI E 51 g_2), (a_w_inputs, aI E 51 g_3), (a_w_edges, aI E 51 g_4), (a_w_lates, aI E 51 g_5)] := hD
    refine lv_aload_n hx hb dX8_putStep_50 rfl (lv_at hl 0 rfl) ?_
    refine lv_dup hx hb dX8_putStep_51 rfl ?_
    refine va_get (D := E.1) (ci := 8) (v := .int f_w_length) (own := RX8) (C := RX8) (T := TX8) (N := 7) hx hb hts i_q_putStep_X8 hown hK hP 0 rfl rfl 0 (by decide) (hto (.fieldLink RX8 24 "TimingHouse$Trail" "length" "I") (by decide +kernel)) (fun _ h9 => h9) rfl dX8_putStep_52 ?_
    refine lv_iconst (v := 1) hx hb dX8_putStep_55 (by decide) ?_
    refine lv_iadd hx hb dX8_putStep_56 ?_
    refine lv_topi (fun x_6 ex_6 => ?_)
    have tx_6 : x_6.toInt = f_w_length.toInt + 1 := i3_addc rfl rfl ex_6 (by omega)
    refine va_put (D := E.1) (ci := 8) (v := .int x_6) (ty := .int) (own := RX8) (C := RX8) (T := TX8) (N := 7) hx hb hts i_q_putStep_X8 tyX8 tyX8_ok nmX8 hown hK hP hD hS 0 rfl rfl 0 (by decide) (hto (.fieldLink RX8 24 "TimingHouse$Trail" "length" "I") (by decide +kernel)) (fun _ h9 => h9) rfl (by decide +kernel) rfl rfl (Nat.le_of_ble_eq_true rfl) dX8_putStep_57 (fun H locs hP hD hS => ?_)
    replace hP : va_P E.1 vwCl [(o_w, .inr (8, [.int x_6, .ref a_w_cells, .ref a_w_inputs, .ref a_w_edges, .ref a_w_lates, .int f_w_slackThere, .int f_w_holdThere])), (a_w_cells, aI E 51 g_2), (a_w_inputs, aI E 51 g_3), (a_w_edges, aI E 51 g_4), (a_w_lates, aI E 51 g_5)] H := hP
    replace hD : va_D A [(o_w, .inr (8, [.int x_6, .ref a_w_cells, .ref a_w_inputs, .ref a_w_edges, .ref a_w_lates, .int f_w_slackThere, .int f_w_holdThere])), (a_w_cells, aI E 51 g_2), (a_w_inputs, aI E 51 g_3), (a_w_edges, aI E 51 g_4), (a_w_lates, aI E 51 g_5)] := hD
    exact ret_v hx hb hr hlk (hP.sub (ws' := [(o_w, .inr (8, [.int x_6, .ref a_w_cells, .ref a_w_inputs, .ref a_w_edges, .ref a_w_lates, .int f_w_slackThere, .int f_w_holdThere])), (a_w_cells, aI E 51 g_2), (a_w_inputs, aI E 51 g_3), (a_w_edges, aI E 51 g_4), (a_w_lates, aI E 51 g_5)]) [0, 1, 2, 3, 4] rfl) (hD.sub (ws' := [(o_w, .inr (8, [.int x_6, .ref a_w_cells, .ref a_w_inputs, .ref a_w_edges, .ref a_w_lates, .int f_w_slackThere, .int f_w_holdThere])), (a_w_cells, aI E 51 g_2), (a_w_inputs, aI E 51 g_3), (a_w_edges, aI E 51 g_4), (a_w_lates, aI E 51 g_5)]) [0, 1, 2, 3, 4] (by decide) rfl) hS dX8_putStep_60 (Nat.le_of_ble_eq_true rfl) (Nat.le_of_ble_eq_true rfl) ⟨x_6, g_2, g_3, g_4, g_5, RG.mk (by omega), i_g_2, rfl⟩
theorem dX7_onwardBy_0 : decode cX7_onwardBy 0 = .ok (.iload_n 1, 1) := by decide +kernel
theorem dX7_onwardBy_1 : decode cX7_onwardBy 1 = .ok (.iconst 4, 1) := by decide +kernel
theorem dX7_onwardBy_2 : decode cX7_onwardBy 2 = .ok (.idiv, 1) := by decide +kernel
theorem dX7_onwardBy_3 : decode cX7_onwardBy 3 = .ok (.istore_n 3, 1) := by decide +kernel
theorem dX7_onwardBy_4 : decode cX7_onwardBy 4 = .ok (.iload_n 2, 1) := by decide +kernel
theorem dX7_onwardBy_5 : decode cX7_onwardBy 5 = .ok (.aload_n 0, 1) := by decide +kernel
theorem dX7_onwardBy_6 : decode cX7_onwardBy 6 = .ok (.getfield 31, 3) := by decide +kernel
theorem dX7_onwardBy_9 : decode cX7_onwardBy 9 = .ok (.getfield 105, 3) := by decide +kernel
theorem dX7_onwardBy_12 : decode cX7_onwardBy 12 = .ok (.iload_n 3, 1) := by decide +kernel
theorem dX7_onwardBy_13 : decode cX7_onwardBy 13 = .ok (.iaload, 1) := by decide +kernel
theorem dX7_onwardBy_14 : decode cX7_onwardBy 14 = .ok (.ior, 1) := by decide +kernel
theorem dX7_onwardBy_15 : decode cX7_onwardBy 15 = .ok (.istore 4, 2) := by decide +kernel
theorem dX7_onwardBy_17 : decode cX7_onwardBy 17 = .ok (.iload_n 3, 1) := by decide +kernel
theorem dX7_onwardBy_18 : decode cX7_onwardBy 18 = .ok (.aload_n 0, 1) := by decide +kernel
theorem dX7_onwardBy_19 : decode cX7_onwardBy 19 = .ok (.getfield 48, 3) := by decide +kernel
theorem dX7_onwardBy_22 : decode cX7_onwardBy 22 = .ok (.if_icmp .ne 29, 3) := by decide +kernel
theorem dX7_onwardBy_51 : decode cX7_onwardBy 51 = .ok (.aload_n 0, 1) := by decide +kernel
theorem dX7_onwardBy_52 : decode cX7_onwardBy 52 = .ok (.getfield 23, 3) := by decide +kernel
theorem dX7_onwardBy_55 : decode cX7_onwardBy 55 = .ok (.iload_n 3, 1) := by decide +kernel
theorem dX7_onwardBy_56 : decode cX7_onwardBy 56 = .ok (.invokevirtual 126, 3) := by decide +kernel
theorem dX7_onwardBy_59 : decode cX7_onwardBy 59 = .ok (.ifCond .eq 20, 3) := by decide +kernel
theorem dX7_onwardBy_79 : decode cX7_onwardBy 79 = .ok (.iconst 0, 1) := by decide +kernel
theorem dX7_onwardBy_80 : decode cX7_onwardBy 80 = .ok (.ireturn, 1) := by decide +kernel
theorem dX7_onwardBy_62 : decode cX7_onwardBy 62 = .ok (.aload_n 0, 1) := by decide +kernel
theorem dX7_onwardBy_63 : decode cX7_onwardBy 63 = .ok (.getfield 15, 3) := by decide +kernel
theorem dX7_onwardBy_66 : decode cX7_onwardBy 66 = .ok (.iload_n 3, 1) := by decide +kernel
theorem dX7_onwardBy_67 : decode cX7_onwardBy 67 = .ok (.aload_n 0, 1) := by decide +kernel
theorem dX7_onwardBy_68 : decode cX7_onwardBy 68 = .ok (.getfield 9, 3) := by decide +kernel
theorem dX7_onwardBy_71 : decode cX7_onwardBy 71 = .ok (.imul, 1) := by decide +kernel
theorem dX7_onwardBy_72 : decode cX7_onwardBy 72 = .ok (.iload 4, 2) := by decide +kernel
theorem dX7_onwardBy_74 : decode cX7_onwardBy 74 = .ok (.iadd, 1) := by decide +kernel
theorem dX7_onwardBy_75 : decode cX7_onwardBy 75 = .ok (.iaload, 1) := by decide +kernel
theorem dX7_onwardBy_76 : decode cX7_onwardBy 76 = .ok (.goto 4, 3) := by decide +kernel
theorem dX7_onwardBy_25 : decode cX7_onwardBy 25 = .ok (.aload_n 0, 1) := by decide +kernel
theorem dX7_onwardBy_26 : decode cX7_onwardBy 26 = .ok (.getfield 31, 3) := by decide +kernel
theorem dX7_onwardBy_29 : decode cX7_onwardBy 29 = .ok (.aload_n 0, 1) := by decide +kernel
theorem dX7_onwardBy_30 : decode cX7_onwardBy 30 = .ok (.getfield 92, 3) := by decide +kernel
theorem dX7_onwardBy_33 : decode cX7_onwardBy 33 = .ok (.aload_n 0, 1) := by decide +kernel
theorem dX7_onwardBy_34 : decode cX7_onwardBy 34 = .ok (.getfield 48, 3) := by decide +kernel
theorem dX7_onwardBy_37 : decode cX7_onwardBy 37 = .ok (.iload 4, 2) := by decide +kernel
theorem dX7_onwardBy_39 : decode cX7_onwardBy 39 = .ok (.invokevirtual 122, 3) := by decide +kernel
theorem dX7_onwardBy_42 : decode cX7_onwardBy 42 = .ok (.ifCond .le 7, 3) := by decide +kernel
theorem dX7_onwardBy_49 : decode cX7_onwardBy 49 = .ok (.iconst 0, 1) := by decide +kernel
theorem dX7_onwardBy_50 : decode cX7_onwardBy 50 = .ok (.ireturn, 1) := by decide +kernel
theorem dX7_onwardBy_45 : decode cX7_onwardBy 45 = .ok (.iconst 1, 1) := by decide +kernel
theorem dX7_onwardBy_46 : decode cX7_onwardBy 46 = .ok (.goto 4, 3) := by decide +kernel
def wo_q_onwardBy : List Cond := [.code yX7_onwardBy cX7_onwardBy 5 (some .int), .fieldLink RX7 31 "TimingHouse$Tracer" "rules" "LTimingHouse$Rules;", .fieldLink RX7 48 "TimingHouse$Tracer" "end" "I", .fieldLink RX7 23 "TimingHouse$Tracer" "net" "LTimingHouse$Net;", .methodLink RX7 126 yX1_isGate, .instanceMethod yX1_isGate, .selects RX1 yX1_isGate yX1_isGate, .initialized RX1, .fieldLink RX7 15 "TimingHouse$Tracer" "onward" "[I", .fieldLink RX7 9 "TimingHouse$Tracer" "masks" "I", .fieldLink RX7 92 "TimingHouse$Tracer" "start" "I", .methodLink RX7 122 yX3_periodsOf, .instanceMethod yX3_periodsOf, .selects RX3 yX3_periodsOf yX3_periodsOf, .initialized RX3]
def wr_q_onwardBy : List Cond := (wsX30 ++ (wsX70 ++ (w_q_isGate ++ (w_q_periodsOf ++ ([])))))
def w_q_onwardBy : List Cond := wo_q_onwardBy ++ wr_q_onwardBy
theorem wg_q_onwardBy : GW w_q_onwardBy := GW_app (GW_of (by decide +kernel)) (GW_app (GW_of (by decide +kernel)) (GW_app (GW_of (by decide +kernel)) (GW_app (wg_q_isGate) (GW_app (wg_q_periodsOf) (GW_nil)))))
theorem i_q_onwardBy_X3 : ∀ w ∈ wsX30, w ∈ w_q_onwardBy := fun _ h => List.mem_append_right _ (List.mem_append_left _ h)
theorem i_q_onwardBy_X7 : ∀ w ∈ wsX70, w ∈ w_q_onwardBy := fun _ h => List.mem_append_right _ (List.mem_append_right _ (List.mem_append_left _ h))
theorem g_q_onwardBy_q_isGate_126 : GoodIn w_q_onwardBy (wsV RX7 126 RX1 yX1_isGate w_q_isGate) := goodIn_app (gi_left (goodIn_of _ (by decide +kernel))) (fun w h => ⟨List.mem_append_right _ (List.mem_append_right _ (List.mem_append_right _ (List.mem_append_left _ h))), wg_q_isGate w h⟩)
theorem g_q_onwardBy_q_periodsOf_122 : GoodIn w_q_onwardBy (wsV RX7 122 RX3 yX3_periodsOf w_q_periodsOf) := goodIn_app (gi_left (goodIn_of _ (by decide +kernel))) (fun w h => ⟨List.mem_append_right _ (List.mem_append_right _ (List.mem_append_right _ (List.mem_append_right _ (List.mem_append_left _ h)))), wg_q_periodsOf w h⟩)
set_option maxHeartbeats 8000000 in
set_option maxRecDepth 100000 in
theorem q_onwardBy (l : Launch) (E : gE) (o_v o_n o_k o_u o_i o_c a_v_onward a_v_keys a_u_periods a_u_froms a_u_throughs a_u_tos a_u_bits a_n_kinds a_n_inputs a_n_tables a_n_sizes a_n_extras a_n_sources a_n_takers a_n_firstTaker a_n_order a_n_tally a_n_behind : Nat) (f_v_masks f_v_start f_v_end f_v_skip f_v_keyed f_u_told f_n_cells f_n_ordered p1 p2 : Int32) (g_u_bits : Nat → Int32) (g_n_kinds : Nat → Int32) (g_v_onward : Nat → Int32) (g_u_froms : Nat → Int32) (g_u_tos : Nat → Int32) (g_u_periods : Nat → Int32) (r_f_v_masks : RG f_v_masks 1 16) (r_f_v_start : RG f_v_start 0 49) (r_f_v_end : RG f_v_end 0 49) (r_f_v_keyed : RG f_v_keyed 0 1000) (r_f_u_told : RG f_u_told 0 4) (i_g_u_bits : AR g_u_bits 50 0 15) (r_f_n_cells : RG f_n_cells 0 50) (r_f_n_ordered : RG f_n_ordered 0 50) (i_g_n_kinds : AR g_n_kinds 50 0 5) (i_g_v_onward : AR g_v_onward 800 0 1000) (i_g_u_froms : AR g_u_froms 4 (-1) 49) (i_g_u_tos : AR g_u_tos 4 (-1) 49) (i_g_u_periods : AR g_u_periods 4 0 4) (r_p1 : RG p1 0 199) (r_p2 : RG p2 0 15) : CtI l E yX7_onwardBy w_q_onwardBy ({ frames := 2, cells := 0, slots := 0, locals := 41 }) [(o_v, .inr (7, [.ref o_n, .ref o_k, .ref o_u, .ref o_i, .ref o_c, .int f_v_masks, .int f_v_start, .int f_v_end, .int f_v_skip, .ref a_v_onward, .ref a_v_keys, .int f_v_keyed])), (o_u, .inr (3, [.int f_u_told, .ref a_u_periods, .ref a_u_froms, .ref a_u_throughs, .ref a_u_tos, .ref a_u_bits])), (a_u_bits, aI E 50 g_u_bits), (o_n, .inr (1, [.int f_n_cells, .ref a_n_kinds, .ref a_n_inputs, .ref a_n_tables, .ref a_n_sizes, .ref a_n_extras, .ref a_n_sources, .ref a_n_takers, .ref a_n_firstTaker, .ref a_n_order, .int f_n_ordered, .ref a_n_tally, .ref a_n_behind])), (a_n_kinds, aI E 50 g_n_kinds), (a_v_onward, aI E 800 g_v_onward), (a_u_froms, aI E 4 g_u_froms), (a_u_tos, aI E 4 g_u_tos), (a_u_periods, aI E 4 g_u_periods)] [.ref o_v, .int p1, .int p2] (fun r w => (0 ≤ r.toInt ∧ r.toInt ≤ 1000) ∧ w = [(o_v, .inr (7, [.ref o_n, .ref o_k, .ref o_u, .ref o_i, .ref o_c, .int f_v_masks, .int f_v_start, .int f_v_end, .int f_v_skip, .ref a_v_onward, .ref a_v_keys, .int f_v_keyed])), (o_u, .inr (3, [.int f_u_told, .ref a_u_periods, .ref a_u_froms, .ref a_u_throughs, .ref a_u_tos, .ref a_u_bits])), (a_u_bits, aI E 50 g_u_bits), (o_n, .inr (1, [.int f_n_cells, .ref a_n_kinds, .ref a_n_inputs, .ref a_n_tables, .ref a_n_sizes, .ref a_n_extras, .ref a_n_sources, .ref a_n_takers, .ref a_n_firstTaker, .ref a_n_order, .int f_n_ordered, .ref a_n_tally, .ref a_n_behind])), (a_n_kinds, aI E 50 g_n_kinds), (a_v_onward, aI E 800 g_v_onward), (a_u_froms, aI E 4 g_u_froms), (a_u_tos, aI E 4 g_u_tos), (a_u_periods, aI E 4 g_u_periods)]) := by
  refine CtI.of (cc := cX7_onwardBy) (maxL := 5) (rt := (some .int)) (by decide) rfl (Nat.le_of_ble_eq_true rfl) ?_
  intro p e s m below meth c A B ls hl
  obtain ⟨hx, hb, hml, hr, hlk, hin, hts, hown, hK, hN, hZ, hA, hP, hD, hS⟩ := B
  replace hown : s.vm.findClass RX7 = some m.cls := hown
  have hto : ∀ w ∈ wo_q_onwardBy, w.before _ s = true := fun w h => hts w (List.mem_append_left _ h)
  replace hl : lv_has ls 5 [(0, .ref o_v), (1, .int p1), (2, .int p2)] := hl
  obtain ⟨H, hHe⟩ : ∃ H, H = s.heap := ⟨_, rfl⟩
  obtain ⟨locs, hle⟩ : ∃ l : List Loc, l = [] := ⟨_, rfl⟩
  replace hS : va_S A s.heap H locs := by rw [hHe, hle]; exact hS
  replace hP : va_P E.1 vwCl [(o_v, .inr (7, [.ref o_n, .ref o_k, .ref o_u, .ref o_i, .ref o_c, .int f_v_masks, .int f_v_start, .int f_v_end, .int f_v_skip, .ref a_v_onward, .ref a_v_keys, .int f_v_keyed])), (o_u, .inr (3, [.int f_u_told, .ref a_u_periods, .ref a_u_froms, .ref a_u_throughs, .ref a_u_tos, .ref a_u_bits])), (a_u_bits, aI E 50 g_u_bits), (o_n, .inr (1, [.int f_n_cells, .ref a_n_kinds, .ref a_n_inputs, .ref a_n_tables, .ref a_n_sizes, .ref a_n_extras, .ref a_n_sources, .ref a_n_takers, .ref a_n_firstTaker, .ref a_n_order, .int f_n_ordered, .ref a_n_tally, .ref a_n_behind])), (a_n_kinds, aI E 50 g_n_kinds), (a_v_onward, aI E 800 g_v_onward), (a_u_froms, aI E 4 g_u_froms), (a_u_tos, aI E 4 g_u_tos), (a_u_periods, aI E 4 g_u_periods)] H := by rw [hHe]; exact hP
  refine W_hl hHe hle ?_
  clear hHe hle
  refine lv_iload_n hx hb dX7_onwardBy_0 rfl (lv_at hl 1 rfl) ?_
  refine lv_iconst (v := 4) hx hb dX7_onwardBy_1 (by decide) ?_
  have b_p1 := r_p1.out
  refine lv_idiv hx hb dX7_onwardBy_2 (by decide) ?_
  refine lv_topi (fun x_1 ex_1 => ?_)
  have tx_1 : x_1.toInt = p1.toInt / 4 := i3_divc rfl rfl ex_1 (by omega) (by decide)
  refine lv_istore_n (lv' := [(3, .int x_1), (0, .ref o_v), (1, .int p1), (2, .int p2)]) hx hb dX7_onwardBy_3 rfl hl (by decide) rfl (fun ls hl => ?_)
  refine lv_iload_n hx hb dX7_onwardBy_4 rfl (lv_at hl 3 rfl) ?_
  refine lv_aload_n hx hb dX7_onwardBy_5 rfl (lv_at hl 1 rfl) ?_
  refine va_get (D := E.1) (ci := 7) (v := .ref o_u) (own := RX7) (C := RX7) (T := TX7) (N := 12) hx hb hts i_q_onwardBy_X7 hown hK hP 0 rfl rfl 2 (by decide) (hto (.fieldLink RX7 31 "TimingHouse$Tracer" "rules" "LTimingHouse$Rules;") (by decide +kernel)) (fun _ h9 => h9) rfl dX7_onwardBy_6 ?_
  refine va_getN (D := E.1) (ci := 3) (v := .ref a_u_bits) (own := RX7) (ref := "TimingHouse$Rules") (host := "TimingHouse") (C := RX3) (T := TX3) (N := 6) hx hb hts i_q_onwardBy_X3 hown hK hP 1 rfl rfl 5 (by decide) (nw_F hN 44 rfl) (fun _ h9 => h9) rfl dX7_onwardBy_9 ?_
  refine lv_iload_n hx hb dX7_onwardBy_12 rfl (lv_at hl 0 rfl) ?_
  refine ld_i hx hb hK hP 2 rfl (by omega) dX7_onwardBy_13 (fun x_2 ex_2 => ?_)
  have b_x_2 := AR.rd i_g_u_bits ex_2 (by omega)
  have b_p2 := r_p2.out
  refine lv_ior hx hb dX7_onwardBy_14 ?_
  refine lv_topi (fun x_3 ex_3 => ?_)
  have b_x_3 := i3_or15 ex_3 (by omega) (by omega)
  refine lv_istore (lv' := [(4, .int x_3), (3, .int x_1), (0, .ref o_v), (1, .int p1), (2, .int p2)]) hx hb dX7_onwardBy_15 hl (by decide) rfl (fun ls hl => ?_)
  refine lv_iload_n hx hb dX7_onwardBy_17 rfl (lv_at hl 1 rfl) ?_
  refine lv_aload_n hx hb dX7_onwardBy_18 rfl (lv_at hl 2 rfl) ?_
  refine va_get (D := E.1) (ci := 7) (v := .int f_v_end) (own := RX7) (C := RX7) (T := TX7) (N := 12) hx hb hts i_q_onwardBy_X7 hown hK hP 0 rfl rfl 7 (by decide) (hto (.fieldLink RX7 48 "TimingHouse$Tracer" "end" "I") (by decide +kernel)) (fun _ h9 => h9) rfl dX7_onwardBy_19 ?_
  have b_f_v_end := r_f_v_end.out
  refine lv_icmp_ne (tgt := 51) hx hb dX7_onwardBy_22 (by decide) (fun c_4 => ?_) (fun c_4 => ?_)
  · have e_4 : x_1.toInt ≠ f_v_end.toInt := i3_ne c_4
    refine lv_aload_n hx hb dX7_onwardBy_51 rfl (lv_at hl 2 rfl) ?_
    refine va_get (D := E.1) (ci := 7) (v := .ref o_n) (own := RX7) (C := RX7) (T := TX7) (N := 12) hx hb hts i_q_onwardBy_X7 hown hK hP 0 rfl rfl 0 (by decide) (hto (.fieldLink RX7 23 "TimingHouse$Tracer" "net" "LTimingHouse$Net;") (by decide +kernel)) (fun _ h9 => h9) rfl dX7_onwardBy_52 ?_
    refine lv_iload_n hx hb dX7_onwardBy_55 rfl (lv_at hl 1 rfl) ?_
    refine call_i (va_runV (As := [.int x_1]) (rest := []) ⟨hx, hb, hml, hown, hts⟩ (q_isGate l E o_n a_n_kinds a_n_inputs a_n_tables a_n_sizes a_n_extras a_n_sources a_n_takers a_n_firstTaker a_n_order a_n_tally a_n_behind f_n_cells f_n_ordered x_1 g_n_kinds r_f_n_cells r_f_n_ordered i_g_n_kinds (RG.mk (by omega)) H.size) (cwV 1 hts g_q_onwardBy_q_isGate_126 rfl rfl rfl (by decide +kernel) ⟨Nat.le_of_ble_eq_true rfl, Nat.le_of_ble_eq_true rfl⟩) (pre_V hK hN hZ hS (va_free hD hS hA [3, 4] rfl) (hP.sub (ws' := [(o_n, .inr (1, [.int f_n_cells, .ref a_n_kinds, .ref a_n_inputs, .ref a_n_tables, .ref a_n_sizes, .ref a_n_extras, .ref a_n_sources, .ref a_n_takers, .ref a_n_firstTaker, .ref a_n_order, .int f_n_ordered, .ref a_n_tally, .ref a_n_behind])), (a_n_kinds, aI E 50 g_n_kinds)]) [3, 4] rfl) (hD.sub (ws' := [(o_n, .inr (1, [.int f_n_cells, .ref a_n_kinds, .ref a_n_inputs, .ref a_n_tables, .ref a_n_sizes, .ref a_n_extras, .ref a_n_sources, .ref a_n_takers, .ref a_n_firstTaker, .ref a_n_order, .int f_n_ordered, .ref a_n_tally, .ref a_n_behind])), (a_n_kinds, aI E 50 g_n_kinds)]) [3, 4] (by decide) rfl) (ci := 1) (q0 := 0) rfl rfl) rfl rfl hl.1 rfl (lv_room (Nat.le_of_ble_eq_true rfl)) dX7_onwardBy_56 ⟨Nat.le_of_ble_eq_true rfl, Nat.le_of_ble_eq_true rfl⟩) hP hD hS hA [3, 4] [0, 1, 2, 5, 6, 7, 8] (wr := [(o_v, .inr (7, [.ref o_n, .ref o_k, .ref o_u, .ref o_i, .ref o_c, .int f_v_masks, .int f_v_start, .int f_v_end, .int f_v_skip, .ref a_v_onward, .ref a_v_keys, .int f_v_keyed])), (o_u, .inr (3, [.int f_u_told, .ref a_u_periods, .ref a_u_froms, .ref a_u_throughs, .ref a_u_tos, .ref a_u_bits])), (a_u_bits, aI E 50 g_u_bits), (a_v_onward, aI E 800 g_v_onward), (a_u_froms, aI E 4 g_u_froms), (a_u_tos, aI E 4 g_u_tos), (a_u_periods, aI E 4 g_u_periods)]) rfl rfl (by decide) (by decide) (fun r_5 w H locs hw hP hD hS => ?_)
    obtain ⟨b_r_5, rfl⟩ := hw
    replace hP : va_P E.1 vwCl [(o_v, .inr (7, [.ref o_n, .ref o_k, .ref o_u, .ref o_i, .ref o_c, .int f_v_masks, .int f_v_start, .int f_v_end, .int f_v_skip, .ref a_v_onward, .ref a_v_keys, .int f_v_keyed])), (o_u, .inr (3, [.int f_u_told, .ref a_u_periods, .ref a_u_froms, .ref a_u_throughs, .ref a_u_tos, .ref a_u_bits])), (a_u_bits, aI E 50 g_u_bits), (a_v_onward, aI E 800 g_v_onward), (a_u_froms, aI E 4 g_u_froms), (a_u_tos, aI E 4 g_u_tos), (a_u_periods, aI E 4 g_u_periods), (o_n, .inr (1, [.int f_n_cells, .ref a_n_kinds, .ref a_n_inputs, .ref a_n_tables, .ref a_n_sizes, .ref a_n_extras, .ref a_n_sources, .ref a_n_takers, .ref a_n_firstTaker, .ref a_n_order, .int f_n_ordered, .ref a_n_tally, .ref a_n_behind])), (a_n_kinds, aI E 50 g_n_kinds)] H := hP
    replace hD : va_D A [(o_v, .inr (7, [.ref o_n, .ref o_k, .ref o_u, .ref o_i, .ref o_c, .int f_v_masks, .int f_v_start, .int f_v_end, .int f_v_skip, .ref a_v_onward, .ref a_v_keys, .int f_v_keyed])), (o_u, .inr (3, [.int f_u_told, .ref a_u_periods, .ref a_u_froms, .ref a_u_throughs, .ref a_u_tos, .ref a_u_bits])), (a_u_bits, aI E 50 g_u_bits), (a_v_onward, aI E 800 g_v_onward), (a_u_froms, aI E 4 g_u_froms), (a_u_tos, aI E 4 g_u_tos), (a_u_periods, aI E 4 g_u_periods), (o_n, .inr (1, [.int f_n_cells, .ref a_n_kinds, .ref a_n_inputs, .ref a_n_tables, .ref a_n_sizes, .ref a_n_extras, .ref a_n_sources, .ref a_n_takers, .ref a_n_firstTaker, .ref a_n_order, .int f_n_ordered, .ref a_n_tally, .ref a_n_behind])), (a_n_kinds, aI E 50 g_n_kinds)] := hD
    refine lv_if_eq (tgt := 79) hx hb dX7_onwardBy_59 (by decide) (fun c_6 => ?_) (fun c_6 => ?_)
    · have e_6 : r_5.toInt = 0 := i3_eq c_6
      refine lv_iconst (v := 0) hx hb dX7_onwardBy_79 (by decide) ?_
      exact ret_i hx hb hr hlk (hP.sub (ws' := [(o_v, .inr (7, [.ref o_n, .ref o_k, .ref o_u, .ref o_i, .ref o_c, .int f_v_masks, .int f_v_start, .int f_v_end, .int f_v_skip, .ref a_v_onward, .ref a_v_keys, .int f_v_keyed])), (o_u, .inr (3, [.int f_u_told, .ref a_u_periods, .ref a_u_froms, .ref a_u_throughs, .ref a_u_tos, .ref a_u_bits])), (a_u_bits, aI E 50 g_u_bits), (o_n, .inr (1, [.int f_n_cells, .ref a_n_kinds, .ref a_n_inputs, .ref a_n_tables, .ref a_n_sizes, .ref a_n_extras, .ref a_n_sources, .ref a_n_takers, .ref a_n_firstTaker, .ref a_n_order, .int f_n_ordered, .ref a_n_tally, .ref a_n_behind])), (a_n_kinds, aI E 50 g_n_kinds), (a_v_onward, aI E 800 g_v_onward), (a_u_froms, aI E 4 g_u_froms), (a_u_tos, aI E 4 g_u_tos), (a_u_periods, aI E 4 g_u_periods)]) [0, 1, 2, 7, 8, 3, 4, 5, 6] rfl) (hD.sub (ws' := [(o_v, .inr (7, [.ref o_n, .ref o_k, .ref o_u, .ref o_i, .ref o_c, .int f_v_masks, .int f_v_start, .int f_v_end, .int f_v_skip, .ref a_v_onward, .ref a_v_keys, .int f_v_keyed])), (o_u, .inr (3, [.int f_u_told, .ref a_u_periods, .ref a_u_froms, .ref a_u_throughs, .ref a_u_tos, .ref a_u_bits])), (a_u_bits, aI E 50 g_u_bits), (o_n, .inr (1, [.int f_n_cells, .ref a_n_kinds, .ref a_n_inputs, .ref a_n_tables, .ref a_n_sizes, .ref a_n_extras, .ref a_n_sources, .ref a_n_takers, .ref a_n_firstTaker, .ref a_n_order, .int f_n_ordered, .ref a_n_tally, .ref a_n_behind])), (a_n_kinds, aI E 50 g_n_kinds), (a_v_onward, aI E 800 g_v_onward), (a_u_froms, aI E 4 g_u_froms), (a_u_tos, aI E 4 g_u_tos), (a_u_periods, aI E 4 g_u_periods)]) [0, 1, 2, 7, 8, 3, 4, 5, 6] (by decide) rfl) hS rfl dX7_onwardBy_80 (Nat.le_of_ble_eq_true rfl) (Nat.le_of_ble_eq_true rfl) ⟨(by decide), rfl⟩
    · have e_6 : r_5.toInt ≠ 0 := i3_ne c_6
      refine lv_aload_n hx hb dX7_onwardBy_62 rfl (lv_at hl 2 rfl) ?_
      refine va_get (D := E.1) (ci := 7) (v := .ref a_v_onward) (own := RX7) (C := RX7) (T := TX7) (N := 12) hx hb hts i_q_onwardBy_X7 hown hK hP 0 rfl rfl 9 (by decide) (hto (.fieldLink RX7 15 "TimingHouse$Tracer" "onward" "[I") (by decide +kernel)) (fun _ h9 => h9) rfl dX7_onwardBy_63 ?_
      refine lv_iload_n hx hb dX7_onwardBy_66 rfl (lv_at hl 1 rfl) ?_
      refine lv_aload_n hx hb dX7_onwardBy_67 rfl (lv_at hl 2 rfl) ?_
      refine va_get (D := E.1) (ci := 7) (v := .int f_v_masks) (own := RX7) (C := RX7) (T := TX7) (N := 12) hx hb hts i_q_onwardBy_X7 hown hK hP 0 rfl rfl 5 (by decide) (hto (.fieldLink RX7 9 "TimingHouse$Tracer" "masks" "I") (by decide +kernel)) (fun _ h9 => h9) rfl dX7_onwardBy_68 ?_
      have b_f_v_masks := r_f_v_masks.out
      refine lv_imul hx hb dX7_onwardBy_71 ?_
      refine lv_topi (fun x_7 ex_7 => ?_)
      have b_x_7 : 0 ≤ x_7.toInt ∧ x_7.toInt ≤ 784 := i3_mulb (A := 49) (B := 16) ex_7 (by omega) (by omega) (by decide)
      refine lv_iload hx hb dX7_onwardBy_72 (lv_at hl 0 rfl) ?_
      refine lv_iadd hx hb dX7_onwardBy_74 ?_
      refine lv_topi (fun x_8 ex_8 => ?_)
      have tx_8 : x_8.toInt = x_7.toInt + x_3.toInt := i3_addc rfl rfl ex_8 (by omega)
      refine ld_i hx hb hK hP 3 rfl (by omega) dX7_onwardBy_75 (fun x_9 ex_9 => ?_)
      have b_x_9 := AR.rd i_g_v_onward ex_9 (by omega)
      refine lv_goto (tgt := 80) hx hb dX7_onwardBy_76 (by decide) ?_
      exact ret_i hx hb hr hlk (hP.sub (ws' := [(o_v, .inr (7, [.ref o_n, .ref o_k, .ref o_u, .ref o_i, .ref o_c, .int f_v_masks, .int f_v_start, .int f_v_end, .int f_v_skip, .ref a_v_onward, .ref a_v_keys, .int f_v_keyed])), (o_u, .inr (3, [.int f_u_told, .ref a_u_periods, .ref a_u_froms, .ref a_u_throughs, .ref a_u_tos, .ref a_u_bits])), (a_u_bits, aI E 50 g_u_bits), (o_n, .inr (1, [.int f_n_cells, .ref a_n_kinds, .ref a_n_inputs, .ref a_n_tables, .ref a_n_sizes, .ref a_n_extras, .ref a_n_sources, .ref a_n_takers, .ref a_n_firstTaker, .ref a_n_order, .int f_n_ordered, .ref a_n_tally, .ref a_n_behind])), (a_n_kinds, aI E 50 g_n_kinds), (a_v_onward, aI E 800 g_v_onward), (a_u_froms, aI E 4 g_u_froms), (a_u_tos, aI E 4 g_u_tos), (a_u_periods, aI E 4 g_u_periods)]) [0, 1, 2, 7, 8, 3, 4, 5, 6] rfl) (hD.sub (ws' := [(o_v, .inr (7, [.ref o_n, .ref o_k, .ref o_u, .ref o_i, .ref o_c, .int f_v_masks, .int f_v_start, .int f_v_end, .int f_v_skip, .ref a_v_onward, .ref a_v_keys, .int f_v_keyed])), (o_u, .inr (3, [.int f_u_told, .ref a_u_periods, .ref a_u_froms, .ref a_u_throughs, .ref a_u_tos, .ref a_u_bits])), (a_u_bits, aI E 50 g_u_bits), (o_n, .inr (1, [.int f_n_cells, .ref a_n_kinds, .ref a_n_inputs, .ref a_n_tables, .ref a_n_sizes, .ref a_n_extras, .ref a_n_sources, .ref a_n_takers, .ref a_n_firstTaker, .ref a_n_order, .int f_n_ordered, .ref a_n_tally, .ref a_n_behind])), (a_n_kinds, aI E 50 g_n_kinds), (a_v_onward, aI E 800 g_v_onward), (a_u_froms, aI E 4 g_u_froms), (a_u_tos, aI E 4 g_u_tos), (a_u_periods, aI E 4 g_u_periods)]) [0, 1, 2, 7, 8, 3, 4, 5, 6] (by decide) rfl) hS rfl dX7_onwardBy_80 (Nat.le_of_ble_eq_true rfl) (Nat.le_of_ble_eq_true rfl) ⟨(by omega), rfl⟩
  · have e_4 : x_1.toInt = f_v_end.toInt := i3_eq c_4
    refine lv_aload_n hx hb dX7_onwardBy_25 rfl (lv_at hl 2 rfl) ?_
    refine va_get (D := E.1) (ci := 7) (v := .ref o_u) (own := RX7) (C := RX7) (T := TX7) (N := 12) hx hb hts i_q_onwardBy_X7 hown hK hP 0 rfl rfl 2 (by decide) (hto (.fieldLink RX7 31 "TimingHouse$Tracer" "rules" "LTimingHouse$Rules;") (by decide +kernel)) (fun _ h9 => h9) rfl dX7_onwardBy_26 ?_
    refine lv_aload_n hx hb dX7_onwardBy_29 rfl (lv_at hl 2 rfl) ?_
    refine va_get (D := E.1) (ci := 7) (v := .int f_v_start) (own := RX7) (C := RX7) (T := TX7) (N := 12) hx hb hts i_q_onwardBy_X7 hown hK hP 0 rfl rfl 6 (by decide) (hto (.fieldLink RX7 92 "TimingHouse$Tracer" "start" "I") (by decide +kernel)) (fun _ h9 => h9) rfl dX7_onwardBy_30 ?_
    refine lv_aload_n hx hb dX7_onwardBy_33 rfl (lv_at hl 2 rfl) ?_
    refine va_get (D := E.1) (ci := 7) (v := .int f_v_end) (own := RX7) (C := RX7) (T := TX7) (N := 12) hx hb hts i_q_onwardBy_X7 hown hK hP 0 rfl rfl 7 (by decide) (hto (.fieldLink RX7 48 "TimingHouse$Tracer" "end" "I") (by decide +kernel)) (fun _ h9 => h9) rfl dX7_onwardBy_34 ?_
    refine lv_iload hx hb dX7_onwardBy_37 (lv_at hl 0 rfl) ?_
    have b_f_v_start := r_f_v_start.out
    refine call_i (va_runV (As := [.int f_v_start, .int f_v_end, .int x_3]) (rest := []) ⟨hx, hb, hml, hown, hts⟩ (q_periodsOf l E o_u a_u_periods a_u_froms a_u_throughs a_u_tos a_u_bits f_u_told f_v_start f_v_end x_3 g_u_froms g_u_tos g_u_periods r_f_u_told i_g_u_froms i_g_u_tos i_g_u_periods H.size) (cwV 3 hts g_q_onwardBy_q_periodsOf_122 rfl rfl rfl (by decide +kernel) ⟨Nat.le_of_ble_eq_true rfl, Nat.le_of_ble_eq_true rfl⟩) (pre_V hK hN hZ hS (va_free hD hS hA [1, 6, 7, 8] rfl) (hP.sub (ws' := [(o_u, .inr (3, [.int f_u_told, .ref a_u_periods, .ref a_u_froms, .ref a_u_throughs, .ref a_u_tos, .ref a_u_bits])), (a_u_froms, aI E 4 g_u_froms), (a_u_tos, aI E 4 g_u_tos), (a_u_periods, aI E 4 g_u_periods)]) [1, 6, 7, 8] rfl) (hD.sub (ws' := [(o_u, .inr (3, [.int f_u_told, .ref a_u_periods, .ref a_u_froms, .ref a_u_throughs, .ref a_u_tos, .ref a_u_bits])), (a_u_froms, aI E 4 g_u_froms), (a_u_tos, aI E 4 g_u_tos), (a_u_periods, aI E 4 g_u_periods)]) [1, 6, 7, 8] (by decide) rfl) (ci := 3) (q0 := 0) rfl rfl) rfl rfl hl.1 rfl (lv_room (Nat.le_of_ble_eq_true rfl)) dX7_onwardBy_39 ⟨Nat.le_of_ble_eq_true rfl, Nat.le_of_ble_eq_true rfl⟩) hP hD hS hA [1, 6, 7, 8] [0, 2, 3, 4, 5] (wr := [(o_v, .inr (7, [.ref o_n, .ref o_k, .ref o_u, .ref o_i, .ref o_c, .int f_v_masks, .int f_v_start, .int f_v_end, .int f_v_skip, .ref a_v_onward, .ref a_v_keys, .int f_v_keyed])), (a_u_bits, aI E 50 g_u_bits), (o_n, .inr (1, [.int f_n_cells, .ref a_n_kinds, .ref a_n_inputs, .ref a_n_tables, .ref a_n_sizes, .ref a_n_extras, .ref a_n_sources, .ref a_n_takers, .ref a_n_firstTaker, .ref a_n_order, .int f_n_ordered, .ref a_n_tally, .ref a_n_behind])), (a_n_kinds, aI E 50 g_n_kinds), (a_v_onward, aI E 800 g_v_onward)]) rfl rfl (by decide) (by decide) (fun r_10 w H locs hw hP hD hS => ?_)
    obtain ⟨b_r_10, rfl⟩ := hw
    replace hP : va_P E.1 vwCl [(o_v, .inr (7, [.ref o_n, .ref o_k, .ref o_u, .ref o_i, .ref o_c, .int f_v_masks, .int f_v_start, .int f_v_end, .int f_v_skip, .ref a_v_onward, .ref a_v_keys, .int f_v_keyed])), (a_u_bits, aI E 50 g_u_bits), (o_n, .inr (1, [.int f_n_cells, .ref a_n_kinds, .ref a_n_inputs, .ref a_n_tables, .ref a_n_sizes, .ref a_n_extras, .ref a_n_sources, .ref a_n_takers, .ref a_n_firstTaker, .ref a_n_order, .int f_n_ordered, .ref a_n_tally, .ref a_n_behind])), (a_n_kinds, aI E 50 g_n_kinds), (a_v_onward, aI E 800 g_v_onward), (o_u, .inr (3, [.int f_u_told, .ref a_u_periods, .ref a_u_froms, .ref a_u_throughs, .ref a_u_tos, .ref a_u_bits])), (a_u_froms, aI E 4 g_u_froms), (a_u_tos, aI E 4 g_u_tos), (a_u_periods, aI E 4 g_u_periods)] H := hP
    replace hD : va_D A [(o_v, .inr (7, [.ref o_n, .ref o_k, .ref o_u, .ref o_i, .ref o_c, .int f_v_masks, .int f_v_start, .int f_v_end, .int f_v_skip, .ref a_v_onward, .ref a_v_keys, .int f_v_keyed])), (a_u_bits, aI E 50 g_u_bits), (o_n, .inr (1, [.int f_n_cells, .ref a_n_kinds, .ref a_n_inputs, .ref a_n_tables, .ref a_n_sizes, .ref a_n_extras, .ref a_n_sources, .ref a_n_takers, .ref a_n_firstTaker, .ref a_n_order, .int f_n_ordered, .ref a_n_tally, .ref a_n_behind])), (a_n_kinds, aI E 50 g_n_kinds), (a_v_onward, aI E 800 g_v_onward), (o_u, .inr (3, [.int f_u_told, .ref a_u_periods, .ref a_u_froms, .ref a_u_throughs, .ref a_u_tos, .ref a_u_bits])), (a_u_froms, aI E 4 g_u_froms), (a_u_tos, aI E 4 g_u_tos), (a_u_periods, aI E 4 g_u_periods)] := hD
    refine lv_if_le (tgt := 49) hx hb dX7_onwardBy_42 (by decide) (fun c_11 => ?_) (fun c_11 => ?_)
    · have e_11 : r_10.toInt ≤ 0 := i3_le c_11
      refine lv_iconst (v := 0) hx hb dX7_onwardBy_49 (by decide) ?_
      exact ret_i hx hb hr hlk (hP.sub (ws' := [(o_v, .inr (7, [.ref o_n, .ref o_k, .ref o_u, .ref o_i, .ref o_c, .int f_v_masks, .int f_v_start, .int f_v_end, .int f_v_skip, .ref a_v_onward, .ref a_v_keys, .int f_v_keyed])), (o_u, .inr (3, [.int f_u_told, .ref a_u_periods, .ref a_u_froms, .ref a_u_throughs, .ref a_u_tos, .ref a_u_bits])), (a_u_bits, aI E 50 g_u_bits), (o_n, .inr (1, [.int f_n_cells, .ref a_n_kinds, .ref a_n_inputs, .ref a_n_tables, .ref a_n_sizes, .ref a_n_extras, .ref a_n_sources, .ref a_n_takers, .ref a_n_firstTaker, .ref a_n_order, .int f_n_ordered, .ref a_n_tally, .ref a_n_behind])), (a_n_kinds, aI E 50 g_n_kinds), (a_v_onward, aI E 800 g_v_onward), (a_u_froms, aI E 4 g_u_froms), (a_u_tos, aI E 4 g_u_tos), (a_u_periods, aI E 4 g_u_periods)]) [0, 5, 1, 2, 3, 4, 6, 7, 8] rfl) (hD.sub (ws' := [(o_v, .inr (7, [.ref o_n, .ref o_k, .ref o_u, .ref o_i, .ref o_c, .int f_v_masks, .int f_v_start, .int f_v_end, .int f_v_skip, .ref a_v_onward, .ref a_v_keys, .int f_v_keyed])), (o_u, .inr (3, [.int f_u_told, .ref a_u_periods, .ref a_u_froms, .ref a_u_throughs, .ref a_u_tos, .ref a_u_bits])), (a_u_bits, aI E 50 g_u_bits), (o_n, .inr (1, [.int f_n_cells, .ref a_n_kinds, .ref a_n_inputs, .ref a_n_tables, .ref a_n_sizes, .ref a_n_extras, .ref a_n_sources, .ref a_n_takers, .ref a_n_firstTaker, .ref a_n_order, .int f_n_ordered, .ref a_n_tally, .ref a_n_behind])), (a_n_kinds, aI E 50 g_n_kinds), (a_v_onward, aI E 800 g_v_onward), (a_u_froms, aI E 4 g_u_froms), (a_u_tos, aI E 4 g_u_tos), (a_u_periods, aI E 4 g_u_periods)]) [0, 5, 1, 2, 3, 4, 6, 7, 8] (by decide) rfl) hS rfl dX7_onwardBy_50 (Nat.le_of_ble_eq_true rfl) (Nat.le_of_ble_eq_true rfl) ⟨(by decide), rfl⟩
    · have e_11 : 0 < r_10.toInt := i3_nle c_11
      refine lv_iconst (v := 1) hx hb dX7_onwardBy_45 (by decide) ?_
      refine lv_goto (tgt := 50) hx hb dX7_onwardBy_46 (by decide) ?_
      exact ret_i hx hb hr hlk (hP.sub (ws' := [(o_v, .inr (7, [.ref o_n, .ref o_k, .ref o_u, .ref o_i, .ref o_c, .int f_v_masks, .int f_v_start, .int f_v_end, .int f_v_skip, .ref a_v_onward, .ref a_v_keys, .int f_v_keyed])), (o_u, .inr (3, [.int f_u_told, .ref a_u_periods, .ref a_u_froms, .ref a_u_throughs, .ref a_u_tos, .ref a_u_bits])), (a_u_bits, aI E 50 g_u_bits), (o_n, .inr (1, [.int f_n_cells, .ref a_n_kinds, .ref a_n_inputs, .ref a_n_tables, .ref a_n_sizes, .ref a_n_extras, .ref a_n_sources, .ref a_n_takers, .ref a_n_firstTaker, .ref a_n_order, .int f_n_ordered, .ref a_n_tally, .ref a_n_behind])), (a_n_kinds, aI E 50 g_n_kinds), (a_v_onward, aI E 800 g_v_onward), (a_u_froms, aI E 4 g_u_froms), (a_u_tos, aI E 4 g_u_tos), (a_u_periods, aI E 4 g_u_periods)]) [0, 5, 1, 2, 3, 4, 6, 7, 8] rfl) (hD.sub (ws' := [(o_v, .inr (7, [.ref o_n, .ref o_k, .ref o_u, .ref o_i, .ref o_c, .int f_v_masks, .int f_v_start, .int f_v_end, .int f_v_skip, .ref a_v_onward, .ref a_v_keys, .int f_v_keyed])), (o_u, .inr (3, [.int f_u_told, .ref a_u_periods, .ref a_u_froms, .ref a_u_throughs, .ref a_u_tos, .ref a_u_bits])), (a_u_bits, aI E 50 g_u_bits), (o_n, .inr (1, [.int f_n_cells, .ref a_n_kinds, .ref a_n_inputs, .ref a_n_tables, .ref a_n_sizes, .ref a_n_extras, .ref a_n_sources, .ref a_n_takers, .ref a_n_firstTaker, .ref a_n_order, .int f_n_ordered, .ref a_n_tally, .ref a_n_behind])), (a_n_kinds, aI E 50 g_n_kinds), (a_v_onward, aI E 800 g_v_onward), (a_u_froms, aI E 4 g_u_froms), (a_u_tos, aI E 4 g_u_tos), (a_u_periods, aI E 4 g_u_periods)]) [0, 5, 1, 2, 3, 4, 6, 7, 8] (by decide) rfl) hS rfl dX7_onwardBy_50 (Nat.le_of_ble_eq_true rfl) (Nat.le_of_ble_eq_true rfl) ⟨(by decide), rfl⟩
theorem dX7_sumOnward_0 : decode cX7_sumOnward 0 = .ok (.iconst 0, 1) := by decide +kernel
theorem dX7_sumOnward_1 : decode cX7_sumOnward 1 = .ok (.istore_n 3, 1) := by decide +kernel
theorem dX7_sumOnward_2 : decode cX7_sumOnward 2 = .ok (.aload_n 0, 1) := by decide +kernel
theorem dX7_sumOnward_3 : decode cX7_sumOnward 3 = .ok (.getfield 23, 3) := by decide +kernel
theorem dX7_sumOnward_6 : decode cX7_sumOnward 6 = .ok (.getfield 108, 3) := by decide +kernel
theorem dX7_sumOnward_9 : decode cX7_sumOnward 9 = .ok (.iload_n 1, 1) := by decide +kernel
theorem dX7_sumOnward_10 : decode cX7_sumOnward 10 = .ok (.iaload, 1) := by decide +kernel
theorem dX7_sumOnward_11 : decode cX7_sumOnward 11 = .ok (.istore 4, 2) := by decide +kernel
theorem dX7_sumOnward_13 : decode cX7_sumOnward 13 = .ok (.iload 4, 2) := by decide +kernel
theorem dX7_sumOnward_15 : decode cX7_sumOnward 15 = .ok (.aload_n 0, 1) := by decide +kernel
theorem dX7_sumOnward_16 : decode cX7_sumOnward 16 = .ok (.getfield 23, 3) := by decide +kernel
theorem dX7_sumOnward_19 : decode cX7_sumOnward 19 = .ok (.getfield 108, 3) := by decide +kernel
theorem dX7_sumOnward_22 : decode cX7_sumOnward 22 = .ok (.iload_n 1, 1) := by decide +kernel
theorem dX7_sumOnward_23 : decode cX7_sumOnward 23 = .ok (.iconst 1, 1) := by decide +kernel
theorem dX7_sumOnward_24 : decode cX7_sumOnward 24 = .ok (.iadd, 1) := by decide +kernel
theorem dX7_sumOnward_25 : decode cX7_sumOnward 25 = .ok (.iaload, 1) := by decide +kernel
theorem dX7_sumOnward_26 : decode cX7_sumOnward 26 = .ok (.if_icmp .ge 33, 3) := by decide +kernel
theorem dX7_sumOnward_59 : decode cX7_sumOnward 59 = .ok (.iload_n 3, 1) := by decide +kernel
theorem dX7_sumOnward_60 : decode cX7_sumOnward 60 = .ok (.ireturn, 1) := by decide +kernel
theorem dX7_sumOnward_29 : decode cX7_sumOnward 29 = .ok (.sipush 1000, 3) := by decide +kernel
theorem dX7_sumOnward_32 : decode cX7_sumOnward 32 = .ok (.iload_n 3, 1) := by decide +kernel
theorem dX7_sumOnward_33 : decode cX7_sumOnward 33 = .ok (.aload_n 0, 1) := by decide +kernel
theorem dX7_sumOnward_34 : decode cX7_sumOnward 34 = .ok (.aload_n 0, 1) := by decide +kernel
theorem dX7_sumOnward_35 : decode cX7_sumOnward 35 = .ok (.getfield 23, 3) := by decide +kernel
theorem dX7_sumOnward_38 : decode cX7_sumOnward 38 = .ok (.getfield 111, 3) := by decide +kernel
theorem dX7_sumOnward_41 : decode cX7_sumOnward 41 = .ok (.iload 4, 2) := by decide +kernel
theorem dX7_sumOnward_43 : decode cX7_sumOnward 43 = .ok (.iaload, 1) := by decide +kernel
theorem dX7_sumOnward_44 : decode cX7_sumOnward 44 = .ok (.iload_n 2, 1) := by decide +kernel
theorem dX7_sumOnward_45 : decode cX7_sumOnward 45 = .ok (.invokevirtual 114, 3) := by decide +kernel
theorem dX7_sumOnward_48 : decode cX7_sumOnward 48 = .ok (.iadd, 1) := by decide +kernel
theorem dX7_sumOnward_49 : decode cX7_sumOnward 49 = .ok (.invokestatic 117, 3) := by decide +kernel
theorem dX7_sumOnward_52 : decode cX7_sumOnward 52 = .ok (.istore_n 3, 1) := by decide +kernel
theorem dX7_sumOnward_53 : decode cX7_sumOnward 53 = .ok (.iinc 4 1, 3) := by decide +kernel
theorem dX7_sumOnward_56 : decode cX7_sumOnward 56 = .ok (.goto (-43), 3) := by decide +kernel
def wo_q_sumOnward : List Cond := [.code yX7_sumOnward cX7_sumOnward 5 (some .int), .fieldLink RX7 23 "TimingHouse$Tracer" "net" "LTimingHouse$Net;", .methodLink RX7 114 yX7_onwardBy, .instanceMethod yX7_onwardBy, .selects RX7 yX7_onwardBy yX7_onwardBy, .initialized RX7, .methodLink RX7 117 Lib.Math.min.name, .static Lib.Math.min.name, .initialized "java/lang/Math", .code Lib.Math.min.name Lib.Math.min.code 2 (some .int)]
def wr_q_sumOnward : List Cond := (wsX10 ++ (wsX70 ++ (w_q_onwardBy ++ ([]))))
def w_q_sumOnward : List Cond := wo_q_sumOnward ++ wr_q_sumOnward
theorem wg_q_sumOnward : GW w_q_sumOnward := GW_app (GW_of (by decide +kernel)) (GW_app (GW_of (by decide +kernel)) (GW_app (GW_of (by decide +kernel)) (GW_app (wg_q_onwardBy) (GW_nil))))
theorem i_q_sumOnward_X1 : ∀ w ∈ wsX10, w ∈ w_q_sumOnward := fun _ h => List.mem_append_right _ (List.mem_append_left _ h)
theorem i_q_sumOnward_X7 : ∀ w ∈ wsX70, w ∈ w_q_sumOnward := fun _ h => List.mem_append_right _ (List.mem_append_right _ (List.mem_append_left _ h))
theorem g_q_sumOnward_q_onwardBy_114 : GoodIn w_q_sumOnward (wsV RX7 114 RX7 yX7_onwardBy w_q_onwardBy) := goodIn_app (gi_left (goodIn_of _ (by decide +kernel))) (fun w h => ⟨List.mem_append_right _ (List.mem_append_right _ (List.mem_append_right _ (List.mem_append_left _ h))), wg_q_onwardBy w h⟩)
set_option maxHeartbeats 8000000 in
set_option maxRecDepth 100000 in
theorem q_sumOnward (l : Launch) (E : gE) (o_v o_n o_k o_u o_i o_c a_v_onward a_v_keys a_n_kinds a_n_inputs a_n_tables a_n_sizes a_n_extras a_n_sources a_n_takers a_n_firstTaker a_n_order a_n_tally a_n_behind a_u_periods a_u_froms a_u_throughs a_u_tos a_u_bits : Nat) (f_v_masks f_v_start f_v_end f_v_skip f_v_keyed f_n_cells f_n_ordered f_u_told p1 p2 : Int32) (g_n_firstTaker : Nat → Int32) (g_n_takers : Nat → Int32) (g_u_bits : Nat → Int32) (g_n_kinds : Nat → Int32) (g_v_onward : Nat → Int32) (g_u_froms : Nat → Int32) (g_u_tos : Nat → Int32) (g_u_periods : Nat → Int32) (r_f_v_masks : RG f_v_masks 1 16) (r_f_v_start : RG f_v_start 0 49) (r_f_v_end : RG f_v_end 0 49) (r_f_v_keyed : RG f_v_keyed 0 1000) (r_f_n_cells : RG f_n_cells 0 50) (r_f_n_ordered : RG f_n_ordered 0 50) (i_g_n_firstTaker : AR g_n_firstTaker 51 0 200) (i_g_n_takers : AR g_n_takers 200 0 199) (r_f_u_told : RG f_u_told 0 4) (i_g_u_bits : AR g_u_bits 50 0 15) (i_g_n_kinds : AR g_n_kinds 50 0 5) (i_g_v_onward : AR g_v_onward 800 0 1000) (i_g_u_froms : AR g_u_froms 4 (-1) 49) (i_g_u_tos : AR g_u_tos 4 (-1) 49) (i_g_u_periods : AR g_u_periods 4 0 4) (r_p1 : RG p1 0 49) (r_p2 : RG p2 0 15) : CtI l E yX7_sumOnward w_q_sumOnward ({ frames := 3, cells := 0, slots := 0, locals := 65 }) [(o_v, .inr (7, [.ref o_n, .ref o_k, .ref o_u, .ref o_i, .ref o_c, .int f_v_masks, .int f_v_start, .int f_v_end, .int f_v_skip, .ref a_v_onward, .ref a_v_keys, .int f_v_keyed])), (o_n, .inr (1, [.int f_n_cells, .ref a_n_kinds, .ref a_n_inputs, .ref a_n_tables, .ref a_n_sizes, .ref a_n_extras, .ref a_n_sources, .ref a_n_takers, .ref a_n_firstTaker, .ref a_n_order, .int f_n_ordered, .ref a_n_tally, .ref a_n_behind])), (a_n_firstTaker, aI E 51 g_n_firstTaker), (a_n_takers, aI E 200 g_n_takers), (o_u, .inr (3, [.int f_u_told, .ref a_u_periods, .ref a_u_froms, .ref a_u_throughs, .ref a_u_tos, .ref a_u_bits])), (a_u_bits, aI E 50 g_u_bits), (a_n_kinds, aI E 50 g_n_kinds), (a_v_onward, aI E 800 g_v_onward), (a_u_froms, aI E 4 g_u_froms), (a_u_tos, aI E 4 g_u_tos), (a_u_periods, aI E 4 g_u_periods)] [.ref o_v, .int p1, .int p2] (fun r w => (0 ≤ r.toInt ∧ r.toInt ≤ 1000) ∧ w = [(o_v, .inr (7, [.ref o_n, .ref o_k, .ref o_u, .ref o_i, .ref o_c, .int f_v_masks, .int f_v_start, .int f_v_end, .int f_v_skip, .ref a_v_onward, .ref a_v_keys, .int f_v_keyed])), (o_n, .inr (1, [.int f_n_cells, .ref a_n_kinds, .ref a_n_inputs, .ref a_n_tables, .ref a_n_sizes, .ref a_n_extras, .ref a_n_sources, .ref a_n_takers, .ref a_n_firstTaker, .ref a_n_order, .int f_n_ordered, .ref a_n_tally, .ref a_n_behind])), (a_n_firstTaker, aI E 51 g_n_firstTaker), (a_n_takers, aI E 200 g_n_takers), (o_u, .inr (3, [.int f_u_told, .ref a_u_periods, .ref a_u_froms, .ref a_u_throughs, .ref a_u_tos, .ref a_u_bits])), (a_u_bits, aI E 50 g_u_bits), (a_n_kinds, aI E 50 g_n_kinds), (a_v_onward, aI E 800 g_v_onward), (a_u_froms, aI E 4 g_u_froms), (a_u_tos, aI E 4 g_u_tos), (a_u_periods, aI E 4 g_u_periods)]) := by
  refine CtI.of (cc := cX7_sumOnward) (maxL := 5) (rt := (some .int)) (by decide) rfl (Nat.le_of_ble_eq_true rfl) ?_
  intro p e s m below meth c A B ls hl
  obtain ⟨hx, hb, hml, hr, hlk, hin, hts, hown, hK, hN, hZ, hA, hP, hD, hS⟩ := B
  replace hown : s.vm.findClass RX7 = some m.cls := hown
  have hto : ∀ w ∈ wo_q_sumOnward, w.before _ s = true := fun w h => hts w (List.mem_append_left _ h)
  replace hl : lv_has ls 5 [(0, .ref o_v), (1, .int p1), (2, .int p2)] := hl
  obtain ⟨H, hHe⟩ : ∃ H, H = s.heap := ⟨_, rfl⟩
  obtain ⟨locs, hle⟩ : ∃ l : List Loc, l = [] := ⟨_, rfl⟩
  replace hS : va_S A s.heap H locs := by rw [hHe, hle]; exact hS
  replace hP : va_P E.1 vwCl [(o_v, .inr (7, [.ref o_n, .ref o_k, .ref o_u, .ref o_i, .ref o_c, .int f_v_masks, .int f_v_start, .int f_v_end, .int f_v_skip, .ref a_v_onward, .ref a_v_keys, .int f_v_keyed])), (o_n, .inr (1, [.int f_n_cells, .ref a_n_kinds, .ref a_n_inputs, .ref a_n_tables, .ref a_n_sizes, .ref a_n_extras, .ref a_n_sources, .ref a_n_takers, .ref a_n_firstTaker, .ref a_n_order, .int f_n_ordered, .ref a_n_tally, .ref a_n_behind])), (a_n_firstTaker, aI E 51 g_n_firstTaker), (a_n_takers, aI E 200 g_n_takers), (o_u, .inr (3, [.int f_u_told, .ref a_u_periods, .ref a_u_froms, .ref a_u_throughs, .ref a_u_tos, .ref a_u_bits])), (a_u_bits, aI E 50 g_u_bits), (a_n_kinds, aI E 50 g_n_kinds), (a_v_onward, aI E 800 g_v_onward), (a_u_froms, aI E 4 g_u_froms), (a_u_tos, aI E 4 g_u_tos), (a_u_periods, aI E 4 g_u_periods)] H := by rw [hHe]; exact hP
  refine W_hl hHe hle ?_
  clear hHe hle
  refine lv_iconst (v := 0) hx hb dX7_sumOnward_0 (by decide) ?_
  refine lv_istore_n (lv' := [(3, .int 0), (0, .ref o_v), (1, .int p1), (2, .int p2)]) hx hb dX7_sumOnward_1 rfl hl (by decide) rfl (fun ls hl => ?_)
  refine lv_aload_n hx hb dX7_sumOnward_2 rfl (lv_at hl 1 rfl) ?_
  refine va_get (D := E.1) (ci := 7) (v := .ref o_n) (own := RX7) (C := RX7) (T := TX7) (N := 12) hx hb hts i_q_sumOnward_X7 hown hK hP 0 rfl rfl 0 (by decide) (hto (.fieldLink RX7 23 "TimingHouse$Tracer" "net" "LTimingHouse$Net;") (by decide +kernel)) (fun _ h9 => h9) rfl dX7_sumOnward_3 ?_
  refine va_getN (D := E.1) (ci := 1) (v := .ref a_n_firstTaker) (own := RX7) (ref := "TimingHouse$Net") (host := "TimingHouse") (C := RX1) (T := TX1) (N := 13) hx hb hts i_q_sumOnward_X1 hown hK hP 1 rfl rfl 8 (by decide) (nw_F hN 19 rfl) (fun _ h9 => h9) rfl dX7_sumOnward_6 ?_
  refine lv_iload_n hx hb dX7_sumOnward_9 rfl (lv_at hl 2 rfl) ?_
  have b_p1 := r_p1.out
  refine ld_i hx hb hK hP 2 rfl (by omega) dX7_sumOnward_10 (fun x_1 ex_1 => ?_)
  have b_x_1 := AR.rd i_g_n_firstTaker ex_1 (by omega)
  refine lv_istore (lv' := [(4, .int x_1), (3, .int 0), (0, .ref o_v), (1, .int p1), (2, .int p2)]) hx hb dX7_sumOnward_11 hl (by decide) rfl (fun ls hl => ?_)
  obtain ⟨y_2, hy_2⟩ : ∃ y : Int32, y = x_1 := ⟨_, rfl⟩
  have b_y_2 : 0 ≤ y_2.toInt ∧ y_2.toInt ≤ 200 := by rw [hy_2]; omega
  obtain ⟨y_3, hy_3⟩ : ∃ y : Int32, y = 0 := ⟨_, rfl⟩
  have b_y_3 : 0 ≤ y_3.toInt ∧ y_3.toInt ≤ 1000 := by rw [hy_3]; decide
  replace hl : lv_has ls 5 [(4, .int y_2), (3, .int y_3), (0, .ref o_v), (1, .int p1), (2, .int p2)] := by rw [hy_2, hy_3]; exact hl
  clear hy_2 hy_3
  obtain ⟨d_4, hd_4⟩ : ∃ d : Nat, 200 - y_2.toInt < (d : Int) := ⟨(200 - y_2.toInt + 1).toNat, by omega⟩
  induction d_4 generalizing y_2 y_3 H locs ls with
  | zero => exfalso; omega
  | succ d_4 ih_d_4 =>
    refine lv_iload hx hb dX7_sumOnward_13 (lv_at hl 0 rfl) ?_
    refine lv_aload_n hx hb dX7_sumOnward_15 rfl (lv_at hl 2 rfl) ?_
    refine va_get (D := E.1) (ci := 7) (v := .ref o_n) (own := RX7) (C := RX7) (T := TX7) (N := 12) hx hb hts i_q_sumOnward_X7 hown hK hP 0 rfl rfl 0 (by decide) (hto (.fieldLink RX7 23 "TimingHouse$Tracer" "net" "LTimingHouse$Net;") (by decide +kernel)) (fun _ h9 => h9) rfl dX7_sumOnward_16 ?_
    refine va_getN (D := E.1) (ci := 1) (v := .ref a_n_firstTaker) (own := RX7) (ref := "TimingHouse$Net") (host := "TimingHouse") (C := RX1) (T := TX1) (N := 13) hx hb hts i_q_sumOnward_X1 hown hK hP 1 rfl rfl 8 (by decide) (nw_F hN 19 rfl) (fun _ h9 => h9) rfl dX7_sumOnward_19 ?_
    refine lv_iload_n hx hb dX7_sumOnward_22 rfl (lv_at hl 3 rfl) ?_
    refine lv_iconst (v := 1) hx hb dX7_sumOnward_23 (by decide) ?_
    refine lv_iadd hx hb dX7_sumOnward_24 ?_
    refine lv_topi (fun x_5 ex_5 => ?_)
    have tx_5 : x_5.toInt = p1.toInt + 1 := i3_addc rfl rfl ex_5 (by omega)
    refine ld_i hx hb hK hP 2 rfl (by omega) dX7_sumOnward_25 (fun x_6 ex_6 => ?_)
    have b_x_6 := AR.rd i_g_n_firstTaker ex_6 (by omega)
    refine lv_icmp_ge (tgt := 59) hx hb dX7_sumOnward_26 (by decide) (fun c_7 => ?_) (fun c_7 => ?_)
    · have e_7 : x_6.toInt ≤ y_2.toInt := i3_le c_7
      refine lv_iload_n hx hb dX7_sumOnward_59 rfl (lv_at hl 1 rfl) ?_
      exact ret_i hx hb hr hlk (hP.sub (ws' := [(o_v, .inr (7, [.ref o_n, .ref o_k, .ref o_u, .ref o_i, .ref o_c, .int f_v_masks, .int f_v_start, .int f_v_end, .int f_v_skip, .ref a_v_onward, .ref a_v_keys, .int f_v_keyed])), (o_n, .inr (1, [.int f_n_cells, .ref a_n_kinds, .ref a_n_inputs, .ref a_n_tables, .ref a_n_sizes, .ref a_n_extras, .ref a_n_sources, .ref a_n_takers, .ref a_n_firstTaker, .ref a_n_order, .int f_n_ordered, .ref a_n_tally, .ref a_n_behind])), (a_n_firstTaker, aI E 51 g_n_firstTaker), (a_n_takers, aI E 200 g_n_takers), (o_u, .inr (3, [.int f_u_told, .ref a_u_periods, .ref a_u_froms, .ref a_u_throughs, .ref a_u_tos, .ref a_u_bits])), (a_u_bits, aI E 50 g_u_bits), (a_n_kinds, aI E 50 g_n_kinds), (a_v_onward, aI E 800 g_v_onward), (a_u_froms, aI E 4 g_u_froms), (a_u_tos, aI E 4 g_u_tos), (a_u_periods, aI E 4 g_u_periods)]) [0, 1, 2, 3, 4, 5, 6, 7, 8, 9, 10] rfl) (hD.sub (ws' := [(o_v, .inr (7, [.ref o_n, .ref o_k, .ref o_u, .ref o_i, .ref o_c, .int f_v_masks, .int f_v_start, .int f_v_end, .int f_v_skip, .ref a_v_onward, .ref a_v_keys, .int f_v_keyed])), (o_n, .inr (1, [.int f_n_cells, .ref a_n_kinds, .ref a_n_inputs, .ref a_n_tables, .ref a_n_sizes, .ref a_n_extras, .ref a_n_sources, .ref a_n_takers, .ref a_n_firstTaker, .ref a_n_order, .int f_n_ordered, .ref a_n_tally, .ref a_n_behind])), (a_n_firstTaker, aI E 51 g_n_firstTaker), (a_n_takers, aI E 200 g_n_takers), (o_u, .inr (3, [.int f_u_told, .ref a_u_periods, .ref a_u_froms, .ref a_u_throughs, .ref a_u_tos, .ref a_u_bits])), (a_u_bits, aI E 50 g_u_bits), (a_n_kinds, aI E 50 g_n_kinds), (a_v_onward, aI E 800 g_v_onward), (a_u_froms, aI E 4 g_u_froms), (a_u_tos, aI E 4 g_u_tos), (a_u_periods, aI E 4 g_u_periods)]) [0, 1, 2, 3, 4, 5, 6, 7, 8, 9, 10] (by decide) rfl) hS rfl dX7_sumOnward_60 (Nat.le_of_ble_eq_true rfl) (Nat.le_of_ble_eq_true rfl) ⟨(by omega), rfl⟩
    · have e_7 : y_2.toInt < x_6.toInt := i3_nle c_7
      refine lv_sipush (v := 1000) hx hb dX7_sumOnward_29 (by decide) ?_
      refine lv_iload_n hx hb dX7_sumOnward_32 rfl (lv_at hl 1 rfl) ?_
      refine lv_aload_n hx hb dX7_sumOnward_33 rfl (lv_at hl 2 rfl) ?_
      refine lv_aload_n hx hb dX7_sumOnward_34 rfl (lv_at hl 2 rfl) ?_
      refine va_get (D := E.1) (ci := 7) (v := .ref o_n) (own := RX7) (C := RX7) (T := TX7) (N := 12) hx hb hts i_q_sumOnward_X7 hown hK hP 0 rfl rfl 0 (by decide) (hto (.fieldLink RX7 23 "TimingHouse$Tracer" "net" "LTimingHouse$Net;") (by decide +kernel)) (fun _ h9 => h9) rfl dX7_sumOnward_35 ?_
      refine va_getN (D := E.1) (ci := 1) (v := .ref a_n_takers) (own := RX7) (ref := "TimingHouse$Net") (host := "TimingHouse") (C := RX1) (T := TX1) (N := 13) hx hb hts i_q_sumOnward_X1 hown hK hP 1 rfl rfl 7 (by decide) (nw_F hN 18 rfl) (fun _ h9 => h9) rfl dX7_sumOnward_38 ?_
      refine lv_iload hx hb dX7_sumOnward_41 (lv_at hl 0 rfl) ?_
      refine ld_i hx hb hK hP 3 rfl (by omega) dX7_sumOnward_43 (fun x_8 ex_8 => ?_)
      have b_x_8 := AR.rd i_g_n_takers ex_8 (by omega)
      refine lv_iload_n hx hb dX7_sumOnward_44 rfl (lv_at hl 4 rfl) ?_
      have b_p2 := r_p2.out
      refine call_i (va_runV (As := [.int x_8, .int p2]) (rest := [.int y_3, .int 1000]) ⟨hx, hb, hml, hown, hts⟩ (q_onwardBy l E o_v o_n o_k o_u o_i o_c a_v_onward a_v_keys a_u_periods a_u_froms a_u_throughs a_u_tos a_u_bits a_n_kinds a_n_inputs a_n_tables a_n_sizes a_n_extras a_n_sources a_n_takers a_n_firstTaker a_n_order a_n_tally a_n_behind f_v_masks f_v_start f_v_end f_v_skip f_v_keyed f_u_told f_n_cells f_n_ordered x_8 p2 g_u_bits g_n_kinds g_v_onward g_u_froms g_u_tos g_u_periods r_f_v_masks r_f_v_start r_f_v_end r_f_v_keyed r_f_u_told i_g_u_bits r_f_n_cells r_f_n_ordered i_g_n_kinds i_g_v_onward i_g_u_froms i_g_u_tos i_g_u_periods (RG.mk (by omega)) r_p2 H.size) (cwV 2 hts g_q_sumOnward_q_onwardBy_114 rfl rfl rfl (by decide +kernel) ⟨Nat.le_of_ble_eq_true rfl, Nat.le_of_ble_eq_true rfl⟩) (pre_V hK hN hZ hS (va_free hD hS hA [0, 4, 5, 1, 6, 7, 8, 9, 10] rfl) (hP.sub (ws' := [(o_v, .inr (7, [.ref o_n, .ref o_k, .ref o_u, .ref o_i, .ref o_c, .int f_v_masks, .int f_v_start, .int f_v_end, .int f_v_skip, .ref a_v_onward, .ref a_v_keys, .int f_v_keyed])), (o_u, .inr (3, [.int f_u_told, .ref a_u_periods, .ref a_u_froms, .ref a_u_throughs, .ref a_u_tos, .ref a_u_bits])), (a_u_bits, aI E 50 g_u_bits), (o_n, .inr (1, [.int f_n_cells, .ref a_n_kinds, .ref a_n_inputs, .ref a_n_tables, .ref a_n_sizes, .ref a_n_extras, .ref a_n_sources, .ref a_n_takers, .ref a_n_firstTaker, .ref a_n_order, .int f_n_ordered, .ref a_n_tally, .ref a_n_behind])), (a_n_kinds, aI E 50 g_n_kinds), (a_v_onward, aI E 800 g_v_onward), (a_u_froms, aI E 4 g_u_froms), (a_u_tos, aI E 4 g_u_tos), (a_u_periods, aI E 4 g_u_periods)]) [0, 4, 5, 1, 6, 7, 8, 9, 10] rfl) (hD.sub (ws' := [(o_v, .inr (7, [.ref o_n, .ref o_k, .ref o_u, .ref o_i, .ref o_c, .int f_v_masks, .int f_v_start, .int f_v_end, .int f_v_skip, .ref a_v_onward, .ref a_v_keys, .int f_v_keyed])), (o_u, .inr (3, [.int f_u_told, .ref a_u_periods, .ref a_u_froms, .ref a_u_throughs, .ref a_u_tos, .ref a_u_bits])), (a_u_bits, aI E 50 g_u_bits), (o_n, .inr (1, [.int f_n_cells, .ref a_n_kinds, .ref a_n_inputs, .ref a_n_tables, .ref a_n_sizes, .ref a_n_extras, .ref a_n_sources, .ref a_n_takers, .ref a_n_firstTaker, .ref a_n_order, .int f_n_ordered, .ref a_n_tally, .ref a_n_behind])), (a_n_kinds, aI E 50 g_n_kinds), (a_v_onward, aI E 800 g_v_onward), (a_u_froms, aI E 4 g_u_froms), (a_u_tos, aI E 4 g_u_tos), (a_u_periods, aI E 4 g_u_periods)]) [0, 4, 5, 1, 6, 7, 8, 9, 10] (by decide) rfl) (ci := 7) (q0 := 0) rfl rfl) rfl rfl hl.1 rfl (lv_room (Nat.le_of_ble_eq_true rfl)) dX7_sumOnward_45 ⟨Nat.le_of_ble_eq_true rfl, Nat.le_of_ble_eq_true rfl⟩) hP hD hS hA [0, 4, 5, 1, 6, 7, 8, 9, 10] [2, 3] (wr := [(a_n_firstTaker, aI E 51 g_n_firstTaker), (a_n_takers, aI E 200 g_n_takers)]) rfl rfl (by decide) (by decide) (fun r_9 w H locs hw hP hD hS => ?_)
      obtain ⟨b_r_9, rfl⟩ := hw
      replace hP : va_P E.1 vwCl [(a_n_firstTaker, aI E 51 g_n_firstTaker), (a_n_takers, aI E 200 g_n_takers), (o_v, .inr (7, [.ref o_n, .ref o_k, .ref o_u, .ref o_i, .ref o_c, .int f_v_masks, .int f_v_start, .int f_v_end, .int f_v_skip, .ref a_v_onward, .ref a_v_keys, .int f_v_keyed])), (o_u, .inr (3, [.int f_u_told, .ref a_u_periods, .ref a_u_froms, .ref a_u_throughs, .ref a_u_tos, .ref a_u_bits])), (a_u_bits, aI E 50 g_u_bits), (o_n, .inr (1, [.int f_n_cells, .ref a_n_kinds, .ref a_n_inputs, .ref a_n_tables, .ref a_n_sizes, .ref a_n_extras, .ref a_n_sources, .ref a_n_takers, .ref a_n_firstTaker, .ref a_n_order, .int f_n_ordered, .ref a_n_tally, .ref a_n_behind])), (a_n_kinds, aI E 50 g_n_kinds), (a_v_onward, aI E 800 g_v_onward), (a_u_froms, aI E 4 g_u_froms), (a_u_tos, aI E 4 g_u_tos), (a_u_periods, aI E 4 g_u_periods)] H := hP
      replace hD : va_D A [(a_n_firstTaker, aI E 51 g_n_firstTaker), (a_n_takers, aI E 200 g_n_takers), (o_v, .inr (7, [.ref o_n, .ref o_k, .ref o_u, .ref o_i, .ref o_c, .int f_v_masks, .int f_v_start, .int f_v_end, .int f_v_skip, .ref a_v_onward, .ref a_v_keys, .int f_v_keyed])), (o_u, .inr (3, [.int f_u_told, .ref a_u_periods, .ref a_u_froms, .ref a_u_throughs, .ref a_u_tos, .ref a_u_bits])), (a_u_bits, aI E 50 g_u_bits), (o_n, .inr (1, [.int f_n_cells, .ref a_n_kinds, .ref a_n_inputs, .ref a_n_tables, .ref a_n_sizes, .ref a_n_extras, .ref a_n_sources, .ref a_n_takers, .ref a_n_firstTaker, .ref a_n_order, .int f_n_ordered, .ref a_n_tally, .ref a_n_behind])), (a_n_kinds, aI E 50 g_n_kinds), (a_v_onward, aI E 800 g_v_onward), (a_u_froms, aI E 4 g_u_froms), (a_u_tos, aI E 4 g_u_tos), (a_u_periods, aI E 4 g_u_periods)] := hD
      refine lv_iadd hx hb dX7_sumOnward_48 ?_
      refine lv_topi (fun x_10 ex_10 => ?_)
      have tx_10 : x_10.toInt = y_3.toInt + r_9.toInt := i3_addc rfl rfl ex_10 (by omega)
      refine va_mmin hx hb (hml.trans hl.1.symm) hown (hto (.methodLink RX7 117 Lib.Math.min.name) (by decide +kernel)) (hto (.static Lib.Math.min.name) (by decide +kernel)) (hto (.initialized "java/lang/Math") (by decide +kernel)) (hto (.code Lib.Math.min.name Lib.Math.min.code 2 (some .int)) (by decide +kernel)) (Nat.le_of_ble_eq_true rfl) (Nat.le_of_ble_eq_true rfl) (Nat.zero_le _) (Nat.zero_le _) dX7_sumOnward_49 ?_
      refine lv_topi (fun x_11 ex_11 => ?_)
      have m_x_11 : (x_11.toInt ≤ 1000 ∧ x_11.toInt ≤ x_10.toInt) ∧ (x_11.toInt = 1000 ∨ x_11.toInt = x_10.toInt) := i3_min ex_11
      refine lv_istore_n (lv' := [(3, .int x_11), (4, .int y_2), (0, .ref o_v), (1, .int p1), (2, .int p2)]) hx hb dX7_sumOnward_52 rfl hl (by decide) rfl (fun ls hl => ?_)
      obtain ⟨x_12, ex_12⟩ : ∃ y : Int32, y = y_2 + 1 := ⟨_, rfl⟩
      have tx_12 : x_12.toInt = y_2.toInt + 1 := i3_addc rfl rfl ex_12 (by omega)
      refine lv_iinc (v := x_12) (lv' := [(4, .int x_12), (3, .int x_11), (0, .ref o_v), (1, .int p1), (2, .int p2)]) hx hb dX7_sumOnward_53 hl (k := 1) rfl (by rw [ex_12]; rfl) (by decide) rfl (fun ls hl => ?_)
      refine lv_goto (tgt := 13) hx hb dX7_sumOnward_56 (by decide) ?_
      replace hP : va_P E.1 vwCl [(o_v, .inr (7, [.ref o_n, .ref o_k, .ref o_u, .ref o_i, .ref o_c, .int f_v_masks, .int f_v_start, .int f_v_end, .int f_v_skip, .ref a_v_onward, .ref a_v_keys, .int f_v_keyed])), (o_n, .inr (1, [.int f_n_cells, .ref a_n_kinds, .ref a_n_inputs, .ref a_n_tables, .ref a_n_sizes, .ref a_n_extras, .ref a_n_sources, .ref a_n_takers, .ref a_n_firstTaker, .ref a_n_order, .int f_n_ordered, .ref a_n_tally, .ref a_n_behind])), (a_n_firstTaker, aI E 51 g_n_firstTaker), (a_n_takers, aI E 200 g_n_takers), (o_u, .inr (3, [.int f_u_told, .ref a_u_periods, .ref a_u_froms, .ref a_u_throughs, .ref a_u_tos, .ref a_u_bits])), (a_u_bits, aI E 50 g_u_bits), (a_n_kinds, aI E 50 g_n_kinds), (a_v_onward, aI E 800 g_v_onward), (a_u_froms, aI E 4 g_u_froms), (a_u_tos, aI E 4 g_u_tos), (a_u_periods, aI E 4 g_u_periods)] H := hP.sub [2, 5, 0, 1, 3, 4, 6, 7, 8, 9, 10] rfl
      replace hD : va_D A [(o_v, .inr (7, [.ref o_n, .ref o_k, .ref o_u, .ref o_i, .ref o_c, .int f_v_masks, .int f_v_start, .int f_v_end, .int f_v_skip, .ref a_v_onward, .ref a_v_keys, .int f_v_keyed])), (o_n, .inr (1, [.int f_n_cells, .ref a_n_kinds, .ref a_n_inputs, .ref a_n_tables, .ref a_n_sizes, .ref a_n_extras, .ref a_n_sources, .ref a_n_takers, .ref a_n_firstTaker, .ref a_n_order, .int f_n_ordered, .ref a_n_tally, .ref a_n_behind])), (a_n_firstTaker, aI E 51 g_n_firstTaker), (a_n_takers, aI E 200 g_n_takers), (o_u, .inr (3, [.int f_u_told, .ref a_u_periods, .ref a_u_froms, .ref a_u_throughs, .ref a_u_tos, .ref a_u_bits])), (a_u_bits, aI E 50 g_u_bits), (a_n_kinds, aI E 50 g_n_kinds), (a_v_onward, aI E 800 g_v_onward), (a_u_froms, aI E 4 g_u_froms), (a_u_tos, aI E 4 g_u_tos), (a_u_periods, aI E 4 g_u_periods)] := hD.sub [2, 5, 0, 1, 3, 4, 6, 7, 8, 9, 10] (by decide) rfl
      apply ih_d_4 (y_2 := x_12) (y_3 := x_11) (H := H) (locs := locs) (ls := ls) <;> first | assumption | omega | decide
theorem dX7_aimFrom_0 : decode cX7_aimFrom 0 = .ok (.aload_n 0, 1) := by decide +kernel
theorem dX7_aimFrom_1 : decode cX7_aimFrom 1 = .ok (.iload_n 1, 1) := by decide +kernel
theorem dX7_aimFrom_2 : decode cX7_aimFrom 2 = .ok (.putfield 92, 3) := by decide +kernel
theorem dX7_aimFrom_5 : decode cX7_aimFrom 5 = .ok (.aload_n 0, 1) := by decide +kernel
theorem dX7_aimFrom_6 : decode cX7_aimFrom 6 = .ok (.getfield 23, 3) := by decide +kernel
theorem dX7_aimFrom_9 : decode cX7_aimFrom 9 = .ok (.getfield 95, 3) := by decide +kernel
theorem dX7_aimFrom_12 : decode cX7_aimFrom 12 = .ok (.iconst 1, 1) := by decide +kernel
theorem dX7_aimFrom_13 : decode cX7_aimFrom 13 = .ok (.isub, 1) := by decide +kernel
theorem dX7_aimFrom_14 : decode cX7_aimFrom 14 = .ok (.istore_n 2, 1) := by decide +kernel
theorem dX7_aimFrom_15 : decode cX7_aimFrom 15 = .ok (.iload_n 2, 1) := by decide +kernel
theorem dX7_aimFrom_16 : decode cX7_aimFrom 16 = .ok (.ifCond .lt 60, 3) := by decide +kernel
theorem dX7_aimFrom_76 : decode cX7_aimFrom 76 = .ok (.aload_n 0, 1) := by decide +kernel
theorem dX7_aimFrom_77 : decode cX7_aimFrom 77 = .ok (.aload_n 0, 1) := by decide +kernel
theorem dX7_aimFrom_78 : decode cX7_aimFrom 78 = .ok (.getfield 92, 3) := by decide +kernel
theorem dX7_aimFrom_81 : decode cX7_aimFrom 81 = .ok (.aload_n 0, 1) := by decide +kernel
theorem dX7_aimFrom_82 : decode cX7_aimFrom 82 = .ok (.getfield 31, 3) := by decide +kernel
theorem dX7_aimFrom_85 : decode cX7_aimFrom 85 = .ok (.getfield 105, 3) := by decide +kernel
theorem dX7_aimFrom_88 : decode cX7_aimFrom 88 = .ok (.aload_n 0, 1) := by decide +kernel
theorem dX7_aimFrom_89 : decode cX7_aimFrom 89 = .ok (.getfield 92, 3) := by decide +kernel
theorem dX7_aimFrom_92 : decode cX7_aimFrom 92 = .ok (.iaload, 1) := by decide +kernel
theorem dX7_aimFrom_93 : decode cX7_aimFrom 93 = .ok (.invokevirtual 101, 3) := by decide +kernel
theorem dX7_aimFrom_96 : decode cX7_aimFrom 96 = .ok (.ireturn, 1) := by decide +kernel
theorem dX7_aimFrom_19 : decode cX7_aimFrom 19 = .ok (.iconst 0, 1) := by decide +kernel
theorem dX7_aimFrom_20 : decode cX7_aimFrom 20 = .ok (.istore_n 3, 1) := by decide +kernel
theorem dX7_aimFrom_21 : decode cX7_aimFrom 21 = .ok (.iload_n 3, 1) := by decide +kernel
theorem dX7_aimFrom_22 : decode cX7_aimFrom 22 = .ok (.aload_n 0, 1) := by decide +kernel
theorem dX7_aimFrom_23 : decode cX7_aimFrom 23 = .ok (.getfield 9, 3) := by decide +kernel
theorem dX7_aimFrom_26 : decode cX7_aimFrom 26 = .ok (.if_icmp .ge 44, 3) := by decide +kernel
theorem dX7_aimFrom_70 : decode cX7_aimFrom 70 = .ok (.iinc 2 (-1), 3) := by decide +kernel
theorem dX7_aimFrom_73 : decode cX7_aimFrom 73 = .ok (.goto (-58), 3) := by decide +kernel
theorem dX7_aimFrom_29 : decode cX7_aimFrom 29 = .ok (.aload_n 0, 1) := by decide +kernel
theorem dX7_aimFrom_30 : decode cX7_aimFrom 30 = .ok (.getfield 15, 3) := by decide +kernel
theorem dX7_aimFrom_33 : decode cX7_aimFrom 33 = .ok (.aload_n 0, 1) := by decide +kernel
theorem dX7_aimFrom_34 : decode cX7_aimFrom 34 = .ok (.getfield 23, 3) := by decide +kernel
theorem dX7_aimFrom_37 : decode cX7_aimFrom 37 = .ok (.getfield 98, 3) := by decide +kernel
theorem dX7_aimFrom_40 : decode cX7_aimFrom 40 = .ok (.iload_n 2, 1) := by decide +kernel
theorem dX7_aimFrom_41 : decode cX7_aimFrom 41 = .ok (.iaload, 1) := by decide +kernel
theorem dX7_aimFrom_42 : decode cX7_aimFrom 42 = .ok (.aload_n 0, 1) := by decide +kernel
theorem dX7_aimFrom_43 : decode cX7_aimFrom 43 = .ok (.getfield 9, 3) := by decide +kernel
theorem dX7_aimFrom_46 : decode cX7_aimFrom 46 = .ok (.imul, 1) := by decide +kernel
theorem dX7_aimFrom_47 : decode cX7_aimFrom 47 = .ok (.iload_n 3, 1) := by decide +kernel
theorem dX7_aimFrom_48 : decode cX7_aimFrom 48 = .ok (.iadd, 1) := by decide +kernel
theorem dX7_aimFrom_49 : decode cX7_aimFrom 49 = .ok (.aload_n 0, 1) := by decide +kernel
theorem dX7_aimFrom_50 : decode cX7_aimFrom 50 = .ok (.aload_n 0, 1) := by decide +kernel
theorem dX7_aimFrom_51 : decode cX7_aimFrom 51 = .ok (.getfield 23, 3) := by decide +kernel
theorem dX7_aimFrom_54 : decode cX7_aimFrom 54 = .ok (.getfield 98, 3) := by decide +kernel
theorem dX7_aimFrom_57 : decode cX7_aimFrom 57 = .ok (.iload_n 2, 1) := by decide +kernel
theorem dX7_aimFrom_58 : decode cX7_aimFrom 58 = .ok (.iaload, 1) := by decide +kernel
theorem dX7_aimFrom_59 : decode cX7_aimFrom 59 = .ok (.iload_n 3, 1) := by decide +kernel
theorem dX7_aimFrom_60 : decode cX7_aimFrom 60 = .ok (.invokevirtual 101, 3) := by decide +kernel
theorem dX7_aimFrom_63 : decode cX7_aimFrom 63 = .ok (.iastore, 1) := by decide +kernel
theorem dX7_aimFrom_64 : decode cX7_aimFrom 64 = .ok (.iinc 3 1, 3) := by decide +kernel
theorem dX7_aimFrom_67 : decode cX7_aimFrom 67 = .ok (.goto (-46), 3) := by decide +kernel
def wo_q_aimFrom : List Cond := [.code yX7_aimFrom cX7_aimFrom 4 (some .int), .fieldLink RX7 92 "TimingHouse$Tracer" "start" "I", .fieldLink RX7 23 "TimingHouse$Tracer" "net" "LTimingHouse$Net;", .fieldLink RX7 31 "TimingHouse$Tracer" "rules" "LTimingHouse$Rules;", .methodLink RX7 101 yX7_sumOnward, .instanceMethod yX7_sumOnward, .selects RX7 yX7_sumOnward yX7_sumOnward, .initialized RX7, .fieldLink RX7 9 "TimingHouse$Tracer" "masks" "I", .fieldLink RX7 15 "TimingHouse$Tracer" "onward" "[I"]
def wr_q_aimFrom : List Cond := (wsX10 ++ (wsX30 ++ (wsX70 ++ (w_q_sumOnward ++ ([])))))
def w_q_aimFrom : List Cond := wo_q_aimFrom ++ wr_q_aimFrom
theorem wg_q_aimFrom : GW w_q_aimFrom := GW_app (GW_of (by decide +kernel)) (GW_app (GW_of (by decide +kernel)) (GW_app (GW_of (by decide +kernel)) (GW_app (GW_of (by decide +kernel)) (GW_app (wg_q_sumOnward) (GW_nil)))))
theorem i_q_aimFrom_X1 : ∀ w ∈ wsX10, w ∈ w_q_aimFrom := fun _ h => List.mem_append_right _ (List.mem_append_left _ h)
theorem i_q_aimFrom_X3 : ∀ w ∈ wsX30, w ∈ w_q_aimFrom := fun _ h => List.mem_append_right _ (List.mem_append_right _ (List.mem_append_left _ h))
theorem i_q_aimFrom_X7 : ∀ w ∈ wsX70, w ∈ w_q_aimFrom := fun _ h => List.mem_append_right _ (List.mem_append_right _ (List.mem_append_right _ (List.mem_append_left _ h)))
theorem g_q_aimFrom_q_sumOnward_101 : GoodIn w_q_aimFrom (wsV RX7 101 RX7 yX7_sumOnward w_q_sumOnward) := goodIn_app (gi_left (goodIn_of _ (by decide +kernel))) (fun w h => ⟨List.mem_append_right _ (List.mem_append_right _ (List.mem_append_right _ (List.mem_append_right _ (List.mem_append_left _ h)))), wg_q_sumOnward w h⟩)
set_option maxHeartbeats 8000000 in
set_option maxRecDepth 100000 in
theorem q_aimFrom (l : Launch) (E : gE) (o_v o_n o_k o_u o_i o_c a_v_onward a_v_keys a_n_kinds a_n_inputs a_n_tables a_n_sizes a_n_extras a_n_sources a_n_takers a_n_firstTaker a_n_order a_n_tally a_n_behind a_u_periods a_u_froms a_u_throughs a_u_tos a_u_bits : Nat) (f_v_masks f_v_start f_v_end f_v_skip f_v_keyed f_n_cells f_n_ordered f_u_told p1 : Int32) (g_u_bits : Nat → Int32) (g_n_firstTaker : Nat → Int32) (g_n_takers : Nat → Int32) (g_n_kinds : Nat → Int32) (g_v_onward : Nat → Int32) (g_u_froms : Nat → Int32) (g_u_tos : Nat → Int32) (g_u_periods : Nat → Int32) (g_n_order : Nat → Int32) (r_f_v_masks : RG f_v_masks 1 16) (r_f_v_start : RG f_v_start 0 49) (r_f_v_end : RG f_v_end 0 49) (r_f_v_keyed : RG f_v_keyed 0 1000) (r_f_n_cells : RG f_n_cells 0 50) (r_f_n_ordered : RG f_n_ordered 0 50) (r_f_u_told : RG f_u_told 0 4) (i_g_u_bits : AR g_u_bits 50 0 15) (i_g_n_firstTaker : AR g_n_firstTaker 51 0 200) (i_g_n_takers : AR g_n_takers 200 0 199) (i_g_n_kinds : AR g_n_kinds 50 0 5) (i_g_v_onward : AR g_v_onward 800 0 1000) (i_g_u_froms : AR g_u_froms 4 (-1) 49) (i_g_u_tos : AR g_u_tos 4 (-1) 49) (i_g_u_periods : AR g_u_periods 4 0 4) (i_g_n_order : AR g_n_order 50 0 49) (r_p1 : RG p1 0 49) : CtI l E yX7_aimFrom w_q_aimFrom ({ frames := 4, cells := 0, slots := 0, locals := 89 }) [(o_v, .inr (7, [.ref o_n, .ref o_k, .ref o_u, .ref o_i, .ref o_c, .int f_v_masks, .int f_v_start, .int f_v_end, .int f_v_skip, .ref a_v_onward, .ref a_v_keys, .int f_v_keyed])), (o_n, .inr (1, [.int f_n_cells, .ref a_n_kinds, .ref a_n_inputs, .ref a_n_tables, .ref a_n_sizes, .ref a_n_extras, .ref a_n_sources, .ref a_n_takers, .ref a_n_firstTaker, .ref a_n_order, .int f_n_ordered, .ref a_n_tally, .ref a_n_behind])), (o_u, .inr (3, [.int f_u_told, .ref a_u_periods, .ref a_u_froms, .ref a_u_throughs, .ref a_u_tos, .ref a_u_bits])), (a_u_bits, aI E 50 g_u_bits), (a_n_firstTaker, aI E 51 g_n_firstTaker), (a_n_takers, aI E 200 g_n_takers), (a_n_kinds, aI E 50 g_n_kinds), (a_v_onward, aI E 800 g_v_onward), (a_u_froms, aI E 4 g_u_froms), (a_u_tos, aI E 4 g_u_tos), (a_u_periods, aI E 4 g_u_periods), (a_n_order, aI E 50 g_n_order)] [.ref o_v, .int p1] (fun r w => (0 ≤ r.toInt ∧ r.toInt ≤ 1000) ∧ ∃ nf_v_start : Int32, ∃ ng_v_onward : Nat → Int32, RG nf_v_start 0 49 ∧ AR ng_v_onward 800 0 1000 ∧ w = [(o_v, .inr (7, [.ref o_n, .ref o_k, .ref o_u, .ref o_i, .ref o_c, .int f_v_masks, .int nf_v_start, .int f_v_end, .int f_v_skip, .ref a_v_onward, .ref a_v_keys, .int f_v_keyed])), (o_n, .inr (1, [.int f_n_cells, .ref a_n_kinds, .ref a_n_inputs, .ref a_n_tables, .ref a_n_sizes, .ref a_n_extras, .ref a_n_sources, .ref a_n_takers, .ref a_n_firstTaker, .ref a_n_order, .int f_n_ordered, .ref a_n_tally, .ref a_n_behind])), (o_u, .inr (3, [.int f_u_told, .ref a_u_periods, .ref a_u_froms, .ref a_u_throughs, .ref a_u_tos, .ref a_u_bits])), (a_u_bits, aI E 50 g_u_bits), (a_n_firstTaker, aI E 51 g_n_firstTaker), (a_n_takers, aI E 200 g_n_takers), (a_n_kinds, aI E 50 g_n_kinds), (a_v_onward, aI E 800 ng_v_onward), (a_u_froms, aI E 4 g_u_froms), (a_u_tos, aI E 4 g_u_tos), (a_u_periods, aI E 4 g_u_periods), (a_n_order, aI E 50 g_n_order)]) := by
  refine CtI.of (cc := cX7_aimFrom) (maxL := 4) (rt := (some .int)) (by decide) rfl (Nat.le_of_ble_eq_true rfl) ?_
  intro p e s m below meth c A B ls hl
  obtain ⟨hx, hb, hml, hr, hlk, hin, hts, hown, hK, hN, hZ, hA, hP, hD, hS⟩ := B
  replace hown : s.vm.findClass RX7 = some m.cls := hown
  have hto : ∀ w ∈ wo_q_aimFrom, w.before _ s = true := fun w h => hts w (List.mem_append_left _ h)
  replace hl : lv_has ls 4 [(0, .ref o_v), (1, .int p1)] := hl
  obtain ⟨H, hHe⟩ : ∃ H, H = s.heap := ⟨_, rfl⟩
  obtain ⟨locs, hle⟩ : ∃ l : List Loc, l = [] := ⟨_, rfl⟩
  replace hS : va_S A s.heap H locs := by rw [hHe, hle]; exact hS
  replace hP : va_P E.1 vwCl [(o_v, .inr (7, [.ref o_n, .ref o_k, .ref o_u, .ref o_i, .ref o_c, .int f_v_masks, .int f_v_start, .int f_v_end, .int f_v_skip, .ref a_v_onward, .ref a_v_keys, .int f_v_keyed])), (o_n, .inr (1, [.int f_n_cells, .ref a_n_kinds, .ref a_n_inputs, .ref a_n_tables, .ref a_n_sizes, .ref a_n_extras, .ref a_n_sources, .ref a_n_takers, .ref a_n_firstTaker, .ref a_n_order, .int f_n_ordered, .ref a_n_tally, .ref a_n_behind])), (o_u, .inr (3, [.int f_u_told, .ref a_u_periods, .ref a_u_froms, .ref a_u_throughs, .ref a_u_tos, .ref a_u_bits])), (a_u_bits, aI E 50 g_u_bits), (a_n_firstTaker, aI E 51 g_n_firstTaker), (a_n_takers, aI E 200 g_n_takers), (a_n_kinds, aI E 50 g_n_kinds), (a_v_onward, aI E 800 g_v_onward), (a_u_froms, aI E 4 g_u_froms), (a_u_tos, aI E 4 g_u_tos), (a_u_periods, aI E 4 g_u_periods), (a_n_order, aI E 50 g_n_order)] H := by rw [hHe]; exact hP
  refine W_hl hHe hle ?_
  clear hHe hle
  refine lv_aload_n hx hb dX7_aimFrom_0 rfl (lv_at hl 0 rfl) ?_
  refine lv_iload_n hx hb dX7_aimFrom_1 rfl (lv_at hl 1 rfl) ?_
  have b_p1 := r_p1.out
  refine va_put (D := E.1) (ci := 7) (v := .int p1) (ty := .int) (own := RX7) (C := RX7) (T := TX7) (N := 12) hx hb hts i_q_aimFrom_X7 tyX7 tyX7_ok nmX7 hown hK hP hD hS 0 rfl rfl 6 (by decide) (hto (.fieldLink RX7 92 "TimingHouse$Tracer" "start" "I") (by decide +kernel)) (fun _ h9 => h9) rfl (by decide +kernel) rfl rfl (Nat.le_of_ble_eq_true rfl) dX7_aimFrom_2 (fun H locs hP hD hS => ?_)
  replace hP : va_P E.1 vwCl [(o_v, .inr (7, [.ref o_n, .ref o_k, .ref o_u, .ref o_i, .ref o_c, .int f_v_masks, .int p1, .int f_v_end, .int f_v_skip, .ref a_v_onward, .ref a_v_keys, .int f_v_keyed])), (o_n, .inr (1, [.int f_n_cells, .ref a_n_kinds, .ref a_n_inputs, .ref a_n_tables, .ref a_n_sizes, .ref a_n_extras, .ref a_n_sources, .ref a_n_takers, .ref a_n_firstTaker, .ref a_n_order, .int f_n_ordered, .ref a_n_tally, .ref a_n_behind])), (o_u, .inr (3, [.int f_u_told, .ref a_u_periods, .ref a_u_froms, .ref a_u_throughs, .ref a_u_tos, .ref a_u_bits])), (a_u_bits, aI E 50 g_u_bits), (a_n_firstTaker, aI E 51 g_n_firstTaker), (a_n_takers, aI E 200 g_n_takers), (a_n_kinds, aI E 50 g_n_kinds), (a_v_onward, aI E 800 g_v_onward), (a_u_froms, aI E 4 g_u_froms), (a_u_tos, aI E 4 g_u_tos), (a_u_periods, aI E 4 g_u_periods), (a_n_order, aI E 50 g_n_order)] H := hP
  replace hD : va_D A [(o_v, .inr (7, [.ref o_n, .ref o_k, .ref o_u, .ref o_i, .ref o_c, .int f_v_masks, .int p1, .int f_v_end, .int f_v_skip, .ref a_v_onward, .ref a_v_keys, .int f_v_keyed])), (o_n, .inr (1, [.int f_n_cells, .ref a_n_kinds, .ref a_n_inputs, .ref a_n_tables, .ref a_n_sizes, .ref a_n_extras, .ref a_n_sources, .ref a_n_takers, .ref a_n_firstTaker, .ref a_n_order, .int f_n_ordered, .ref a_n_tally, .ref a_n_behind])), (o_u, .inr (3, [.int f_u_told, .ref a_u_periods, .ref a_u_froms, .ref a_u_throughs, .ref a_u_tos, .ref a_u_bits])), (a_u_bits, aI E 50 g_u_bits), (a_n_firstTaker, aI E 51 g_n_firstTaker), (a_n_takers, aI E 200 g_n_takers), (a_n_kinds, aI E 50 g_n_kinds), (a_v_onward, aI E 800 g_v_onward), (a_u_froms, aI E 4 g_u_froms), (a_u_tos, aI E 4 g_u_tos), (a_u_periods, aI E 4 g_u_periods), (a_n_order, aI E 50 g_n_order)] := hD
  refine lv_aload_n hx hb dX7_aimFrom_5 rfl (lv_at hl 0 rfl) ?_
  refine va_get (D := E.1) (ci := 7) (v := .ref o_n) (own := RX7) (C := RX7) (T := TX7) (N := 12) hx hb hts i_q_aimFrom_X7 hown hK hP 0 rfl rfl 0 (by decide) (hto (.fieldLink RX7 23 "TimingHouse$Tracer" "net" "LTimingHouse$Net;") (by decide +kernel)) (fun _ h9 => h9) rfl dX7_aimFrom_6 ?_
  refine va_getN (D := E.1) (ci := 1) (v := .int f_n_ordered) (own := RX7) (ref := "TimingHouse$Net") (host := "TimingHouse") (C := RX1) (T := TX1) (N := 13) hx hb hts i_q_aimFrom_X1 hown hK hP 1 rfl rfl 10 (by decide) (nw_F hN 24 rfl) (fun _ h9 => h9) rfl dX7_aimFrom_9 ?_
  refine lv_iconst (v := 1) hx hb dX7_aimFrom_12 (by decide) ?_
  have b_f_n_ordered := r_f_n_ordered.out
  refine lv_isub hx hb dX7_aimFrom_13 ?_
  refine lv_topi (fun x_1 ex_1 => ?_)
  have tx_1 : x_1.toInt = f_n_ordered.toInt - 1 := i3_subc rfl rfl ex_1 (by omega)
  refine lv_istore_n (lv' := [(2, .int x_1), (0, .ref o_v), (1, .int p1)]) hx hb dX7_aimFrom_14 rfl hl (by decide) rfl (fun ls hl => ?_)
  obtain ⟨y_2, hy_2⟩ : ∃ y : Int32, y = x_1 := ⟨_, rfl⟩
  have b_y_2 : (-1) ≤ y_2.toInt ∧ y_2.toInt ≤ 49 := by rw [hy_2]; omega
  replace hl : lv_has ls 4 [(2, .int y_2), (0, .ref o_v), (1, .int p1)] := by rw [hy_2]; exact hl
  obtain ⟨y_3, hy_3⟩ : ∃ y : Int32, y = p1 := ⟨_, rfl⟩
  have b_y_3 : 0 ≤ y_3.toInt ∧ y_3.toInt ≤ 49 := by rw [hy_3]; omega
  obtain ⟨y_4, hy_4⟩ : ∃ g : Nat → Int32, g = g_v_onward := ⟨_, rfl⟩
  have i_y_4 : AR y_4 800 0 1000 := by rw [hy_4]; exact i_g_v_onward
  replace hP : va_P E.1 vwCl [(o_v, .inr (7, [.ref o_n, .ref o_k, .ref o_u, .ref o_i, .ref o_c, .int f_v_masks, .int y_3, .int f_v_end, .int f_v_skip, .ref a_v_onward, .ref a_v_keys, .int f_v_keyed])), (o_n, .inr (1, [.int f_n_cells, .ref a_n_kinds, .ref a_n_inputs, .ref a_n_tables, .ref a_n_sizes, .ref a_n_extras, .ref a_n_sources, .ref a_n_takers, .ref a_n_firstTaker, .ref a_n_order, .int f_n_ordered, .ref a_n_tally, .ref a_n_behind])), (o_u, .inr (3, [.int f_u_told, .ref a_u_periods, .ref a_u_froms, .ref a_u_throughs, .ref a_u_tos, .ref a_u_bits])), (a_u_bits, aI E 50 g_u_bits), (a_n_firstTaker, aI E 51 g_n_firstTaker), (a_n_takers, aI E 200 g_n_takers), (a_n_kinds, aI E 50 g_n_kinds), (a_v_onward, aI E 800 y_4), (a_u_froms, aI E 4 g_u_froms), (a_u_tos, aI E 4 g_u_tos), (a_u_periods, aI E 4 g_u_periods), (a_n_order, aI E 50 g_n_order)] H := by rw [hy_3, hy_4]; exact hP
  replace hD : va_D A [(o_v, .inr (7, [.ref o_n, .ref o_k, .ref o_u, .ref o_i, .ref o_c, .int f_v_masks, .int y_3, .int f_v_end, .int f_v_skip, .ref a_v_onward, .ref a_v_keys, .int f_v_keyed])), (o_n, .inr (1, [.int f_n_cells, .ref a_n_kinds, .ref a_n_inputs, .ref a_n_tables, .ref a_n_sizes, .ref a_n_extras, .ref a_n_sources, .ref a_n_takers, .ref a_n_firstTaker, .ref a_n_order, .int f_n_ordered, .ref a_n_tally, .ref a_n_behind])), (o_u, .inr (3, [.int f_u_told, .ref a_u_periods, .ref a_u_froms, .ref a_u_throughs, .ref a_u_tos, .ref a_u_bits])), (a_u_bits, aI E 50 g_u_bits), (a_n_firstTaker, aI E 51 g_n_firstTaker), (a_n_takers, aI E 200 g_n_takers), (a_n_kinds, aI E 50 g_n_kinds), (a_v_onward, aI E 800 y_4), (a_u_froms, aI E 4 g_u_froms), (a_u_tos, aI E 4 g_u_tos), (a_u_periods, aI E 4 g_u_periods), (a_n_order, aI E 50 g_n_order)] := by rw [hy_3, hy_4]; exact hD
  clear hy_2 hy_3 hy_4
  obtain ⟨d_5, hd_5⟩ : ∃ d : Nat, y_2.toInt - (-1) < (d : Int) := ⟨(y_2.toInt - (-1) + 1).toNat, by omega⟩
  induction d_5 generalizing y_2 y_3 y_4 H locs ls with
  | zero => exfalso; omega
  | succ d_5 ih_d_5 =>
    refine lv_iload_n hx hb dX7_aimFrom_15 rfl (lv_at hl 0 rfl) ?_
    refine lv_if_lt (tgt := 76) hx hb dX7_aimFrom_16 (by decide) (fun c_6 => ?_) (fun c_6 => ?_)
    · have e_6 : y_2.toInt < 0 := i3_lt c_6
      refine lv_aload_n hx hb dX7_aimFrom_76 rfl (lv_at hl 1 rfl) ?_
      refine lv_aload_n hx hb dX7_aimFrom_77 rfl (lv_at hl 1 rfl) ?_
      refine va_get (D := E.1) (ci := 7) (v := .int y_3) (own := RX7) (C := RX7) (T := TX7) (N := 12) hx hb hts i_q_aimFrom_X7 hown hK hP 0 rfl rfl 6 (by decide) (hto (.fieldLink RX7 92 "TimingHouse$Tracer" "start" "I") (by decide +kernel)) (fun _ h9 => h9) rfl dX7_aimFrom_78 ?_
      refine lv_aload_n hx hb dX7_aimFrom_81 rfl (lv_at hl 1 rfl) ?_
      refine va_get (D := E.1) (ci := 7) (v := .ref o_u) (own := RX7) (C := RX7) (T := TX7) (N := 12) hx hb hts i_q_aimFrom_X7 hown hK hP 0 rfl rfl 2 (by decide) (hto (.fieldLink RX7 31 "TimingHouse$Tracer" "rules" "LTimingHouse$Rules;") (by decide +kernel)) (fun _ h9 => h9) rfl dX7_aimFrom_82 ?_
      refine va_getN (D := E.1) (ci := 3) (v := .ref a_u_bits) (own := RX7) (ref := "TimingHouse$Rules") (host := "TimingHouse") (C := RX3) (T := TX3) (N := 6) hx hb hts i_q_aimFrom_X3 hown hK hP 2 rfl rfl 5 (by decide) (nw_F hN 44 rfl) (fun _ h9 => h9) rfl dX7_aimFrom_85 ?_
      refine lv_aload_n hx hb dX7_aimFrom_88 rfl (lv_at hl 1 rfl) ?_
      refine va_get (D := E.1) (ci := 7) (v := .int y_3) (own := RX7) (C := RX7) (T := TX7) (N := 12) hx hb hts i_q_aimFrom_X7 hown hK hP 0 rfl rfl 6 (by decide) (hto (.fieldLink RX7 92 "TimingHouse$Tracer" "start" "I") (by decide +kernel)) (fun _ h9 => h9) rfl dX7_aimFrom_89 ?_
      refine ld_i hx hb hK hP 3 rfl (by omega) dX7_aimFrom_92 (fun x_7 ex_7 => ?_)
      have b_x_7 := AR.rd i_g_u_bits ex_7 (by omega)
      refine call_i (va_runV (As := [.int y_3, .int x_7]) (rest := []) ⟨hx, hb, hml, hown, hts⟩ (q_sumOnward l E o_v o_n o_k o_u o_i o_c a_v_onward a_v_keys a_n_kinds a_n_inputs a_n_tables a_n_sizes a_n_extras a_n_sources a_n_takers a_n_firstTaker a_n_order a_n_tally a_n_behind a_u_periods a_u_froms a_u_throughs a_u_tos a_u_bits f_v_masks y_3 f_v_end f_v_skip f_v_keyed f_n_cells f_n_ordered f_u_told y_3 x_7 g_n_firstTaker g_n_takers g_u_bits g_n_kinds y_4 g_u_froms g_u_tos g_u_periods r_f_v_masks (RG.mk (by omega)) r_f_v_end r_f_v_keyed r_f_n_cells r_f_n_ordered i_g_n_firstTaker i_g_n_takers r_f_u_told i_g_u_bits i_g_n_kinds i_y_4 i_g_u_froms i_g_u_tos i_g_u_periods (RG.mk (by omega)) (RG.mk (by omega)) H.size) (cwV 2 hts g_q_aimFrom_q_sumOnward_101 rfl rfl rfl (by decide +kernel) ⟨Nat.le_of_ble_eq_true rfl, Nat.le_of_ble_eq_true rfl⟩) (pre_V hK hN hZ hS (va_free hD hS hA [0, 1, 4, 5, 2, 3, 6, 7, 8, 9, 10] rfl) (hP.sub (ws' := [(o_v, .inr (7, [.ref o_n, .ref o_k, .ref o_u, .ref o_i, .ref o_c, .int f_v_masks, .int y_3, .int f_v_end, .int f_v_skip, .ref a_v_onward, .ref a_v_keys, .int f_v_keyed])), (o_n, .inr (1, [.int f_n_cells, .ref a_n_kinds, .ref a_n_inputs, .ref a_n_tables, .ref a_n_sizes, .ref a_n_extras, .ref a_n_sources, .ref a_n_takers, .ref a_n_firstTaker, .ref a_n_order, .int f_n_ordered, .ref a_n_tally, .ref a_n_behind])), (a_n_firstTaker, aI E 51 g_n_firstTaker), (a_n_takers, aI E 200 g_n_takers), (o_u, .inr (3, [.int f_u_told, .ref a_u_periods, .ref a_u_froms, .ref a_u_throughs, .ref a_u_tos, .ref a_u_bits])), (a_u_bits, aI E 50 g_u_bits), (a_n_kinds, aI E 50 g_n_kinds), (a_v_onward, aI E 800 y_4), (a_u_froms, aI E 4 g_u_froms), (a_u_tos, aI E 4 g_u_tos), (a_u_periods, aI E 4 g_u_periods)]) [0, 1, 4, 5, 2, 3, 6, 7, 8, 9, 10] rfl) (hD.sub (ws' := [(o_v, .inr (7, [.ref o_n, .ref o_k, .ref o_u, .ref o_i, .ref o_c, .int f_v_masks, .int y_3, .int f_v_end, .int f_v_skip, .ref a_v_onward, .ref a_v_keys, .int f_v_keyed])), (o_n, .inr (1, [.int f_n_cells, .ref a_n_kinds, .ref a_n_inputs, .ref a_n_tables, .ref a_n_sizes, .ref a_n_extras, .ref a_n_sources, .ref a_n_takers, .ref a_n_firstTaker, .ref a_n_order, .int f_n_ordered, .ref a_n_tally, .ref a_n_behind])), (a_n_firstTaker, aI E 51 g_n_firstTaker), (a_n_takers, aI E 200 g_n_takers), (o_u, .inr (3, [.int f_u_told, .ref a_u_periods, .ref a_u_froms, .ref a_u_throughs, .ref a_u_tos, .ref a_u_bits])), (a_u_bits, aI E 50 g_u_bits), (a_n_kinds, aI E 50 g_n_kinds), (a_v_onward, aI E 800 y_4), (a_u_froms, aI E 4 g_u_froms), (a_u_tos, aI E 4 g_u_tos), (a_u_periods, aI E 4 g_u_periods)]) [0, 1, 4, 5, 2, 3, 6, 7, 8, 9, 10] (by decide) rfl) (ci := 7) (q0 := 0) rfl rfl) rfl rfl hl.1 rfl (lv_room (Nat.le_of_ble_eq_true rfl)) dX7_aimFrom_93 ⟨Nat.le_of_ble_eq_true rfl, Nat.le_of_ble_eq_true rfl⟩) hP hD hS hA [0, 1, 4, 5, 2, 3, 6, 7, 8, 9, 10] [11] (wr := [(a_n_order, aI E 50 g_n_order)]) rfl rfl (by decide) (by decide) (fun r_8 w H locs hw hP hD hS => ?_)
      obtain ⟨b_r_8, rfl⟩ := hw
      replace hP : va_P E.1 vwCl [(a_n_order, aI E 50 g_n_order), (o_v, .inr (7, [.ref o_n, .ref o_k, .ref o_u, .ref o_i, .ref o_c, .int f_v_masks, .int y_3, .int f_v_end, .int f_v_skip, .ref a_v_onward, .ref a_v_keys, .int f_v_keyed])), (o_n, .inr (1, [.int f_n_cells, .ref a_n_kinds, .ref a_n_inputs, .ref a_n_tables, .ref a_n_sizes, .ref a_n_extras, .ref a_n_sources, .ref a_n_takers, .ref a_n_firstTaker, .ref a_n_order, .int f_n_ordered, .ref a_n_tally, .ref a_n_behind])), (a_n_firstTaker, aI E 51 g_n_firstTaker), (a_n_takers, aI E 200 g_n_takers), (o_u, .inr (3, [.int f_u_told, .ref a_u_periods, .ref a_u_froms, .ref a_u_throughs, .ref a_u_tos, .ref a_u_bits])), (a_u_bits, aI E 50 g_u_bits), (a_n_kinds, aI E 50 g_n_kinds), (a_v_onward, aI E 800 y_4), (a_u_froms, aI E 4 g_u_froms), (a_u_tos, aI E 4 g_u_tos), (a_u_periods, aI E 4 g_u_periods)] H := hP
      replace hD : va_D A [(a_n_order, aI E 50 g_n_order), (o_v, .inr (7, [.ref o_n, .ref o_k, .ref o_u, .ref o_i, .ref o_c, .int f_v_masks, .int y_3, .int f_v_end, .int f_v_skip, .ref a_v_onward, .ref a_v_keys, .int f_v_keyed])), (o_n, .inr (1, [.int f_n_cells, .ref a_n_kinds, .ref a_n_inputs, .ref a_n_tables, .ref a_n_sizes, .ref a_n_extras, .ref a_n_sources, .ref a_n_takers, .ref a_n_firstTaker, .ref a_n_order, .int f_n_ordered, .ref a_n_tally, .ref a_n_behind])), (a_n_firstTaker, aI E 51 g_n_firstTaker), (a_n_takers, aI E 200 g_n_takers), (o_u, .inr (3, [.int f_u_told, .ref a_u_periods, .ref a_u_froms, .ref a_u_throughs, .ref a_u_tos, .ref a_u_bits])), (a_u_bits, aI E 50 g_u_bits), (a_n_kinds, aI E 50 g_n_kinds), (a_v_onward, aI E 800 y_4), (a_u_froms, aI E 4 g_u_froms), (a_u_tos, aI E 4 g_u_tos), (a_u_periods, aI E 4 g_u_periods)] := hD
      exact ret_i hx hb hr hlk (hP.sub (ws' := [(o_v, .inr (7, [.ref o_n, .ref o_k, .ref o_u, .ref o_i, .ref o_c, .int f_v_masks, .int y_3, .int f_v_end, .int f_v_skip, .ref a_v_onward, .ref a_v_keys, .int f_v_keyed])), (o_n, .inr (1, [.int f_n_cells, .ref a_n_kinds, .ref a_n_inputs, .ref a_n_tables, .ref a_n_sizes, .ref a_n_extras, .ref a_n_sources, .ref a_n_takers, .ref a_n_firstTaker, .ref a_n_order, .int f_n_ordered, .ref a_n_tally, .ref a_n_behind])), (o_u, .inr (3, [.int f_u_told, .ref a_u_periods, .ref a_u_froms, .ref a_u_throughs, .ref a_u_tos, .ref a_u_bits])), (a_u_bits, aI E 50 g_u_bits), (a_n_firstTaker, aI E 51 g_n_firstTaker), (a_n_takers, aI E 200 g_n_takers), (a_n_kinds, aI E 50 g_n_kinds), (a_v_onward, aI E 800 y_4), (a_u_froms, aI E 4 g_u_froms), (a_u_tos, aI E 4 g_u_tos), (a_u_periods, aI E 4 g_u_periods), (a_n_order, aI E 50 g_n_order)]) [1, 2, 5, 6, 3, 4, 7, 8, 9, 10, 11, 0] rfl) (hD.sub (ws' := [(o_v, .inr (7, [.ref o_n, .ref o_k, .ref o_u, .ref o_i, .ref o_c, .int f_v_masks, .int y_3, .int f_v_end, .int f_v_skip, .ref a_v_onward, .ref a_v_keys, .int f_v_keyed])), (o_n, .inr (1, [.int f_n_cells, .ref a_n_kinds, .ref a_n_inputs, .ref a_n_tables, .ref a_n_sizes, .ref a_n_extras, .ref a_n_sources, .ref a_n_takers, .ref a_n_firstTaker, .ref a_n_order, .int f_n_ordered, .ref a_n_tally, .ref a_n_behind])), (o_u, .inr (3, [.int f_u_told, .ref a_u_periods, .ref a_u_froms, .ref a_u_throughs, .ref a_u_tos, .ref a_u_bits])), (a_u_bits, aI E 50 g_u_bits), (a_n_firstTaker, aI E 51 g_n_firstTaker), (a_n_takers, aI E 200 g_n_takers), (a_n_kinds, aI E 50 g_n_kinds), (a_v_onward, aI E 800 y_4), (a_u_froms, aI E 4 g_u_froms), (a_u_tos, aI E 4 g_u_tos), (a_u_periods, aI E 4 g_u_periods), (a_n_order, aI E 50 g_n_order)]) [1, 2, 5, 6, 3, 4, 7, 8, 9, 10, 11, 0] (by decide) rfl) hS rfl dX7_aimFrom_96 (Nat.le_of_ble_eq_true rfl) (Nat.le_of_ble_eq_true rfl) ⟨(by omega), y_3, y_4, RG.mk (by omega), i_y_4, rfl⟩
    · have e_6 : 0 ≤ y_2.toInt := i3_nlt c_6
      refine lv_iconst (v := 0) hx hb dX7_aimFrom_19 (by decide) ?_
      refine lv_istore_n (lv' := [(3, .int 0), (2, .int y_2), (0, .ref o_v), (1, .int p1)]) hx hb dX7_aimFrom_20 rfl hl (by decide) rfl (fun ls hl => ?_)
      obtain ⟨y_9, hy_9⟩ : ∃ y : Int32, y = 0 := ⟨_, rfl⟩
      have b_y_9 : 0 ≤ y_9.toInt ∧ y_9.toInt ≤ 16 := by rw [hy_9]; decide
      replace hl : lv_has ls 4 [(3, .int y_9), (2, .int y_2), (0, .ref o_v), (1, .int p1)] := by rw [hy_9]; exact hl
      obtain ⟨y_10, hy_10⟩ : ∃ y : Int32, y = y_3 := ⟨_, rfl⟩
      have b_y_10 : 0 ≤ y_10.toInt ∧ y_10.toInt ≤ 49 := by rw [hy_10]; omega
      obtain ⟨y_11, hy_11⟩ : ∃ g : Nat → Int32, g = y_4 := ⟨_, rfl⟩
      have i_y_11 : AR y_11 800 0 1000 := by rw [hy_11]; exact i_y_4
      replace hP : va_P E.1 vwCl [(o_v, .inr (7, [.ref o_n, .ref o_k, .ref o_u, .ref o_i, .ref o_c, .int f_v_masks, .int y_10, .int f_v_end, .int f_v_skip, .ref a_v_onward, .ref a_v_keys, .int f_v_keyed])), (o_n, .inr (1, [.int f_n_cells, .ref a_n_kinds, .ref a_n_inputs, .ref a_n_tables, .ref a_n_sizes, .ref a_n_extras, .ref a_n_sources, .ref a_n_takers, .ref a_n_firstTaker, .ref a_n_order, .int f_n_ordered, .ref a_n_tally, .ref a_n_behind])), (o_u, .inr (3, [.int f_u_told, .ref a_u_periods, .ref a_u_froms, .ref a_u_throughs, .ref a_u_tos, .ref a_u_bits])), (a_u_bits, aI E 50 g_u_bits), (a_n_firstTaker, aI E 51 g_n_firstTaker), (a_n_takers, aI E 200 g_n_takers), (a_n_kinds, aI E 50 g_n_kinds), (a_v_onward, aI E 800 y_11), (a_u_froms, aI E 4 g_u_froms), (a_u_tos, aI E 4 g_u_tos), (a_u_periods, aI E 4 g_u_periods), (a_n_order, aI E 50 g_n_order)] H := by rw [hy_10, hy_11]; exact hP
      replace hD : va_D A [(o_v, .inr (7, [.ref o_n, .ref o_k, .ref o_u, .ref o_i, .ref o_c, .int f_v_masks, .int y_10, .int f_v_end, .int f_v_skip, .ref a_v_onward, .ref a_v_keys, .int f_v_keyed])), (o_n, .inr (1, [.int f_n_cells, .ref a_n_kinds, .ref a_n_inputs, .ref a_n_tables, .ref a_n_sizes, .ref a_n_extras, .ref a_n_sources, .ref a_n_takers, .ref a_n_firstTaker, .ref a_n_order, .int f_n_ordered, .ref a_n_tally, .ref a_n_behind])), (o_u, .inr (3, [.int f_u_told, .ref a_u_periods, .ref a_u_froms, .ref a_u_throughs, .ref a_u_tos, .ref a_u_bits])), (a_u_bits, aI E 50 g_u_bits), (a_n_firstTaker, aI E 51 g_n_firstTaker), (a_n_takers, aI E 200 g_n_takers), (a_n_kinds, aI E 50 g_n_kinds), (a_v_onward, aI E 800 y_11), (a_u_froms, aI E 4 g_u_froms), (a_u_tos, aI E 4 g_u_tos), (a_u_periods, aI E 4 g_u_periods), (a_n_order, aI E 50 g_n_order)] := by rw [hy_10, hy_11]; exact hD
      clear hy_9 hy_10 hy_11
      obtain ⟨d_12, hd_12⟩ : ∃ d : Nat, 16 - y_9.toInt < (d : Int) := ⟨(16 - y_9.toInt + 1).toNat, by omega⟩
      induction d_12 generalizing y_9 y_10 y_11 H locs ls with
      | zero => exfalso; omega
      | succ d_12 ih_d_12 =>
        refine lv_iload_n hx hb dX7_aimFrom_21 rfl (lv_at hl 0 rfl) ?_
        refine lv_aload_n hx hb dX7_aimFrom_22 rfl (lv_at hl 2 rfl) ?_
        refine va_get (D := E.1) (ci := 7) (v := .int f_v_masks) (own := RX7) (C := RX7) (T := TX7) (N := 12) hx hb hts i_q_aimFrom_X7 hown hK hP 0 rfl rfl 5 (by decide) (hto (.fieldLink RX7 9 "TimingHouse$Tracer" "masks" "I") (by decide +kernel)) (fun _ h9 => h9) rfl dX7_aimFrom_23 ?_
        have b_f_v_masks := r_f_v_masks.out
        refine lv_icmp_ge (tgt := 70) hx hb dX7_aimFrom_26 (by decide) (fun c_13 => ?_) (fun c_13 => ?_)
        · have e_13 : f_v_masks.toInt ≤ y_9.toInt := i3_le c_13
          obtain ⟨x_14, ex_14⟩ : ∃ y : Int32, y = y_2 + (-1) := ⟨_, rfl⟩
          have tx_14 : x_14.toInt = y_2.toInt + (-1) := i3_addc rfl rfl ex_14 (by omega)
          refine lv_iinc (v := x_14) (lv' := [(2, .int x_14), (3, .int y_9), (0, .ref o_v), (1, .int p1)]) hx hb dX7_aimFrom_70 hl (k := 1) rfl (by rw [ex_14]; rfl) (by decide) rfl (fun ls hl => ?_)
          refine lv_goto (tgt := 15) hx hb dX7_aimFrom_73 (by decide) ?_
          replace hl : lv_has ls 4 [(2, .int x_14), (0, .ref o_v), (1, .int p1)] := lv_sub hl [0, 2, 3] rfl
          apply ih_d_5 (y_2 := x_14) (y_3 := y_10) (y_4 := y_11) (H := H) (locs := locs) (ls := ls) <;> first | assumption | omega | decide
        · have e_13 : y_9.toInt < f_v_masks.toInt := i3_nle c_13
          refine lv_aload_n hx hb dX7_aimFrom_29 rfl (lv_at hl 2 rfl) ?_
          refine va_get (D := E.1) (ci := 7) (v := .ref a_v_onward) (own := RX7) (C := RX7) (T := TX7) (N := 12) hx hb hts i_q_aimFrom_X7 hown hK hP 0 rfl rfl 9 (by decide) (hto (.fieldLink RX7 15 "TimingHouse$Tracer" "onward" "[I") (by decide +kernel)) (fun _ h9 => h9) rfl dX7_aimFrom_30 ?_
          refine lv_aload_n hx hb dX7_aimFrom_33 rfl (lv_at hl 2 rfl) ?_
          refine va_get (D := E.1) (ci := 7) (v := .ref o_n) (own := RX7) (C := RX7) (T := TX7) (N := 12) hx hb hts i_q_aimFrom_X7 hown hK hP 0 rfl rfl 0 (by decide) (hto (.fieldLink RX7 23 "TimingHouse$Tracer" "net" "LTimingHouse$Net;") (by decide +kernel)) (fun _ h9 => h9) rfl dX7_aimFrom_34 ?_
          refine va_getN (D := E.1) (ci := 1) (v := .ref a_n_order) (own := RX7) (ref := "TimingHouse$Net") (host := "TimingHouse") (C := RX1) (T := TX1) (N := 13) hx hb hts i_q_aimFrom_X1 hown hK hP 1 rfl rfl 9 (by decide) (nw_F hN 21 rfl) (fun _ h9 => h9) rfl dX7_aimFrom_37 ?_
          refine lv_iload_n hx hb dX7_aimFrom_40 rfl (lv_at hl 1 rfl) ?_
          refine ld_i hx hb hK hP 11 rfl (by omega) dX7_aimFrom_41 (fun x_15 ex_15 => ?_)
          have b_x_15 := AR.rd i_g_n_order ex_15 (by omega)
          refine lv_aload_n hx hb dX7_aimFrom_42 rfl (lv_at hl 2 rfl) ?_
          refine va_get (D := E.1) (ci := 7) (v := .int f_v_masks) (own := RX7) (C := RX7) (T := TX7) (N := 12) hx hb hts i_q_aimFrom_X7 hown hK hP 0 rfl rfl 5 (by decide) (hto (.fieldLink RX7 9 "TimingHouse$Tracer" "masks" "I") (by decide +kernel)) (fun _ h9 => h9) rfl dX7_aimFrom_43 ?_
          refine lv_imul hx hb dX7_aimFrom_46 ?_
          refine lv_topi (fun x_16 ex_16 => ?_)
          have b_x_16 : 0 ≤ x_16.toInt ∧ x_16.toInt ≤ 784 := i3_mulb (A := 49) (B := 16) ex_16 (by omega) (by omega) (by decide)
          refine lv_iload_n hx hb dX7_aimFrom_47 rfl (lv_at hl 0 rfl) ?_
          refine lv_iadd hx hb dX7_aimFrom_48 ?_
          refine lv_topi (fun x_17 ex_17 => ?_)
          have tx_17 : x_17.toInt = x_16.toInt + y_9.toInt := i3_addc rfl rfl ex_17 (by omega)
          refine lv_aload_n hx hb dX7_aimFrom_49 rfl (lv_at hl 2 rfl) ?_
          refine lv_aload_n hx hb dX7_aimFrom_50 rfl (lv_at hl 2 rfl) ?_
          refine va_get (D := E.1) (ci := 7) (v := .ref o_n) (own := RX7) (C := RX7) (T := TX7) (N := 12) hx hb hts i_q_aimFrom_X7 hown hK hP 0 rfl rfl 0 (by decide) (hto (.fieldLink RX7 23 "TimingHouse$Tracer" "net" "LTimingHouse$Net;") (by decide +kernel)) (fun _ h9 => h9) rfl dX7_aimFrom_51 ?_
          refine va_getN (D := E.1) (ci := 1) (v := .ref a_n_order) (own := RX7) (ref := "TimingHouse$Net") (host := "TimingHouse") (C := RX1) (T := TX1) (N := 13) hx hb hts i_q_aimFrom_X1 hown hK hP 1 rfl rfl 9 (by decide) (nw_F hN 21 rfl) (fun _ h9 => h9) rfl dX7_aimFrom_54 ?_
          refine lv_iload_n hx hb dX7_aimFrom_57 rfl (lv_at hl 1 rfl) ?_
          refine ld_i hx hb hK hP 11 rfl (by omega) dX7_aimFrom_58 (fun x_18 ex_18 => ?_)
          have hq_x_18 : x_15 = x_18 := ex_15.trans ex_18.symm
          subst hq_x_18
          refine lv_iload_n hx hb dX7_aimFrom_59 rfl (lv_at hl 0 rfl) ?_
          refine call_i (va_runV (As := [.int x_15, .int y_9]) (rest := [.int x_17, .ref a_v_onward]) ⟨hx, hb, hml, hown, hts⟩ (q_sumOnward l E o_v o_n o_k o_u o_i o_c a_v_onward a_v_keys a_n_kinds a_n_inputs a_n_tables a_n_sizes a_n_extras a_n_sources a_n_takers a_n_firstTaker a_n_order a_n_tally a_n_behind a_u_periods a_u_froms a_u_throughs a_u_tos a_u_bits f_v_masks y_10 f_v_end f_v_skip f_v_keyed f_n_cells f_n_ordered f_u_told x_15 y_9 g_n_firstTaker g_n_takers g_u_bits g_n_kinds y_11 g_u_froms g_u_tos g_u_periods r_f_v_masks (RG.mk (by omega)) r_f_v_end r_f_v_keyed r_f_n_cells r_f_n_ordered i_g_n_firstTaker i_g_n_takers r_f_u_told i_g_u_bits i_g_n_kinds i_y_11 i_g_u_froms i_g_u_tos i_g_u_periods (RG.mk (by omega)) (RG.mk (by omega)) H.size) (cwV 2 hts g_q_aimFrom_q_sumOnward_101 rfl rfl rfl (by decide +kernel) ⟨Nat.le_of_ble_eq_true rfl, Nat.le_of_ble_eq_true rfl⟩) (pre_V hK hN hZ hS (va_free hD hS hA [0, 1, 4, 5, 2, 3, 6, 7, 8, 9, 10] rfl) (hP.sub (ws' := [(o_v, .inr (7, [.ref o_n, .ref o_k, .ref o_u, .ref o_i, .ref o_c, .int f_v_masks, .int y_10, .int f_v_end, .int f_v_skip, .ref a_v_onward, .ref a_v_keys, .int f_v_keyed])), (o_n, .inr (1, [.int f_n_cells, .ref a_n_kinds, .ref a_n_inputs, .ref a_n_tables, .ref a_n_sizes, .ref a_n_extras, .ref a_n_sources, .ref a_n_takers, .ref a_n_firstTaker, .ref a_n_order, .int f_n_ordered, .ref a_n_tally, .ref a_n_behind])), (a_n_firstTaker, aI E 51 g_n_firstTaker), (a_n_takers, aI E 200 g_n_takers), (o_u, .inr (3, [.int f_u_told, .ref a_u_periods, .ref a_u_froms, .ref a_u_throughs, .ref a_u_tos, .ref a_u_bits])), (a_u_bits, aI E 50 g_u_bits), (a_n_kinds, aI E 50 g_n_kinds), (a_v_onward, aI E 800 y_11), (a_u_froms, aI E 4 g_u_froms), (a_u_tos, aI E 4 g_u_tos), (a_u_periods, aI E 4 g_u_periods)]) [0, 1, 4, 5, 2, 3, 6, 7, 8, 9, 10] rfl) (hD.sub (ws' := [(o_v, .inr (7, [.ref o_n, .ref o_k, .ref o_u, .ref o_i, .ref o_c, .int f_v_masks, .int y_10, .int f_v_end, .int f_v_skip, .ref a_v_onward, .ref a_v_keys, .int f_v_keyed])), (o_n, .inr (1, [.int f_n_cells, .ref a_n_kinds, .ref a_n_inputs, .ref a_n_tables, .ref a_n_sizes, .ref a_n_extras, .ref a_n_sources, .ref a_n_takers, .ref a_n_firstTaker, .ref a_n_order, .int f_n_ordered, .ref a_n_tally, .ref a_n_behind])), (a_n_firstTaker, aI E 51 g_n_firstTaker), (a_n_takers, aI E 200 g_n_takers), (o_u, .inr (3, [.int f_u_told, .ref a_u_periods, .ref a_u_froms, .ref a_u_throughs, .ref a_u_tos, .ref a_u_bits])), (a_u_bits, aI E 50 g_u_bits), (a_n_kinds, aI E 50 g_n_kinds), (a_v_onward, aI E 800 y_11), (a_u_froms, aI E 4 g_u_froms), (a_u_tos, aI E 4 g_u_tos), (a_u_periods, aI E 4 g_u_periods)]) [0, 1, 4, 5, 2, 3, 6, 7, 8, 9, 10] (by decide) rfl) (ci := 7) (q0 := 0) rfl rfl) rfl rfl hl.1 rfl (lv_room (Nat.le_of_ble_eq_true rfl)) dX7_aimFrom_60 ⟨Nat.le_of_ble_eq_true rfl, Nat.le_of_ble_eq_true rfl⟩) hP hD hS hA [0, 1, 4, 5, 2, 3, 6, 7, 8, 9, 10] [11] (wr := [(a_n_order, aI E 50 g_n_order)]) rfl rfl (by decide) (by decide) (fun r_19 w H locs hw hP hD hS => ?_)
          obtain ⟨b_r_19, rfl⟩ := hw
          replace hP : va_P E.1 vwCl [(a_n_order, aI E 50 g_n_order), (o_v, .inr (7, [.ref o_n, .ref o_k, .ref o_u, .ref o_i, .ref o_c, .int f_v_masks, .int y_10, .int f_v_end, .int f_v_skip, .ref a_v_onward, .ref a_v_keys, .int f_v_keyed])), (o_n, .inr (1, [.int f_n_cells, .ref a_n_kinds, .ref a_n_inputs, .ref a_n_tables, .ref a_n_sizes, .ref a_n_extras, .ref a_n_sources, .ref a_n_takers, .ref a_n_firstTaker, .ref a_n_order, .int f_n_ordered, .ref a_n_tally, .ref a_n_behind])), (a_n_firstTaker, aI E 51 g_n_firstTaker), (a_n_takers, aI E 200 g_n_takers), (o_u, .inr (3, [.int f_u_told, .ref a_u_periods, .ref a_u_froms, .ref a_u_throughs, .ref a_u_tos, .ref a_u_bits])), (a_u_bits, aI E 50 g_u_bits), (a_n_kinds, aI E 50 g_n_kinds), (a_v_onward, aI E 800 y_11), (a_u_froms, aI E 4 g_u_froms), (a_u_tos, aI E 4 g_u_tos), (a_u_periods, aI E 4 g_u_periods)] H := hP
          replace hD : va_D A [(a_n_order, aI E 50 g_n_order), (o_v, .inr (7, [.ref o_n, .ref o_k, .ref o_u, .ref o_i, .ref o_c, .int f_v_masks, .int y_10, .int f_v_end, .int f_v_skip, .ref a_v_onward, .ref a_v_keys, .int f_v_keyed])), (o_n, .inr (1, [.int f_n_cells, .ref a_n_kinds, .ref a_n_inputs, .ref a_n_tables, .ref a_n_sizes, .ref a_n_extras, .ref a_n_sources, .ref a_n_takers, .ref a_n_firstTaker, .ref a_n_order, .int f_n_ordered, .ref a_n_tally, .ref a_n_behind])), (a_n_firstTaker, aI E 51 g_n_firstTaker), (a_n_takers, aI E 200 g_n_takers), (o_u, .inr (3, [.int f_u_told, .ref a_u_periods, .ref a_u_froms, .ref a_u_throughs, .ref a_u_tos, .ref a_u_bits])), (a_u_bits, aI E 50 g_u_bits), (a_n_kinds, aI E 50 g_n_kinds), (a_v_onward, aI E 800 y_11), (a_u_froms, aI E 4 g_u_froms), (a_u_tos, aI E 4 g_u_tos), (a_u_periods, aI E 4 g_u_periods)] := hD
          refine st_i hx hb hK hP hD hS 8 rfl (by omega) dX7_aimFrom_63 (fun g_20 H locs eg_20 hP hD hS => ?_)
          have i_g_20 : AR g_20 800 0 1000 := by rw [eg_20]; exact AR.up i_y_11 (by omega)
          clear eg_20
          replace hP : va_P E.1 vwCl [(a_n_order, aI E 50 g_n_order), (o_v, .inr (7, [.ref o_n, .ref o_k, .ref o_u, .ref o_i, .ref o_c, .int f_v_masks, .int y_10, .int f_v_end, .int f_v_skip, .ref a_v_onward, .ref a_v_keys, .int f_v_keyed])), (o_n, .inr (1, [.int f_n_cells, .ref a_n_kinds, .ref a_n_inputs, .ref a_n_tables, .ref a_n_sizes, .ref a_n_extras, .ref a_n_sources, .ref a_n_takers, .ref a_n_firstTaker, .ref a_n_order, .int f_n_ordered, .ref a_n_tally, .ref a_n_behind])), (a_n_firstTaker, aI E 51 g_n_firstTaker), (a_n_takers, aI E 200 g_n_takers), (o_u, .inr (3, [.int f_u_told, .ref a_u_periods, .ref a_u_froms, .ref a_u_throughs, .ref a_u_tos, .ref a_u_bits])), (a_u_bits, aI E 50 g_u_bits), (a_n_kinds, aI E 50 g_n_kinds), (a_v_onward, aI E 800 g_20), (a_u_froms, aI E 4 g_u_froms), (a_u_tos, aI E 4 g_u_tos), (a_u_periods, aI E 4 g_u_periods)] H := hP
          replace hD : va_D A [(a_n_order, aI E 50 g_n_order), (o_v, .inr (7, [.ref o_n, .ref o_k, .ref o_u, .ref o_i, .ref o_c, .int f_v_masks, .int y_10, .int f_v_end, .int f_v_skip, .ref a_v_onward, .ref a_v_keys, .int f_v_keyed])), (o_n, .inr (1, [.int f_n_cells, .ref a_n_kinds, .ref a_n_inputs, .ref a_n_tables, .ref a_n_sizes, .ref a_n_extras, .ref a_n_sources, .ref a_n_takers, .ref a_n_firstTaker, .ref a_n_order, .int f_n_ordered, .ref a_n_tally, .ref a_n_behind])), (a_n_firstTaker, aI E 51 g_n_firstTaker), (a_n_takers, aI E 200 g_n_takers), (o_u, .inr (3, [.int f_u_told, .ref a_u_periods, .ref a_u_froms, .ref a_u_throughs, .ref a_u_tos, .ref a_u_bits])), (a_u_bits, aI E 50 g_u_bits), (a_n_kinds, aI E 50 g_n_kinds), (a_v_onward, aI E 800 g_20), (a_u_froms, aI E 4 g_u_froms), (a_u_tos, aI E 4 g_u_tos), (a_u_periods, aI E 4 g_u_periods)] := hD
          obtain ⟨x_21, ex_21⟩ : ∃ y : Int32, y = y_9 + 1 := ⟨_, rfl⟩
          have tx_21 : x_21.toInt = y_9.toInt + 1 := i3_addc rfl rfl ex_21 (by omega)
          refine lv_iinc (v := x_21) (lv' := [(3, .int x_21), (2, .int y_2), (0, .ref o_v), (1, .int p1)]) hx hb dX7_aimFrom_64 hl (k := 0) rfl (by rw [ex_21]; rfl) (by decide) rfl (fun ls hl => ?_)
          refine lv_goto (tgt := 21) hx hb dX7_aimFrom_67 (by decide) ?_
          replace hP : va_P E.1 vwCl [(o_v, .inr (7, [.ref o_n, .ref o_k, .ref o_u, .ref o_i, .ref o_c, .int f_v_masks, .int y_10, .int f_v_end, .int f_v_skip, .ref a_v_onward, .ref a_v_keys, .int f_v_keyed])), (o_n, .inr (1, [.int f_n_cells, .ref a_n_kinds, .ref a_n_inputs, .ref a_n_tables, .ref a_n_sizes, .ref a_n_extras, .ref a_n_sources, .ref a_n_takers, .ref a_n_firstTaker, .ref a_n_order, .int f_n_ordered, .ref a_n_tally, .ref a_n_behind])), (o_u, .inr (3, [.int f_u_told, .ref a_u_periods, .ref a_u_froms, .ref a_u_throughs, .ref a_u_tos, .ref a_u_bits])), (a_u_bits, aI E 50 g_u_bits), (a_n_firstTaker, aI E 51 g_n_firstTaker), (a_n_takers, aI E 200 g_n_takers), (a_n_kinds, aI E 50 g_n_kinds), (a_v_onward, aI E 800 g_20), (a_u_froms, aI E 4 g_u_froms), (a_u_tos, aI E 4 g_u_tos), (a_u_periods, aI E 4 g_u_periods), (a_n_order, aI E 50 g_n_order)] H := hP.sub [1, 2, 5, 6, 3, 4, 7, 8, 9, 10, 11, 0] rfl
          replace hD : va_D A [(o_v, .inr (7, [.ref o_n, .ref o_k, .ref o_u, .ref o_i, .ref o_c, .int f_v_masks, .int y_10, .int f_v_end, .int f_v_skip, .ref a_v_onward, .ref a_v_keys, .int f_v_keyed])), (o_n, .inr (1, [.int f_n_cells, .ref a_n_kinds, .ref a_n_inputs, .ref a_n_tables, .ref a_n_sizes, .ref a_n_extras, .ref a_n_sources, .ref a_n_takers, .ref a_n_firstTaker, .ref a_n_order, .int f_n_ordered, .ref a_n_tally, .ref a_n_behind])), (o_u, .inr (3, [.int f_u_told, .ref a_u_periods, .ref a_u_froms, .ref a_u_throughs, .ref a_u_tos, .ref a_u_bits])), (a_u_bits, aI E 50 g_u_bits), (a_n_firstTaker, aI E 51 g_n_firstTaker), (a_n_takers, aI E 200 g_n_takers), (a_n_kinds, aI E 50 g_n_kinds), (a_v_onward, aI E 800 g_20), (a_u_froms, aI E 4 g_u_froms), (a_u_tos, aI E 4 g_u_tos), (a_u_periods, aI E 4 g_u_periods), (a_n_order, aI E 50 g_n_order)] := hD.sub [1, 2, 5, 6, 3, 4, 7, 8, 9, 10, 11, 0] (by decide) rfl
          apply ih_d_12 (y_9 := x_21) (y_10 := y_10) (y_11 := g_20) (H := H) (locs := locs) (ls := ls) <;> first | assumption | omega | decide
theorem dX7_chooseWire_0 : decode cX7_chooseWire 0 = .ok (.aload_n 0, 1) := by decide +kernel
theorem dX7_chooseWire_1 : decode cX7_chooseWire 1 = .ok (.getfield 23, 3) := by decide +kernel
theorem dX7_chooseWire_4 : decode cX7_chooseWire 4 = .ok (.getfield 108, 3) := by decide +kernel
theorem dX7_chooseWire_7 : decode cX7_chooseWire 7 = .ok (.iload_n 1, 1) := by decide +kernel
theorem dX7_chooseWire_8 : decode cX7_chooseWire 8 = .ok (.iaload, 1) := by decide +kernel
theorem dX7_chooseWire_9 : decode cX7_chooseWire 9 = .ok (.istore_n 3, 1) := by decide +kernel
theorem dX7_chooseWire_10 : decode cX7_chooseWire 10 = .ok (.iload_n 3, 1) := by decide +kernel
theorem dX7_chooseWire_11 : decode cX7_chooseWire 11 = .ok (.aload_n 0, 1) := by decide +kernel
theorem dX7_chooseWire_12 : decode cX7_chooseWire 12 = .ok (.getfield 23, 3) := by decide +kernel
theorem dX7_chooseWire_15 : decode cX7_chooseWire 15 = .ok (.getfield 108, 3) := by decide +kernel
theorem dX7_chooseWire_18 : decode cX7_chooseWire 18 = .ok (.iload_n 1, 1) := by decide +kernel
theorem dX7_chooseWire_19 : decode cX7_chooseWire 19 = .ok (.iconst 1, 1) := by decide +kernel
theorem dX7_chooseWire_20 : decode cX7_chooseWire 20 = .ok (.iadd, 1) := by decide +kernel
theorem dX7_chooseWire_21 : decode cX7_chooseWire 21 = .ok (.iaload, 1) := by decide +kernel
theorem dX7_chooseWire_22 : decode cX7_chooseWire 22 = .ok (.if_icmp .ge 55, 3) := by decide +kernel
theorem dX7_chooseWire_77 : decode cX7_chooseWire 77 = .ok (.bipush (-5), 2) := by decide +kernel
theorem dX7_chooseWire_79 : decode cX7_chooseWire 79 = .ok (.ireturn, 1) := by decide +kernel
theorem dX7_chooseWire_25 : decode cX7_chooseWire 25 = .ok (.aload_n 0, 1) := by decide +kernel
theorem dX7_chooseWire_26 : decode cX7_chooseWire 26 = .ok (.aload_n 0, 1) := by decide +kernel
theorem dX7_chooseWire_27 : decode cX7_chooseWire 27 = .ok (.getfield 23, 3) := by decide +kernel
theorem dX7_chooseWire_30 : decode cX7_chooseWire 30 = .ok (.getfield 111, 3) := by decide +kernel
theorem dX7_chooseWire_33 : decode cX7_chooseWire 33 = .ok (.iload_n 3, 1) := by decide +kernel
theorem dX7_chooseWire_34 : decode cX7_chooseWire 34 = .ok (.iaload, 1) := by decide +kernel
theorem dX7_chooseWire_35 : decode cX7_chooseWire 35 = .ok (.iload_n 2, 1) := by decide +kernel
theorem dX7_chooseWire_36 : decode cX7_chooseWire 36 = .ok (.invokevirtual 114, 3) := by decide +kernel
theorem dX7_chooseWire_39 : decode cX7_chooseWire 39 = .ok (.istore 4, 2) := by decide +kernel
theorem dX7_chooseWire_41 : decode cX7_chooseWire 41 = .ok (.aload_n 0, 1) := by decide +kernel
theorem dX7_chooseWire_42 : decode cX7_chooseWire 42 = .ok (.getfield 137, 3) := by decide +kernel
theorem dX7_chooseWire_45 : decode cX7_chooseWire 45 = .ok (.iload 4, 2) := by decide +kernel
theorem dX7_chooseWire_47 : decode cX7_chooseWire 47 = .ok (.if_icmp .ge 13, 3) := by decide +kernel
theorem dX7_chooseWire_60 : decode cX7_chooseWire 60 = .ok (.aload_n 0, 1) := by decide +kernel
theorem dX7_chooseWire_61 : decode cX7_chooseWire 61 = .ok (.dup, 1) := by decide +kernel
theorem dX7_chooseWire_62 : decode cX7_chooseWire 62 = .ok (.getfield 137, 3) := by decide +kernel
theorem dX7_chooseWire_65 : decode cX7_chooseWire 65 = .ok (.iload 4, 2) := by decide +kernel
theorem dX7_chooseWire_67 : decode cX7_chooseWire 67 = .ok (.isub, 1) := by decide +kernel
theorem dX7_chooseWire_68 : decode cX7_chooseWire 68 = .ok (.putfield 137, 3) := by decide +kernel
theorem dX7_chooseWire_71 : decode cX7_chooseWire 71 = .ok (.iinc 3 1, 3) := by decide +kernel
theorem dX7_chooseWire_74 : decode cX7_chooseWire 74 = .ok (.goto (-64), 3) := by decide +kernel
theorem dX7_chooseWire_50 : decode cX7_chooseWire 50 = .ok (.aload_n 0, 1) := by decide +kernel
theorem dX7_chooseWire_51 : decode cX7_chooseWire 51 = .ok (.getfield 23, 3) := by decide +kernel
theorem dX7_chooseWire_54 : decode cX7_chooseWire 54 = .ok (.getfield 111, 3) := by decide +kernel
theorem dX7_chooseWire_57 : decode cX7_chooseWire 57 = .ok (.iload_n 3, 1) := by decide +kernel
theorem dX7_chooseWire_58 : decode cX7_chooseWire 58 = .ok (.iaload, 1) := by decide +kernel
theorem dX7_chooseWire_59 : decode cX7_chooseWire 59 = .ok (.ireturn, 1) := by decide +kernel
def wo_q_chooseWire : List Cond := [.code yX7_chooseWire cX7_chooseWire 5 (some .int), .fieldLink RX7 23 "TimingHouse$Tracer" "net" "LTimingHouse$Net;", .methodLink RX7 114 yX7_onwardBy, .instanceMethod yX7_onwardBy, .selects RX7 yX7_onwardBy yX7_onwardBy, .initialized RX7, .fieldLink RX7 137 "TimingHouse$Tracer" "skip" "I"]
def wr_q_chooseWire : List Cond := (wsX10 ++ (wsX70 ++ (w_q_onwardBy ++ ([]))))
def w_q_chooseWire : List Cond := wo_q_chooseWire ++ wr_q_chooseWire
theorem wg_q_chooseWire : GW w_q_chooseWire := GW_app (GW_of (by decide +kernel)) (GW_app (GW_of (by decide +kernel)) (GW_app (GW_of (by decide +kernel)) (GW_app (wg_q_onwardBy) (GW_nil))))
theorem i_q_chooseWire_X1 : ∀ w ∈ wsX10, w ∈ w_q_chooseWire := fun _ h => List.mem_append_right _ (List.mem_append_left _ h)
theorem i_q_chooseWire_X7 : ∀ w ∈ wsX70, w ∈ w_q_chooseWire := fun _ h => List.mem_append_right _ (List.mem_append_right _ (List.mem_append_left _ h))
theorem g_q_chooseWire_q_onwardBy_114 : GoodIn w_q_chooseWire (wsV RX7 114 RX7 yX7_onwardBy w_q_onwardBy) := goodIn_app (gi_left (goodIn_of _ (by decide +kernel))) (fun w h => ⟨List.mem_append_right _ (List.mem_append_right _ (List.mem_append_right _ (List.mem_append_left _ h))), wg_q_onwardBy w h⟩)
set_option maxHeartbeats 8000000 in
set_option maxRecDepth 100000 in
theorem q_chooseWire (l : Launch) (E : gE) (o_v o_n o_k o_u o_i o_c a_v_onward a_v_keys a_n_kinds a_n_inputs a_n_tables a_n_sizes a_n_extras a_n_sources a_n_takers a_n_firstTaker a_n_order a_n_tally a_n_behind a_u_periods a_u_froms a_u_throughs a_u_tos a_u_bits : Nat) (f_v_masks f_v_start f_v_end f_v_skip f_v_keyed f_n_cells f_n_ordered f_u_told p1 p2 : Int32) (g_n_firstTaker : Nat → Int32) (g_n_takers : Nat → Int32) (g_u_bits : Nat → Int32) (g_n_kinds : Nat → Int32) (g_v_onward : Nat → Int32) (g_u_froms : Nat → Int32) (g_u_tos : Nat → Int32) (g_u_periods : Nat → Int32) (r_f_v_masks : RG f_v_masks 1 16) (r_f_v_start : RG f_v_start 0 49) (r_f_v_end : RG f_v_end 0 49) (r_f_v_keyed : RG f_v_keyed 0 1000) (r_f_n_cells : RG f_n_cells 0 50) (r_f_n_ordered : RG f_n_ordered 0 50) (i_g_n_firstTaker : AR g_n_firstTaker 51 0 200) (i_g_n_takers : AR g_n_takers 200 0 199) (r_f_u_told : RG f_u_told 0 4) (i_g_u_bits : AR g_u_bits 50 0 15) (i_g_n_kinds : AR g_n_kinds 50 0 5) (i_g_v_onward : AR g_v_onward 800 0 1000) (i_g_u_froms : AR g_u_froms 4 (-1) 49) (i_g_u_tos : AR g_u_tos 4 (-1) 49) (i_g_u_periods : AR g_u_periods 4 0 4) (r_p1 : RG p1 0 49) (r_p2 : RG p2 0 15) : CtI l E yX7_chooseWire w_q_chooseWire ({ frames := 3, cells := 0, slots := 0, locals := 65 }) [(o_v, .inr (7, [.ref o_n, .ref o_k, .ref o_u, .ref o_i, .ref o_c, .int f_v_masks, .int f_v_start, .int f_v_end, .int f_v_skip, .ref a_v_onward, .ref a_v_keys, .int f_v_keyed])), (o_n, .inr (1, [.int f_n_cells, .ref a_n_kinds, .ref a_n_inputs, .ref a_n_tables, .ref a_n_sizes, .ref a_n_extras, .ref a_n_sources, .ref a_n_takers, .ref a_n_firstTaker, .ref a_n_order, .int f_n_ordered, .ref a_n_tally, .ref a_n_behind])), (a_n_firstTaker, aI E 51 g_n_firstTaker), (a_n_takers, aI E 200 g_n_takers), (o_u, .inr (3, [.int f_u_told, .ref a_u_periods, .ref a_u_froms, .ref a_u_throughs, .ref a_u_tos, .ref a_u_bits])), (a_u_bits, aI E 50 g_u_bits), (a_n_kinds, aI E 50 g_n_kinds), (a_v_onward, aI E 800 g_v_onward), (a_u_froms, aI E 4 g_u_froms), (a_u_tos, aI E 4 g_u_tos), (a_u_periods, aI E 4 g_u_periods)] [.ref o_v, .int p1, .int p2] (fun r w => ((-5) ≤ r.toInt ∧ r.toInt ≤ 199) ∧ ∃ nf_v_skip : Int32, w = [(o_v, .inr (7, [.ref o_n, .ref o_k, .ref o_u, .ref o_i, .ref o_c, .int f_v_masks, .int f_v_start, .int f_v_end, .int nf_v_skip, .ref a_v_onward, .ref a_v_keys, .int f_v_keyed])), (o_n, .inr (1, [.int f_n_cells, .ref a_n_kinds, .ref a_n_inputs, .ref a_n_tables, .ref a_n_sizes, .ref a_n_extras, .ref a_n_sources, .ref a_n_takers, .ref a_n_firstTaker, .ref a_n_order, .int f_n_ordered, .ref a_n_tally, .ref a_n_behind])), (a_n_firstTaker, aI E 51 g_n_firstTaker), (a_n_takers, aI E 200 g_n_takers), (o_u, .inr (3, [.int f_u_told, .ref a_u_periods, .ref a_u_froms, .ref a_u_throughs, .ref a_u_tos, .ref a_u_bits])), (a_u_bits, aI E 50 g_u_bits), (a_n_kinds, aI E 50 g_n_kinds), (a_v_onward, aI E 800 g_v_onward), (a_u_froms, aI E 4 g_u_froms), (a_u_tos, aI E 4 g_u_tos), (a_u_periods, aI E 4 g_u_periods)]) := by
  refine CtI.of (cc := cX7_chooseWire) (maxL := 5) (rt := (some .int)) (by decide) rfl (Nat.le_of_ble_eq_true rfl) ?_
  intro p e s m below meth c A B ls hl
  obtain ⟨hx, hb, hml, hr, hlk, hin, hts, hown, hK, hN, hZ, hA, hP, hD, hS⟩ := B
  replace hown : s.vm.findClass RX7 = some m.cls := hown
  have hto : ∀ w ∈ wo_q_chooseWire, w.before _ s = true := fun w h => hts w (List.mem_append_left _ h)
  replace hl : lv_has ls 5 [(0, .ref o_v), (1, .int p1), (2, .int p2)] := hl
  obtain ⟨H, hHe⟩ : ∃ H, H = s.heap := ⟨_, rfl⟩
  obtain ⟨locs, hle⟩ : ∃ l : List Loc, l = [] := ⟨_, rfl⟩
  replace hS : va_S A s.heap H locs := by rw [hHe, hle]; exact hS
  replace hP : va_P E.1 vwCl [(o_v, .inr (7, [.ref o_n, .ref o_k, .ref o_u, .ref o_i, .ref o_c, .int f_v_masks, .int f_v_start, .int f_v_end, .int f_v_skip, .ref a_v_onward, .ref a_v_keys, .int f_v_keyed])), (o_n, .inr (1, [.int f_n_cells, .ref a_n_kinds, .ref a_n_inputs, .ref a_n_tables, .ref a_n_sizes, .ref a_n_extras, .ref a_n_sources, .ref a_n_takers, .ref a_n_firstTaker, .ref a_n_order, .int f_n_ordered, .ref a_n_tally, .ref a_n_behind])), (a_n_firstTaker, aI E 51 g_n_firstTaker), (a_n_takers, aI E 200 g_n_takers), (o_u, .inr (3, [.int f_u_told, .ref a_u_periods, .ref a_u_froms, .ref a_u_throughs, .ref a_u_tos, .ref a_u_bits])), (a_u_bits, aI E 50 g_u_bits), (a_n_kinds, aI E 50 g_n_kinds), (a_v_onward, aI E 800 g_v_onward), (a_u_froms, aI E 4 g_u_froms), (a_u_tos, aI E 4 g_u_tos), (a_u_periods, aI E 4 g_u_periods)] H := by rw [hHe]; exact hP
  refine W_hl hHe hle ?_
  clear hHe hle
  refine lv_aload_n hx hb dX7_chooseWire_0 rfl (lv_at hl 0 rfl) ?_
  refine va_get (D := E.1) (ci := 7) (v := .ref o_n) (own := RX7) (C := RX7) (T := TX7) (N := 12) hx hb hts i_q_chooseWire_X7 hown hK hP 0 rfl rfl 0 (by decide) (hto (.fieldLink RX7 23 "TimingHouse$Tracer" "net" "LTimingHouse$Net;") (by decide +kernel)) (fun _ h9 => h9) rfl dX7_chooseWire_1 ?_
  refine va_getN (D := E.1) (ci := 1) (v := .ref a_n_firstTaker) (own := RX7) (ref := "TimingHouse$Net") (host := "TimingHouse") (C := RX1) (T := TX1) (N := 13) hx hb hts i_q_chooseWire_X1 hown hK hP 1 rfl rfl 8 (by decide) (nw_F hN 19 rfl) (fun _ h9 => h9) rfl dX7_chooseWire_4 ?_
  refine lv_iload_n hx hb dX7_chooseWire_7 rfl (lv_at hl 1 rfl) ?_
  have b_p1 := r_p1.out
  refine ld_i hx hb hK hP 2 rfl (by omega) dX7_chooseWire_8 (fun x_1 ex_1 => ?_)
  have b_x_1 := AR.rd i_g_n_firstTaker ex_1 (by omega)
  refine lv_istore_n (lv' := [(3, .int x_1), (0, .ref o_v), (1, .int p1), (2, .int p2)]) hx hb dX7_chooseWire_9 rfl hl (by decide) rfl (fun ls hl => ?_)
  obtain ⟨y_2, hy_2⟩ : ∃ y : Int32, y = x_1 := ⟨_, rfl⟩
  have b_y_2 : 0 ≤ y_2.toInt ∧ y_2.toInt ≤ 200 := by rw [hy_2]; omega
  replace hl : lv_has ls 5 [(3, .int y_2), (0, .ref o_v), (1, .int p1), (2, .int p2)] := by rw [hy_2]; exact hl
  obtain ⟨y_3, hy_3⟩ : ∃ y : Int32, y = f_v_skip := ⟨_, rfl⟩
  replace hP : va_P E.1 vwCl [(o_v, .inr (7, [.ref o_n, .ref o_k, .ref o_u, .ref o_i, .ref o_c, .int f_v_masks, .int f_v_start, .int f_v_end, .int y_3, .ref a_v_onward, .ref a_v_keys, .int f_v_keyed])), (o_n, .inr (1, [.int f_n_cells, .ref a_n_kinds, .ref a_n_inputs, .ref a_n_tables, .ref a_n_sizes, .ref a_n_extras, .ref a_n_sources, .ref a_n_takers, .ref a_n_firstTaker, .ref a_n_order, .int f_n_ordered, .ref a_n_tally, .ref a_n_behind])), (a_n_firstTaker, aI E 51 g_n_firstTaker), (a_n_takers, aI E 200 g_n_takers), (o_u, .inr (3, [.int f_u_told, .ref a_u_periods, .ref a_u_froms, .ref a_u_throughs, .ref a_u_tos, .ref a_u_bits])), (a_u_bits, aI E 50 g_u_bits), (a_n_kinds, aI E 50 g_n_kinds), (a_v_onward, aI E 800 g_v_onward), (a_u_froms, aI E 4 g_u_froms), (a_u_tos, aI E 4 g_u_tos), (a_u_periods, aI E 4 g_u_periods)] H := by rw [hy_3]; exact hP
  replace hD : va_D A [(o_v, .inr (7, [.ref o_n, .ref o_k, .ref o_u, .ref o_i, .ref o_c, .int f_v_masks, .int f_v_start, .int f_v_end, .int y_3, .ref a_v_onward, .ref a_v_keys, .int f_v_keyed])), (o_n, .inr (1, [.int f_n_cells, .ref a_n_kinds, .ref a_n_inputs, .ref a_n_tables, .ref a_n_sizes, .ref a_n_extras, .ref a_n_sources, .ref a_n_takers, .ref a_n_firstTaker, .ref a_n_order, .int f_n_ordered, .ref a_n_tally, .ref a_n_behind])), (a_n_firstTaker, aI E 51 g_n_firstTaker), (a_n_takers, aI E 200 g_n_takers), (o_u, .inr (3, [.int f_u_told, .ref a_u_periods, .ref a_u_froms, .ref a_u_throughs, .ref a_u_tos, .ref a_u_bits])), (a_u_bits, aI E 50 g_u_bits), (a_n_kinds, aI E 50 g_n_kinds), (a_v_onward, aI E 800 g_v_onward), (a_u_froms, aI E 4 g_u_froms), (a_u_tos, aI E 4 g_u_tos), (a_u_periods, aI E 4 g_u_periods)] := by rw [hy_3]; exact hD
  clear hy_2 hy_3
  obtain ⟨d_4, hd_4⟩ : ∃ d : Nat, 200 - y_2.toInt < (d : Int) := ⟨(200 - y_2.toInt + 1).toNat, by omega⟩
  induction d_4 generalizing y_2 y_3 H locs ls with
  | zero => exfalso; omega
  | succ d_4 ih_d_4 =>
    refine lv_iload_n hx hb dX7_chooseWire_10 rfl (lv_at hl 0 rfl) ?_
    refine lv_aload_n hx hb dX7_chooseWire_11 rfl (lv_at hl 1 rfl) ?_
    refine va_get (D := E.1) (ci := 7) (v := .ref o_n) (own := RX7) (C := RX7) (T := TX7) (N := 12) hx hb hts i_q_chooseWire_X7 hown hK hP 0 rfl rfl 0 (by decide) (hto (.fieldLink RX7 23 "TimingHouse$Tracer" "net" "LTimingHouse$Net;") (by decide +kernel)) (fun _ h9 => h9) rfl dX7_chooseWire_12 ?_
    refine va_getN (D := E.1) (ci := 1) (v := .ref a_n_firstTaker) (own := RX7) (ref := "TimingHouse$Net") (host := "TimingHouse") (C := RX1) (T := TX1) (N := 13) hx hb hts i_q_chooseWire_X1 hown hK hP 1 rfl rfl 8 (by decide) (nw_F hN 19 rfl) (fun _ h9 => h9) rfl dX7_chooseWire_15 ?_
    refine lv_iload_n hx hb dX7_chooseWire_18 rfl (lv_at hl 2 rfl) ?_
    refine lv_iconst (v := 1) hx hb dX7_chooseWire_19 (by decide) ?_
    refine lv_iadd hx hb dX7_chooseWire_20 ?_
    refine lv_topi (fun x_5 ex_5 => ?_)
    have tx_5 : x_5.toInt = p1.toInt + 1 := i3_addc rfl rfl ex_5 (by omega)
    refine ld_i hx hb hK hP 2 rfl (by omega) dX7_chooseWire_21 (fun x_6 ex_6 => ?_)
    have b_x_6 := AR.rd i_g_n_firstTaker ex_6 (by omega)
    refine lv_icmp_ge (tgt := 77) hx hb dX7_chooseWire_22 (by decide) (fun c_7 => ?_) (fun c_7 => ?_)
    · have e_7 : x_6.toInt ≤ y_2.toInt := i3_le c_7
      refine lv_bipush (v := (-5)) hx hb dX7_chooseWire_77 (by decide) ?_
      exact ret_i hx hb hr hlk (hP.sub (ws' := [(o_v, .inr (7, [.ref o_n, .ref o_k, .ref o_u, .ref o_i, .ref o_c, .int f_v_masks, .int f_v_start, .int f_v_end, .int y_3, .ref a_v_onward, .ref a_v_keys, .int f_v_keyed])), (o_n, .inr (1, [.int f_n_cells, .ref a_n_kinds, .ref a_n_inputs, .ref a_n_tables, .ref a_n_sizes, .ref a_n_extras, .ref a_n_sources, .ref a_n_takers, .ref a_n_firstTaker, .ref a_n_order, .int f_n_ordered, .ref a_n_tally, .ref a_n_behind])), (a_n_firstTaker, aI E 51 g_n_firstTaker), (a_n_takers, aI E 200 g_n_takers), (o_u, .inr (3, [.int f_u_told, .ref a_u_periods, .ref a_u_froms, .ref a_u_throughs, .ref a_u_tos, .ref a_u_bits])), (a_u_bits, aI E 50 g_u_bits), (a_n_kinds, aI E 50 g_n_kinds), (a_v_onward, aI E 800 g_v_onward), (a_u_froms, aI E 4 g_u_froms), (a_u_tos, aI E 4 g_u_tos), (a_u_periods, aI E 4 g_u_periods)]) [0, 1, 2, 3, 4, 5, 6, 7, 8, 9, 10] rfl) (hD.sub (ws' := [(o_v, .inr (7, [.ref o_n, .ref o_k, .ref o_u, .ref o_i, .ref o_c, .int f_v_masks, .int f_v_start, .int f_v_end, .int y_3, .ref a_v_onward, .ref a_v_keys, .int f_v_keyed])), (o_n, .inr (1, [.int f_n_cells, .ref a_n_kinds, .ref a_n_inputs, .ref a_n_tables, .ref a_n_sizes, .ref a_n_extras, .ref a_n_sources, .ref a_n_takers, .ref a_n_firstTaker, .ref a_n_order, .int f_n_ordered, .ref a_n_tally, .ref a_n_behind])), (a_n_firstTaker, aI E 51 g_n_firstTaker), (a_n_takers, aI E 200 g_n_takers), (o_u, .inr (3, [.int f_u_told, .ref a_u_periods, .ref a_u_froms, .ref a_u_throughs, .ref a_u_tos, .ref a_u_bits])), (a_u_bits, aI E 50 g_u_bits), (a_n_kinds, aI E 50 g_n_kinds), (a_v_onward, aI E 800 g_v_onward), (a_u_froms, aI E 4 g_u_froms), (a_u_tos, aI E 4 g_u_tos), (a_u_periods, aI E 4 g_u_periods)]) [0, 1, 2, 3, 4, 5, 6, 7, 8, 9, 10] (by decide) rfl) hS rfl dX7_chooseWire_79 (Nat.le_of_ble_eq_true rfl) (Nat.le_of_ble_eq_true rfl) ⟨(by decide), y_3, rfl⟩
    · have e_7 : y_2.toInt < x_6.toInt := i3_nle c_7
      refine lv_aload_n hx hb dX7_chooseWire_25 rfl (lv_at hl 1 rfl) ?_
      refine lv_aload_n hx hb dX7_chooseWire_26 rfl (lv_at hl 1 rfl) ?_
      refine va_get (D := E.1) (ci := 7) (v := .ref o_n) (own := RX7) (C := RX7) (T := TX7) (N := 12) hx hb hts i_q_chooseWire_X7 hown hK hP 0 rfl rfl 0 (by decide) (hto (.fieldLink RX7 23 "TimingHouse$Tracer" "net" "LTimingHouse$Net;") (by decide +kernel)) (fun _ h9 => h9) rfl dX7_chooseWire_27 ?_
      refine va_getN (D := E.1) (ci := 1) (v := .ref a_n_takers) (own := RX7) (ref := "TimingHouse$Net") (host := "TimingHouse") (C := RX1) (T := TX1) (N := 13) hx hb hts i_q_chooseWire_X1 hown hK hP 1 rfl rfl 7 (by decide) (nw_F hN 18 rfl) (fun _ h9 => h9) rfl dX7_chooseWire_30 ?_
      refine lv_iload_n hx hb dX7_chooseWire_33 rfl (lv_at hl 0 rfl) ?_
      refine ld_i hx hb hK hP 3 rfl (by omega) dX7_chooseWire_34 (fun x_8 ex_8 => ?_)
      have b_x_8 := AR.rd i_g_n_takers ex_8 (by omega)
      refine lv_iload_n hx hb dX7_chooseWire_35 rfl (lv_at hl 3 rfl) ?_
      have b_p2 := r_p2.out
      refine call_i (va_runV (As := [.int x_8, .int p2]) (rest := []) ⟨hx, hb, hml, hown, hts⟩ (q_onwardBy l E o_v o_n o_k o_u o_i o_c a_v_onward a_v_keys a_u_periods a_u_froms a_u_throughs a_u_tos a_u_bits a_n_kinds a_n_inputs a_n_tables a_n_sizes a_n_extras a_n_sources a_n_takers a_n_firstTaker a_n_order a_n_tally a_n_behind f_v_masks f_v_start f_v_end y_3 f_v_keyed f_u_told f_n_cells f_n_ordered x_8 p2 g_u_bits g_n_kinds g_v_onward g_u_froms g_u_tos g_u_periods r_f_v_masks r_f_v_start r_f_v_end r_f_v_keyed r_f_u_told i_g_u_bits r_f_n_cells r_f_n_ordered i_g_n_kinds i_g_v_onward i_g_u_froms i_g_u_tos i_g_u_periods (RG.mk (by omega)) r_p2 H.size) (cwV 2 hts g_q_chooseWire_q_onwardBy_114 rfl rfl rfl (by decide +kernel) ⟨Nat.le_of_ble_eq_true rfl, Nat.le_of_ble_eq_true rfl⟩) (pre_V hK hN hZ hS (va_free hD hS hA [0, 4, 5, 1, 6, 7, 8, 9, 10] rfl) (hP.sub (ws' := [(o_v, .inr (7, [.ref o_n, .ref o_k, .ref o_u, .ref o_i, .ref o_c, .int f_v_masks, .int f_v_start, .int f_v_end, .int y_3, .ref a_v_onward, .ref a_v_keys, .int f_v_keyed])), (o_u, .inr (3, [.int f_u_told, .ref a_u_periods, .ref a_u_froms, .ref a_u_throughs, .ref a_u_tos, .ref a_u_bits])), (a_u_bits, aI E 50 g_u_bits), (o_n, .inr (1, [.int f_n_cells, .ref a_n_kinds, .ref a_n_inputs, .ref a_n_tables, .ref a_n_sizes, .ref a_n_extras, .ref a_n_sources, .ref a_n_takers, .ref a_n_firstTaker, .ref a_n_order, .int f_n_ordered, .ref a_n_tally, .ref a_n_behind])), (a_n_kinds, aI E 50 g_n_kinds), (a_v_onward, aI E 800 g_v_onward), (a_u_froms, aI E 4 g_u_froms), (a_u_tos, aI E 4 g_u_tos), (a_u_periods, aI E 4 g_u_periods)]) [0, 4, 5, 1, 6, 7, 8, 9, 10] rfl) (hD.sub (ws' := [(o_v, .inr (7, [.ref o_n, .ref o_k, .ref o_u, .ref o_i, .ref o_c, .int f_v_masks, .int f_v_start, .int f_v_end, .int y_3, .ref a_v_onward, .ref a_v_keys, .int f_v_keyed])), (o_u, .inr (3, [.int f_u_told, .ref a_u_periods, .ref a_u_froms, .ref a_u_throughs, .ref a_u_tos, .ref a_u_bits])), (a_u_bits, aI E 50 g_u_bits), (o_n, .inr (1, [.int f_n_cells, .ref a_n_kinds, .ref a_n_inputs, .ref a_n_tables, .ref a_n_sizes, .ref a_n_extras, .ref a_n_sources, .ref a_n_takers, .ref a_n_firstTaker, .ref a_n_order, .int f_n_ordered, .ref a_n_tally, .ref a_n_behind])), (a_n_kinds, aI E 50 g_n_kinds), (a_v_onward, aI E 800 g_v_onward), (a_u_froms, aI E 4 g_u_froms), (a_u_tos, aI E 4 g_u_tos), (a_u_periods, aI E 4 g_u_periods)]) [0, 4, 5, 1, 6, 7, 8, 9, 10] (by decide) rfl) (ci := 7) (q0 := 0) rfl rfl) rfl rfl hl.1 rfl (lv_room (Nat.le_of_ble_eq_true rfl)) dX7_chooseWire_36 ⟨Nat.le_of_ble_eq_true rfl, Nat.le_of_ble_eq_true rfl⟩) hP hD hS hA [0, 4, 5, 1, 6, 7, 8, 9, 10] [2, 3] (wr := [(a_n_firstTaker, aI E 51 g_n_firstTaker), (a_n_takers, aI E 200 g_n_takers)]) rfl rfl (by decide) (by decide) (fun r_9 w H locs hw hP hD hS => ?_)
      obtain ⟨b_r_9, rfl⟩ := hw
      replace hP : va_P E.1 vwCl [(a_n_firstTaker, aI E 51 g_n_firstTaker), (a_n_takers, aI E 200 g_n_takers), (o_v, .inr (7, [.ref o_n, .ref o_k, .ref o_u, .ref o_i, .ref o_c, .int f_v_masks, .int f_v_start, .int f_v_end, .int y_3, .ref a_v_onward, .ref a_v_keys, .int f_v_keyed])), (o_u, .inr (3, [.int f_u_told, .ref a_u_periods, .ref a_u_froms, .ref a_u_throughs, .ref a_u_tos, .ref a_u_bits])), (a_u_bits, aI E 50 g_u_bits), (o_n, .inr (1, [.int f_n_cells, .ref a_n_kinds, .ref a_n_inputs, .ref a_n_tables, .ref a_n_sizes, .ref a_n_extras, .ref a_n_sources, .ref a_n_takers, .ref a_n_firstTaker, .ref a_n_order, .int f_n_ordered, .ref a_n_tally, .ref a_n_behind])), (a_n_kinds, aI E 50 g_n_kinds), (a_v_onward, aI E 800 g_v_onward), (a_u_froms, aI E 4 g_u_froms), (a_u_tos, aI E 4 g_u_tos), (a_u_periods, aI E 4 g_u_periods)] H := hP
      replace hD : va_D A [(a_n_firstTaker, aI E 51 g_n_firstTaker), (a_n_takers, aI E 200 g_n_takers), (o_v, .inr (7, [.ref o_n, .ref o_k, .ref o_u, .ref o_i, .ref o_c, .int f_v_masks, .int f_v_start, .int f_v_end, .int y_3, .ref a_v_onward, .ref a_v_keys, .int f_v_keyed])), (o_u, .inr (3, [.int f_u_told, .ref a_u_periods, .ref a_u_froms, .ref a_u_throughs, .ref a_u_tos, .ref a_u_bits])), (a_u_bits, aI E 50 g_u_bits), (o_n, .inr (1, [.int f_n_cells, .ref a_n_kinds, .ref a_n_inputs, .ref a_n_tables, .ref a_n_sizes, .ref a_n_extras, .ref a_n_sources, .ref a_n_takers, .ref a_n_firstTaker, .ref a_n_order, .int f_n_ordered, .ref a_n_tally, .ref a_n_behind])), (a_n_kinds, aI E 50 g_n_kinds), (a_v_onward, aI E 800 g_v_onward), (a_u_froms, aI E 4 g_u_froms), (a_u_tos, aI E 4 g_u_tos), (a_u_periods, aI E 4 g_u_periods)] := hD
      refine lv_istore (lv' := [(4, .int r_9), (3, .int y_2), (0, .ref o_v), (1, .int p1), (2, .int p2)]) hx hb dX7_chooseWire_39 hl (by decide) rfl (fun ls hl => ?_)
      refine lv_aload_n hx hb dX7_chooseWire_41 rfl (lv_at hl 2 rfl) ?_
      refine va_get (D := E.1) (ci := 7) (v := .int y_3) (own := RX7) (C := RX7) (T := TX7) (N := 12) hx hb hts i_q_chooseWire_X7 hown hK hP 2 rfl rfl 8 (by decide) (hto (.fieldLink RX7 137 "TimingHouse$Tracer" "skip" "I") (by decide +kernel)) (fun _ h9 => h9) rfl dX7_chooseWire_42 ?_
      refine lv_iload hx hb dX7_chooseWire_45 (lv_at hl 0 rfl) ?_
      refine lv_icmp_ge (tgt := 60) hx hb dX7_chooseWire_47 (by decide) (fun c_10 => ?_) (fun c_10 => ?_)
      · have e_10 : r_9.toInt ≤ y_3.toInt := i3_le c_10
        refine lv_aload_n hx hb dX7_chooseWire_60 rfl (lv_at hl 2 rfl) ?_
        refine lv_dup hx hb dX7_chooseWire_61 rfl ?_
        refine va_get (D := E.1) (ci := 7) (v := .int y_3) (own := RX7) (C := RX7) (T := TX7) (N := 12) hx hb hts i_q_chooseWire_X7 hown hK hP 2 rfl rfl 8 (by decide) (hto (.fieldLink RX7 137 "TimingHouse$Tracer" "skip" "I") (by decide +kernel)) (fun _ h9 => h9) rfl dX7_chooseWire_62 ?_
        refine lv_iload hx hb dX7_chooseWire_65 (lv_at hl 0 rfl) ?_
        refine lv_isub hx hb dX7_chooseWire_67 ?_
        refine lv_topi (fun x_11 ex_11 => ?_)
        have bd_12 := i3_bd y_3
        have tx_11 : x_11.toInt = y_3.toInt - r_9.toInt := i3_subc rfl rfl ex_11 (by omega)
        refine va_put (D := E.1) (ci := 7) (v := .int x_11) (ty := .int) (own := RX7) (C := RX7) (T := TX7) (N := 12) hx hb hts i_q_chooseWire_X7 tyX7 tyX7_ok nmX7 hown hK hP hD hS 2 rfl rfl 8 (by decide) (hto (.fieldLink RX7 137 "TimingHouse$Tracer" "skip" "I") (by decide +kernel)) (fun _ h9 => h9) rfl (by decide +kernel) rfl rfl (Nat.le_of_ble_eq_true rfl) dX7_chooseWire_68 (fun H locs hP hD hS => ?_)
        replace hP : va_P E.1 vwCl [(a_n_firstTaker, aI E 51 g_n_firstTaker), (a_n_takers, aI E 200 g_n_takers), (o_v, .inr (7, [.ref o_n, .ref o_k, .ref o_u, .ref o_i, .ref o_c, .int f_v_masks, .int f_v_start, .int f_v_end, .int x_11, .ref a_v_onward, .ref a_v_keys, .int f_v_keyed])), (o_u, .inr (3, [.int f_u_told, .ref a_u_periods, .ref a_u_froms, .ref a_u_throughs, .ref a_u_tos, .ref a_u_bits])), (a_u_bits, aI E 50 g_u_bits), (o_n, .inr (1, [.int f_n_cells, .ref a_n_kinds, .ref a_n_inputs, .ref a_n_tables, .ref a_n_sizes, .ref a_n_extras, .ref a_n_sources, .ref a_n_takers, .ref a_n_firstTaker, .ref a_n_order, .int f_n_ordered, .ref a_n_tally, .ref a_n_behind])), (a_n_kinds, aI E 50 g_n_kinds), (a_v_onward, aI E 800 g_v_onward), (a_u_froms, aI E 4 g_u_froms), (a_u_tos, aI E 4 g_u_tos), (a_u_periods, aI E 4 g_u_periods)] H := hP
        replace hD : va_D A [(a_n_firstTaker, aI E 51 g_n_firstTaker), (a_n_takers, aI E 200 g_n_takers), (o_v, .inr (7, [.ref o_n, .ref o_k, .ref o_u, .ref o_i, .ref o_c, .int f_v_masks, .int f_v_start, .int f_v_end, .int x_11, .ref a_v_onward, .ref a_v_keys, .int f_v_keyed])), (o_u, .inr (3, [.int f_u_told, .ref a_u_periods, .ref a_u_froms, .ref a_u_throughs, .ref a_u_tos, .ref a_u_bits])), (a_u_bits, aI E 50 g_u_bits), (o_n, .inr (1, [.int f_n_cells, .ref a_n_kinds, .ref a_n_inputs, .ref a_n_tables, .ref a_n_sizes, .ref a_n_extras, .ref a_n_sources, .ref a_n_takers, .ref a_n_firstTaker, .ref a_n_order, .int f_n_ordered, .ref a_n_tally, .ref a_n_behind])), (a_n_kinds, aI E 50 g_n_kinds), (a_v_onward, aI E 800 g_v_onward), (a_u_froms, aI E 4 g_u_froms), (a_u_tos, aI E 4 g_u_tos), (a_u_periods, aI E 4 g_u_periods)] := hD
        obtain ⟨x_13, ex_13⟩ : ∃ y : Int32, y = y_2 + 1 := ⟨_, rfl⟩
        have tx_13 : x_13.toInt = y_2.toInt + 1 := i3_addc rfl rfl ex_13 (by omega)
        refine lv_iinc (v := x_13) (lv' := [(3, .int x_13), (4, .int r_9), (0, .ref o_v), (1, .int p1), (2, .int p2)]) hx hb dX7_chooseWire_71 hl (k := 1) rfl (by rw [ex_13]; rfl) (by decide) rfl (fun ls hl => ?_)
        refine lv_goto (tgt := 10) hx hb dX7_chooseWire_74 (by decide) ?_
        replace hP : va_P E.1 vwCl [(o_v, .inr (7, [.ref o_n, .ref o_k, .ref o_u, .ref o_i, .ref o_c, .int f_v_masks, .int f_v_start, .int f_v_end, .int x_11, .ref a_v_onward, .ref a_v_keys, .int f_v_keyed])), (o_n, .inr (1, [.int f_n_cells, .ref a_n_kinds, .ref a_n_inputs, .ref a_n_tables, .ref a_n_sizes, .ref a_n_extras, .ref a_n_sources, .ref a_n_takers, .ref a_n_firstTaker, .ref a_n_order, .int f_n_ordered, .ref a_n_tally, .ref a_n_behind])), (a_n_firstTaker, aI E 51 g_n_firstTaker), (a_n_takers, aI E 200 g_n_takers), (o_u, .inr (3, [.int f_u_told, .ref a_u_periods, .ref a_u_froms, .ref a_u_throughs, .ref a_u_tos, .ref a_u_bits])), (a_u_bits, aI E 50 g_u_bits), (a_n_kinds, aI E 50 g_n_kinds), (a_v_onward, aI E 800 g_v_onward), (a_u_froms, aI E 4 g_u_froms), (a_u_tos, aI E 4 g_u_tos), (a_u_periods, aI E 4 g_u_periods)] H := hP.sub [2, 5, 0, 1, 3, 4, 6, 7, 8, 9, 10] rfl
        replace hD : va_D A [(o_v, .inr (7, [.ref o_n, .ref o_k, .ref o_u, .ref o_i, .ref o_c, .int f_v_masks, .int f_v_start, .int f_v_end, .int x_11, .ref a_v_onward, .ref a_v_keys, .int f_v_keyed])), (o_n, .inr (1, [.int f_n_cells, .ref a_n_kinds, .ref a_n_inputs, .ref a_n_tables, .ref a_n_sizes, .ref a_n_extras, .ref a_n_sources, .ref a_n_takers, .ref a_n_firstTaker, .ref a_n_order, .int f_n_ordered, .ref a_n_tally, .ref a_n_behind])), (a_n_firstTaker, aI E 51 g_n_firstTaker), (a_n_takers, aI E 200 g_n_takers), (o_u, .inr (3, [.int f_u_told, .ref a_u_periods, .ref a_u_froms, .ref a_u_throughs, .ref a_u_tos, .ref a_u_bits])), (a_u_bits, aI E 50 g_u_bits), (a_n_kinds, aI E 50 g_n_kinds), (a_v_onward, aI E 800 g_v_onward), (a_u_froms, aI E 4 g_u_froms), (a_u_tos, aI E 4 g_u_tos), (a_u_periods, aI E 4 g_u_periods)] := hD.sub [2, 5, 0, 1, 3, 4, 6, 7, 8, 9, 10] (by decide) rfl
        replace hl : lv_has ls 5 [(3, .int x_13), (0, .ref o_v), (1, .int p1), (2, .int p2)] := lv_sub hl [0, 2, 3, 4] rfl
        apply ih_d_4 (y_2 := x_13) (y_3 := x_11) (H := H) (locs := locs) (ls := ls) <;> first | assumption | omega | decide
      · have e_10 : y_3.toInt < r_9.toInt := i3_nle c_10
        refine lv_aload_n hx hb dX7_chooseWire_50 rfl (lv_at hl 2 rfl) ?_
        refine va_get (D := E.1) (ci := 7) (v := .ref o_n) (own := RX7) (C := RX7) (T := TX7) (N := 12) hx hb hts i_q_chooseWire_X7 hown hK hP 2 rfl rfl 0 (by decide) (hto (.fieldLink RX7 23 "TimingHouse$Tracer" "net" "LTimingHouse$Net;") (by decide +kernel)) (fun _ h9 => h9) rfl dX7_chooseWire_51 ?_
        refine va_getN (D := E.1) (ci := 1) (v := .ref a_n_takers) (own := RX7) (ref := "TimingHouse$Net") (host := "TimingHouse") (C := RX1) (T := TX1) (N := 13) hx hb hts i_q_chooseWire_X1 hown hK hP 5 rfl rfl 7 (by decide) (nw_F hN 18 rfl) (fun _ h9 => h9) rfl dX7_chooseWire_54 ?_
        refine lv_iload_n hx hb dX7_chooseWire_57 rfl (lv_at hl 1 rfl) ?_
        refine ld_i hx hb hK hP 1 rfl (by omega) dX7_chooseWire_58 (fun x_14 ex_14 => ?_)
        have hq_x_14 : x_8 = x_14 := ex_8.trans ex_14.symm
        subst hq_x_14
        exact ret_i hx hb hr hlk (hP.sub (ws' := [(o_v, .inr (7, [.ref o_n, .ref o_k, .ref o_u, .ref o_i, .ref o_c, .int f_v_masks, .int f_v_start, .int f_v_end, .int y_3, .ref a_v_onward, .ref a_v_keys, .int f_v_keyed])), (o_n, .inr (1, [.int f_n_cells, .ref a_n_kinds, .ref a_n_inputs, .ref a_n_tables, .ref a_n_sizes, .ref a_n_extras, .ref a_n_sources, .ref a_n_takers, .ref a_n_firstTaker, .ref a_n_order, .int f_n_ordered, .ref a_n_tally, .ref a_n_behind])), (a_n_firstTaker, aI E 51 g_n_firstTaker), (a_n_takers, aI E 200 g_n_takers), (o_u, .inr (3, [.int f_u_told, .ref a_u_periods, .ref a_u_froms, .ref a_u_throughs, .ref a_u_tos, .ref a_u_bits])), (a_u_bits, aI E 50 g_u_bits), (a_n_kinds, aI E 50 g_n_kinds), (a_v_onward, aI E 800 g_v_onward), (a_u_froms, aI E 4 g_u_froms), (a_u_tos, aI E 4 g_u_tos), (a_u_periods, aI E 4 g_u_periods)]) [2, 5, 0, 1, 3, 4, 6, 7, 8, 9, 10] rfl) (hD.sub (ws' := [(o_v, .inr (7, [.ref o_n, .ref o_k, .ref o_u, .ref o_i, .ref o_c, .int f_v_masks, .int f_v_start, .int f_v_end, .int y_3, .ref a_v_onward, .ref a_v_keys, .int f_v_keyed])), (o_n, .inr (1, [.int f_n_cells, .ref a_n_kinds, .ref a_n_inputs, .ref a_n_tables, .ref a_n_sizes, .ref a_n_extras, .ref a_n_sources, .ref a_n_takers, .ref a_n_firstTaker, .ref a_n_order, .int f_n_ordered, .ref a_n_tally, .ref a_n_behind])), (a_n_firstTaker, aI E 51 g_n_firstTaker), (a_n_takers, aI E 200 g_n_takers), (o_u, .inr (3, [.int f_u_told, .ref a_u_periods, .ref a_u_froms, .ref a_u_throughs, .ref a_u_tos, .ref a_u_bits])), (a_u_bits, aI E 50 g_u_bits), (a_n_kinds, aI E 50 g_n_kinds), (a_v_onward, aI E 800 g_v_onward), (a_u_froms, aI E 4 g_u_froms), (a_u_tos, aI E 4 g_u_tos), (a_u_periods, aI E 4 g_u_periods)]) [2, 5, 0, 1, 3, 4, 6, 7, 8, 9, 10] (by decide) rfl) hS rfl dX7_chooseWire_59 (Nat.le_of_ble_eq_true rfl) (Nat.le_of_ble_eq_true rfl) ⟨(by omega), y_3, rfl⟩
theorem dX7_sortKeys_0 : decode cX7_sortKeys 0 = .ok (.getstatic 89, 3) := by decide +kernel
theorem dX7_sortKeys_3 : decode cX7_sortKeys 3 = .ok (.astore_n 1, 1) := by decide +kernel
theorem dX7_sortKeys_4 : decode cX7_sortKeys 4 = .ok (.aload_n 1, 1) := by decide +kernel
theorem dX7_sortKeys_5 : decode cX7_sortKeys 5 = .ok (.arraylength, 1) := by decide +kernel
theorem dX7_sortKeys_6 : decode cX7_sortKeys 6 = .ok (.istore_n 2, 1) := by decide +kernel
theorem dX7_sortKeys_7 : decode cX7_sortKeys 7 = .ok (.iconst 0, 1) := by decide +kernel
theorem dX7_sortKeys_8 : decode cX7_sortKeys 8 = .ok (.istore_n 3, 1) := by decide +kernel
theorem dX7_sortKeys_9 : decode cX7_sortKeys 9 = .ok (.iload_n 3, 1) := by decide +kernel
theorem dX7_sortKeys_10 : decode cX7_sortKeys 10 = .ok (.iload_n 2, 1) := by decide +kernel
theorem dX7_sortKeys_11 : decode cX7_sortKeys 11 = .ok (.if_icmp .ge 105, 3) := by decide +kernel
theorem dX7_sortKeys_116 : decode cX7_sortKeys 116 = .ok (.return_, 1) := by decide +kernel
theorem dX7_sortKeys_14 : decode cX7_sortKeys 14 = .ok (.aload_n 1, 1) := by decide +kernel
theorem dX7_sortKeys_15 : decode cX7_sortKeys 15 = .ok (.iload_n 3, 1) := by decide +kernel
theorem dX7_sortKeys_16 : decode cX7_sortKeys 16 = .ok (.iaload, 1) := by decide +kernel
theorem dX7_sortKeys_17 : decode cX7_sortKeys 17 = .ok (.istore 4, 2) := by decide +kernel
theorem dX7_sortKeys_19 : decode cX7_sortKeys 19 = .ok (.iload 4, 2) := by decide +kernel
theorem dX7_sortKeys_21 : decode cX7_sortKeys 21 = .ok (.istore 5, 2) := by decide +kernel
theorem dX7_sortKeys_23 : decode cX7_sortKeys 23 = .ok (.iload 5, 2) := by decide +kernel
theorem dX7_sortKeys_25 : decode cX7_sortKeys 25 = .ok (.aload_n 0, 1) := by decide +kernel
theorem dX7_sortKeys_26 : decode cX7_sortKeys 26 = .ok (.getfield 58, 3) := by decide +kernel
theorem dX7_sortKeys_29 : decode cX7_sortKeys 29 = .ok (.if_icmp .ge 81, 3) := by decide +kernel
theorem dX7_sortKeys_110 : decode cX7_sortKeys 110 = .ok (.iinc 3 1, 3) := by decide +kernel
theorem dX7_sortKeys_113 : decode cX7_sortKeys 113 = .ok (.goto (-104), 3) := by decide +kernel
theorem dX7_sortKeys_32 : decode cX7_sortKeys 32 = .ok (.aload_n 0, 1) := by decide +kernel
theorem dX7_sortKeys_33 : decode cX7_sortKeys 33 = .ok (.getfield 19, 3) := by decide +kernel
theorem dX7_sortKeys_36 : decode cX7_sortKeys 36 = .ok (.iload 5, 2) := by decide +kernel
theorem dX7_sortKeys_38 : decode cX7_sortKeys 38 = .ok (.laload, 1) := by decide +kernel
theorem dX7_sortKeys_39 : decode cX7_sortKeys 39 = .ok (.lstore 6, 2) := by decide +kernel
theorem dX7_sortKeys_41 : decode cX7_sortKeys 41 = .ok (.iload 5, 2) := by decide +kernel
theorem dX7_sortKeys_43 : decode cX7_sortKeys 43 = .ok (.istore 8, 2) := by decide +kernel
theorem dX7_sortKeys_45 : decode cX7_sortKeys 45 = .ok (.iload 8, 2) := by decide +kernel
theorem dX7_sortKeys_47 : decode cX7_sortKeys 47 = .ok (.iload 4, 2) := by decide +kernel
theorem dX7_sortKeys_49 : decode cX7_sortKeys 49 = .ok (.if_icmp .lt 46, 3) := by decide +kernel
theorem dX7_sortKeys_95 : decode cX7_sortKeys 95 = .ok (.aload_n 0, 1) := by decide +kernel
theorem dX7_sortKeys_96 : decode cX7_sortKeys 96 = .ok (.getfield 19, 3) := by decide +kernel
theorem dX7_sortKeys_99 : decode cX7_sortKeys 99 = .ok (.iload 8, 2) := by decide +kernel
theorem dX7_sortKeys_101 : decode cX7_sortKeys 101 = .ok (.lload 6, 2) := by decide +kernel
theorem dX7_sortKeys_103 : decode cX7_sortKeys 103 = .ok (.lastore, 1) := by decide +kernel
theorem dX7_sortKeys_104 : decode cX7_sortKeys 104 = .ok (.iinc 5 1, 3) := by decide +kernel
theorem dX7_sortKeys_107 : decode cX7_sortKeys 107 = .ok (.goto (-84), 3) := by decide +kernel
theorem dX7_sortKeys_52 : decode cX7_sortKeys 52 = .ok (.aload_n 0, 1) := by decide +kernel
theorem dX7_sortKeys_53 : decode cX7_sortKeys 53 = .ok (.getfield 19, 3) := by decide +kernel
theorem dX7_sortKeys_56 : decode cX7_sortKeys 56 = .ok (.iload 8, 2) := by decide +kernel
theorem dX7_sortKeys_58 : decode cX7_sortKeys 58 = .ok (.iload 4, 2) := by decide +kernel
theorem dX7_sortKeys_60 : decode cX7_sortKeys 60 = .ok (.isub, 1) := by decide +kernel
theorem dX7_sortKeys_61 : decode cX7_sortKeys 61 = .ok (.laload, 1) := by decide +kernel
theorem dX7_sortKeys_62 : decode cX7_sortKeys 62 = .ok (.lload 6, 2) := by decide +kernel
theorem dX7_sortKeys_64 : decode cX7_sortKeys 64 = .ok (.lcmp, 1) := by decide +kernel
theorem dX7_sortKeys_65 : decode cX7_sortKeys 65 = .ok (.ifCond .le 30, 3) := by decide +kernel
theorem dX7_sortKeys_68 : decode cX7_sortKeys 68 = .ok (.aload_n 0, 1) := by decide +kernel
theorem dX7_sortKeys_69 : decode cX7_sortKeys 69 = .ok (.getfield 19, 3) := by decide +kernel
theorem dX7_sortKeys_72 : decode cX7_sortKeys 72 = .ok (.iload 8, 2) := by decide +kernel
theorem dX7_sortKeys_74 : decode cX7_sortKeys 74 = .ok (.aload_n 0, 1) := by decide +kernel
theorem dX7_sortKeys_75 : decode cX7_sortKeys 75 = .ok (.getfield 19, 3) := by decide +kernel
theorem dX7_sortKeys_78 : decode cX7_sortKeys 78 = .ok (.iload 8, 2) := by decide +kernel
theorem dX7_sortKeys_80 : decode cX7_sortKeys 80 = .ok (.iload 4, 2) := by decide +kernel
theorem dX7_sortKeys_82 : decode cX7_sortKeys 82 = .ok (.isub, 1) := by decide +kernel
theorem dX7_sortKeys_83 : decode cX7_sortKeys 83 = .ok (.laload, 1) := by decide +kernel
theorem dX7_sortKeys_84 : decode cX7_sortKeys 84 = .ok (.lastore, 1) := by decide +kernel
theorem dX7_sortKeys_85 : decode cX7_sortKeys 85 = .ok (.iload 8, 2) := by decide +kernel
theorem dX7_sortKeys_87 : decode cX7_sortKeys 87 = .ok (.iload 4, 2) := by decide +kernel
theorem dX7_sortKeys_89 : decode cX7_sortKeys 89 = .ok (.isub, 1) := by decide +kernel
theorem dX7_sortKeys_90 : decode cX7_sortKeys 90 = .ok (.istore 8, 2) := by decide +kernel
theorem dX7_sortKeys_92 : decode cX7_sortKeys 92 = .ok (.goto (-47), 3) := by decide +kernel
def wo_q_sortKeys : List Cond := [.code yX7_sortKeys cX7_sortKeys 9 none, .fieldLink RX7 89 "TimingHouse$Tracer" "GAPS" "[I", .fieldLink RX7 58 "TimingHouse$Tracer" "keyed" "I", .fieldLink RX7 19 "TimingHouse$Tracer" "keys" "[J"]
def wr_q_sortKeys : List Cond := (wsX70 ++ ([]))
def w_q_sortKeys : List Cond := wo_q_sortKeys ++ wr_q_sortKeys
theorem wg_q_sortKeys : GW w_q_sortKeys := GW_app (GW_of (by decide +kernel)) (GW_app (GW_of (by decide +kernel)) (GW_nil))
theorem i_q_sortKeys_X7 : ∀ w ∈ wsX70, w ∈ w_q_sortKeys := fun _ h => List.mem_append_right _ (List.mem_append_left _ h)
set_option maxHeartbeats 8000000 in
set_option maxRecDepth 100000 in
theorem q_sortKeys (l : Launch) (E : gE) (o_v o_n o_k o_u o_i o_c a_v_onward a_v_keys : Nat) (f_v_masks f_v_start f_v_end f_v_skip f_v_keyed : Int32) (g_v_keys : Nat → Int64) (r_f_v_masks : RG f_v_masks 1 16) (r_f_v_start : RG f_v_start 0 49) (r_f_v_end : RG f_v_end 0 49) (r_f_v_keyed : RG f_v_keyed 0 1000) : CtV l E yX7_sortKeys w_q_sortKeys ({ frames := 0, cells := 0, slots := 0, locals := 0 }) [(o_v, .inr (7, [.ref o_n, .ref o_k, .ref o_u, .ref o_i, .ref o_c, .int f_v_masks, .int f_v_start, .int f_v_end, .int f_v_skip, .ref a_v_onward, .ref a_v_keys, .int f_v_keyed])), (a_v_keys, aJ E 1000 g_v_keys)] [.ref o_v] (fun w => ∃ ng_v_keys : Nat → Int64, w = [(o_v, .inr (7, [.ref o_n, .ref o_k, .ref o_u, .ref o_i, .ref o_c, .int f_v_masks, .int f_v_start, .int f_v_end, .int f_v_skip, .ref a_v_onward, .ref a_v_keys, .int f_v_keyed])), (a_v_keys, aJ E 1000 ng_v_keys)]) := by
  refine CtV.of (cc := cX7_sortKeys) (maxL := 9) (rt := none) (by decide) rfl (Nat.le_of_ble_eq_true rfl) ?_
  intro p e s m below meth c A B ls hl
  obtain ⟨hx, hb, hml, hr, hlk, hin, hts, hown, hK, hN, hZ, hA, hP, hD, hS⟩ := B
  replace hown : s.vm.findClass RX7 = some m.cls := hown
  have hto : ∀ w ∈ wo_q_sortKeys, w.before _ s = true := fun w h => hts w (List.mem_append_left _ h)
  replace hl : lv_has ls 9 [(0, .ref o_v)] := hl
  obtain ⟨H, hHe⟩ : ∃ H, H = s.heap := ⟨_, rfl⟩
  obtain ⟨locs, hle⟩ : ∃ l : List Loc, l = [] := ⟨_, rfl⟩
  replace hS : va_S A s.heap H locs := by rw [hHe, hle]; exact hS
  replace hP : va_P E.1 vwCl [(o_v, .inr (7, [.ref o_n, .ref o_k, .ref o_u, .ref o_i, .ref o_c, .int f_v_masks, .int f_v_start, .int f_v_end, .int f_v_skip, .ref a_v_onward, .ref a_v_keys, .int f_v_keyed])), (a_v_keys, aJ E 1000 g_v_keys)] H := by rw [hHe]; exact hP
  refine W_hl hHe hle ?_
  clear hHe hle
  refine va_gets (C := "TimingHouse$Tracer") (n := "GAPS") (d := "[I") (own := RX7) (ref := "TimingHouse$Tracer") hx hb hZ.2.2.1 hS hown (hto (.fieldLink RX7 89 "TimingHouse$Tracer" "GAPS" "[I") (by decide +kernel)) (fun _ h9 => h9) dX7_sortKeys_0 ?_
  refine lv_astore_n (lv' := [(1, .ref E.2.2.2.2.2.2), (0, .ref o_v)]) hx hb dX7_sortKeys_3 rfl hl (by decide) rfl (fun ls hl => ?_)
  refine lv_aload_n hx hb dX7_sortKeys_4 rfl (lv_at hl 0 rfl) ?_
  refine va_tlen (v := 8) hx hb hZ.2.2.2 hS rfl dX7_sortKeys_5 ?_
  refine lv_istore_n (lv' := [(2, .int 8), (1, .ref E.2.2.2.2.2.2), (0, .ref o_v)]) hx hb dX7_sortKeys_6 rfl hl (by decide) rfl (fun ls hl => ?_)
  refine lv_iconst (v := 0) hx hb dX7_sortKeys_7 (by decide) ?_
  refine lv_istore_n (lv' := [(3, .int 0), (2, .int 8), (1, .ref E.2.2.2.2.2.2), (0, .ref o_v)]) hx hb dX7_sortKeys_8 rfl hl (by decide) rfl (fun ls hl => ?_)
  obtain ⟨y_1, hy_1⟩ : ∃ y : Int32, y = 0 := ⟨_, rfl⟩
  have b_y_1 : 0 ≤ y_1.toInt ∧ y_1.toInt ≤ 8 := by rw [hy_1]; decide
  replace hl : lv_has ls 9 [(3, .int y_1), (2, .int 8), (1, .ref E.2.2.2.2.2.2), (0, .ref o_v)] := by rw [hy_1]; exact hl
  obtain ⟨y_2, hy_2⟩ : ∃ g : Nat → Int64, g = g_v_keys := ⟨_, rfl⟩
  replace hP : va_P E.1 vwCl [(o_v, .inr (7, [.ref o_n, .ref o_k, .ref o_u, .ref o_i, .ref o_c, .int f_v_masks, .int f_v_start, .int f_v_end, .int f_v_skip, .ref a_v_onward, .ref a_v_keys, .int f_v_keyed])), (a_v_keys, aJ E 1000 y_2)] H := by rw [hy_2]; exact hP
  replace hD : va_D A [(o_v, .inr (7, [.ref o_n, .ref o_k, .ref o_u, .ref o_i, .ref o_c, .int f_v_masks, .int f_v_start, .int f_v_end, .int f_v_skip, .ref a_v_onward, .ref a_v_keys, .int f_v_keyed])), (a_v_keys, aJ E 1000 y_2)] := by rw [hy_2]; exact hD
  clear hy_1 hy_2
  obtain ⟨d_3, hd_3⟩ : ∃ d : Nat, 8 - y_1.toInt < (d : Int) := ⟨(8 - y_1.toInt + 1).toNat, by omega⟩
  induction d_3 generalizing y_1 y_2 H locs ls with
  | zero => exfalso; omega
  | succ d_3 ih_d_3 =>
    refine lv_iload_n hx hb dX7_sortKeys_9 rfl (lv_at hl 0 rfl) ?_
    refine lv_iload_n hx hb dX7_sortKeys_10 rfl (lv_at hl 1 rfl) ?_
    refine lv_icmp_ge (tgt := 116) hx hb dX7_sortKeys_11 (by decide) (fun c_4 => ?_) (fun c_4 => ?_)
    · have e_4 : 8 ≤ y_1.toInt := i3_le c_4
      exact ret_v hx hb hr hlk (hP.sub (ws' := [(o_v, .inr (7, [.ref o_n, .ref o_k, .ref o_u, .ref o_i, .ref o_c, .int f_v_masks, .int f_v_start, .int f_v_end, .int f_v_skip, .ref a_v_onward, .ref a_v_keys, .int f_v_keyed])), (a_v_keys, aJ E 1000 y_2)]) [0, 1] rfl) (hD.sub (ws' := [(o_v, .inr (7, [.ref o_n, .ref o_k, .ref o_u, .ref o_i, .ref o_c, .int f_v_masks, .int f_v_start, .int f_v_end, .int f_v_skip, .ref a_v_onward, .ref a_v_keys, .int f_v_keyed])), (a_v_keys, aJ E 1000 y_2)]) [0, 1] (by decide) rfl) hS dX7_sortKeys_116 (Nat.le_of_ble_eq_true rfl) (Nat.le_of_ble_eq_true rfl) ⟨y_2, rfl⟩
    · have e_4 : y_1.toInt < 8 := i3_nle c_4
      refine lv_aload_n hx hb dX7_sortKeys_14 rfl (lv_at hl 2 rfl) ?_
      refine lv_iload_n hx hb dX7_sortKeys_15 rfl (lv_at hl 0 rfl) ?_
      refine va_ti (v := .int (lm_gaps.getD y_1.toNatClampNeg 0)) hx hb hZ.2.2.2 hS (i3_in (by omega)) rfl dX7_sortKeys_16 ?_
      refine lv_topi (fun x_5 ex_5 => ?_)
      have b_x_5 := AR.rd ar_lm_gaps ex_5 (by omega)
      refine lv_istore (lv' := [(4, .int x_5), (3, .int y_1), (2, .int 8), (1, .ref E.2.2.2.2.2.2), (0, .ref o_v)]) hx hb dX7_sortKeys_17 hl (by decide) rfl (fun ls hl => ?_)
      refine lv_iload hx hb dX7_sortKeys_19 (lv_at hl 0 rfl) ?_
      refine lv_istore (lv' := [(5, .int x_5), (4, .int x_5), (3, .int y_1), (2, .int 8), (1, .ref E.2.2.2.2.2.2), (0, .ref o_v)]) hx hb dX7_sortKeys_21 hl (by decide) rfl (fun ls hl => ?_)
      obtain ⟨y_6, hy_6⟩ : ∃ y : Int32, y = x_5 := ⟨_, rfl⟩
      have b_y_6 : 1 ≤ y_6.toInt ∧ y_6.toInt ≤ 1000 := by rw [hy_6]; omega
      replace hl : lv_has ls 9 [(5, .int y_6), (4, .int x_5), (3, .int y_1), (2, .int 8), (1, .ref E.2.2.2.2.2.2), (0, .ref o_v)] := by rw [hy_6]; exact hl
      obtain ⟨y_7, hy_7⟩ : ∃ g : Nat → Int64, g = y_2 := ⟨_, rfl⟩
      replace hP : va_P E.1 vwCl [(o_v, .inr (7, [.ref o_n, .ref o_k, .ref o_u, .ref o_i, .ref o_c, .int f_v_masks, .int f_v_start, .int f_v_end, .int f_v_skip, .ref a_v_onward, .ref a_v_keys, .int f_v_keyed])), (a_v_keys, aJ E 1000 y_7)] H := by rw [hy_7]; exact hP
      replace hD : va_D A [(o_v, .inr (7, [.ref o_n, .ref o_k, .ref o_u, .ref o_i, .ref o_c, .int f_v_masks, .int f_v_start, .int f_v_end, .int f_v_skip, .ref a_v_onward, .ref a_v_keys, .int f_v_keyed])), (a_v_keys, aJ E 1000 y_7)] := by rw [hy_7]; exact hD
      clear hy_6 hy_7
      obtain ⟨d_8, hd_8⟩ : ∃ d : Nat, 1000 - y_6.toInt < (d : Int) := ⟨(1000 - y_6.toInt + 1).toNat, by omega⟩
      induction d_8 generalizing y_6 y_7 H locs ls with
      | zero => exfalso; omega
      | succ d_8 ih_d_8 =>
        refine lv_iload hx hb dX7_sortKeys_23 (lv_at hl 0 rfl) ?_
        refine lv_aload_n hx hb dX7_sortKeys_25 rfl (lv_at hl 5 rfl) ?_
        refine va_get (D := E.1) (ci := 7) (v := .int f_v_keyed) (own := RX7) (C := RX7) (T := TX7) (N := 12) hx hb hts i_q_sortKeys_X7 hown hK hP 0 rfl rfl 11 (by decide) (hto (.fieldLink RX7 58 "TimingHouse$Tracer" "keyed" "I") (by decide +kernel)) (fun _ h9 => h9) rfl dX7_sortKeys_26 ?_
        have b_f_v_keyed := r_f_v_keyed.out
        refine lv_icmp_ge (tgt := 110) hx hb dX7_sortKeys_29 (by decide) (fun c_9 => ?_) (fun c_9 => ?_)
        · have e_9 : f_v_keyed.toInt ≤ y_6.toInt := i3_le c_9
          obtain ⟨x_10, ex_10⟩ : ∃ y : Int32, y = y_1 + 1 := ⟨_, rfl⟩
          have tx_10 : x_10.toInt = y_1.toInt + 1 := i3_addc rfl rfl ex_10 (by omega)
          refine lv_iinc (v := x_10) (lv' := [(3, .int x_10), (5, .int y_6), (4, .int x_5), (2, .int 8), (1, .ref E.2.2.2.2.2.2), (0, .ref o_v)]) hx hb dX7_sortKeys_110 hl (k := 2) rfl (by rw [ex_10]; rfl) (by decide) rfl (fun ls hl => ?_)
          refine lv_goto (tgt := 9) hx hb dX7_sortKeys_113 (by decide) ?_
          replace hl : lv_has ls 9 [(3, .int x_10), (2, .int 8), (1, .ref E.2.2.2.2.2.2), (0, .ref o_v)] := lv_sub hl [0, 3, 4, 5] rfl
          apply ih_d_3 (y_1 := x_10) (y_2 := y_7) (H := H) (locs := locs) (ls := ls) <;> first | assumption | omega | decide
        · have e_9 : y_6.toInt < f_v_keyed.toInt := i3_nle c_9
          refine lv_aload_n hx hb dX7_sortKeys_32 rfl (lv_at hl 5 rfl) ?_
          refine va_get (D := E.1) (ci := 7) (v := .ref a_v_keys) (own := RX7) (C := RX7) (T := TX7) (N := 12) hx hb hts i_q_sortKeys_X7 hown hK hP 0 rfl rfl 10 (by decide) (hto (.fieldLink RX7 19 "TimingHouse$Tracer" "keys" "[J") (by decide +kernel)) (fun _ h9 => h9) rfl dX7_sortKeys_33 ?_
          refine lv_iload hx hb dX7_sortKeys_36 (lv_at hl 0 rfl) ?_
          refine va_lald hx hb hK hP 1 1 rfl rfl (i3_in (by omega)) dX7_sortKeys_38 ?_
          refine lv_topl (fun k_11 ek_11 => ?_)
          refine lv_lstore (lv' := [(6, .long k_11), (5, .int y_6), (4, .int x_5), (3, .int y_1), (2, .int 8), (1, .ref E.2.2.2.2.2.2), (0, .ref o_v)]) hx hb dX7_sortKeys_39 hl (by decide) rfl (fun ls hl => ?_)
          refine lv_iload hx hb dX7_sortKeys_41 (lv_at hl 1 rfl) ?_
          refine lv_istore (lv' := [(8, .int y_6), (6, .long k_11), (5, .int y_6), (4, .int x_5), (3, .int y_1), (2, .int 8), (1, .ref E.2.2.2.2.2.2), (0, .ref o_v)]) hx hb dX7_sortKeys_43 hl (by decide) rfl (fun ls hl => ?_)
          obtain ⟨y_12, hy_12⟩ : ∃ y : Int32, y = y_6 := ⟨_, rfl⟩
          have b_y_12 : 0 ≤ y_12.toInt ∧ y_12.toInt ≤ 999 := by rw [hy_12]; omega
          replace hl : lv_has ls 9 [(8, .int y_12), (6, .long k_11), (5, .int y_6), (4, .int x_5), (3, .int y_1), (2, .int 8), (1, .ref E.2.2.2.2.2.2), (0, .ref o_v)] := by rw [hy_12]; exact hl
          obtain ⟨y_13, hy_13⟩ : ∃ g : Nat → Int64, g = y_7 := ⟨_, rfl⟩
          replace hP : va_P E.1 vwCl [(o_v, .inr (7, [.ref o_n, .ref o_k, .ref o_u, .ref o_i, .ref o_c, .int f_v_masks, .int f_v_start, .int f_v_end, .int f_v_skip, .ref a_v_onward, .ref a_v_keys, .int f_v_keyed])), (a_v_keys, aJ E 1000 y_13)] H := by rw [hy_13]; exact hP
          replace hD : va_D A [(o_v, .inr (7, [.ref o_n, .ref o_k, .ref o_u, .ref o_i, .ref o_c, .int f_v_masks, .int f_v_start, .int f_v_end, .int f_v_skip, .ref a_v_onward, .ref a_v_keys, .int f_v_keyed])), (a_v_keys, aJ E 1000 y_13)] := by rw [hy_13]; exact hD
          clear hy_12 hy_13
          obtain ⟨d_14, hd_14⟩ : ∃ d : Nat, y_12.toInt - 0 < (d : Int) := ⟨(y_12.toInt - 0 + 1).toNat, by omega⟩
          induction d_14 generalizing y_12 y_13 H locs ls with
          | zero => exfalso; omega
          | succ d_14 ih_d_14 =>
            refine lv_iload hx hb dX7_sortKeys_45 (lv_at hl 0 rfl) ?_
            refine lv_iload hx hb dX7_sortKeys_47 (lv_at hl 3 rfl) ?_
            refine lv_icmp_lt (tgt := 95) hx hb dX7_sortKeys_49 (by decide) (fun c_15 => ?_) (fun c_15 => ?_)
            · have e_15 : y_12.toInt < x_5.toInt := i3_lt c_15
              refine lv_aload_n hx hb dX7_sortKeys_95 rfl (lv_at hl 7 rfl) ?_
              refine va_get (D := E.1) (ci := 7) (v := .ref a_v_keys) (own := RX7) (C := RX7) (T := TX7) (N := 12) hx hb hts i_q_sortKeys_X7 hown hK hP 0 rfl rfl 10 (by decide) (hto (.fieldLink RX7 19 "TimingHouse$Tracer" "keys" "[J") (by decide +kernel)) (fun _ h9 => h9) rfl dX7_sortKeys_96 ?_
              refine lv_iload hx hb dX7_sortKeys_99 (lv_at hl 0 rfl) ?_
              refine lv_lload hx hb dX7_sortKeys_101 (lv_at hl 1 rfl) ?_
              refine st_j hx hb hK hP hD hS 1 rfl (by omega) dX7_sortKeys_103 (fun g_16 H locs eg_16 hP hD hS => ?_)
              clear eg_16
              replace hP : va_P E.1 vwCl [(o_v, .inr (7, [.ref o_n, .ref o_k, .ref o_u, .ref o_i, .ref o_c, .int f_v_masks, .int f_v_start, .int f_v_end, .int f_v_skip, .ref a_v_onward, .ref a_v_keys, .int f_v_keyed])), (a_v_keys, aJ E 1000 g_16)] H := hP
              replace hD : va_D A [(o_v, .inr (7, [.ref o_n, .ref o_k, .ref o_u, .ref o_i, .ref o_c, .int f_v_masks, .int f_v_start, .int f_v_end, .int f_v_skip, .ref a_v_onward, .ref a_v_keys, .int f_v_keyed])), (a_v_keys, aJ E 1000 g_16)] := hD
              obtain ⟨x_17, ex_17⟩ : ∃ y : Int32, y = y_6 + 1 := ⟨_, rfl⟩
              have tx_17 : x_17.toInt = y_6.toInt + 1 := i3_addc rfl rfl ex_17 (by omega)
              refine lv_iinc (v := x_17) (lv' := [(5, .int x_17), (8, .int y_12), (6, .long k_11), (4, .int x_5), (3, .int y_1), (2, .int 8), (1, .ref E.2.2.2.2.2.2), (0, .ref o_v)]) hx hb dX7_sortKeys_104 hl (k := 2) rfl (by rw [ex_17]; rfl) (by decide) rfl (fun ls hl => ?_)
              refine lv_goto (tgt := 23) hx hb dX7_sortKeys_107 (by decide) ?_
              replace hl : lv_has ls 9 [(5, .int x_17), (4, .int x_5), (3, .int y_1), (2, .int 8), (1, .ref E.2.2.2.2.2.2), (0, .ref o_v)] := lv_sub hl [0, 3, 4, 5, 6, 7] rfl
              apply ih_d_8 (y_6 := x_17) (y_7 := g_16) (H := H) (locs := locs) (ls := ls) <;> first | assumption | omega | decide
            · have e_15 : x_5.toInt ≤ y_12.toInt := i3_nlt c_15
              refine lv_aload_n hx hb dX7_sortKeys_52 rfl (lv_at hl 7 rfl) ?_
              refine va_get (D := E.1) (ci := 7) (v := .ref a_v_keys) (own := RX7) (C := RX7) (T := TX7) (N := 12) hx hb hts i_q_sortKeys_X7 hown hK hP 0 rfl rfl 10 (by decide) (hto (.fieldLink RX7 19 "TimingHouse$Tracer" "keys" "[J") (by decide +kernel)) (fun _ h9 => h9) rfl dX7_sortKeys_53 ?_
              refine lv_iload hx hb dX7_sortKeys_56 (lv_at hl 0 rfl) ?_
              refine lv_iload hx hb dX7_sortKeys_58 (lv_at hl 3 rfl) ?_
              refine lv_isub hx hb dX7_sortKeys_60 ?_
              refine lv_topi (fun x_18 ex_18 => ?_)
              have tx_18 : x_18.toInt = y_12.toInt - x_5.toInt := i3_subc rfl rfl ex_18 (by omega)
              refine va_lald hx hb hK hP 1 1 rfl rfl (i3_in (by omega)) dX7_sortKeys_61 ?_
              refine lv_topl (fun k_19 ek_19 => ?_)
              refine lv_lload hx hb dX7_sortKeys_62 (lv_at hl 1 rfl) ?_
              refine W.lcmp hx hb dX7_sortKeys_64 ?_
              refine lv_topi (fun x_20 ex_20 => ?_)
              refine lv_if_le (tgt := 95) hx hb dX7_sortKeys_65 (by decide) (fun c_21 => ?_) (fun c_21 => ?_)
              · have e_21 : x_20.toInt ≤ 0 := i3_le c_21
                refine lv_aload_n hx hb dX7_sortKeys_95 rfl (lv_at hl 7 rfl) ?_
                refine va_get (D := E.1) (ci := 7) (v := .ref a_v_keys) (own := RX7) (C := RX7) (T := TX7) (N := 12) hx hb hts i_q_sortKeys_X7 hown hK hP 0 rfl rfl 10 (by decide) (hto (.fieldLink RX7 19 "TimingHouse$Tracer" "keys" "[J") (by decide +kernel)) (fun _ h9 => h9) rfl dX7_sortKeys_96 ?_
                refine lv_iload hx hb dX7_sortKeys_99 (lv_at hl 0 rfl) ?_
                refine lv_lload hx hb dX7_sortKeys_101 (lv_at hl 1 rfl) ?_
                refine st_j hx hb hK hP hD hS 1 rfl (by omega) dX7_sortKeys_103 (fun g_22 H locs eg_22 hP hD hS => ?_)
                clear eg_22
                replace hP : va_P E.1 vwCl [(o_v, .inr (7, [.ref o_n, .ref o_k, .ref o_u, .ref o_i, .ref o_c, .int f_v_masks, .int f_v_start, .int f_v_end, .int f_v_skip, .ref a_v_onward, .ref a_v_keys, .int f_v_keyed])), (a_v_keys, aJ E 1000 g_22)] H := hP
                replace hD : va_D A [(o_v, .inr (7, [.ref o_n, .ref o_k, .ref o_u, .ref o_i, .ref o_c, .int f_v_masks, .int f_v_start, .int f_v_end, .int f_v_skip, .ref a_v_onward, .ref a_v_keys, .int f_v_keyed])), (a_v_keys, aJ E 1000 g_22)] := hD
                obtain ⟨x_23, ex_23⟩ : ∃ y : Int32, y = y_6 + 1 := ⟨_, rfl⟩
                have tx_23 : x_23.toInt = y_6.toInt + 1 := i3_addc rfl rfl ex_23 (by omega)
                refine lv_iinc (v := x_23) (lv' := [(5, .int x_23), (8, .int y_12), (6, .long k_11), (4, .int x_5), (3, .int y_1), (2, .int 8), (1, .ref E.2.2.2.2.2.2), (0, .ref o_v)]) hx hb dX7_sortKeys_104 hl (k := 2) rfl (by rw [ex_23]; rfl) (by decide) rfl (fun ls hl => ?_)
                refine lv_goto (tgt := 23) hx hb dX7_sortKeys_107 (by decide) ?_
                replace hl : lv_has ls 9 [(5, .int x_23), (4, .int x_5), (3, .int y_1), (2, .int 8), (1, .ref E.2.2.2.2.2.2), (0, .ref o_v)] := lv_sub hl [0, 3, 4, 5, 6, 7] rfl
                apply ih_d_8 (y_6 := x_23) (y_7 := g_22) (H := H) (locs := locs) (ls := ls) <;> first | assumption | omega | decide
              · have e_21 : 0 < x_20.toInt := i3_nle c_21
                refine lv_aload_n hx hb dX7_sortKeys_68 rfl (lv_at hl 7 rfl) ?_
                refine va_get (D := E.1) (ci := 7) (v := .ref a_v_keys) (own := RX7) (C := RX7) (T := TX7) (N := 12) hx hb hts i_q_sortKeys_X7 hown hK hP 0 rfl rfl 10 (by decide) (hto (.fieldLink RX7 19 "TimingHouse$Tracer" "keys" "[J") (by decide +kernel)) (fun _ h9 => h9) rfl dX7_sortKeys_69 ?_
                refine lv_iload hx hb dX7_sortKeys_72 (lv_at hl 0 rfl) ?_
                refine lv_aload_n hx hb dX7_sortKeys_74 rfl (lv_at hl 7 rfl) ?_
                refine va_get (D := E.1) (ci := 7) (v := .ref a_v_keys) (own := RX7) (C := RX7) (T := TX7) (N := 12) hx hb hts i_q_sortKeys_X7 hown hK hP 0 rfl rfl 10 (by decide) (hto (.fieldLink RX7 19 "TimingHouse$Tracer" "keys" "[J") (by decide +kernel)) (fun _ h9 => h9) rfl dX7_sortKeys_75 ?_
                refine lv_iload hx hb dX7_sortKeys_78 (lv_at hl 0 rfl) ?_
                refine lv_iload hx hb dX7_sortKeys_80 (lv_at hl 3 rfl) ?_
                refine lv_isub hx hb dX7_sortKeys_82 ?_
                refine lv_topi (fun x_24 ex_24 => ?_)
                have hq_x_24 : x_18 = x_24 := ex_18.trans ex_24.symm
                subst hq_x_24
                refine va_lald hx hb hK hP 1 1 rfl rfl (i3_in (by omega)) dX7_sortKeys_83 ?_
                refine lv_topl (fun k_25 ek_25 => ?_)
                refine st_j hx hb hK hP hD hS 1 rfl (by omega) dX7_sortKeys_84 (fun g_26 H locs eg_26 hP hD hS => ?_)
                clear eg_26
                replace hP : va_P E.1 vwCl [(o_v, .inr (7, [.ref o_n, .ref o_k, .ref o_u, .ref o_i, .ref o_c, .int f_v_masks, .int f_v_start, .int f_v_end, .int f_v_skip, .ref a_v_onward, .ref a_v_keys, .int f_v_keyed])), (a_v_keys, aJ E 1000 g_26)] H := hP
                replace hD : va_D A [(o_v, .inr (7, [.ref o_n, .ref o_k, .ref o_u, .ref o_i, .ref o_c, .int f_v_masks, .int f_v_start, .int f_v_end, .int f_v_skip, .ref a_v_onward, .ref a_v_keys, .int f_v_keyed])), (a_v_keys, aJ E 1000 g_26)] := hD
                refine lv_iload hx hb dX7_sortKeys_85 (lv_at hl 0 rfl) ?_
                refine lv_iload hx hb dX7_sortKeys_87 (lv_at hl 3 rfl) ?_
                refine lv_isub hx hb dX7_sortKeys_89 ?_
                refine lv_topi (fun x_27 ex_27 => ?_)
                have hq_x_27 : x_18 = x_27 := ex_18.trans ex_27.symm
                subst hq_x_27
                refine lv_istore (lv' := [(8, .int x_18), (6, .long k_11), (5, .int y_6), (4, .int x_5), (3, .int y_1), (2, .int 8), (1, .ref E.2.2.2.2.2.2), (0, .ref o_v)]) hx hb dX7_sortKeys_90 hl (by decide) rfl (fun ls hl => ?_)
                refine lv_goto (tgt := 45) hx hb dX7_sortKeys_92 (by decide) ?_
                apply ih_d_14 (y_12 := x_18) (y_13 := g_26) (H := H) (locs := locs) (ls := ls) <;> first | assumption | omega | decide
