/-- an array of a range, each number under its own place -/
def AD (f : Nat → Int32) (n : Nat) (lo hi : Int) : Prop := AR f n lo hi ∧ ∀ j, j < n → (f j).toInt < (j : Int)
theorem AD.rd {f : Nat → Int32} {n : Nat} {lo hi : Int} (h : AD f n lo hi) {x i : Int32} (e : x = f i.toNatClampNeg) (hq : 0 ≤ i.toInt ∧ i.toInt < (n : Int)) : lo ≤ x.toInt ∧ x.toInt ≤ hi := AR.rd h.1 e hq
theorem AD.dec {f : Nat → Int32} {n : Nat} {lo hi : Int} (h : AD f n lo hi) {x i : Int32} (e : x = f i.toNatClampNeg) (hq : 0 ≤ i.toInt ∧ i.toInt < (n : Int)) : x.toInt < i.toInt := by
  have h1 := i3_nat hq.1
  have h2 := h.2 i.toNatClampNeg (by omega)
  rw [e]; omega
theorem AD.up {f : Nat → Int32} {n : Nat} {lo hi : Int} (h : AD f n lo hi) {x i : Int32} (hx : lo ≤ x.toInt ∧ x.toInt ≤ hi) (hd : 0 ≤ i.toInt ∧ x.toInt < i.toInt) : AD (upd f i.toNatClampNeg x) n lo hi := by
  refine ⟨AR.up h.1 hx, fun j hj => ?_⟩
  have h1 := i3_nat hd.1
  unfold upd
  by_cases e : j = i.toNatClampNeg
  · rw [if_pos e]; omega
  · rw [if_neg e]; exact h.2 j hj
theorem dX10_isRow_0 : decode cX10_isRow 0 = .ok (.iload_n 0, 1) := by decide +kernel
theorem dX10_isRow_1 : decode cX10_isRow 1 = .ok (.ifCond .lt 31, 3) := by decide +kernel
theorem dX10_isRow_32 : decode cX10_isRow 32 = .ok (.iconst 0, 1) := by decide +kernel
theorem dX10_isRow_33 : decode cX10_isRow 33 = .ok (.ireturn, 1) := by decide +kernel
theorem dX10_isRow_4 : decode cX10_isRow 4 = .ok (.iload_n 0, 1) := by decide +kernel
theorem dX10_isRow_5 : decode cX10_isRow 5 = .ok (.bipush 8, 2) := by decide +kernel
theorem dX10_isRow_7 : decode cX10_isRow 7 = .ok (.if_icmp .ge 25, 3) := by decide +kernel
theorem dX10_isRow_10 : decode cX10_isRow 10 = .ok (.iload_n 1, 1) := by decide +kernel
theorem dX10_isRow_11 : decode cX10_isRow 11 = .ok (.ifCond .lt 21, 3) := by decide +kernel
theorem dX10_isRow_14 : decode cX10_isRow 14 = .ok (.iload_n 1, 1) := by decide +kernel
theorem dX10_isRow_15 : decode cX10_isRow 15 = .ok (.iconst 2, 1) := by decide +kernel
theorem dX10_isRow_16 : decode cX10_isRow 16 = .ok (.if_icmp .ge 16, 3) := by decide +kernel
theorem dX10_isRow_19 : decode cX10_isRow 19 = .ok (.iload_n 2, 1) := by decide +kernel
theorem dX10_isRow_20 : decode cX10_isRow 20 = .ok (.ifCond .lt 12, 3) := by decide +kernel
theorem dX10_isRow_23 : decode cX10_isRow 23 = .ok (.iload_n 2, 1) := by decide +kernel
theorem dX10_isRow_24 : decode cX10_isRow 24 = .ok (.iconst 4, 1) := by decide +kernel
theorem dX10_isRow_25 : decode cX10_isRow 25 = .ok (.if_icmp .ge 7, 3) := by decide +kernel
theorem dX10_isRow_28 : decode cX10_isRow 28 = .ok (.iconst 1, 1) := by decide +kernel
theorem dX10_isRow_29 : decode cX10_isRow 29 = .ok (.goto 4, 3) := by decide +kernel
def wo_m_isRow : List Cond := [.code yX10_isRow cX10_isRow 3 (some .boolean)]
def wr_m_isRow : List Cond := []
def w_m_isRow : List Cond := wo_m_isRow ++ wr_m_isRow
theorem wg_m_isRow : GW w_m_isRow := GW_app (GW_of (by decide +kernel)) (GW_nil)
set_option maxHeartbeats 8000000 in
set_option maxRecDepth 100000 in
theorem m_isRow (l : Launch) (E : gE) (t pt rw : Int32) : CtI l E yX10_isRow w_m_isRow ({ frames := 0, cells := 0, slots := 0, locals := 0 }) [] [.int t, .int pt, .int rw] (fun r w => (0 ≤ r.toInt ∧ r.toInt ≤ 1) ∧ (r.toInt ≠ 0 → 0 ≤ t.toInt ∧ t.toInt ≤ 7 ∧ 0 ≤ pt.toInt ∧ pt.toInt ≤ 1 ∧ 0 ≤ rw.toInt ∧ rw.toInt ≤ 3) ∧ w = []) := by
  refine CtI.of (cc := cX10_isRow) (maxL := 3) (rt := (some .boolean)) (by decide) rfl (Nat.le_of_ble_eq_true rfl) ?_
  intro p e s m below meth c A B ls hl
  obtain ⟨hx, hb, hml, hr, hlk, hin, hts, hown, hK, hN, hZ, hA, hP, hD, hS⟩ := B
  replace hown : s.vm.findClass RX10 = some m.cls := hown
  have hto : ∀ w ∈ wo_m_isRow, w.before _ s = true := fun w h => hts w (List.mem_append_left _ h)
  replace hl : lv_has ls 3 [(0, .int t), (1, .int pt), (2, .int rw)] := hl
  obtain ⟨H, hHe⟩ : ∃ H, H = s.heap := ⟨_, rfl⟩
  obtain ⟨locs, hle⟩ : ∃ l : List Loc, l = [] := ⟨_, rfl⟩
  replace hS : va_S A s.heap H locs := by rw [hHe, hle]; exact hS
  replace hP : va_P E.1 vwCl [] H := by rw [hHe]; exact hP
  refine W_hl hHe hle ?_
  clear hHe hle
  refine lv_iload_n hx hb dX10_isRow_0 rfl (lv_at hl 0 rfl) ?_
  refine lv_if_lt (tgt := 32) hx hb dX10_isRow_1 (by decide) (fun c_1 => ?_) (fun c_1 => ?_)
  · have e_1 : t.toInt < 0 := i3_lt c_1
    refine lv_iconst (v := 0) hx hb dX10_isRow_32 (by decide) ?_
    exact ret_i hx hb hr hlk (hP.sub (ws' := []) [] rfl) (hD.sub (ws' := []) [] (by decide) rfl) hS rfl dX10_isRow_33 (Nat.le_of_ble_eq_true rfl) (Nat.le_of_ble_eq_true rfl) ⟨(by decide), (by have e9 : (0 : Int32).toInt = 0 := rfl; omega), rfl⟩
  · have e_1 : 0 ≤ t.toInt := i3_nlt c_1
    refine lv_iload_n hx hb dX10_isRow_4 rfl (lv_at hl 0 rfl) ?_
    refine lv_bipush (v := 8) hx hb dX10_isRow_5 (by decide) ?_
    refine lv_icmp_ge (tgt := 32) hx hb dX10_isRow_7 (by decide) (fun c_2 => ?_) (fun c_2 => ?_)
    · have e_2 : 8 ≤ t.toInt := i3_le c_2
      refine lv_iconst (v := 0) hx hb dX10_isRow_32 (by decide) ?_
      exact ret_i hx hb hr hlk (hP.sub (ws' := []) [] rfl) (hD.sub (ws' := []) [] (by decide) rfl) hS rfl dX10_isRow_33 (Nat.le_of_ble_eq_true rfl) (Nat.le_of_ble_eq_true rfl) ⟨(by decide), (by have e9 : (0 : Int32).toInt = 0 := rfl; omega), rfl⟩
    · have e_2 : t.toInt < 8 := i3_nle c_2
      refine lv_iload_n hx hb dX10_isRow_10 rfl (lv_at hl 1 rfl) ?_
      refine lv_if_lt (tgt := 32) hx hb dX10_isRow_11 (by decide) (fun c_3 => ?_) (fun c_3 => ?_)
      · have e_3 : pt.toInt < 0 := i3_lt c_3
        refine lv_iconst (v := 0) hx hb dX10_isRow_32 (by decide) ?_
        exact ret_i hx hb hr hlk (hP.sub (ws' := []) [] rfl) (hD.sub (ws' := []) [] (by decide) rfl) hS rfl dX10_isRow_33 (Nat.le_of_ble_eq_true rfl) (Nat.le_of_ble_eq_true rfl) ⟨(by decide), (by have e9 : (0 : Int32).toInt = 0 := rfl; omega), rfl⟩
      · have e_3 : 0 ≤ pt.toInt := i3_nlt c_3
        refine lv_iload_n hx hb dX10_isRow_14 rfl (lv_at hl 1 rfl) ?_
        refine lv_iconst (v := 2) hx hb dX10_isRow_15 (by decide) ?_
        refine lv_icmp_ge (tgt := 32) hx hb dX10_isRow_16 (by decide) (fun c_4 => ?_) (fun c_4 => ?_)
        · have e_4 : 2 ≤ pt.toInt := i3_le c_4
          refine lv_iconst (v := 0) hx hb dX10_isRow_32 (by decide) ?_
          exact ret_i hx hb hr hlk (hP.sub (ws' := []) [] rfl) (hD.sub (ws' := []) [] (by decide) rfl) hS rfl dX10_isRow_33 (Nat.le_of_ble_eq_true rfl) (Nat.le_of_ble_eq_true rfl) ⟨(by decide), (by have e9 : (0 : Int32).toInt = 0 := rfl; omega), rfl⟩
        · have e_4 : pt.toInt < 2 := i3_nle c_4
          refine lv_iload_n hx hb dX10_isRow_19 rfl (lv_at hl 2 rfl) ?_
          refine lv_if_lt (tgt := 32) hx hb dX10_isRow_20 (by decide) (fun c_5 => ?_) (fun c_5 => ?_)
          · have e_5 : rw.toInt < 0 := i3_lt c_5
            refine lv_iconst (v := 0) hx hb dX10_isRow_32 (by decide) ?_
            exact ret_i hx hb hr hlk (hP.sub (ws' := []) [] rfl) (hD.sub (ws' := []) [] (by decide) rfl) hS rfl dX10_isRow_33 (Nat.le_of_ble_eq_true rfl) (Nat.le_of_ble_eq_true rfl) ⟨(by decide), (by have e9 : (0 : Int32).toInt = 0 := rfl; omega), rfl⟩
          · have e_5 : 0 ≤ rw.toInt := i3_nlt c_5
            refine lv_iload_n hx hb dX10_isRow_23 rfl (lv_at hl 2 rfl) ?_
            refine lv_iconst (v := 4) hx hb dX10_isRow_24 (by decide) ?_
            refine lv_icmp_ge (tgt := 32) hx hb dX10_isRow_25 (by decide) (fun c_6 => ?_) (fun c_6 => ?_)
            · have e_6 : 4 ≤ rw.toInt := i3_le c_6
              refine lv_iconst (v := 0) hx hb dX10_isRow_32 (by decide) ?_
              exact ret_i hx hb hr hlk (hP.sub (ws' := []) [] rfl) (hD.sub (ws' := []) [] (by decide) rfl) hS rfl dX10_isRow_33 (Nat.le_of_ble_eq_true rfl) (Nat.le_of_ble_eq_true rfl) ⟨(by decide), (by have e9 : (0 : Int32).toInt = 0 := rfl; omega), rfl⟩
            · have e_6 : rw.toInt < 4 := i3_nle c_6
              refine lv_iconst (v := 1) hx hb dX10_isRow_28 (by decide) ?_
              refine lv_goto (tgt := 33) hx hb dX10_isRow_29 (by decide) ?_
              exact ret_i hx hb hr hlk (hP.sub (ws' := []) [] rfl) (hD.sub (ws' := []) [] (by decide) rfl) hS rfl dX10_isRow_33 (Nat.le_of_ble_eq_true rfl) (Nat.le_of_ble_eq_true rfl) ⟨(by decide), (by have e9 : (1 : Int32).toInt = 1 := rfl; omega), rfl⟩
theorem dX10_isCell_0 : decode cX10_isCell 0 = .ok (.iload_n 1, 1) := by decide +kernel
theorem dX10_isCell_1 : decode cX10_isCell 1 = .ok (.ifCond .lt 15, 3) := by decide +kernel
theorem dX10_isCell_16 : decode cX10_isCell 16 = .ok (.iconst 0, 1) := by decide +kernel
theorem dX10_isCell_17 : decode cX10_isCell 17 = .ok (.ireturn, 1) := by decide +kernel
theorem dX10_isCell_4 : decode cX10_isCell 4 = .ok (.iload_n 1, 1) := by decide +kernel
theorem dX10_isCell_5 : decode cX10_isCell 5 = .ok (.aload_n 0, 1) := by decide +kernel
theorem dX10_isCell_6 : decode cX10_isCell 6 = .ok (.getfield 7, 3) := by decide +kernel
theorem dX10_isCell_9 : decode cX10_isCell 9 = .ok (.if_icmp .ge 7, 3) := by decide +kernel
theorem dX10_isCell_12 : decode cX10_isCell 12 = .ok (.iconst 1, 1) := by decide +kernel
theorem dX10_isCell_13 : decode cX10_isCell 13 = .ok (.goto 4, 3) := by decide +kernel
def wo_m_isCell : List Cond := [.code yX10_isCell cX10_isCell 2 (some .boolean), .fieldLink RX10 7 "TimingHouseModel" "cells" "I"]
def wr_m_isCell : List Cond := (wsX100 ++ ([]))
def w_m_isCell : List Cond := wo_m_isCell ++ wr_m_isCell
theorem wg_m_isCell : GW w_m_isCell := GW_app (GW_of (by decide +kernel)) (GW_app (GW_of (by decide +kernel)) (GW_nil))
theorem i_m_isCell_X10 : ∀ w ∈ wsX100, w ∈ w_m_isCell := fun _ h => List.mem_append_right _ (List.mem_append_left _ h)
set_option maxHeartbeats 8000000 in
set_option maxRecDepth 100000 in
theorem m_isCell (l : Launch) (E : gE) (o_m a_m_kind a_m_inputs a_m_tableOf a_m_size a_m_extra a_m_taken a_m_portEarly a_m_portLate a_m_portSlope a_m_nodeOf a_m_setup a_m_hold a_m_seen a_m_numbers a_m_rowSize a_m_fall a_m_parent a_m_nodeEarly a_m_nodeLate a_m_periods a_m_from a_m_through a_m_toward a_m_order a_m_done a_m_reached a_m_open a_m_lateDelay a_m_earlyDelay a_m_lateSlope a_m_earlySlope a_m_greatest a_m_least a_m_howMany a_m_most a_m_fewest a_m_pathsTo a_m_slackOf a_m_holdOf a_m_listSlack a_m_listStart a_m_listEdge a_m_listSize a_m_listCell a_m_listInput a_m_rank a_m_good a_m_goCell a_m_goInput a_m_goEdge a_m_goMask a_m_shownCell a_m_shownInput a_m_shownEdge a_m_shownLate : Nat) (f_m_code f_m_cells f_m_late f_m_early f_m_period f_m_nodes f_m_exceptions f_m_fails f_m_ordered f_m_listed f_m_target f_m_shown f_m_shownSlack f_m_shownHold p1 : Int32) (r_f_m_cells : RG f_m_cells 0 50) (r_f_m_late : RG f_m_late 0 500) (r_f_m_early : RG f_m_early 0 500) (r_f_m_period : RG f_m_period 1 1000000) (r_f_m_nodes : RG f_m_nodes 0 20) (r_f_m_exceptions : RG f_m_exceptions 0 4) (r_f_m_ordered : RG f_m_ordered 0 50) (r_f_m_listed : RG f_m_listed 0 1000) (r_f_m_target : RG f_m_target 0 49) (r_f_m_shown : RG f_m_shown 0 52) : CtI l E yX10_isCell w_m_isCell ({ frames := 0, cells := 0, slots := 0, locals := 0 }) [(o_m, .inr (10, [.int f_m_code, .int f_m_cells, .ref a_m_kind, .ref a_m_inputs, .ref a_m_tableOf, .ref a_m_size, .ref a_m_extra, .ref a_m_taken, .ref a_m_portEarly, .ref a_m_portLate, .ref a_m_portSlope, .ref a_m_nodeOf, .ref a_m_setup, .ref a_m_hold, .ref a_m_seen, .ref a_m_numbers, .ref a_m_rowSize, .ref a_m_fall, .int f_m_late, .int f_m_early, .int f_m_period, .int f_m_nodes, .ref a_m_parent, .ref a_m_nodeEarly, .ref a_m_nodeLate, .int f_m_exceptions, .ref a_m_periods, .ref a_m_from, .ref a_m_through, .ref a_m_toward, .int f_m_fails, .ref a_m_order, .int f_m_ordered, .ref a_m_done, .ref a_m_reached, .ref a_m_open, .ref a_m_lateDelay, .ref a_m_earlyDelay, .ref a_m_lateSlope, .ref a_m_earlySlope, .ref a_m_greatest, .ref a_m_least, .ref a_m_howMany, .ref a_m_most, .ref a_m_fewest, .ref a_m_pathsTo, .ref a_m_slackOf, .ref a_m_holdOf, .int f_m_listed, .ref a_m_listSlack, .ref a_m_listStart, .ref a_m_listEdge, .ref a_m_listSize, .ref a_m_listCell, .ref a_m_listInput, .ref a_m_rank, .ref a_m_good, .ref a_m_goCell, .ref a_m_goInput, .ref a_m_goEdge, .ref a_m_goMask, .int f_m_target, .int f_m_shown, .ref a_m_shownCell, .ref a_m_shownInput, .ref a_m_shownEdge, .ref a_m_shownLate, .int f_m_shownSlack, .int f_m_shownHold]))] [.ref o_m, .int p1] (fun r w => (0 ≤ r.toInt ∧ r.toInt ≤ 1) ∧ (r.toInt ≠ 0 → 0 ≤ p1.toInt ∧ p1.toInt < f_m_cells.toInt) ∧ w = [(o_m, .inr (10, [.int f_m_code, .int f_m_cells, .ref a_m_kind, .ref a_m_inputs, .ref a_m_tableOf, .ref a_m_size, .ref a_m_extra, .ref a_m_taken, .ref a_m_portEarly, .ref a_m_portLate, .ref a_m_portSlope, .ref a_m_nodeOf, .ref a_m_setup, .ref a_m_hold, .ref a_m_seen, .ref a_m_numbers, .ref a_m_rowSize, .ref a_m_fall, .int f_m_late, .int f_m_early, .int f_m_period, .int f_m_nodes, .ref a_m_parent, .ref a_m_nodeEarly, .ref a_m_nodeLate, .int f_m_exceptions, .ref a_m_periods, .ref a_m_from, .ref a_m_through, .ref a_m_toward, .int f_m_fails, .ref a_m_order, .int f_m_ordered, .ref a_m_done, .ref a_m_reached, .ref a_m_open, .ref a_m_lateDelay, .ref a_m_earlyDelay, .ref a_m_lateSlope, .ref a_m_earlySlope, .ref a_m_greatest, .ref a_m_least, .ref a_m_howMany, .ref a_m_most, .ref a_m_fewest, .ref a_m_pathsTo, .ref a_m_slackOf, .ref a_m_holdOf, .int f_m_listed, .ref a_m_listSlack, .ref a_m_listStart, .ref a_m_listEdge, .ref a_m_listSize, .ref a_m_listCell, .ref a_m_listInput, .ref a_m_rank, .ref a_m_good, .ref a_m_goCell, .ref a_m_goInput, .ref a_m_goEdge, .ref a_m_goMask, .int f_m_target, .int f_m_shown, .ref a_m_shownCell, .ref a_m_shownInput, .ref a_m_shownEdge, .ref a_m_shownLate, .int f_m_shownSlack, .int f_m_shownHold]))]) := by
  refine CtI.of (cc := cX10_isCell) (maxL := 2) (rt := (some .boolean)) (by decide) rfl (Nat.le_of_ble_eq_true rfl) ?_
  intro p e s m below meth c A B ls hl
  obtain ⟨hx, hb, hml, hr, hlk, hin, hts, hown, hK, hN, hZ, hA, hP, hD, hS⟩ := B
  replace hown : s.vm.findClass RX10 = some m.cls := hown
  have hto : ∀ w ∈ wo_m_isCell, w.before _ s = true := fun w h => hts w (List.mem_append_left _ h)
  replace hl : lv_has ls 2 [(0, .ref o_m), (1, .int p1)] := hl
  obtain ⟨H, hHe⟩ : ∃ H, H = s.heap := ⟨_, rfl⟩
  obtain ⟨locs, hle⟩ : ∃ l : List Loc, l = [] := ⟨_, rfl⟩
  replace hS : va_S A s.heap H locs := by rw [hHe, hle]; exact hS
  replace hP : va_P E.1 vwCl [(o_m, .inr (10, [.int f_m_code, .int f_m_cells, .ref a_m_kind, .ref a_m_inputs, .ref a_m_tableOf, .ref a_m_size, .ref a_m_extra, .ref a_m_taken, .ref a_m_portEarly, .ref a_m_portLate, .ref a_m_portSlope, .ref a_m_nodeOf, .ref a_m_setup, .ref a_m_hold, .ref a_m_seen, .ref a_m_numbers, .ref a_m_rowSize, .ref a_m_fall, .int f_m_late, .int f_m_early, .int f_m_period, .int f_m_nodes, .ref a_m_parent, .ref a_m_nodeEarly, .ref a_m_nodeLate, .int f_m_exceptions, .ref a_m_periods, .ref a_m_from, .ref a_m_through, .ref a_m_toward, .int f_m_fails, .ref a_m_order, .int f_m_ordered, .ref a_m_done, .ref a_m_reached, .ref a_m_open, .ref a_m_lateDelay, .ref a_m_earlyDelay, .ref a_m_lateSlope, .ref a_m_earlySlope, .ref a_m_greatest, .ref a_m_least, .ref a_m_howMany, .ref a_m_most, .ref a_m_fewest, .ref a_m_pathsTo, .ref a_m_slackOf, .ref a_m_holdOf, .int f_m_listed, .ref a_m_listSlack, .ref a_m_listStart, .ref a_m_listEdge, .ref a_m_listSize, .ref a_m_listCell, .ref a_m_listInput, .ref a_m_rank, .ref a_m_good, .ref a_m_goCell, .ref a_m_goInput, .ref a_m_goEdge, .ref a_m_goMask, .int f_m_target, .int f_m_shown, .ref a_m_shownCell, .ref a_m_shownInput, .ref a_m_shownEdge, .ref a_m_shownLate, .int f_m_shownSlack, .int f_m_shownHold]))] H := by rw [hHe]; exact hP
  refine W_hl hHe hle ?_
  clear hHe hle
  refine lv_iload_n hx hb dX10_isCell_0 rfl (lv_at hl 1 rfl) ?_
  refine lv_if_lt (tgt := 16) hx hb dX10_isCell_1 (by decide) (fun c_1 => ?_) (fun c_1 => ?_)
  · have e_1 : p1.toInt < 0 := i3_lt c_1
    refine lv_iconst (v := 0) hx hb dX10_isCell_16 (by decide) ?_
    exact ret_i hx hb hr hlk (hP.sub (ws' := [(o_m, .inr (10, [.int f_m_code, .int f_m_cells, .ref a_m_kind, .ref a_m_inputs, .ref a_m_tableOf, .ref a_m_size, .ref a_m_extra, .ref a_m_taken, .ref a_m_portEarly, .ref a_m_portLate, .ref a_m_portSlope, .ref a_m_nodeOf, .ref a_m_setup, .ref a_m_hold, .ref a_m_seen, .ref a_m_numbers, .ref a_m_rowSize, .ref a_m_fall, .int f_m_late, .int f_m_early, .int f_m_period, .int f_m_nodes, .ref a_m_parent, .ref a_m_nodeEarly, .ref a_m_nodeLate, .int f_m_exceptions, .ref a_m_periods, .ref a_m_from, .ref a_m_through, .ref a_m_toward, .int f_m_fails, .ref a_m_order, .int f_m_ordered, .ref a_m_done, .ref a_m_reached, .ref a_m_open, .ref a_m_lateDelay, .ref a_m_earlyDelay, .ref a_m_lateSlope, .ref a_m_earlySlope, .ref a_m_greatest, .ref a_m_least, .ref a_m_howMany, .ref a_m_most, .ref a_m_fewest, .ref a_m_pathsTo, .ref a_m_slackOf, .ref a_m_holdOf, .int f_m_listed, .ref a_m_listSlack, .ref a_m_listStart, .ref a_m_listEdge, .ref a_m_listSize, .ref a_m_listCell, .ref a_m_listInput, .ref a_m_rank, .ref a_m_good, .ref a_m_goCell, .ref a_m_goInput, .ref a_m_goEdge, .ref a_m_goMask, .int f_m_target, .int f_m_shown, .ref a_m_shownCell, .ref a_m_shownInput, .ref a_m_shownEdge, .ref a_m_shownLate, .int f_m_shownSlack, .int f_m_shownHold]))]) [0] rfl) (hD.sub (ws' := [(o_m, .inr (10, [.int f_m_code, .int f_m_cells, .ref a_m_kind, .ref a_m_inputs, .ref a_m_tableOf, .ref a_m_size, .ref a_m_extra, .ref a_m_taken, .ref a_m_portEarly, .ref a_m_portLate, .ref a_m_portSlope, .ref a_m_nodeOf, .ref a_m_setup, .ref a_m_hold, .ref a_m_seen, .ref a_m_numbers, .ref a_m_rowSize, .ref a_m_fall, .int f_m_late, .int f_m_early, .int f_m_period, .int f_m_nodes, .ref a_m_parent, .ref a_m_nodeEarly, .ref a_m_nodeLate, .int f_m_exceptions, .ref a_m_periods, .ref a_m_from, .ref a_m_through, .ref a_m_toward, .int f_m_fails, .ref a_m_order, .int f_m_ordered, .ref a_m_done, .ref a_m_reached, .ref a_m_open, .ref a_m_lateDelay, .ref a_m_earlyDelay, .ref a_m_lateSlope, .ref a_m_earlySlope, .ref a_m_greatest, .ref a_m_least, .ref a_m_howMany, .ref a_m_most, .ref a_m_fewest, .ref a_m_pathsTo, .ref a_m_slackOf, .ref a_m_holdOf, .int f_m_listed, .ref a_m_listSlack, .ref a_m_listStart, .ref a_m_listEdge, .ref a_m_listSize, .ref a_m_listCell, .ref a_m_listInput, .ref a_m_rank, .ref a_m_good, .ref a_m_goCell, .ref a_m_goInput, .ref a_m_goEdge, .ref a_m_goMask, .int f_m_target, .int f_m_shown, .ref a_m_shownCell, .ref a_m_shownInput, .ref a_m_shownEdge, .ref a_m_shownLate, .int f_m_shownSlack, .int f_m_shownHold]))]) [0] (by decide) rfl) hS rfl dX10_isCell_17 (Nat.le_of_ble_eq_true rfl) (Nat.le_of_ble_eq_true rfl) ⟨(by decide), (by have e9 : (0 : Int32).toInt = 0 := rfl; omega), rfl⟩
  · have e_1 : 0 ≤ p1.toInt := i3_nlt c_1
    refine lv_iload_n hx hb dX10_isCell_4 rfl (lv_at hl 1 rfl) ?_
    refine lv_aload_n hx hb dX10_isCell_5 rfl (lv_at hl 0 rfl) ?_
    refine va_get (D := E.1) (ci := 10) (v := .int f_m_cells) (own := RX10) (C := RX10) (T := TX10) (N := 69) hx hb hts i_m_isCell_X10 hown hK hP 0 rfl rfl 1 (by decide) (hto (.fieldLink RX10 7 "TimingHouseModel" "cells" "I") (by decide +kernel)) (fun _ h9 => h9) rfl dX10_isCell_6 ?_
    have b_f_m_cells := r_f_m_cells.out
    refine lv_icmp_ge (tgt := 16) hx hb dX10_isCell_9 (by decide) (fun c_2 => ?_) (fun c_2 => ?_)
    · have e_2 : f_m_cells.toInt ≤ p1.toInt := i3_le c_2
      refine lv_iconst (v := 0) hx hb dX10_isCell_16 (by decide) ?_
      exact ret_i hx hb hr hlk (hP.sub (ws' := [(o_m, .inr (10, [.int f_m_code, .int f_m_cells, .ref a_m_kind, .ref a_m_inputs, .ref a_m_tableOf, .ref a_m_size, .ref a_m_extra, .ref a_m_taken, .ref a_m_portEarly, .ref a_m_portLate, .ref a_m_portSlope, .ref a_m_nodeOf, .ref a_m_setup, .ref a_m_hold, .ref a_m_seen, .ref a_m_numbers, .ref a_m_rowSize, .ref a_m_fall, .int f_m_late, .int f_m_early, .int f_m_period, .int f_m_nodes, .ref a_m_parent, .ref a_m_nodeEarly, .ref a_m_nodeLate, .int f_m_exceptions, .ref a_m_periods, .ref a_m_from, .ref a_m_through, .ref a_m_toward, .int f_m_fails, .ref a_m_order, .int f_m_ordered, .ref a_m_done, .ref a_m_reached, .ref a_m_open, .ref a_m_lateDelay, .ref a_m_earlyDelay, .ref a_m_lateSlope, .ref a_m_earlySlope, .ref a_m_greatest, .ref a_m_least, .ref a_m_howMany, .ref a_m_most, .ref a_m_fewest, .ref a_m_pathsTo, .ref a_m_slackOf, .ref a_m_holdOf, .int f_m_listed, .ref a_m_listSlack, .ref a_m_listStart, .ref a_m_listEdge, .ref a_m_listSize, .ref a_m_listCell, .ref a_m_listInput, .ref a_m_rank, .ref a_m_good, .ref a_m_goCell, .ref a_m_goInput, .ref a_m_goEdge, .ref a_m_goMask, .int f_m_target, .int f_m_shown, .ref a_m_shownCell, .ref a_m_shownInput, .ref a_m_shownEdge, .ref a_m_shownLate, .int f_m_shownSlack, .int f_m_shownHold]))]) [0] rfl) (hD.sub (ws' := [(o_m, .inr (10, [.int f_m_code, .int f_m_cells, .ref a_m_kind, .ref a_m_inputs, .ref a_m_tableOf, .ref a_m_size, .ref a_m_extra, .ref a_m_taken, .ref a_m_portEarly, .ref a_m_portLate, .ref a_m_portSlope, .ref a_m_nodeOf, .ref a_m_setup, .ref a_m_hold, .ref a_m_seen, .ref a_m_numbers, .ref a_m_rowSize, .ref a_m_fall, .int f_m_late, .int f_m_early, .int f_m_period, .int f_m_nodes, .ref a_m_parent, .ref a_m_nodeEarly, .ref a_m_nodeLate, .int f_m_exceptions, .ref a_m_periods, .ref a_m_from, .ref a_m_through, .ref a_m_toward, .int f_m_fails, .ref a_m_order, .int f_m_ordered, .ref a_m_done, .ref a_m_reached, .ref a_m_open, .ref a_m_lateDelay, .ref a_m_earlyDelay, .ref a_m_lateSlope, .ref a_m_earlySlope, .ref a_m_greatest, .ref a_m_least, .ref a_m_howMany, .ref a_m_most, .ref a_m_fewest, .ref a_m_pathsTo, .ref a_m_slackOf, .ref a_m_holdOf, .int f_m_listed, .ref a_m_listSlack, .ref a_m_listStart, .ref a_m_listEdge, .ref a_m_listSize, .ref a_m_listCell, .ref a_m_listInput, .ref a_m_rank, .ref a_m_good, .ref a_m_goCell, .ref a_m_goInput, .ref a_m_goEdge, .ref a_m_goMask, .int f_m_target, .int f_m_shown, .ref a_m_shownCell, .ref a_m_shownInput, .ref a_m_shownEdge, .ref a_m_shownLate, .int f_m_shownSlack, .int f_m_shownHold]))]) [0] (by decide) rfl) hS rfl dX10_isCell_17 (Nat.le_of_ble_eq_true rfl) (Nat.le_of_ble_eq_true rfl) ⟨(by decide), (by have e9 : (0 : Int32).toInt = 0 := rfl; omega), rfl⟩
    · have e_2 : p1.toInt < f_m_cells.toInt := i3_nle c_2
      refine lv_iconst (v := 1) hx hb dX10_isCell_12 (by decide) ?_
      refine lv_goto (tgt := 17) hx hb dX10_isCell_13 (by decide) ?_
      exact ret_i hx hb hr hlk (hP.sub (ws' := [(o_m, .inr (10, [.int f_m_code, .int f_m_cells, .ref a_m_kind, .ref a_m_inputs, .ref a_m_tableOf, .ref a_m_size, .ref a_m_extra, .ref a_m_taken, .ref a_m_portEarly, .ref a_m_portLate, .ref a_m_portSlope, .ref a_m_nodeOf, .ref a_m_setup, .ref a_m_hold, .ref a_m_seen, .ref a_m_numbers, .ref a_m_rowSize, .ref a_m_fall, .int f_m_late, .int f_m_early, .int f_m_period, .int f_m_nodes, .ref a_m_parent, .ref a_m_nodeEarly, .ref a_m_nodeLate, .int f_m_exceptions, .ref a_m_periods, .ref a_m_from, .ref a_m_through, .ref a_m_toward, .int f_m_fails, .ref a_m_order, .int f_m_ordered, .ref a_m_done, .ref a_m_reached, .ref a_m_open, .ref a_m_lateDelay, .ref a_m_earlyDelay, .ref a_m_lateSlope, .ref a_m_earlySlope, .ref a_m_greatest, .ref a_m_least, .ref a_m_howMany, .ref a_m_most, .ref a_m_fewest, .ref a_m_pathsTo, .ref a_m_slackOf, .ref a_m_holdOf, .int f_m_listed, .ref a_m_listSlack, .ref a_m_listStart, .ref a_m_listEdge, .ref a_m_listSize, .ref a_m_listCell, .ref a_m_listInput, .ref a_m_rank, .ref a_m_good, .ref a_m_goCell, .ref a_m_goInput, .ref a_m_goEdge, .ref a_m_goMask, .int f_m_target, .int f_m_shown, .ref a_m_shownCell, .ref a_m_shownInput, .ref a_m_shownEdge, .ref a_m_shownLate, .int f_m_shownSlack, .int f_m_shownHold]))]) [0] rfl) (hD.sub (ws' := [(o_m, .inr (10, [.int f_m_code, .int f_m_cells, .ref a_m_kind, .ref a_m_inputs, .ref a_m_tableOf, .ref a_m_size, .ref a_m_extra, .ref a_m_taken, .ref a_m_portEarly, .ref a_m_portLate, .ref a_m_portSlope, .ref a_m_nodeOf, .ref a_m_setup, .ref a_m_hold, .ref a_m_seen, .ref a_m_numbers, .ref a_m_rowSize, .ref a_m_fall, .int f_m_late, .int f_m_early, .int f_m_period, .int f_m_nodes, .ref a_m_parent, .ref a_m_nodeEarly, .ref a_m_nodeLate, .int f_m_exceptions, .ref a_m_periods, .ref a_m_from, .ref a_m_through, .ref a_m_toward, .int f_m_fails, .ref a_m_order, .int f_m_ordered, .ref a_m_done, .ref a_m_reached, .ref a_m_open, .ref a_m_lateDelay, .ref a_m_earlyDelay, .ref a_m_lateSlope, .ref a_m_earlySlope, .ref a_m_greatest, .ref a_m_least, .ref a_m_howMany, .ref a_m_most, .ref a_m_fewest, .ref a_m_pathsTo, .ref a_m_slackOf, .ref a_m_holdOf, .int f_m_listed, .ref a_m_listSlack, .ref a_m_listStart, .ref a_m_listEdge, .ref a_m_listSize, .ref a_m_listCell, .ref a_m_listInput, .ref a_m_rank, .ref a_m_good, .ref a_m_goCell, .ref a_m_goInput, .ref a_m_goEdge, .ref a_m_goMask, .int f_m_target, .int f_m_shown, .ref a_m_shownCell, .ref a_m_shownInput, .ref a_m_shownEdge, .ref a_m_shownLate, .int f_m_shownSlack, .int f_m_shownHold]))]) [0] (by decide) rfl) hS rfl dX10_isCell_17 (Nat.le_of_ble_eq_true rfl) (Nat.le_of_ble_eq_true rfl) ⟨(by decide), (by have e9 : (1 : Int32).toInt = 1 := rfl; omega), rfl⟩
theorem dX10_isInput_0 : decode cX10_isInput 0 = .ok (.aload_n 0, 1) := by decide +kernel
theorem dX10_isInput_1 : decode cX10_isInput 1 = .ok (.iload_n 1, 1) := by decide +kernel
theorem dX10_isInput_2 : decode cX10_isInput 2 = .ok (.invokevirtual 10, 3) := by decide +kernel
theorem dX10_isInput_5 : decode cX10_isInput 5 = .ok (.ifCond .eq 21, 3) := by decide +kernel
theorem dX10_isInput_26 : decode cX10_isInput 26 = .ok (.iconst 0, 1) := by decide +kernel
theorem dX10_isInput_27 : decode cX10_isInput 27 = .ok (.ireturn, 1) := by decide +kernel
theorem dX10_isInput_8 : decode cX10_isInput 8 = .ok (.iload_n 2, 1) := by decide +kernel
theorem dX10_isInput_9 : decode cX10_isInput 9 = .ok (.ifCond .lt 17, 3) := by decide +kernel
theorem dX10_isInput_12 : decode cX10_isInput 12 = .ok (.iload_n 2, 1) := by decide +kernel
theorem dX10_isInput_13 : decode cX10_isInput 13 = .ok (.aload_n 0, 1) := by decide +kernel
theorem dX10_isInput_14 : decode cX10_isInput 14 = .ok (.getfield 14, 3) := by decide +kernel
theorem dX10_isInput_17 : decode cX10_isInput 17 = .ok (.iload_n 1, 1) := by decide +kernel
theorem dX10_isInput_18 : decode cX10_isInput 18 = .ok (.iaload, 1) := by decide +kernel
theorem dX10_isInput_19 : decode cX10_isInput 19 = .ok (.if_icmp .ge 7, 3) := by decide +kernel
theorem dX10_isInput_22 : decode cX10_isInput 22 = .ok (.iconst 1, 1) := by decide +kernel
theorem dX10_isInput_23 : decode cX10_isInput 23 = .ok (.goto 4, 3) := by decide +kernel
def wo_m_isInput : List Cond := [.code yX10_isInput cX10_isInput 3 (some .boolean), .methodLink RX10 10 yX10_isCell, .instanceMethod yX10_isCell, .selects RX10 yX10_isCell yX10_isCell, .initialized RX10, .fieldLink RX10 14 "TimingHouseModel" "inputs" "[I"]
def wr_m_isInput : List Cond := (wsX100 ++ (w_m_isCell ++ ([])))
def w_m_isInput : List Cond := wo_m_isInput ++ wr_m_isInput
theorem wg_m_isInput : GW w_m_isInput := GW_app (GW_of (by decide +kernel)) (GW_app (GW_of (by decide +kernel)) (GW_app (wg_m_isCell) (GW_nil)))
theorem i_m_isInput_X10 : ∀ w ∈ wsX100, w ∈ w_m_isInput := fun _ h => List.mem_append_right _ (List.mem_append_left _ h)
theorem g_m_isInput_m_isCell_10 : GoodIn w_m_isInput (wsV RX10 10 RX10 yX10_isCell w_m_isCell) := goodIn_app (gi_left (goodIn_of _ (by decide +kernel))) (fun w h => ⟨List.mem_append_right _ (List.mem_append_right _ (List.mem_append_left _ h)), wg_m_isCell w h⟩)
set_option maxHeartbeats 8000000 in
set_option maxRecDepth 100000 in
theorem m_isInput (l : Launch) (E : gE) (o_m a_m_kind a_m_inputs a_m_tableOf a_m_size a_m_extra a_m_taken a_m_portEarly a_m_portLate a_m_portSlope a_m_nodeOf a_m_setup a_m_hold a_m_seen a_m_numbers a_m_rowSize a_m_fall a_m_parent a_m_nodeEarly a_m_nodeLate a_m_periods a_m_from a_m_through a_m_toward a_m_order a_m_done a_m_reached a_m_open a_m_lateDelay a_m_earlyDelay a_m_lateSlope a_m_earlySlope a_m_greatest a_m_least a_m_howMany a_m_most a_m_fewest a_m_pathsTo a_m_slackOf a_m_holdOf a_m_listSlack a_m_listStart a_m_listEdge a_m_listSize a_m_listCell a_m_listInput a_m_rank a_m_good a_m_goCell a_m_goInput a_m_goEdge a_m_goMask a_m_shownCell a_m_shownInput a_m_shownEdge a_m_shownLate : Nat) (f_m_code f_m_cells f_m_late f_m_early f_m_period f_m_nodes f_m_exceptions f_m_fails f_m_ordered f_m_listed f_m_target f_m_shown f_m_shownSlack f_m_shownHold p1 p2 : Int32) (g_m_inputs : Nat → Int32) (r_f_m_cells : RG f_m_cells 0 50) (r_f_m_late : RG f_m_late 0 500) (r_f_m_early : RG f_m_early 0 500) (r_f_m_period : RG f_m_period 1 1000000) (r_f_m_nodes : RG f_m_nodes 0 20) (r_f_m_exceptions : RG f_m_exceptions 0 4) (r_f_m_ordered : RG f_m_ordered 0 50) (r_f_m_listed : RG f_m_listed 0 1000) (r_f_m_target : RG f_m_target 0 49) (r_f_m_shown : RG f_m_shown 0 52) (i_g_m_inputs : AR g_m_inputs 50 0 4) : CtI l E yX10_isInput w_m_isInput ({ frames := 1, cells := 0, slots := 0, locals := 21 }) [(o_m, .inr (10, [.int f_m_code, .int f_m_cells, .ref a_m_kind, .ref a_m_inputs, .ref a_m_tableOf, .ref a_m_size, .ref a_m_extra, .ref a_m_taken, .ref a_m_portEarly, .ref a_m_portLate, .ref a_m_portSlope, .ref a_m_nodeOf, .ref a_m_setup, .ref a_m_hold, .ref a_m_seen, .ref a_m_numbers, .ref a_m_rowSize, .ref a_m_fall, .int f_m_late, .int f_m_early, .int f_m_period, .int f_m_nodes, .ref a_m_parent, .ref a_m_nodeEarly, .ref a_m_nodeLate, .int f_m_exceptions, .ref a_m_periods, .ref a_m_from, .ref a_m_through, .ref a_m_toward, .int f_m_fails, .ref a_m_order, .int f_m_ordered, .ref a_m_done, .ref a_m_reached, .ref a_m_open, .ref a_m_lateDelay, .ref a_m_earlyDelay, .ref a_m_lateSlope, .ref a_m_earlySlope, .ref a_m_greatest, .ref a_m_least, .ref a_m_howMany, .ref a_m_most, .ref a_m_fewest, .ref a_m_pathsTo, .ref a_m_slackOf, .ref a_m_holdOf, .int f_m_listed, .ref a_m_listSlack, .ref a_m_listStart, .ref a_m_listEdge, .ref a_m_listSize, .ref a_m_listCell, .ref a_m_listInput, .ref a_m_rank, .ref a_m_good, .ref a_m_goCell, .ref a_m_goInput, .ref a_m_goEdge, .ref a_m_goMask, .int f_m_target, .int f_m_shown, .ref a_m_shownCell, .ref a_m_shownInput, .ref a_m_shownEdge, .ref a_m_shownLate, .int f_m_shownSlack, .int f_m_shownHold])), (a_m_inputs, aI E 50 g_m_inputs)] [.ref o_m, .int p1, .int p2] (fun r w => (0 ≤ r.toInt ∧ r.toInt ≤ 1) ∧ (r.toInt ≠ 0 → 0 ≤ p1.toInt ∧ p1.toInt < f_m_cells.toInt ∧ 0 ≤ p2.toInt ∧ p2.toInt ≤ 3) ∧ w = [(o_m, .inr (10, [.int f_m_code, .int f_m_cells, .ref a_m_kind, .ref a_m_inputs, .ref a_m_tableOf, .ref a_m_size, .ref a_m_extra, .ref a_m_taken, .ref a_m_portEarly, .ref a_m_portLate, .ref a_m_portSlope, .ref a_m_nodeOf, .ref a_m_setup, .ref a_m_hold, .ref a_m_seen, .ref a_m_numbers, .ref a_m_rowSize, .ref a_m_fall, .int f_m_late, .int f_m_early, .int f_m_period, .int f_m_nodes, .ref a_m_parent, .ref a_m_nodeEarly, .ref a_m_nodeLate, .int f_m_exceptions, .ref a_m_periods, .ref a_m_from, .ref a_m_through, .ref a_m_toward, .int f_m_fails, .ref a_m_order, .int f_m_ordered, .ref a_m_done, .ref a_m_reached, .ref a_m_open, .ref a_m_lateDelay, .ref a_m_earlyDelay, .ref a_m_lateSlope, .ref a_m_earlySlope, .ref a_m_greatest, .ref a_m_least, .ref a_m_howMany, .ref a_m_most, .ref a_m_fewest, .ref a_m_pathsTo, .ref a_m_slackOf, .ref a_m_holdOf, .int f_m_listed, .ref a_m_listSlack, .ref a_m_listStart, .ref a_m_listEdge, .ref a_m_listSize, .ref a_m_listCell, .ref a_m_listInput, .ref a_m_rank, .ref a_m_good, .ref a_m_goCell, .ref a_m_goInput, .ref a_m_goEdge, .ref a_m_goMask, .int f_m_target, .int f_m_shown, .ref a_m_shownCell, .ref a_m_shownInput, .ref a_m_shownEdge, .ref a_m_shownLate, .int f_m_shownSlack, .int f_m_shownHold])), (a_m_inputs, aI E 50 g_m_inputs)]) := by
  refine CtI.of (cc := cX10_isInput) (maxL := 3) (rt := (some .boolean)) (by decide) rfl (Nat.le_of_ble_eq_true rfl) ?_
  intro p e s m below meth c A B ls hl
  obtain ⟨hx, hb, hml, hr, hlk, hin, hts, hown, hK, hN, hZ, hA, hP, hD, hS⟩ := B
  replace hown : s.vm.findClass RX10 = some m.cls := hown
  have hto : ∀ w ∈ wo_m_isInput, w.before _ s = true := fun w h => hts w (List.mem_append_left _ h)
  replace hl : lv_has ls 3 [(0, .ref o_m), (1, .int p1), (2, .int p2)] := hl
  obtain ⟨H, hHe⟩ : ∃ H, H = s.heap := ⟨_, rfl⟩
  obtain ⟨locs, hle⟩ : ∃ l : List Loc, l = [] := ⟨_, rfl⟩
  replace hS : va_S A s.heap H locs := by rw [hHe, hle]; exact hS
  replace hP : va_P E.1 vwCl [(o_m, .inr (10, [.int f_m_code, .int f_m_cells, .ref a_m_kind, .ref a_m_inputs, .ref a_m_tableOf, .ref a_m_size, .ref a_m_extra, .ref a_m_taken, .ref a_m_portEarly, .ref a_m_portLate, .ref a_m_portSlope, .ref a_m_nodeOf, .ref a_m_setup, .ref a_m_hold, .ref a_m_seen, .ref a_m_numbers, .ref a_m_rowSize, .ref a_m_fall, .int f_m_late, .int f_m_early, .int f_m_period, .int f_m_nodes, .ref a_m_parent, .ref a_m_nodeEarly, .ref a_m_nodeLate, .int f_m_exceptions, .ref a_m_periods, .ref a_m_from, .ref a_m_through, .ref a_m_toward, .int f_m_fails, .ref a_m_order, .int f_m_ordered, .ref a_m_done, .ref a_m_reached, .ref a_m_open, .ref a_m_lateDelay, .ref a_m_earlyDelay, .ref a_m_lateSlope, .ref a_m_earlySlope, .ref a_m_greatest, .ref a_m_least, .ref a_m_howMany, .ref a_m_most, .ref a_m_fewest, .ref a_m_pathsTo, .ref a_m_slackOf, .ref a_m_holdOf, .int f_m_listed, .ref a_m_listSlack, .ref a_m_listStart, .ref a_m_listEdge, .ref a_m_listSize, .ref a_m_listCell, .ref a_m_listInput, .ref a_m_rank, .ref a_m_good, .ref a_m_goCell, .ref a_m_goInput, .ref a_m_goEdge, .ref a_m_goMask, .int f_m_target, .int f_m_shown, .ref a_m_shownCell, .ref a_m_shownInput, .ref a_m_shownEdge, .ref a_m_shownLate, .int f_m_shownSlack, .int f_m_shownHold])), (a_m_inputs, aI E 50 g_m_inputs)] H := by rw [hHe]; exact hP
  refine W_hl hHe hle ?_
  clear hHe hle
  refine lv_aload_n hx hb dX10_isInput_0 rfl (lv_at hl 0 rfl) ?_
  refine lv_iload_n hx hb dX10_isInput_1 rfl (lv_at hl 1 rfl) ?_
  refine call_i (va_runV (As := [.int p1]) (rest := []) ⟨hx, hb, hml, hown, hts⟩ (m_isCell l E o_m a_m_kind a_m_inputs a_m_tableOf a_m_size a_m_extra a_m_taken a_m_portEarly a_m_portLate a_m_portSlope a_m_nodeOf a_m_setup a_m_hold a_m_seen a_m_numbers a_m_rowSize a_m_fall a_m_parent a_m_nodeEarly a_m_nodeLate a_m_periods a_m_from a_m_through a_m_toward a_m_order a_m_done a_m_reached a_m_open a_m_lateDelay a_m_earlyDelay a_m_lateSlope a_m_earlySlope a_m_greatest a_m_least a_m_howMany a_m_most a_m_fewest a_m_pathsTo a_m_slackOf a_m_holdOf a_m_listSlack a_m_listStart a_m_listEdge a_m_listSize a_m_listCell a_m_listInput a_m_rank a_m_good a_m_goCell a_m_goInput a_m_goEdge a_m_goMask a_m_shownCell a_m_shownInput a_m_shownEdge a_m_shownLate f_m_code f_m_cells f_m_late f_m_early f_m_period f_m_nodes f_m_exceptions f_m_fails f_m_ordered f_m_listed f_m_target f_m_shown f_m_shownSlack f_m_shownHold p1 r_f_m_cells r_f_m_late r_f_m_early r_f_m_period r_f_m_nodes r_f_m_exceptions r_f_m_ordered r_f_m_listed r_f_m_target r_f_m_shown H.size) (cwV 1 hts g_m_isInput_m_isCell_10 rfl rfl rfl (by decide +kernel) ⟨Nat.le_of_ble_eq_true rfl, Nat.le_of_ble_eq_true rfl⟩) (pre_V hK hN hZ hS (va_free hD hS hA [0] rfl) (hP.sub (ws' := [(o_m, .inr (10, [.int f_m_code, .int f_m_cells, .ref a_m_kind, .ref a_m_inputs, .ref a_m_tableOf, .ref a_m_size, .ref a_m_extra, .ref a_m_taken, .ref a_m_portEarly, .ref a_m_portLate, .ref a_m_portSlope, .ref a_m_nodeOf, .ref a_m_setup, .ref a_m_hold, .ref a_m_seen, .ref a_m_numbers, .ref a_m_rowSize, .ref a_m_fall, .int f_m_late, .int f_m_early, .int f_m_period, .int f_m_nodes, .ref a_m_parent, .ref a_m_nodeEarly, .ref a_m_nodeLate, .int f_m_exceptions, .ref a_m_periods, .ref a_m_from, .ref a_m_through, .ref a_m_toward, .int f_m_fails, .ref a_m_order, .int f_m_ordered, .ref a_m_done, .ref a_m_reached, .ref a_m_open, .ref a_m_lateDelay, .ref a_m_earlyDelay, .ref a_m_lateSlope, .ref a_m_earlySlope, .ref a_m_greatest, .ref a_m_least, .ref a_m_howMany, .ref a_m_most, .ref a_m_fewest, .ref a_m_pathsTo, .ref a_m_slackOf, .ref a_m_holdOf, .int f_m_listed, .ref a_m_listSlack, .ref a_m_listStart, .ref a_m_listEdge, .ref a_m_listSize, .ref a_m_listCell, .ref a_m_listInput, .ref a_m_rank, .ref a_m_good, .ref a_m_goCell, .ref a_m_goInput, .ref a_m_goEdge, .ref a_m_goMask, .int f_m_target, .int f_m_shown, .ref a_m_shownCell, .ref a_m_shownInput, .ref a_m_shownEdge, .ref a_m_shownLate, .int f_m_shownSlack, .int f_m_shownHold]))]) [0] rfl) (hD.sub (ws' := [(o_m, .inr (10, [.int f_m_code, .int f_m_cells, .ref a_m_kind, .ref a_m_inputs, .ref a_m_tableOf, .ref a_m_size, .ref a_m_extra, .ref a_m_taken, .ref a_m_portEarly, .ref a_m_portLate, .ref a_m_portSlope, .ref a_m_nodeOf, .ref a_m_setup, .ref a_m_hold, .ref a_m_seen, .ref a_m_numbers, .ref a_m_rowSize, .ref a_m_fall, .int f_m_late, .int f_m_early, .int f_m_period, .int f_m_nodes, .ref a_m_parent, .ref a_m_nodeEarly, .ref a_m_nodeLate, .int f_m_exceptions, .ref a_m_periods, .ref a_m_from, .ref a_m_through, .ref a_m_toward, .int f_m_fails, .ref a_m_order, .int f_m_ordered, .ref a_m_done, .ref a_m_reached, .ref a_m_open, .ref a_m_lateDelay, .ref a_m_earlyDelay, .ref a_m_lateSlope, .ref a_m_earlySlope, .ref a_m_greatest, .ref a_m_least, .ref a_m_howMany, .ref a_m_most, .ref a_m_fewest, .ref a_m_pathsTo, .ref a_m_slackOf, .ref a_m_holdOf, .int f_m_listed, .ref a_m_listSlack, .ref a_m_listStart, .ref a_m_listEdge, .ref a_m_listSize, .ref a_m_listCell, .ref a_m_listInput, .ref a_m_rank, .ref a_m_good, .ref a_m_goCell, .ref a_m_goInput, .ref a_m_goEdge, .ref a_m_goMask, .int f_m_target, .int f_m_shown, .ref a_m_shownCell, .ref a_m_shownInput, .ref a_m_shownEdge, .ref a_m_shownLate, .int f_m_shownSlack, .int f_m_shownHold]))]) [0] (by decide) rfl) (ci := 10) (q0 := 0) rfl rfl) rfl rfl hl.1 rfl (lv_room (Nat.le_of_ble_eq_true rfl)) dX10_isInput_2 ⟨Nat.le_of_ble_eq_true rfl, Nat.le_of_ble_eq_true rfl⟩) hP hD hS hA [0] [1] (wr := [(a_m_inputs, aI E 50 g_m_inputs)]) rfl rfl (by decide) (by decide) (fun r_1 w H locs hw hP hD hS => ?_)
  obtain ⟨b_r_1, l_r_1, rfl⟩ := hw
  replace l_r_1 : (r_1.toInt ≠ 0 → 0 ≤ p1.toInt ∧ p1.toInt < f_m_cells.toInt) := l_r_1
  replace hP : va_P E.1 vwCl [(a_m_inputs, aI E 50 g_m_inputs), (o_m, .inr (10, [.int f_m_code, .int f_m_cells, .ref a_m_kind, .ref a_m_inputs, .ref a_m_tableOf, .ref a_m_size, .ref a_m_extra, .ref a_m_taken, .ref a_m_portEarly, .ref a_m_portLate, .ref a_m_portSlope, .ref a_m_nodeOf, .ref a_m_setup, .ref a_m_hold, .ref a_m_seen, .ref a_m_numbers, .ref a_m_rowSize, .ref a_m_fall, .int f_m_late, .int f_m_early, .int f_m_period, .int f_m_nodes, .ref a_m_parent, .ref a_m_nodeEarly, .ref a_m_nodeLate, .int f_m_exceptions, .ref a_m_periods, .ref a_m_from, .ref a_m_through, .ref a_m_toward, .int f_m_fails, .ref a_m_order, .int f_m_ordered, .ref a_m_done, .ref a_m_reached, .ref a_m_open, .ref a_m_lateDelay, .ref a_m_earlyDelay, .ref a_m_lateSlope, .ref a_m_earlySlope, .ref a_m_greatest, .ref a_m_least, .ref a_m_howMany, .ref a_m_most, .ref a_m_fewest, .ref a_m_pathsTo, .ref a_m_slackOf, .ref a_m_holdOf, .int f_m_listed, .ref a_m_listSlack, .ref a_m_listStart, .ref a_m_listEdge, .ref a_m_listSize, .ref a_m_listCell, .ref a_m_listInput, .ref a_m_rank, .ref a_m_good, .ref a_m_goCell, .ref a_m_goInput, .ref a_m_goEdge, .ref a_m_goMask, .int f_m_target, .int f_m_shown, .ref a_m_shownCell, .ref a_m_shownInput, .ref a_m_shownEdge, .ref a_m_shownLate, .int f_m_shownSlack, .int f_m_shownHold]))] H := hP
  replace hD : va_D A [(a_m_inputs, aI E 50 g_m_inputs), (o_m, .inr (10, [.int f_m_code, .int f_m_cells, .ref a_m_kind, .ref a_m_inputs, .ref a_m_tableOf, .ref a_m_size, .ref a_m_extra, .ref a_m_taken, .ref a_m_portEarly, .ref a_m_portLate, .ref a_m_portSlope, .ref a_m_nodeOf, .ref a_m_setup, .ref a_m_hold, .ref a_m_seen, .ref a_m_numbers, .ref a_m_rowSize, .ref a_m_fall, .int f_m_late, .int f_m_early, .int f_m_period, .int f_m_nodes, .ref a_m_parent, .ref a_m_nodeEarly, .ref a_m_nodeLate, .int f_m_exceptions, .ref a_m_periods, .ref a_m_from, .ref a_m_through, .ref a_m_toward, .int f_m_fails, .ref a_m_order, .int f_m_ordered, .ref a_m_done, .ref a_m_reached, .ref a_m_open, .ref a_m_lateDelay, .ref a_m_earlyDelay, .ref a_m_lateSlope, .ref a_m_earlySlope, .ref a_m_greatest, .ref a_m_least, .ref a_m_howMany, .ref a_m_most, .ref a_m_fewest, .ref a_m_pathsTo, .ref a_m_slackOf, .ref a_m_holdOf, .int f_m_listed, .ref a_m_listSlack, .ref a_m_listStart, .ref a_m_listEdge, .ref a_m_listSize, .ref a_m_listCell, .ref a_m_listInput, .ref a_m_rank, .ref a_m_good, .ref a_m_goCell, .ref a_m_goInput, .ref a_m_goEdge, .ref a_m_goMask, .int f_m_target, .int f_m_shown, .ref a_m_shownCell, .ref a_m_shownInput, .ref a_m_shownEdge, .ref a_m_shownLate, .int f_m_shownSlack, .int f_m_shownHold]))] := hD
  refine lv_if_eq (tgt := 26) hx hb dX10_isInput_5 (by decide) (fun c_2 => ?_) (fun c_2 => ?_)
  · have e_2 : r_1.toInt = 0 := i3_eq c_2
    refine lv_iconst (v := 0) hx hb dX10_isInput_26 (by decide) ?_
    exact ret_i hx hb hr hlk (hP.sub (ws' := [(o_m, .inr (10, [.int f_m_code, .int f_m_cells, .ref a_m_kind, .ref a_m_inputs, .ref a_m_tableOf, .ref a_m_size, .ref a_m_extra, .ref a_m_taken, .ref a_m_portEarly, .ref a_m_portLate, .ref a_m_portSlope, .ref a_m_nodeOf, .ref a_m_setup, .ref a_m_hold, .ref a_m_seen, .ref a_m_numbers, .ref a_m_rowSize, .ref a_m_fall, .int f_m_late, .int f_m_early, .int f_m_period, .int f_m_nodes, .ref a_m_parent, .ref a_m_nodeEarly, .ref a_m_nodeLate, .int f_m_exceptions, .ref a_m_periods, .ref a_m_from, .ref a_m_through, .ref a_m_toward, .int f_m_fails, .ref a_m_order, .int f_m_ordered, .ref a_m_done, .ref a_m_reached, .ref a_m_open, .ref a_m_lateDelay, .ref a_m_earlyDelay, .ref a_m_lateSlope, .ref a_m_earlySlope, .ref a_m_greatest, .ref a_m_least, .ref a_m_howMany, .ref a_m_most, .ref a_m_fewest, .ref a_m_pathsTo, .ref a_m_slackOf, .ref a_m_holdOf, .int f_m_listed, .ref a_m_listSlack, .ref a_m_listStart, .ref a_m_listEdge, .ref a_m_listSize, .ref a_m_listCell, .ref a_m_listInput, .ref a_m_rank, .ref a_m_good, .ref a_m_goCell, .ref a_m_goInput, .ref a_m_goEdge, .ref a_m_goMask, .int f_m_target, .int f_m_shown, .ref a_m_shownCell, .ref a_m_shownInput, .ref a_m_shownEdge, .ref a_m_shownLate, .int f_m_shownSlack, .int f_m_shownHold])), (a_m_inputs, aI E 50 g_m_inputs)]) [1, 0] rfl) (hD.sub (ws' := [(o_m, .inr (10, [.int f_m_code, .int f_m_cells, .ref a_m_kind, .ref a_m_inputs, .ref a_m_tableOf, .ref a_m_size, .ref a_m_extra, .ref a_m_taken, .ref a_m_portEarly, .ref a_m_portLate, .ref a_m_portSlope, .ref a_m_nodeOf, .ref a_m_setup, .ref a_m_hold, .ref a_m_seen, .ref a_m_numbers, .ref a_m_rowSize, .ref a_m_fall, .int f_m_late, .int f_m_early, .int f_m_period, .int f_m_nodes, .ref a_m_parent, .ref a_m_nodeEarly, .ref a_m_nodeLate, .int f_m_exceptions, .ref a_m_periods, .ref a_m_from, .ref a_m_through, .ref a_m_toward, .int f_m_fails, .ref a_m_order, .int f_m_ordered, .ref a_m_done, .ref a_m_reached, .ref a_m_open, .ref a_m_lateDelay, .ref a_m_earlyDelay, .ref a_m_lateSlope, .ref a_m_earlySlope, .ref a_m_greatest, .ref a_m_least, .ref a_m_howMany, .ref a_m_most, .ref a_m_fewest, .ref a_m_pathsTo, .ref a_m_slackOf, .ref a_m_holdOf, .int f_m_listed, .ref a_m_listSlack, .ref a_m_listStart, .ref a_m_listEdge, .ref a_m_listSize, .ref a_m_listCell, .ref a_m_listInput, .ref a_m_rank, .ref a_m_good, .ref a_m_goCell, .ref a_m_goInput, .ref a_m_goEdge, .ref a_m_goMask, .int f_m_target, .int f_m_shown, .ref a_m_shownCell, .ref a_m_shownInput, .ref a_m_shownEdge, .ref a_m_shownLate, .int f_m_shownSlack, .int f_m_shownHold])), (a_m_inputs, aI E 50 g_m_inputs)]) [1, 0] (by decide) rfl) hS rfl dX10_isInput_27 (Nat.le_of_ble_eq_true rfl) (Nat.le_of_ble_eq_true rfl) ⟨(by decide), (by have e9 : (0 : Int32).toInt = 0 := rfl; omega), rfl⟩
  · have e_2 : r_1.toInt ≠ 0 := i3_ne c_2
    have f_2 := l_r_1 e_2
    have b_f_m_cells := r_f_m_cells.out
    refine lv_iload_n hx hb dX10_isInput_8 rfl (lv_at hl 2 rfl) ?_
    refine lv_if_lt (tgt := 26) hx hb dX10_isInput_9 (by decide) (fun c_3 => ?_) (fun c_3 => ?_)
    · have e_3 : p2.toInt < 0 := i3_lt c_3
      refine lv_iconst (v := 0) hx hb dX10_isInput_26 (by decide) ?_
      exact ret_i hx hb hr hlk (hP.sub (ws' := [(o_m, .inr (10, [.int f_m_code, .int f_m_cells, .ref a_m_kind, .ref a_m_inputs, .ref a_m_tableOf, .ref a_m_size, .ref a_m_extra, .ref a_m_taken, .ref a_m_portEarly, .ref a_m_portLate, .ref a_m_portSlope, .ref a_m_nodeOf, .ref a_m_setup, .ref a_m_hold, .ref a_m_seen, .ref a_m_numbers, .ref a_m_rowSize, .ref a_m_fall, .int f_m_late, .int f_m_early, .int f_m_period, .int f_m_nodes, .ref a_m_parent, .ref a_m_nodeEarly, .ref a_m_nodeLate, .int f_m_exceptions, .ref a_m_periods, .ref a_m_from, .ref a_m_through, .ref a_m_toward, .int f_m_fails, .ref a_m_order, .int f_m_ordered, .ref a_m_done, .ref a_m_reached, .ref a_m_open, .ref a_m_lateDelay, .ref a_m_earlyDelay, .ref a_m_lateSlope, .ref a_m_earlySlope, .ref a_m_greatest, .ref a_m_least, .ref a_m_howMany, .ref a_m_most, .ref a_m_fewest, .ref a_m_pathsTo, .ref a_m_slackOf, .ref a_m_holdOf, .int f_m_listed, .ref a_m_listSlack, .ref a_m_listStart, .ref a_m_listEdge, .ref a_m_listSize, .ref a_m_listCell, .ref a_m_listInput, .ref a_m_rank, .ref a_m_good, .ref a_m_goCell, .ref a_m_goInput, .ref a_m_goEdge, .ref a_m_goMask, .int f_m_target, .int f_m_shown, .ref a_m_shownCell, .ref a_m_shownInput, .ref a_m_shownEdge, .ref a_m_shownLate, .int f_m_shownSlack, .int f_m_shownHold])), (a_m_inputs, aI E 50 g_m_inputs)]) [1, 0] rfl) (hD.sub (ws' := [(o_m, .inr (10, [.int f_m_code, .int f_m_cells, .ref a_m_kind, .ref a_m_inputs, .ref a_m_tableOf, .ref a_m_size, .ref a_m_extra, .ref a_m_taken, .ref a_m_portEarly, .ref a_m_portLate, .ref a_m_portSlope, .ref a_m_nodeOf, .ref a_m_setup, .ref a_m_hold, .ref a_m_seen, .ref a_m_numbers, .ref a_m_rowSize, .ref a_m_fall, .int f_m_late, .int f_m_early, .int f_m_period, .int f_m_nodes, .ref a_m_parent, .ref a_m_nodeEarly, .ref a_m_nodeLate, .int f_m_exceptions, .ref a_m_periods, .ref a_m_from, .ref a_m_through, .ref a_m_toward, .int f_m_fails, .ref a_m_order, .int f_m_ordered, .ref a_m_done, .ref a_m_reached, .ref a_m_open, .ref a_m_lateDelay, .ref a_m_earlyDelay, .ref a_m_lateSlope, .ref a_m_earlySlope, .ref a_m_greatest, .ref a_m_least, .ref a_m_howMany, .ref a_m_most, .ref a_m_fewest, .ref a_m_pathsTo, .ref a_m_slackOf, .ref a_m_holdOf, .int f_m_listed, .ref a_m_listSlack, .ref a_m_listStart, .ref a_m_listEdge, .ref a_m_listSize, .ref a_m_listCell, .ref a_m_listInput, .ref a_m_rank, .ref a_m_good, .ref a_m_goCell, .ref a_m_goInput, .ref a_m_goEdge, .ref a_m_goMask, .int f_m_target, .int f_m_shown, .ref a_m_shownCell, .ref a_m_shownInput, .ref a_m_shownEdge, .ref a_m_shownLate, .int f_m_shownSlack, .int f_m_shownHold])), (a_m_inputs, aI E 50 g_m_inputs)]) [1, 0] (by decide) rfl) hS rfl dX10_isInput_27 (Nat.le_of_ble_eq_true rfl) (Nat.le_of_ble_eq_true rfl) ⟨(by decide), (by have e9 : (0 : Int32).toInt = 0 := rfl; omega), rfl⟩
    · have e_3 : 0 ≤ p2.toInt := i3_nlt c_3
      refine lv_iload_n hx hb dX10_isInput_12 rfl (lv_at hl 2 rfl) ?_
      refine lv_aload_n hx hb dX10_isInput_13 rfl (lv_at hl 0 rfl) ?_
      refine va_get (D := E.1) (ci := 10) (v := .ref a_m_inputs) (own := RX10) (C := RX10) (T := TX10) (N := 69) hx hb hts i_m_isInput_X10 hown hK hP 1 rfl rfl 3 (by decide) (hto (.fieldLink RX10 14 "TimingHouseModel" "inputs" "[I") (by decide +kernel)) (fun _ h9 => h9) rfl dX10_isInput_14 ?_
      refine lv_iload_n hx hb dX10_isInput_17 rfl (lv_at hl 1 rfl) ?_
      refine ld_i hx hb hK hP 0 rfl (by omega) dX10_isInput_18 (fun x_4 ex_4 => ?_)
      have b_x_4 := AR.rd i_g_m_inputs ex_4 (by omega)
      refine lv_icmp_ge (tgt := 26) hx hb dX10_isInput_19 (by decide) (fun c_5 => ?_) (fun c_5 => ?_)
      · have e_5 : x_4.toInt ≤ p2.toInt := i3_le c_5
        refine lv_iconst (v := 0) hx hb dX10_isInput_26 (by decide) ?_
        exact ret_i hx hb hr hlk (hP.sub (ws' := [(o_m, .inr (10, [.int f_m_code, .int f_m_cells, .ref a_m_kind, .ref a_m_inputs, .ref a_m_tableOf, .ref a_m_size, .ref a_m_extra, .ref a_m_taken, .ref a_m_portEarly, .ref a_m_portLate, .ref a_m_portSlope, .ref a_m_nodeOf, .ref a_m_setup, .ref a_m_hold, .ref a_m_seen, .ref a_m_numbers, .ref a_m_rowSize, .ref a_m_fall, .int f_m_late, .int f_m_early, .int f_m_period, .int f_m_nodes, .ref a_m_parent, .ref a_m_nodeEarly, .ref a_m_nodeLate, .int f_m_exceptions, .ref a_m_periods, .ref a_m_from, .ref a_m_through, .ref a_m_toward, .int f_m_fails, .ref a_m_order, .int f_m_ordered, .ref a_m_done, .ref a_m_reached, .ref a_m_open, .ref a_m_lateDelay, .ref a_m_earlyDelay, .ref a_m_lateSlope, .ref a_m_earlySlope, .ref a_m_greatest, .ref a_m_least, .ref a_m_howMany, .ref a_m_most, .ref a_m_fewest, .ref a_m_pathsTo, .ref a_m_slackOf, .ref a_m_holdOf, .int f_m_listed, .ref a_m_listSlack, .ref a_m_listStart, .ref a_m_listEdge, .ref a_m_listSize, .ref a_m_listCell, .ref a_m_listInput, .ref a_m_rank, .ref a_m_good, .ref a_m_goCell, .ref a_m_goInput, .ref a_m_goEdge, .ref a_m_goMask, .int f_m_target, .int f_m_shown, .ref a_m_shownCell, .ref a_m_shownInput, .ref a_m_shownEdge, .ref a_m_shownLate, .int f_m_shownSlack, .int f_m_shownHold])), (a_m_inputs, aI E 50 g_m_inputs)]) [1, 0] rfl) (hD.sub (ws' := [(o_m, .inr (10, [.int f_m_code, .int f_m_cells, .ref a_m_kind, .ref a_m_inputs, .ref a_m_tableOf, .ref a_m_size, .ref a_m_extra, .ref a_m_taken, .ref a_m_portEarly, .ref a_m_portLate, .ref a_m_portSlope, .ref a_m_nodeOf, .ref a_m_setup, .ref a_m_hold, .ref a_m_seen, .ref a_m_numbers, .ref a_m_rowSize, .ref a_m_fall, .int f_m_late, .int f_m_early, .int f_m_period, .int f_m_nodes, .ref a_m_parent, .ref a_m_nodeEarly, .ref a_m_nodeLate, .int f_m_exceptions, .ref a_m_periods, .ref a_m_from, .ref a_m_through, .ref a_m_toward, .int f_m_fails, .ref a_m_order, .int f_m_ordered, .ref a_m_done, .ref a_m_reached, .ref a_m_open, .ref a_m_lateDelay, .ref a_m_earlyDelay, .ref a_m_lateSlope, .ref a_m_earlySlope, .ref a_m_greatest, .ref a_m_least, .ref a_m_howMany, .ref a_m_most, .ref a_m_fewest, .ref a_m_pathsTo, .ref a_m_slackOf, .ref a_m_holdOf, .int f_m_listed, .ref a_m_listSlack, .ref a_m_listStart, .ref a_m_listEdge, .ref a_m_listSize, .ref a_m_listCell, .ref a_m_listInput, .ref a_m_rank, .ref a_m_good, .ref a_m_goCell, .ref a_m_goInput, .ref a_m_goEdge, .ref a_m_goMask, .int f_m_target, .int f_m_shown, .ref a_m_shownCell, .ref a_m_shownInput, .ref a_m_shownEdge, .ref a_m_shownLate, .int f_m_shownSlack, .int f_m_shownHold])), (a_m_inputs, aI E 50 g_m_inputs)]) [1, 0] (by decide) rfl) hS rfl dX10_isInput_27 (Nat.le_of_ble_eq_true rfl) (Nat.le_of_ble_eq_true rfl) ⟨(by decide), (by have e9 : (0 : Int32).toInt = 0 := rfl; omega), rfl⟩
      · have e_5 : p2.toInt < x_4.toInt := i3_nle c_5
        refine lv_iconst (v := 1) hx hb dX10_isInput_22 (by decide) ?_
        refine lv_goto (tgt := 27) hx hb dX10_isInput_23 (by decide) ?_
        exact ret_i hx hb hr hlk (hP.sub (ws' := [(o_m, .inr (10, [.int f_m_code, .int f_m_cells, .ref a_m_kind, .ref a_m_inputs, .ref a_m_tableOf, .ref a_m_size, .ref a_m_extra, .ref a_m_taken, .ref a_m_portEarly, .ref a_m_portLate, .ref a_m_portSlope, .ref a_m_nodeOf, .ref a_m_setup, .ref a_m_hold, .ref a_m_seen, .ref a_m_numbers, .ref a_m_rowSize, .ref a_m_fall, .int f_m_late, .int f_m_early, .int f_m_period, .int f_m_nodes, .ref a_m_parent, .ref a_m_nodeEarly, .ref a_m_nodeLate, .int f_m_exceptions, .ref a_m_periods, .ref a_m_from, .ref a_m_through, .ref a_m_toward, .int f_m_fails, .ref a_m_order, .int f_m_ordered, .ref a_m_done, .ref a_m_reached, .ref a_m_open, .ref a_m_lateDelay, .ref a_m_earlyDelay, .ref a_m_lateSlope, .ref a_m_earlySlope, .ref a_m_greatest, .ref a_m_least, .ref a_m_howMany, .ref a_m_most, .ref a_m_fewest, .ref a_m_pathsTo, .ref a_m_slackOf, .ref a_m_holdOf, .int f_m_listed, .ref a_m_listSlack, .ref a_m_listStart, .ref a_m_listEdge, .ref a_m_listSize, .ref a_m_listCell, .ref a_m_listInput, .ref a_m_rank, .ref a_m_good, .ref a_m_goCell, .ref a_m_goInput, .ref a_m_goEdge, .ref a_m_goMask, .int f_m_target, .int f_m_shown, .ref a_m_shownCell, .ref a_m_shownInput, .ref a_m_shownEdge, .ref a_m_shownLate, .int f_m_shownSlack, .int f_m_shownHold])), (a_m_inputs, aI E 50 g_m_inputs)]) [1, 0] rfl) (hD.sub (ws' := [(o_m, .inr (10, [.int f_m_code, .int f_m_cells, .ref a_m_kind, .ref a_m_inputs, .ref a_m_tableOf, .ref a_m_size, .ref a_m_extra, .ref a_m_taken, .ref a_m_portEarly, .ref a_m_portLate, .ref a_m_portSlope, .ref a_m_nodeOf, .ref a_m_setup, .ref a_m_hold, .ref a_m_seen, .ref a_m_numbers, .ref a_m_rowSize, .ref a_m_fall, .int f_m_late, .int f_m_early, .int f_m_period, .int f_m_nodes, .ref a_m_parent, .ref a_m_nodeEarly, .ref a_m_nodeLate, .int f_m_exceptions, .ref a_m_periods, .ref a_m_from, .ref a_m_through, .ref a_m_toward, .int f_m_fails, .ref a_m_order, .int f_m_ordered, .ref a_m_done, .ref a_m_reached, .ref a_m_open, .ref a_m_lateDelay, .ref a_m_earlyDelay, .ref a_m_lateSlope, .ref a_m_earlySlope, .ref a_m_greatest, .ref a_m_least, .ref a_m_howMany, .ref a_m_most, .ref a_m_fewest, .ref a_m_pathsTo, .ref a_m_slackOf, .ref a_m_holdOf, .int f_m_listed, .ref a_m_listSlack, .ref a_m_listStart, .ref a_m_listEdge, .ref a_m_listSize, .ref a_m_listCell, .ref a_m_listInput, .ref a_m_rank, .ref a_m_good, .ref a_m_goCell, .ref a_m_goInput, .ref a_m_goEdge, .ref a_m_goMask, .int f_m_target, .int f_m_shown, .ref a_m_shownCell, .ref a_m_shownInput, .ref a_m_shownEdge, .ref a_m_shownLate, .int f_m_shownSlack, .int f_m_shownHold])), (a_m_inputs, aI E 50 g_m_inputs)]) [1, 0] (by decide) rfl) hS rfl dX10_isInput_27 (Nat.le_of_ble_eq_true rfl) (Nat.le_of_ble_eq_true rfl) ⟨(by decide), (by have e9 : (1 : Int32).toInt = 1 := rfl; omega), rfl⟩
theorem dX10_isGate_0 : decode cX10_isGate 0 = .ok (.aload_n 0, 1) := by decide +kernel
theorem dX10_isGate_1 : decode cX10_isGate 1 = .ok (.getfield 18, 3) := by decide +kernel
theorem dX10_isGate_4 : decode cX10_isGate 4 = .ok (.iload_n 1, 1) := by decide +kernel
theorem dX10_isGate_5 : decode cX10_isGate 5 = .ok (.iaload, 1) := by decide +kernel
theorem dX10_isGate_6 : decode cX10_isGate 6 = .ok (.ifCond .le 17, 3) := by decide +kernel
theorem dX10_isGate_23 : decode cX10_isGate 23 = .ok (.iconst 0, 1) := by decide +kernel
theorem dX10_isGate_24 : decode cX10_isGate 24 = .ok (.ireturn, 1) := by decide +kernel
theorem dX10_isGate_9 : decode cX10_isGate 9 = .ok (.aload_n 0, 1) := by decide +kernel
theorem dX10_isGate_10 : decode cX10_isGate 10 = .ok (.getfield 18, 3) := by decide +kernel
theorem dX10_isGate_13 : decode cX10_isGate 13 = .ok (.iload_n 1, 1) := by decide +kernel
theorem dX10_isGate_14 : decode cX10_isGate 14 = .ok (.iaload, 1) := by decide +kernel
theorem dX10_isGate_15 : decode cX10_isGate 15 = .ok (.iconst 4, 1) := by decide +kernel
theorem dX10_isGate_16 : decode cX10_isGate 16 = .ok (.if_icmp .ge 7, 3) := by decide +kernel
theorem dX10_isGate_19 : decode cX10_isGate 19 = .ok (.iconst 1, 1) := by decide +kernel
theorem dX10_isGate_20 : decode cX10_isGate 20 = .ok (.goto 4, 3) := by decide +kernel
def wo_m_isGate : List Cond := [.code yX10_isGate cX10_isGate 2 (some .boolean), .fieldLink RX10 18 "TimingHouseModel" "kind" "[I"]
def wr_m_isGate : List Cond := (wsX100 ++ ([]))
def w_m_isGate : List Cond := wo_m_isGate ++ wr_m_isGate
theorem wg_m_isGate : GW w_m_isGate := GW_app (GW_of (by decide +kernel)) (GW_app (GW_of (by decide +kernel)) (GW_nil))
theorem i_m_isGate_X10 : ∀ w ∈ wsX100, w ∈ w_m_isGate := fun _ h => List.mem_append_right _ (List.mem_append_left _ h)
set_option maxHeartbeats 8000000 in
set_option maxRecDepth 100000 in
theorem m_isGate (l : Launch) (E : gE) (o_m a_m_kind a_m_inputs a_m_tableOf a_m_size a_m_extra a_m_taken a_m_portEarly a_m_portLate a_m_portSlope a_m_nodeOf a_m_setup a_m_hold a_m_seen a_m_numbers a_m_rowSize a_m_fall a_m_parent a_m_nodeEarly a_m_nodeLate a_m_periods a_m_from a_m_through a_m_toward a_m_order a_m_done a_m_reached a_m_open a_m_lateDelay a_m_earlyDelay a_m_lateSlope a_m_earlySlope a_m_greatest a_m_least a_m_howMany a_m_most a_m_fewest a_m_pathsTo a_m_slackOf a_m_holdOf a_m_listSlack a_m_listStart a_m_listEdge a_m_listSize a_m_listCell a_m_listInput a_m_rank a_m_good a_m_goCell a_m_goInput a_m_goEdge a_m_goMask a_m_shownCell a_m_shownInput a_m_shownEdge a_m_shownLate : Nat) (f_m_code f_m_cells f_m_late f_m_early f_m_period f_m_nodes f_m_exceptions f_m_fails f_m_ordered f_m_listed f_m_target f_m_shown f_m_shownSlack f_m_shownHold p1 : Int32) (g_m_kind : Nat → Int32) (r_f_m_cells : RG f_m_cells 0 50) (r_f_m_late : RG f_m_late 0 500) (r_f_m_early : RG f_m_early 0 500) (r_f_m_period : RG f_m_period 1 1000000) (r_f_m_nodes : RG f_m_nodes 0 20) (r_f_m_exceptions : RG f_m_exceptions 0 4) (r_f_m_ordered : RG f_m_ordered 0 50) (r_f_m_listed : RG f_m_listed 0 1000) (r_f_m_target : RG f_m_target 0 49) (r_f_m_shown : RG f_m_shown 0 52) (i_g_m_kind : AR g_m_kind 50 0 5) (r_p1 : RG p1 0 49) : CtI l E yX10_isGate w_m_isGate ({ frames := 0, cells := 0, slots := 0, locals := 0 }) [(o_m, .inr (10, [.int f_m_code, .int f_m_cells, .ref a_m_kind, .ref a_m_inputs, .ref a_m_tableOf, .ref a_m_size, .ref a_m_extra, .ref a_m_taken, .ref a_m_portEarly, .ref a_m_portLate, .ref a_m_portSlope, .ref a_m_nodeOf, .ref a_m_setup, .ref a_m_hold, .ref a_m_seen, .ref a_m_numbers, .ref a_m_rowSize, .ref a_m_fall, .int f_m_late, .int f_m_early, .int f_m_period, .int f_m_nodes, .ref a_m_parent, .ref a_m_nodeEarly, .ref a_m_nodeLate, .int f_m_exceptions, .ref a_m_periods, .ref a_m_from, .ref a_m_through, .ref a_m_toward, .int f_m_fails, .ref a_m_order, .int f_m_ordered, .ref a_m_done, .ref a_m_reached, .ref a_m_open, .ref a_m_lateDelay, .ref a_m_earlyDelay, .ref a_m_lateSlope, .ref a_m_earlySlope, .ref a_m_greatest, .ref a_m_least, .ref a_m_howMany, .ref a_m_most, .ref a_m_fewest, .ref a_m_pathsTo, .ref a_m_slackOf, .ref a_m_holdOf, .int f_m_listed, .ref a_m_listSlack, .ref a_m_listStart, .ref a_m_listEdge, .ref a_m_listSize, .ref a_m_listCell, .ref a_m_listInput, .ref a_m_rank, .ref a_m_good, .ref a_m_goCell, .ref a_m_goInput, .ref a_m_goEdge, .ref a_m_goMask, .int f_m_target, .int f_m_shown, .ref a_m_shownCell, .ref a_m_shownInput, .ref a_m_shownEdge, .ref a_m_shownLate, .int f_m_shownSlack, .int f_m_shownHold])), (a_m_kind, aI E 50 g_m_kind)] [.ref o_m, .int p1] (fun r w => (0 ≤ r.toInt ∧ r.toInt ≤ 1) ∧ w = [(o_m, .inr (10, [.int f_m_code, .int f_m_cells, .ref a_m_kind, .ref a_m_inputs, .ref a_m_tableOf, .ref a_m_size, .ref a_m_extra, .ref a_m_taken, .ref a_m_portEarly, .ref a_m_portLate, .ref a_m_portSlope, .ref a_m_nodeOf, .ref a_m_setup, .ref a_m_hold, .ref a_m_seen, .ref a_m_numbers, .ref a_m_rowSize, .ref a_m_fall, .int f_m_late, .int f_m_early, .int f_m_period, .int f_m_nodes, .ref a_m_parent, .ref a_m_nodeEarly, .ref a_m_nodeLate, .int f_m_exceptions, .ref a_m_periods, .ref a_m_from, .ref a_m_through, .ref a_m_toward, .int f_m_fails, .ref a_m_order, .int f_m_ordered, .ref a_m_done, .ref a_m_reached, .ref a_m_open, .ref a_m_lateDelay, .ref a_m_earlyDelay, .ref a_m_lateSlope, .ref a_m_earlySlope, .ref a_m_greatest, .ref a_m_least, .ref a_m_howMany, .ref a_m_most, .ref a_m_fewest, .ref a_m_pathsTo, .ref a_m_slackOf, .ref a_m_holdOf, .int f_m_listed, .ref a_m_listSlack, .ref a_m_listStart, .ref a_m_listEdge, .ref a_m_listSize, .ref a_m_listCell, .ref a_m_listInput, .ref a_m_rank, .ref a_m_good, .ref a_m_goCell, .ref a_m_goInput, .ref a_m_goEdge, .ref a_m_goMask, .int f_m_target, .int f_m_shown, .ref a_m_shownCell, .ref a_m_shownInput, .ref a_m_shownEdge, .ref a_m_shownLate, .int f_m_shownSlack, .int f_m_shownHold])), (a_m_kind, aI E 50 g_m_kind)]) := by
  refine CtI.of (cc := cX10_isGate) (maxL := 2) (rt := (some .boolean)) (by decide) rfl (Nat.le_of_ble_eq_true rfl) ?_
  intro p e s m below meth c A B ls hl
  obtain ⟨hx, hb, hml, hr, hlk, hin, hts, hown, hK, hN, hZ, hA, hP, hD, hS⟩ := B
  replace hown : s.vm.findClass RX10 = some m.cls := hown
  have hto : ∀ w ∈ wo_m_isGate, w.before _ s = true := fun w h => hts w (List.mem_append_left _ h)
  replace hl : lv_has ls 2 [(0, .ref o_m), (1, .int p1)] := hl
  obtain ⟨H, hHe⟩ : ∃ H, H = s.heap := ⟨_, rfl⟩
  obtain ⟨locs, hle⟩ : ∃ l : List Loc, l = [] := ⟨_, rfl⟩
  replace hS : va_S A s.heap H locs := by rw [hHe, hle]; exact hS
  replace hP : va_P E.1 vwCl [(o_m, .inr (10, [.int f_m_code, .int f_m_cells, .ref a_m_kind, .ref a_m_inputs, .ref a_m_tableOf, .ref a_m_size, .ref a_m_extra, .ref a_m_taken, .ref a_m_portEarly, .ref a_m_portLate, .ref a_m_portSlope, .ref a_m_nodeOf, .ref a_m_setup, .ref a_m_hold, .ref a_m_seen, .ref a_m_numbers, .ref a_m_rowSize, .ref a_m_fall, .int f_m_late, .int f_m_early, .int f_m_period, .int f_m_nodes, .ref a_m_parent, .ref a_m_nodeEarly, .ref a_m_nodeLate, .int f_m_exceptions, .ref a_m_periods, .ref a_m_from, .ref a_m_through, .ref a_m_toward, .int f_m_fails, .ref a_m_order, .int f_m_ordered, .ref a_m_done, .ref a_m_reached, .ref a_m_open, .ref a_m_lateDelay, .ref a_m_earlyDelay, .ref a_m_lateSlope, .ref a_m_earlySlope, .ref a_m_greatest, .ref a_m_least, .ref a_m_howMany, .ref a_m_most, .ref a_m_fewest, .ref a_m_pathsTo, .ref a_m_slackOf, .ref a_m_holdOf, .int f_m_listed, .ref a_m_listSlack, .ref a_m_listStart, .ref a_m_listEdge, .ref a_m_listSize, .ref a_m_listCell, .ref a_m_listInput, .ref a_m_rank, .ref a_m_good, .ref a_m_goCell, .ref a_m_goInput, .ref a_m_goEdge, .ref a_m_goMask, .int f_m_target, .int f_m_shown, .ref a_m_shownCell, .ref a_m_shownInput, .ref a_m_shownEdge, .ref a_m_shownLate, .int f_m_shownSlack, .int f_m_shownHold])), (a_m_kind, aI E 50 g_m_kind)] H := by rw [hHe]; exact hP
  refine W_hl hHe hle ?_
  clear hHe hle
  refine lv_aload_n hx hb dX10_isGate_0 rfl (lv_at hl 0 rfl) ?_
  refine va_get (D := E.1) (ci := 10) (v := .ref a_m_kind) (own := RX10) (C := RX10) (T := TX10) (N := 69) hx hb hts i_m_isGate_X10 hown hK hP 0 rfl rfl 2 (by decide) (hto (.fieldLink RX10 18 "TimingHouseModel" "kind" "[I") (by decide +kernel)) (fun _ h9 => h9) rfl dX10_isGate_1 ?_
  refine lv_iload_n hx hb dX10_isGate_4 rfl (lv_at hl 1 rfl) ?_
  have b_p1 := r_p1.out
  refine ld_i hx hb hK hP 1 rfl (by omega) dX10_isGate_5 (fun x_1 ex_1 => ?_)
  have b_x_1 := AR.rd i_g_m_kind ex_1 (by omega)
  refine lv_if_le (tgt := 23) hx hb dX10_isGate_6 (by decide) (fun c_2 => ?_) (fun c_2 => ?_)
  · have e_2 : x_1.toInt ≤ 0 := i3_le c_2
    refine lv_iconst (v := 0) hx hb dX10_isGate_23 (by decide) ?_
    exact ret_i hx hb hr hlk (hP.sub (ws' := [(o_m, .inr (10, [.int f_m_code, .int f_m_cells, .ref a_m_kind, .ref a_m_inputs, .ref a_m_tableOf, .ref a_m_size, .ref a_m_extra, .ref a_m_taken, .ref a_m_portEarly, .ref a_m_portLate, .ref a_m_portSlope, .ref a_m_nodeOf, .ref a_m_setup, .ref a_m_hold, .ref a_m_seen, .ref a_m_numbers, .ref a_m_rowSize, .ref a_m_fall, .int f_m_late, .int f_m_early, .int f_m_period, .int f_m_nodes, .ref a_m_parent, .ref a_m_nodeEarly, .ref a_m_nodeLate, .int f_m_exceptions, .ref a_m_periods, .ref a_m_from, .ref a_m_through, .ref a_m_toward, .int f_m_fails, .ref a_m_order, .int f_m_ordered, .ref a_m_done, .ref a_m_reached, .ref a_m_open, .ref a_m_lateDelay, .ref a_m_earlyDelay, .ref a_m_lateSlope, .ref a_m_earlySlope, .ref a_m_greatest, .ref a_m_least, .ref a_m_howMany, .ref a_m_most, .ref a_m_fewest, .ref a_m_pathsTo, .ref a_m_slackOf, .ref a_m_holdOf, .int f_m_listed, .ref a_m_listSlack, .ref a_m_listStart, .ref a_m_listEdge, .ref a_m_listSize, .ref a_m_listCell, .ref a_m_listInput, .ref a_m_rank, .ref a_m_good, .ref a_m_goCell, .ref a_m_goInput, .ref a_m_goEdge, .ref a_m_goMask, .int f_m_target, .int f_m_shown, .ref a_m_shownCell, .ref a_m_shownInput, .ref a_m_shownEdge, .ref a_m_shownLate, .int f_m_shownSlack, .int f_m_shownHold])), (a_m_kind, aI E 50 g_m_kind)]) [0, 1] rfl) (hD.sub (ws' := [(o_m, .inr (10, [.int f_m_code, .int f_m_cells, .ref a_m_kind, .ref a_m_inputs, .ref a_m_tableOf, .ref a_m_size, .ref a_m_extra, .ref a_m_taken, .ref a_m_portEarly, .ref a_m_portLate, .ref a_m_portSlope, .ref a_m_nodeOf, .ref a_m_setup, .ref a_m_hold, .ref a_m_seen, .ref a_m_numbers, .ref a_m_rowSize, .ref a_m_fall, .int f_m_late, .int f_m_early, .int f_m_period, .int f_m_nodes, .ref a_m_parent, .ref a_m_nodeEarly, .ref a_m_nodeLate, .int f_m_exceptions, .ref a_m_periods, .ref a_m_from, .ref a_m_through, .ref a_m_toward, .int f_m_fails, .ref a_m_order, .int f_m_ordered, .ref a_m_done, .ref a_m_reached, .ref a_m_open, .ref a_m_lateDelay, .ref a_m_earlyDelay, .ref a_m_lateSlope, .ref a_m_earlySlope, .ref a_m_greatest, .ref a_m_least, .ref a_m_howMany, .ref a_m_most, .ref a_m_fewest, .ref a_m_pathsTo, .ref a_m_slackOf, .ref a_m_holdOf, .int f_m_listed, .ref a_m_listSlack, .ref a_m_listStart, .ref a_m_listEdge, .ref a_m_listSize, .ref a_m_listCell, .ref a_m_listInput, .ref a_m_rank, .ref a_m_good, .ref a_m_goCell, .ref a_m_goInput, .ref a_m_goEdge, .ref a_m_goMask, .int f_m_target, .int f_m_shown, .ref a_m_shownCell, .ref a_m_shownInput, .ref a_m_shownEdge, .ref a_m_shownLate, .int f_m_shownSlack, .int f_m_shownHold])), (a_m_kind, aI E 50 g_m_kind)]) [0, 1] (by decide) rfl) hS rfl dX10_isGate_24 (Nat.le_of_ble_eq_true rfl) (Nat.le_of_ble_eq_true rfl) ⟨(by decide), rfl⟩
  · have e_2 : 0 < x_1.toInt := i3_nle c_2
    refine lv_aload_n hx hb dX10_isGate_9 rfl (lv_at hl 0 rfl) ?_
    refine va_get (D := E.1) (ci := 10) (v := .ref a_m_kind) (own := RX10) (C := RX10) (T := TX10) (N := 69) hx hb hts i_m_isGate_X10 hown hK hP 0 rfl rfl 2 (by decide) (hto (.fieldLink RX10 18 "TimingHouseModel" "kind" "[I") (by decide +kernel)) (fun _ h9 => h9) rfl dX10_isGate_10 ?_
    refine lv_iload_n hx hb dX10_isGate_13 rfl (lv_at hl 1 rfl) ?_
    refine ld_i hx hb hK hP 1 rfl (by omega) dX10_isGate_14 (fun x_3 ex_3 => ?_)
    have hq_x_3 : x_1 = x_3 := ex_1.trans ex_3.symm
    subst hq_x_3
    refine lv_iconst (v := 4) hx hb dX10_isGate_15 (by decide) ?_
    refine lv_icmp_ge (tgt := 23) hx hb dX10_isGate_16 (by decide) (fun c_4 => ?_) (fun c_4 => ?_)
    · have e_4 : 4 ≤ x_1.toInt := i3_le c_4
      refine lv_iconst (v := 0) hx hb dX10_isGate_23 (by decide) ?_
      exact ret_i hx hb hr hlk (hP.sub (ws' := [(o_m, .inr (10, [.int f_m_code, .int f_m_cells, .ref a_m_kind, .ref a_m_inputs, .ref a_m_tableOf, .ref a_m_size, .ref a_m_extra, .ref a_m_taken, .ref a_m_portEarly, .ref a_m_portLate, .ref a_m_portSlope, .ref a_m_nodeOf, .ref a_m_setup, .ref a_m_hold, .ref a_m_seen, .ref a_m_numbers, .ref a_m_rowSize, .ref a_m_fall, .int f_m_late, .int f_m_early, .int f_m_period, .int f_m_nodes, .ref a_m_parent, .ref a_m_nodeEarly, .ref a_m_nodeLate, .int f_m_exceptions, .ref a_m_periods, .ref a_m_from, .ref a_m_through, .ref a_m_toward, .int f_m_fails, .ref a_m_order, .int f_m_ordered, .ref a_m_done, .ref a_m_reached, .ref a_m_open, .ref a_m_lateDelay, .ref a_m_earlyDelay, .ref a_m_lateSlope, .ref a_m_earlySlope, .ref a_m_greatest, .ref a_m_least, .ref a_m_howMany, .ref a_m_most, .ref a_m_fewest, .ref a_m_pathsTo, .ref a_m_slackOf, .ref a_m_holdOf, .int f_m_listed, .ref a_m_listSlack, .ref a_m_listStart, .ref a_m_listEdge, .ref a_m_listSize, .ref a_m_listCell, .ref a_m_listInput, .ref a_m_rank, .ref a_m_good, .ref a_m_goCell, .ref a_m_goInput, .ref a_m_goEdge, .ref a_m_goMask, .int f_m_target, .int f_m_shown, .ref a_m_shownCell, .ref a_m_shownInput, .ref a_m_shownEdge, .ref a_m_shownLate, .int f_m_shownSlack, .int f_m_shownHold])), (a_m_kind, aI E 50 g_m_kind)]) [0, 1] rfl) (hD.sub (ws' := [(o_m, .inr (10, [.int f_m_code, .int f_m_cells, .ref a_m_kind, .ref a_m_inputs, .ref a_m_tableOf, .ref a_m_size, .ref a_m_extra, .ref a_m_taken, .ref a_m_portEarly, .ref a_m_portLate, .ref a_m_portSlope, .ref a_m_nodeOf, .ref a_m_setup, .ref a_m_hold, .ref a_m_seen, .ref a_m_numbers, .ref a_m_rowSize, .ref a_m_fall, .int f_m_late, .int f_m_early, .int f_m_period, .int f_m_nodes, .ref a_m_parent, .ref a_m_nodeEarly, .ref a_m_nodeLate, .int f_m_exceptions, .ref a_m_periods, .ref a_m_from, .ref a_m_through, .ref a_m_toward, .int f_m_fails, .ref a_m_order, .int f_m_ordered, .ref a_m_done, .ref a_m_reached, .ref a_m_open, .ref a_m_lateDelay, .ref a_m_earlyDelay, .ref a_m_lateSlope, .ref a_m_earlySlope, .ref a_m_greatest, .ref a_m_least, .ref a_m_howMany, .ref a_m_most, .ref a_m_fewest, .ref a_m_pathsTo, .ref a_m_slackOf, .ref a_m_holdOf, .int f_m_listed, .ref a_m_listSlack, .ref a_m_listStart, .ref a_m_listEdge, .ref a_m_listSize, .ref a_m_listCell, .ref a_m_listInput, .ref a_m_rank, .ref a_m_good, .ref a_m_goCell, .ref a_m_goInput, .ref a_m_goEdge, .ref a_m_goMask, .int f_m_target, .int f_m_shown, .ref a_m_shownCell, .ref a_m_shownInput, .ref a_m_shownEdge, .ref a_m_shownLate, .int f_m_shownSlack, .int f_m_shownHold])), (a_m_kind, aI E 50 g_m_kind)]) [0, 1] (by decide) rfl) hS rfl dX10_isGate_24 (Nat.le_of_ble_eq_true rfl) (Nat.le_of_ble_eq_true rfl) ⟨(by decide), rfl⟩
    · have e_4 : x_1.toInt < 4 := i3_nle c_4
      refine lv_iconst (v := 1) hx hb dX10_isGate_19 (by decide) ?_
      refine lv_goto (tgt := 24) hx hb dX10_isGate_20 (by decide) ?_
      exact ret_i hx hb hr hlk (hP.sub (ws' := [(o_m, .inr (10, [.int f_m_code, .int f_m_cells, .ref a_m_kind, .ref a_m_inputs, .ref a_m_tableOf, .ref a_m_size, .ref a_m_extra, .ref a_m_taken, .ref a_m_portEarly, .ref a_m_portLate, .ref a_m_portSlope, .ref a_m_nodeOf, .ref a_m_setup, .ref a_m_hold, .ref a_m_seen, .ref a_m_numbers, .ref a_m_rowSize, .ref a_m_fall, .int f_m_late, .int f_m_early, .int f_m_period, .int f_m_nodes, .ref a_m_parent, .ref a_m_nodeEarly, .ref a_m_nodeLate, .int f_m_exceptions, .ref a_m_periods, .ref a_m_from, .ref a_m_through, .ref a_m_toward, .int f_m_fails, .ref a_m_order, .int f_m_ordered, .ref a_m_done, .ref a_m_reached, .ref a_m_open, .ref a_m_lateDelay, .ref a_m_earlyDelay, .ref a_m_lateSlope, .ref a_m_earlySlope, .ref a_m_greatest, .ref a_m_least, .ref a_m_howMany, .ref a_m_most, .ref a_m_fewest, .ref a_m_pathsTo, .ref a_m_slackOf, .ref a_m_holdOf, .int f_m_listed, .ref a_m_listSlack, .ref a_m_listStart, .ref a_m_listEdge, .ref a_m_listSize, .ref a_m_listCell, .ref a_m_listInput, .ref a_m_rank, .ref a_m_good, .ref a_m_goCell, .ref a_m_goInput, .ref a_m_goEdge, .ref a_m_goMask, .int f_m_target, .int f_m_shown, .ref a_m_shownCell, .ref a_m_shownInput, .ref a_m_shownEdge, .ref a_m_shownLate, .int f_m_shownSlack, .int f_m_shownHold])), (a_m_kind, aI E 50 g_m_kind)]) [0, 1] rfl) (hD.sub (ws' := [(o_m, .inr (10, [.int f_m_code, .int f_m_cells, .ref a_m_kind, .ref a_m_inputs, .ref a_m_tableOf, .ref a_m_size, .ref a_m_extra, .ref a_m_taken, .ref a_m_portEarly, .ref a_m_portLate, .ref a_m_portSlope, .ref a_m_nodeOf, .ref a_m_setup, .ref a_m_hold, .ref a_m_seen, .ref a_m_numbers, .ref a_m_rowSize, .ref a_m_fall, .int f_m_late, .int f_m_early, .int f_m_period, .int f_m_nodes, .ref a_m_parent, .ref a_m_nodeEarly, .ref a_m_nodeLate, .int f_m_exceptions, .ref a_m_periods, .ref a_m_from, .ref a_m_through, .ref a_m_toward, .int f_m_fails, .ref a_m_order, .int f_m_ordered, .ref a_m_done, .ref a_m_reached, .ref a_m_open, .ref a_m_lateDelay, .ref a_m_earlyDelay, .ref a_m_lateSlope, .ref a_m_earlySlope, .ref a_m_greatest, .ref a_m_least, .ref a_m_howMany, .ref a_m_most, .ref a_m_fewest, .ref a_m_pathsTo, .ref a_m_slackOf, .ref a_m_holdOf, .int f_m_listed, .ref a_m_listSlack, .ref a_m_listStart, .ref a_m_listEdge, .ref a_m_listSize, .ref a_m_listCell, .ref a_m_listInput, .ref a_m_rank, .ref a_m_good, .ref a_m_goCell, .ref a_m_goInput, .ref a_m_goEdge, .ref a_m_goMask, .int f_m_target, .int f_m_shown, .ref a_m_shownCell, .ref a_m_shownInput, .ref a_m_shownEdge, .ref a_m_shownLate, .int f_m_shownSlack, .int f_m_shownHold])), (a_m_kind, aI E 50 g_m_kind)]) [0, 1] (by decide) rfl) hS rfl dX10_isGate_24 (Nat.le_of_ble_eq_true rfl) (Nat.le_of_ble_eq_true rfl) ⟨(by decide), rfl⟩
theorem dX10_isTarget_0 : decode cX10_isTarget 0 = .ok (.aload_n 0, 1) := by decide +kernel
theorem dX10_isTarget_1 : decode cX10_isTarget 1 = .ok (.getfield 18, 3) := by decide +kernel
theorem dX10_isTarget_4 : decode cX10_isTarget 4 = .ok (.iload_n 1, 1) := by decide +kernel
theorem dX10_isTarget_5 : decode cX10_isTarget 5 = .ok (.iaload, 1) := by decide +kernel
theorem dX10_isTarget_6 : decode cX10_isTarget 6 = .ok (.iconst 3, 1) := by decide +kernel
theorem dX10_isTarget_7 : decode cX10_isTarget 7 = .ok (.if_icmp .le 7, 3) := by decide +kernel
theorem dX10_isTarget_14 : decode cX10_isTarget 14 = .ok (.iconst 0, 1) := by decide +kernel
theorem dX10_isTarget_15 : decode cX10_isTarget 15 = .ok (.ireturn, 1) := by decide +kernel
theorem dX10_isTarget_10 : decode cX10_isTarget 10 = .ok (.iconst 1, 1) := by decide +kernel
theorem dX10_isTarget_11 : decode cX10_isTarget 11 = .ok (.goto 4, 3) := by decide +kernel
def wo_m_isTarget : List Cond := [.code yX10_isTarget cX10_isTarget 2 (some .boolean), .fieldLink RX10 18 "TimingHouseModel" "kind" "[I"]
def wr_m_isTarget : List Cond := (wsX100 ++ ([]))
def w_m_isTarget : List Cond := wo_m_isTarget ++ wr_m_isTarget
theorem wg_m_isTarget : GW w_m_isTarget := GW_app (GW_of (by decide +kernel)) (GW_app (GW_of (by decide +kernel)) (GW_nil))
theorem i_m_isTarget_X10 : ∀ w ∈ wsX100, w ∈ w_m_isTarget := fun _ h => List.mem_append_right _ (List.mem_append_left _ h)
set_option maxHeartbeats 8000000 in
set_option maxRecDepth 100000 in
theorem m_isTarget (l : Launch) (E : gE) (o_m a_m_kind a_m_inputs a_m_tableOf a_m_size a_m_extra a_m_taken a_m_portEarly a_m_portLate a_m_portSlope a_m_nodeOf a_m_setup a_m_hold a_m_seen a_m_numbers a_m_rowSize a_m_fall a_m_parent a_m_nodeEarly a_m_nodeLate a_m_periods a_m_from a_m_through a_m_toward a_m_order a_m_done a_m_reached a_m_open a_m_lateDelay a_m_earlyDelay a_m_lateSlope a_m_earlySlope a_m_greatest a_m_least a_m_howMany a_m_most a_m_fewest a_m_pathsTo a_m_slackOf a_m_holdOf a_m_listSlack a_m_listStart a_m_listEdge a_m_listSize a_m_listCell a_m_listInput a_m_rank a_m_good a_m_goCell a_m_goInput a_m_goEdge a_m_goMask a_m_shownCell a_m_shownInput a_m_shownEdge a_m_shownLate : Nat) (f_m_code f_m_cells f_m_late f_m_early f_m_period f_m_nodes f_m_exceptions f_m_fails f_m_ordered f_m_listed f_m_target f_m_shown f_m_shownSlack f_m_shownHold p1 : Int32) (g_m_kind : Nat → Int32) (r_f_m_cells : RG f_m_cells 0 50) (r_f_m_late : RG f_m_late 0 500) (r_f_m_early : RG f_m_early 0 500) (r_f_m_period : RG f_m_period 1 1000000) (r_f_m_nodes : RG f_m_nodes 0 20) (r_f_m_exceptions : RG f_m_exceptions 0 4) (r_f_m_ordered : RG f_m_ordered 0 50) (r_f_m_listed : RG f_m_listed 0 1000) (r_f_m_target : RG f_m_target 0 49) (r_f_m_shown : RG f_m_shown 0 52) (i_g_m_kind : AR g_m_kind 50 0 5) (r_p1 : RG p1 0 49) : CtI l E yX10_isTarget w_m_isTarget ({ frames := 0, cells := 0, slots := 0, locals := 0 }) [(o_m, .inr (10, [.int f_m_code, .int f_m_cells, .ref a_m_kind, .ref a_m_inputs, .ref a_m_tableOf, .ref a_m_size, .ref a_m_extra, .ref a_m_taken, .ref a_m_portEarly, .ref a_m_portLate, .ref a_m_portSlope, .ref a_m_nodeOf, .ref a_m_setup, .ref a_m_hold, .ref a_m_seen, .ref a_m_numbers, .ref a_m_rowSize, .ref a_m_fall, .int f_m_late, .int f_m_early, .int f_m_period, .int f_m_nodes, .ref a_m_parent, .ref a_m_nodeEarly, .ref a_m_nodeLate, .int f_m_exceptions, .ref a_m_periods, .ref a_m_from, .ref a_m_through, .ref a_m_toward, .int f_m_fails, .ref a_m_order, .int f_m_ordered, .ref a_m_done, .ref a_m_reached, .ref a_m_open, .ref a_m_lateDelay, .ref a_m_earlyDelay, .ref a_m_lateSlope, .ref a_m_earlySlope, .ref a_m_greatest, .ref a_m_least, .ref a_m_howMany, .ref a_m_most, .ref a_m_fewest, .ref a_m_pathsTo, .ref a_m_slackOf, .ref a_m_holdOf, .int f_m_listed, .ref a_m_listSlack, .ref a_m_listStart, .ref a_m_listEdge, .ref a_m_listSize, .ref a_m_listCell, .ref a_m_listInput, .ref a_m_rank, .ref a_m_good, .ref a_m_goCell, .ref a_m_goInput, .ref a_m_goEdge, .ref a_m_goMask, .int f_m_target, .int f_m_shown, .ref a_m_shownCell, .ref a_m_shownInput, .ref a_m_shownEdge, .ref a_m_shownLate, .int f_m_shownSlack, .int f_m_shownHold])), (a_m_kind, aI E 50 g_m_kind)] [.ref o_m, .int p1] (fun r w => (0 ≤ r.toInt ∧ r.toInt ≤ 1) ∧ w = [(o_m, .inr (10, [.int f_m_code, .int f_m_cells, .ref a_m_kind, .ref a_m_inputs, .ref a_m_tableOf, .ref a_m_size, .ref a_m_extra, .ref a_m_taken, .ref a_m_portEarly, .ref a_m_portLate, .ref a_m_portSlope, .ref a_m_nodeOf, .ref a_m_setup, .ref a_m_hold, .ref a_m_seen, .ref a_m_numbers, .ref a_m_rowSize, .ref a_m_fall, .int f_m_late, .int f_m_early, .int f_m_period, .int f_m_nodes, .ref a_m_parent, .ref a_m_nodeEarly, .ref a_m_nodeLate, .int f_m_exceptions, .ref a_m_periods, .ref a_m_from, .ref a_m_through, .ref a_m_toward, .int f_m_fails, .ref a_m_order, .int f_m_ordered, .ref a_m_done, .ref a_m_reached, .ref a_m_open, .ref a_m_lateDelay, .ref a_m_earlyDelay, .ref a_m_lateSlope, .ref a_m_earlySlope, .ref a_m_greatest, .ref a_m_least, .ref a_m_howMany, .ref a_m_most, .ref a_m_fewest, .ref a_m_pathsTo, .ref a_m_slackOf, .ref a_m_holdOf, .int f_m_listed, .ref a_m_listSlack, .ref a_m_listStart, .ref a_m_listEdge, .ref a_m_listSize, .ref a_m_listCell, .ref a_m_listInput, .ref a_m_rank, .ref a_m_good, .ref a_m_goCell, .ref a_m_goInput, .ref a_m_goEdge, .ref a_m_goMask, .int f_m_target, .int f_m_shown, .ref a_m_shownCell, .ref a_m_shownInput, .ref a_m_shownEdge, .ref a_m_shownLate, .int f_m_shownSlack, .int f_m_shownHold])), (a_m_kind, aI E 50 g_m_kind)]) := by
  refine CtI.of (cc := cX10_isTarget) (maxL := 2) (rt := (some .boolean)) (by decide) rfl (Nat.le_of_ble_eq_true rfl) ?_
  intro p e s m below meth c A B ls hl
  obtain ⟨hx, hb, hml, hr, hlk, hin, hts, hown, hK, hN, hZ, hA, hP, hD, hS⟩ := B
  replace hown : s.vm.findClass RX10 = some m.cls := hown
  have hto : ∀ w ∈ wo_m_isTarget, w.before _ s = true := fun w h => hts w (List.mem_append_left _ h)
  replace hl : lv_has ls 2 [(0, .ref o_m), (1, .int p1)] := hl
  obtain ⟨H, hHe⟩ : ∃ H, H = s.heap := ⟨_, rfl⟩
  obtain ⟨locs, hle⟩ : ∃ l : List Loc, l = [] := ⟨_, rfl⟩
  replace hS : va_S A s.heap H locs := by rw [hHe, hle]; exact hS
  replace hP : va_P E.1 vwCl [(o_m, .inr (10, [.int f_m_code, .int f_m_cells, .ref a_m_kind, .ref a_m_inputs, .ref a_m_tableOf, .ref a_m_size, .ref a_m_extra, .ref a_m_taken, .ref a_m_portEarly, .ref a_m_portLate, .ref a_m_portSlope, .ref a_m_nodeOf, .ref a_m_setup, .ref a_m_hold, .ref a_m_seen, .ref a_m_numbers, .ref a_m_rowSize, .ref a_m_fall, .int f_m_late, .int f_m_early, .int f_m_period, .int f_m_nodes, .ref a_m_parent, .ref a_m_nodeEarly, .ref a_m_nodeLate, .int f_m_exceptions, .ref a_m_periods, .ref a_m_from, .ref a_m_through, .ref a_m_toward, .int f_m_fails, .ref a_m_order, .int f_m_ordered, .ref a_m_done, .ref a_m_reached, .ref a_m_open, .ref a_m_lateDelay, .ref a_m_earlyDelay, .ref a_m_lateSlope, .ref a_m_earlySlope, .ref a_m_greatest, .ref a_m_least, .ref a_m_howMany, .ref a_m_most, .ref a_m_fewest, .ref a_m_pathsTo, .ref a_m_slackOf, .ref a_m_holdOf, .int f_m_listed, .ref a_m_listSlack, .ref a_m_listStart, .ref a_m_listEdge, .ref a_m_listSize, .ref a_m_listCell, .ref a_m_listInput, .ref a_m_rank, .ref a_m_good, .ref a_m_goCell, .ref a_m_goInput, .ref a_m_goEdge, .ref a_m_goMask, .int f_m_target, .int f_m_shown, .ref a_m_shownCell, .ref a_m_shownInput, .ref a_m_shownEdge, .ref a_m_shownLate, .int f_m_shownSlack, .int f_m_shownHold])), (a_m_kind, aI E 50 g_m_kind)] H := by rw [hHe]; exact hP
  refine W_hl hHe hle ?_
  clear hHe hle
  refine lv_aload_n hx hb dX10_isTarget_0 rfl (lv_at hl 0 rfl) ?_
  refine va_get (D := E.1) (ci := 10) (v := .ref a_m_kind) (own := RX10) (C := RX10) (T := TX10) (N := 69) hx hb hts i_m_isTarget_X10 hown hK hP 0 rfl rfl 2 (by decide) (hto (.fieldLink RX10 18 "TimingHouseModel" "kind" "[I") (by decide +kernel)) (fun _ h9 => h9) rfl dX10_isTarget_1 ?_
  refine lv_iload_n hx hb dX10_isTarget_4 rfl (lv_at hl 1 rfl) ?_
  have b_p1 := r_p1.out
  refine ld_i hx hb hK hP 1 rfl (by omega) dX10_isTarget_5 (fun x_1 ex_1 => ?_)
  have b_x_1 := AR.rd i_g_m_kind ex_1 (by omega)
  refine lv_iconst (v := 3) hx hb dX10_isTarget_6 (by decide) ?_
  refine lv_icmp_le (tgt := 14) hx hb dX10_isTarget_7 (by decide) (fun c_2 => ?_) (fun c_2 => ?_)
  · have e_2 : x_1.toInt ≤ 3 := i3_le c_2
    refine lv_iconst (v := 0) hx hb dX10_isTarget_14 (by decide) ?_
    exact ret_i hx hb hr hlk (hP.sub (ws' := [(o_m, .inr (10, [.int f_m_code, .int f_m_cells, .ref a_m_kind, .ref a_m_inputs, .ref a_m_tableOf, .ref a_m_size, .ref a_m_extra, .ref a_m_taken, .ref a_m_portEarly, .ref a_m_portLate, .ref a_m_portSlope, .ref a_m_nodeOf, .ref a_m_setup, .ref a_m_hold, .ref a_m_seen, .ref a_m_numbers, .ref a_m_rowSize, .ref a_m_fall, .int f_m_late, .int f_m_early, .int f_m_period, .int f_m_nodes, .ref a_m_parent, .ref a_m_nodeEarly, .ref a_m_nodeLate, .int f_m_exceptions, .ref a_m_periods, .ref a_m_from, .ref a_m_through, .ref a_m_toward, .int f_m_fails, .ref a_m_order, .int f_m_ordered, .ref a_m_done, .ref a_m_reached, .ref a_m_open, .ref a_m_lateDelay, .ref a_m_earlyDelay, .ref a_m_lateSlope, .ref a_m_earlySlope, .ref a_m_greatest, .ref a_m_least, .ref a_m_howMany, .ref a_m_most, .ref a_m_fewest, .ref a_m_pathsTo, .ref a_m_slackOf, .ref a_m_holdOf, .int f_m_listed, .ref a_m_listSlack, .ref a_m_listStart, .ref a_m_listEdge, .ref a_m_listSize, .ref a_m_listCell, .ref a_m_listInput, .ref a_m_rank, .ref a_m_good, .ref a_m_goCell, .ref a_m_goInput, .ref a_m_goEdge, .ref a_m_goMask, .int f_m_target, .int f_m_shown, .ref a_m_shownCell, .ref a_m_shownInput, .ref a_m_shownEdge, .ref a_m_shownLate, .int f_m_shownSlack, .int f_m_shownHold])), (a_m_kind, aI E 50 g_m_kind)]) [0, 1] rfl) (hD.sub (ws' := [(o_m, .inr (10, [.int f_m_code, .int f_m_cells, .ref a_m_kind, .ref a_m_inputs, .ref a_m_tableOf, .ref a_m_size, .ref a_m_extra, .ref a_m_taken, .ref a_m_portEarly, .ref a_m_portLate, .ref a_m_portSlope, .ref a_m_nodeOf, .ref a_m_setup, .ref a_m_hold, .ref a_m_seen, .ref a_m_numbers, .ref a_m_rowSize, .ref a_m_fall, .int f_m_late, .int f_m_early, .int f_m_period, .int f_m_nodes, .ref a_m_parent, .ref a_m_nodeEarly, .ref a_m_nodeLate, .int f_m_exceptions, .ref a_m_periods, .ref a_m_from, .ref a_m_through, .ref a_m_toward, .int f_m_fails, .ref a_m_order, .int f_m_ordered, .ref a_m_done, .ref a_m_reached, .ref a_m_open, .ref a_m_lateDelay, .ref a_m_earlyDelay, .ref a_m_lateSlope, .ref a_m_earlySlope, .ref a_m_greatest, .ref a_m_least, .ref a_m_howMany, .ref a_m_most, .ref a_m_fewest, .ref a_m_pathsTo, .ref a_m_slackOf, .ref a_m_holdOf, .int f_m_listed, .ref a_m_listSlack, .ref a_m_listStart, .ref a_m_listEdge, .ref a_m_listSize, .ref a_m_listCell, .ref a_m_listInput, .ref a_m_rank, .ref a_m_good, .ref a_m_goCell, .ref a_m_goInput, .ref a_m_goEdge, .ref a_m_goMask, .int f_m_target, .int f_m_shown, .ref a_m_shownCell, .ref a_m_shownInput, .ref a_m_shownEdge, .ref a_m_shownLate, .int f_m_shownSlack, .int f_m_shownHold])), (a_m_kind, aI E 50 g_m_kind)]) [0, 1] (by decide) rfl) hS rfl dX10_isTarget_15 (Nat.le_of_ble_eq_true rfl) (Nat.le_of_ble_eq_true rfl) ⟨(by decide), rfl⟩
  · have e_2 : 3 < x_1.toInt := i3_nle c_2
    refine lv_iconst (v := 1) hx hb dX10_isTarget_10 (by decide) ?_
    refine lv_goto (tgt := 15) hx hb dX10_isTarget_11 (by decide) ?_
    exact ret_i hx hb hr hlk (hP.sub (ws' := [(o_m, .inr (10, [.int f_m_code, .int f_m_cells, .ref a_m_kind, .ref a_m_inputs, .ref a_m_tableOf, .ref a_m_size, .ref a_m_extra, .ref a_m_taken, .ref a_m_portEarly, .ref a_m_portLate, .ref a_m_portSlope, .ref a_m_nodeOf, .ref a_m_setup, .ref a_m_hold, .ref a_m_seen, .ref a_m_numbers, .ref a_m_rowSize, .ref a_m_fall, .int f_m_late, .int f_m_early, .int f_m_period, .int f_m_nodes, .ref a_m_parent, .ref a_m_nodeEarly, .ref a_m_nodeLate, .int f_m_exceptions, .ref a_m_periods, .ref a_m_from, .ref a_m_through, .ref a_m_toward, .int f_m_fails, .ref a_m_order, .int f_m_ordered, .ref a_m_done, .ref a_m_reached, .ref a_m_open, .ref a_m_lateDelay, .ref a_m_earlyDelay, .ref a_m_lateSlope, .ref a_m_earlySlope, .ref a_m_greatest, .ref a_m_least, .ref a_m_howMany, .ref a_m_most, .ref a_m_fewest, .ref a_m_pathsTo, .ref a_m_slackOf, .ref a_m_holdOf, .int f_m_listed, .ref a_m_listSlack, .ref a_m_listStart, .ref a_m_listEdge, .ref a_m_listSize, .ref a_m_listCell, .ref a_m_listInput, .ref a_m_rank, .ref a_m_good, .ref a_m_goCell, .ref a_m_goInput, .ref a_m_goEdge, .ref a_m_goMask, .int f_m_target, .int f_m_shown, .ref a_m_shownCell, .ref a_m_shownInput, .ref a_m_shownEdge, .ref a_m_shownLate, .int f_m_shownSlack, .int f_m_shownHold])), (a_m_kind, aI E 50 g_m_kind)]) [0, 1] rfl) (hD.sub (ws' := [(o_m, .inr (10, [.int f_m_code, .int f_m_cells, .ref a_m_kind, .ref a_m_inputs, .ref a_m_tableOf, .ref a_m_size, .ref a_m_extra, .ref a_m_taken, .ref a_m_portEarly, .ref a_m_portLate, .ref a_m_portSlope, .ref a_m_nodeOf, .ref a_m_setup, .ref a_m_hold, .ref a_m_seen, .ref a_m_numbers, .ref a_m_rowSize, .ref a_m_fall, .int f_m_late, .int f_m_early, .int f_m_period, .int f_m_nodes, .ref a_m_parent, .ref a_m_nodeEarly, .ref a_m_nodeLate, .int f_m_exceptions, .ref a_m_periods, .ref a_m_from, .ref a_m_through, .ref a_m_toward, .int f_m_fails, .ref a_m_order, .int f_m_ordered, .ref a_m_done, .ref a_m_reached, .ref a_m_open, .ref a_m_lateDelay, .ref a_m_earlyDelay, .ref a_m_lateSlope, .ref a_m_earlySlope, .ref a_m_greatest, .ref a_m_least, .ref a_m_howMany, .ref a_m_most, .ref a_m_fewest, .ref a_m_pathsTo, .ref a_m_slackOf, .ref a_m_holdOf, .int f_m_listed, .ref a_m_listSlack, .ref a_m_listStart, .ref a_m_listEdge, .ref a_m_listSize, .ref a_m_listCell, .ref a_m_listInput, .ref a_m_rank, .ref a_m_good, .ref a_m_goCell, .ref a_m_goInput, .ref a_m_goEdge, .ref a_m_goMask, .int f_m_target, .int f_m_shown, .ref a_m_shownCell, .ref a_m_shownInput, .ref a_m_shownEdge, .ref a_m_shownLate, .int f_m_shownSlack, .int f_m_shownHold])), (a_m_kind, aI E 50 g_m_kind)]) [0, 1] (by decide) rfl) hS rfl dX10_isTarget_15 (Nat.le_of_ble_eq_true rfl) (Nat.le_of_ble_eq_true rfl) ⟨(by decide), rfl⟩
theorem dX10_mayBe_0 : decode cX10_mayBe 0 = .ok (.iload_n 1, 1) := by decide +kernel
theorem dX10_mayBe_1 : decode cX10_mayBe 1 = .ok (.iconst (-1), 1) := by decide +kernel
theorem dX10_mayBe_2 : decode cX10_mayBe 2 = .ok (.if_icmp .eq 11, 3) := by decide +kernel
theorem dX10_mayBe_13 : decode cX10_mayBe 13 = .ok (.iconst 1, 1) := by decide +kernel
theorem dX10_mayBe_14 : decode cX10_mayBe 14 = .ok (.goto 4, 3) := by decide +kernel
theorem dX10_mayBe_18 : decode cX10_mayBe 18 = .ok (.ireturn, 1) := by decide +kernel
theorem dX10_mayBe_5 : decode cX10_mayBe 5 = .ok (.aload_n 0, 1) := by decide +kernel
theorem dX10_mayBe_6 : decode cX10_mayBe 6 = .ok (.iload_n 1, 1) := by decide +kernel
theorem dX10_mayBe_7 : decode cX10_mayBe 7 = .ok (.invokevirtual 10, 3) := by decide +kernel
theorem dX10_mayBe_10 : decode cX10_mayBe 10 = .ok (.ifCond .eq 7, 3) := by decide +kernel
theorem dX10_mayBe_17 : decode cX10_mayBe 17 = .ok (.iconst 0, 1) := by decide +kernel
def wo_m_mayBe : List Cond := [.code yX10_mayBe cX10_mayBe 2 (some .boolean), .methodLink RX10 10 yX10_isCell, .instanceMethod yX10_isCell, .selects RX10 yX10_isCell yX10_isCell, .initialized RX10]
def wr_m_mayBe : List Cond := (w_m_isCell ++ ([]))
def w_m_mayBe : List Cond := wo_m_mayBe ++ wr_m_mayBe
theorem wg_m_mayBe : GW w_m_mayBe := GW_app (GW_of (by decide +kernel)) (GW_app (wg_m_isCell) (GW_nil))
theorem g_m_mayBe_m_isCell_10 : GoodIn w_m_mayBe (wsV RX10 10 RX10 yX10_isCell w_m_isCell) := goodIn_app (gi_left (goodIn_of _ (by decide +kernel))) (fun w h => ⟨List.mem_append_right _ (List.mem_append_left _ h), wg_m_isCell w h⟩)
set_option maxHeartbeats 8000000 in
set_option maxRecDepth 100000 in
theorem m_mayBe (l : Launch) (E : gE) (o_m a_m_kind a_m_inputs a_m_tableOf a_m_size a_m_extra a_m_taken a_m_portEarly a_m_portLate a_m_portSlope a_m_nodeOf a_m_setup a_m_hold a_m_seen a_m_numbers a_m_rowSize a_m_fall a_m_parent a_m_nodeEarly a_m_nodeLate a_m_periods a_m_from a_m_through a_m_toward a_m_order a_m_done a_m_reached a_m_open a_m_lateDelay a_m_earlyDelay a_m_lateSlope a_m_earlySlope a_m_greatest a_m_least a_m_howMany a_m_most a_m_fewest a_m_pathsTo a_m_slackOf a_m_holdOf a_m_listSlack a_m_listStart a_m_listEdge a_m_listSize a_m_listCell a_m_listInput a_m_rank a_m_good a_m_goCell a_m_goInput a_m_goEdge a_m_goMask a_m_shownCell a_m_shownInput a_m_shownEdge a_m_shownLate : Nat) (f_m_code f_m_cells f_m_late f_m_early f_m_period f_m_nodes f_m_exceptions f_m_fails f_m_ordered f_m_listed f_m_target f_m_shown f_m_shownSlack f_m_shownHold p1 : Int32) (r_f_m_cells : RG f_m_cells 0 50) (r_f_m_late : RG f_m_late 0 500) (r_f_m_early : RG f_m_early 0 500) (r_f_m_period : RG f_m_period 1 1000000) (r_f_m_nodes : RG f_m_nodes 0 20) (r_f_m_exceptions : RG f_m_exceptions 0 4) (r_f_m_ordered : RG f_m_ordered 0 50) (r_f_m_listed : RG f_m_listed 0 1000) (r_f_m_target : RG f_m_target 0 49) (r_f_m_shown : RG f_m_shown 0 52) : CtI l E yX10_mayBe w_m_mayBe ({ frames := 1, cells := 0, slots := 0, locals := 21 }) [(o_m, .inr (10, [.int f_m_code, .int f_m_cells, .ref a_m_kind, .ref a_m_inputs, .ref a_m_tableOf, .ref a_m_size, .ref a_m_extra, .ref a_m_taken, .ref a_m_portEarly, .ref a_m_portLate, .ref a_m_portSlope, .ref a_m_nodeOf, .ref a_m_setup, .ref a_m_hold, .ref a_m_seen, .ref a_m_numbers, .ref a_m_rowSize, .ref a_m_fall, .int f_m_late, .int f_m_early, .int f_m_period, .int f_m_nodes, .ref a_m_parent, .ref a_m_nodeEarly, .ref a_m_nodeLate, .int f_m_exceptions, .ref a_m_periods, .ref a_m_from, .ref a_m_through, .ref a_m_toward, .int f_m_fails, .ref a_m_order, .int f_m_ordered, .ref a_m_done, .ref a_m_reached, .ref a_m_open, .ref a_m_lateDelay, .ref a_m_earlyDelay, .ref a_m_lateSlope, .ref a_m_earlySlope, .ref a_m_greatest, .ref a_m_least, .ref a_m_howMany, .ref a_m_most, .ref a_m_fewest, .ref a_m_pathsTo, .ref a_m_slackOf, .ref a_m_holdOf, .int f_m_listed, .ref a_m_listSlack, .ref a_m_listStart, .ref a_m_listEdge, .ref a_m_listSize, .ref a_m_listCell, .ref a_m_listInput, .ref a_m_rank, .ref a_m_good, .ref a_m_goCell, .ref a_m_goInput, .ref a_m_goEdge, .ref a_m_goMask, .int f_m_target, .int f_m_shown, .ref a_m_shownCell, .ref a_m_shownInput, .ref a_m_shownEdge, .ref a_m_shownLate, .int f_m_shownSlack, .int f_m_shownHold]))] [.ref o_m, .int p1] (fun r w => (0 ≤ r.toInt ∧ r.toInt ≤ 1) ∧ (r.toInt ≠ 0 → (-1) ≤ p1.toInt ∧ p1.toInt ≤ 49) ∧ w = [(o_m, .inr (10, [.int f_m_code, .int f_m_cells, .ref a_m_kind, .ref a_m_inputs, .ref a_m_tableOf, .ref a_m_size, .ref a_m_extra, .ref a_m_taken, .ref a_m_portEarly, .ref a_m_portLate, .ref a_m_portSlope, .ref a_m_nodeOf, .ref a_m_setup, .ref a_m_hold, .ref a_m_seen, .ref a_m_numbers, .ref a_m_rowSize, .ref a_m_fall, .int f_m_late, .int f_m_early, .int f_m_period, .int f_m_nodes, .ref a_m_parent, .ref a_m_nodeEarly, .ref a_m_nodeLate, .int f_m_exceptions, .ref a_m_periods, .ref a_m_from, .ref a_m_through, .ref a_m_toward, .int f_m_fails, .ref a_m_order, .int f_m_ordered, .ref a_m_done, .ref a_m_reached, .ref a_m_open, .ref a_m_lateDelay, .ref a_m_earlyDelay, .ref a_m_lateSlope, .ref a_m_earlySlope, .ref a_m_greatest, .ref a_m_least, .ref a_m_howMany, .ref a_m_most, .ref a_m_fewest, .ref a_m_pathsTo, .ref a_m_slackOf, .ref a_m_holdOf, .int f_m_listed, .ref a_m_listSlack, .ref a_m_listStart, .ref a_m_listEdge, .ref a_m_listSize, .ref a_m_listCell, .ref a_m_listInput, .ref a_m_rank, .ref a_m_good, .ref a_m_goCell, .ref a_m_goInput, .ref a_m_goEdge, .ref a_m_goMask, .int f_m_target, .int f_m_shown, .ref a_m_shownCell, .ref a_m_shownInput, .ref a_m_shownEdge, .ref a_m_shownLate, .int f_m_shownSlack, .int f_m_shownHold]))]) := by
  refine CtI.of (cc := cX10_mayBe) (maxL := 2) (rt := (some .boolean)) (by decide) rfl (Nat.le_of_ble_eq_true rfl) ?_
  intro p e s m below meth c A B ls hl
  obtain ⟨hx, hb, hml, hr, hlk, hin, hts, hown, hK, hN, hZ, hA, hP, hD, hS⟩ := B
  replace hown : s.vm.findClass RX10 = some m.cls := hown
  have hto : ∀ w ∈ wo_m_mayBe, w.before _ s = true := fun w h => hts w (List.mem_append_left _ h)
  replace hl : lv_has ls 2 [(0, .ref o_m), (1, .int p1)] := hl
  obtain ⟨H, hHe⟩ : ∃ H, H = s.heap := ⟨_, rfl⟩
  obtain ⟨locs, hle⟩ : ∃ l : List Loc, l = [] := ⟨_, rfl⟩
  replace hS : va_S A s.heap H locs := by rw [hHe, hle]; exact hS
  replace hP : va_P E.1 vwCl [(o_m, .inr (10, [.int f_m_code, .int f_m_cells, .ref a_m_kind, .ref a_m_inputs, .ref a_m_tableOf, .ref a_m_size, .ref a_m_extra, .ref a_m_taken, .ref a_m_portEarly, .ref a_m_portLate, .ref a_m_portSlope, .ref a_m_nodeOf, .ref a_m_setup, .ref a_m_hold, .ref a_m_seen, .ref a_m_numbers, .ref a_m_rowSize, .ref a_m_fall, .int f_m_late, .int f_m_early, .int f_m_period, .int f_m_nodes, .ref a_m_parent, .ref a_m_nodeEarly, .ref a_m_nodeLate, .int f_m_exceptions, .ref a_m_periods, .ref a_m_from, .ref a_m_through, .ref a_m_toward, .int f_m_fails, .ref a_m_order, .int f_m_ordered, .ref a_m_done, .ref a_m_reached, .ref a_m_open, .ref a_m_lateDelay, .ref a_m_earlyDelay, .ref a_m_lateSlope, .ref a_m_earlySlope, .ref a_m_greatest, .ref a_m_least, .ref a_m_howMany, .ref a_m_most, .ref a_m_fewest, .ref a_m_pathsTo, .ref a_m_slackOf, .ref a_m_holdOf, .int f_m_listed, .ref a_m_listSlack, .ref a_m_listStart, .ref a_m_listEdge, .ref a_m_listSize, .ref a_m_listCell, .ref a_m_listInput, .ref a_m_rank, .ref a_m_good, .ref a_m_goCell, .ref a_m_goInput, .ref a_m_goEdge, .ref a_m_goMask, .int f_m_target, .int f_m_shown, .ref a_m_shownCell, .ref a_m_shownInput, .ref a_m_shownEdge, .ref a_m_shownLate, .int f_m_shownSlack, .int f_m_shownHold]))] H := by rw [hHe]; exact hP
  refine W_hl hHe hle ?_
  clear hHe hle
  refine lv_iload_n hx hb dX10_mayBe_0 rfl (lv_at hl 1 rfl) ?_
  refine lv_iconst (v := (-1)) hx hb dX10_mayBe_1 (by decide) ?_
  refine lv_icmp_eq (tgt := 13) hx hb dX10_mayBe_2 (by decide) (fun c_1 => ?_) (fun c_1 => ?_)
  · have e_1 : p1.toInt = (-1) := i3_eq c_1
    refine lv_iconst (v := 1) hx hb dX10_mayBe_13 (by decide) ?_
    refine lv_goto (tgt := 18) hx hb dX10_mayBe_14 (by decide) ?_
    exact ret_i hx hb hr hlk (hP.sub (ws' := [(o_m, .inr (10, [.int f_m_code, .int f_m_cells, .ref a_m_kind, .ref a_m_inputs, .ref a_m_tableOf, .ref a_m_size, .ref a_m_extra, .ref a_m_taken, .ref a_m_portEarly, .ref a_m_portLate, .ref a_m_portSlope, .ref a_m_nodeOf, .ref a_m_setup, .ref a_m_hold, .ref a_m_seen, .ref a_m_numbers, .ref a_m_rowSize, .ref a_m_fall, .int f_m_late, .int f_m_early, .int f_m_period, .int f_m_nodes, .ref a_m_parent, .ref a_m_nodeEarly, .ref a_m_nodeLate, .int f_m_exceptions, .ref a_m_periods, .ref a_m_from, .ref a_m_through, .ref a_m_toward, .int f_m_fails, .ref a_m_order, .int f_m_ordered, .ref a_m_done, .ref a_m_reached, .ref a_m_open, .ref a_m_lateDelay, .ref a_m_earlyDelay, .ref a_m_lateSlope, .ref a_m_earlySlope, .ref a_m_greatest, .ref a_m_least, .ref a_m_howMany, .ref a_m_most, .ref a_m_fewest, .ref a_m_pathsTo, .ref a_m_slackOf, .ref a_m_holdOf, .int f_m_listed, .ref a_m_listSlack, .ref a_m_listStart, .ref a_m_listEdge, .ref a_m_listSize, .ref a_m_listCell, .ref a_m_listInput, .ref a_m_rank, .ref a_m_good, .ref a_m_goCell, .ref a_m_goInput, .ref a_m_goEdge, .ref a_m_goMask, .int f_m_target, .int f_m_shown, .ref a_m_shownCell, .ref a_m_shownInput, .ref a_m_shownEdge, .ref a_m_shownLate, .int f_m_shownSlack, .int f_m_shownHold]))]) [0] rfl) (hD.sub (ws' := [(o_m, .inr (10, [.int f_m_code, .int f_m_cells, .ref a_m_kind, .ref a_m_inputs, .ref a_m_tableOf, .ref a_m_size, .ref a_m_extra, .ref a_m_taken, .ref a_m_portEarly, .ref a_m_portLate, .ref a_m_portSlope, .ref a_m_nodeOf, .ref a_m_setup, .ref a_m_hold, .ref a_m_seen, .ref a_m_numbers, .ref a_m_rowSize, .ref a_m_fall, .int f_m_late, .int f_m_early, .int f_m_period, .int f_m_nodes, .ref a_m_parent, .ref a_m_nodeEarly, .ref a_m_nodeLate, .int f_m_exceptions, .ref a_m_periods, .ref a_m_from, .ref a_m_through, .ref a_m_toward, .int f_m_fails, .ref a_m_order, .int f_m_ordered, .ref a_m_done, .ref a_m_reached, .ref a_m_open, .ref a_m_lateDelay, .ref a_m_earlyDelay, .ref a_m_lateSlope, .ref a_m_earlySlope, .ref a_m_greatest, .ref a_m_least, .ref a_m_howMany, .ref a_m_most, .ref a_m_fewest, .ref a_m_pathsTo, .ref a_m_slackOf, .ref a_m_holdOf, .int f_m_listed, .ref a_m_listSlack, .ref a_m_listStart, .ref a_m_listEdge, .ref a_m_listSize, .ref a_m_listCell, .ref a_m_listInput, .ref a_m_rank, .ref a_m_good, .ref a_m_goCell, .ref a_m_goInput, .ref a_m_goEdge, .ref a_m_goMask, .int f_m_target, .int f_m_shown, .ref a_m_shownCell, .ref a_m_shownInput, .ref a_m_shownEdge, .ref a_m_shownLate, .int f_m_shownSlack, .int f_m_shownHold]))]) [0] (by decide) rfl) hS rfl dX10_mayBe_18 (Nat.le_of_ble_eq_true rfl) (Nat.le_of_ble_eq_true rfl) ⟨(by decide), (by have e9 : (1 : Int32).toInt = 1 := rfl; omega), rfl⟩
  · have e_1 : p1.toInt ≠ (-1) := i3_ne c_1
    refine lv_aload_n hx hb dX10_mayBe_5 rfl (lv_at hl 0 rfl) ?_
    refine lv_iload_n hx hb dX10_mayBe_6 rfl (lv_at hl 1 rfl) ?_
    refine call_i (va_runV (As := [.int p1]) (rest := []) ⟨hx, hb, hml, hown, hts⟩ (m_isCell l E o_m a_m_kind a_m_inputs a_m_tableOf a_m_size a_m_extra a_m_taken a_m_portEarly a_m_portLate a_m_portSlope a_m_nodeOf a_m_setup a_m_hold a_m_seen a_m_numbers a_m_rowSize a_m_fall a_m_parent a_m_nodeEarly a_m_nodeLate a_m_periods a_m_from a_m_through a_m_toward a_m_order a_m_done a_m_reached a_m_open a_m_lateDelay a_m_earlyDelay a_m_lateSlope a_m_earlySlope a_m_greatest a_m_least a_m_howMany a_m_most a_m_fewest a_m_pathsTo a_m_slackOf a_m_holdOf a_m_listSlack a_m_listStart a_m_listEdge a_m_listSize a_m_listCell a_m_listInput a_m_rank a_m_good a_m_goCell a_m_goInput a_m_goEdge a_m_goMask a_m_shownCell a_m_shownInput a_m_shownEdge a_m_shownLate f_m_code f_m_cells f_m_late f_m_early f_m_period f_m_nodes f_m_exceptions f_m_fails f_m_ordered f_m_listed f_m_target f_m_shown f_m_shownSlack f_m_shownHold p1 r_f_m_cells r_f_m_late r_f_m_early r_f_m_period r_f_m_nodes r_f_m_exceptions r_f_m_ordered r_f_m_listed r_f_m_target r_f_m_shown H.size) (cwV 1 hts g_m_mayBe_m_isCell_10 rfl rfl rfl (by decide +kernel) ⟨Nat.le_of_ble_eq_true rfl, Nat.le_of_ble_eq_true rfl⟩) (pre_V hK hN hZ hS (va_free hD hS hA [0] rfl) (hP.sub (ws' := [(o_m, .inr (10, [.int f_m_code, .int f_m_cells, .ref a_m_kind, .ref a_m_inputs, .ref a_m_tableOf, .ref a_m_size, .ref a_m_extra, .ref a_m_taken, .ref a_m_portEarly, .ref a_m_portLate, .ref a_m_portSlope, .ref a_m_nodeOf, .ref a_m_setup, .ref a_m_hold, .ref a_m_seen, .ref a_m_numbers, .ref a_m_rowSize, .ref a_m_fall, .int f_m_late, .int f_m_early, .int f_m_period, .int f_m_nodes, .ref a_m_parent, .ref a_m_nodeEarly, .ref a_m_nodeLate, .int f_m_exceptions, .ref a_m_periods, .ref a_m_from, .ref a_m_through, .ref a_m_toward, .int f_m_fails, .ref a_m_order, .int f_m_ordered, .ref a_m_done, .ref a_m_reached, .ref a_m_open, .ref a_m_lateDelay, .ref a_m_earlyDelay, .ref a_m_lateSlope, .ref a_m_earlySlope, .ref a_m_greatest, .ref a_m_least, .ref a_m_howMany, .ref a_m_most, .ref a_m_fewest, .ref a_m_pathsTo, .ref a_m_slackOf, .ref a_m_holdOf, .int f_m_listed, .ref a_m_listSlack, .ref a_m_listStart, .ref a_m_listEdge, .ref a_m_listSize, .ref a_m_listCell, .ref a_m_listInput, .ref a_m_rank, .ref a_m_good, .ref a_m_goCell, .ref a_m_goInput, .ref a_m_goEdge, .ref a_m_goMask, .int f_m_target, .int f_m_shown, .ref a_m_shownCell, .ref a_m_shownInput, .ref a_m_shownEdge, .ref a_m_shownLate, .int f_m_shownSlack, .int f_m_shownHold]))]) [0] rfl) (hD.sub (ws' := [(o_m, .inr (10, [.int f_m_code, .int f_m_cells, .ref a_m_kind, .ref a_m_inputs, .ref a_m_tableOf, .ref a_m_size, .ref a_m_extra, .ref a_m_taken, .ref a_m_portEarly, .ref a_m_portLate, .ref a_m_portSlope, .ref a_m_nodeOf, .ref a_m_setup, .ref a_m_hold, .ref a_m_seen, .ref a_m_numbers, .ref a_m_rowSize, .ref a_m_fall, .int f_m_late, .int f_m_early, .int f_m_period, .int f_m_nodes, .ref a_m_parent, .ref a_m_nodeEarly, .ref a_m_nodeLate, .int f_m_exceptions, .ref a_m_periods, .ref a_m_from, .ref a_m_through, .ref a_m_toward, .int f_m_fails, .ref a_m_order, .int f_m_ordered, .ref a_m_done, .ref a_m_reached, .ref a_m_open, .ref a_m_lateDelay, .ref a_m_earlyDelay, .ref a_m_lateSlope, .ref a_m_earlySlope, .ref a_m_greatest, .ref a_m_least, .ref a_m_howMany, .ref a_m_most, .ref a_m_fewest, .ref a_m_pathsTo, .ref a_m_slackOf, .ref a_m_holdOf, .int f_m_listed, .ref a_m_listSlack, .ref a_m_listStart, .ref a_m_listEdge, .ref a_m_listSize, .ref a_m_listCell, .ref a_m_listInput, .ref a_m_rank, .ref a_m_good, .ref a_m_goCell, .ref a_m_goInput, .ref a_m_goEdge, .ref a_m_goMask, .int f_m_target, .int f_m_shown, .ref a_m_shownCell, .ref a_m_shownInput, .ref a_m_shownEdge, .ref a_m_shownLate, .int f_m_shownSlack, .int f_m_shownHold]))]) [0] (by decide) rfl) (ci := 10) (q0 := 0) rfl rfl) rfl rfl hl.1 rfl (lv_room (Nat.le_of_ble_eq_true rfl)) dX10_mayBe_7 ⟨Nat.le_of_ble_eq_true rfl, Nat.le_of_ble_eq_true rfl⟩) hP hD hS hA [0] [] (wr := []) rfl rfl (by decide) (by decide) (fun r_2 w H locs hw hP hD hS => ?_)
    obtain ⟨b_r_2, l_r_2, rfl⟩ := hw
    replace l_r_2 : (r_2.toInt ≠ 0 → 0 ≤ p1.toInt ∧ p1.toInt < f_m_cells.toInt) := l_r_2
    replace hP : va_P E.1 vwCl [(o_m, .inr (10, [.int f_m_code, .int f_m_cells, .ref a_m_kind, .ref a_m_inputs, .ref a_m_tableOf, .ref a_m_size, .ref a_m_extra, .ref a_m_taken, .ref a_m_portEarly, .ref a_m_portLate, .ref a_m_portSlope, .ref a_m_nodeOf, .ref a_m_setup, .ref a_m_hold, .ref a_m_seen, .ref a_m_numbers, .ref a_m_rowSize, .ref a_m_fall, .int f_m_late, .int f_m_early, .int f_m_period, .int f_m_nodes, .ref a_m_parent, .ref a_m_nodeEarly, .ref a_m_nodeLate, .int f_m_exceptions, .ref a_m_periods, .ref a_m_from, .ref a_m_through, .ref a_m_toward, .int f_m_fails, .ref a_m_order, .int f_m_ordered, .ref a_m_done, .ref a_m_reached, .ref a_m_open, .ref a_m_lateDelay, .ref a_m_earlyDelay, .ref a_m_lateSlope, .ref a_m_earlySlope, .ref a_m_greatest, .ref a_m_least, .ref a_m_howMany, .ref a_m_most, .ref a_m_fewest, .ref a_m_pathsTo, .ref a_m_slackOf, .ref a_m_holdOf, .int f_m_listed, .ref a_m_listSlack, .ref a_m_listStart, .ref a_m_listEdge, .ref a_m_listSize, .ref a_m_listCell, .ref a_m_listInput, .ref a_m_rank, .ref a_m_good, .ref a_m_goCell, .ref a_m_goInput, .ref a_m_goEdge, .ref a_m_goMask, .int f_m_target, .int f_m_shown, .ref a_m_shownCell, .ref a_m_shownInput, .ref a_m_shownEdge, .ref a_m_shownLate, .int f_m_shownSlack, .int f_m_shownHold]))] H := hP
    replace hD : va_D A [(o_m, .inr (10, [.int f_m_code, .int f_m_cells, .ref a_m_kind, .ref a_m_inputs, .ref a_m_tableOf, .ref a_m_size, .ref a_m_extra, .ref a_m_taken, .ref a_m_portEarly, .ref a_m_portLate, .ref a_m_portSlope, .ref a_m_nodeOf, .ref a_m_setup, .ref a_m_hold, .ref a_m_seen, .ref a_m_numbers, .ref a_m_rowSize, .ref a_m_fall, .int f_m_late, .int f_m_early, .int f_m_period, .int f_m_nodes, .ref a_m_parent, .ref a_m_nodeEarly, .ref a_m_nodeLate, .int f_m_exceptions, .ref a_m_periods, .ref a_m_from, .ref a_m_through, .ref a_m_toward, .int f_m_fails, .ref a_m_order, .int f_m_ordered, .ref a_m_done, .ref a_m_reached, .ref a_m_open, .ref a_m_lateDelay, .ref a_m_earlyDelay, .ref a_m_lateSlope, .ref a_m_earlySlope, .ref a_m_greatest, .ref a_m_least, .ref a_m_howMany, .ref a_m_most, .ref a_m_fewest, .ref a_m_pathsTo, .ref a_m_slackOf, .ref a_m_holdOf, .int f_m_listed, .ref a_m_listSlack, .ref a_m_listStart, .ref a_m_listEdge, .ref a_m_listSize, .ref a_m_listCell, .ref a_m_listInput, .ref a_m_rank, .ref a_m_good, .ref a_m_goCell, .ref a_m_goInput, .ref a_m_goEdge, .ref a_m_goMask, .int f_m_target, .int f_m_shown, .ref a_m_shownCell, .ref a_m_shownInput, .ref a_m_shownEdge, .ref a_m_shownLate, .int f_m_shownSlack, .int f_m_shownHold]))] := hD
    refine lv_if_eq (tgt := 17) hx hb dX10_mayBe_10 (by decide) (fun c_3 => ?_) (fun c_3 => ?_)
    · have e_3 : r_2.toInt = 0 := i3_eq c_3
      refine lv_iconst (v := 0) hx hb dX10_mayBe_17 (by decide) ?_
      exact ret_i hx hb hr hlk (hP.sub (ws' := [(o_m, .inr (10, [.int f_m_code, .int f_m_cells, .ref a_m_kind, .ref a_m_inputs, .ref a_m_tableOf, .ref a_m_size, .ref a_m_extra, .ref a_m_taken, .ref a_m_portEarly, .ref a_m_portLate, .ref a_m_portSlope, .ref a_m_nodeOf, .ref a_m_setup, .ref a_m_hold, .ref a_m_seen, .ref a_m_numbers, .ref a_m_rowSize, .ref a_m_fall, .int f_m_late, .int f_m_early, .int f_m_period, .int f_m_nodes, .ref a_m_parent, .ref a_m_nodeEarly, .ref a_m_nodeLate, .int f_m_exceptions, .ref a_m_periods, .ref a_m_from, .ref a_m_through, .ref a_m_toward, .int f_m_fails, .ref a_m_order, .int f_m_ordered, .ref a_m_done, .ref a_m_reached, .ref a_m_open, .ref a_m_lateDelay, .ref a_m_earlyDelay, .ref a_m_lateSlope, .ref a_m_earlySlope, .ref a_m_greatest, .ref a_m_least, .ref a_m_howMany, .ref a_m_most, .ref a_m_fewest, .ref a_m_pathsTo, .ref a_m_slackOf, .ref a_m_holdOf, .int f_m_listed, .ref a_m_listSlack, .ref a_m_listStart, .ref a_m_listEdge, .ref a_m_listSize, .ref a_m_listCell, .ref a_m_listInput, .ref a_m_rank, .ref a_m_good, .ref a_m_goCell, .ref a_m_goInput, .ref a_m_goEdge, .ref a_m_goMask, .int f_m_target, .int f_m_shown, .ref a_m_shownCell, .ref a_m_shownInput, .ref a_m_shownEdge, .ref a_m_shownLate, .int f_m_shownSlack, .int f_m_shownHold]))]) [0] rfl) (hD.sub (ws' := [(o_m, .inr (10, [.int f_m_code, .int f_m_cells, .ref a_m_kind, .ref a_m_inputs, .ref a_m_tableOf, .ref a_m_size, .ref a_m_extra, .ref a_m_taken, .ref a_m_portEarly, .ref a_m_portLate, .ref a_m_portSlope, .ref a_m_nodeOf, .ref a_m_setup, .ref a_m_hold, .ref a_m_seen, .ref a_m_numbers, .ref a_m_rowSize, .ref a_m_fall, .int f_m_late, .int f_m_early, .int f_m_period, .int f_m_nodes, .ref a_m_parent, .ref a_m_nodeEarly, .ref a_m_nodeLate, .int f_m_exceptions, .ref a_m_periods, .ref a_m_from, .ref a_m_through, .ref a_m_toward, .int f_m_fails, .ref a_m_order, .int f_m_ordered, .ref a_m_done, .ref a_m_reached, .ref a_m_open, .ref a_m_lateDelay, .ref a_m_earlyDelay, .ref a_m_lateSlope, .ref a_m_earlySlope, .ref a_m_greatest, .ref a_m_least, .ref a_m_howMany, .ref a_m_most, .ref a_m_fewest, .ref a_m_pathsTo, .ref a_m_slackOf, .ref a_m_holdOf, .int f_m_listed, .ref a_m_listSlack, .ref a_m_listStart, .ref a_m_listEdge, .ref a_m_listSize, .ref a_m_listCell, .ref a_m_listInput, .ref a_m_rank, .ref a_m_good, .ref a_m_goCell, .ref a_m_goInput, .ref a_m_goEdge, .ref a_m_goMask, .int f_m_target, .int f_m_shown, .ref a_m_shownCell, .ref a_m_shownInput, .ref a_m_shownEdge, .ref a_m_shownLate, .int f_m_shownSlack, .int f_m_shownHold]))]) [0] (by decide) rfl) hS rfl dX10_mayBe_18 (Nat.le_of_ble_eq_true rfl) (Nat.le_of_ble_eq_true rfl) ⟨(by decide), (by have e9 : (0 : Int32).toInt = 0 := rfl; omega), rfl⟩
    · have e_3 : r_2.toInt ≠ 0 := i3_ne c_3
      have f_3 := l_r_2 e_3
      have b_f_m_cells := r_f_m_cells.out
      refine lv_iconst (v := 1) hx hb dX10_mayBe_13 (by decide) ?_
      refine lv_goto (tgt := 18) hx hb dX10_mayBe_14 (by decide) ?_
      exact ret_i hx hb hr hlk (hP.sub (ws' := [(o_m, .inr (10, [.int f_m_code, .int f_m_cells, .ref a_m_kind, .ref a_m_inputs, .ref a_m_tableOf, .ref a_m_size, .ref a_m_extra, .ref a_m_taken, .ref a_m_portEarly, .ref a_m_portLate, .ref a_m_portSlope, .ref a_m_nodeOf, .ref a_m_setup, .ref a_m_hold, .ref a_m_seen, .ref a_m_numbers, .ref a_m_rowSize, .ref a_m_fall, .int f_m_late, .int f_m_early, .int f_m_period, .int f_m_nodes, .ref a_m_parent, .ref a_m_nodeEarly, .ref a_m_nodeLate, .int f_m_exceptions, .ref a_m_periods, .ref a_m_from, .ref a_m_through, .ref a_m_toward, .int f_m_fails, .ref a_m_order, .int f_m_ordered, .ref a_m_done, .ref a_m_reached, .ref a_m_open, .ref a_m_lateDelay, .ref a_m_earlyDelay, .ref a_m_lateSlope, .ref a_m_earlySlope, .ref a_m_greatest, .ref a_m_least, .ref a_m_howMany, .ref a_m_most, .ref a_m_fewest, .ref a_m_pathsTo, .ref a_m_slackOf, .ref a_m_holdOf, .int f_m_listed, .ref a_m_listSlack, .ref a_m_listStart, .ref a_m_listEdge, .ref a_m_listSize, .ref a_m_listCell, .ref a_m_listInput, .ref a_m_rank, .ref a_m_good, .ref a_m_goCell, .ref a_m_goInput, .ref a_m_goEdge, .ref a_m_goMask, .int f_m_target, .int f_m_shown, .ref a_m_shownCell, .ref a_m_shownInput, .ref a_m_shownEdge, .ref a_m_shownLate, .int f_m_shownSlack, .int f_m_shownHold]))]) [0] rfl) (hD.sub (ws' := [(o_m, .inr (10, [.int f_m_code, .int f_m_cells, .ref a_m_kind, .ref a_m_inputs, .ref a_m_tableOf, .ref a_m_size, .ref a_m_extra, .ref a_m_taken, .ref a_m_portEarly, .ref a_m_portLate, .ref a_m_portSlope, .ref a_m_nodeOf, .ref a_m_setup, .ref a_m_hold, .ref a_m_seen, .ref a_m_numbers, .ref a_m_rowSize, .ref a_m_fall, .int f_m_late, .int f_m_early, .int f_m_period, .int f_m_nodes, .ref a_m_parent, .ref a_m_nodeEarly, .ref a_m_nodeLate, .int f_m_exceptions, .ref a_m_periods, .ref a_m_from, .ref a_m_through, .ref a_m_toward, .int f_m_fails, .ref a_m_order, .int f_m_ordered, .ref a_m_done, .ref a_m_reached, .ref a_m_open, .ref a_m_lateDelay, .ref a_m_earlyDelay, .ref a_m_lateSlope, .ref a_m_earlySlope, .ref a_m_greatest, .ref a_m_least, .ref a_m_howMany, .ref a_m_most, .ref a_m_fewest, .ref a_m_pathsTo, .ref a_m_slackOf, .ref a_m_holdOf, .int f_m_listed, .ref a_m_listSlack, .ref a_m_listStart, .ref a_m_listEdge, .ref a_m_listSize, .ref a_m_listCell, .ref a_m_listInput, .ref a_m_rank, .ref a_m_good, .ref a_m_goCell, .ref a_m_goInput, .ref a_m_goEdge, .ref a_m_goMask, .int f_m_target, .int f_m_shown, .ref a_m_shownCell, .ref a_m_shownInput, .ref a_m_shownEdge, .ref a_m_shownLate, .int f_m_shownSlack, .int f_m_shownHold]))]) [0] (by decide) rfl) hS rfl dX10_mayBe_18 (Nat.le_of_ble_eq_true rfl) (Nat.le_of_ble_eq_true rfl) ⟨(by decide), (by have e9 : (1 : Int32).toInt = 1 := rfl; omega), rfl⟩
theorem dX10_isStart_0 : decode cX10_isStart 0 = .ok (.aload_n 0, 1) := by decide +kernel
theorem dX10_isStart_1 : decode cX10_isStart 1 = .ok (.getfield 18, 3) := by decide +kernel
theorem dX10_isStart_4 : decode cX10_isStart 4 = .ok (.iload_n 1, 1) := by decide +kernel
theorem dX10_isStart_5 : decode cX10_isStart 5 = .ok (.iaload, 1) := by decide +kernel
theorem dX10_isStart_6 : decode cX10_isStart 6 = .ok (.ifCond .eq 13, 3) := by decide +kernel
theorem dX10_isStart_19 : decode cX10_isStart 19 = .ok (.aload_n 0, 1) := by decide +kernel
theorem dX10_isStart_20 : decode cX10_isStart 20 = .ok (.getfield 120, 3) := by decide +kernel
theorem dX10_isStart_23 : decode cX10_isStart 23 = .ok (.iload_n 1, 1) := by decide +kernel
theorem dX10_isStart_24 : decode cX10_isStart 24 = .ok (.iaload, 1) := by decide +kernel
theorem dX10_isStart_25 : decode cX10_isStart 25 = .ok (.ifCond .ne 7, 3) := by decide +kernel
theorem dX10_isStart_32 : decode cX10_isStart 32 = .ok (.iconst 0, 1) := by decide +kernel
theorem dX10_isStart_33 : decode cX10_isStart 33 = .ok (.ireturn, 1) := by decide +kernel
theorem dX10_isStart_28 : decode cX10_isStart 28 = .ok (.iconst 1, 1) := by decide +kernel
theorem dX10_isStart_29 : decode cX10_isStart 29 = .ok (.goto 4, 3) := by decide +kernel
theorem dX10_isStart_9 : decode cX10_isStart 9 = .ok (.aload_n 0, 1) := by decide +kernel
theorem dX10_isStart_10 : decode cX10_isStart 10 = .ok (.getfield 18, 3) := by decide +kernel
theorem dX10_isStart_13 : decode cX10_isStart 13 = .ok (.iload_n 1, 1) := by decide +kernel
theorem dX10_isStart_14 : decode cX10_isStart 14 = .ok (.iaload, 1) := by decide +kernel
theorem dX10_isStart_15 : decode cX10_isStart 15 = .ok (.iconst 4, 1) := by decide +kernel
theorem dX10_isStart_16 : decode cX10_isStart 16 = .ok (.if_icmp .ne 16, 3) := by decide +kernel
def wo_m_isStart : List Cond := [.code yX10_isStart cX10_isStart 2 (some .boolean), .fieldLink RX10 18 "TimingHouseModel" "kind" "[I", .fieldLink RX10 120 "TimingHouseModel" "open" "[I"]
def wr_m_isStart : List Cond := (wsX100 ++ ([]))
def w_m_isStart : List Cond := wo_m_isStart ++ wr_m_isStart
theorem wg_m_isStart : GW w_m_isStart := GW_app (GW_of (by decide +kernel)) (GW_app (GW_of (by decide +kernel)) (GW_nil))
theorem i_m_isStart_X10 : ∀ w ∈ wsX100, w ∈ w_m_isStart := fun _ h => List.mem_append_right _ (List.mem_append_left _ h)
set_option maxHeartbeats 8000000 in
set_option maxRecDepth 100000 in
theorem m_isStart (l : Launch) (E : gE) (o_m a_m_kind a_m_inputs a_m_tableOf a_m_size a_m_extra a_m_taken a_m_portEarly a_m_portLate a_m_portSlope a_m_nodeOf a_m_setup a_m_hold a_m_seen a_m_numbers a_m_rowSize a_m_fall a_m_parent a_m_nodeEarly a_m_nodeLate a_m_periods a_m_from a_m_through a_m_toward a_m_order a_m_done a_m_reached a_m_open a_m_lateDelay a_m_earlyDelay a_m_lateSlope a_m_earlySlope a_m_greatest a_m_least a_m_howMany a_m_most a_m_fewest a_m_pathsTo a_m_slackOf a_m_holdOf a_m_listSlack a_m_listStart a_m_listEdge a_m_listSize a_m_listCell a_m_listInput a_m_rank a_m_good a_m_goCell a_m_goInput a_m_goEdge a_m_goMask a_m_shownCell a_m_shownInput a_m_shownEdge a_m_shownLate : Nat) (f_m_code f_m_cells f_m_late f_m_early f_m_period f_m_nodes f_m_exceptions f_m_fails f_m_ordered f_m_listed f_m_target f_m_shown f_m_shownSlack f_m_shownHold p1 : Int32) (g_m_kind : Nat → Int32) (g_m_open : Nat → Int32) (r_f_m_cells : RG f_m_cells 0 50) (r_f_m_late : RG f_m_late 0 500) (r_f_m_early : RG f_m_early 0 500) (r_f_m_period : RG f_m_period 1 1000000) (r_f_m_nodes : RG f_m_nodes 0 20) (r_f_m_exceptions : RG f_m_exceptions 0 4) (r_f_m_ordered : RG f_m_ordered 0 50) (r_f_m_listed : RG f_m_listed 0 1000) (r_f_m_target : RG f_m_target 0 49) (r_f_m_shown : RG f_m_shown 0 52) (i_g_m_kind : AR g_m_kind 50 0 5) (r_p1 : RG p1 0 49) : CtI l E yX10_isStart w_m_isStart ({ frames := 0, cells := 0, slots := 0, locals := 0 }) [(o_m, .inr (10, [.int f_m_code, .int f_m_cells, .ref a_m_kind, .ref a_m_inputs, .ref a_m_tableOf, .ref a_m_size, .ref a_m_extra, .ref a_m_taken, .ref a_m_portEarly, .ref a_m_portLate, .ref a_m_portSlope, .ref a_m_nodeOf, .ref a_m_setup, .ref a_m_hold, .ref a_m_seen, .ref a_m_numbers, .ref a_m_rowSize, .ref a_m_fall, .int f_m_late, .int f_m_early, .int f_m_period, .int f_m_nodes, .ref a_m_parent, .ref a_m_nodeEarly, .ref a_m_nodeLate, .int f_m_exceptions, .ref a_m_periods, .ref a_m_from, .ref a_m_through, .ref a_m_toward, .int f_m_fails, .ref a_m_order, .int f_m_ordered, .ref a_m_done, .ref a_m_reached, .ref a_m_open, .ref a_m_lateDelay, .ref a_m_earlyDelay, .ref a_m_lateSlope, .ref a_m_earlySlope, .ref a_m_greatest, .ref a_m_least, .ref a_m_howMany, .ref a_m_most, .ref a_m_fewest, .ref a_m_pathsTo, .ref a_m_slackOf, .ref a_m_holdOf, .int f_m_listed, .ref a_m_listSlack, .ref a_m_listStart, .ref a_m_listEdge, .ref a_m_listSize, .ref a_m_listCell, .ref a_m_listInput, .ref a_m_rank, .ref a_m_good, .ref a_m_goCell, .ref a_m_goInput, .ref a_m_goEdge, .ref a_m_goMask, .int f_m_target, .int f_m_shown, .ref a_m_shownCell, .ref a_m_shownInput, .ref a_m_shownEdge, .ref a_m_shownLate, .int f_m_shownSlack, .int f_m_shownHold])), (a_m_kind, aI E 50 g_m_kind), (a_m_open, aI E 50 g_m_open)] [.ref o_m, .int p1] (fun r w => (0 ≤ r.toInt ∧ r.toInt ≤ 1) ∧ w = [(o_m, .inr (10, [.int f_m_code, .int f_m_cells, .ref a_m_kind, .ref a_m_inputs, .ref a_m_tableOf, .ref a_m_size, .ref a_m_extra, .ref a_m_taken, .ref a_m_portEarly, .ref a_m_portLate, .ref a_m_portSlope, .ref a_m_nodeOf, .ref a_m_setup, .ref a_m_hold, .ref a_m_seen, .ref a_m_numbers, .ref a_m_rowSize, .ref a_m_fall, .int f_m_late, .int f_m_early, .int f_m_period, .int f_m_nodes, .ref a_m_parent, .ref a_m_nodeEarly, .ref a_m_nodeLate, .int f_m_exceptions, .ref a_m_periods, .ref a_m_from, .ref a_m_through, .ref a_m_toward, .int f_m_fails, .ref a_m_order, .int f_m_ordered, .ref a_m_done, .ref a_m_reached, .ref a_m_open, .ref a_m_lateDelay, .ref a_m_earlyDelay, .ref a_m_lateSlope, .ref a_m_earlySlope, .ref a_m_greatest, .ref a_m_least, .ref a_m_howMany, .ref a_m_most, .ref a_m_fewest, .ref a_m_pathsTo, .ref a_m_slackOf, .ref a_m_holdOf, .int f_m_listed, .ref a_m_listSlack, .ref a_m_listStart, .ref a_m_listEdge, .ref a_m_listSize, .ref a_m_listCell, .ref a_m_listInput, .ref a_m_rank, .ref a_m_good, .ref a_m_goCell, .ref a_m_goInput, .ref a_m_goEdge, .ref a_m_goMask, .int f_m_target, .int f_m_shown, .ref a_m_shownCell, .ref a_m_shownInput, .ref a_m_shownEdge, .ref a_m_shownLate, .int f_m_shownSlack, .int f_m_shownHold])), (a_m_kind, aI E 50 g_m_kind), (a_m_open, aI E 50 g_m_open)]) := by
  refine CtI.of (cc := cX10_isStart) (maxL := 2) (rt := (some .boolean)) (by decide) rfl (Nat.le_of_ble_eq_true rfl) ?_
  intro p e s m below meth c A B ls hl
  obtain ⟨hx, hb, hml, hr, hlk, hin, hts, hown, hK, hN, hZ, hA, hP, hD, hS⟩ := B
  replace hown : s.vm.findClass RX10 = some m.cls := hown
  have hto : ∀ w ∈ wo_m_isStart, w.before _ s = true := fun w h => hts w (List.mem_append_left _ h)
  replace hl : lv_has ls 2 [(0, .ref o_m), (1, .int p1)] := hl
  obtain ⟨H, hHe⟩ : ∃ H, H = s.heap := ⟨_, rfl⟩
  obtain ⟨locs, hle⟩ : ∃ l : List Loc, l = [] := ⟨_, rfl⟩
  replace hS : va_S A s.heap H locs := by rw [hHe, hle]; exact hS
  replace hP : va_P E.1 vwCl [(o_m, .inr (10, [.int f_m_code, .int f_m_cells, .ref a_m_kind, .ref a_m_inputs, .ref a_m_tableOf, .ref a_m_size, .ref a_m_extra, .ref a_m_taken, .ref a_m_portEarly, .ref a_m_portLate, .ref a_m_portSlope, .ref a_m_nodeOf, .ref a_m_setup, .ref a_m_hold, .ref a_m_seen, .ref a_m_numbers, .ref a_m_rowSize, .ref a_m_fall, .int f_m_late, .int f_m_early, .int f_m_period, .int f_m_nodes, .ref a_m_parent, .ref a_m_nodeEarly, .ref a_m_nodeLate, .int f_m_exceptions, .ref a_m_periods, .ref a_m_from, .ref a_m_through, .ref a_m_toward, .int f_m_fails, .ref a_m_order, .int f_m_ordered, .ref a_m_done, .ref a_m_reached, .ref a_m_open, .ref a_m_lateDelay, .ref a_m_earlyDelay, .ref a_m_lateSlope, .ref a_m_earlySlope, .ref a_m_greatest, .ref a_m_least, .ref a_m_howMany, .ref a_m_most, .ref a_m_fewest, .ref a_m_pathsTo, .ref a_m_slackOf, .ref a_m_holdOf, .int f_m_listed, .ref a_m_listSlack, .ref a_m_listStart, .ref a_m_listEdge, .ref a_m_listSize, .ref a_m_listCell, .ref a_m_listInput, .ref a_m_rank, .ref a_m_good, .ref a_m_goCell, .ref a_m_goInput, .ref a_m_goEdge, .ref a_m_goMask, .int f_m_target, .int f_m_shown, .ref a_m_shownCell, .ref a_m_shownInput, .ref a_m_shownEdge, .ref a_m_shownLate, .int f_m_shownSlack, .int f_m_shownHold])), (a_m_kind, aI E 50 g_m_kind), (a_m_open, aI E 50 g_m_open)] H := by rw [hHe]; exact hP
  refine W_hl hHe hle ?_
  clear hHe hle
  refine lv_aload_n hx hb dX10_isStart_0 rfl (lv_at hl 0 rfl) ?_
  refine va_get (D := E.1) (ci := 10) (v := .ref a_m_kind) (own := RX10) (C := RX10) (T := TX10) (N := 69) hx hb hts i_m_isStart_X10 hown hK hP 0 rfl rfl 2 (by decide) (hto (.fieldLink RX10 18 "TimingHouseModel" "kind" "[I") (by decide +kernel)) (fun _ h9 => h9) rfl dX10_isStart_1 ?_
  refine lv_iload_n hx hb dX10_isStart_4 rfl (lv_at hl 1 rfl) ?_
  have b_p1 := r_p1.out
  refine ld_i hx hb hK hP 1 rfl (by omega) dX10_isStart_5 (fun x_1 ex_1 => ?_)
  have b_x_1 := AR.rd i_g_m_kind ex_1 (by omega)
  refine lv_if_eq (tgt := 19) hx hb dX10_isStart_6 (by decide) (fun c_2 => ?_) (fun c_2 => ?_)
  · have e_2 : x_1.toInt = 0 := i3_eq c_2
    refine lv_aload_n hx hb dX10_isStart_19 rfl (lv_at hl 0 rfl) ?_
    refine va_get (D := E.1) (ci := 10) (v := .ref a_m_open) (own := RX10) (C := RX10) (T := TX10) (N := 69) hx hb hts i_m_isStart_X10 hown hK hP 0 rfl rfl 35 (by decide) (hto (.fieldLink RX10 120 "TimingHouseModel" "open" "[I") (by decide +kernel)) (fun _ h9 => h9) rfl dX10_isStart_20 ?_
    refine lv_iload_n hx hb dX10_isStart_23 rfl (lv_at hl 1 rfl) ?_
    refine ld_i hx hb hK hP 2 rfl (by omega) dX10_isStart_24 (fun x_3 ex_3 => ?_)
    refine lv_if_ne (tgt := 32) hx hb dX10_isStart_25 (by decide) (fun c_4 => ?_) (fun c_4 => ?_)
    · have e_4 : x_3.toInt ≠ 0 := i3_ne c_4
      refine lv_iconst (v := 0) hx hb dX10_isStart_32 (by decide) ?_
      exact ret_i hx hb hr hlk (hP.sub (ws' := [(o_m, .inr (10, [.int f_m_code, .int f_m_cells, .ref a_m_kind, .ref a_m_inputs, .ref a_m_tableOf, .ref a_m_size, .ref a_m_extra, .ref a_m_taken, .ref a_m_portEarly, .ref a_m_portLate, .ref a_m_portSlope, .ref a_m_nodeOf, .ref a_m_setup, .ref a_m_hold, .ref a_m_seen, .ref a_m_numbers, .ref a_m_rowSize, .ref a_m_fall, .int f_m_late, .int f_m_early, .int f_m_period, .int f_m_nodes, .ref a_m_parent, .ref a_m_nodeEarly, .ref a_m_nodeLate, .int f_m_exceptions, .ref a_m_periods, .ref a_m_from, .ref a_m_through, .ref a_m_toward, .int f_m_fails, .ref a_m_order, .int f_m_ordered, .ref a_m_done, .ref a_m_reached, .ref a_m_open, .ref a_m_lateDelay, .ref a_m_earlyDelay, .ref a_m_lateSlope, .ref a_m_earlySlope, .ref a_m_greatest, .ref a_m_least, .ref a_m_howMany, .ref a_m_most, .ref a_m_fewest, .ref a_m_pathsTo, .ref a_m_slackOf, .ref a_m_holdOf, .int f_m_listed, .ref a_m_listSlack, .ref a_m_listStart, .ref a_m_listEdge, .ref a_m_listSize, .ref a_m_listCell, .ref a_m_listInput, .ref a_m_rank, .ref a_m_good, .ref a_m_goCell, .ref a_m_goInput, .ref a_m_goEdge, .ref a_m_goMask, .int f_m_target, .int f_m_shown, .ref a_m_shownCell, .ref a_m_shownInput, .ref a_m_shownEdge, .ref a_m_shownLate, .int f_m_shownSlack, .int f_m_shownHold])), (a_m_kind, aI E 50 g_m_kind), (a_m_open, aI E 50 g_m_open)]) [0, 1, 2] rfl) (hD.sub (ws' := [(o_m, .inr (10, [.int f_m_code, .int f_m_cells, .ref a_m_kind, .ref a_m_inputs, .ref a_m_tableOf, .ref a_m_size, .ref a_m_extra, .ref a_m_taken, .ref a_m_portEarly, .ref a_m_portLate, .ref a_m_portSlope, .ref a_m_nodeOf, .ref a_m_setup, .ref a_m_hold, .ref a_m_seen, .ref a_m_numbers, .ref a_m_rowSize, .ref a_m_fall, .int f_m_late, .int f_m_early, .int f_m_period, .int f_m_nodes, .ref a_m_parent, .ref a_m_nodeEarly, .ref a_m_nodeLate, .int f_m_exceptions, .ref a_m_periods, .ref a_m_from, .ref a_m_through, .ref a_m_toward, .int f_m_fails, .ref a_m_order, .int f_m_ordered, .ref a_m_done, .ref a_m_reached, .ref a_m_open, .ref a_m_lateDelay, .ref a_m_earlyDelay, .ref a_m_lateSlope, .ref a_m_earlySlope, .ref a_m_greatest, .ref a_m_least, .ref a_m_howMany, .ref a_m_most, .ref a_m_fewest, .ref a_m_pathsTo, .ref a_m_slackOf, .ref a_m_holdOf, .int f_m_listed, .ref a_m_listSlack, .ref a_m_listStart, .ref a_m_listEdge, .ref a_m_listSize, .ref a_m_listCell, .ref a_m_listInput, .ref a_m_rank, .ref a_m_good, .ref a_m_goCell, .ref a_m_goInput, .ref a_m_goEdge, .ref a_m_goMask, .int f_m_target, .int f_m_shown, .ref a_m_shownCell, .ref a_m_shownInput, .ref a_m_shownEdge, .ref a_m_shownLate, .int f_m_shownSlack, .int f_m_shownHold])), (a_m_kind, aI E 50 g_m_kind), (a_m_open, aI E 50 g_m_open)]) [0, 1, 2] (by decide) rfl) hS rfl dX10_isStart_33 (Nat.le_of_ble_eq_true rfl) (Nat.le_of_ble_eq_true rfl) ⟨(by decide), rfl⟩
    · have e_4 : x_3.toInt = 0 := i3_eq c_4
      refine lv_iconst (v := 1) hx hb dX10_isStart_28 (by decide) ?_
      refine lv_goto (tgt := 33) hx hb dX10_isStart_29 (by decide) ?_
      exact ret_i hx hb hr hlk (hP.sub (ws' := [(o_m, .inr (10, [.int f_m_code, .int f_m_cells, .ref a_m_kind, .ref a_m_inputs, .ref a_m_tableOf, .ref a_m_size, .ref a_m_extra, .ref a_m_taken, .ref a_m_portEarly, .ref a_m_portLate, .ref a_m_portSlope, .ref a_m_nodeOf, .ref a_m_setup, .ref a_m_hold, .ref a_m_seen, .ref a_m_numbers, .ref a_m_rowSize, .ref a_m_fall, .int f_m_late, .int f_m_early, .int f_m_period, .int f_m_nodes, .ref a_m_parent, .ref a_m_nodeEarly, .ref a_m_nodeLate, .int f_m_exceptions, .ref a_m_periods, .ref a_m_from, .ref a_m_through, .ref a_m_toward, .int f_m_fails, .ref a_m_order, .int f_m_ordered, .ref a_m_done, .ref a_m_reached, .ref a_m_open, .ref a_m_lateDelay, .ref a_m_earlyDelay, .ref a_m_lateSlope, .ref a_m_earlySlope, .ref a_m_greatest, .ref a_m_least, .ref a_m_howMany, .ref a_m_most, .ref a_m_fewest, .ref a_m_pathsTo, .ref a_m_slackOf, .ref a_m_holdOf, .int f_m_listed, .ref a_m_listSlack, .ref a_m_listStart, .ref a_m_listEdge, .ref a_m_listSize, .ref a_m_listCell, .ref a_m_listInput, .ref a_m_rank, .ref a_m_good, .ref a_m_goCell, .ref a_m_goInput, .ref a_m_goEdge, .ref a_m_goMask, .int f_m_target, .int f_m_shown, .ref a_m_shownCell, .ref a_m_shownInput, .ref a_m_shownEdge, .ref a_m_shownLate, .int f_m_shownSlack, .int f_m_shownHold])), (a_m_kind, aI E 50 g_m_kind), (a_m_open, aI E 50 g_m_open)]) [0, 1, 2] rfl) (hD.sub (ws' := [(o_m, .inr (10, [.int f_m_code, .int f_m_cells, .ref a_m_kind, .ref a_m_inputs, .ref a_m_tableOf, .ref a_m_size, .ref a_m_extra, .ref a_m_taken, .ref a_m_portEarly, .ref a_m_portLate, .ref a_m_portSlope, .ref a_m_nodeOf, .ref a_m_setup, .ref a_m_hold, .ref a_m_seen, .ref a_m_numbers, .ref a_m_rowSize, .ref a_m_fall, .int f_m_late, .int f_m_early, .int f_m_period, .int f_m_nodes, .ref a_m_parent, .ref a_m_nodeEarly, .ref a_m_nodeLate, .int f_m_exceptions, .ref a_m_periods, .ref a_m_from, .ref a_m_through, .ref a_m_toward, .int f_m_fails, .ref a_m_order, .int f_m_ordered, .ref a_m_done, .ref a_m_reached, .ref a_m_open, .ref a_m_lateDelay, .ref a_m_earlyDelay, .ref a_m_lateSlope, .ref a_m_earlySlope, .ref a_m_greatest, .ref a_m_least, .ref a_m_howMany, .ref a_m_most, .ref a_m_fewest, .ref a_m_pathsTo, .ref a_m_slackOf, .ref a_m_holdOf, .int f_m_listed, .ref a_m_listSlack, .ref a_m_listStart, .ref a_m_listEdge, .ref a_m_listSize, .ref a_m_listCell, .ref a_m_listInput, .ref a_m_rank, .ref a_m_good, .ref a_m_goCell, .ref a_m_goInput, .ref a_m_goEdge, .ref a_m_goMask, .int f_m_target, .int f_m_shown, .ref a_m_shownCell, .ref a_m_shownInput, .ref a_m_shownEdge, .ref a_m_shownLate, .int f_m_shownSlack, .int f_m_shownHold])), (a_m_kind, aI E 50 g_m_kind), (a_m_open, aI E 50 g_m_open)]) [0, 1, 2] (by decide) rfl) hS rfl dX10_isStart_33 (Nat.le_of_ble_eq_true rfl) (Nat.le_of_ble_eq_true rfl) ⟨(by decide), rfl⟩
  · have e_2 : x_1.toInt ≠ 0 := i3_ne c_2
    refine lv_aload_n hx hb dX10_isStart_9 rfl (lv_at hl 0 rfl) ?_
    refine va_get (D := E.1) (ci := 10) (v := .ref a_m_kind) (own := RX10) (C := RX10) (T := TX10) (N := 69) hx hb hts i_m_isStart_X10 hown hK hP 0 rfl rfl 2 (by decide) (hto (.fieldLink RX10 18 "TimingHouseModel" "kind" "[I") (by decide +kernel)) (fun _ h9 => h9) rfl dX10_isStart_10 ?_
    refine lv_iload_n hx hb dX10_isStart_13 rfl (lv_at hl 1 rfl) ?_
    refine ld_i hx hb hK hP 1 rfl (by omega) dX10_isStart_14 (fun x_5 ex_5 => ?_)
    have hq_x_5 : x_1 = x_5 := ex_1.trans ex_5.symm
    subst hq_x_5
    refine lv_iconst (v := 4) hx hb dX10_isStart_15 (by decide) ?_
    refine lv_icmp_ne (tgt := 32) hx hb dX10_isStart_16 (by decide) (fun c_6 => ?_) (fun c_6 => ?_)
    · have e_6 : x_1.toInt ≠ 4 := i3_ne c_6
      refine lv_iconst (v := 0) hx hb dX10_isStart_32 (by decide) ?_
      exact ret_i hx hb hr hlk (hP.sub (ws' := [(o_m, .inr (10, [.int f_m_code, .int f_m_cells, .ref a_m_kind, .ref a_m_inputs, .ref a_m_tableOf, .ref a_m_size, .ref a_m_extra, .ref a_m_taken, .ref a_m_portEarly, .ref a_m_portLate, .ref a_m_portSlope, .ref a_m_nodeOf, .ref a_m_setup, .ref a_m_hold, .ref a_m_seen, .ref a_m_numbers, .ref a_m_rowSize, .ref a_m_fall, .int f_m_late, .int f_m_early, .int f_m_period, .int f_m_nodes, .ref a_m_parent, .ref a_m_nodeEarly, .ref a_m_nodeLate, .int f_m_exceptions, .ref a_m_periods, .ref a_m_from, .ref a_m_through, .ref a_m_toward, .int f_m_fails, .ref a_m_order, .int f_m_ordered, .ref a_m_done, .ref a_m_reached, .ref a_m_open, .ref a_m_lateDelay, .ref a_m_earlyDelay, .ref a_m_lateSlope, .ref a_m_earlySlope, .ref a_m_greatest, .ref a_m_least, .ref a_m_howMany, .ref a_m_most, .ref a_m_fewest, .ref a_m_pathsTo, .ref a_m_slackOf, .ref a_m_holdOf, .int f_m_listed, .ref a_m_listSlack, .ref a_m_listStart, .ref a_m_listEdge, .ref a_m_listSize, .ref a_m_listCell, .ref a_m_listInput, .ref a_m_rank, .ref a_m_good, .ref a_m_goCell, .ref a_m_goInput, .ref a_m_goEdge, .ref a_m_goMask, .int f_m_target, .int f_m_shown, .ref a_m_shownCell, .ref a_m_shownInput, .ref a_m_shownEdge, .ref a_m_shownLate, .int f_m_shownSlack, .int f_m_shownHold])), (a_m_kind, aI E 50 g_m_kind), (a_m_open, aI E 50 g_m_open)]) [0, 1, 2] rfl) (hD.sub (ws' := [(o_m, .inr (10, [.int f_m_code, .int f_m_cells, .ref a_m_kind, .ref a_m_inputs, .ref a_m_tableOf, .ref a_m_size, .ref a_m_extra, .ref a_m_taken, .ref a_m_portEarly, .ref a_m_portLate, .ref a_m_portSlope, .ref a_m_nodeOf, .ref a_m_setup, .ref a_m_hold, .ref a_m_seen, .ref a_m_numbers, .ref a_m_rowSize, .ref a_m_fall, .int f_m_late, .int f_m_early, .int f_m_period, .int f_m_nodes, .ref a_m_parent, .ref a_m_nodeEarly, .ref a_m_nodeLate, .int f_m_exceptions, .ref a_m_periods, .ref a_m_from, .ref a_m_through, .ref a_m_toward, .int f_m_fails, .ref a_m_order, .int f_m_ordered, .ref a_m_done, .ref a_m_reached, .ref a_m_open, .ref a_m_lateDelay, .ref a_m_earlyDelay, .ref a_m_lateSlope, .ref a_m_earlySlope, .ref a_m_greatest, .ref a_m_least, .ref a_m_howMany, .ref a_m_most, .ref a_m_fewest, .ref a_m_pathsTo, .ref a_m_slackOf, .ref a_m_holdOf, .int f_m_listed, .ref a_m_listSlack, .ref a_m_listStart, .ref a_m_listEdge, .ref a_m_listSize, .ref a_m_listCell, .ref a_m_listInput, .ref a_m_rank, .ref a_m_good, .ref a_m_goCell, .ref a_m_goInput, .ref a_m_goEdge, .ref a_m_goMask, .int f_m_target, .int f_m_shown, .ref a_m_shownCell, .ref a_m_shownInput, .ref a_m_shownEdge, .ref a_m_shownLate, .int f_m_shownSlack, .int f_m_shownHold])), (a_m_kind, aI E 50 g_m_kind), (a_m_open, aI E 50 g_m_open)]) [0, 1, 2] (by decide) rfl) hS rfl dX10_isStart_33 (Nat.le_of_ble_eq_true rfl) (Nat.le_of_ble_eq_true rfl) ⟨(by decide), rfl⟩
    · have e_6 : x_1.toInt = 4 := i3_eq c_6
      refine lv_aload_n hx hb dX10_isStart_19 rfl (lv_at hl 0 rfl) ?_
      refine va_get (D := E.1) (ci := 10) (v := .ref a_m_open) (own := RX10) (C := RX10) (T := TX10) (N := 69) hx hb hts i_m_isStart_X10 hown hK hP 0 rfl rfl 35 (by decide) (hto (.fieldLink RX10 120 "TimingHouseModel" "open" "[I") (by decide +kernel)) (fun _ h9 => h9) rfl dX10_isStart_20 ?_
      refine lv_iload_n hx hb dX10_isStart_23 rfl (lv_at hl 1 rfl) ?_
      refine ld_i hx hb hK hP 2 rfl (by omega) dX10_isStart_24 (fun x_7 ex_7 => ?_)
      refine lv_if_ne (tgt := 32) hx hb dX10_isStart_25 (by decide) (fun c_8 => ?_) (fun c_8 => ?_)
      · have e_8 : x_7.toInt ≠ 0 := i3_ne c_8
        refine lv_iconst (v := 0) hx hb dX10_isStart_32 (by decide) ?_
        exact ret_i hx hb hr hlk (hP.sub (ws' := [(o_m, .inr (10, [.int f_m_code, .int f_m_cells, .ref a_m_kind, .ref a_m_inputs, .ref a_m_tableOf, .ref a_m_size, .ref a_m_extra, .ref a_m_taken, .ref a_m_portEarly, .ref a_m_portLate, .ref a_m_portSlope, .ref a_m_nodeOf, .ref a_m_setup, .ref a_m_hold, .ref a_m_seen, .ref a_m_numbers, .ref a_m_rowSize, .ref a_m_fall, .int f_m_late, .int f_m_early, .int f_m_period, .int f_m_nodes, .ref a_m_parent, .ref a_m_nodeEarly, .ref a_m_nodeLate, .int f_m_exceptions, .ref a_m_periods, .ref a_m_from, .ref a_m_through, .ref a_m_toward, .int f_m_fails, .ref a_m_order, .int f_m_ordered, .ref a_m_done, .ref a_m_reached, .ref a_m_open, .ref a_m_lateDelay, .ref a_m_earlyDelay, .ref a_m_lateSlope, .ref a_m_earlySlope, .ref a_m_greatest, .ref a_m_least, .ref a_m_howMany, .ref a_m_most, .ref a_m_fewest, .ref a_m_pathsTo, .ref a_m_slackOf, .ref a_m_holdOf, .int f_m_listed, .ref a_m_listSlack, .ref a_m_listStart, .ref a_m_listEdge, .ref a_m_listSize, .ref a_m_listCell, .ref a_m_listInput, .ref a_m_rank, .ref a_m_good, .ref a_m_goCell, .ref a_m_goInput, .ref a_m_goEdge, .ref a_m_goMask, .int f_m_target, .int f_m_shown, .ref a_m_shownCell, .ref a_m_shownInput, .ref a_m_shownEdge, .ref a_m_shownLate, .int f_m_shownSlack, .int f_m_shownHold])), (a_m_kind, aI E 50 g_m_kind), (a_m_open, aI E 50 g_m_open)]) [0, 1, 2] rfl) (hD.sub (ws' := [(o_m, .inr (10, [.int f_m_code, .int f_m_cells, .ref a_m_kind, .ref a_m_inputs, .ref a_m_tableOf, .ref a_m_size, .ref a_m_extra, .ref a_m_taken, .ref a_m_portEarly, .ref a_m_portLate, .ref a_m_portSlope, .ref a_m_nodeOf, .ref a_m_setup, .ref a_m_hold, .ref a_m_seen, .ref a_m_numbers, .ref a_m_rowSize, .ref a_m_fall, .int f_m_late, .int f_m_early, .int f_m_period, .int f_m_nodes, .ref a_m_parent, .ref a_m_nodeEarly, .ref a_m_nodeLate, .int f_m_exceptions, .ref a_m_periods, .ref a_m_from, .ref a_m_through, .ref a_m_toward, .int f_m_fails, .ref a_m_order, .int f_m_ordered, .ref a_m_done, .ref a_m_reached, .ref a_m_open, .ref a_m_lateDelay, .ref a_m_earlyDelay, .ref a_m_lateSlope, .ref a_m_earlySlope, .ref a_m_greatest, .ref a_m_least, .ref a_m_howMany, .ref a_m_most, .ref a_m_fewest, .ref a_m_pathsTo, .ref a_m_slackOf, .ref a_m_holdOf, .int f_m_listed, .ref a_m_listSlack, .ref a_m_listStart, .ref a_m_listEdge, .ref a_m_listSize, .ref a_m_listCell, .ref a_m_listInput, .ref a_m_rank, .ref a_m_good, .ref a_m_goCell, .ref a_m_goInput, .ref a_m_goEdge, .ref a_m_goMask, .int f_m_target, .int f_m_shown, .ref a_m_shownCell, .ref a_m_shownInput, .ref a_m_shownEdge, .ref a_m_shownLate, .int f_m_shownSlack, .int f_m_shownHold])), (a_m_kind, aI E 50 g_m_kind), (a_m_open, aI E 50 g_m_open)]) [0, 1, 2] (by decide) rfl) hS rfl dX10_isStart_33 (Nat.le_of_ble_eq_true rfl) (Nat.le_of_ble_eq_true rfl) ⟨(by decide), rfl⟩
      · have e_8 : x_7.toInt = 0 := i3_eq c_8
        refine lv_iconst (v := 1) hx hb dX10_isStart_28 (by decide) ?_
        refine lv_goto (tgt := 33) hx hb dX10_isStart_29 (by decide) ?_
        exact ret_i hx hb hr hlk (hP.sub (ws' := [(o_m, .inr (10, [.int f_m_code, .int f_m_cells, .ref a_m_kind, .ref a_m_inputs, .ref a_m_tableOf, .ref a_m_size, .ref a_m_extra, .ref a_m_taken, .ref a_m_portEarly, .ref a_m_portLate, .ref a_m_portSlope, .ref a_m_nodeOf, .ref a_m_setup, .ref a_m_hold, .ref a_m_seen, .ref a_m_numbers, .ref a_m_rowSize, .ref a_m_fall, .int f_m_late, .int f_m_early, .int f_m_period, .int f_m_nodes, .ref a_m_parent, .ref a_m_nodeEarly, .ref a_m_nodeLate, .int f_m_exceptions, .ref a_m_periods, .ref a_m_from, .ref a_m_through, .ref a_m_toward, .int f_m_fails, .ref a_m_order, .int f_m_ordered, .ref a_m_done, .ref a_m_reached, .ref a_m_open, .ref a_m_lateDelay, .ref a_m_earlyDelay, .ref a_m_lateSlope, .ref a_m_earlySlope, .ref a_m_greatest, .ref a_m_least, .ref a_m_howMany, .ref a_m_most, .ref a_m_fewest, .ref a_m_pathsTo, .ref a_m_slackOf, .ref a_m_holdOf, .int f_m_listed, .ref a_m_listSlack, .ref a_m_listStart, .ref a_m_listEdge, .ref a_m_listSize, .ref a_m_listCell, .ref a_m_listInput, .ref a_m_rank, .ref a_m_good, .ref a_m_goCell, .ref a_m_goInput, .ref a_m_goEdge, .ref a_m_goMask, .int f_m_target, .int f_m_shown, .ref a_m_shownCell, .ref a_m_shownInput, .ref a_m_shownEdge, .ref a_m_shownLate, .int f_m_shownSlack, .int f_m_shownHold])), (a_m_kind, aI E 50 g_m_kind), (a_m_open, aI E 50 g_m_open)]) [0, 1, 2] rfl) (hD.sub (ws' := [(o_m, .inr (10, [.int f_m_code, .int f_m_cells, .ref a_m_kind, .ref a_m_inputs, .ref a_m_tableOf, .ref a_m_size, .ref a_m_extra, .ref a_m_taken, .ref a_m_portEarly, .ref a_m_portLate, .ref a_m_portSlope, .ref a_m_nodeOf, .ref a_m_setup, .ref a_m_hold, .ref a_m_seen, .ref a_m_numbers, .ref a_m_rowSize, .ref a_m_fall, .int f_m_late, .int f_m_early, .int f_m_period, .int f_m_nodes, .ref a_m_parent, .ref a_m_nodeEarly, .ref a_m_nodeLate, .int f_m_exceptions, .ref a_m_periods, .ref a_m_from, .ref a_m_through, .ref a_m_toward, .int f_m_fails, .ref a_m_order, .int f_m_ordered, .ref a_m_done, .ref a_m_reached, .ref a_m_open, .ref a_m_lateDelay, .ref a_m_earlyDelay, .ref a_m_lateSlope, .ref a_m_earlySlope, .ref a_m_greatest, .ref a_m_least, .ref a_m_howMany, .ref a_m_most, .ref a_m_fewest, .ref a_m_pathsTo, .ref a_m_slackOf, .ref a_m_holdOf, .int f_m_listed, .ref a_m_listSlack, .ref a_m_listStart, .ref a_m_listEdge, .ref a_m_listSize, .ref a_m_listCell, .ref a_m_listInput, .ref a_m_rank, .ref a_m_good, .ref a_m_goCell, .ref a_m_goInput, .ref a_m_goEdge, .ref a_m_goMask, .int f_m_target, .int f_m_shown, .ref a_m_shownCell, .ref a_m_shownInput, .ref a_m_shownEdge, .ref a_m_shownLate, .int f_m_shownSlack, .int f_m_shownHold])), (a_m_kind, aI E 50 g_m_kind), (a_m_open, aI E 50 g_m_open)]) [0, 1, 2] (by decide) rfl) hS rfl dX10_isStart_33 (Nat.le_of_ble_eq_true rfl) (Nat.le_of_ble_eq_true rfl) ⟨(by decide), rfl⟩
theorem dX10_metBy_0 : decode cX10_metBy 0 = .ok (.iconst 0, 1) := by decide +kernel
theorem dX10_metBy_1 : decode cX10_metBy 1 = .ok (.istore_n 2, 1) := by decide +kernel
theorem dX10_metBy_2 : decode cX10_metBy 2 = .ok (.iconst 0, 1) := by decide +kernel
theorem dX10_metBy_3 : decode cX10_metBy 3 = .ok (.istore_n 3, 1) := by decide +kernel
theorem dX10_metBy_4 : decode cX10_metBy 4 = .ok (.iload_n 3, 1) := by decide +kernel
theorem dX10_metBy_5 : decode cX10_metBy 5 = .ok (.aload_n 0, 1) := by decide +kernel
theorem dX10_metBy_6 : decode cX10_metBy 6 = .ok (.getfield 222, 3) := by decide +kernel
theorem dX10_metBy_9 : decode cX10_metBy 9 = .ok (.if_icmp .ge 29, 3) := by decide +kernel
theorem dX10_metBy_38 : decode cX10_metBy 38 = .ok (.iload_n 2, 1) := by decide +kernel
theorem dX10_metBy_39 : decode cX10_metBy 39 = .ok (.ireturn, 1) := by decide +kernel
theorem dX10_metBy_12 : decode cX10_metBy 12 = .ok (.iload_n 2, 1) := by decide +kernel
theorem dX10_metBy_13 : decode cX10_metBy 13 = .ok (.aload_n 0, 1) := by decide +kernel
theorem dX10_metBy_14 : decode cX10_metBy 14 = .ok (.getfield 105, 3) := by decide +kernel
theorem dX10_metBy_17 : decode cX10_metBy 17 = .ok (.iload_n 3, 1) := by decide +kernel
theorem dX10_metBy_18 : decode cX10_metBy 18 = .ok (.iaload, 1) := by decide +kernel
theorem dX10_metBy_19 : decode cX10_metBy 19 = .ok (.iload_n 1, 1) := by decide +kernel
theorem dX10_metBy_20 : decode cX10_metBy 20 = .ok (.if_icmp .ne 9, 3) := by decide +kernel
theorem dX10_metBy_29 : decode cX10_metBy 29 = .ok (.iconst 0, 1) := by decide +kernel
theorem dX10_metBy_30 : decode cX10_metBy 30 = .ok (.ior, 1) := by decide +kernel
theorem dX10_metBy_31 : decode cX10_metBy 31 = .ok (.istore_n 2, 1) := by decide +kernel
theorem dX10_metBy_32 : decode cX10_metBy 32 = .ok (.iinc 3 1, 3) := by decide +kernel
theorem dX10_metBy_35 : decode cX10_metBy 35 = .ok (.goto (-31), 3) := by decide +kernel
theorem dX10_metBy_23 : decode cX10_metBy 23 = .ok (.iconst 1, 1) := by decide +kernel
theorem dX10_metBy_24 : decode cX10_metBy 24 = .ok (.iload_n 3, 1) := by decide +kernel
theorem dX10_metBy_25 : decode cX10_metBy 25 = .ok (.ishl, 1) := by decide +kernel
theorem dX10_metBy_26 : decode cX10_metBy 26 = .ok (.goto 4, 3) := by decide +kernel
def wo_m_metBy : List Cond := [.code yX10_metBy cX10_metBy 4 (some .int), .fieldLink RX10 222 "TimingHouseModel" "exceptions" "I", .fieldLink RX10 105 "TimingHouseModel" "through" "[I"]
def wr_m_metBy : List Cond := (wsX100 ++ ([]))
def w_m_metBy : List Cond := wo_m_metBy ++ wr_m_metBy
theorem wg_m_metBy : GW w_m_metBy := GW_app (GW_of (by decide +kernel)) (GW_app (GW_of (by decide +kernel)) (GW_nil))
theorem i_m_metBy_X10 : ∀ w ∈ wsX100, w ∈ w_m_metBy := fun _ h => List.mem_append_right _ (List.mem_append_left _ h)
set_option maxHeartbeats 8000000 in
set_option maxRecDepth 100000 in
theorem m_metBy (l : Launch) (E : gE) (o_m a_m_kind a_m_inputs a_m_tableOf a_m_size a_m_extra a_m_taken a_m_portEarly a_m_portLate a_m_portSlope a_m_nodeOf a_m_setup a_m_hold a_m_seen a_m_numbers a_m_rowSize a_m_fall a_m_parent a_m_nodeEarly a_m_nodeLate a_m_periods a_m_from a_m_through a_m_toward a_m_order a_m_done a_m_reached a_m_open a_m_lateDelay a_m_earlyDelay a_m_lateSlope a_m_earlySlope a_m_greatest a_m_least a_m_howMany a_m_most a_m_fewest a_m_pathsTo a_m_slackOf a_m_holdOf a_m_listSlack a_m_listStart a_m_listEdge a_m_listSize a_m_listCell a_m_listInput a_m_rank a_m_good a_m_goCell a_m_goInput a_m_goEdge a_m_goMask a_m_shownCell a_m_shownInput a_m_shownEdge a_m_shownLate : Nat) (f_m_code f_m_cells f_m_late f_m_early f_m_period f_m_nodes f_m_exceptions f_m_fails f_m_ordered f_m_listed f_m_target f_m_shown f_m_shownSlack f_m_shownHold p1 : Int32) (g_m_through : Nat → Int32) (r_f_m_cells : RG f_m_cells 0 50) (r_f_m_late : RG f_m_late 0 500) (r_f_m_early : RG f_m_early 0 500) (r_f_m_period : RG f_m_period 1 1000000) (r_f_m_nodes : RG f_m_nodes 0 20) (r_f_m_exceptions : RG f_m_exceptions 0 4) (r_f_m_ordered : RG f_m_ordered 0 50) (r_f_m_listed : RG f_m_listed 0 1000) (r_f_m_target : RG f_m_target 0 49) (r_f_m_shown : RG f_m_shown 0 52) (i_g_m_through : AR g_m_through 4 (-1) 49) (r_p1 : RG p1 0 49) : CtI l E yX10_metBy w_m_metBy ({ frames := 0, cells := 0, slots := 0, locals := 0 }) [(o_m, .inr (10, [.int f_m_code, .int f_m_cells, .ref a_m_kind, .ref a_m_inputs, .ref a_m_tableOf, .ref a_m_size, .ref a_m_extra, .ref a_m_taken, .ref a_m_portEarly, .ref a_m_portLate, .ref a_m_portSlope, .ref a_m_nodeOf, .ref a_m_setup, .ref a_m_hold, .ref a_m_seen, .ref a_m_numbers, .ref a_m_rowSize, .ref a_m_fall, .int f_m_late, .int f_m_early, .int f_m_period, .int f_m_nodes, .ref a_m_parent, .ref a_m_nodeEarly, .ref a_m_nodeLate, .int f_m_exceptions, .ref a_m_periods, .ref a_m_from, .ref a_m_through, .ref a_m_toward, .int f_m_fails, .ref a_m_order, .int f_m_ordered, .ref a_m_done, .ref a_m_reached, .ref a_m_open, .ref a_m_lateDelay, .ref a_m_earlyDelay, .ref a_m_lateSlope, .ref a_m_earlySlope, .ref a_m_greatest, .ref a_m_least, .ref a_m_howMany, .ref a_m_most, .ref a_m_fewest, .ref a_m_pathsTo, .ref a_m_slackOf, .ref a_m_holdOf, .int f_m_listed, .ref a_m_listSlack, .ref a_m_listStart, .ref a_m_listEdge, .ref a_m_listSize, .ref a_m_listCell, .ref a_m_listInput, .ref a_m_rank, .ref a_m_good, .ref a_m_goCell, .ref a_m_goInput, .ref a_m_goEdge, .ref a_m_goMask, .int f_m_target, .int f_m_shown, .ref a_m_shownCell, .ref a_m_shownInput, .ref a_m_shownEdge, .ref a_m_shownLate, .int f_m_shownSlack, .int f_m_shownHold])), (a_m_through, aI E 4 g_m_through)] [.ref o_m, .int p1] (fun r w => (0 ≤ r.toInt ∧ r.toInt ≤ 15) ∧ w = [(o_m, .inr (10, [.int f_m_code, .int f_m_cells, .ref a_m_kind, .ref a_m_inputs, .ref a_m_tableOf, .ref a_m_size, .ref a_m_extra, .ref a_m_taken, .ref a_m_portEarly, .ref a_m_portLate, .ref a_m_portSlope, .ref a_m_nodeOf, .ref a_m_setup, .ref a_m_hold, .ref a_m_seen, .ref a_m_numbers, .ref a_m_rowSize, .ref a_m_fall, .int f_m_late, .int f_m_early, .int f_m_period, .int f_m_nodes, .ref a_m_parent, .ref a_m_nodeEarly, .ref a_m_nodeLate, .int f_m_exceptions, .ref a_m_periods, .ref a_m_from, .ref a_m_through, .ref a_m_toward, .int f_m_fails, .ref a_m_order, .int f_m_ordered, .ref a_m_done, .ref a_m_reached, .ref a_m_open, .ref a_m_lateDelay, .ref a_m_earlyDelay, .ref a_m_lateSlope, .ref a_m_earlySlope, .ref a_m_greatest, .ref a_m_least, .ref a_m_howMany, .ref a_m_most, .ref a_m_fewest, .ref a_m_pathsTo, .ref a_m_slackOf, .ref a_m_holdOf, .int f_m_listed, .ref a_m_listSlack, .ref a_m_listStart, .ref a_m_listEdge, .ref a_m_listSize, .ref a_m_listCell, .ref a_m_listInput, .ref a_m_rank, .ref a_m_good, .ref a_m_goCell, .ref a_m_goInput, .ref a_m_goEdge, .ref a_m_goMask, .int f_m_target, .int f_m_shown, .ref a_m_shownCell, .ref a_m_shownInput, .ref a_m_shownEdge, .ref a_m_shownLate, .int f_m_shownSlack, .int f_m_shownHold])), (a_m_through, aI E 4 g_m_through)]) := by
  refine CtI.of (cc := cX10_metBy) (maxL := 4) (rt := (some .int)) (by decide) rfl (Nat.le_of_ble_eq_true rfl) ?_
  intro p e s m below meth c A B ls hl
  obtain ⟨hx, hb, hml, hr, hlk, hin, hts, hown, hK, hN, hZ, hA, hP, hD, hS⟩ := B
  replace hown : s.vm.findClass RX10 = some m.cls := hown
  have hto : ∀ w ∈ wo_m_metBy, w.before _ s = true := fun w h => hts w (List.mem_append_left _ h)
  replace hl : lv_has ls 4 [(0, .ref o_m), (1, .int p1)] := hl
  obtain ⟨H, hHe⟩ : ∃ H, H = s.heap := ⟨_, rfl⟩
  obtain ⟨locs, hle⟩ : ∃ l : List Loc, l = [] := ⟨_, rfl⟩
  replace hS : va_S A s.heap H locs := by rw [hHe, hle]; exact hS
  replace hP : va_P E.1 vwCl [(o_m, .inr (10, [.int f_m_code, .int f_m_cells, .ref a_m_kind, .ref a_m_inputs, .ref a_m_tableOf, .ref a_m_size, .ref a_m_extra, .ref a_m_taken, .ref a_m_portEarly, .ref a_m_portLate, .ref a_m_portSlope, .ref a_m_nodeOf, .ref a_m_setup, .ref a_m_hold, .ref a_m_seen, .ref a_m_numbers, .ref a_m_rowSize, .ref a_m_fall, .int f_m_late, .int f_m_early, .int f_m_period, .int f_m_nodes, .ref a_m_parent, .ref a_m_nodeEarly, .ref a_m_nodeLate, .int f_m_exceptions, .ref a_m_periods, .ref a_m_from, .ref a_m_through, .ref a_m_toward, .int f_m_fails, .ref a_m_order, .int f_m_ordered, .ref a_m_done, .ref a_m_reached, .ref a_m_open, .ref a_m_lateDelay, .ref a_m_earlyDelay, .ref a_m_lateSlope, .ref a_m_earlySlope, .ref a_m_greatest, .ref a_m_least, .ref a_m_howMany, .ref a_m_most, .ref a_m_fewest, .ref a_m_pathsTo, .ref a_m_slackOf, .ref a_m_holdOf, .int f_m_listed, .ref a_m_listSlack, .ref a_m_listStart, .ref a_m_listEdge, .ref a_m_listSize, .ref a_m_listCell, .ref a_m_listInput, .ref a_m_rank, .ref a_m_good, .ref a_m_goCell, .ref a_m_goInput, .ref a_m_goEdge, .ref a_m_goMask, .int f_m_target, .int f_m_shown, .ref a_m_shownCell, .ref a_m_shownInput, .ref a_m_shownEdge, .ref a_m_shownLate, .int f_m_shownSlack, .int f_m_shownHold])), (a_m_through, aI E 4 g_m_through)] H := by rw [hHe]; exact hP
  refine W_hl hHe hle ?_
  clear hHe hle
  refine lv_iconst (v := 0) hx hb dX10_metBy_0 (by decide) ?_
  refine lv_istore_n (lv' := [(2, .int 0), (0, .ref o_m), (1, .int p1)]) hx hb dX10_metBy_1 rfl hl (by decide) rfl (fun ls hl => ?_)
  refine lv_iconst (v := 0) hx hb dX10_metBy_2 (by decide) ?_
  refine lv_istore_n (lv' := [(3, .int 0), (2, .int 0), (0, .ref o_m), (1, .int p1)]) hx hb dX10_metBy_3 rfl hl (by decide) rfl (fun ls hl => ?_)
  obtain ⟨y_1, hy_1⟩ : ∃ y : Int32, y = 0 := ⟨_, rfl⟩
  have b_y_1 : 0 ≤ y_1.toInt ∧ y_1.toInt ≤ 4 := by rw [hy_1]; decide
  obtain ⟨y_2, hy_2⟩ : ∃ y : Int32, y = 0 := ⟨_, rfl⟩
  have b_y_2 : 0 ≤ y_2.toInt ∧ y_2.toInt ≤ 15 := by rw [hy_2]; decide
  replace hl : lv_has ls 4 [(3, .int y_1), (2, .int y_2), (0, .ref o_m), (1, .int p1)] := by rw [hy_1, hy_2]; exact hl
  clear hy_1 hy_2
  obtain ⟨d_3, hd_3⟩ : ∃ d : Nat, 4 - y_1.toInt < (d : Int) := ⟨(4 - y_1.toInt + 1).toNat, by omega⟩
  induction d_3 generalizing y_1 y_2 H locs ls with
  | zero => exfalso; omega
  | succ d_3 ih_d_3 =>
    refine lv_iload_n hx hb dX10_metBy_4 rfl (lv_at hl 0 rfl) ?_
    refine lv_aload_n hx hb dX10_metBy_5 rfl (lv_at hl 2 rfl) ?_
    refine va_get (D := E.1) (ci := 10) (v := .int f_m_exceptions) (own := RX10) (C := RX10) (T := TX10) (N := 69) hx hb hts i_m_metBy_X10 hown hK hP 0 rfl rfl 25 (by decide) (hto (.fieldLink RX10 222 "TimingHouseModel" "exceptions" "I") (by decide +kernel)) (fun _ h9 => h9) rfl dX10_metBy_6 ?_
    have b_f_m_exceptions := r_f_m_exceptions.out
    refine lv_icmp_ge (tgt := 38) hx hb dX10_metBy_9 (by decide) (fun c_4 => ?_) (fun c_4 => ?_)
    · have e_4 : f_m_exceptions.toInt ≤ y_1.toInt := i3_le c_4
      refine lv_iload_n hx hb dX10_metBy_38 rfl (lv_at hl 1 rfl) ?_
      exact ret_i hx hb hr hlk (hP.sub (ws' := [(o_m, .inr (10, [.int f_m_code, .int f_m_cells, .ref a_m_kind, .ref a_m_inputs, .ref a_m_tableOf, .ref a_m_size, .ref a_m_extra, .ref a_m_taken, .ref a_m_portEarly, .ref a_m_portLate, .ref a_m_portSlope, .ref a_m_nodeOf, .ref a_m_setup, .ref a_m_hold, .ref a_m_seen, .ref a_m_numbers, .ref a_m_rowSize, .ref a_m_fall, .int f_m_late, .int f_m_early, .int f_m_period, .int f_m_nodes, .ref a_m_parent, .ref a_m_nodeEarly, .ref a_m_nodeLate, .int f_m_exceptions, .ref a_m_periods, .ref a_m_from, .ref a_m_through, .ref a_m_toward, .int f_m_fails, .ref a_m_order, .int f_m_ordered, .ref a_m_done, .ref a_m_reached, .ref a_m_open, .ref a_m_lateDelay, .ref a_m_earlyDelay, .ref a_m_lateSlope, .ref a_m_earlySlope, .ref a_m_greatest, .ref a_m_least, .ref a_m_howMany, .ref a_m_most, .ref a_m_fewest, .ref a_m_pathsTo, .ref a_m_slackOf, .ref a_m_holdOf, .int f_m_listed, .ref a_m_listSlack, .ref a_m_listStart, .ref a_m_listEdge, .ref a_m_listSize, .ref a_m_listCell, .ref a_m_listInput, .ref a_m_rank, .ref a_m_good, .ref a_m_goCell, .ref a_m_goInput, .ref a_m_goEdge, .ref a_m_goMask, .int f_m_target, .int f_m_shown, .ref a_m_shownCell, .ref a_m_shownInput, .ref a_m_shownEdge, .ref a_m_shownLate, .int f_m_shownSlack, .int f_m_shownHold])), (a_m_through, aI E 4 g_m_through)]) [0, 1] rfl) (hD.sub (ws' := [(o_m, .inr (10, [.int f_m_code, .int f_m_cells, .ref a_m_kind, .ref a_m_inputs, .ref a_m_tableOf, .ref a_m_size, .ref a_m_extra, .ref a_m_taken, .ref a_m_portEarly, .ref a_m_portLate, .ref a_m_portSlope, .ref a_m_nodeOf, .ref a_m_setup, .ref a_m_hold, .ref a_m_seen, .ref a_m_numbers, .ref a_m_rowSize, .ref a_m_fall, .int f_m_late, .int f_m_early, .int f_m_period, .int f_m_nodes, .ref a_m_parent, .ref a_m_nodeEarly, .ref a_m_nodeLate, .int f_m_exceptions, .ref a_m_periods, .ref a_m_from, .ref a_m_through, .ref a_m_toward, .int f_m_fails, .ref a_m_order, .int f_m_ordered, .ref a_m_done, .ref a_m_reached, .ref a_m_open, .ref a_m_lateDelay, .ref a_m_earlyDelay, .ref a_m_lateSlope, .ref a_m_earlySlope, .ref a_m_greatest, .ref a_m_least, .ref a_m_howMany, .ref a_m_most, .ref a_m_fewest, .ref a_m_pathsTo, .ref a_m_slackOf, .ref a_m_holdOf, .int f_m_listed, .ref a_m_listSlack, .ref a_m_listStart, .ref a_m_listEdge, .ref a_m_listSize, .ref a_m_listCell, .ref a_m_listInput, .ref a_m_rank, .ref a_m_good, .ref a_m_goCell, .ref a_m_goInput, .ref a_m_goEdge, .ref a_m_goMask, .int f_m_target, .int f_m_shown, .ref a_m_shownCell, .ref a_m_shownInput, .ref a_m_shownEdge, .ref a_m_shownLate, .int f_m_shownSlack, .int f_m_shownHold])), (a_m_through, aI E 4 g_m_through)]) [0, 1] (by decide) rfl) hS rfl dX10_metBy_39 (Nat.le_of_ble_eq_true rfl) (Nat.le_of_ble_eq_true rfl) ⟨(by omega), rfl⟩
    · have e_4 : y_1.toInt < f_m_exceptions.toInt := i3_nle c_4
      refine lv_iload_n hx hb dX10_metBy_12 rfl (lv_at hl 1 rfl) ?_
      refine lv_aload_n hx hb dX10_metBy_13 rfl (lv_at hl 2 rfl) ?_
      refine va_get (D := E.1) (ci := 10) (v := .ref a_m_through) (own := RX10) (C := RX10) (T := TX10) (N := 69) hx hb hts i_m_metBy_X10 hown hK hP 0 rfl rfl 28 (by decide) (hto (.fieldLink RX10 105 "TimingHouseModel" "through" "[I") (by decide +kernel)) (fun _ h9 => h9) rfl dX10_metBy_14 ?_
      refine lv_iload_n hx hb dX10_metBy_17 rfl (lv_at hl 0 rfl) ?_
      refine ld_i hx hb hK hP 1 rfl (by omega) dX10_metBy_18 (fun x_5 ex_5 => ?_)
      have b_x_5 := AR.rd i_g_m_through ex_5 (by omega)
      refine lv_iload_n hx hb dX10_metBy_19 rfl (lv_at hl 3 rfl) ?_
      have b_p1 := r_p1.out
      refine lv_icmp_ne (tgt := 29) hx hb dX10_metBy_20 (by decide) (fun c_6 => ?_) (fun c_6 => ?_)
      · have e_6 : x_5.toInt ≠ p1.toInt := i3_ne c_6
        refine lv_iconst (v := 0) hx hb dX10_metBy_29 (by decide) ?_
        refine lv_ior hx hb dX10_metBy_30 ?_
        refine lv_topi (fun x_7 ex_7 => ?_)
        have b_x_7 := i3_or15 ex_7 (by omega) (by decide)
        refine lv_istore_n (lv' := [(2, .int x_7), (3, .int y_1), (0, .ref o_m), (1, .int p1)]) hx hb dX10_metBy_31 rfl hl (by decide) rfl (fun ls hl => ?_)
        obtain ⟨x_8, ex_8⟩ : ∃ y : Int32, y = y_1 + 1 := ⟨_, rfl⟩
        have tx_8 : x_8.toInt = y_1.toInt + 1 := i3_addc rfl rfl ex_8 (by omega)
        refine lv_iinc (v := x_8) (lv' := [(3, .int x_8), (2, .int x_7), (0, .ref o_m), (1, .int p1)]) hx hb dX10_metBy_32 hl (k := 1) rfl (by rw [ex_8]; rfl) (by decide) rfl (fun ls hl => ?_)
        refine lv_goto (tgt := 4) hx hb dX10_metBy_35 (by decide) ?_
        apply ih_d_3 (y_1 := x_8) (y_2 := x_7) (H := H) (locs := locs) (ls := ls) <;> first | assumption | omega | decide
      · have e_6 : x_5.toInt = p1.toInt := i3_eq c_6
        refine lv_iconst (v := 1) hx hb dX10_metBy_23 (by decide) ?_
        refine lv_iload_n hx hb dX10_metBy_24 rfl (lv_at hl 0 rfl) ?_
        refine lv_ishl hx hb dX10_metBy_25 ?_
        refine lv_topi (fun x_9 ex_9 => ?_)
        have b_x_9 := i3_shl3 ex_9 (by omega)
        refine lv_goto (tgt := 30) hx hb dX10_metBy_26 (by decide) ?_
        refine lv_ior hx hb dX10_metBy_30 ?_
        refine lv_topi (fun x_10 ex_10 => ?_)
        have b_x_10 := i3_or15 ex_10 (by omega) (by omega)
        refine lv_istore_n (lv' := [(2, .int x_10), (3, .int y_1), (0, .ref o_m), (1, .int p1)]) hx hb dX10_metBy_31 rfl hl (by decide) rfl (fun ls hl => ?_)
        obtain ⟨x_11, ex_11⟩ : ∃ y : Int32, y = y_1 + 1 := ⟨_, rfl⟩
        have tx_11 : x_11.toInt = y_1.toInt + 1 := i3_addc rfl rfl ex_11 (by omega)
        refine lv_iinc (v := x_11) (lv' := [(3, .int x_11), (2, .int x_10), (0, .ref o_m), (1, .int p1)]) hx hb dX10_metBy_32 hl (k := 1) rfl (by rw [ex_11]; rfl) (by decide) rfl (fun ls hl => ?_)
        refine lv_goto (tgt := 4) hx hb dX10_metBy_35 (by decide) ?_
        apply ih_d_3 (y_1 := x_11) (y_2 := x_10) (H := H) (locs := locs) (ls := ls) <;> first | assumption | omega | decide
theorem dX10_periodsOf_0 : decode cX10_periodsOf 0 = .ok (.iconst 1, 1) := by decide +kernel
theorem dX10_periodsOf_1 : decode cX10_periodsOf 1 = .ok (.istore 4, 2) := by decide +kernel
theorem dX10_periodsOf_3 : decode cX10_periodsOf 3 = .ok (.iconst 0, 1) := by decide +kernel
theorem dX10_periodsOf_4 : decode cX10_periodsOf 4 = .ok (.istore 5, 2) := by decide +kernel
theorem dX10_periodsOf_6 : decode cX10_periodsOf 6 = .ok (.iload 5, 2) := by decide +kernel
theorem dX10_periodsOf_8 : decode cX10_periodsOf 8 = .ok (.aload_n 0, 1) := by decide +kernel
theorem dX10_periodsOf_9 : decode cX10_periodsOf 9 = .ok (.getfield 222, 3) := by decide +kernel
theorem dX10_periodsOf_12 : decode cX10_periodsOf 12 = .ok (.if_icmp .ge 97, 3) := by decide +kernel
theorem dX10_periodsOf_109 : decode cX10_periodsOf 109 = .ok (.iload 4, 2) := by decide +kernel
theorem dX10_periodsOf_111 : decode cX10_periodsOf 111 = .ok (.ireturn, 1) := by decide +kernel
theorem dX10_periodsOf_15 : decode cX10_periodsOf 15 = .ok (.aload_n 0, 1) := by decide +kernel
theorem dX10_periodsOf_16 : decode cX10_periodsOf 16 = .ok (.getfield 102, 3) := by decide +kernel
theorem dX10_periodsOf_19 : decode cX10_periodsOf 19 = .ok (.iload 5, 2) := by decide +kernel
theorem dX10_periodsOf_21 : decode cX10_periodsOf 21 = .ok (.iaload, 1) := by decide +kernel
theorem dX10_periodsOf_22 : decode cX10_periodsOf 22 = .ok (.ifCond .lt 14, 3) := by decide +kernel
theorem dX10_periodsOf_36 : decode cX10_periodsOf 36 = .ok (.aload_n 0, 1) := by decide +kernel
theorem dX10_periodsOf_37 : decode cX10_periodsOf 37 = .ok (.getfield 105, 3) := by decide +kernel
theorem dX10_periodsOf_40 : decode cX10_periodsOf 40 = .ok (.iload 5, 2) := by decide +kernel
theorem dX10_periodsOf_42 : decode cX10_periodsOf 42 = .ok (.iaload, 1) := by decide +kernel
theorem dX10_periodsOf_43 : decode cX10_periodsOf 43 = .ok (.ifCond .lt 13, 3) := by decide +kernel
theorem dX10_periodsOf_56 : decode cX10_periodsOf 56 = .ok (.aload_n 0, 1) := by decide +kernel
theorem dX10_periodsOf_57 : decode cX10_periodsOf 57 = .ok (.getfield 108, 3) := by decide +kernel
theorem dX10_periodsOf_60 : decode cX10_periodsOf 60 = .ok (.iload 5, 2) := by decide +kernel
theorem dX10_periodsOf_62 : decode cX10_periodsOf 62 = .ok (.iaload, 1) := by decide +kernel
theorem dX10_periodsOf_63 : decode cX10_periodsOf 63 = .ok (.ifCond .lt 14, 3) := by decide +kernel
theorem dX10_periodsOf_77 : decode cX10_periodsOf 77 = .ok (.iconst 1, 1) := by decide +kernel
theorem dX10_periodsOf_78 : decode cX10_periodsOf 78 = .ok (.goto 4, 3) := by decide +kernel
theorem dX10_periodsOf_82 : decode cX10_periodsOf 82 = .ok (.istore 6, 2) := by decide +kernel
theorem dX10_periodsOf_84 : decode cX10_periodsOf 84 = .ok (.iload 6, 2) := by decide +kernel
theorem dX10_periodsOf_86 : decode cX10_periodsOf 86 = .ok (.ifCond .eq 13, 3) := by decide +kernel
theorem dX10_periodsOf_89 : decode cX10_periodsOf 89 = .ok (.aload_n 0, 1) := by decide +kernel
theorem dX10_periodsOf_90 : decode cX10_periodsOf 90 = .ok (.getfield 99, 3) := by decide +kernel
theorem dX10_periodsOf_93 : decode cX10_periodsOf 93 = .ok (.iload 5, 2) := by decide +kernel
theorem dX10_periodsOf_95 : decode cX10_periodsOf 95 = .ok (.iaload, 1) := by decide +kernel
theorem dX10_periodsOf_96 : decode cX10_periodsOf 96 = .ok (.goto 5, 3) := by decide +kernel
theorem dX10_periodsOf_101 : decode cX10_periodsOf 101 = .ok (.istore 4, 2) := by decide +kernel
theorem dX10_periodsOf_103 : decode cX10_periodsOf 103 = .ok (.iinc 5 1, 3) := by decide +kernel
theorem dX10_periodsOf_106 : decode cX10_periodsOf 106 = .ok (.goto (-100), 3) := by decide +kernel
theorem dX10_periodsOf_66 : decode cX10_periodsOf 66 = .ok (.aload_n 0, 1) := by decide +kernel
theorem dX10_periodsOf_67 : decode cX10_periodsOf 67 = .ok (.getfield 108, 3) := by decide +kernel
theorem dX10_periodsOf_70 : decode cX10_periodsOf 70 = .ok (.iload 5, 2) := by decide +kernel
theorem dX10_periodsOf_72 : decode cX10_periodsOf 72 = .ok (.iaload, 1) := by decide +kernel
theorem dX10_periodsOf_73 : decode cX10_periodsOf 73 = .ok (.iload_n 2, 1) := by decide +kernel
theorem dX10_periodsOf_74 : decode cX10_periodsOf 74 = .ok (.if_icmp .ne 7, 3) := by decide +kernel
theorem dX10_periodsOf_81 : decode cX10_periodsOf 81 = .ok (.iconst 0, 1) := by decide +kernel
theorem dX10_periodsOf_99 : decode cX10_periodsOf 99 = .ok (.iload 4, 2) := by decide +kernel
theorem dX10_periodsOf_46 : decode cX10_periodsOf 46 = .ok (.iload_n 3, 1) := by decide +kernel
theorem dX10_periodsOf_47 : decode cX10_periodsOf 47 = .ok (.iload 5, 2) := by decide +kernel
theorem dX10_periodsOf_49 : decode cX10_periodsOf 49 = .ok (.ishr, 1) := by decide +kernel
theorem dX10_periodsOf_50 : decode cX10_periodsOf 50 = .ok (.iconst 1, 1) := by decide +kernel
theorem dX10_periodsOf_51 : decode cX10_periodsOf 51 = .ok (.iand, 1) := by decide +kernel
theorem dX10_periodsOf_52 : decode cX10_periodsOf 52 = .ok (.iconst 1, 1) := by decide +kernel
theorem dX10_periodsOf_53 : decode cX10_periodsOf 53 = .ok (.if_icmp .ne 28, 3) := by decide +kernel
theorem dX10_periodsOf_25 : decode cX10_periodsOf 25 = .ok (.aload_n 0, 1) := by decide +kernel
theorem dX10_periodsOf_26 : decode cX10_periodsOf 26 = .ok (.getfield 102, 3) := by decide +kernel
theorem dX10_periodsOf_29 : decode cX10_periodsOf 29 = .ok (.iload 5, 2) := by decide +kernel
theorem dX10_periodsOf_31 : decode cX10_periodsOf 31 = .ok (.iaload, 1) := by decide +kernel
theorem dX10_periodsOf_32 : decode cX10_periodsOf 32 = .ok (.iload_n 1, 1) := by decide +kernel
theorem dX10_periodsOf_33 : decode cX10_periodsOf 33 = .ok (.if_icmp .ne 48, 3) := by decide +kernel
def wo_m_periodsOf : List Cond := [.code yX10_periodsOf cX10_periodsOf 7 (some .int), .fieldLink RX10 222 "TimingHouseModel" "exceptions" "I", .fieldLink RX10 102 "TimingHouseModel" "from" "[I", .fieldLink RX10 105 "TimingHouseModel" "through" "[I", .fieldLink RX10 108 "TimingHouseModel" "toward" "[I", .fieldLink RX10 99 "TimingHouseModel" "periods" "[I"]
def wr_m_periodsOf : List Cond := (wsX100 ++ ([]))
def w_m_periodsOf : List Cond := wo_m_periodsOf ++ wr_m_periodsOf
theorem wg_m_periodsOf : GW w_m_periodsOf := GW_app (GW_of (by decide +kernel)) (GW_app (GW_of (by decide +kernel)) (GW_nil))
theorem i_m_periodsOf_X10 : ∀ w ∈ wsX100, w ∈ w_m_periodsOf := fun _ h => List.mem_append_right _ (List.mem_append_left _ h)
set_option maxHeartbeats 8000000 in
set_option maxRecDepth 100000 in
theorem m_periodsOf (l : Launch) (E : gE) (o_m a_m_kind a_m_inputs a_m_tableOf a_m_size a_m_extra a_m_taken a_m_portEarly a_m_portLate a_m_portSlope a_m_nodeOf a_m_setup a_m_hold a_m_seen a_m_numbers a_m_rowSize a_m_fall a_m_parent a_m_nodeEarly a_m_nodeLate a_m_periods a_m_from a_m_through a_m_toward a_m_order a_m_done a_m_reached a_m_open a_m_lateDelay a_m_earlyDelay a_m_lateSlope a_m_earlySlope a_m_greatest a_m_least a_m_howMany a_m_most a_m_fewest a_m_pathsTo a_m_slackOf a_m_holdOf a_m_listSlack a_m_listStart a_m_listEdge a_m_listSize a_m_listCell a_m_listInput a_m_rank a_m_good a_m_goCell a_m_goInput a_m_goEdge a_m_goMask a_m_shownCell a_m_shownInput a_m_shownEdge a_m_shownLate : Nat) (f_m_code f_m_cells f_m_late f_m_early f_m_period f_m_nodes f_m_exceptions f_m_fails f_m_ordered f_m_listed f_m_target f_m_shown f_m_shownSlack f_m_shownHold p1 p2 p3 : Int32) (g_m_from : Nat → Int32) (g_m_through : Nat → Int32) (g_m_toward : Nat → Int32) (g_m_periods : Nat → Int32) (r_f_m_cells : RG f_m_cells 0 50) (r_f_m_late : RG f_m_late 0 500) (r_f_m_early : RG f_m_early 0 500) (r_f_m_period : RG f_m_period 1 1000000) (r_f_m_nodes : RG f_m_nodes 0 20) (r_f_m_exceptions : RG f_m_exceptions 0 4) (r_f_m_ordered : RG f_m_ordered 0 50) (r_f_m_listed : RG f_m_listed 0 1000) (r_f_m_target : RG f_m_target 0 49) (r_f_m_shown : RG f_m_shown 0 52) (i_g_m_from : AR g_m_from 4 (-1) 49) (i_g_m_through : AR g_m_through 4 (-1) 49) (i_g_m_toward : AR g_m_toward 4 (-1) 49) (i_g_m_periods : AR g_m_periods 4 0 4) : CtI l E yX10_periodsOf w_m_periodsOf ({ frames := 0, cells := 0, slots := 0, locals := 0 }) [(o_m, .inr (10, [.int f_m_code, .int f_m_cells, .ref a_m_kind, .ref a_m_inputs, .ref a_m_tableOf, .ref a_m_size, .ref a_m_extra, .ref a_m_taken, .ref a_m_portEarly, .ref a_m_portLate, .ref a_m_portSlope, .ref a_m_nodeOf, .ref a_m_setup, .ref a_m_hold, .ref a_m_seen, .ref a_m_numbers, .ref a_m_rowSize, .ref a_m_fall, .int f_m_late, .int f_m_early, .int f_m_period, .int f_m_nodes, .ref a_m_parent, .ref a_m_nodeEarly, .ref a_m_nodeLate, .int f_m_exceptions, .ref a_m_periods, .ref a_m_from, .ref a_m_through, .ref a_m_toward, .int f_m_fails, .ref a_m_order, .int f_m_ordered, .ref a_m_done, .ref a_m_reached, .ref a_m_open, .ref a_m_lateDelay, .ref a_m_earlyDelay, .ref a_m_lateSlope, .ref a_m_earlySlope, .ref a_m_greatest, .ref a_m_least, .ref a_m_howMany, .ref a_m_most, .ref a_m_fewest, .ref a_m_pathsTo, .ref a_m_slackOf, .ref a_m_holdOf, .int f_m_listed, .ref a_m_listSlack, .ref a_m_listStart, .ref a_m_listEdge, .ref a_m_listSize, .ref a_m_listCell, .ref a_m_listInput, .ref a_m_rank, .ref a_m_good, .ref a_m_goCell, .ref a_m_goInput, .ref a_m_goEdge, .ref a_m_goMask, .int f_m_target, .int f_m_shown, .ref a_m_shownCell, .ref a_m_shownInput, .ref a_m_shownEdge, .ref a_m_shownLate, .int f_m_shownSlack, .int f_m_shownHold])), (a_m_from, aI E 4 g_m_from), (a_m_through, aI E 4 g_m_through), (a_m_toward, aI E 4 g_m_toward), (a_m_periods, aI E 4 g_m_periods)] [.ref o_m, .int p1, .int p2, .int p3] (fun r w => (0 ≤ r.toInt ∧ r.toInt ≤ 4) ∧ w = [(o_m, .inr (10, [.int f_m_code, .int f_m_cells, .ref a_m_kind, .ref a_m_inputs, .ref a_m_tableOf, .ref a_m_size, .ref a_m_extra, .ref a_m_taken, .ref a_m_portEarly, .ref a_m_portLate, .ref a_m_portSlope, .ref a_m_nodeOf, .ref a_m_setup, .ref a_m_hold, .ref a_m_seen, .ref a_m_numbers, .ref a_m_rowSize, .ref a_m_fall, .int f_m_late, .int f_m_early, .int f_m_period, .int f_m_nodes, .ref a_m_parent, .ref a_m_nodeEarly, .ref a_m_nodeLate, .int f_m_exceptions, .ref a_m_periods, .ref a_m_from, .ref a_m_through, .ref a_m_toward, .int f_m_fails, .ref a_m_order, .int f_m_ordered, .ref a_m_done, .ref a_m_reached, .ref a_m_open, .ref a_m_lateDelay, .ref a_m_earlyDelay, .ref a_m_lateSlope, .ref a_m_earlySlope, .ref a_m_greatest, .ref a_m_least, .ref a_m_howMany, .ref a_m_most, .ref a_m_fewest, .ref a_m_pathsTo, .ref a_m_slackOf, .ref a_m_holdOf, .int f_m_listed, .ref a_m_listSlack, .ref a_m_listStart, .ref a_m_listEdge, .ref a_m_listSize, .ref a_m_listCell, .ref a_m_listInput, .ref a_m_rank, .ref a_m_good, .ref a_m_goCell, .ref a_m_goInput, .ref a_m_goEdge, .ref a_m_goMask, .int f_m_target, .int f_m_shown, .ref a_m_shownCell, .ref a_m_shownInput, .ref a_m_shownEdge, .ref a_m_shownLate, .int f_m_shownSlack, .int f_m_shownHold])), (a_m_from, aI E 4 g_m_from), (a_m_through, aI E 4 g_m_through), (a_m_toward, aI E 4 g_m_toward), (a_m_periods, aI E 4 g_m_periods)]) := by
  refine CtI.of (cc := cX10_periodsOf) (maxL := 7) (rt := (some .int)) (by decide) rfl (Nat.le_of_ble_eq_true rfl) ?_
  intro p e s m below meth c A B ls hl
  obtain ⟨hx, hb, hml, hr, hlk, hin, hts, hown, hK, hN, hZ, hA, hP, hD, hS⟩ := B
  replace hown : s.vm.findClass RX10 = some m.cls := hown
  have hto : ∀ w ∈ wo_m_periodsOf, w.before _ s = true := fun w h => hts w (List.mem_append_left _ h)
  replace hl : lv_has ls 7 [(0, .ref o_m), (1, .int p1), (2, .int p2), (3, .int p3)] := hl
  obtain ⟨H, hHe⟩ : ∃ H, H = s.heap := ⟨_, rfl⟩
  obtain ⟨locs, hle⟩ : ∃ l : List Loc, l = [] := ⟨_, rfl⟩
  replace hS : va_S A s.heap H locs := by rw [hHe, hle]; exact hS
  replace hP : va_P E.1 vwCl [(o_m, .inr (10, [.int f_m_code, .int f_m_cells, .ref a_m_kind, .ref a_m_inputs, .ref a_m_tableOf, .ref a_m_size, .ref a_m_extra, .ref a_m_taken, .ref a_m_portEarly, .ref a_m_portLate, .ref a_m_portSlope, .ref a_m_nodeOf, .ref a_m_setup, .ref a_m_hold, .ref a_m_seen, .ref a_m_numbers, .ref a_m_rowSize, .ref a_m_fall, .int f_m_late, .int f_m_early, .int f_m_period, .int f_m_nodes, .ref a_m_parent, .ref a_m_nodeEarly, .ref a_m_nodeLate, .int f_m_exceptions, .ref a_m_periods, .ref a_m_from, .ref a_m_through, .ref a_m_toward, .int f_m_fails, .ref a_m_order, .int f_m_ordered, .ref a_m_done, .ref a_m_reached, .ref a_m_open, .ref a_m_lateDelay, .ref a_m_earlyDelay, .ref a_m_lateSlope, .ref a_m_earlySlope, .ref a_m_greatest, .ref a_m_least, .ref a_m_howMany, .ref a_m_most, .ref a_m_fewest, .ref a_m_pathsTo, .ref a_m_slackOf, .ref a_m_holdOf, .int f_m_listed, .ref a_m_listSlack, .ref a_m_listStart, .ref a_m_listEdge, .ref a_m_listSize, .ref a_m_listCell, .ref a_m_listInput, .ref a_m_rank, .ref a_m_good, .ref a_m_goCell, .ref a_m_goInput, .ref a_m_goEdge, .ref a_m_goMask, .int f_m_target, .int f_m_shown, .ref a_m_shownCell, .ref a_m_shownInput, .ref a_m_shownEdge, .ref a_m_shownLate, .int f_m_shownSlack, .int f_m_shownHold])), (a_m_from, aI E 4 g_m_from), (a_m_through, aI E 4 g_m_through), (a_m_toward, aI E 4 g_m_toward), (a_m_periods, aI E 4 g_m_periods)] H := by rw [hHe]; exact hP
  refine W_hl hHe hle ?_
  clear hHe hle
  refine lv_iconst (v := 1) hx hb dX10_periodsOf_0 (by decide) ?_
  refine lv_istore (lv' := [(4, .int 1), (0, .ref o_m), (1, .int p1), (2, .int p2), (3, .int p3)]) hx hb dX10_periodsOf_1 hl (by decide) rfl (fun ls hl => ?_)
  refine lv_iconst (v := 0) hx hb dX10_periodsOf_3 (by decide) ?_
  refine lv_istore (lv' := [(5, .int 0), (4, .int 1), (0, .ref o_m), (1, .int p1), (2, .int p2), (3, .int p3)]) hx hb dX10_periodsOf_4 hl (by decide) rfl (fun ls hl => ?_)
  obtain ⟨y_1, hy_1⟩ : ∃ y : Int32, y = 0 := ⟨_, rfl⟩
  have b_y_1 : 0 ≤ y_1.toInt ∧ y_1.toInt ≤ 4 := by rw [hy_1]; decide
  obtain ⟨y_2, hy_2⟩ : ∃ y : Int32, y = 1 := ⟨_, rfl⟩
  have b_y_2 : 0 ≤ y_2.toInt ∧ y_2.toInt ≤ 4 := by rw [hy_2]; decide
  replace hl : lv_has ls 7 [(5, .int y_1), (4, .int y_2), (0, .ref o_m), (1, .int p1), (2, .int p2), (3, .int p3)] := by rw [hy_1, hy_2]; exact hl
  clear hy_1 hy_2
  obtain ⟨d_3, hd_3⟩ : ∃ d : Nat, 4 - y_1.toInt < (d : Int) := ⟨(4 - y_1.toInt + 1).toNat, by omega⟩
  induction d_3 generalizing y_1 y_2 H locs ls with
  | zero => exfalso; omega
  | succ d_3 ih_d_3 =>
    refine lv_iload hx hb dX10_periodsOf_6 (lv_at hl 0 rfl) ?_
    refine lv_aload_n hx hb dX10_periodsOf_8 rfl (lv_at hl 2 rfl) ?_
    refine va_get (D := E.1) (ci := 10) (v := .int f_m_exceptions) (own := RX10) (C := RX10) (T := TX10) (N := 69) hx hb hts i_m_periodsOf_X10 hown hK hP 0 rfl rfl 25 (by decide) (hto (.fieldLink RX10 222 "TimingHouseModel" "exceptions" "I") (by decide +kernel)) (fun _ h9 => h9) rfl dX10_periodsOf_9 ?_
    have b_f_m_exceptions := r_f_m_exceptions.out
    refine lv_icmp_ge (tgt := 109) hx hb dX10_periodsOf_12 (by decide) (fun c_4 => ?_) (fun c_4 => ?_)
    · have e_4 : f_m_exceptions.toInt ≤ y_1.toInt := i3_le c_4
      refine lv_iload hx hb dX10_periodsOf_109 (lv_at hl 1 rfl) ?_
      exact ret_i hx hb hr hlk (hP.sub (ws' := [(o_m, .inr (10, [.int f_m_code, .int f_m_cells, .ref a_m_kind, .ref a_m_inputs, .ref a_m_tableOf, .ref a_m_size, .ref a_m_extra, .ref a_m_taken, .ref a_m_portEarly, .ref a_m_portLate, .ref a_m_portSlope, .ref a_m_nodeOf, .ref a_m_setup, .ref a_m_hold, .ref a_m_seen, .ref a_m_numbers, .ref a_m_rowSize, .ref a_m_fall, .int f_m_late, .int f_m_early, .int f_m_period, .int f_m_nodes, .ref a_m_parent, .ref a_m_nodeEarly, .ref a_m_nodeLate, .int f_m_exceptions, .ref a_m_periods, .ref a_m_from, .ref a_m_through, .ref a_m_toward, .int f_m_fails, .ref a_m_order, .int f_m_ordered, .ref a_m_done, .ref a_m_reached, .ref a_m_open, .ref a_m_lateDelay, .ref a_m_earlyDelay, .ref a_m_lateSlope, .ref a_m_earlySlope, .ref a_m_greatest, .ref a_m_least, .ref a_m_howMany, .ref a_m_most, .ref a_m_fewest, .ref a_m_pathsTo, .ref a_m_slackOf, .ref a_m_holdOf, .int f_m_listed, .ref a_m_listSlack, .ref a_m_listStart, .ref a_m_listEdge, .ref a_m_listSize, .ref a_m_listCell, .ref a_m_listInput, .ref a_m_rank, .ref a_m_good, .ref a_m_goCell, .ref a_m_goInput, .ref a_m_goEdge, .ref a_m_goMask, .int f_m_target, .int f_m_shown, .ref a_m_shownCell, .ref a_m_shownInput, .ref a_m_shownEdge, .ref a_m_shownLate, .int f_m_shownSlack, .int f_m_shownHold])), (a_m_from, aI E 4 g_m_from), (a_m_through, aI E 4 g_m_through), (a_m_toward, aI E 4 g_m_toward), (a_m_periods, aI E 4 g_m_periods)]) [0, 1, 2, 3, 4] rfl) (hD.sub (ws' := [(o_m, .inr (10, [.int f_m_code, .int f_m_cells, .ref a_m_kind, .ref a_m_inputs, .ref a_m_tableOf, .ref a_m_size, .ref a_m_extra, .ref a_m_taken, .ref a_m_portEarly, .ref a_m_portLate, .ref a_m_portSlope, .ref a_m_nodeOf, .ref a_m_setup, .ref a_m_hold, .ref a_m_seen, .ref a_m_numbers, .ref a_m_rowSize, .ref a_m_fall, .int f_m_late, .int f_m_early, .int f_m_period, .int f_m_nodes, .ref a_m_parent, .ref a_m_nodeEarly, .ref a_m_nodeLate, .int f_m_exceptions, .ref a_m_periods, .ref a_m_from, .ref a_m_through, .ref a_m_toward, .int f_m_fails, .ref a_m_order, .int f_m_ordered, .ref a_m_done, .ref a_m_reached, .ref a_m_open, .ref a_m_lateDelay, .ref a_m_earlyDelay, .ref a_m_lateSlope, .ref a_m_earlySlope, .ref a_m_greatest, .ref a_m_least, .ref a_m_howMany, .ref a_m_most, .ref a_m_fewest, .ref a_m_pathsTo, .ref a_m_slackOf, .ref a_m_holdOf, .int f_m_listed, .ref a_m_listSlack, .ref a_m_listStart, .ref a_m_listEdge, .ref a_m_listSize, .ref a_m_listCell, .ref a_m_listInput, .ref a_m_rank, .ref a_m_good, .ref a_m_goCell, .ref a_m_goInput, .ref a_m_goEdge, .ref a_m_goMask, .int f_m_target, .int f_m_shown, .ref a_m_shownCell, .ref a_m_shownInput, .ref a_m_shownEdge, .ref a_m_shownLate, .int f_m_shownSlack, .int f_m_shownHold])), (a_m_from, aI E 4 g_m_from), (a_m_through, aI E 4 g_m_through), (a_m_toward, aI E 4 g_m_toward), (a_m_periods, aI E 4 g_m_periods)]) [0, 1, 2, 3, 4] (by decide) rfl) hS rfl dX10_periodsOf_111 (Nat.le_of_ble_eq_true rfl) (Nat.le_of_ble_eq_true rfl) ⟨(by omega), rfl⟩
    · have e_4 : y_1.toInt < f_m_exceptions.toInt := i3_nle c_4
      refine lv_aload_n hx hb dX10_periodsOf_15 rfl (lv_at hl 2 rfl) ?_
      refine va_get (D := E.1) (ci := 10) (v := .ref a_m_from) (own := RX10) (C := RX10) (T := TX10) (N := 69) hx hb hts i_m_periodsOf_X10 hown hK hP 0 rfl rfl 27 (by decide) (hto (.fieldLink RX10 102 "TimingHouseModel" "from" "[I") (by decide +kernel)) (fun _ h9 => h9) rfl dX10_periodsOf_16 ?_
      refine lv_iload hx hb dX10_periodsOf_19 (lv_at hl 0 rfl) ?_
      refine ld_i hx hb hK hP 1 rfl (by omega) dX10_periodsOf_21 (fun x_5 ex_5 => ?_)
      have b_x_5 := AR.rd i_g_m_from ex_5 (by omega)
      refine lv_if_lt (tgt := 36) hx hb dX10_periodsOf_22 (by decide) (fun c_6 => ?_) (fun c_6 => ?_)
      · have e_6 : x_5.toInt < 0 := i3_lt c_6
        refine lv_aload_n hx hb dX10_periodsOf_36 rfl (lv_at hl 2 rfl) ?_
        refine va_get (D := E.1) (ci := 10) (v := .ref a_m_through) (own := RX10) (C := RX10) (T := TX10) (N := 69) hx hb hts i_m_periodsOf_X10 hown hK hP 0 rfl rfl 28 (by decide) (hto (.fieldLink RX10 105 "TimingHouseModel" "through" "[I") (by decide +kernel)) (fun _ h9 => h9) rfl dX10_periodsOf_37 ?_
        refine lv_iload hx hb dX10_periodsOf_40 (lv_at hl 0 rfl) ?_
        refine ld_i hx hb hK hP 2 rfl (by omega) dX10_periodsOf_42 (fun x_7 ex_7 => ?_)
        have b_x_7 := AR.rd i_g_m_through ex_7 (by omega)
        refine lv_if_lt (tgt := 56) hx hb dX10_periodsOf_43 (by decide) (fun c_8 => ?_) (fun c_8 => ?_)
        · have e_8 : x_7.toInt < 0 := i3_lt c_8
          refine lv_aload_n hx hb dX10_periodsOf_56 rfl (lv_at hl 2 rfl) ?_
          refine va_get (D := E.1) (ci := 10) (v := .ref a_m_toward) (own := RX10) (C := RX10) (T := TX10) (N := 69) hx hb hts i_m_periodsOf_X10 hown hK hP 0 rfl rfl 29 (by decide) (hto (.fieldLink RX10 108 "TimingHouseModel" "toward" "[I") (by decide +kernel)) (fun _ h9 => h9) rfl dX10_periodsOf_57 ?_
          refine lv_iload hx hb dX10_periodsOf_60 (lv_at hl 0 rfl) ?_
          refine ld_i hx hb hK hP 3 rfl (by omega) dX10_periodsOf_62 (fun x_9 ex_9 => ?_)
          have b_x_9 := AR.rd i_g_m_toward ex_9 (by omega)
          refine lv_if_lt (tgt := 77) hx hb dX10_periodsOf_63 (by decide) (fun c_10 => ?_) (fun c_10 => ?_)
          · have e_10 : x_9.toInt < 0 := i3_lt c_10
            refine lv_iconst (v := 1) hx hb dX10_periodsOf_77 (by decide) ?_
            refine lv_goto (tgt := 82) hx hb dX10_periodsOf_78 (by decide) ?_
            refine lv_istore (lv' := [(6, .int 1), (5, .int y_1), (4, .int y_2), (0, .ref o_m), (1, .int p1), (2, .int p2), (3, .int p3)]) hx hb dX10_periodsOf_82 hl (by decide) rfl (fun ls hl => ?_)
            refine lv_iload hx hb dX10_periodsOf_84 (lv_at hl 0 rfl) ?_
            refine lv_if_eq (tgt := 99) hx hb dX10_periodsOf_86 (by decide) (fun c_11 => ?_) (fun c_11 => ?_)
            · exact absurd c_11 (by decide)
            · refine lv_aload_n hx hb dX10_periodsOf_89 rfl (lv_at hl 3 rfl) ?_
              refine va_get (D := E.1) (ci := 10) (v := .ref a_m_periods) (own := RX10) (C := RX10) (T := TX10) (N := 69) hx hb hts i_m_periodsOf_X10 hown hK hP 0 rfl rfl 26 (by decide) (hto (.fieldLink RX10 99 "TimingHouseModel" "periods" "[I") (by decide +kernel)) (fun _ h9 => h9) rfl dX10_periodsOf_90 ?_
              refine lv_iload hx hb dX10_periodsOf_93 (lv_at hl 1 rfl) ?_
              refine ld_i hx hb hK hP 4 rfl (by omega) dX10_periodsOf_95 (fun x_12 ex_12 => ?_)
              have b_x_12 := AR.rd i_g_m_periods ex_12 (by omega)
              refine lv_goto (tgt := 101) hx hb dX10_periodsOf_96 (by decide) ?_
              refine lv_istore (lv' := [(4, .int x_12), (6, .int 1), (5, .int y_1), (0, .ref o_m), (1, .int p1), (2, .int p2), (3, .int p3)]) hx hb dX10_periodsOf_101 hl (by decide) rfl (fun ls hl => ?_)
              obtain ⟨x_13, ex_13⟩ : ∃ y : Int32, y = y_1 + 1 := ⟨_, rfl⟩
              have tx_13 : x_13.toInt = y_1.toInt + 1 := i3_addc rfl rfl ex_13 (by omega)
              refine lv_iinc (v := x_13) (lv' := [(5, .int x_13), (4, .int x_12), (6, .int 1), (0, .ref o_m), (1, .int p1), (2, .int p2), (3, .int p3)]) hx hb dX10_periodsOf_103 hl (k := 2) rfl (by rw [ex_13]; rfl) (by decide) rfl (fun ls hl => ?_)
              refine lv_goto (tgt := 6) hx hb dX10_periodsOf_106 (by decide) ?_
              replace hl : lv_has ls 7 [(5, .int x_13), (4, .int x_12), (0, .ref o_m), (1, .int p1), (2, .int p2), (3, .int p3)] := lv_sub hl [0, 1, 3, 4, 5, 6] rfl
              apply ih_d_3 (y_1 := x_13) (y_2 := x_12) (H := H) (locs := locs) (ls := ls) <;> first | assumption | omega | decide
          · have e_10 : 0 ≤ x_9.toInt := i3_nlt c_10
            refine lv_aload_n hx hb dX10_periodsOf_66 rfl (lv_at hl 2 rfl) ?_
            refine va_get (D := E.1) (ci := 10) (v := .ref a_m_toward) (own := RX10) (C := RX10) (T := TX10) (N := 69) hx hb hts i_m_periodsOf_X10 hown hK hP 0 rfl rfl 29 (by decide) (hto (.fieldLink RX10 108 "TimingHouseModel" "toward" "[I") (by decide +kernel)) (fun _ h9 => h9) rfl dX10_periodsOf_67 ?_
            refine lv_iload hx hb dX10_periodsOf_70 (lv_at hl 0 rfl) ?_
            refine ld_i hx hb hK hP 3 rfl (by omega) dX10_periodsOf_72 (fun x_14 ex_14 => ?_)
            have hq_x_14 : x_9 = x_14 := ex_9.trans ex_14.symm
            subst hq_x_14
            refine lv_iload_n hx hb dX10_periodsOf_73 rfl (lv_at hl 4 rfl) ?_
            refine lv_icmp_ne (tgt := 81) hx hb dX10_periodsOf_74 (by decide) (fun c_15 => ?_) (fun c_15 => ?_)
            · have e_15 : x_9.toInt ≠ p2.toInt := i3_ne c_15
              refine lv_iconst (v := 0) hx hb dX10_periodsOf_81 (by decide) ?_
              refine lv_istore (lv' := [(6, .int 0), (5, .int y_1), (4, .int y_2), (0, .ref o_m), (1, .int p1), (2, .int p2), (3, .int p3)]) hx hb dX10_periodsOf_82 hl (by decide) rfl (fun ls hl => ?_)
              refine lv_iload hx hb dX10_periodsOf_84 (lv_at hl 0 rfl) ?_
              refine lv_if_eq (tgt := 99) hx hb dX10_periodsOf_86 (by decide) (fun c_16 => ?_) (fun c_16 => ?_)
              · refine lv_iload hx hb dX10_periodsOf_99 (lv_at hl 2 rfl) ?_
                refine lv_istore (lv' := [(4, .int y_2), (6, .int 0), (5, .int y_1), (0, .ref o_m), (1, .int p1), (2, .int p2), (3, .int p3)]) hx hb dX10_periodsOf_101 hl (by decide) rfl (fun ls hl => ?_)
                obtain ⟨x_17, ex_17⟩ : ∃ y : Int32, y = y_1 + 1 := ⟨_, rfl⟩
                have tx_17 : x_17.toInt = y_1.toInt + 1 := i3_addc rfl rfl ex_17 (by omega)
                refine lv_iinc (v := x_17) (lv' := [(5, .int x_17), (4, .int y_2), (6, .int 0), (0, .ref o_m), (1, .int p1), (2, .int p2), (3, .int p3)]) hx hb dX10_periodsOf_103 hl (k := 2) rfl (by rw [ex_17]; rfl) (by decide) rfl (fun ls hl => ?_)
                refine lv_goto (tgt := 6) hx hb dX10_periodsOf_106 (by decide) ?_
                replace hl : lv_has ls 7 [(5, .int x_17), (4, .int y_2), (0, .ref o_m), (1, .int p1), (2, .int p2), (3, .int p3)] := lv_sub hl [0, 1, 3, 4, 5, 6] rfl
                apply ih_d_3 (y_1 := x_17) (y_2 := y_2) (H := H) (locs := locs) (ls := ls) <;> first | assumption | omega | decide
              · exact absurd c_16 (by decide)
            · have e_15 : x_9.toInt = p2.toInt := i3_eq c_15
              refine lv_iconst (v := 1) hx hb dX10_periodsOf_77 (by decide) ?_
              refine lv_goto (tgt := 82) hx hb dX10_periodsOf_78 (by decide) ?_
              refine lv_istore (lv' := [(6, .int 1), (5, .int y_1), (4, .int y_2), (0, .ref o_m), (1, .int p1), (2, .int p2), (3, .int p3)]) hx hb dX10_periodsOf_82 hl (by decide) rfl (fun ls hl => ?_)
              refine lv_iload hx hb dX10_periodsOf_84 (lv_at hl 0 rfl) ?_
              refine lv_if_eq (tgt := 99) hx hb dX10_periodsOf_86 (by decide) (fun c_18 => ?_) (fun c_18 => ?_)
              · exact absurd c_18 (by decide)
              · refine lv_aload_n hx hb dX10_periodsOf_89 rfl (lv_at hl 3 rfl) ?_
                refine va_get (D := E.1) (ci := 10) (v := .ref a_m_periods) (own := RX10) (C := RX10) (T := TX10) (N := 69) hx hb hts i_m_periodsOf_X10 hown hK hP 0 rfl rfl 26 (by decide) (hto (.fieldLink RX10 99 "TimingHouseModel" "periods" "[I") (by decide +kernel)) (fun _ h9 => h9) rfl dX10_periodsOf_90 ?_
                refine lv_iload hx hb dX10_periodsOf_93 (lv_at hl 1 rfl) ?_
                refine ld_i hx hb hK hP 4 rfl (by omega) dX10_periodsOf_95 (fun x_19 ex_19 => ?_)
                have b_x_19 := AR.rd i_g_m_periods ex_19 (by omega)
                refine lv_goto (tgt := 101) hx hb dX10_periodsOf_96 (by decide) ?_
                refine lv_istore (lv' := [(4, .int x_19), (6, .int 1), (5, .int y_1), (0, .ref o_m), (1, .int p1), (2, .int p2), (3, .int p3)]) hx hb dX10_periodsOf_101 hl (by decide) rfl (fun ls hl => ?_)
                obtain ⟨x_20, ex_20⟩ : ∃ y : Int32, y = y_1 + 1 := ⟨_, rfl⟩
                have tx_20 : x_20.toInt = y_1.toInt + 1 := i3_addc rfl rfl ex_20 (by omega)
                refine lv_iinc (v := x_20) (lv' := [(5, .int x_20), (4, .int x_19), (6, .int 1), (0, .ref o_m), (1, .int p1), (2, .int p2), (3, .int p3)]) hx hb dX10_periodsOf_103 hl (k := 2) rfl (by rw [ex_20]; rfl) (by decide) rfl (fun ls hl => ?_)
                refine lv_goto (tgt := 6) hx hb dX10_periodsOf_106 (by decide) ?_
                replace hl : lv_has ls 7 [(5, .int x_20), (4, .int x_19), (0, .ref o_m), (1, .int p1), (2, .int p2), (3, .int p3)] := lv_sub hl [0, 1, 3, 4, 5, 6] rfl
                apply ih_d_3 (y_1 := x_20) (y_2 := x_19) (H := H) (locs := locs) (ls := ls) <;> first | assumption | omega | decide
        · have e_8 : 0 ≤ x_7.toInt := i3_nlt c_8
          refine lv_iload_n hx hb dX10_periodsOf_46 rfl (lv_at hl 5 rfl) ?_
          refine lv_iload hx hb dX10_periodsOf_47 (lv_at hl 0 rfl) ?_
          refine lv_ishr hx hb dX10_periodsOf_49 ?_
          refine lv_topi (fun x_21 ex_21 => ?_)
          have bd_22 := i3_bd p3
          refine lv_iconst (v := 1) hx hb dX10_periodsOf_50 (by decide) ?_
          refine lv_iand hx hb dX10_periodsOf_51 ?_
          refine lv_topi (fun x_23 ex_23 => ?_)
          have bd_24 := i3_bd x_21
          have b_x_23 := i3_and1 ex_23
          refine lv_iconst (v := 1) hx hb dX10_periodsOf_52 (by decide) ?_
          refine lv_icmp_ne (tgt := 81) hx hb dX10_periodsOf_53 (by decide) (fun c_25 => ?_) (fun c_25 => ?_)
          · have e_25 : x_23.toInt ≠ 1 := i3_ne c_25
            refine lv_iconst (v := 0) hx hb dX10_periodsOf_81 (by decide) ?_
            refine lv_istore (lv' := [(6, .int 0), (5, .int y_1), (4, .int y_2), (0, .ref o_m), (1, .int p1), (2, .int p2), (3, .int p3)]) hx hb dX10_periodsOf_82 hl (by decide) rfl (fun ls hl => ?_)
            refine lv_iload hx hb dX10_periodsOf_84 (lv_at hl 0 rfl) ?_
            refine lv_if_eq (tgt := 99) hx hb dX10_periodsOf_86 (by decide) (fun c_26 => ?_) (fun c_26 => ?_)
            · refine lv_iload hx hb dX10_periodsOf_99 (lv_at hl 2 rfl) ?_
              refine lv_istore (lv' := [(4, .int y_2), (6, .int 0), (5, .int y_1), (0, .ref o_m), (1, .int p1), (2, .int p2), (3, .int p3)]) hx hb dX10_periodsOf_101 hl (by decide) rfl (fun ls hl => ?_)
              obtain ⟨x_27, ex_27⟩ : ∃ y : Int32, y = y_1 + 1 := ⟨_, rfl⟩
              have tx_27 : x_27.toInt = y_1.toInt + 1 := i3_addc rfl rfl ex_27 (by omega)
              refine lv_iinc (v := x_27) (lv' := [(5, .int x_27), (4, .int y_2), (6, .int 0), (0, .ref o_m), (1, .int p1), (2, .int p2), (3, .int p3)]) hx hb dX10_periodsOf_103 hl (k := 2) rfl (by rw [ex_27]; rfl) (by decide) rfl (fun ls hl => ?_)
              refine lv_goto (tgt := 6) hx hb dX10_periodsOf_106 (by decide) ?_
              replace hl : lv_has ls 7 [(5, .int x_27), (4, .int y_2), (0, .ref o_m), (1, .int p1), (2, .int p2), (3, .int p3)] := lv_sub hl [0, 1, 3, 4, 5, 6] rfl
              apply ih_d_3 (y_1 := x_27) (y_2 := y_2) (H := H) (locs := locs) (ls := ls) <;> first | assumption | omega | decide
            · exact absurd c_26 (by decide)
          · have e_25 : x_23.toInt = 1 := i3_eq c_25
            refine lv_aload_n hx hb dX10_periodsOf_56 rfl (lv_at hl 2 rfl) ?_
            refine va_get (D := E.1) (ci := 10) (v := .ref a_m_toward) (own := RX10) (C := RX10) (T := TX10) (N := 69) hx hb hts i_m_periodsOf_X10 hown hK hP 0 rfl rfl 29 (by decide) (hto (.fieldLink RX10 108 "TimingHouseModel" "toward" "[I") (by decide +kernel)) (fun _ h9 => h9) rfl dX10_periodsOf_57 ?_
            refine lv_iload hx hb dX10_periodsOf_60 (lv_at hl 0 rfl) ?_
            refine ld_i hx hb hK hP 3 rfl (by omega) dX10_periodsOf_62 (fun x_28 ex_28 => ?_)
            have b_x_28 := AR.rd i_g_m_toward ex_28 (by omega)
            refine lv_if_lt (tgt := 77) hx hb dX10_periodsOf_63 (by decide) (fun c_29 => ?_) (fun c_29 => ?_)
            · have e_29 : x_28.toInt < 0 := i3_lt c_29
              refine lv_iconst (v := 1) hx hb dX10_periodsOf_77 (by decide) ?_
              refine lv_goto (tgt := 82) hx hb dX10_periodsOf_78 (by decide) ?_
              refine lv_istore (lv' := [(6, .int 1), (5, .int y_1), (4, .int y_2), (0, .ref o_m), (1, .int p1), (2, .int p2), (3, .int p3)]) hx hb dX10_periodsOf_82 hl (by decide) rfl (fun ls hl => ?_)
              refine lv_iload hx hb dX10_periodsOf_84 (lv_at hl 0 rfl) ?_
              refine lv_if_eq (tgt := 99) hx hb dX10_periodsOf_86 (by decide) (fun c_30 => ?_) (fun c_30 => ?_)
              · exact absurd c_30 (by decide)
              · refine lv_aload_n hx hb dX10_periodsOf_89 rfl (lv_at hl 3 rfl) ?_
                refine va_get (D := E.1) (ci := 10) (v := .ref a_m_periods) (own := RX10) (C := RX10) (T := TX10) (N := 69) hx hb hts i_m_periodsOf_X10 hown hK hP 0 rfl rfl 26 (by decide) (hto (.fieldLink RX10 99 "TimingHouseModel" "periods" "[I") (by decide +kernel)) (fun _ h9 => h9) rfl dX10_periodsOf_90 ?_
                refine lv_iload hx hb dX10_periodsOf_93 (lv_at hl 1 rfl) ?_
                refine ld_i hx hb hK hP 4 rfl (by omega) dX10_periodsOf_95 (fun x_31 ex_31 => ?_)
                have b_x_31 := AR.rd i_g_m_periods ex_31 (by omega)
                refine lv_goto (tgt := 101) hx hb dX10_periodsOf_96 (by decide) ?_
                refine lv_istore (lv' := [(4, .int x_31), (6, .int 1), (5, .int y_1), (0, .ref o_m), (1, .int p1), (2, .int p2), (3, .int p3)]) hx hb dX10_periodsOf_101 hl (by decide) rfl (fun ls hl => ?_)
                obtain ⟨x_32, ex_32⟩ : ∃ y : Int32, y = y_1 + 1 := ⟨_, rfl⟩
                have tx_32 : x_32.toInt = y_1.toInt + 1 := i3_addc rfl rfl ex_32 (by omega)
                refine lv_iinc (v := x_32) (lv' := [(5, .int x_32), (4, .int x_31), (6, .int 1), (0, .ref o_m), (1, .int p1), (2, .int p2), (3, .int p3)]) hx hb dX10_periodsOf_103 hl (k := 2) rfl (by rw [ex_32]; rfl) (by decide) rfl (fun ls hl => ?_)
                refine lv_goto (tgt := 6) hx hb dX10_periodsOf_106 (by decide) ?_
                replace hl : lv_has ls 7 [(5, .int x_32), (4, .int x_31), (0, .ref o_m), (1, .int p1), (2, .int p2), (3, .int p3)] := lv_sub hl [0, 1, 3, 4, 5, 6] rfl
                apply ih_d_3 (y_1 := x_32) (y_2 := x_31) (H := H) (locs := locs) (ls := ls) <;> first | assumption | omega | decide
            · have e_29 : 0 ≤ x_28.toInt := i3_nlt c_29
              refine lv_aload_n hx hb dX10_periodsOf_66 rfl (lv_at hl 2 rfl) ?_
              refine va_get (D := E.1) (ci := 10) (v := .ref a_m_toward) (own := RX10) (C := RX10) (T := TX10) (N := 69) hx hb hts i_m_periodsOf_X10 hown hK hP 0 rfl rfl 29 (by decide) (hto (.fieldLink RX10 108 "TimingHouseModel" "toward" "[I") (by decide +kernel)) (fun _ h9 => h9) rfl dX10_periodsOf_67 ?_
              refine lv_iload hx hb dX10_periodsOf_70 (lv_at hl 0 rfl) ?_
              refine ld_i hx hb hK hP 3 rfl (by omega) dX10_periodsOf_72 (fun x_33 ex_33 => ?_)
              have hq_x_33 : x_28 = x_33 := ex_28.trans ex_33.symm
              subst hq_x_33
              refine lv_iload_n hx hb dX10_periodsOf_73 rfl (lv_at hl 4 rfl) ?_
              refine lv_icmp_ne (tgt := 81) hx hb dX10_periodsOf_74 (by decide) (fun c_34 => ?_) (fun c_34 => ?_)
              · have e_34 : x_28.toInt ≠ p2.toInt := i3_ne c_34
                refine lv_iconst (v := 0) hx hb dX10_periodsOf_81 (by decide) ?_
                refine lv_istore (lv' := [(6, .int 0), (5, .int y_1), (4, .int y_2), (0, .ref o_m), (1, .int p1), (2, .int p2), (3, .int p3)]) hx hb dX10_periodsOf_82 hl (by decide) rfl (fun ls hl => ?_)
                refine lv_iload hx hb dX10_periodsOf_84 (lv_at hl 0 rfl) ?_
                refine lv_if_eq (tgt := 99) hx hb dX10_periodsOf_86 (by decide) (fun c_35 => ?_) (fun c_35 => ?_)
                · refine lv_iload hx hb dX10_periodsOf_99 (lv_at hl 2 rfl) ?_
                  refine lv_istore (lv' := [(4, .int y_2), (6, .int 0), (5, .int y_1), (0, .ref o_m), (1, .int p1), (2, .int p2), (3, .int p3)]) hx hb dX10_periodsOf_101 hl (by decide) rfl (fun ls hl => ?_)
                  obtain ⟨x_36, ex_36⟩ : ∃ y : Int32, y = y_1 + 1 := ⟨_, rfl⟩
                  have tx_36 : x_36.toInt = y_1.toInt + 1 := i3_addc rfl rfl ex_36 (by omega)
                  refine lv_iinc (v := x_36) (lv' := [(5, .int x_36), (4, .int y_2), (6, .int 0), (0, .ref o_m), (1, .int p1), (2, .int p2), (3, .int p3)]) hx hb dX10_periodsOf_103 hl (k := 2) rfl (by rw [ex_36]; rfl) (by decide) rfl (fun ls hl => ?_)
                  refine lv_goto (tgt := 6) hx hb dX10_periodsOf_106 (by decide) ?_
                  replace hl : lv_has ls 7 [(5, .int x_36), (4, .int y_2), (0, .ref o_m), (1, .int p1), (2, .int p2), (3, .int p3)] := lv_sub hl [0, 1, 3, 4, 5, 6] rfl
                  apply ih_d_3 (y_1 := x_36) (y_2 := y_2) (H := H) (locs := locs) (ls := ls) <;> first | assumption | omega | decide
                · exact absurd c_35 (by decide)
              · have e_34 : x_28.toInt = p2.toInt := i3_eq c_34
                refine lv_iconst (v := 1) hx hb dX10_periodsOf_77 (by decide) ?_
                refine lv_goto (tgt := 82) hx hb dX10_periodsOf_78 (by decide) ?_
                refine lv_istore (lv' := [(6, .int 1), (5, .int y_1), (4, .int y_2), (0, .ref o_m), (1, .int p1), (2, .int p2), (3, .int p3)]) hx hb dX10_periodsOf_82 hl (by decide) rfl (fun ls hl => ?_)
                refine lv_iload hx hb dX10_periodsOf_84 (lv_at hl 0 rfl) ?_
                refine lv_if_eq (tgt := 99) hx hb dX10_periodsOf_86 (by decide) (fun c_37 => ?_) (fun c_37 => ?_)
                · exact absurd c_37 (by decide)
                · refine lv_aload_n hx hb dX10_periodsOf_89 rfl (lv_at hl 3 rfl) ?_
                  refine va_get (D := E.1) (ci := 10) (v := .ref a_m_periods) (own := RX10) (C := RX10) (T := TX10) (N := 69) hx hb hts i_m_periodsOf_X10 hown hK hP 0 rfl rfl 26 (by decide) (hto (.fieldLink RX10 99 "TimingHouseModel" "periods" "[I") (by decide +kernel)) (fun _ h9 => h9) rfl dX10_periodsOf_90 ?_
                  refine lv_iload hx hb dX10_periodsOf_93 (lv_at hl 1 rfl) ?_
                  refine ld_i hx hb hK hP 4 rfl (by omega) dX10_periodsOf_95 (fun x_38 ex_38 => ?_)
                  have b_x_38 := AR.rd i_g_m_periods ex_38 (by omega)
                  refine lv_goto (tgt := 101) hx hb dX10_periodsOf_96 (by decide) ?_
                  refine lv_istore (lv' := [(4, .int x_38), (6, .int 1), (5, .int y_1), (0, .ref o_m), (1, .int p1), (2, .int p2), (3, .int p3)]) hx hb dX10_periodsOf_101 hl (by decide) rfl (fun ls hl => ?_)
                  obtain ⟨x_39, ex_39⟩ : ∃ y : Int32, y = y_1 + 1 := ⟨_, rfl⟩
                  have tx_39 : x_39.toInt = y_1.toInt + 1 := i3_addc rfl rfl ex_39 (by omega)
                  refine lv_iinc (v := x_39) (lv' := [(5, .int x_39), (4, .int x_38), (6, .int 1), (0, .ref o_m), (1, .int p1), (2, .int p2), (3, .int p3)]) hx hb dX10_periodsOf_103 hl (k := 2) rfl (by rw [ex_39]; rfl) (by decide) rfl (fun ls hl => ?_)
                  refine lv_goto (tgt := 6) hx hb dX10_periodsOf_106 (by decide) ?_
                  replace hl : lv_has ls 7 [(5, .int x_39), (4, .int x_38), (0, .ref o_m), (1, .int p1), (2, .int p2), (3, .int p3)] := lv_sub hl [0, 1, 3, 4, 5, 6] rfl
                  apply ih_d_3 (y_1 := x_39) (y_2 := x_38) (H := H) (locs := locs) (ls := ls) <;> first | assumption | omega | decide
      · have e_6 : 0 ≤ x_5.toInt := i3_nlt c_6
        refine lv_aload_n hx hb dX10_periodsOf_25 rfl (lv_at hl 2 rfl) ?_
        refine va_get (D := E.1) (ci := 10) (v := .ref a_m_from) (own := RX10) (C := RX10) (T := TX10) (N := 69) hx hb hts i_m_periodsOf_X10 hown hK hP 0 rfl rfl 27 (by decide) (hto (.fieldLink RX10 102 "TimingHouseModel" "from" "[I") (by decide +kernel)) (fun _ h9 => h9) rfl dX10_periodsOf_26 ?_
        refine lv_iload hx hb dX10_periodsOf_29 (lv_at hl 0 rfl) ?_
        refine ld_i hx hb hK hP 1 rfl (by omega) dX10_periodsOf_31 (fun x_40 ex_40 => ?_)
        have hq_x_40 : x_5 = x_40 := ex_5.trans ex_40.symm
        subst hq_x_40
        refine lv_iload_n hx hb dX10_periodsOf_32 rfl (lv_at hl 3 rfl) ?_
        refine lv_icmp_ne (tgt := 81) hx hb dX10_periodsOf_33 (by decide) (fun c_41 => ?_) (fun c_41 => ?_)
        · have e_41 : x_5.toInt ≠ p1.toInt := i3_ne c_41
          refine lv_iconst (v := 0) hx hb dX10_periodsOf_81 (by decide) ?_
          refine lv_istore (lv' := [(6, .int 0), (5, .int y_1), (4, .int y_2), (0, .ref o_m), (1, .int p1), (2, .int p2), (3, .int p3)]) hx hb dX10_periodsOf_82 hl (by decide) rfl (fun ls hl => ?_)
          refine lv_iload hx hb dX10_periodsOf_84 (lv_at hl 0 rfl) ?_
          refine lv_if_eq (tgt := 99) hx hb dX10_periodsOf_86 (by decide) (fun c_42 => ?_) (fun c_42 => ?_)
          · refine lv_iload hx hb dX10_periodsOf_99 (lv_at hl 2 rfl) ?_
            refine lv_istore (lv' := [(4, .int y_2), (6, .int 0), (5, .int y_1), (0, .ref o_m), (1, .int p1), (2, .int p2), (3, .int p3)]) hx hb dX10_periodsOf_101 hl (by decide) rfl (fun ls hl => ?_)
            obtain ⟨x_43, ex_43⟩ : ∃ y : Int32, y = y_1 + 1 := ⟨_, rfl⟩
            have tx_43 : x_43.toInt = y_1.toInt + 1 := i3_addc rfl rfl ex_43 (by omega)
            refine lv_iinc (v := x_43) (lv' := [(5, .int x_43), (4, .int y_2), (6, .int 0), (0, .ref o_m), (1, .int p1), (2, .int p2), (3, .int p3)]) hx hb dX10_periodsOf_103 hl (k := 2) rfl (by rw [ex_43]; rfl) (by decide) rfl (fun ls hl => ?_)
            refine lv_goto (tgt := 6) hx hb dX10_periodsOf_106 (by decide) ?_
            replace hl : lv_has ls 7 [(5, .int x_43), (4, .int y_2), (0, .ref o_m), (1, .int p1), (2, .int p2), (3, .int p3)] := lv_sub hl [0, 1, 3, 4, 5, 6] rfl
            apply ih_d_3 (y_1 := x_43) (y_2 := y_2) (H := H) (locs := locs) (ls := ls) <;> first | assumption | omega | decide
          · exact absurd c_42 (by decide)
        · have e_41 : x_5.toInt = p1.toInt := i3_eq c_41
          refine lv_aload_n hx hb dX10_periodsOf_36 rfl (lv_at hl 2 rfl) ?_
          refine va_get (D := E.1) (ci := 10) (v := .ref a_m_through) (own := RX10) (C := RX10) (T := TX10) (N := 69) hx hb hts i_m_periodsOf_X10 hown hK hP 0 rfl rfl 28 (by decide) (hto (.fieldLink RX10 105 "TimingHouseModel" "through" "[I") (by decide +kernel)) (fun _ h9 => h9) rfl dX10_periodsOf_37 ?_
          refine lv_iload hx hb dX10_periodsOf_40 (lv_at hl 0 rfl) ?_
          refine ld_i hx hb hK hP 2 rfl (by omega) dX10_periodsOf_42 (fun x_44 ex_44 => ?_)
          have b_x_44 := AR.rd i_g_m_through ex_44 (by omega)
          refine lv_if_lt (tgt := 56) hx hb dX10_periodsOf_43 (by decide) (fun c_45 => ?_) (fun c_45 => ?_)
          · have e_45 : x_44.toInt < 0 := i3_lt c_45
            refine lv_aload_n hx hb dX10_periodsOf_56 rfl (lv_at hl 2 rfl) ?_
            refine va_get (D := E.1) (ci := 10) (v := .ref a_m_toward) (own := RX10) (C := RX10) (T := TX10) (N := 69) hx hb hts i_m_periodsOf_X10 hown hK hP 0 rfl rfl 29 (by decide) (hto (.fieldLink RX10 108 "TimingHouseModel" "toward" "[I") (by decide +kernel)) (fun _ h9 => h9) rfl dX10_periodsOf_57 ?_
            refine lv_iload hx hb dX10_periodsOf_60 (lv_at hl 0 rfl) ?_
            refine ld_i hx hb hK hP 3 rfl (by omega) dX10_periodsOf_62 (fun x_46 ex_46 => ?_)
            have b_x_46 := AR.rd i_g_m_toward ex_46 (by omega)
            refine lv_if_lt (tgt := 77) hx hb dX10_periodsOf_63 (by decide) (fun c_47 => ?_) (fun c_47 => ?_)
            · have e_47 : x_46.toInt < 0 := i3_lt c_47
              refine lv_iconst (v := 1) hx hb dX10_periodsOf_77 (by decide) ?_
              refine lv_goto (tgt := 82) hx hb dX10_periodsOf_78 (by decide) ?_
              refine lv_istore (lv' := [(6, .int 1), (5, .int y_1), (4, .int y_2), (0, .ref o_m), (1, .int p1), (2, .int p2), (3, .int p3)]) hx hb dX10_periodsOf_82 hl (by decide) rfl (fun ls hl => ?_)
              refine lv_iload hx hb dX10_periodsOf_84 (lv_at hl 0 rfl) ?_
              refine lv_if_eq (tgt := 99) hx hb dX10_periodsOf_86 (by decide) (fun c_48 => ?_) (fun c_48 => ?_)
              · exact absurd c_48 (by decide)
              · refine lv_aload_n hx hb dX10_periodsOf_89 rfl (lv_at hl 3 rfl) ?_
                refine va_get (D := E.1) (ci := 10) (v := .ref a_m_periods) (own := RX10) (C := RX10) (T := TX10) (N := 69) hx hb hts i_m_periodsOf_X10 hown hK hP 0 rfl rfl 26 (by decide) (hto (.fieldLink RX10 99 "TimingHouseModel" "periods" "[I") (by decide +kernel)) (fun _ h9 => h9) rfl dX10_periodsOf_90 ?_
                refine lv_iload hx hb dX10_periodsOf_93 (lv_at hl 1 rfl) ?_
                refine ld_i hx hb hK hP 4 rfl (by omega) dX10_periodsOf_95 (fun x_49 ex_49 => ?_)
                have b_x_49 := AR.rd i_g_m_periods ex_49 (by omega)
                refine lv_goto (tgt := 101) hx hb dX10_periodsOf_96 (by decide) ?_
                refine lv_istore (lv' := [(4, .int x_49), (6, .int 1), (5, .int y_1), (0, .ref o_m), (1, .int p1), (2, .int p2), (3, .int p3)]) hx hb dX10_periodsOf_101 hl (by decide) rfl (fun ls hl => ?_)
                obtain ⟨x_50, ex_50⟩ : ∃ y : Int32, y = y_1 + 1 := ⟨_, rfl⟩
                have tx_50 : x_50.toInt = y_1.toInt + 1 := i3_addc rfl rfl ex_50 (by omega)
                refine lv_iinc (v := x_50) (lv' := [(5, .int x_50), (4, .int x_49), (6, .int 1), (0, .ref o_m), (1, .int p1), (2, .int p2), (3, .int p3)]) hx hb dX10_periodsOf_103 hl (k := 2) rfl (by rw [ex_50]; rfl) (by decide) rfl (fun ls hl => ?_)
                refine lv_goto (tgt := 6) hx hb dX10_periodsOf_106 (by decide) ?_
                replace hl : lv_has ls 7 [(5, .int x_50), (4, .int x_49), (0, .ref o_m), (1, .int p1), (2, .int p2), (3, .int p3)] := lv_sub hl [0, 1, 3, 4, 5, 6] rfl
                apply ih_d_3 (y_1 := x_50) (y_2 := x_49) (H := H) (locs := locs) (ls := ls) <;> first | assumption | omega | decide
            · have e_47 : 0 ≤ x_46.toInt := i3_nlt c_47
              refine lv_aload_n hx hb dX10_periodsOf_66 rfl (lv_at hl 2 rfl) ?_
              refine va_get (D := E.1) (ci := 10) (v := .ref a_m_toward) (own := RX10) (C := RX10) (T := TX10) (N := 69) hx hb hts i_m_periodsOf_X10 hown hK hP 0 rfl rfl 29 (by decide) (hto (.fieldLink RX10 108 "TimingHouseModel" "toward" "[I") (by decide +kernel)) (fun _ h9 => h9) rfl dX10_periodsOf_67 ?_
              refine lv_iload hx hb dX10_periodsOf_70 (lv_at hl 0 rfl) ?_
              refine ld_i hx hb hK hP 3 rfl (by omega) dX10_periodsOf_72 (fun x_51 ex_51 => ?_)
              have hq_x_51 : x_46 = x_51 := ex_46.trans ex_51.symm
              subst hq_x_51
              refine lv_iload_n hx hb dX10_periodsOf_73 rfl (lv_at hl 4 rfl) ?_
              refine lv_icmp_ne (tgt := 81) hx hb dX10_periodsOf_74 (by decide) (fun c_52 => ?_) (fun c_52 => ?_)
              · have e_52 : x_46.toInt ≠ p2.toInt := i3_ne c_52
                refine lv_iconst (v := 0) hx hb dX10_periodsOf_81 (by decide) ?_
                refine lv_istore (lv' := [(6, .int 0), (5, .int y_1), (4, .int y_2), (0, .ref o_m), (1, .int p1), (2, .int p2), (3, .int p3)]) hx hb dX10_periodsOf_82 hl (by decide) rfl (fun ls hl => ?_)
                refine lv_iload hx hb dX10_periodsOf_84 (lv_at hl 0 rfl) ?_
                refine lv_if_eq (tgt := 99) hx hb dX10_periodsOf_86 (by decide) (fun c_53 => ?_) (fun c_53 => ?_)
                · refine lv_iload hx hb dX10_periodsOf_99 (lv_at hl 2 rfl) ?_
                  refine lv_istore (lv' := [(4, .int y_2), (6, .int 0), (5, .int y_1), (0, .ref o_m), (1, .int p1), (2, .int p2), (3, .int p3)]) hx hb dX10_periodsOf_101 hl (by decide) rfl (fun ls hl => ?_)
                  obtain ⟨x_54, ex_54⟩ : ∃ y : Int32, y = y_1 + 1 := ⟨_, rfl⟩
                  have tx_54 : x_54.toInt = y_1.toInt + 1 := i3_addc rfl rfl ex_54 (by omega)
                  refine lv_iinc (v := x_54) (lv' := [(5, .int x_54), (4, .int y_2), (6, .int 0), (0, .ref o_m), (1, .int p1), (2, .int p2), (3, .int p3)]) hx hb dX10_periodsOf_103 hl (k := 2) rfl (by rw [ex_54]; rfl) (by decide) rfl (fun ls hl => ?_)
                  refine lv_goto (tgt := 6) hx hb dX10_periodsOf_106 (by decide) ?_
                  replace hl : lv_has ls 7 [(5, .int x_54), (4, .int y_2), (0, .ref o_m), (1, .int p1), (2, .int p2), (3, .int p3)] := lv_sub hl [0, 1, 3, 4, 5, 6] rfl
                  apply ih_d_3 (y_1 := x_54) (y_2 := y_2) (H := H) (locs := locs) (ls := ls) <;> first | assumption | omega | decide
                · exact absurd c_53 (by decide)
              · have e_52 : x_46.toInt = p2.toInt := i3_eq c_52
                refine lv_iconst (v := 1) hx hb dX10_periodsOf_77 (by decide) ?_
                refine lv_goto (tgt := 82) hx hb dX10_periodsOf_78 (by decide) ?_
                refine lv_istore (lv' := [(6, .int 1), (5, .int y_1), (4, .int y_2), (0, .ref o_m), (1, .int p1), (2, .int p2), (3, .int p3)]) hx hb dX10_periodsOf_82 hl (by decide) rfl (fun ls hl => ?_)
                refine lv_iload hx hb dX10_periodsOf_84 (lv_at hl 0 rfl) ?_
                refine lv_if_eq (tgt := 99) hx hb dX10_periodsOf_86 (by decide) (fun c_55 => ?_) (fun c_55 => ?_)
                · exact absurd c_55 (by decide)
                · refine lv_aload_n hx hb dX10_periodsOf_89 rfl (lv_at hl 3 rfl) ?_
                  refine va_get (D := E.1) (ci := 10) (v := .ref a_m_periods) (own := RX10) (C := RX10) (T := TX10) (N := 69) hx hb hts i_m_periodsOf_X10 hown hK hP 0 rfl rfl 26 (by decide) (hto (.fieldLink RX10 99 "TimingHouseModel" "periods" "[I") (by decide +kernel)) (fun _ h9 => h9) rfl dX10_periodsOf_90 ?_
                  refine lv_iload hx hb dX10_periodsOf_93 (lv_at hl 1 rfl) ?_
                  refine ld_i hx hb hK hP 4 rfl (by omega) dX10_periodsOf_95 (fun x_56 ex_56 => ?_)
                  have b_x_56 := AR.rd i_g_m_periods ex_56 (by omega)
                  refine lv_goto (tgt := 101) hx hb dX10_periodsOf_96 (by decide) ?_
                  refine lv_istore (lv' := [(4, .int x_56), (6, .int 1), (5, .int y_1), (0, .ref o_m), (1, .int p1), (2, .int p2), (3, .int p3)]) hx hb dX10_periodsOf_101 hl (by decide) rfl (fun ls hl => ?_)
                  obtain ⟨x_57, ex_57⟩ : ∃ y : Int32, y = y_1 + 1 := ⟨_, rfl⟩
                  have tx_57 : x_57.toInt = y_1.toInt + 1 := i3_addc rfl rfl ex_57 (by omega)
                  refine lv_iinc (v := x_57) (lv' := [(5, .int x_57), (4, .int x_56), (6, .int 1), (0, .ref o_m), (1, .int p1), (2, .int p2), (3, .int p3)]) hx hb dX10_periodsOf_103 hl (k := 2) rfl (by rw [ex_57]; rfl) (by decide) rfl (fun ls hl => ?_)
                  refine lv_goto (tgt := 6) hx hb dX10_periodsOf_106 (by decide) ?_
                  replace hl : lv_has ls 7 [(5, .int x_57), (4, .int x_56), (0, .ref o_m), (1, .int p1), (2, .int p2), (3, .int p3)] := lv_sub hl [0, 1, 3, 4, 5, 6] rfl
                  apply ih_d_3 (y_1 := x_57) (y_2 := x_56) (H := H) (locs := locs) (ls := ls) <;> first | assumption | omega | decide
          · have e_45 : 0 ≤ x_44.toInt := i3_nlt c_45
            refine lv_iload_n hx hb dX10_periodsOf_46 rfl (lv_at hl 5 rfl) ?_
            refine lv_iload hx hb dX10_periodsOf_47 (lv_at hl 0 rfl) ?_
            refine lv_ishr hx hb dX10_periodsOf_49 ?_
            refine lv_topi (fun x_58 ex_58 => ?_)
            have bd_59 := i3_bd p3
            refine lv_iconst (v := 1) hx hb dX10_periodsOf_50 (by decide) ?_
            refine lv_iand hx hb dX10_periodsOf_51 ?_
            refine lv_topi (fun x_60 ex_60 => ?_)
            have bd_61 := i3_bd x_58
            have b_x_60 := i3_and1 ex_60
            refine lv_iconst (v := 1) hx hb dX10_periodsOf_52 (by decide) ?_
            refine lv_icmp_ne (tgt := 81) hx hb dX10_periodsOf_53 (by decide) (fun c_62 => ?_) (fun c_62 => ?_)
            · have e_62 : x_60.toInt ≠ 1 := i3_ne c_62
              refine lv_iconst (v := 0) hx hb dX10_periodsOf_81 (by decide) ?_
              refine lv_istore (lv' := [(6, .int 0), (5, .int y_1), (4, .int y_2), (0, .ref o_m), (1, .int p1), (2, .int p2), (3, .int p3)]) hx hb dX10_periodsOf_82 hl (by decide) rfl (fun ls hl => ?_)
              refine lv_iload hx hb dX10_periodsOf_84 (lv_at hl 0 rfl) ?_
              refine lv_if_eq (tgt := 99) hx hb dX10_periodsOf_86 (by decide) (fun c_63 => ?_) (fun c_63 => ?_)
              · refine lv_iload hx hb dX10_periodsOf_99 (lv_at hl 2 rfl) ?_
                refine lv_istore (lv' := [(4, .int y_2), (6, .int 0), (5, .int y_1), (0, .ref o_m), (1, .int p1), (2, .int p2), (3, .int p3)]) hx hb dX10_periodsOf_101 hl (by decide) rfl (fun ls hl => ?_)
                obtain ⟨x_64, ex_64⟩ : ∃ y : Int32, y = y_1 + 1 := ⟨_, rfl⟩
                have tx_64 : x_64.toInt = y_1.toInt + 1 := i3_addc rfl rfl ex_64 (by omega)
                refine lv_iinc (v := x_64) (lv' := [(5, .int x_64), (4, .int y_2), (6, .int 0), (0, .ref o_m), (1, .int p1), (2, .int p2), (3, .int p3)]) hx hb dX10_periodsOf_103 hl (k := 2) rfl (by rw [ex_64]; rfl) (by decide) rfl (fun ls hl => ?_)
                refine lv_goto (tgt := 6) hx hb dX10_periodsOf_106 (by decide) ?_
                replace hl : lv_has ls 7 [(5, .int x_64), (4, .int y_2), (0, .ref o_m), (1, .int p1), (2, .int p2), (3, .int p3)] := lv_sub hl [0, 1, 3, 4, 5, 6] rfl
                apply ih_d_3 (y_1 := x_64) (y_2 := y_2) (H := H) (locs := locs) (ls := ls) <;> first | assumption | omega | decide
              · exact absurd c_63 (by decide)
            · have e_62 : x_60.toInt = 1 := i3_eq c_62
              refine lv_aload_n hx hb dX10_periodsOf_56 rfl (lv_at hl 2 rfl) ?_
              refine va_get (D := E.1) (ci := 10) (v := .ref a_m_toward) (own := RX10) (C := RX10) (T := TX10) (N := 69) hx hb hts i_m_periodsOf_X10 hown hK hP 0 rfl rfl 29 (by decide) (hto (.fieldLink RX10 108 "TimingHouseModel" "toward" "[I") (by decide +kernel)) (fun _ h9 => h9) rfl dX10_periodsOf_57 ?_
              refine lv_iload hx hb dX10_periodsOf_60 (lv_at hl 0 rfl) ?_
              refine ld_i hx hb hK hP 3 rfl (by omega) dX10_periodsOf_62 (fun x_65 ex_65 => ?_)
              have b_x_65 := AR.rd i_g_m_toward ex_65 (by omega)
              refine lv_if_lt (tgt := 77) hx hb dX10_periodsOf_63 (by decide) (fun c_66 => ?_) (fun c_66 => ?_)
              · have e_66 : x_65.toInt < 0 := i3_lt c_66
                refine lv_iconst (v := 1) hx hb dX10_periodsOf_77 (by decide) ?_
                refine lv_goto (tgt := 82) hx hb dX10_periodsOf_78 (by decide) ?_
                refine lv_istore (lv' := [(6, .int 1), (5, .int y_1), (4, .int y_2), (0, .ref o_m), (1, .int p1), (2, .int p2), (3, .int p3)]) hx hb dX10_periodsOf_82 hl (by decide) rfl (fun ls hl => ?_)
                refine lv_iload hx hb dX10_periodsOf_84 (lv_at hl 0 rfl) ?_
                refine lv_if_eq (tgt := 99) hx hb dX10_periodsOf_86 (by decide) (fun c_67 => ?_) (fun c_67 => ?_)
                · exact absurd c_67 (by decide)
                · refine lv_aload_n hx hb dX10_periodsOf_89 rfl (lv_at hl 3 rfl) ?_
                  refine va_get (D := E.1) (ci := 10) (v := .ref a_m_periods) (own := RX10) (C := RX10) (T := TX10) (N := 69) hx hb hts i_m_periodsOf_X10 hown hK hP 0 rfl rfl 26 (by decide) (hto (.fieldLink RX10 99 "TimingHouseModel" "periods" "[I") (by decide +kernel)) (fun _ h9 => h9) rfl dX10_periodsOf_90 ?_
                  refine lv_iload hx hb dX10_periodsOf_93 (lv_at hl 1 rfl) ?_
                  refine ld_i hx hb hK hP 4 rfl (by omega) dX10_periodsOf_95 (fun x_68 ex_68 => ?_)
                  have b_x_68 := AR.rd i_g_m_periods ex_68 (by omega)
                  refine lv_goto (tgt := 101) hx hb dX10_periodsOf_96 (by decide) ?_
                  refine lv_istore (lv' := [(4, .int x_68), (6, .int 1), (5, .int y_1), (0, .ref o_m), (1, .int p1), (2, .int p2), (3, .int p3)]) hx hb dX10_periodsOf_101 hl (by decide) rfl (fun ls hl => ?_)
                  obtain ⟨x_69, ex_69⟩ : ∃ y : Int32, y = y_1 + 1 := ⟨_, rfl⟩
                  have tx_69 : x_69.toInt = y_1.toInt + 1 := i3_addc rfl rfl ex_69 (by omega)
                  refine lv_iinc (v := x_69) (lv' := [(5, .int x_69), (4, .int x_68), (6, .int 1), (0, .ref o_m), (1, .int p1), (2, .int p2), (3, .int p3)]) hx hb dX10_periodsOf_103 hl (k := 2) rfl (by rw [ex_69]; rfl) (by decide) rfl (fun ls hl => ?_)
                  refine lv_goto (tgt := 6) hx hb dX10_periodsOf_106 (by decide) ?_
                  replace hl : lv_has ls 7 [(5, .int x_69), (4, .int x_68), (0, .ref o_m), (1, .int p1), (2, .int p2), (3, .int p3)] := lv_sub hl [0, 1, 3, 4, 5, 6] rfl
                  apply ih_d_3 (y_1 := x_69) (y_2 := x_68) (H := H) (locs := locs) (ls := ls) <;> first | assumption | omega | decide
              · have e_66 : 0 ≤ x_65.toInt := i3_nlt c_66
                refine lv_aload_n hx hb dX10_periodsOf_66 rfl (lv_at hl 2 rfl) ?_
                refine va_get (D := E.1) (ci := 10) (v := .ref a_m_toward) (own := RX10) (C := RX10) (T := TX10) (N := 69) hx hb hts i_m_periodsOf_X10 hown hK hP 0 rfl rfl 29 (by decide) (hto (.fieldLink RX10 108 "TimingHouseModel" "toward" "[I") (by decide +kernel)) (fun _ h9 => h9) rfl dX10_periodsOf_67 ?_
                refine lv_iload hx hb dX10_periodsOf_70 (lv_at hl 0 rfl) ?_
                refine ld_i hx hb hK hP 3 rfl (by omega) dX10_periodsOf_72 (fun x_70 ex_70 => ?_)
                have hq_x_70 : x_65 = x_70 := ex_65.trans ex_70.symm
                subst hq_x_70
                refine lv_iload_n hx hb dX10_periodsOf_73 rfl (lv_at hl 4 rfl) ?_
                refine lv_icmp_ne (tgt := 81) hx hb dX10_periodsOf_74 (by decide) (fun c_71 => ?_) (fun c_71 => ?_)
                · have e_71 : x_65.toInt ≠ p2.toInt := i3_ne c_71
                  refine lv_iconst (v := 0) hx hb dX10_periodsOf_81 (by decide) ?_
                  refine lv_istore (lv' := [(6, .int 0), (5, .int y_1), (4, .int y_2), (0, .ref o_m), (1, .int p1), (2, .int p2), (3, .int p3)]) hx hb dX10_periodsOf_82 hl (by decide) rfl (fun ls hl => ?_)
                  refine lv_iload hx hb dX10_periodsOf_84 (lv_at hl 0 rfl) ?_
                  refine lv_if_eq (tgt := 99) hx hb dX10_periodsOf_86 (by decide) (fun c_72 => ?_) (fun c_72 => ?_)
                  · refine lv_iload hx hb dX10_periodsOf_99 (lv_at hl 2 rfl) ?_
                    refine lv_istore (lv' := [(4, .int y_2), (6, .int 0), (5, .int y_1), (0, .ref o_m), (1, .int p1), (2, .int p2), (3, .int p3)]) hx hb dX10_periodsOf_101 hl (by decide) rfl (fun ls hl => ?_)
                    obtain ⟨x_73, ex_73⟩ : ∃ y : Int32, y = y_1 + 1 := ⟨_, rfl⟩
                    have tx_73 : x_73.toInt = y_1.toInt + 1 := i3_addc rfl rfl ex_73 (by omega)
                    refine lv_iinc (v := x_73) (lv' := [(5, .int x_73), (4, .int y_2), (6, .int 0), (0, .ref o_m), (1, .int p1), (2, .int p2), (3, .int p3)]) hx hb dX10_periodsOf_103 hl (k := 2) rfl (by rw [ex_73]; rfl) (by decide) rfl (fun ls hl => ?_)
                    refine lv_goto (tgt := 6) hx hb dX10_periodsOf_106 (by decide) ?_
                    replace hl : lv_has ls 7 [(5, .int x_73), (4, .int y_2), (0, .ref o_m), (1, .int p1), (2, .int p2), (3, .int p3)] := lv_sub hl [0, 1, 3, 4, 5, 6] rfl
                    apply ih_d_3 (y_1 := x_73) (y_2 := y_2) (H := H) (locs := locs) (ls := ls) <;> first | assumption | omega | decide
                  · exact absurd c_72 (by decide)
                · have e_71 : x_65.toInt = p2.toInt := i3_eq c_71
                  refine lv_iconst (v := 1) hx hb dX10_periodsOf_77 (by decide) ?_
                  refine lv_goto (tgt := 82) hx hb dX10_periodsOf_78 (by decide) ?_
                  refine lv_istore (lv' := [(6, .int 1), (5, .int y_1), (4, .int y_2), (0, .ref o_m), (1, .int p1), (2, .int p2), (3, .int p3)]) hx hb dX10_periodsOf_82 hl (by decide) rfl (fun ls hl => ?_)
                  refine lv_iload hx hb dX10_periodsOf_84 (lv_at hl 0 rfl) ?_
                  refine lv_if_eq (tgt := 99) hx hb dX10_periodsOf_86 (by decide) (fun c_74 => ?_) (fun c_74 => ?_)
                  · exact absurd c_74 (by decide)
                  · refine lv_aload_n hx hb dX10_periodsOf_89 rfl (lv_at hl 3 rfl) ?_
                    refine va_get (D := E.1) (ci := 10) (v := .ref a_m_periods) (own := RX10) (C := RX10) (T := TX10) (N := 69) hx hb hts i_m_periodsOf_X10 hown hK hP 0 rfl rfl 26 (by decide) (hto (.fieldLink RX10 99 "TimingHouseModel" "periods" "[I") (by decide +kernel)) (fun _ h9 => h9) rfl dX10_periodsOf_90 ?_
                    refine lv_iload hx hb dX10_periodsOf_93 (lv_at hl 1 rfl) ?_
                    refine ld_i hx hb hK hP 4 rfl (by omega) dX10_periodsOf_95 (fun x_75 ex_75 => ?_)
                    have b_x_75 := AR.rd i_g_m_periods ex_75 (by omega)
                    refine lv_goto (tgt := 101) hx hb dX10_periodsOf_96 (by decide) ?_
                    refine lv_istore (lv' := [(4, .int x_75), (6, .int 1), (5, .int y_1), (0, .ref o_m), (1, .int p1), (2, .int p2), (3, .int p3)]) hx hb dX10_periodsOf_101 hl (by decide) rfl (fun ls hl => ?_)
                    obtain ⟨x_76, ex_76⟩ : ∃ y : Int32, y = y_1 + 1 := ⟨_, rfl⟩
                    have tx_76 : x_76.toInt = y_1.toInt + 1 := i3_addc rfl rfl ex_76 (by omega)
                    refine lv_iinc (v := x_76) (lv' := [(5, .int x_76), (4, .int x_75), (6, .int 1), (0, .ref o_m), (1, .int p1), (2, .int p2), (3, .int p3)]) hx hb dX10_periodsOf_103 hl (k := 2) rfl (by rw [ex_76]; rfl) (by decide) rfl (fun ls hl => ?_)
                    refine lv_goto (tgt := 6) hx hb dX10_periodsOf_106 (by decide) ?_
                    replace hl : lv_has ls 7 [(5, .int x_76), (4, .int x_75), (0, .ref o_m), (1, .int p1), (2, .int p2), (3, .int p3)] := lv_sub hl [0, 1, 3, 4, 5, 6] rfl
                    apply ih_d_3 (y_1 := x_76) (y_2 := x_75) (H := H) (locs := locs) (ls := ls) <;> first | assumption | omega | decide
theorem dX10_load_0 : decode cX10_load 0 = .ok (.aload_n 0, 1) := by decide +kernel
theorem dX10_load_1 : decode cX10_load 1 = .ok (.getfield 18, 3) := by decide +kernel
theorem dX10_load_4 : decode cX10_load 4 = .ok (.iload_n 1, 1) := by decide +kernel
theorem dX10_load_5 : decode cX10_load 5 = .ok (.iaload, 1) := by decide +kernel
theorem dX10_load_6 : decode cX10_load 6 = .ok (.iconst 5, 1) := by decide +kernel
theorem dX10_load_7 : decode cX10_load 7 = .ok (.if_icmp .ne 7, 3) := by decide +kernel
theorem dX10_load_14 : decode cX10_load 14 = .ok (.aload_n 0, 1) := by decide +kernel
theorem dX10_load_15 : decode cX10_load 15 = .ok (.getfield 27, 3) := by decide +kernel
theorem dX10_load_18 : decode cX10_load 18 = .ok (.iload_n 1, 1) := by decide +kernel
theorem dX10_load_19 : decode cX10_load 19 = .ok (.iaload, 1) := by decide +kernel
theorem dX10_load_20 : decode cX10_load 20 = .ok (.istore_n 2, 1) := by decide +kernel
theorem dX10_load_21 : decode cX10_load 21 = .ok (.iconst 0, 1) := by decide +kernel
theorem dX10_load_22 : decode cX10_load 22 = .ok (.istore_n 3, 1) := by decide +kernel
theorem dX10_load_23 : decode cX10_load 23 = .ok (.iload_n 3, 1) := by decide +kernel
theorem dX10_load_24 : decode cX10_load 24 = .ok (.aload_n 0, 1) := by decide +kernel
theorem dX10_load_25 : decode cX10_load 25 = .ok (.getfield 7, 3) := by decide +kernel
theorem dX10_load_28 : decode cX10_load 28 = .ok (.if_icmp .ge 69, 3) := by decide +kernel
theorem dX10_load_97 : decode cX10_load 97 = .ok (.iload_n 2, 1) := by decide +kernel
theorem dX10_load_98 : decode cX10_load 98 = .ok (.ireturn, 1) := by decide +kernel
theorem dX10_load_31 : decode cX10_load 31 = .ok (.iconst 0, 1) := by decide +kernel
theorem dX10_load_32 : decode cX10_load 32 = .ok (.istore 4, 2) := by decide +kernel
theorem dX10_load_34 : decode cX10_load 34 = .ok (.iload 4, 2) := by decide +kernel
theorem dX10_load_36 : decode cX10_load 36 = .ok (.aload_n 0, 1) := by decide +kernel
theorem dX10_load_37 : decode cX10_load 37 = .ok (.getfield 14, 3) := by decide +kernel
theorem dX10_load_40 : decode cX10_load 40 = .ok (.iload_n 3, 1) := by decide +kernel
theorem dX10_load_41 : decode cX10_load 41 = .ok (.iaload, 1) := by decide +kernel
theorem dX10_load_42 : decode cX10_load 42 = .ok (.if_icmp .ge 49, 3) := by decide +kernel
theorem dX10_load_91 : decode cX10_load 91 = .ok (.iinc 3 1, 3) := by decide +kernel
theorem dX10_load_94 : decode cX10_load 94 = .ok (.goto (-71), 3) := by decide +kernel
theorem dX10_load_45 : decode cX10_load 45 = .ok (.aload_n 0, 1) := by decide +kernel
theorem dX10_load_46 : decode cX10_load 46 = .ok (.getfield 30, 3) := by decide +kernel
theorem dX10_load_49 : decode cX10_load 49 = .ok (.iconst 4, 1) := by decide +kernel
theorem dX10_load_50 : decode cX10_load 50 = .ok (.iload_n 3, 1) := by decide +kernel
theorem dX10_load_51 : decode cX10_load 51 = .ok (.imul, 1) := by decide +kernel
theorem dX10_load_52 : decode cX10_load 52 = .ok (.iload 4, 2) := by decide +kernel
theorem dX10_load_54 : decode cX10_load 54 = .ok (.iadd, 1) := by decide +kernel
theorem dX10_load_55 : decode cX10_load 55 = .ok (.iaload, 1) := by decide +kernel
theorem dX10_load_56 : decode cX10_load 56 = .ok (.iload_n 1, 1) := by decide +kernel
theorem dX10_load_57 : decode cX10_load 57 = .ok (.if_icmp .ne 28, 3) := by decide +kernel
theorem dX10_load_85 : decode cX10_load 85 = .ok (.iinc 4 1, 3) := by decide +kernel
theorem dX10_load_88 : decode cX10_load 88 = .ok (.goto (-54), 3) := by decide +kernel
theorem dX10_load_60 : decode cX10_load 60 = .ok (.iload_n 2, 1) := by decide +kernel
theorem dX10_load_61 : decode cX10_load 61 = .ok (.iconst 1, 1) := by decide +kernel
theorem dX10_load_62 : decode cX10_load 62 = .ok (.aload_n 0, 1) := by decide +kernel
theorem dX10_load_63 : decode cX10_load 63 = .ok (.getfield 18, 3) := by decide +kernel
theorem dX10_load_66 : decode cX10_load 66 = .ok (.iload_n 3, 1) := by decide +kernel
theorem dX10_load_67 : decode cX10_load 67 = .ok (.iaload, 1) := by decide +kernel
theorem dX10_load_68 : decode cX10_load 68 = .ok (.iconst 5, 1) := by decide +kernel
theorem dX10_load_69 : decode cX10_load 69 = .ok (.if_icmp .ne 7, 3) := by decide +kernel
theorem dX10_load_76 : decode cX10_load 76 = .ok (.aload_n 0, 1) := by decide +kernel
theorem dX10_load_77 : decode cX10_load 77 = .ok (.getfield 24, 3) := by decide +kernel
theorem dX10_load_80 : decode cX10_load 80 = .ok (.iload_n 3, 1) := by decide +kernel
theorem dX10_load_81 : decode cX10_load 81 = .ok (.iaload, 1) := by decide +kernel
theorem dX10_load_82 : decode cX10_load 82 = .ok (.iadd, 1) := by decide +kernel
theorem dX10_load_83 : decode cX10_load 83 = .ok (.iadd, 1) := by decide +kernel
theorem dX10_load_84 : decode cX10_load 84 = .ok (.istore_n 2, 1) := by decide +kernel
theorem dX10_load_72 : decode cX10_load 72 = .ok (.iconst 0, 1) := by decide +kernel
theorem dX10_load_73 : decode cX10_load 73 = .ok (.goto 9, 3) := by decide +kernel
theorem dX10_load_10 : decode cX10_load 10 = .ok (.iconst 0, 1) := by decide +kernel
theorem dX10_load_11 : decode cX10_load 11 = .ok (.goto 9, 3) := by decide +kernel
def wo_m_load : List Cond := [.code yX10_load cX10_load 5 (some .int), .fieldLink RX10 18 "TimingHouseModel" "kind" "[I", .fieldLink RX10 27 "TimingHouseModel" "extra" "[I", .fieldLink RX10 7 "TimingHouseModel" "cells" "I", .fieldLink RX10 14 "TimingHouseModel" "inputs" "[I", .fieldLink RX10 30 "TimingHouseModel" "taken" "[I", .fieldLink RX10 24 "TimingHouseModel" "size" "[I"]
def wr_m_load : List Cond := (wsX100 ++ ([]))
def w_m_load : List Cond := wo_m_load ++ wr_m_load
theorem wg_m_load : GW w_m_load := GW_app (GW_of (by decide +kernel)) (GW_app (GW_of (by decide +kernel)) (GW_nil))
theorem i_m_load_X10 : ∀ w ∈ wsX100, w ∈ w_m_load := fun _ h => List.mem_append_right _ (List.mem_append_left _ h)
set_option maxHeartbeats 8000000 in
set_option maxRecDepth 100000 in
theorem m_load (l : Launch) (E : gE) (o_m a_m_kind a_m_inputs a_m_tableOf a_m_size a_m_extra a_m_taken a_m_portEarly a_m_portLate a_m_portSlope a_m_nodeOf a_m_setup a_m_hold a_m_seen a_m_numbers a_m_rowSize a_m_fall a_m_parent a_m_nodeEarly a_m_nodeLate a_m_periods a_m_from a_m_through a_m_toward a_m_order a_m_done a_m_reached a_m_open a_m_lateDelay a_m_earlyDelay a_m_lateSlope a_m_earlySlope a_m_greatest a_m_least a_m_howMany a_m_most a_m_fewest a_m_pathsTo a_m_slackOf a_m_holdOf a_m_listSlack a_m_listStart a_m_listEdge a_m_listSize a_m_listCell a_m_listInput a_m_rank a_m_good a_m_goCell a_m_goInput a_m_goEdge a_m_goMask a_m_shownCell a_m_shownInput a_m_shownEdge a_m_shownLate : Nat) (f_m_code f_m_cells f_m_late f_m_early f_m_period f_m_nodes f_m_exceptions f_m_fails f_m_ordered f_m_listed f_m_target f_m_shown f_m_shownSlack f_m_shownHold p1 : Int32) (g_m_kind : Nat → Int32) (g_m_extra : Nat → Int32) (g_m_inputs : Nat → Int32) (g_m_taken : Nat → Int32) (g_m_size : Nat → Int32) (r_f_m_cells : RG f_m_cells 0 50) (r_f_m_late : RG f_m_late 0 500) (r_f_m_early : RG f_m_early 0 500) (r_f_m_period : RG f_m_period 1 1000000) (r_f_m_nodes : RG f_m_nodes 0 20) (r_f_m_exceptions : RG f_m_exceptions 0 4) (r_f_m_ordered : RG f_m_ordered 0 50) (r_f_m_listed : RG f_m_listed 0 1000) (r_f_m_target : RG f_m_target 0 49) (r_f_m_shown : RG f_m_shown 0 52) (i_g_m_kind : AR g_m_kind 50 0 5) (i_g_m_extra : AR g_m_extra 50 0 1000) (i_g_m_inputs : AR g_m_inputs 50 0 4) (i_g_m_taken : AR g_m_taken 200 (-1) 49) (i_g_m_size : AR g_m_size 50 0 2) (r_p1 : RG p1 0 49) : CtI l E yX10_load w_m_load ({ frames := 0, cells := 0, slots := 0, locals := 0 }) [(o_m, .inr (10, [.int f_m_code, .int f_m_cells, .ref a_m_kind, .ref a_m_inputs, .ref a_m_tableOf, .ref a_m_size, .ref a_m_extra, .ref a_m_taken, .ref a_m_portEarly, .ref a_m_portLate, .ref a_m_portSlope, .ref a_m_nodeOf, .ref a_m_setup, .ref a_m_hold, .ref a_m_seen, .ref a_m_numbers, .ref a_m_rowSize, .ref a_m_fall, .int f_m_late, .int f_m_early, .int f_m_period, .int f_m_nodes, .ref a_m_parent, .ref a_m_nodeEarly, .ref a_m_nodeLate, .int f_m_exceptions, .ref a_m_periods, .ref a_m_from, .ref a_m_through, .ref a_m_toward, .int f_m_fails, .ref a_m_order, .int f_m_ordered, .ref a_m_done, .ref a_m_reached, .ref a_m_open, .ref a_m_lateDelay, .ref a_m_earlyDelay, .ref a_m_lateSlope, .ref a_m_earlySlope, .ref a_m_greatest, .ref a_m_least, .ref a_m_howMany, .ref a_m_most, .ref a_m_fewest, .ref a_m_pathsTo, .ref a_m_slackOf, .ref a_m_holdOf, .int f_m_listed, .ref a_m_listSlack, .ref a_m_listStart, .ref a_m_listEdge, .ref a_m_listSize, .ref a_m_listCell, .ref a_m_listInput, .ref a_m_rank, .ref a_m_good, .ref a_m_goCell, .ref a_m_goInput, .ref a_m_goEdge, .ref a_m_goMask, .int f_m_target, .int f_m_shown, .ref a_m_shownCell, .ref a_m_shownInput, .ref a_m_shownEdge, .ref a_m_shownLate, .int f_m_shownSlack, .int f_m_shownHold])), (a_m_kind, aI E 50 g_m_kind), (a_m_extra, aI E 50 g_m_extra), (a_m_inputs, aI E 50 g_m_inputs), (a_m_taken, aI E 200 g_m_taken), (a_m_size, aI E 50 g_m_size)] [.ref o_m, .int p1] (fun _ w => True ∧ w = [(o_m, .inr (10, [.int f_m_code, .int f_m_cells, .ref a_m_kind, .ref a_m_inputs, .ref a_m_tableOf, .ref a_m_size, .ref a_m_extra, .ref a_m_taken, .ref a_m_portEarly, .ref a_m_portLate, .ref a_m_portSlope, .ref a_m_nodeOf, .ref a_m_setup, .ref a_m_hold, .ref a_m_seen, .ref a_m_numbers, .ref a_m_rowSize, .ref a_m_fall, .int f_m_late, .int f_m_early, .int f_m_period, .int f_m_nodes, .ref a_m_parent, .ref a_m_nodeEarly, .ref a_m_nodeLate, .int f_m_exceptions, .ref a_m_periods, .ref a_m_from, .ref a_m_through, .ref a_m_toward, .int f_m_fails, .ref a_m_order, .int f_m_ordered, .ref a_m_done, .ref a_m_reached, .ref a_m_open, .ref a_m_lateDelay, .ref a_m_earlyDelay, .ref a_m_lateSlope, .ref a_m_earlySlope, .ref a_m_greatest, .ref a_m_least, .ref a_m_howMany, .ref a_m_most, .ref a_m_fewest, .ref a_m_pathsTo, .ref a_m_slackOf, .ref a_m_holdOf, .int f_m_listed, .ref a_m_listSlack, .ref a_m_listStart, .ref a_m_listEdge, .ref a_m_listSize, .ref a_m_listCell, .ref a_m_listInput, .ref a_m_rank, .ref a_m_good, .ref a_m_goCell, .ref a_m_goInput, .ref a_m_goEdge, .ref a_m_goMask, .int f_m_target, .int f_m_shown, .ref a_m_shownCell, .ref a_m_shownInput, .ref a_m_shownEdge, .ref a_m_shownLate, .int f_m_shownSlack, .int f_m_shownHold])), (a_m_kind, aI E 50 g_m_kind), (a_m_extra, aI E 50 g_m_extra), (a_m_inputs, aI E 50 g_m_inputs), (a_m_taken, aI E 200 g_m_taken), (a_m_size, aI E 50 g_m_size)]) := by
  refine CtI.of (cc := cX10_load) (maxL := 5) (rt := (some .int)) (by decide) rfl (Nat.le_of_ble_eq_true rfl) ?_
  intro p e s m below meth c A B ls hl
  obtain ⟨hx, hb, hml, hr, hlk, hin, hts, hown, hK, hN, hZ, hA, hP, hD, hS⟩ := B
  replace hown : s.vm.findClass RX10 = some m.cls := hown
  have hto : ∀ w ∈ wo_m_load, w.before _ s = true := fun w h => hts w (List.mem_append_left _ h)
  replace hl : lv_has ls 5 [(0, .ref o_m), (1, .int p1)] := hl
  obtain ⟨H, hHe⟩ : ∃ H, H = s.heap := ⟨_, rfl⟩
  obtain ⟨locs, hle⟩ : ∃ l : List Loc, l = [] := ⟨_, rfl⟩
  replace hS : va_S A s.heap H locs := by rw [hHe, hle]; exact hS
  replace hP : va_P E.1 vwCl [(o_m, .inr (10, [.int f_m_code, .int f_m_cells, .ref a_m_kind, .ref a_m_inputs, .ref a_m_tableOf, .ref a_m_size, .ref a_m_extra, .ref a_m_taken, .ref a_m_portEarly, .ref a_m_portLate, .ref a_m_portSlope, .ref a_m_nodeOf, .ref a_m_setup, .ref a_m_hold, .ref a_m_seen, .ref a_m_numbers, .ref a_m_rowSize, .ref a_m_fall, .int f_m_late, .int f_m_early, .int f_m_period, .int f_m_nodes, .ref a_m_parent, .ref a_m_nodeEarly, .ref a_m_nodeLate, .int f_m_exceptions, .ref a_m_periods, .ref a_m_from, .ref a_m_through, .ref a_m_toward, .int f_m_fails, .ref a_m_order, .int f_m_ordered, .ref a_m_done, .ref a_m_reached, .ref a_m_open, .ref a_m_lateDelay, .ref a_m_earlyDelay, .ref a_m_lateSlope, .ref a_m_earlySlope, .ref a_m_greatest, .ref a_m_least, .ref a_m_howMany, .ref a_m_most, .ref a_m_fewest, .ref a_m_pathsTo, .ref a_m_slackOf, .ref a_m_holdOf, .int f_m_listed, .ref a_m_listSlack, .ref a_m_listStart, .ref a_m_listEdge, .ref a_m_listSize, .ref a_m_listCell, .ref a_m_listInput, .ref a_m_rank, .ref a_m_good, .ref a_m_goCell, .ref a_m_goInput, .ref a_m_goEdge, .ref a_m_goMask, .int f_m_target, .int f_m_shown, .ref a_m_shownCell, .ref a_m_shownInput, .ref a_m_shownEdge, .ref a_m_shownLate, .int f_m_shownSlack, .int f_m_shownHold])), (a_m_kind, aI E 50 g_m_kind), (a_m_extra, aI E 50 g_m_extra), (a_m_inputs, aI E 50 g_m_inputs), (a_m_taken, aI E 200 g_m_taken), (a_m_size, aI E 50 g_m_size)] H := by rw [hHe]; exact hP
  refine W_hl hHe hle ?_
  clear hHe hle
  refine lv_aload_n hx hb dX10_load_0 rfl (lv_at hl 0 rfl) ?_
  refine va_get (D := E.1) (ci := 10) (v := .ref a_m_kind) (own := RX10) (C := RX10) (T := TX10) (N := 69) hx hb hts i_m_load_X10 hown hK hP 0 rfl rfl 2 (by decide) (hto (.fieldLink RX10 18 "TimingHouseModel" "kind" "[I") (by decide +kernel)) (fun _ h9 => h9) rfl dX10_load_1 ?_
  refine lv_iload_n hx hb dX10_load_4 rfl (lv_at hl 1 rfl) ?_
  have b_p1 := r_p1.out
  refine ld_i hx hb hK hP 1 rfl (by omega) dX10_load_5 (fun x_1 ex_1 => ?_)
  have b_x_1 := AR.rd i_g_m_kind ex_1 (by omega)
  refine lv_iconst (v := 5) hx hb dX10_load_6 (by decide) ?_
  refine lv_icmp_ne (tgt := 14) hx hb dX10_load_7 (by decide) (fun c_2 => ?_) (fun c_2 => ?_)
  · have e_2 : x_1.toInt ≠ 5 := i3_ne c_2
    refine lv_aload_n hx hb dX10_load_14 rfl (lv_at hl 0 rfl) ?_
    refine va_get (D := E.1) (ci := 10) (v := .ref a_m_extra) (own := RX10) (C := RX10) (T := TX10) (N := 69) hx hb hts i_m_load_X10 hown hK hP 0 rfl rfl 6 (by decide) (hto (.fieldLink RX10 27 "TimingHouseModel" "extra" "[I") (by decide +kernel)) (fun _ h9 => h9) rfl dX10_load_15 ?_
    refine lv_iload_n hx hb dX10_load_18 rfl (lv_at hl 1 rfl) ?_
    refine ld_i hx hb hK hP 2 rfl (by omega) dX10_load_19 (fun x_3 ex_3 => ?_)
    have b_x_3 := AR.rd i_g_m_extra ex_3 (by omega)
    refine lv_istore_n (lv' := [(2, .int x_3), (0, .ref o_m), (1, .int p1)]) hx hb dX10_load_20 rfl hl (by decide) rfl (fun ls hl => ?_)
    refine lv_iconst (v := 0) hx hb dX10_load_21 (by decide) ?_
    refine lv_istore_n (lv' := [(3, .int 0), (2, .int x_3), (0, .ref o_m), (1, .int p1)]) hx hb dX10_load_22 rfl hl (by decide) rfl (fun ls hl => ?_)
    obtain ⟨y_4, hy_4⟩ : ∃ y : Int32, y = 0 := ⟨_, rfl⟩
    have b_y_4 : 0 ≤ y_4.toInt ∧ y_4.toInt ≤ 50 := by rw [hy_4]; decide
    obtain ⟨y_5, hy_5⟩ : ∃ y : Int32, y = x_3 := ⟨_, rfl⟩
    have b_y_5 := i3_bd y_5
    replace hl : lv_has ls 5 [(3, .int y_4), (2, .int y_5), (0, .ref o_m), (1, .int p1)] := by rw [hy_4, hy_5]; exact hl
    clear hy_4 hy_5
    obtain ⟨d_6, hd_6⟩ : ∃ d : Nat, 50 - y_4.toInt < (d : Int) := ⟨(50 - y_4.toInt + 1).toNat, by omega⟩
    induction d_6 generalizing y_4 y_5 H locs ls with
    | zero => exfalso; omega
    | succ d_6 ih_d_6 =>
      refine lv_iload_n hx hb dX10_load_23 rfl (lv_at hl 0 rfl) ?_
      refine lv_aload_n hx hb dX10_load_24 rfl (lv_at hl 2 rfl) ?_
      refine va_get (D := E.1) (ci := 10) (v := .int f_m_cells) (own := RX10) (C := RX10) (T := TX10) (N := 69) hx hb hts i_m_load_X10 hown hK hP 0 rfl rfl 1 (by decide) (hto (.fieldLink RX10 7 "TimingHouseModel" "cells" "I") (by decide +kernel)) (fun _ h9 => h9) rfl dX10_load_25 ?_
      have b_f_m_cells := r_f_m_cells.out
      refine lv_icmp_ge (tgt := 97) hx hb dX10_load_28 (by decide) (fun c_7 => ?_) (fun c_7 => ?_)
      · have e_7 : f_m_cells.toInt ≤ y_4.toInt := i3_le c_7
        refine lv_iload_n hx hb dX10_load_97 rfl (lv_at hl 1 rfl) ?_
        exact ret_i hx hb hr hlk (hP.sub (ws' := [(o_m, .inr (10, [.int f_m_code, .int f_m_cells, .ref a_m_kind, .ref a_m_inputs, .ref a_m_tableOf, .ref a_m_size, .ref a_m_extra, .ref a_m_taken, .ref a_m_portEarly, .ref a_m_portLate, .ref a_m_portSlope, .ref a_m_nodeOf, .ref a_m_setup, .ref a_m_hold, .ref a_m_seen, .ref a_m_numbers, .ref a_m_rowSize, .ref a_m_fall, .int f_m_late, .int f_m_early, .int f_m_period, .int f_m_nodes, .ref a_m_parent, .ref a_m_nodeEarly, .ref a_m_nodeLate, .int f_m_exceptions, .ref a_m_periods, .ref a_m_from, .ref a_m_through, .ref a_m_toward, .int f_m_fails, .ref a_m_order, .int f_m_ordered, .ref a_m_done, .ref a_m_reached, .ref a_m_open, .ref a_m_lateDelay, .ref a_m_earlyDelay, .ref a_m_lateSlope, .ref a_m_earlySlope, .ref a_m_greatest, .ref a_m_least, .ref a_m_howMany, .ref a_m_most, .ref a_m_fewest, .ref a_m_pathsTo, .ref a_m_slackOf, .ref a_m_holdOf, .int f_m_listed, .ref a_m_listSlack, .ref a_m_listStart, .ref a_m_listEdge, .ref a_m_listSize, .ref a_m_listCell, .ref a_m_listInput, .ref a_m_rank, .ref a_m_good, .ref a_m_goCell, .ref a_m_goInput, .ref a_m_goEdge, .ref a_m_goMask, .int f_m_target, .int f_m_shown, .ref a_m_shownCell, .ref a_m_shownInput, .ref a_m_shownEdge, .ref a_m_shownLate, .int f_m_shownSlack, .int f_m_shownHold])), (a_m_kind, aI E 50 g_m_kind), (a_m_extra, aI E 50 g_m_extra), (a_m_inputs, aI E 50 g_m_inputs), (a_m_taken, aI E 200 g_m_taken), (a_m_size, aI E 50 g_m_size)]) [0, 1, 2, 3, 4, 5] rfl) (hD.sub (ws' := [(o_m, .inr (10, [.int f_m_code, .int f_m_cells, .ref a_m_kind, .ref a_m_inputs, .ref a_m_tableOf, .ref a_m_size, .ref a_m_extra, .ref a_m_taken, .ref a_m_portEarly, .ref a_m_portLate, .ref a_m_portSlope, .ref a_m_nodeOf, .ref a_m_setup, .ref a_m_hold, .ref a_m_seen, .ref a_m_numbers, .ref a_m_rowSize, .ref a_m_fall, .int f_m_late, .int f_m_early, .int f_m_period, .int f_m_nodes, .ref a_m_parent, .ref a_m_nodeEarly, .ref a_m_nodeLate, .int f_m_exceptions, .ref a_m_periods, .ref a_m_from, .ref a_m_through, .ref a_m_toward, .int f_m_fails, .ref a_m_order, .int f_m_ordered, .ref a_m_done, .ref a_m_reached, .ref a_m_open, .ref a_m_lateDelay, .ref a_m_earlyDelay, .ref a_m_lateSlope, .ref a_m_earlySlope, .ref a_m_greatest, .ref a_m_least, .ref a_m_howMany, .ref a_m_most, .ref a_m_fewest, .ref a_m_pathsTo, .ref a_m_slackOf, .ref a_m_holdOf, .int f_m_listed, .ref a_m_listSlack, .ref a_m_listStart, .ref a_m_listEdge, .ref a_m_listSize, .ref a_m_listCell, .ref a_m_listInput, .ref a_m_rank, .ref a_m_good, .ref a_m_goCell, .ref a_m_goInput, .ref a_m_goEdge, .ref a_m_goMask, .int f_m_target, .int f_m_shown, .ref a_m_shownCell, .ref a_m_shownInput, .ref a_m_shownEdge, .ref a_m_shownLate, .int f_m_shownSlack, .int f_m_shownHold])), (a_m_kind, aI E 50 g_m_kind), (a_m_extra, aI E 50 g_m_extra), (a_m_inputs, aI E 50 g_m_inputs), (a_m_taken, aI E 200 g_m_taken), (a_m_size, aI E 50 g_m_size)]) [0, 1, 2, 3, 4, 5] (by decide) rfl) hS rfl dX10_load_98 (Nat.le_of_ble_eq_true rfl) (Nat.le_of_ble_eq_true rfl) ⟨trivial, rfl⟩
      · have e_7 : y_4.toInt < f_m_cells.toInt := i3_nle c_7
        refine lv_iconst (v := 0) hx hb dX10_load_31 (by decide) ?_
        refine lv_istore (lv' := [(4, .int 0), (3, .int y_4), (2, .int y_5), (0, .ref o_m), (1, .int p1)]) hx hb dX10_load_32 hl (by decide) rfl (fun ls hl => ?_)
        obtain ⟨y_8, hy_8⟩ : ∃ y : Int32, y = 0 := ⟨_, rfl⟩
        have b_y_8 : 0 ≤ y_8.toInt ∧ y_8.toInt ≤ 4 := by rw [hy_8]; decide
        obtain ⟨y_9, hy_9⟩ : ∃ y : Int32, y = y_5 := ⟨_, rfl⟩
        have b_y_9 := i3_bd y_9
        replace hl : lv_has ls 5 [(4, .int y_8), (3, .int y_4), (2, .int y_9), (0, .ref o_m), (1, .int p1)] := by rw [hy_8, hy_9]; exact hl
        clear hy_8 hy_9
        obtain ⟨d_10, hd_10⟩ : ∃ d : Nat, 4 - y_8.toInt < (d : Int) := ⟨(4 - y_8.toInt + 1).toNat, by omega⟩
        induction d_10 generalizing y_8 y_9 H locs ls with
        | zero => exfalso; omega
        | succ d_10 ih_d_10 =>
          refine lv_iload hx hb dX10_load_34 (lv_at hl 0 rfl) ?_
          refine lv_aload_n hx hb dX10_load_36 rfl (lv_at hl 3 rfl) ?_
          refine va_get (D := E.1) (ci := 10) (v := .ref a_m_inputs) (own := RX10) (C := RX10) (T := TX10) (N := 69) hx hb hts i_m_load_X10 hown hK hP 0 rfl rfl 3 (by decide) (hto (.fieldLink RX10 14 "TimingHouseModel" "inputs" "[I") (by decide +kernel)) (fun _ h9 => h9) rfl dX10_load_37 ?_
          refine lv_iload_n hx hb dX10_load_40 rfl (lv_at hl 1 rfl) ?_
          refine ld_i hx hb hK hP 3 rfl (by omega) dX10_load_41 (fun x_11 ex_11 => ?_)
          have b_x_11 := AR.rd i_g_m_inputs ex_11 (by omega)
          refine lv_icmp_ge (tgt := 91) hx hb dX10_load_42 (by decide) (fun c_12 => ?_) (fun c_12 => ?_)
          · have e_12 : x_11.toInt ≤ y_8.toInt := i3_le c_12
            obtain ⟨x_13, ex_13⟩ : ∃ y : Int32, y = y_4 + 1 := ⟨_, rfl⟩
            have tx_13 : x_13.toInt = y_4.toInt + 1 := i3_addc rfl rfl ex_13 (by omega)
            refine lv_iinc (v := x_13) (lv' := [(3, .int x_13), (4, .int y_8), (2, .int y_9), (0, .ref o_m), (1, .int p1)]) hx hb dX10_load_91 hl (k := 1) rfl (by rw [ex_13]; rfl) (by decide) rfl (fun ls hl => ?_)
            refine lv_goto (tgt := 23) hx hb dX10_load_94 (by decide) ?_
            replace hl : lv_has ls 5 [(3, .int x_13), (2, .int y_9), (0, .ref o_m), (1, .int p1)] := lv_sub hl [0, 2, 3, 4] rfl
            apply ih_d_6 (y_4 := x_13) (y_5 := y_9) (H := H) (locs := locs) (ls := ls) <;> first | assumption | omega | decide
          · have e_12 : y_8.toInt < x_11.toInt := i3_nle c_12
            refine lv_aload_n hx hb dX10_load_45 rfl (lv_at hl 3 rfl) ?_
            refine va_get (D := E.1) (ci := 10) (v := .ref a_m_taken) (own := RX10) (C := RX10) (T := TX10) (N := 69) hx hb hts i_m_load_X10 hown hK hP 0 rfl rfl 7 (by decide) (hto (.fieldLink RX10 30 "TimingHouseModel" "taken" "[I") (by decide +kernel)) (fun _ h9 => h9) rfl dX10_load_46 ?_
            refine lv_iconst (v := 4) hx hb dX10_load_49 (by decide) ?_
            refine lv_iload_n hx hb dX10_load_50 rfl (lv_at hl 1 rfl) ?_
            refine lv_imul hx hb dX10_load_51 ?_
            refine lv_topi (fun x_14 ex_14 => ?_)
            have tx_14 : x_14.toInt = 4 * y_4.toInt := i3_mulc rfl rfl ex_14 (by omega)
            refine lv_iload hx hb dX10_load_52 (lv_at hl 0 rfl) ?_
            refine lv_iadd hx hb dX10_load_54 ?_
            refine lv_topi (fun x_15 ex_15 => ?_)
            have tx_15 : x_15.toInt = x_14.toInt + y_8.toInt := i3_addc rfl rfl ex_15 (by omega)
            refine ld_i hx hb hK hP 4 rfl (by omega) dX10_load_55 (fun x_16 ex_16 => ?_)
            have q_x_16 : x_16.toInt = (g_m_taken x_15.toNatClampNeg).toInt := i3_eq ex_16
            have b_x_16 := AR.rd i_g_m_taken ex_16 (by omega)
            refine lv_iload_n hx hb dX10_load_56 rfl (lv_at hl 4 rfl) ?_
            refine lv_icmp_ne (tgt := 85) hx hb dX10_load_57 (by decide) (fun c_17 => ?_) (fun c_17 => ?_)
            · have e_17 : x_16.toInt ≠ p1.toInt := i3_ne c_17
              obtain ⟨x_18, ex_18⟩ : ∃ y : Int32, y = y_8 + 1 := ⟨_, rfl⟩
              have tx_18 : x_18.toInt = y_8.toInt + 1 := i3_addc rfl rfl ex_18 (by omega)
              refine lv_iinc (v := x_18) (lv' := [(4, .int x_18), (3, .int y_4), (2, .int y_9), (0, .ref o_m), (1, .int p1)]) hx hb dX10_load_85 hl (k := 0) rfl (by rw [ex_18]; rfl) (by decide) rfl (fun ls hl => ?_)
              refine lv_goto (tgt := 34) hx hb dX10_load_88 (by decide) ?_
              apply ih_d_10 (y_8 := x_18) (y_9 := y_9) (H := H) (locs := locs) (ls := ls) <;> first | assumption | omega | decide
            · have e_17 : x_16.toInt = p1.toInt := i3_eq c_17
              refine lv_iload_n hx hb dX10_load_60 rfl (lv_at hl 2 rfl) ?_
              refine lv_iconst (v := 1) hx hb dX10_load_61 (by decide) ?_
              refine lv_aload_n hx hb dX10_load_62 rfl (lv_at hl 3 rfl) ?_
              refine va_get (D := E.1) (ci := 10) (v := .ref a_m_kind) (own := RX10) (C := RX10) (T := TX10) (N := 69) hx hb hts i_m_load_X10 hown hK hP 0 rfl rfl 2 (by decide) (hto (.fieldLink RX10 18 "TimingHouseModel" "kind" "[I") (by decide +kernel)) (fun _ h9 => h9) rfl dX10_load_63 ?_
              refine lv_iload_n hx hb dX10_load_66 rfl (lv_at hl 1 rfl) ?_
              refine ld_i hx hb hK hP 1 rfl (by omega) dX10_load_67 (fun x_19 ex_19 => ?_)
              have b_x_19 := AR.rd i_g_m_kind ex_19 (by omega)
              refine lv_iconst (v := 5) hx hb dX10_load_68 (by decide) ?_
              refine lv_icmp_ne (tgt := 76) hx hb dX10_load_69 (by decide) (fun c_20 => ?_) (fun c_20 => ?_)
              · have e_20 : x_19.toInt ≠ 5 := i3_ne c_20
                refine lv_aload_n hx hb dX10_load_76 rfl (lv_at hl 3 rfl) ?_
                refine va_get (D := E.1) (ci := 10) (v := .ref a_m_size) (own := RX10) (C := RX10) (T := TX10) (N := 69) hx hb hts i_m_load_X10 hown hK hP 0 rfl rfl 5 (by decide) (hto (.fieldLink RX10 24 "TimingHouseModel" "size" "[I") (by decide +kernel)) (fun _ h9 => h9) rfl dX10_load_77 ?_
                refine lv_iload_n hx hb dX10_load_80 rfl (lv_at hl 1 rfl) ?_
                refine ld_i hx hb hK hP 5 rfl (by omega) dX10_load_81 (fun x_21 ex_21 => ?_)
                have b_x_21 := AR.rd i_g_m_size ex_21 (by omega)
                refine lv_iadd hx hb dX10_load_82 ?_
                refine lv_topi (fun x_22 ex_22 => ?_)
                have tx_22 : x_22.toInt = 1 + x_21.toInt := i3_addc rfl rfl ex_22 (by omega)
                refine lv_iadd hx hb dX10_load_83 ?_
                refine lv_topi (fun x_23 ex_23 => ?_)
                have bd_24 := i3_bd y_9
                refine lv_istore_n (lv' := [(2, .int x_23), (4, .int y_8), (3, .int y_4), (0, .ref o_m), (1, .int p1)]) hx hb dX10_load_84 rfl hl (by decide) rfl (fun ls hl => ?_)
                obtain ⟨x_25, ex_25⟩ : ∃ y : Int32, y = y_8 + 1 := ⟨_, rfl⟩
                have tx_25 : x_25.toInt = y_8.toInt + 1 := i3_addc rfl rfl ex_25 (by omega)
                refine lv_iinc (v := x_25) (lv' := [(4, .int x_25), (2, .int x_23), (3, .int y_4), (0, .ref o_m), (1, .int p1)]) hx hb dX10_load_85 hl (k := 1) rfl (by rw [ex_25]; rfl) (by decide) rfl (fun ls hl => ?_)
                refine lv_goto (tgt := 34) hx hb dX10_load_88 (by decide) ?_
                replace hl : lv_has ls 5 [(4, .int x_25), (3, .int y_4), (2, .int x_23), (0, .ref o_m), (1, .int p1)] := lv_sub hl [0, 2, 1, 3, 4] rfl
                have bd_26 := i3_bd x_23
                apply ih_d_10 (y_8 := x_25) (y_9 := x_23) (H := H) (locs := locs) (ls := ls) <;> first | assumption | omega | decide
              · have e_20 : x_19.toInt = 5 := i3_eq c_20
                refine lv_iconst (v := 0) hx hb dX10_load_72 (by decide) ?_
                refine lv_goto (tgt := 82) hx hb dX10_load_73 (by decide) ?_
                refine lv_iadd hx hb dX10_load_82 ?_
                refine lv_cst (y := 1) (by decide) ?_
                refine lv_iadd hx hb dX10_load_83 ?_
                refine lv_topi (fun x_27 ex_27 => ?_)
                have bd_28 := i3_bd y_9
                refine lv_istore_n (lv' := [(2, .int x_27), (4, .int y_8), (3, .int y_4), (0, .ref o_m), (1, .int p1)]) hx hb dX10_load_84 rfl hl (by decide) rfl (fun ls hl => ?_)
                obtain ⟨x_29, ex_29⟩ : ∃ y : Int32, y = y_8 + 1 := ⟨_, rfl⟩
                have tx_29 : x_29.toInt = y_8.toInt + 1 := i3_addc rfl rfl ex_29 (by omega)
                refine lv_iinc (v := x_29) (lv' := [(4, .int x_29), (2, .int x_27), (3, .int y_4), (0, .ref o_m), (1, .int p1)]) hx hb dX10_load_85 hl (k := 1) rfl (by rw [ex_29]; rfl) (by decide) rfl (fun ls hl => ?_)
                refine lv_goto (tgt := 34) hx hb dX10_load_88 (by decide) ?_
                replace hl : lv_has ls 5 [(4, .int x_29), (3, .int y_4), (2, .int x_27), (0, .ref o_m), (1, .int p1)] := lv_sub hl [0, 2, 1, 3, 4] rfl
                have bd_30 := i3_bd x_27
                apply ih_d_10 (y_8 := x_29) (y_9 := x_27) (H := H) (locs := locs) (ls := ls) <;> first | assumption | omega | decide
  · have e_2 : x_1.toInt = 5 := i3_eq c_2
    refine lv_iconst (v := 0) hx hb dX10_load_10 (by decide) ?_
    refine lv_goto (tgt := 20) hx hb dX10_load_11 (by decide) ?_
    refine lv_istore_n (lv' := [(2, .int 0), (0, .ref o_m), (1, .int p1)]) hx hb dX10_load_20 rfl hl (by decide) rfl (fun ls hl => ?_)
    refine lv_iconst (v := 0) hx hb dX10_load_21 (by decide) ?_
    refine lv_istore_n (lv' := [(3, .int 0), (2, .int 0), (0, .ref o_m), (1, .int p1)]) hx hb dX10_load_22 rfl hl (by decide) rfl (fun ls hl => ?_)
    obtain ⟨y_31, hy_31⟩ : ∃ y : Int32, y = 0 := ⟨_, rfl⟩
    have b_y_31 : 0 ≤ y_31.toInt ∧ y_31.toInt ≤ 50 := by rw [hy_31]; decide
    obtain ⟨y_32, hy_32⟩ : ∃ y : Int32, y = 0 := ⟨_, rfl⟩
    have b_y_32 := i3_bd y_32
    replace hl : lv_has ls 5 [(3, .int y_31), (2, .int y_32), (0, .ref o_m), (1, .int p1)] := by rw [hy_31, hy_32]; exact hl
    clear hy_31 hy_32
    obtain ⟨d_33, hd_33⟩ : ∃ d : Nat, 50 - y_31.toInt < (d : Int) := ⟨(50 - y_31.toInt + 1).toNat, by omega⟩
    induction d_33 generalizing y_31 y_32 H locs ls with
    | zero => exfalso; omega
    | succ d_33 ih_d_33 =>
      refine lv_iload_n hx hb dX10_load_23 rfl (lv_at hl 0 rfl) ?_
      refine lv_aload_n hx hb dX10_load_24 rfl (lv_at hl 2 rfl) ?_
      refine va_get (D := E.1) (ci := 10) (v := .int f_m_cells) (own := RX10) (C := RX10) (T := TX10) (N := 69) hx hb hts i_m_load_X10 hown hK hP 0 rfl rfl 1 (by decide) (hto (.fieldLink RX10 7 "TimingHouseModel" "cells" "I") (by decide +kernel)) (fun _ h9 => h9) rfl dX10_load_25 ?_
      have b_f_m_cells := r_f_m_cells.out
      refine lv_icmp_ge (tgt := 97) hx hb dX10_load_28 (by decide) (fun c_34 => ?_) (fun c_34 => ?_)
      · have e_34 : f_m_cells.toInt ≤ y_31.toInt := i3_le c_34
        refine lv_iload_n hx hb dX10_load_97 rfl (lv_at hl 1 rfl) ?_
        exact ret_i hx hb hr hlk (hP.sub (ws' := [(o_m, .inr (10, [.int f_m_code, .int f_m_cells, .ref a_m_kind, .ref a_m_inputs, .ref a_m_tableOf, .ref a_m_size, .ref a_m_extra, .ref a_m_taken, .ref a_m_portEarly, .ref a_m_portLate, .ref a_m_portSlope, .ref a_m_nodeOf, .ref a_m_setup, .ref a_m_hold, .ref a_m_seen, .ref a_m_numbers, .ref a_m_rowSize, .ref a_m_fall, .int f_m_late, .int f_m_early, .int f_m_period, .int f_m_nodes, .ref a_m_parent, .ref a_m_nodeEarly, .ref a_m_nodeLate, .int f_m_exceptions, .ref a_m_periods, .ref a_m_from, .ref a_m_through, .ref a_m_toward, .int f_m_fails, .ref a_m_order, .int f_m_ordered, .ref a_m_done, .ref a_m_reached, .ref a_m_open, .ref a_m_lateDelay, .ref a_m_earlyDelay, .ref a_m_lateSlope, .ref a_m_earlySlope, .ref a_m_greatest, .ref a_m_least, .ref a_m_howMany, .ref a_m_most, .ref a_m_fewest, .ref a_m_pathsTo, .ref a_m_slackOf, .ref a_m_holdOf, .int f_m_listed, .ref a_m_listSlack, .ref a_m_listStart, .ref a_m_listEdge, .ref a_m_listSize, .ref a_m_listCell, .ref a_m_listInput, .ref a_m_rank, .ref a_m_good, .ref a_m_goCell, .ref a_m_goInput, .ref a_m_goEdge, .ref a_m_goMask, .int f_m_target, .int f_m_shown, .ref a_m_shownCell, .ref a_m_shownInput, .ref a_m_shownEdge, .ref a_m_shownLate, .int f_m_shownSlack, .int f_m_shownHold])), (a_m_kind, aI E 50 g_m_kind), (a_m_extra, aI E 50 g_m_extra), (a_m_inputs, aI E 50 g_m_inputs), (a_m_taken, aI E 200 g_m_taken), (a_m_size, aI E 50 g_m_size)]) [0, 1, 2, 3, 4, 5] rfl) (hD.sub (ws' := [(o_m, .inr (10, [.int f_m_code, .int f_m_cells, .ref a_m_kind, .ref a_m_inputs, .ref a_m_tableOf, .ref a_m_size, .ref a_m_extra, .ref a_m_taken, .ref a_m_portEarly, .ref a_m_portLate, .ref a_m_portSlope, .ref a_m_nodeOf, .ref a_m_setup, .ref a_m_hold, .ref a_m_seen, .ref a_m_numbers, .ref a_m_rowSize, .ref a_m_fall, .int f_m_late, .int f_m_early, .int f_m_period, .int f_m_nodes, .ref a_m_parent, .ref a_m_nodeEarly, .ref a_m_nodeLate, .int f_m_exceptions, .ref a_m_periods, .ref a_m_from, .ref a_m_through, .ref a_m_toward, .int f_m_fails, .ref a_m_order, .int f_m_ordered, .ref a_m_done, .ref a_m_reached, .ref a_m_open, .ref a_m_lateDelay, .ref a_m_earlyDelay, .ref a_m_lateSlope, .ref a_m_earlySlope, .ref a_m_greatest, .ref a_m_least, .ref a_m_howMany, .ref a_m_most, .ref a_m_fewest, .ref a_m_pathsTo, .ref a_m_slackOf, .ref a_m_holdOf, .int f_m_listed, .ref a_m_listSlack, .ref a_m_listStart, .ref a_m_listEdge, .ref a_m_listSize, .ref a_m_listCell, .ref a_m_listInput, .ref a_m_rank, .ref a_m_good, .ref a_m_goCell, .ref a_m_goInput, .ref a_m_goEdge, .ref a_m_goMask, .int f_m_target, .int f_m_shown, .ref a_m_shownCell, .ref a_m_shownInput, .ref a_m_shownEdge, .ref a_m_shownLate, .int f_m_shownSlack, .int f_m_shownHold])), (a_m_kind, aI E 50 g_m_kind), (a_m_extra, aI E 50 g_m_extra), (a_m_inputs, aI E 50 g_m_inputs), (a_m_taken, aI E 200 g_m_taken), (a_m_size, aI E 50 g_m_size)]) [0, 1, 2, 3, 4, 5] (by decide) rfl) hS rfl dX10_load_98 (Nat.le_of_ble_eq_true rfl) (Nat.le_of_ble_eq_true rfl) ⟨trivial, rfl⟩
      · have e_34 : y_31.toInt < f_m_cells.toInt := i3_nle c_34
        refine lv_iconst (v := 0) hx hb dX10_load_31 (by decide) ?_
        refine lv_istore (lv' := [(4, .int 0), (3, .int y_31), (2, .int y_32), (0, .ref o_m), (1, .int p1)]) hx hb dX10_load_32 hl (by decide) rfl (fun ls hl => ?_)
        obtain ⟨y_35, hy_35⟩ : ∃ y : Int32, y = 0 := ⟨_, rfl⟩
        have b_y_35 : 0 ≤ y_35.toInt ∧ y_35.toInt ≤ 4 := by rw [hy_35]; decide
        obtain ⟨y_36, hy_36⟩ : ∃ y : Int32, y = y_32 := ⟨_, rfl⟩
        have b_y_36 := i3_bd y_36
        replace hl : lv_has ls 5 [(4, .int y_35), (3, .int y_31), (2, .int y_36), (0, .ref o_m), (1, .int p1)] := by rw [hy_35, hy_36]; exact hl
        clear hy_35 hy_36
        obtain ⟨d_37, hd_37⟩ : ∃ d : Nat, 4 - y_35.toInt < (d : Int) := ⟨(4 - y_35.toInt + 1).toNat, by omega⟩
        induction d_37 generalizing y_35 y_36 H locs ls with
        | zero => exfalso; omega
        | succ d_37 ih_d_37 =>
          refine lv_iload hx hb dX10_load_34 (lv_at hl 0 rfl) ?_
          refine lv_aload_n hx hb dX10_load_36 rfl (lv_at hl 3 rfl) ?_
          refine va_get (D := E.1) (ci := 10) (v := .ref a_m_inputs) (own := RX10) (C := RX10) (T := TX10) (N := 69) hx hb hts i_m_load_X10 hown hK hP 0 rfl rfl 3 (by decide) (hto (.fieldLink RX10 14 "TimingHouseModel" "inputs" "[I") (by decide +kernel)) (fun _ h9 => h9) rfl dX10_load_37 ?_
          refine lv_iload_n hx hb dX10_load_40 rfl (lv_at hl 1 rfl) ?_
          refine ld_i hx hb hK hP 3 rfl (by omega) dX10_load_41 (fun x_38 ex_38 => ?_)
          have b_x_38 := AR.rd i_g_m_inputs ex_38 (by omega)
          refine lv_icmp_ge (tgt := 91) hx hb dX10_load_42 (by decide) (fun c_39 => ?_) (fun c_39 => ?_)
          · have e_39 : x_38.toInt ≤ y_35.toInt := i3_le c_39
            obtain ⟨x_40, ex_40⟩ : ∃ y : Int32, y = y_31 + 1 := ⟨_, rfl⟩
            have tx_40 : x_40.toInt = y_31.toInt + 1 := i3_addc rfl rfl ex_40 (by omega)
            refine lv_iinc (v := x_40) (lv' := [(3, .int x_40), (4, .int y_35), (2, .int y_36), (0, .ref o_m), (1, .int p1)]) hx hb dX10_load_91 hl (k := 1) rfl (by rw [ex_40]; rfl) (by decide) rfl (fun ls hl => ?_)
            refine lv_goto (tgt := 23) hx hb dX10_load_94 (by decide) ?_
            replace hl : lv_has ls 5 [(3, .int x_40), (2, .int y_36), (0, .ref o_m), (1, .int p1)] := lv_sub hl [0, 2, 3, 4] rfl
            apply ih_d_33 (y_31 := x_40) (y_32 := y_36) (H := H) (locs := locs) (ls := ls) <;> first | assumption | omega | decide
          · have e_39 : y_35.toInt < x_38.toInt := i3_nle c_39
            refine lv_aload_n hx hb dX10_load_45 rfl (lv_at hl 3 rfl) ?_
            refine va_get (D := E.1) (ci := 10) (v := .ref a_m_taken) (own := RX10) (C := RX10) (T := TX10) (N := 69) hx hb hts i_m_load_X10 hown hK hP 0 rfl rfl 7 (by decide) (hto (.fieldLink RX10 30 "TimingHouseModel" "taken" "[I") (by decide +kernel)) (fun _ h9 => h9) rfl dX10_load_46 ?_
            refine lv_iconst (v := 4) hx hb dX10_load_49 (by decide) ?_
            refine lv_iload_n hx hb dX10_load_50 rfl (lv_at hl 1 rfl) ?_
            refine lv_imul hx hb dX10_load_51 ?_
            refine lv_topi (fun x_41 ex_41 => ?_)
            have tx_41 : x_41.toInt = 4 * y_31.toInt := i3_mulc rfl rfl ex_41 (by omega)
            refine lv_iload hx hb dX10_load_52 (lv_at hl 0 rfl) ?_
            refine lv_iadd hx hb dX10_load_54 ?_
            refine lv_topi (fun x_42 ex_42 => ?_)
            have tx_42 : x_42.toInt = x_41.toInt + y_35.toInt := i3_addc rfl rfl ex_42 (by omega)
            refine ld_i hx hb hK hP 4 rfl (by omega) dX10_load_55 (fun x_43 ex_43 => ?_)
            have q_x_43 : x_43.toInt = (g_m_taken x_42.toNatClampNeg).toInt := i3_eq ex_43
            have b_x_43 := AR.rd i_g_m_taken ex_43 (by omega)
            refine lv_iload_n hx hb dX10_load_56 rfl (lv_at hl 4 rfl) ?_
            refine lv_icmp_ne (tgt := 85) hx hb dX10_load_57 (by decide) (fun c_44 => ?_) (fun c_44 => ?_)
            · have e_44 : x_43.toInt ≠ p1.toInt := i3_ne c_44
              obtain ⟨x_45, ex_45⟩ : ∃ y : Int32, y = y_35 + 1 := ⟨_, rfl⟩
              have tx_45 : x_45.toInt = y_35.toInt + 1 := i3_addc rfl rfl ex_45 (by omega)
              refine lv_iinc (v := x_45) (lv' := [(4, .int x_45), (3, .int y_31), (2, .int y_36), (0, .ref o_m), (1, .int p1)]) hx hb dX10_load_85 hl (k := 0) rfl (by rw [ex_45]; rfl) (by decide) rfl (fun ls hl => ?_)
              refine lv_goto (tgt := 34) hx hb dX10_load_88 (by decide) ?_
              apply ih_d_37 (y_35 := x_45) (y_36 := y_36) (H := H) (locs := locs) (ls := ls) <;> first | assumption | omega | decide
            · have e_44 : x_43.toInt = p1.toInt := i3_eq c_44
              refine lv_iload_n hx hb dX10_load_60 rfl (lv_at hl 2 rfl) ?_
              refine lv_iconst (v := 1) hx hb dX10_load_61 (by decide) ?_
              refine lv_aload_n hx hb dX10_load_62 rfl (lv_at hl 3 rfl) ?_
              refine va_get (D := E.1) (ci := 10) (v := .ref a_m_kind) (own := RX10) (C := RX10) (T := TX10) (N := 69) hx hb hts i_m_load_X10 hown hK hP 0 rfl rfl 2 (by decide) (hto (.fieldLink RX10 18 "TimingHouseModel" "kind" "[I") (by decide +kernel)) (fun _ h9 => h9) rfl dX10_load_63 ?_
              refine lv_iload_n hx hb dX10_load_66 rfl (lv_at hl 1 rfl) ?_
              refine ld_i hx hb hK hP 1 rfl (by omega) dX10_load_67 (fun x_46 ex_46 => ?_)
              have b_x_46 := AR.rd i_g_m_kind ex_46 (by omega)
              refine lv_iconst (v := 5) hx hb dX10_load_68 (by decide) ?_
              refine lv_icmp_ne (tgt := 76) hx hb dX10_load_69 (by decide) (fun c_47 => ?_) (fun c_47 => ?_)
              · have e_47 : x_46.toInt ≠ 5 := i3_ne c_47
                refine lv_aload_n hx hb dX10_load_76 rfl (lv_at hl 3 rfl) ?_
                refine va_get (D := E.1) (ci := 10) (v := .ref a_m_size) (own := RX10) (C := RX10) (T := TX10) (N := 69) hx hb hts i_m_load_X10 hown hK hP 0 rfl rfl 5 (by decide) (hto (.fieldLink RX10 24 "TimingHouseModel" "size" "[I") (by decide +kernel)) (fun _ h9 => h9) rfl dX10_load_77 ?_
                refine lv_iload_n hx hb dX10_load_80 rfl (lv_at hl 1 rfl) ?_
                refine ld_i hx hb hK hP 5 rfl (by omega) dX10_load_81 (fun x_48 ex_48 => ?_)
                have b_x_48 := AR.rd i_g_m_size ex_48 (by omega)
                refine lv_iadd hx hb dX10_load_82 ?_
                refine lv_topi (fun x_49 ex_49 => ?_)
                have tx_49 : x_49.toInt = 1 + x_48.toInt := i3_addc rfl rfl ex_49 (by omega)
                refine lv_iadd hx hb dX10_load_83 ?_
                refine lv_topi (fun x_50 ex_50 => ?_)
                have bd_51 := i3_bd y_36
                refine lv_istore_n (lv' := [(2, .int x_50), (4, .int y_35), (3, .int y_31), (0, .ref o_m), (1, .int p1)]) hx hb dX10_load_84 rfl hl (by decide) rfl (fun ls hl => ?_)
                obtain ⟨x_52, ex_52⟩ : ∃ y : Int32, y = y_35 + 1 := ⟨_, rfl⟩
                have tx_52 : x_52.toInt = y_35.toInt + 1 := i3_addc rfl rfl ex_52 (by omega)
                refine lv_iinc (v := x_52) (lv' := [(4, .int x_52), (2, .int x_50), (3, .int y_31), (0, .ref o_m), (1, .int p1)]) hx hb dX10_load_85 hl (k := 1) rfl (by rw [ex_52]; rfl) (by decide) rfl (fun ls hl => ?_)
                refine lv_goto (tgt := 34) hx hb dX10_load_88 (by decide) ?_
                replace hl : lv_has ls 5 [(4, .int x_52), (3, .int y_31), (2, .int x_50), (0, .ref o_m), (1, .int p1)] := lv_sub hl [0, 2, 1, 3, 4] rfl
                have bd_53 := i3_bd x_50
                apply ih_d_37 (y_35 := x_52) (y_36 := x_50) (H := H) (locs := locs) (ls := ls) <;> first | assumption | omega | decide
              · have e_47 : x_46.toInt = 5 := i3_eq c_47
                refine lv_iconst (v := 0) hx hb dX10_load_72 (by decide) ?_
                refine lv_goto (tgt := 82) hx hb dX10_load_73 (by decide) ?_
                refine lv_iadd hx hb dX10_load_82 ?_
                refine lv_cst (y := 1) (by decide) ?_
                refine lv_iadd hx hb dX10_load_83 ?_
                refine lv_topi (fun x_54 ex_54 => ?_)
                have bd_55 := i3_bd y_36
                refine lv_istore_n (lv' := [(2, .int x_54), (4, .int y_35), (3, .int y_31), (0, .ref o_m), (1, .int p1)]) hx hb dX10_load_84 rfl hl (by decide) rfl (fun ls hl => ?_)
                obtain ⟨x_56, ex_56⟩ : ∃ y : Int32, y = y_35 + 1 := ⟨_, rfl⟩
                have tx_56 : x_56.toInt = y_35.toInt + 1 := i3_addc rfl rfl ex_56 (by omega)
                refine lv_iinc (v := x_56) (lv' := [(4, .int x_56), (2, .int x_54), (3, .int y_31), (0, .ref o_m), (1, .int p1)]) hx hb dX10_load_85 hl (k := 1) rfl (by rw [ex_56]; rfl) (by decide) rfl (fun ls hl => ?_)
                refine lv_goto (tgt := 34) hx hb dX10_load_88 (by decide) ?_
                replace hl : lv_has ls 5 [(4, .int x_56), (3, .int y_31), (2, .int x_54), (0, .ref o_m), (1, .int p1)] := lv_sub hl [0, 2, 1, 3, 4] rfl
                have bd_57 := i3_bd x_54
                apply ih_d_37 (y_35 := x_56) (y_36 := x_54) (H := H) (locs := locs) (ls := ls) <;> first | assumption | omega | decide
theorem dX10_isOpenTarget_0 : decode cX10_isOpenTarget 0 = .ok (.aload_n 0, 1) := by decide +kernel
theorem dX10_isOpenTarget_1 : decode cX10_isOpenTarget 1 = .ok (.getfield 30, 3) := by decide +kernel
theorem dX10_isOpenTarget_4 : decode cX10_isOpenTarget 4 = .ok (.iconst 4, 1) := by decide +kernel
theorem dX10_isOpenTarget_5 : decode cX10_isOpenTarget 5 = .ok (.iload_n 1, 1) := by decide +kernel
theorem dX10_isOpenTarget_6 : decode cX10_isOpenTarget 6 = .ok (.imul, 1) := by decide +kernel
theorem dX10_isOpenTarget_7 : decode cX10_isOpenTarget 7 = .ok (.iaload, 1) := by decide +kernel
theorem dX10_isOpenTarget_8 : decode cX10_isOpenTarget 8 = .ok (.ifCond .lt 23, 3) := by decide +kernel
theorem dX10_isOpenTarget_31 : decode cX10_isOpenTarget 31 = .ok (.iconst 0, 1) := by decide +kernel
theorem dX10_isOpenTarget_32 : decode cX10_isOpenTarget 32 = .ok (.ireturn, 1) := by decide +kernel
theorem dX10_isOpenTarget_11 : decode cX10_isOpenTarget 11 = .ok (.aload_n 0, 1) := by decide +kernel
theorem dX10_isOpenTarget_12 : decode cX10_isOpenTarget 12 = .ok (.getfield 120, 3) := by decide +kernel
theorem dX10_isOpenTarget_15 : decode cX10_isOpenTarget 15 = .ok (.aload_n 0, 1) := by decide +kernel
theorem dX10_isOpenTarget_16 : decode cX10_isOpenTarget 16 = .ok (.getfield 30, 3) := by decide +kernel
theorem dX10_isOpenTarget_19 : decode cX10_isOpenTarget 19 = .ok (.iconst 4, 1) := by decide +kernel
theorem dX10_isOpenTarget_20 : decode cX10_isOpenTarget 20 = .ok (.iload_n 1, 1) := by decide +kernel
theorem dX10_isOpenTarget_21 : decode cX10_isOpenTarget 21 = .ok (.imul, 1) := by decide +kernel
theorem dX10_isOpenTarget_22 : decode cX10_isOpenTarget 22 = .ok (.iaload, 1) := by decide +kernel
theorem dX10_isOpenTarget_23 : decode cX10_isOpenTarget 23 = .ok (.iaload, 1) := by decide +kernel
theorem dX10_isOpenTarget_24 : decode cX10_isOpenTarget 24 = .ok (.ifCond .eq 7, 3) := by decide +kernel
theorem dX10_isOpenTarget_27 : decode cX10_isOpenTarget 27 = .ok (.iconst 1, 1) := by decide +kernel
theorem dX10_isOpenTarget_28 : decode cX10_isOpenTarget 28 = .ok (.goto 4, 3) := by decide +kernel
def wo_m_isOpenTarget : List Cond := [.code yX10_isOpenTarget cX10_isOpenTarget 2 (some .boolean), .fieldLink RX10 30 "TimingHouseModel" "taken" "[I", .fieldLink RX10 120 "TimingHouseModel" "open" "[I"]
def wr_m_isOpenTarget : List Cond := (wsX100 ++ ([]))
def w_m_isOpenTarget : List Cond := wo_m_isOpenTarget ++ wr_m_isOpenTarget
theorem wg_m_isOpenTarget : GW w_m_isOpenTarget := GW_app (GW_of (by decide +kernel)) (GW_app (GW_of (by decide +kernel)) (GW_nil))
theorem i_m_isOpenTarget_X10 : ∀ w ∈ wsX100, w ∈ w_m_isOpenTarget := fun _ h => List.mem_append_right _ (List.mem_append_left _ h)
set_option maxHeartbeats 8000000 in
set_option maxRecDepth 100000 in
theorem m_isOpenTarget (l : Launch) (E : gE) (o_m a_m_kind a_m_inputs a_m_tableOf a_m_size a_m_extra a_m_taken a_m_portEarly a_m_portLate a_m_portSlope a_m_nodeOf a_m_setup a_m_hold a_m_seen a_m_numbers a_m_rowSize a_m_fall a_m_parent a_m_nodeEarly a_m_nodeLate a_m_periods a_m_from a_m_through a_m_toward a_m_order a_m_done a_m_reached a_m_open a_m_lateDelay a_m_earlyDelay a_m_lateSlope a_m_earlySlope a_m_greatest a_m_least a_m_howMany a_m_most a_m_fewest a_m_pathsTo a_m_slackOf a_m_holdOf a_m_listSlack a_m_listStart a_m_listEdge a_m_listSize a_m_listCell a_m_listInput a_m_rank a_m_good a_m_goCell a_m_goInput a_m_goEdge a_m_goMask a_m_shownCell a_m_shownInput a_m_shownEdge a_m_shownLate : Nat) (f_m_code f_m_cells f_m_late f_m_early f_m_period f_m_nodes f_m_exceptions f_m_fails f_m_ordered f_m_listed f_m_target f_m_shown f_m_shownSlack f_m_shownHold p1 : Int32) (g_m_taken : Nat → Int32) (g_m_open : Nat → Int32) (r_f_m_cells : RG f_m_cells 0 50) (r_f_m_late : RG f_m_late 0 500) (r_f_m_early : RG f_m_early 0 500) (r_f_m_period : RG f_m_period 1 1000000) (r_f_m_nodes : RG f_m_nodes 0 20) (r_f_m_exceptions : RG f_m_exceptions 0 4) (r_f_m_ordered : RG f_m_ordered 0 50) (r_f_m_listed : RG f_m_listed 0 1000) (r_f_m_target : RG f_m_target 0 49) (r_f_m_shown : RG f_m_shown 0 52) (i_g_m_taken : AR g_m_taken 200 (-1) 49) (r_p1 : RG p1 0 49) : CtI l E yX10_isOpenTarget w_m_isOpenTarget ({ frames := 0, cells := 0, slots := 0, locals := 0 }) [(o_m, .inr (10, [.int f_m_code, .int f_m_cells, .ref a_m_kind, .ref a_m_inputs, .ref a_m_tableOf, .ref a_m_size, .ref a_m_extra, .ref a_m_taken, .ref a_m_portEarly, .ref a_m_portLate, .ref a_m_portSlope, .ref a_m_nodeOf, .ref a_m_setup, .ref a_m_hold, .ref a_m_seen, .ref a_m_numbers, .ref a_m_rowSize, .ref a_m_fall, .int f_m_late, .int f_m_early, .int f_m_period, .int f_m_nodes, .ref a_m_parent, .ref a_m_nodeEarly, .ref a_m_nodeLate, .int f_m_exceptions, .ref a_m_periods, .ref a_m_from, .ref a_m_through, .ref a_m_toward, .int f_m_fails, .ref a_m_order, .int f_m_ordered, .ref a_m_done, .ref a_m_reached, .ref a_m_open, .ref a_m_lateDelay, .ref a_m_earlyDelay, .ref a_m_lateSlope, .ref a_m_earlySlope, .ref a_m_greatest, .ref a_m_least, .ref a_m_howMany, .ref a_m_most, .ref a_m_fewest, .ref a_m_pathsTo, .ref a_m_slackOf, .ref a_m_holdOf, .int f_m_listed, .ref a_m_listSlack, .ref a_m_listStart, .ref a_m_listEdge, .ref a_m_listSize, .ref a_m_listCell, .ref a_m_listInput, .ref a_m_rank, .ref a_m_good, .ref a_m_goCell, .ref a_m_goInput, .ref a_m_goEdge, .ref a_m_goMask, .int f_m_target, .int f_m_shown, .ref a_m_shownCell, .ref a_m_shownInput, .ref a_m_shownEdge, .ref a_m_shownLate, .int f_m_shownSlack, .int f_m_shownHold])), (a_m_taken, aI E 200 g_m_taken), (a_m_open, aI E 50 g_m_open)] [.ref o_m, .int p1] (fun r w => (0 ≤ r.toInt ∧ r.toInt ≤ 1) ∧ w = [(o_m, .inr (10, [.int f_m_code, .int f_m_cells, .ref a_m_kind, .ref a_m_inputs, .ref a_m_tableOf, .ref a_m_size, .ref a_m_extra, .ref a_m_taken, .ref a_m_portEarly, .ref a_m_portLate, .ref a_m_portSlope, .ref a_m_nodeOf, .ref a_m_setup, .ref a_m_hold, .ref a_m_seen, .ref a_m_numbers, .ref a_m_rowSize, .ref a_m_fall, .int f_m_late, .int f_m_early, .int f_m_period, .int f_m_nodes, .ref a_m_parent, .ref a_m_nodeEarly, .ref a_m_nodeLate, .int f_m_exceptions, .ref a_m_periods, .ref a_m_from, .ref a_m_through, .ref a_m_toward, .int f_m_fails, .ref a_m_order, .int f_m_ordered, .ref a_m_done, .ref a_m_reached, .ref a_m_open, .ref a_m_lateDelay, .ref a_m_earlyDelay, .ref a_m_lateSlope, .ref a_m_earlySlope, .ref a_m_greatest, .ref a_m_least, .ref a_m_howMany, .ref a_m_most, .ref a_m_fewest, .ref a_m_pathsTo, .ref a_m_slackOf, .ref a_m_holdOf, .int f_m_listed, .ref a_m_listSlack, .ref a_m_listStart, .ref a_m_listEdge, .ref a_m_listSize, .ref a_m_listCell, .ref a_m_listInput, .ref a_m_rank, .ref a_m_good, .ref a_m_goCell, .ref a_m_goInput, .ref a_m_goEdge, .ref a_m_goMask, .int f_m_target, .int f_m_shown, .ref a_m_shownCell, .ref a_m_shownInput, .ref a_m_shownEdge, .ref a_m_shownLate, .int f_m_shownSlack, .int f_m_shownHold])), (a_m_taken, aI E 200 g_m_taken), (a_m_open, aI E 50 g_m_open)]) := by
  refine CtI.of (cc := cX10_isOpenTarget) (maxL := 2) (rt := (some .boolean)) (by decide) rfl (Nat.le_of_ble_eq_true rfl) ?_
  intro p e s m below meth c A B ls hl
  obtain ⟨hx, hb, hml, hr, hlk, hin, hts, hown, hK, hN, hZ, hA, hP, hD, hS⟩ := B
  replace hown : s.vm.findClass RX10 = some m.cls := hown
  have hto : ∀ w ∈ wo_m_isOpenTarget, w.before _ s = true := fun w h => hts w (List.mem_append_left _ h)
  replace hl : lv_has ls 2 [(0, .ref o_m), (1, .int p1)] := hl
  obtain ⟨H, hHe⟩ : ∃ H, H = s.heap := ⟨_, rfl⟩
  obtain ⟨locs, hle⟩ : ∃ l : List Loc, l = [] := ⟨_, rfl⟩
  replace hS : va_S A s.heap H locs := by rw [hHe, hle]; exact hS
  replace hP : va_P E.1 vwCl [(o_m, .inr (10, [.int f_m_code, .int f_m_cells, .ref a_m_kind, .ref a_m_inputs, .ref a_m_tableOf, .ref a_m_size, .ref a_m_extra, .ref a_m_taken, .ref a_m_portEarly, .ref a_m_portLate, .ref a_m_portSlope, .ref a_m_nodeOf, .ref a_m_setup, .ref a_m_hold, .ref a_m_seen, .ref a_m_numbers, .ref a_m_rowSize, .ref a_m_fall, .int f_m_late, .int f_m_early, .int f_m_period, .int f_m_nodes, .ref a_m_parent, .ref a_m_nodeEarly, .ref a_m_nodeLate, .int f_m_exceptions, .ref a_m_periods, .ref a_m_from, .ref a_m_through, .ref a_m_toward, .int f_m_fails, .ref a_m_order, .int f_m_ordered, .ref a_m_done, .ref a_m_reached, .ref a_m_open, .ref a_m_lateDelay, .ref a_m_earlyDelay, .ref a_m_lateSlope, .ref a_m_earlySlope, .ref a_m_greatest, .ref a_m_least, .ref a_m_howMany, .ref a_m_most, .ref a_m_fewest, .ref a_m_pathsTo, .ref a_m_slackOf, .ref a_m_holdOf, .int f_m_listed, .ref a_m_listSlack, .ref a_m_listStart, .ref a_m_listEdge, .ref a_m_listSize, .ref a_m_listCell, .ref a_m_listInput, .ref a_m_rank, .ref a_m_good, .ref a_m_goCell, .ref a_m_goInput, .ref a_m_goEdge, .ref a_m_goMask, .int f_m_target, .int f_m_shown, .ref a_m_shownCell, .ref a_m_shownInput, .ref a_m_shownEdge, .ref a_m_shownLate, .int f_m_shownSlack, .int f_m_shownHold])), (a_m_taken, aI E 200 g_m_taken), (a_m_open, aI E 50 g_m_open)] H := by rw [hHe]; exact hP
  refine W_hl hHe hle ?_
  clear hHe hle
  refine lv_aload_n hx hb dX10_isOpenTarget_0 rfl (lv_at hl 0 rfl) ?_
  refine va_get (D := E.1) (ci := 10) (v := .ref a_m_taken) (own := RX10) (C := RX10) (T := TX10) (N := 69) hx hb hts i_m_isOpenTarget_X10 hown hK hP 0 rfl rfl 7 (by decide) (hto (.fieldLink RX10 30 "TimingHouseModel" "taken" "[I") (by decide +kernel)) (fun _ h9 => h9) rfl dX10_isOpenTarget_1 ?_
  refine lv_iconst (v := 4) hx hb dX10_isOpenTarget_4 (by decide) ?_
  refine lv_iload_n hx hb dX10_isOpenTarget_5 rfl (lv_at hl 1 rfl) ?_
  have b_p1 := r_p1.out
  refine lv_imul hx hb dX10_isOpenTarget_6 ?_
  refine lv_topi (fun x_1 ex_1 => ?_)
  have tx_1 : x_1.toInt = 4 * p1.toInt := i3_mulc rfl rfl ex_1 (by omega)
  refine ld_i hx hb hK hP 1 rfl (by omega) dX10_isOpenTarget_7 (fun x_2 ex_2 => ?_)
  have q_x_2 : x_2.toInt = (g_m_taken x_1.toNatClampNeg).toInt := i3_eq ex_2
  have b_x_2 := AR.rd i_g_m_taken ex_2 (by omega)
  refine lv_if_lt (tgt := 31) hx hb dX10_isOpenTarget_8 (by decide) (fun c_3 => ?_) (fun c_3 => ?_)
  · have e_3 : x_2.toInt < 0 := i3_lt c_3
    refine lv_iconst (v := 0) hx hb dX10_isOpenTarget_31 (by decide) ?_
    exact ret_i hx hb hr hlk (hP.sub (ws' := [(o_m, .inr (10, [.int f_m_code, .int f_m_cells, .ref a_m_kind, .ref a_m_inputs, .ref a_m_tableOf, .ref a_m_size, .ref a_m_extra, .ref a_m_taken, .ref a_m_portEarly, .ref a_m_portLate, .ref a_m_portSlope, .ref a_m_nodeOf, .ref a_m_setup, .ref a_m_hold, .ref a_m_seen, .ref a_m_numbers, .ref a_m_rowSize, .ref a_m_fall, .int f_m_late, .int f_m_early, .int f_m_period, .int f_m_nodes, .ref a_m_parent, .ref a_m_nodeEarly, .ref a_m_nodeLate, .int f_m_exceptions, .ref a_m_periods, .ref a_m_from, .ref a_m_through, .ref a_m_toward, .int f_m_fails, .ref a_m_order, .int f_m_ordered, .ref a_m_done, .ref a_m_reached, .ref a_m_open, .ref a_m_lateDelay, .ref a_m_earlyDelay, .ref a_m_lateSlope, .ref a_m_earlySlope, .ref a_m_greatest, .ref a_m_least, .ref a_m_howMany, .ref a_m_most, .ref a_m_fewest, .ref a_m_pathsTo, .ref a_m_slackOf, .ref a_m_holdOf, .int f_m_listed, .ref a_m_listSlack, .ref a_m_listStart, .ref a_m_listEdge, .ref a_m_listSize, .ref a_m_listCell, .ref a_m_listInput, .ref a_m_rank, .ref a_m_good, .ref a_m_goCell, .ref a_m_goInput, .ref a_m_goEdge, .ref a_m_goMask, .int f_m_target, .int f_m_shown, .ref a_m_shownCell, .ref a_m_shownInput, .ref a_m_shownEdge, .ref a_m_shownLate, .int f_m_shownSlack, .int f_m_shownHold])), (a_m_taken, aI E 200 g_m_taken), (a_m_open, aI E 50 g_m_open)]) [0, 1, 2] rfl) (hD.sub (ws' := [(o_m, .inr (10, [.int f_m_code, .int f_m_cells, .ref a_m_kind, .ref a_m_inputs, .ref a_m_tableOf, .ref a_m_size, .ref a_m_extra, .ref a_m_taken, .ref a_m_portEarly, .ref a_m_portLate, .ref a_m_portSlope, .ref a_m_nodeOf, .ref a_m_setup, .ref a_m_hold, .ref a_m_seen, .ref a_m_numbers, .ref a_m_rowSize, .ref a_m_fall, .int f_m_late, .int f_m_early, .int f_m_period, .int f_m_nodes, .ref a_m_parent, .ref a_m_nodeEarly, .ref a_m_nodeLate, .int f_m_exceptions, .ref a_m_periods, .ref a_m_from, .ref a_m_through, .ref a_m_toward, .int f_m_fails, .ref a_m_order, .int f_m_ordered, .ref a_m_done, .ref a_m_reached, .ref a_m_open, .ref a_m_lateDelay, .ref a_m_earlyDelay, .ref a_m_lateSlope, .ref a_m_earlySlope, .ref a_m_greatest, .ref a_m_least, .ref a_m_howMany, .ref a_m_most, .ref a_m_fewest, .ref a_m_pathsTo, .ref a_m_slackOf, .ref a_m_holdOf, .int f_m_listed, .ref a_m_listSlack, .ref a_m_listStart, .ref a_m_listEdge, .ref a_m_listSize, .ref a_m_listCell, .ref a_m_listInput, .ref a_m_rank, .ref a_m_good, .ref a_m_goCell, .ref a_m_goInput, .ref a_m_goEdge, .ref a_m_goMask, .int f_m_target, .int f_m_shown, .ref a_m_shownCell, .ref a_m_shownInput, .ref a_m_shownEdge, .ref a_m_shownLate, .int f_m_shownSlack, .int f_m_shownHold])), (a_m_taken, aI E 200 g_m_taken), (a_m_open, aI E 50 g_m_open)]) [0, 1, 2] (by decide) rfl) hS rfl dX10_isOpenTarget_32 (Nat.le_of_ble_eq_true rfl) (Nat.le_of_ble_eq_true rfl) ⟨(by decide), rfl⟩
  · have e_3 : 0 ≤ x_2.toInt := i3_nlt c_3
    refine lv_aload_n hx hb dX10_isOpenTarget_11 rfl (lv_at hl 0 rfl) ?_
    refine va_get (D := E.1) (ci := 10) (v := .ref a_m_open) (own := RX10) (C := RX10) (T := TX10) (N := 69) hx hb hts i_m_isOpenTarget_X10 hown hK hP 0 rfl rfl 35 (by decide) (hto (.fieldLink RX10 120 "TimingHouseModel" "open" "[I") (by decide +kernel)) (fun _ h9 => h9) rfl dX10_isOpenTarget_12 ?_
    refine lv_aload_n hx hb dX10_isOpenTarget_15 rfl (lv_at hl 0 rfl) ?_
    refine va_get (D := E.1) (ci := 10) (v := .ref a_m_taken) (own := RX10) (C := RX10) (T := TX10) (N := 69) hx hb hts i_m_isOpenTarget_X10 hown hK hP 0 rfl rfl 7 (by decide) (hto (.fieldLink RX10 30 "TimingHouseModel" "taken" "[I") (by decide +kernel)) (fun _ h9 => h9) rfl dX10_isOpenTarget_16 ?_
    refine lv_iconst (v := 4) hx hb dX10_isOpenTarget_19 (by decide) ?_
    refine lv_iload_n hx hb dX10_isOpenTarget_20 rfl (lv_at hl 1 rfl) ?_
    refine lv_imul hx hb dX10_isOpenTarget_21 ?_
    refine lv_topi (fun x_4 ex_4 => ?_)
    have hq_x_4 : x_1 = x_4 := ex_1.trans ex_4.symm
    subst hq_x_4
    refine ld_i hx hb hK hP 1 rfl (by omega) dX10_isOpenTarget_22 (fun x_5 ex_5 => ?_)
    have hq_x_5 : x_2 = x_5 := ex_2.trans ex_5.symm
    subst hq_x_5
    refine ld_i hx hb hK hP 2 rfl (by omega) dX10_isOpenTarget_23 (fun x_6 ex_6 => ?_)
    refine lv_if_eq (tgt := 31) hx hb dX10_isOpenTarget_24 (by decide) (fun c_7 => ?_) (fun c_7 => ?_)
    · have e_7 : x_6.toInt = 0 := i3_eq c_7
      refine lv_iconst (v := 0) hx hb dX10_isOpenTarget_31 (by decide) ?_
      exact ret_i hx hb hr hlk (hP.sub (ws' := [(o_m, .inr (10, [.int f_m_code, .int f_m_cells, .ref a_m_kind, .ref a_m_inputs, .ref a_m_tableOf, .ref a_m_size, .ref a_m_extra, .ref a_m_taken, .ref a_m_portEarly, .ref a_m_portLate, .ref a_m_portSlope, .ref a_m_nodeOf, .ref a_m_setup, .ref a_m_hold, .ref a_m_seen, .ref a_m_numbers, .ref a_m_rowSize, .ref a_m_fall, .int f_m_late, .int f_m_early, .int f_m_period, .int f_m_nodes, .ref a_m_parent, .ref a_m_nodeEarly, .ref a_m_nodeLate, .int f_m_exceptions, .ref a_m_periods, .ref a_m_from, .ref a_m_through, .ref a_m_toward, .int f_m_fails, .ref a_m_order, .int f_m_ordered, .ref a_m_done, .ref a_m_reached, .ref a_m_open, .ref a_m_lateDelay, .ref a_m_earlyDelay, .ref a_m_lateSlope, .ref a_m_earlySlope, .ref a_m_greatest, .ref a_m_least, .ref a_m_howMany, .ref a_m_most, .ref a_m_fewest, .ref a_m_pathsTo, .ref a_m_slackOf, .ref a_m_holdOf, .int f_m_listed, .ref a_m_listSlack, .ref a_m_listStart, .ref a_m_listEdge, .ref a_m_listSize, .ref a_m_listCell, .ref a_m_listInput, .ref a_m_rank, .ref a_m_good, .ref a_m_goCell, .ref a_m_goInput, .ref a_m_goEdge, .ref a_m_goMask, .int f_m_target, .int f_m_shown, .ref a_m_shownCell, .ref a_m_shownInput, .ref a_m_shownEdge, .ref a_m_shownLate, .int f_m_shownSlack, .int f_m_shownHold])), (a_m_taken, aI E 200 g_m_taken), (a_m_open, aI E 50 g_m_open)]) [0, 1, 2] rfl) (hD.sub (ws' := [(o_m, .inr (10, [.int f_m_code, .int f_m_cells, .ref a_m_kind, .ref a_m_inputs, .ref a_m_tableOf, .ref a_m_size, .ref a_m_extra, .ref a_m_taken, .ref a_m_portEarly, .ref a_m_portLate, .ref a_m_portSlope, .ref a_m_nodeOf, .ref a_m_setup, .ref a_m_hold, .ref a_m_seen, .ref a_m_numbers, .ref a_m_rowSize, .ref a_m_fall, .int f_m_late, .int f_m_early, .int f_m_period, .int f_m_nodes, .ref a_m_parent, .ref a_m_nodeEarly, .ref a_m_nodeLate, .int f_m_exceptions, .ref a_m_periods, .ref a_m_from, .ref a_m_through, .ref a_m_toward, .int f_m_fails, .ref a_m_order, .int f_m_ordered, .ref a_m_done, .ref a_m_reached, .ref a_m_open, .ref a_m_lateDelay, .ref a_m_earlyDelay, .ref a_m_lateSlope, .ref a_m_earlySlope, .ref a_m_greatest, .ref a_m_least, .ref a_m_howMany, .ref a_m_most, .ref a_m_fewest, .ref a_m_pathsTo, .ref a_m_slackOf, .ref a_m_holdOf, .int f_m_listed, .ref a_m_listSlack, .ref a_m_listStart, .ref a_m_listEdge, .ref a_m_listSize, .ref a_m_listCell, .ref a_m_listInput, .ref a_m_rank, .ref a_m_good, .ref a_m_goCell, .ref a_m_goInput, .ref a_m_goEdge, .ref a_m_goMask, .int f_m_target, .int f_m_shown, .ref a_m_shownCell, .ref a_m_shownInput, .ref a_m_shownEdge, .ref a_m_shownLate, .int f_m_shownSlack, .int f_m_shownHold])), (a_m_taken, aI E 200 g_m_taken), (a_m_open, aI E 50 g_m_open)]) [0, 1, 2] (by decide) rfl) hS rfl dX10_isOpenTarget_32 (Nat.le_of_ble_eq_true rfl) (Nat.le_of_ble_eq_true rfl) ⟨(by decide), rfl⟩
    · have e_7 : x_6.toInt ≠ 0 := i3_ne c_7
      refine lv_iconst (v := 1) hx hb dX10_isOpenTarget_27 (by decide) ?_
      refine lv_goto (tgt := 32) hx hb dX10_isOpenTarget_28 (by decide) ?_
      exact ret_i hx hb hr hlk (hP.sub (ws' := [(o_m, .inr (10, [.int f_m_code, .int f_m_cells, .ref a_m_kind, .ref a_m_inputs, .ref a_m_tableOf, .ref a_m_size, .ref a_m_extra, .ref a_m_taken, .ref a_m_portEarly, .ref a_m_portLate, .ref a_m_portSlope, .ref a_m_nodeOf, .ref a_m_setup, .ref a_m_hold, .ref a_m_seen, .ref a_m_numbers, .ref a_m_rowSize, .ref a_m_fall, .int f_m_late, .int f_m_early, .int f_m_period, .int f_m_nodes, .ref a_m_parent, .ref a_m_nodeEarly, .ref a_m_nodeLate, .int f_m_exceptions, .ref a_m_periods, .ref a_m_from, .ref a_m_through, .ref a_m_toward, .int f_m_fails, .ref a_m_order, .int f_m_ordered, .ref a_m_done, .ref a_m_reached, .ref a_m_open, .ref a_m_lateDelay, .ref a_m_earlyDelay, .ref a_m_lateSlope, .ref a_m_earlySlope, .ref a_m_greatest, .ref a_m_least, .ref a_m_howMany, .ref a_m_most, .ref a_m_fewest, .ref a_m_pathsTo, .ref a_m_slackOf, .ref a_m_holdOf, .int f_m_listed, .ref a_m_listSlack, .ref a_m_listStart, .ref a_m_listEdge, .ref a_m_listSize, .ref a_m_listCell, .ref a_m_listInput, .ref a_m_rank, .ref a_m_good, .ref a_m_goCell, .ref a_m_goInput, .ref a_m_goEdge, .ref a_m_goMask, .int f_m_target, .int f_m_shown, .ref a_m_shownCell, .ref a_m_shownInput, .ref a_m_shownEdge, .ref a_m_shownLate, .int f_m_shownSlack, .int f_m_shownHold])), (a_m_taken, aI E 200 g_m_taken), (a_m_open, aI E 50 g_m_open)]) [0, 1, 2] rfl) (hD.sub (ws' := [(o_m, .inr (10, [.int f_m_code, .int f_m_cells, .ref a_m_kind, .ref a_m_inputs, .ref a_m_tableOf, .ref a_m_size, .ref a_m_extra, .ref a_m_taken, .ref a_m_portEarly, .ref a_m_portLate, .ref a_m_portSlope, .ref a_m_nodeOf, .ref a_m_setup, .ref a_m_hold, .ref a_m_seen, .ref a_m_numbers, .ref a_m_rowSize, .ref a_m_fall, .int f_m_late, .int f_m_early, .int f_m_period, .int f_m_nodes, .ref a_m_parent, .ref a_m_nodeEarly, .ref a_m_nodeLate, .int f_m_exceptions, .ref a_m_periods, .ref a_m_from, .ref a_m_through, .ref a_m_toward, .int f_m_fails, .ref a_m_order, .int f_m_ordered, .ref a_m_done, .ref a_m_reached, .ref a_m_open, .ref a_m_lateDelay, .ref a_m_earlyDelay, .ref a_m_lateSlope, .ref a_m_earlySlope, .ref a_m_greatest, .ref a_m_least, .ref a_m_howMany, .ref a_m_most, .ref a_m_fewest, .ref a_m_pathsTo, .ref a_m_slackOf, .ref a_m_holdOf, .int f_m_listed, .ref a_m_listSlack, .ref a_m_listStart, .ref a_m_listEdge, .ref a_m_listSize, .ref a_m_listCell, .ref a_m_listInput, .ref a_m_rank, .ref a_m_good, .ref a_m_goCell, .ref a_m_goInput, .ref a_m_goEdge, .ref a_m_goMask, .int f_m_target, .int f_m_shown, .ref a_m_shownCell, .ref a_m_shownInput, .ref a_m_shownEdge, .ref a_m_shownLate, .int f_m_shownSlack, .int f_m_shownHold])), (a_m_taken, aI E 200 g_m_taken), (a_m_open, aI E 50 g_m_open)]) [0, 1, 2] (by decide) rfl) hS rfl dX10_isOpenTarget_32 (Nat.le_of_ble_eq_true rfl) (Nat.le_of_ble_eq_true rfl) ⟨(by decide), rfl⟩
theorem dX10_worstOf_0 : decode cX10_worstOf 0 = .ok (.bipush (-5), 2) := by decide +kernel
theorem dX10_worstOf_2 : decode cX10_worstOf 2 = .ok (.istore_n 2, 1) := by decide +kernel
theorem dX10_worstOf_3 : decode cX10_worstOf 3 = .ok (.aload_n 0, 1) := by decide +kernel
theorem dX10_worstOf_4 : decode cX10_worstOf 4 = .ok (.getfield 7, 3) := by decide +kernel
theorem dX10_worstOf_7 : decode cX10_worstOf 7 = .ok (.iconst 1, 1) := by decide +kernel
theorem dX10_worstOf_8 : decode cX10_worstOf 8 = .ok (.isub, 1) := by decide +kernel
theorem dX10_worstOf_9 : decode cX10_worstOf 9 = .ok (.istore_n 3, 1) := by decide +kernel
theorem dX10_worstOf_10 : decode cX10_worstOf 10 = .ok (.iload_n 3, 1) := by decide +kernel
theorem dX10_worstOf_11 : decode cX10_worstOf 11 = .ok (.ifCond .lt 74, 3) := by decide +kernel
theorem dX10_worstOf_85 : decode cX10_worstOf 85 = .ok (.iload_n 2, 1) := by decide +kernel
theorem dX10_worstOf_86 : decode cX10_worstOf 86 = .ok (.ireturn, 1) := by decide +kernel
theorem dX10_worstOf_14 : decode cX10_worstOf 14 = .ok (.aload_n 0, 1) := by decide +kernel
theorem dX10_worstOf_15 : decode cX10_worstOf 15 = .ok (.getfield 150, 3) := by decide +kernel
theorem dX10_worstOf_18 : decode cX10_worstOf 18 = .ok (.iload_n 3, 1) := by decide +kernel
theorem dX10_worstOf_19 : decode cX10_worstOf 19 = .ok (.iaload, 1) := by decide +kernel
theorem dX10_worstOf_20 : decode cX10_worstOf 20 = .ok (.ifCond .ne 6, 3) := by decide +kernel
theorem dX10_worstOf_26 : decode cX10_worstOf 26 = .ok (.iload_n 1, 1) := by decide +kernel
theorem dX10_worstOf_27 : decode cX10_worstOf 27 = .ok (.ifCond .eq 12, 3) := by decide +kernel
theorem dX10_worstOf_39 : decode cX10_worstOf 39 = .ok (.aload_n 0, 1) := by decide +kernel
theorem dX10_worstOf_40 : decode cX10_worstOf 40 = .ok (.getfield 153, 3) := by decide +kernel
theorem dX10_worstOf_43 : decode cX10_worstOf 43 = .ok (.iload_n 3, 1) := by decide +kernel
theorem dX10_worstOf_44 : decode cX10_worstOf 44 = .ok (.iaload, 1) := by decide +kernel
theorem dX10_worstOf_45 : decode cX10_worstOf 45 = .ok (.istore 4, 2) := by decide +kernel
theorem dX10_worstOf_47 : decode cX10_worstOf 47 = .ok (.iload_n 2, 1) := by decide +kernel
theorem dX10_worstOf_48 : decode cX10_worstOf 48 = .ok (.bipush (-5), 2) := by decide +kernel
theorem dX10_worstOf_50 : decode cX10_worstOf 50 = .ok (.if_icmp .eq 27, 3) := by decide +kernel
theorem dX10_worstOf_77 : decode cX10_worstOf 77 = .ok (.iload_n 3, 1) := by decide +kernel
theorem dX10_worstOf_78 : decode cX10_worstOf 78 = .ok (.istore_n 2, 1) := by decide +kernel
theorem dX10_worstOf_79 : decode cX10_worstOf 79 = .ok (.iinc 3 (-1), 3) := by decide +kernel
theorem dX10_worstOf_82 : decode cX10_worstOf 82 = .ok (.goto (-72), 3) := by decide +kernel
theorem dX10_worstOf_53 : decode cX10_worstOf 53 = .ok (.iload 4, 2) := by decide +kernel
theorem dX10_worstOf_55 : decode cX10_worstOf 55 = .ok (.iload_n 1, 1) := by decide +kernel
theorem dX10_worstOf_56 : decode cX10_worstOf 56 = .ok (.ifCond .eq 12, 3) := by decide +kernel
theorem dX10_worstOf_68 : decode cX10_worstOf 68 = .ok (.aload_n 0, 1) := by decide +kernel
theorem dX10_worstOf_69 : decode cX10_worstOf 69 = .ok (.getfield 153, 3) := by decide +kernel
theorem dX10_worstOf_72 : decode cX10_worstOf 72 = .ok (.iload_n 2, 1) := by decide +kernel
theorem dX10_worstOf_73 : decode cX10_worstOf 73 = .ok (.iaload, 1) := by decide +kernel
theorem dX10_worstOf_74 : decode cX10_worstOf 74 = .ok (.if_icmp .gt 5, 3) := by decide +kernel
theorem dX10_worstOf_30 : decode cX10_worstOf 30 = .ok (.aload_n 0, 1) := by decide +kernel
theorem dX10_worstOf_31 : decode cX10_worstOf 31 = .ok (.getfield 156, 3) := by decide +kernel
theorem dX10_worstOf_34 : decode cX10_worstOf 34 = .ok (.iload_n 3, 1) := by decide +kernel
theorem dX10_worstOf_35 : decode cX10_worstOf 35 = .ok (.iaload, 1) := by decide +kernel
theorem dX10_worstOf_36 : decode cX10_worstOf 36 = .ok (.goto 9, 3) := by decide +kernel
theorem dX10_worstOf_59 : decode cX10_worstOf 59 = .ok (.aload_n 0, 1) := by decide +kernel
theorem dX10_worstOf_60 : decode cX10_worstOf 60 = .ok (.getfield 156, 3) := by decide +kernel
theorem dX10_worstOf_63 : decode cX10_worstOf 63 = .ok (.iload_n 2, 1) := by decide +kernel
theorem dX10_worstOf_64 : decode cX10_worstOf 64 = .ok (.iaload, 1) := by decide +kernel
theorem dX10_worstOf_65 : decode cX10_worstOf 65 = .ok (.goto 9, 3) := by decide +kernel
theorem dX10_worstOf_23 : decode cX10_worstOf 23 = .ok (.goto 56, 3) := by decide +kernel
def wo_m_worstOf : List Cond := [.code yX10_worstOf cX10_worstOf 5 (some .int), .fieldLink RX10 7 "TimingHouseModel" "cells" "I", .fieldLink RX10 150 "TimingHouseModel" "pathsTo" "[I", .fieldLink RX10 153 "TimingHouseModel" "slackOf" "[I", .fieldLink RX10 156 "TimingHouseModel" "holdOf" "[I"]
def wr_m_worstOf : List Cond := (wsX100 ++ ([]))
def w_m_worstOf : List Cond := wo_m_worstOf ++ wr_m_worstOf
theorem wg_m_worstOf : GW w_m_worstOf := GW_app (GW_of (by decide +kernel)) (GW_app (GW_of (by decide +kernel)) (GW_nil))
theorem i_m_worstOf_X10 : ∀ w ∈ wsX100, w ∈ w_m_worstOf := fun _ h => List.mem_append_right _ (List.mem_append_left _ h)
set_option maxHeartbeats 8000000 in
set_option maxRecDepth 100000 in
theorem m_worstOf (l : Launch) (E : gE) (o_m a_m_kind a_m_inputs a_m_tableOf a_m_size a_m_extra a_m_taken a_m_portEarly a_m_portLate a_m_portSlope a_m_nodeOf a_m_setup a_m_hold a_m_seen a_m_numbers a_m_rowSize a_m_fall a_m_parent a_m_nodeEarly a_m_nodeLate a_m_periods a_m_from a_m_through a_m_toward a_m_order a_m_done a_m_reached a_m_open a_m_lateDelay a_m_earlyDelay a_m_lateSlope a_m_earlySlope a_m_greatest a_m_least a_m_howMany a_m_most a_m_fewest a_m_pathsTo a_m_slackOf a_m_holdOf a_m_listSlack a_m_listStart a_m_listEdge a_m_listSize a_m_listCell a_m_listInput a_m_rank a_m_good a_m_goCell a_m_goInput a_m_goEdge a_m_goMask a_m_shownCell a_m_shownInput a_m_shownEdge a_m_shownLate : Nat) (f_m_code f_m_cells f_m_late f_m_early f_m_period f_m_nodes f_m_exceptions f_m_fails f_m_ordered f_m_listed f_m_target f_m_shown f_m_shownSlack f_m_shownHold p1 : Int32) (g_m_pathsTo : Nat → Int32) (g_m_slackOf : Nat → Int32) (g_m_holdOf : Nat → Int32) (r_f_m_cells : RG f_m_cells 0 50) (r_f_m_late : RG f_m_late 0 500) (r_f_m_early : RG f_m_early 0 500) (r_f_m_period : RG f_m_period 1 1000000) (r_f_m_nodes : RG f_m_nodes 0 20) (r_f_m_exceptions : RG f_m_exceptions 0 4) (r_f_m_ordered : RG f_m_ordered 0 50) (r_f_m_listed : RG f_m_listed 0 1000) (r_f_m_target : RG f_m_target 0 49) (r_f_m_shown : RG f_m_shown 0 52) (r_p1 : RG p1 0 1) : CtI l E yX10_worstOf w_m_worstOf ({ frames := 0, cells := 0, slots := 0, locals := 0 }) [(o_m, .inr (10, [.int f_m_code, .int f_m_cells, .ref a_m_kind, .ref a_m_inputs, .ref a_m_tableOf, .ref a_m_size, .ref a_m_extra, .ref a_m_taken, .ref a_m_portEarly, .ref a_m_portLate, .ref a_m_portSlope, .ref a_m_nodeOf, .ref a_m_setup, .ref a_m_hold, .ref a_m_seen, .ref a_m_numbers, .ref a_m_rowSize, .ref a_m_fall, .int f_m_late, .int f_m_early, .int f_m_period, .int f_m_nodes, .ref a_m_parent, .ref a_m_nodeEarly, .ref a_m_nodeLate, .int f_m_exceptions, .ref a_m_periods, .ref a_m_from, .ref a_m_through, .ref a_m_toward, .int f_m_fails, .ref a_m_order, .int f_m_ordered, .ref a_m_done, .ref a_m_reached, .ref a_m_open, .ref a_m_lateDelay, .ref a_m_earlyDelay, .ref a_m_lateSlope, .ref a_m_earlySlope, .ref a_m_greatest, .ref a_m_least, .ref a_m_howMany, .ref a_m_most, .ref a_m_fewest, .ref a_m_pathsTo, .ref a_m_slackOf, .ref a_m_holdOf, .int f_m_listed, .ref a_m_listSlack, .ref a_m_listStart, .ref a_m_listEdge, .ref a_m_listSize, .ref a_m_listCell, .ref a_m_listInput, .ref a_m_rank, .ref a_m_good, .ref a_m_goCell, .ref a_m_goInput, .ref a_m_goEdge, .ref a_m_goMask, .int f_m_target, .int f_m_shown, .ref a_m_shownCell, .ref a_m_shownInput, .ref a_m_shownEdge, .ref a_m_shownLate, .int f_m_shownSlack, .int f_m_shownHold])), (a_m_pathsTo, aI E 50 g_m_pathsTo), (a_m_slackOf, aI E 50 g_m_slackOf), (a_m_holdOf, aI E 50 g_m_holdOf)] [.ref o_m, .int p1] (fun r w => ((-5) ≤ r.toInt ∧ r.toInt ≤ 49) ∧ w = [(o_m, .inr (10, [.int f_m_code, .int f_m_cells, .ref a_m_kind, .ref a_m_inputs, .ref a_m_tableOf, .ref a_m_size, .ref a_m_extra, .ref a_m_taken, .ref a_m_portEarly, .ref a_m_portLate, .ref a_m_portSlope, .ref a_m_nodeOf, .ref a_m_setup, .ref a_m_hold, .ref a_m_seen, .ref a_m_numbers, .ref a_m_rowSize, .ref a_m_fall, .int f_m_late, .int f_m_early, .int f_m_period, .int f_m_nodes, .ref a_m_parent, .ref a_m_nodeEarly, .ref a_m_nodeLate, .int f_m_exceptions, .ref a_m_periods, .ref a_m_from, .ref a_m_through, .ref a_m_toward, .int f_m_fails, .ref a_m_order, .int f_m_ordered, .ref a_m_done, .ref a_m_reached, .ref a_m_open, .ref a_m_lateDelay, .ref a_m_earlyDelay, .ref a_m_lateSlope, .ref a_m_earlySlope, .ref a_m_greatest, .ref a_m_least, .ref a_m_howMany, .ref a_m_most, .ref a_m_fewest, .ref a_m_pathsTo, .ref a_m_slackOf, .ref a_m_holdOf, .int f_m_listed, .ref a_m_listSlack, .ref a_m_listStart, .ref a_m_listEdge, .ref a_m_listSize, .ref a_m_listCell, .ref a_m_listInput, .ref a_m_rank, .ref a_m_good, .ref a_m_goCell, .ref a_m_goInput, .ref a_m_goEdge, .ref a_m_goMask, .int f_m_target, .int f_m_shown, .ref a_m_shownCell, .ref a_m_shownInput, .ref a_m_shownEdge, .ref a_m_shownLate, .int f_m_shownSlack, .int f_m_shownHold])), (a_m_pathsTo, aI E 50 g_m_pathsTo), (a_m_slackOf, aI E 50 g_m_slackOf), (a_m_holdOf, aI E 50 g_m_holdOf)]) := by
  refine CtI.of (cc := cX10_worstOf) (maxL := 5) (rt := (some .int)) (by decide) rfl (Nat.le_of_ble_eq_true rfl) ?_
  intro p e s m below meth c A B ls hl
  obtain ⟨hx, hb, hml, hr, hlk, hin, hts, hown, hK, hN, hZ, hA, hP, hD, hS⟩ := B
  replace hown : s.vm.findClass RX10 = some m.cls := hown
  have hto : ∀ w ∈ wo_m_worstOf, w.before _ s = true := fun w h => hts w (List.mem_append_left _ h)
  replace hl : lv_has ls 5 [(0, .ref o_m), (1, .int p1)] := hl
  obtain ⟨H, hHe⟩ : ∃ H, H = s.heap := ⟨_, rfl⟩
  obtain ⟨locs, hle⟩ : ∃ l : List Loc, l = [] := ⟨_, rfl⟩
  replace hS : va_S A s.heap H locs := by rw [hHe, hle]; exact hS
  replace hP : va_P E.1 vwCl [(o_m, .inr (10, [.int f_m_code, .int f_m_cells, .ref a_m_kind, .ref a_m_inputs, .ref a_m_tableOf, .ref a_m_size, .ref a_m_extra, .ref a_m_taken, .ref a_m_portEarly, .ref a_m_portLate, .ref a_m_portSlope, .ref a_m_nodeOf, .ref a_m_setup, .ref a_m_hold, .ref a_m_seen, .ref a_m_numbers, .ref a_m_rowSize, .ref a_m_fall, .int f_m_late, .int f_m_early, .int f_m_period, .int f_m_nodes, .ref a_m_parent, .ref a_m_nodeEarly, .ref a_m_nodeLate, .int f_m_exceptions, .ref a_m_periods, .ref a_m_from, .ref a_m_through, .ref a_m_toward, .int f_m_fails, .ref a_m_order, .int f_m_ordered, .ref a_m_done, .ref a_m_reached, .ref a_m_open, .ref a_m_lateDelay, .ref a_m_earlyDelay, .ref a_m_lateSlope, .ref a_m_earlySlope, .ref a_m_greatest, .ref a_m_least, .ref a_m_howMany, .ref a_m_most, .ref a_m_fewest, .ref a_m_pathsTo, .ref a_m_slackOf, .ref a_m_holdOf, .int f_m_listed, .ref a_m_listSlack, .ref a_m_listStart, .ref a_m_listEdge, .ref a_m_listSize, .ref a_m_listCell, .ref a_m_listInput, .ref a_m_rank, .ref a_m_good, .ref a_m_goCell, .ref a_m_goInput, .ref a_m_goEdge, .ref a_m_goMask, .int f_m_target, .int f_m_shown, .ref a_m_shownCell, .ref a_m_shownInput, .ref a_m_shownEdge, .ref a_m_shownLate, .int f_m_shownSlack, .int f_m_shownHold])), (a_m_pathsTo, aI E 50 g_m_pathsTo), (a_m_slackOf, aI E 50 g_m_slackOf), (a_m_holdOf, aI E 50 g_m_holdOf)] H := by rw [hHe]; exact hP
  refine W_hl hHe hle ?_
  clear hHe hle
  refine lv_bipush (v := (-5)) hx hb dX10_worstOf_0 (by decide) ?_
  refine lv_istore_n (lv' := [(2, .int (-5)), (0, .ref o_m), (1, .int p1)]) hx hb dX10_worstOf_2 rfl hl (by decide) rfl (fun ls hl => ?_)
  refine lv_aload_n hx hb dX10_worstOf_3 rfl (lv_at hl 1 rfl) ?_
  refine va_get (D := E.1) (ci := 10) (v := .int f_m_cells) (own := RX10) (C := RX10) (T := TX10) (N := 69) hx hb hts i_m_worstOf_X10 hown hK hP 0 rfl rfl 1 (by decide) (hto (.fieldLink RX10 7 "TimingHouseModel" "cells" "I") (by decide +kernel)) (fun _ h9 => h9) rfl dX10_worstOf_4 ?_
  refine lv_iconst (v := 1) hx hb dX10_worstOf_7 (by decide) ?_
  have b_f_m_cells := r_f_m_cells.out
  refine lv_isub hx hb dX10_worstOf_8 ?_
  refine lv_topi (fun x_1 ex_1 => ?_)
  have tx_1 : x_1.toInt = f_m_cells.toInt - 1 := i3_subc rfl rfl ex_1 (by omega)
  refine lv_istore_n (lv' := [(3, .int x_1), (2, .int (-5)), (0, .ref o_m), (1, .int p1)]) hx hb dX10_worstOf_9 rfl hl (by decide) rfl (fun ls hl => ?_)
  obtain ⟨y_2, hy_2⟩ : ∃ y : Int32, y = x_1 := ⟨_, rfl⟩
  have b_y_2 : (-1) ≤ y_2.toInt ∧ y_2.toInt ≤ 49 := by rw [hy_2]; omega
  obtain ⟨y_3, hy_3⟩ : ∃ y : Int32, y = (-5) := ⟨_, rfl⟩
  have b_y_3 : (-5) ≤ y_3.toInt ∧ y_3.toInt ≤ 49 := by rw [hy_3]; decide
  have j_y_3 : (y_3.toInt = -5 ∨ 0 ≤ y_3.toInt) := by rw [hy_3]; decide
  replace hl : lv_has ls 5 [(3, .int y_2), (2, .int y_3), (0, .ref o_m), (1, .int p1)] := by rw [hy_2, hy_3]; exact hl
  clear hy_2 hy_3
  obtain ⟨d_4, hd_4⟩ : ∃ d : Nat, y_2.toInt - (-1) < (d : Int) := ⟨(y_2.toInt - (-1) + 1).toNat, by omega⟩
  induction d_4 generalizing y_2 y_3 H locs ls with
  | zero => exfalso; omega
  | succ d_4 ih_d_4 =>
    refine lv_iload_n hx hb dX10_worstOf_10 rfl (lv_at hl 0 rfl) ?_
    refine lv_if_lt (tgt := 85) hx hb dX10_worstOf_11 (by decide) (fun c_5 => ?_) (fun c_5 => ?_)
    · have e_5 : y_2.toInt < 0 := i3_lt c_5
      refine lv_iload_n hx hb dX10_worstOf_85 rfl (lv_at hl 1 rfl) ?_
      exact ret_i hx hb hr hlk (hP.sub (ws' := [(o_m, .inr (10, [.int f_m_code, .int f_m_cells, .ref a_m_kind, .ref a_m_inputs, .ref a_m_tableOf, .ref a_m_size, .ref a_m_extra, .ref a_m_taken, .ref a_m_portEarly, .ref a_m_portLate, .ref a_m_portSlope, .ref a_m_nodeOf, .ref a_m_setup, .ref a_m_hold, .ref a_m_seen, .ref a_m_numbers, .ref a_m_rowSize, .ref a_m_fall, .int f_m_late, .int f_m_early, .int f_m_period, .int f_m_nodes, .ref a_m_parent, .ref a_m_nodeEarly, .ref a_m_nodeLate, .int f_m_exceptions, .ref a_m_periods, .ref a_m_from, .ref a_m_through, .ref a_m_toward, .int f_m_fails, .ref a_m_order, .int f_m_ordered, .ref a_m_done, .ref a_m_reached, .ref a_m_open, .ref a_m_lateDelay, .ref a_m_earlyDelay, .ref a_m_lateSlope, .ref a_m_earlySlope, .ref a_m_greatest, .ref a_m_least, .ref a_m_howMany, .ref a_m_most, .ref a_m_fewest, .ref a_m_pathsTo, .ref a_m_slackOf, .ref a_m_holdOf, .int f_m_listed, .ref a_m_listSlack, .ref a_m_listStart, .ref a_m_listEdge, .ref a_m_listSize, .ref a_m_listCell, .ref a_m_listInput, .ref a_m_rank, .ref a_m_good, .ref a_m_goCell, .ref a_m_goInput, .ref a_m_goEdge, .ref a_m_goMask, .int f_m_target, .int f_m_shown, .ref a_m_shownCell, .ref a_m_shownInput, .ref a_m_shownEdge, .ref a_m_shownLate, .int f_m_shownSlack, .int f_m_shownHold])), (a_m_pathsTo, aI E 50 g_m_pathsTo), (a_m_slackOf, aI E 50 g_m_slackOf), (a_m_holdOf, aI E 50 g_m_holdOf)]) [0, 1, 2, 3] rfl) (hD.sub (ws' := [(o_m, .inr (10, [.int f_m_code, .int f_m_cells, .ref a_m_kind, .ref a_m_inputs, .ref a_m_tableOf, .ref a_m_size, .ref a_m_extra, .ref a_m_taken, .ref a_m_portEarly, .ref a_m_portLate, .ref a_m_portSlope, .ref a_m_nodeOf, .ref a_m_setup, .ref a_m_hold, .ref a_m_seen, .ref a_m_numbers, .ref a_m_rowSize, .ref a_m_fall, .int f_m_late, .int f_m_early, .int f_m_period, .int f_m_nodes, .ref a_m_parent, .ref a_m_nodeEarly, .ref a_m_nodeLate, .int f_m_exceptions, .ref a_m_periods, .ref a_m_from, .ref a_m_through, .ref a_m_toward, .int f_m_fails, .ref a_m_order, .int f_m_ordered, .ref a_m_done, .ref a_m_reached, .ref a_m_open, .ref a_m_lateDelay, .ref a_m_earlyDelay, .ref a_m_lateSlope, .ref a_m_earlySlope, .ref a_m_greatest, .ref a_m_least, .ref a_m_howMany, .ref a_m_most, .ref a_m_fewest, .ref a_m_pathsTo, .ref a_m_slackOf, .ref a_m_holdOf, .int f_m_listed, .ref a_m_listSlack, .ref a_m_listStart, .ref a_m_listEdge, .ref a_m_listSize, .ref a_m_listCell, .ref a_m_listInput, .ref a_m_rank, .ref a_m_good, .ref a_m_goCell, .ref a_m_goInput, .ref a_m_goEdge, .ref a_m_goMask, .int f_m_target, .int f_m_shown, .ref a_m_shownCell, .ref a_m_shownInput, .ref a_m_shownEdge, .ref a_m_shownLate, .int f_m_shownSlack, .int f_m_shownHold])), (a_m_pathsTo, aI E 50 g_m_pathsTo), (a_m_slackOf, aI E 50 g_m_slackOf), (a_m_holdOf, aI E 50 g_m_holdOf)]) [0, 1, 2, 3] (by decide) rfl) hS rfl dX10_worstOf_86 (Nat.le_of_ble_eq_true rfl) (Nat.le_of_ble_eq_true rfl) ⟨(by omega), rfl⟩
    · have e_5 : 0 ≤ y_2.toInt := i3_nlt c_5
      refine lv_aload_n hx hb dX10_worstOf_14 rfl (lv_at hl 2 rfl) ?_
      refine va_get (D := E.1) (ci := 10) (v := .ref a_m_pathsTo) (own := RX10) (C := RX10) (T := TX10) (N := 69) hx hb hts i_m_worstOf_X10 hown hK hP 0 rfl rfl 45 (by decide) (hto (.fieldLink RX10 150 "TimingHouseModel" "pathsTo" "[I") (by decide +kernel)) (fun _ h9 => h9) rfl dX10_worstOf_15 ?_
      refine lv_iload_n hx hb dX10_worstOf_18 rfl (lv_at hl 0 rfl) ?_
      refine ld_i hx hb hK hP 1 rfl (by omega) dX10_worstOf_19 (fun x_6 ex_6 => ?_)
      refine lv_if_ne (tgt := 26) hx hb dX10_worstOf_20 (by decide) (fun c_7 => ?_) (fun c_7 => ?_)
      · have e_7 : x_6.toInt ≠ 0 := i3_ne c_7
        refine lv_iload_n hx hb dX10_worstOf_26 rfl (lv_at hl 3 rfl) ?_
        have b_p1 := r_p1.out
        refine lv_if_eq (tgt := 39) hx hb dX10_worstOf_27 (by decide) (fun c_8 => ?_) (fun c_8 => ?_)
        · have e_8 : p1.toInt = 0 := i3_eq c_8
          refine lv_aload_n hx hb dX10_worstOf_39 rfl (lv_at hl 2 rfl) ?_
          refine va_get (D := E.1) (ci := 10) (v := .ref a_m_slackOf) (own := RX10) (C := RX10) (T := TX10) (N := 69) hx hb hts i_m_worstOf_X10 hown hK hP 0 rfl rfl 46 (by decide) (hto (.fieldLink RX10 153 "TimingHouseModel" "slackOf" "[I") (by decide +kernel)) (fun _ h9 => h9) rfl dX10_worstOf_40 ?_
          refine lv_iload_n hx hb dX10_worstOf_43 rfl (lv_at hl 0 rfl) ?_
          refine ld_i hx hb hK hP 2 rfl (by omega) dX10_worstOf_44 (fun x_9 ex_9 => ?_)
          refine lv_istore (lv' := [(4, .int x_9), (3, .int y_2), (2, .int y_3), (0, .ref o_m), (1, .int p1)]) hx hb dX10_worstOf_45 hl (by decide) rfl (fun ls hl => ?_)
          refine lv_iload_n hx hb dX10_worstOf_47 rfl (lv_at hl 2 rfl) ?_
          refine lv_bipush (v := (-5)) hx hb dX10_worstOf_48 (by decide) ?_
          refine lv_icmp_eq (tgt := 77) hx hb dX10_worstOf_50 (by decide) (fun c_10 => ?_) (fun c_10 => ?_)
          · have e_10 : y_3.toInt = (-5) := i3_eq c_10
            refine lv_iload_n hx hb dX10_worstOf_77 rfl (lv_at hl 1 rfl) ?_
            refine lv_istore_n (lv' := [(2, .int y_2), (4, .int x_9), (3, .int y_2), (0, .ref o_m), (1, .int p1)]) hx hb dX10_worstOf_78 rfl hl (by decide) rfl (fun ls hl => ?_)
            obtain ⟨x_11, ex_11⟩ : ∃ y : Int32, y = y_2 + (-1) := ⟨_, rfl⟩
            have tx_11 : x_11.toInt = y_2.toInt + (-1) := i3_addc rfl rfl ex_11 (by omega)
            refine lv_iinc (v := x_11) (lv' := [(3, .int x_11), (2, .int y_2), (4, .int x_9), (0, .ref o_m), (1, .int p1)]) hx hb dX10_worstOf_79 hl (k := 2) rfl (by rw [ex_11]; rfl) (by decide) rfl (fun ls hl => ?_)
            refine lv_goto (tgt := 10) hx hb dX10_worstOf_82 (by decide) ?_
            replace hl : lv_has ls 5 [(3, .int x_11), (2, .int y_2), (0, .ref o_m), (1, .int p1)] := lv_sub hl [0, 1, 3, 4] rfl
            apply ih_d_4 (y_2 := x_11) (y_3 := y_2) (H := H) (locs := locs) (ls := ls) <;> first | assumption | omega | decide
          · have e_10 : y_3.toInt ≠ (-5) := i3_ne c_10
            refine lv_iload hx hb dX10_worstOf_53 (lv_at hl 0 rfl) ?_
            refine lv_iload_n hx hb dX10_worstOf_55 rfl (lv_at hl 4 rfl) ?_
            refine lv_if_eq (tgt := 68) hx hb dX10_worstOf_56 (by decide) (fun c_12 => ?_) (fun c_12 => ?_)
            · have e_12 : p1.toInt = 0 := i3_eq c_12
              refine lv_aload_n hx hb dX10_worstOf_68 rfl (lv_at hl 3 rfl) ?_
              refine va_get (D := E.1) (ci := 10) (v := .ref a_m_slackOf) (own := RX10) (C := RX10) (T := TX10) (N := 69) hx hb hts i_m_worstOf_X10 hown hK hP 0 rfl rfl 46 (by decide) (hto (.fieldLink RX10 153 "TimingHouseModel" "slackOf" "[I") (by decide +kernel)) (fun _ h9 => h9) rfl dX10_worstOf_69 ?_
              refine lv_iload_n hx hb dX10_worstOf_72 rfl (lv_at hl 2 rfl) ?_
              refine ld_i hx hb hK hP 2 rfl (by omega) dX10_worstOf_73 (fun x_13 ex_13 => ?_)
              refine lv_icmp_gt (tgt := 79) hx hb dX10_worstOf_74 (by decide) (fun c_14 => ?_) (fun c_14 => ?_)
              · have e_14 : x_13.toInt < x_9.toInt := i3_lt c_14
                obtain ⟨x_15, ex_15⟩ : ∃ y : Int32, y = y_2 + (-1) := ⟨_, rfl⟩
                have tx_15 : x_15.toInt = y_2.toInt + (-1) := i3_addc rfl rfl ex_15 (by omega)
                refine lv_iinc (v := x_15) (lv' := [(3, .int x_15), (4, .int x_9), (2, .int y_3), (0, .ref o_m), (1, .int p1)]) hx hb dX10_worstOf_79 hl (k := 1) rfl (by rw [ex_15]; rfl) (by decide) rfl (fun ls hl => ?_)
                refine lv_goto (tgt := 10) hx hb dX10_worstOf_82 (by decide) ?_
                replace hl : lv_has ls 5 [(3, .int x_15), (2, .int y_3), (0, .ref o_m), (1, .int p1)] := lv_sub hl [0, 2, 3, 4] rfl
                apply ih_d_4 (y_2 := x_15) (y_3 := y_3) (H := H) (locs := locs) (ls := ls) <;> first | assumption | omega | decide
              · have e_14 : x_9.toInt ≤ x_13.toInt := i3_nlt c_14
                refine lv_iload_n hx hb dX10_worstOf_77 rfl (lv_at hl 1 rfl) ?_
                refine lv_istore_n (lv' := [(2, .int y_2), (4, .int x_9), (3, .int y_2), (0, .ref o_m), (1, .int p1)]) hx hb dX10_worstOf_78 rfl hl (by decide) rfl (fun ls hl => ?_)
                obtain ⟨x_16, ex_16⟩ : ∃ y : Int32, y = y_2 + (-1) := ⟨_, rfl⟩
                have tx_16 : x_16.toInt = y_2.toInt + (-1) := i3_addc rfl rfl ex_16 (by omega)
                refine lv_iinc (v := x_16) (lv' := [(3, .int x_16), (2, .int y_2), (4, .int x_9), (0, .ref o_m), (1, .int p1)]) hx hb dX10_worstOf_79 hl (k := 2) rfl (by rw [ex_16]; rfl) (by decide) rfl (fun ls hl => ?_)
                refine lv_goto (tgt := 10) hx hb dX10_worstOf_82 (by decide) ?_
                replace hl : lv_has ls 5 [(3, .int x_16), (2, .int y_2), (0, .ref o_m), (1, .int p1)] := lv_sub hl [0, 1, 3, 4] rfl
                apply ih_d_4 (y_2 := x_16) (y_3 := y_2) (H := H) (locs := locs) (ls := ls) <;> first | assumption | omega | decide
            · have e_12 : p1.toInt ≠ 0 := i3_ne c_12
              exfalso; omega
        · have e_8 : p1.toInt ≠ 0 := i3_ne c_8
          refine lv_aload_n hx hb dX10_worstOf_30 rfl (lv_at hl 2 rfl) ?_
          refine va_get (D := E.1) (ci := 10) (v := .ref a_m_holdOf) (own := RX10) (C := RX10) (T := TX10) (N := 69) hx hb hts i_m_worstOf_X10 hown hK hP 0 rfl rfl 47 (by decide) (hto (.fieldLink RX10 156 "TimingHouseModel" "holdOf" "[I") (by decide +kernel)) (fun _ h9 => h9) rfl dX10_worstOf_31 ?_
          refine lv_iload_n hx hb dX10_worstOf_34 rfl (lv_at hl 0 rfl) ?_
          refine ld_i hx hb hK hP 3 rfl (by omega) dX10_worstOf_35 (fun x_17 ex_17 => ?_)
          refine lv_goto (tgt := 45) hx hb dX10_worstOf_36 (by decide) ?_
          refine lv_istore (lv' := [(4, .int x_17), (3, .int y_2), (2, .int y_3), (0, .ref o_m), (1, .int p1)]) hx hb dX10_worstOf_45 hl (by decide) rfl (fun ls hl => ?_)
          refine lv_iload_n hx hb dX10_worstOf_47 rfl (lv_at hl 2 rfl) ?_
          refine lv_bipush (v := (-5)) hx hb dX10_worstOf_48 (by decide) ?_
          refine lv_icmp_eq (tgt := 77) hx hb dX10_worstOf_50 (by decide) (fun c_18 => ?_) (fun c_18 => ?_)
          · have e_18 : y_3.toInt = (-5) := i3_eq c_18
            refine lv_iload_n hx hb dX10_worstOf_77 rfl (lv_at hl 1 rfl) ?_
            refine lv_istore_n (lv' := [(2, .int y_2), (4, .int x_17), (3, .int y_2), (0, .ref o_m), (1, .int p1)]) hx hb dX10_worstOf_78 rfl hl (by decide) rfl (fun ls hl => ?_)
            obtain ⟨x_19, ex_19⟩ : ∃ y : Int32, y = y_2 + (-1) := ⟨_, rfl⟩
            have tx_19 : x_19.toInt = y_2.toInt + (-1) := i3_addc rfl rfl ex_19 (by omega)
            refine lv_iinc (v := x_19) (lv' := [(3, .int x_19), (2, .int y_2), (4, .int x_17), (0, .ref o_m), (1, .int p1)]) hx hb dX10_worstOf_79 hl (k := 2) rfl (by rw [ex_19]; rfl) (by decide) rfl (fun ls hl => ?_)
            refine lv_goto (tgt := 10) hx hb dX10_worstOf_82 (by decide) ?_
            replace hl : lv_has ls 5 [(3, .int x_19), (2, .int y_2), (0, .ref o_m), (1, .int p1)] := lv_sub hl [0, 1, 3, 4] rfl
            apply ih_d_4 (y_2 := x_19) (y_3 := y_2) (H := H) (locs := locs) (ls := ls) <;> first | assumption | omega | decide
          · have e_18 : y_3.toInt ≠ (-5) := i3_ne c_18
            refine lv_iload hx hb dX10_worstOf_53 (lv_at hl 0 rfl) ?_
            refine lv_iload_n hx hb dX10_worstOf_55 rfl (lv_at hl 4 rfl) ?_
            refine lv_if_eq (tgt := 68) hx hb dX10_worstOf_56 (by decide) (fun c_20 => ?_) (fun c_20 => ?_)
            · have e_20 : p1.toInt = 0 := i3_eq c_20
              exfalso; omega
            · have e_20 : p1.toInt ≠ 0 := i3_ne c_20
              refine lv_aload_n hx hb dX10_worstOf_59 rfl (lv_at hl 3 rfl) ?_
              refine va_get (D := E.1) (ci := 10) (v := .ref a_m_holdOf) (own := RX10) (C := RX10) (T := TX10) (N := 69) hx hb hts i_m_worstOf_X10 hown hK hP 0 rfl rfl 47 (by decide) (hto (.fieldLink RX10 156 "TimingHouseModel" "holdOf" "[I") (by decide +kernel)) (fun _ h9 => h9) rfl dX10_worstOf_60 ?_
              refine lv_iload_n hx hb dX10_worstOf_63 rfl (lv_at hl 2 rfl) ?_
              refine ld_i hx hb hK hP 3 rfl (by omega) dX10_worstOf_64 (fun x_21 ex_21 => ?_)
              refine lv_goto (tgt := 74) hx hb dX10_worstOf_65 (by decide) ?_
              refine lv_icmp_gt (tgt := 79) hx hb dX10_worstOf_74 (by decide) (fun c_22 => ?_) (fun c_22 => ?_)
              · have e_22 : x_21.toInt < x_17.toInt := i3_lt c_22
                obtain ⟨x_23, ex_23⟩ : ∃ y : Int32, y = y_2 + (-1) := ⟨_, rfl⟩
                have tx_23 : x_23.toInt = y_2.toInt + (-1) := i3_addc rfl rfl ex_23 (by omega)
                refine lv_iinc (v := x_23) (lv' := [(3, .int x_23), (4, .int x_17), (2, .int y_3), (0, .ref o_m), (1, .int p1)]) hx hb dX10_worstOf_79 hl (k := 1) rfl (by rw [ex_23]; rfl) (by decide) rfl (fun ls hl => ?_)
                refine lv_goto (tgt := 10) hx hb dX10_worstOf_82 (by decide) ?_
                replace hl : lv_has ls 5 [(3, .int x_23), (2, .int y_3), (0, .ref o_m), (1, .int p1)] := lv_sub hl [0, 2, 3, 4] rfl
                apply ih_d_4 (y_2 := x_23) (y_3 := y_3) (H := H) (locs := locs) (ls := ls) <;> first | assumption | omega | decide
              · have e_22 : x_17.toInt ≤ x_21.toInt := i3_nlt c_22
                refine lv_iload_n hx hb dX10_worstOf_77 rfl (lv_at hl 1 rfl) ?_
                refine lv_istore_n (lv' := [(2, .int y_2), (4, .int x_17), (3, .int y_2), (0, .ref o_m), (1, .int p1)]) hx hb dX10_worstOf_78 rfl hl (by decide) rfl (fun ls hl => ?_)
                obtain ⟨x_24, ex_24⟩ : ∃ y : Int32, y = y_2 + (-1) := ⟨_, rfl⟩
                have tx_24 : x_24.toInt = y_2.toInt + (-1) := i3_addc rfl rfl ex_24 (by omega)
                refine lv_iinc (v := x_24) (lv' := [(3, .int x_24), (2, .int y_2), (4, .int x_17), (0, .ref o_m), (1, .int p1)]) hx hb dX10_worstOf_79 hl (k := 2) rfl (by rw [ex_24]; rfl) (by decide) rfl (fun ls hl => ?_)
                refine lv_goto (tgt := 10) hx hb dX10_worstOf_82 (by decide) ?_
                replace hl : lv_has ls 5 [(3, .int x_24), (2, .int y_2), (0, .ref o_m), (1, .int p1)] := lv_sub hl [0, 1, 3, 4] rfl
                apply ih_d_4 (y_2 := x_24) (y_3 := y_2) (H := H) (locs := locs) (ls := ls) <;> first | assumption | omega | decide
      · have e_7 : x_6.toInt = 0 := i3_eq c_7
        refine lv_goto (tgt := 79) hx hb dX10_worstOf_23 (by decide) ?_
        obtain ⟨x_25, ex_25⟩ : ∃ y : Int32, y = y_2 + (-1) := ⟨_, rfl⟩
        have tx_25 : x_25.toInt = y_2.toInt + (-1) := i3_addc rfl rfl ex_25 (by omega)
        refine lv_iinc (v := x_25) (lv' := [(3, .int x_25), (2, .int y_3), (0, .ref o_m), (1, .int p1)]) hx hb dX10_worstOf_79 hl (k := 0) rfl (by rw [ex_25]; rfl) (by decide) rfl (fun ls hl => ?_)
        refine lv_goto (tgt := 10) hx hb dX10_worstOf_82 (by decide) ?_
        apply ih_d_4 (y_2 := x_25) (y_3 := y_3) (H := H) (locs := locs) (ls := ls) <;> first | assumption | omega | decide
